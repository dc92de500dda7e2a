/-! decode rows -/
theorem d_Reader_depthAt_18 : decode prog_4_method_8_code 18 = .ok (.iaload, 1) := by decide +kernel
theorem d_Reader_depthAt_19 : decode prog_4_method_8_code 19 = .ok (.goto 4, 3) := by decide +kernel
theorem d_Reader_depthAt_22 : decode prog_4_method_8_code 22 = .ok (.iconst 0, 1) := by decide +kernel
theorem d_Reader_depthAt_23 : decode prog_4_method_8_code 23 = .ok (.ireturn, 1) := by decide +kernel
theorem d_Reader_setDepth_0 : decode prog_4_method_9_code 0 = .ok (.iload_n 1, 1) := by decide +kernel
theorem d_Reader_setDepth_1 : decode prog_4_method_9_code 1 = .ok (.ifCond .lt 19, 3) := by decide +kernel
theorem d_Reader_setDepth_4 : decode prog_4_method_9_code 4 = .ok (.iload_n 1, 1) := by decide +kernel
theorem d_Reader_setDepth_5 : decode prog_4_method_9_code 5 = .ok (.aload_n 0, 1) := by decide +kernel
theorem d_Reader_setDepth_6 : decode prog_4_method_9_code 6 = .ok (.getfield 9, 3) := by decide +kernel
theorem d_Reader_setDepth_9 : decode prog_4_method_9_code 9 = .ok (.arraylength, 1) := by decide +kernel
theorem d_Reader_setDepth_10 : decode prog_4_method_9_code 10 = .ok (.if_icmp .ge 10, 3) := by decide +kernel
theorem d_Reader_setDepth_13 : decode prog_4_method_9_code 13 = .ok (.aload_n 0, 1) := by decide +kernel
theorem d_Reader_setDepth_14 : decode prog_4_method_9_code 14 = .ok (.getfield 9, 3) := by decide +kernel
theorem d_Reader_setDepth_17 : decode prog_4_method_9_code 17 = .ok (.iload_n 1, 1) := by decide +kernel
theorem d_Reader_setDepth_18 : decode prog_4_method_9_code 18 = .ok (.iload_n 2, 1) := by decide +kernel
theorem d_Reader_setDepth_19 : decode prog_4_method_9_code 19 = .ok (.iastore, 1) := by decide +kernel
theorem d_Reader_setDepth_20 : decode prog_4_method_9_code 20 = .ok (.return_, 1) := by decide +kernel
theorem d_Reader_isClosed_0 : decode prog_4_method_10_code 0 = .ok (.aload_n 0, 1) := by decide +kernel
theorem d_Reader_isClosed_1 : decode prog_4_method_10_code 1 = .ok (.aload_n 1, 1) := by decide +kernel
theorem d_Reader_isClosed_2 : decode prog_4_method_10_code 2 = .ok (.invokevirtual 78, 3) := by decide +kernel
theorem d_Reader_isClosed_5 : decode prog_4_method_10_code 5 = .ok (.iconst 0, 1) := by decide +kernel
theorem d_Reader_isClosed_6 : decode prog_4_method_10_code 6 = .ok (.istore_n 2, 1) := by decide +kernel
theorem d_Reader_isClosed_7 : decode prog_4_method_10_code 7 = .ok (.iload_n 2, 1) := by decide +kernel
theorem d_Reader_isClosed_8 : decode prog_4_method_10_code 8 = .ok (.aload_n 1, 1) := by decide +kernel
theorem d_Reader_isClosed_9 : decode prog_4_method_10_code 9 = .ok (.invokevirtual 71, 3) := by decide +kernel
theorem d_Reader_isClosed_12 : decode prog_4_method_10_code 12 = .ok (.if_icmp .ge 32, 3) := by decide +kernel
theorem d_Reader_isClosed_15 : decode prog_4_method_10_code 15 = .ok (.aload_n 1, 1) := by decide +kernel
theorem d_Reader_isClosed_16 : decode prog_4_method_10_code 16 = .ok (.iload_n 2, 1) := by decide +kernel
theorem d_Reader_isClosed_17 : decode prog_4_method_10_code 17 = .ok (.invokevirtual 26, 3) := by decide +kernel
theorem d_Reader_isClosed_20 : decode prog_4_method_10_code 20 = .ok (.ifCond .ne 18, 3) := by decide +kernel
theorem d_Reader_isClosed_23 : decode prog_4_method_10_code 23 = .ok (.aload_n 1, 1) := by decide +kernel
theorem d_Reader_isClosed_24 : decode prog_4_method_10_code 24 = .ok (.iload_n 2, 1) := by decide +kernel
theorem d_Reader_isClosed_25 : decode prog_4_method_10_code 25 = .ok (.invokevirtual 46, 3) := by decide +kernel
theorem d_Reader_isClosed_28 : decode prog_4_method_10_code 28 = .ok (.aload_n 0, 1) := by decide +kernel
theorem d_Reader_isClosed_29 : decode prog_4_method_10_code 29 = .ok (.iload_n 2, 1) := by decide +kernel
theorem d_Reader_isClosed_30 : decode prog_4_method_10_code 30 = .ok (.invokevirtual 75, 3) := by decide +kernel
theorem d_Reader_isClosed_33 : decode prog_4_method_10_code 33 = .ok (.if_icmp .lt 5, 3) := by decide +kernel
theorem d_Reader_isClosed_36 : decode prog_4_method_10_code 36 = .ok (.iconst 0, 1) := by decide +kernel
theorem d_Reader_isClosed_37 : decode prog_4_method_10_code 37 = .ok (.ireturn, 1) := by decide +kernel
theorem d_Reader_isClosed_38 : decode prog_4_method_10_code 38 = .ok (.iinc 2 1, 3) := by decide +kernel
theorem d_Reader_isClosed_41 : decode prog_4_method_10_code 41 = .ok (.goto (-34), 3) := by decide +kernel
theorem d_Reader_isClosed_44 : decode prog_4_method_10_code 44 = .ok (.iconst 1, 1) := by decide +kernel
theorem d_Reader_isClosed_45 : decode prog_4_method_10_code 45 = .ok (.ireturn, 1) := by decide +kernel
theorem d_Register_init_0 : decode prog_5_method_1_code 0 = .ok (.aload_n 0, 1) := by decide +kernel
theorem d_Register_init_1 : decode prog_5_method_1_code 1 = .ok (.invokespecial 3, 3) := by decide +kernel
theorem d_Register_init_4 : decode prog_5_method_1_code 4 = .ok (.aload_n 0, 1) := by decide +kernel
theorem d_Register_init_5 : decode prog_5_method_1_code 5 = .ok (.bipush 100, 2) := by decide +kernel
theorem d_Register_init_7 : decode prog_5_method_1_code 7 = .ok (.anewarray 9, 3) := by decide +kernel
theorem d_Register_init_10 : decode prog_5_method_1_code 10 = .ok (.putfield 11, 3) := by decide +kernel
theorem d_Register_init_13 : decode prog_5_method_1_code 13 = .ok (.return_, 1) := by decide +kernel
theorem d_Register_find_0 : decode prog_5_method_2_code 0 = .ok (.iload_n 1, 1) := by decide +kernel
theorem d_Register_find_1 : decode prog_5_method_2_code 1 = .ok (.ifCond .lt 29, 3) := by decide +kernel
theorem d_Register_find_4 : decode prog_5_method_2_code 4 = .ok (.iload_n 1, 1) := by decide +kernel
theorem d_Register_find_5 : decode prog_5_method_2_code 5 = .ok (.aload_n 0, 1) := by decide +kernel
theorem d_Register_find_6 : decode prog_5_method_2_code 6 = .ok (.getfield 17, 3) := by decide +kernel
theorem d_Register_find_9 : decode prog_5_method_2_code 9 = .ok (.if_icmp .ge 21, 3) := by decide +kernel
theorem d_Register_find_12 : decode prog_5_method_2_code 12 = .ok (.iload_n 1, 1) := by decide +kernel
theorem d_Register_find_13 : decode prog_5_method_2_code 13 = .ok (.aload_n 0, 1) := by decide +kernel
theorem d_Register_find_14 : decode prog_5_method_2_code 14 = .ok (.getfield 11, 3) := by decide +kernel
theorem d_Register_find_17 : decode prog_5_method_2_code 17 = .ok (.arraylength, 1) := by decide +kernel
theorem d_Register_find_18 : decode prog_5_method_2_code 18 = .ok (.if_icmp .ge 12, 3) := by decide +kernel
theorem d_Register_find_21 : decode prog_5_method_2_code 21 = .ok (.aload_n 0, 1) := by decide +kernel
theorem d_Register_find_22 : decode prog_5_method_2_code 22 = .ok (.getfield 11, 3) := by decide +kernel
theorem d_Register_find_25 : decode prog_5_method_2_code 25 = .ok (.iload_n 1, 1) := by decide +kernel
theorem d_Register_find_26 : decode prog_5_method_2_code 26 = .ok (.aaload, 1) := by decide +kernel
theorem d_Register_find_27 : decode prog_5_method_2_code 27 = .ok (.goto 4, 3) := by decide +kernel
theorem d_Register_find_30 : decode prog_5_method_2_code 30 = .ok (.aconst_null, 1) := by decide +kernel
theorem d_Register_find_31 : decode prog_5_method_2_code 31 = .ok (.areturn, 1) := by decide +kernel
theorem d_Register_findFamily_0 : decode prog_5_method_3_code 0 = .ok (.aload_n 0, 1) := by decide +kernel
theorem d_Register_findFamily_1 : decode prog_5_method_3_code 1 = .ok (.iload_n 1, 1) := by decide +kernel
theorem d_Register_findFamily_2 : decode prog_5_method_3_code 2 = .ok (.invokevirtual 21, 3) := by decide +kernel
theorem d_Register_findFamily_5 : decode prog_5_method_3_code 5 = .ok (.astore_n 2, 1) := by decide +kernel
theorem d_Register_findFamily_6 : decode prog_5_method_3_code 6 = .ok (.aload_n 2, 1) := by decide +kernel
theorem d_Register_findFamily_7 : decode prog_5_method_3_code 7 = .ok (.ifnull 15, 3) := by decide +kernel
theorem d_Register_findFamily_10 : decode prog_5_method_3_code 10 = .ok (.aload_n 2, 1) := by decide +kernel
theorem d_Register_findFamily_11 : decode prog_5_method_3_code 11 = .ok (.getfield 25, 3) := by decide +kernel
theorem d_Register_findFamily_14 : decode prog_5_method_3_code 14 = .ok (.iconst 3, 1) := by decide +kernel
theorem d_Register_findFamily_15 : decode prog_5_method_3_code 15 = .ok (.if_icmp .ne 7, 3) := by decide +kernel
theorem d_Register_findFamily_18 : decode prog_5_method_3_code 18 = .ok (.aload_n 2, 1) := by decide +kernel
theorem d_Register_findFamily_19 : decode prog_5_method_3_code 19 = .ok (.goto 4, 3) := by decide +kernel
theorem d_Register_findFamily_22 : decode prog_5_method_3_code 22 = .ok (.aconst_null, 1) := by decide +kernel
theorem d_Register_findFamily_23 : decode prog_5_method_3_code 23 = .ok (.areturn, 1) := by decide +kernel
theorem d_Register_findConstructor_0 : decode prog_5_method_4_code 0 = .ok (.aload_n 0, 1) := by decide +kernel
theorem d_Register_findConstructor_1 : decode prog_5_method_4_code 1 = .ok (.iload_n 1, 1) := by decide +kernel
theorem d_Register_findConstructor_2 : decode prog_5_method_4_code 2 = .ok (.invokevirtual 21, 3) := by decide +kernel
theorem d_Register_findConstructor_5 : decode prog_5_method_4_code 5 = .ok (.astore_n 2, 1) := by decide +kernel
theorem d_Register_findConstructor_6 : decode prog_5_method_4_code 6 = .ok (.aload_n 2, 1) := by decide +kernel
theorem d_Register_findConstructor_7 : decode prog_5_method_4_code 7 = .ok (.ifnull 15, 3) := by decide +kernel
theorem d_Register_findConstructor_10 : decode prog_5_method_4_code 10 = .ok (.aload_n 2, 1) := by decide +kernel
theorem d_Register_findConstructor_11 : decode prog_5_method_4_code 11 = .ok (.getfield 25, 3) := by decide +kernel
theorem d_Register_findConstructor_14 : decode prog_5_method_4_code 14 = .ok (.iconst 4, 1) := by decide +kernel
theorem d_Register_findConstructor_15 : decode prog_5_method_4_code 15 = .ok (.if_icmp .ne 7, 3) := by decide +kernel
theorem d_Register_findConstructor_18 : decode prog_5_method_4_code 18 = .ok (.aload_n 2, 1) := by decide +kernel
theorem d_Register_findConstructor_19 : decode prog_5_method_4_code 19 = .ok (.goto 4, 3) := by decide +kernel
theorem d_Register_findConstructor_22 : decode prog_5_method_4_code 22 = .ok (.aconst_null, 1) := by decide +kernel
theorem d_Register_findConstructor_23 : decode prog_5_method_4_code 23 = .ok (.areturn, 1) := by decide +kernel
theorem d_Register_addAxiom_0 : decode prog_5_method_5_code 0 = .ok (.aload_n 0, 1) := by decide +kernel
theorem d_Register_addAxiom_1 : decode prog_5_method_5_code 1 = .ok (.getfield 17, 3) := by decide +kernel
theorem d_Register_addAxiom_4 : decode prog_5_method_5_code 4 = .ok (.bipush 100, 2) := by decide +kernel
theorem d_Register_addAxiom_6 : decode prog_5_method_5_code 6 = .ok (.if_icmp .ge 25, 3) := by decide +kernel
theorem d_Register_addAxiom_9 : decode prog_5_method_5_code 9 = .ok (.aload_n 0, 1) := by decide +kernel
theorem d_Register_addAxiom_10 : decode prog_5_method_5_code 10 = .ok (.new 9, 3) := by decide +kernel
theorem d_Register_addAxiom_13 : decode prog_5_method_5_code 13 = .ok (.dup, 1) := by decide +kernel
theorem d_Register_addAxiom_14 : decode prog_5_method_5_code 14 = .ok (.aload_n 0, 1) := by decide +kernel
theorem d_Register_addAxiom_15 : decode prog_5_method_5_code 15 = .ok (.getfield 17, 3) := by decide +kernel
theorem d_Register_addAxiom_18 : decode prog_5_method_5_code 18 = .ok (.iconst 0, 1) := by decide +kernel
theorem d_Register_addAxiom_19 : decode prog_5_method_5_code 19 = .ok (.iconst 0, 1) := by decide +kernel
theorem d_Register_addAxiom_20 : decode prog_5_method_5_code 20 = .ok (.iconst 0, 1) := by decide +kernel
theorem d_Register_addAxiom_21 : decode prog_5_method_5_code 21 = .ok (.iconst 0, 1) := by decide +kernel
theorem d_Register_addAxiom_22 : decode prog_5_method_5_code 22 = .ok (.invokespecial 28, 3) := by decide +kernel
theorem d_Register_addAxiom_25 : decode prog_5_method_5_code 25 = .ok (.invokevirtual 31, 3) := by decide +kernel
theorem d_Register_addAxiom_28 : decode prog_5_method_5_code 28 = .ok (.goto 4, 3) := by decide +kernel
theorem d_Register_addAxiom_31 : decode prog_5_method_5_code 31 = .ok (.iconst (-1), 1) := by decide +kernel
theorem d_Register_addAxiom_32 : decode prog_5_method_5_code 32 = .ok (.ireturn, 1) := by decide +kernel
theorem d_Register_addFamily_0 : decode prog_5_method_6_code 0 = .ok (.iload 4, 2) := by decide +kernel
theorem d_Register_addFamily_2 : decode prog_5_method_6_code 2 = .ok (.ifCond .lt 17, 3) := by decide +kernel
theorem d_Register_addFamily_5 : decode prog_5_method_6_code 5 = .ok (.aload_n 0, 1) := by decide +kernel
theorem d_Register_addFamily_6 : decode prog_5_method_6_code 6 = .ok (.getfield 17, 3) := by decide +kernel
theorem d_Register_addFamily_9 : decode prog_5_method_6_code 9 = .ok (.iconst 1, 1) := by decide +kernel
theorem d_Register_addFamily_10 : decode prog_5_method_6_code 10 = .ok (.iadd, 1) := by decide +kernel
theorem d_Register_addFamily_11 : decode prog_5_method_6_code 11 = .ok (.iload 4, 2) := by decide +kernel
theorem d_Register_addFamily_13 : decode prog_5_method_6_code 13 = .ok (.iadd, 1) := by decide +kernel
theorem d_Register_addFamily_14 : decode prog_5_method_6_code 14 = .ok (.bipush 100, 2) := by decide +kernel
theorem d_Register_addFamily_16 : decode prog_5_method_6_code 16 = .ok (.if_icmp .le 5, 3) := by decide +kernel
theorem d_Register_addFamily_19 : decode prog_5_method_6_code 19 = .ok (.iconst (-1), 1) := by decide +kernel
theorem d_Register_addFamily_20 : decode prog_5_method_6_code 20 = .ok (.ireturn, 1) := by decide +kernel
theorem d_Register_addFamily_21 : decode prog_5_method_6_code 21 = .ok (.new 9, 3) := by decide +kernel
theorem d_Register_addFamily_24 : decode prog_5_method_6_code 24 = .ok (.dup, 1) := by decide +kernel
theorem d_Register_addFamily_25 : decode prog_5_method_6_code 25 = .ok (.aload_n 0, 1) := by decide +kernel
theorem d_Register_addFamily_26 : decode prog_5_method_6_code 26 = .ok (.getfield 17, 3) := by decide +kernel
theorem d_Register_addFamily_29 : decode prog_5_method_6_code 29 = .ok (.iconst 3, 1) := by decide +kernel
theorem d_Register_addFamily_30 : decode prog_5_method_6_code 30 = .ok (.iload_n 2, 1) := by decide +kernel
theorem d_Register_addFamily_31 : decode prog_5_method_6_code 31 = .ok (.iload_n 3, 1) := by decide +kernel
theorem d_Register_addFamily_32 : decode prog_5_method_6_code 32 = .ok (.iload 4, 2) := by decide +kernel
theorem d_Register_addFamily_34 : decode prog_5_method_6_code 34 = .ok (.invokespecial 28, 3) := by decide +kernel
theorem d_Register_addFamily_37 : decode prog_5_method_6_code 37 = .ok (.astore 5, 2) := by decide +kernel
theorem d_Register_addFamily_39 : decode prog_5_method_6_code 39 = .ok (.aload 5, 2) := by decide +kernel
theorem d_Register_addFamily_41 : decode prog_5_method_6_code 41 = .ok (.aload_n 1, 1) := by decide +kernel
theorem d_Register_addFamily_42 : decode prog_5_method_6_code 42 = .ok (.putfield 35, 3) := by decide +kernel
theorem d_Register_addFamily_45 : decode prog_5_method_6_code 45 = .ok (.aload 5, 2) := by decide +kernel
theorem d_Register_addFamily_47 : decode prog_5_method_6_code 47 = .ok (.iload 4, 2) := by decide +kernel
theorem d_Register_addFamily_49 : decode prog_5_method_6_code 49 = .ok (.anewarray 9, 3) := by decide +kernel
theorem d_Register_addFamily_52 : decode prog_5_method_6_code 52 = .ok (.putfield 39, 3) := by decide +kernel
theorem d_Register_addFamily_55 : decode prog_5_method_6_code 55 = .ok (.aload_n 0, 1) := by decide +kernel
theorem d_Register_addFamily_56 : decode prog_5_method_6_code 56 = .ok (.aload 5, 2) := by decide +kernel
theorem d_Register_addFamily_58 : decode prog_5_method_6_code 58 = .ok (.invokevirtual 31, 3) := by decide +kernel
theorem d_Register_addFamily_61 : decode prog_5_method_6_code 61 = .ok (.istore 6, 2) := by decide +kernel
theorem d_Register_addFamily_63 : decode prog_5_method_6_code 63 = .ok (.iconst 0, 1) := by decide +kernel
theorem d_Register_addFamily_64 : decode prog_5_method_6_code 64 = .ok (.istore 7, 2) := by decide +kernel
theorem d_Register_addFamily_66 : decode prog_5_method_6_code 66 = .ok (.iload 7, 2) := by decide +kernel
theorem d_Register_addFamily_68 : decode prog_5_method_6_code 68 = .ok (.iload 4, 2) := by decide +kernel
theorem d_Register_addFamily_70 : decode prog_5_method_6_code 70 = .ok (.if_icmp .ge 51, 3) := by decide +kernel
theorem d_Register_addFamily_73 : decode prog_5_method_6_code 73 = .ok (.new 9, 3) := by decide +kernel
theorem d_Register_addFamily_76 : decode prog_5_method_6_code 76 = .ok (.dup, 1) := by decide +kernel
theorem d_Register_addFamily_77 : decode prog_5_method_6_code 77 = .ok (.aload_n 0, 1) := by decide +kernel
theorem d_Register_addFamily_78 : decode prog_5_method_6_code 78 = .ok (.getfield 17, 3) := by decide +kernel
theorem d_Register_addFamily_81 : decode prog_5_method_6_code 81 = .ok (.iconst 4, 1) := by decide +kernel
theorem d_Register_addFamily_82 : decode prog_5_method_6_code 82 = .ok (.iload_n 2, 1) := by decide +kernel
theorem d_Register_addFamily_83 : decode prog_5_method_6_code 83 = .ok (.iload_n 3, 1) := by decide +kernel
theorem d_Register_addFamily_84 : decode prog_5_method_6_code 84 = .ok (.iload 7, 2) := by decide +kernel
theorem d_Register_addFamily_86 : decode prog_5_method_6_code 86 = .ok (.invokespecial 28, 3) := by decide +kernel
theorem d_Register_addFamily_89 : decode prog_5_method_6_code 89 = .ok (.astore 8, 2) := by decide +kernel
theorem d_Register_addFamily_91 : decode prog_5_method_6_code 91 = .ok (.aload 8, 2) := by decide +kernel
theorem d_Register_addFamily_93 : decode prog_5_method_6_code 93 = .ok (.aload 5, 2) := by decide +kernel
theorem d_Register_addFamily_95 : decode prog_5_method_6_code 95 = .ok (.putfield 42, 3) := by decide +kernel
theorem d_Register_addFamily_98 : decode prog_5_method_6_code 98 = .ok (.aload 5, 2) := by decide +kernel
theorem d_Register_addFamily_100 : decode prog_5_method_6_code 100 = .ok (.getfield 39, 3) := by decide +kernel
theorem d_Register_addFamily_103 : decode prog_5_method_6_code 103 = .ok (.iload 7, 2) := by decide +kernel
theorem d_Register_addFamily_105 : decode prog_5_method_6_code 105 = .ok (.aload 8, 2) := by decide +kernel
theorem d_Register_addFamily_107 : decode prog_5_method_6_code 107 = .ok (.aastore, 1) := by decide +kernel
theorem d_Register_addFamily_108 : decode prog_5_method_6_code 108 = .ok (.aload_n 0, 1) := by decide +kernel
theorem d_Register_addFamily_109 : decode prog_5_method_6_code 109 = .ok (.aload 8, 2) := by decide +kernel
theorem d_Register_addFamily_111 : decode prog_5_method_6_code 111 = .ok (.invokevirtual 31, 3) := by decide +kernel
theorem d_Register_addFamily_114 : decode prog_5_method_6_code 114 = .ok (.pop, 1) := by decide +kernel
theorem d_Register_addFamily_115 : decode prog_5_method_6_code 115 = .ok (.iinc 7 1, 3) := by decide +kernel
theorem d_Register_addFamily_118 : decode prog_5_method_6_code 118 = .ok (.goto (-52), 3) := by decide +kernel
theorem d_Register_addFamily_121 : decode prog_5_method_6_code 121 = .ok (.iload 6, 2) := by decide +kernel
theorem d_Register_addFamily_123 : decode prog_5_method_6_code 123 = .ok (.ireturn, 1) := by decide +kernel
theorem d_Register_enter_0 : decode prog_5_method_7_code 0 = .ok (.aload_n 0, 1) := by decide +kernel
theorem d_Register_enter_1 : decode prog_5_method_7_code 1 = .ok (.getfield 17, 3) := by decide +kernel
theorem d_Register_enter_4 : decode prog_5_method_7_code 4 = .ok (.ifCond .lt 15, 3) := by decide +kernel
theorem d_Register_enter_7 : decode prog_5_method_7_code 7 = .ok (.aload_n 0, 1) := by decide +kernel
theorem d_Register_enter_8 : decode prog_5_method_7_code 8 = .ok (.getfield 17, 3) := by decide +kernel
theorem d_Register_enter_11 : decode prog_5_method_7_code 11 = .ok (.aload_n 0, 1) := by decide +kernel
theorem d_Register_enter_12 : decode prog_5_method_7_code 12 = .ok (.getfield 11, 3) := by decide +kernel
theorem d_Register_enter_15 : decode prog_5_method_7_code 15 = .ok (.arraylength, 1) := by decide +kernel
theorem d_Register_enter_16 : decode prog_5_method_7_code 16 = .ok (.if_icmp .lt 5, 3) := by decide +kernel
theorem d_Register_enter_19 : decode prog_5_method_7_code 19 = .ok (.iconst (-1), 1) := by decide +kernel
theorem d_Register_enter_20 : decode prog_5_method_7_code 20 = .ok (.ireturn, 1) := by decide +kernel
theorem d_Register_enter_21 : decode prog_5_method_7_code 21 = .ok (.aload_n 0, 1) := by decide +kernel
theorem d_Register_enter_22 : decode prog_5_method_7_code 22 = .ok (.getfield 11, 3) := by decide +kernel
theorem d_Register_enter_25 : decode prog_5_method_7_code 25 = .ok (.aload_n 0, 1) := by decide +kernel
theorem d_Register_enter_26 : decode prog_5_method_7_code 26 = .ok (.getfield 17, 3) := by decide +kernel
theorem d_Register_enter_29 : decode prog_5_method_7_code 29 = .ok (.aload_n 1, 1) := by decide +kernel
theorem d_Register_enter_30 : decode prog_5_method_7_code 30 = .ok (.aastore, 1) := by decide +kernel
theorem d_Register_enter_31 : decode prog_5_method_7_code 31 = .ok (.aload_n 0, 1) := by decide +kernel
theorem d_Register_enter_32 : decode prog_5_method_7_code 32 = .ok (.dup, 1) := by decide +kernel
theorem d_Register_enter_33 : decode prog_5_method_7_code 33 = .ok (.getfield 17, 3) := by decide +kernel
theorem d_Register_enter_36 : decode prog_5_method_7_code 36 = .ok (.iconst 1, 1) := by decide +kernel
theorem d_Register_enter_37 : decode prog_5_method_7_code 37 = .ok (.iadd, 1) := by decide +kernel
theorem d_Register_enter_38 : decode prog_5_method_7_code 38 = .ok (.putfield 17, 3) := by decide +kernel
theorem d_Register_enter_41 : decode prog_5_method_7_code 41 = .ok (.aload_n 0, 1) := by decide +kernel
theorem d_Register_enter_42 : decode prog_5_method_7_code 42 = .ok (.getfield 17, 3) := by decide +kernel
theorem d_Register_enter_45 : decode prog_5_method_7_code 45 = .ok (.iconst 1, 1) := by decide +kernel
theorem d_Register_enter_46 : decode prog_5_method_7_code 46 = .ok (.isub, 1) := by decide +kernel
theorem d_Register_enter_47 : decode prog_5_method_7_code 47 = .ok (.ireturn, 1) := by decide +kernel
theorem d_Shelf_init_0 : decode prog_6_method_1_code 0 = .ok (.aload_n 0, 1) := by decide +kernel
theorem d_Shelf_init_1 : decode prog_6_method_1_code 1 = .ok (.invokespecial 3, 3) := by decide +kernel
theorem d_Shelf_init_4 : decode prog_6_method_1_code 4 = .ok (.aload_n 0, 1) := by decide +kernel
theorem d_Shelf_init_5 : decode prog_6_method_1_code 5 = .ok (.sipush 1500, 3) := by decide +kernel
theorem d_Shelf_init_8 : decode prog_6_method_1_code 8 = .ok (.anewarray 9, 3) := by decide +kernel
theorem d_Shelf_init_11 : decode prog_6_method_1_code 11 = .ok (.putfield 11, 3) := by decide +kernel
theorem d_Shelf_init_14 : decode prog_6_method_1_code 14 = .ok (.return_, 1) := by decide +kernel
theorem d_Shelf_find_0 : decode prog_6_method_2_code 0 = .ok (.iload_n 1, 1) := by decide +kernel
theorem d_Shelf_find_1 : decode prog_6_method_2_code 1 = .ok (.ifCond .lt 29, 3) := by decide +kernel
theorem d_Shelf_find_4 : decode prog_6_method_2_code 4 = .ok (.iload_n 1, 1) := by decide +kernel
theorem d_Shelf_find_5 : decode prog_6_method_2_code 5 = .ok (.aload_n 0, 1) := by decide +kernel
theorem d_Shelf_find_6 : decode prog_6_method_2_code 6 = .ok (.getfield 17, 3) := by decide +kernel
theorem d_Shelf_find_9 : decode prog_6_method_2_code 9 = .ok (.if_icmp .ge 21, 3) := by decide +kernel
theorem d_Shelf_find_12 : decode prog_6_method_2_code 12 = .ok (.iload_n 1, 1) := by decide +kernel
theorem d_Shelf_find_13 : decode prog_6_method_2_code 13 = .ok (.aload_n 0, 1) := by decide +kernel
theorem d_Shelf_find_14 : decode prog_6_method_2_code 14 = .ok (.getfield 11, 3) := by decide +kernel
theorem d_Shelf_find_17 : decode prog_6_method_2_code 17 = .ok (.arraylength, 1) := by decide +kernel
theorem d_Shelf_find_18 : decode prog_6_method_2_code 18 = .ok (.if_icmp .ge 12, 3) := by decide +kernel
theorem d_Shelf_find_21 : decode prog_6_method_2_code 21 = .ok (.aload_n 0, 1) := by decide +kernel
theorem d_Shelf_find_22 : decode prog_6_method_2_code 22 = .ok (.getfield 11, 3) := by decide +kernel
theorem d_Shelf_find_25 : decode prog_6_method_2_code 25 = .ok (.iload_n 1, 1) := by decide +kernel
theorem d_Shelf_find_26 : decode prog_6_method_2_code 26 = .ok (.aaload, 1) := by decide +kernel
theorem d_Shelf_find_27 : decode prog_6_method_2_code 27 = .ok (.goto 4, 3) := by decide +kernel
theorem d_Shelf_find_30 : decode prog_6_method_2_code 30 = .ok (.aconst_null, 1) := by decide +kernel
theorem d_Shelf_find_31 : decode prog_6_method_2_code 31 = .ok (.areturn, 1) := by decide +kernel
theorem d_Shelf_blank_0 : decode prog_6_method_3_code 0 = .ok (.iload_n 1, 1) := by decide +kernel
theorem d_Shelf_blank_1 : decode prog_6_method_3_code 1 = .ok (.iconst 1, 1) := by decide +kernel
theorem d_Shelf_blank_2 : decode prog_6_method_3_code 2 = .ok (.if_icmp .lt 36, 3) := by decide +kernel
theorem d_Shelf_blank_5 : decode prog_6_method_3_code 5 = .ok (.iload_n 1, 1) := by decide +kernel
theorem d_Shelf_blank_6 : decode prog_6_method_3_code 6 = .ok (.sipush 1000, 3) := by decide +kernel
theorem d_Shelf_blank_9 : decode prog_6_method_3_code 9 = .ok (.if_icmp .gt 29, 3) := by decide +kernel
theorem d_Shelf_blank_12 : decode prog_6_method_3_code 12 = .ok (.iload_n 1, 1) := by decide +kernel
theorem d_Shelf_blank_13 : decode prog_6_method_3_code 13 = .ok (.sipush 30000, 3) := by decide +kernel
theorem d_Shelf_blank_16 : decode prog_6_method_3_code 16 = .ok (.aload_n 0, 1) := by decide +kernel
theorem d_Shelf_blank_17 : decode prog_6_method_3_code 17 = .ok (.getfield 21, 3) := by decide +kernel
theorem d_Shelf_blank_20 : decode prog_6_method_3_code 20 = .ok (.isub, 1) := by decide +kernel
theorem d_Shelf_blank_21 : decode prog_6_method_3_code 21 = .ok (.if_icmp .gt 17, 3) := by decide +kernel
theorem d_Shelf_blank_24 : decode prog_6_method_3_code 24 = .ok (.aload_n 0, 1) := by decide +kernel
theorem d_Shelf_blank_25 : decode prog_6_method_3_code 25 = .ok (.getfield 17, 3) := by decide +kernel
theorem d_Shelf_blank_28 : decode prog_6_method_3_code 28 = .ok (.sipush 1500, 3) := by decide +kernel
theorem d_Shelf_blank_31 : decode prog_6_method_3_code 31 = .ok (.if_icmp .ge 7, 3) := by decide +kernel
theorem d_Shelf_blank_34 : decode prog_6_method_3_code 34 = .ok (.iconst 1, 1) := by decide +kernel
theorem d_Shelf_blank_35 : decode prog_6_method_3_code 35 = .ok (.goto 4, 3) := by decide +kernel
theorem d_Shelf_blank_38 : decode prog_6_method_3_code 38 = .ok (.iconst 0, 1) := by decide +kernel
theorem d_Shelf_blank_39 : decode prog_6_method_3_code 39 = .ok (.istore_n 2, 1) := by decide +kernel
theorem d_Shelf_blank_40 : decode prog_6_method_3_code 40 = .ok (.iload_n 2, 1) := by decide +kernel
theorem d_Shelf_blank_41 : decode prog_6_method_3_code 41 = .ok (.ifCond .eq 14, 3) := by decide +kernel
theorem d_Shelf_blank_44 : decode prog_6_method_3_code 44 = .ok (.new 9, 3) := by decide +kernel
theorem d_Shelf_blank_47 : decode prog_6_method_3_code 47 = .ok (.dup, 1) := by decide +kernel
theorem d_Shelf_blank_48 : decode prog_6_method_3_code 48 = .ok (.iload_n 1, 1) := by decide +kernel
theorem d_Shelf_blank_49 : decode prog_6_method_3_code 49 = .ok (.invokespecial 24, 3) := by decide +kernel
theorem d_Shelf_blank_52 : decode prog_6_method_3_code 52 = .ok (.goto 4, 3) := by decide +kernel
theorem d_Shelf_blank_55 : decode prog_6_method_3_code 55 = .ok (.aconst_null, 1) := by decide +kernel
theorem d_Shelf_blank_56 : decode prog_6_method_3_code 56 = .ok (.areturn, 1) := by decide +kernel
theorem d_Shelf_keep_0 : decode prog_6_method_4_code 0 = .ok (.aload_n 0, 1) := by decide +kernel
theorem d_Shelf_keep_1 : decode prog_6_method_4_code 1 = .ok (.getfield 17, 3) := by decide +kernel
theorem d_Shelf_keep_4 : decode prog_6_method_4_code 4 = .ok (.ifCond .lt 15, 3) := by decide +kernel
theorem d_Shelf_keep_7 : decode prog_6_method_4_code 7 = .ok (.aload_n 0, 1) := by decide +kernel
theorem d_Shelf_keep_8 : decode prog_6_method_4_code 8 = .ok (.getfield 17, 3) := by decide +kernel
theorem d_Shelf_keep_11 : decode prog_6_method_4_code 11 = .ok (.aload_n 0, 1) := by decide +kernel
theorem d_Shelf_keep_12 : decode prog_6_method_4_code 12 = .ok (.getfield 11, 3) := by decide +kernel
theorem d_Shelf_keep_15 : decode prog_6_method_4_code 15 = .ok (.arraylength, 1) := by decide +kernel
theorem d_Shelf_keep_16 : decode prog_6_method_4_code 16 = .ok (.if_icmp .lt 5, 3) := by decide +kernel
theorem d_Shelf_keep_19 : decode prog_6_method_4_code 19 = .ok (.iconst (-1), 1) := by decide +kernel
theorem d_Shelf_keep_20 : decode prog_6_method_4_code 20 = .ok (.ireturn, 1) := by decide +kernel
theorem d_Shelf_keep_21 : decode prog_6_method_4_code 21 = .ok (.aload_n 0, 1) := by decide +kernel
theorem d_Shelf_keep_22 : decode prog_6_method_4_code 22 = .ok (.getfield 11, 3) := by decide +kernel
theorem d_Shelf_keep_25 : decode prog_6_method_4_code 25 = .ok (.aload_n 0, 1) := by decide +kernel
theorem d_Shelf_keep_26 : decode prog_6_method_4_code 26 = .ok (.getfield 17, 3) := by decide +kernel
theorem d_Shelf_keep_29 : decode prog_6_method_4_code 29 = .ok (.aload_n 1, 1) := by decide +kernel
theorem d_Shelf_keep_30 : decode prog_6_method_4_code 30 = .ok (.aastore, 1) := by decide +kernel
theorem d_Shelf_keep_31 : decode prog_6_method_4_code 31 = .ok (.aload_n 0, 1) := by decide +kernel
theorem d_Shelf_keep_32 : decode prog_6_method_4_code 32 = .ok (.dup, 1) := by decide +kernel
theorem d_Shelf_keep_33 : decode prog_6_method_4_code 33 = .ok (.getfield 21, 3) := by decide +kernel
theorem d_Shelf_keep_36 : decode prog_6_method_4_code 36 = .ok (.aload_n 1, 1) := by decide +kernel
theorem d_Shelf_keep_37 : decode prog_6_method_4_code 37 = .ok (.invokevirtual 27, 3) := by decide +kernel
theorem d_Shelf_keep_40 : decode prog_6_method_4_code 40 = .ok (.iadd, 1) := by decide +kernel
theorem d_Shelf_keep_41 : decode prog_6_method_4_code 41 = .ok (.putfield 21, 3) := by decide +kernel
theorem d_Shelf_keep_44 : decode prog_6_method_4_code 44 = .ok (.aload_n 0, 1) := by decide +kernel
theorem d_Shelf_keep_45 : decode prog_6_method_4_code 45 = .ok (.dup, 1) := by decide +kernel
theorem d_Shelf_keep_46 : decode prog_6_method_4_code 46 = .ok (.getfield 17, 3) := by decide +kernel
theorem d_Shelf_keep_49 : decode prog_6_method_4_code 49 = .ok (.iconst 1, 1) := by decide +kernel
theorem d_Shelf_keep_50 : decode prog_6_method_4_code 50 = .ok (.iadd, 1) := by decide +kernel
theorem d_Shelf_keep_51 : decode prog_6_method_4_code 51 = .ok (.putfield 17, 3) := by decide +kernel
theorem d_Shelf_keep_54 : decode prog_6_method_4_code 54 = .ok (.aload_n 0, 1) := by decide +kernel
theorem d_Shelf_keep_55 : decode prog_6_method_4_code 55 = .ok (.getfield 17, 3) := by decide +kernel
theorem d_Shelf_keep_58 : decode prog_6_method_4_code 58 = .ok (.iconst 1, 1) := by decide +kernel
theorem d_Shelf_keep_59 : decode prog_6_method_4_code 59 = .ok (.isub, 1) := by decide +kernel
theorem d_Shelf_keep_60 : decode prog_6_method_4_code 60 = .ok (.ireturn, 1) := by decide +kernel
theorem d_Term_init_0 : decode prog_7_method_1_code 0 = .ok (.aload_n 0, 1) := by decide +kernel
theorem d_Term_init_1 : decode prog_7_method_1_code 1 = .ok (.invokespecial 3, 3) := by decide +kernel
theorem d_Term_init_4 : decode prog_7_method_1_code 4 = .ok (.iload_n 1, 1) := by decide +kernel
theorem d_Term_init_5 : decode prog_7_method_1_code 5 = .ok (.iconst 1, 1) := by decide +kernel
theorem d_Term_init_6 : decode prog_7_method_1_code 6 = .ok (.invokestatic 9, 3) := by decide +kernel
theorem d_Term_init_9 : decode prog_7_method_1_code 9 = .ok (.istore_n 2, 1) := by decide +kernel
theorem d_Term_init_10 : decode prog_7_method_1_code 10 = .ok (.aload_n 0, 1) := by decide +kernel
theorem d_Term_init_11 : decode prog_7_method_1_code 11 = .ok (.iload_n 2, 1) := by decide +kernel
theorem d_Term_init_12 : decode prog_7_method_1_code 12 = .ok (.newarray .int, 2) := by decide +kernel
theorem d_Term_init_14 : decode prog_7_method_1_code 14 = .ok (.putfield 15, 3) := by decide +kernel
theorem d_Term_init_17 : decode prog_7_method_1_code 17 = .ok (.aload_n 0, 1) := by decide +kernel
theorem d_Term_init_18 : decode prog_7_method_1_code 18 = .ok (.iload_n 2, 1) := by decide +kernel
theorem d_Term_init_19 : decode prog_7_method_1_code 19 = .ok (.newarray .int, 2) := by decide +kernel
theorem d_Term_init_21 : decode prog_7_method_1_code 21 = .ok (.putfield 21, 3) := by decide +kernel
theorem d_Term_init_24 : decode prog_7_method_1_code 24 = .ok (.aload_n 0, 1) := by decide +kernel
theorem d_Term_init_25 : decode prog_7_method_1_code 25 = .ok (.iload_n 2, 1) := by decide +kernel
theorem d_Term_init_26 : decode prog_7_method_1_code 26 = .ok (.newarray .int, 2) := by decide +kernel
theorem d_Term_init_28 : decode prog_7_method_1_code 28 = .ok (.putfield 24, 3) := by decide +kernel
theorem d_Term_init_31 : decode prog_7_method_1_code 31 = .ok (.aload_n 0, 1) := by decide +kernel
theorem d_Term_init_32 : decode prog_7_method_1_code 32 = .ok (.iload_n 2, 1) := by decide +kernel
theorem d_Term_init_33 : decode prog_7_method_1_code 33 = .ok (.newarray .int, 2) := by decide +kernel
theorem d_Term_init_35 : decode prog_7_method_1_code 35 = .ok (.putfield 27, 3) := by decide +kernel
theorem d_Term_init_38 : decode prog_7_method_1_code 38 = .ok (.aload_n 0, 1) := by decide +kernel
theorem d_Term_init_39 : decode prog_7_method_1_code 39 = .ok (.getfield 27, 3) := by decide +kernel
theorem d_Term_init_42 : decode prog_7_method_1_code 42 = .ok (.iconst 0, 1) := by decide +kernel
theorem d_Term_init_43 : decode prog_7_method_1_code 43 = .ok (.iconst 1, 1) := by decide +kernel
theorem d_Term_init_44 : decode prog_7_method_1_code 44 = .ok (.iastore, 1) := by decide +kernel
theorem d_Term_init_45 : decode prog_7_method_1_code 45 = .ok (.return_, 1) := by decide +kernel
theorem d_Term_length_0 : decode prog_7_method_2_code 0 = .ok (.aload_n 0, 1) := by decide +kernel
theorem d_Term_length_1 : decode prog_7_method_2_code 1 = .ok (.getfield 15, 3) := by decide +kernel
theorem d_Term_length_4 : decode prog_7_method_2_code 4 = .ok (.arraylength, 1) := by decide +kernel
theorem d_Term_length_5 : decode prog_7_method_2_code 5 = .ok (.ireturn, 1) := by decide +kernel
theorem d_Term_has_0 : decode prog_7_method_3_code 0 = .ok (.iload_n 1, 1) := by decide +kernel
theorem d_Term_has_1 : decode prog_7_method_3_code 1 = .ok (.ifCond .lt 16, 3) := by decide +kernel
theorem d_Term_has_4 : decode prog_7_method_3_code 4 = .ok (.iload_n 1, 1) := by decide +kernel
theorem d_Term_has_5 : decode prog_7_method_3_code 5 = .ok (.aload_n 0, 1) := by decide +kernel
theorem d_Term_has_6 : decode prog_7_method_3_code 6 = .ok (.getfield 15, 3) := by decide +kernel
theorem d_Term_has_9 : decode prog_7_method_3_code 9 = .ok (.arraylength, 1) := by decide +kernel
theorem d_Term_has_10 : decode prog_7_method_3_code 10 = .ok (.if_icmp .ge 7, 3) := by decide +kernel
theorem d_Term_has_13 : decode prog_7_method_3_code 13 = .ok (.iconst 1, 1) := by decide +kernel
theorem d_Term_has_14 : decode prog_7_method_3_code 14 = .ok (.goto 4, 3) := by decide +kernel
theorem d_Term_has_17 : decode prog_7_method_3_code 17 = .ok (.iconst 0, 1) := by decide +kernel
theorem d_Term_has_18 : decode prog_7_method_3_code 18 = .ok (.ireturn, 1) := by decide +kernel
theorem d_Term_kindAt_0 : decode prog_7_method_4_code 0 = .ok (.iload_n 1, 1) := by decide +kernel
theorem d_Term_kindAt_1 : decode prog_7_method_4_code 1 = .ok (.ifCond .lt 21, 3) := by decide +kernel
theorem d_Term_kindAt_4 : decode prog_7_method_4_code 4 = .ok (.iload_n 1, 1) := by decide +kernel
theorem d_Term_kindAt_5 : decode prog_7_method_4_code 5 = .ok (.aload_n 0, 1) := by decide +kernel
theorem d_Term_kindAt_6 : decode prog_7_method_4_code 6 = .ok (.getfield 15, 3) := by decide +kernel
theorem d_Term_kindAt_9 : decode prog_7_method_4_code 9 = .ok (.arraylength, 1) := by decide +kernel
theorem d_Term_kindAt_10 : decode prog_7_method_4_code 10 = .ok (.if_icmp .ge 12, 3) := by decide +kernel
theorem d_Term_kindAt_13 : decode prog_7_method_4_code 13 = .ok (.aload_n 0, 1) := by decide +kernel
theorem d_Term_kindAt_14 : decode prog_7_method_4_code 14 = .ok (.getfield 15, 3) := by decide +kernel
theorem d_Term_kindAt_17 : decode prog_7_method_4_code 17 = .ok (.iload_n 1, 1) := by decide +kernel
theorem d_Term_kindAt_18 : decode prog_7_method_4_code 18 = .ok (.iaload, 1) := by decide +kernel
theorem d_Term_kindAt_19 : decode prog_7_method_4_code 19 = .ok (.goto 4, 3) := by decide +kernel
theorem d_Term_kindAt_22 : decode prog_7_method_4_code 22 = .ok (.iconst (-1), 1) := by decide +kernel
theorem d_Term_kindAt_23 : decode prog_7_method_4_code 23 = .ok (.ireturn, 1) := by decide +kernel
theorem d_Term_numberAt_0 : decode prog_7_method_5_code 0 = .ok (.iload_n 1, 1) := by decide +kernel
theorem d_Term_numberAt_1 : decode prog_7_method_5_code 1 = .ok (.ifCond .lt 21, 3) := by decide +kernel
theorem d_Term_numberAt_4 : decode prog_7_method_5_code 4 = .ok (.iload_n 1, 1) := by decide +kernel
theorem d_Term_numberAt_5 : decode prog_7_method_5_code 5 = .ok (.aload_n 0, 1) := by decide +kernel
theorem d_Term_numberAt_6 : decode prog_7_method_5_code 6 = .ok (.getfield 21, 3) := by decide +kernel
theorem d_Term_numberAt_9 : decode prog_7_method_5_code 9 = .ok (.arraylength, 1) := by decide +kernel
theorem d_Term_numberAt_10 : decode prog_7_method_5_code 10 = .ok (.if_icmp .ge 12, 3) := by decide +kernel
theorem d_Term_numberAt_13 : decode prog_7_method_5_code 13 = .ok (.aload_n 0, 1) := by decide +kernel
theorem d_Term_numberAt_14 : decode prog_7_method_5_code 14 = .ok (.getfield 21, 3) := by decide +kernel
theorem d_Term_numberAt_17 : decode prog_7_method_5_code 17 = .ok (.iload_n 1, 1) := by decide +kernel
theorem d_Term_numberAt_18 : decode prog_7_method_5_code 18 = .ok (.iaload, 1) := by decide +kernel
theorem d_Term_numberAt_19 : decode prog_7_method_5_code 19 = .ok (.goto 4, 3) := by decide +kernel
theorem d_Term_numberAt_22 : decode prog_7_method_5_code 22 = .ok (.iconst (-1), 1) := by decide +kernel
theorem d_Term_numberAt_23 : decode prog_7_method_5_code 23 = .ok (.ireturn, 1) := by decide +kernel
theorem d_Term_sortAt_0 : decode prog_7_method_6_code 0 = .ok (.iload_n 1, 1) := by decide +kernel
theorem d_Term_sortAt_1 : decode prog_7_method_6_code 1 = .ok (.ifCond .lt 21, 3) := by decide +kernel
theorem d_Term_sortAt_4 : decode prog_7_method_6_code 4 = .ok (.iload_n 1, 1) := by decide +kernel
theorem d_Term_sortAt_5 : decode prog_7_method_6_code 5 = .ok (.aload_n 0, 1) := by decide +kernel
theorem d_Term_sortAt_6 : decode prog_7_method_6_code 6 = .ok (.getfield 24, 3) := by decide +kernel
theorem d_Term_sortAt_9 : decode prog_7_method_6_code 9 = .ok (.arraylength, 1) := by decide +kernel
theorem d_Term_sortAt_10 : decode prog_7_method_6_code 10 = .ok (.if_icmp .ge 12, 3) := by decide +kernel
theorem d_Term_sortAt_13 : decode prog_7_method_6_code 13 = .ok (.aload_n 0, 1) := by decide +kernel
theorem d_Term_sortAt_14 : decode prog_7_method_6_code 14 = .ok (.getfield 24, 3) := by decide +kernel
theorem d_Term_sortAt_17 : decode prog_7_method_6_code 17 = .ok (.iload_n 1, 1) := by decide +kernel
theorem d_Term_sortAt_18 : decode prog_7_method_6_code 18 = .ok (.iaload, 1) := by decide +kernel
theorem d_Term_sortAt_19 : decode prog_7_method_6_code 19 = .ok (.goto 4, 3) := by decide +kernel
theorem d_Term_sortAt_22 : decode prog_7_method_6_code 22 = .ok (.iconst (-1), 1) := by decide +kernel
theorem d_Term_sortAt_23 : decode prog_7_method_6_code 23 = .ok (.ireturn, 1) := by decide +kernel
theorem d_Term_nodesAt_0 : decode prog_7_method_7_code 0 = .ok (.iload_n 1, 1) := by decide +kernel
theorem d_Term_nodesAt_1 : decode prog_7_method_7_code 1 = .ok (.ifCond .lt 21, 3) := by decide +kernel
theorem d_Term_nodesAt_4 : decode prog_7_method_7_code 4 = .ok (.iload_n 1, 1) := by decide +kernel
theorem d_Term_nodesAt_5 : decode prog_7_method_7_code 5 = .ok (.aload_n 0, 1) := by decide +kernel
theorem d_Term_nodesAt_6 : decode prog_7_method_7_code 6 = .ok (.getfield 27, 3) := by decide +kernel
theorem d_Term_nodesAt_9 : decode prog_7_method_7_code 9 = .ok (.arraylength, 1) := by decide +kernel
theorem d_Term_nodesAt_10 : decode prog_7_method_7_code 10 = .ok (.if_icmp .ge 12, 3) := by decide +kernel
theorem d_Term_nodesAt_13 : decode prog_7_method_7_code 13 = .ok (.aload_n 0, 1) := by decide +kernel
theorem d_Term_nodesAt_14 : decode prog_7_method_7_code 14 = .ok (.getfield 27, 3) := by decide +kernel
theorem d_Term_nodesAt_17 : decode prog_7_method_7_code 17 = .ok (.iload_n 1, 1) := by decide +kernel
theorem d_Term_nodesAt_18 : decode prog_7_method_7_code 18 = .ok (.iaload, 1) := by decide +kernel
theorem d_Term_nodesAt_19 : decode prog_7_method_7_code 19 = .ok (.goto 4, 3) := by decide +kernel
theorem d_Term_nodesAt_22 : decode prog_7_method_7_code 22 = .ok (.iconst 0, 1) := by decide +kernel
theorem d_Term_nodesAt_23 : decode prog_7_method_7_code 23 = .ok (.ireturn, 1) := by decide +kernel
theorem d_Term_secondOf_0 : decode prog_7_method_8_code 0 = .ok (.iload_n 1, 1) := by decide +kernel
theorem d_Term_secondOf_1 : decode prog_7_method_8_code 1 = .ok (.iconst 1, 1) := by decide +kernel
theorem d_Term_secondOf_2 : decode prog_7_method_8_code 2 = .ok (.iadd, 1) := by decide +kernel
theorem d_Term_secondOf_3 : decode prog_7_method_8_code 3 = .ok (.aload_n 0, 1) := by decide +kernel
theorem d_Term_secondOf_4 : decode prog_7_method_8_code 4 = .ok (.iload_n 1, 1) := by decide +kernel
theorem d_Term_secondOf_5 : decode prog_7_method_8_code 5 = .ok (.iconst 1, 1) := by decide +kernel
theorem d_Term_secondOf_6 : decode prog_7_method_8_code 6 = .ok (.iadd, 1) := by decide +kernel
theorem d_Term_secondOf_7 : decode prog_7_method_8_code 7 = .ok (.invokevirtual 30, 3) := by decide +kernel
theorem d_Term_secondOf_10 : decode prog_7_method_8_code 10 = .ok (.iadd, 1) := by decide +kernel
theorem d_Term_secondOf_11 : decode prog_7_method_8_code 11 = .ok (.ireturn, 1) := by decide +kernel
theorem d_Term_behindAlls_0 : decode prog_7_method_9_code 0 = .ok (.iconst 0, 1) := by decide +kernel
theorem d_Term_behindAlls_1 : decode prog_7_method_9_code 1 = .ok (.istore_n 2, 1) := by decide +kernel
theorem d_Term_behindAlls_2 : decode prog_7_method_9_code 2 = .ok (.iconst 0, 1) := by decide +kernel
theorem d_Term_behindAlls_3 : decode prog_7_method_9_code 3 = .ok (.istore_n 3, 1) := by decide +kernel
theorem d_Term_behindAlls_4 : decode prog_7_method_9_code 4 = .ok (.iload_n 3, 1) := by decide +kernel
theorem d_Term_behindAlls_5 : decode prog_7_method_9_code 5 = .ok (.iload_n 1, 1) := by decide +kernel
theorem d_Term_behindAlls_6 : decode prog_7_method_9_code 6 = .ok (.if_icmp .ge 15, 3) := by decide +kernel
theorem d_Term_behindAlls_9 : decode prog_7_method_9_code 9 = .ok (.aload_n 0, 1) := by decide +kernel
theorem d_Term_behindAlls_10 : decode prog_7_method_9_code 10 = .ok (.iload_n 2, 1) := by decide +kernel
theorem d_Term_behindAlls_11 : decode prog_7_method_9_code 11 = .ok (.invokevirtual 34, 3) := by decide +kernel
theorem d_Term_behindAlls_14 : decode prog_7_method_9_code 14 = .ok (.istore_n 2, 1) := by decide +kernel
theorem d_Term_behindAlls_15 : decode prog_7_method_9_code 15 = .ok (.iinc 3 1, 3) := by decide +kernel
theorem d_Term_behindAlls_18 : decode prog_7_method_9_code 18 = .ok (.goto (-14), 3) := by decide +kernel
theorem d_Term_behindAlls_21 : decode prog_7_method_9_code 21 = .ok (.iload_n 2, 1) := by decide +kernel
theorem d_Term_behindAlls_22 : decode prog_7_method_9_code 22 = .ok (.ireturn, 1) := by decide +kernel
theorem d_Term_set_0 : decode prog_7_method_10_code 0 = .ok (.iload_n 1, 1) := by decide +kernel
theorem d_Term_set_1 : decode prog_7_method_10_code 1 = .ok (.ifCond .lt 34, 3) := by decide +kernel
theorem d_Term_set_4 : decode prog_7_method_10_code 4 = .ok (.iload_n 1, 1) := by decide +kernel
theorem d_Term_set_5 : decode prog_7_method_10_code 5 = .ok (.aload_n 0, 1) := by decide +kernel
theorem d_Term_set_6 : decode prog_7_method_10_code 6 = .ok (.getfield 15, 3) := by decide +kernel
theorem d_Term_set_9 : decode prog_7_method_10_code 9 = .ok (.arraylength, 1) := by decide +kernel
theorem d_Term_set_10 : decode prog_7_method_10_code 10 = .ok (.if_icmp .ge 25, 3) := by decide +kernel
theorem d_Term_set_13 : decode prog_7_method_10_code 13 = .ok (.aload_n 0, 1) := by decide +kernel
theorem d_Term_set_14 : decode prog_7_method_10_code 14 = .ok (.getfield 15, 3) := by decide +kernel
theorem d_Term_set_17 : decode prog_7_method_10_code 17 = .ok (.iload_n 1, 1) := by decide +kernel
theorem d_Term_set_18 : decode prog_7_method_10_code 18 = .ok (.iload_n 2, 1) := by decide +kernel
theorem d_Term_set_19 : decode prog_7_method_10_code 19 = .ok (.iastore, 1) := by decide +kernel
theorem d_Term_set_20 : decode prog_7_method_10_code 20 = .ok (.aload_n 0, 1) := by decide +kernel
theorem d_Term_set_21 : decode prog_7_method_10_code 21 = .ok (.getfield 21, 3) := by decide +kernel
theorem d_Term_set_24 : decode prog_7_method_10_code 24 = .ok (.iload_n 1, 1) := by decide +kernel
theorem d_Term_set_25 : decode prog_7_method_10_code 25 = .ok (.iload_n 3, 1) := by decide +kernel
theorem d_Term_set_26 : decode prog_7_method_10_code 26 = .ok (.iastore, 1) := by decide +kernel
theorem d_Term_set_27 : decode prog_7_method_10_code 27 = .ok (.aload_n 0, 1) := by decide +kernel
theorem d_Term_set_28 : decode prog_7_method_10_code 28 = .ok (.getfield 24, 3) := by decide +kernel
theorem d_Term_set_31 : decode prog_7_method_10_code 31 = .ok (.iload_n 1, 1) := by decide +kernel
theorem d_Term_set_32 : decode prog_7_method_10_code 32 = .ok (.iload 4, 2) := by decide +kernel
theorem d_Term_set_34 : decode prog_7_method_10_code 34 = .ok (.iastore, 1) := by decide +kernel
theorem d_Term_set_35 : decode prog_7_method_10_code 35 = .ok (.return_, 1) := by decide +kernel
theorem d_Term_paste_0 : decode prog_7_method_11_code 0 = .ok (.aload_n 1, 1) := by decide +kernel
theorem d_Term_paste_1 : decode prog_7_method_11_code 1 = .ok (.invokevirtual 37, 3) := by decide +kernel
theorem d_Term_paste_4 : decode prog_7_method_11_code 4 = .ok (.istore_n 3, 1) := by decide +kernel
theorem d_Term_paste_5 : decode prog_7_method_11_code 5 = .ok (.iload_n 2, 1) := by decide +kernel
theorem d_Term_paste_6 : decode prog_7_method_11_code 6 = .ok (.ifCond .lt 56, 3) := by decide +kernel
theorem d_Term_paste_9 : decode prog_7_method_11_code 9 = .ok (.iload_n 2, 1) := by decide +kernel
theorem d_Term_paste_10 : decode prog_7_method_11_code 10 = .ok (.aload_n 0, 1) := by decide +kernel
theorem d_Term_paste_11 : decode prog_7_method_11_code 11 = .ok (.getfield 15, 3) := by decide +kernel
theorem d_Term_paste_14 : decode prog_7_method_11_code 14 = .ok (.arraylength, 1) := by decide +kernel
theorem d_Term_paste_15 : decode prog_7_method_11_code 15 = .ok (.iload_n 3, 1) := by decide +kernel
theorem d_Term_paste_16 : decode prog_7_method_11_code 16 = .ok (.isub, 1) := by decide +kernel
theorem d_Term_paste_17 : decode prog_7_method_11_code 17 = .ok (.if_icmp .gt 45, 3) := by decide +kernel
theorem d_Term_paste_20 : decode prog_7_method_11_code 20 = .ok (.aload_n 1, 1) := by decide +kernel
theorem d_Term_paste_21 : decode prog_7_method_11_code 21 = .ok (.getfield 15, 3) := by decide +kernel
theorem d_Term_paste_24 : decode prog_7_method_11_code 24 = .ok (.iconst 0, 1) := by decide +kernel
theorem d_Term_paste_25 : decode prog_7_method_11_code 25 = .ok (.aload_n 0, 1) := by decide +kernel
theorem d_Term_paste_26 : decode prog_7_method_11_code 26 = .ok (.getfield 15, 3) := by decide +kernel
theorem d_Term_paste_29 : decode prog_7_method_11_code 29 = .ok (.iload_n 2, 1) := by decide +kernel
theorem d_Term_paste_30 : decode prog_7_method_11_code 30 = .ok (.iload_n 3, 1) := by decide +kernel
theorem d_Term_paste_31 : decode prog_7_method_11_code 31 = .ok (.invokestatic 41, 3) := by decide +kernel
theorem d_Term_paste_34 : decode prog_7_method_11_code 34 = .ok (.aload_n 1, 1) := by decide +kernel
theorem d_Term_paste_35 : decode prog_7_method_11_code 35 = .ok (.getfield 21, 3) := by decide +kernel
theorem d_Term_paste_38 : decode prog_7_method_11_code 38 = .ok (.iconst 0, 1) := by decide +kernel
theorem d_Term_paste_39 : decode prog_7_method_11_code 39 = .ok (.aload_n 0, 1) := by decide +kernel
theorem d_Term_paste_40 : decode prog_7_method_11_code 40 = .ok (.getfield 21, 3) := by decide +kernel
theorem d_Term_paste_43 : decode prog_7_method_11_code 43 = .ok (.iload_n 2, 1) := by decide +kernel
theorem d_Term_paste_44 : decode prog_7_method_11_code 44 = .ok (.iload_n 3, 1) := by decide +kernel
theorem d_Term_paste_45 : decode prog_7_method_11_code 45 = .ok (.invokestatic 41, 3) := by decide +kernel
theorem d_Term_paste_48 : decode prog_7_method_11_code 48 = .ok (.aload_n 1, 1) := by decide +kernel
theorem d_Term_paste_49 : decode prog_7_method_11_code 49 = .ok (.getfield 24, 3) := by decide +kernel
theorem d_Term_paste_52 : decode prog_7_method_11_code 52 = .ok (.iconst 0, 1) := by decide +kernel
theorem d_Term_paste_53 : decode prog_7_method_11_code 53 = .ok (.aload_n 0, 1) := by decide +kernel
theorem d_Term_paste_54 : decode prog_7_method_11_code 54 = .ok (.getfield 24, 3) := by decide +kernel
theorem d_Term_paste_57 : decode prog_7_method_11_code 57 = .ok (.iload_n 2, 1) := by decide +kernel
theorem d_Term_paste_58 : decode prog_7_method_11_code 58 = .ok (.iload_n 3, 1) := by decide +kernel
theorem d_Term_paste_59 : decode prog_7_method_11_code 59 = .ok (.invokestatic 41, 3) := by decide +kernel
theorem d_Term_paste_62 : decode prog_7_method_11_code 62 = .ok (.return_, 1) := by decide +kernel
theorem d_Term_countNodes_0 : decode prog_7_method_12_code 0 = .ok (.aload_n 0, 1) := by decide +kernel
theorem d_Term_countNodes_1 : decode prog_7_method_12_code 1 = .ok (.getfield 15, 3) := by decide +kernel
theorem d_Term_countNodes_4 : decode prog_7_method_12_code 4 = .ok (.arraylength, 1) := by decide +kernel
theorem d_Term_countNodes_5 : decode prog_7_method_12_code 5 = .ok (.iconst 1, 1) := by decide +kernel
theorem d_Term_countNodes_6 : decode prog_7_method_12_code 6 = .ok (.isub, 1) := by decide +kernel
theorem d_Term_countNodes_7 : decode prog_7_method_12_code 7 = .ok (.istore_n 1, 1) := by decide +kernel
theorem d_Term_countNodes_8 : decode prog_7_method_12_code 8 = .ok (.iload_n 1, 1) := by decide +kernel
theorem d_Term_countNodes_9 : decode prog_7_method_12_code 9 = .ok (.ifCond .lt 50, 3) := by decide +kernel
theorem d_Term_countNodes_12 : decode prog_7_method_12_code 12 = .ok (.iconst 0, 1) := by decide +kernel
theorem d_Term_countNodes_13 : decode prog_7_method_12_code 13 = .ok (.istore_n 2, 1) := by decide +kernel
theorem d_Term_countNodes_14 : decode prog_7_method_12_code 14 = .ok (.aload_n 0, 1) := by decide +kernel
theorem d_Term_countNodes_15 : decode prog_7_method_12_code 15 = .ok (.getfield 15, 3) := by decide +kernel
theorem d_Term_countNodes_18 : decode prog_7_method_12_code 18 = .ok (.iload_n 1, 1) := by decide +kernel
theorem d_Term_countNodes_19 : decode prog_7_method_12_code 19 = .ok (.iaload, 1) := by decide +kernel
theorem d_Term_countNodes_20 : decode prog_7_method_12_code 20 = .ok (.iconst 4, 1) := by decide +kernel
theorem d_Term_countNodes_21 : decode prog_7_method_12_code 21 = .ok (.if_icmp .lt 23, 3) := by decide +kernel
theorem d_Term_countNodes_24 : decode prog_7_method_12_code 24 = .ok (.aload_n 0, 1) := by decide +kernel
theorem d_Term_countNodes_25 : decode prog_7_method_12_code 25 = .ok (.iload_n 1, 1) := by decide +kernel
theorem d_Term_countNodes_26 : decode prog_7_method_12_code 26 = .ok (.iconst 1, 1) := by decide +kernel
theorem d_Term_countNodes_27 : decode prog_7_method_12_code 27 = .ok (.iadd, 1) := by decide +kernel
theorem d_Term_countNodes_28 : decode prog_7_method_12_code 28 = .ok (.invokevirtual 30, 3) := by decide +kernel
theorem d_Term_countNodes_31 : decode prog_7_method_12_code 31 = .ok (.istore_n 3, 1) := by decide +kernel
theorem d_Term_countNodes_32 : decode prog_7_method_12_code 32 = .ok (.iload_n 3, 1) := by decide +kernel
theorem d_Term_countNodes_33 : decode prog_7_method_12_code 33 = .ok (.aload_n 0, 1) := by decide +kernel
theorem d_Term_countNodes_34 : decode prog_7_method_12_code 34 = .ok (.iload_n 1, 1) := by decide +kernel
theorem d_Term_countNodes_35 : decode prog_7_method_12_code 35 = .ok (.iconst 1, 1) := by decide +kernel
theorem d_Term_countNodes_36 : decode prog_7_method_12_code 36 = .ok (.iadd, 1) := by decide +kernel
theorem d_Term_countNodes_37 : decode prog_7_method_12_code 37 = .ok (.iload_n 3, 1) := by decide +kernel
theorem d_Term_countNodes_38 : decode prog_7_method_12_code 38 = .ok (.iadd, 1) := by decide +kernel
theorem d_Term_countNodes_39 : decode prog_7_method_12_code 39 = .ok (.invokevirtual 30, 3) := by decide +kernel
theorem d_Term_countNodes_42 : decode prog_7_method_12_code 42 = .ok (.iadd, 1) := by decide +kernel
theorem d_Term_countNodes_43 : decode prog_7_method_12_code 43 = .ok (.istore_n 2, 1) := by decide +kernel
theorem d_Term_countNodes_44 : decode prog_7_method_12_code 44 = .ok (.aload_n 0, 1) := by decide +kernel
theorem d_Term_countNodes_45 : decode prog_7_method_12_code 45 = .ok (.getfield 27, 3) := by decide +kernel
theorem d_Term_countNodes_48 : decode prog_7_method_12_code 48 = .ok (.iload_n 1, 1) := by decide +kernel
theorem d_Term_countNodes_49 : decode prog_7_method_12_code 49 = .ok (.iconst 1, 1) := by decide +kernel
theorem d_Term_countNodes_50 : decode prog_7_method_12_code 50 = .ok (.iload_n 2, 1) := by decide +kernel
theorem d_Term_countNodes_51 : decode prog_7_method_12_code 51 = .ok (.iadd, 1) := by decide +kernel
theorem d_Term_countNodes_52 : decode prog_7_method_12_code 52 = .ok (.iastore, 1) := by decide +kernel
theorem d_Term_countNodes_53 : decode prog_7_method_12_code 53 = .ok (.iinc 1 (-1), 3) := by decide +kernel
theorem d_Term_countNodes_56 : decode prog_7_method_12_code 56 = .ok (.goto (-48), 3) := by decide +kernel
theorem d_Term_countNodes_59 : decode prog_7_method_12_code 59 = .ok (.return_, 1) := by decide +kernel
theorem d_Term_countFamily_0 : decode prog_7_method_13_code 0 = .ok (.iconst 0, 1) := by decide +kernel
theorem d_Term_countFamily_1 : decode prog_7_method_13_code 1 = .ok (.istore 4, 2) := by decide +kernel
theorem d_Term_countFamily_3 : decode prog_7_method_13_code 3 = .ok (.iload_n 2, 1) := by decide +kernel
theorem d_Term_countFamily_4 : decode prog_7_method_13_code 4 = .ok (.istore 5, 2) := by decide +kernel
theorem d_Term_countFamily_6 : decode prog_7_method_13_code 6 = .ok (.iload 5, 2) := by decide +kernel
theorem d_Term_countFamily_8 : decode prog_7_method_13_code 8 = .ok (.iload_n 3, 1) := by decide +kernel
theorem d_Term_countFamily_9 : decode prog_7_method_13_code 9 = .ok (.if_icmp .ge 42, 3) := by decide +kernel
theorem d_Term_countFamily_12 : decode prog_7_method_13_code 12 = .ok (.aload_n 0, 1) := by decide +kernel
theorem d_Term_countFamily_13 : decode prog_7_method_13_code 13 = .ok (.iload 5, 2) := by decide +kernel
theorem d_Term_countFamily_15 : decode prog_7_method_13_code 15 = .ok (.invokevirtual 47, 3) := by decide +kernel
theorem d_Term_countFamily_18 : decode prog_7_method_13_code 18 = .ok (.istore 6, 2) := by decide +kernel
theorem d_Term_countFamily_20 : decode prog_7_method_13_code 20 = .ok (.iload 6, 2) := by decide +kernel
theorem d_Term_countFamily_22 : decode prog_7_method_13_code 22 = .ok (.iconst 1, 1) := by decide +kernel
theorem d_Term_countFamily_23 : decode prog_7_method_13_code 23 = .ok (.if_icmp .eq 9, 3) := by decide +kernel
theorem d_Term_countFamily_26 : decode prog_7_method_13_code 26 = .ok (.iload 6, 2) := by decide +kernel
theorem d_Term_countFamily_28 : decode prog_7_method_13_code 28 = .ok (.iconst 3, 1) := by decide +kernel
theorem d_Term_countFamily_29 : decode prog_7_method_13_code 29 = .ok (.if_icmp .ne 16, 3) := by decide +kernel
theorem d_Term_countFamily_32 : decode prog_7_method_13_code 32 = .ok (.aload_n 0, 1) := by decide +kernel
theorem d_Term_countFamily_33 : decode prog_7_method_13_code 33 = .ok (.iload 5, 2) := by decide +kernel
theorem d_Term_countFamily_35 : decode prog_7_method_13_code 35 = .ok (.invokevirtual 50, 3) := by decide +kernel
theorem d_Term_countFamily_38 : decode prog_7_method_13_code 38 = .ok (.iload_n 1, 1) := by decide +kernel
theorem d_Term_countFamily_39 : decode prog_7_method_13_code 39 = .ok (.if_icmp .ne 6, 3) := by decide +kernel
theorem d_Term_countFamily_42 : decode prog_7_method_13_code 42 = .ok (.iinc 4 1, 3) := by decide +kernel
theorem d_Term_countFamily_45 : decode prog_7_method_13_code 45 = .ok (.iinc 5 1, 3) := by decide +kernel
theorem d_Term_countFamily_48 : decode prog_7_method_13_code 48 = .ok (.goto (-42), 3) := by decide +kernel
theorem d_Term_countFamily_51 : decode prog_7_method_13_code 51 = .ok (.iload 4, 2) := by decide +kernel
theorem d_Term_countFamily_53 : decode prog_7_method_13_code 53 = .ok (.ireturn, 1) := by decide +kernel
theorem d_Law_law_0 : decode code 0 = .ok (.new 7, 3) := by decide +kernel
theorem d_Law_law_3 : decode code 3 = .ok (.dup, 1) := by decide +kernel
theorem d_Law_law_4 : decode code 4 = .ok (.invokespecial 9, 3) := by decide +kernel
theorem d_Law_law_7 : decode code 7 = .ok (.astore_n 1, 1) := by decide +kernel
theorem d_Law_law_8 : decode code 8 = .ok (.new 10, 3) := by decide +kernel
theorem d_Law_law_11 : decode code 11 = .ok (.dup, 1) := by decide +kernel
theorem d_Law_law_12 : decode code 12 = .ok (.invokespecial 12, 3) := by decide +kernel
theorem d_Law_law_15 : decode code 15 = .ok (.astore_n 2, 1) := by decide +kernel
theorem d_Law_law_16 : decode code 16 = .ok (.iconst 0, 1) := by decide +kernel
theorem d_Law_law_17 : decode code 17 = .ok (.istore_n 3, 1) := by decide +kernel
theorem d_Law_law_18 : decode code 18 = .ok (.iload_n 3, 1) := by decide +kernel
theorem d_Law_law_19 : decode code 19 = .ok (.aload_n 0, 1) := by decide +kernel
theorem d_Law_law_20 : decode code 20 = .ok (.arraylength, 1) := by decide +kernel
theorem d_Law_law_21 : decode code 21 = .ok (.iconst 5, 1) := by decide +kernel
theorem d_Law_law_22 : decode code 22 = .ok (.isub, 1) := by decide +kernel
theorem d_Law_law_23 : decode code 23 = .ok (.if_icmp .gt 522, 3) := by decide +kernel
theorem d_Law_law_26 : decode code 26 = .ok (.aload_n 0, 1) := by decide +kernel
theorem d_Law_law_27 : decode code 27 = .ok (.iload_n 3, 1) := by decide +kernel
theorem d_Law_law_28 : decode code 28 = .ok (.iaload, 1) := by decide +kernel
theorem d_Law_law_29 : decode code 29 = .ok (.bipush 15, 2) := by decide +kernel
theorem d_Law_law_31 : decode code 31 = .ok (.iand, 1) := by decide +kernel
theorem d_Law_law_32 : decode code 32 = .ok (.tableswitch 507 0 12 #[68, 111, 144, 197, 210, 253, 286, 319, 362, 395, 418, 451, 464], 68) := by decide +kernel
theorem d_Law_law_100 : decode code 100 = .ok (.aload_n 1, 1) := by decide +kernel
theorem d_Law_law_101 : decode code 101 = .ok (.aload_n 0, 1) := by decide +kernel
theorem d_Law_law_102 : decode code 102 = .ok (.iload_n 3, 1) := by decide +kernel
theorem d_Law_law_103 : decode code 103 = .ok (.iconst 1, 1) := by decide +kernel
theorem d_Law_law_104 : decode code 104 = .ok (.iadd, 1) := by decide +kernel
theorem d_Law_law_105 : decode code 105 = .ok (.iaload, 1) := by decide +kernel
theorem d_Law_law_106 : decode code 106 = .ok (.aload_n 0, 1) := by decide +kernel
theorem d_Law_law_107 : decode code 107 = .ok (.iload_n 3, 1) := by decide +kernel
theorem d_Law_law_108 : decode code 108 = .ok (.iconst 2, 1) := by decide +kernel
theorem d_Law_law_109 : decode code 109 = .ok (.iadd, 1) := by decide +kernel
theorem d_Law_law_110 : decode code 110 = .ok (.iaload, 1) := by decide +kernel
theorem d_Law_law_111 : decode code 111 = .ok (.aload_n 0, 1) := by decide +kernel
theorem d_Law_law_112 : decode code 112 = .ok (.iload_n 3, 1) := by decide +kernel
theorem d_Law_law_113 : decode code 113 = .ok (.iconst 3, 1) := by decide +kernel
theorem d_Law_law_114 : decode code 114 = .ok (.iadd, 1) := by decide +kernel
theorem d_Law_law_115 : decode code 115 = .ok (.iaload, 1) := by decide +kernel
theorem d_Law_law_116 : decode code 116 = .ok (.invokevirtual 13, 3) := by decide +kernel
theorem d_Law_law_119 : decode code 119 = .ok (.aload_n 2, 1) := by decide +kernel
theorem d_Law_law_120 : decode code 120 = .ok (.aload_n 0, 1) := by decide +kernel
theorem d_Law_law_121 : decode code 121 = .ok (.iload_n 3, 1) := by decide +kernel
theorem d_Law_law_122 : decode code 122 = .ok (.iconst 1, 1) := by decide +kernel
theorem d_Law_law_123 : decode code 123 = .ok (.iadd, 1) := by decide +kernel
theorem d_Law_law_124 : decode code 124 = .ok (.iaload, 1) := by decide +kernel
theorem d_Law_law_125 : decode code 125 = .ok (.aload_n 0, 1) := by decide +kernel
theorem d_Law_law_126 : decode code 126 = .ok (.iload_n 3, 1) := by decide +kernel
theorem d_Law_law_127 : decode code 127 = .ok (.iconst 2, 1) := by decide +kernel
theorem d_Law_law_128 : decode code 128 = .ok (.iadd, 1) := by decide +kernel
theorem d_Law_law_129 : decode code 129 = .ok (.iaload, 1) := by decide +kernel
theorem d_Law_law_130 : decode code 130 = .ok (.aload_n 0, 1) := by decide +kernel
theorem d_Law_law_131 : decode code 131 = .ok (.iload_n 3, 1) := by decide +kernel
