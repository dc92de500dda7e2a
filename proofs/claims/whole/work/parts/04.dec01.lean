/-! decode rows -/
theorem d_Mod_init_22 : decode prog_9_method_1_code 22 = .ok (.aload_n 0, 1) := by decide +kernel
theorem d_Mod_init_23 : decode prog_9_method_1_code 23 = .ok (.sipush 1024, 3) := by decide +kernel
theorem d_Mod_init_26 : decode prog_9_method_1_code 26 = .ok (.newarray .int, 2) := by decide +kernel
theorem d_Mod_init_28 : decode prog_9_method_1_code 28 = .ok (.putfield 16, 3) := by decide +kernel
theorem d_Mod_init_31 : decode prog_9_method_1_code 31 = .ok (.aload_n 0, 1) := by decide +kernel
theorem d_Mod_init_32 : decode prog_9_method_1_code 32 = .ok (.sipush 1024, 3) := by decide +kernel
theorem d_Mod_init_35 : decode prog_9_method_1_code 35 = .ok (.newarray .int, 2) := by decide +kernel
theorem d_Mod_init_37 : decode prog_9_method_1_code 37 = .ok (.putfield 19, 3) := by decide +kernel
theorem d_Mod_init_40 : decode prog_9_method_1_code 40 = .ok (.aload_n 0, 1) := by decide +kernel
theorem d_Mod_init_41 : decode prog_9_method_1_code 41 = .ok (.sipush 1024, 3) := by decide +kernel
theorem d_Mod_init_44 : decode prog_9_method_1_code 44 = .ok (.newarray .int, 2) := by decide +kernel
theorem d_Mod_init_46 : decode prog_9_method_1_code 46 = .ok (.putfield 22, 3) := by decide +kernel
theorem d_Mod_init_49 : decode prog_9_method_1_code 49 = .ok (.aload_n 0, 1) := by decide +kernel
theorem d_Mod_init_50 : decode prog_9_method_1_code 50 = .ok (.sipush 1500, 3) := by decide +kernel
theorem d_Mod_init_53 : decode prog_9_method_1_code 53 = .ok (.newarray .int, 2) := by decide +kernel
theorem d_Mod_init_55 : decode prog_9_method_1_code 55 = .ok (.putfield 25, 3) := by decide +kernel
theorem d_Mod_init_58 : decode prog_9_method_1_code 58 = .ok (.aload_n 0, 1) := by decide +kernel
theorem d_Mod_init_59 : decode prog_9_method_1_code 59 = .ok (.bipush 100, 2) := by decide +kernel
theorem d_Mod_init_61 : decode prog_9_method_1_code 61 = .ok (.newarray .int, 2) := by decide +kernel
theorem d_Mod_init_63 : decode prog_9_method_1_code 63 = .ok (.putfield 28, 3) := by decide +kernel
theorem d_Mod_init_66 : decode prog_9_method_1_code 66 = .ok (.aload_n 0, 1) := by decide +kernel
theorem d_Mod_init_67 : decode prog_9_method_1_code 67 = .ok (.bipush 100, 2) := by decide +kernel
theorem d_Mod_init_69 : decode prog_9_method_1_code 69 = .ok (.newarray .int, 2) := by decide +kernel
theorem d_Mod_init_71 : decode prog_9_method_1_code 71 = .ok (.putfield 31, 3) := by decide +kernel
theorem d_Mod_init_74 : decode prog_9_method_1_code 74 = .ok (.aload_n 0, 1) := by decide +kernel
theorem d_Mod_init_75 : decode prog_9_method_1_code 75 = .ok (.bipush 100, 2) := by decide +kernel
theorem d_Mod_init_77 : decode prog_9_method_1_code 77 = .ok (.newarray .int, 2) := by decide +kernel
theorem d_Mod_init_79 : decode prog_9_method_1_code 79 = .ok (.putfield 34, 3) := by decide +kernel
theorem d_Mod_init_82 : decode prog_9_method_1_code 82 = .ok (.aload_n 0, 1) := by decide +kernel
theorem d_Mod_init_83 : decode prog_9_method_1_code 83 = .ok (.bipush 100, 2) := by decide +kernel
theorem d_Mod_init_85 : decode prog_9_method_1_code 85 = .ok (.newarray .int, 2) := by decide +kernel
theorem d_Mod_init_87 : decode prog_9_method_1_code 87 = .ok (.putfield 37, 3) := by decide +kernel
theorem d_Mod_init_90 : decode prog_9_method_1_code 90 = .ok (.aload_n 0, 1) := by decide +kernel
theorem d_Mod_init_91 : decode prog_9_method_1_code 91 = .ok (.bipush 100, 2) := by decide +kernel
theorem d_Mod_init_93 : decode prog_9_method_1_code 93 = .ok (.newarray .int, 2) := by decide +kernel
theorem d_Mod_init_95 : decode prog_9_method_1_code 95 = .ok (.putfield 40, 3) := by decide +kernel
theorem d_Mod_init_98 : decode prog_9_method_1_code 98 = .ok (.aload_n 0, 1) := by decide +kernel
theorem d_Mod_init_99 : decode prog_9_method_1_code 99 = .ok (.bipush 100, 2) := by decide +kernel
theorem d_Mod_init_101 : decode prog_9_method_1_code 101 = .ok (.newarray .int, 2) := by decide +kernel
theorem d_Mod_init_103 : decode prog_9_method_1_code 103 = .ok (.putfield 43, 3) := by decide +kernel
theorem d_Mod_init_106 : decode prog_9_method_1_code 106 = .ok (.aload_n 0, 1) := by decide +kernel
theorem d_Mod_init_107 : decode prog_9_method_1_code 107 = .ok (.bipush 64, 2) := by decide +kernel
theorem d_Mod_init_109 : decode prog_9_method_1_code 109 = .ok (.newarray .int, 2) := by decide +kernel
theorem d_Mod_init_111 : decode prog_9_method_1_code 111 = .ok (.putfield 46, 3) := by decide +kernel
theorem d_Mod_init_114 : decode prog_9_method_1_code 114 = .ok (.return_, 1) := by decide +kernel
theorem d_Mod_wide_0 : decode prog_9_method_2_code 0 = .ok (.iconst 2, 1) := by decide +kernel
theorem d_Mod_wide_1 : decode prog_9_method_2_code 1 = .ok (.aload_n 0, 1) := by decide +kernel
theorem d_Mod_wide_2 : decode prog_9_method_2_code 2 = .ok (.arraylength, 1) := by decide +kernel
theorem d_Mod_wide_3 : decode prog_9_method_2_code 3 = .ok (.imul, 1) := by decide +kernel
theorem d_Mod_wide_4 : decode prog_9_method_2_code 4 = .ok (.newarray .int, 2) := by decide +kernel
theorem d_Mod_wide_6 : decode prog_9_method_2_code 6 = .ok (.astore_n 1, 1) := by decide +kernel
theorem d_Mod_wide_7 : decode prog_9_method_2_code 7 = .ok (.aload_n 0, 1) := by decide +kernel
theorem d_Mod_wide_8 : decode prog_9_method_2_code 8 = .ok (.iconst 0, 1) := by decide +kernel
theorem d_Mod_wide_9 : decode prog_9_method_2_code 9 = .ok (.aload_n 1, 1) := by decide +kernel
theorem d_Mod_wide_10 : decode prog_9_method_2_code 10 = .ok (.iconst 0, 1) := by decide +kernel
theorem d_Mod_wide_11 : decode prog_9_method_2_code 11 = .ok (.aload_n 0, 1) := by decide +kernel
theorem d_Mod_wide_12 : decode prog_9_method_2_code 12 = .ok (.arraylength, 1) := by decide +kernel
theorem d_Mod_wide_13 : decode prog_9_method_2_code 13 = .ok (.invokestatic 49, 3) := by decide +kernel
theorem d_Mod_wide_16 : decode prog_9_method_2_code 16 = .ok (.aload_n 1, 1) := by decide +kernel
theorem d_Mod_wide_17 : decode prog_9_method_2_code 17 = .ok (.areturn, 1) := by decide +kernel
theorem d_Mod_add_0 : decode prog_9_method_3_code 0 = .ok (.aload_n 0, 1) := by decide +kernel
theorem d_Mod_add_1 : decode prog_9_method_3_code 1 = .ok (.getfield 55, 3) := by decide +kernel
theorem d_Mod_add_4 : decode prog_9_method_3_code 4 = .ok (.aload_n 0, 1) := by decide +kernel
theorem d_Mod_add_5 : decode prog_9_method_3_code 5 = .ok (.getfield 7, 3) := by decide +kernel
theorem d_Mod_add_8 : decode prog_9_method_3_code 8 = .ok (.arraylength, 1) := by decide +kernel
theorem d_Mod_add_9 : decode prog_9_method_3_code 9 = .ok (.if_icmp .ne 58, 3) := by decide +kernel
theorem d_Mod_add_12 : decode prog_9_method_3_code 12 = .ok (.aload_n 0, 1) := by decide +kernel
theorem d_Mod_add_13 : decode prog_9_method_3_code 13 = .ok (.aload_n 0, 1) := by decide +kernel
theorem d_Mod_add_14 : decode prog_9_method_3_code 14 = .ok (.getfield 7, 3) := by decide +kernel
theorem d_Mod_add_17 : decode prog_9_method_3_code 17 = .ok (.invokestatic 59, 3) := by decide +kernel
theorem d_Mod_add_20 : decode prog_9_method_3_code 20 = .ok (.putfield 7, 3) := by decide +kernel
theorem d_Mod_add_23 : decode prog_9_method_3_code 23 = .ok (.aload_n 0, 1) := by decide +kernel
theorem d_Mod_add_24 : decode prog_9_method_3_code 24 = .ok (.aload_n 0, 1) := by decide +kernel
theorem d_Mod_add_25 : decode prog_9_method_3_code 25 = .ok (.getfield 13, 3) := by decide +kernel
theorem d_Mod_add_28 : decode prog_9_method_3_code 28 = .ok (.invokestatic 59, 3) := by decide +kernel
theorem d_Mod_add_31 : decode prog_9_method_3_code 31 = .ok (.putfield 13, 3) := by decide +kernel
theorem d_Mod_add_34 : decode prog_9_method_3_code 34 = .ok (.aload_n 0, 1) := by decide +kernel
theorem d_Mod_add_35 : decode prog_9_method_3_code 35 = .ok (.aload_n 0, 1) := by decide +kernel
theorem d_Mod_add_36 : decode prog_9_method_3_code 36 = .ok (.getfield 16, 3) := by decide +kernel
theorem d_Mod_add_39 : decode prog_9_method_3_code 39 = .ok (.invokestatic 59, 3) := by decide +kernel
theorem d_Mod_add_42 : decode prog_9_method_3_code 42 = .ok (.putfield 16, 3) := by decide +kernel
theorem d_Mod_add_45 : decode prog_9_method_3_code 45 = .ok (.aload_n 0, 1) := by decide +kernel
theorem d_Mod_add_46 : decode prog_9_method_3_code 46 = .ok (.aload_n 0, 1) := by decide +kernel
theorem d_Mod_add_47 : decode prog_9_method_3_code 47 = .ok (.getfield 19, 3) := by decide +kernel
theorem d_Mod_add_50 : decode prog_9_method_3_code 50 = .ok (.invokestatic 59, 3) := by decide +kernel
theorem d_Mod_add_53 : decode prog_9_method_3_code 53 = .ok (.putfield 19, 3) := by decide +kernel
theorem d_Mod_add_56 : decode prog_9_method_3_code 56 = .ok (.aload_n 0, 1) := by decide +kernel
theorem d_Mod_add_57 : decode prog_9_method_3_code 57 = .ok (.aload_n 0, 1) := by decide +kernel
theorem d_Mod_add_58 : decode prog_9_method_3_code 58 = .ok (.getfield 22, 3) := by decide +kernel
theorem d_Mod_add_61 : decode prog_9_method_3_code 61 = .ok (.invokestatic 59, 3) := by decide +kernel
theorem d_Mod_add_64 : decode prog_9_method_3_code 64 = .ok (.putfield 22, 3) := by decide +kernel
theorem d_Mod_add_67 : decode prog_9_method_3_code 67 = .ok (.aload_n 0, 1) := by decide +kernel
theorem d_Mod_add_68 : decode prog_9_method_3_code 68 = .ok (.getfield 7, 3) := by decide +kernel
theorem d_Mod_add_71 : decode prog_9_method_3_code 71 = .ok (.aload_n 0, 1) := by decide +kernel
theorem d_Mod_add_72 : decode prog_9_method_3_code 72 = .ok (.getfield 55, 3) := by decide +kernel
theorem d_Mod_add_75 : decode prog_9_method_3_code 75 = .ok (.iload_n 1, 1) := by decide +kernel
theorem d_Mod_add_76 : decode prog_9_method_3_code 76 = .ok (.iastore, 1) := by decide +kernel
theorem d_Mod_add_77 : decode prog_9_method_3_code 77 = .ok (.aload_n 0, 1) := by decide +kernel
theorem d_Mod_add_78 : decode prog_9_method_3_code 78 = .ok (.getfield 13, 3) := by decide +kernel
theorem d_Mod_add_81 : decode prog_9_method_3_code 81 = .ok (.aload_n 0, 1) := by decide +kernel
theorem d_Mod_add_82 : decode prog_9_method_3_code 82 = .ok (.getfield 55, 3) := by decide +kernel
theorem d_Mod_add_85 : decode prog_9_method_3_code 85 = .ok (.iload_n 2, 1) := by decide +kernel
theorem d_Mod_add_86 : decode prog_9_method_3_code 86 = .ok (.iastore, 1) := by decide +kernel
theorem d_Mod_add_87 : decode prog_9_method_3_code 87 = .ok (.aload_n 0, 1) := by decide +kernel
theorem d_Mod_add_88 : decode prog_9_method_3_code 88 = .ok (.getfield 16, 3) := by decide +kernel
theorem d_Mod_add_91 : decode prog_9_method_3_code 91 = .ok (.aload_n 0, 1) := by decide +kernel
theorem d_Mod_add_92 : decode prog_9_method_3_code 92 = .ok (.getfield 55, 3) := by decide +kernel
theorem d_Mod_add_95 : decode prog_9_method_3_code 95 = .ok (.iload_n 3, 1) := by decide +kernel
theorem d_Mod_add_96 : decode prog_9_method_3_code 96 = .ok (.iastore, 1) := by decide +kernel
theorem d_Mod_add_97 : decode prog_9_method_3_code 97 = .ok (.aload_n 0, 1) := by decide +kernel
theorem d_Mod_add_98 : decode prog_9_method_3_code 98 = .ok (.getfield 19, 3) := by decide +kernel
theorem d_Mod_add_101 : decode prog_9_method_3_code 101 = .ok (.aload_n 0, 1) := by decide +kernel
theorem d_Mod_add_102 : decode prog_9_method_3_code 102 = .ok (.getfield 55, 3) := by decide +kernel
theorem d_Mod_add_105 : decode prog_9_method_3_code 105 = .ok (.iconst 1, 1) := by decide +kernel
theorem d_Mod_add_106 : decode prog_9_method_3_code 106 = .ok (.iastore, 1) := by decide +kernel
theorem d_Mod_add_107 : decode prog_9_method_3_code 107 = .ok (.aload_n 0, 1) := by decide +kernel
theorem d_Mod_add_108 : decode prog_9_method_3_code 108 = .ok (.dup, 1) := by decide +kernel
theorem d_Mod_add_109 : decode prog_9_method_3_code 109 = .ok (.getfield 55, 3) := by decide +kernel
theorem d_Mod_add_112 : decode prog_9_method_3_code 112 = .ok (.dup_x1, 1) := by decide +kernel
theorem d_Mod_add_113 : decode prog_9_method_3_code 113 = .ok (.iconst 1, 1) := by decide +kernel
theorem d_Mod_add_114 : decode prog_9_method_3_code 114 = .ok (.iadd, 1) := by decide +kernel
theorem d_Mod_add_115 : decode prog_9_method_3_code 115 = .ok (.putfield 55, 3) := by decide +kernel
theorem d_Mod_add_118 : decode prog_9_method_3_code 118 = .ok (.ireturn, 1) := by decide +kernel
theorem d_Mod_second_0 : decode prog_9_method_4_code 0 = .ok (.iload_n 1, 1) := by decide +kernel
theorem d_Mod_second_1 : decode prog_9_method_4_code 1 = .ok (.iconst 1, 1) := by decide +kernel
theorem d_Mod_second_2 : decode prog_9_method_4_code 2 = .ok (.iadd, 1) := by decide +kernel
theorem d_Mod_second_3 : decode prog_9_method_4_code 3 = .ok (.aload_n 0, 1) := by decide +kernel
theorem d_Mod_second_4 : decode prog_9_method_4_code 4 = .ok (.getfield 19, 3) := by decide +kernel
theorem d_Mod_second_7 : decode prog_9_method_4_code 7 = .ok (.iload_n 1, 1) := by decide +kernel
theorem d_Mod_second_8 : decode prog_9_method_4_code 8 = .ok (.iconst 1, 1) := by decide +kernel
theorem d_Mod_second_9 : decode prog_9_method_4_code 9 = .ok (.iadd, 1) := by decide +kernel
theorem d_Mod_second_10 : decode prog_9_method_4_code 10 = .ok (.iaload, 1) := by decide +kernel
theorem d_Mod_second_11 : decode prog_9_method_4_code 11 = .ok (.iadd, 1) := by decide +kernel
theorem d_Mod_second_12 : decode prog_9_method_4_code 12 = .ok (.ireturn, 1) := by decide +kernel
theorem d_Mod_copy_0 : decode prog_9_method_5_code 0 = .ok (.iload_n 1, 1) := by decide +kernel
theorem d_Mod_copy_1 : decode prog_9_method_5_code 1 = .ok (.aload_n 0, 1) := by decide +kernel
theorem d_Mod_copy_2 : decode prog_9_method_5_code 2 = .ok (.getfield 19, 3) := by decide +kernel
theorem d_Mod_copy_5 : decode prog_9_method_5_code 5 = .ok (.iload_n 1, 1) := by decide +kernel
theorem d_Mod_copy_6 : decode prog_9_method_5_code 6 = .ok (.iaload, 1) := by decide +kernel
theorem d_Mod_copy_7 : decode prog_9_method_5_code 7 = .ok (.iadd, 1) := by decide +kernel
theorem d_Mod_copy_8 : decode prog_9_method_5_code 8 = .ok (.istore_n 2, 1) := by decide +kernel
theorem d_Mod_copy_9 : decode prog_9_method_5_code 9 = .ok (.iload_n 1, 1) := by decide +kernel
theorem d_Mod_copy_10 : decode prog_9_method_5_code 10 = .ok (.istore_n 3, 1) := by decide +kernel
theorem d_Mod_copy_11 : decode prog_9_method_5_code 11 = .ok (.iload_n 3, 1) := by decide +kernel
theorem d_Mod_copy_12 : decode prog_9_method_5_code 12 = .ok (.iload_n 2, 1) := by decide +kernel
theorem d_Mod_copy_13 : decode prog_9_method_5_code 13 = .ok (.if_icmp .ge 46, 3) := by decide +kernel
theorem d_Mod_copy_16 : decode prog_9_method_5_code 16 = .ok (.aload_n 0, 1) := by decide +kernel
theorem d_Mod_copy_17 : decode prog_9_method_5_code 17 = .ok (.aload_n 0, 1) := by decide +kernel
theorem d_Mod_copy_18 : decode prog_9_method_5_code 18 = .ok (.getfield 7, 3) := by decide +kernel
theorem d_Mod_copy_21 : decode prog_9_method_5_code 21 = .ok (.iload_n 3, 1) := by decide +kernel
theorem d_Mod_copy_22 : decode prog_9_method_5_code 22 = .ok (.iaload, 1) := by decide +kernel
theorem d_Mod_copy_23 : decode prog_9_method_5_code 23 = .ok (.aload_n 0, 1) := by decide +kernel
theorem d_Mod_copy_24 : decode prog_9_method_5_code 24 = .ok (.getfield 13, 3) := by decide +kernel
theorem d_Mod_copy_27 : decode prog_9_method_5_code 27 = .ok (.iload_n 3, 1) := by decide +kernel
theorem d_Mod_copy_28 : decode prog_9_method_5_code 28 = .ok (.iaload, 1) := by decide +kernel
theorem d_Mod_copy_29 : decode prog_9_method_5_code 29 = .ok (.aload_n 0, 1) := by decide +kernel
theorem d_Mod_copy_30 : decode prog_9_method_5_code 30 = .ok (.getfield 16, 3) := by decide +kernel
theorem d_Mod_copy_33 : decode prog_9_method_5_code 33 = .ok (.iload_n 3, 1) := by decide +kernel
theorem d_Mod_copy_34 : decode prog_9_method_5_code 34 = .ok (.iaload, 1) := by decide +kernel
theorem d_Mod_copy_35 : decode prog_9_method_5_code 35 = .ok (.invokevirtual 63, 3) := by decide +kernel
theorem d_Mod_copy_38 : decode prog_9_method_5_code 38 = .ok (.istore 4, 2) := by decide +kernel
theorem d_Mod_copy_40 : decode prog_9_method_5_code 40 = .ok (.aload_n 0, 1) := by decide +kernel
theorem d_Mod_copy_41 : decode prog_9_method_5_code 41 = .ok (.getfield 19, 3) := by decide +kernel
theorem d_Mod_copy_44 : decode prog_9_method_5_code 44 = .ok (.iload 4, 2) := by decide +kernel
theorem d_Mod_copy_46 : decode prog_9_method_5_code 46 = .ok (.aload_n 0, 1) := by decide +kernel
theorem d_Mod_copy_47 : decode prog_9_method_5_code 47 = .ok (.getfield 19, 3) := by decide +kernel
theorem d_Mod_copy_50 : decode prog_9_method_5_code 50 = .ok (.iload_n 3, 1) := by decide +kernel
theorem d_Mod_copy_51 : decode prog_9_method_5_code 51 = .ok (.iaload, 1) := by decide +kernel
theorem d_Mod_copy_52 : decode prog_9_method_5_code 52 = .ok (.iastore, 1) := by decide +kernel
theorem d_Mod_copy_53 : decode prog_9_method_5_code 53 = .ok (.iinc 3 1, 3) := by decide +kernel
theorem d_Mod_copy_56 : decode prog_9_method_5_code 56 = .ok (.goto (-45), 3) := by decide +kernel
theorem d_Mod_copy_59 : decode prog_9_method_5_code 59 = .ok (.return_, 1) := by decide +kernel
theorem d_Mod_measure_0 : decode prog_9_method_6_code 0 = .ok (.aload_n 0, 1) := by decide +kernel
theorem d_Mod_measure_1 : decode prog_9_method_6_code 1 = .ok (.getfield 55, 3) := by decide +kernel
theorem d_Mod_measure_4 : decode prog_9_method_6_code 4 = .ok (.iconst 1, 1) := by decide +kernel
theorem d_Mod_measure_5 : decode prog_9_method_6_code 5 = .ok (.isub, 1) := by decide +kernel
theorem d_Mod_measure_6 : decode prog_9_method_6_code 6 = .ok (.istore_n 2, 1) := by decide +kernel
theorem d_Mod_measure_7 : decode prog_9_method_6_code 7 = .ok (.iload_n 2, 1) := by decide +kernel
theorem d_Mod_measure_8 : decode prog_9_method_6_code 8 = .ok (.iload_n 1, 1) := by decide +kernel
theorem d_Mod_measure_9 : decode prog_9_method_6_code 9 = .ok (.if_icmp .lt 50, 3) := by decide +kernel
theorem d_Mod_measure_12 : decode prog_9_method_6_code 12 = .ok (.iload_n 2, 1) := by decide +kernel
theorem d_Mod_measure_13 : decode prog_9_method_6_code 13 = .ok (.iconst 1, 1) := by decide +kernel
theorem d_Mod_measure_14 : decode prog_9_method_6_code 14 = .ok (.iadd, 1) := by decide +kernel
theorem d_Mod_measure_15 : decode prog_9_method_6_code 15 = .ok (.istore_n 3, 1) := by decide +kernel
theorem d_Mod_measure_16 : decode prog_9_method_6_code 16 = .ok (.aload_n 0, 1) := by decide +kernel
theorem d_Mod_measure_17 : decode prog_9_method_6_code 17 = .ok (.getfield 7, 3) := by decide +kernel
theorem d_Mod_measure_20 : decode prog_9_method_6_code 20 = .ok (.iload_n 2, 1) := by decide +kernel
theorem d_Mod_measure_21 : decode prog_9_method_6_code 21 = .ok (.iaload, 1) := by decide +kernel
theorem d_Mod_measure_22 : decode prog_9_method_6_code 22 = .ok (.iconst 4, 1) := by decide +kernel
theorem d_Mod_measure_23 : decode prog_9_method_6_code 23 = .ok (.if_icmp .lt 21, 3) := by decide +kernel
theorem d_Mod_measure_26 : decode prog_9_method_6_code 26 = .ok (.iload_n 3, 1) := by decide +kernel
theorem d_Mod_measure_27 : decode prog_9_method_6_code 27 = .ok (.aload_n 0, 1) := by decide +kernel
theorem d_Mod_measure_28 : decode prog_9_method_6_code 28 = .ok (.getfield 19, 3) := by decide +kernel
theorem d_Mod_measure_31 : decode prog_9_method_6_code 31 = .ok (.iload_n 3, 1) := by decide +kernel
theorem d_Mod_measure_32 : decode prog_9_method_6_code 32 = .ok (.iaload, 1) := by decide +kernel
theorem d_Mod_measure_33 : decode prog_9_method_6_code 33 = .ok (.iadd, 1) := by decide +kernel
theorem d_Mod_measure_34 : decode prog_9_method_6_code 34 = .ok (.istore_n 3, 1) := by decide +kernel
theorem d_Mod_measure_35 : decode prog_9_method_6_code 35 = .ok (.iload_n 3, 1) := by decide +kernel
theorem d_Mod_measure_36 : decode prog_9_method_6_code 36 = .ok (.aload_n 0, 1) := by decide +kernel
theorem d_Mod_measure_37 : decode prog_9_method_6_code 37 = .ok (.getfield 19, 3) := by decide +kernel
theorem d_Mod_measure_40 : decode prog_9_method_6_code 40 = .ok (.iload_n 3, 1) := by decide +kernel
theorem d_Mod_measure_41 : decode prog_9_method_6_code 41 = .ok (.iaload, 1) := by decide +kernel
theorem d_Mod_measure_42 : decode prog_9_method_6_code 42 = .ok (.iadd, 1) := by decide +kernel
theorem d_Mod_measure_43 : decode prog_9_method_6_code 43 = .ok (.istore_n 3, 1) := by decide +kernel
theorem d_Mod_measure_44 : decode prog_9_method_6_code 44 = .ok (.aload_n 0, 1) := by decide +kernel
theorem d_Mod_measure_45 : decode prog_9_method_6_code 45 = .ok (.getfield 19, 3) := by decide +kernel
theorem d_Mod_measure_48 : decode prog_9_method_6_code 48 = .ok (.iload_n 2, 1) := by decide +kernel
theorem d_Mod_measure_49 : decode prog_9_method_6_code 49 = .ok (.iload_n 3, 1) := by decide +kernel
theorem d_Mod_measure_50 : decode prog_9_method_6_code 50 = .ok (.iload_n 2, 1) := by decide +kernel
theorem d_Mod_measure_51 : decode prog_9_method_6_code 51 = .ok (.isub, 1) := by decide +kernel
theorem d_Mod_measure_52 : decode prog_9_method_6_code 52 = .ok (.iastore, 1) := by decide +kernel
theorem d_Mod_measure_53 : decode prog_9_method_6_code 53 = .ok (.iinc 2 (-1), 3) := by decide +kernel
theorem d_Mod_measure_56 : decode prog_9_method_6_code 56 = .ok (.goto (-49), 3) := by decide +kernel
theorem d_Mod_measure_59 : decode prog_9_method_6_code 59 = .ok (.return_, 1) := by decide +kernel
theorem d_Mod_walk_0 : decode prog_9_method_7_code 0 = .ok (.aload_n 0, 1) := by decide +kernel
theorem d_Mod_walk_1 : decode prog_9_method_7_code 1 = .ok (.getfield 22, 3) := by decide +kernel
theorem d_Mod_walk_4 : decode prog_9_method_7_code 4 = .ok (.iload_n 1, 1) := by decide +kernel
theorem d_Mod_walk_5 : decode prog_9_method_7_code 5 = .ok (.iconst 0, 1) := by decide +kernel
theorem d_Mod_walk_6 : decode prog_9_method_7_code 6 = .ok (.iastore, 1) := by decide +kernel
theorem d_Mod_walk_7 : decode prog_9_method_7_code 7 = .ok (.iload_n 1, 1) := by decide +kernel
theorem d_Mod_walk_8 : decode prog_9_method_7_code 8 = .ok (.istore_n 2, 1) := by decide +kernel
theorem d_Mod_walk_9 : decode prog_9_method_7_code 9 = .ok (.iload_n 2, 1) := by decide +kernel
theorem d_Mod_walk_10 : decode prog_9_method_7_code 10 = .ok (.iload_n 1, 1) := by decide +kernel
theorem d_Mod_walk_11 : decode prog_9_method_7_code 11 = .ok (.aload_n 0, 1) := by decide +kernel
theorem d_Mod_walk_12 : decode prog_9_method_7_code 12 = .ok (.getfield 19, 3) := by decide +kernel
theorem d_Mod_walk_15 : decode prog_9_method_7_code 15 = .ok (.iload_n 1, 1) := by decide +kernel
theorem d_Mod_walk_16 : decode prog_9_method_7_code 16 = .ok (.iaload, 1) := by decide +kernel
theorem d_Mod_walk_17 : decode prog_9_method_7_code 17 = .ok (.iadd, 1) := by decide +kernel
theorem d_Mod_walk_18 : decode prog_9_method_7_code 18 = .ok (.if_icmp .ge 70, 3) := by decide +kernel
theorem d_Mod_walk_21 : decode prog_9_method_7_code 21 = .ok (.aload_n 0, 1) := by decide +kernel
theorem d_Mod_walk_22 : decode prog_9_method_7_code 22 = .ok (.getfield 7, 3) := by decide +kernel
theorem d_Mod_walk_25 : decode prog_9_method_7_code 25 = .ok (.iload_n 2, 1) := by decide +kernel
theorem d_Mod_walk_26 : decode prog_9_method_7_code 26 = .ok (.iaload, 1) := by decide +kernel
theorem d_Mod_walk_27 : decode prog_9_method_7_code 27 = .ok (.iconst 4, 1) := by decide +kernel
theorem d_Mod_walk_28 : decode prog_9_method_7_code 28 = .ok (.if_icmp .lt 54, 3) := by decide +kernel
theorem d_Mod_walk_31 : decode prog_9_method_7_code 31 = .ok (.aload_n 0, 1) := by decide +kernel
theorem d_Mod_walk_32 : decode prog_9_method_7_code 32 = .ok (.getfield 22, 3) := by decide +kernel
theorem d_Mod_walk_35 : decode prog_9_method_7_code 35 = .ok (.iload_n 2, 1) := by decide +kernel
theorem d_Mod_walk_36 : decode prog_9_method_7_code 36 = .ok (.iconst 1, 1) := by decide +kernel
theorem d_Mod_walk_37 : decode prog_9_method_7_code 37 = .ok (.iadd, 1) := by decide +kernel
theorem d_Mod_walk_38 : decode prog_9_method_7_code 38 = .ok (.aload_n 0, 1) := by decide +kernel
theorem d_Mod_walk_39 : decode prog_9_method_7_code 39 = .ok (.getfield 22, 3) := by decide +kernel
theorem d_Mod_walk_42 : decode prog_9_method_7_code 42 = .ok (.iload_n 2, 1) := by decide +kernel
theorem d_Mod_walk_43 : decode prog_9_method_7_code 43 = .ok (.iaload, 1) := by decide +kernel
theorem d_Mod_walk_44 : decode prog_9_method_7_code 44 = .ok (.iastore, 1) := by decide +kernel
theorem d_Mod_walk_45 : decode prog_9_method_7_code 45 = .ok (.aload_n 0, 1) := by decide +kernel
theorem d_Mod_walk_46 : decode prog_9_method_7_code 46 = .ok (.getfield 22, 3) := by decide +kernel
theorem d_Mod_walk_49 : decode prog_9_method_7_code 49 = .ok (.aload_n 0, 1) := by decide +kernel
theorem d_Mod_walk_50 : decode prog_9_method_7_code 50 = .ok (.iload_n 2, 1) := by decide +kernel
theorem d_Mod_walk_51 : decode prog_9_method_7_code 51 = .ok (.invokevirtual 67, 3) := by decide +kernel
theorem d_Mod_walk_54 : decode prog_9_method_7_code 54 = .ok (.aload_n 0, 1) := by decide +kernel
theorem d_Mod_walk_55 : decode prog_9_method_7_code 55 = .ok (.getfield 7, 3) := by decide +kernel
theorem d_Mod_walk_58 : decode prog_9_method_7_code 58 = .ok (.iload_n 2, 1) := by decide +kernel
theorem d_Mod_walk_59 : decode prog_9_method_7_code 59 = .ok (.iaload, 1) := by decide +kernel
theorem d_Mod_walk_60 : decode prog_9_method_7_code 60 = .ok (.iconst 4, 1) := by decide +kernel
theorem d_Mod_walk_61 : decode prog_9_method_7_code 61 = .ok (.if_icmp .ne 12, 3) := by decide +kernel
theorem d_Mod_walk_64 : decode prog_9_method_7_code 64 = .ok (.aload_n 0, 1) := by decide +kernel
theorem d_Mod_walk_65 : decode prog_9_method_7_code 65 = .ok (.getfield 22, 3) := by decide +kernel
theorem d_Mod_walk_68 : decode prog_9_method_7_code 68 = .ok (.iload_n 2, 1) := by decide +kernel
theorem d_Mod_walk_69 : decode prog_9_method_7_code 69 = .ok (.iaload, 1) := by decide +kernel
theorem d_Mod_walk_70 : decode prog_9_method_7_code 70 = .ok (.goto 11, 3) := by decide +kernel
theorem d_Mod_walk_73 : decode prog_9_method_7_code 73 = .ok (.aload_n 0, 1) := by decide +kernel
theorem d_Mod_walk_74 : decode prog_9_method_7_code 74 = .ok (.getfield 22, 3) := by decide +kernel
theorem d_Mod_walk_77 : decode prog_9_method_7_code 77 = .ok (.iload_n 2, 1) := by decide +kernel
theorem d_Mod_walk_78 : decode prog_9_method_7_code 78 = .ok (.iaload, 1) := by decide +kernel
theorem d_Mod_walk_79 : decode prog_9_method_7_code 79 = .ok (.iconst 1, 1) := by decide +kernel
theorem d_Mod_walk_80 : decode prog_9_method_7_code 80 = .ok (.iadd, 1) := by decide +kernel
theorem d_Mod_walk_81 : decode prog_9_method_7_code 81 = .ok (.iastore, 1) := by decide +kernel
theorem d_Mod_walk_82 : decode prog_9_method_7_code 82 = .ok (.iinc 2 1, 3) := by decide +kernel
theorem d_Mod_walk_85 : decode prog_9_method_7_code 85 = .ok (.goto (-76), 3) := by decide +kernel
theorem d_Mod_walk_88 : decode prog_9_method_7_code 88 = .ok (.return_, 1) := by decide +kernel
theorem d_Mod_isClosed_0 : decode prog_9_method_8_code 0 = .ok (.aload_n 0, 1) := by decide +kernel
theorem d_Mod_isClosed_1 : decode prog_9_method_8_code 1 = .ok (.iload_n 1, 1) := by decide +kernel
theorem d_Mod_isClosed_2 : decode prog_9_method_8_code 2 = .ok (.invokevirtual 71, 3) := by decide +kernel
theorem d_Mod_isClosed_5 : decode prog_9_method_8_code 5 = .ok (.iconst 1, 1) := by decide +kernel
theorem d_Mod_isClosed_6 : decode prog_9_method_8_code 6 = .ok (.istore_n 2, 1) := by decide +kernel
theorem d_Mod_isClosed_7 : decode prog_9_method_8_code 7 = .ok (.iload_n 1, 1) := by decide +kernel
theorem d_Mod_isClosed_8 : decode prog_9_method_8_code 8 = .ok (.istore_n 3, 1) := by decide +kernel
theorem d_Mod_isClosed_9 : decode prog_9_method_8_code 9 = .ok (.iload_n 3, 1) := by decide +kernel
theorem d_Mod_isClosed_10 : decode prog_9_method_8_code 10 = .ok (.iload_n 1, 1) := by decide +kernel
theorem d_Mod_isClosed_11 : decode prog_9_method_8_code 11 = .ok (.aload_n 0, 1) := by decide +kernel
theorem d_Mod_isClosed_12 : decode prog_9_method_8_code 12 = .ok (.getfield 19, 3) := by decide +kernel
theorem d_Mod_isClosed_15 : decode prog_9_method_8_code 15 = .ok (.iload_n 1, 1) := by decide +kernel
theorem d_Mod_isClosed_16 : decode prog_9_method_8_code 16 = .ok (.iaload, 1) := by decide +kernel
theorem d_Mod_isClosed_17 : decode prog_9_method_8_code 17 = .ok (.iadd, 1) := by decide +kernel
theorem d_Mod_isClosed_18 : decode prog_9_method_8_code 18 = .ok (.if_icmp .ge 41, 3) := by decide +kernel
theorem d_Mod_isClosed_21 : decode prog_9_method_8_code 21 = .ok (.iload_n 2, 1) := by decide +kernel
theorem d_Mod_isClosed_22 : decode prog_9_method_8_code 22 = .ok (.aload_n 0, 1) := by decide +kernel
theorem d_Mod_isClosed_23 : decode prog_9_method_8_code 23 = .ok (.getfield 7, 3) := by decide +kernel
theorem d_Mod_isClosed_26 : decode prog_9_method_8_code 26 = .ok (.iload_n 3, 1) := by decide +kernel
theorem d_Mod_isClosed_27 : decode prog_9_method_8_code 27 = .ok (.iaload, 1) := by decide +kernel
theorem d_Mod_isClosed_28 : decode prog_9_method_8_code 28 = .ok (.ifCond .ne 18, 3) := by decide +kernel
theorem d_Mod_isClosed_31 : decode prog_9_method_8_code 31 = .ok (.aload_n 0, 1) := by decide +kernel
theorem d_Mod_isClosed_32 : decode prog_9_method_8_code 32 = .ok (.getfield 13, 3) := by decide +kernel
theorem d_Mod_isClosed_35 : decode prog_9_method_8_code 35 = .ok (.iload_n 3, 1) := by decide +kernel
theorem d_Mod_isClosed_36 : decode prog_9_method_8_code 36 = .ok (.iaload, 1) := by decide +kernel
theorem d_Mod_isClosed_37 : decode prog_9_method_8_code 37 = .ok (.aload_n 0, 1) := by decide +kernel
theorem d_Mod_isClosed_38 : decode prog_9_method_8_code 38 = .ok (.getfield 22, 3) := by decide +kernel
theorem d_Mod_isClosed_41 : decode prog_9_method_8_code 41 = .ok (.iload_n 3, 1) := by decide +kernel
theorem d_Mod_isClosed_42 : decode prog_9_method_8_code 42 = .ok (.iaload, 1) := by decide +kernel
theorem d_Mod_isClosed_43 : decode prog_9_method_8_code 43 = .ok (.if_icmp .ge 7, 3) := by decide +kernel
theorem d_Mod_isClosed_46 : decode prog_9_method_8_code 46 = .ok (.iconst 1, 1) := by decide +kernel
theorem d_Mod_isClosed_47 : decode prog_9_method_8_code 47 = .ok (.goto 4, 3) := by decide +kernel
theorem d_Mod_isClosed_50 : decode prog_9_method_8_code 50 = .ok (.iconst 0, 1) := by decide +kernel
theorem d_Mod_isClosed_51 : decode prog_9_method_8_code 51 = .ok (.iand, 1) := by decide +kernel
theorem d_Mod_isClosed_52 : decode prog_9_method_8_code 52 = .ok (.istore_n 2, 1) := by decide +kernel
theorem d_Mod_isClosed_53 : decode prog_9_method_8_code 53 = .ok (.iinc 3 1, 3) := by decide +kernel
theorem d_Mod_isClosed_56 : decode prog_9_method_8_code 56 = .ok (.goto (-47), 3) := by decide +kernel
theorem d_Mod_isClosed_59 : decode prog_9_method_8_code 59 = .ok (.iload_n 2, 1) := by decide +kernel
theorem d_Mod_isClosed_60 : decode prog_9_method_8_code 60 = .ok (.ireturn, 1) := by decide +kernel
theorem d_Mod_isTerm_0 : decode prog_9_method_9_code 0 = .ok (.iload_n 1, 1) := by decide +kernel
theorem d_Mod_isTerm_1 : decode prog_9_method_9_code 1 = .ok (.ifCond .lt 15, 3) := by decide +kernel
theorem d_Mod_isTerm_4 : decode prog_9_method_9_code 4 = .ok (.iload_n 1, 1) := by decide +kernel
theorem d_Mod_isTerm_5 : decode prog_9_method_9_code 5 = .ok (.aload_n 0, 1) := by decide +kernel
theorem d_Mod_isTerm_6 : decode prog_9_method_9_code 6 = .ok (.getfield 75, 3) := by decide +kernel
theorem d_Mod_isTerm_9 : decode prog_9_method_9_code 9 = .ok (.if_icmp .ge 7, 3) := by decide +kernel
theorem d_Mod_isTerm_12 : decode prog_9_method_9_code 12 = .ok (.iconst 1, 1) := by decide +kernel
theorem d_Mod_isTerm_13 : decode prog_9_method_9_code 13 = .ok (.goto 4, 3) := by decide +kernel
theorem d_Mod_isTerm_16 : decode prog_9_method_9_code 16 = .ok (.iconst 0, 1) := by decide +kernel
theorem d_Mod_isTerm_17 : decode prog_9_method_9_code 17 = .ok (.ireturn, 1) := by decide +kernel
theorem d_Mod_term_0 : decode prog_9_method_10_code 0 = .ok (.aload_n 0, 1) := by decide +kernel
theorem d_Mod_term_1 : decode prog_9_method_10_code 1 = .ok (.getfield 75, 3) := by decide +kernel
theorem d_Mod_term_4 : decode prog_9_method_10_code 4 = .ok (.sipush 1500, 3) := by decide +kernel
theorem d_Mod_term_7 : decode prog_9_method_10_code 7 = .ok (.if_icmp .eq 25, 3) := by decide +kernel
theorem d_Mod_term_10 : decode prog_9_method_10_code 10 = .ok (.aload_n 0, 1) := by decide +kernel
theorem d_Mod_term_11 : decode prog_9_method_10_code 11 = .ok (.getfield 55, 3) := by decide +kernel
theorem d_Mod_term_14 : decode prog_9_method_10_code 14 = .ok (.iload_n 1, 1) := by decide +kernel
theorem d_Mod_term_15 : decode prog_9_method_10_code 15 = .ok (.isub, 1) := by decide +kernel
theorem d_Mod_term_16 : decode prog_9_method_10_code 16 = .ok (.sipush 1000, 3) := by decide +kernel
theorem d_Mod_term_19 : decode prog_9_method_10_code 19 = .ok (.if_icmp .gt 13, 3) := by decide +kernel
theorem d_Mod_term_22 : decode prog_9_method_10_code 22 = .ok (.aload_n 0, 1) := by decide +kernel
theorem d_Mod_term_23 : decode prog_9_method_10_code 23 = .ok (.getfield 55, 3) := by decide +kernel
theorem d_Mod_term_26 : decode prog_9_method_10_code 26 = .ok (.sipush 30000, 3) := by decide +kernel
theorem d_Mod_term_29 : decode prog_9_method_10_code 29 = .ok (.if_icmp .le 10, 3) := by decide +kernel
theorem d_Mod_term_32 : decode prog_9_method_10_code 32 = .ok (.aload_n 0, 1) := by decide +kernel
theorem d_Mod_term_33 : decode prog_9_method_10_code 33 = .ok (.iload_n 1, 1) := by decide +kernel
theorem d_Mod_term_34 : decode prog_9_method_10_code 34 = .ok (.putfield 55, 3) := by decide +kernel
theorem d_Mod_term_37 : decode prog_9_method_10_code 37 = .ok (.iconst (-1), 1) := by decide +kernel
theorem d_Mod_term_38 : decode prog_9_method_10_code 38 = .ok (.ireturn, 1) := by decide +kernel
theorem d_Mod_term_39 : decode prog_9_method_10_code 39 = .ok (.aload_n 0, 1) := by decide +kernel
theorem d_Mod_term_40 : decode prog_9_method_10_code 40 = .ok (.iload_n 1, 1) := by decide +kernel
theorem d_Mod_term_41 : decode prog_9_method_10_code 41 = .ok (.invokevirtual 78, 3) := by decide +kernel
theorem d_Mod_term_44 : decode prog_9_method_10_code 44 = .ok (.aload_n 0, 1) := by decide +kernel
theorem d_Mod_term_45 : decode prog_9_method_10_code 45 = .ok (.getfield 25, 3) := by decide +kernel
theorem d_Mod_term_48 : decode prog_9_method_10_code 48 = .ok (.aload_n 0, 1) := by decide +kernel
theorem d_Mod_term_49 : decode prog_9_method_10_code 49 = .ok (.getfield 75, 3) := by decide +kernel
theorem d_Mod_term_52 : decode prog_9_method_10_code 52 = .ok (.iload_n 1, 1) := by decide +kernel
theorem d_Mod_term_53 : decode prog_9_method_10_code 53 = .ok (.iastore, 1) := by decide +kernel
theorem d_Mod_term_54 : decode prog_9_method_10_code 54 = .ok (.aload_n 0, 1) := by decide +kernel
theorem d_Mod_term_55 : decode prog_9_method_10_code 55 = .ok (.dup, 1) := by decide +kernel
theorem d_Mod_term_56 : decode prog_9_method_10_code 56 = .ok (.getfield 75, 3) := by decide +kernel
theorem d_Mod_term_59 : decode prog_9_method_10_code 59 = .ok (.dup_x1, 1) := by decide +kernel
theorem d_Mod_term_60 : decode prog_9_method_10_code 60 = .ok (.iconst 1, 1) := by decide +kernel
theorem d_Mod_term_61 : decode prog_9_method_10_code 61 = .ok (.iadd, 1) := by decide +kernel
theorem d_Mod_term_62 : decode prog_9_method_10_code 62 = .ok (.putfield 75, 3) := by decide +kernel
theorem d_Mod_term_65 : decode prog_9_method_10_code 65 = .ok (.ireturn, 1) := by decide +kernel
theorem d_Mod_leaf_0 : decode prog_9_method_11_code 0 = .ok (.iload_n 1, 1) := by decide +kernel
theorem d_Mod_leaf_1 : decode prog_9_method_11_code 1 = .ok (.ifCond .eq 8, 3) := by decide +kernel
theorem d_Mod_leaf_4 : decode prog_9_method_11_code 4 = .ok (.iload_n 1, 1) := by decide +kernel
theorem d_Mod_leaf_5 : decode prog_9_method_11_code 5 = .ok (.iconst 2, 1) := by decide +kernel
theorem d_Mod_leaf_6 : decode prog_9_method_11_code 6 = .ok (.if_icmp .ne 21, 3) := by decide +kernel
theorem d_Mod_leaf_9 : decode prog_9_method_11_code 9 = .ok (.iload_n 2, 1) := by decide +kernel
theorem d_Mod_leaf_10 : decode prog_9_method_11_code 10 = .ok (.ifCond .lt 13, 3) := by decide +kernel
theorem d_Mod_leaf_13 : decode prog_9_method_11_code 13 = .ok (.iload_n 2, 1) := by decide +kernel
theorem d_Mod_leaf_14 : decode prog_9_method_11_code 14 = .ok (.bipush 100, 2) := by decide +kernel
theorem d_Mod_leaf_16 : decode prog_9_method_11_code 16 = .ok (.if_icmp .gt 7, 3) := by decide +kernel
theorem d_Mod_leaf_19 : decode prog_9_method_11_code 19 = .ok (.iconst 1, 1) := by decide +kernel
theorem d_Mod_leaf_20 : decode prog_9_method_11_code 20 = .ok (.goto 34, 3) := by decide +kernel
theorem d_Mod_leaf_23 : decode prog_9_method_11_code 23 = .ok (.iconst 0, 1) := by decide +kernel
theorem d_Mod_leaf_24 : decode prog_9_method_11_code 24 = .ok (.goto 30, 3) := by decide +kernel
theorem d_Mod_leaf_27 : decode prog_9_method_11_code 27 = .ok (.iload_n 1, 1) := by decide +kernel
theorem d_Mod_leaf_28 : decode prog_9_method_11_code 28 = .ok (.iconst 1, 1) := by decide +kernel
theorem d_Mod_leaf_29 : decode prog_9_method_11_code 29 = .ok (.if_icmp .eq 8, 3) := by decide +kernel
theorem d_Mod_leaf_32 : decode prog_9_method_11_code 32 = .ok (.iload_n 1, 1) := by decide +kernel
theorem d_Mod_leaf_33 : decode prog_9_method_11_code 33 = .ok (.iconst 3, 1) := by decide +kernel
theorem d_Mod_leaf_34 : decode prog_9_method_11_code 34 = .ok (.if_icmp .ne 19, 3) := by decide +kernel
theorem d_Mod_leaf_37 : decode prog_9_method_11_code 37 = .ok (.iload_n 2, 1) := by decide +kernel
theorem d_Mod_leaf_38 : decode prog_9_method_11_code 38 = .ok (.ifCond .lt 15, 3) := by decide +kernel
theorem d_Mod_leaf_41 : decode prog_9_method_11_code 41 = .ok (.iload_n 2, 1) := by decide +kernel
theorem d_Mod_leaf_42 : decode prog_9_method_11_code 42 = .ok (.aload_n 0, 1) := by decide +kernel
theorem d_Mod_leaf_43 : decode prog_9_method_11_code 43 = .ok (.getfield 81, 3) := by decide +kernel
theorem d_Mod_leaf_46 : decode prog_9_method_11_code 46 = .ok (.if_icmp .ge 7, 3) := by decide +kernel
theorem d_Mod_leaf_49 : decode prog_9_method_11_code 49 = .ok (.iconst 1, 1) := by decide +kernel
theorem d_Mod_leaf_50 : decode prog_9_method_11_code 50 = .ok (.goto 4, 3) := by decide +kernel
theorem d_Mod_leaf_53 : decode prog_9_method_11_code 53 = .ok (.iconst 0, 1) := by decide +kernel
theorem d_Mod_leaf_54 : decode prog_9_method_11_code 54 = .ok (.istore 4, 2) := by decide +kernel
theorem d_Mod_leaf_56 : decode prog_9_method_11_code 56 = .ok (.iload 4, 2) := by decide +kernel
theorem d_Mod_leaf_58 : decode prog_9_method_11_code 58 = .ok (.ifCond .eq 35, 3) := by decide +kernel
theorem d_Mod_leaf_61 : decode prog_9_method_11_code 61 = .ok (.iload_n 1, 1) := by decide +kernel
theorem d_Mod_leaf_62 : decode prog_9_method_11_code 62 = .ok (.iconst 3, 1) := by decide +kernel
theorem d_Mod_leaf_63 : decode prog_9_method_11_code 63 = .ok (.if_icmp .ne 26, 3) := by decide +kernel
theorem d_Mod_leaf_66 : decode prog_9_method_11_code 66 = .ok (.aload_n 0, 1) := by decide +kernel
theorem d_Mod_leaf_67 : decode prog_9_method_11_code 67 = .ok (.getfield 28, 3) := by decide +kernel
theorem d_Mod_leaf_70 : decode prog_9_method_11_code 70 = .ok (.iload_n 2, 1) := by decide +kernel
theorem d_Mod_leaf_71 : decode prog_9_method_11_code 71 = .ok (.iaload, 1) := by decide +kernel
theorem d_Mod_leaf_72 : decode prog_9_method_11_code 72 = .ok (.iconst 3, 1) := by decide +kernel
theorem d_Mod_leaf_73 : decode prog_9_method_11_code 73 = .ok (.if_icmp .ne 20, 3) := by decide +kernel
theorem d_Mod_leaf_76 : decode prog_9_method_11_code 76 = .ok (.iload_n 3, 1) := by decide +kernel
theorem d_Mod_leaf_77 : decode prog_9_method_11_code 77 = .ok (.ifCond .lt 16, 3) := by decide +kernel
theorem d_Mod_leaf_80 : decode prog_9_method_11_code 80 = .ok (.iload_n 3, 1) := by decide +kernel
theorem d_Mod_leaf_81 : decode prog_9_method_11_code 81 = .ok (.bipush 100, 2) := by decide +kernel
theorem d_Mod_leaf_83 : decode prog_9_method_11_code 83 = .ok (.if_icmp .le 12, 3) := by decide +kernel
theorem d_Mod_leaf_86 : decode prog_9_method_11_code 86 = .ok (.goto 7, 3) := by decide +kernel
theorem d_Mod_leaf_89 : decode prog_9_method_11_code 89 = .ok (.iload_n 3, 1) := by decide +kernel
theorem d_Mod_leaf_90 : decode prog_9_method_11_code 90 = .ok (.ifCond .eq 5, 3) := by decide +kernel
theorem d_Mod_leaf_93 : decode prog_9_method_11_code 93 = .ok (.iconst (-1), 1) := by decide +kernel
theorem d_Mod_leaf_94 : decode prog_9_method_11_code 94 = .ok (.ireturn, 1) := by decide +kernel
theorem d_Mod_leaf_95 : decode prog_9_method_11_code 95 = .ok (.aload_n 0, 1) := by decide +kernel
theorem d_Mod_leaf_96 : decode prog_9_method_11_code 96 = .ok (.iload_n 1, 1) := by decide +kernel
theorem d_Mod_leaf_97 : decode prog_9_method_11_code 97 = .ok (.iload_n 2, 1) := by decide +kernel
theorem d_Mod_leaf_98 : decode prog_9_method_11_code 98 = .ok (.iload_n 3, 1) := by decide +kernel
theorem d_Mod_leaf_99 : decode prog_9_method_11_code 99 = .ok (.invokevirtual 63, 3) := by decide +kernel
theorem d_Mod_leaf_102 : decode prog_9_method_11_code 102 = .ok (.istore 5, 2) := by decide +kernel
theorem d_Mod_leaf_104 : decode prog_9_method_11_code 104 = .ok (.aload_n 0, 1) := by decide +kernel
theorem d_Mod_leaf_105 : decode prog_9_method_11_code 105 = .ok (.iload 5, 2) := by decide +kernel
theorem d_Mod_leaf_107 : decode prog_9_method_11_code 107 = .ok (.invokevirtual 84, 3) := by decide +kernel
theorem d_Mod_leaf_110 : decode prog_9_method_11_code 110 = .ok (.ireturn, 1) := by decide +kernel
theorem d_Mod_two_0 : decode prog_9_method_12_code 0 = .ok (.aload_n 0, 1) := by decide +kernel
theorem d_Mod_two_1 : decode prog_9_method_12_code 1 = .ok (.iload_n 1, 1) := by decide +kernel
theorem d_Mod_two_2 : decode prog_9_method_12_code 2 = .ok (.iload_n 2, 1) := by decide +kernel
theorem d_Mod_two_3 : decode prog_9_method_12_code 3 = .ok (.iconst 0, 1) := by decide +kernel
theorem d_Mod_two_4 : decode prog_9_method_12_code 4 = .ok (.invokevirtual 63, 3) := by decide +kernel
theorem d_Mod_two_7 : decode prog_9_method_12_code 7 = .ok (.istore 5, 2) := by decide +kernel
theorem d_Mod_two_9 : decode prog_9_method_12_code 9 = .ok (.aload_n 0, 1) := by decide +kernel
theorem d_Mod_two_10 : decode prog_9_method_12_code 10 = .ok (.aload_n 0, 1) := by decide +kernel
theorem d_Mod_two_11 : decode prog_9_method_12_code 11 = .ok (.getfield 25, 3) := by decide +kernel
theorem d_Mod_two_14 : decode prog_9_method_12_code 14 = .ok (.iload_n 3, 1) := by decide +kernel
theorem d_Mod_two_15 : decode prog_9_method_12_code 15 = .ok (.iaload, 1) := by decide +kernel
theorem d_Mod_two_16 : decode prog_9_method_12_code 16 = .ok (.invokevirtual 87, 3) := by decide +kernel
theorem d_Mod_two_19 : decode prog_9_method_12_code 19 = .ok (.aload_n 0, 1) := by decide +kernel
theorem d_Mod_two_20 : decode prog_9_method_12_code 20 = .ok (.aload_n 0, 1) := by decide +kernel
theorem d_Mod_two_21 : decode prog_9_method_12_code 21 = .ok (.getfield 25, 3) := by decide +kernel
theorem d_Mod_two_24 : decode prog_9_method_12_code 24 = .ok (.iload 4, 2) := by decide +kernel
theorem d_Mod_two_26 : decode prog_9_method_12_code 26 = .ok (.iaload, 1) := by decide +kernel
theorem d_Mod_two_27 : decode prog_9_method_12_code 27 = .ok (.invokevirtual 87, 3) := by decide +kernel
theorem d_Mod_two_30 : decode prog_9_method_12_code 30 = .ok (.aload_n 0, 1) := by decide +kernel
theorem d_Mod_two_31 : decode prog_9_method_12_code 31 = .ok (.iload 5, 2) := by decide +kernel
theorem d_Mod_two_33 : decode prog_9_method_12_code 33 = .ok (.invokevirtual 84, 3) := by decide +kernel
theorem d_Mod_two_36 : decode prog_9_method_12_code 36 = .ok (.ireturn, 1) := by decide +kernel
theorem d_Mod_apply_0 : decode prog_9_method_13_code 0 = .ok (.aload_n 0, 1) := by decide +kernel
theorem d_Mod_apply_1 : decode prog_9_method_13_code 1 = .ok (.iload_n 1, 1) := by decide +kernel
theorem d_Mod_apply_2 : decode prog_9_method_13_code 2 = .ok (.invokevirtual 90, 3) := by decide +kernel
theorem d_Mod_apply_5 : decode prog_9_method_13_code 5 = .ok (.ifCond .eq 22, 3) := by decide +kernel
theorem d_Mod_apply_8 : decode prog_9_method_13_code 8 = .ok (.aload_n 0, 1) := by decide +kernel
theorem d_Mod_apply_9 : decode prog_9_method_13_code 9 = .ok (.iload_n 2, 1) := by decide +kernel
theorem d_Mod_apply_10 : decode prog_9_method_13_code 10 = .ok (.invokevirtual 90, 3) := by decide +kernel
theorem d_Mod_apply_13 : decode prog_9_method_13_code 13 = .ok (.ifCond .eq 14, 3) := by decide +kernel
theorem d_Mod_apply_16 : decode prog_9_method_13_code 16 = .ok (.aload_n 0, 1) := by decide +kernel
theorem d_Mod_apply_17 : decode prog_9_method_13_code 17 = .ok (.iconst 4, 1) := by decide +kernel
theorem d_Mod_apply_18 : decode prog_9_method_13_code 18 = .ok (.iconst 0, 1) := by decide +kernel
theorem d_Mod_apply_19 : decode prog_9_method_13_code 19 = .ok (.iload_n 1, 1) := by decide +kernel
theorem d_Mod_apply_20 : decode prog_9_method_13_code 20 = .ok (.iload_n 2, 1) := by decide +kernel
theorem d_Mod_apply_21 : decode prog_9_method_13_code 21 = .ok (.invokevirtual 94, 3) := by decide +kernel
theorem d_Mod_apply_24 : decode prog_9_method_13_code 24 = .ok (.goto 4, 3) := by decide +kernel
theorem d_Mod_apply_27 : decode prog_9_method_13_code 27 = .ok (.iconst (-1), 1) := by decide +kernel
theorem d_Mod_apply_28 : decode prog_9_method_13_code 28 = .ok (.ireturn, 1) := by decide +kernel
theorem d_Mod_binder_0 : decode prog_9_method_14_code 0 = .ok (.iload_n 1, 1) := by decide +kernel
theorem d_Mod_binder_1 : decode prog_9_method_14_code 1 = .ok (.iconst 5, 1) := by decide +kernel
theorem d_Mod_binder_2 : decode prog_9_method_14_code 2 = .ok (.if_icmp .eq 9, 3) := by decide +kernel
theorem d_Mod_binder_5 : decode prog_9_method_14_code 5 = .ok (.iload_n 1, 1) := by decide +kernel
theorem d_Mod_binder_6 : decode prog_9_method_14_code 6 = .ok (.bipush 6, 2) := by decide +kernel
theorem d_Mod_binder_8 : decode prog_9_method_14_code 8 = .ok (.if_icmp .ne 43, 3) := by decide +kernel
theorem d_Mod_binder_11 : decode prog_9_method_14_code 11 = .ok (.iload_n 2, 1) := by decide +kernel
theorem d_Mod_binder_12 : decode prog_9_method_14_code 12 = .ok (.iconst (-1), 1) := by decide +kernel
theorem d_Mod_binder_13 : decode prog_9_method_14_code 13 = .ok (.if_icmp .lt 38, 3) := by decide +kernel
theorem d_Mod_binder_16 : decode prog_9_method_14_code 16 = .ok (.iload_n 2, 1) := by decide +kernel
theorem d_Mod_binder_17 : decode prog_9_method_14_code 17 = .ok (.bipush 100, 2) := by decide +kernel
theorem d_Mod_binder_19 : decode prog_9_method_14_code 19 = .ok (.if_icmp .ge 32, 3) := by decide +kernel
theorem d_Mod_binder_22 : decode prog_9_method_14_code 22 = .ok (.aload_n 0, 1) := by decide +kernel
theorem d_Mod_binder_23 : decode prog_9_method_14_code 23 = .ok (.iload_n 3, 1) := by decide +kernel
theorem d_Mod_binder_24 : decode prog_9_method_14_code 24 = .ok (.invokevirtual 90, 3) := by decide +kernel
theorem d_Mod_binder_27 : decode prog_9_method_14_code 27 = .ok (.ifCond .eq 24, 3) := by decide +kernel
theorem d_Mod_binder_30 : decode prog_9_method_14_code 30 = .ok (.aload_n 0, 1) := by decide +kernel
theorem d_Mod_binder_31 : decode prog_9_method_14_code 31 = .ok (.iload 4, 2) := by decide +kernel
theorem d_Mod_binder_33 : decode prog_9_method_14_code 33 = .ok (.invokevirtual 90, 3) := by decide +kernel
theorem d_Mod_binder_36 : decode prog_9_method_14_code 36 = .ok (.ifCond .eq 15, 3) := by decide +kernel
theorem d_Mod_binder_39 : decode prog_9_method_14_code 39 = .ok (.aload_n 0, 1) := by decide +kernel
theorem d_Mod_binder_40 : decode prog_9_method_14_code 40 = .ok (.iload_n 1, 1) := by decide +kernel
theorem d_Mod_binder_41 : decode prog_9_method_14_code 41 = .ok (.iload_n 2, 1) := by decide +kernel
theorem d_Mod_binder_42 : decode prog_9_method_14_code 42 = .ok (.iload_n 3, 1) := by decide +kernel
theorem d_Mod_binder_43 : decode prog_9_method_14_code 43 = .ok (.iload 4, 2) := by decide +kernel
theorem d_Mod_binder_45 : decode prog_9_method_14_code 45 = .ok (.invokevirtual 94, 3) := by decide +kernel
theorem d_Mod_binder_48 : decode prog_9_method_14_code 48 = .ok (.goto 4, 3) := by decide +kernel
theorem d_Mod_binder_51 : decode prog_9_method_14_code 51 = .ok (.iconst (-1), 1) := by decide +kernel
theorem d_Mod_binder_52 : decode prog_9_method_14_code 52 = .ok (.ireturn, 1) := by decide +kernel
theorem d_Mod_terms_0 : decode prog_9_method_15_code 0 = .ok (.aload_n 0, 1) := by decide +kernel
theorem d_Mod_terms_1 : decode prog_9_method_15_code 1 = .ok (.getfield 75, 3) := by decide +kernel
theorem d_Mod_terms_4 : decode prog_9_method_15_code 4 = .ok (.ireturn, 1) := by decide +kernel
theorem d_Mod_part3_0 : decode prog_9_method_16_code 0 = .ok (.aload_n 0, 1) := by decide +kernel
theorem d_Mod_part3_1 : decode prog_9_method_16_code 1 = .ok (.iload_n 1, 1) := by decide +kernel
theorem d_Mod_part3_2 : decode prog_9_method_16_code 2 = .ok (.invokevirtual 90, 3) := by decide +kernel
theorem d_Mod_part3_5 : decode prog_9_method_16_code 5 = .ok (.ifCond .eq 31, 3) := by decide +kernel
theorem d_Mod_part3_8 : decode prog_9_method_16_code 8 = .ok (.iload_n 2, 1) := by decide +kernel
theorem d_Mod_part3_9 : decode prog_9_method_16_code 9 = .ok (.ifCond .lt 27, 3) := by decide +kernel
theorem d_Mod_part3_12 : decode prog_9_method_16_code 12 = .ok (.iload_n 2, 1) := by decide +kernel
theorem d_Mod_part3_13 : decode prog_9_method_16_code 13 = .ok (.aload_n 0, 1) := by decide +kernel
theorem d_Mod_part3_14 : decode prog_9_method_16_code 14 = .ok (.getfield 19, 3) := by decide +kernel
theorem d_Mod_part3_17 : decode prog_9_method_16_code 17 = .ok (.aload_n 0, 1) := by decide +kernel
theorem d_Mod_part3_18 : decode prog_9_method_16_code 18 = .ok (.getfield 25, 3) := by decide +kernel
theorem d_Mod_part3_21 : decode prog_9_method_16_code 21 = .ok (.iload_n 1, 1) := by decide +kernel
theorem d_Mod_part3_22 : decode prog_9_method_16_code 22 = .ok (.iaload, 1) := by decide +kernel
theorem d_Mod_part3_23 : decode prog_9_method_16_code 23 = .ok (.iaload, 1) := by decide +kernel
theorem d_Mod_part3_24 : decode prog_9_method_16_code 24 = .ok (.if_icmp .ge 12, 3) := by decide +kernel
theorem d_Mod_part3_27 : decode prog_9_method_16_code 27 = .ok (.iload_n 3, 1) := by decide +kernel
theorem d_Mod_part3_28 : decode prog_9_method_16_code 28 = .ok (.ifCond .lt 8, 3) := by decide +kernel
theorem d_Mod_part3_31 : decode prog_9_method_16_code 31 = .ok (.iload_n 3, 1) := by decide +kernel
theorem d_Mod_part3_32 : decode prog_9_method_16_code 32 = .ok (.iconst 3, 1) := by decide +kernel
theorem d_Mod_part3_33 : decode prog_9_method_16_code 33 = .ok (.if_icmp .le 5, 3) := by decide +kernel
theorem d_Mod_part3_36 : decode prog_9_method_16_code 36 = .ok (.iconst (-1), 1) := by decide +kernel
theorem d_Mod_part3_37 : decode prog_9_method_16_code 37 = .ok (.ireturn, 1) := by decide +kernel
theorem d_Mod_part3_38 : decode prog_9_method_16_code 38 = .ok (.aload_n 0, 1) := by decide +kernel
theorem d_Mod_part3_39 : decode prog_9_method_16_code 39 = .ok (.getfield 25, 3) := by decide +kernel
theorem d_Mod_part3_42 : decode prog_9_method_16_code 42 = .ok (.iload_n 1, 1) := by decide +kernel
theorem d_Mod_part3_43 : decode prog_9_method_16_code 43 = .ok (.iaload, 1) := by decide +kernel
theorem d_Mod_part3_44 : decode prog_9_method_16_code 44 = .ok (.iload_n 2, 1) := by decide +kernel
theorem d_Mod_part3_45 : decode prog_9_method_16_code 45 = .ok (.iadd, 1) := by decide +kernel
theorem d_Mod_part3_46 : decode prog_9_method_16_code 46 = .ok (.istore 4, 2) := by decide +kernel
theorem d_Mod_part3_48 : decode prog_9_method_16_code 48 = .ok (.iload_n 3, 1) := by decide +kernel
theorem d_Mod_part3_49 : decode prog_9_method_16_code 49 = .ok (.ifCond .ne 13, 3) := by decide +kernel
theorem d_Mod_part3_52 : decode prog_9_method_16_code 52 = .ok (.aload_n 0, 1) := by decide +kernel
theorem d_Mod_part3_53 : decode prog_9_method_16_code 53 = .ok (.getfield 7, 3) := by decide +kernel
theorem d_Mod_part3_56 : decode prog_9_method_16_code 56 = .ok (.iload 4, 2) := by decide +kernel
theorem d_Mod_part3_58 : decode prog_9_method_16_code 58 = .ok (.iaload, 1) := by decide +kernel
theorem d_Mod_part3_59 : decode prog_9_method_16_code 59 = .ok (.goto 40, 3) := by decide +kernel
theorem d_Mod_part3_62 : decode prog_9_method_16_code 62 = .ok (.iload_n 3, 1) := by decide +kernel
theorem d_Mod_part3_63 : decode prog_9_method_16_code 63 = .ok (.iconst 1, 1) := by decide +kernel
theorem d_Mod_part3_64 : decode prog_9_method_16_code 64 = .ok (.if_icmp .ne 13, 3) := by decide +kernel
theorem d_Mod_part3_67 : decode prog_9_method_16_code 67 = .ok (.aload_n 0, 1) := by decide +kernel
theorem d_Mod_part3_68 : decode prog_9_method_16_code 68 = .ok (.getfield 13, 3) := by decide +kernel
theorem d_Mod_part3_71 : decode prog_9_method_16_code 71 = .ok (.iload 4, 2) := by decide +kernel
theorem d_Mod_part3_73 : decode prog_9_method_16_code 73 = .ok (.iaload, 1) := by decide +kernel
theorem d_Mod_part3_74 : decode prog_9_method_16_code 74 = .ok (.goto 25, 3) := by decide +kernel
theorem d_Mod_part3_77 : decode prog_9_method_16_code 77 = .ok (.iload_n 3, 1) := by decide +kernel
theorem d_Mod_part3_78 : decode prog_9_method_16_code 78 = .ok (.iconst 2, 1) := by decide +kernel
theorem d_Mod_part3_79 : decode prog_9_method_16_code 79 = .ok (.if_icmp .ne 13, 3) := by decide +kernel
theorem d_Mod_part3_82 : decode prog_9_method_16_code 82 = .ok (.aload_n 0, 1) := by decide +kernel
theorem d_Mod_part3_83 : decode prog_9_method_16_code 83 = .ok (.getfield 16, 3) := by decide +kernel
theorem d_Mod_part3_86 : decode prog_9_method_16_code 86 = .ok (.iload 4, 2) := by decide +kernel
theorem d_Mod_part3_88 : decode prog_9_method_16_code 88 = .ok (.iaload, 1) := by decide +kernel
theorem d_Mod_part3_89 : decode prog_9_method_16_code 89 = .ok (.goto 10, 3) := by decide +kernel
theorem d_Mod_part3_92 : decode prog_9_method_16_code 92 = .ok (.aload_n 0, 1) := by decide +kernel
theorem d_Mod_part3_93 : decode prog_9_method_16_code 93 = .ok (.getfield 19, 3) := by decide +kernel
theorem d_Mod_part3_96 : decode prog_9_method_16_code 96 = .ok (.iload 4, 2) := by decide +kernel
theorem d_Mod_part3_98 : decode prog_9_method_16_code 98 = .ok (.iaload, 1) := by decide +kernel
theorem d_Mod_part3_99 : decode prog_9_method_16_code 99 = .ok (.ireturn, 1) := by decide +kernel
theorem d_Mod_global_0 : decode prog_9_method_17_code 0 = .ok (.aload_n 0, 1) := by decide +kernel
theorem d_Mod_global_1 : decode prog_9_method_17_code 1 = .ok (.getfield 28, 3) := by decide +kernel
theorem d_Mod_global_4 : decode prog_9_method_17_code 4 = .ok (.aload_n 0, 1) := by decide +kernel
theorem d_Mod_global_5 : decode prog_9_method_17_code 5 = .ok (.getfield 81, 3) := by decide +kernel
theorem d_Mod_global_8 : decode prog_9_method_17_code 8 = .ok (.iload_n 1, 1) := by decide +kernel
theorem d_Mod_global_9 : decode prog_9_method_17_code 9 = .ok (.iastore, 1) := by decide +kernel
theorem d_Mod_global_10 : decode prog_9_method_17_code 10 = .ok (.aload_n 0, 1) := by decide +kernel
theorem d_Mod_global_11 : decode prog_9_method_17_code 11 = .ok (.getfield 31, 3) := by decide +kernel
theorem d_Mod_global_14 : decode prog_9_method_17_code 14 = .ok (.aload_n 0, 1) := by decide +kernel
theorem d_Mod_global_15 : decode prog_9_method_17_code 15 = .ok (.getfield 81, 3) := by decide +kernel
theorem d_Mod_global_18 : decode prog_9_method_17_code 18 = .ok (.iload_n 2, 1) := by decide +kernel
theorem d_Mod_global_19 : decode prog_9_method_17_code 19 = .ok (.iastore, 1) := by decide +kernel
theorem d_Mod_global_20 : decode prog_9_method_17_code 20 = .ok (.aload_n 0, 1) := by decide +kernel
theorem d_Mod_global_21 : decode prog_9_method_17_code 21 = .ok (.getfield 34, 3) := by decide +kernel
theorem d_Mod_global_24 : decode prog_9_method_17_code 24 = .ok (.aload_n 0, 1) := by decide +kernel
theorem d_Mod_global_25 : decode prog_9_method_17_code 25 = .ok (.getfield 81, 3) := by decide +kernel
theorem d_Mod_global_28 : decode prog_9_method_17_code 28 = .ok (.iload_n 3, 1) := by decide +kernel
theorem d_Mod_global_29 : decode prog_9_method_17_code 29 = .ok (.iastore, 1) := by decide +kernel
theorem d_Mod_global_30 : decode prog_9_method_17_code 30 = .ok (.aload_n 0, 1) := by decide +kernel
theorem d_Mod_global_31 : decode prog_9_method_17_code 31 = .ok (.getfield 37, 3) := by decide +kernel
theorem d_Mod_global_34 : decode prog_9_method_17_code 34 = .ok (.aload_n 0, 1) := by decide +kernel
theorem d_Mod_global_35 : decode prog_9_method_17_code 35 = .ok (.getfield 81, 3) := by decide +kernel
theorem d_Mod_global_38 : decode prog_9_method_17_code 38 = .ok (.iload_n 1, 1) := by decide +kernel
theorem d_Mod_global_39 : decode prog_9_method_17_code 39 = .ok (.iconst 4, 1) := by decide +kernel
theorem d_Mod_global_40 : decode prog_9_method_17_code 40 = .ok (.if_icmp .ne 12, 3) := by decide +kernel
theorem d_Mod_global_43 : decode prog_9_method_17_code 43 = .ok (.aload_n 0, 1) := by decide +kernel
theorem d_Mod_global_44 : decode prog_9_method_17_code 44 = .ok (.getfield 37, 3) := by decide +kernel
theorem d_Mod_global_47 : decode prog_9_method_17_code 47 = .ok (.iload_n 3, 1) := by decide +kernel
theorem d_Mod_global_48 : decode prog_9_method_17_code 48 = .ok (.iaload, 1) := by decide +kernel
theorem d_Mod_global_49 : decode prog_9_method_17_code 49 = .ok (.goto 4, 3) := by decide +kernel
theorem d_Mod_global_52 : decode prog_9_method_17_code 52 = .ok (.iconst 0, 1) := by decide +kernel
theorem d_Mod_global_53 : decode prog_9_method_17_code 53 = .ok (.iastore, 1) := by decide +kernel
theorem d_Mod_global_54 : decode prog_9_method_17_code 54 = .ok (.aload_n 0, 1) := by decide +kernel
theorem d_Mod_global_55 : decode prog_9_method_17_code 55 = .ok (.getfield 40, 3) := by decide +kernel
theorem d_Mod_global_58 : decode prog_9_method_17_code 58 = .ok (.aload_n 0, 1) := by decide +kernel
theorem d_Mod_global_59 : decode prog_9_method_17_code 59 = .ok (.getfield 81, 3) := by decide +kernel
theorem d_Mod_global_62 : decode prog_9_method_17_code 62 = .ok (.iload_n 1, 1) := by decide +kernel
theorem d_Mod_global_63 : decode prog_9_method_17_code 63 = .ok (.iconst 4, 1) := by decide +kernel
theorem d_Mod_global_64 : decode prog_9_method_17_code 64 = .ok (.if_icmp .ne 7, 3) := by decide +kernel
theorem d_Mod_global_67 : decode prog_9_method_17_code 67 = .ok (.iconst (-1), 1) := by decide +kernel
theorem d_Mod_global_68 : decode prog_9_method_17_code 68 = .ok (.goto 4, 3) := by decide +kernel
theorem d_Mod_global_71 : decode prog_9_method_17_code 71 = .ok (.iconst 0, 1) := by decide +kernel
theorem d_Mod_global_72 : decode prog_9_method_17_code 72 = .ok (.iastore, 1) := by decide +kernel
theorem d_Mod_global_73 : decode prog_9_method_17_code 73 = .ok (.aload_n 0, 1) := by decide +kernel
theorem d_Mod_global_74 : decode prog_9_method_17_code 74 = .ok (.getfield 43, 3) := by decide +kernel
theorem d_Mod_global_77 : decode prog_9_method_17_code 77 = .ok (.aload_n 0, 1) := by decide +kernel
theorem d_Mod_global_78 : decode prog_9_method_17_code 78 = .ok (.getfield 81, 3) := by decide +kernel
theorem d_Mod_global_81 : decode prog_9_method_17_code 81 = .ok (.iconst 0, 1) := by decide +kernel
theorem d_Mod_global_82 : decode prog_9_method_17_code 82 = .ok (.iastore, 1) := by decide +kernel
theorem d_Mod_global_83 : decode prog_9_method_17_code 83 = .ok (.aload_n 0, 1) := by decide +kernel
theorem d_Mod_global_84 : decode prog_9_method_17_code 84 = .ok (.dup, 1) := by decide +kernel
theorem d_Mod_global_85 : decode prog_9_method_17_code 85 = .ok (.getfield 81, 3) := by decide +kernel
theorem d_Mod_global_88 : decode prog_9_method_17_code 88 = .ok (.dup_x1, 1) := by decide +kernel
theorem d_Mod_global_89 : decode prog_9_method_17_code 89 = .ok (.iconst 1, 1) := by decide +kernel
theorem d_Mod_global_90 : decode prog_9_method_17_code 90 = .ok (.iadd, 1) := by decide +kernel
