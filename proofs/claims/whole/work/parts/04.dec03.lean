/-! decode rows -/
theorem d_Mod_about_91 : decode prog_9_method_28_code 91 = .ok (.iload_n 1, 1) := by decide +kernel
theorem d_Mod_about_92 : decode prog_9_method_28_code 92 = .ok (.iaload, 1) := by decide +kernel
theorem d_Mod_about_93 : decode prog_9_method_28_code 93 = .ok (.ireturn, 1) := by decide +kernel
theorem d_Mod_made_0 : decode prog_9_method_29_code 0 = .ok (.aload_n 0, 1) := by decide +kernel
theorem d_Mod_made_1 : decode prog_9_method_29_code 1 = .ok (.iconst 0, 1) := by decide +kernel
theorem d_Mod_made_2 : decode prog_9_method_29_code 2 = .ok (.ldc 125, 2) := by decide +kernel
theorem d_Mod_made_4 : decode prog_9_method_29_code 4 = .ok (.iload_n 1, 1) := by decide +kernel
theorem d_Mod_made_5 : decode prog_9_method_29_code 5 = .ok (.iadd, 1) := by decide +kernel
theorem d_Mod_made_6 : decode prog_9_method_29_code 6 = .ok (.iconst 0, 1) := by decide +kernel
theorem d_Mod_made_7 : decode prog_9_method_29_code 7 = .ok (.invokevirtual 63, 3) := by decide +kernel
theorem d_Mod_made_10 : decode prog_9_method_29_code 10 = .ok (.pop, 1) := by decide +kernel
theorem d_Mod_made_11 : decode prog_9_method_29_code 11 = .ok (.return_, 1) := by decide +kernel
theorem d_Mod_applications_0 : decode prog_9_method_30_code 0 = .ok (.iconst 0, 1) := by decide +kernel
theorem d_Mod_applications_1 : decode prog_9_method_30_code 1 = .ok (.istore_n 2, 1) := by decide +kernel
theorem d_Mod_applications_2 : decode prog_9_method_30_code 2 = .ok (.iload_n 2, 1) := by decide +kernel
theorem d_Mod_applications_3 : decode prog_9_method_30_code 3 = .ok (.iload_n 1, 1) := by decide +kernel
theorem d_Mod_applications_4 : decode prog_9_method_30_code 4 = .ok (.if_icmp .ge 17, 3) := by decide +kernel
theorem d_Mod_applications_7 : decode prog_9_method_30_code 7 = .ok (.aload_n 0, 1) := by decide +kernel
theorem d_Mod_applications_8 : decode prog_9_method_30_code 8 = .ok (.iconst 4, 1) := by decide +kernel
theorem d_Mod_applications_9 : decode prog_9_method_30_code 9 = .ok (.iconst 0, 1) := by decide +kernel
theorem d_Mod_applications_10 : decode prog_9_method_30_code 10 = .ok (.iconst 0, 1) := by decide +kernel
theorem d_Mod_applications_11 : decode prog_9_method_30_code 11 = .ok (.invokevirtual 63, 3) := by decide +kernel
theorem d_Mod_applications_14 : decode prog_9_method_30_code 14 = .ok (.pop, 1) := by decide +kernel
theorem d_Mod_applications_15 : decode prog_9_method_30_code 15 = .ok (.iinc 2 1, 3) := by decide +kernel
theorem d_Mod_applications_18 : decode prog_9_method_30_code 18 = .ok (.goto (-16), 3) := by decide +kernel
theorem d_Mod_applications_21 : decode prog_9_method_30_code 21 = .ok (.return_, 1) := by decide +kernel
theorem d_Mod_level_0 : decode prog_9_method_31_code 0 = .ok (.iload_n 1, 1) := by decide +kernel
theorem d_Mod_level_1 : decode prog_9_method_31_code 1 = .ok (.aload_n 0, 1) := by decide +kernel
theorem d_Mod_level_2 : decode prog_9_method_31_code 2 = .ok (.getfield 46, 3) := by decide +kernel
theorem d_Mod_level_5 : decode prog_9_method_31_code 5 = .ok (.arraylength, 1) := by decide +kernel
theorem d_Mod_level_6 : decode prog_9_method_31_code 6 = .ok (.if_icmp .lt 14, 3) := by decide +kernel
theorem d_Mod_level_9 : decode prog_9_method_31_code 9 = .ok (.aload_n 0, 1) := by decide +kernel
theorem d_Mod_level_10 : decode prog_9_method_31_code 10 = .ok (.aload_n 0, 1) := by decide +kernel
theorem d_Mod_level_11 : decode prog_9_method_31_code 11 = .ok (.getfield 46, 3) := by decide +kernel
theorem d_Mod_level_14 : decode prog_9_method_31_code 14 = .ok (.invokestatic 59, 3) := by decide +kernel
theorem d_Mod_level_17 : decode prog_9_method_31_code 17 = .ok (.putfield 46, 3) := by decide +kernel
theorem d_Mod_level_20 : decode prog_9_method_31_code 20 = .ok (.aload_n 0, 1) := by decide +kernel
theorem d_Mod_level_21 : decode prog_9_method_31_code 21 = .ok (.getfield 46, 3) := by decide +kernel
theorem d_Mod_level_24 : decode prog_9_method_31_code 24 = .ok (.iload_n 1, 1) := by decide +kernel
theorem d_Mod_level_25 : decode prog_9_method_31_code 25 = .ok (.iload_n 2, 1) := by decide +kernel
theorem d_Mod_level_26 : decode prog_9_method_31_code 26 = .ok (.iastore, 1) := by decide +kernel
theorem d_Mod_level_27 : decode prog_9_method_31_code 27 = .ok (.return_, 1) := by decide +kernel
theorem d_Mod_piece_0 : decode prog_9_method_32_code 0 = .ok (.aload_n 0, 1) := by decide +kernel
theorem d_Mod_piece_1 : decode prog_9_method_32_code 1 = .ok (.iload_n 1, 1) := by decide +kernel
theorem d_Mod_piece_2 : decode prog_9_method_32_code 2 = .ok (.invokevirtual 71, 3) := by decide +kernel
theorem d_Mod_piece_5 : decode prog_9_method_32_code 5 = .ok (.iload_n 1, 1) := by decide +kernel
theorem d_Mod_piece_6 : decode prog_9_method_32_code 6 = .ok (.aload_n 0, 1) := by decide +kernel
theorem d_Mod_piece_7 : decode prog_9_method_32_code 7 = .ok (.getfield 19, 3) := by decide +kernel
theorem d_Mod_piece_10 : decode prog_9_method_32_code 10 = .ok (.iload_n 1, 1) := by decide +kernel
theorem d_Mod_piece_11 : decode prog_9_method_32_code 11 = .ok (.iaload, 1) := by decide +kernel
theorem d_Mod_piece_12 : decode prog_9_method_32_code 12 = .ok (.iadd, 1) := by decide +kernel
theorem d_Mod_piece_13 : decode prog_9_method_32_code 13 = .ok (.istore_n 3, 1) := by decide +kernel
theorem d_Mod_piece_14 : decode prog_9_method_32_code 14 = .ok (.iload_n 1, 1) := by decide +kernel
theorem d_Mod_piece_15 : decode prog_9_method_32_code 15 = .ok (.istore 4, 2) := by decide +kernel
theorem d_Mod_piece_17 : decode prog_9_method_32_code 17 = .ok (.iload 4, 2) := by decide +kernel
theorem d_Mod_piece_19 : decode prog_9_method_32_code 19 = .ok (.iload_n 3, 1) := by decide +kernel
theorem d_Mod_piece_20 : decode prog_9_method_32_code 20 = .ok (.if_icmp .ge 89, 3) := by decide +kernel
theorem d_Mod_piece_23 : decode prog_9_method_32_code 23 = .ok (.aload_n 0, 1) := by decide +kernel
theorem d_Mod_piece_24 : decode prog_9_method_32_code 24 = .ok (.getfield 7, 3) := by decide +kernel
theorem d_Mod_piece_27 : decode prog_9_method_32_code 27 = .ok (.iload 4, 2) := by decide +kernel
theorem d_Mod_piece_29 : decode prog_9_method_32_code 29 = .ok (.iaload, 1) := by decide +kernel
theorem d_Mod_piece_30 : decode prog_9_method_32_code 30 = .ok (.ifCond .ne 21, 3) := by decide +kernel
theorem d_Mod_piece_33 : decode prog_9_method_32_code 33 = .ok (.aload_n 0, 1) := by decide +kernel
theorem d_Mod_piece_34 : decode prog_9_method_32_code 34 = .ok (.getfield 13, 3) := by decide +kernel
theorem d_Mod_piece_37 : decode prog_9_method_32_code 37 = .ok (.iload 4, 2) := by decide +kernel
theorem d_Mod_piece_39 : decode prog_9_method_32_code 39 = .ok (.iaload, 1) := by decide +kernel
theorem d_Mod_piece_40 : decode prog_9_method_32_code 40 = .ok (.aload_n 0, 1) := by decide +kernel
theorem d_Mod_piece_41 : decode prog_9_method_32_code 41 = .ok (.getfield 22, 3) := by decide +kernel
theorem d_Mod_piece_44 : decode prog_9_method_32_code 44 = .ok (.iload 4, 2) := by decide +kernel
theorem d_Mod_piece_46 : decode prog_9_method_32_code 46 = .ok (.iaload, 1) := by decide +kernel
theorem d_Mod_piece_47 : decode prog_9_method_32_code 47 = .ok (.isub, 1) := by decide +kernel
theorem d_Mod_piece_48 : decode prog_9_method_32_code 48 = .ok (.goto 4, 3) := by decide +kernel
theorem d_Mod_piece_51 : decode prog_9_method_32_code 51 = .ok (.iconst (-1), 1) := by decide +kernel
theorem d_Mod_piece_52 : decode prog_9_method_32_code 52 = .ok (.istore 5, 2) := by decide +kernel
theorem d_Mod_piece_54 : decode prog_9_method_32_code 54 = .ok (.iload 5, 2) := by decide +kernel
theorem d_Mod_piece_56 : decode prog_9_method_32_code 56 = .ok (.ifCond .lt 21, 3) := by decide +kernel
theorem d_Mod_piece_59 : decode prog_9_method_32_code 59 = .ok (.aload_n 0, 1) := by decide +kernel
theorem d_Mod_piece_60 : decode prog_9_method_32_code 60 = .ok (.aload_n 0, 1) := by decide +kernel
theorem d_Mod_piece_61 : decode prog_9_method_32_code 61 = .ok (.getfield 46, 3) := by decide +kernel
theorem d_Mod_piece_64 : decode prog_9_method_32_code 64 = .ok (.iload_n 2, 1) := by decide +kernel
theorem d_Mod_piece_65 : decode prog_9_method_32_code 65 = .ok (.iconst 1, 1) := by decide +kernel
theorem d_Mod_piece_66 : decode prog_9_method_32_code 66 = .ok (.isub, 1) := by decide +kernel
theorem d_Mod_piece_67 : decode prog_9_method_32_code 67 = .ok (.iload 5, 2) := by decide +kernel
theorem d_Mod_piece_69 : decode prog_9_method_32_code 69 = .ok (.isub, 1) := by decide +kernel
theorem d_Mod_piece_70 : decode prog_9_method_32_code 70 = .ok (.iaload, 1) := by decide +kernel
theorem d_Mod_piece_71 : decode prog_9_method_32_code 71 = .ok (.invokevirtual 126, 3) := by decide +kernel
theorem d_Mod_piece_74 : decode prog_9_method_32_code 74 = .ok (.goto 29, 3) := by decide +kernel
theorem d_Mod_piece_77 : decode prog_9_method_32_code 77 = .ok (.aload_n 0, 1) := by decide +kernel
theorem d_Mod_piece_78 : decode prog_9_method_32_code 78 = .ok (.aload_n 0, 1) := by decide +kernel
theorem d_Mod_piece_79 : decode prog_9_method_32_code 79 = .ok (.getfield 7, 3) := by decide +kernel
theorem d_Mod_piece_82 : decode prog_9_method_32_code 82 = .ok (.iload 4, 2) := by decide +kernel
theorem d_Mod_piece_84 : decode prog_9_method_32_code 84 = .ok (.iaload, 1) := by decide +kernel
theorem d_Mod_piece_85 : decode prog_9_method_32_code 85 = .ok (.aload_n 0, 1) := by decide +kernel
theorem d_Mod_piece_86 : decode prog_9_method_32_code 86 = .ok (.getfield 13, 3) := by decide +kernel
theorem d_Mod_piece_89 : decode prog_9_method_32_code 89 = .ok (.iload 4, 2) := by decide +kernel
theorem d_Mod_piece_91 : decode prog_9_method_32_code 91 = .ok (.iaload, 1) := by decide +kernel
theorem d_Mod_piece_92 : decode prog_9_method_32_code 92 = .ok (.aload_n 0, 1) := by decide +kernel
theorem d_Mod_piece_93 : decode prog_9_method_32_code 93 = .ok (.getfield 16, 3) := by decide +kernel
theorem d_Mod_piece_96 : decode prog_9_method_32_code 96 = .ok (.iload 4, 2) := by decide +kernel
theorem d_Mod_piece_98 : decode prog_9_method_32_code 98 = .ok (.iaload, 1) := by decide +kernel
theorem d_Mod_piece_99 : decode prog_9_method_32_code 99 = .ok (.invokevirtual 63, 3) := by decide +kernel
theorem d_Mod_piece_102 : decode prog_9_method_32_code 102 = .ok (.pop, 1) := by decide +kernel
theorem d_Mod_piece_103 : decode prog_9_method_32_code 103 = .ok (.iinc 4 1, 3) := by decide +kernel
theorem d_Mod_piece_106 : decode prog_9_method_32_code 106 = .ok (.goto (-89), 3) := by decide +kernel
theorem d_Mod_piece_109 : decode prog_9_method_32_code 109 = .ok (.return_, 1) := by decide +kernel
theorem d_Mod_binderOf_0 : decode prog_9_method_33_code 0 = .ok (.aload_n 0, 1) := by decide +kernel
theorem d_Mod_binderOf_1 : decode prog_9_method_33_code 1 = .ok (.iload_n 1, 1) := by decide +kernel
theorem d_Mod_binderOf_2 : decode prog_9_method_33_code 2 = .ok (.aload_n 0, 1) := by decide +kernel
theorem d_Mod_binderOf_3 : decode prog_9_method_33_code 3 = .ok (.getfield 13, 3) := by decide +kernel
theorem d_Mod_binderOf_6 : decode prog_9_method_33_code 6 = .ok (.iload_n 2, 1) := by decide +kernel
theorem d_Mod_binderOf_7 : decode prog_9_method_33_code 7 = .ok (.iaload, 1) := by decide +kernel
theorem d_Mod_binderOf_8 : decode prog_9_method_33_code 8 = .ok (.iconst 0, 1) := by decide +kernel
theorem d_Mod_binderOf_9 : decode prog_9_method_33_code 9 = .ok (.invokevirtual 63, 3) := by decide +kernel
theorem d_Mod_binderOf_12 : decode prog_9_method_33_code 12 = .ok (.pop, 1) := by decide +kernel
theorem d_Mod_binderOf_13 : decode prog_9_method_33_code 13 = .ok (.aload_n 0, 1) := by decide +kernel
theorem d_Mod_binderOf_14 : decode prog_9_method_33_code 14 = .ok (.iload_n 2, 1) := by decide +kernel
theorem d_Mod_binderOf_15 : decode prog_9_method_33_code 15 = .ok (.iconst 1, 1) := by decide +kernel
theorem d_Mod_binderOf_16 : decode prog_9_method_33_code 16 = .ok (.iadd, 1) := by decide +kernel
theorem d_Mod_binderOf_17 : decode prog_9_method_33_code 17 = .ok (.iload_n 3, 1) := by decide +kernel
theorem d_Mod_binderOf_18 : decode prog_9_method_33_code 18 = .ok (.invokevirtual 129, 3) := by decide +kernel
theorem d_Mod_binderOf_21 : decode prog_9_method_33_code 21 = .ok (.aload_n 0, 1) := by decide +kernel
theorem d_Mod_binderOf_22 : decode prog_9_method_33_code 22 = .ok (.iload_n 3, 1) := by decide +kernel
theorem d_Mod_binderOf_23 : decode prog_9_method_33_code 23 = .ok (.iload 4, 2) := by decide +kernel
theorem d_Mod_binderOf_25 : decode prog_9_method_33_code 25 = .ok (.invokevirtual 133, 3) := by decide +kernel
theorem d_Mod_binderOf_28 : decode prog_9_method_33_code 28 = .ok (.aload_n 0, 1) := by decide +kernel
theorem d_Mod_binderOf_29 : decode prog_9_method_33_code 29 = .ok (.iload_n 2, 1) := by decide +kernel
theorem d_Mod_binderOf_30 : decode prog_9_method_33_code 30 = .ok (.invokevirtual 67, 3) := by decide +kernel
theorem d_Mod_binderOf_33 : decode prog_9_method_33_code 33 = .ok (.ireturn, 1) := by decide +kernel
theorem d_Mod_settle_0 : decode prog_9_method_34_code 0 = .ok (.aload_n 0, 1) := by decide +kernel
theorem d_Mod_settle_1 : decode prog_9_method_34_code 1 = .ok (.iload_n 1, 1) := by decide +kernel
theorem d_Mod_settle_2 : decode prog_9_method_34_code 2 = .ok (.invokevirtual 78, 3) := by decide +kernel
theorem d_Mod_settle_5 : decode prog_9_method_34_code 5 = .ok (.aload_n 0, 1) := by decide +kernel
theorem d_Mod_settle_6 : decode prog_9_method_34_code 6 = .ok (.iload_n 1, 1) := by decide +kernel
theorem d_Mod_settle_7 : decode prog_9_method_34_code 7 = .ok (.invokevirtual 71, 3) := by decide +kernel
theorem d_Mod_settle_10 : decode prog_9_method_34_code 10 = .ok (.iload_n 1, 1) := by decide +kernel
theorem d_Mod_settle_11 : decode prog_9_method_34_code 11 = .ok (.istore_n 2, 1) := by decide +kernel
theorem d_Mod_settle_12 : decode prog_9_method_34_code 12 = .ok (.iload_n 2, 1) := by decide +kernel
theorem d_Mod_settle_13 : decode prog_9_method_34_code 13 = .ok (.aload_n 0, 1) := by decide +kernel
theorem d_Mod_settle_14 : decode prog_9_method_34_code 14 = .ok (.getfield 55, 3) := by decide +kernel
theorem d_Mod_settle_17 : decode prog_9_method_34_code 17 = .ok (.if_icmp .ge 53, 3) := by decide +kernel
theorem d_Mod_settle_20 : decode prog_9_method_34_code 20 = .ok (.aload_n 0, 1) := by decide +kernel
theorem d_Mod_settle_21 : decode prog_9_method_34_code 21 = .ok (.getfield 7, 3) := by decide +kernel
theorem d_Mod_settle_24 : decode prog_9_method_34_code 24 = .ok (.iload_n 2, 1) := by decide +kernel
theorem d_Mod_settle_25 : decode prog_9_method_34_code 25 = .ok (.iaload, 1) := by decide +kernel
theorem d_Mod_settle_26 : decode prog_9_method_34_code 26 = .ok (.ifCond .ne 38, 3) := by decide +kernel
theorem d_Mod_settle_29 : decode prog_9_method_34_code 29 = .ok (.aload_n 0, 1) := by decide +kernel
theorem d_Mod_settle_30 : decode prog_9_method_34_code 30 = .ok (.getfield 13, 3) := by decide +kernel
theorem d_Mod_settle_33 : decode prog_9_method_34_code 33 = .ok (.iload_n 2, 1) := by decide +kernel
theorem d_Mod_settle_34 : decode prog_9_method_34_code 34 = .ok (.iaload, 1) := by decide +kernel
theorem d_Mod_settle_35 : decode prog_9_method_34_code 35 = .ok (.ldc 136, 2) := by decide +kernel
theorem d_Mod_settle_37 : decode prog_9_method_34_code 37 = .ok (.if_icmp .le 27, 3) := by decide +kernel
theorem d_Mod_settle_40 : decode prog_9_method_34_code 40 = .ok (.aload_n 0, 1) := by decide +kernel
theorem d_Mod_settle_41 : decode prog_9_method_34_code 41 = .ok (.getfield 13, 3) := by decide +kernel
theorem d_Mod_settle_44 : decode prog_9_method_34_code 44 = .ok (.iload_n 2, 1) := by decide +kernel
theorem d_Mod_settle_45 : decode prog_9_method_34_code 45 = .ok (.aload_n 0, 1) := by decide +kernel
theorem d_Mod_settle_46 : decode prog_9_method_34_code 46 = .ok (.getfield 22, 3) := by decide +kernel
theorem d_Mod_settle_49 : decode prog_9_method_34_code 49 = .ok (.iload_n 2, 1) := by decide +kernel
theorem d_Mod_settle_50 : decode prog_9_method_34_code 50 = .ok (.iaload, 1) := by decide +kernel
theorem d_Mod_settle_51 : decode prog_9_method_34_code 51 = .ok (.iconst 1, 1) := by decide +kernel
theorem d_Mod_settle_52 : decode prog_9_method_34_code 52 = .ok (.isub, 1) := by decide +kernel
theorem d_Mod_settle_53 : decode prog_9_method_34_code 53 = .ok (.aload_n 0, 1) := by decide +kernel
theorem d_Mod_settle_54 : decode prog_9_method_34_code 54 = .ok (.getfield 13, 3) := by decide +kernel
theorem d_Mod_settle_57 : decode prog_9_method_34_code 57 = .ok (.iload_n 2, 1) := by decide +kernel
theorem d_Mod_settle_58 : decode prog_9_method_34_code 58 = .ok (.iaload, 1) := by decide +kernel
theorem d_Mod_settle_59 : decode prog_9_method_34_code 59 = .ok (.ldc 125, 2) := by decide +kernel
theorem d_Mod_settle_61 : decode prog_9_method_34_code 61 = .ok (.isub, 1) := by decide +kernel
theorem d_Mod_settle_62 : decode prog_9_method_34_code 62 = .ok (.isub, 1) := by decide +kernel
theorem d_Mod_settle_63 : decode prog_9_method_34_code 63 = .ok (.iastore, 1) := by decide +kernel
theorem d_Mod_settle_64 : decode prog_9_method_34_code 64 = .ok (.iinc 2 1, 3) := by decide +kernel
theorem d_Mod_settle_67 : decode prog_9_method_34_code 67 = .ok (.goto (-55), 3) := by decide +kernel
theorem d_Mod_settle_70 : decode prog_9_method_34_code 70 = .ok (.return_, 1) := by decide +kernel
theorem d_Mod_argument_0 : decode prog_9_method_35_code 0 = .ok (.aload_n 0, 1) := by decide +kernel
theorem d_Mod_argument_1 : decode prog_9_method_35_code 1 = .ok (.aload_n 0, 1) := by decide +kernel
theorem d_Mod_argument_2 : decode prog_9_method_35_code 2 = .ok (.getfield 31, 3) := by decide +kernel
theorem d_Mod_argument_5 : decode prog_9_method_35_code 5 = .ok (.iload_n 1, 1) := by decide +kernel
theorem d_Mod_argument_6 : decode prog_9_method_35_code 6 = .ok (.iaload, 1) := by decide +kernel
theorem d_Mod_argument_7 : decode prog_9_method_35_code 7 = .ok (.aload_n 0, 1) := by decide +kernel
theorem d_Mod_argument_8 : decode prog_9_method_35_code 8 = .ok (.getfield 37, 3) := by decide +kernel
theorem d_Mod_argument_11 : decode prog_9_method_35_code 11 = .ok (.iload_n 1, 1) := by decide +kernel
theorem d_Mod_argument_12 : decode prog_9_method_35_code 12 = .ok (.iaload, 1) := by decide +kernel
theorem d_Mod_argument_13 : decode prog_9_method_35_code 13 = .ok (.iload_n 2, 1) := by decide +kernel
theorem d_Mod_argument_14 : decode prog_9_method_35_code 14 = .ok (.iadd, 1) := by decide +kernel
theorem d_Mod_argument_15 : decode prog_9_method_35_code 15 = .ok (.invokevirtual 107, 3) := by decide +kernel
theorem d_Mod_argument_18 : decode prog_9_method_35_code 18 = .ok (.iconst 1, 1) := by decide +kernel
theorem d_Mod_argument_19 : decode prog_9_method_35_code 19 = .ok (.iadd, 1) := by decide +kernel
theorem d_Mod_argument_20 : decode prog_9_method_35_code 20 = .ok (.ireturn, 1) := by decide +kernel
theorem d_Mod_isRecursive_0 : decode prog_9_method_36_code 0 = .ok (.aload_n 0, 1) := by decide +kernel
theorem d_Mod_isRecursive_1 : decode prog_9_method_36_code 1 = .ok (.aload_n 0, 1) := by decide +kernel
theorem d_Mod_isRecursive_2 : decode prog_9_method_36_code 2 = .ok (.iload_n 1, 1) := by decide +kernel
theorem d_Mod_isRecursive_3 : decode prog_9_method_36_code 3 = .ok (.iload_n 2, 1) := by decide +kernel
theorem d_Mod_isRecursive_4 : decode prog_9_method_36_code 4 = .ok (.invokevirtual 137, 3) := by decide +kernel
theorem d_Mod_isRecursive_7 : decode prog_9_method_36_code 7 = .ok (.aload_n 0, 1) := by decide +kernel
theorem d_Mod_isRecursive_8 : decode prog_9_method_36_code 8 = .ok (.getfield 34, 3) := by decide +kernel
theorem d_Mod_isRecursive_11 : decode prog_9_method_36_code 11 = .ok (.iload_n 1, 1) := by decide +kernel
theorem d_Mod_isRecursive_12 : decode prog_9_method_36_code 12 = .ok (.iaload, 1) := by decide +kernel
theorem d_Mod_isRecursive_13 : decode prog_9_method_36_code 13 = .ok (.aload_n 0, 1) := by decide +kernel
theorem d_Mod_isRecursive_14 : decode prog_9_method_36_code 14 = .ok (.getfield 37, 3) := by decide +kernel
theorem d_Mod_isRecursive_17 : decode prog_9_method_36_code 17 = .ok (.iload_n 1, 1) := by decide +kernel
theorem d_Mod_isRecursive_18 : decode prog_9_method_36_code 18 = .ok (.iaload, 1) := by decide +kernel
theorem d_Mod_isRecursive_19 : decode prog_9_method_36_code 19 = .ok (.iload_n 2, 1) := by decide +kernel
theorem d_Mod_isRecursive_20 : decode prog_9_method_36_code 20 = .ok (.iadd, 1) := by decide +kernel
theorem d_Mod_isRecursive_21 : decode prog_9_method_36_code 21 = .ok (.invokevirtual 122, 3) := by decide +kernel
theorem d_Mod_isRecursive_24 : decode prog_9_method_36_code 24 = .ok (.iconst 2, 1) := by decide +kernel
theorem d_Mod_isRecursive_25 : decode prog_9_method_36_code 25 = .ok (.if_icmp .ne 7, 3) := by decide +kernel
theorem d_Mod_isRecursive_28 : decode prog_9_method_36_code 28 = .ok (.iconst 1, 1) := by decide +kernel
theorem d_Mod_isRecursive_29 : decode prog_9_method_36_code 29 = .ok (.goto 4, 3) := by decide +kernel
theorem d_Mod_isRecursive_32 : decode prog_9_method_36_code 32 = .ok (.iconst 0, 1) := by decide +kernel
theorem d_Mod_isRecursive_33 : decode prog_9_method_36_code 33 = .ok (.ireturn, 1) := by decide +kernel
theorem d_Mod_brings_0 : decode prog_9_method_37_code 0 = .ok (.iload_n 1, 1) := by decide +kernel
theorem d_Mod_brings_1 : decode prog_9_method_37_code 1 = .ok (.ifCond .lt 35, 3) := by decide +kernel
theorem d_Mod_brings_4 : decode prog_9_method_37_code 4 = .ok (.iload_n 1, 1) := by decide +kernel
theorem d_Mod_brings_5 : decode prog_9_method_37_code 5 = .ok (.aload_n 0, 1) := by decide +kernel
theorem d_Mod_brings_6 : decode prog_9_method_37_code 6 = .ok (.getfield 81, 3) := by decide +kernel
theorem d_Mod_brings_9 : decode prog_9_method_37_code 9 = .ok (.if_icmp .ge 27, 3) := by decide +kernel
theorem d_Mod_brings_12 : decode prog_9_method_37_code 12 = .ok (.aload_n 0, 1) := by decide +kernel
theorem d_Mod_brings_13 : decode prog_9_method_37_code 13 = .ok (.getfield 28, 3) := by decide +kernel
theorem d_Mod_brings_16 : decode prog_9_method_37_code 16 = .ok (.iload_n 1, 1) := by decide +kernel
theorem d_Mod_brings_17 : decode prog_9_method_37_code 17 = .ok (.iaload, 1) := by decide +kernel
theorem d_Mod_brings_18 : decode prog_9_method_37_code 18 = .ok (.iconst 4, 1) := by decide +kernel
theorem d_Mod_brings_19 : decode prog_9_method_37_code 19 = .ok (.if_icmp .ne 17, 3) := by decide +kernel
theorem d_Mod_brings_22 : decode prog_9_method_37_code 22 = .ok (.aload_n 0, 1) := by decide +kernel
theorem d_Mod_brings_23 : decode prog_9_method_37_code 23 = .ok (.getfield 31, 3) := by decide +kernel
theorem d_Mod_brings_26 : decode prog_9_method_37_code 26 = .ok (.iload_n 1, 1) := by decide +kernel
theorem d_Mod_brings_27 : decode prog_9_method_37_code 27 = .ok (.iaload, 1) := by decide +kernel
theorem d_Mod_brings_28 : decode prog_9_method_37_code 28 = .ok (.iconst (-1), 1) := by decide +kernel
theorem d_Mod_brings_29 : decode prog_9_method_37_code 29 = .ok (.if_icmp .eq 7, 3) := by decide +kernel
theorem d_Mod_brings_32 : decode prog_9_method_37_code 32 = .ok (.iload_n 2, 1) := by decide +kernel
theorem d_Mod_brings_33 : decode prog_9_method_37_code 33 = .ok (.ifCond .ge 5, 3) := by decide +kernel
theorem d_Mod_brings_36 : decode prog_9_method_37_code 36 = .ok (.iconst (-1), 1) := by decide +kernel
theorem d_Mod_brings_37 : decode prog_9_method_37_code 37 = .ok (.ireturn, 1) := by decide +kernel
theorem d_Mod_brings_38 : decode prog_9_method_37_code 38 = .ok (.iconst (-1), 1) := by decide +kernel
theorem d_Mod_brings_39 : decode prog_9_method_37_code 39 = .ok (.istore_n 3, 1) := by decide +kernel
theorem d_Mod_brings_40 : decode prog_9_method_37_code 40 = .ok (.iload_n 2, 1) := by decide +kernel
theorem d_Mod_brings_41 : decode prog_9_method_37_code 41 = .ok (.istore 4, 2) := by decide +kernel
theorem d_Mod_brings_43 : decode prog_9_method_37_code 43 = .ok (.iconst 0, 1) := by decide +kernel
theorem d_Mod_brings_44 : decode prog_9_method_37_code 44 = .ok (.istore 5, 2) := by decide +kernel
theorem d_Mod_brings_46 : decode prog_9_method_37_code 46 = .ok (.iload 5, 2) := by decide +kernel
theorem d_Mod_brings_48 : decode prog_9_method_37_code 48 = .ok (.aload_n 0, 1) := by decide +kernel
theorem d_Mod_brings_49 : decode prog_9_method_37_code 49 = .ok (.getfield 40, 3) := by decide +kernel
theorem d_Mod_brings_52 : decode prog_9_method_37_code 52 = .ok (.iload_n 1, 1) := by decide +kernel
theorem d_Mod_brings_53 : decode prog_9_method_37_code 53 = .ok (.iaload, 1) := by decide +kernel
theorem d_Mod_brings_54 : decode prog_9_method_37_code 54 = .ok (.if_icmp .ge 38, 3) := by decide +kernel
theorem d_Mod_brings_57 : decode prog_9_method_37_code 57 = .ok (.iload_n 3, 1) := by decide +kernel
theorem d_Mod_brings_58 : decode prog_9_method_37_code 58 = .ok (.ifCond .ge 34, 3) := by decide +kernel
theorem d_Mod_brings_61 : decode prog_9_method_37_code 61 = .ok (.aload_n 0, 1) := by decide +kernel
theorem d_Mod_brings_62 : decode prog_9_method_37_code 62 = .ok (.iload_n 1, 1) := by decide +kernel
theorem d_Mod_brings_63 : decode prog_9_method_37_code 63 = .ok (.iload 5, 2) := by decide +kernel
theorem d_Mod_brings_65 : decode prog_9_method_37_code 65 = .ok (.invokevirtual 140, 3) := by decide +kernel
theorem d_Mod_brings_68 : decode prog_9_method_37_code 68 = .ok (.ifCond .eq 18, 3) := by decide +kernel
theorem d_Mod_brings_71 : decode prog_9_method_37_code 71 = .ok (.iload 4, 2) := by decide +kernel
theorem d_Mod_brings_73 : decode prog_9_method_37_code 73 = .ok (.ifCond .ne 8, 3) := by decide +kernel
theorem d_Mod_brings_76 : decode prog_9_method_37_code 76 = .ok (.iload 5, 2) := by decide +kernel
theorem d_Mod_brings_78 : decode prog_9_method_37_code 78 = .ok (.goto 4, 3) := by decide +kernel
theorem d_Mod_brings_81 : decode prog_9_method_37_code 81 = .ok (.iconst (-1), 1) := by decide +kernel
theorem d_Mod_brings_82 : decode prog_9_method_37_code 82 = .ok (.istore_n 3, 1) := by decide +kernel
theorem d_Mod_brings_83 : decode prog_9_method_37_code 83 = .ok (.iinc 4 (-1), 3) := by decide +kernel
theorem d_Mod_brings_86 : decode prog_9_method_37_code 86 = .ok (.iinc 5 1, 3) := by decide +kernel
theorem d_Mod_brings_89 : decode prog_9_method_37_code 89 = .ok (.goto (-43), 3) := by decide +kernel
theorem d_Mod_brings_92 : decode prog_9_method_37_code 92 = .ok (.iload_n 3, 1) := by decide +kernel
theorem d_Mod_brings_93 : decode prog_9_method_37_code 93 = .ok (.ifCond .ge 5, 3) := by decide +kernel
theorem d_Mod_brings_96 : decode prog_9_method_37_code 96 = .ok (.iconst (-1), 1) := by decide +kernel
theorem d_Mod_brings_97 : decode prog_9_method_37_code 97 = .ok (.ireturn, 1) := by decide +kernel
theorem d_Mod_brings_98 : decode prog_9_method_37_code 98 = .ok (.aload_n 0, 1) := by decide +kernel
theorem d_Mod_brings_99 : decode prog_9_method_37_code 99 = .ok (.getfield 37, 3) := by decide +kernel
theorem d_Mod_brings_102 : decode prog_9_method_37_code 102 = .ok (.iload_n 1, 1) := by decide +kernel
theorem d_Mod_brings_103 : decode prog_9_method_37_code 103 = .ok (.iaload, 1) := by decide +kernel
theorem d_Mod_brings_104 : decode prog_9_method_37_code 104 = .ok (.istore 5, 2) := by decide +kernel
theorem d_Mod_brings_106 : decode prog_9_method_37_code 106 = .ok (.iconst 0, 1) := by decide +kernel
theorem d_Mod_brings_107 : decode prog_9_method_37_code 107 = .ok (.istore 6, 2) := by decide +kernel
theorem d_Mod_brings_109 : decode prog_9_method_37_code 109 = .ok (.iload 6, 2) := by decide +kernel
theorem d_Mod_brings_111 : decode prog_9_method_37_code 111 = .ok (.iload 5, 2) := by decide +kernel
theorem d_Mod_brings_113 : decode prog_9_method_37_code 113 = .ok (.iload_n 3, 1) := by decide +kernel
theorem d_Mod_brings_114 : decode prog_9_method_37_code 114 = .ok (.iadd, 1) := by decide +kernel
theorem d_Mod_brings_115 : decode prog_9_method_37_code 115 = .ok (.if_icmp .ge 24, 3) := by decide +kernel
theorem d_Mod_brings_118 : decode prog_9_method_37_code 118 = .ok (.aload_n 0, 1) := by decide +kernel
theorem d_Mod_brings_119 : decode prog_9_method_37_code 119 = .ok (.iload 6, 2) := by decide +kernel
theorem d_Mod_brings_121 : decode prog_9_method_37_code 121 = .ok (.iconst (-1), 1) := by decide +kernel
theorem d_Mod_brings_122 : decode prog_9_method_37_code 122 = .ok (.iload 5, 2) := by decide +kernel
theorem d_Mod_brings_124 : decode prog_9_method_37_code 124 = .ok (.iload_n 3, 1) := by decide +kernel
theorem d_Mod_brings_125 : decode prog_9_method_37_code 125 = .ok (.iadd, 1) := by decide +kernel
theorem d_Mod_brings_126 : decode prog_9_method_37_code 126 = .ok (.iload 6, 2) := by decide +kernel
theorem d_Mod_brings_128 : decode prog_9_method_37_code 128 = .ok (.isub, 1) := by decide +kernel
theorem d_Mod_brings_129 : decode prog_9_method_37_code 129 = .ok (.isub, 1) := by decide +kernel
theorem d_Mod_brings_130 : decode prog_9_method_37_code 130 = .ok (.invokevirtual 133, 3) := by decide +kernel
theorem d_Mod_brings_133 : decode prog_9_method_37_code 133 = .ok (.iinc 6 1, 3) := by decide +kernel
theorem d_Mod_brings_136 : decode prog_9_method_37_code 136 = .ok (.goto (-27), 3) := by decide +kernel
theorem d_Mod_brings_139 : decode prog_9_method_37_code 139 = .ok (.aload_n 0, 1) := by decide +kernel
theorem d_Mod_brings_140 : decode prog_9_method_37_code 140 = .ok (.getfield 55, 3) := by decide +kernel
theorem d_Mod_brings_143 : decode prog_9_method_37_code 143 = .ok (.istore 6, 2) := by decide +kernel
theorem d_Mod_brings_145 : decode prog_9_method_37_code 145 = .ok (.aload_n 0, 1) := by decide +kernel
theorem d_Mod_brings_146 : decode prog_9_method_37_code 146 = .ok (.iload_n 1, 1) := by decide +kernel
theorem d_Mod_brings_147 : decode prog_9_method_37_code 147 = .ok (.iload_n 3, 1) := by decide +kernel
theorem d_Mod_brings_148 : decode prog_9_method_37_code 148 = .ok (.iconst 5, 1) := by decide +kernel
theorem d_Mod_brings_149 : decode prog_9_method_37_code 149 = .ok (.iconst 0, 1) := by decide +kernel
theorem d_Mod_brings_150 : decode prog_9_method_37_code 150 = .ok (.iconst (-1), 1) := by decide +kernel
theorem d_Mod_brings_151 : decode prog_9_method_37_code 151 = .ok (.bipush (-2), 2) := by decide +kernel
theorem d_Mod_brings_153 : decode prog_9_method_37_code 153 = .ok (.iload 5, 2) := by decide +kernel
theorem d_Mod_brings_155 : decode prog_9_method_37_code 155 = .ok (.isub, 1) := by decide +kernel
theorem d_Mod_brings_156 : decode prog_9_method_37_code 156 = .ok (.iload_n 3, 1) := by decide +kernel
theorem d_Mod_brings_157 : decode prog_9_method_37_code 157 = .ok (.isub, 1) := by decide +kernel
theorem d_Mod_brings_158 : decode prog_9_method_37_code 158 = .ok (.invokevirtual 143, 3) := by decide +kernel
theorem d_Mod_brings_161 : decode prog_9_method_37_code 161 = .ok (.aload_n 0, 1) := by decide +kernel
theorem d_Mod_brings_162 : decode prog_9_method_37_code 162 = .ok (.iload 6, 2) := by decide +kernel
theorem d_Mod_brings_164 : decode prog_9_method_37_code 164 = .ok (.invokevirtual 147, 3) := by decide +kernel
theorem d_Mod_brings_167 : decode prog_9_method_37_code 167 = .ok (.aload_n 0, 1) := by decide +kernel
theorem d_Mod_brings_168 : decode prog_9_method_37_code 168 = .ok (.iload 6, 2) := by decide +kernel
theorem d_Mod_brings_170 : decode prog_9_method_37_code 170 = .ok (.invokevirtual 84, 3) := by decide +kernel
theorem d_Mod_brings_173 : decode prog_9_method_37_code 173 = .ok (.ireturn, 1) := by decide +kernel
theorem d_Mod_brought_0 : decode prog_9_method_38_code 0 = .ok (.aload_n 0, 1) := by decide +kernel
theorem d_Mod_brought_1 : decode prog_9_method_38_code 1 = .ok (.getfield 37, 3) := by decide +kernel
theorem d_Mod_brought_4 : decode prog_9_method_38_code 4 = .ok (.iload_n 1, 1) := by decide +kernel
theorem d_Mod_brought_5 : decode prog_9_method_38_code 5 = .ok (.iaload, 1) := by decide +kernel
theorem d_Mod_brought_6 : decode prog_9_method_38_code 6 = .ok (.istore 7, 2) := by decide +kernel
theorem d_Mod_brought_8 : decode prog_9_method_38_code 8 = .ok (.aload_n 0, 1) := by decide +kernel
theorem d_Mod_brought_9 : decode prog_9_method_38_code 9 = .ok (.getfield 34, 3) := by decide +kernel
theorem d_Mod_brought_12 : decode prog_9_method_38_code 12 = .ok (.iload_n 1, 1) := by decide +kernel
theorem d_Mod_brought_13 : decode prog_9_method_38_code 13 = .ok (.iaload, 1) := by decide +kernel
theorem d_Mod_brought_14 : decode prog_9_method_38_code 14 = .ok (.istore 8, 2) := by decide +kernel
theorem d_Mod_brought_16 : decode prog_9_method_38_code 16 = .ok (.aload_n 0, 1) := by decide +kernel
theorem d_Mod_brought_17 : decode prog_9_method_38_code 17 = .ok (.iload_n 1, 1) := by decide +kernel
theorem d_Mod_brought_18 : decode prog_9_method_38_code 18 = .ok (.iload_n 2, 1) := by decide +kernel
theorem d_Mod_brought_19 : decode prog_9_method_38_code 19 = .ok (.invokevirtual 137, 3) := by decide +kernel
theorem d_Mod_brought_22 : decode prog_9_method_38_code 22 = .ok (.istore 9, 2) := by decide +kernel
theorem d_Mod_brought_24 : decode prog_9_method_38_code 24 = .ok (.aload_n 0, 1) := by decide +kernel
theorem d_Mod_brought_25 : decode prog_9_method_38_code 25 = .ok (.iload 9, 2) := by decide +kernel
theorem d_Mod_brought_27 : decode prog_9_method_38_code 27 = .ok (.invokevirtual 104, 3) := by decide +kernel
theorem d_Mod_brought_30 : decode prog_9_method_38_code 30 = .ok (.istore 10, 2) := by decide +kernel
theorem d_Mod_brought_32 : decode prog_9_method_38_code 32 = .ok (.iconst 0, 1) := by decide +kernel
theorem d_Mod_brought_33 : decode prog_9_method_38_code 33 = .ok (.istore 11, 2) := by decide +kernel
theorem d_Mod_brought_35 : decode prog_9_method_38_code 35 = .ok (.iload 11, 2) := by decide +kernel
theorem d_Mod_brought_37 : decode prog_9_method_38_code 37 = .ok (.iload 10, 2) := by decide +kernel
theorem d_Mod_brought_39 : decode prog_9_method_38_code 39 = .ok (.if_icmp .ge 30, 3) := by decide +kernel
theorem d_Mod_brought_42 : decode prog_9_method_38_code 42 = .ok (.aload_n 0, 1) := by decide +kernel
theorem d_Mod_brought_43 : decode prog_9_method_38_code 43 = .ok (.iload_n 3, 1) := by decide +kernel
theorem d_Mod_brought_44 : decode prog_9_method_38_code 44 = .ok (.iload 9, 2) := by decide +kernel
theorem d_Mod_brought_46 : decode prog_9_method_38_code 46 = .ok (.iload 7, 2) := by decide +kernel
theorem d_Mod_brought_48 : decode prog_9_method_38_code 48 = .ok (.iload_n 2, 1) := by decide +kernel
theorem d_Mod_brought_49 : decode prog_9_method_38_code 49 = .ok (.iadd, 1) := by decide +kernel
theorem d_Mod_brought_50 : decode prog_9_method_38_code 50 = .ok (.iload 11, 2) := by decide +kernel
theorem d_Mod_brought_52 : decode prog_9_method_38_code 52 = .ok (.iadd, 1) := by decide +kernel
theorem d_Mod_brought_53 : decode prog_9_method_38_code 53 = .ok (.iload 4, 2) := by decide +kernel
theorem d_Mod_brought_55 : decode prog_9_method_38_code 55 = .ok (.iload 11, 2) := by decide +kernel
theorem d_Mod_brought_57 : decode prog_9_method_38_code 57 = .ok (.iadd, 1) := by decide +kernel
theorem d_Mod_brought_58 : decode prog_9_method_38_code 58 = .ok (.invokevirtual 150, 3) := by decide +kernel
theorem d_Mod_brought_61 : decode prog_9_method_38_code 61 = .ok (.istore 9, 2) := by decide +kernel
theorem d_Mod_brought_63 : decode prog_9_method_38_code 63 = .ok (.iinc 11 1, 3) := by decide +kernel
theorem d_Mod_brought_66 : decode prog_9_method_38_code 66 = .ok (.goto (-31), 3) := by decide +kernel
theorem d_Mod_brought_69 : decode prog_9_method_38_code 69 = .ok (.aload_n 0, 1) := by decide +kernel
theorem d_Mod_brought_70 : decode prog_9_method_38_code 70 = .ok (.aload_n 0, 1) := by decide +kernel
theorem d_Mod_brought_71 : decode prog_9_method_38_code 71 = .ok (.getfield 40, 3) := by decide +kernel
theorem d_Mod_brought_74 : decode prog_9_method_38_code 74 = .ok (.iload 8, 2) := by decide +kernel
theorem d_Mod_brought_76 : decode prog_9_method_38_code 76 = .ok (.iaload, 1) := by decide +kernel
theorem d_Mod_brought_77 : decode prog_9_method_38_code 77 = .ok (.iconst 1, 1) := by decide +kernel
theorem d_Mod_brought_78 : decode prog_9_method_38_code 78 = .ok (.iadd, 1) := by decide +kernel
theorem d_Mod_brought_79 : decode prog_9_method_38_code 79 = .ok (.invokevirtual 153, 3) := by decide +kernel
theorem d_Mod_brought_82 : decode prog_9_method_38_code 82 = .ok (.aload_n 0, 1) := by decide +kernel
theorem d_Mod_brought_83 : decode prog_9_method_38_code 83 = .ok (.iload 6, 2) := by decide +kernel
theorem d_Mod_brought_85 : decode prog_9_method_38_code 85 = .ok (.invokevirtual 126, 3) := by decide +kernel
theorem d_Mod_brought_88 : decode prog_9_method_38_code 88 = .ok (.iconst 0, 1) := by decide +kernel
theorem d_Mod_brought_89 : decode prog_9_method_38_code 89 = .ok (.istore 11, 2) := by decide +kernel
theorem d_Mod_brought_91 : decode prog_9_method_38_code 91 = .ok (.iload 11, 2) := by decide +kernel
theorem d_Mod_brought_93 : decode prog_9_method_38_code 93 = .ok (.aload_n 0, 1) := by decide +kernel
theorem d_Mod_brought_94 : decode prog_9_method_38_code 94 = .ok (.getfield 40, 3) := by decide +kernel
theorem d_Mod_brought_97 : decode prog_9_method_38_code 97 = .ok (.iload 8, 2) := by decide +kernel
theorem d_Mod_brought_99 : decode prog_9_method_38_code 99 = .ok (.iaload, 1) := by decide +kernel
theorem d_Mod_brought_100 : decode prog_9_method_38_code 100 = .ok (.if_icmp .ge 30, 3) := by decide +kernel
theorem d_Mod_brought_103 : decode prog_9_method_38_code 103 = .ok (.aload_n 0, 1) := by decide +kernel
theorem d_Mod_brought_104 : decode prog_9_method_38_code 104 = .ok (.aload_n 0, 1) := by decide +kernel
theorem d_Mod_brought_105 : decode prog_9_method_38_code 105 = .ok (.iload 9, 2) := by decide +kernel
theorem d_Mod_brought_107 : decode prog_9_method_38_code 107 = .ok (.iload 8, 2) := by decide +kernel
theorem d_Mod_brought_109 : decode prog_9_method_38_code 109 = .ok (.iload 11, 2) := by decide +kernel
theorem d_Mod_brought_111 : decode prog_9_method_38_code 111 = .ok (.invokevirtual 119, 3) := by decide +kernel
theorem d_Mod_brought_114 : decode prog_9_method_38_code 114 = .ok (.iload 7, 2) := by decide +kernel
theorem d_Mod_brought_116 : decode prog_9_method_38_code 116 = .ok (.iload_n 2, 1) := by decide +kernel
theorem d_Mod_brought_117 : decode prog_9_method_38_code 117 = .ok (.iadd, 1) := by decide +kernel
theorem d_Mod_brought_118 : decode prog_9_method_38_code 118 = .ok (.iload 10, 2) := by decide +kernel
theorem d_Mod_brought_120 : decode prog_9_method_38_code 120 = .ok (.iadd, 1) := by decide +kernel
theorem d_Mod_brought_121 : decode prog_9_method_38_code 121 = .ok (.invokevirtual 129, 3) := by decide +kernel
theorem d_Mod_brought_124 : decode prog_9_method_38_code 124 = .ok (.iinc 11 1, 3) := by decide +kernel
theorem d_Mod_brought_127 : decode prog_9_method_38_code 127 = .ok (.goto (-36), 3) := by decide +kernel
theorem d_Mod_brought_130 : decode prog_9_method_38_code 130 = .ok (.aload_n 0, 1) := by decide +kernel
theorem d_Mod_brought_131 : decode prog_9_method_38_code 131 = .ok (.iload 10, 2) := by decide +kernel
theorem d_Mod_brought_133 : decode prog_9_method_38_code 133 = .ok (.invokevirtual 153, 3) := by decide +kernel
theorem d_Mod_brought_136 : decode prog_9_method_38_code 136 = .ok (.aload_n 0, 1) := by decide +kernel
theorem d_Mod_brought_137 : decode prog_9_method_38_code 137 = .ok (.iload 5, 2) := by decide +kernel
theorem d_Mod_brought_139 : decode prog_9_method_38_code 139 = .ok (.invokevirtual 126, 3) := by decide +kernel
theorem d_Mod_brought_142 : decode prog_9_method_38_code 142 = .ok (.iconst 0, 1) := by decide +kernel
theorem d_Mod_brought_143 : decode prog_9_method_38_code 143 = .ok (.istore 11, 2) := by decide +kernel
theorem d_Mod_brought_145 : decode prog_9_method_38_code 145 = .ok (.iload 11, 2) := by decide +kernel
theorem d_Mod_brought_147 : decode prog_9_method_38_code 147 = .ok (.iload 10, 2) := by decide +kernel
theorem d_Mod_brought_149 : decode prog_9_method_38_code 149 = .ok (.if_icmp .ge 18, 3) := by decide +kernel
theorem d_Mod_brought_152 : decode prog_9_method_38_code 152 = .ok (.aload_n 0, 1) := by decide +kernel
theorem d_Mod_brought_153 : decode prog_9_method_38_code 153 = .ok (.iload 4, 2) := by decide +kernel
theorem d_Mod_brought_155 : decode prog_9_method_38_code 155 = .ok (.iload 11, 2) := by decide +kernel
theorem d_Mod_brought_157 : decode prog_9_method_38_code 157 = .ok (.iadd, 1) := by decide +kernel
theorem d_Mod_brought_158 : decode prog_9_method_38_code 158 = .ok (.invokevirtual 126, 3) := by decide +kernel
theorem d_Mod_brought_161 : decode prog_9_method_38_code 161 = .ok (.iinc 11 1, 3) := by decide +kernel
theorem d_Mod_brought_164 : decode prog_9_method_38_code 164 = .ok (.goto (-19), 3) := by decide +kernel
theorem d_Mod_brought_167 : decode prog_9_method_38_code 167 = .ok (.return_, 1) := by decide +kernel
theorem d_Mod_isWhole_0 : decode prog_9_method_39_code 0 = .ok (.iload_n 1, 1) := by decide +kernel
theorem d_Mod_isWhole_1 : decode prog_9_method_39_code 1 = .ok (.ifCond .lt 21, 3) := by decide +kernel
theorem d_Mod_isWhole_4 : decode prog_9_method_39_code 4 = .ok (.iload_n 1, 1) := by decide +kernel
theorem d_Mod_isWhole_5 : decode prog_9_method_39_code 5 = .ok (.aload_n 0, 1) := by decide +kernel
theorem d_Mod_isWhole_6 : decode prog_9_method_39_code 6 = .ok (.getfield 81, 3) := by decide +kernel
theorem d_Mod_isWhole_9 : decode prog_9_method_39_code 9 = .ok (.if_icmp .ge 13, 3) := by decide +kernel
theorem d_Mod_isWhole_12 : decode prog_9_method_39_code 12 = .ok (.aload_n 0, 1) := by decide +kernel
theorem d_Mod_isWhole_13 : decode prog_9_method_39_code 13 = .ok (.getfield 28, 3) := by decide +kernel
theorem d_Mod_isWhole_16 : decode prog_9_method_39_code 16 = .ok (.iload_n 1, 1) := by decide +kernel
theorem d_Mod_isWhole_17 : decode prog_9_method_39_code 17 = .ok (.iaload, 1) := by decide +kernel
theorem d_Mod_isWhole_18 : decode prog_9_method_39_code 18 = .ok (.iconst 3, 1) := by decide +kernel
theorem d_Mod_isWhole_19 : decode prog_9_method_39_code 19 = .ok (.if_icmp .eq 5, 3) := by decide +kernel
theorem d_Mod_isWhole_22 : decode prog_9_method_39_code 22 = .ok (.iconst 0, 1) := by decide +kernel
theorem d_Mod_isWhole_23 : decode prog_9_method_39_code 23 = .ok (.ireturn, 1) := by decide +kernel
theorem d_Mod_isWhole_24 : decode prog_9_method_39_code 24 = .ok (.iconst 1, 1) := by decide +kernel
theorem d_Mod_isWhole_25 : decode prog_9_method_39_code 25 = .ok (.istore_n 2, 1) := by decide +kernel
theorem d_Mod_isWhole_26 : decode prog_9_method_39_code 26 = .ok (.iconst 1, 1) := by decide +kernel
theorem d_Mod_isWhole_27 : decode prog_9_method_39_code 27 = .ok (.istore_n 3, 1) := by decide +kernel
theorem d_Mod_isWhole_28 : decode prog_9_method_39_code 28 = .ok (.iload_n 3, 1) := by decide +kernel
theorem d_Mod_isWhole_29 : decode prog_9_method_39_code 29 = .ok (.aload_n 0, 1) := by decide +kernel
theorem d_Mod_isWhole_30 : decode prog_9_method_39_code 30 = .ok (.getfield 43, 3) := by decide +kernel
theorem d_Mod_isWhole_33 : decode prog_9_method_39_code 33 = .ok (.iload_n 1, 1) := by decide +kernel
theorem d_Mod_isWhole_34 : decode prog_9_method_39_code 34 = .ok (.iaload, 1) := by decide +kernel
theorem d_Mod_isWhole_35 : decode prog_9_method_39_code 35 = .ok (.if_icmp .gt 29, 3) := by decide +kernel
theorem d_Mod_isWhole_38 : decode prog_9_method_39_code 38 = .ok (.iload_n 2, 1) := by decide +kernel
theorem d_Mod_isWhole_39 : decode prog_9_method_39_code 39 = .ok (.aload_n 0, 1) := by decide +kernel
theorem d_Mod_isWhole_40 : decode prog_9_method_39_code 40 = .ok (.getfield 31, 3) := by decide +kernel
theorem d_Mod_isWhole_43 : decode prog_9_method_39_code 43 = .ok (.iload_n 1, 1) := by decide +kernel
theorem d_Mod_isWhole_44 : decode prog_9_method_39_code 44 = .ok (.iload_n 3, 1) := by decide +kernel
theorem d_Mod_isWhole_45 : decode prog_9_method_39_code 45 = .ok (.iadd, 1) := by decide +kernel
theorem d_Mod_isWhole_46 : decode prog_9_method_39_code 46 = .ok (.iaload, 1) := by decide +kernel
theorem d_Mod_isWhole_47 : decode prog_9_method_39_code 47 = .ok (.iconst (-1), 1) := by decide +kernel
theorem d_Mod_isWhole_48 : decode prog_9_method_39_code 48 = .ok (.if_icmp .eq 7, 3) := by decide +kernel
theorem d_Mod_isWhole_51 : decode prog_9_method_39_code 51 = .ok (.iconst 1, 1) := by decide +kernel
theorem d_Mod_isWhole_52 : decode prog_9_method_39_code 52 = .ok (.goto 4, 3) := by decide +kernel
theorem d_Mod_isWhole_55 : decode prog_9_method_39_code 55 = .ok (.iconst 0, 1) := by decide +kernel
theorem d_Mod_isWhole_56 : decode prog_9_method_39_code 56 = .ok (.iand, 1) := by decide +kernel
theorem d_Mod_isWhole_57 : decode prog_9_method_39_code 57 = .ok (.istore_n 2, 1) := by decide +kernel
theorem d_Mod_isWhole_58 : decode prog_9_method_39_code 58 = .ok (.iinc 3 1, 3) := by decide +kernel
theorem d_Mod_isWhole_61 : decode prog_9_method_39_code 61 = .ok (.goto (-33), 3) := by decide +kernel
theorem d_Mod_isWhole_64 : decode prog_9_method_39_code 64 = .ok (.iload_n 2, 1) := by decide +kernel
theorem d_Mod_isWhole_65 : decode prog_9_method_39_code 65 = .ok (.ireturn, 1) := by decide +kernel
theorem d_Mod_put_0 : decode prog_9_method_40_code 0 = .ok (.aload_n 0, 1) := by decide +kernel
theorem d_Mod_put_1 : decode prog_9_method_40_code 1 = .ok (.aload_n 0, 1) := by decide +kernel
theorem d_Mod_put_2 : decode prog_9_method_40_code 2 = .ok (.getfield 37, 3) := by decide +kernel
theorem d_Mod_put_5 : decode prog_9_method_40_code 5 = .ok (.iload_n 1, 1) := by decide +kernel
theorem d_Mod_put_6 : decode prog_9_method_40_code 6 = .ok (.iaload, 1) := by decide +kernel
theorem d_Mod_put_7 : decode prog_9_method_40_code 7 = .ok (.aload_n 0, 1) := by decide +kernel
theorem d_Mod_put_8 : decode prog_9_method_40_code 8 = .ok (.getfield 40, 3) := by decide +kernel
theorem d_Mod_put_11 : decode prog_9_method_40_code 11 = .ok (.iload_n 1, 1) := by decide +kernel
theorem d_Mod_put_12 : decode prog_9_method_40_code 12 = .ok (.iaload, 1) := by decide +kernel
theorem d_Mod_put_13 : decode prog_9_method_40_code 13 = .ok (.iadd, 1) := by decide +kernel
theorem d_Mod_put_14 : decode prog_9_method_40_code 14 = .ok (.invokevirtual 153, 3) := by decide +kernel
theorem d_Mod_put_17 : decode prog_9_method_40_code 17 = .ok (.aload_n 0, 1) := by decide +kernel
theorem d_Mod_put_18 : decode prog_9_method_40_code 18 = .ok (.iconst 1, 1) := by decide +kernel
theorem d_Mod_put_19 : decode prog_9_method_40_code 19 = .ok (.iload_n 1, 1) := by decide +kernel
theorem d_Mod_put_20 : decode prog_9_method_40_code 20 = .ok (.iconst 0, 1) := by decide +kernel
theorem d_Mod_put_21 : decode prog_9_method_40_code 21 = .ok (.invokevirtual 63, 3) := by decide +kernel
theorem d_Mod_put_24 : decode prog_9_method_40_code 24 = .ok (.pop, 1) := by decide +kernel
theorem d_Mod_put_25 : decode prog_9_method_40_code 25 = .ok (.iconst 0, 1) := by decide +kernel
theorem d_Mod_put_26 : decode prog_9_method_40_code 26 = .ok (.istore_n 3, 1) := by decide +kernel
theorem d_Mod_put_27 : decode prog_9_method_40_code 27 = .ok (.iload_n 3, 1) := by decide +kernel
theorem d_Mod_put_28 : decode prog_9_method_40_code 28 = .ok (.aload_n 0, 1) := by decide +kernel
theorem d_Mod_put_29 : decode prog_9_method_40_code 29 = .ok (.getfield 37, 3) := by decide +kernel
theorem d_Mod_put_32 : decode prog_9_method_40_code 32 = .ok (.iload_n 1, 1) := by decide +kernel
theorem d_Mod_put_33 : decode prog_9_method_40_code 33 = .ok (.iaload, 1) := by decide +kernel
theorem d_Mod_put_34 : decode prog_9_method_40_code 34 = .ok (.if_icmp .ge 14, 3) := by decide +kernel
theorem d_Mod_put_37 : decode prog_9_method_40_code 37 = .ok (.aload_n 0, 1) := by decide +kernel
theorem d_Mod_put_38 : decode prog_9_method_40_code 38 = .ok (.iload_n 3, 1) := by decide +kernel
theorem d_Mod_put_39 : decode prog_9_method_40_code 39 = .ok (.invokevirtual 126, 3) := by decide +kernel
theorem d_Mod_put_42 : decode prog_9_method_40_code 42 = .ok (.iinc 3 1, 3) := by decide +kernel
theorem d_Mod_put_45 : decode prog_9_method_40_code 45 = .ok (.goto (-18), 3) := by decide +kernel
theorem d_Mod_put_48 : decode prog_9_method_40_code 48 = .ok (.iconst 0, 1) := by decide +kernel
theorem d_Mod_put_49 : decode prog_9_method_40_code 49 = .ok (.istore_n 3, 1) := by decide +kernel
theorem d_Mod_put_50 : decode prog_9_method_40_code 50 = .ok (.iload_n 3, 1) := by decide +kernel
theorem d_Mod_put_51 : decode prog_9_method_40_code 51 = .ok (.aload_n 0, 1) := by decide +kernel
theorem d_Mod_put_52 : decode prog_9_method_40_code 52 = .ok (.getfield 40, 3) := by decide +kernel
theorem d_Mod_put_55 : decode prog_9_method_40_code 55 = .ok (.iload_n 1, 1) := by decide +kernel
theorem d_Mod_put_56 : decode prog_9_method_40_code 56 = .ok (.iaload, 1) := by decide +kernel
theorem d_Mod_put_57 : decode prog_9_method_40_code 57 = .ok (.if_icmp .ge 16, 3) := by decide +kernel
theorem d_Mod_put_60 : decode prog_9_method_40_code 60 = .ok (.aload_n 0, 1) := by decide +kernel
theorem d_Mod_put_61 : decode prog_9_method_40_code 61 = .ok (.iload_n 2, 1) := by decide +kernel
theorem d_Mod_put_62 : decode prog_9_method_40_code 62 = .ok (.iload_n 3, 1) := by decide +kernel
theorem d_Mod_put_63 : decode prog_9_method_40_code 63 = .ok (.iadd, 1) := by decide +kernel
theorem d_Mod_put_64 : decode prog_9_method_40_code 64 = .ok (.invokevirtual 126, 3) := by decide +kernel
theorem d_Mod_put_67 : decode prog_9_method_40_code 67 = .ok (.iinc 3 1, 3) := by decide +kernel
theorem d_Mod_put_70 : decode prog_9_method_40_code 70 = .ok (.goto (-20), 3) := by decide +kernel
theorem d_Mod_put_73 : decode prog_9_method_40_code 73 = .ok (.return_, 1) := by decide +kernel
theorem d_Mod_write_0 : decode prog_9_method_41_code 0 = .ok (.aload_n 0, 1) := by decide +kernel
theorem d_Mod_write_1 : decode prog_9_method_41_code 1 = .ok (.getfield 37, 3) := by decide +kernel
theorem d_Mod_write_4 : decode prog_9_method_41_code 4 = .ok (.iload_n 1, 1) := by decide +kernel
theorem d_Mod_write_5 : decode prog_9_method_41_code 5 = .ok (.iaload, 1) := by decide +kernel
theorem d_Mod_write_6 : decode prog_9_method_41_code 6 = .ok (.istore_n 3, 1) := by decide +kernel
theorem d_Mod_write_7 : decode prog_9_method_41_code 7 = .ok (.aload_n 0, 1) := by decide +kernel
theorem d_Mod_write_8 : decode prog_9_method_41_code 8 = .ok (.getfield 40, 3) := by decide +kernel
theorem d_Mod_write_11 : decode prog_9_method_41_code 11 = .ok (.iload_n 1, 1) := by decide +kernel
theorem d_Mod_write_12 : decode prog_9_method_41_code 12 = .ok (.iaload, 1) := by decide +kernel
theorem d_Mod_write_13 : decode prog_9_method_41_code 13 = .ok (.istore 4, 2) := by decide +kernel
theorem d_Mod_write_15 : decode prog_9_method_41_code 15 = .ok (.aload_n 0, 1) := by decide +kernel
theorem d_Mod_write_16 : decode prog_9_method_41_code 16 = .ok (.getfield 31, 3) := by decide +kernel
theorem d_Mod_write_19 : decode prog_9_method_41_code 19 = .ok (.iload_n 1, 1) := by decide +kernel
theorem d_Mod_write_20 : decode prog_9_method_41_code 20 = .ok (.iaload, 1) := by decide +kernel
theorem d_Mod_write_21 : decode prog_9_method_41_code 21 = .ok (.istore 5, 2) := by decide +kernel
theorem d_Mod_write_23 : decode prog_9_method_41_code 23 = .ok (.iconst 0, 1) := by decide +kernel
theorem d_Mod_write_24 : decode prog_9_method_41_code 24 = .ok (.istore 6, 2) := by decide +kernel
theorem d_Mod_write_26 : decode prog_9_method_41_code 26 = .ok (.iload 6, 2) := by decide +kernel
theorem d_Mod_write_28 : decode prog_9_method_41_code 28 = .ok (.iload_n 3, 1) := by decide +kernel
theorem d_Mod_write_29 : decode prog_9_method_41_code 29 = .ok (.if_icmp .ge 23, 3) := by decide +kernel
theorem d_Mod_write_32 : decode prog_9_method_41_code 32 = .ok (.aload_n 0, 1) := by decide +kernel
theorem d_Mod_write_33 : decode prog_9_method_41_code 33 = .ok (.bipush 6, 2) := by decide +kernel
theorem d_Mod_write_35 : decode prog_9_method_41_code 35 = .ok (.iload 5, 2) := by decide +kernel
theorem d_Mod_write_37 : decode prog_9_method_41_code 37 = .ok (.iload 6, 2) := by decide +kernel
theorem d_Mod_write_39 : decode prog_9_method_41_code 39 = .ok (.iload 6, 2) := by decide +kernel
theorem d_Mod_write_41 : decode prog_9_method_41_code 41 = .ok (.invokevirtual 150, 3) := by decide +kernel
theorem d_Mod_write_44 : decode prog_9_method_41_code 44 = .ok (.istore 5, 2) := by decide +kernel
theorem d_Mod_write_46 : decode prog_9_method_41_code 46 = .ok (.iinc 6 1, 3) := by decide +kernel
theorem d_Mod_write_49 : decode prog_9_method_41_code 49 = .ok (.goto (-23), 3) := by decide +kernel
theorem d_Mod_write_52 : decode prog_9_method_41_code 52 = .ok (.aload_n 0, 1) := by decide +kernel
theorem d_Mod_write_53 : decode prog_9_method_41_code 53 = .ok (.bipush 6, 2) := by decide +kernel
theorem d_Mod_write_55 : decode prog_9_method_41_code 55 = .ok (.bipush 98, 2) := by decide +kernel
theorem d_Mod_write_57 : decode prog_9_method_41_code 57 = .ok (.iconst 0, 1) := by decide +kernel
theorem d_Mod_write_58 : decode prog_9_method_41_code 58 = .ok (.invokevirtual 63, 3) := by decide +kernel
theorem d_Mod_write_61 : decode prog_9_method_41_code 61 = .ok (.pop, 1) := by decide +kernel
theorem d_Mod_write_62 : decode prog_9_method_41_code 62 = .ok (.iload 5, 2) := by decide +kernel
theorem d_Mod_write_64 : decode prog_9_method_41_code 64 = .ok (.istore 6, 2) := by decide +kernel
theorem d_Mod_write_66 : decode prog_9_method_41_code 66 = .ok (.iconst 0, 1) := by decide +kernel
theorem d_Mod_write_67 : decode prog_9_method_41_code 67 = .ok (.istore 7, 2) := by decide +kernel
theorem d_Mod_write_69 : decode prog_9_method_41_code 69 = .ok (.iload 7, 2) := by decide +kernel
theorem d_Mod_write_71 : decode prog_9_method_41_code 71 = .ok (.iload 4, 2) := by decide +kernel
theorem d_Mod_write_73 : decode prog_9_method_41_code 73 = .ok (.if_icmp .ge 27, 3) := by decide +kernel
theorem d_Mod_write_76 : decode prog_9_method_41_code 76 = .ok (.aload_n 0, 1) := by decide +kernel
theorem d_Mod_write_77 : decode prog_9_method_41_code 77 = .ok (.bipush 6, 2) := by decide +kernel
theorem d_Mod_write_79 : decode prog_9_method_41_code 79 = .ok (.iload 6, 2) := by decide +kernel
theorem d_Mod_write_81 : decode prog_9_method_41_code 81 = .ok (.iload_n 3, 1) := by decide +kernel
theorem d_Mod_write_82 : decode prog_9_method_41_code 82 = .ok (.iload 7, 2) := by decide +kernel
theorem d_Mod_write_84 : decode prog_9_method_41_code 84 = .ok (.iadd, 1) := by decide +kernel
theorem d_Mod_write_85 : decode prog_9_method_41_code 85 = .ok (.iload_n 3, 1) := by decide +kernel
theorem d_Mod_write_86 : decode prog_9_method_41_code 86 = .ok (.iload 7, 2) := by decide +kernel
theorem d_Mod_write_88 : decode prog_9_method_41_code 88 = .ok (.iadd, 1) := by decide +kernel
theorem d_Mod_write_89 : decode prog_9_method_41_code 89 = .ok (.invokevirtual 150, 3) := by decide +kernel
theorem d_Mod_write_92 : decode prog_9_method_41_code 92 = .ok (.istore 6, 2) := by decide +kernel
theorem d_Mod_write_94 : decode prog_9_method_41_code 94 = .ok (.iinc 7 1, 3) := by decide +kernel
theorem d_Mod_write_97 : decode prog_9_method_41_code 97 = .ok (.goto (-28), 3) := by decide +kernel
theorem d_Mod_write_100 : decode prog_9_method_41_code 100 = .ok (.aload_n 0, 1) := by decide +kernel
theorem d_Mod_write_101 : decode prog_9_method_41_code 101 = .ok (.bipush 6, 2) := by decide +kernel
theorem d_Mod_write_103 : decode prog_9_method_41_code 103 = .ok (.iconst (-1), 1) := by decide +kernel
theorem d_Mod_write_104 : decode prog_9_method_41_code 104 = .ok (.iconst 0, 1) := by decide +kernel
theorem d_Mod_write_105 : decode prog_9_method_41_code 105 = .ok (.invokevirtual 63, 3) := by decide +kernel
theorem d_Mod_write_108 : decode prog_9_method_41_code 108 = .ok (.pop, 1) := by decide +kernel
theorem d_Mod_write_109 : decode prog_9_method_41_code 109 = .ok (.aload_n 0, 1) := by decide +kernel
theorem d_Mod_write_110 : decode prog_9_method_41_code 110 = .ok (.iload_n 1, 1) := by decide +kernel
theorem d_Mod_write_111 : decode prog_9_method_41_code 111 = .ok (.iload_n 3, 1) := by decide +kernel
theorem d_Mod_write_112 : decode prog_9_method_41_code 112 = .ok (.invokevirtual 156, 3) := by decide +kernel
theorem d_Mod_write_115 : decode prog_9_method_41_code 115 = .ok (.aload_n 0, 1) := by decide +kernel
theorem d_Mod_write_116 : decode prog_9_method_41_code 116 = .ok (.iconst 2, 1) := by decide +kernel
theorem d_Mod_write_117 : decode prog_9_method_41_code 117 = .ok (.iload_n 2, 1) := by decide +kernel
theorem d_Mod_write_118 : decode prog_9_method_41_code 118 = .ok (.iconst 0, 1) := by decide +kernel
theorem d_Mod_write_119 : decode prog_9_method_41_code 119 = .ok (.invokevirtual 63, 3) := by decide +kernel
theorem d_Mod_write_122 : decode prog_9_method_41_code 122 = .ok (.pop, 1) := by decide +kernel
theorem d_Mod_write_123 : decode prog_9_method_41_code 123 = .ok (.iload_n 3, 1) := by decide +kernel
theorem d_Mod_write_124 : decode prog_9_method_41_code 124 = .ok (.iconst 1, 1) := by decide +kernel
theorem d_Mod_write_125 : decode prog_9_method_41_code 125 = .ok (.iadd, 1) := by decide +kernel
theorem d_Mod_write_126 : decode prog_9_method_41_code 126 = .ok (.istore 7, 2) := by decide +kernel
theorem d_Mod_write_128 : decode prog_9_method_41_code 128 = .ok (.iload_n 1, 1) := by decide +kernel
theorem d_Mod_write_129 : decode prog_9_method_41_code 129 = .ok (.iconst 1, 1) := by decide +kernel
theorem d_Mod_write_130 : decode prog_9_method_41_code 130 = .ok (.iadd, 1) := by decide +kernel
theorem d_Mod_write_131 : decode prog_9_method_41_code 131 = .ok (.istore 8, 2) := by decide +kernel
theorem d_Mod_write_133 : decode prog_9_method_41_code 133 = .ok (.iload 8, 2) := by decide +kernel
theorem d_Mod_write_135 : decode prog_9_method_41_code 135 = .ok (.iload_n 1, 1) := by decide +kernel
theorem d_Mod_write_136 : decode prog_9_method_41_code 136 = .ok (.aload_n 0, 1) := by decide +kernel
theorem d_Mod_write_137 : decode prog_9_method_41_code 137 = .ok (.getfield 43, 3) := by decide +kernel
theorem d_Mod_write_140 : decode prog_9_method_41_code 140 = .ok (.iload_n 1, 1) := by decide +kernel
theorem d_Mod_write_141 : decode prog_9_method_41_code 141 = .ok (.iaload, 1) := by decide +kernel
theorem d_Mod_write_142 : decode prog_9_method_41_code 142 = .ok (.iadd, 1) := by decide +kernel
theorem d_Mod_write_143 : decode prog_9_method_41_code 143 = .ok (.if_icmp .gt 29, 3) := by decide +kernel
theorem d_Mod_write_146 : decode prog_9_method_41_code 146 = .ok (.aload_n 0, 1) := by decide +kernel
theorem d_Mod_write_147 : decode prog_9_method_41_code 147 = .ok (.bipush 6, 2) := by decide +kernel
theorem d_Mod_write_149 : decode prog_9_method_41_code 149 = .ok (.iconst (-1), 1) := by decide +kernel
theorem d_Mod_write_150 : decode prog_9_method_41_code 150 = .ok (.iconst 0, 1) := by decide +kernel
theorem d_Mod_write_151 : decode prog_9_method_41_code 151 = .ok (.invokevirtual 63, 3) := by decide +kernel
theorem d_Mod_write_154 : decode prog_9_method_41_code 154 = .ok (.pop, 1) := by decide +kernel
theorem d_Mod_write_155 : decode prog_9_method_41_code 155 = .ok (.aload_n 0, 1) := by decide +kernel
theorem d_Mod_write_156 : decode prog_9_method_41_code 156 = .ok (.iload 8, 2) := by decide +kernel
theorem d_Mod_write_158 : decode prog_9_method_41_code 158 = .ok (.iload 7, 2) := by decide +kernel
theorem d_Mod_write_160 : decode prog_9_method_41_code 160 = .ok (.invokevirtual 159, 3) := by decide +kernel
theorem d_Mod_write_163 : decode prog_9_method_41_code 163 = .ok (.iinc 7 1, 3) := by decide +kernel
theorem d_Mod_write_166 : decode prog_9_method_41_code 166 = .ok (.iinc 8 1, 3) := by decide +kernel
theorem d_Mod_write_169 : decode prog_9_method_41_code 169 = .ok (.goto (-36), 3) := by decide +kernel
theorem d_Mod_write_172 : decode prog_9_method_41_code 172 = .ok (.iload 5, 2) := by decide +kernel
theorem d_Mod_write_174 : decode prog_9_method_41_code 174 = .ok (.istore 6, 2) := by decide +kernel
theorem d_Mod_write_176 : decode prog_9_method_41_code 176 = .ok (.iconst 0, 1) := by decide +kernel
theorem d_Mod_write_177 : decode prog_9_method_41_code 177 = .ok (.istore 8, 2) := by decide +kernel
theorem d_Mod_write_179 : decode prog_9_method_41_code 179 = .ok (.iload 8, 2) := by decide +kernel
theorem d_Mod_write_181 : decode prog_9_method_41_code 181 = .ok (.iload 4, 2) := by decide +kernel
theorem d_Mod_write_183 : decode prog_9_method_41_code 183 = .ok (.if_icmp .ge 28, 3) := by decide +kernel
theorem d_Mod_write_186 : decode prog_9_method_41_code 186 = .ok (.aload_n 0, 1) := by decide +kernel
theorem d_Mod_write_187 : decode prog_9_method_41_code 187 = .ok (.bipush 6, 2) := by decide +kernel
theorem d_Mod_write_189 : decode prog_9_method_41_code 189 = .ok (.iload 6, 2) := by decide +kernel
theorem d_Mod_write_191 : decode prog_9_method_41_code 191 = .ok (.iload_n 3, 1) := by decide +kernel
theorem d_Mod_write_192 : decode prog_9_method_41_code 192 = .ok (.iload 8, 2) := by decide +kernel
theorem d_Mod_write_194 : decode prog_9_method_41_code 194 = .ok (.iadd, 1) := by decide +kernel
