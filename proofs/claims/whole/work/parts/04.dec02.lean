/-! decode rows -/
theorem d_Mod_global_91 : decode prog_9_method_17_code 91 = .ok (.putfield 81, 3) := by decide +kernel
theorem d_Mod_global_94 : decode prog_9_method_17_code 94 = .ok (.ireturn, 1) := by decide +kernel
theorem d_Mod_axiom_0 : decode prog_9_method_18_code 0 = .ok (.aload_n 0, 1) := by decide +kernel
theorem d_Mod_axiom_1 : decode prog_9_method_18_code 1 = .ok (.getfield 81, 3) := by decide +kernel
theorem d_Mod_axiom_4 : decode prog_9_method_18_code 4 = .ok (.bipush 100, 2) := by decide +kernel
theorem d_Mod_axiom_6 : decode prog_9_method_18_code 6 = .ok (.if_icmp .ne 7, 3) := by decide +kernel
theorem d_Mod_axiom_9 : decode prog_9_method_18_code 9 = .ok (.iconst (-1), 1) := by decide +kernel
theorem d_Mod_axiom_10 : decode prog_9_method_18_code 10 = .ok (.goto 13, 3) := by decide +kernel
theorem d_Mod_axiom_13 : decode prog_9_method_18_code 13 = .ok (.aload_n 0, 1) := by decide +kernel
theorem d_Mod_axiom_14 : decode prog_9_method_18_code 14 = .ok (.iconst 0, 1) := by decide +kernel
theorem d_Mod_axiom_15 : decode prog_9_method_18_code 15 = .ok (.iconst (-1), 1) := by decide +kernel
theorem d_Mod_axiom_16 : decode prog_9_method_18_code 16 = .ok (.aload_n 0, 1) := by decide +kernel
theorem d_Mod_axiom_17 : decode prog_9_method_18_code 17 = .ok (.getfield 81, 3) := by decide +kernel
theorem d_Mod_axiom_20 : decode prog_9_method_18_code 20 = .ok (.invokevirtual 98, 3) := by decide +kernel
theorem d_Mod_axiom_23 : decode prog_9_method_18_code 23 = .ok (.ireturn, 1) := by decide +kernel
theorem d_Mod_alls_0 : decode prog_9_method_19_code 0 = .ok (.iconst 0, 1) := by decide +kernel
theorem d_Mod_alls_1 : decode prog_9_method_19_code 1 = .ok (.istore_n 2, 1) := by decide +kernel
theorem d_Mod_alls_2 : decode prog_9_method_19_code 2 = .ok (.iload_n 1, 1) := by decide +kernel
theorem d_Mod_alls_3 : decode prog_9_method_19_code 3 = .ok (.istore_n 3, 1) := by decide +kernel
theorem d_Mod_alls_4 : decode prog_9_method_19_code 4 = .ok (.aload_n 0, 1) := by decide +kernel
theorem d_Mod_alls_5 : decode prog_9_method_19_code 5 = .ok (.getfield 7, 3) := by decide +kernel
theorem d_Mod_alls_8 : decode prog_9_method_19_code 8 = .ok (.iload_n 3, 1) := by decide +kernel
theorem d_Mod_alls_9 : decode prog_9_method_19_code 9 = .ok (.iaload, 1) := by decide +kernel
theorem d_Mod_alls_10 : decode prog_9_method_19_code 10 = .ok (.bipush 6, 2) := by decide +kernel
theorem d_Mod_alls_12 : decode prog_9_method_19_code 12 = .ok (.if_icmp .ne 15, 3) := by decide +kernel
theorem d_Mod_alls_15 : decode prog_9_method_19_code 15 = .ok (.iinc 2 1, 3) := by decide +kernel
theorem d_Mod_alls_18 : decode prog_9_method_19_code 18 = .ok (.aload_n 0, 1) := by decide +kernel
theorem d_Mod_alls_19 : decode prog_9_method_19_code 19 = .ok (.iload_n 3, 1) := by decide +kernel
theorem d_Mod_alls_20 : decode prog_9_method_19_code 20 = .ok (.invokevirtual 67, 3) := by decide +kernel
theorem d_Mod_alls_23 : decode prog_9_method_19_code 23 = .ok (.istore_n 3, 1) := by decide +kernel
theorem d_Mod_alls_24 : decode prog_9_method_19_code 24 = .ok (.goto (-20), 3) := by decide +kernel
theorem d_Mod_alls_27 : decode prog_9_method_19_code 27 = .ok (.iload_n 2, 1) := by decide +kernel
theorem d_Mod_alls_28 : decode prog_9_method_19_code 28 = .ok (.ireturn, 1) := by decide +kernel
theorem d_Mod_under_0 : decode prog_9_method_20_code 0 = .ok (.iload_n 1, 1) := by decide +kernel
theorem d_Mod_under_1 : decode prog_9_method_20_code 1 = .ok (.istore_n 3, 1) := by decide +kernel
theorem d_Mod_under_2 : decode prog_9_method_20_code 2 = .ok (.iconst 0, 1) := by decide +kernel
theorem d_Mod_under_3 : decode prog_9_method_20_code 3 = .ok (.istore 4, 2) := by decide +kernel
theorem d_Mod_under_5 : decode prog_9_method_20_code 5 = .ok (.iload 4, 2) := by decide +kernel
theorem d_Mod_under_7 : decode prog_9_method_20_code 7 = .ok (.iload_n 2, 1) := by decide +kernel
theorem d_Mod_under_8 : decode prog_9_method_20_code 8 = .ok (.if_icmp .ge 15, 3) := by decide +kernel
theorem d_Mod_under_11 : decode prog_9_method_20_code 11 = .ok (.aload_n 0, 1) := by decide +kernel
theorem d_Mod_under_12 : decode prog_9_method_20_code 12 = .ok (.iload_n 3, 1) := by decide +kernel
theorem d_Mod_under_13 : decode prog_9_method_20_code 13 = .ok (.invokevirtual 67, 3) := by decide +kernel
theorem d_Mod_under_16 : decode prog_9_method_20_code 16 = .ok (.istore_n 3, 1) := by decide +kernel
theorem d_Mod_under_17 : decode prog_9_method_20_code 17 = .ok (.iinc 4 1, 3) := by decide +kernel
theorem d_Mod_under_20 : decode prog_9_method_20_code 20 = .ok (.goto (-15), 3) := by decide +kernel
theorem d_Mod_under_23 : decode prog_9_method_20_code 23 = .ok (.iload_n 3, 1) := by decide +kernel
theorem d_Mod_under_24 : decode prog_9_method_20_code 24 = .ok (.ireturn, 1) := by decide +kernel
theorem d_Mod_family_0 : decode prog_9_method_21_code 0 = .ok (.aload_n 0, 1) := by decide +kernel
theorem d_Mod_family_1 : decode prog_9_method_21_code 1 = .ok (.iload_n 1, 1) := by decide +kernel
theorem d_Mod_family_2 : decode prog_9_method_21_code 2 = .ok (.invokevirtual 90, 3) := by decide +kernel
theorem d_Mod_family_5 : decode prog_9_method_21_code 5 = .ok (.ifCond .eq 43, 3) := by decide +kernel
theorem d_Mod_family_8 : decode prog_9_method_21_code 8 = .ok (.aload_n 0, 1) := by decide +kernel
theorem d_Mod_family_9 : decode prog_9_method_21_code 9 = .ok (.aload_n 0, 1) := by decide +kernel
theorem d_Mod_family_10 : decode prog_9_method_21_code 10 = .ok (.getfield 25, 3) := by decide +kernel
theorem d_Mod_family_13 : decode prog_9_method_21_code 13 = .ok (.iload_n 1, 1) := by decide +kernel
theorem d_Mod_family_14 : decode prog_9_method_21_code 14 = .ok (.iaload, 1) := by decide +kernel
theorem d_Mod_family_15 : decode prog_9_method_21_code 15 = .ok (.invokevirtual 101, 3) := by decide +kernel
theorem d_Mod_family_18 : decode prog_9_method_21_code 18 = .ok (.ifCond .eq 30, 3) := by decide +kernel
theorem d_Mod_family_21 : decode prog_9_method_21_code 21 = .ok (.iload_n 2, 1) := by decide +kernel
theorem d_Mod_family_22 : decode prog_9_method_21_code 22 = .ok (.ifCond .lt 26, 3) := by decide +kernel
theorem d_Mod_family_25 : decode prog_9_method_21_code 25 = .ok (.iload_n 3, 1) := by decide +kernel
theorem d_Mod_family_26 : decode prog_9_method_21_code 26 = .ok (.ifCond .lt 22, 3) := by decide +kernel
theorem d_Mod_family_29 : decode prog_9_method_21_code 29 = .ok (.iload_n 3, 1) := by decide +kernel
theorem d_Mod_family_30 : decode prog_9_method_21_code 30 = .ok (.bipush 12, 2) := by decide +kernel
theorem d_Mod_family_32 : decode prog_9_method_21_code 32 = .ok (.if_icmp .gt 16, 3) := by decide +kernel
theorem d_Mod_family_35 : decode prog_9_method_21_code 35 = .ok (.aload_n 0, 1) := by decide +kernel
theorem d_Mod_family_36 : decode prog_9_method_21_code 36 = .ok (.getfield 81, 3) := by decide +kernel
theorem d_Mod_family_39 : decode prog_9_method_21_code 39 = .ok (.iconst 1, 1) := by decide +kernel
theorem d_Mod_family_40 : decode prog_9_method_21_code 40 = .ok (.iadd, 1) := by decide +kernel
theorem d_Mod_family_41 : decode prog_9_method_21_code 41 = .ok (.iload_n 3, 1) := by decide +kernel
theorem d_Mod_family_42 : decode prog_9_method_21_code 42 = .ok (.iadd, 1) := by decide +kernel
theorem d_Mod_family_43 : decode prog_9_method_21_code 43 = .ok (.bipush 100, 2) := by decide +kernel
theorem d_Mod_family_45 : decode prog_9_method_21_code 45 = .ok (.if_icmp .le 5, 3) := by decide +kernel
theorem d_Mod_family_48 : decode prog_9_method_21_code 48 = .ok (.iconst (-1), 1) := by decide +kernel
theorem d_Mod_family_49 : decode prog_9_method_21_code 49 = .ok (.ireturn, 1) := by decide +kernel
theorem d_Mod_family_50 : decode prog_9_method_21_code 50 = .ok (.aload_n 0, 1) := by decide +kernel
theorem d_Mod_family_51 : decode prog_9_method_21_code 51 = .ok (.aload_n 0, 1) := by decide +kernel
theorem d_Mod_family_52 : decode prog_9_method_21_code 52 = .ok (.getfield 25, 3) := by decide +kernel
theorem d_Mod_family_55 : decode prog_9_method_21_code 55 = .ok (.iload_n 1, 1) := by decide +kernel
theorem d_Mod_family_56 : decode prog_9_method_21_code 56 = .ok (.iaload, 1) := by decide +kernel
theorem d_Mod_family_57 : decode prog_9_method_21_code 57 = .ok (.invokevirtual 104, 3) := by decide +kernel
theorem d_Mod_family_60 : decode prog_9_method_21_code 60 = .ok (.istore 4, 2) := by decide +kernel
theorem d_Mod_family_62 : decode prog_9_method_21_code 62 = .ok (.aload_n 0, 1) := by decide +kernel
theorem d_Mod_family_63 : decode prog_9_method_21_code 63 = .ok (.getfield 7, 3) := by decide +kernel
theorem d_Mod_family_66 : decode prog_9_method_21_code 66 = .ok (.aload_n 0, 1) := by decide +kernel
theorem d_Mod_family_67 : decode prog_9_method_21_code 67 = .ok (.aload_n 0, 1) := by decide +kernel
theorem d_Mod_family_68 : decode prog_9_method_21_code 68 = .ok (.getfield 25, 3) := by decide +kernel
theorem d_Mod_family_71 : decode prog_9_method_21_code 71 = .ok (.iload_n 1, 1) := by decide +kernel
theorem d_Mod_family_72 : decode prog_9_method_21_code 72 = .ok (.iaload, 1) := by decide +kernel
theorem d_Mod_family_73 : decode prog_9_method_21_code 73 = .ok (.iload 4, 2) := by decide +kernel
theorem d_Mod_family_75 : decode prog_9_method_21_code 75 = .ok (.invokevirtual 107, 3) := by decide +kernel
theorem d_Mod_family_78 : decode prog_9_method_21_code 78 = .ok (.iaload, 1) := by decide +kernel
theorem d_Mod_family_79 : decode prog_9_method_21_code 79 = .ok (.iconst 2, 1) := by decide +kernel
theorem d_Mod_family_80 : decode prog_9_method_21_code 80 = .ok (.if_icmp .ne 9, 3) := by decide +kernel
theorem d_Mod_family_83 : decode prog_9_method_21_code 83 = .ok (.iload 4, 2) := by decide +kernel
theorem d_Mod_family_85 : decode prog_9_method_21_code 85 = .ok (.iload_n 2, 1) := by decide +kernel
theorem d_Mod_family_86 : decode prog_9_method_21_code 86 = .ok (.if_icmp .ge 5, 3) := by decide +kernel
theorem d_Mod_family_89 : decode prog_9_method_21_code 89 = .ok (.iconst (-1), 1) := by decide +kernel
theorem d_Mod_family_90 : decode prog_9_method_21_code 90 = .ok (.ireturn, 1) := by decide +kernel
theorem d_Mod_family_91 : decode prog_9_method_21_code 91 = .ok (.aload_n 0, 1) := by decide +kernel
theorem d_Mod_family_92 : decode prog_9_method_21_code 92 = .ok (.iconst 3, 1) := by decide +kernel
theorem d_Mod_family_93 : decode prog_9_method_21_code 93 = .ok (.aload_n 0, 1) := by decide +kernel
theorem d_Mod_family_94 : decode prog_9_method_21_code 94 = .ok (.getfield 25, 3) := by decide +kernel
theorem d_Mod_family_97 : decode prog_9_method_21_code 97 = .ok (.iload_n 1, 1) := by decide +kernel
theorem d_Mod_family_98 : decode prog_9_method_21_code 98 = .ok (.iaload, 1) := by decide +kernel
theorem d_Mod_family_99 : decode prog_9_method_21_code 99 = .ok (.aload_n 0, 1) := by decide +kernel
theorem d_Mod_family_100 : decode prog_9_method_21_code 100 = .ok (.getfield 81, 3) := by decide +kernel
theorem d_Mod_family_103 : decode prog_9_method_21_code 103 = .ok (.invokevirtual 98, 3) := by decide +kernel
theorem d_Mod_family_106 : decode prog_9_method_21_code 106 = .ok (.istore 5, 2) := by decide +kernel
theorem d_Mod_family_108 : decode prog_9_method_21_code 108 = .ok (.aload_n 0, 1) := by decide +kernel
theorem d_Mod_family_109 : decode prog_9_method_21_code 109 = .ok (.getfield 37, 3) := by decide +kernel
theorem d_Mod_family_112 : decode prog_9_method_21_code 112 = .ok (.iload 5, 2) := by decide +kernel
theorem d_Mod_family_114 : decode prog_9_method_21_code 114 = .ok (.iload_n 2, 1) := by decide +kernel
theorem d_Mod_family_115 : decode prog_9_method_21_code 115 = .ok (.iastore, 1) := by decide +kernel
theorem d_Mod_family_116 : decode prog_9_method_21_code 116 = .ok (.aload_n 0, 1) := by decide +kernel
theorem d_Mod_family_117 : decode prog_9_method_21_code 117 = .ok (.getfield 40, 3) := by decide +kernel
theorem d_Mod_family_120 : decode prog_9_method_21_code 120 = .ok (.iload 5, 2) := by decide +kernel
theorem d_Mod_family_122 : decode prog_9_method_21_code 122 = .ok (.iload 4, 2) := by decide +kernel
theorem d_Mod_family_124 : decode prog_9_method_21_code 124 = .ok (.iload_n 2, 1) := by decide +kernel
theorem d_Mod_family_125 : decode prog_9_method_21_code 125 = .ok (.isub, 1) := by decide +kernel
theorem d_Mod_family_126 : decode prog_9_method_21_code 126 = .ok (.iastore, 1) := by decide +kernel
theorem d_Mod_family_127 : decode prog_9_method_21_code 127 = .ok (.aload_n 0, 1) := by decide +kernel
theorem d_Mod_family_128 : decode prog_9_method_21_code 128 = .ok (.getfield 43, 3) := by decide +kernel
theorem d_Mod_family_131 : decode prog_9_method_21_code 131 = .ok (.iload 5, 2) := by decide +kernel
theorem d_Mod_family_133 : decode prog_9_method_21_code 133 = .ok (.iload_n 3, 1) := by decide +kernel
theorem d_Mod_family_134 : decode prog_9_method_21_code 134 = .ok (.iastore, 1) := by decide +kernel
theorem d_Mod_family_135 : decode prog_9_method_21_code 135 = .ok (.iconst 0, 1) := by decide +kernel
theorem d_Mod_family_136 : decode prog_9_method_21_code 136 = .ok (.istore 6, 2) := by decide +kernel
theorem d_Mod_family_138 : decode prog_9_method_21_code 138 = .ok (.iload 6, 2) := by decide +kernel
theorem d_Mod_family_140 : decode prog_9_method_21_code 140 = .ok (.iload_n 3, 1) := by decide +kernel
theorem d_Mod_family_141 : decode prog_9_method_21_code 141 = .ok (.if_icmp .ge 18, 3) := by decide +kernel
theorem d_Mod_family_144 : decode prog_9_method_21_code 144 = .ok (.aload_n 0, 1) := by decide +kernel
theorem d_Mod_family_145 : decode prog_9_method_21_code 145 = .ok (.iconst 4, 1) := by decide +kernel
theorem d_Mod_family_146 : decode prog_9_method_21_code 146 = .ok (.iconst (-1), 1) := by decide +kernel
theorem d_Mod_family_147 : decode prog_9_method_21_code 147 = .ok (.iload 5, 2) := by decide +kernel
theorem d_Mod_family_149 : decode prog_9_method_21_code 149 = .ok (.invokevirtual 98, 3) := by decide +kernel
theorem d_Mod_family_152 : decode prog_9_method_21_code 152 = .ok (.pop, 1) := by decide +kernel
theorem d_Mod_family_153 : decode prog_9_method_21_code 153 = .ok (.iinc 6 1, 3) := by decide +kernel
theorem d_Mod_family_156 : decode prog_9_method_21_code 156 = .ok (.goto (-18), 3) := by decide +kernel
theorem d_Mod_family_159 : decode prog_9_method_21_code 159 = .ok (.iload 5, 2) := by decide +kernel
theorem d_Mod_family_161 : decode prog_9_method_21_code 161 = .ok (.ireturn, 1) := by decide +kernel
theorem d_Mod_isPut_0 : decode prog_9_method_22_code 0 = .ok (.iload_n 1, 1) := by decide +kernel
theorem d_Mod_isPut_1 : decode prog_9_method_22_code 1 = .ok (.istore 4, 2) := by decide +kernel
theorem d_Mod_isPut_3 : decode prog_9_method_22_code 3 = .ok (.aload_n 0, 1) := by decide +kernel
theorem d_Mod_isPut_4 : decode prog_9_method_22_code 4 = .ok (.getfield 7, 3) := by decide +kernel
theorem d_Mod_isPut_7 : decode prog_9_method_22_code 7 = .ok (.iload 4, 2) := by decide +kernel
theorem d_Mod_isPut_9 : decode prog_9_method_22_code 9 = .ok (.iaload, 1) := by decide +kernel
theorem d_Mod_isPut_10 : decode prog_9_method_22_code 10 = .ok (.iconst 4, 1) := by decide +kernel
theorem d_Mod_isPut_11 : decode prog_9_method_22_code 11 = .ok (.if_icmp .ne 9, 3) := by decide +kernel
theorem d_Mod_isPut_14 : decode prog_9_method_22_code 14 = .ok (.iinc 4 1, 3) := by decide +kernel
theorem d_Mod_isPut_17 : decode prog_9_method_22_code 17 = .ok (.goto (-14), 3) := by decide +kernel
theorem d_Mod_isPut_20 : decode prog_9_method_22_code 20 = .ok (.iload 4, 2) := by decide +kernel
theorem d_Mod_isPut_22 : decode prog_9_method_22_code 22 = .ok (.iload_n 1, 1) := by decide +kernel
theorem d_Mod_isPut_23 : decode prog_9_method_22_code 23 = .ok (.isub, 1) := by decide +kernel
theorem d_Mod_isPut_24 : decode prog_9_method_22_code 24 = .ok (.aload_n 0, 1) := by decide +kernel
theorem d_Mod_isPut_25 : decode prog_9_method_22_code 25 = .ok (.getfield 37, 3) := by decide +kernel
theorem d_Mod_isPut_28 : decode prog_9_method_22_code 28 = .ok (.iload_n 2, 1) := by decide +kernel
theorem d_Mod_isPut_29 : decode prog_9_method_22_code 29 = .ok (.iaload, 1) := by decide +kernel
theorem d_Mod_isPut_30 : decode prog_9_method_22_code 30 = .ok (.aload_n 0, 1) := by decide +kernel
theorem d_Mod_isPut_31 : decode prog_9_method_22_code 31 = .ok (.getfield 40, 3) := by decide +kernel
theorem d_Mod_isPut_34 : decode prog_9_method_22_code 34 = .ok (.iload_n 2, 1) := by decide +kernel
theorem d_Mod_isPut_35 : decode prog_9_method_22_code 35 = .ok (.iaload, 1) := by decide +kernel
theorem d_Mod_isPut_36 : decode prog_9_method_22_code 36 = .ok (.iadd, 1) := by decide +kernel
theorem d_Mod_isPut_37 : decode prog_9_method_22_code 37 = .ok (.if_icmp .ne 29, 3) := by decide +kernel
theorem d_Mod_isPut_40 : decode prog_9_method_22_code 40 = .ok (.aload_n 0, 1) := by decide +kernel
theorem d_Mod_isPut_41 : decode prog_9_method_22_code 41 = .ok (.getfield 7, 3) := by decide +kernel
theorem d_Mod_isPut_44 : decode prog_9_method_22_code 44 = .ok (.iload 4, 2) := by decide +kernel
theorem d_Mod_isPut_46 : decode prog_9_method_22_code 46 = .ok (.iaload, 1) := by decide +kernel
theorem d_Mod_isPut_47 : decode prog_9_method_22_code 47 = .ok (.iconst 1, 1) := by decide +kernel
theorem d_Mod_isPut_48 : decode prog_9_method_22_code 48 = .ok (.if_icmp .ne 18, 3) := by decide +kernel
theorem d_Mod_isPut_51 : decode prog_9_method_22_code 51 = .ok (.aload_n 0, 1) := by decide +kernel
theorem d_Mod_isPut_52 : decode prog_9_method_22_code 52 = .ok (.getfield 13, 3) := by decide +kernel
theorem d_Mod_isPut_55 : decode prog_9_method_22_code 55 = .ok (.iload 4, 2) := by decide +kernel
theorem d_Mod_isPut_57 : decode prog_9_method_22_code 57 = .ok (.iaload, 1) := by decide +kernel
theorem d_Mod_isPut_58 : decode prog_9_method_22_code 58 = .ok (.iload_n 2, 1) := by decide +kernel
theorem d_Mod_isPut_59 : decode prog_9_method_22_code 59 = .ok (.if_icmp .ne 7, 3) := by decide +kernel
theorem d_Mod_isPut_62 : decode prog_9_method_22_code 62 = .ok (.iconst 1, 1) := by decide +kernel
theorem d_Mod_isPut_63 : decode prog_9_method_22_code 63 = .ok (.goto 4, 3) := by decide +kernel
theorem d_Mod_isPut_66 : decode prog_9_method_22_code 66 = .ok (.iconst 0, 1) := by decide +kernel
theorem d_Mod_isPut_67 : decode prog_9_method_22_code 67 = .ok (.istore 5, 2) := by decide +kernel
theorem d_Mod_isPut_69 : decode prog_9_method_22_code 69 = .ok (.iinc 4 1, 3) := by decide +kernel
theorem d_Mod_isPut_72 : decode prog_9_method_22_code 72 = .ok (.iconst 0, 1) := by decide +kernel
theorem d_Mod_isPut_73 : decode prog_9_method_22_code 73 = .ok (.istore 6, 2) := by decide +kernel
theorem d_Mod_isPut_75 : decode prog_9_method_22_code 75 = .ok (.iload 6, 2) := by decide +kernel
theorem d_Mod_isPut_77 : decode prog_9_method_22_code 77 = .ok (.aload_n 0, 1) := by decide +kernel
theorem d_Mod_isPut_78 : decode prog_9_method_22_code 78 = .ok (.getfield 37, 3) := by decide +kernel
theorem d_Mod_isPut_81 : decode prog_9_method_22_code 81 = .ok (.iload_n 2, 1) := by decide +kernel
theorem d_Mod_isPut_82 : decode prog_9_method_22_code 82 = .ok (.iaload, 1) := by decide +kernel
theorem d_Mod_isPut_83 : decode prog_9_method_22_code 83 = .ok (.if_icmp .ge 57, 3) := by decide +kernel
theorem d_Mod_isPut_86 : decode prog_9_method_22_code 86 = .ok (.iload 5, 2) := by decide +kernel
theorem d_Mod_isPut_88 : decode prog_9_method_22_code 88 = .ok (.ifCond .eq 52, 3) := by decide +kernel
theorem d_Mod_isPut_91 : decode prog_9_method_22_code 91 = .ok (.aload_n 0, 1) := by decide +kernel
theorem d_Mod_isPut_92 : decode prog_9_method_22_code 92 = .ok (.getfield 7, 3) := by decide +kernel
theorem d_Mod_isPut_95 : decode prog_9_method_22_code 95 = .ok (.iload 4, 2) := by decide +kernel
theorem d_Mod_isPut_97 : decode prog_9_method_22_code 97 = .ok (.iaload, 1) := by decide +kernel
theorem d_Mod_isPut_98 : decode prog_9_method_22_code 98 = .ok (.ifCond .ne 21, 3) := by decide +kernel
theorem d_Mod_isPut_101 : decode prog_9_method_22_code 101 = .ok (.aload_n 0, 1) := by decide +kernel
theorem d_Mod_isPut_102 : decode prog_9_method_22_code 102 = .ok (.getfield 13, 3) := by decide +kernel
theorem d_Mod_isPut_105 : decode prog_9_method_22_code 105 = .ok (.iload 4, 2) := by decide +kernel
theorem d_Mod_isPut_107 : decode prog_9_method_22_code 107 = .ok (.iaload, 1) := by decide +kernel
theorem d_Mod_isPut_108 : decode prog_9_method_22_code 108 = .ok (.iload_n 3, 1) := by decide +kernel
theorem d_Mod_isPut_109 : decode prog_9_method_22_code 109 = .ok (.iload 6, 2) := by decide +kernel
theorem d_Mod_isPut_111 : decode prog_9_method_22_code 111 = .ok (.isub, 1) := by decide +kernel
theorem d_Mod_isPut_112 : decode prog_9_method_22_code 112 = .ok (.if_icmp .ne 7, 3) := by decide +kernel
theorem d_Mod_isPut_115 : decode prog_9_method_22_code 115 = .ok (.iconst 1, 1) := by decide +kernel
theorem d_Mod_isPut_116 : decode prog_9_method_22_code 116 = .ok (.goto 4, 3) := by decide +kernel
theorem d_Mod_isPut_119 : decode prog_9_method_22_code 119 = .ok (.iconst 0, 1) := by decide +kernel
theorem d_Mod_isPut_120 : decode prog_9_method_22_code 120 = .ok (.istore 5, 2) := by decide +kernel
theorem d_Mod_isPut_122 : decode prog_9_method_22_code 122 = .ok (.iload 4, 2) := by decide +kernel
theorem d_Mod_isPut_124 : decode prog_9_method_22_code 124 = .ok (.aload_n 0, 1) := by decide +kernel
theorem d_Mod_isPut_125 : decode prog_9_method_22_code 125 = .ok (.getfield 19, 3) := by decide +kernel
theorem d_Mod_isPut_128 : decode prog_9_method_22_code 128 = .ok (.iload 4, 2) := by decide +kernel
theorem d_Mod_isPut_130 : decode prog_9_method_22_code 130 = .ok (.iaload, 1) := by decide +kernel
theorem d_Mod_isPut_131 : decode prog_9_method_22_code 131 = .ok (.iadd, 1) := by decide +kernel
theorem d_Mod_isPut_132 : decode prog_9_method_22_code 132 = .ok (.istore 4, 2) := by decide +kernel
theorem d_Mod_isPut_134 : decode prog_9_method_22_code 134 = .ok (.iinc 6 1, 3) := by decide +kernel
theorem d_Mod_isPut_137 : decode prog_9_method_22_code 137 = .ok (.goto (-62), 3) := by decide +kernel
theorem d_Mod_isPut_140 : decode prog_9_method_22_code 140 = .ok (.iload 5, 2) := by decide +kernel
theorem d_Mod_isPut_142 : decode prog_9_method_22_code 142 = .ok (.ireturn, 1) := by decide +kernel
theorem d_Mod_has_0 : decode prog_9_method_23_code 0 = .ok (.iconst 0, 1) := by decide +kernel
theorem d_Mod_has_1 : decode prog_9_method_23_code 1 = .ok (.istore_n 3, 1) := by decide +kernel
theorem d_Mod_has_2 : decode prog_9_method_23_code 2 = .ok (.iload_n 1, 1) := by decide +kernel
theorem d_Mod_has_3 : decode prog_9_method_23_code 3 = .ok (.istore 4, 2) := by decide +kernel
theorem d_Mod_has_5 : decode prog_9_method_23_code 5 = .ok (.iload 4, 2) := by decide +kernel
theorem d_Mod_has_7 : decode prog_9_method_23_code 7 = .ok (.iload_n 1, 1) := by decide +kernel
theorem d_Mod_has_8 : decode prog_9_method_23_code 8 = .ok (.aload_n 0, 1) := by decide +kernel
theorem d_Mod_has_9 : decode prog_9_method_23_code 9 = .ok (.getfield 19, 3) := by decide +kernel
theorem d_Mod_has_12 : decode prog_9_method_23_code 12 = .ok (.iload_n 1, 1) := by decide +kernel
theorem d_Mod_has_13 : decode prog_9_method_23_code 13 = .ok (.iaload, 1) := by decide +kernel
theorem d_Mod_has_14 : decode prog_9_method_23_code 14 = .ok (.iadd, 1) := by decide +kernel
theorem d_Mod_has_15 : decode prog_9_method_23_code 15 = .ok (.if_icmp .ge 50, 3) := by decide +kernel
theorem d_Mod_has_18 : decode prog_9_method_23_code 18 = .ok (.iload_n 3, 1) := by decide +kernel
theorem d_Mod_has_19 : decode prog_9_method_23_code 19 = .ok (.aload_n 0, 1) := by decide +kernel
theorem d_Mod_has_20 : decode prog_9_method_23_code 20 = .ok (.getfield 7, 3) := by decide +kernel
theorem d_Mod_has_23 : decode prog_9_method_23_code 23 = .ok (.iload 4, 2) := by decide +kernel
theorem d_Mod_has_25 : decode prog_9_method_23_code 25 = .ok (.iaload, 1) := by decide +kernel
theorem d_Mod_has_26 : decode prog_9_method_23_code 26 = .ok (.iconst 1, 1) := by decide +kernel
theorem d_Mod_has_27 : decode prog_9_method_23_code 27 = .ok (.if_icmp .eq 14, 3) := by decide +kernel
theorem d_Mod_has_30 : decode prog_9_method_23_code 30 = .ok (.aload_n 0, 1) := by decide +kernel
theorem d_Mod_has_31 : decode prog_9_method_23_code 31 = .ok (.getfield 7, 3) := by decide +kernel
theorem d_Mod_has_34 : decode prog_9_method_23_code 34 = .ok (.iload 4, 2) := by decide +kernel
theorem d_Mod_has_36 : decode prog_9_method_23_code 36 = .ok (.iaload, 1) := by decide +kernel
theorem d_Mod_has_37 : decode prog_9_method_23_code 37 = .ok (.iconst 3, 1) := by decide +kernel
theorem d_Mod_has_38 : decode prog_9_method_23_code 38 = .ok (.if_icmp .ne 18, 3) := by decide +kernel
theorem d_Mod_has_41 : decode prog_9_method_23_code 41 = .ok (.aload_n 0, 1) := by decide +kernel
theorem d_Mod_has_42 : decode prog_9_method_23_code 42 = .ok (.getfield 13, 3) := by decide +kernel
theorem d_Mod_has_45 : decode prog_9_method_23_code 45 = .ok (.iload 4, 2) := by decide +kernel
theorem d_Mod_has_47 : decode prog_9_method_23_code 47 = .ok (.iaload, 1) := by decide +kernel
theorem d_Mod_has_48 : decode prog_9_method_23_code 48 = .ok (.iload_n 2, 1) := by decide +kernel
theorem d_Mod_has_49 : decode prog_9_method_23_code 49 = .ok (.if_icmp .ne 7, 3) := by decide +kernel
theorem d_Mod_has_52 : decode prog_9_method_23_code 52 = .ok (.iconst 1, 1) := by decide +kernel
theorem d_Mod_has_53 : decode prog_9_method_23_code 53 = .ok (.goto 4, 3) := by decide +kernel
theorem d_Mod_has_56 : decode prog_9_method_23_code 56 = .ok (.iconst 0, 1) := by decide +kernel
theorem d_Mod_has_57 : decode prog_9_method_23_code 57 = .ok (.ior, 1) := by decide +kernel
theorem d_Mod_has_58 : decode prog_9_method_23_code 58 = .ok (.istore_n 3, 1) := by decide +kernel
theorem d_Mod_has_59 : decode prog_9_method_23_code 59 = .ok (.iinc 4 1, 3) := by decide +kernel
theorem d_Mod_has_62 : decode prog_9_method_23_code 62 = .ok (.goto (-57), 3) := by decide +kernel
theorem d_Mod_has_65 : decode prog_9_method_23_code 65 = .ok (.iload_n 3, 1) := by decide +kernel
theorem d_Mod_has_66 : decode prog_9_method_23_code 66 = .ok (.ireturn, 1) := by decide +kernel
theorem d_Mod_judge_0 : decode prog_9_method_24_code 0 = .ok (.aload_n 0, 1) := by decide +kernel
theorem d_Mod_judge_1 : decode prog_9_method_24_code 1 = .ok (.iload_n 1, 1) := by decide +kernel
theorem d_Mod_judge_2 : decode prog_9_method_24_code 2 = .ok (.iload_n 2, 1) := by decide +kernel
theorem d_Mod_judge_3 : decode prog_9_method_24_code 3 = .ok (.invokevirtual 111, 3) := by decide +kernel
theorem d_Mod_judge_6 : decode prog_9_method_24_code 6 = .ok (.ifCond .ne 5, 3) := by decide +kernel
theorem d_Mod_judge_9 : decode prog_9_method_24_code 9 = .ok (.iconst 1, 1) := by decide +kernel
theorem d_Mod_judge_10 : decode prog_9_method_24_code 10 = .ok (.ireturn, 1) := by decide +kernel
theorem d_Mod_judge_11 : decode prog_9_method_24_code 11 = .ok (.aload_n 0, 1) := by decide +kernel
theorem d_Mod_judge_12 : decode prog_9_method_24_code 12 = .ok (.iload_n 1, 1) := by decide +kernel
theorem d_Mod_judge_13 : decode prog_9_method_24_code 13 = .ok (.invokevirtual 104, 3) := by decide +kernel
theorem d_Mod_judge_16 : decode prog_9_method_24_code 16 = .ok (.istore 4, 2) := by decide +kernel
theorem d_Mod_judge_18 : decode prog_9_method_24_code 18 = .ok (.aload_n 0, 1) := by decide +kernel
theorem d_Mod_judge_19 : decode prog_9_method_24_code 19 = .ok (.iload_n 1, 1) := by decide +kernel
theorem d_Mod_judge_20 : decode prog_9_method_24_code 20 = .ok (.iload 4, 2) := by decide +kernel
theorem d_Mod_judge_22 : decode prog_9_method_24_code 22 = .ok (.invokevirtual 107, 3) := by decide +kernel
theorem d_Mod_judge_25 : decode prog_9_method_24_code 25 = .ok (.istore 5, 2) := by decide +kernel
theorem d_Mod_judge_27 : decode prog_9_method_24_code 27 = .ok (.aload_n 0, 1) := by decide +kernel
theorem d_Mod_judge_28 : decode prog_9_method_24_code 28 = .ok (.iload 5, 2) := by decide +kernel
theorem d_Mod_judge_30 : decode prog_9_method_24_code 30 = .ok (.iload_n 2, 1) := by decide +kernel
theorem d_Mod_judge_31 : decode prog_9_method_24_code 31 = .ok (.iload_n 3, 1) := by decide +kernel
theorem d_Mod_judge_32 : decode prog_9_method_24_code 32 = .ok (.iload 4, 2) := by decide +kernel
theorem d_Mod_judge_34 : decode prog_9_method_24_code 34 = .ok (.iadd, 1) := by decide +kernel
theorem d_Mod_judge_35 : decode prog_9_method_24_code 35 = .ok (.iconst 1, 1) := by decide +kernel
theorem d_Mod_judge_36 : decode prog_9_method_24_code 36 = .ok (.isub, 1) := by decide +kernel
theorem d_Mod_judge_37 : decode prog_9_method_24_code 37 = .ok (.invokevirtual 115, 3) := by decide +kernel
theorem d_Mod_judge_40 : decode prog_9_method_24_code 40 = .ok (.ifCond .ne 5, 3) := by decide +kernel
theorem d_Mod_judge_43 : decode prog_9_method_24_code 43 = .ok (.iconst 0, 1) := by decide +kernel
theorem d_Mod_judge_44 : decode prog_9_method_24_code 44 = .ok (.ireturn, 1) := by decide +kernel
theorem d_Mod_judge_45 : decode prog_9_method_24_code 45 = .ok (.iconst 1, 1) := by decide +kernel
theorem d_Mod_judge_46 : decode prog_9_method_24_code 46 = .ok (.istore 6, 2) := by decide +kernel
theorem d_Mod_judge_48 : decode prog_9_method_24_code 48 = .ok (.iconst 0, 1) := by decide +kernel
theorem d_Mod_judge_49 : decode prog_9_method_24_code 49 = .ok (.istore 7, 2) := by decide +kernel
theorem d_Mod_judge_51 : decode prog_9_method_24_code 51 = .ok (.iload 7, 2) := by decide +kernel
theorem d_Mod_judge_53 : decode prog_9_method_24_code 53 = .ok (.iload 4, 2) := by decide +kernel
theorem d_Mod_judge_55 : decode prog_9_method_24_code 55 = .ok (.if_icmp .ge 36, 3) := by decide +kernel
theorem d_Mod_judge_58 : decode prog_9_method_24_code 58 = .ok (.iload 6, 2) := by decide +kernel
theorem d_Mod_judge_60 : decode prog_9_method_24_code 60 = .ok (.aload_n 0, 1) := by decide +kernel
theorem d_Mod_judge_61 : decode prog_9_method_24_code 61 = .ok (.aload_n 0, 1) := by decide +kernel
theorem d_Mod_judge_62 : decode prog_9_method_24_code 62 = .ok (.iload_n 1, 1) := by decide +kernel
theorem d_Mod_judge_63 : decode prog_9_method_24_code 63 = .ok (.iload 7, 2) := by decide +kernel
theorem d_Mod_judge_65 : decode prog_9_method_24_code 65 = .ok (.invokevirtual 107, 3) := by decide +kernel
theorem d_Mod_judge_68 : decode prog_9_method_24_code 68 = .ok (.iconst 1, 1) := by decide +kernel
theorem d_Mod_judge_69 : decode prog_9_method_24_code 69 = .ok (.iadd, 1) := by decide +kernel
theorem d_Mod_judge_70 : decode prog_9_method_24_code 70 = .ok (.iload_n 2, 1) := by decide +kernel
theorem d_Mod_judge_71 : decode prog_9_method_24_code 71 = .ok (.invokevirtual 111, 3) := by decide +kernel
theorem d_Mod_judge_74 : decode prog_9_method_24_code 74 = .ok (.ifCond .ne 7, 3) := by decide +kernel
theorem d_Mod_judge_77 : decode prog_9_method_24_code 77 = .ok (.iconst 1, 1) := by decide +kernel
theorem d_Mod_judge_78 : decode prog_9_method_24_code 78 = .ok (.goto 4, 3) := by decide +kernel
theorem d_Mod_judge_81 : decode prog_9_method_24_code 81 = .ok (.iconst 0, 1) := by decide +kernel
theorem d_Mod_judge_82 : decode prog_9_method_24_code 82 = .ok (.iand, 1) := by decide +kernel
theorem d_Mod_judge_83 : decode prog_9_method_24_code 83 = .ok (.istore 6, 2) := by decide +kernel
theorem d_Mod_judge_85 : decode prog_9_method_24_code 85 = .ok (.iinc 7 1, 3) := by decide +kernel
theorem d_Mod_judge_88 : decode prog_9_method_24_code 88 = .ok (.goto (-37), 3) := by decide +kernel
theorem d_Mod_judge_91 : decode prog_9_method_24_code 91 = .ok (.iconst 0, 1) := by decide +kernel
theorem d_Mod_judge_92 : decode prog_9_method_24_code 92 = .ok (.istore 7, 2) := by decide +kernel
theorem d_Mod_judge_94 : decode prog_9_method_24_code 94 = .ok (.iload 7, 2) := by decide +kernel
theorem d_Mod_judge_96 : decode prog_9_method_24_code 96 = .ok (.aload_n 0, 1) := by decide +kernel
theorem d_Mod_judge_97 : decode prog_9_method_24_code 97 = .ok (.getfield 40, 3) := by decide +kernel
theorem d_Mod_judge_100 : decode prog_9_method_24_code 100 = .ok (.iload_n 2, 1) := by decide +kernel
theorem d_Mod_judge_101 : decode prog_9_method_24_code 101 = .ok (.iaload, 1) := by decide +kernel
theorem d_Mod_judge_102 : decode prog_9_method_24_code 102 = .ok (.if_icmp .ge 36, 3) := by decide +kernel
theorem d_Mod_judge_105 : decode prog_9_method_24_code 105 = .ok (.iload 6, 2) := by decide +kernel
theorem d_Mod_judge_107 : decode prog_9_method_24_code 107 = .ok (.aload_n 0, 1) := by decide +kernel
theorem d_Mod_judge_108 : decode prog_9_method_24_code 108 = .ok (.aload_n 0, 1) := by decide +kernel
theorem d_Mod_judge_109 : decode prog_9_method_24_code 109 = .ok (.iload 5, 2) := by decide +kernel
theorem d_Mod_judge_111 : decode prog_9_method_24_code 111 = .ok (.iload_n 2, 1) := by decide +kernel
theorem d_Mod_judge_112 : decode prog_9_method_24_code 112 = .ok (.iload 7, 2) := by decide +kernel
theorem d_Mod_judge_114 : decode prog_9_method_24_code 114 = .ok (.invokevirtual 119, 3) := by decide +kernel
theorem d_Mod_judge_117 : decode prog_9_method_24_code 117 = .ok (.iload_n 2, 1) := by decide +kernel
theorem d_Mod_judge_118 : decode prog_9_method_24_code 118 = .ok (.invokevirtual 111, 3) := by decide +kernel
theorem d_Mod_judge_121 : decode prog_9_method_24_code 121 = .ok (.ifCond .ne 7, 3) := by decide +kernel
theorem d_Mod_judge_124 : decode prog_9_method_24_code 124 = .ok (.iconst 1, 1) := by decide +kernel
theorem d_Mod_judge_125 : decode prog_9_method_24_code 125 = .ok (.goto 4, 3) := by decide +kernel
theorem d_Mod_judge_128 : decode prog_9_method_24_code 128 = .ok (.iconst 0, 1) := by decide +kernel
theorem d_Mod_judge_129 : decode prog_9_method_24_code 129 = .ok (.iand, 1) := by decide +kernel
theorem d_Mod_judge_130 : decode prog_9_method_24_code 130 = .ok (.istore 6, 2) := by decide +kernel
theorem d_Mod_judge_132 : decode prog_9_method_24_code 132 = .ok (.iinc 7 1, 3) := by decide +kernel
theorem d_Mod_judge_135 : decode prog_9_method_24_code 135 = .ok (.goto (-41), 3) := by decide +kernel
theorem d_Mod_judge_138 : decode prog_9_method_24_code 138 = .ok (.iload 6, 2) := by decide +kernel
theorem d_Mod_judge_140 : decode prog_9_method_24_code 140 = .ok (.ifCond .eq 7, 3) := by decide +kernel
theorem d_Mod_judge_143 : decode prog_9_method_24_code 143 = .ok (.iconst 2, 1) := by decide +kernel
theorem d_Mod_judge_144 : decode prog_9_method_24_code 144 = .ok (.goto 4, 3) := by decide +kernel
theorem d_Mod_judge_147 : decode prog_9_method_24_code 147 = .ok (.iconst 0, 1) := by decide +kernel
theorem d_Mod_judge_148 : decode prog_9_method_24_code 148 = .ok (.ireturn, 1) := by decide +kernel
theorem d_Mod_index_0 : decode prog_9_method_25_code 0 = .ok (.iload_n 1, 1) := by decide +kernel
theorem d_Mod_index_1 : decode prog_9_method_25_code 1 = .ok (.aload_n 0, 1) := by decide +kernel
theorem d_Mod_index_2 : decode prog_9_method_25_code 2 = .ok (.getfield 37, 3) := by decide +kernel
theorem d_Mod_index_5 : decode prog_9_method_25_code 5 = .ok (.iload_n 2, 1) := by decide +kernel
theorem d_Mod_index_6 : decode prog_9_method_25_code 6 = .ok (.iaload, 1) := by decide +kernel
theorem d_Mod_index_7 : decode prog_9_method_25_code 7 = .ok (.iadd, 1) := by decide +kernel
theorem d_Mod_index_8 : decode prog_9_method_25_code 8 = .ok (.aload_n 0, 1) := by decide +kernel
theorem d_Mod_index_9 : decode prog_9_method_25_code 9 = .ok (.getfield 40, 3) := by decide +kernel
theorem d_Mod_index_12 : decode prog_9_method_25_code 12 = .ok (.iload_n 2, 1) := by decide +kernel
theorem d_Mod_index_13 : decode prog_9_method_25_code 13 = .ok (.iaload, 1) := by decide +kernel
theorem d_Mod_index_14 : decode prog_9_method_25_code 14 = .ok (.iadd, 1) := by decide +kernel
theorem d_Mod_index_15 : decode prog_9_method_25_code 15 = .ok (.iconst 1, 1) := by decide +kernel
theorem d_Mod_index_16 : decode prog_9_method_25_code 16 = .ok (.iadd, 1) := by decide +kernel
theorem d_Mod_index_17 : decode prog_9_method_25_code 17 = .ok (.istore 4, 2) := by decide +kernel
theorem d_Mod_index_19 : decode prog_9_method_25_code 19 = .ok (.iconst 0, 1) := by decide +kernel
theorem d_Mod_index_20 : decode prog_9_method_25_code 20 = .ok (.istore 5, 2) := by decide +kernel
theorem d_Mod_index_22 : decode prog_9_method_25_code 22 = .ok (.iload 5, 2) := by decide +kernel
theorem d_Mod_index_24 : decode prog_9_method_25_code 24 = .ok (.aload_n 0, 1) := by decide +kernel
theorem d_Mod_index_25 : decode prog_9_method_25_code 25 = .ok (.getfield 37, 3) := by decide +kernel
theorem d_Mod_index_28 : decode prog_9_method_25_code 28 = .ok (.iload_n 2, 1) := by decide +kernel
theorem d_Mod_index_29 : decode prog_9_method_25_code 29 = .ok (.iaload, 1) := by decide +kernel
theorem d_Mod_index_30 : decode prog_9_method_25_code 30 = .ok (.iload_n 3, 1) := by decide +kernel
theorem d_Mod_index_31 : decode prog_9_method_25_code 31 = .ok (.iadd, 1) := by decide +kernel
theorem d_Mod_index_32 : decode prog_9_method_25_code 32 = .ok (.if_icmp .ge 21, 3) := by decide +kernel
theorem d_Mod_index_35 : decode prog_9_method_25_code 35 = .ok (.iload 4, 2) := by decide +kernel
theorem d_Mod_index_37 : decode prog_9_method_25_code 37 = .ok (.aload_n 0, 1) := by decide +kernel
theorem d_Mod_index_38 : decode prog_9_method_25_code 38 = .ok (.getfield 19, 3) := by decide +kernel
theorem d_Mod_index_41 : decode prog_9_method_25_code 41 = .ok (.iload 4, 2) := by decide +kernel
theorem d_Mod_index_43 : decode prog_9_method_25_code 43 = .ok (.iaload, 1) := by decide +kernel
theorem d_Mod_index_44 : decode prog_9_method_25_code 44 = .ok (.iadd, 1) := by decide +kernel
theorem d_Mod_index_45 : decode prog_9_method_25_code 45 = .ok (.istore 4, 2) := by decide +kernel
theorem d_Mod_index_47 : decode prog_9_method_25_code 47 = .ok (.iinc 5 1, 3) := by decide +kernel
theorem d_Mod_index_50 : decode prog_9_method_25_code 50 = .ok (.goto (-28), 3) := by decide +kernel
theorem d_Mod_index_53 : decode prog_9_method_25_code 53 = .ok (.iload 4, 2) := by decide +kernel
theorem d_Mod_index_55 : decode prog_9_method_25_code 55 = .ok (.ireturn, 1) := by decide +kernel
theorem d_Mod_positive_0 : decode prog_9_method_26_code 0 = .ok (.iload_n 1, 1) := by decide +kernel
theorem d_Mod_positive_1 : decode prog_9_method_26_code 1 = .ok (.ifCond .lt 39, 3) := by decide +kernel
theorem d_Mod_positive_4 : decode prog_9_method_26_code 4 = .ok (.iload_n 1, 1) := by decide +kernel
theorem d_Mod_positive_5 : decode prog_9_method_26_code 5 = .ok (.aload_n 0, 1) := by decide +kernel
theorem d_Mod_positive_6 : decode prog_9_method_26_code 6 = .ok (.getfield 81, 3) := by decide +kernel
theorem d_Mod_positive_9 : decode prog_9_method_26_code 9 = .ok (.if_icmp .ge 31, 3) := by decide +kernel
theorem d_Mod_positive_12 : decode prog_9_method_26_code 12 = .ok (.aload_n 0, 1) := by decide +kernel
theorem d_Mod_positive_13 : decode prog_9_method_26_code 13 = .ok (.getfield 28, 3) := by decide +kernel
theorem d_Mod_positive_16 : decode prog_9_method_26_code 16 = .ok (.iload_n 1, 1) := by decide +kernel
theorem d_Mod_positive_17 : decode prog_9_method_26_code 17 = .ok (.iaload, 1) := by decide +kernel
theorem d_Mod_positive_18 : decode prog_9_method_26_code 18 = .ok (.iconst 3, 1) := by decide +kernel
theorem d_Mod_positive_19 : decode prog_9_method_26_code 19 = .ok (.if_icmp .ne 21, 3) := by decide +kernel
theorem d_Mod_positive_22 : decode prog_9_method_26_code 22 = .ok (.aload_n 0, 1) := by decide +kernel
theorem d_Mod_positive_23 : decode prog_9_method_26_code 23 = .ok (.iload_n 2, 1) := by decide +kernel
theorem d_Mod_positive_24 : decode prog_9_method_26_code 24 = .ok (.invokevirtual 90, 3) := by decide +kernel
theorem d_Mod_positive_27 : decode prog_9_method_26_code 27 = .ok (.ifCond .eq 13, 3) := by decide +kernel
theorem d_Mod_positive_30 : decode prog_9_method_26_code 30 = .ok (.iload_n 3, 1) := by decide +kernel
theorem d_Mod_positive_31 : decode prog_9_method_26_code 31 = .ok (.ifCond .lt 9, 3) := by decide +kernel
theorem d_Mod_positive_34 : decode prog_9_method_26_code 34 = .ok (.iload_n 3, 1) := by decide +kernel
theorem d_Mod_positive_35 : decode prog_9_method_26_code 35 = .ok (.bipush 100, 2) := by decide +kernel
theorem d_Mod_positive_37 : decode prog_9_method_26_code 37 = .ok (.if_icmp .le 5, 3) := by decide +kernel
theorem d_Mod_positive_40 : decode prog_9_method_26_code 40 = .ok (.iconst (-1), 1) := by decide +kernel
theorem d_Mod_positive_41 : decode prog_9_method_26_code 41 = .ok (.ireturn, 1) := by decide +kernel
theorem d_Mod_positive_42 : decode prog_9_method_26_code 42 = .ok (.aload_n 0, 1) := by decide +kernel
theorem d_Mod_positive_43 : decode prog_9_method_26_code 43 = .ok (.aload_n 0, 1) := by decide +kernel
theorem d_Mod_positive_44 : decode prog_9_method_26_code 44 = .ok (.getfield 25, 3) := by decide +kernel
theorem d_Mod_positive_47 : decode prog_9_method_26_code 47 = .ok (.iload_n 2, 1) := by decide +kernel
theorem d_Mod_positive_48 : decode prog_9_method_26_code 48 = .ok (.iaload, 1) := by decide +kernel
theorem d_Mod_positive_49 : decode prog_9_method_26_code 49 = .ok (.iload_n 1, 1) := by decide +kernel
theorem d_Mod_positive_50 : decode prog_9_method_26_code 50 = .ok (.aload_n 0, 1) := by decide +kernel
theorem d_Mod_positive_51 : decode prog_9_method_26_code 51 = .ok (.getfield 37, 3) := by decide +kernel
theorem d_Mod_positive_54 : decode prog_9_method_26_code 54 = .ok (.iload_n 1, 1) := by decide +kernel
theorem d_Mod_positive_55 : decode prog_9_method_26_code 55 = .ok (.iaload, 1) := by decide +kernel
theorem d_Mod_positive_56 : decode prog_9_method_26_code 56 = .ok (.iload_n 3, 1) := by decide +kernel
theorem d_Mod_positive_57 : decode prog_9_method_26_code 57 = .ok (.iadd, 1) := by decide +kernel
theorem d_Mod_positive_58 : decode prog_9_method_26_code 58 = .ok (.invokevirtual 122, 3) := by decide +kernel
theorem d_Mod_positive_61 : decode prog_9_method_26_code 61 = .ok (.ireturn, 1) := by decide +kernel
theorem d_Mod_constructor_0 : decode prog_9_method_27_code 0 = .ok (.iload_n 1, 1) := by decide +kernel
theorem d_Mod_constructor_1 : decode prog_9_method_27_code 1 = .ok (.ifCond .lt 52, 3) := by decide +kernel
theorem d_Mod_constructor_4 : decode prog_9_method_27_code 4 = .ok (.iload_n 1, 1) := by decide +kernel
theorem d_Mod_constructor_5 : decode prog_9_method_27_code 5 = .ok (.aload_n 0, 1) := by decide +kernel
theorem d_Mod_constructor_6 : decode prog_9_method_27_code 6 = .ok (.getfield 81, 3) := by decide +kernel
theorem d_Mod_constructor_9 : decode prog_9_method_27_code 9 = .ok (.if_icmp .ge 44, 3) := by decide +kernel
theorem d_Mod_constructor_12 : decode prog_9_method_27_code 12 = .ok (.aload_n 0, 1) := by decide +kernel
theorem d_Mod_constructor_13 : decode prog_9_method_27_code 13 = .ok (.getfield 28, 3) := by decide +kernel
theorem d_Mod_constructor_16 : decode prog_9_method_27_code 16 = .ok (.iload_n 1, 1) := by decide +kernel
theorem d_Mod_constructor_17 : decode prog_9_method_27_code 17 = .ok (.iaload, 1) := by decide +kernel
theorem d_Mod_constructor_18 : decode prog_9_method_27_code 18 = .ok (.iconst 4, 1) := by decide +kernel
theorem d_Mod_constructor_19 : decode prog_9_method_27_code 19 = .ok (.if_icmp .ne 34, 3) := by decide +kernel
theorem d_Mod_constructor_22 : decode prog_9_method_27_code 22 = .ok (.aload_n 0, 1) := by decide +kernel
theorem d_Mod_constructor_23 : decode prog_9_method_27_code 23 = .ok (.getfield 31, 3) := by decide +kernel
theorem d_Mod_constructor_26 : decode prog_9_method_27_code 26 = .ok (.iload_n 1, 1) := by decide +kernel
theorem d_Mod_constructor_27 : decode prog_9_method_27_code 27 = .ok (.iaload, 1) := by decide +kernel
theorem d_Mod_constructor_28 : decode prog_9_method_27_code 28 = .ok (.iconst (-1), 1) := by decide +kernel
theorem d_Mod_constructor_29 : decode prog_9_method_27_code 29 = .ok (.if_icmp .ne 24, 3) := by decide +kernel
theorem d_Mod_constructor_32 : decode prog_9_method_27_code 32 = .ok (.aload_n 0, 1) := by decide +kernel
theorem d_Mod_constructor_33 : decode prog_9_method_27_code 33 = .ok (.iload_n 2, 1) := by decide +kernel
theorem d_Mod_constructor_34 : decode prog_9_method_27_code 34 = .ok (.invokevirtual 90, 3) := by decide +kernel
theorem d_Mod_constructor_37 : decode prog_9_method_27_code 37 = .ok (.ifCond .eq 16, 3) := by decide +kernel
theorem d_Mod_constructor_40 : decode prog_9_method_27_code 40 = .ok (.aload_n 0, 1) := by decide +kernel
theorem d_Mod_constructor_41 : decode prog_9_method_27_code 41 = .ok (.aload_n 0, 1) := by decide +kernel
theorem d_Mod_constructor_42 : decode prog_9_method_27_code 42 = .ok (.getfield 25, 3) := by decide +kernel
theorem d_Mod_constructor_45 : decode prog_9_method_27_code 45 = .ok (.iload_n 2, 1) := by decide +kernel
theorem d_Mod_constructor_46 : decode prog_9_method_27_code 46 = .ok (.iaload, 1) := by decide +kernel
theorem d_Mod_constructor_47 : decode prog_9_method_27_code 47 = .ok (.invokevirtual 101, 3) := by decide +kernel
theorem d_Mod_constructor_50 : decode prog_9_method_27_code 50 = .ok (.ifCond .ne 5, 3) := by decide +kernel
theorem d_Mod_constructor_53 : decode prog_9_method_27_code 53 = .ok (.iconst (-1), 1) := by decide +kernel
theorem d_Mod_constructor_54 : decode prog_9_method_27_code 54 = .ok (.ireturn, 1) := by decide +kernel
theorem d_Mod_constructor_55 : decode prog_9_method_27_code 55 = .ok (.aload_n 0, 1) := by decide +kernel
theorem d_Mod_constructor_56 : decode prog_9_method_27_code 56 = .ok (.getfield 34, 3) := by decide +kernel
theorem d_Mod_constructor_59 : decode prog_9_method_27_code 59 = .ok (.iload_n 1, 1) := by decide +kernel
theorem d_Mod_constructor_60 : decode prog_9_method_27_code 60 = .ok (.iaload, 1) := by decide +kernel
theorem d_Mod_constructor_61 : decode prog_9_method_27_code 61 = .ok (.istore_n 3, 1) := by decide +kernel
theorem d_Mod_constructor_62 : decode prog_9_method_27_code 62 = .ok (.aload_n 0, 1) := by decide +kernel
theorem d_Mod_constructor_63 : decode prog_9_method_27_code 63 = .ok (.aload_n 0, 1) := by decide +kernel
theorem d_Mod_constructor_64 : decode prog_9_method_27_code 64 = .ok (.getfield 25, 3) := by decide +kernel
theorem d_Mod_constructor_67 : decode prog_9_method_27_code 67 = .ok (.iload_n 2, 1) := by decide +kernel
theorem d_Mod_constructor_68 : decode prog_9_method_27_code 68 = .ok (.iaload, 1) := by decide +kernel
theorem d_Mod_constructor_69 : decode prog_9_method_27_code 69 = .ok (.invokevirtual 104, 3) := by decide +kernel
theorem d_Mod_constructor_72 : decode prog_9_method_27_code 72 = .ok (.istore 4, 2) := by decide +kernel
theorem d_Mod_constructor_74 : decode prog_9_method_27_code 74 = .ok (.iload 4, 2) := by decide +kernel
theorem d_Mod_constructor_76 : decode prog_9_method_27_code 76 = .ok (.aload_n 0, 1) := by decide +kernel
theorem d_Mod_constructor_77 : decode prog_9_method_27_code 77 = .ok (.getfield 37, 3) := by decide +kernel
theorem d_Mod_constructor_80 : decode prog_9_method_27_code 80 = .ok (.iload_n 3, 1) := by decide +kernel
theorem d_Mod_constructor_81 : decode prog_9_method_27_code 81 = .ok (.iaload, 1) := by decide +kernel
theorem d_Mod_constructor_82 : decode prog_9_method_27_code 82 = .ok (.if_icmp .lt 27, 3) := by decide +kernel
theorem d_Mod_constructor_85 : decode prog_9_method_27_code 85 = .ok (.aload_n 0, 1) := by decide +kernel
theorem d_Mod_constructor_86 : decode prog_9_method_27_code 86 = .ok (.aload_n 0, 1) := by decide +kernel
theorem d_Mod_constructor_87 : decode prog_9_method_27_code 87 = .ok (.aload_n 0, 1) := by decide +kernel
theorem d_Mod_constructor_88 : decode prog_9_method_27_code 88 = .ok (.getfield 25, 3) := by decide +kernel
theorem d_Mod_constructor_91 : decode prog_9_method_27_code 91 = .ok (.iload_n 2, 1) := by decide +kernel
theorem d_Mod_constructor_92 : decode prog_9_method_27_code 92 = .ok (.iaload, 1) := by decide +kernel
theorem d_Mod_constructor_93 : decode prog_9_method_27_code 93 = .ok (.iload 4, 2) := by decide +kernel
theorem d_Mod_constructor_95 : decode prog_9_method_27_code 95 = .ok (.invokevirtual 107, 3) := by decide +kernel
theorem d_Mod_constructor_98 : decode prog_9_method_27_code 98 = .ok (.iload_n 3, 1) := by decide +kernel
theorem d_Mod_constructor_99 : decode prog_9_method_27_code 99 = .ok (.iload 4, 2) := by decide +kernel
theorem d_Mod_constructor_101 : decode prog_9_method_27_code 101 = .ok (.iconst 1, 1) := by decide +kernel
theorem d_Mod_constructor_102 : decode prog_9_method_27_code 102 = .ok (.isub, 1) := by decide +kernel
theorem d_Mod_constructor_103 : decode prog_9_method_27_code 103 = .ok (.invokevirtual 115, 3) := by decide +kernel
theorem d_Mod_constructor_106 : decode prog_9_method_27_code 106 = .ok (.ifCond .ne 5, 3) := by decide +kernel
theorem d_Mod_constructor_109 : decode prog_9_method_27_code 109 = .ok (.iconst (-1), 1) := by decide +kernel
theorem d_Mod_constructor_110 : decode prog_9_method_27_code 110 = .ok (.ireturn, 1) := by decide +kernel
theorem d_Mod_constructor_111 : decode prog_9_method_27_code 111 = .ok (.iconst 0, 1) := by decide +kernel
theorem d_Mod_constructor_112 : decode prog_9_method_27_code 112 = .ok (.istore 5, 2) := by decide +kernel
theorem d_Mod_constructor_114 : decode prog_9_method_27_code 114 = .ok (.aload_n 0, 1) := by decide +kernel
theorem d_Mod_constructor_115 : decode prog_9_method_27_code 115 = .ok (.getfield 37, 3) := by decide +kernel
theorem d_Mod_constructor_118 : decode prog_9_method_27_code 118 = .ok (.iload_n 3, 1) := by decide +kernel
theorem d_Mod_constructor_119 : decode prog_9_method_27_code 119 = .ok (.iaload, 1) := by decide +kernel
theorem d_Mod_constructor_120 : decode prog_9_method_27_code 120 = .ok (.istore 6, 2) := by decide +kernel
theorem d_Mod_constructor_122 : decode prog_9_method_27_code 122 = .ok (.iload 6, 2) := by decide +kernel
theorem d_Mod_constructor_124 : decode prog_9_method_27_code 124 = .ok (.iload 4, 2) := by decide +kernel
theorem d_Mod_constructor_126 : decode prog_9_method_27_code 126 = .ok (.if_icmp .ge 66, 3) := by decide +kernel
theorem d_Mod_constructor_129 : decode prog_9_method_27_code 129 = .ok (.aload_n 0, 1) := by decide +kernel
theorem d_Mod_constructor_130 : decode prog_9_method_27_code 130 = .ok (.aload_n 0, 1) := by decide +kernel
theorem d_Mod_constructor_131 : decode prog_9_method_27_code 131 = .ok (.aload_n 0, 1) := by decide +kernel
theorem d_Mod_constructor_132 : decode prog_9_method_27_code 132 = .ok (.getfield 25, 3) := by decide +kernel
theorem d_Mod_constructor_135 : decode prog_9_method_27_code 135 = .ok (.iload_n 2, 1) := by decide +kernel
theorem d_Mod_constructor_136 : decode prog_9_method_27_code 136 = .ok (.iaload, 1) := by decide +kernel
theorem d_Mod_constructor_137 : decode prog_9_method_27_code 137 = .ok (.iload 6, 2) := by decide +kernel
theorem d_Mod_constructor_139 : decode prog_9_method_27_code 139 = .ok (.invokevirtual 107, 3) := by decide +kernel
theorem d_Mod_constructor_142 : decode prog_9_method_27_code 142 = .ok (.iconst 1, 1) := by decide +kernel
theorem d_Mod_constructor_143 : decode prog_9_method_27_code 143 = .ok (.iadd, 1) := by decide +kernel
theorem d_Mod_constructor_144 : decode prog_9_method_27_code 144 = .ok (.iload_n 3, 1) := by decide +kernel
theorem d_Mod_constructor_145 : decode prog_9_method_27_code 145 = .ok (.iload 6, 2) := by decide +kernel
theorem d_Mod_constructor_147 : decode prog_9_method_27_code 147 = .ok (.invokevirtual 122, 3) := by decide +kernel
theorem d_Mod_constructor_150 : decode prog_9_method_27_code 150 = .ok (.istore 7, 2) := by decide +kernel
theorem d_Mod_constructor_152 : decode prog_9_method_27_code 152 = .ok (.iload 7, 2) := by decide +kernel
theorem d_Mod_constructor_154 : decode prog_9_method_27_code 154 = .ok (.ifCond .ne 16, 3) := by decide +kernel
theorem d_Mod_constructor_157 : decode prog_9_method_27_code 157 = .ok (.bipush (-2), 2) := by decide +kernel
theorem d_Mod_constructor_159 : decode prog_9_method_27_code 159 = .ok (.iload 6, 2) := by decide +kernel
theorem d_Mod_constructor_161 : decode prog_9_method_27_code 161 = .ok (.aload_n 0, 1) := by decide +kernel
theorem d_Mod_constructor_162 : decode prog_9_method_27_code 162 = .ok (.getfield 37, 3) := by decide +kernel
theorem d_Mod_constructor_165 : decode prog_9_method_27_code 165 = .ok (.iload_n 3, 1) := by decide +kernel
theorem d_Mod_constructor_166 : decode prog_9_method_27_code 166 = .ok (.iaload, 1) := by decide +kernel
theorem d_Mod_constructor_167 : decode prog_9_method_27_code 167 = .ok (.isub, 1) := by decide +kernel
theorem d_Mod_constructor_168 : decode prog_9_method_27_code 168 = .ok (.isub, 1) := by decide +kernel
theorem d_Mod_constructor_169 : decode prog_9_method_27_code 169 = .ok (.ireturn, 1) := by decide +kernel
theorem d_Mod_constructor_170 : decode prog_9_method_27_code 170 = .ok (.iload 5, 2) := by decide +kernel
theorem d_Mod_constructor_172 : decode prog_9_method_27_code 172 = .ok (.iload 7, 2) := by decide +kernel
theorem d_Mod_constructor_174 : decode prog_9_method_27_code 174 = .ok (.iconst 2, 1) := by decide +kernel
theorem d_Mod_constructor_175 : decode prog_9_method_27_code 175 = .ok (.if_icmp .ne 7, 3) := by decide +kernel
theorem d_Mod_constructor_178 : decode prog_9_method_27_code 178 = .ok (.iconst 1, 1) := by decide +kernel
theorem d_Mod_constructor_179 : decode prog_9_method_27_code 179 = .ok (.goto 4, 3) := by decide +kernel
theorem d_Mod_constructor_182 : decode prog_9_method_27_code 182 = .ok (.iconst 0, 1) := by decide +kernel
theorem d_Mod_constructor_183 : decode prog_9_method_27_code 183 = .ok (.iadd, 1) := by decide +kernel
theorem d_Mod_constructor_184 : decode prog_9_method_27_code 184 = .ok (.istore 5, 2) := by decide +kernel
theorem d_Mod_constructor_186 : decode prog_9_method_27_code 186 = .ok (.iinc 6 1, 3) := by decide +kernel
theorem d_Mod_constructor_189 : decode prog_9_method_27_code 189 = .ok (.goto (-67), 3) := by decide +kernel
theorem d_Mod_constructor_192 : decode prog_9_method_27_code 192 = .ok (.aload_n 0, 1) := by decide +kernel
theorem d_Mod_constructor_193 : decode prog_9_method_27_code 193 = .ok (.getfield 31, 3) := by decide +kernel
theorem d_Mod_constructor_196 : decode prog_9_method_27_code 196 = .ok (.iload_n 1, 1) := by decide +kernel
theorem d_Mod_constructor_197 : decode prog_9_method_27_code 197 = .ok (.aload_n 0, 1) := by decide +kernel
theorem d_Mod_constructor_198 : decode prog_9_method_27_code 198 = .ok (.getfield 25, 3) := by decide +kernel
theorem d_Mod_constructor_201 : decode prog_9_method_27_code 201 = .ok (.iload_n 2, 1) := by decide +kernel
theorem d_Mod_constructor_202 : decode prog_9_method_27_code 202 = .ok (.iaload, 1) := by decide +kernel
theorem d_Mod_constructor_203 : decode prog_9_method_27_code 203 = .ok (.iastore, 1) := by decide +kernel
theorem d_Mod_constructor_204 : decode prog_9_method_27_code 204 = .ok (.aload_n 0, 1) := by decide +kernel
theorem d_Mod_constructor_205 : decode prog_9_method_27_code 205 = .ok (.getfield 40, 3) := by decide +kernel
theorem d_Mod_constructor_208 : decode prog_9_method_27_code 208 = .ok (.iload_n 1, 1) := by decide +kernel
theorem d_Mod_constructor_209 : decode prog_9_method_27_code 209 = .ok (.iload 4, 2) := by decide +kernel
theorem d_Mod_constructor_211 : decode prog_9_method_27_code 211 = .ok (.aload_n 0, 1) := by decide +kernel
theorem d_Mod_constructor_212 : decode prog_9_method_27_code 212 = .ok (.getfield 37, 3) := by decide +kernel
theorem d_Mod_constructor_215 : decode prog_9_method_27_code 215 = .ok (.iload_n 3, 1) := by decide +kernel
theorem d_Mod_constructor_216 : decode prog_9_method_27_code 216 = .ok (.iaload, 1) := by decide +kernel
theorem d_Mod_constructor_217 : decode prog_9_method_27_code 217 = .ok (.isub, 1) := by decide +kernel
theorem d_Mod_constructor_218 : decode prog_9_method_27_code 218 = .ok (.iastore, 1) := by decide +kernel
theorem d_Mod_constructor_219 : decode prog_9_method_27_code 219 = .ok (.iload 5, 2) := by decide +kernel
theorem d_Mod_constructor_221 : decode prog_9_method_27_code 221 = .ok (.ireturn, 1) := by decide +kernel
theorem d_Mod_about_0 : decode prog_9_method_28_code 0 = .ok (.iload_n 1, 1) := by decide +kernel
theorem d_Mod_about_1 : decode prog_9_method_28_code 1 = .ok (.ifCond .lt 20, 3) := by decide +kernel
theorem d_Mod_about_4 : decode prog_9_method_28_code 4 = .ok (.iload_n 1, 1) := by decide +kernel
theorem d_Mod_about_5 : decode prog_9_method_28_code 5 = .ok (.aload_n 0, 1) := by decide +kernel
theorem d_Mod_about_6 : decode prog_9_method_28_code 6 = .ok (.getfield 81, 3) := by decide +kernel
theorem d_Mod_about_9 : decode prog_9_method_28_code 9 = .ok (.if_icmp .ge 12, 3) := by decide +kernel
theorem d_Mod_about_12 : decode prog_9_method_28_code 12 = .ok (.iload_n 2, 1) := by decide +kernel
theorem d_Mod_about_13 : decode prog_9_method_28_code 13 = .ok (.ifCond .lt 8, 3) := by decide +kernel
theorem d_Mod_about_16 : decode prog_9_method_28_code 16 = .ok (.iload_n 2, 1) := by decide +kernel
theorem d_Mod_about_17 : decode prog_9_method_28_code 17 = .ok (.iconst 3, 1) := by decide +kernel
theorem d_Mod_about_18 : decode prog_9_method_28_code 18 = .ok (.if_icmp .le 5, 3) := by decide +kernel
theorem d_Mod_about_21 : decode prog_9_method_28_code 21 = .ok (.iconst (-1), 1) := by decide +kernel
theorem d_Mod_about_22 : decode prog_9_method_28_code 22 = .ok (.ireturn, 1) := by decide +kernel
theorem d_Mod_about_23 : decode prog_9_method_28_code 23 = .ok (.iload_n 2, 1) := by decide +kernel
theorem d_Mod_about_24 : decode prog_9_method_28_code 24 = .ok (.ifCond .ne 12, 3) := by decide +kernel
theorem d_Mod_about_27 : decode prog_9_method_28_code 27 = .ok (.aload_n 0, 1) := by decide +kernel
theorem d_Mod_about_28 : decode prog_9_method_28_code 28 = .ok (.getfield 28, 3) := by decide +kernel
theorem d_Mod_about_31 : decode prog_9_method_28_code 31 = .ok (.iload_n 1, 1) := by decide +kernel
theorem d_Mod_about_32 : decode prog_9_method_28_code 32 = .ok (.iaload, 1) := by decide +kernel
theorem d_Mod_about_33 : decode prog_9_method_28_code 33 = .ok (.goto 60, 3) := by decide +kernel
theorem d_Mod_about_36 : decode prog_9_method_28_code 36 = .ok (.iload_n 2, 1) := by decide +kernel
theorem d_Mod_about_37 : decode prog_9_method_28_code 37 = .ok (.iconst 1, 1) := by decide +kernel
theorem d_Mod_about_38 : decode prog_9_method_28_code 38 = .ok (.if_icmp .ne 12, 3) := by decide +kernel
theorem d_Mod_about_41 : decode prog_9_method_28_code 41 = .ok (.aload_n 0, 1) := by decide +kernel
theorem d_Mod_about_42 : decode prog_9_method_28_code 42 = .ok (.getfield 37, 3) := by decide +kernel
theorem d_Mod_about_45 : decode prog_9_method_28_code 45 = .ok (.iload_n 1, 1) := by decide +kernel
theorem d_Mod_about_46 : decode prog_9_method_28_code 46 = .ok (.iaload, 1) := by decide +kernel
theorem d_Mod_about_47 : decode prog_9_method_28_code 47 = .ok (.goto 46, 3) := by decide +kernel
theorem d_Mod_about_50 : decode prog_9_method_28_code 50 = .ok (.iload_n 2, 1) := by decide +kernel
theorem d_Mod_about_51 : decode prog_9_method_28_code 51 = .ok (.iconst 2, 1) := by decide +kernel
theorem d_Mod_about_52 : decode prog_9_method_28_code 52 = .ok (.if_icmp .ne 12, 3) := by decide +kernel
theorem d_Mod_about_55 : decode prog_9_method_28_code 55 = .ok (.aload_n 0, 1) := by decide +kernel
theorem d_Mod_about_56 : decode prog_9_method_28_code 56 = .ok (.getfield 40, 3) := by decide +kernel
theorem d_Mod_about_59 : decode prog_9_method_28_code 59 = .ok (.iload_n 1, 1) := by decide +kernel
theorem d_Mod_about_60 : decode prog_9_method_28_code 60 = .ok (.iaload, 1) := by decide +kernel
theorem d_Mod_about_61 : decode prog_9_method_28_code 61 = .ok (.goto 32, 3) := by decide +kernel
theorem d_Mod_about_64 : decode prog_9_method_28_code 64 = .ok (.aload_n 0, 1) := by decide +kernel
theorem d_Mod_about_65 : decode prog_9_method_28_code 65 = .ok (.getfield 28, 3) := by decide +kernel
theorem d_Mod_about_68 : decode prog_9_method_28_code 68 = .ok (.iload_n 1, 1) := by decide +kernel
theorem d_Mod_about_69 : decode prog_9_method_28_code 69 = .ok (.iaload, 1) := by decide +kernel
theorem d_Mod_about_70 : decode prog_9_method_28_code 70 = .ok (.iconst 4, 1) := by decide +kernel
theorem d_Mod_about_71 : decode prog_9_method_28_code 71 = .ok (.if_icmp .ne 16, 3) := by decide +kernel
theorem d_Mod_about_74 : decode prog_9_method_28_code 74 = .ok (.iload_n 1, 1) := by decide +kernel
theorem d_Mod_about_75 : decode prog_9_method_28_code 75 = .ok (.aload_n 0, 1) := by decide +kernel
theorem d_Mod_about_76 : decode prog_9_method_28_code 76 = .ok (.getfield 34, 3) := by decide +kernel
theorem d_Mod_about_79 : decode prog_9_method_28_code 79 = .ok (.iload_n 1, 1) := by decide +kernel
theorem d_Mod_about_80 : decode prog_9_method_28_code 80 = .ok (.iaload, 1) := by decide +kernel
theorem d_Mod_about_81 : decode prog_9_method_28_code 81 = .ok (.isub, 1) := by decide +kernel
theorem d_Mod_about_82 : decode prog_9_method_28_code 82 = .ok (.iconst 1, 1) := by decide +kernel
theorem d_Mod_about_83 : decode prog_9_method_28_code 83 = .ok (.isub, 1) := by decide +kernel
theorem d_Mod_about_84 : decode prog_9_method_28_code 84 = .ok (.goto 9, 3) := by decide +kernel
theorem d_Mod_about_87 : decode prog_9_method_28_code 87 = .ok (.aload_n 0, 1) := by decide +kernel
theorem d_Mod_about_88 : decode prog_9_method_28_code 88 = .ok (.getfield 43, 3) := by decide +kernel
