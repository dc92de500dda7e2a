/-! decode rows -/
theorem d_Fam_init_0 : decode prog_1_method_1_code 0 = .ok (.aload_n 0, 1) := by decide +kernel
theorem d_Fam_init_1 : decode prog_1_method_1_code 1 = .ok (.invokespecial 1, 3) := by decide +kernel
theorem d_Fam_init_4 : decode prog_1_method_1_code 4 = .ok (.new 7, 3) := by decide +kernel
theorem d_Fam_init_7 : decode prog_1_method_1_code 7 = .ok (.dup, 1) := by decide +kernel
theorem d_Fam_init_8 : decode prog_1_method_1_code 8 = .ok (.invokespecial 9, 3) := by decide +kernel
theorem d_Fam_init_11 : decode prog_1_method_1_code 11 = .ok (.astore_n 1, 1) := by decide +kernel
theorem d_Fam_init_12 : decode prog_1_method_1_code 12 = .ok (.aload_n 0, 1) := by decide +kernel
theorem d_Fam_init_13 : decode prog_1_method_1_code 13 = .ok (.new 10, 3) := by decide +kernel
theorem d_Fam_init_16 : decode prog_1_method_1_code 16 = .ok (.dup, 1) := by decide +kernel
theorem d_Fam_init_17 : decode prog_1_method_1_code 17 = .ok (.invokespecial 12, 3) := by decide +kernel
theorem d_Fam_init_20 : decode prog_1_method_1_code 20 = .ok (.putfield 13, 3) := by decide +kernel
theorem d_Fam_init_23 : decode prog_1_method_1_code 23 = .ok (.aload_n 0, 1) := by decide +kernel
theorem d_Fam_init_24 : decode prog_1_method_1_code 24 = .ok (.new 19, 3) := by decide +kernel
theorem d_Fam_init_27 : decode prog_1_method_1_code 27 = .ok (.dup, 1) := by decide +kernel
theorem d_Fam_init_28 : decode prog_1_method_1_code 28 = .ok (.invokespecial 21, 3) := by decide +kernel
theorem d_Fam_init_31 : decode prog_1_method_1_code 31 = .ok (.putfield 22, 3) := by decide +kernel
theorem d_Fam_init_34 : decode prog_1_method_1_code 34 = .ok (.aload_n 0, 1) := by decide +kernel
theorem d_Fam_init_35 : decode prog_1_method_1_code 35 = .ok (.aload_n 1, 1) := by decide +kernel
theorem d_Fam_init_36 : decode prog_1_method_1_code 36 = .ok (.putfield 26, 3) := by decide +kernel
theorem d_Fam_init_39 : decode prog_1_method_1_code 39 = .ok (.aload_n 0, 1) := by decide +kernel
theorem d_Fam_init_40 : decode prog_1_method_1_code 40 = .ok (.new 30, 3) := by decide +kernel
theorem d_Fam_init_43 : decode prog_1_method_1_code 43 = .ok (.dup, 1) := by decide +kernel
theorem d_Fam_init_44 : decode prog_1_method_1_code 44 = .ok (.aload_n 1, 1) := by decide +kernel
theorem d_Fam_init_45 : decode prog_1_method_1_code 45 = .ok (.invokespecial 32, 3) := by decide +kernel
theorem d_Fam_init_48 : decode prog_1_method_1_code 48 = .ok (.putfield 35, 3) := by decide +kernel
theorem d_Fam_init_51 : decode prog_1_method_1_code 51 = .ok (.return_, 1) := by decide +kernel
theorem d_Fam_leaf_0 : decode prog_1_method_2_code 0 = .ok (.aload_n 0, 1) := by decide +kernel
theorem d_Fam_leaf_1 : decode prog_1_method_2_code 1 = .ok (.iload_n 1, 1) := by decide +kernel
theorem d_Fam_leaf_2 : decode prog_1_method_2_code 2 = .ok (.iload_n 2, 1) := by decide +kernel
theorem d_Fam_leaf_3 : decode prog_1_method_2_code 3 = .ok (.iload_n 3, 1) := by decide +kernel
theorem d_Fam_leaf_4 : decode prog_1_method_2_code 4 = .ok (.invokevirtual 39, 3) := by decide +kernel
theorem d_Fam_leaf_7 : decode prog_1_method_2_code 7 = .ok (.ifCond .ne 5, 3) := by decide +kernel
theorem d_Fam_leaf_10 : decode prog_1_method_2_code 10 = .ok (.iconst (-1), 1) := by decide +kernel
theorem d_Fam_leaf_11 : decode prog_1_method_2_code 11 = .ok (.ireturn, 1) := by decide +kernel
theorem d_Fam_leaf_12 : decode prog_1_method_2_code 12 = .ok (.aload_n 0, 1) := by decide +kernel
theorem d_Fam_leaf_13 : decode prog_1_method_2_code 13 = .ok (.getfield 13, 3) := by decide +kernel
theorem d_Fam_leaf_16 : decode prog_1_method_2_code 16 = .ok (.iconst 1, 1) := by decide +kernel
theorem d_Fam_leaf_17 : decode prog_1_method_2_code 17 = .ok (.invokevirtual 43, 3) := by decide +kernel
theorem d_Fam_leaf_20 : decode prog_1_method_2_code 20 = .ok (.astore 4, 2) := by decide +kernel
theorem d_Fam_leaf_22 : decode prog_1_method_2_code 22 = .ok (.aload 4, 2) := by decide +kernel
theorem d_Fam_leaf_24 : decode prog_1_method_2_code 24 = .ok (.ifnonnull 5, 3) := by decide +kernel
theorem d_Fam_leaf_27 : decode prog_1_method_2_code 27 = .ok (.iconst (-1), 1) := by decide +kernel
theorem d_Fam_leaf_28 : decode prog_1_method_2_code 28 = .ok (.ireturn, 1) := by decide +kernel
theorem d_Fam_leaf_29 : decode prog_1_method_2_code 29 = .ok (.aload 4, 2) := by decide +kernel
theorem d_Fam_leaf_31 : decode prog_1_method_2_code 31 = .ok (.iconst 0, 1) := by decide +kernel
theorem d_Fam_leaf_32 : decode prog_1_method_2_code 32 = .ok (.iload_n 1, 1) := by decide +kernel
theorem d_Fam_leaf_33 : decode prog_1_method_2_code 33 = .ok (.iload_n 2, 1) := by decide +kernel
theorem d_Fam_leaf_34 : decode prog_1_method_2_code 34 = .ok (.iload_n 3, 1) := by decide +kernel
theorem d_Fam_leaf_35 : decode prog_1_method_2_code 35 = .ok (.invokevirtual 47, 3) := by decide +kernel
theorem d_Fam_leaf_38 : decode prog_1_method_2_code 38 = .ok (.aload_n 0, 1) := by decide +kernel
theorem d_Fam_leaf_39 : decode prog_1_method_2_code 39 = .ok (.getfield 13, 3) := by decide +kernel
theorem d_Fam_leaf_42 : decode prog_1_method_2_code 42 = .ok (.aload 4, 2) := by decide +kernel
theorem d_Fam_leaf_44 : decode prog_1_method_2_code 44 = .ok (.invokevirtual 53, 3) := by decide +kernel
theorem d_Fam_leaf_47 : decode prog_1_method_2_code 47 = .ok (.ireturn, 1) := by decide +kernel
theorem d_Fam_apply_0 : decode prog_1_method_3_code 0 = .ok (.aload_n 0, 1) := by decide +kernel
theorem d_Fam_apply_1 : decode prog_1_method_3_code 1 = .ok (.iconst 4, 1) := by decide +kernel
theorem d_Fam_apply_2 : decode prog_1_method_3_code 2 = .ok (.iconst 0, 1) := by decide +kernel
theorem d_Fam_apply_3 : decode prog_1_method_3_code 3 = .ok (.iload_n 1, 1) := by decide +kernel
theorem d_Fam_apply_4 : decode prog_1_method_3_code 4 = .ok (.iload_n 2, 1) := by decide +kernel
theorem d_Fam_apply_5 : decode prog_1_method_3_code 5 = .ok (.invokevirtual 57, 3) := by decide +kernel
theorem d_Fam_apply_8 : decode prog_1_method_3_code 8 = .ok (.ireturn, 1) := by decide +kernel
theorem d_Fam_binder_0 : decode prog_1_method_4_code 0 = .ok (.iload_n 1, 1) := by decide +kernel
theorem d_Fam_binder_1 : decode prog_1_method_4_code 1 = .ok (.iconst 5, 1) := by decide +kernel
theorem d_Fam_binder_2 : decode prog_1_method_4_code 2 = .ok (.if_icmp .eq 9, 3) := by decide +kernel
theorem d_Fam_binder_5 : decode prog_1_method_4_code 5 = .ok (.iload_n 1, 1) := by decide +kernel
theorem d_Fam_binder_6 : decode prog_1_method_4_code 6 = .ok (.bipush 6, 2) := by decide +kernel
theorem d_Fam_binder_8 : decode prog_1_method_4_code 8 = .ok (.if_icmp .ne 7, 3) := by decide +kernel
theorem d_Fam_binder_11 : decode prog_1_method_4_code 11 = .ok (.iconst 1, 1) := by decide +kernel
theorem d_Fam_binder_12 : decode prog_1_method_4_code 12 = .ok (.goto 4, 3) := by decide +kernel
theorem d_Fam_binder_15 : decode prog_1_method_4_code 15 = .ok (.iconst 0, 1) := by decide +kernel
theorem d_Fam_binder_16 : decode prog_1_method_4_code 16 = .ok (.istore 5, 2) := by decide +kernel
theorem d_Fam_binder_18 : decode prog_1_method_4_code 18 = .ok (.iload_n 2, 1) := by decide +kernel
theorem d_Fam_binder_19 : decode prog_1_method_4_code 19 = .ok (.iconst (-1), 1) := by decide +kernel
theorem d_Fam_binder_20 : decode prog_1_method_4_code 20 = .ok (.if_icmp .eq 13, 3) := by decide +kernel
theorem d_Fam_binder_23 : decode prog_1_method_4_code 23 = .ok (.iload_n 2, 1) := by decide +kernel
theorem d_Fam_binder_24 : decode prog_1_method_4_code 24 = .ok (.ifCond .lt 13, 3) := by decide +kernel
theorem d_Fam_binder_27 : decode prog_1_method_4_code 27 = .ok (.iload_n 2, 1) := by decide +kernel
theorem d_Fam_binder_28 : decode prog_1_method_4_code 28 = .ok (.bipush 99, 2) := by decide +kernel
theorem d_Fam_binder_30 : decode prog_1_method_4_code 30 = .ok (.if_icmp .gt 7, 3) := by decide +kernel
theorem d_Fam_binder_33 : decode prog_1_method_4_code 33 = .ok (.iconst 1, 1) := by decide +kernel
theorem d_Fam_binder_34 : decode prog_1_method_4_code 34 = .ok (.goto 4, 3) := by decide +kernel
theorem d_Fam_binder_37 : decode prog_1_method_4_code 37 = .ok (.iconst 0, 1) := by decide +kernel
theorem d_Fam_binder_38 : decode prog_1_method_4_code 38 = .ok (.istore 6, 2) := by decide +kernel
theorem d_Fam_binder_40 : decode prog_1_method_4_code 40 = .ok (.iload 5, 2) := by decide +kernel
theorem d_Fam_binder_42 : decode prog_1_method_4_code 42 = .ok (.ifCond .eq 20, 3) := by decide +kernel
theorem d_Fam_binder_45 : decode prog_1_method_4_code 45 = .ok (.iload 6, 2) := by decide +kernel
theorem d_Fam_binder_47 : decode prog_1_method_4_code 47 = .ok (.ifCond .eq 15, 3) := by decide +kernel
theorem d_Fam_binder_50 : decode prog_1_method_4_code 50 = .ok (.aload_n 0, 1) := by decide +kernel
theorem d_Fam_binder_51 : decode prog_1_method_4_code 51 = .ok (.iload_n 1, 1) := by decide +kernel
theorem d_Fam_binder_52 : decode prog_1_method_4_code 52 = .ok (.iload_n 2, 1) := by decide +kernel
theorem d_Fam_binder_53 : decode prog_1_method_4_code 53 = .ok (.iload_n 3, 1) := by decide +kernel
theorem d_Fam_binder_54 : decode prog_1_method_4_code 54 = .ok (.iload 4, 2) := by decide +kernel
theorem d_Fam_binder_56 : decode prog_1_method_4_code 56 = .ok (.invokevirtual 57, 3) := by decide +kernel
theorem d_Fam_binder_59 : decode prog_1_method_4_code 59 = .ok (.goto 4, 3) := by decide +kernel
theorem d_Fam_binder_62 : decode prog_1_method_4_code 62 = .ok (.iconst (-1), 1) := by decide +kernel
theorem d_Fam_binder_63 : decode prog_1_method_4_code 63 = .ok (.ireturn, 1) := by decide +kernel
theorem d_Fam_axiom_0 : decode prog_1_method_5_code 0 = .ok (.aload_n 0, 1) := by decide +kernel
theorem d_Fam_axiom_1 : decode prog_1_method_5_code 1 = .ok (.getfield 22, 3) := by decide +kernel
theorem d_Fam_axiom_4 : decode prog_1_method_5_code 4 = .ok (.invokevirtual 61, 3) := by decide +kernel
theorem d_Fam_axiom_7 : decode prog_1_method_5_code 7 = .ok (.ireturn, 1) := by decide +kernel
theorem d_Fam_family_0 : decode prog_1_method_6_code 0 = .ok (.aload_n 0, 1) := by decide +kernel
theorem d_Fam_family_1 : decode prog_1_method_6_code 1 = .ok (.getfield 13, 3) := by decide +kernel
theorem d_Fam_family_4 : decode prog_1_method_6_code 4 = .ok (.iload_n 1, 1) := by decide +kernel
theorem d_Fam_family_5 : decode prog_1_method_6_code 5 = .ok (.invokevirtual 65, 3) := by decide +kernel
theorem d_Fam_family_8 : decode prog_1_method_6_code 8 = .ok (.astore 4, 2) := by decide +kernel
theorem d_Fam_family_10 : decode prog_1_method_6_code 10 = .ok (.aload 4, 2) := by decide +kernel
theorem d_Fam_family_12 : decode prog_1_method_6_code 12 = .ok (.ifnull 17, 3) := by decide +kernel
theorem d_Fam_family_15 : decode prog_1_method_6_code 15 = .ok (.iload_n 2, 1) := by decide +kernel
theorem d_Fam_family_16 : decode prog_1_method_6_code 16 = .ok (.ifCond .lt 13, 3) := by decide +kernel
theorem d_Fam_family_19 : decode prog_1_method_6_code 19 = .ok (.iload_n 3, 1) := by decide +kernel
theorem d_Fam_family_20 : decode prog_1_method_6_code 20 = .ok (.ifCond .lt 9, 3) := by decide +kernel
theorem d_Fam_family_23 : decode prog_1_method_6_code 23 = .ok (.iload_n 3, 1) := by decide +kernel
theorem d_Fam_family_24 : decode prog_1_method_6_code 24 = .ok (.bipush 12, 2) := by decide +kernel
theorem d_Fam_family_26 : decode prog_1_method_6_code 26 = .ok (.if_icmp .le 5, 3) := by decide +kernel
theorem d_Fam_family_29 : decode prog_1_method_6_code 29 = .ok (.iconst (-1), 1) := by decide +kernel
theorem d_Fam_family_30 : decode prog_1_method_6_code 30 = .ok (.ireturn, 1) := by decide +kernel
theorem d_Fam_family_31 : decode prog_1_method_6_code 31 = .ok (.aload_n 0, 1) := by decide +kernel
theorem d_Fam_family_32 : decode prog_1_method_6_code 32 = .ok (.getfield 26, 3) := by decide +kernel
theorem d_Fam_family_35 : decode prog_1_method_6_code 35 = .ok (.aload 4, 2) := by decide +kernel
theorem d_Fam_family_37 : decode prog_1_method_6_code 37 = .ok (.iconst 0, 1) := by decide +kernel
theorem d_Fam_family_38 : decode prog_1_method_6_code 38 = .ok (.invokevirtual 68, 3) := by decide +kernel
theorem d_Fam_family_41 : decode prog_1_method_6_code 41 = .ok (.aload_n 0, 1) := by decide +kernel
theorem d_Fam_family_42 : decode prog_1_method_6_code 42 = .ok (.getfield 26, 3) := by decide +kernel
theorem d_Fam_family_45 : decode prog_1_method_6_code 45 = .ok (.getfield 72, 3) := by decide +kernel
theorem d_Fam_family_48 : decode prog_1_method_6_code 48 = .ok (.iload_n 2, 1) := by decide +kernel
theorem d_Fam_family_49 : decode prog_1_method_6_code 49 = .ok (.isub, 1) := by decide +kernel
theorem d_Fam_family_50 : decode prog_1_method_6_code 50 = .ok (.istore 5, 2) := by decide +kernel
theorem d_Fam_family_52 : decode prog_1_method_6_code 52 = .ok (.iload 5, 2) := by decide +kernel
theorem d_Fam_family_54 : decode prog_1_method_6_code 54 = .ok (.ifCond .lt 31, 3) := by decide +kernel
theorem d_Fam_family_57 : decode prog_1_method_6_code 57 = .ok (.aload 4, 2) := by decide +kernel
theorem d_Fam_family_59 : decode prog_1_method_6_code 59 = .ok (.aload_n 0, 1) := by decide +kernel
theorem d_Fam_family_60 : decode prog_1_method_6_code 60 = .ok (.getfield 26, 3) := by decide +kernel
theorem d_Fam_family_63 : decode prog_1_method_6_code 63 = .ok (.getfield 76, 3) := by decide +kernel
theorem d_Fam_family_66 : decode prog_1_method_6_code 66 = .ok (.invokevirtual 79, 3) := by decide +kernel
theorem d_Fam_family_69 : decode prog_1_method_6_code 69 = .ok (.iconst 2, 1) := by decide +kernel
theorem d_Fam_family_70 : decode prog_1_method_6_code 70 = .ok (.if_icmp .ne 15, 3) := by decide +kernel
theorem d_Fam_family_73 : decode prog_1_method_6_code 73 = .ok (.aload_n 0, 1) := by decide +kernel
theorem d_Fam_family_74 : decode prog_1_method_6_code 74 = .ok (.getfield 26, 3) := by decide +kernel
theorem d_Fam_family_77 : decode prog_1_method_6_code 77 = .ok (.aload 4, 2) := by decide +kernel
theorem d_Fam_family_79 : decode prog_1_method_6_code 79 = .ok (.invokevirtual 83, 3) := by decide +kernel
theorem d_Fam_family_82 : decode prog_1_method_6_code 82 = .ok (.ifCond .ne 5, 3) := by decide +kernel
theorem d_Fam_family_85 : decode prog_1_method_6_code 85 = .ok (.iconst (-1), 1) := by decide +kernel
theorem d_Fam_family_86 : decode prog_1_method_6_code 86 = .ok (.ireturn, 1) := by decide +kernel
theorem d_Fam_family_87 : decode prog_1_method_6_code 87 = .ok (.aload_n 0, 1) := by decide +kernel
theorem d_Fam_family_88 : decode prog_1_method_6_code 88 = .ok (.getfield 22, 3) := by decide +kernel
theorem d_Fam_family_91 : decode prog_1_method_6_code 91 = .ok (.aload 4, 2) := by decide +kernel
theorem d_Fam_family_93 : decode prog_1_method_6_code 93 = .ok (.iload_n 2, 1) := by decide +kernel
theorem d_Fam_family_94 : decode prog_1_method_6_code 94 = .ok (.iload 5, 2) := by decide +kernel
theorem d_Fam_family_96 : decode prog_1_method_6_code 96 = .ok (.iload_n 3, 1) := by decide +kernel
theorem d_Fam_family_97 : decode prog_1_method_6_code 97 = .ok (.invokevirtual 87, 3) := by decide +kernel
theorem d_Fam_family_100 : decode prog_1_method_6_code 100 = .ok (.ireturn, 1) := by decide +kernel
theorem d_Fam_constructor_0 : decode prog_1_method_7_code 0 = .ok (.aload_n 0, 1) := by decide +kernel
theorem d_Fam_constructor_1 : decode prog_1_method_7_code 1 = .ok (.getfield 22, 3) := by decide +kernel
theorem d_Fam_constructor_4 : decode prog_1_method_7_code 4 = .ok (.iload_n 1, 1) := by decide +kernel
theorem d_Fam_constructor_5 : decode prog_1_method_7_code 5 = .ok (.invokevirtual 91, 3) := by decide +kernel
theorem d_Fam_constructor_8 : decode prog_1_method_7_code 8 = .ok (.astore_n 3, 1) := by decide +kernel
theorem d_Fam_constructor_9 : decode prog_1_method_7_code 9 = .ok (.aload_n 0, 1) := by decide +kernel
theorem d_Fam_constructor_10 : decode prog_1_method_7_code 10 = .ok (.getfield 13, 3) := by decide +kernel
theorem d_Fam_constructor_13 : decode prog_1_method_7_code 13 = .ok (.iload_n 2, 1) := by decide +kernel
theorem d_Fam_constructor_14 : decode prog_1_method_7_code 14 = .ok (.invokevirtual 65, 3) := by decide +kernel
theorem d_Fam_constructor_17 : decode prog_1_method_7_code 17 = .ok (.astore 4, 2) := by decide +kernel
theorem d_Fam_constructor_19 : decode prog_1_method_7_code 19 = .ok (.aload_n 3, 1) := by decide +kernel
theorem d_Fam_constructor_20 : decode prog_1_method_7_code 20 = .ok (.ifnull 15, 3) := by decide +kernel
theorem d_Fam_constructor_23 : decode prog_1_method_7_code 23 = .ok (.aload_n 3, 1) := by decide +kernel
theorem d_Fam_constructor_24 : decode prog_1_method_7_code 24 = .ok (.getfield 95, 3) := by decide +kernel
theorem d_Fam_constructor_27 : decode prog_1_method_7_code 27 = .ok (.ifnonnull 8, 3) := by decide +kernel
theorem d_Fam_constructor_30 : decode prog_1_method_7_code 30 = .ok (.aload 4, 2) := by decide +kernel
theorem d_Fam_constructor_32 : decode prog_1_method_7_code 32 = .ok (.ifnonnull 5, 3) := by decide +kernel
theorem d_Fam_constructor_35 : decode prog_1_method_7_code 35 = .ok (.iconst (-1), 1) := by decide +kernel
theorem d_Fam_constructor_36 : decode prog_1_method_7_code 36 = .ok (.ireturn, 1) := by decide +kernel
theorem d_Fam_constructor_37 : decode prog_1_method_7_code 37 = .ok (.aload_n 3, 1) := by decide +kernel
theorem d_Fam_constructor_38 : decode prog_1_method_7_code 38 = .ok (.getfield 101, 3) := by decide +kernel
theorem d_Fam_constructor_41 : decode prog_1_method_7_code 41 = .ok (.astore 5, 2) := by decide +kernel
theorem d_Fam_constructor_43 : decode prog_1_method_7_code 43 = .ok (.aload_n 0, 1) := by decide +kernel
theorem d_Fam_constructor_44 : decode prog_1_method_7_code 44 = .ok (.getfield 26, 3) := by decide +kernel
theorem d_Fam_constructor_47 : decode prog_1_method_7_code 47 = .ok (.aload 4, 2) := by decide +kernel
theorem d_Fam_constructor_49 : decode prog_1_method_7_code 49 = .ok (.iconst 0, 1) := by decide +kernel
theorem d_Fam_constructor_50 : decode prog_1_method_7_code 50 = .ok (.invokevirtual 68, 3) := by decide +kernel
theorem d_Fam_constructor_53 : decode prog_1_method_7_code 53 = .ok (.aload_n 0, 1) := by decide +kernel
theorem d_Fam_constructor_54 : decode prog_1_method_7_code 54 = .ok (.getfield 26, 3) := by decide +kernel
theorem d_Fam_constructor_57 : decode prog_1_method_7_code 57 = .ok (.getfield 72, 3) := by decide +kernel
theorem d_Fam_constructor_60 : decode prog_1_method_7_code 60 = .ok (.aload_n 3, 1) := by decide +kernel
theorem d_Fam_constructor_61 : decode prog_1_method_7_code 61 = .ok (.getfield 105, 3) := by decide +kernel
theorem d_Fam_constructor_64 : decode prog_1_method_7_code 64 = .ok (.isub, 1) := by decide +kernel
theorem d_Fam_constructor_65 : decode prog_1_method_7_code 65 = .ok (.istore 6, 2) := by decide +kernel
theorem d_Fam_constructor_67 : decode prog_1_method_7_code 67 = .ok (.aload 5, 2) := by decide +kernel
theorem d_Fam_constructor_69 : decode prog_1_method_7_code 69 = .ok (.ifnull 33, 3) := by decide +kernel
theorem d_Fam_constructor_72 : decode prog_1_method_7_code 72 = .ok (.iload 6, 2) := by decide +kernel
theorem d_Fam_constructor_74 : decode prog_1_method_7_code 74 = .ok (.ifCond .lt 28, 3) := by decide +kernel
theorem d_Fam_constructor_77 : decode prog_1_method_7_code 77 = .ok (.aload_n 0, 1) := by decide +kernel
theorem d_Fam_constructor_78 : decode prog_1_method_7_code 78 = .ok (.getfield 26, 3) := by decide +kernel
theorem d_Fam_constructor_81 : decode prog_1_method_7_code 81 = .ok (.aload 5, 2) := by decide +kernel
theorem d_Fam_constructor_83 : decode prog_1_method_7_code 83 = .ok (.iconst 0, 1) := by decide +kernel
theorem d_Fam_constructor_84 : decode prog_1_method_7_code 84 = .ok (.invokevirtual 108, 3) := by decide +kernel
theorem d_Fam_constructor_87 : decode prog_1_method_7_code 87 = .ok (.ifCond .eq 15, 3) := by decide +kernel
theorem d_Fam_constructor_90 : decode prog_1_method_7_code 90 = .ok (.aload_n 0, 1) := by decide +kernel
theorem d_Fam_constructor_91 : decode prog_1_method_7_code 91 = .ok (.getfield 26, 3) := by decide +kernel
theorem d_Fam_constructor_94 : decode prog_1_method_7_code 94 = .ok (.aload 4, 2) := by decide +kernel
theorem d_Fam_constructor_96 : decode prog_1_method_7_code 96 = .ok (.invokevirtual 83, 3) := by decide +kernel
theorem d_Fam_constructor_99 : decode prog_1_method_7_code 99 = .ok (.ifCond .ne 5, 3) := by decide +kernel
theorem d_Fam_constructor_102 : decode prog_1_method_7_code 102 = .ok (.iconst (-1), 1) := by decide +kernel
theorem d_Fam_constructor_103 : decode prog_1_method_7_code 103 = .ok (.ireturn, 1) := by decide +kernel
theorem d_Fam_constructor_104 : decode prog_1_method_7_code 104 = .ok (.aload_n 0, 1) := by decide +kernel
theorem d_Fam_constructor_105 : decode prog_1_method_7_code 105 = .ok (.aload_n 3, 1) := by decide +kernel
theorem d_Fam_constructor_106 : decode prog_1_method_7_code 106 = .ok (.aload 5, 2) := by decide +kernel
theorem d_Fam_constructor_108 : decode prog_1_method_7_code 108 = .ok (.aload 4, 2) := by decide +kernel
theorem d_Fam_constructor_110 : decode prog_1_method_7_code 110 = .ok (.iload 6, 2) := by decide +kernel
theorem d_Fam_constructor_112 : decode prog_1_method_7_code 112 = .ok (.invokevirtual 112, 3) := by decide +kernel
theorem d_Fam_constructor_115 : decode prog_1_method_7_code 115 = .ok (.ireturn, 1) := by decide +kernel
theorem d_Fam_about_0 : decode prog_1_method_8_code 0 = .ok (.aload_n 0, 1) := by decide +kernel
theorem d_Fam_about_1 : decode prog_1_method_8_code 1 = .ok (.getfield 22, 3) := by decide +kernel
theorem d_Fam_about_4 : decode prog_1_method_8_code 4 = .ok (.iload_n 1, 1) := by decide +kernel
theorem d_Fam_about_5 : decode prog_1_method_8_code 5 = .ok (.invokevirtual 116, 3) := by decide +kernel
theorem d_Fam_about_8 : decode prog_1_method_8_code 8 = .ok (.astore_n 3, 1) := by decide +kernel
theorem d_Fam_about_9 : decode prog_1_method_8_code 9 = .ok (.aload_n 3, 1) := by decide +kernel
theorem d_Fam_about_10 : decode prog_1_method_8_code 10 = .ok (.ifnonnull 5, 3) := by decide +kernel
theorem d_Fam_about_13 : decode prog_1_method_8_code 13 = .ok (.iconst (-1), 1) := by decide +kernel
theorem d_Fam_about_14 : decode prog_1_method_8_code 14 = .ok (.ireturn, 1) := by decide +kernel
theorem d_Fam_about_15 : decode prog_1_method_8_code 15 = .ok (.iload_n 2, 1) := by decide +kernel
theorem d_Fam_about_16 : decode prog_1_method_8_code 16 = .ok (.tableswitch 67 0 3 #[32, 37, 42, 62], 32) := by decide +kernel
theorem d_Fam_about_48 : decode prog_1_method_8_code 48 = .ok (.aload_n 3, 1) := by decide +kernel
theorem d_Fam_about_49 : decode prog_1_method_8_code 49 = .ok (.getfield 118, 3) := by decide +kernel
theorem d_Fam_about_52 : decode prog_1_method_8_code 52 = .ok (.ireturn, 1) := by decide +kernel
theorem d_Fam_about_53 : decode prog_1_method_8_code 53 = .ok (.aload_n 3, 1) := by decide +kernel
theorem d_Fam_about_54 : decode prog_1_method_8_code 54 = .ok (.getfield 105, 3) := by decide +kernel
theorem d_Fam_about_57 : decode prog_1_method_8_code 57 = .ok (.ireturn, 1) := by decide +kernel
theorem d_Fam_about_58 : decode prog_1_method_8_code 58 = .ok (.aload_n 3, 1) := by decide +kernel
theorem d_Fam_about_59 : decode prog_1_method_8_code 59 = .ok (.getfield 118, 3) := by decide +kernel
theorem d_Fam_about_62 : decode prog_1_method_8_code 62 = .ok (.iconst 4, 1) := by decide +kernel
theorem d_Fam_about_63 : decode prog_1_method_8_code 63 = .ok (.if_icmp .ne 10, 3) := by decide +kernel
theorem d_Fam_about_66 : decode prog_1_method_8_code 66 = .ok (.aload_n 3, 1) := by decide +kernel
theorem d_Fam_about_67 : decode prog_1_method_8_code 67 = .ok (.getfield 121, 3) := by decide +kernel
theorem d_Fam_about_70 : decode prog_1_method_8_code 70 = .ok (.goto 7, 3) := by decide +kernel
theorem d_Fam_about_73 : decode prog_1_method_8_code 73 = .ok (.aload_n 3, 1) := by decide +kernel
theorem d_Fam_about_74 : decode prog_1_method_8_code 74 = .ok (.getfield 124, 3) := by decide +kernel
theorem d_Fam_about_77 : decode prog_1_method_8_code 77 = .ok (.ireturn, 1) := by decide +kernel
theorem d_Fam_about_78 : decode prog_1_method_8_code 78 = .ok (.aload_n 3, 1) := by decide +kernel
theorem d_Fam_about_79 : decode prog_1_method_8_code 79 = .ok (.getfield 127, 3) := by decide +kernel
theorem d_Fam_about_82 : decode prog_1_method_8_code 82 = .ok (.ireturn, 1) := by decide +kernel
theorem d_Fam_about_83 : decode prog_1_method_8_code 83 = .ok (.iconst (-1), 1) := by decide +kernel
theorem d_Fam_about_84 : decode prog_1_method_8_code 84 = .ok (.ireturn, 1) := by decide +kernel
theorem d_Fam_positive_0 : decode prog_1_method_9_code 0 = .ok (.aload_n 0, 1) := by decide +kernel
theorem d_Fam_positive_1 : decode prog_1_method_9_code 1 = .ok (.getfield 22, 3) := by decide +kernel
theorem d_Fam_positive_4 : decode prog_1_method_9_code 4 = .ok (.iload_n 1, 1) := by decide +kernel
theorem d_Fam_positive_5 : decode prog_1_method_9_code 5 = .ok (.invokevirtual 130, 3) := by decide +kernel
theorem d_Fam_positive_8 : decode prog_1_method_9_code 8 = .ok (.astore 4, 2) := by decide +kernel
theorem d_Fam_positive_10 : decode prog_1_method_9_code 10 = .ok (.aload_n 0, 1) := by decide +kernel
theorem d_Fam_positive_11 : decode prog_1_method_9_code 11 = .ok (.getfield 13, 3) := by decide +kernel
theorem d_Fam_positive_14 : decode prog_1_method_9_code 14 = .ok (.iload_n 2, 1) := by decide +kernel
theorem d_Fam_positive_15 : decode prog_1_method_9_code 15 = .ok (.invokevirtual 65, 3) := by decide +kernel
theorem d_Fam_positive_18 : decode prog_1_method_9_code 18 = .ok (.astore 5, 2) := by decide +kernel
theorem d_Fam_positive_20 : decode prog_1_method_9_code 20 = .ok (.aload 4, 2) := by decide +kernel
theorem d_Fam_positive_22 : decode prog_1_method_9_code 22 = .ok (.ifnull 15, 3) := by decide +kernel
theorem d_Fam_positive_25 : decode prog_1_method_9_code 25 = .ok (.aload 5, 2) := by decide +kernel
theorem d_Fam_positive_27 : decode prog_1_method_9_code 27 = .ok (.ifnull 10, 3) := by decide +kernel
theorem d_Fam_positive_30 : decode prog_1_method_9_code 30 = .ok (.iload_n 3, 1) := by decide +kernel
theorem d_Fam_positive_31 : decode prog_1_method_9_code 31 = .ok (.invokestatic 133, 3) := by decide +kernel
theorem d_Fam_positive_34 : decode prog_1_method_9_code 34 = .ok (.ifCond .ne 5, 3) := by decide +kernel
theorem d_Fam_positive_37 : decode prog_1_method_9_code 37 = .ok (.iconst (-1), 1) := by decide +kernel
theorem d_Fam_positive_38 : decode prog_1_method_9_code 38 = .ok (.ireturn, 1) := by decide +kernel
theorem d_Fam_positive_39 : decode prog_1_method_9_code 39 = .ok (.aload_n 0, 1) := by decide +kernel
theorem d_Fam_positive_40 : decode prog_1_method_9_code 40 = .ok (.getfield 26, 3) := by decide +kernel
theorem d_Fam_positive_43 : decode prog_1_method_9_code 43 = .ok (.aload 4, 2) := by decide +kernel
theorem d_Fam_positive_45 : decode prog_1_method_9_code 45 = .ok (.aload 5, 2) := by decide +kernel
theorem d_Fam_positive_47 : decode prog_1_method_9_code 47 = .ok (.iconst 0, 1) := by decide +kernel
theorem d_Fam_positive_48 : decode prog_1_method_9_code 48 = .ok (.aload 4, 2) := by decide +kernel
theorem d_Fam_positive_50 : decode prog_1_method_9_code 50 = .ok (.getfield 105, 3) := by decide +kernel
theorem d_Fam_positive_53 : decode prog_1_method_9_code 53 = .ok (.iload_n 3, 1) := by decide +kernel
theorem d_Fam_positive_54 : decode prog_1_method_9_code 54 = .ok (.iadd, 1) := by decide +kernel
theorem d_Fam_positive_55 : decode prog_1_method_9_code 55 = .ok (.invokevirtual 137, 3) := by decide +kernel
theorem d_Fam_positive_58 : decode prog_1_method_9_code 58 = .ok (.ireturn, 1) := by decide +kernel
theorem d_Fam_brings_0 : decode prog_1_method_10_code 0 = .ok (.aload_n 0, 1) := by decide +kernel
theorem d_Fam_brings_1 : decode prog_1_method_10_code 1 = .ok (.getfield 22, 3) := by decide +kernel
theorem d_Fam_brings_4 : decode prog_1_method_10_code 4 = .ok (.iload_n 1, 1) := by decide +kernel
theorem d_Fam_brings_5 : decode prog_1_method_10_code 5 = .ok (.invokevirtual 91, 3) := by decide +kernel
theorem d_Fam_brings_8 : decode prog_1_method_10_code 8 = .ok (.astore_n 3, 1) := by decide +kernel
theorem d_Fam_brings_9 : decode prog_1_method_10_code 9 = .ok (.aload_n 3, 1) := by decide +kernel
theorem d_Fam_brings_10 : decode prog_1_method_10_code 10 = .ok (.ifnull 22, 3) := by decide +kernel
theorem d_Fam_brings_13 : decode prog_1_method_10_code 13 = .ok (.aload_n 3, 1) := by decide +kernel
theorem d_Fam_brings_14 : decode prog_1_method_10_code 14 = .ok (.getfield 95, 3) := by decide +kernel
theorem d_Fam_brings_17 : decode prog_1_method_10_code 17 = .ok (.ifnull 15, 3) := by decide +kernel
theorem d_Fam_brings_20 : decode prog_1_method_10_code 20 = .ok (.iload_n 2, 1) := by decide +kernel
theorem d_Fam_brings_21 : decode prog_1_method_10_code 21 = .ok (.ifCond .lt 11, 3) := by decide +kernel
theorem d_Fam_brings_24 : decode prog_1_method_10_code 24 = .ok (.iload_n 2, 1) := by decide +kernel
theorem d_Fam_brings_25 : decode prog_1_method_10_code 25 = .ok (.aload_n 3, 1) := by decide +kernel
theorem d_Fam_brings_26 : decode prog_1_method_10_code 26 = .ok (.getfield 141, 3) := by decide +kernel
theorem d_Fam_brings_29 : decode prog_1_method_10_code 29 = .ok (.if_icmp .lt 5, 3) := by decide +kernel
theorem d_Fam_brings_32 : decode prog_1_method_10_code 32 = .ok (.iconst (-1), 1) := by decide +kernel
theorem d_Fam_brings_33 : decode prog_1_method_10_code 33 = .ok (.ireturn, 1) := by decide +kernel
theorem d_Fam_brings_34 : decode prog_1_method_10_code 34 = .ok (.aload_n 0, 1) := by decide +kernel
theorem d_Fam_brings_35 : decode prog_1_method_10_code 35 = .ok (.getfield 35, 3) := by decide +kernel
theorem d_Fam_brings_38 : decode prog_1_method_10_code 38 = .ok (.aconst_null, 1) := by decide +kernel
theorem d_Fam_brings_39 : decode prog_1_method_10_code 39 = .ok (.invokevirtual 144, 3) := by decide +kernel
theorem d_Fam_brings_42 : decode prog_1_method_10_code 42 = .ok (.aload_n 0, 1) := by decide +kernel
theorem d_Fam_brings_43 : decode prog_1_method_10_code 43 = .ok (.getfield 35, 3) := by decide +kernel
theorem d_Fam_brings_46 : decode prog_1_method_10_code 46 = .ok (.aload_n 3, 1) := by decide +kernel
theorem d_Fam_brings_47 : decode prog_1_method_10_code 47 = .ok (.iload_n 2, 1) := by decide +kernel
theorem d_Fam_brings_48 : decode prog_1_method_10_code 48 = .ok (.invokevirtual 148, 3) := by decide +kernel
theorem d_Fam_brings_51 : decode prog_1_method_10_code 51 = .ok (.aload_n 0, 1) := by decide +kernel
theorem d_Fam_brings_52 : decode prog_1_method_10_code 52 = .ok (.getfield 13, 3) := by decide +kernel
theorem d_Fam_brings_55 : decode prog_1_method_10_code 55 = .ok (.aload_n 0, 1) := by decide +kernel
theorem d_Fam_brings_56 : decode prog_1_method_10_code 56 = .ok (.getfield 35, 3) := by decide +kernel
theorem d_Fam_brings_59 : decode prog_1_method_10_code 59 = .ok (.getfield 152, 3) := by decide +kernel
theorem d_Fam_brings_62 : decode prog_1_method_10_code 62 = .ok (.invokevirtual 43, 3) := by decide +kernel
theorem d_Fam_brings_65 : decode prog_1_method_10_code 65 = .ok (.astore 4, 2) := by decide +kernel
theorem d_Fam_brings_67 : decode prog_1_method_10_code 67 = .ok (.aload 4, 2) := by decide +kernel
theorem d_Fam_brings_69 : decode prog_1_method_10_code 69 = .ok (.ifnonnull 5, 3) := by decide +kernel
theorem d_Fam_brings_72 : decode prog_1_method_10_code 72 = .ok (.iconst (-1), 1) := by decide +kernel
theorem d_Fam_brings_73 : decode prog_1_method_10_code 73 = .ok (.ireturn, 1) := by decide +kernel
theorem d_Fam_brings_74 : decode prog_1_method_10_code 74 = .ok (.aload_n 0, 1) := by decide +kernel
theorem d_Fam_brings_75 : decode prog_1_method_10_code 75 = .ok (.getfield 35, 3) := by decide +kernel
theorem d_Fam_brings_78 : decode prog_1_method_10_code 78 = .ok (.aload 4, 2) := by decide +kernel
theorem d_Fam_brings_80 : decode prog_1_method_10_code 80 = .ok (.invokevirtual 144, 3) := by decide +kernel
theorem d_Fam_brings_83 : decode prog_1_method_10_code 83 = .ok (.aload_n 0, 1) := by decide +kernel
theorem d_Fam_brings_84 : decode prog_1_method_10_code 84 = .ok (.getfield 35, 3) := by decide +kernel
theorem d_Fam_brings_87 : decode prog_1_method_10_code 87 = .ok (.aload_n 3, 1) := by decide +kernel
theorem d_Fam_brings_88 : decode prog_1_method_10_code 88 = .ok (.iload_n 2, 1) := by decide +kernel
theorem d_Fam_brings_89 : decode prog_1_method_10_code 89 = .ok (.invokevirtual 148, 3) := by decide +kernel
theorem d_Fam_brings_92 : decode prog_1_method_10_code 92 = .ok (.aload 4, 2) := by decide +kernel
theorem d_Fam_brings_94 : decode prog_1_method_10_code 94 = .ok (.invokevirtual 155, 3) := by decide +kernel
theorem d_Fam_brings_97 : decode prog_1_method_10_code 97 = .ok (.aload_n 0, 1) := by decide +kernel
theorem d_Fam_brings_98 : decode prog_1_method_10_code 98 = .ok (.getfield 13, 3) := by decide +kernel
theorem d_Fam_brings_101 : decode prog_1_method_10_code 101 = .ok (.aload 4, 2) := by decide +kernel
theorem d_Fam_brings_103 : decode prog_1_method_10_code 103 = .ok (.invokevirtual 53, 3) := by decide +kernel
theorem d_Fam_brings_106 : decode prog_1_method_10_code 106 = .ok (.ireturn, 1) := by decide +kernel
theorem d_Fam_size_0 : decode prog_1_method_11_code 0 = .ok (.aload_n 0, 1) := by decide +kernel
theorem d_Fam_size_1 : decode prog_1_method_11_code 1 = .ok (.getfield 22, 3) := by decide +kernel
theorem d_Fam_size_4 : decode prog_1_method_11_code 4 = .ok (.iload_n 1, 1) := by decide +kernel
theorem d_Fam_size_5 : decode prog_1_method_11_code 5 = .ok (.invokevirtual 130, 3) := by decide +kernel
theorem d_Fam_size_8 : decode prog_1_method_11_code 8 = .ok (.astore_n 2, 1) := by decide +kernel
theorem d_Fam_size_9 : decode prog_1_method_11_code 9 = .ok (.aload_n 2, 1) := by decide +kernel
theorem d_Fam_size_10 : decode prog_1_method_11_code 10 = .ok (.ifnull 10, 3) := by decide +kernel
theorem d_Fam_size_13 : decode prog_1_method_11_code 13 = .ok (.aload_n 2, 1) := by decide +kernel
theorem d_Fam_size_14 : decode prog_1_method_11_code 14 = .ok (.invokevirtual 158, 3) := by decide +kernel
theorem d_Fam_size_17 : decode prog_1_method_11_code 17 = .ok (.ifCond .ne 5, 3) := by decide +kernel
theorem d_Fam_size_20 : decode prog_1_method_11_code 20 = .ok (.iconst (-1), 1) := by decide +kernel
theorem d_Fam_size_21 : decode prog_1_method_11_code 21 = .ok (.ireturn, 1) := by decide +kernel
theorem d_Fam_size_22 : decode prog_1_method_11_code 22 = .ok (.aload_n 0, 1) := by decide +kernel
theorem d_Fam_size_23 : decode prog_1_method_11_code 23 = .ok (.getfield 35, 3) := by decide +kernel
theorem d_Fam_size_26 : decode prog_1_method_11_code 26 = .ok (.aconst_null, 1) := by decide +kernel
theorem d_Fam_size_27 : decode prog_1_method_11_code 27 = .ok (.invokevirtual 144, 3) := by decide +kernel
theorem d_Fam_size_30 : decode prog_1_method_11_code 30 = .ok (.aload_n 0, 1) := by decide +kernel
theorem d_Fam_size_31 : decode prog_1_method_11_code 31 = .ok (.getfield 35, 3) := by decide +kernel
theorem d_Fam_size_34 : decode prog_1_method_11_code 34 = .ok (.aload_n 2, 1) := by decide +kernel
theorem d_Fam_size_35 : decode prog_1_method_11_code 35 = .ok (.iconst 0, 1) := by decide +kernel
theorem d_Fam_size_36 : decode prog_1_method_11_code 36 = .ok (.invokevirtual 162, 3) := by decide +kernel
theorem d_Fam_size_39 : decode prog_1_method_11_code 39 = .ok (.aload_n 0, 1) := by decide +kernel
theorem d_Fam_size_40 : decode prog_1_method_11_code 40 = .ok (.getfield 35, 3) := by decide +kernel
theorem d_Fam_size_43 : decode prog_1_method_11_code 43 = .ok (.getfield 152, 3) := by decide +kernel
theorem d_Fam_size_46 : decode prog_1_method_11_code 46 = .ok (.ireturn, 1) := by decide +kernel
theorem d_Fam_type_0 : decode prog_1_method_12_code 0 = .ok (.aload_n 0, 1) := by decide +kernel
theorem d_Fam_type_1 : decode prog_1_method_12_code 1 = .ok (.getfield 22, 3) := by decide +kernel
theorem d_Fam_type_4 : decode prog_1_method_12_code 4 = .ok (.iload_n 1, 1) := by decide +kernel
theorem d_Fam_type_5 : decode prog_1_method_12_code 5 = .ok (.invokevirtual 130, 3) := by decide +kernel
theorem d_Fam_type_8 : decode prog_1_method_12_code 8 = .ok (.astore_n 3, 1) := by decide +kernel
theorem d_Fam_type_9 : decode prog_1_method_12_code 9 = .ok (.aload_n 3, 1) := by decide +kernel
theorem d_Fam_type_10 : decode prog_1_method_12_code 10 = .ok (.ifnull 17, 3) := by decide +kernel
theorem d_Fam_type_13 : decode prog_1_method_12_code 13 = .ok (.aload_n 3, 1) := by decide +kernel
theorem d_Fam_type_14 : decode prog_1_method_12_code 14 = .ok (.invokevirtual 158, 3) := by decide +kernel
theorem d_Fam_type_17 : decode prog_1_method_12_code 17 = .ok (.ifCond .eq 10, 3) := by decide +kernel
theorem d_Fam_type_20 : decode prog_1_method_12_code 20 = .ok (.iload_n 2, 1) := by decide +kernel
theorem d_Fam_type_21 : decode prog_1_method_12_code 21 = .ok (.invokestatic 133, 3) := by decide +kernel
theorem d_Fam_type_24 : decode prog_1_method_12_code 24 = .ok (.ifCond .ne 5, 3) := by decide +kernel
theorem d_Fam_type_27 : decode prog_1_method_12_code 27 = .ok (.iconst (-1), 1) := by decide +kernel
theorem d_Fam_type_28 : decode prog_1_method_12_code 28 = .ok (.ireturn, 1) := by decide +kernel
theorem d_Fam_type_29 : decode prog_1_method_12_code 29 = .ok (.aload_n 0, 1) := by decide +kernel
theorem d_Fam_type_30 : decode prog_1_method_12_code 30 = .ok (.getfield 35, 3) := by decide +kernel
theorem d_Fam_type_33 : decode prog_1_method_12_code 33 = .ok (.aconst_null, 1) := by decide +kernel
theorem d_Fam_type_34 : decode prog_1_method_12_code 34 = .ok (.invokevirtual 144, 3) := by decide +kernel
theorem d_Fam_type_37 : decode prog_1_method_12_code 37 = .ok (.aload_n 0, 1) := by decide +kernel
theorem d_Fam_type_38 : decode prog_1_method_12_code 38 = .ok (.getfield 35, 3) := by decide +kernel
theorem d_Fam_type_41 : decode prog_1_method_12_code 41 = .ok (.aload_n 3, 1) := by decide +kernel
theorem d_Fam_type_42 : decode prog_1_method_12_code 42 = .ok (.iload_n 2, 1) := by decide +kernel
theorem d_Fam_type_43 : decode prog_1_method_12_code 43 = .ok (.invokevirtual 162, 3) := by decide +kernel
theorem d_Fam_type_46 : decode prog_1_method_12_code 46 = .ok (.aload_n 0, 1) := by decide +kernel
theorem d_Fam_type_47 : decode prog_1_method_12_code 47 = .ok (.getfield 13, 3) := by decide +kernel
theorem d_Fam_type_50 : decode prog_1_method_12_code 50 = .ok (.aload_n 0, 1) := by decide +kernel
theorem d_Fam_type_51 : decode prog_1_method_12_code 51 = .ok (.getfield 35, 3) := by decide +kernel
theorem d_Fam_type_54 : decode prog_1_method_12_code 54 = .ok (.getfield 152, 3) := by decide +kernel
theorem d_Fam_type_57 : decode prog_1_method_12_code 57 = .ok (.invokevirtual 43, 3) := by decide +kernel
theorem d_Fam_type_60 : decode prog_1_method_12_code 60 = .ok (.astore 4, 2) := by decide +kernel
theorem d_Fam_type_62 : decode prog_1_method_12_code 62 = .ok (.aload 4, 2) := by decide +kernel
theorem d_Fam_type_64 : decode prog_1_method_12_code 64 = .ok (.ifnonnull 5, 3) := by decide +kernel
theorem d_Fam_type_67 : decode prog_1_method_12_code 67 = .ok (.iconst (-1), 1) := by decide +kernel
theorem d_Fam_type_68 : decode prog_1_method_12_code 68 = .ok (.ireturn, 1) := by decide +kernel
theorem d_Fam_type_69 : decode prog_1_method_12_code 69 = .ok (.aload_n 0, 1) := by decide +kernel
theorem d_Fam_type_70 : decode prog_1_method_12_code 70 = .ok (.getfield 35, 3) := by decide +kernel
theorem d_Fam_type_73 : decode prog_1_method_12_code 73 = .ok (.aload 4, 2) := by decide +kernel
theorem d_Fam_type_75 : decode prog_1_method_12_code 75 = .ok (.invokevirtual 144, 3) := by decide +kernel
theorem d_Fam_type_78 : decode prog_1_method_12_code 78 = .ok (.aload_n 0, 1) := by decide +kernel
theorem d_Fam_type_79 : decode prog_1_method_12_code 79 = .ok (.getfield 35, 3) := by decide +kernel
theorem d_Fam_type_82 : decode prog_1_method_12_code 82 = .ok (.aload_n 3, 1) := by decide +kernel
theorem d_Fam_type_83 : decode prog_1_method_12_code 83 = .ok (.iload_n 2, 1) := by decide +kernel
theorem d_Fam_type_84 : decode prog_1_method_12_code 84 = .ok (.invokevirtual 162, 3) := by decide +kernel
theorem d_Fam_type_87 : decode prog_1_method_12_code 87 = .ok (.aload 4, 2) := by decide +kernel
theorem d_Fam_type_89 : decode prog_1_method_12_code 89 = .ok (.invokevirtual 155, 3) := by decide +kernel
theorem d_Fam_type_92 : decode prog_1_method_12_code 92 = .ok (.aload_n 0, 1) := by decide +kernel
theorem d_Fam_type_93 : decode prog_1_method_12_code 93 = .ok (.getfield 13, 3) := by decide +kernel
theorem d_Fam_type_96 : decode prog_1_method_12_code 96 = .ok (.aload 4, 2) := by decide +kernel
theorem d_Fam_type_98 : decode prog_1_method_12_code 98 = .ok (.invokevirtual 53, 3) := by decide +kernel
theorem d_Fam_type_101 : decode prog_1_method_12_code 101 = .ok (.ireturn, 1) := by decide +kernel
theorem d_Fam_terms_0 : decode prog_1_method_13_code 0 = .ok (.aload_n 0, 1) := by decide +kernel
theorem d_Fam_terms_1 : decode prog_1_method_13_code 1 = .ok (.getfield 13, 3) := by decide +kernel
theorem d_Fam_terms_4 : decode prog_1_method_13_code 4 = .ok (.getfield 165, 3) := by decide +kernel
theorem d_Fam_terms_7 : decode prog_1_method_13_code 7 = .ok (.ireturn, 1) := by decide +kernel
theorem d_Fam_part_0 : decode prog_1_method_14_code 0 = .ok (.aload_n 0, 1) := by decide +kernel
theorem d_Fam_part_1 : decode prog_1_method_14_code 1 = .ok (.getfield 13, 3) := by decide +kernel
theorem d_Fam_part_4 : decode prog_1_method_14_code 4 = .ok (.iload_n 1, 1) := by decide +kernel
theorem d_Fam_part_5 : decode prog_1_method_14_code 5 = .ok (.invokevirtual 65, 3) := by decide +kernel
theorem d_Fam_part_8 : decode prog_1_method_14_code 8 = .ok (.astore 4, 2) := by decide +kernel
theorem d_Fam_part_10 : decode prog_1_method_14_code 10 = .ok (.aload 4, 2) := by decide +kernel
theorem d_Fam_part_12 : decode prog_1_method_14_code 12 = .ok (.ifnull 12, 3) := by decide +kernel
theorem d_Fam_part_15 : decode prog_1_method_14_code 15 = .ok (.aload 4, 2) := by decide +kernel
theorem d_Fam_part_17 : decode prog_1_method_14_code 17 = .ok (.iload_n 2, 1) := by decide +kernel
theorem d_Fam_part_18 : decode prog_1_method_14_code 18 = .ok (.invokevirtual 168, 3) := by decide +kernel
theorem d_Fam_part_21 : decode prog_1_method_14_code 21 = .ok (.ifCond .ne 5, 3) := by decide +kernel
theorem d_Fam_part_24 : decode prog_1_method_14_code 24 = .ok (.iconst (-1), 1) := by decide +kernel
theorem d_Fam_part_25 : decode prog_1_method_14_code 25 = .ok (.ireturn, 1) := by decide +kernel
theorem d_Fam_part_26 : decode prog_1_method_14_code 26 = .ok (.iload_n 3, 1) := by decide +kernel
theorem d_Fam_part_27 : decode prog_1_method_14_code 27 = .ok (.tableswitch 57 0 3 #[29, 36, 43, 50], 29) := by decide +kernel
theorem d_Fam_part_56 : decode prog_1_method_14_code 56 = .ok (.aload 4, 2) := by decide +kernel
theorem d_Fam_part_58 : decode prog_1_method_14_code 58 = .ok (.iload_n 2, 1) := by decide +kernel
theorem d_Fam_part_59 : decode prog_1_method_14_code 59 = .ok (.invokevirtual 79, 3) := by decide +kernel
theorem d_Fam_part_62 : decode prog_1_method_14_code 62 = .ok (.ireturn, 1) := by decide +kernel
theorem d_Fam_part_63 : decode prog_1_method_14_code 63 = .ok (.aload 4, 2) := by decide +kernel
theorem d_Fam_part_65 : decode prog_1_method_14_code 65 = .ok (.iload_n 2, 1) := by decide +kernel
theorem d_Fam_part_66 : decode prog_1_method_14_code 66 = .ok (.invokevirtual 171, 3) := by decide +kernel
theorem d_Fam_part_69 : decode prog_1_method_14_code 69 = .ok (.ireturn, 1) := by decide +kernel
theorem d_Fam_part_70 : decode prog_1_method_14_code 70 = .ok (.aload 4, 2) := by decide +kernel
theorem d_Fam_part_72 : decode prog_1_method_14_code 72 = .ok (.iload_n 2, 1) := by decide +kernel
theorem d_Fam_part_73 : decode prog_1_method_14_code 73 = .ok (.invokevirtual 174, 3) := by decide +kernel
theorem d_Fam_part_76 : decode prog_1_method_14_code 76 = .ok (.ireturn, 1) := by decide +kernel
theorem d_Fam_part_77 : decode prog_1_method_14_code 77 = .ok (.aload 4, 2) := by decide +kernel
theorem d_Fam_part_79 : decode prog_1_method_14_code 79 = .ok (.iload_n 2, 1) := by decide +kernel
theorem d_Fam_part_80 : decode prog_1_method_14_code 80 = .ok (.invokevirtual 177, 3) := by decide +kernel
theorem d_Fam_part_83 : decode prog_1_method_14_code 83 = .ok (.ireturn, 1) := by decide +kernel
theorem d_Fam_part_84 : decode prog_1_method_14_code 84 = .ok (.iconst (-1), 1) := by decide +kernel
theorem d_Fam_part_85 : decode prog_1_method_14_code 85 = .ok (.ireturn, 1) := by decide +kernel
theorem d_Fam_isNumber_0 : decode prog_1_method_15_code 0 = .ok (.iload_n 0, 1) := by decide +kernel
theorem d_Fam_isNumber_1 : decode prog_1_method_15_code 1 = .ok (.ifCond .lt 13, 3) := by decide +kernel
theorem d_Fam_isNumber_4 : decode prog_1_method_15_code 4 = .ok (.iload_n 0, 1) := by decide +kernel
theorem d_Fam_isNumber_5 : decode prog_1_method_15_code 5 = .ok (.bipush 100, 2) := by decide +kernel
theorem d_Fam_isNumber_7 : decode prog_1_method_15_code 7 = .ok (.if_icmp .gt 7, 3) := by decide +kernel
theorem d_Fam_isNumber_10 : decode prog_1_method_15_code 10 = .ok (.iconst 1, 1) := by decide +kernel
theorem d_Fam_isNumber_11 : decode prog_1_method_15_code 11 = .ok (.goto 4, 3) := by decide +kernel
theorem d_Fam_isNumber_14 : decode prog_1_method_15_code 14 = .ok (.iconst 0, 1) := by decide +kernel
theorem d_Fam_isNumber_15 : decode prog_1_method_15_code 15 = .ok (.ireturn, 1) := by decide +kernel
theorem d_Fam_isLeaf_0 : decode prog_1_method_16_code 0 = .ok (.iload_n 1, 1) := by decide +kernel
theorem d_Fam_isLeaf_1 : decode prog_1_method_16_code 1 = .ok (.tableswitch 93 0 3 #[31, 48, 31, 69], 31) := by decide +kernel
theorem d_Fam_isLeaf_32 : decode prog_1_method_16_code 32 = .ok (.iload_n 2, 1) := by decide +kernel
theorem d_Fam_isLeaf_33 : decode prog_1_method_16_code 33 = .ok (.invokestatic 133, 3) := by decide +kernel
theorem d_Fam_isLeaf_36 : decode prog_1_method_16_code 36 = .ok (.ifCond .eq 11, 3) := by decide +kernel
theorem d_Fam_isLeaf_39 : decode prog_1_method_16_code 39 = .ok (.iload_n 3, 1) := by decide +kernel
theorem d_Fam_isLeaf_40 : decode prog_1_method_16_code 40 = .ok (.ifCond .ne 7, 3) := by decide +kernel
theorem d_Fam_isLeaf_43 : decode prog_1_method_16_code 43 = .ok (.iconst 1, 1) := by decide +kernel
theorem d_Fam_isLeaf_44 : decode prog_1_method_16_code 44 = .ok (.goto 4, 3) := by decide +kernel
theorem d_Fam_isLeaf_47 : decode prog_1_method_16_code 47 = .ok (.iconst 0, 1) := by decide +kernel
theorem d_Fam_isLeaf_48 : decode prog_1_method_16_code 48 = .ok (.ireturn, 1) := by decide +kernel
theorem d_Fam_isLeaf_49 : decode prog_1_method_16_code 49 = .ok (.aload_n 0, 1) := by decide +kernel
theorem d_Fam_isLeaf_50 : decode prog_1_method_16_code 50 = .ok (.getfield 22, 3) := by decide +kernel
theorem d_Fam_isLeaf_53 : decode prog_1_method_16_code 53 = .ok (.iload_n 2, 1) := by decide +kernel
theorem d_Fam_isLeaf_54 : decode prog_1_method_16_code 54 = .ok (.invokevirtual 116, 3) := by decide +kernel
theorem d_Fam_isLeaf_57 : decode prog_1_method_16_code 57 = .ok (.ifnull 11, 3) := by decide +kernel
theorem d_Fam_isLeaf_60 : decode prog_1_method_16_code 60 = .ok (.iload_n 3, 1) := by decide +kernel
theorem d_Fam_isLeaf_61 : decode prog_1_method_16_code 61 = .ok (.ifCond .ne 7, 3) := by decide +kernel
theorem d_Fam_isLeaf_64 : decode prog_1_method_16_code 64 = .ok (.iconst 1, 1) := by decide +kernel
theorem d_Fam_isLeaf_65 : decode prog_1_method_16_code 65 = .ok (.goto 4, 3) := by decide +kernel
theorem d_Fam_isLeaf_68 : decode prog_1_method_16_code 68 = .ok (.iconst 0, 1) := by decide +kernel
theorem d_Fam_isLeaf_69 : decode prog_1_method_16_code 69 = .ok (.ireturn, 1) := by decide +kernel
theorem d_Fam_isLeaf_70 : decode prog_1_method_16_code 70 = .ok (.aload_n 0, 1) := by decide +kernel
theorem d_Fam_isLeaf_71 : decode prog_1_method_16_code 71 = .ok (.getfield 22, 3) := by decide +kernel
theorem d_Fam_isLeaf_74 : decode prog_1_method_16_code 74 = .ok (.iload_n 2, 1) := by decide +kernel
theorem d_Fam_isLeaf_75 : decode prog_1_method_16_code 75 = .ok (.invokevirtual 130, 3) := by decide +kernel
theorem d_Fam_isLeaf_78 : decode prog_1_method_16_code 78 = .ok (.ifnull 14, 3) := by decide +kernel
theorem d_Fam_isLeaf_81 : decode prog_1_method_16_code 81 = .ok (.iload_n 3, 1) := by decide +kernel
theorem d_Fam_isLeaf_82 : decode prog_1_method_16_code 82 = .ok (.invokestatic 133, 3) := by decide +kernel
theorem d_Fam_isLeaf_85 : decode prog_1_method_16_code 85 = .ok (.ifCond .eq 7, 3) := by decide +kernel
theorem d_Fam_isLeaf_88 : decode prog_1_method_16_code 88 = .ok (.iconst 1, 1) := by decide +kernel
theorem d_Fam_isLeaf_89 : decode prog_1_method_16_code 89 = .ok (.goto 4, 3) := by decide +kernel
theorem d_Fam_isLeaf_92 : decode prog_1_method_16_code 92 = .ok (.iconst 0, 1) := by decide +kernel
theorem d_Fam_isLeaf_93 : decode prog_1_method_16_code 93 = .ok (.ireturn, 1) := by decide +kernel
theorem d_Fam_isLeaf_94 : decode prog_1_method_16_code 94 = .ok (.iconst 0, 1) := by decide +kernel
theorem d_Fam_isLeaf_95 : decode prog_1_method_16_code 95 = .ok (.ireturn, 1) := by decide +kernel
theorem d_Fam_join_0 : decode prog_1_method_17_code 0 = .ok (.aload_n 0, 1) := by decide +kernel
theorem d_Fam_join_1 : decode prog_1_method_17_code 1 = .ok (.getfield 13, 3) := by decide +kernel
theorem d_Fam_join_4 : decode prog_1_method_17_code 4 = .ok (.iload_n 3, 1) := by decide +kernel
theorem d_Fam_join_5 : decode prog_1_method_17_code 5 = .ok (.invokevirtual 65, 3) := by decide +kernel
theorem d_Fam_join_8 : decode prog_1_method_17_code 8 = .ok (.astore 5, 2) := by decide +kernel
theorem d_Fam_join_10 : decode prog_1_method_17_code 10 = .ok (.aload_n 0, 1) := by decide +kernel
theorem d_Fam_join_11 : decode prog_1_method_17_code 11 = .ok (.getfield 13, 3) := by decide +kernel
theorem d_Fam_join_14 : decode prog_1_method_17_code 14 = .ok (.iload 4, 2) := by decide +kernel
theorem d_Fam_join_16 : decode prog_1_method_17_code 16 = .ok (.invokevirtual 65, 3) := by decide +kernel
theorem d_Fam_join_19 : decode prog_1_method_17_code 19 = .ok (.astore 6, 2) := by decide +kernel
theorem d_Fam_join_21 : decode prog_1_method_17_code 21 = .ok (.aload 5, 2) := by decide +kernel
theorem d_Fam_join_23 : decode prog_1_method_17_code 23 = .ok (.ifnull 8, 3) := by decide +kernel
theorem d_Fam_join_26 : decode prog_1_method_17_code 26 = .ok (.aload 6, 2) := by decide +kernel
theorem d_Fam_join_28 : decode prog_1_method_17_code 28 = .ok (.ifnonnull 5, 3) := by decide +kernel
theorem d_Fam_join_31 : decode prog_1_method_17_code 31 = .ok (.iconst (-1), 1) := by decide +kernel
theorem d_Fam_join_32 : decode prog_1_method_17_code 32 = .ok (.ireturn, 1) := by decide +kernel
theorem d_Fam_join_33 : decode prog_1_method_17_code 33 = .ok (.aload_n 0, 1) := by decide +kernel
theorem d_Fam_join_34 : decode prog_1_method_17_code 34 = .ok (.getfield 13, 3) := by decide +kernel
theorem d_Fam_join_37 : decode prog_1_method_17_code 37 = .ok (.iconst 1, 1) := by decide +kernel
theorem d_Fam_join_38 : decode prog_1_method_17_code 38 = .ok (.aload 5, 2) := by decide +kernel
theorem d_Fam_join_40 : decode prog_1_method_17_code 40 = .ok (.invokevirtual 180, 3) := by decide +kernel
theorem d_Fam_join_43 : decode prog_1_method_17_code 43 = .ok (.iadd, 1) := by decide +kernel
theorem d_Fam_join_44 : decode prog_1_method_17_code 44 = .ok (.aload 6, 2) := by decide +kernel
theorem d_Fam_join_46 : decode prog_1_method_17_code 46 = .ok (.invokevirtual 180, 3) := by decide +kernel
theorem d_Fam_join_49 : decode prog_1_method_17_code 49 = .ok (.iadd, 1) := by decide +kernel
theorem d_Fam_join_50 : decode prog_1_method_17_code 50 = .ok (.invokevirtual 43, 3) := by decide +kernel
theorem d_Fam_join_53 : decode prog_1_method_17_code 53 = .ok (.astore 7, 2) := by decide +kernel
theorem d_Fam_join_55 : decode prog_1_method_17_code 55 = .ok (.aload 7, 2) := by decide +kernel
theorem d_Fam_join_57 : decode prog_1_method_17_code 57 = .ok (.ifnonnull 5, 3) := by decide +kernel
theorem d_Fam_join_60 : decode prog_1_method_17_code 60 = .ok (.iconst (-1), 1) := by decide +kernel
theorem d_Fam_join_61 : decode prog_1_method_17_code 61 = .ok (.ireturn, 1) := by decide +kernel
theorem d_Fam_join_62 : decode prog_1_method_17_code 62 = .ok (.aload 7, 2) := by decide +kernel
theorem d_Fam_join_64 : decode prog_1_method_17_code 64 = .ok (.iconst 0, 1) := by decide +kernel
theorem d_Fam_join_65 : decode prog_1_method_17_code 65 = .ok (.iload_n 1, 1) := by decide +kernel
theorem d_Fam_join_66 : decode prog_1_method_17_code 66 = .ok (.iload_n 2, 1) := by decide +kernel
theorem d_Fam_join_67 : decode prog_1_method_17_code 67 = .ok (.iconst 0, 1) := by decide +kernel
theorem d_Fam_join_68 : decode prog_1_method_17_code 68 = .ok (.invokevirtual 47, 3) := by decide +kernel
theorem d_Fam_join_71 : decode prog_1_method_17_code 71 = .ok (.aload 7, 2) := by decide +kernel
theorem d_Fam_join_73 : decode prog_1_method_17_code 73 = .ok (.aload 5, 2) := by decide +kernel
theorem d_Fam_join_75 : decode prog_1_method_17_code 75 = .ok (.iconst 1, 1) := by decide +kernel
theorem d_Fam_join_76 : decode prog_1_method_17_code 76 = .ok (.invokevirtual 183, 3) := by decide +kernel
theorem d_Fam_join_79 : decode prog_1_method_17_code 79 = .ok (.aload 7, 2) := by decide +kernel
theorem d_Fam_join_81 : decode prog_1_method_17_code 81 = .ok (.aload 6, 2) := by decide +kernel
theorem d_Fam_join_83 : decode prog_1_method_17_code 83 = .ok (.iconst 1, 1) := by decide +kernel
theorem d_Fam_join_84 : decode prog_1_method_17_code 84 = .ok (.aload 5, 2) := by decide +kernel
theorem d_Fam_join_86 : decode prog_1_method_17_code 86 = .ok (.invokevirtual 180, 3) := by decide +kernel
theorem d_Fam_join_89 : decode prog_1_method_17_code 89 = .ok (.iadd, 1) := by decide +kernel
theorem d_Fam_join_90 : decode prog_1_method_17_code 90 = .ok (.invokevirtual 183, 3) := by decide +kernel
theorem d_Fam_join_93 : decode prog_1_method_17_code 93 = .ok (.aload 7, 2) := by decide +kernel
theorem d_Fam_join_95 : decode prog_1_method_17_code 95 = .ok (.invokevirtual 155, 3) := by decide +kernel
theorem d_Fam_join_98 : decode prog_1_method_17_code 98 = .ok (.aload_n 0, 1) := by decide +kernel
theorem d_Fam_join_99 : decode prog_1_method_17_code 99 = .ok (.getfield 13, 3) := by decide +kernel
theorem d_Fam_join_102 : decode prog_1_method_17_code 102 = .ok (.aload 7, 2) := by decide +kernel
theorem d_Fam_join_104 : decode prog_1_method_17_code 104 = .ok (.invokevirtual 53, 3) := by decide +kernel
theorem d_Fam_join_107 : decode prog_1_method_17_code 107 = .ok (.ireturn, 1) := by decide +kernel
theorem d_Fam_tell_0 : decode prog_1_method_18_code 0 = .ok (.aload_n 3, 1) := by decide +kernel
theorem d_Fam_tell_1 : decode prog_1_method_18_code 1 = .ok (.aload_n 2, 1) := by decide +kernel
theorem d_Fam_tell_2 : decode prog_1_method_18_code 2 = .ok (.getfield 105, 3) := by decide +kernel
theorem d_Fam_tell_5 : decode prog_1_method_18_code 5 = .ok (.invokevirtual 186, 3) := by decide +kernel
theorem d_Fam_tell_8 : decode prog_1_method_18_code 8 = .ok (.istore 5, 2) := by decide +kernel
theorem d_Fam_tell_10 : decode prog_1_method_18_code 10 = .ok (.iconst 0, 1) := by decide +kernel
theorem d_Fam_tell_11 : decode prog_1_method_18_code 11 = .ok (.istore 6, 2) := by decide +kernel
theorem d_Fam_tell_13 : decode prog_1_method_18_code 13 = .ok (.iconst 0, 1) := by decide +kernel
theorem d_Fam_tell_14 : decode prog_1_method_18_code 14 = .ok (.istore 7, 2) := by decide +kernel
theorem d_Fam_tell_16 : decode prog_1_method_18_code 16 = .ok (.iload 7, 2) := by decide +kernel
theorem d_Fam_tell_18 : decode prog_1_method_18_code 18 = .ok (.iload 4, 2) := by decide +kernel
theorem d_Fam_tell_20 : decode prog_1_method_18_code 20 = .ok (.if_icmp .ge 59, 3) := by decide +kernel
theorem d_Fam_tell_23 : decode prog_1_method_18_code 23 = .ok (.aload_n 0, 1) := by decide +kernel
theorem d_Fam_tell_24 : decode prog_1_method_18_code 24 = .ok (.getfield 26, 3) := by decide +kernel
theorem d_Fam_tell_27 : decode prog_1_method_18_code 27 = .ok (.aload_n 2, 1) := by decide +kernel
theorem d_Fam_tell_28 : decode prog_1_method_18_code 28 = .ok (.aload_n 3, 1) := by decide +kernel
theorem d_Fam_tell_29 : decode prog_1_method_18_code 29 = .ok (.iload 5, 2) := by decide +kernel
theorem d_Fam_tell_31 : decode prog_1_method_18_code 31 = .ok (.iconst 1, 1) := by decide +kernel
theorem d_Fam_tell_32 : decode prog_1_method_18_code 32 = .ok (.iadd, 1) := by decide +kernel
theorem d_Fam_tell_33 : decode prog_1_method_18_code 33 = .ok (.aload_n 2, 1) := by decide +kernel
theorem d_Fam_tell_34 : decode prog_1_method_18_code 34 = .ok (.getfield 105, 3) := by decide +kernel
theorem d_Fam_tell_37 : decode prog_1_method_18_code 37 = .ok (.iload 7, 2) := by decide +kernel
theorem d_Fam_tell_39 : decode prog_1_method_18_code 39 = .ok (.iadd, 1) := by decide +kernel
theorem d_Fam_tell_40 : decode prog_1_method_18_code 40 = .ok (.invokevirtual 137, 3) := by decide +kernel
theorem d_Fam_tell_43 : decode prog_1_method_18_code 43 = .ok (.istore 8, 2) := by decide +kernel
theorem d_Fam_tell_45 : decode prog_1_method_18_code 45 = .ok (.iload 8, 2) := by decide +kernel
theorem d_Fam_tell_47 : decode prog_1_method_18_code 47 = .ok (.ifCond .ne 9, 3) := by decide +kernel
theorem d_Fam_tell_50 : decode prog_1_method_18_code 50 = .ok (.bipush (-2), 2) := by decide +kernel
theorem d_Fam_tell_52 : decode prog_1_method_18_code 52 = .ok (.iload 7, 2) := by decide +kernel
theorem d_Fam_tell_54 : decode prog_1_method_18_code 54 = .ok (.isub, 1) := by decide +kernel
theorem d_Fam_tell_55 : decode prog_1_method_18_code 55 = .ok (.ireturn, 1) := by decide +kernel
theorem d_Fam_tell_56 : decode prog_1_method_18_code 56 = .ok (.iload 8, 2) := by decide +kernel
theorem d_Fam_tell_58 : decode prog_1_method_18_code 58 = .ok (.iconst 2, 1) := by decide +kernel
theorem d_Fam_tell_59 : decode prog_1_method_18_code 59 = .ok (.if_icmp .ne 6, 3) := by decide +kernel
theorem d_Fam_tell_62 : decode prog_1_method_18_code 62 = .ok (.iinc 6 1, 3) := by decide +kernel
theorem d_Fam_tell_65 : decode prog_1_method_18_code 65 = .ok (.aload_n 3, 1) := by decide +kernel
theorem d_Fam_tell_66 : decode prog_1_method_18_code 66 = .ok (.iload 5, 2) := by decide +kernel
theorem d_Fam_tell_68 : decode prog_1_method_18_code 68 = .ok (.invokevirtual 189, 3) := by decide +kernel
theorem d_Fam_tell_71 : decode prog_1_method_18_code 71 = .ok (.istore 5, 2) := by decide +kernel
theorem d_Fam_tell_73 : decode prog_1_method_18_code 73 = .ok (.iinc 7 1, 3) := by decide +kernel
theorem d_Fam_tell_76 : decode prog_1_method_18_code 76 = .ok (.goto (-60), 3) := by decide +kernel
theorem d_Fam_tell_79 : decode prog_1_method_18_code 79 = .ok (.aload_n 1, 1) := by decide +kernel
theorem d_Fam_tell_80 : decode prog_1_method_18_code 80 = .ok (.aload_n 3, 1) := by decide +kernel
theorem d_Fam_tell_81 : decode prog_1_method_18_code 81 = .ok (.putfield 95, 3) := by decide +kernel
theorem d_Fam_tell_84 : decode prog_1_method_18_code 84 = .ok (.aload_n 1, 1) := by decide +kernel
theorem d_Fam_tell_85 : decode prog_1_method_18_code 85 = .ok (.iload 4, 2) := by decide +kernel
theorem d_Fam_tell_87 : decode prog_1_method_18_code 87 = .ok (.putfield 121, 3) := by decide +kernel
theorem d_Fam_tell_90 : decode prog_1_method_18_code 90 = .ok (.aload_n 1, 1) := by decide +kernel
theorem d_Fam_tell_91 : decode prog_1_method_18_code 91 = .ok (.iload 6, 2) := by decide +kernel
theorem d_Fam_tell_93 : decode prog_1_method_18_code 93 = .ok (.putfield 141, 3) := by decide +kernel
theorem d_Fam_tell_96 : decode prog_1_method_18_code 96 = .ok (.iload 6, 2) := by decide +kernel
theorem d_Fam_tell_98 : decode prog_1_method_18_code 98 = .ok (.ireturn, 1) := by decide +kernel
theorem d_Mod_init_0 : decode prog_9_method_1_code 0 = .ok (.aload_n 0, 1) := by decide +kernel
theorem d_Mod_init_1 : decode prog_9_method_1_code 1 = .ok (.invokespecial 1, 3) := by decide +kernel
theorem d_Mod_init_4 : decode prog_9_method_1_code 4 = .ok (.aload_n 0, 1) := by decide +kernel
theorem d_Mod_init_5 : decode prog_9_method_1_code 5 = .ok (.sipush 1024, 3) := by decide +kernel
theorem d_Mod_init_8 : decode prog_9_method_1_code 8 = .ok (.newarray .int, 2) := by decide +kernel
theorem d_Mod_init_10 : decode prog_9_method_1_code 10 = .ok (.putfield 7, 3) := by decide +kernel
theorem d_Mod_init_13 : decode prog_9_method_1_code 13 = .ok (.aload_n 0, 1) := by decide +kernel
theorem d_Mod_init_14 : decode prog_9_method_1_code 14 = .ok (.sipush 1024, 3) := by decide +kernel
theorem d_Mod_init_17 : decode prog_9_method_1_code 17 = .ok (.newarray .int, 2) := by decide +kernel
theorem d_Mod_init_19 : decode prog_9_method_1_code 19 = .ok (.putfield 13, 3) := by decide +kernel
