set_option maxRecDepth 100000 in
set_option maxHeartbeats 4000000 in
theorem mN_leaf {l : Launch} {V : mv_V} {M : mv_M} {r cap lq : Nat} {A : Nat → Nat} {F : Nat → Nat → Int} {c tn gn : Int} (hC : RefC V M r A (rN cap lq) F c tn gn) (hcap : cap ≤ 1000000) {k a b : Int} (hgt : (0 ≤ gn ∧ gn ≤ 100) ∧ 0 ≤ tn ∧ tn ≤ 1500) (rk : R32 k) (ra : R32 a) (rb : R32 b) (hno : ¬ (((k = 0 ∨ k = 2) ∧ 0 ≤ a ∧ a ≤ 100 ∧ b = 0) ∨ (k = 1 ∧ 0 ≤ a ∧ a < gn ∧ b = 0) ∨ (k = 3 ∧ 0 ≤ a ∧ a < gn ∧ F 6 a.toNat = 3 ∧ 0 ≤ b ∧ b ≤ 100))) : Met l y_Mod_leaf ws_Mod_leaf (rM 3 0 0 110) (mv_Pre (kk V) [.ref r, .int (iI (k)), .int (iI (a)), .int (iI (b))] M) (mv_Q (kk V) (mv_R (some (.int (iI (-1)))) M)) 0 0 V.2.2.2.2 := by
  refine mv_Met (by decide) rfl (Nat.le_of_ble_eq_true rfl) (fun X hX B => ?_)
  subst hX
  replace B : mv_B X (kk V) c_Mod_leaf ws_Mod_leaf "FamilyRulesModel" 6 (Option.some Jvm.ClassFile.FieldType.int) (rM 3 0 0 110) "leaf" := B
  obtain ⟨Q, hQ⟩ : ∃ Q, Q = mv_E X (kk V) (mv_R (some (.int (iI (-1)))) M) 0 0 := ⟨_, rfl⟩
  rw [← hQ]
  show mv_G X Q (kk V) 6 0 [(0, .ref r), (1, .int (iI (k))), (2, .int (iI (a))), (3, .int (iI (b)))] [] M 0 0
  have k1_6 : M (A 6) = some (iA V (100) (F 6)) := hC.2.1 6 (by decide)
  refine mv_iload_n B d_Mod_leaf_0 rfl 1 rfl ?_
  refine mv_if_eq (tgt := 9) B d_Mod_leaf_1 (by decide) (by omega) (fun c2 => ?_) (fun c2 => ?_)
  · refine mv_iload_n B d_Mod_leaf_9 rfl 2 rfl ?_
    refine mv_if_lt (tgt := 23) B d_Mod_leaf_10 (by decide) (by omega) (fun c3 => ?_) (fun c3 => ?_)
    · refine mv_iconst (z := 0) B d_Mod_leaf_23 rfl ?_
      refine mv_goto (tgt := 54) B d_Mod_leaf_24 (by decide) ?_
      refine mv_istore (lv' := [(4, .int (iI (0))), (0, .ref r), (1, .int (iI (k))), (2, .int (iI (a))), (3, .int (iI (b)))]) B d_Mod_leaf_54 (by decide) rfl ?_
      refine mv_iload B d_Mod_leaf_56 0 rfl ?_
      refine mv_if_eq (tgt := 93) B d_Mod_leaf_58 (by decide) (by omega) (fun c4 => ?_) (fun c4 => ?_)
      · refine mv_iconst (z := -1) B d_Mod_leaf_93 rfl ?_
        rw [hQ]
        exact mv_iret B ⟨(by rfl), rfl⟩ (by omega) (by omega) d_Mod_leaf_94
      · omega
    · refine mv_iload_n B d_Mod_leaf_13 rfl 2 rfl ?_
      refine mv_bipush (z := 100) B d_Mod_leaf_14 (by decide) ?_
      refine mv_icmp_gt (tgt := 23) B d_Mod_leaf_16 (by decide) (by omega) (by omega) (fun c5 => ?_) (fun c5 => ?_)
      · refine mv_iconst (z := 0) B d_Mod_leaf_23 rfl ?_
        refine mv_goto (tgt := 54) B d_Mod_leaf_24 (by decide) ?_
        refine mv_istore (lv' := [(4, .int (iI (0))), (0, .ref r), (1, .int (iI (k))), (2, .int (iI (a))), (3, .int (iI (b)))]) B d_Mod_leaf_54 (by decide) rfl ?_
        refine mv_iload B d_Mod_leaf_56 0 rfl ?_
        refine mv_if_eq (tgt := 93) B d_Mod_leaf_58 (by decide) (by omega) (fun c6 => ?_) (fun c6 => ?_)
        · refine mv_iconst (z := -1) B d_Mod_leaf_93 rfl ?_
          rw [hQ]
          exact mv_iret B ⟨(by rfl), rfl⟩ (by omega) (by omega) d_Mod_leaf_94
        · omega
      · refine mv_iconst (z := 1) B d_Mod_leaf_19 rfl ?_
        refine mv_goto (tgt := 54) B d_Mod_leaf_20 (by decide) ?_
        refine mv_istore (lv' := [(4, .int (iI (1))), (0, .ref r), (1, .int (iI (k))), (2, .int (iI (a))), (3, .int (iI (b)))]) B d_Mod_leaf_54 (by decide) rfl ?_
        refine mv_iload B d_Mod_leaf_56 0 rfl ?_
        refine mv_if_eq (tgt := 93) B d_Mod_leaf_58 (by decide) (by omega) (fun c7 => ?_) (fun c7 => ?_)
        · omega
        · refine mv_iload_n B d_Mod_leaf_61 rfl 2 rfl ?_
          refine mv_iconst (z := 3) B d_Mod_leaf_62 rfl ?_
          refine mv_icmp_ne (tgt := 89) B d_Mod_leaf_63 (by decide) (by omega) (by omega) (fun c8 => ?_) (fun c8 => ?_)
          · refine mv_iload_n B d_Mod_leaf_89 rfl 4 rfl ?_
            refine mv_if_eq (tgt := 95) B d_Mod_leaf_90 (by decide) (by omega) (fun c9 => ?_) (fun c9 => ?_)
            · refine mv_aloadR_n B d_Mod_leaf_95 rfl 1 rfl ?_
              refine mv_iload_n B d_Mod_leaf_96 rfl 2 rfl ?_
              refine mv_iload_n B d_Mod_leaf_97 rfl 3 rfl ?_
              refine mv_iload_n B d_Mod_leaf_98 rfl 4 rfl ?_
              exact absurd (show (((k = 0 ∨ k = 2) ∧ 0 ≤ a ∧ a ≤ 100 ∧ b = 0) ∨ (k = 1 ∧ 0 ≤ a ∧ a < gn ∧ b = 0) ∨ (k = 3 ∧ 0 ≤ a ∧ a < gn ∧ F 6 a.toNat = 3 ∧ 0 ≤ b ∧ b ≤ 100)) by omega) hno
            · refine mv_iconst (z := -1) B d_Mod_leaf_93 rfl ?_
              rw [hQ]
              exact mv_iret B ⟨(by rfl), rfl⟩ (by omega) (by omega) d_Mod_leaf_94
          · refine mv_aloadR_n B d_Mod_leaf_66 rfl 1 rfl ?_
            refine gf_Mod_28 B hC.1 rfl d_Mod_leaf_67 ?_
            refine mv_iload_n B d_Mod_leaf_70 rfl 3 rfl ?_
            refine ia_ld B k1_6 (by omega) (by omega) (by omega) d_Mod_leaf_71 ?_
            have rr10 : R32 (F 6 (Int.toNat (a))) := (hC.R 6) _
            refine mv_iconst (z := 3) B d_Mod_leaf_72 rfl ?_
            refine mv_icmp_ne (tgt := 93) B d_Mod_leaf_73 (by decide) (by omega) (by omega) (fun c11 => ?_) (fun c11 => ?_)
            · refine mv_iconst (z := -1) B d_Mod_leaf_93 rfl ?_
              rw [hQ]
              exact mv_iret B ⟨(by rfl), rfl⟩ (by omega) (by omega) d_Mod_leaf_94
            · refine mv_iload_n B d_Mod_leaf_76 rfl 4 rfl ?_
              refine mv_if_lt (tgt := 93) B d_Mod_leaf_77 (by decide) (by omega) (fun c12 => ?_) (fun c12 => ?_)
              · refine mv_iconst (z := -1) B d_Mod_leaf_93 rfl ?_
                rw [hQ]
                exact mv_iret B ⟨(by rfl), rfl⟩ (by omega) (by omega) d_Mod_leaf_94
              · refine mv_iload_n B d_Mod_leaf_80 rfl 4 rfl ?_
                refine mv_bipush (z := 100) B d_Mod_leaf_81 (by decide) ?_
                refine mv_icmp_le (tgt := 95) B d_Mod_leaf_83 (by decide) (by omega) (by omega) (fun c13 => ?_) (fun c13 => ?_)
                · refine mv_aloadR_n B d_Mod_leaf_95 rfl 1 rfl ?_
                  refine mv_iload_n B d_Mod_leaf_96 rfl 2 rfl ?_
                  refine mv_iload_n B d_Mod_leaf_97 rfl 3 rfl ?_
                  refine mv_iload_n B d_Mod_leaf_98 rfl 4 rfl ?_
                  exact absurd (show (((k = 0 ∨ k = 2) ∧ 0 ≤ a ∧ a ≤ 100 ∧ b = 0) ∨ (k = 1 ∧ 0 ≤ a ∧ a < gn ∧ b = 0) ∨ (k = 3 ∧ 0 ≤ a ∧ a < gn ∧ F 6 a.toNat = 3 ∧ 0 ≤ b ∧ b ≤ 100)) by omega) hno
                · refine mv_goto (tgt := 93) B d_Mod_leaf_86 (by decide) ?_
                  refine mv_iconst (z := -1) B d_Mod_leaf_93 rfl ?_
                  rw [hQ]
                  exact mv_iret B ⟨(by rfl), rfl⟩ (by omega) (by omega) d_Mod_leaf_94
  · refine mv_iload_n B d_Mod_leaf_4 rfl 1 rfl ?_
    refine mv_iconst (z := 2) B d_Mod_leaf_5 rfl ?_
    refine mv_icmp_ne (tgt := 27) B d_Mod_leaf_6 (by decide) (by omega) (by omega) (fun c14 => ?_) (fun c14 => ?_)
    · refine mv_iload_n B d_Mod_leaf_27 rfl 1 rfl ?_
      refine mv_iconst (z := 1) B d_Mod_leaf_28 rfl ?_
      refine mv_icmp_eq (tgt := 37) B d_Mod_leaf_29 (by decide) (by omega) (by omega) (fun c15 => ?_) (fun c15 => ?_)
      · refine mv_iload_n B d_Mod_leaf_37 rfl 2 rfl ?_
        refine mv_if_lt (tgt := 53) B d_Mod_leaf_38 (by decide) (by omega) (fun c16 => ?_) (fun c16 => ?_)
        · refine mv_iconst (z := 0) B d_Mod_leaf_53 rfl ?_
          refine mv_istore (lv' := [(4, .int (iI (0))), (0, .ref r), (1, .int (iI (k))), (2, .int (iI (a))), (3, .int (iI (b)))]) B d_Mod_leaf_54 (by decide) rfl ?_
          refine mv_iload B d_Mod_leaf_56 0 rfl ?_
          refine mv_if_eq (tgt := 93) B d_Mod_leaf_58 (by decide) (by omega) (fun c17 => ?_) (fun c17 => ?_)
          · refine mv_iconst (z := -1) B d_Mod_leaf_93 rfl ?_
            rw [hQ]
            exact mv_iret B ⟨(by rfl), rfl⟩ (by omega) (by omega) d_Mod_leaf_94
          · omega
        · refine mv_iload_n B d_Mod_leaf_41 rfl 2 rfl ?_
          refine mv_aloadR_n B d_Mod_leaf_42 rfl 0 rfl ?_
          refine gf_Mod_81 B hC.1 rfl d_Mod_leaf_43 ?_
          refine mv_icmp_ge (tgt := 53) B d_Mod_leaf_46 (by decide) (by omega) (by omega) (fun c18 => ?_) (fun c18 => ?_)
          · refine mv_iconst (z := 0) B d_Mod_leaf_53 rfl ?_
            refine mv_istore (lv' := [(4, .int (iI (0))), (0, .ref r), (1, .int (iI (k))), (2, .int (iI (a))), (3, .int (iI (b)))]) B d_Mod_leaf_54 (by decide) rfl ?_
            refine mv_iload B d_Mod_leaf_56 0 rfl ?_
            refine mv_if_eq (tgt := 93) B d_Mod_leaf_58 (by decide) (by omega) (fun c19 => ?_) (fun c19 => ?_)
            · refine mv_iconst (z := -1) B d_Mod_leaf_93 rfl ?_
              rw [hQ]
              exact mv_iret B ⟨(by rfl), rfl⟩ (by omega) (by omega) d_Mod_leaf_94
            · omega
          · refine mv_iconst (z := 1) B d_Mod_leaf_49 rfl ?_
            refine mv_goto (tgt := 54) B d_Mod_leaf_50 (by decide) ?_
            refine mv_istore (lv' := [(4, .int (iI (1))), (0, .ref r), (1, .int (iI (k))), (2, .int (iI (a))), (3, .int (iI (b)))]) B d_Mod_leaf_54 (by decide) rfl ?_
            refine mv_iload B d_Mod_leaf_56 0 rfl ?_
            refine mv_if_eq (tgt := 93) B d_Mod_leaf_58 (by decide) (by omega) (fun c20 => ?_) (fun c20 => ?_)
            · omega
            · refine mv_iload_n B d_Mod_leaf_61 rfl 2 rfl ?_
              refine mv_iconst (z := 3) B d_Mod_leaf_62 rfl ?_
              refine mv_icmp_ne (tgt := 89) B d_Mod_leaf_63 (by decide) (by omega) (by omega) (fun c21 => ?_) (fun c21 => ?_)
              · refine mv_iload_n B d_Mod_leaf_89 rfl 4 rfl ?_
                refine mv_if_eq (tgt := 95) B d_Mod_leaf_90 (by decide) (by omega) (fun c22 => ?_) (fun c22 => ?_)
                · refine mv_aloadR_n B d_Mod_leaf_95 rfl 1 rfl ?_
                  refine mv_iload_n B d_Mod_leaf_96 rfl 2 rfl ?_
                  refine mv_iload_n B d_Mod_leaf_97 rfl 3 rfl ?_
                  refine mv_iload_n B d_Mod_leaf_98 rfl 4 rfl ?_
                  exact absurd (show (((k = 0 ∨ k = 2) ∧ 0 ≤ a ∧ a ≤ 100 ∧ b = 0) ∨ (k = 1 ∧ 0 ≤ a ∧ a < gn ∧ b = 0) ∨ (k = 3 ∧ 0 ≤ a ∧ a < gn ∧ F 6 a.toNat = 3 ∧ 0 ≤ b ∧ b ≤ 100)) by omega) hno
                · refine mv_iconst (z := -1) B d_Mod_leaf_93 rfl ?_
                  rw [hQ]
                  exact mv_iret B ⟨(by rfl), rfl⟩ (by omega) (by omega) d_Mod_leaf_94
              · refine mv_aloadR_n B d_Mod_leaf_66 rfl 1 rfl ?_
                refine gf_Mod_28 B hC.1 rfl d_Mod_leaf_67 ?_
                refine mv_iload_n B d_Mod_leaf_70 rfl 3 rfl ?_
                refine ia_ld B k1_6 (by omega) (by omega) (by omega) d_Mod_leaf_71 ?_
                have rr23 : R32 (F 6 (Int.toNat (a))) := (hC.R 6) _
                refine mv_iconst (z := 3) B d_Mod_leaf_72 rfl ?_
                refine mv_icmp_ne (tgt := 93) B d_Mod_leaf_73 (by decide) (by omega) (by omega) (fun c24 => ?_) (fun c24 => ?_)
                · refine mv_iconst (z := -1) B d_Mod_leaf_93 rfl ?_
                  rw [hQ]
                  exact mv_iret B ⟨(by rfl), rfl⟩ (by omega) (by omega) d_Mod_leaf_94
                · refine mv_iload_n B d_Mod_leaf_76 rfl 4 rfl ?_
                  refine mv_if_lt (tgt := 93) B d_Mod_leaf_77 (by decide) (by omega) (fun c25 => ?_) (fun c25 => ?_)
                  · refine mv_iconst (z := -1) B d_Mod_leaf_93 rfl ?_
                    rw [hQ]
                    exact mv_iret B ⟨(by rfl), rfl⟩ (by omega) (by omega) d_Mod_leaf_94
                  · refine mv_iload_n B d_Mod_leaf_80 rfl 4 rfl ?_
                    refine mv_bipush (z := 100) B d_Mod_leaf_81 (by decide) ?_
                    refine mv_icmp_le (tgt := 95) B d_Mod_leaf_83 (by decide) (by omega) (by omega) (fun c26 => ?_) (fun c26 => ?_)
                    · refine mv_aloadR_n B d_Mod_leaf_95 rfl 1 rfl ?_
                      refine mv_iload_n B d_Mod_leaf_96 rfl 2 rfl ?_
                      refine mv_iload_n B d_Mod_leaf_97 rfl 3 rfl ?_
                      refine mv_iload_n B d_Mod_leaf_98 rfl 4 rfl ?_
                      exact absurd (show (((k = 0 ∨ k = 2) ∧ 0 ≤ a ∧ a ≤ 100 ∧ b = 0) ∨ (k = 1 ∧ 0 ≤ a ∧ a < gn ∧ b = 0) ∨ (k = 3 ∧ 0 ≤ a ∧ a < gn ∧ F 6 a.toNat = 3 ∧ 0 ≤ b ∧ b ≤ 100)) by omega) hno
                    · refine mv_goto (tgt := 93) B d_Mod_leaf_86 (by decide) ?_
                      refine mv_iconst (z := -1) B d_Mod_leaf_93 rfl ?_
                      rw [hQ]
                      exact mv_iret B ⟨(by rfl), rfl⟩ (by omega) (by omega) d_Mod_leaf_94
      · refine mv_iload_n B d_Mod_leaf_32 rfl 1 rfl ?_
        refine mv_iconst (z := 3) B d_Mod_leaf_33 rfl ?_
        refine mv_icmp_ne (tgt := 53) B d_Mod_leaf_34 (by decide) (by omega) (by omega) (fun c27 => ?_) (fun c27 => ?_)
        · refine mv_iconst (z := 0) B d_Mod_leaf_53 rfl ?_
          refine mv_istore (lv' := [(4, .int (iI (0))), (0, .ref r), (1, .int (iI (k))), (2, .int (iI (a))), (3, .int (iI (b)))]) B d_Mod_leaf_54 (by decide) rfl ?_
          refine mv_iload B d_Mod_leaf_56 0 rfl ?_
          refine mv_if_eq (tgt := 93) B d_Mod_leaf_58 (by decide) (by omega) (fun c28 => ?_) (fun c28 => ?_)
          · refine mv_iconst (z := -1) B d_Mod_leaf_93 rfl ?_
            rw [hQ]
            exact mv_iret B ⟨(by rfl), rfl⟩ (by omega) (by omega) d_Mod_leaf_94
          · omega
        · refine mv_iload_n B d_Mod_leaf_37 rfl 2 rfl ?_
          refine mv_if_lt (tgt := 53) B d_Mod_leaf_38 (by decide) (by omega) (fun c29 => ?_) (fun c29 => ?_)
          · refine mv_iconst (z := 0) B d_Mod_leaf_53 rfl ?_
            refine mv_istore (lv' := [(4, .int (iI (0))), (0, .ref r), (1, .int (iI (k))), (2, .int (iI (a))), (3, .int (iI (b)))]) B d_Mod_leaf_54 (by decide) rfl ?_
            refine mv_iload B d_Mod_leaf_56 0 rfl ?_
            refine mv_if_eq (tgt := 93) B d_Mod_leaf_58 (by decide) (by omega) (fun c30 => ?_) (fun c30 => ?_)
            · refine mv_iconst (z := -1) B d_Mod_leaf_93 rfl ?_
              rw [hQ]
              exact mv_iret B ⟨(by rfl), rfl⟩ (by omega) (by omega) d_Mod_leaf_94
            · omega
          · refine mv_iload_n B d_Mod_leaf_41 rfl 2 rfl ?_
            refine mv_aloadR_n B d_Mod_leaf_42 rfl 0 rfl ?_
            refine gf_Mod_81 B hC.1 rfl d_Mod_leaf_43 ?_
            refine mv_icmp_ge (tgt := 53) B d_Mod_leaf_46 (by decide) (by omega) (by omega) (fun c31 => ?_) (fun c31 => ?_)
            · refine mv_iconst (z := 0) B d_Mod_leaf_53 rfl ?_
              refine mv_istore (lv' := [(4, .int (iI (0))), (0, .ref r), (1, .int (iI (k))), (2, .int (iI (a))), (3, .int (iI (b)))]) B d_Mod_leaf_54 (by decide) rfl ?_
              refine mv_iload B d_Mod_leaf_56 0 rfl ?_
              refine mv_if_eq (tgt := 93) B d_Mod_leaf_58 (by decide) (by omega) (fun c32 => ?_) (fun c32 => ?_)
              · refine mv_iconst (z := -1) B d_Mod_leaf_93 rfl ?_
                rw [hQ]
                exact mv_iret B ⟨(by rfl), rfl⟩ (by omega) (by omega) d_Mod_leaf_94
              · omega
            · refine mv_iconst (z := 1) B d_Mod_leaf_49 rfl ?_
              refine mv_goto (tgt := 54) B d_Mod_leaf_50 (by decide) ?_
              refine mv_istore (lv' := [(4, .int (iI (1))), (0, .ref r), (1, .int (iI (k))), (2, .int (iI (a))), (3, .int (iI (b)))]) B d_Mod_leaf_54 (by decide) rfl ?_
              refine mv_iload B d_Mod_leaf_56 0 rfl ?_
              refine mv_if_eq (tgt := 93) B d_Mod_leaf_58 (by decide) (by omega) (fun c33 => ?_) (fun c33 => ?_)
              · omega
              · refine mv_iload_n B d_Mod_leaf_61 rfl 2 rfl ?_
                refine mv_iconst (z := 3) B d_Mod_leaf_62 rfl ?_
                refine mv_icmp_ne (tgt := 89) B d_Mod_leaf_63 (by decide) (by omega) (by omega) (fun c34 => ?_) (fun c34 => ?_)
                · refine mv_iload_n B d_Mod_leaf_89 rfl 4 rfl ?_
                  refine mv_if_eq (tgt := 95) B d_Mod_leaf_90 (by decide) (by omega) (fun c35 => ?_) (fun c35 => ?_)
                  · refine mv_aloadR_n B d_Mod_leaf_95 rfl 1 rfl ?_
                    refine mv_iload_n B d_Mod_leaf_96 rfl 2 rfl ?_
                    refine mv_iload_n B d_Mod_leaf_97 rfl 3 rfl ?_
                    refine mv_iload_n B d_Mod_leaf_98 rfl 4 rfl ?_
                    exact absurd (show (((k = 0 ∨ k = 2) ∧ 0 ≤ a ∧ a ≤ 100 ∧ b = 0) ∨ (k = 1 ∧ 0 ≤ a ∧ a < gn ∧ b = 0) ∨ (k = 3 ∧ 0 ≤ a ∧ a < gn ∧ F 6 a.toNat = 3 ∧ 0 ≤ b ∧ b ≤ 100)) by omega) hno
                  · refine mv_iconst (z := -1) B d_Mod_leaf_93 rfl ?_
                    rw [hQ]
                    exact mv_iret B ⟨(by rfl), rfl⟩ (by omega) (by omega) d_Mod_leaf_94
                · refine mv_aloadR_n B d_Mod_leaf_66 rfl 1 rfl ?_
                  refine gf_Mod_28 B hC.1 rfl d_Mod_leaf_67 ?_
                  refine mv_iload_n B d_Mod_leaf_70 rfl 3 rfl ?_
                  refine ia_ld B k1_6 (by omega) (by omega) (by omega) d_Mod_leaf_71 ?_
                  have rr36 : R32 (F 6 (Int.toNat (a))) := (hC.R 6) _
                  refine mv_iconst (z := 3) B d_Mod_leaf_72 rfl ?_
                  refine mv_icmp_ne (tgt := 93) B d_Mod_leaf_73 (by decide) (by omega) (by omega) (fun c37 => ?_) (fun c37 => ?_)
                  · refine mv_iconst (z := -1) B d_Mod_leaf_93 rfl ?_
                    rw [hQ]
                    exact mv_iret B ⟨(by rfl), rfl⟩ (by omega) (by omega) d_Mod_leaf_94
                  · refine mv_iload_n B d_Mod_leaf_76 rfl 4 rfl ?_
                    refine mv_if_lt (tgt := 93) B d_Mod_leaf_77 (by decide) (by omega) (fun c38 => ?_) (fun c38 => ?_)
                    · refine mv_iconst (z := -1) B d_Mod_leaf_93 rfl ?_
                      rw [hQ]
                      exact mv_iret B ⟨(by rfl), rfl⟩ (by omega) (by omega) d_Mod_leaf_94
                    · refine mv_iload_n B d_Mod_leaf_80 rfl 4 rfl ?_
                      refine mv_bipush (z := 100) B d_Mod_leaf_81 (by decide) ?_
                      refine mv_icmp_le (tgt := 95) B d_Mod_leaf_83 (by decide) (by omega) (by omega) (fun c39 => ?_) (fun c39 => ?_)
                      · refine mv_aloadR_n B d_Mod_leaf_95 rfl 1 rfl ?_
                        refine mv_iload_n B d_Mod_leaf_96 rfl 2 rfl ?_
                        refine mv_iload_n B d_Mod_leaf_97 rfl 3 rfl ?_
                        refine mv_iload_n B d_Mod_leaf_98 rfl 4 rfl ?_
                        exact absurd (show (((k = 0 ∨ k = 2) ∧ 0 ≤ a ∧ a ≤ 100 ∧ b = 0) ∨ (k = 1 ∧ 0 ≤ a ∧ a < gn ∧ b = 0) ∨ (k = 3 ∧ 0 ≤ a ∧ a < gn ∧ F 6 a.toNat = 3 ∧ 0 ≤ b ∧ b ≤ 100)) by omega) hno
                      · refine mv_goto (tgt := 93) B d_Mod_leaf_86 (by decide) ?_
                        refine mv_iconst (z := -1) B d_Mod_leaf_93 rfl ?_
                        rw [hQ]
                        exact mv_iret B ⟨(by rfl), rfl⟩ (by omega) (by omega) d_Mod_leaf_94
    · refine mv_iload_n B d_Mod_leaf_9 rfl 2 rfl ?_
      refine mv_if_lt (tgt := 23) B d_Mod_leaf_10 (by decide) (by omega) (fun c40 => ?_) (fun c40 => ?_)
      · refine mv_iconst (z := 0) B d_Mod_leaf_23 rfl ?_
        refine mv_goto (tgt := 54) B d_Mod_leaf_24 (by decide) ?_
        refine mv_istore (lv' := [(4, .int (iI (0))), (0, .ref r), (1, .int (iI (k))), (2, .int (iI (a))), (3, .int (iI (b)))]) B d_Mod_leaf_54 (by decide) rfl ?_
        refine mv_iload B d_Mod_leaf_56 0 rfl ?_
        refine mv_if_eq (tgt := 93) B d_Mod_leaf_58 (by decide) (by omega) (fun c41 => ?_) (fun c41 => ?_)
        · refine mv_iconst (z := -1) B d_Mod_leaf_93 rfl ?_
          rw [hQ]
          exact mv_iret B ⟨(by rfl), rfl⟩ (by omega) (by omega) d_Mod_leaf_94
        · omega
      · refine mv_iload_n B d_Mod_leaf_13 rfl 2 rfl ?_
        refine mv_bipush (z := 100) B d_Mod_leaf_14 (by decide) ?_
        refine mv_icmp_gt (tgt := 23) B d_Mod_leaf_16 (by decide) (by omega) (by omega) (fun c42 => ?_) (fun c42 => ?_)
        · refine mv_iconst (z := 0) B d_Mod_leaf_23 rfl ?_
          refine mv_goto (tgt := 54) B d_Mod_leaf_24 (by decide) ?_
          refine mv_istore (lv' := [(4, .int (iI (0))), (0, .ref r), (1, .int (iI (k))), (2, .int (iI (a))), (3, .int (iI (b)))]) B d_Mod_leaf_54 (by decide) rfl ?_
          refine mv_iload B d_Mod_leaf_56 0 rfl ?_
          refine mv_if_eq (tgt := 93) B d_Mod_leaf_58 (by decide) (by omega) (fun c43 => ?_) (fun c43 => ?_)
          · refine mv_iconst (z := -1) B d_Mod_leaf_93 rfl ?_
            rw [hQ]
            exact mv_iret B ⟨(by rfl), rfl⟩ (by omega) (by omega) d_Mod_leaf_94
          · omega
        · refine mv_iconst (z := 1) B d_Mod_leaf_19 rfl ?_
          refine mv_goto (tgt := 54) B d_Mod_leaf_20 (by decide) ?_
          refine mv_istore (lv' := [(4, .int (iI (1))), (0, .ref r), (1, .int (iI (k))), (2, .int (iI (a))), (3, .int (iI (b)))]) B d_Mod_leaf_54 (by decide) rfl ?_
          refine mv_iload B d_Mod_leaf_56 0 rfl ?_
          refine mv_if_eq (tgt := 93) B d_Mod_leaf_58 (by decide) (by omega) (fun c44 => ?_) (fun c44 => ?_)
          · omega
          · refine mv_iload_n B d_Mod_leaf_61 rfl 2 rfl ?_
            refine mv_iconst (z := 3) B d_Mod_leaf_62 rfl ?_
            refine mv_icmp_ne (tgt := 89) B d_Mod_leaf_63 (by decide) (by omega) (by omega) (fun c45 => ?_) (fun c45 => ?_)
            · refine mv_iload_n B d_Mod_leaf_89 rfl 4 rfl ?_
              refine mv_if_eq (tgt := 95) B d_Mod_leaf_90 (by decide) (by omega) (fun c46 => ?_) (fun c46 => ?_)
              · refine mv_aloadR_n B d_Mod_leaf_95 rfl 1 rfl ?_
                refine mv_iload_n B d_Mod_leaf_96 rfl 2 rfl ?_
                refine mv_iload_n B d_Mod_leaf_97 rfl 3 rfl ?_
                refine mv_iload_n B d_Mod_leaf_98 rfl 4 rfl ?_
                exact absurd (show (((k = 0 ∨ k = 2) ∧ 0 ≤ a ∧ a ≤ 100 ∧ b = 0) ∨ (k = 1 ∧ 0 ≤ a ∧ a < gn ∧ b = 0) ∨ (k = 3 ∧ 0 ≤ a ∧ a < gn ∧ F 6 a.toNat = 3 ∧ 0 ≤ b ∧ b ≤ 100)) by omega) hno
              · refine mv_iconst (z := -1) B d_Mod_leaf_93 rfl ?_
                rw [hQ]
                exact mv_iret B ⟨(by rfl), rfl⟩ (by omega) (by omega) d_Mod_leaf_94
            · refine mv_aloadR_n B d_Mod_leaf_66 rfl 1 rfl ?_
              refine gf_Mod_28 B hC.1 rfl d_Mod_leaf_67 ?_
              refine mv_iload_n B d_Mod_leaf_70 rfl 3 rfl ?_
              refine ia_ld B k1_6 (by omega) (by omega) (by omega) d_Mod_leaf_71 ?_
              have rr47 : R32 (F 6 (Int.toNat (a))) := (hC.R 6) _
              refine mv_iconst (z := 3) B d_Mod_leaf_72 rfl ?_
              refine mv_icmp_ne (tgt := 93) B d_Mod_leaf_73 (by decide) (by omega) (by omega) (fun c48 => ?_) (fun c48 => ?_)
              · refine mv_iconst (z := -1) B d_Mod_leaf_93 rfl ?_
                rw [hQ]
                exact mv_iret B ⟨(by rfl), rfl⟩ (by omega) (by omega) d_Mod_leaf_94
              · refine mv_iload_n B d_Mod_leaf_76 rfl 4 rfl ?_
                refine mv_if_lt (tgt := 93) B d_Mod_leaf_77 (by decide) (by omega) (fun c49 => ?_) (fun c49 => ?_)
                · refine mv_iconst (z := -1) B d_Mod_leaf_93 rfl ?_
                  rw [hQ]
                  exact mv_iret B ⟨(by rfl), rfl⟩ (by omega) (by omega) d_Mod_leaf_94
                · refine mv_iload_n B d_Mod_leaf_80 rfl 4 rfl ?_
                  refine mv_bipush (z := 100) B d_Mod_leaf_81 (by decide) ?_
                  refine mv_icmp_le (tgt := 95) B d_Mod_leaf_83 (by decide) (by omega) (by omega) (fun c50 => ?_) (fun c50 => ?_)
                  · refine mv_aloadR_n B d_Mod_leaf_95 rfl 1 rfl ?_
                    refine mv_iload_n B d_Mod_leaf_96 rfl 2 rfl ?_
                    refine mv_iload_n B d_Mod_leaf_97 rfl 3 rfl ?_
                    refine mv_iload_n B d_Mod_leaf_98 rfl 4 rfl ?_
                    exact absurd (show (((k = 0 ∨ k = 2) ∧ 0 ≤ a ∧ a ≤ 100 ∧ b = 0) ∨ (k = 1 ∧ 0 ≤ a ∧ a < gn ∧ b = 0) ∨ (k = 3 ∧ 0 ≤ a ∧ a < gn ∧ F 6 a.toNat = 3 ∧ 0 ≤ b ∧ b ≤ 100)) by omega) hno
                  · refine mv_goto (tgt := 93) B d_Mod_leaf_86 (by decide) ?_
                    refine mv_iconst (z := -1) B d_Mod_leaf_93 rfl ?_
                    rw [hQ]
                    exact mv_iret B ⟨(by rfl), rfl⟩ (by omega) (by omega) d_Mod_leaf_94
set_option maxRecDepth 100000 in
set_option maxHeartbeats 4000000 in
theorem mN_apply {l : Launch} {V : mv_V} {M : mv_M} {r cap lq : Nat} {A : Nat → Nat} {F : Nat → Nat → Int} {c tn gn : Int} (hC : RefC V M r A (rN cap lq) F c tn gn) (hcap : cap ≤ 1000000) {a b : Int} (hgt : (0 ≤ gn ∧ gn ≤ 100) ∧ 0 ≤ tn ∧ tn ≤ 1500) (ra : R32 a) (rb : R32 b) (hno : ¬ (0 ≤ a ∧ a < tn ∧ 0 ≤ b ∧ b < tn)) : Met l y_Mod_apply ws_Mod_apply (rM 5 0 0 170) (mv_Pre (kk V) [.ref r, .int (iI (a)), .int (iI (b))] M) (mv_Q (kk V) (mv_R (some (.int (iI (-1)))) M)) 0 0 V.2.2.2.2 := by
  refine mv_Met (by decide) rfl (Nat.le_of_ble_eq_true rfl) (fun X hX B => ?_)
  subst hX
  replace B : mv_B X (kk V) c_Mod_apply ws_Mod_apply "FamilyRulesModel" 3 (Option.some Jvm.ClassFile.FieldType.int) (rM 5 0 0 170) "apply" := B
  obtain ⟨Q, hQ⟩ : ∃ Q, Q = mv_E X (kk V) (mv_R (some (.int (iI (-1)))) M) 0 0 := ⟨_, rfl⟩
  rw [← hQ]
  show mv_G X Q (kk V) 3 0 [(0, .ref r), (1, .int (iI (a))), (2, .int (iI (b)))] [] M 0 0
  refine mv_aloadR_n B d_Mod_apply_0 rfl 0 rfl ?_
  refine mv_iload_n B d_Mod_apply_1 rfl 1 rfl ?_
  refine ca_Mod_90 (mc := 0) (ms := 0) (As := [.int (iI (a))]) (rest := []) B (m_Mod_isTerm hC hcap (i := a) (by omega) (by omega)) rfl rfl ⟨Nat.le_of_ble_eq_true rfl, Nat.le_of_ble_eq_true rfl⟩ hC.1 rfl rfl (Nat.le_of_ble_eq_true rfl) d_Mod_apply_2 ⟨by omega, by omega⟩ (mv_x ?_)
  show mv_G X Q (kk V) 3 5 [(0, .ref r), (1, .int (iI (a))), (2, .int (iI (b)))] [.int (iI (if 0 ≤ a ∧ a < tn then 1 else 0))] M 0 0
  refine mv_if_eq (tgt := 27) B d_Mod_apply_5 (by decide) (by first | omega | (split <;> omega)) (fun c2 => ?_) (fun c2 => ?_)
  · refine mv_iconst (z := -1) B d_Mod_apply_27 rfl ?_
    rw [hQ]
    exact mv_iret B ⟨(by rfl), rfl⟩ (by omega) (by omega) d_Mod_apply_28
  · have hat : 0 ≤ a ∧ a < tn := by
      apply Classical.byContradiction
      intro q
      rw [if_neg q] at c2
      omega
    refine mv_aloadR_n B d_Mod_apply_8 rfl 0 rfl ?_
    refine mv_iload_n B d_Mod_apply_9 rfl 2 rfl ?_
    refine ca_Mod_90 (mc := 0) (ms := 0) (As := [.int (iI (b))]) (rest := []) B (m_Mod_isTerm hC hcap (i := b) (by omega) (by omega)) rfl rfl ⟨Nat.le_of_ble_eq_true rfl, Nat.le_of_ble_eq_true rfl⟩ hC.1 rfl rfl (Nat.le_of_ble_eq_true rfl) d_Mod_apply_10 ⟨by omega, by omega⟩ (mv_x ?_)
    show mv_G X Q (kk V) 3 13 [(0, .ref r), (1, .int (iI (a))), (2, .int (iI (b)))] [.int (iI (if 0 ≤ b ∧ b < tn then 1 else 0))] M 0 0
    refine mv_if_eq (tgt := 27) B d_Mod_apply_13 (by decide) (by first | omega | (split <;> omega)) (fun c3 => ?_) (fun c3 => ?_)
    · refine mv_iconst (z := -1) B d_Mod_apply_27 rfl ?_
      rw [hQ]
      exact mv_iret B ⟨(by rfl), rfl⟩ (by omega) (by omega) d_Mod_apply_28
    · have hbt : 0 ≤ b ∧ b < tn := by
        apply Classical.byContradiction
        intro q
        rw [if_neg q] at c3
        omega
      refine mv_aloadR_n B d_Mod_apply_16 rfl 0 rfl ?_
      refine mv_iconst (z := 4) B d_Mod_apply_17 rfl ?_
      refine mv_iconst (z := 0) B d_Mod_apply_18 rfl ?_
      refine mv_iload_n B d_Mod_apply_19 rfl 1 rfl ?_
      refine mv_iload_n B d_Mod_apply_20 rfl 2 rfl ?_
      exact absurd (show 0 ≤ a ∧ a < tn ∧ 0 ≤ b ∧ b < tn by omega) hno
set_option maxRecDepth 100000 in
set_option maxHeartbeats 4000000 in
theorem mN_binder {l : Launch} {V : mv_V} {M : mv_M} {r cap lq : Nat} {A : Nat → Nat} {F : Nat → Nat → Int} {c tn gn : Int} (hC : RefC V M r A (rN cap lq) F c tn gn) (hcap : cap ≤ 1000000) {k v a b : Int} (hgt : (0 ≤ gn ∧ gn ≤ 100) ∧ 0 ≤ tn ∧ tn ≤ 1500) (rk : R32 k) (rv : R32 v) (ra : R32 a) (rb : R32 b) (hno : ¬ ((k = 5 ∨ k = 6) ∧ -1 ≤ v ∧ v < 100 ∧ 0 ≤ a ∧ a < tn ∧ 0 ≤ b ∧ b < tn)) : Met l y_Mod_binder ws_Mod_binder (rM 5 0 0 170) (mv_Pre (kk V) [.ref r, .int (iI (k)), .int (iI (v)), .int (iI (a)), .int (iI (b))] M) (mv_Q (kk V) (mv_R (some (.int (iI (-1)))) M)) 0 0 V.2.2.2.2 := by
  refine mv_Met (by decide) rfl (Nat.le_of_ble_eq_true rfl) (fun X hX B => ?_)
  subst hX
  replace B : mv_B X (kk V) c_Mod_binder ws_Mod_binder "FamilyRulesModel" 5 (Option.some Jvm.ClassFile.FieldType.int) (rM 5 0 0 170) "binder" := B
  obtain ⟨Q, hQ⟩ : ∃ Q, Q = mv_E X (kk V) (mv_R (some (.int (iI (-1)))) M) 0 0 := ⟨_, rfl⟩
  rw [← hQ]
  show mv_G X Q (kk V) 5 0 [(0, .ref r), (1, .int (iI (k))), (2, .int (iI (v))), (3, .int (iI (a))), (4, .int (iI (b)))] [] M 0 0
  refine mv_iload_n B d_Mod_binder_0 rfl 1 rfl ?_
  refine mv_iconst (z := 5) B d_Mod_binder_1 rfl ?_
  refine mv_icmp_eq (tgt := 11) B d_Mod_binder_2 (by decide) (by first | omega | (split <;> omega)) (by first | omega | (split <;> omega)) (fun c2 => ?_) (fun c2 => ?_)
  · refine mv_iload_n B d_Mod_binder_11 rfl 2 rfl ?_
    refine mv_iconst (z := -1) B d_Mod_binder_12 rfl ?_
    refine mv_icmp_lt (tgt := 51) B d_Mod_binder_13 (by decide) (by first | omega | (split <;> omega)) (by first | omega | (split <;> omega)) (fun c3 => ?_) (fun c3 => ?_)
    · refine mv_iconst (z := -1) B d_Mod_binder_51 rfl ?_
      rw [hQ]
      exact mv_iret B ⟨(by rfl), rfl⟩ (by omega) (by omega) d_Mod_binder_52
    · refine mv_iload_n B d_Mod_binder_16 rfl 2 rfl ?_
      refine mv_bipush (z := 100) B d_Mod_binder_17 (by decide) ?_
      refine mv_icmp_ge (tgt := 51) B d_Mod_binder_19 (by decide) (by first | omega | (split <;> omega)) (by first | omega | (split <;> omega)) (fun c4 => ?_) (fun c4 => ?_)
      · refine mv_iconst (z := -1) B d_Mod_binder_51 rfl ?_
        rw [hQ]
        exact mv_iret B ⟨(by rfl), rfl⟩ (by omega) (by omega) d_Mod_binder_52
      · refine mv_aloadR_n B d_Mod_binder_22 rfl 0 rfl ?_
        refine mv_iload_n B d_Mod_binder_23 rfl 3 rfl ?_
        refine ca_Mod_90 (mc := 0) (ms := 0) (As := [.int (iI (a))]) (rest := []) B (m_Mod_isTerm hC hcap (i := a) (by omega) (by omega)) rfl rfl ⟨Nat.le_of_ble_eq_true rfl, Nat.le_of_ble_eq_true rfl⟩ hC.1 rfl rfl (Nat.le_of_ble_eq_true rfl) d_Mod_binder_24 ⟨by omega, by omega⟩ (mv_x ?_)
        show mv_G X Q (kk V) 5 27 [(0, .ref r), (1, .int (iI (k))), (2, .int (iI (v))), (3, .int (iI (a))), (4, .int (iI (b)))] [.int (iI (if 0 ≤ a ∧ a < tn then 1 else 0))] M 0 0
        refine mv_if_eq (tgt := 51) B d_Mod_binder_27 (by decide) (by first | omega | (split <;> omega)) (fun c5 => ?_) (fun c5 => ?_)
        · refine mv_iconst (z := -1) B d_Mod_binder_51 rfl ?_
          rw [hQ]
          exact mv_iret B ⟨(by rfl), rfl⟩ (by omega) (by omega) d_Mod_binder_52
        · have hat : 0 ≤ a ∧ a < tn := by
            apply Classical.byContradiction
            intro q
            rw [if_neg q] at c5
            omega
          refine mv_aloadR_n B d_Mod_binder_30 rfl 0 rfl ?_
          refine mv_iload B d_Mod_binder_31 4 rfl ?_
          refine ca_Mod_90 (mc := 0) (ms := 0) (As := [.int (iI (b))]) (rest := []) B (m_Mod_isTerm hC hcap (i := b) (by omega) (by omega)) rfl rfl ⟨Nat.le_of_ble_eq_true rfl, Nat.le_of_ble_eq_true rfl⟩ hC.1 rfl rfl (Nat.le_of_ble_eq_true rfl) d_Mod_binder_33 ⟨by omega, by omega⟩ (mv_x ?_)
          show mv_G X Q (kk V) 5 36 [(0, .ref r), (1, .int (iI (k))), (2, .int (iI (v))), (3, .int (iI (a))), (4, .int (iI (b)))] [.int (iI (if 0 ≤ b ∧ b < tn then 1 else 0))] M 0 0
          refine mv_if_eq (tgt := 51) B d_Mod_binder_36 (by decide) (by first | omega | (split <;> omega)) (fun c6 => ?_) (fun c6 => ?_)
          · refine mv_iconst (z := -1) B d_Mod_binder_51 rfl ?_
            rw [hQ]
            exact mv_iret B ⟨(by rfl), rfl⟩ (by omega) (by omega) d_Mod_binder_52
          · have hbt : 0 ≤ b ∧ b < tn := by
              apply Classical.byContradiction
              intro q
              rw [if_neg q] at c6
              omega
            refine mv_aloadR_n B d_Mod_binder_39 rfl 0 rfl ?_
            refine mv_iload_n B d_Mod_binder_40 rfl 1 rfl ?_
            refine mv_iload_n B d_Mod_binder_41 rfl 2 rfl ?_
            refine mv_iload_n B d_Mod_binder_42 rfl 3 rfl ?_
            refine mv_iload B d_Mod_binder_43 4 rfl ?_
            exact absurd (show (k = 5 ∨ k = 6) ∧ -1 ≤ v ∧ v < 100 ∧ 0 ≤ a ∧ a < tn ∧ 0 ≤ b ∧ b < tn by omega) hno
  · refine mv_iload_n B d_Mod_binder_5 rfl 1 rfl ?_
    refine mv_bipush (z := 6) B d_Mod_binder_6 (by decide) ?_
    refine mv_icmp_ne (tgt := 51) B d_Mod_binder_8 (by decide) (by first | omega | (split <;> omega)) (by first | omega | (split <;> omega)) (fun c7 => ?_) (fun c7 => ?_)
    · refine mv_iconst (z := -1) B d_Mod_binder_51 rfl ?_
      rw [hQ]
      exact mv_iret B ⟨(by rfl), rfl⟩ (by omega) (by omega) d_Mod_binder_52
    · refine mv_iload_n B d_Mod_binder_11 rfl 2 rfl ?_
      refine mv_iconst (z := -1) B d_Mod_binder_12 rfl ?_
      refine mv_icmp_lt (tgt := 51) B d_Mod_binder_13 (by decide) (by first | omega | (split <;> omega)) (by first | omega | (split <;> omega)) (fun c8 => ?_) (fun c8 => ?_)
      · refine mv_iconst (z := -1) B d_Mod_binder_51 rfl ?_
        rw [hQ]
        exact mv_iret B ⟨(by rfl), rfl⟩ (by omega) (by omega) d_Mod_binder_52
      · refine mv_iload_n B d_Mod_binder_16 rfl 2 rfl ?_
        refine mv_bipush (z := 100) B d_Mod_binder_17 (by decide) ?_
        refine mv_icmp_ge (tgt := 51) B d_Mod_binder_19 (by decide) (by first | omega | (split <;> omega)) (by first | omega | (split <;> omega)) (fun c9 => ?_) (fun c9 => ?_)
        · refine mv_iconst (z := -1) B d_Mod_binder_51 rfl ?_
          rw [hQ]
          exact mv_iret B ⟨(by rfl), rfl⟩ (by omega) (by omega) d_Mod_binder_52
        · refine mv_aloadR_n B d_Mod_binder_22 rfl 0 rfl ?_
          refine mv_iload_n B d_Mod_binder_23 rfl 3 rfl ?_
          refine ca_Mod_90 (mc := 0) (ms := 0) (As := [.int (iI (a))]) (rest := []) B (m_Mod_isTerm hC hcap (i := a) (by omega) (by omega)) rfl rfl ⟨Nat.le_of_ble_eq_true rfl, Nat.le_of_ble_eq_true rfl⟩ hC.1 rfl rfl (Nat.le_of_ble_eq_true rfl) d_Mod_binder_24 ⟨by omega, by omega⟩ (mv_x ?_)
          show mv_G X Q (kk V) 5 27 [(0, .ref r), (1, .int (iI (k))), (2, .int (iI (v))), (3, .int (iI (a))), (4, .int (iI (b)))] [.int (iI (if 0 ≤ a ∧ a < tn then 1 else 0))] M 0 0
          refine mv_if_eq (tgt := 51) B d_Mod_binder_27 (by decide) (by first | omega | (split <;> omega)) (fun c10 => ?_) (fun c10 => ?_)
          · refine mv_iconst (z := -1) B d_Mod_binder_51 rfl ?_
            rw [hQ]
            exact mv_iret B ⟨(by rfl), rfl⟩ (by omega) (by omega) d_Mod_binder_52
          · have hat : 0 ≤ a ∧ a < tn := by
              apply Classical.byContradiction
              intro q
              rw [if_neg q] at c10
              omega
            refine mv_aloadR_n B d_Mod_binder_30 rfl 0 rfl ?_
            refine mv_iload B d_Mod_binder_31 4 rfl ?_
            refine ca_Mod_90 (mc := 0) (ms := 0) (As := [.int (iI (b))]) (rest := []) B (m_Mod_isTerm hC hcap (i := b) (by omega) (by omega)) rfl rfl ⟨Nat.le_of_ble_eq_true rfl, Nat.le_of_ble_eq_true rfl⟩ hC.1 rfl rfl (Nat.le_of_ble_eq_true rfl) d_Mod_binder_33 ⟨by omega, by omega⟩ (mv_x ?_)
            show mv_G X Q (kk V) 5 36 [(0, .ref r), (1, .int (iI (k))), (2, .int (iI (v))), (3, .int (iI (a))), (4, .int (iI (b)))] [.int (iI (if 0 ≤ b ∧ b < tn then 1 else 0))] M 0 0
            refine mv_if_eq (tgt := 51) B d_Mod_binder_36 (by decide) (by first | omega | (split <;> omega)) (fun c11 => ?_) (fun c11 => ?_)
            · refine mv_iconst (z := -1) B d_Mod_binder_51 rfl ?_
              rw [hQ]
              exact mv_iret B ⟨(by rfl), rfl⟩ (by omega) (by omega) d_Mod_binder_52
            · have hbt : 0 ≤ b ∧ b < tn := by
                apply Classical.byContradiction
                intro q
                rw [if_neg q] at c11
                omega
              refine mv_aloadR_n B d_Mod_binder_39 rfl 0 rfl ?_
              refine mv_iload_n B d_Mod_binder_40 rfl 1 rfl ?_
              refine mv_iload_n B d_Mod_binder_41 rfl 2 rfl ?_
              refine mv_iload_n B d_Mod_binder_42 rfl 3 rfl ?_
              refine mv_iload B d_Mod_binder_43 4 rfl ?_
              exact absurd (show (k = 5 ∨ k = 6) ∧ -1 ≤ v ∧ v < 100 ∧ 0 ≤ a ∧ a < tn ∧ 0 ≤ b ∧ b < tn by omega) hno
set_option maxRecDepth 100000 in
set_option maxHeartbeats 4000000 in
theorem mN_size {l : Launch} {V : mv_V} {M : mv_M} {r cap lq : Nat} {A : Nat → Nat} {F : Nat → Nat → Int} {c tn gn : Int} (hC : RefC V M r A (rN cap lq) F c tn gn) (hcap : cap ≤ 1000000) {g : Int} (hgt : (0 ≤ gn ∧ gn ≤ 100) ∧ 0 ≤ tn ∧ tn ≤ 1500) (rg : R32 g) (hco : ∀ k : Nat, (k : Int) < gn → F 6 k = 3 → 0 ≤ F 11 k ∧ (k : Int) + 1 + F 11 k ≤ gn) (hno : ¬ whR F gn g) : Met l y_Mod_size ws_Mod_size (rM 9 0 0 320) (mv_Pre (kk V) [.ref r, .int (iI (g))] M) (mv_Q (kk V) (mv_R (some (.int (iI (-1)))) M)) 0 0 V.2.2.2.2 := by
  refine mv_Met (by decide) rfl (Nat.le_of_ble_eq_true rfl) (fun X hX B => ?_)
  subst hX
  replace B : mv_B X (kk V) c_Mod_size ws_Mod_size "FamilyRulesModel" 4 (Option.some Jvm.ClassFile.FieldType.int) (rM 9 0 0 320) "size" := B
  obtain ⟨Q, hQ⟩ : ∃ Q, Q = mv_E X (kk V) (mv_R (some (.int (iI (-1)))) M) 0 0 := ⟨_, rfl⟩
  rw [← hQ]
  show mv_G X Q (kk V) 4 0 [(0, .ref r), (1, .int (iI (g)))] [] M 0 0
  refine mv_aloadR_n B d_Mod_size_0 rfl 0 rfl ?_
  refine mv_iload_n B d_Mod_size_1 rfl 1 rfl ?_
  refine ca_Mod_162 (mc := 0) (ms := 0) (As := [.int (iI (g))]) (rest := []) B (m_Mod_isWhole hC hcap (g := g) rg hgt.1 hco) rfl rfl ⟨Nat.le_of_ble_eq_true rfl, Nat.le_of_ble_eq_true rfl⟩ hC.1 rfl rfl (Nat.le_of_ble_eq_true rfl) d_Mod_size_2 ⟨by omega, by omega⟩ (mv_x ?_)
  show mv_G X Q (kk V) 4 5 [(0, .ref r), (1, .int (iI (g)))] [.int (iI (if whR F gn g then 1 else 0))] M 0 0
  refine mv_if_ne (tgt := 10) B d_Mod_size_5 (by decide) (by first | omega | (split <;> omega)) (fun c2 => ?_) (fun c2 => ?_)
  · have hwt : whR F gn g := by
      apply Classical.byContradiction
      intro q
      rw [if_neg q] at c2
      omega
    refine mv_aloadR_n B d_Mod_size_10 rfl 0 rfl ?_
    refine gf_Mod_55 B hC.1 rfl d_Mod_size_11 ?_
    refine mv_istore_n (lv' := [(2, .int (iI (c))), (0, .ref r), (1, .int (iI (g)))]) B d_Mod_size_14 rfl (by decide) rfl ?_
    refine mv_aloadR_n B d_Mod_size_15 rfl 1 rfl ?_
    refine mv_iload_n B d_Mod_size_16 rfl 2 rfl ?_
    refine mv_iconst (z := 0) B d_Mod_size_17 rfl ?_
    exact absurd (hwt) hno
  · refine mv_iconst (z := -1) B d_Mod_size_8 rfl ?_
    rw [hQ]
    exact mv_iret B ⟨(by rfl), rfl⟩ (by omega) (by omega) d_Mod_size_9
set_option maxRecDepth 100000 in
set_option maxHeartbeats 4000000 in
theorem mN_type {l : Launch} {V : mv_V} {M : mv_M} {r cap lq : Nat} {A : Nat → Nat} {F : Nat → Nat → Int} {c tn gn : Int} (hC : RefC V M r A (rN cap lq) F c tn gn) (hcap : cap ≤ 1000000) {g s : Int} (hgt : (0 ≤ gn ∧ gn ≤ 100) ∧ 0 ≤ tn ∧ tn ≤ 1500) (rg : R32 g) (rs : R32 s) (hco : ∀ k : Nat, (k : Int) < gn → F 6 k = 3 → 0 ≤ F 11 k ∧ (k : Int) + 1 + F 11 k ≤ gn) (hno : ¬ (whR F gn g ∧ 0 ≤ s ∧ s ≤ 100)) : Met l y_Mod_type ws_Mod_type (rM 9 0 0 320) (mv_Pre (kk V) [.ref r, .int (iI (g)), .int (iI (s))] M) (mv_Q (kk V) (mv_R (some (.int (iI (-1)))) M)) 0 0 V.2.2.2.2 := by
  refine mv_Met (by decide) rfl (Nat.le_of_ble_eq_true rfl) (fun X hX B => ?_)
  subst hX
  replace B : mv_B X (kk V) c_Mod_type ws_Mod_type "FamilyRulesModel" 4 (Option.some Jvm.ClassFile.FieldType.int) (rM 9 0 0 320) "type" := B
  obtain ⟨Q, hQ⟩ : ∃ Q, Q = mv_E X (kk V) (mv_R (some (.int (iI (-1)))) M) 0 0 := ⟨_, rfl⟩
  rw [← hQ]
  show mv_G X Q (kk V) 4 0 [(0, .ref r), (1, .int (iI (g))), (2, .int (iI (s)))] [] M 0 0
  refine mv_aloadR_n B d_Mod_type_0 rfl 0 rfl ?_
  refine mv_iload_n B d_Mod_type_1 rfl 1 rfl ?_
  refine ca_Mod_162 (mc := 0) (ms := 0) (As := [.int (iI (g))]) (rest := []) B (m_Mod_isWhole hC hcap (g := g) rg hgt.1 hco) rfl rfl ⟨Nat.le_of_ble_eq_true rfl, Nat.le_of_ble_eq_true rfl⟩ hC.1 rfl rfl (Nat.le_of_ble_eq_true rfl) d_Mod_type_2 ⟨by omega, by omega⟩ (mv_x ?_)
  show mv_G X Q (kk V) 4 5 [(0, .ref r), (1, .int (iI (g))), (2, .int (iI (s)))] [.int (iI (if whR F gn g then 1 else 0))] M 0 0
  refine mv_if_eq (tgt := 18) B d_Mod_type_5 (by decide) (by first | omega | (split <;> omega)) (fun c2 => ?_) (fun c2 => ?_)
  · refine mv_iconst (z := -1) B d_Mod_type_18 rfl ?_
    rw [hQ]
    exact mv_iret B ⟨(by rfl), rfl⟩ (by omega) (by omega) d_Mod_type_19
  · have hwt : whR F gn g := by
      apply Classical.byContradiction
      intro q
      rw [if_neg q] at c2
      omega
    refine mv_iload_n B d_Mod_type_8 rfl 2 rfl ?_
    refine mv_if_lt (tgt := 18) B d_Mod_type_9 (by decide) (by first | omega | (split <;> omega)) (fun c3 => ?_) (fun c3 => ?_)
    · refine mv_iconst (z := -1) B d_Mod_type_18 rfl ?_
      rw [hQ]
      exact mv_iret B ⟨(by rfl), rfl⟩ (by omega) (by omega) d_Mod_type_19
    · refine mv_iload_n B d_Mod_type_12 rfl 2 rfl ?_
      refine mv_bipush (z := 100) B d_Mod_type_13 (by decide) ?_
      refine mv_icmp_le (tgt := 20) B d_Mod_type_15 (by decide) (by first | omega | (split <;> omega)) (by first | omega | (split <;> omega)) (fun c4 => ?_) (fun c4 => ?_)
      · refine mv_aloadR_n B d_Mod_type_20 rfl 0 rfl ?_
        refine gf_Mod_55 B hC.1 rfl d_Mod_type_21 ?_
        refine mv_istore_n (lv' := [(3, .int (iI (c))), (0, .ref r), (1, .int (iI (g))), (2, .int (iI (s)))]) B d_Mod_type_24 rfl (by decide) rfl ?_
        refine mv_aloadR_n B d_Mod_type_25 rfl 1 rfl ?_
        refine mv_iload_n B d_Mod_type_26 rfl 2 rfl ?_
        refine mv_iload_n B d_Mod_type_27 rfl 3 rfl ?_
        exact absurd (⟨hwt, by omega, by omega⟩) hno
      · refine mv_iconst (z := -1) B d_Mod_type_18 rfl ?_
        rw [hQ]
        exact mv_iret B ⟨(by rfl), rfl⟩ (by omega) (by omega) d_Mod_type_19
set_option maxRecDepth 100000 in
set_option maxHeartbeats 4000000 in
theorem mN_brings {l : Launch} {V : mv_V} {M : mv_M} {r cap lq : Nat} {A : Nat → Nat} {F : Nat → Nat → Int} {c tn gn : Int} (hC : RefC V M r A (rN cap lq) F c tn gn) (hcap : cap ≤ 1000000) {g k : Int} (hgt : (0 ≤ gn ∧ gn ≤ 100) ∧ 0 ≤ tn ∧ tn ≤ 1500) (rg : R32 g) (rk : R32 k) (hno : 0 ≤ g ∧ g < gn ∧ F 6 g.toNat = 4 ∧ ¬ F 7 g.toNat = -1 ∧ 0 ≤ k → ∃ (xs : List Nd) (b d np ni n : Nat), seF F b xs ∧ b + xs.length ≤ cap ∧ Told xs ((d : Nat) : Int) np ni n ∧ (∀ j, j < n → jdS xs ((d : Nat) : Int) np ni (rtS xs np j) ((np + j : Nat) : Int) ≠ 0) ∧ d < 100 ∧ F 7 g.toNat = ((b : Nat) : Int) ∧ F 8 g.toNat = ((d : Nat) : Int) ∧ F 9 g.toNat = ((np : Nat) : Int) ∧ F 9 d = ((np : Nat) : Int) ∧ F 10 d = ((ni : Nat) : Int) ∧ F 10 g.toNat = ((n : Nat) : Int) ∧ np ≤ 1000 ∧ ni ≤ 1000 ∧ n ≤ 1000 ∧ ((cnB (rcS xs ((d : Nat) : Int) np ni) n : Nat) : Int) ≤ k) : Met l y_Mod_brings ws_Mod_brings (rM 7 0 0 240) (mv_Pre (kk V) [.ref r, .int (iI (g)), .int (iI (k))] M) (mv_Q (kk V) (mv_R (some (.int (iI (-1)))) M)) 0 0 V.2.2.2.2 := by
  refine mv_Met (by decide) rfl (Nat.le_of_ble_eq_true rfl) (fun X hX B => ?_)
  subst hX
  replace B : mv_B X (kk V) c_Mod_brings ws_Mod_brings "FamilyRulesModel" 7 (Option.some Jvm.ClassFile.FieldType.int) (rM 7 0 0 240) "brings" := B
  obtain ⟨Q, hQ⟩ : ∃ Q, Q = mv_E X (kk V) (mv_R (some (.int (iI (-1)))) M) 0 0 := ⟨_, rfl⟩
  rw [← hQ]
  show mv_G X Q (kk V) 7 0 [(0, .ref r), (1, .int (iI (g))), (2, .int (iI (k)))] [] M 0 0
  have k1_6 : M (A 6) = some (iA V (100) (F 6)) := hC.2.1 6 (by decide)
  have k1_7 : M (A 7) = some (iA V (100) (F 7)) := hC.2.1 7 (by decide)
  have k1_9 : M (A 9) = some (iA V (100) (F 9)) := hC.2.1 9 (by decide)
  have k1_10 : M (A 10) = some (iA V (100) (F 10)) := hC.2.1 10 (by decide)
  refine mv_iload_n B d_Mod_brings_0 rfl 1 rfl ?_
  refine mv_if_lt (tgt := 36) B d_Mod_brings_1 (by decide) (by first | omega | (split <;> omega)) (fun c2 => ?_) (fun c2 => ?_)
  · refine mv_iconst (z := -1) B d_Mod_brings_36 rfl ?_
    rw [hQ]
    exact mv_iret B ⟨(by rfl), rfl⟩ (by omega) (by omega) d_Mod_brings_37
  · refine mv_iload_n B d_Mod_brings_4 rfl 1 rfl ?_
    refine mv_aloadR_n B d_Mod_brings_5 rfl 0 rfl ?_
    refine gf_Mod_81 B hC.1 rfl d_Mod_brings_6 ?_
    refine mv_icmp_ge (tgt := 36) B d_Mod_brings_9 (by decide) (by first | omega | (split <;> omega)) (by first | omega | (split <;> omega)) (fun c3 => ?_) (fun c3 => ?_)
    · refine mv_iconst (z := -1) B d_Mod_brings_36 rfl ?_
      rw [hQ]
      exact mv_iret B ⟨(by rfl), rfl⟩ (by omega) (by omega) d_Mod_brings_37
    · refine mv_aloadR_n B d_Mod_brings_12 rfl 0 rfl ?_
      refine gf_Mod_28 B hC.1 rfl d_Mod_brings_13 ?_
      refine mv_iload_n B d_Mod_brings_16 rfl 1 rfl ?_
      refine ia_ld B k1_6 (by first | omega | (split <;> omega)) (by omega) (by omega) d_Mod_brings_17 ?_
      have rr4 : R32 (F 6 (Int.toNat (g))) := (hC.R 6) _
      refine mv_iconst (z := 4) B d_Mod_brings_18 rfl ?_
      refine mv_icmp_ne (tgt := 36) B d_Mod_brings_19 (by decide) (by first | omega | (split <;> omega)) (by first | omega | (split <;> omega)) (fun c5 => ?_) (fun c5 => ?_)
      · refine mv_iconst (z := -1) B d_Mod_brings_36 rfl ?_
        rw [hQ]
        exact mv_iret B ⟨(by rfl), rfl⟩ (by omega) (by omega) d_Mod_brings_37
      · refine mv_aloadR_n B d_Mod_brings_22 rfl 0 rfl ?_
        refine gf_Mod_31 B hC.1 rfl d_Mod_brings_23 ?_
        refine mv_iload_n B d_Mod_brings_26 rfl 1 rfl ?_
        refine ia_ld B k1_7 (by first | omega | (split <;> omega)) (by omega) (by omega) d_Mod_brings_27 ?_
        have rr6 : R32 (F 7 (Int.toNat (g))) := (hC.R 7) _
        refine mv_iconst (z := -1) B d_Mod_brings_28 rfl ?_
        refine mv_icmp_eq (tgt := 36) B d_Mod_brings_29 (by decide) (by first | omega | (split <;> omega)) (by first | omega | (split <;> omega)) (fun c7 => ?_) (fun c7 => ?_)
        · refine mv_iconst (z := -1) B d_Mod_brings_36 rfl ?_
          rw [hQ]
          exact mv_iret B ⟨(by rfl), rfl⟩ (by omega) (by omega) d_Mod_brings_37
        · refine mv_iload_n B d_Mod_brings_32 rfl 2 rfl ?_
          refine mv_if_ge (tgt := 38) B d_Mod_brings_33 (by decide) (by first | omega | (split <;> omega)) (fun c8 => ?_) (fun c8 => ?_)
          · obtain ⟨xs, b, d, np, ni, n, b1, b2, b3, b4, b5, b6, b7, b8, b9, b10, b11, b12, b13, b14, b15⟩ := hno (by omega)
            have hm7 := fun j => cnB_le (rcS xs ((d : Nat) : Int) np ni) j
            rw [show iI g = iI ((g.toNat : Nat) : Int) by rw [show ((g.toNat : Nat) : Int) = g by omega]]
            refine mv_iconst (z := -1) B d_Mod_brings_38 rfl ?_
            refine mv_istore_n (lv' := [(3, .int (iI (-1))), (0, .ref r), (1, .int (iI (((g.toNat : Nat) : Int)))), (2, .int (iI (k)))]) B d_Mod_brings_39 rfl (by decide) rfl ?_
            refine mv_iload_n B d_Mod_brings_40 rfl 3 rfl ?_
            refine mv_istore (lv' := [(4, .int (iI (k))), (3, .int (iI (-1))), (0, .ref r), (1, .int (iI (((g.toNat : Nat) : Int)))), (2, .int (iI (k)))]) B d_Mod_brings_41 (by decide) rfl ?_
            refine mv_iconst (z := 0) B d_Mod_brings_43 rfl ?_
            refine mv_istore (lv' := [(5, .int (iI (0))), (4, .int (iI (k))), (3, .int (iI (-1))), (0, .ref r), (1, .int (iI (((g.toNat : Nat) : Int)))), (2, .int (iI (k)))]) B d_Mod_brings_44 (by decide) rfl ?_
            have L46 : ∀ (fu : Nat) (z : Nat), (z ≤ n) → (n - z) < fu → mv_G X Q (kk V) 7 46 [(5, .int (iI ((z : Nat)))), (4, .int (iI (k - ((cnB (rcS xs ((d : Nat) : Int) np ni) z : Nat) : Int)))), (3, .int (iI (-1))), (0, .ref r), (1, .int (iI (((g.toNat : Nat) : Int)))), (2, .int (iI (k)))] [] M 0 0 := by
              intro fu
              induction fu with
              | zero => intro z hz hm; exact absurd hm (Nat.not_lt_zero _)
              | succ fu ih46 =>
                intro z hz hm
                refine mv_iload B d_Mod_brings_46 0 rfl ?_
                refine mv_aloadR_n B d_Mod_brings_48 rfl 3 rfl ?_
                refine gf_Mod_40 B hC.1 rfl d_Mod_brings_49 ?_
                refine mv_iload_n B d_Mod_brings_52 rfl 4 rfl ?_
                refine ia_ld B k1_10 (by first | omega | (split <;> omega)) (by omega) (by omega) d_Mod_brings_53 ?_
                have rr9 : R32 (F 10 (Int.toNat (((g.toNat : Nat) : Int)))) := (hC.R 10) _
                rw [show F 10 (Int.toNat (((g.toNat : Nat) : Int))) = ((n : Nat) : Int) from by rw [Int.toNat_natCast]; exact b11]
                have hmz := cnB_le (rcS xs ((d : Nat) : Int) np ni) z
                refine mv_icmp_ge (tgt := 92) B d_Mod_brings_54 (by decide) (by first | omega | (split <;> omega)) (by first | omega | (split <;> omega)) (fun c10 => ?_) (fun c10 => ?_)
                · refine mv_iload_n B d_Mod_brings_92 rfl 2 rfl ?_
                  refine mv_if_ge (tgt := 98) B d_Mod_brings_93 (by decide) (by first | omega | (split <;> omega)) (fun c11 => ?_) (fun c11 => ?_)
                  · omega
                  · refine mv_iconst (z := -1) B d_Mod_brings_96 rfl ?_
                    rw [hQ]
                    exact mv_iret B ⟨(by rfl), rfl⟩ (by omega) (by omega) d_Mod_brings_97
                · refine mv_iload_n B d_Mod_brings_57 rfl 2 rfl ?_
                  refine mv_if_ge (tgt := 92) B d_Mod_brings_58 (by decide) (by first | omega | (split <;> omega)) (fun c12 => ?_) (fun c12 => ?_)
                  · omega
                  · refine mv_aloadR_n B d_Mod_brings_61 rfl 3 rfl ?_
                    refine mv_iload_n B d_Mod_brings_62 rfl 4 rfl ?_
                    refine mv_iload B d_Mod_brings_63 0 rfl ?_
                    refine ca_Mod_140 (mc := 0) (ms := 0) (As := [.int (iI (((g.toNat : Nat) : Int))), .int (iI ((z : Nat)))]) (rest := []) B (mW_isRec hC hcap b1 b2 b3 b4 (g := g.toNat) (by omega) b5 b6 b7 b8 b9 b10 (by omega) (jx := z) (by omega)) rfl rfl ⟨Nat.le_of_ble_eq_true rfl, Nat.le_of_ble_eq_true rfl⟩ hC.1 rfl rfl (Nat.le_of_ble_eq_true rfl) d_Mod_brings_65 ⟨by omega, by omega⟩ (mv_x ?_)
                    show mv_G X Q (kk V) 7 68 [(5, .int (iI ((z : Nat)))), (4, .int (iI (k - ((cnB (rcS xs ((d : Nat) : Int) np ni) z : Nat) : Int)))), (3, .int (iI (-1))), (0, .ref r), (1, .int (iI (((g.toNat : Nat) : Int)))), (2, .int (iI (k)))] [.int (iI (if rcS xs ((d : Nat) : Int) np ni z = true then 1 else 0))] M 0 0
                    refine mv_if_eq (tgt := 86) B d_Mod_brings_68 (by decide) (by first | omega | (split <;> omega)) (fun c13 => ?_) (fun c13 => ?_)
                    · have hr : rcS xs ((d : Nat) : Int) np ni z = false := by
                        apply Bool.eq_false_iff.mpr
                        intro q
                        rw [if_pos q] at c13
                        omega
                      refine mv_iinc (lv' := [(5, .int (iI ((z : Nat) + 1))), (4, .int (iI (k - ((cnB (rcS xs ((d : Nat) : Int) np ni) z : Nat) : Int)))), (3, .int (iI (-1))), (0, .ref r), (1, .int (iI (((g.toNat : Nat) : Int)))), (2, .int (iI (k)))]) B d_Mod_brings_86 0 rfl (by decide) rfl ?_
                      refine mv_goto (tgt := 46) B d_Mod_brings_89 (by decide) ?_
                      refine mv_lv (lv' := [(5, .int (iI (((z + 1) : Nat)))), (4, .int (iI (k - ((cnB (rcS xs ((d : Nat) : Int) np ni) (z + 1) : Nat) : Int)))), (3, .int (iI (-1))), (0, .ref r), (1, .int (iI (((g.toNat : Nat) : Int)))), (2, .int (iI (k)))]) [0, 1, 2, 3, 4, 5] (lc (lI (by first | rfl | omega)) (lc (lI (by simp only [cnB]; first | (rw [if_pos hr]; omega) | (rw [if_neg (by rw [hr]; simp)]; omega))) (lc rfl (lc rfl (lc rfl (lc rfl rfl)))))) ?_
                      exact ih46 (z + 1) (by omega) (by omega)
                    · have hr : rcS xs ((d : Nat) : Int) np ni z = true := by
                        apply Classical.byContradiction
                        intro q
                        rw [if_neg q] at c13
                        omega
                      have hm9 := cnB_m (rcS xs ((d : Nat) : Int) np ni) (show z + 1 ≤ n by omega)
                      simp only [cnB] at hm9
                      rw [if_pos hr] at hm9
                      have hm8 := cnB_le (rcS xs ((d : Nat) : Int) np ni) z
                      refine mv_iload B d_Mod_brings_71 1 rfl ?_
                      refine mv_if_ne (tgt := 81) B d_Mod_brings_73 (by decide) (by first | omega | (split <;> omega)) (fun c14 => ?_) (fun c14 => ?_)
                      · refine mv_iconst (z := -1) B d_Mod_brings_81 rfl ?_
                        refine mv_istore_n (lv' := [(3, .int (iI (-1))), (5, .int (iI ((z : Nat)))), (4, .int (iI (k - ((cnB (rcS xs ((d : Nat) : Int) np ni) z : Nat) : Int)))), (0, .ref r), (1, .int (iI (((g.toNat : Nat) : Int)))), (2, .int (iI (k)))]) B d_Mod_brings_82 rfl (by decide) rfl ?_
                        refine mv_iinc (lv' := [(4, .int (iI ((k - ((cnB (rcS xs ((d : Nat) : Int) np ni) z : Nat) : Int)) + (-1)))), (3, .int (iI (-1))), (5, .int (iI ((z : Nat)))), (0, .ref r), (1, .int (iI (((g.toNat : Nat) : Int)))), (2, .int (iI (k)))]) B d_Mod_brings_83 2 rfl (by decide) rfl ?_
                        refine mv_iinc (lv' := [(5, .int (iI ((z : Nat) + 1))), (4, .int (iI ((k - ((cnB (rcS xs ((d : Nat) : Int) np ni) z : Nat) : Int)) + (-1)))), (3, .int (iI (-1))), (0, .ref r), (1, .int (iI (((g.toNat : Nat) : Int)))), (2, .int (iI (k)))]) B d_Mod_brings_86 2 rfl (by decide) rfl ?_
                        refine mv_goto (tgt := 46) B d_Mod_brings_89 (by decide) ?_
                        refine mv_lv (lv' := [(5, .int (iI (((z + 1) : Nat)))), (4, .int (iI (k - ((cnB (rcS xs ((d : Nat) : Int) np ni) (z + 1) : Nat) : Int)))), (3, .int (iI (-1))), (0, .ref r), (1, .int (iI (((g.toNat : Nat) : Int)))), (2, .int (iI (k)))]) [0, 1, 2, 3, 4, 5] (lc (lI (by first | rfl | omega)) (lc (lI (by simp only [cnB]; first | (rw [if_pos hr]; omega) | (rw [if_neg (by rw [hr]; simp)]; omega))) (lc rfl (lc rfl (lc rfl (lc rfl rfl)))))) ?_
                        exact ih46 (z + 1) (by omega) (by omega)
                      · omega
            refine mv_lv (lv' := [(5, .int (iI ((0 : Nat)))), (4, .int (iI (k - ((cnB (rcS xs ((d : Nat) : Int) np ni) 0 : Nat) : Int)))), (3, .int (iI (-1))), (0, .ref r), (1, .int (iI (((g.toNat : Nat) : Int)))), (2, .int (iI (k)))]) [0, 1, 2, 3, 4, 5] (lc (lI (by first | rfl | omega)) (lc (lI (by simp [cnB])) (lc rfl (lc rfl (lc rfl (lc rfl rfl)))))) ?_
            exact L46 _ 0 (by omega) (Nat.lt_succ_self _)
          · refine mv_iconst (z := -1) B d_Mod_brings_36 rfl ?_
            rw [hQ]
            exact mv_iret B ⟨(by rfl), rfl⟩ (by omega) (by omega) d_Mod_brings_37
