/-! the reference: about, part, isWhole, argument -/
def abR (F : Nat → Nat → Int) (gn g w : Int) : Int := if ¬ (0 ≤ g ∧ g < gn ∧ 0 ≤ w ∧ w ≤ 3) then -1 else if w = 0 then F 6 g.toNat else if w = 1 then F 9 g.toNat else if w = 2 then F 10 g.toNat else if F 6 g.toNat = 4 then g - F 8 g.toNat - 1 else F 11 g.toNat
def ptR (F : Nat → Nat → Int) (tn i j w : Int) : Int := if ¬ (0 ≤ i ∧ i < tn ∧ 0 ≤ j ∧ j < F 3 (F 5 i.toNat).toNat ∧ 0 ≤ w ∧ w ≤ 3) then -1 else if w = 0 then F 0 (F 5 i.toNat + j).toNat else if w = 1 then F 1 (F 5 i.toNat + j).toNat else if w = 2 then F 2 (F 5 i.toNat + j).toNat else F 3 (F 5 i.toNat + j).toNat
abbrev whR (F : Nat → Nat → Int) (gn g : Int) : Prop := 0 ≤ g ∧ g < gn ∧ F 6 g.toNat = 3 ∧ wlB F g.toNat (F 11 g.toNat).toNat = true
set_option maxRecDepth 100000 in
set_option maxHeartbeats 4000000 in
theorem m_Mod_about {l : Launch} {V : mv_V} {M : mv_M} {r cap lq : Nat} {A : Nat → Nat} {F : Nat → Nat → Int} {c tn gn : Int} (hC : RefC V M r A (rN cap lq) F c tn gn) (hcap : cap ≤ 1000000) {g w : Int} (rg : R32 g) (rw : R32 w) (hg : 0 ≤ gn ∧ gn ≤ 100) : Met l y_Mod_about ws_Mod_about (rM 0 0 0 0) (mv_Pre (kk V) [.ref r, .int (iI (g)), .int (iI (w))] M) (mv_Q (kk V) (mv_R (some (.int (iI (abR F gn g w)))) M)) 0 0 V.2.2.2.2 := by
  refine mv_Met (by decide) rfl (Nat.le_of_ble_eq_true rfl) (fun X hX B => ?_)
  subst hX
  replace B : mv_B X (kk V) c_Mod_about ws_Mod_about "FamilyRulesModel" 3 (Option.some Jvm.ClassFile.FieldType.int) (rM 0 0 0 0) "about" := B
  obtain ⟨Q, hQ⟩ : ∃ Q, Q = mv_E X (kk V) (mv_R (some (.int (iI (abR F gn g w)))) M) 0 0 := ⟨_, rfl⟩
  rw [← hQ]
  show mv_G X Q (kk V) 3 0 [(0, .ref r), (1, .int (iI (g))), (2, .int (iI (w)))] [] M 0 0
  have k1_6 : M (A 6) = some (iA V (100) (F 6)) := hC.2.1 6 (by decide)
  have k1_8 : M (A 8) = some (iA V (100) (F 8)) := hC.2.1 8 (by decide)
  have k1_9 : M (A 9) = some (iA V (100) (F 9)) := hC.2.1 9 (by decide)
  have k1_10 : M (A 10) = some (iA V (100) (F 10)) := hC.2.1 10 (by decide)
  have k1_11 : M (A 11) = some (iA V (100) (F 11)) := hC.2.1 11 (by decide)
  refine mv_iload_n B d_Mod_about_0 rfl 1 rfl ?_
  refine mv_if_lt (tgt := 21) B d_Mod_about_1 (by decide) (by omega) (fun c2 => ?_) (fun c2 => ?_)
  · refine mv_iconst (z := -1) B d_Mod_about_21 rfl ?_
    rw [hQ]
    exact mv_iret B ⟨by unfold abR; first | (rw [if_pos (by omega)]; done) | (rw [if_neg (by omega)]; first | done | (rw [if_pos (by omega)]; done) | (rw [if_neg (by omega)]; first | done | (rw [if_pos (by omega)]; done) | (rw [if_neg (by omega)]; first | done | (rw [if_pos (by omega)]; done) | (rw [if_neg (by omega)]; first | done | (rw [if_pos (by omega)]; done) | (rw [if_neg (by omega)]; done))))), rfl⟩ (by omega) (by omega) d_Mod_about_22
  · refine mv_iload_n B d_Mod_about_4 rfl 1 rfl ?_
    refine mv_aloadR_n B d_Mod_about_5 rfl 0 rfl ?_
    refine gf_Mod_81 B hC.1 rfl d_Mod_about_6 ?_
    refine mv_icmp_ge (tgt := 21) B d_Mod_about_9 (by decide) (by omega) (by omega) (fun c3 => ?_) (fun c3 => ?_)
    · refine mv_iconst (z := -1) B d_Mod_about_21 rfl ?_
      rw [hQ]
      exact mv_iret B ⟨by unfold abR; first | (rw [if_pos (by omega)]; done) | (rw [if_neg (by omega)]; first | done | (rw [if_pos (by omega)]; done) | (rw [if_neg (by omega)]; first | done | (rw [if_pos (by omega)]; done) | (rw [if_neg (by omega)]; first | done | (rw [if_pos (by omega)]; done) | (rw [if_neg (by omega)]; first | done | (rw [if_pos (by omega)]; done) | (rw [if_neg (by omega)]; done))))), rfl⟩ (by omega) (by omega) d_Mod_about_22
    · refine mv_iload_n B d_Mod_about_12 rfl 2 rfl ?_
      refine mv_if_lt (tgt := 21) B d_Mod_about_13 (by decide) (by omega) (fun c4 => ?_) (fun c4 => ?_)
      · refine mv_iconst (z := -1) B d_Mod_about_21 rfl ?_
        rw [hQ]
        exact mv_iret B ⟨by unfold abR; first | (rw [if_pos (by omega)]; done) | (rw [if_neg (by omega)]; first | done | (rw [if_pos (by omega)]; done) | (rw [if_neg (by omega)]; first | done | (rw [if_pos (by omega)]; done) | (rw [if_neg (by omega)]; first | done | (rw [if_pos (by omega)]; done) | (rw [if_neg (by omega)]; first | done | (rw [if_pos (by omega)]; done) | (rw [if_neg (by omega)]; done))))), rfl⟩ (by omega) (by omega) d_Mod_about_22
      · refine mv_iload_n B d_Mod_about_16 rfl 2 rfl ?_
        refine mv_iconst (z := 3) B d_Mod_about_17 rfl ?_
        refine mv_icmp_le (tgt := 23) B d_Mod_about_18 (by decide) (by omega) (by omega) (fun c5 => ?_) (fun c5 => ?_)
        · refine mv_iload_n B d_Mod_about_23 rfl 2 rfl ?_
          refine mv_if_ne (tgt := 36) B d_Mod_about_24 (by decide) (by omega) (fun c6 => ?_) (fun c6 => ?_)
          · refine mv_iload_n B d_Mod_about_36 rfl 2 rfl ?_
            refine mv_iconst (z := 1) B d_Mod_about_37 rfl ?_
            refine mv_icmp_ne (tgt := 50) B d_Mod_about_38 (by decide) (by omega) (by omega) (fun c7 => ?_) (fun c7 => ?_)
            · refine mv_iload_n B d_Mod_about_50 rfl 2 rfl ?_
              refine mv_iconst (z := 2) B d_Mod_about_51 rfl ?_
              refine mv_icmp_ne (tgt := 64) B d_Mod_about_52 (by decide) (by omega) (by omega) (fun c8 => ?_) (fun c8 => ?_)
              · refine mv_aloadR_n B d_Mod_about_64 rfl 0 rfl ?_
                refine gf_Mod_28 B hC.1 rfl d_Mod_about_65 ?_
                refine mv_iload_n B d_Mod_about_68 rfl 1 rfl ?_
                refine ia_ld B k1_6 (by omega) (by omega) (by omega) d_Mod_about_69 ?_
                have rr9 : R32 (F 6 (Int.toNat (g))) := (hC.R 6) _
                refine mv_iconst (z := 4) B d_Mod_about_70 rfl ?_
                refine mv_icmp_ne (tgt := 87) B d_Mod_about_71 (by decide) (by omega) (by omega) (fun c10 => ?_) (fun c10 => ?_)
                · refine mv_aloadR_n B d_Mod_about_87 rfl 0 rfl ?_
                  refine gf_Mod_43 B hC.1 rfl d_Mod_about_88 ?_
                  refine mv_iload_n B d_Mod_about_91 rfl 1 rfl ?_
                  refine ia_ld B k1_11 (by omega) (by omega) (by omega) d_Mod_about_92 ?_
                  have rr11 : R32 (F 11 (Int.toNat (g))) := (hC.R 11) _
                  rw [hQ]
                  exact mv_iret B ⟨by unfold abR; first | (rw [if_pos (by omega)]; done) | (rw [if_neg (by omega)]; first | done | (rw [if_pos (by omega)]; done) | (rw [if_neg (by omega)]; first | done | (rw [if_pos (by omega)]; done) | (rw [if_neg (by omega)]; first | done | (rw [if_pos (by omega)]; done) | (rw [if_neg (by omega)]; first | done | (rw [if_pos (by omega)]; done) | (rw [if_neg (by omega)]; done))))), rfl⟩ (by omega) (by omega) d_Mod_about_93
                · refine mv_iload_n B d_Mod_about_74 rfl 1 rfl ?_
                  refine mv_aloadR_n B d_Mod_about_75 rfl 0 rfl ?_
                  refine gf_Mod_34 B hC.1 rfl d_Mod_about_76 ?_
                  refine mv_iload_n B d_Mod_about_79 rfl 1 rfl ?_
                  refine ia_ld B k1_8 (by omega) (by omega) (by omega) d_Mod_about_80 ?_
                  have rr12 : R32 (F 8 (Int.toNat (g))) := (hC.R 8) _
                  refine mv_isub B d_Mod_about_81 ?_
                  refine mv_iconst (z := 1) B d_Mod_about_82 rfl ?_
                  refine mv_isub B d_Mod_about_83 ?_
                  refine mv_goto (tgt := 93) B d_Mod_about_84 (by decide) ?_
                  rw [hQ]
                  exact mv_iret B ⟨by unfold abR; first | (rw [if_pos (by omega)]; done) | (rw [if_neg (by omega)]; first | done | (rw [if_pos (by omega)]; done) | (rw [if_neg (by omega)]; first | done | (rw [if_pos (by omega)]; done) | (rw [if_neg (by omega)]; first | done | (rw [if_pos (by omega)]; done) | (rw [if_neg (by omega)]; first | done | (rw [if_pos (by omega)]; done) | (rw [if_neg (by omega)]; done))))), rfl⟩ (by omega) (by omega) d_Mod_about_93
              · refine mv_aloadR_n B d_Mod_about_55 rfl 0 rfl ?_
                refine gf_Mod_40 B hC.1 rfl d_Mod_about_56 ?_
                refine mv_iload_n B d_Mod_about_59 rfl 1 rfl ?_
                refine ia_ld B k1_10 (by omega) (by omega) (by omega) d_Mod_about_60 ?_
                have rr13 : R32 (F 10 (Int.toNat (g))) := (hC.R 10) _
                refine mv_goto (tgt := 93) B d_Mod_about_61 (by decide) ?_
                rw [hQ]
                exact mv_iret B ⟨by unfold abR; first | (rw [if_pos (by omega)]; done) | (rw [if_neg (by omega)]; first | done | (rw [if_pos (by omega)]; done) | (rw [if_neg (by omega)]; first | done | (rw [if_pos (by omega)]; done) | (rw [if_neg (by omega)]; first | done | (rw [if_pos (by omega)]; done) | (rw [if_neg (by omega)]; first | done | (rw [if_pos (by omega)]; done) | (rw [if_neg (by omega)]; done))))), rfl⟩ (by omega) (by omega) d_Mod_about_93
            · refine mv_aloadR_n B d_Mod_about_41 rfl 0 rfl ?_
              refine gf_Mod_37 B hC.1 rfl d_Mod_about_42 ?_
              refine mv_iload_n B d_Mod_about_45 rfl 1 rfl ?_
              refine ia_ld B k1_9 (by omega) (by omega) (by omega) d_Mod_about_46 ?_
              have rr14 : R32 (F 9 (Int.toNat (g))) := (hC.R 9) _
              refine mv_goto (tgt := 93) B d_Mod_about_47 (by decide) ?_
              rw [hQ]
              exact mv_iret B ⟨by unfold abR; first | (rw [if_pos (by omega)]; done) | (rw [if_neg (by omega)]; first | done | (rw [if_pos (by omega)]; done) | (rw [if_neg (by omega)]; first | done | (rw [if_pos (by omega)]; done) | (rw [if_neg (by omega)]; first | done | (rw [if_pos (by omega)]; done) | (rw [if_neg (by omega)]; first | done | (rw [if_pos (by omega)]; done) | (rw [if_neg (by omega)]; done))))), rfl⟩ (by omega) (by omega) d_Mod_about_93
          · refine mv_aloadR_n B d_Mod_about_27 rfl 0 rfl ?_
            refine gf_Mod_28 B hC.1 rfl d_Mod_about_28 ?_
            refine mv_iload_n B d_Mod_about_31 rfl 1 rfl ?_
            refine ia_ld B k1_6 (by omega) (by omega) (by omega) d_Mod_about_32 ?_
            have rr15 : R32 (F 6 (Int.toNat (g))) := (hC.R 6) _
            refine mv_goto (tgt := 93) B d_Mod_about_33 (by decide) ?_
            rw [hQ]
            exact mv_iret B ⟨by unfold abR; first | (rw [if_pos (by omega)]; done) | (rw [if_neg (by omega)]; first | done | (rw [if_pos (by omega)]; done) | (rw [if_neg (by omega)]; first | done | (rw [if_pos (by omega)]; done) | (rw [if_neg (by omega)]; first | done | (rw [if_pos (by omega)]; done) | (rw [if_neg (by omega)]; first | done | (rw [if_pos (by omega)]; done) | (rw [if_neg (by omega)]; done))))), rfl⟩ (by omega) (by omega) d_Mod_about_93
        · refine mv_iconst (z := -1) B d_Mod_about_21 rfl ?_
          rw [hQ]
          exact mv_iret B ⟨by unfold abR; first | (rw [if_pos (by omega)]; done) | (rw [if_neg (by omega)]; first | done | (rw [if_pos (by omega)]; done) | (rw [if_neg (by omega)]; first | done | (rw [if_pos (by omega)]; done) | (rw [if_neg (by omega)]; first | done | (rw [if_pos (by omega)]; done) | (rw [if_neg (by omega)]; first | done | (rw [if_pos (by omega)]; done) | (rw [if_neg (by omega)]; done))))), rfl⟩ (by omega) (by omega) d_Mod_about_22
set_option maxRecDepth 100000 in
set_option maxHeartbeats 4000000 in
theorem m_Mod_part3 {l : Launch} {V : mv_V} {M : mv_M} {r cap lq : Nat} {A : Nat → Nat} {F : Nat → Nat → Int} {c tn gn : Int} (hC : RefC V M r A (rN cap lq) F c tn gn) (hcap : cap ≤ 1000000) {i j w : Int} (ri : R32 i) (rj : R32 j) (rw : R32 w) (ht : 0 ≤ tn ∧ tn ≤ 1500) (hb : ∀ k : Nat, (k : Int) < tn → 0 ≤ F 5 k ∧ 0 ≤ F 3 (F 5 k).toNat ∧ F 5 k + F 3 (F 5 k).toNat ≤ cap ∧ F 5 k < cap) : Met l y_Mod_part3 ws_Mod_part3 (rM 1 0 0 21) (mv_Pre (kk V) [.ref r, .int (iI (i)), .int (iI (j)), .int (iI (w))] M) (mv_Q (kk V) (mv_R (some (.int (iI (ptR F tn i j w)))) M)) 0 0 V.2.2.2.2 := by
  refine mv_Met (by decide) rfl (Nat.le_of_ble_eq_true rfl) (fun X hX B => ?_)
  subst hX
  replace B : mv_B X (kk V) c_Mod_part3 ws_Mod_part3 "FamilyRulesModel" 5 (Option.some Jvm.ClassFile.FieldType.int) (rM 1 0 0 21) "part" := B
  obtain ⟨Q, hQ⟩ : ∃ Q, Q = mv_E X (kk V) (mv_R (some (.int (iI (ptR F tn i j w)))) M) 0 0 := ⟨_, rfl⟩
  rw [← hQ]
  show mv_G X Q (kk V) 5 0 [(0, .ref r), (1, .int (iI (i))), (2, .int (iI (j))), (3, .int (iI (w)))] [] M 0 0
  have k1_0 : M (A 0) = some (iA V (cap) (F 0)) := hC.2.1 0 (by decide)
  have k1_1 : M (A 1) = some (iA V (cap) (F 1)) := hC.2.1 1 (by decide)
  have k1_2 : M (A 2) = some (iA V (cap) (F 2)) := hC.2.1 2 (by decide)
  have k1_3 : M (A 3) = some (iA V (cap) (F 3)) := hC.2.1 3 (by decide)
  have k1_5 : M (A 5) = some (iA V (1500) (F 5)) := hC.2.1 5 (by decide)
  refine mv_aloadR_n B d_Mod_part3_0 rfl 0 rfl ?_
  refine mv_iload_n B d_Mod_part3_1 rfl 1 rfl ?_
  refine ca_Mod_90 (mc := 0) (ms := 0) (As := [.int (iI (i))]) (rest := []) B (m_Mod_isTerm hC hcap (i := i) (by omega) (by omega)) rfl rfl ⟨Nat.le_of_ble_eq_true rfl, Nat.le_of_ble_eq_true rfl⟩ hC.1 rfl rfl (Nat.le_of_ble_eq_true rfl) d_Mod_part3_2 ⟨by omega, by omega⟩ (mv_x ?_)
  show mv_G X Q (kk V) 5 5 [(0, .ref r), (1, .int (iI (i))), (2, .int (iI (j))), (3, .int (iI (w)))] [.int (iI (if 0 ≤ (i) ∧ (i) < tn then 1 else 0))] M 0 0
  refine mv_if_eq (tgt := 36) B d_Mod_part3_5 (by decide) (by omega) (fun c2 => ?_) (fun c2 => ?_)
  · have hit : ¬ (0 ≤ i ∧ i < tn) := by
      intro q
      rw [if_pos q] at c2
      omega
    refine mv_iconst (z := -1) B d_Mod_part3_36 rfl ?_
    rw [hQ]
    exact mv_iret B ⟨by unfold ptR; first | (rw [if_pos (by omega)]; done) | (rw [if_neg (by omega)]; first | done | (rw [if_pos (by omega)]; done) | (rw [if_neg (by omega)]; first | done | (rw [if_pos (by omega)]; done) | (rw [if_neg (by omega)]; first | done | (rw [if_pos (by omega)]; done) | (rw [if_neg (by omega)]; first | done | (rw [if_pos (by omega)]; done) | (rw [if_neg (by omega)]; done))))), rfl⟩ (by omega) (by omega) d_Mod_part3_37
  · have hit : 0 ≤ i ∧ i < tn := by
      apply Classical.byContradiction
      intro q
      rw [if_neg q] at c2
      omega
    have hbg := hb i.toNat (by omega)
    have hR3 := hC.2.2.2.2.1 3 (F 5 i.toNat).toNat
    refine mv_iload_n B d_Mod_part3_8 rfl 2 rfl ?_
    refine mv_if_lt (tgt := 36) B d_Mod_part3_9 (by decide) (by omega) (fun c3 => ?_) (fun c3 => ?_)
    · refine mv_iconst (z := -1) B d_Mod_part3_36 rfl ?_
      rw [hQ]
      exact mv_iret B ⟨by unfold ptR; first | (rw [if_pos (by omega)]; done) | (rw [if_neg (by omega)]; first | done | (rw [if_pos (by omega)]; done) | (rw [if_neg (by omega)]; first | done | (rw [if_pos (by omega)]; done) | (rw [if_neg (by omega)]; first | done | (rw [if_pos (by omega)]; done) | (rw [if_neg (by omega)]; first | done | (rw [if_pos (by omega)]; done) | (rw [if_neg (by omega)]; done))))), rfl⟩ (by omega) (by omega) d_Mod_part3_37
    · refine mv_iload_n B d_Mod_part3_12 rfl 2 rfl ?_
      refine mv_aloadR_n B d_Mod_part3_13 rfl 0 rfl ?_
      refine gf_Mod_19 B hC.1 rfl d_Mod_part3_14 ?_
      refine mv_aloadR_n B d_Mod_part3_17 rfl 0 rfl ?_
      refine gf_Mod_25 B hC.1 rfl d_Mod_part3_18 ?_
      refine mv_iload_n B d_Mod_part3_21 rfl 1 rfl ?_
      refine ia_ld B k1_5 (by omega) (by omega) (by omega) d_Mod_part3_22 ?_
      have rr4 : R32 (F 5 (Int.toNat (i))) := (hC.R 5) _
      refine ia_ld B k1_3 (by omega) (by omega) (by omega) d_Mod_part3_23 ?_
      have rr5 : R32 (F 3 (Int.toNat (F 5 (Int.toNat (i))))) := (hC.R 3) _
      refine mv_icmp_ge (tgt := 36) B d_Mod_part3_24 (by decide) (by omega) (by omega) (fun c6 => ?_) (fun c6 => ?_)
      · refine mv_iconst (z := -1) B d_Mod_part3_36 rfl ?_
        rw [hQ]
        exact mv_iret B ⟨by unfold ptR; first | (rw [if_pos (by omega)]; done) | (rw [if_neg (by omega)]; first | done | (rw [if_pos (by omega)]; done) | (rw [if_neg (by omega)]; first | done | (rw [if_pos (by omega)]; done) | (rw [if_neg (by omega)]; first | done | (rw [if_pos (by omega)]; done) | (rw [if_neg (by omega)]; first | done | (rw [if_pos (by omega)]; done) | (rw [if_neg (by omega)]; done))))), rfl⟩ (by omega) (by omega) d_Mod_part3_37
      · refine mv_iload_n B d_Mod_part3_27 rfl 3 rfl ?_
        refine mv_if_lt (tgt := 36) B d_Mod_part3_28 (by decide) (by omega) (fun c7 => ?_) (fun c7 => ?_)
        · refine mv_iconst (z := -1) B d_Mod_part3_36 rfl ?_
          rw [hQ]
          exact mv_iret B ⟨by unfold ptR; first | (rw [if_pos (by omega)]; done) | (rw [if_neg (by omega)]; first | done | (rw [if_pos (by omega)]; done) | (rw [if_neg (by omega)]; first | done | (rw [if_pos (by omega)]; done) | (rw [if_neg (by omega)]; first | done | (rw [if_pos (by omega)]; done) | (rw [if_neg (by omega)]; first | done | (rw [if_pos (by omega)]; done) | (rw [if_neg (by omega)]; done))))), rfl⟩ (by omega) (by omega) d_Mod_part3_37
        · refine mv_iload_n B d_Mod_part3_31 rfl 3 rfl ?_
          refine mv_iconst (z := 3) B d_Mod_part3_32 rfl ?_
          refine mv_icmp_le (tgt := 38) B d_Mod_part3_33 (by decide) (by omega) (by omega) (fun c8 => ?_) (fun c8 => ?_)
          · refine mv_aloadR_n B d_Mod_part3_38 rfl 0 rfl ?_
            refine gf_Mod_25 B hC.1 rfl d_Mod_part3_39 ?_
            refine mv_iload_n B d_Mod_part3_42 rfl 1 rfl ?_
            refine ia_ld B k1_5 (by omega) (by omega) (by omega) d_Mod_part3_43 ?_
            have rr9 : R32 (F 5 (Int.toNat (i))) := (hC.R 5) _
            refine mv_iload_n B d_Mod_part3_44 rfl 2 rfl ?_
            refine mv_iadd B d_Mod_part3_45 ?_
            refine mv_istore (lv' := [(4, .int (iI ((F 5 (Int.toNat (i))) + j))), (0, .ref r), (1, .int (iI (i))), (2, .int (iI (j))), (3, .int (iI (w)))]) B d_Mod_part3_46 (by decide) rfl ?_
            refine mv_iload_n B d_Mod_part3_48 rfl 4 rfl ?_
            refine mv_if_ne (tgt := 62) B d_Mod_part3_49 (by decide) (by omega) (fun c10 => ?_) (fun c10 => ?_)
            · refine mv_iload_n B d_Mod_part3_62 rfl 4 rfl ?_
              refine mv_iconst (z := 1) B d_Mod_part3_63 rfl ?_
              refine mv_icmp_ne (tgt := 77) B d_Mod_part3_64 (by decide) (by omega) (by omega) (fun c11 => ?_) (fun c11 => ?_)
              · refine mv_iload_n B d_Mod_part3_77 rfl 4 rfl ?_
                refine mv_iconst (z := 2) B d_Mod_part3_78 rfl ?_
                refine mv_icmp_ne (tgt := 92) B d_Mod_part3_79 (by decide) (by omega) (by omega) (fun c12 => ?_) (fun c12 => ?_)
                · refine mv_aloadR_n B d_Mod_part3_92 rfl 1 rfl ?_
                  refine gf_Mod_19 B hC.1 rfl d_Mod_part3_93 ?_
                  refine mv_iload B d_Mod_part3_96 0 rfl ?_
                  refine ia_ld B k1_3 (by omega) (by omega) (by omega) d_Mod_part3_98 ?_
                  have rr13 : R32 (F 3 (Int.toNat ((F 5 (Int.toNat (i))) + j))) := (hC.R 3) _
                  rw [hQ]
                  exact mv_iret B ⟨by unfold ptR; first | (rw [if_pos (by omega)]; done) | (rw [if_neg (by omega)]; first | done | (rw [if_pos (by omega)]; done) | (rw [if_neg (by omega)]; first | done | (rw [if_pos (by omega)]; done) | (rw [if_neg (by omega)]; first | done | (rw [if_pos (by omega)]; done) | (rw [if_neg (by omega)]; first | done | (rw [if_pos (by omega)]; done) | (rw [if_neg (by omega)]; done))))), rfl⟩ (by omega) (by omega) d_Mod_part3_99
                · refine mv_aloadR_n B d_Mod_part3_82 rfl 1 rfl ?_
                  refine gf_Mod_16 B hC.1 rfl d_Mod_part3_83 ?_
                  refine mv_iload B d_Mod_part3_86 0 rfl ?_
                  refine ia_ld B k1_2 (by omega) (by omega) (by omega) d_Mod_part3_88 ?_
                  have rr14 : R32 (F 2 (Int.toNat ((F 5 (Int.toNat (i))) + j))) := (hC.R 2) _
                  refine mv_goto (tgt := 99) B d_Mod_part3_89 (by decide) ?_
                  rw [hQ]
                  exact mv_iret B ⟨by unfold ptR; first | (rw [if_pos (by omega)]; done) | (rw [if_neg (by omega)]; first | done | (rw [if_pos (by omega)]; done) | (rw [if_neg (by omega)]; first | done | (rw [if_pos (by omega)]; done) | (rw [if_neg (by omega)]; first | done | (rw [if_pos (by omega)]; done) | (rw [if_neg (by omega)]; first | done | (rw [if_pos (by omega)]; done) | (rw [if_neg (by omega)]; done))))), rfl⟩ (by omega) (by omega) d_Mod_part3_99
              · refine mv_aloadR_n B d_Mod_part3_67 rfl 1 rfl ?_
                refine gf_Mod_13 B hC.1 rfl d_Mod_part3_68 ?_
                refine mv_iload B d_Mod_part3_71 0 rfl ?_
                refine ia_ld B k1_1 (by omega) (by omega) (by omega) d_Mod_part3_73 ?_
                have rr15 : R32 (F 1 (Int.toNat ((F 5 (Int.toNat (i))) + j))) := (hC.R 1) _
                refine mv_goto (tgt := 99) B d_Mod_part3_74 (by decide) ?_
                rw [hQ]
                exact mv_iret B ⟨by unfold ptR; first | (rw [if_pos (by omega)]; done) | (rw [if_neg (by omega)]; first | done | (rw [if_pos (by omega)]; done) | (rw [if_neg (by omega)]; first | done | (rw [if_pos (by omega)]; done) | (rw [if_neg (by omega)]; first | done | (rw [if_pos (by omega)]; done) | (rw [if_neg (by omega)]; first | done | (rw [if_pos (by omega)]; done) | (rw [if_neg (by omega)]; done))))), rfl⟩ (by omega) (by omega) d_Mod_part3_99
            · refine mv_aloadR_n B d_Mod_part3_52 rfl 1 rfl ?_
              refine gf_Mod_7 B hC.1 rfl d_Mod_part3_53 ?_
              refine mv_iload B d_Mod_part3_56 0 rfl ?_
              refine ia_ld B k1_0 (by omega) (by omega) (by omega) d_Mod_part3_58 ?_
              have rr16 : R32 (F 0 (Int.toNat ((F 5 (Int.toNat (i))) + j))) := (hC.R 0) _
              refine mv_goto (tgt := 99) B d_Mod_part3_59 (by decide) ?_
              rw [hQ]
              exact mv_iret B ⟨by unfold ptR; first | (rw [if_pos (by omega)]; done) | (rw [if_neg (by omega)]; first | done | (rw [if_pos (by omega)]; done) | (rw [if_neg (by omega)]; first | done | (rw [if_pos (by omega)]; done) | (rw [if_neg (by omega)]; first | done | (rw [if_pos (by omega)]; done) | (rw [if_neg (by omega)]; first | done | (rw [if_pos (by omega)]; done) | (rw [if_neg (by omega)]; done))))), rfl⟩ (by omega) (by omega) d_Mod_part3_99
          · refine mv_iconst (z := -1) B d_Mod_part3_36 rfl ?_
            rw [hQ]
            exact mv_iret B ⟨by unfold ptR; first | (rw [if_pos (by omega)]; done) | (rw [if_neg (by omega)]; first | done | (rw [if_pos (by omega)]; done) | (rw [if_neg (by omega)]; first | done | (rw [if_pos (by omega)]; done) | (rw [if_neg (by omega)]; first | done | (rw [if_pos (by omega)]; done) | (rw [if_neg (by omega)]; first | done | (rw [if_pos (by omega)]; done) | (rw [if_neg (by omega)]; done))))), rfl⟩ (by omega) (by omega) d_Mod_part3_37
set_option maxRecDepth 100000 in
set_option maxHeartbeats 4000000 in
theorem m_Mod_isWhole {l : Launch} {V : mv_V} {M : mv_M} {r cap lq : Nat} {A : Nat → Nat} {F : Nat → Nat → Int} {c tn gn : Int} (hC : RefC V M r A (rN cap lq) F c tn gn) (hcap : cap ≤ 1000000) {g : Int} (rg : R32 g) (hg : 0 ≤ gn ∧ gn ≤ 100) (hco : ∀ k : Nat, (k : Int) < gn → F 6 k = 3 → 0 ≤ F 11 k ∧ (k : Int) + 1 + F 11 k ≤ gn) : Met l y_Mod_isWhole ws_Mod_isWhole (rM 0 0 0 0) (mv_Pre (kk V) [.ref r, .int (iI (g))] M) (mv_Q (kk V) (mv_R (some (.int (iI (if whR F gn g then 1 else 0)))) M)) 0 0 V.2.2.2.2 := by
  refine mv_Met (by decide) rfl (Nat.le_of_ble_eq_true rfl) (fun X hX B => ?_)
  subst hX
  replace B : mv_B X (kk V) c_Mod_isWhole ws_Mod_isWhole "FamilyRulesModel" 4 (Option.some Jvm.ClassFile.FieldType.boolean) (rM 0 0 0 0) "isWhole" := B
  obtain ⟨Q, hQ⟩ : ∃ Q, Q = mv_E X (kk V) (mv_R (some (.int (iI (if whR F gn g then 1 else 0)))) M) 0 0 := ⟨_, rfl⟩
  rw [← hQ]
  show mv_G X Q (kk V) 4 0 [(0, .ref r), (1, .int (iI (g)))] [] M 0 0
  have k1_6 : M (A 6) = some (iA V (100) (F 6)) := hC.2.1 6 (by decide)
  have k1_7 : M (A 7) = some (iA V (100) (F 7)) := hC.2.1 7 (by decide)
  have k1_11 : M (A 11) = some (iA V (100) (F 11)) := hC.2.1 11 (by decide)
  refine mv_iload_n B d_Mod_isWhole_0 rfl 1 rfl ?_
  refine mv_if_lt (tgt := 22) B d_Mod_isWhole_1 (by decide) (by omega) (fun c2 => ?_) (fun c2 => ?_)
  · refine mv_iconst (z := 0) B d_Mod_isWhole_22 rfl ?_
    rw [hQ]
    exact mv_zret B rfl ⟨(by unfold whR; rw [if_neg (by intro q; omega)]), rfl⟩ (by omega) (by omega) d_Mod_isWhole_23
  · refine mv_iload_n B d_Mod_isWhole_4 rfl 1 rfl ?_
    refine mv_aloadR_n B d_Mod_isWhole_5 rfl 0 rfl ?_
    refine gf_Mod_81 B hC.1 rfl d_Mod_isWhole_6 ?_
    refine mv_icmp_ge (tgt := 22) B d_Mod_isWhole_9 (by decide) (by omega) (by omega) (fun c3 => ?_) (fun c3 => ?_)
    · refine mv_iconst (z := 0) B d_Mod_isWhole_22 rfl ?_
      rw [hQ]
      exact mv_zret B rfl ⟨(by unfold whR; rw [if_neg (by intro q; omega)]), rfl⟩ (by omega) (by omega) d_Mod_isWhole_23
    · refine mv_aloadR_n B d_Mod_isWhole_12 rfl 0 rfl ?_
      refine gf_Mod_28 B hC.1 rfl d_Mod_isWhole_13 ?_
      refine mv_iload_n B d_Mod_isWhole_16 rfl 1 rfl ?_
      refine ia_ld B k1_6 (by omega) (by omega) (by omega) d_Mod_isWhole_17 ?_
      have rr4 : R32 (F 6 (Int.toNat (g))) := (hC.R 6) _
      refine mv_iconst (z := 3) B d_Mod_isWhole_18 rfl ?_
      refine mv_icmp_eq (tgt := 24) B d_Mod_isWhole_19 (by decide) (by omega) (by omega) (fun c5 => ?_) (fun c5 => ?_)
      · have hcg := hco g.toNat (by omega) (by omega)
        refine mv_iconst (z := 1) B d_Mod_isWhole_24 rfl ?_
        refine mv_istore_n (lv' := [(2, .int (iI (1))), (0, .ref r), (1, .int (iI (g)))]) B d_Mod_isWhole_25 rfl (by decide) rfl ?_
        refine mv_iconst (z := 1) B d_Mod_isWhole_26 rfl ?_
        refine mv_istore_n (lv' := [(3, .int (iI (1))), (2, .int (iI (1))), (0, .ref r), (1, .int (iI (g)))]) B d_Mod_isWhole_27 rfl (by decide) rfl ?_
        have L28 : ∀ (fu : Nat) (n : Nat), ((n : Int) ≤ F 11 g.toNat) → ((F 11 g.toNat).toNat - n) < fu → mv_G X Q (kk V) 4 28 [(3, .int (iI ((n : Nat) + 1))), (2, .int (iI (if wlB F g.toNat n = true then 1 else 0))), (0, .ref r), (1, .int (iI (g)))] [] M 0 0 := by
          intro fu
          induction fu with
          | zero => intro n hn hm; exact absurd hm (Nat.not_lt_zero _)
          | succ fu ih28 =>
            intro n hn hm
            have hR7 := hC.R 7 (g + ((n : Nat) + 1)).toNat
            refine mv_iload_n B d_Mod_isWhole_28 rfl 0 rfl ?_
            refine mv_aloadR_n B d_Mod_isWhole_29 rfl 2 rfl ?_
            refine gf_Mod_43 B hC.1 rfl d_Mod_isWhole_30 ?_
            refine mv_iload_n B d_Mod_isWhole_33 rfl 3 rfl ?_
            refine ia_ld B k1_11 (by omega) (by omega) (by omega) d_Mod_isWhole_34 ?_
            have rr6 : R32 (F 11 (Int.toNat (g))) := (hC.R 11) _
            refine mv_icmp_gt (tgt := 64) B d_Mod_isWhole_35 (by decide) (by omega) (by omega) (fun c7 => ?_) (fun c7 => ?_)
            · refine mv_iload_n B d_Mod_isWhole_64 rfl 1 rfl ?_
              rw [hQ]
              exact mv_zret B (by split <;> rfl) ⟨(by unfold whR; rw [show (F 11 g.toNat).toNat = n by omega]; exact if hw : wlB F g.toNat n = true then (by rw [if_pos hw, if_pos ⟨by omega, by omega, by omega, hw⟩]) else (by rw [if_neg hw, if_neg (fun q => hw q.2.2.2)])), rfl⟩ (by omega) (by omega) d_Mod_isWhole_65
            · refine mv_iload_n B d_Mod_isWhole_38 rfl 1 rfl ?_
              refine mv_aloadR_n B d_Mod_isWhole_39 rfl 2 rfl ?_
              refine gf_Mod_31 B hC.1 rfl d_Mod_isWhole_40 ?_
              refine mv_iload_n B d_Mod_isWhole_43 rfl 3 rfl ?_
              refine mv_iload_n B d_Mod_isWhole_44 rfl 0 rfl ?_
              refine mv_iadd B d_Mod_isWhole_45 ?_
              refine ia_ld B k1_7 (by omega) (by omega) (by omega) d_Mod_isWhole_46 ?_
              have rr8 : R32 (F 7 (Int.toNat (g + ((n : Nat) + 1)))) := (hC.R 7) _
              refine mv_iconst (z := -1) B d_Mod_isWhole_47 rfl ?_
              refine mv_icmp_eq (tgt := 55) B d_Mod_isWhole_48 (by decide) (by omega) (by omega) (fun c9 => ?_) (fun c9 => ?_)
              · refine mv_iconst (z := 0) B d_Mod_isWhole_55 rfl ?_
                refine mv_iand B (by first | omega | (split <;> omega)) (by omega) d_Mod_isWhole_56 ?_
                refine mv_istore_n (lv' := [(2, .int (iI (if (if wlB F g.toNat n = true then 1 else 0) = 1 ∧ 0 = 1 then 1 else 0))), (3, .int (iI ((n : Nat) + 1))), (0, .ref r), (1, .int (iI (g)))]) B d_Mod_isWhole_57 rfl (by decide) rfl ?_
                refine mv_iinc (lv' := [(3, .int (iI (((n : Nat) + 1) + 1))), (2, .int (iI (if (if wlB F g.toNat n = true then 1 else 0) = 1 ∧ 0 = 1 then 1 else 0))), (0, .ref r), (1, .int (iI (g)))]) B d_Mod_isWhole_58 1 rfl (by decide) rfl ?_
                refine mv_goto (tgt := 28) B d_Mod_isWhole_61 (by decide) ?_
                refine mv_lv (lv' := [(3, .int (iI (((n + 1) : Nat) + 1))), (2, .int (iI (if wlB F g.toNat (n + 1) = true then 1 else 0))), (0, .ref r), (1, .int (iI (g)))]) [0, 1, 2, 3] (lc (lI (by omega)) (lc (lI (by rw [wlB_s]; refine bz_and ?_; rw [show g.toNat + n + 1 = (g + ((n : Nat) + 1)).toNat by omega]; first | (rw [if_pos (by simp; omega)]; done) | (rw [if_neg (by simp; omega)]; done))) (lc rfl (lc rfl rfl)))) ?_
                exact ih28 (n + 1) (by omega) (by omega)
              · refine mv_iconst (z := 1) B d_Mod_isWhole_51 rfl ?_
                refine mv_goto (tgt := 56) B d_Mod_isWhole_52 (by decide) ?_
                refine mv_iand B (by first | omega | (split <;> omega)) (by omega) d_Mod_isWhole_56 ?_
                refine mv_istore_n (lv' := [(2, .int (iI (if (if wlB F g.toNat n = true then 1 else 0) = 1 ∧ 1 = 1 then 1 else 0))), (3, .int (iI ((n : Nat) + 1))), (0, .ref r), (1, .int (iI (g)))]) B d_Mod_isWhole_57 rfl (by decide) rfl ?_
                refine mv_iinc (lv' := [(3, .int (iI (((n : Nat) + 1) + 1))), (2, .int (iI (if (if wlB F g.toNat n = true then 1 else 0) = 1 ∧ 1 = 1 then 1 else 0))), (0, .ref r), (1, .int (iI (g)))]) B d_Mod_isWhole_58 1 rfl (by decide) rfl ?_
                refine mv_goto (tgt := 28) B d_Mod_isWhole_61 (by decide) ?_
                refine mv_lv (lv' := [(3, .int (iI (((n + 1) : Nat) + 1))), (2, .int (iI (if wlB F g.toNat (n + 1) = true then 1 else 0))), (0, .ref r), (1, .int (iI (g)))]) [0, 1, 2, 3] (lc (lI (by omega)) (lc (lI (by rw [wlB_s]; refine bz_and ?_; rw [show g.toNat + n + 1 = (g + ((n : Nat) + 1)).toNat by omega]; first | (rw [if_pos (by simp; omega)]; done) | (rw [if_neg (by simp; omega)]; done))) (lc rfl (lc rfl rfl)))) ?_
                exact ih28 (n + 1) (by omega) (by omega)
        refine mv_lv (lv' := [(3, .int (iI ((0 : Nat) + 1))), (2, .int (iI (if wlB F g.toNat 0 = true then 1 else 0))), (0, .ref r), (1, .int (iI (g)))]) [0, 1, 2, 3] (lc (lI (by omega)) (lc (lI (by rfl)) (lc rfl (lc rfl rfl)))) ?_
        exact L28 _ 0 (by omega) (Nat.lt_succ_self _)
      · refine mv_iconst (z := 0) B d_Mod_isWhole_22 rfl ?_
        rw [hQ]
        exact mv_zret B rfl ⟨(by unfold whR; rw [if_neg (by intro q; omega)]), rfl⟩ (by omega) (by omega) d_Mod_isWhole_23
set_option maxRecDepth 100000 in
set_option maxHeartbeats 4000000 in
theorem m_Mod_argument {l : Launch} {V : mv_V} {M : mv_M} {r cap lq : Nat} {A : Nat → Nat} {F : Nat → Nat → Int} {c tn gn : Int} (hC : RefC V M r A (rN cap lq) F c tn gn) (hcap : cap ≤ 1000000) {g : Nat} {k : Int} (hg : g < 100) (hk : 0 ≤ F 9 g + k ∧ F 9 g + k ≤ 1000000) (hu : ∀ j : Nat, (j : Int) < F 9 g + k → 0 ≤ unR F (F 7 g) j ∧ unR F (F 7 g) j + 1 < cap) : Met l y_Mod_argument ws_Mod_argument (rM 2 0 0 45) (mv_Pre (kk V) [.ref r, .int (iI ((g : Nat))), .int (iI (k))] M) (mv_Q (kk V) (mv_R (some (.int (iI (unR F (F 7 g) (F 9 g + k).toNat + 1)))) M)) 0 0 V.2.2.2.2 := by
  refine mv_Met (by decide) rfl (Nat.le_of_ble_eq_true rfl) (fun X hX B => ?_)
  subst hX
  replace B : mv_B X (kk V) c_Mod_argument ws_Mod_argument "FamilyRulesModel" 3 (Option.some Jvm.ClassFile.FieldType.int) (rM 2 0 0 45) "argument" := B
  obtain ⟨Q, hQ⟩ : ∃ Q, Q = mv_E X (kk V) (mv_R (some (.int (iI (unR F (F 7 g) (F 9 g + k).toNat + 1)))) M) 0 0 := ⟨_, rfl⟩
  rw [← hQ]
  show mv_G X Q (kk V) 3 0 [(0, .ref r), (1, .int (iI ((g : Nat)))), (2, .int (iI (k)))] [] M 0 0
  have k1_7 : M (A 7) = some (iA V (100) (F 7)) := hC.2.1 7 (by decide)
  have k1_9 : M (A 9) = some (iA V (100) (F 9)) := hC.2.1 9 (by decide)
  refine mv_aloadR_n B d_Mod_argument_0 rfl 0 rfl ?_
  refine mv_aloadR_n B d_Mod_argument_1 rfl 0 rfl ?_
  refine gf_Mod_31 B hC.1 rfl d_Mod_argument_2 ?_
  refine mv_iload_n B d_Mod_argument_5 rfl 1 rfl ?_
  refine ia_ld B k1_7 (by omega) (by omega) (by omega) d_Mod_argument_6 ?_
  rw [show Int.toNat ((g : Nat)) = g from by omega]
  have rr2 : R32 (F 7 g) := (hC.R 7) _
  refine mv_aloadR_n B d_Mod_argument_7 rfl 0 rfl ?_
  refine gf_Mod_37 B hC.1 rfl d_Mod_argument_8 ?_
  refine mv_iload_n B d_Mod_argument_11 rfl 1 rfl ?_
  refine ia_ld B k1_9 (by omega) (by omega) (by omega) d_Mod_argument_12 ?_
  rw [show Int.toNat ((g : Nat)) = g from by omega]
  have rr3 : R32 (F 9 g) := (hC.R 9) _
  refine mv_iload_n B d_Mod_argument_13 rfl 2 rfl ?_
  refine mv_iadd B d_Mod_argument_14 ?_
  refine ca_Mod_107 (mc := 0) (ms := 0) (As := [.int (iI (F 7 g)), .int (iI ((F 9 g) + k))]) (rest := []) B (m_Mod_under hC hcap (b := F 7 g) (n := (F 9 g) + k) (by omega) hu) rfl rfl ⟨Nat.le_of_ble_eq_true rfl, Nat.le_of_ble_eq_true rfl⟩ hC.1 rfl rfl (Nat.le_of_ble_eq_true rfl) d_Mod_argument_15 ⟨by omega, by omega⟩ (mv_x ?_)
  show mv_G X Q (kk V) 3 18 [(0, .ref r), (1, .int (iI ((g : Nat)))), (2, .int (iI (k)))] [.int (iI (unR F (F 7 g) (Int.toNat ((F 9 g) + k))))] M 0 0
  refine mv_iconst (z := 1) B d_Mod_argument_18 rfl ?_
  refine mv_iadd B d_Mod_argument_19 ?_
  rw [hQ]
  exact mv_iret B ⟨(by rfl), rfl⟩ (by omega) (by omega) d_Mod_argument_20
