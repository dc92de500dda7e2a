/-! the reference: judge -/
def ayB (F : Nat → Nat → Int) (b : Int) (d : Nat) : Nat → Bool
  | 0 => true
  | k + 1 => ayB F b d k && !hsB F (d : Nat) (unR F b k + 1) (F 3 (unR F b k + 1).toNat).toNat
def ijB (F : Nat → Nat → Int) (p : Int) (d : Nat) : Nat → Bool
  | 0 => true
  | k + 1 => ijB F p d k && !hsB F (d : Nat) (ixR F (p + F 9 d + F 10 d + 1) (F 9 d + (k : Nat)).toNat) (F 3 (ixR F (p + F 9 d + F 10 d + 1) (F 9 d + (k : Nat)).toNat).toNat).toNat
theorem ayB_s (F : Nat → Nat → Int) (b : Int) (d k : Nat) : ayB F b d (k + 1) = (ayB F b d k && !hsB F (d : Nat) (unR F b k + 1) (F 3 (unR F b k + 1).toNat).toNat) := rfl
theorem ijB_s (F : Nat → Nat → Int) (p : Int) (d k : Nat) : ijB F p d (k + 1) = (ijB F p d k && !hsB F (d : Nat) (ixR F (p + F 9 d + F 10 d + 1) (F 9 d + (k : Nat)).toNat) (F 3 (ixR F (p + F 9 d + F 10 d + 1) (F 9 d + (k : Nat)).toNat).toNat).toNat) := rfl
def jdR (F : Nat → Nat → Int) (b : Int) (d : Nat) (ar : Int) (n a : Nat) : Int := if hsB F (d : Nat) b (F 3 b.toNat).toNat = false then 1 else if isPR F d (unR F b n) a (ar + (n : Nat) - 1) = false then 0 else if (ayB F b d n && ijB F (unR F b n) d (F 10 d).toNat) = true then 2 else 0
set_option maxRecDepth 100000 in
set_option maxHeartbeats 4000000 in
theorem m_Mod_judge {l : Launch} {V : mv_V} {M : mv_M} {r cap lq : Nat} {A : Nat → Nat} {F : Nat → Nat → Int} {c tn gn : Int} (hC : RefC V M r A (rN cap lq) F c tn gn) (hcap : cap ≤ 1000000) {b ar : Int} {d n a : Nat} (hb : 0 ≤ b ∧ 0 ≤ F 3 b.toNat ∧ b + F 3 b.toNat ≤ cap ∧ b < cap) (hn : n ≤ 1000) (hk : ∀ j, j < n → F 0 (unR F b j).toNat = 6) (hk0 : ¬ F 0 (unR F b n).toNat = 6) (hp : ∀ j, j ≤ n → 0 ≤ unR F b j ∧ unR F b j < cap ∧ (j < n → unR F b j + 1 < cap)) (hpa : unR F b n + a + 1 ≤ cap) (ha : ∀ j, j < a → F 0 (unR F b n + (j : Nat)).toNat = 4) (ha0 : ¬ F 0 (unR F b n + (a : Nat)).toNat = 4) (hd : d < 100) (hpd : 0 ≤ F 9 d ∧ F 9 d ≤ 1000 ∧ 0 ≤ F 10 d ∧ F 10 d ≤ 1000) (hsf : (a : Int) = F 9 d + F 10 d → unR F b n + a + 1 + F 9 d ≤ cap) (hv1 : pvO F d (unR F b n) a (ar + (n : Nat) - 1)) (rar : 0 ≤ ar ∧ ar ≤ 1000000) (hal : ∀ k, k < n → 0 ≤ F 3 (unR F b k + 1).toNat ∧ unR F b k + 1 + F 3 (unR F b k + 1).toNat ≤ cap) (hix : isPR F d (unR F b n) a (ar + (n : Nat) - 1) = true → (∀ j : Nat, (j : Int) < F 9 d + F 10 d → 0 ≤ ixR F (unR F b n + F 9 d + F 10 d + 1) j ∧ ixR F (unR F b n + F 9 d + F 10 d + 1) j < cap) ∧ (∀ k : Nat, (k : Int) < F 10 d → 0 ≤ ixR F (unR F b n + F 9 d + F 10 d + 1) (F 9 d + (k : Nat)).toNat ∧ 0 ≤ F 3 (ixR F (unR F b n + F 9 d + F 10 d + 1) (F 9 d + (k : Nat)).toNat).toNat ∧ ixR F (unR F b n + F 9 d + F 10 d + 1) (F 9 d + (k : Nat)).toNat + F 3 (ixR F (unR F b n + F 9 d + F 10 d + 1) (F 9 d + (k : Nat)).toNat).toNat ≤ cap ∧ ixR F (unR F b n + F 9 d + F 10 d + 1) (F 9 d + (k : Nat)).toNat < cap)) : Met l y_Mod_judge ws_Mod_judge (rM 2 0 0 45) (mv_Pre (kk V) [.ref r, .int (iI (b)), .int (iI ((d : Nat))), .int (iI (ar))] M) (mv_Q (kk V) (mv_R (some (.int (iI (jdR F b d ar n a)))) M)) 0 0 V.2.2.2.2 := by
  refine mv_Met (by decide) rfl (Nat.le_of_ble_eq_true rfl) (fun X hX B => ?_)
  subst hX
  replace B : mv_B X (kk V) c_Mod_judge ws_Mod_judge "FamilyRulesModel" 8 (Option.some Jvm.ClassFile.FieldType.int) (rM 2 0 0 45) "judge" := B
  obtain ⟨Q, hQ⟩ : ∃ Q, Q = mv_E X (kk V) (mv_R (some (.int (iI (jdR F b d ar n a)))) M) 0 0 := ⟨_, rfl⟩
  rw [← hQ]
  show mv_G X Q (kk V) 8 0 [(0, .ref r), (1, .int (iI (b))), (2, .int (iI ((d : Nat)))), (3, .int (iI (ar)))] [] M 0 0
  have hpn := hp n (Nat.le_refl n)
  have k1_10 : M (A 10) = some (iA V (100) (F 10)) := hC.2.1 10 (by decide)
  refine mv_aloadR_n B d_Mod_judge_0 rfl 0 rfl ?_
  refine mv_iload_n B d_Mod_judge_1 rfl 1 rfl ?_
  refine mv_iload_n B d_Mod_judge_2 rfl 2 rfl ?_
  refine ca_Mod_111 (mc := 0) (ms := 0) (As := [.int (iI (b)), .int (iI ((d : Nat)))]) (rest := []) B (m_Mod_has hC hcap (b := b) (d := ((d : Nat) : Int)) (by omega) (by omega) (by omega)) rfl rfl ⟨Nat.le_of_ble_eq_true rfl, Nat.le_of_ble_eq_true rfl⟩ hC.1 rfl rfl (Nat.le_of_ble_eq_true rfl) d_Mod_judge_3 ⟨by omega, by omega⟩ (mv_x ?_)
  show mv_G X Q (kk V) 8 6 [(0, .ref r), (1, .int (iI (b))), (2, .int (iI ((d : Nat)))), (3, .int (iI (ar)))] [.int (iI (if hsB F ((d : Nat) : Int) (b) (Int.toNat (F 3 (Int.toNat (b)))) = true then 1 else 0))] M 0 0
  refine mv_if_ne (tgt := 11) B d_Mod_judge_6 (by decide) (by omega) (fun c2 => ?_) (fun c2 => ?_)
  · have hh0 : hsB F ((d : Nat) : Int) (b) (Int.toNat (F 3 (Int.toNat (b)))) = true := by
      apply Classical.byContradiction
      intro q
      rw [if_neg q] at c2
      omega
    refine mv_aloadR_n B d_Mod_judge_11 rfl 0 rfl ?_
    refine mv_iload_n B d_Mod_judge_12 rfl 1 rfl ?_
    refine ca_Mod_104 (mc := 0) (ms := 0) (As := [.int (iI (b))]) (rest := []) B (m_Mod_alls hC hcap (b := b) (n := n) (by omega) hk hk0 hp) rfl rfl ⟨Nat.le_of_ble_eq_true rfl, Nat.le_of_ble_eq_true rfl⟩ hC.1 rfl rfl (Nat.le_of_ble_eq_true rfl) d_Mod_judge_13 ⟨by omega, by omega⟩ (mv_x ?_)
    show mv_G X Q (kk V) 8 16 [(0, .ref r), (1, .int (iI (b))), (2, .int (iI ((d : Nat)))), (3, .int (iI (ar)))] [.int (iI ((n : Nat)))] M 0 0
    refine mv_istore (lv' := [(4, .int (iI ((n : Nat)))), (0, .ref r), (1, .int (iI (b))), (2, .int (iI ((d : Nat)))), (3, .int (iI (ar)))]) B d_Mod_judge_16 (by decide) rfl ?_
    refine mv_aloadR_n B d_Mod_judge_18 rfl 1 rfl ?_
    refine mv_iload_n B d_Mod_judge_19 rfl 2 rfl ?_
    refine mv_iload B d_Mod_judge_20 0 rfl ?_
    refine ca_Mod_107 (mc := 0) (ms := 0) (As := [.int (iI (b)), .int (iI ((n : Nat)))]) (rest := []) B (m_Mod_under hC hcap (b := b) (n := (n : Nat)) (by omega) (fun j hj => by have := hp j (by omega); omega)) rfl rfl ⟨Nat.le_of_ble_eq_true rfl, Nat.le_of_ble_eq_true rfl⟩ hC.1 rfl rfl (Nat.le_of_ble_eq_true rfl) d_Mod_judge_22 ⟨by omega, by omega⟩ (mv_x ?_)
    show mv_G X Q (kk V) 8 25 [(4, .int (iI ((n : Nat)))), (0, .ref r), (1, .int (iI (b))), (2, .int (iI ((d : Nat)))), (3, .int (iI (ar)))] [.int (iI (unR F b n))] M 0 0
    refine mv_istore (lv' := [(5, .int (iI (unR F b n))), (4, .int (iI ((n : Nat)))), (0, .ref r), (1, .int (iI (b))), (2, .int (iI ((d : Nat)))), (3, .int (iI (ar)))]) B d_Mod_judge_25 (by decide) rfl ?_
    refine mv_aloadR_n B d_Mod_judge_27 rfl 2 rfl ?_
    refine mv_iload B d_Mod_judge_28 0 rfl ?_
    refine mv_iload_n B d_Mod_judge_30 rfl 4 rfl ?_
    refine mv_iload_n B d_Mod_judge_31 rfl 5 rfl ?_
    refine mv_iload B d_Mod_judge_32 1 rfl ?_
    refine mv_iadd B d_Mod_judge_34 ?_
    refine mv_iconst (z := 1) B d_Mod_judge_35 rfl ?_
    refine mv_isub B d_Mod_judge_36 ?_
    refine ca_Mod_115 (mc := 0) (ms := 0) (As := [.int (iI (unR F b n)), .int (iI ((d : Nat))), .int (iI ((ar + (n : Nat)) - 1))]) (rest := []) B (m_Mod_isPut hC hcap (b := unR F b n) (v := (ar + (n : Nat)) - 1) (d := d) (a := a) (by omega) hpa ha ha0 hd hpd hsf hv1 (by omega)) rfl rfl ⟨Nat.le_of_ble_eq_true rfl, Nat.le_of_ble_eq_true rfl⟩ hC.1 rfl rfl (Nat.le_of_ble_eq_true rfl) d_Mod_judge_37 ⟨by omega, by omega⟩ (mv_x ?_)
    show mv_G X Q (kk V) 8 40 [(5, .int (iI (unR F b n))), (4, .int (iI ((n : Nat)))), (0, .ref r), (1, .int (iI (b))), (2, .int (iI ((d : Nat)))), (3, .int (iI (ar)))] [.int (iI (if isPR F d (unR F b n) a ((ar + (n : Nat)) - 1) = true then 1 else 0))] M 0 0
    refine mv_if_ne (tgt := 45) B d_Mod_judge_40 (by decide) (by omega) (fun c3 => ?_) (fun c3 => ?_)
    · have hpt : isPR F d (unR F b n) a (ar + (n : Nat) - 1) = true := by
        apply Classical.byContradiction
        intro q
        rw [if_neg q] at c3
        omega
      refine mv_iconst (z := 1) B d_Mod_judge_45 rfl ?_
      refine mv_istore (lv' := [(6, .int (iI (1))), (5, .int (iI (unR F b n))), (4, .int (iI ((n : Nat)))), (0, .ref r), (1, .int (iI (b))), (2, .int (iI ((d : Nat)))), (3, .int (iI (ar)))]) B d_Mod_judge_46 (by decide) rfl ?_
      refine mv_iconst (z := 0) B d_Mod_judge_48 rfl ?_
      refine mv_istore (lv' := [(7, .int (iI (0))), (6, .int (iI (1))), (5, .int (iI (unR F b n))), (4, .int (iI ((n : Nat)))), (0, .ref r), (1, .int (iI (b))), (2, .int (iI ((d : Nat)))), (3, .int (iI (ar)))]) B d_Mod_judge_49 (by decide) rfl ?_
      have L51 : ∀ (fu : Nat) (k : Nat), (k ≤ n) → (n - k) < fu → mv_G X Q (kk V) 8 51 [(7, .int (iI ((k : Nat)))), (6, .int (iI (if ayB F b d k = true then 1 else 0))), (5, .int (iI (unR F b n))), (4, .int (iI ((n : Nat)))), (0, .ref r), (1, .int (iI (b))), (2, .int (iI ((d : Nat)))), (3, .int (iI (ar)))] [] M 0 0 := by
        intro fu
        induction fu with
        | zero => intro k hkn hm; exact absurd hm (Nat.not_lt_zero _)
        | succ fu ih51 =>
          intro k hkn hm
          have hps := hp k (by omega)
          have hal1 := hal k
          refine mv_iload B d_Mod_judge_51 0 rfl ?_
          refine mv_iload B d_Mod_judge_53 3 rfl ?_
          refine mv_icmp_ge (tgt := 91) B d_Mod_judge_55 (by decide) (by omega) (by omega) (fun c4 => ?_) (fun c4 => ?_)
          · refine mv_iconst (z := 0) B d_Mod_judge_91 rfl ?_
            refine mv_istore (lv' := [(7, .int (iI (0))), (6, .int (iI (if ayB F b d k = true then 1 else 0))), (5, .int (iI (unR F b n))), (4, .int (iI ((n : Nat)))), (0, .ref r), (1, .int (iI (b))), (2, .int (iI ((d : Nat)))), (3, .int (iI (ar)))]) B d_Mod_judge_92 (by decide) rfl ?_
            have L94 : ∀ (fu : Nat) (k : Nat), ((k : Int) ≤ F 10 d) → ((F 10 d).toNat - k) < fu → mv_G X Q (kk V) 8 94 [(7, .int (iI ((k : Nat)))), (6, .int (iI (if (ayB F b d n && ijB F (unR F b n) d k) = true then 1 else 0))), (5, .int (iI (unR F b n))), (4, .int (iI ((n : Nat)))), (0, .ref r), (1, .int (iI (b))), (2, .int (iI ((d : Nat)))), (3, .int (iI (ar)))] [] M 0 0 := by
              intro fu
              induction fu with
              | zero => intro k hkn hm; exact absurd hm (Nat.not_lt_zero _)
              | succ fu ih94 =>
                intro k hkn hm
                have hiy := (hix hpt).2 k
                refine mv_iload B d_Mod_judge_94 0 rfl ?_
                refine mv_aloadR_n B d_Mod_judge_96 rfl 4 rfl ?_
                refine gf_Mod_40 B hC.1 rfl d_Mod_judge_97 ?_
                refine mv_iload_n B d_Mod_judge_100 rfl 6 rfl ?_
                refine ia_ld B k1_10 (by omega) (by omega) (by omega) d_Mod_judge_101 ?_
                rw [show Int.toNat ((d : Nat)) = d from by omega]
                have rr5 : R32 (F 10 d) := (hC.R 10) _
                refine mv_icmp_ge (tgt := 138) B d_Mod_judge_102 (by decide) (by omega) (by omega) (fun c6 => ?_) (fun c6 => ?_)
                · refine mv_iload B d_Mod_judge_138 1 rfl ?_
                  refine mv_if_eq (tgt := 147) B d_Mod_judge_140 (by decide) (by omega) (fun c7 => ?_) (fun c7 => ?_)
                  · have hfin : (ayB F b d n && ijB F (unR F b n) d k) = false := by
                      apply Bool.eq_false_iff.mpr
                      intro q
                      rw [if_pos q] at c7
                      omega
                    refine mv_iconst (z := 0) B d_Mod_judge_147 rfl ?_
                    rw [hQ]
                    have ek : k = (F 10 d).toNat := by omega
                    subst ek
                    exact mv_iret B ⟨by unfold jdR; rw [if_neg (by rw [hh0]; simp), if_neg (by rw [hpt]; simp)]; first | (rw [if_pos hfin]; done) | (rw [if_neg (by rw [hfin]; simp)]; done), rfl⟩ (by omega) (by omega) d_Mod_judge_148
                  · have hfin : (ayB F b d n && ijB F (unR F b n) d k) = true := by
                      apply Classical.byContradiction
                      intro q
                      rw [if_neg q] at c7
                      omega
                    refine mv_iconst (z := 2) B d_Mod_judge_143 rfl ?_
                    refine mv_goto (tgt := 148) B d_Mod_judge_144 (by decide) ?_
                    rw [hQ]
                    have ek : k = (F 10 d).toNat := by omega
                    subst ek
                    exact mv_iret B ⟨by unfold jdR; rw [if_neg (by rw [hh0]; simp), if_neg (by rw [hpt]; simp)]; first | (rw [if_pos hfin]; done) | (rw [if_neg (by rw [hfin]; simp)]; done), rfl⟩ (by omega) (by omega) d_Mod_judge_148
                · have hiy2 := hiy (by omega)
                  refine mv_iload B d_Mod_judge_105 1 rfl ?_
                  refine mv_aloadR_n B d_Mod_judge_107 rfl 4 rfl ?_
                  refine mv_aloadR_n B d_Mod_judge_108 rfl 4 rfl ?_
                  refine mv_iload B d_Mod_judge_109 2 rfl ?_
                  refine mv_iload_n B d_Mod_judge_111 rfl 6 rfl ?_
                  refine mv_iload B d_Mod_judge_112 0 rfl ?_
                  refine ca_Mod_119 (mc := 0) (ms := 0) (As := [.int (iI (unR F b n)), .int (iI ((d : Nat))), .int (iI ((k : Nat)))]) (rest := [.ref r, .int (iI (if (ayB F b d n && ijB F (unR F b n) d k) = true then 1 else 0))]) B (m_Mod_index hC hcap (b := unR F b n) (k := (k : Nat)) (d := d) (by omega) hd hpd (by omega) (fun j hj => (hix hpt).1 j (by omega))) rfl rfl ⟨Nat.le_of_ble_eq_true rfl, Nat.le_of_ble_eq_true rfl⟩ hC.1 rfl rfl (Nat.le_of_ble_eq_true rfl) d_Mod_judge_114 ⟨by omega, by omega⟩ (mv_x ?_)
                  show mv_G X Q (kk V) 8 117 [(7, .int (iI ((k : Nat)))), (6, .int (iI (if (ayB F b d n && ijB F (unR F b n) d k) = true then 1 else 0))), (5, .int (iI (unR F b n))), (4, .int (iI ((n : Nat)))), (0, .ref r), (1, .int (iI (b))), (2, .int (iI ((d : Nat)))), (3, .int (iI (ar)))] [.int (iI (ixR F (unR F b n + F 9 d + F 10 d + 1) (Int.toNat (F 9 d + ((k : Nat)))))), .ref r, .int (iI (if (ayB F b d n && ijB F (unR F b n) d k) = true then 1 else 0))] M 0 0
                  refine mv_iload_n B d_Mod_judge_117 rfl 6 rfl ?_
                  refine ca_Mod_111 (mc := 0) (ms := 0) (As := [.int (iI (ixR F (unR F b n + F 9 d + F 10 d + 1) (Int.toNat (F 9 d + ((k : Nat)))))), .int (iI ((d : Nat)))]) (rest := [.int (iI (if (ayB F b d n && ijB F (unR F b n) d k) = true then 1 else 0))]) B (m_Mod_has hC hcap (b := ixR F (unR F b n + F 9 d + F 10 d + 1) (Int.toNat (F 9 d + ((k : Nat))))) (d := ((d : Nat) : Int)) (by omega) (by omega) (by omega)) rfl rfl ⟨Nat.le_of_ble_eq_true rfl, Nat.le_of_ble_eq_true rfl⟩ hC.1 rfl rfl (Nat.le_of_ble_eq_true rfl) d_Mod_judge_118 ⟨by omega, by omega⟩ (mv_x ?_)
                  show mv_G X Q (kk V) 8 121 [(7, .int (iI ((k : Nat)))), (6, .int (iI (if (ayB F b d n && ijB F (unR F b n) d k) = true then 1 else 0))), (5, .int (iI (unR F b n))), (4, .int (iI ((n : Nat)))), (0, .ref r), (1, .int (iI (b))), (2, .int (iI ((d : Nat)))), (3, .int (iI (ar)))] [.int (iI (if hsB F ((d : Nat) : Int) (ixR F (unR F b n + F 9 d + F 10 d + 1) (Int.toNat (F 9 d + ((k : Nat))))) (Int.toNat (F 3 (Int.toNat (ixR F (unR F b n + F 9 d + F 10 d + 1) (Int.toNat (F 9 d + ((k : Nat)))))))) = true then 1 else 0)), .int (iI (if (ayB F b d n && ijB F (unR F b n) d k) = true then 1 else 0))] M 0 0
                  refine mv_if_ne (tgt := 128) B d_Mod_judge_121 (by decide) (by omega) (fun c8 => ?_) (fun c8 => ?_)
                  · have hh1 : hsB F ((d : Nat) : Int) (ixR F (unR F b n + F 9 d + F 10 d + 1) (Int.toNat (F 9 d + (k : Nat)))) (Int.toNat (F 3 (Int.toNat (ixR F (unR F b n + F 9 d + F 10 d + 1) (Int.toNat (F 9 d + (k : Nat))))))) = true := by
                      apply Classical.byContradiction
                      intro q
                      rw [if_neg q] at c8
                      omega
                    refine mv_iconst (z := 0) B d_Mod_judge_128 rfl ?_
                    refine mv_iand B (by first | omega | (split <;> omega)) (by omega) d_Mod_judge_129 ?_
                    refine mv_istore (lv' := [(6, .int (iI (if (if (ayB F b d n && ijB F (unR F b n) d k) = true then 1 else 0) = 1 ∧ 0 = 1 then 1 else 0))), (7, .int (iI ((k : Nat)))), (5, .int (iI (unR F b n))), (4, .int (iI ((n : Nat)))), (0, .ref r), (1, .int (iI (b))), (2, .int (iI ((d : Nat)))), (3, .int (iI (ar)))]) B d_Mod_judge_130 (by decide) rfl ?_
                    refine mv_iinc (lv' := [(7, .int (iI ((k : Nat) + 1))), (6, .int (iI (if (if (ayB F b d n && ijB F (unR F b n) d k) = true then 1 else 0) = 1 ∧ 0 = 1 then 1 else 0))), (5, .int (iI (unR F b n))), (4, .int (iI ((n : Nat)))), (0, .ref r), (1, .int (iI (b))), (2, .int (iI ((d : Nat)))), (3, .int (iI (ar)))]) B d_Mod_judge_132 1 rfl (by decide) rfl ?_
                    refine mv_goto (tgt := 94) B d_Mod_judge_135 (by decide) ?_
                    refine mv_lv (lv' := [(7, .int (iI (((k + 1) : Nat)))), (6, .int (iI (if (ayB F b d n && ijB F (unR F b n) d (k + 1)) = true then 1 else 0))), (5, .int (iI (unR F b n))), (4, .int (iI ((n : Nat)))), (0, .ref r), (1, .int (iI (b))), (2, .int (iI ((d : Nat)))), (3, .int (iI (ar)))]) [0, 1, 2, 3, 4, 5, 6, 7] (lc (lI (by first | rfl | omega)) (lc (lI (by rw [ijB_s, ← Bool.and_assoc]; refine bz_and ?_; first | (rw [if_pos (by rw [hh1]; rfl)]; done) | (rw [if_neg (by rw [hh1]; simp)]; done))) (lc rfl (lc rfl (lc rfl (lc rfl (lc rfl (lc rfl rfl)))))))) ?_
                    exact ih94 (k + 1) (by omega) (by omega)
                  · have hh1 : hsB F ((d : Nat) : Int) (ixR F (unR F b n + F 9 d + F 10 d + 1) (Int.toNat (F 9 d + (k : Nat)))) (Int.toNat (F 3 (Int.toNat (ixR F (unR F b n + F 9 d + F 10 d + 1) (Int.toNat (F 9 d + (k : Nat))))))) = false := by
                      apply Bool.eq_false_iff.mpr
                      intro q
                      rw [if_pos q] at c8
                      omega
                    refine mv_iconst (z := 1) B d_Mod_judge_124 rfl ?_
                    refine mv_goto (tgt := 129) B d_Mod_judge_125 (by decide) ?_
                    refine mv_iand B (by first | omega | (split <;> omega)) (by omega) d_Mod_judge_129 ?_
                    refine mv_istore (lv' := [(6, .int (iI (if (if (ayB F b d n && ijB F (unR F b n) d k) = true then 1 else 0) = 1 ∧ 1 = 1 then 1 else 0))), (7, .int (iI ((k : Nat)))), (5, .int (iI (unR F b n))), (4, .int (iI ((n : Nat)))), (0, .ref r), (1, .int (iI (b))), (2, .int (iI ((d : Nat)))), (3, .int (iI (ar)))]) B d_Mod_judge_130 (by decide) rfl ?_
                    refine mv_iinc (lv' := [(7, .int (iI ((k : Nat) + 1))), (6, .int (iI (if (if (ayB F b d n && ijB F (unR F b n) d k) = true then 1 else 0) = 1 ∧ 1 = 1 then 1 else 0))), (5, .int (iI (unR F b n))), (4, .int (iI ((n : Nat)))), (0, .ref r), (1, .int (iI (b))), (2, .int (iI ((d : Nat)))), (3, .int (iI (ar)))]) B d_Mod_judge_132 1 rfl (by decide) rfl ?_
                    refine mv_goto (tgt := 94) B d_Mod_judge_135 (by decide) ?_
                    refine mv_lv (lv' := [(7, .int (iI (((k + 1) : Nat)))), (6, .int (iI (if (ayB F b d n && ijB F (unR F b n) d (k + 1)) = true then 1 else 0))), (5, .int (iI (unR F b n))), (4, .int (iI ((n : Nat)))), (0, .ref r), (1, .int (iI (b))), (2, .int (iI ((d : Nat)))), (3, .int (iI (ar)))]) [0, 1, 2, 3, 4, 5, 6, 7] (lc (lI (by first | rfl | omega)) (lc (lI (by rw [ijB_s, ← Bool.and_assoc]; refine bz_and ?_; first | (rw [if_pos (by rw [hh1]; rfl)]; done) | (rw [if_neg (by rw [hh1]; simp)]; done))) (lc rfl (lc rfl (lc rfl (lc rfl (lc rfl (lc rfl rfl)))))))) ?_
                    exact ih94 (k + 1) (by omega) (by omega)
            refine mv_lv (lv' := [(7, .int (iI ((0 : Nat)))), (6, .int (iI (if (ayB F b d n && ijB F (unR F b n) d 0) = true then 1 else 0))), (5, .int (iI (unR F b n))), (4, .int (iI ((n : Nat)))), (0, .ref r), (1, .int (iI (b))), (2, .int (iI ((d : Nat)))), (3, .int (iI (ar)))]) [0, 1, 2, 3, 4, 5, 6, 7] (lc (lI (by first | rfl | omega)) (lc (lI (by rw [show ijB F (unR F b n) d 0 = true from rfl, Bool.and_true, show k = n by omega])) (lc rfl (lc rfl (lc rfl (lc rfl (lc rfl (lc rfl rfl)))))))) ?_
            exact L94 _ 0 (by omega) (Nat.lt_succ_self _)
          · have hal2 := hal1 (by omega)
            refine mv_iload B d_Mod_judge_58 1 rfl ?_
            refine mv_aloadR_n B d_Mod_judge_60 rfl 4 rfl ?_
            refine mv_aloadR_n B d_Mod_judge_61 rfl 4 rfl ?_
            refine mv_iload_n B d_Mod_judge_62 rfl 5 rfl ?_
            refine mv_iload B d_Mod_judge_63 0 rfl ?_
            refine ca_Mod_107 (mc := 0) (ms := 0) (As := [.int (iI (b)), .int (iI ((k : Nat)))]) (rest := [.ref r, .int (iI (if ayB F b d k = true then 1 else 0))]) B (m_Mod_under hC hcap (b := b) (n := (k : Nat)) (by omega) (fun j hj => by have := hp j (by omega); omega)) rfl rfl ⟨Nat.le_of_ble_eq_true rfl, Nat.le_of_ble_eq_true rfl⟩ hC.1 rfl rfl (Nat.le_of_ble_eq_true rfl) d_Mod_judge_65 ⟨by omega, by omega⟩ (mv_x ?_)
            show mv_G X Q (kk V) 8 68 [(7, .int (iI ((k : Nat)))), (6, .int (iI (if ayB F b d k = true then 1 else 0))), (5, .int (iI (unR F b n))), (4, .int (iI ((n : Nat)))), (0, .ref r), (1, .int (iI (b))), (2, .int (iI ((d : Nat)))), (3, .int (iI (ar)))] [.int (iI (unR F b k)), .ref r, .int (iI (if ayB F b d k = true then 1 else 0))] M 0 0
            refine mv_iconst (z := 1) B d_Mod_judge_68 rfl ?_
            refine mv_iadd B d_Mod_judge_69 ?_
            refine mv_iload_n B d_Mod_judge_70 rfl 6 rfl ?_
            refine ca_Mod_111 (mc := 0) (ms := 0) (As := [.int (iI ((unR F b k) + 1)), .int (iI ((d : Nat)))]) (rest := [.int (iI (if ayB F b d k = true then 1 else 0))]) B (m_Mod_has hC hcap (b := (unR F b k) + 1) (d := ((d : Nat) : Int)) (by omega) (by omega) (by omega)) rfl rfl ⟨Nat.le_of_ble_eq_true rfl, Nat.le_of_ble_eq_true rfl⟩ hC.1 rfl rfl (Nat.le_of_ble_eq_true rfl) d_Mod_judge_71 ⟨by omega, by omega⟩ (mv_x ?_)
            show mv_G X Q (kk V) 8 74 [(7, .int (iI ((k : Nat)))), (6, .int (iI (if ayB F b d k = true then 1 else 0))), (5, .int (iI (unR F b n))), (4, .int (iI ((n : Nat)))), (0, .ref r), (1, .int (iI (b))), (2, .int (iI ((d : Nat)))), (3, .int (iI (ar)))] [.int (iI (if hsB F ((d : Nat) : Int) ((unR F b k) + 1) (Int.toNat (F 3 (Int.toNat ((unR F b k) + 1)))) = true then 1 else 0)), .int (iI (if ayB F b d k = true then 1 else 0))] M 0 0
            refine mv_if_ne (tgt := 81) B d_Mod_judge_74 (by decide) (by omega) (fun c9 => ?_) (fun c9 => ?_)
            · have hh1 : hsB F ((d : Nat) : Int) (unR F b k + 1) (Int.toNat (F 3 (Int.toNat (unR F b k + 1)))) = true := by
                apply Classical.byContradiction
                intro q
                rw [if_neg q] at c9
                omega
              refine mv_iconst (z := 0) B d_Mod_judge_81 rfl ?_
              refine mv_iand B (by first | omega | (split <;> omega)) (by omega) d_Mod_judge_82 ?_
              refine mv_istore (lv' := [(6, .int (iI (if (if ayB F b d k = true then 1 else 0) = 1 ∧ 0 = 1 then 1 else 0))), (7, .int (iI ((k : Nat)))), (5, .int (iI (unR F b n))), (4, .int (iI ((n : Nat)))), (0, .ref r), (1, .int (iI (b))), (2, .int (iI ((d : Nat)))), (3, .int (iI (ar)))]) B d_Mod_judge_83 (by decide) rfl ?_
              refine mv_iinc (lv' := [(7, .int (iI ((k : Nat) + 1))), (6, .int (iI (if (if ayB F b d k = true then 1 else 0) = 1 ∧ 0 = 1 then 1 else 0))), (5, .int (iI (unR F b n))), (4, .int (iI ((n : Nat)))), (0, .ref r), (1, .int (iI (b))), (2, .int (iI ((d : Nat)))), (3, .int (iI (ar)))]) B d_Mod_judge_85 1 rfl (by decide) rfl ?_
              refine mv_goto (tgt := 51) B d_Mod_judge_88 (by decide) ?_
              refine mv_lv (lv' := [(7, .int (iI (((k + 1) : Nat)))), (6, .int (iI (if ayB F b d (k + 1) = true then 1 else 0))), (5, .int (iI (unR F b n))), (4, .int (iI ((n : Nat)))), (0, .ref r), (1, .int (iI (b))), (2, .int (iI ((d : Nat)))), (3, .int (iI (ar)))]) [0, 1, 2, 3, 4, 5, 6, 7] (lc (lI (by first | rfl | omega)) (lc (lI (by rw [ayB_s]; refine bz_and ?_; first | (rw [if_pos (by rw [hh1]; rfl)]; done) | (rw [if_neg (by rw [hh1]; simp)]; done))) (lc rfl (lc rfl (lc rfl (lc rfl (lc rfl (lc rfl rfl)))))))) ?_
              exact ih51 (k + 1) (by omega) (by omega)
            · have hh1 : hsB F ((d : Nat) : Int) (unR F b k + 1) (Int.toNat (F 3 (Int.toNat (unR F b k + 1)))) = false := by
                apply Bool.eq_false_iff.mpr
                intro q
                rw [if_pos q] at c9
                omega
              refine mv_iconst (z := 1) B d_Mod_judge_77 rfl ?_
              refine mv_goto (tgt := 82) B d_Mod_judge_78 (by decide) ?_
              refine mv_iand B (by first | omega | (split <;> omega)) (by omega) d_Mod_judge_82 ?_
              refine mv_istore (lv' := [(6, .int (iI (if (if ayB F b d k = true then 1 else 0) = 1 ∧ 1 = 1 then 1 else 0))), (7, .int (iI ((k : Nat)))), (5, .int (iI (unR F b n))), (4, .int (iI ((n : Nat)))), (0, .ref r), (1, .int (iI (b))), (2, .int (iI ((d : Nat)))), (3, .int (iI (ar)))]) B d_Mod_judge_83 (by decide) rfl ?_
              refine mv_iinc (lv' := [(7, .int (iI ((k : Nat) + 1))), (6, .int (iI (if (if ayB F b d k = true then 1 else 0) = 1 ∧ 1 = 1 then 1 else 0))), (5, .int (iI (unR F b n))), (4, .int (iI ((n : Nat)))), (0, .ref r), (1, .int (iI (b))), (2, .int (iI ((d : Nat)))), (3, .int (iI (ar)))]) B d_Mod_judge_85 1 rfl (by decide) rfl ?_
              refine mv_goto (tgt := 51) B d_Mod_judge_88 (by decide) ?_
              refine mv_lv (lv' := [(7, .int (iI (((k + 1) : Nat)))), (6, .int (iI (if ayB F b d (k + 1) = true then 1 else 0))), (5, .int (iI (unR F b n))), (4, .int (iI ((n : Nat)))), (0, .ref r), (1, .int (iI (b))), (2, .int (iI ((d : Nat)))), (3, .int (iI (ar)))]) [0, 1, 2, 3, 4, 5, 6, 7] (lc (lI (by first | rfl | omega)) (lc (lI (by rw [ayB_s]; refine bz_and ?_; first | (rw [if_pos (by rw [hh1]; rfl)]; done) | (rw [if_neg (by rw [hh1]; simp)]; done))) (lc rfl (lc rfl (lc rfl (lc rfl (lc rfl (lc rfl rfl)))))))) ?_
              exact ih51 (k + 1) (by omega) (by omega)
      refine mv_lv (lv' := [(7, .int (iI ((0 : Nat)))), (6, .int (iI (if ayB F b d 0 = true then 1 else 0))), (5, .int (iI (unR F b n))), (4, .int (iI ((n : Nat)))), (0, .ref r), (1, .int (iI (b))), (2, .int (iI ((d : Nat)))), (3, .int (iI (ar)))]) [0, 1, 2, 3, 4, 5, 6, 7] (lc (lI (by first | rfl | omega)) (lc (lI (by rfl)) (lc rfl (lc rfl (lc rfl (lc rfl (lc rfl (lc rfl rfl)))))))) ?_
      exact L51 _ 0 (by omega) (Nat.lt_succ_self _)
    · have hpt : isPR F d (unR F b n) a (ar + (n : Nat) - 1) = false := by
        apply Bool.eq_false_iff.mpr
        intro q
        rw [if_pos q] at c3
        omega
      refine mv_iconst (z := 0) B d_Mod_judge_43 rfl ?_
      rw [hQ]
      exact mv_iret B ⟨by unfold jdR; rw [if_neg (by rw [hh0]; simp), if_pos hpt], rfl⟩ (by omega) (by omega) d_Mod_judge_44
  · have hh0 : hsB F ((d : Nat) : Int) (b) (Int.toNat (F 3 (Int.toNat (b)))) = false := by
      apply Bool.eq_false_iff.mpr
      intro q
      rw [if_pos q] at c2
      omega
    refine mv_iconst (z := 1) B d_Mod_judge_9 rfl ?_
    rw [hQ]
    exact mv_iret B ⟨by unfold jdR; rw [if_pos hh0], rfl⟩ (by omega) (by omega) d_Mod_judge_10
