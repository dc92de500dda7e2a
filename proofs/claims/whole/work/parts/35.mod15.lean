/-! the reference: positive, leaf -/
def JOK (F : Nat → Nat → Int) (cap : Nat) (b ar : Int) (d n a : Nat) : Prop := (0 ≤ b ∧ 0 ≤ F 3 b.toNat ∧ b + F 3 b.toNat ≤ cap ∧ b < cap) ∧ (n ≤ 1000) ∧ (∀ j, j < n → F 0 (unR F b j).toNat = 6) ∧ (¬ F 0 (unR F b n).toNat = 6) ∧ (∀ j, j ≤ n → 0 ≤ unR F b j ∧ unR F b j < cap ∧ (j < n → unR F b j + 1 < cap)) ∧ (unR F b n + a + 1 ≤ cap) ∧ (∀ j, j < a → F 0 (unR F b n + (j : Nat)).toNat = 4) ∧ (¬ F 0 (unR F b n + (a : Nat)).toNat = 4) ∧ (d < 100) ∧ (0 ≤ F 9 d ∧ F 9 d ≤ 1000 ∧ 0 ≤ F 10 d ∧ F 10 d ≤ 1000) ∧ ((a : Int) = F 9 d + F 10 d → unR F b n + a + 1 + F 9 d ≤ cap) ∧ (pvO F d (unR F b n) a (ar + (n : Nat) - 1)) ∧ (0 ≤ ar ∧ ar ≤ 1000000) ∧ (∀ k, k < n → 0 ≤ F 3 (unR F b k + 1).toNat ∧ unR F b k + 1 + F 3 (unR F b k + 1).toNat ≤ cap) ∧ (isPR F d (unR F b n) a (ar + (n : Nat) - 1) = true → (∀ j : Nat, (j : Int) < F 9 d + F 10 d → 0 ≤ ixR F (unR F b n + F 9 d + F 10 d + 1) j ∧ ixR F (unR F b n + F 9 d + F 10 d + 1) j < cap) ∧ (∀ k : Nat, (k : Int) < F 10 d → 0 ≤ ixR F (unR F b n + F 9 d + F 10 d + 1) (F 9 d + (k : Nat)).toNat ∧ 0 ≤ F 3 (ixR F (unR F b n + F 9 d + F 10 d + 1) (F 9 d + (k : Nat)).toNat).toNat ∧ ixR F (unR F b n + F 9 d + F 10 d + 1) (F 9 d + (k : Nat)).toNat + F 3 (ixR F (unR F b n + F 9 d + F 10 d + 1) (F 9 d + (k : Nat)).toNat).toNat ≤ cap ∧ ixR F (unR F b n + F 9 d + F 10 d + 1) (F 9 d + (k : Nat)).toNat < cap))
theorem m_Mod_judgeJ {l : Launch} {V : mv_V} {M : mv_M} {r cap lq : Nat} {A : Nat → Nat} {F : Nat → Nat → Int} {c tn gn : Int} (hC : RefC V M r A (rN cap lq) F c tn gn) (hcap : cap ≤ 1000000) {b ar : Int} {d n a : Nat} (hJ : JOK F cap b ar d n a) : Met l y_Mod_judge ws_Mod_judge (rM 2 0 0 45) (mv_Pre (kk V) [.ref r, .int (iI (b)), .int (iI ((d : Nat))), .int (iI (ar))] M) (mv_Q (kk V) (mv_R (some (.int (iI (jdR F b d ar n a)))) M)) 0 0 V.2.2.2.2 := m_Mod_judge hC hcap hJ.1 hJ.2.1 hJ.2.2.1 hJ.2.2.2.1 hJ.2.2.2.2.1 hJ.2.2.2.2.2.1 hJ.2.2.2.2.2.2.1 hJ.2.2.2.2.2.2.2.1 hJ.2.2.2.2.2.2.2.2.1 hJ.2.2.2.2.2.2.2.2.2.1 hJ.2.2.2.2.2.2.2.2.2.2.1 hJ.2.2.2.2.2.2.2.2.2.2.2.1 hJ.2.2.2.2.2.2.2.2.2.2.2.2.1 hJ.2.2.2.2.2.2.2.2.2.2.2.2.2.1 hJ.2.2.2.2.2.2.2.2.2.2.2.2.2.2
def tmE (V : mv_V) (M' : mv_M) (r : Nat) (A : Nat → Nat) (cap lq : Nat) (F : Nat → Nat → Int) (b n : Nat) (ℓ : Nat → Nat) (c tn gn : Int) : Prop := ((tn = 1500 ∨ 1000 < n ∨ 30000 < b + n) ∧ RefC V M' r A (rN cap lq) F (b : Nat) tn gn) ∨ (¬ (tn = 1500 ∨ 1000 < n ∨ 30000 < b + n) ∧ RefC V M' r A (rN cap lq) (va_up (va_up F 3 (msR (F 3) b n ℓ n)) 5 (va_up (F 5) tn.toNat (b : Nat))) c (tn + 1) gn)
theorem tm_v {V : mv_V} {M' : mv_M} {r : Nat} {A : Nat → Nat} {cap lq : Nat} {F : Nat → Nat → Int} {b n : Nat} {ℓ : Nat → Nat} {c tn gn : Int} {z0 : Option Value} (h : ((tn = 1500 ∨ 1000 < n ∨ 30000 < b + n) ∧ z0 = some (.int (iI (-1))) ∧ RefC V M' r A (rN cap lq) F (b : Nat) tn gn) ∨ (¬ (tn = 1500 ∨ 1000 < n ∨ 30000 < b + n) ∧ z0 = some (.int (iI tn)) ∧ RefC V M' r A (rN cap lq) (va_up (va_up F 3 (msR (F 3) b n ℓ n)) 5 (va_up (F 5) tn.toNat (b : Nat))) c (tn + 1) gn)) : z0 = some (.int (iI (if (tn = 1500 ∨ 1000 < n ∨ 30000 < b + n) then -1 else tn))) ∧ tmE V M' r A cap lq F b n ℓ c tn gn := by
  rcases h with ⟨h1, h2, h3⟩ | ⟨h1, h2, h3⟩
  · exact ⟨by rw [if_pos h1]; exact h2, Or.inl ⟨h1, h3⟩⟩
  · exact ⟨by rw [if_neg h1]; exact h2, Or.inr ⟨h1, h3⟩⟩
theorem wf1 {k : Nat → Int} (h : k 0 < 4) : WF 1 k (fun _ => 1) := by
  intro i hi
  have : i = 0 := by omega
  subst this
  exact ⟨Nat.le_refl _, Nat.le_refl _, fun _ => rfl, fun q => absurd q (by omega)⟩
set_option maxRecDepth 100000 in
set_option maxHeartbeats 4000000 in
theorem m_Mod_positive {l : Launch} {V : mv_V} {M : mv_M} {r cap lq : Nat} {A : Nat → Nat} {F : Nat → Nat → Int} {c tn gn : Int} (hC : RefC V M r A (rN cap lq) F c tn gn) (hcap : cap ≤ 1000000) {g t ar : Int} {n a : Nat} (hgt : (0 ≤ gn ∧ gn ≤ 100) ∧ 0 ≤ tn ∧ tn ≤ 1500) (rg : R32 g) (rt : R32 t) (rar : R32 ar) (hJ : 0 ≤ g ∧ g < gn ∧ F 6 g.toNat = 3 ∧ 0 ≤ t ∧ t < tn ∧ 0 ≤ ar ∧ ar ≤ 100 → JOK F cap (F 5 t.toNat) (F 9 g.toNat + ar) g.toNat n a) : Met l y_Mod_positive ws_Mod_positive (rM 3 0 0 90) (mv_Pre (kk V) [.ref r, .int (iI (g)), .int (iI (t)), .int (iI (ar))] M) (mv_Q (kk V) (mv_R (some (.int (iI (if 0 ≤ g ∧ g < gn ∧ F 6 g.toNat = 3 ∧ 0 ≤ t ∧ t < tn ∧ 0 ≤ ar ∧ ar ≤ 100 then jdR F (F 5 t.toNat) g.toNat (F 9 g.toNat + ar) n a else -1)))) M)) 0 0 V.2.2.2.2 := by
  refine mv_Met (by decide) rfl (Nat.le_of_ble_eq_true rfl) (fun X hX B => ?_)
  subst hX
  replace B : mv_B X (kk V) c_Mod_positive ws_Mod_positive "FamilyRulesModel" 4 (Option.some Jvm.ClassFile.FieldType.int) (rM 3 0 0 90) "positive" := B
  obtain ⟨Q, hQ⟩ : ∃ Q, Q = mv_E X (kk V) (mv_R (some (.int (iI (if 0 ≤ g ∧ g < gn ∧ F 6 g.toNat = 3 ∧ 0 ≤ t ∧ t < tn ∧ 0 ≤ ar ∧ ar ≤ 100 then jdR F (F 5 t.toNat) g.toNat (F 9 g.toNat + ar) n a else -1)))) M) 0 0 := ⟨_, rfl⟩
  rw [← hQ]
  show mv_G X Q (kk V) 4 0 [(0, .ref r), (1, .int (iI (g))), (2, .int (iI (t))), (3, .int (iI (ar)))] [] M 0 0
  have h9 := fun x => hC.2.2.2.2.1 9 x
  have k1_5 : M (A 5) = some (iA V (1500) (F 5)) := hC.2.1 5 (by decide)
  have k1_6 : M (A 6) = some (iA V (100) (F 6)) := hC.2.1 6 (by decide)
  have k1_9 : M (A 9) = some (iA V (100) (F 9)) := hC.2.1 9 (by decide)
  refine mv_iload_n B d_Mod_positive_0 rfl 1 rfl ?_
  refine mv_if_lt (tgt := 40) B d_Mod_positive_1 (by decide) (by first | omega | (split <;> omega)) (fun c2 => ?_) (fun c2 => ?_)
  · refine mv_iconst (z := -1) B d_Mod_positive_40 rfl ?_
    rw [hQ]
    exact mv_iret B ⟨(by first | (rw [if_pos (by omega)]; done) | (rw [if_neg (by omega)]; done)), rfl⟩ (by omega) (by omega) d_Mod_positive_41
  · refine mv_iload_n B d_Mod_positive_4 rfl 1 rfl ?_
    refine mv_aloadR_n B d_Mod_positive_5 rfl 0 rfl ?_
    refine gf_Mod_81 B hC.1 rfl d_Mod_positive_6 ?_
    refine mv_icmp_ge (tgt := 40) B d_Mod_positive_9 (by decide) (by first | omega | (split <;> omega)) (by first | omega | (split <;> omega)) (fun c3 => ?_) (fun c3 => ?_)
    · refine mv_iconst (z := -1) B d_Mod_positive_40 rfl ?_
      rw [hQ]
      exact mv_iret B ⟨(by first | (rw [if_pos (by omega)]; done) | (rw [if_neg (by omega)]; done)), rfl⟩ (by omega) (by omega) d_Mod_positive_41
    · refine mv_aloadR_n B d_Mod_positive_12 rfl 0 rfl ?_
      refine gf_Mod_28 B hC.1 rfl d_Mod_positive_13 ?_
      refine mv_iload_n B d_Mod_positive_16 rfl 1 rfl ?_
      refine ia_ld B k1_6 (by first | omega | (split <;> omega)) (by omega) (by omega) d_Mod_positive_17 ?_
      have rr4 : R32 (F 6 (Int.toNat (g))) := (hC.R 6) _
      refine mv_iconst (z := 3) B d_Mod_positive_18 rfl ?_
      refine mv_icmp_ne (tgt := 40) B d_Mod_positive_19 (by decide) (by first | omega | (split <;> omega)) (by first | omega | (split <;> omega)) (fun c5 => ?_) (fun c5 => ?_)
      · refine mv_iconst (z := -1) B d_Mod_positive_40 rfl ?_
        rw [hQ]
        exact mv_iret B ⟨(by first | (rw [if_pos (by omega)]; done) | (rw [if_neg (by omega)]; done)), rfl⟩ (by omega) (by omega) d_Mod_positive_41
      · refine mv_aloadR_n B d_Mod_positive_22 rfl 0 rfl ?_
        refine mv_iload_n B d_Mod_positive_23 rfl 2 rfl ?_
        refine ca_Mod_90 (mc := 0) (ms := 0) (As := [.int (iI (t))]) (rest := []) B (m_Mod_isTerm hC hcap (i := t) (by omega) (by omega)) rfl rfl ⟨Nat.le_of_ble_eq_true rfl, Nat.le_of_ble_eq_true rfl⟩ hC.1 rfl rfl (Nat.le_of_ble_eq_true rfl) d_Mod_positive_24 ⟨by omega, by omega⟩ (mv_x ?_)
        show mv_G X Q (kk V) 4 27 [(0, .ref r), (1, .int (iI (g))), (2, .int (iI (t))), (3, .int (iI (ar)))] [.int (iI (if 0 ≤ t ∧ t < tn then 1 else 0))] M 0 0
        refine mv_if_eq (tgt := 40) B d_Mod_positive_27 (by decide) (by first | omega | (split <;> omega)) (fun c6 => ?_) (fun c6 => ?_)
        · have htt : ¬ (0 ≤ t ∧ t < tn) := by
            intro q
            rw [if_pos q] at c6
            omega
          refine mv_iconst (z := -1) B d_Mod_positive_40 rfl ?_
          rw [hQ]
          exact mv_iret B ⟨(by first | (rw [if_pos (by omega)]; done) | (rw [if_neg (by omega)]; done)), rfl⟩ (by omega) (by omega) d_Mod_positive_41
        · have htt : 0 ≤ t ∧ t < tn := by
            apply Classical.byContradiction
            intro q
            rw [if_neg q] at c6
            omega
          refine mv_iload_n B d_Mod_positive_30 rfl 3 rfl ?_
          refine mv_if_lt (tgt := 40) B d_Mod_positive_31 (by decide) (by first | omega | (split <;> omega)) (fun c7 => ?_) (fun c7 => ?_)
          · refine mv_iconst (z := -1) B d_Mod_positive_40 rfl ?_
            rw [hQ]
            exact mv_iret B ⟨(by first | (rw [if_pos (by omega)]; done) | (rw [if_neg (by omega)]; done)), rfl⟩ (by omega) (by omega) d_Mod_positive_41
          · refine mv_iload_n B d_Mod_positive_34 rfl 3 rfl ?_
            refine mv_bipush (z := 100) B d_Mod_positive_35 (by decide) ?_
            refine mv_icmp_le (tgt := 42) B d_Mod_positive_37 (by decide) (by first | omega | (split <;> omega)) (by first | omega | (split <;> omega)) (fun c8 => ?_) (fun c8 => ?_)
            · rw [show iI g = iI ((g.toNat : Nat) : Int) by rw [show ((g.toNat : Nat) : Int) = g by omega]]
              refine mv_aloadR_n B d_Mod_positive_42 rfl 0 rfl ?_
              refine mv_aloadR_n B d_Mod_positive_43 rfl 0 rfl ?_
              refine gf_Mod_25 B hC.1 rfl d_Mod_positive_44 ?_
              refine mv_iload_n B d_Mod_positive_47 rfl 2 rfl ?_
              refine ia_ld B k1_5 (by first | omega | (split <;> omega)) (by omega) (by omega) d_Mod_positive_48 ?_
              have rr9 : R32 (F 5 (Int.toNat (t))) := (hC.R 5) _
              refine mv_iload_n B d_Mod_positive_49 rfl 1 rfl ?_
              refine mv_aloadR_n B d_Mod_positive_50 rfl 0 rfl ?_
              refine gf_Mod_37 B hC.1 rfl d_Mod_positive_51 ?_
              refine mv_iload_n B d_Mod_positive_54 rfl 1 rfl ?_
              refine ia_ld B k1_9 (by first | omega | (split <;> omega)) (by omega) (by omega) d_Mod_positive_55 ?_
              have rr10 : R32 (F 9 (Int.toNat ((g.toNat : Nat)))) := (hC.R 9) _
              refine mv_iload_n B d_Mod_positive_56 rfl 3 rfl ?_
              refine mv_iadd B d_Mod_positive_57 ?_
              refine ca_Mod_122 (mc := 0) (ms := 0) (As := [.int (iI (F 5 (Int.toNat (t)))), .int (iI ((g.toNat : Nat))), .int (iI ((F 9 (Int.toNat ((g.toNat : Nat)))) + ar))]) (rest := []) B (m_Mod_judgeJ hC hcap (b := F 5 t.toNat) (d := g.toNat) (ar := F 9 g.toNat + ar) (n := n) (a := a) (hJ (by omega))) rfl rfl ⟨Nat.le_of_ble_eq_true rfl, Nat.le_of_ble_eq_true rfl⟩ hC.1 rfl rfl (Nat.le_of_ble_eq_true rfl) d_Mod_positive_58 ⟨by omega, by omega⟩ (mv_x ?_)
              show mv_G X Q (kk V) 4 61 [(0, .ref r), (1, .int (iI ((g.toNat : Nat)))), (2, .int (iI (t))), (3, .int (iI (ar)))] [.int (iI (jdR F (F 5 t.toNat) g.toNat (F 9 g.toNat + ar) n a))] M 0 0
              rw [hQ]
              exact mv_iret B ⟨(by first | (rw [if_pos (by omega)]; done) | (rw [if_neg (by omega)]; done)), rfl⟩ (by omega) (by omega) d_Mod_positive_61
            · refine mv_iconst (z := -1) B d_Mod_positive_40 rfl ?_
              rw [hQ]
              exact mv_iret B ⟨(by first | (rw [if_pos (by omega)]; done) | (rw [if_neg (by omega)]; done)), rfl⟩ (by omega) (by omega) d_Mod_positive_41
set_option maxRecDepth 100000 in
set_option maxHeartbeats 4000000 in
theorem m_Mod_leaf {l : Launch} {V : mv_V} {M : mv_M} {r cap lq c : Nat} {A : Nat → Nat} {F : Nat → Nat → Int} {tn gn : Int} (hC : RefC V M r A (rN cap lq) F (c : Nat) tn gn) (hcc : c ≤ cap) (hcap0 : 1 ≤ cap) (hcap : cap ≤ 500000) {k a b : Int} (hgt : (0 ≤ gn ∧ gn ≤ 100) ∧ 0 ≤ tn ∧ tn ≤ 1500) (rk : R32 k) (ra : R32 a) (rb : R32 b) : Met l y_Mod_leaf ws_Mod_leaf (rM 3 (pC (capL cap c (1)) lq - pC cap lq) (pS (capL cap c (1)) lq - pS cap lq) 110) (mv_Pre (kk V) [.ref r, .int (iI (k)), .int (iI (a)), .int (iI (b))] M) (mv_Q (kk V) (fun z0 M' => z0 = some (.int (iI (if (((k = 0 ∨ k = 2) ∧ 0 ≤ a ∧ a ≤ 100 ∧ b = 0) ∨ (k = 1 ∧ 0 ≤ a ∧ a < gn ∧ b = 0) ∨ (k = 3 ∧ 0 ≤ a ∧ a < gn ∧ F 6 a.toNat = 3 ∧ 0 ≤ b ∧ b ≤ 100)) then (if (tn = 1500 ∨ 1000 < 1 ∨ 30000 < c + 1) then -1 else tn) else -1))) ∧ ((¬ (((k = 0 ∨ k = 2) ∧ 0 ≤ a ∧ a ≤ 100 ∧ b = 0) ∨ (k = 1 ∧ 0 ≤ a ∧ a < gn ∧ b = 0) ∨ (k = 3 ∧ 0 ≤ a ∧ a < gn ∧ F 6 a.toNat = 3 ∧ 0 ≤ b ∧ b ≤ 100)) ∧ RefC V M' r A (rN cap lq) F (c : Nat) tn gn) ∨ ((((k = 0 ∨ k = 2) ∧ 0 ≤ a ∧ a ≤ 100 ∧ b = 0) ∨ (k = 1 ∧ 0 ≤ a ∧ a < gn ∧ b = 0) ∨ (k = 3 ∧ 0 ≤ a ∧ a < gn ∧ F 6 a.toNat = 3 ∧ 0 ≤ b ∧ b ≤ 100)) ∧ ∃ A', tmE V M' r A' (capL cap c 1) lq (appF F c [(k, a, b)]) c 1 (fun _ => 1) ((c + (1) : Nat) : Int) tn gn)))) (pC (capL cap c (1)) lq - pC cap lq) (pS (capL cap c (1)) lq - pS cap lq) V.2.2.2.2 := by
  refine mv_Met (by decide) rfl (Nat.le_of_ble_eq_true rfl) (fun X hX B => ?_)
  subst hX
  replace B : mv_B X (kk V) c_Mod_leaf ws_Mod_leaf "FamilyRulesModel" 6 (Option.some Jvm.ClassFile.FieldType.int) (rM 3 (pC (capL cap c (1)) lq - pC cap lq) (pS (capL cap c (1)) lq - pS cap lq) 110) "leaf" := B
  obtain ⟨Q, hQ⟩ : ∃ Q, Q = mv_E X (kk V) (fun z0 M' => z0 = some (.int (iI (if (((k = 0 ∨ k = 2) ∧ 0 ≤ a ∧ a ≤ 100 ∧ b = 0) ∨ (k = 1 ∧ 0 ≤ a ∧ a < gn ∧ b = 0) ∨ (k = 3 ∧ 0 ≤ a ∧ a < gn ∧ F 6 a.toNat = 3 ∧ 0 ≤ b ∧ b ≤ 100)) then (if (tn = 1500 ∨ 1000 < 1 ∨ 30000 < c + 1) then -1 else tn) else -1))) ∧ ((¬ (((k = 0 ∨ k = 2) ∧ 0 ≤ a ∧ a ≤ 100 ∧ b = 0) ∨ (k = 1 ∧ 0 ≤ a ∧ a < gn ∧ b = 0) ∨ (k = 3 ∧ 0 ≤ a ∧ a < gn ∧ F 6 a.toNat = 3 ∧ 0 ≤ b ∧ b ≤ 100)) ∧ RefC V M' r A (rN cap lq) F (c : Nat) tn gn) ∨ ((((k = 0 ∨ k = 2) ∧ 0 ≤ a ∧ a ≤ 100 ∧ b = 0) ∨ (k = 1 ∧ 0 ≤ a ∧ a < gn ∧ b = 0) ∨ (k = 3 ∧ 0 ≤ a ∧ a < gn ∧ F 6 a.toNat = 3 ∧ 0 ≤ b ∧ b ≤ 100)) ∧ ∃ A', tmE V M' r A' (capL cap c 1) lq (appF F c [(k, a, b)]) c 1 (fun _ => 1) ((c + (1) : Nat) : Int) tn gn))) (pC (capL cap c (1)) lq - pC cap lq) (pS (capL cap c (1)) lq - pS cap lq) := ⟨_, rfl⟩
  rw [← hQ]
  show mv_G X Q (kk V) 6 0 [(0, .ref r), (1, .int (iI (k))), (2, .int (iI (a))), (3, .int (iI (b)))] [] M 0 0
  have hrc : (rM 3 (pC (capL cap c (1)) lq - pC cap lq) (pS (capL cap c (1)) lq - pS cap lq) 110).cells = pC (capL cap c (1)) lq - pC cap lq := rfl
  have hrs : (rM 3 (pC (capL cap c (1)) lq - pC cap lq) (pS (capL cap c (1)) lq - pS cap lq) 110).slots = pS (capL cap c (1)) lq - pS cap lq := rfl
  have hmv := pC_L (lc := lq) c hcap0 1
  have hcl := capL_c hcap0 hcc 1
  have hcn : capL cap c 1 ≤ 2 * cap := capN_r.2
  have k1_6 : M (A 6) = some (iA V (100) (F 6)) := hC.2.1 6 (by decide)
  refine mv_iload_n B d_Mod_leaf_0 rfl 1 rfl ?_
  refine mv_if_eq (tgt := 9) B d_Mod_leaf_1 (by decide) (by omega) (fun c2 => ?_) (fun c2 => ?_)
  · refine mv_iload_n B d_Mod_leaf_9 rfl 2 rfl ?_
    refine mv_if_lt (tgt := 23) B d_Mod_leaf_10 (by decide) (by omega) (fun c3 => ?_) (fun c3 => ?_)
    · refine mv_iconst (z := 0) B d_Mod_leaf_23 rfl ?_
      refine mv_goto (tgt := 54) B d_Mod_leaf_24 (by decide) ?_
      refine mv_istore (lv' := [(4, .int (iI (0))), (0, .ref r), (1, .int (iI (k))), (2, .int (iI (a))), (3, .int (iI (b)))]) B d_Mod_leaf_54 (by decide) rfl ?_
      refine mv_iload B d_Mod_leaf_56 0 rfl ?_
      refine mv_if_eq (tgt := 93) B d_Mod_leaf_58 (by decide) (by omega) (fun c4 => ?_) (fun c4 => ?_)
      · refine mv_iconst (z := -1) B d_Mod_leaf_93 rfl ?_
        rw [hQ]
        exact mv_iret B ⟨by rw [if_neg (show ¬ (((k = 0 ∨ k = 2) ∧ 0 ≤ a ∧ a ≤ 100 ∧ b = 0) ∨ (k = 1 ∧ 0 ≤ a ∧ a < gn ∧ b = 0) ∨ (k = 3 ∧ 0 ≤ a ∧ a < gn ∧ F 6 a.toNat = 3 ∧ 0 ≤ b ∧ b ≤ 100)) by omega)], Or.inl ⟨by omega, hC⟩⟩ (by omega) (by omega) d_Mod_leaf_94
      · omega
    · refine mv_iload_n B d_Mod_leaf_13 rfl 2 rfl ?_
      refine mv_bipush (z := 100) B d_Mod_leaf_14 (by decide) ?_
      refine mv_icmp_gt (tgt := 23) B d_Mod_leaf_16 (by decide) (by omega) (by omega) (fun c5 => ?_) (fun c5 => ?_)
      · refine mv_iconst (z := 0) B d_Mod_leaf_23 rfl ?_
        refine mv_goto (tgt := 54) B d_Mod_leaf_24 (by decide) ?_
        refine mv_istore (lv' := [(4, .int (iI (0))), (0, .ref r), (1, .int (iI (k))), (2, .int (iI (a))), (3, .int (iI (b)))]) B d_Mod_leaf_54 (by decide) rfl ?_
        refine mv_iload B d_Mod_leaf_56 0 rfl ?_
        refine mv_if_eq (tgt := 93) B d_Mod_leaf_58 (by decide) (by omega) (fun c6 => ?_) (fun c6 => ?_)
        · refine mv_iconst (z := -1) B d_Mod_leaf_93 rfl ?_
          rw [hQ]
          exact mv_iret B ⟨by rw [if_neg (show ¬ (((k = 0 ∨ k = 2) ∧ 0 ≤ a ∧ a ≤ 100 ∧ b = 0) ∨ (k = 1 ∧ 0 ≤ a ∧ a < gn ∧ b = 0) ∨ (k = 3 ∧ 0 ≤ a ∧ a < gn ∧ F 6 a.toNat = 3 ∧ 0 ≤ b ∧ b ≤ 100)) by omega)], Or.inl ⟨by omega, hC⟩⟩ (by omega) (by omega) d_Mod_leaf_94
        · omega
      · refine mv_iconst (z := 1) B d_Mod_leaf_19 rfl ?_
        refine mv_goto (tgt := 54) B d_Mod_leaf_20 (by decide) ?_
        refine mv_istore (lv' := [(4, .int (iI (1))), (0, .ref r), (1, .int (iI (k))), (2, .int (iI (a))), (3, .int (iI (b)))]) B d_Mod_leaf_54 (by decide) rfl ?_
        refine mv_iload B d_Mod_leaf_56 0 rfl ?_
        refine mv_if_eq (tgt := 93) B d_Mod_leaf_58 (by decide) (by omega) (fun c7 => ?_) (fun c7 => ?_)
        · omega
        · refine mv_iload_n B d_Mod_leaf_61 rfl 2 rfl ?_
          refine mv_iconst (z := 3) B d_Mod_leaf_62 rfl ?_
          refine mv_icmp_ne (tgt := 89) B d_Mod_leaf_63 (by decide) (by omega) (by omega) (fun c8 => ?_) (fun c8 => ?_)
          · refine mv_iload_n B d_Mod_leaf_89 rfl 4 rfl ?_
            refine mv_if_eq (tgt := 95) B d_Mod_leaf_90 (by decide) (by omega) (fun c9 => ?_) (fun c9 => ?_)
            · refine mv_aloadR_n B d_Mod_leaf_95 rfl 1 rfl ?_
              refine mv_iload_n B d_Mod_leaf_96 rfl 2 rfl ?_
              refine mv_iload_n B d_Mod_leaf_97 rfl 3 rfl ?_
              refine mv_iload_n B d_Mod_leaf_98 rfl 4 rfl ?_
              have n10q : pC (capL cap c (1)) lq = pC (capN (cap) ((c : Nat))) lq := rfl
              have n10r : pS (capL cap c (1)) lq = pS (capN (cap) ((c : Nat))) lq := rfl
              have n10p := pC_N (lc := lq) (c := (c : Nat)) (show 1 ≤ cap by omega)
              refine ca_Mod_63 (mc := pC (capN (cap) ((c : Nat))) lq - pC (cap) lq) (ms := pS (capN (cap) ((c : Nat))) lq - pS (cap) lq) (rm' := rM 2 (pC (capN (cap) ((c : Nat))) lq - pC (cap) lq) (pS (capN (cap) ((c : Nat))) lq - pS (cap) lq) 70) (As := [.int (iI (k)), .int (iI (a)), .int (iI (b))]) (rest := []) B (m_Mod_add hC (by omega) (by omega) (k := k) (v := a) (s := b) (by omega) (by omega) (by omega)) rfl rfl ⟨Nat.le_of_ble_eq_true rfl, Nat.le_of_ble_eq_true rfl⟩ hC.1 rfl rfl (Nat.le_of_ble_eq_true rfl) d_Mod_leaf_99 ⟨(by omega), (by omega)⟩ (fun v1 n10M ep => ?_)
              obtain ⟨e1, n10A, n10C⟩ := ep
              subst e1
              have n10D : RefC V n10M r n10A (rN (capL cap c (1)) lq) (appF F c ([(k, a, b)])) ((c + (1) : Nat) : Int) tn gn := by
                have h := n10C
                rw [show ((c : Nat) : Int).toNat = c by omega] at h; exact h
              refine mv_widen (c2 := pC (capL cap c (1)) lq - pC cap lq) (s2 := pS (capL cap c (1)) lq - pS cap lq) (by omega) (by omega) ?_
              show mv_G X Q (kk V) 6 102 [(4, .int (iI (1))), (0, .ref r), (1, .int (iI (k))), (2, .int (iI (a))), (3, .int (iI (b)))] [.int (iI ((c : Nat)))] n10M (pC (capL cap c (1)) lq - pC cap lq) (pS (capL cap c (1)) lq - pS cap lq)
              have k11_6 : n10M (n10A 6) = some (iA V (100) (appF F c ([(k, a, b)]) 6)) := n10D.2.1 6 (by decide)
              have hwf : (1 : Nat) ≤ 1000 → WF 1 (fun j => appF F c [(k, a, b)] 0 (c + j)) (fun _ => 1) := fun _ => wf1 (show appF F c [(k, a, b)] 0 c < 4 by rw [show appF F c [(k, a, b)] 0 c = k by simp [appF, addF, va_up]]; omega)
              refine mv_istore (lv' := [(5, .int (iI ((c : Nat)))), (4, .int (iI (1))), (0, .ref r), (1, .int (iI (k))), (2, .int (iI (a))), (3, .int (iI (b)))]) B d_Mod_leaf_102 (by decide) rfl ?_
              refine mv_aloadR_n B d_Mod_leaf_104 rfl 2 rfl ?_
              refine mv_iload B d_Mod_leaf_105 0 rfl ?_
              refine ca_Mod_84 (mc := 0) (ms := 0) (rm' := rM 1 0 0 30) (As := [.int (iI ((c : Nat)))]) (rest := []) B (m_Mod_term n10D (by omega) (b := c) (n := 1) (ℓ := (fun _ => 1)) (by omega) (by omega) (by omega) hwf) rfl rfl ⟨Nat.le_of_ble_eq_true rfl, Nat.le_of_ble_eq_true rfl⟩ n10D.1 rfl rfl (Nat.le_of_ble_eq_true rfl) d_Mod_leaf_107 ⟨by omega, by omega⟩ (fun v1 M9 ep => ?_)
              obtain ⟨e1, hT9⟩ := tm_v ep
              subst e1
              show mv_G X Q (kk V) 6 110 [(5, .int (iI ((c : Nat)))), (4, .int (iI (1))), (0, .ref r), (1, .int (iI (k))), (2, .int (iI (a))), (3, .int (iI (b)))] [.int (iI (if (tn = 1500 ∨ 1000 < 1 ∨ 30000 < c + 1) then -1 else tn))] M9 (pC (capL cap c (1)) lq - pC cap lq) (pS (capL cap c (1)) lq - pS cap lq)
              rw [hQ]
              exact mv_iret B ⟨by rw [if_pos (show (((k = 0 ∨ k = 2) ∧ 0 ≤ a ∧ a ≤ 100 ∧ b = 0) ∨ (k = 1 ∧ 0 ≤ a ∧ a < gn ∧ b = 0) ∨ (k = 3 ∧ 0 ≤ a ∧ a < gn ∧ F 6 a.toNat = 3 ∧ 0 ≤ b ∧ b ≤ 100)) by omega)], Or.inr ⟨by omega, n10A, hT9⟩⟩ (by omega) (by omega) d_Mod_leaf_110
            · refine mv_iconst (z := -1) B d_Mod_leaf_93 rfl ?_
              rw [hQ]
              exact mv_iret B ⟨by rw [if_neg (show ¬ (((k = 0 ∨ k = 2) ∧ 0 ≤ a ∧ a ≤ 100 ∧ b = 0) ∨ (k = 1 ∧ 0 ≤ a ∧ a < gn ∧ b = 0) ∨ (k = 3 ∧ 0 ≤ a ∧ a < gn ∧ F 6 a.toNat = 3 ∧ 0 ≤ b ∧ b ≤ 100)) by omega)], Or.inl ⟨by omega, hC⟩⟩ (by omega) (by omega) d_Mod_leaf_94
          · refine mv_aloadR_n B d_Mod_leaf_66 rfl 1 rfl ?_
            refine gf_Mod_28 B hC.1 rfl d_Mod_leaf_67 ?_
            refine mv_iload_n B d_Mod_leaf_70 rfl 3 rfl ?_
            refine ia_ld B k1_6 (by omega) (by omega) (by omega) d_Mod_leaf_71 ?_
            have rr12 : R32 (F 6 (Int.toNat (a))) := (hC.R 6) _
            refine mv_iconst (z := 3) B d_Mod_leaf_72 rfl ?_
            refine mv_icmp_ne (tgt := 93) B d_Mod_leaf_73 (by decide) (by omega) (by omega) (fun c13 => ?_) (fun c13 => ?_)
            · refine mv_iconst (z := -1) B d_Mod_leaf_93 rfl ?_
              rw [hQ]
              exact mv_iret B ⟨by rw [if_neg (show ¬ (((k = 0 ∨ k = 2) ∧ 0 ≤ a ∧ a ≤ 100 ∧ b = 0) ∨ (k = 1 ∧ 0 ≤ a ∧ a < gn ∧ b = 0) ∨ (k = 3 ∧ 0 ≤ a ∧ a < gn ∧ F 6 a.toNat = 3 ∧ 0 ≤ b ∧ b ≤ 100)) by omega)], Or.inl ⟨by omega, hC⟩⟩ (by omega) (by omega) d_Mod_leaf_94
            · refine mv_iload_n B d_Mod_leaf_76 rfl 4 rfl ?_
              refine mv_if_lt (tgt := 93) B d_Mod_leaf_77 (by decide) (by omega) (fun c14 => ?_) (fun c14 => ?_)
              · refine mv_iconst (z := -1) B d_Mod_leaf_93 rfl ?_
                rw [hQ]
                exact mv_iret B ⟨by rw [if_neg (show ¬ (((k = 0 ∨ k = 2) ∧ 0 ≤ a ∧ a ≤ 100 ∧ b = 0) ∨ (k = 1 ∧ 0 ≤ a ∧ a < gn ∧ b = 0) ∨ (k = 3 ∧ 0 ≤ a ∧ a < gn ∧ F 6 a.toNat = 3 ∧ 0 ≤ b ∧ b ≤ 100)) by omega)], Or.inl ⟨by omega, hC⟩⟩ (by omega) (by omega) d_Mod_leaf_94
              · refine mv_iload_n B d_Mod_leaf_80 rfl 4 rfl ?_
                refine mv_bipush (z := 100) B d_Mod_leaf_81 (by decide) ?_
                refine mv_icmp_le (tgt := 95) B d_Mod_leaf_83 (by decide) (by omega) (by omega) (fun c15 => ?_) (fun c15 => ?_)
                · refine mv_aloadR_n B d_Mod_leaf_95 rfl 1 rfl ?_
                  refine mv_iload_n B d_Mod_leaf_96 rfl 2 rfl ?_
                  refine mv_iload_n B d_Mod_leaf_97 rfl 3 rfl ?_
                  refine mv_iload_n B d_Mod_leaf_98 rfl 4 rfl ?_
                  have n16q : pC (capL cap c (1)) lq = pC (capN (cap) ((c : Nat))) lq := rfl
                  have n16r : pS (capL cap c (1)) lq = pS (capN (cap) ((c : Nat))) lq := rfl
                  have n16p := pC_N (lc := lq) (c := (c : Nat)) (show 1 ≤ cap by omega)
                  refine ca_Mod_63 (mc := pC (capN (cap) ((c : Nat))) lq - pC (cap) lq) (ms := pS (capN (cap) ((c : Nat))) lq - pS (cap) lq) (rm' := rM 2 (pC (capN (cap) ((c : Nat))) lq - pC (cap) lq) (pS (capN (cap) ((c : Nat))) lq - pS (cap) lq) 70) (As := [.int (iI (k)), .int (iI (a)), .int (iI (b))]) (rest := []) B (m_Mod_add hC (by omega) (by omega) (k := k) (v := a) (s := b) (by omega) (by omega) (by omega)) rfl rfl ⟨Nat.le_of_ble_eq_true rfl, Nat.le_of_ble_eq_true rfl⟩ hC.1 rfl rfl (Nat.le_of_ble_eq_true rfl) d_Mod_leaf_99 ⟨(by omega), (by omega)⟩ (fun v1 n16M ep => ?_)
                  obtain ⟨e1, n16A, n16C⟩ := ep
                  subst e1
                  have n16D : RefC V n16M r n16A (rN (capL cap c (1)) lq) (appF F c ([(k, a, b)])) ((c + (1) : Nat) : Int) tn gn := by
                    have h := n16C
                    rw [show ((c : Nat) : Int).toNat = c by omega] at h; exact h
                  refine mv_widen (c2 := pC (capL cap c (1)) lq - pC cap lq) (s2 := pS (capL cap c (1)) lq - pS cap lq) (by omega) (by omega) ?_
                  show mv_G X Q (kk V) 6 102 [(4, .int (iI (1))), (0, .ref r), (1, .int (iI (k))), (2, .int (iI (a))), (3, .int (iI (b)))] [.int (iI ((c : Nat)))] n16M (pC (capL cap c (1)) lq - pC cap lq) (pS (capL cap c (1)) lq - pS cap lq)
                  have k17_6 : n16M (n16A 6) = some (iA V (100) (appF F c ([(k, a, b)]) 6)) := n16D.2.1 6 (by decide)
                  have hwf : (1 : Nat) ≤ 1000 → WF 1 (fun j => appF F c [(k, a, b)] 0 (c + j)) (fun _ => 1) := fun _ => wf1 (show appF F c [(k, a, b)] 0 c < 4 by rw [show appF F c [(k, a, b)] 0 c = k by simp [appF, addF, va_up]]; omega)
                  refine mv_istore (lv' := [(5, .int (iI ((c : Nat)))), (4, .int (iI (1))), (0, .ref r), (1, .int (iI (k))), (2, .int (iI (a))), (3, .int (iI (b)))]) B d_Mod_leaf_102 (by decide) rfl ?_
                  refine mv_aloadR_n B d_Mod_leaf_104 rfl 2 rfl ?_
                  refine mv_iload B d_Mod_leaf_105 0 rfl ?_
                  refine ca_Mod_84 (mc := 0) (ms := 0) (rm' := rM 1 0 0 30) (As := [.int (iI ((c : Nat)))]) (rest := []) B (m_Mod_term n16D (by omega) (b := c) (n := 1) (ℓ := (fun _ => 1)) (by omega) (by omega) (by omega) hwf) rfl rfl ⟨Nat.le_of_ble_eq_true rfl, Nat.le_of_ble_eq_true rfl⟩ n16D.1 rfl rfl (Nat.le_of_ble_eq_true rfl) d_Mod_leaf_107 ⟨by omega, by omega⟩ (fun v1 M9 ep => ?_)
                  obtain ⟨e1, hT9⟩ := tm_v ep
                  subst e1
                  show mv_G X Q (kk V) 6 110 [(5, .int (iI ((c : Nat)))), (4, .int (iI (1))), (0, .ref r), (1, .int (iI (k))), (2, .int (iI (a))), (3, .int (iI (b)))] [.int (iI (if (tn = 1500 ∨ 1000 < 1 ∨ 30000 < c + 1) then -1 else tn))] M9 (pC (capL cap c (1)) lq - pC cap lq) (pS (capL cap c (1)) lq - pS cap lq)
                  rw [hQ]
                  exact mv_iret B ⟨by rw [if_pos (show (((k = 0 ∨ k = 2) ∧ 0 ≤ a ∧ a ≤ 100 ∧ b = 0) ∨ (k = 1 ∧ 0 ≤ a ∧ a < gn ∧ b = 0) ∨ (k = 3 ∧ 0 ≤ a ∧ a < gn ∧ F 6 a.toNat = 3 ∧ 0 ≤ b ∧ b ≤ 100)) by omega)], Or.inr ⟨by omega, n16A, hT9⟩⟩ (by omega) (by omega) d_Mod_leaf_110
                · refine mv_goto (tgt := 93) B d_Mod_leaf_86 (by decide) ?_
                  refine mv_iconst (z := -1) B d_Mod_leaf_93 rfl ?_
                  rw [hQ]
                  exact mv_iret B ⟨by rw [if_neg (show ¬ (((k = 0 ∨ k = 2) ∧ 0 ≤ a ∧ a ≤ 100 ∧ b = 0) ∨ (k = 1 ∧ 0 ≤ a ∧ a < gn ∧ b = 0) ∨ (k = 3 ∧ 0 ≤ a ∧ a < gn ∧ F 6 a.toNat = 3 ∧ 0 ≤ b ∧ b ≤ 100)) by omega)], Or.inl ⟨by omega, hC⟩⟩ (by omega) (by omega) d_Mod_leaf_94
  · refine mv_iload_n B d_Mod_leaf_4 rfl 1 rfl ?_
    refine mv_iconst (z := 2) B d_Mod_leaf_5 rfl ?_
    refine mv_icmp_ne (tgt := 27) B d_Mod_leaf_6 (by decide) (by omega) (by omega) (fun c18 => ?_) (fun c18 => ?_)
    · refine mv_iload_n B d_Mod_leaf_27 rfl 1 rfl ?_
      refine mv_iconst (z := 1) B d_Mod_leaf_28 rfl ?_
      refine mv_icmp_eq (tgt := 37) B d_Mod_leaf_29 (by decide) (by omega) (by omega) (fun c19 => ?_) (fun c19 => ?_)
      · refine mv_iload_n B d_Mod_leaf_37 rfl 2 rfl ?_
        refine mv_if_lt (tgt := 53) B d_Mod_leaf_38 (by decide) (by omega) (fun c20 => ?_) (fun c20 => ?_)
        · refine mv_iconst (z := 0) B d_Mod_leaf_53 rfl ?_
          refine mv_istore (lv' := [(4, .int (iI (0))), (0, .ref r), (1, .int (iI (k))), (2, .int (iI (a))), (3, .int (iI (b)))]) B d_Mod_leaf_54 (by decide) rfl ?_
          refine mv_iload B d_Mod_leaf_56 0 rfl ?_
          refine mv_if_eq (tgt := 93) B d_Mod_leaf_58 (by decide) (by omega) (fun c21 => ?_) (fun c21 => ?_)
          · refine mv_iconst (z := -1) B d_Mod_leaf_93 rfl ?_
            rw [hQ]
            exact mv_iret B ⟨by rw [if_neg (show ¬ (((k = 0 ∨ k = 2) ∧ 0 ≤ a ∧ a ≤ 100 ∧ b = 0) ∨ (k = 1 ∧ 0 ≤ a ∧ a < gn ∧ b = 0) ∨ (k = 3 ∧ 0 ≤ a ∧ a < gn ∧ F 6 a.toNat = 3 ∧ 0 ≤ b ∧ b ≤ 100)) by omega)], Or.inl ⟨by omega, hC⟩⟩ (by omega) (by omega) d_Mod_leaf_94
          · omega
        · refine mv_iload_n B d_Mod_leaf_41 rfl 2 rfl ?_
          refine mv_aloadR_n B d_Mod_leaf_42 rfl 0 rfl ?_
          refine gf_Mod_81 B hC.1 rfl d_Mod_leaf_43 ?_
          refine mv_icmp_ge (tgt := 53) B d_Mod_leaf_46 (by decide) (by omega) (by omega) (fun c22 => ?_) (fun c22 => ?_)
          · refine mv_iconst (z := 0) B d_Mod_leaf_53 rfl ?_
            refine mv_istore (lv' := [(4, .int (iI (0))), (0, .ref r), (1, .int (iI (k))), (2, .int (iI (a))), (3, .int (iI (b)))]) B d_Mod_leaf_54 (by decide) rfl ?_
            refine mv_iload B d_Mod_leaf_56 0 rfl ?_
            refine mv_if_eq (tgt := 93) B d_Mod_leaf_58 (by decide) (by omega) (fun c23 => ?_) (fun c23 => ?_)
            · refine mv_iconst (z := -1) B d_Mod_leaf_93 rfl ?_
              rw [hQ]
              exact mv_iret B ⟨by rw [if_neg (show ¬ (((k = 0 ∨ k = 2) ∧ 0 ≤ a ∧ a ≤ 100 ∧ b = 0) ∨ (k = 1 ∧ 0 ≤ a ∧ a < gn ∧ b = 0) ∨ (k = 3 ∧ 0 ≤ a ∧ a < gn ∧ F 6 a.toNat = 3 ∧ 0 ≤ b ∧ b ≤ 100)) by omega)], Or.inl ⟨by omega, hC⟩⟩ (by omega) (by omega) d_Mod_leaf_94
            · omega
          · refine mv_iconst (z := 1) B d_Mod_leaf_49 rfl ?_
            refine mv_goto (tgt := 54) B d_Mod_leaf_50 (by decide) ?_
            refine mv_istore (lv' := [(4, .int (iI (1))), (0, .ref r), (1, .int (iI (k))), (2, .int (iI (a))), (3, .int (iI (b)))]) B d_Mod_leaf_54 (by decide) rfl ?_
            refine mv_iload B d_Mod_leaf_56 0 rfl ?_
            refine mv_if_eq (tgt := 93) B d_Mod_leaf_58 (by decide) (by omega) (fun c24 => ?_) (fun c24 => ?_)
            · omega
            · refine mv_iload_n B d_Mod_leaf_61 rfl 2 rfl ?_
              refine mv_iconst (z := 3) B d_Mod_leaf_62 rfl ?_
              refine mv_icmp_ne (tgt := 89) B d_Mod_leaf_63 (by decide) (by omega) (by omega) (fun c25 => ?_) (fun c25 => ?_)
              · refine mv_iload_n B d_Mod_leaf_89 rfl 4 rfl ?_
                refine mv_if_eq (tgt := 95) B d_Mod_leaf_90 (by decide) (by omega) (fun c26 => ?_) (fun c26 => ?_)
                · refine mv_aloadR_n B d_Mod_leaf_95 rfl 1 rfl ?_
                  refine mv_iload_n B d_Mod_leaf_96 rfl 2 rfl ?_
                  refine mv_iload_n B d_Mod_leaf_97 rfl 3 rfl ?_
                  refine mv_iload_n B d_Mod_leaf_98 rfl 4 rfl ?_
                  have n27q : pC (capL cap c (1)) lq = pC (capN (cap) ((c : Nat))) lq := rfl
                  have n27r : pS (capL cap c (1)) lq = pS (capN (cap) ((c : Nat))) lq := rfl
                  have n27p := pC_N (lc := lq) (c := (c : Nat)) (show 1 ≤ cap by omega)
                  refine ca_Mod_63 (mc := pC (capN (cap) ((c : Nat))) lq - pC (cap) lq) (ms := pS (capN (cap) ((c : Nat))) lq - pS (cap) lq) (rm' := rM 2 (pC (capN (cap) ((c : Nat))) lq - pC (cap) lq) (pS (capN (cap) ((c : Nat))) lq - pS (cap) lq) 70) (As := [.int (iI (k)), .int (iI (a)), .int (iI (b))]) (rest := []) B (m_Mod_add hC (by omega) (by omega) (k := k) (v := a) (s := b) (by omega) (by omega) (by omega)) rfl rfl ⟨Nat.le_of_ble_eq_true rfl, Nat.le_of_ble_eq_true rfl⟩ hC.1 rfl rfl (Nat.le_of_ble_eq_true rfl) d_Mod_leaf_99 ⟨(by omega), (by omega)⟩ (fun v1 n27M ep => ?_)
                  obtain ⟨e1, n27A, n27C⟩ := ep
                  subst e1
                  have n27D : RefC V n27M r n27A (rN (capL cap c (1)) lq) (appF F c ([(k, a, b)])) ((c + (1) : Nat) : Int) tn gn := by
                    have h := n27C
                    rw [show ((c : Nat) : Int).toNat = c by omega] at h; exact h
                  refine mv_widen (c2 := pC (capL cap c (1)) lq - pC cap lq) (s2 := pS (capL cap c (1)) lq - pS cap lq) (by omega) (by omega) ?_
                  show mv_G X Q (kk V) 6 102 [(4, .int (iI (1))), (0, .ref r), (1, .int (iI (k))), (2, .int (iI (a))), (3, .int (iI (b)))] [.int (iI ((c : Nat)))] n27M (pC (capL cap c (1)) lq - pC cap lq) (pS (capL cap c (1)) lq - pS cap lq)
                  have k28_6 : n27M (n27A 6) = some (iA V (100) (appF F c ([(k, a, b)]) 6)) := n27D.2.1 6 (by decide)
                  have hwf : (1 : Nat) ≤ 1000 → WF 1 (fun j => appF F c [(k, a, b)] 0 (c + j)) (fun _ => 1) := fun _ => wf1 (show appF F c [(k, a, b)] 0 c < 4 by rw [show appF F c [(k, a, b)] 0 c = k by simp [appF, addF, va_up]]; omega)
                  refine mv_istore (lv' := [(5, .int (iI ((c : Nat)))), (4, .int (iI (1))), (0, .ref r), (1, .int (iI (k))), (2, .int (iI (a))), (3, .int (iI (b)))]) B d_Mod_leaf_102 (by decide) rfl ?_
                  refine mv_aloadR_n B d_Mod_leaf_104 rfl 2 rfl ?_
                  refine mv_iload B d_Mod_leaf_105 0 rfl ?_
                  refine ca_Mod_84 (mc := 0) (ms := 0) (rm' := rM 1 0 0 30) (As := [.int (iI ((c : Nat)))]) (rest := []) B (m_Mod_term n27D (by omega) (b := c) (n := 1) (ℓ := (fun _ => 1)) (by omega) (by omega) (by omega) hwf) rfl rfl ⟨Nat.le_of_ble_eq_true rfl, Nat.le_of_ble_eq_true rfl⟩ n27D.1 rfl rfl (Nat.le_of_ble_eq_true rfl) d_Mod_leaf_107 ⟨by omega, by omega⟩ (fun v1 M9 ep => ?_)
                  obtain ⟨e1, hT9⟩ := tm_v ep
                  subst e1
                  show mv_G X Q (kk V) 6 110 [(5, .int (iI ((c : Nat)))), (4, .int (iI (1))), (0, .ref r), (1, .int (iI (k))), (2, .int (iI (a))), (3, .int (iI (b)))] [.int (iI (if (tn = 1500 ∨ 1000 < 1 ∨ 30000 < c + 1) then -1 else tn))] M9 (pC (capL cap c (1)) lq - pC cap lq) (pS (capL cap c (1)) lq - pS cap lq)
                  rw [hQ]
                  exact mv_iret B ⟨by rw [if_pos (show (((k = 0 ∨ k = 2) ∧ 0 ≤ a ∧ a ≤ 100 ∧ b = 0) ∨ (k = 1 ∧ 0 ≤ a ∧ a < gn ∧ b = 0) ∨ (k = 3 ∧ 0 ≤ a ∧ a < gn ∧ F 6 a.toNat = 3 ∧ 0 ≤ b ∧ b ≤ 100)) by omega)], Or.inr ⟨by omega, n27A, hT9⟩⟩ (by omega) (by omega) d_Mod_leaf_110
                · refine mv_iconst (z := -1) B d_Mod_leaf_93 rfl ?_
                  rw [hQ]
                  exact mv_iret B ⟨by rw [if_neg (show ¬ (((k = 0 ∨ k = 2) ∧ 0 ≤ a ∧ a ≤ 100 ∧ b = 0) ∨ (k = 1 ∧ 0 ≤ a ∧ a < gn ∧ b = 0) ∨ (k = 3 ∧ 0 ≤ a ∧ a < gn ∧ F 6 a.toNat = 3 ∧ 0 ≤ b ∧ b ≤ 100)) by omega)], Or.inl ⟨by omega, hC⟩⟩ (by omega) (by omega) d_Mod_leaf_94
              · refine mv_aloadR_n B d_Mod_leaf_66 rfl 1 rfl ?_
                refine gf_Mod_28 B hC.1 rfl d_Mod_leaf_67 ?_
                refine mv_iload_n B d_Mod_leaf_70 rfl 3 rfl ?_
                refine ia_ld B k1_6 (by omega) (by omega) (by omega) d_Mod_leaf_71 ?_
                have rr29 : R32 (F 6 (Int.toNat (a))) := (hC.R 6) _
                refine mv_iconst (z := 3) B d_Mod_leaf_72 rfl ?_
                refine mv_icmp_ne (tgt := 93) B d_Mod_leaf_73 (by decide) (by omega) (by omega) (fun c30 => ?_) (fun c30 => ?_)
                · refine mv_iconst (z := -1) B d_Mod_leaf_93 rfl ?_
                  rw [hQ]
                  exact mv_iret B ⟨by rw [if_neg (show ¬ (((k = 0 ∨ k = 2) ∧ 0 ≤ a ∧ a ≤ 100 ∧ b = 0) ∨ (k = 1 ∧ 0 ≤ a ∧ a < gn ∧ b = 0) ∨ (k = 3 ∧ 0 ≤ a ∧ a < gn ∧ F 6 a.toNat = 3 ∧ 0 ≤ b ∧ b ≤ 100)) by omega)], Or.inl ⟨by omega, hC⟩⟩ (by omega) (by omega) d_Mod_leaf_94
                · refine mv_iload_n B d_Mod_leaf_76 rfl 4 rfl ?_
                  refine mv_if_lt (tgt := 93) B d_Mod_leaf_77 (by decide) (by omega) (fun c31 => ?_) (fun c31 => ?_)
                  · refine mv_iconst (z := -1) B d_Mod_leaf_93 rfl ?_
                    rw [hQ]
                    exact mv_iret B ⟨by rw [if_neg (show ¬ (((k = 0 ∨ k = 2) ∧ 0 ≤ a ∧ a ≤ 100 ∧ b = 0) ∨ (k = 1 ∧ 0 ≤ a ∧ a < gn ∧ b = 0) ∨ (k = 3 ∧ 0 ≤ a ∧ a < gn ∧ F 6 a.toNat = 3 ∧ 0 ≤ b ∧ b ≤ 100)) by omega)], Or.inl ⟨by omega, hC⟩⟩ (by omega) (by omega) d_Mod_leaf_94
                  · refine mv_iload_n B d_Mod_leaf_80 rfl 4 rfl ?_
                    refine mv_bipush (z := 100) B d_Mod_leaf_81 (by decide) ?_
                    refine mv_icmp_le (tgt := 95) B d_Mod_leaf_83 (by decide) (by omega) (by omega) (fun c32 => ?_) (fun c32 => ?_)
                    · refine mv_aloadR_n B d_Mod_leaf_95 rfl 1 rfl ?_
                      refine mv_iload_n B d_Mod_leaf_96 rfl 2 rfl ?_
                      refine mv_iload_n B d_Mod_leaf_97 rfl 3 rfl ?_
                      refine mv_iload_n B d_Mod_leaf_98 rfl 4 rfl ?_
                      have n33q : pC (capL cap c (1)) lq = pC (capN (cap) ((c : Nat))) lq := rfl
                      have n33r : pS (capL cap c (1)) lq = pS (capN (cap) ((c : Nat))) lq := rfl
                      have n33p := pC_N (lc := lq) (c := (c : Nat)) (show 1 ≤ cap by omega)
                      refine ca_Mod_63 (mc := pC (capN (cap) ((c : Nat))) lq - pC (cap) lq) (ms := pS (capN (cap) ((c : Nat))) lq - pS (cap) lq) (rm' := rM 2 (pC (capN (cap) ((c : Nat))) lq - pC (cap) lq) (pS (capN (cap) ((c : Nat))) lq - pS (cap) lq) 70) (As := [.int (iI (k)), .int (iI (a)), .int (iI (b))]) (rest := []) B (m_Mod_add hC (by omega) (by omega) (k := k) (v := a) (s := b) (by omega) (by omega) (by omega)) rfl rfl ⟨Nat.le_of_ble_eq_true rfl, Nat.le_of_ble_eq_true rfl⟩ hC.1 rfl rfl (Nat.le_of_ble_eq_true rfl) d_Mod_leaf_99 ⟨(by omega), (by omega)⟩ (fun v1 n33M ep => ?_)
                      obtain ⟨e1, n33A, n33C⟩ := ep
                      subst e1
                      have n33D : RefC V n33M r n33A (rN (capL cap c (1)) lq) (appF F c ([(k, a, b)])) ((c + (1) : Nat) : Int) tn gn := by
                        have h := n33C
                        rw [show ((c : Nat) : Int).toNat = c by omega] at h; exact h
                      refine mv_widen (c2 := pC (capL cap c (1)) lq - pC cap lq) (s2 := pS (capL cap c (1)) lq - pS cap lq) (by omega) (by omega) ?_
                      show mv_G X Q (kk V) 6 102 [(4, .int (iI (1))), (0, .ref r), (1, .int (iI (k))), (2, .int (iI (a))), (3, .int (iI (b)))] [.int (iI ((c : Nat)))] n33M (pC (capL cap c (1)) lq - pC cap lq) (pS (capL cap c (1)) lq - pS cap lq)
                      have k34_6 : n33M (n33A 6) = some (iA V (100) (appF F c ([(k, a, b)]) 6)) := n33D.2.1 6 (by decide)
                      have hwf : (1 : Nat) ≤ 1000 → WF 1 (fun j => appF F c [(k, a, b)] 0 (c + j)) (fun _ => 1) := fun _ => wf1 (show appF F c [(k, a, b)] 0 c < 4 by rw [show appF F c [(k, a, b)] 0 c = k by simp [appF, addF, va_up]]; omega)
                      refine mv_istore (lv' := [(5, .int (iI ((c : Nat)))), (4, .int (iI (1))), (0, .ref r), (1, .int (iI (k))), (2, .int (iI (a))), (3, .int (iI (b)))]) B d_Mod_leaf_102 (by decide) rfl ?_
                      refine mv_aloadR_n B d_Mod_leaf_104 rfl 2 rfl ?_
                      refine mv_iload B d_Mod_leaf_105 0 rfl ?_
                      refine ca_Mod_84 (mc := 0) (ms := 0) (rm' := rM 1 0 0 30) (As := [.int (iI ((c : Nat)))]) (rest := []) B (m_Mod_term n33D (by omega) (b := c) (n := 1) (ℓ := (fun _ => 1)) (by omega) (by omega) (by omega) hwf) rfl rfl ⟨Nat.le_of_ble_eq_true rfl, Nat.le_of_ble_eq_true rfl⟩ n33D.1 rfl rfl (Nat.le_of_ble_eq_true rfl) d_Mod_leaf_107 ⟨by omega, by omega⟩ (fun v1 M9 ep => ?_)
                      obtain ⟨e1, hT9⟩ := tm_v ep
                      subst e1
                      show mv_G X Q (kk V) 6 110 [(5, .int (iI ((c : Nat)))), (4, .int (iI (1))), (0, .ref r), (1, .int (iI (k))), (2, .int (iI (a))), (3, .int (iI (b)))] [.int (iI (if (tn = 1500 ∨ 1000 < 1 ∨ 30000 < c + 1) then -1 else tn))] M9 (pC (capL cap c (1)) lq - pC cap lq) (pS (capL cap c (1)) lq - pS cap lq)
                      rw [hQ]
                      exact mv_iret B ⟨by rw [if_pos (show (((k = 0 ∨ k = 2) ∧ 0 ≤ a ∧ a ≤ 100 ∧ b = 0) ∨ (k = 1 ∧ 0 ≤ a ∧ a < gn ∧ b = 0) ∨ (k = 3 ∧ 0 ≤ a ∧ a < gn ∧ F 6 a.toNat = 3 ∧ 0 ≤ b ∧ b ≤ 100)) by omega)], Or.inr ⟨by omega, n33A, hT9⟩⟩ (by omega) (by omega) d_Mod_leaf_110
                    · refine mv_goto (tgt := 93) B d_Mod_leaf_86 (by decide) ?_
                      refine mv_iconst (z := -1) B d_Mod_leaf_93 rfl ?_
                      rw [hQ]
                      exact mv_iret B ⟨by rw [if_neg (show ¬ (((k = 0 ∨ k = 2) ∧ 0 ≤ a ∧ a ≤ 100 ∧ b = 0) ∨ (k = 1 ∧ 0 ≤ a ∧ a < gn ∧ b = 0) ∨ (k = 3 ∧ 0 ≤ a ∧ a < gn ∧ F 6 a.toNat = 3 ∧ 0 ≤ b ∧ b ≤ 100)) by omega)], Or.inl ⟨by omega, hC⟩⟩ (by omega) (by omega) d_Mod_leaf_94
      · refine mv_iload_n B d_Mod_leaf_32 rfl 1 rfl ?_
        refine mv_iconst (z := 3) B d_Mod_leaf_33 rfl ?_
        refine mv_icmp_ne (tgt := 53) B d_Mod_leaf_34 (by decide) (by omega) (by omega) (fun c35 => ?_) (fun c35 => ?_)
        · refine mv_iconst (z := 0) B d_Mod_leaf_53 rfl ?_
          refine mv_istore (lv' := [(4, .int (iI (0))), (0, .ref r), (1, .int (iI (k))), (2, .int (iI (a))), (3, .int (iI (b)))]) B d_Mod_leaf_54 (by decide) rfl ?_
          refine mv_iload B d_Mod_leaf_56 0 rfl ?_
          refine mv_if_eq (tgt := 93) B d_Mod_leaf_58 (by decide) (by omega) (fun c36 => ?_) (fun c36 => ?_)
          · refine mv_iconst (z := -1) B d_Mod_leaf_93 rfl ?_
            rw [hQ]
            exact mv_iret B ⟨by rw [if_neg (show ¬ (((k = 0 ∨ k = 2) ∧ 0 ≤ a ∧ a ≤ 100 ∧ b = 0) ∨ (k = 1 ∧ 0 ≤ a ∧ a < gn ∧ b = 0) ∨ (k = 3 ∧ 0 ≤ a ∧ a < gn ∧ F 6 a.toNat = 3 ∧ 0 ≤ b ∧ b ≤ 100)) by omega)], Or.inl ⟨by omega, hC⟩⟩ (by omega) (by omega) d_Mod_leaf_94
          · omega
        · refine mv_iload_n B d_Mod_leaf_37 rfl 2 rfl ?_
          refine mv_if_lt (tgt := 53) B d_Mod_leaf_38 (by decide) (by omega) (fun c37 => ?_) (fun c37 => ?_)
          · refine mv_iconst (z := 0) B d_Mod_leaf_53 rfl ?_
            refine mv_istore (lv' := [(4, .int (iI (0))), (0, .ref r), (1, .int (iI (k))), (2, .int (iI (a))), (3, .int (iI (b)))]) B d_Mod_leaf_54 (by decide) rfl ?_
            refine mv_iload B d_Mod_leaf_56 0 rfl ?_
            refine mv_if_eq (tgt := 93) B d_Mod_leaf_58 (by decide) (by omega) (fun c38 => ?_) (fun c38 => ?_)
            · refine mv_iconst (z := -1) B d_Mod_leaf_93 rfl ?_
              rw [hQ]
              exact mv_iret B ⟨by rw [if_neg (show ¬ (((k = 0 ∨ k = 2) ∧ 0 ≤ a ∧ a ≤ 100 ∧ b = 0) ∨ (k = 1 ∧ 0 ≤ a ∧ a < gn ∧ b = 0) ∨ (k = 3 ∧ 0 ≤ a ∧ a < gn ∧ F 6 a.toNat = 3 ∧ 0 ≤ b ∧ b ≤ 100)) by omega)], Or.inl ⟨by omega, hC⟩⟩ (by omega) (by omega) d_Mod_leaf_94
            · omega
          · refine mv_iload_n B d_Mod_leaf_41 rfl 2 rfl ?_
            refine mv_aloadR_n B d_Mod_leaf_42 rfl 0 rfl ?_
            refine gf_Mod_81 B hC.1 rfl d_Mod_leaf_43 ?_
            refine mv_icmp_ge (tgt := 53) B d_Mod_leaf_46 (by decide) (by omega) (by omega) (fun c39 => ?_) (fun c39 => ?_)
            · refine mv_iconst (z := 0) B d_Mod_leaf_53 rfl ?_
              refine mv_istore (lv' := [(4, .int (iI (0))), (0, .ref r), (1, .int (iI (k))), (2, .int (iI (a))), (3, .int (iI (b)))]) B d_Mod_leaf_54 (by decide) rfl ?_
              refine mv_iload B d_Mod_leaf_56 0 rfl ?_
              refine mv_if_eq (tgt := 93) B d_Mod_leaf_58 (by decide) (by omega) (fun c40 => ?_) (fun c40 => ?_)
              · refine mv_iconst (z := -1) B d_Mod_leaf_93 rfl ?_
                rw [hQ]
                exact mv_iret B ⟨by rw [if_neg (show ¬ (((k = 0 ∨ k = 2) ∧ 0 ≤ a ∧ a ≤ 100 ∧ b = 0) ∨ (k = 1 ∧ 0 ≤ a ∧ a < gn ∧ b = 0) ∨ (k = 3 ∧ 0 ≤ a ∧ a < gn ∧ F 6 a.toNat = 3 ∧ 0 ≤ b ∧ b ≤ 100)) by omega)], Or.inl ⟨by omega, hC⟩⟩ (by omega) (by omega) d_Mod_leaf_94
              · omega
            · refine mv_iconst (z := 1) B d_Mod_leaf_49 rfl ?_
              refine mv_goto (tgt := 54) B d_Mod_leaf_50 (by decide) ?_
              refine mv_istore (lv' := [(4, .int (iI (1))), (0, .ref r), (1, .int (iI (k))), (2, .int (iI (a))), (3, .int (iI (b)))]) B d_Mod_leaf_54 (by decide) rfl ?_
              refine mv_iload B d_Mod_leaf_56 0 rfl ?_
              refine mv_if_eq (tgt := 93) B d_Mod_leaf_58 (by decide) (by omega) (fun c41 => ?_) (fun c41 => ?_)
              · omega
              · refine mv_iload_n B d_Mod_leaf_61 rfl 2 rfl ?_
                refine mv_iconst (z := 3) B d_Mod_leaf_62 rfl ?_
                refine mv_icmp_ne (tgt := 89) B d_Mod_leaf_63 (by decide) (by omega) (by omega) (fun c42 => ?_) (fun c42 => ?_)
                · refine mv_iload_n B d_Mod_leaf_89 rfl 4 rfl ?_
                  refine mv_if_eq (tgt := 95) B d_Mod_leaf_90 (by decide) (by omega) (fun c43 => ?_) (fun c43 => ?_)
                  · refine mv_aloadR_n B d_Mod_leaf_95 rfl 1 rfl ?_
                    refine mv_iload_n B d_Mod_leaf_96 rfl 2 rfl ?_
                    refine mv_iload_n B d_Mod_leaf_97 rfl 3 rfl ?_
                    refine mv_iload_n B d_Mod_leaf_98 rfl 4 rfl ?_
                    have n44q : pC (capL cap c (1)) lq = pC (capN (cap) ((c : Nat))) lq := rfl
                    have n44r : pS (capL cap c (1)) lq = pS (capN (cap) ((c : Nat))) lq := rfl
                    have n44p := pC_N (lc := lq) (c := (c : Nat)) (show 1 ≤ cap by omega)
                    refine ca_Mod_63 (mc := pC (capN (cap) ((c : Nat))) lq - pC (cap) lq) (ms := pS (capN (cap) ((c : Nat))) lq - pS (cap) lq) (rm' := rM 2 (pC (capN (cap) ((c : Nat))) lq - pC (cap) lq) (pS (capN (cap) ((c : Nat))) lq - pS (cap) lq) 70) (As := [.int (iI (k)), .int (iI (a)), .int (iI (b))]) (rest := []) B (m_Mod_add hC (by omega) (by omega) (k := k) (v := a) (s := b) (by omega) (by omega) (by omega)) rfl rfl ⟨Nat.le_of_ble_eq_true rfl, Nat.le_of_ble_eq_true rfl⟩ hC.1 rfl rfl (Nat.le_of_ble_eq_true rfl) d_Mod_leaf_99 ⟨(by omega), (by omega)⟩ (fun v1 n44M ep => ?_)
                    obtain ⟨e1, n44A, n44C⟩ := ep
                    subst e1
                    have n44D : RefC V n44M r n44A (rN (capL cap c (1)) lq) (appF F c ([(k, a, b)])) ((c + (1) : Nat) : Int) tn gn := by
                      have h := n44C
                      rw [show ((c : Nat) : Int).toNat = c by omega] at h; exact h
                    refine mv_widen (c2 := pC (capL cap c (1)) lq - pC cap lq) (s2 := pS (capL cap c (1)) lq - pS cap lq) (by omega) (by omega) ?_
                    show mv_G X Q (kk V) 6 102 [(4, .int (iI (1))), (0, .ref r), (1, .int (iI (k))), (2, .int (iI (a))), (3, .int (iI (b)))] [.int (iI ((c : Nat)))] n44M (pC (capL cap c (1)) lq - pC cap lq) (pS (capL cap c (1)) lq - pS cap lq)
                    have k45_6 : n44M (n44A 6) = some (iA V (100) (appF F c ([(k, a, b)]) 6)) := n44D.2.1 6 (by decide)
                    have hwf : (1 : Nat) ≤ 1000 → WF 1 (fun j => appF F c [(k, a, b)] 0 (c + j)) (fun _ => 1) := fun _ => wf1 (show appF F c [(k, a, b)] 0 c < 4 by rw [show appF F c [(k, a, b)] 0 c = k by simp [appF, addF, va_up]]; omega)
                    refine mv_istore (lv' := [(5, .int (iI ((c : Nat)))), (4, .int (iI (1))), (0, .ref r), (1, .int (iI (k))), (2, .int (iI (a))), (3, .int (iI (b)))]) B d_Mod_leaf_102 (by decide) rfl ?_
                    refine mv_aloadR_n B d_Mod_leaf_104 rfl 2 rfl ?_
                    refine mv_iload B d_Mod_leaf_105 0 rfl ?_
                    refine ca_Mod_84 (mc := 0) (ms := 0) (rm' := rM 1 0 0 30) (As := [.int (iI ((c : Nat)))]) (rest := []) B (m_Mod_term n44D (by omega) (b := c) (n := 1) (ℓ := (fun _ => 1)) (by omega) (by omega) (by omega) hwf) rfl rfl ⟨Nat.le_of_ble_eq_true rfl, Nat.le_of_ble_eq_true rfl⟩ n44D.1 rfl rfl (Nat.le_of_ble_eq_true rfl) d_Mod_leaf_107 ⟨by omega, by omega⟩ (fun v1 M9 ep => ?_)
                    obtain ⟨e1, hT9⟩ := tm_v ep
                    subst e1
                    show mv_G X Q (kk V) 6 110 [(5, .int (iI ((c : Nat)))), (4, .int (iI (1))), (0, .ref r), (1, .int (iI (k))), (2, .int (iI (a))), (3, .int (iI (b)))] [.int (iI (if (tn = 1500 ∨ 1000 < 1 ∨ 30000 < c + 1) then -1 else tn))] M9 (pC (capL cap c (1)) lq - pC cap lq) (pS (capL cap c (1)) lq - pS cap lq)
                    rw [hQ]
                    exact mv_iret B ⟨by rw [if_pos (show (((k = 0 ∨ k = 2) ∧ 0 ≤ a ∧ a ≤ 100 ∧ b = 0) ∨ (k = 1 ∧ 0 ≤ a ∧ a < gn ∧ b = 0) ∨ (k = 3 ∧ 0 ≤ a ∧ a < gn ∧ F 6 a.toNat = 3 ∧ 0 ≤ b ∧ b ≤ 100)) by omega)], Or.inr ⟨by omega, n44A, hT9⟩⟩ (by omega) (by omega) d_Mod_leaf_110
                  · refine mv_iconst (z := -1) B d_Mod_leaf_93 rfl ?_
                    rw [hQ]
                    exact mv_iret B ⟨by rw [if_neg (show ¬ (((k = 0 ∨ k = 2) ∧ 0 ≤ a ∧ a ≤ 100 ∧ b = 0) ∨ (k = 1 ∧ 0 ≤ a ∧ a < gn ∧ b = 0) ∨ (k = 3 ∧ 0 ≤ a ∧ a < gn ∧ F 6 a.toNat = 3 ∧ 0 ≤ b ∧ b ≤ 100)) by omega)], Or.inl ⟨by omega, hC⟩⟩ (by omega) (by omega) d_Mod_leaf_94
                · refine mv_aloadR_n B d_Mod_leaf_66 rfl 1 rfl ?_
                  refine gf_Mod_28 B hC.1 rfl d_Mod_leaf_67 ?_
                  refine mv_iload_n B d_Mod_leaf_70 rfl 3 rfl ?_
                  refine ia_ld B k1_6 (by omega) (by omega) (by omega) d_Mod_leaf_71 ?_
                  have rr46 : R32 (F 6 (Int.toNat (a))) := (hC.R 6) _
                  refine mv_iconst (z := 3) B d_Mod_leaf_72 rfl ?_
                  refine mv_icmp_ne (tgt := 93) B d_Mod_leaf_73 (by decide) (by omega) (by omega) (fun c47 => ?_) (fun c47 => ?_)
                  · refine mv_iconst (z := -1) B d_Mod_leaf_93 rfl ?_
                    rw [hQ]
                    exact mv_iret B ⟨by rw [if_neg (show ¬ (((k = 0 ∨ k = 2) ∧ 0 ≤ a ∧ a ≤ 100 ∧ b = 0) ∨ (k = 1 ∧ 0 ≤ a ∧ a < gn ∧ b = 0) ∨ (k = 3 ∧ 0 ≤ a ∧ a < gn ∧ F 6 a.toNat = 3 ∧ 0 ≤ b ∧ b ≤ 100)) by omega)], Or.inl ⟨by omega, hC⟩⟩ (by omega) (by omega) d_Mod_leaf_94
                  · refine mv_iload_n B d_Mod_leaf_76 rfl 4 rfl ?_
                    refine mv_if_lt (tgt := 93) B d_Mod_leaf_77 (by decide) (by omega) (fun c48 => ?_) (fun c48 => ?_)
                    · refine mv_iconst (z := -1) B d_Mod_leaf_93 rfl ?_
                      rw [hQ]
                      exact mv_iret B ⟨by rw [if_neg (show ¬ (((k = 0 ∨ k = 2) ∧ 0 ≤ a ∧ a ≤ 100 ∧ b = 0) ∨ (k = 1 ∧ 0 ≤ a ∧ a < gn ∧ b = 0) ∨ (k = 3 ∧ 0 ≤ a ∧ a < gn ∧ F 6 a.toNat = 3 ∧ 0 ≤ b ∧ b ≤ 100)) by omega)], Or.inl ⟨by omega, hC⟩⟩ (by omega) (by omega) d_Mod_leaf_94
                    · refine mv_iload_n B d_Mod_leaf_80 rfl 4 rfl ?_
                      refine mv_bipush (z := 100) B d_Mod_leaf_81 (by decide) ?_
                      refine mv_icmp_le (tgt := 95) B d_Mod_leaf_83 (by decide) (by omega) (by omega) (fun c49 => ?_) (fun c49 => ?_)
                      · refine mv_aloadR_n B d_Mod_leaf_95 rfl 1 rfl ?_
                        refine mv_iload_n B d_Mod_leaf_96 rfl 2 rfl ?_
                        refine mv_iload_n B d_Mod_leaf_97 rfl 3 rfl ?_
                        refine mv_iload_n B d_Mod_leaf_98 rfl 4 rfl ?_
                        have n50q : pC (capL cap c (1)) lq = pC (capN (cap) ((c : Nat))) lq := rfl
                        have n50r : pS (capL cap c (1)) lq = pS (capN (cap) ((c : Nat))) lq := rfl
                        have n50p := pC_N (lc := lq) (c := (c : Nat)) (show 1 ≤ cap by omega)
                        refine ca_Mod_63 (mc := pC (capN (cap) ((c : Nat))) lq - pC (cap) lq) (ms := pS (capN (cap) ((c : Nat))) lq - pS (cap) lq) (rm' := rM 2 (pC (capN (cap) ((c : Nat))) lq - pC (cap) lq) (pS (capN (cap) ((c : Nat))) lq - pS (cap) lq) 70) (As := [.int (iI (k)), .int (iI (a)), .int (iI (b))]) (rest := []) B (m_Mod_add hC (by omega) (by omega) (k := k) (v := a) (s := b) (by omega) (by omega) (by omega)) rfl rfl ⟨Nat.le_of_ble_eq_true rfl, Nat.le_of_ble_eq_true rfl⟩ hC.1 rfl rfl (Nat.le_of_ble_eq_true rfl) d_Mod_leaf_99 ⟨(by omega), (by omega)⟩ (fun v1 n50M ep => ?_)
                        obtain ⟨e1, n50A, n50C⟩ := ep
                        subst e1
                        have n50D : RefC V n50M r n50A (rN (capL cap c (1)) lq) (appF F c ([(k, a, b)])) ((c + (1) : Nat) : Int) tn gn := by
                          have h := n50C
                          rw [show ((c : Nat) : Int).toNat = c by omega] at h; exact h
                        refine mv_widen (c2 := pC (capL cap c (1)) lq - pC cap lq) (s2 := pS (capL cap c (1)) lq - pS cap lq) (by omega) (by omega) ?_
                        show mv_G X Q (kk V) 6 102 [(4, .int (iI (1))), (0, .ref r), (1, .int (iI (k))), (2, .int (iI (a))), (3, .int (iI (b)))] [.int (iI ((c : Nat)))] n50M (pC (capL cap c (1)) lq - pC cap lq) (pS (capL cap c (1)) lq - pS cap lq)
                        have k51_6 : n50M (n50A 6) = some (iA V (100) (appF F c ([(k, a, b)]) 6)) := n50D.2.1 6 (by decide)
                        have hwf : (1 : Nat) ≤ 1000 → WF 1 (fun j => appF F c [(k, a, b)] 0 (c + j)) (fun _ => 1) := fun _ => wf1 (show appF F c [(k, a, b)] 0 c < 4 by rw [show appF F c [(k, a, b)] 0 c = k by simp [appF, addF, va_up]]; omega)
                        refine mv_istore (lv' := [(5, .int (iI ((c : Nat)))), (4, .int (iI (1))), (0, .ref r), (1, .int (iI (k))), (2, .int (iI (a))), (3, .int (iI (b)))]) B d_Mod_leaf_102 (by decide) rfl ?_
                        refine mv_aloadR_n B d_Mod_leaf_104 rfl 2 rfl ?_
                        refine mv_iload B d_Mod_leaf_105 0 rfl ?_
                        refine ca_Mod_84 (mc := 0) (ms := 0) (rm' := rM 1 0 0 30) (As := [.int (iI ((c : Nat)))]) (rest := []) B (m_Mod_term n50D (by omega) (b := c) (n := 1) (ℓ := (fun _ => 1)) (by omega) (by omega) (by omega) hwf) rfl rfl ⟨Nat.le_of_ble_eq_true rfl, Nat.le_of_ble_eq_true rfl⟩ n50D.1 rfl rfl (Nat.le_of_ble_eq_true rfl) d_Mod_leaf_107 ⟨by omega, by omega⟩ (fun v1 M9 ep => ?_)
                        obtain ⟨e1, hT9⟩ := tm_v ep
                        subst e1
                        show mv_G X Q (kk V) 6 110 [(5, .int (iI ((c : Nat)))), (4, .int (iI (1))), (0, .ref r), (1, .int (iI (k))), (2, .int (iI (a))), (3, .int (iI (b)))] [.int (iI (if (tn = 1500 ∨ 1000 < 1 ∨ 30000 < c + 1) then -1 else tn))] M9 (pC (capL cap c (1)) lq - pC cap lq) (pS (capL cap c (1)) lq - pS cap lq)
                        rw [hQ]
                        exact mv_iret B ⟨by rw [if_pos (show (((k = 0 ∨ k = 2) ∧ 0 ≤ a ∧ a ≤ 100 ∧ b = 0) ∨ (k = 1 ∧ 0 ≤ a ∧ a < gn ∧ b = 0) ∨ (k = 3 ∧ 0 ≤ a ∧ a < gn ∧ F 6 a.toNat = 3 ∧ 0 ≤ b ∧ b ≤ 100)) by omega)], Or.inr ⟨by omega, n50A, hT9⟩⟩ (by omega) (by omega) d_Mod_leaf_110
                      · refine mv_goto (tgt := 93) B d_Mod_leaf_86 (by decide) ?_
                        refine mv_iconst (z := -1) B d_Mod_leaf_93 rfl ?_
                        rw [hQ]
                        exact mv_iret B ⟨by rw [if_neg (show ¬ (((k = 0 ∨ k = 2) ∧ 0 ≤ a ∧ a ≤ 100 ∧ b = 0) ∨ (k = 1 ∧ 0 ≤ a ∧ a < gn ∧ b = 0) ∨ (k = 3 ∧ 0 ≤ a ∧ a < gn ∧ F 6 a.toNat = 3 ∧ 0 ≤ b ∧ b ≤ 100)) by omega)], Or.inl ⟨by omega, hC⟩⟩ (by omega) (by omega) d_Mod_leaf_94
    · refine mv_iload_n B d_Mod_leaf_9 rfl 2 rfl ?_
      refine mv_if_lt (tgt := 23) B d_Mod_leaf_10 (by decide) (by omega) (fun c52 => ?_) (fun c52 => ?_)
      · refine mv_iconst (z := 0) B d_Mod_leaf_23 rfl ?_
        refine mv_goto (tgt := 54) B d_Mod_leaf_24 (by decide) ?_
        refine mv_istore (lv' := [(4, .int (iI (0))), (0, .ref r), (1, .int (iI (k))), (2, .int (iI (a))), (3, .int (iI (b)))]) B d_Mod_leaf_54 (by decide) rfl ?_
        refine mv_iload B d_Mod_leaf_56 0 rfl ?_
        refine mv_if_eq (tgt := 93) B d_Mod_leaf_58 (by decide) (by omega) (fun c53 => ?_) (fun c53 => ?_)
        · refine mv_iconst (z := -1) B d_Mod_leaf_93 rfl ?_
          rw [hQ]
          exact mv_iret B ⟨by rw [if_neg (show ¬ (((k = 0 ∨ k = 2) ∧ 0 ≤ a ∧ a ≤ 100 ∧ b = 0) ∨ (k = 1 ∧ 0 ≤ a ∧ a < gn ∧ b = 0) ∨ (k = 3 ∧ 0 ≤ a ∧ a < gn ∧ F 6 a.toNat = 3 ∧ 0 ≤ b ∧ b ≤ 100)) by omega)], Or.inl ⟨by omega, hC⟩⟩ (by omega) (by omega) d_Mod_leaf_94
        · omega
      · refine mv_iload_n B d_Mod_leaf_13 rfl 2 rfl ?_
        refine mv_bipush (z := 100) B d_Mod_leaf_14 (by decide) ?_
        refine mv_icmp_gt (tgt := 23) B d_Mod_leaf_16 (by decide) (by omega) (by omega) (fun c54 => ?_) (fun c54 => ?_)
        · refine mv_iconst (z := 0) B d_Mod_leaf_23 rfl ?_
          refine mv_goto (tgt := 54) B d_Mod_leaf_24 (by decide) ?_
          refine mv_istore (lv' := [(4, .int (iI (0))), (0, .ref r), (1, .int (iI (k))), (2, .int (iI (a))), (3, .int (iI (b)))]) B d_Mod_leaf_54 (by decide) rfl ?_
          refine mv_iload B d_Mod_leaf_56 0 rfl ?_
          refine mv_if_eq (tgt := 93) B d_Mod_leaf_58 (by decide) (by omega) (fun c55 => ?_) (fun c55 => ?_)
          · refine mv_iconst (z := -1) B d_Mod_leaf_93 rfl ?_
            rw [hQ]
            exact mv_iret B ⟨by rw [if_neg (show ¬ (((k = 0 ∨ k = 2) ∧ 0 ≤ a ∧ a ≤ 100 ∧ b = 0) ∨ (k = 1 ∧ 0 ≤ a ∧ a < gn ∧ b = 0) ∨ (k = 3 ∧ 0 ≤ a ∧ a < gn ∧ F 6 a.toNat = 3 ∧ 0 ≤ b ∧ b ≤ 100)) by omega)], Or.inl ⟨by omega, hC⟩⟩ (by omega) (by omega) d_Mod_leaf_94
          · omega
        · refine mv_iconst (z := 1) B d_Mod_leaf_19 rfl ?_
          refine mv_goto (tgt := 54) B d_Mod_leaf_20 (by decide) ?_
          refine mv_istore (lv' := [(4, .int (iI (1))), (0, .ref r), (1, .int (iI (k))), (2, .int (iI (a))), (3, .int (iI (b)))]) B d_Mod_leaf_54 (by decide) rfl ?_
          refine mv_iload B d_Mod_leaf_56 0 rfl ?_
          refine mv_if_eq (tgt := 93) B d_Mod_leaf_58 (by decide) (by omega) (fun c56 => ?_) (fun c56 => ?_)
          · omega
          · refine mv_iload_n B d_Mod_leaf_61 rfl 2 rfl ?_
            refine mv_iconst (z := 3) B d_Mod_leaf_62 rfl ?_
            refine mv_icmp_ne (tgt := 89) B d_Mod_leaf_63 (by decide) (by omega) (by omega) (fun c57 => ?_) (fun c57 => ?_)
            · refine mv_iload_n B d_Mod_leaf_89 rfl 4 rfl ?_
              refine mv_if_eq (tgt := 95) B d_Mod_leaf_90 (by decide) (by omega) (fun c58 => ?_) (fun c58 => ?_)
              · refine mv_aloadR_n B d_Mod_leaf_95 rfl 1 rfl ?_
                refine mv_iload_n B d_Mod_leaf_96 rfl 2 rfl ?_
                refine mv_iload_n B d_Mod_leaf_97 rfl 3 rfl ?_
                refine mv_iload_n B d_Mod_leaf_98 rfl 4 rfl ?_
                have n59q : pC (capL cap c (1)) lq = pC (capN (cap) ((c : Nat))) lq := rfl
                have n59r : pS (capL cap c (1)) lq = pS (capN (cap) ((c : Nat))) lq := rfl
                have n59p := pC_N (lc := lq) (c := (c : Nat)) (show 1 ≤ cap by omega)
                refine ca_Mod_63 (mc := pC (capN (cap) ((c : Nat))) lq - pC (cap) lq) (ms := pS (capN (cap) ((c : Nat))) lq - pS (cap) lq) (rm' := rM 2 (pC (capN (cap) ((c : Nat))) lq - pC (cap) lq) (pS (capN (cap) ((c : Nat))) lq - pS (cap) lq) 70) (As := [.int (iI (k)), .int (iI (a)), .int (iI (b))]) (rest := []) B (m_Mod_add hC (by omega) (by omega) (k := k) (v := a) (s := b) (by omega) (by omega) (by omega)) rfl rfl ⟨Nat.le_of_ble_eq_true rfl, Nat.le_of_ble_eq_true rfl⟩ hC.1 rfl rfl (Nat.le_of_ble_eq_true rfl) d_Mod_leaf_99 ⟨(by omega), (by omega)⟩ (fun v1 n59M ep => ?_)
                obtain ⟨e1, n59A, n59C⟩ := ep
                subst e1
                have n59D : RefC V n59M r n59A (rN (capL cap c (1)) lq) (appF F c ([(k, a, b)])) ((c + (1) : Nat) : Int) tn gn := by
                  have h := n59C
                  rw [show ((c : Nat) : Int).toNat = c by omega] at h; exact h
                refine mv_widen (c2 := pC (capL cap c (1)) lq - pC cap lq) (s2 := pS (capL cap c (1)) lq - pS cap lq) (by omega) (by omega) ?_
                show mv_G X Q (kk V) 6 102 [(4, .int (iI (1))), (0, .ref r), (1, .int (iI (k))), (2, .int (iI (a))), (3, .int (iI (b)))] [.int (iI ((c : Nat)))] n59M (pC (capL cap c (1)) lq - pC cap lq) (pS (capL cap c (1)) lq - pS cap lq)
                have k60_6 : n59M (n59A 6) = some (iA V (100) (appF F c ([(k, a, b)]) 6)) := n59D.2.1 6 (by decide)
                have hwf : (1 : Nat) ≤ 1000 → WF 1 (fun j => appF F c [(k, a, b)] 0 (c + j)) (fun _ => 1) := fun _ => wf1 (show appF F c [(k, a, b)] 0 c < 4 by rw [show appF F c [(k, a, b)] 0 c = k by simp [appF, addF, va_up]]; omega)
                refine mv_istore (lv' := [(5, .int (iI ((c : Nat)))), (4, .int (iI (1))), (0, .ref r), (1, .int (iI (k))), (2, .int (iI (a))), (3, .int (iI (b)))]) B d_Mod_leaf_102 (by decide) rfl ?_
                refine mv_aloadR_n B d_Mod_leaf_104 rfl 2 rfl ?_
                refine mv_iload B d_Mod_leaf_105 0 rfl ?_
                refine ca_Mod_84 (mc := 0) (ms := 0) (rm' := rM 1 0 0 30) (As := [.int (iI ((c : Nat)))]) (rest := []) B (m_Mod_term n59D (by omega) (b := c) (n := 1) (ℓ := (fun _ => 1)) (by omega) (by omega) (by omega) hwf) rfl rfl ⟨Nat.le_of_ble_eq_true rfl, Nat.le_of_ble_eq_true rfl⟩ n59D.1 rfl rfl (Nat.le_of_ble_eq_true rfl) d_Mod_leaf_107 ⟨by omega, by omega⟩ (fun v1 M9 ep => ?_)
                obtain ⟨e1, hT9⟩ := tm_v ep
                subst e1
                show mv_G X Q (kk V) 6 110 [(5, .int (iI ((c : Nat)))), (4, .int (iI (1))), (0, .ref r), (1, .int (iI (k))), (2, .int (iI (a))), (3, .int (iI (b)))] [.int (iI (if (tn = 1500 ∨ 1000 < 1 ∨ 30000 < c + 1) then -1 else tn))] M9 (pC (capL cap c (1)) lq - pC cap lq) (pS (capL cap c (1)) lq - pS cap lq)
                rw [hQ]
                exact mv_iret B ⟨by rw [if_pos (show (((k = 0 ∨ k = 2) ∧ 0 ≤ a ∧ a ≤ 100 ∧ b = 0) ∨ (k = 1 ∧ 0 ≤ a ∧ a < gn ∧ b = 0) ∨ (k = 3 ∧ 0 ≤ a ∧ a < gn ∧ F 6 a.toNat = 3 ∧ 0 ≤ b ∧ b ≤ 100)) by omega)], Or.inr ⟨by omega, n59A, hT9⟩⟩ (by omega) (by omega) d_Mod_leaf_110
              · refine mv_iconst (z := -1) B d_Mod_leaf_93 rfl ?_
                rw [hQ]
                exact mv_iret B ⟨by rw [if_neg (show ¬ (((k = 0 ∨ k = 2) ∧ 0 ≤ a ∧ a ≤ 100 ∧ b = 0) ∨ (k = 1 ∧ 0 ≤ a ∧ a < gn ∧ b = 0) ∨ (k = 3 ∧ 0 ≤ a ∧ a < gn ∧ F 6 a.toNat = 3 ∧ 0 ≤ b ∧ b ≤ 100)) by omega)], Or.inl ⟨by omega, hC⟩⟩ (by omega) (by omega) d_Mod_leaf_94
            · refine mv_aloadR_n B d_Mod_leaf_66 rfl 1 rfl ?_
              refine gf_Mod_28 B hC.1 rfl d_Mod_leaf_67 ?_
              refine mv_iload_n B d_Mod_leaf_70 rfl 3 rfl ?_
              refine ia_ld B k1_6 (by omega) (by omega) (by omega) d_Mod_leaf_71 ?_
              have rr61 : R32 (F 6 (Int.toNat (a))) := (hC.R 6) _
              refine mv_iconst (z := 3) B d_Mod_leaf_72 rfl ?_
              refine mv_icmp_ne (tgt := 93) B d_Mod_leaf_73 (by decide) (by omega) (by omega) (fun c62 => ?_) (fun c62 => ?_)
              · refine mv_iconst (z := -1) B d_Mod_leaf_93 rfl ?_
                rw [hQ]
                exact mv_iret B ⟨by rw [if_neg (show ¬ (((k = 0 ∨ k = 2) ∧ 0 ≤ a ∧ a ≤ 100 ∧ b = 0) ∨ (k = 1 ∧ 0 ≤ a ∧ a < gn ∧ b = 0) ∨ (k = 3 ∧ 0 ≤ a ∧ a < gn ∧ F 6 a.toNat = 3 ∧ 0 ≤ b ∧ b ≤ 100)) by omega)], Or.inl ⟨by omega, hC⟩⟩ (by omega) (by omega) d_Mod_leaf_94
              · refine mv_iload_n B d_Mod_leaf_76 rfl 4 rfl ?_
                refine mv_if_lt (tgt := 93) B d_Mod_leaf_77 (by decide) (by omega) (fun c63 => ?_) (fun c63 => ?_)
                · refine mv_iconst (z := -1) B d_Mod_leaf_93 rfl ?_
                  rw [hQ]
                  exact mv_iret B ⟨by rw [if_neg (show ¬ (((k = 0 ∨ k = 2) ∧ 0 ≤ a ∧ a ≤ 100 ∧ b = 0) ∨ (k = 1 ∧ 0 ≤ a ∧ a < gn ∧ b = 0) ∨ (k = 3 ∧ 0 ≤ a ∧ a < gn ∧ F 6 a.toNat = 3 ∧ 0 ≤ b ∧ b ≤ 100)) by omega)], Or.inl ⟨by omega, hC⟩⟩ (by omega) (by omega) d_Mod_leaf_94
                · refine mv_iload_n B d_Mod_leaf_80 rfl 4 rfl ?_
                  refine mv_bipush (z := 100) B d_Mod_leaf_81 (by decide) ?_
                  refine mv_icmp_le (tgt := 95) B d_Mod_leaf_83 (by decide) (by omega) (by omega) (fun c64 => ?_) (fun c64 => ?_)
                  · refine mv_aloadR_n B d_Mod_leaf_95 rfl 1 rfl ?_
                    refine mv_iload_n B d_Mod_leaf_96 rfl 2 rfl ?_
                    refine mv_iload_n B d_Mod_leaf_97 rfl 3 rfl ?_
                    refine mv_iload_n B d_Mod_leaf_98 rfl 4 rfl ?_
                    have n65q : pC (capL cap c (1)) lq = pC (capN (cap) ((c : Nat))) lq := rfl
                    have n65r : pS (capL cap c (1)) lq = pS (capN (cap) ((c : Nat))) lq := rfl
                    have n65p := pC_N (lc := lq) (c := (c : Nat)) (show 1 ≤ cap by omega)
                    refine ca_Mod_63 (mc := pC (capN (cap) ((c : Nat))) lq - pC (cap) lq) (ms := pS (capN (cap) ((c : Nat))) lq - pS (cap) lq) (rm' := rM 2 (pC (capN (cap) ((c : Nat))) lq - pC (cap) lq) (pS (capN (cap) ((c : Nat))) lq - pS (cap) lq) 70) (As := [.int (iI (k)), .int (iI (a)), .int (iI (b))]) (rest := []) B (m_Mod_add hC (by omega) (by omega) (k := k) (v := a) (s := b) (by omega) (by omega) (by omega)) rfl rfl ⟨Nat.le_of_ble_eq_true rfl, Nat.le_of_ble_eq_true rfl⟩ hC.1 rfl rfl (Nat.le_of_ble_eq_true rfl) d_Mod_leaf_99 ⟨(by omega), (by omega)⟩ (fun v1 n65M ep => ?_)
                    obtain ⟨e1, n65A, n65C⟩ := ep
                    subst e1
                    have n65D : RefC V n65M r n65A (rN (capL cap c (1)) lq) (appF F c ([(k, a, b)])) ((c + (1) : Nat) : Int) tn gn := by
                      have h := n65C
                      rw [show ((c : Nat) : Int).toNat = c by omega] at h; exact h
                    refine mv_widen (c2 := pC (capL cap c (1)) lq - pC cap lq) (s2 := pS (capL cap c (1)) lq - pS cap lq) (by omega) (by omega) ?_
                    show mv_G X Q (kk V) 6 102 [(4, .int (iI (1))), (0, .ref r), (1, .int (iI (k))), (2, .int (iI (a))), (3, .int (iI (b)))] [.int (iI ((c : Nat)))] n65M (pC (capL cap c (1)) lq - pC cap lq) (pS (capL cap c (1)) lq - pS cap lq)
                    have k66_6 : n65M (n65A 6) = some (iA V (100) (appF F c ([(k, a, b)]) 6)) := n65D.2.1 6 (by decide)
                    have hwf : (1 : Nat) ≤ 1000 → WF 1 (fun j => appF F c [(k, a, b)] 0 (c + j)) (fun _ => 1) := fun _ => wf1 (show appF F c [(k, a, b)] 0 c < 4 by rw [show appF F c [(k, a, b)] 0 c = k by simp [appF, addF, va_up]]; omega)
                    refine mv_istore (lv' := [(5, .int (iI ((c : Nat)))), (4, .int (iI (1))), (0, .ref r), (1, .int (iI (k))), (2, .int (iI (a))), (3, .int (iI (b)))]) B d_Mod_leaf_102 (by decide) rfl ?_
                    refine mv_aloadR_n B d_Mod_leaf_104 rfl 2 rfl ?_
                    refine mv_iload B d_Mod_leaf_105 0 rfl ?_
                    refine ca_Mod_84 (mc := 0) (ms := 0) (rm' := rM 1 0 0 30) (As := [.int (iI ((c : Nat)))]) (rest := []) B (m_Mod_term n65D (by omega) (b := c) (n := 1) (ℓ := (fun _ => 1)) (by omega) (by omega) (by omega) hwf) rfl rfl ⟨Nat.le_of_ble_eq_true rfl, Nat.le_of_ble_eq_true rfl⟩ n65D.1 rfl rfl (Nat.le_of_ble_eq_true rfl) d_Mod_leaf_107 ⟨by omega, by omega⟩ (fun v1 M9 ep => ?_)
                    obtain ⟨e1, hT9⟩ := tm_v ep
                    subst e1
                    show mv_G X Q (kk V) 6 110 [(5, .int (iI ((c : Nat)))), (4, .int (iI (1))), (0, .ref r), (1, .int (iI (k))), (2, .int (iI (a))), (3, .int (iI (b)))] [.int (iI (if (tn = 1500 ∨ 1000 < 1 ∨ 30000 < c + 1) then -1 else tn))] M9 (pC (capL cap c (1)) lq - pC cap lq) (pS (capL cap c (1)) lq - pS cap lq)
                    rw [hQ]
                    exact mv_iret B ⟨by rw [if_pos (show (((k = 0 ∨ k = 2) ∧ 0 ≤ a ∧ a ≤ 100 ∧ b = 0) ∨ (k = 1 ∧ 0 ≤ a ∧ a < gn ∧ b = 0) ∨ (k = 3 ∧ 0 ≤ a ∧ a < gn ∧ F 6 a.toNat = 3 ∧ 0 ≤ b ∧ b ≤ 100)) by omega)], Or.inr ⟨by omega, n65A, hT9⟩⟩ (by omega) (by omega) d_Mod_leaf_110
                  · refine mv_goto (tgt := 93) B d_Mod_leaf_86 (by decide) ?_
                    refine mv_iconst (z := -1) B d_Mod_leaf_93 rfl ?_
                    rw [hQ]
                    exact mv_iret B ⟨by rw [if_neg (show ¬ (((k = 0 ∨ k = 2) ∧ 0 ≤ a ∧ a ≤ 100 ∧ b = 0) ∨ (k = 1 ∧ 0 ≤ a ∧ a < gn ∧ b = 0) ∨ (k = 3 ∧ 0 ≤ a ∧ a < gn ∧ F 6 a.toNat = 3 ∧ 0 ≤ b ∧ b ≤ 100)) by omega)], Or.inl ⟨by omega, hC⟩⟩ (by omega) (by omega) d_Mod_leaf_94
