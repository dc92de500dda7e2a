/-! the reference: isClosed, term -/
def clR (F : Nat → Nat → Int) (D : Nat → Int) (b : Nat) : Nat → Bool
  | 0 => true
  | i + 1 => clR F D b i && (decide (¬ F 0 (b + i) = 0) || decide (F 1 (b + i) < D (b + i)))
theorem clR_s (F : Nat → Nat → Int) (D : Nat → Int) (b i : Nat) : clR F D b (i + 1) = (clR F D b i && (decide (¬ F 0 (b + i) = 0) || decide (F 1 (b + i) < D (b + i)))) := rfl
set_option maxRecDepth 100000 in
set_option maxHeartbeats 4000000 in
theorem m_Mod_isClosed {l : Launch} {V : mv_V} {M : mv_M} {r cap lq : Nat} {A : Nat → Nat} {F : Nat → Nat → Int} {c tn gn : Int} (hC : RefC V M r A (rN cap lq) F c tn gn) (hcap : cap ≤ 1000000) {b : Nat} (hb : 0 ≤ F 3 b ∧ (b : Int) + F 3 b ≤ cap ∧ b < cap) (hin : ∀ i : Nat, (i : Int) < F 3 b → 4 ≤ F 0 (b + i) → (b : Int) + i + 1 < cap ∧ 0 ≤ scR F (b + i) ∧ scR F (b + i) < cap) (hsm : ∀ i : Nat, (i : Int) < F 3 b → Sm (wkR F b (F 4) i (b + i) + 1)) : Met l y_Mod_isClosed ws_Mod_isClosed (rM 2 0 0 50) (mv_Pre (kk V) [.ref r, .int (iI ((b : Nat)))] M) (mv_Q (kk V) (fun z0 M' => z0 = some (.int (iI (if clR F (wkR F b (F 4) (Int.toNat (F 3 b))) b (F 3 b).toNat = true then 1 else 0))) ∧ RefC V M' r A (rN cap lq) (va_up F 4 (wkR F b (F 4) (Int.toNat (F 3 b)))) c tn gn)) 0 0 V.2.2.2.2 := by
  refine mv_Met (by decide) rfl (Nat.le_of_ble_eq_true rfl) (fun X hX B => ?_)
  subst hX
  replace B : mv_B X (kk V) c_Mod_isClosed ws_Mod_isClosed "FamilyRulesModel" 4 (Option.some Jvm.ClassFile.FieldType.boolean) (rM 2 0 0 50) "isClosed" := B
  obtain ⟨Q, hQ⟩ : ∃ Q, Q = mv_E X (kk V) (fun z0 M' => z0 = some (.int (iI (if clR F (wkR F b (F 4) (Int.toNat (F 3 b))) b (F 3 b).toNat = true then 1 else 0))) ∧ RefC V M' r A (rN cap lq) (va_up F 4 (wkR F b (F 4) (Int.toNat (F 3 b)))) c tn gn) 0 0 := ⟨_, rfl⟩
  rw [← hQ]
  show mv_G X Q (kk V) 4 0 [(0, .ref r), (1, .int (iI ((b : Nat))))] [] M 0 0
  have k1_0 : M (A 0) = some (iA V (cap) (F 0)) := hC.2.1 0 (by decide)
  have k1_1 : M (A 1) = some (iA V (cap) (F 1)) := hC.2.1 1 (by decide)
  have k1_3 : M (A 3) = some (iA V (cap) (F 3)) := hC.2.1 3 (by decide)
  have k1_4 : M (A 4) = some (iA V (cap) (F 4)) := hC.2.1 4 (by decide)
  refine mv_aloadR_n B d_Mod_isClosed_0 rfl 0 rfl ?_
  refine mv_iload_n B d_Mod_isClosed_1 rfl 1 rfl ?_
  refine ca_Mod_71 (mc := 0) (ms := 0) (rm' := rM 1 0 0 21) (As := [.int (iI ((b : Nat)))]) (rest := []) B (m_Mod_walk hC hcap (b := b) hb hin hsm) rfl rfl ⟨Nat.le_of_ble_eq_true rfl, Nat.le_of_ble_eq_true rfl⟩ hC.1 rfl rfl (Nat.le_of_ble_eq_true rfl) d_Mod_isClosed_2 ⟨by omega, by omega⟩ (fun v1 M9 ep => ?_)
  obtain ⟨e1, hC9⟩ := ep
  subst e1
  show mv_G X Q (kk V) 4 5 [(0, .ref r), (1, .int (iI ((b : Nat))))] [] M9 0 0
  have k2_0 : M9 (A 0) = some (iA V (cap) (F 0)) := hC9.2.1 0 (by decide)
  have k2_1 : M9 (A 1) = some (iA V (cap) (F 1)) := hC9.2.1 1 (by decide)
  have k2_3 : M9 (A 3) = some (iA V (cap) (F 3)) := hC9.2.1 3 (by decide)
  have k2_4 : M9 (A 4) = some (iA V (cap) (wkR F b (F 4) (Int.toNat (F 3 b)))) := hC9.2.1 4 (by decide)
  refine mv_iconst (z := 1) B d_Mod_isClosed_5 rfl ?_
  refine mv_istore_n (lv' := [(2, .int (iI (1))), (0, .ref r), (1, .int (iI ((b : Nat))))]) B d_Mod_isClosed_6 rfl (by decide) rfl ?_
  refine mv_iload_n B d_Mod_isClosed_7 rfl 2 rfl ?_
  refine mv_istore_n (lv' := [(3, .int (iI ((b : Nat)))), (2, .int (iI (1))), (0, .ref r), (1, .int (iI ((b : Nat))))]) B d_Mod_isClosed_8 rfl (by decide) rfl ?_
  have L9 : ∀ (fu : Nat) (i : Nat), ((i : Int) ≤ F 3 b) → ((F 3 b).toNat - i) < fu → mv_G X Q (kk V) 4 9 [(3, .int (iI ((b : Nat) + (i : Nat)))), (2, .int (iI (if clR F (wkR F b (F 4) (Int.toNat (F 3 b))) b i = true then 1 else 0))), (0, .ref r), (1, .int (iI ((b : Nat))))] [] M9 0 0 := by
    intro fu
    induction fu with
    | zero => intro i hi hm; exact absurd hm (Nat.not_lt_zero _)
    | succ fu ih9 =>
      intro i hi hm
      have hR0 := hC.R 0 (b + i)
      have hR1 := hC.R 1 (b + i)
      have hR4 : R32 ((wkR F b (F 4) (Int.toNat (F 3 b))) (b + i)) := hC9.R 4 (b + i)
      refine mv_iload_n B d_Mod_isClosed_9 rfl 0 rfl ?_
      refine mv_iload_n B d_Mod_isClosed_10 rfl 3 rfl ?_
      refine mv_aloadR_n B d_Mod_isClosed_11 rfl 2 rfl ?_
      refine gf_Mod_19 B hC9.1 rfl d_Mod_isClosed_12 ?_
      refine mv_iload_n B d_Mod_isClosed_15 rfl 3 rfl ?_
      refine ia_ld B k2_3 (by omega) (by omega) (by omega) d_Mod_isClosed_16 ?_
      rw [show Int.toNat ((b : Nat)) = b from by omega]
      have rr3 : R32 (F 3 b) := (hC9.R 3) _
      refine mv_iadd B d_Mod_isClosed_17 ?_
      refine mv_icmp_ge (tgt := 59) B d_Mod_isClosed_18 (by decide) (by omega) (by omega) (fun c4 => ?_) (fun c4 => ?_)
      · refine mv_iload_n B d_Mod_isClosed_59 rfl 1 rfl ?_
        rw [hQ]
        exact mv_zret B (by split <;> rfl) ⟨by rw [show (F 3 b).toNat = i by omega], hC9⟩ (by omega) (by omega) d_Mod_isClosed_60
      · refine mv_iload_n B d_Mod_isClosed_21 rfl 1 rfl ?_
        refine mv_aloadR_n B d_Mod_isClosed_22 rfl 2 rfl ?_
        refine gf_Mod_7 B hC9.1 rfl d_Mod_isClosed_23 ?_
        refine mv_iload_n B d_Mod_isClosed_26 rfl 0 rfl ?_
        refine ia_ld B k2_0 (by omega) (by omega) (by omega) d_Mod_isClosed_27 ?_
        rw [show Int.toNat ((b : Nat) + (i : Nat)) = b + i from by omega]
        have rr5 : R32 (F 0 (b + i)) := (hC9.R 0) _
        refine mv_if_ne (tgt := 46) B d_Mod_isClosed_28 (by decide) (by omega) (fun c6 => ?_) (fun c6 => ?_)
        · refine mv_iconst (z := 1) B d_Mod_isClosed_46 rfl ?_
          refine mv_goto (tgt := 51) B d_Mod_isClosed_47 (by decide) ?_
          refine mv_iand B (by first | omega | (split <;> omega)) (by omega) d_Mod_isClosed_51 ?_
          refine mv_istore_n (lv' := [(2, .int (iI (if (if clR F (wkR F b (F 4) (Int.toNat (F 3 b))) b i = true then 1 else 0) = 1 ∧ 1 = 1 then 1 else 0))), (3, .int (iI ((b : Nat) + (i : Nat)))), (0, .ref r), (1, .int (iI ((b : Nat))))]) B d_Mod_isClosed_52 rfl (by decide) rfl ?_
          refine mv_iinc (lv' := [(3, .int (iI (((b : Nat) + (i : Nat)) + 1))), (2, .int (iI (if (if clR F (wkR F b (F 4) (Int.toNat (F 3 b))) b i = true then 1 else 0) = 1 ∧ 1 = 1 then 1 else 0))), (0, .ref r), (1, .int (iI ((b : Nat))))]) B d_Mod_isClosed_53 1 rfl (by decide) rfl ?_
          refine mv_goto (tgt := 9) B d_Mod_isClosed_56 (by decide) ?_
          refine mv_lv (lv' := [(3, .int (iI ((b : Nat) + ((i + 1) : Nat)))), (2, .int (iI (if clR F (wkR F b (F 4) (Int.toNat (F 3 b))) b (i + 1) = true then 1 else 0))), (0, .ref r), (1, .int (iI ((b : Nat))))]) [0, 1, 2, 3] (lc (lI (by first | rfl | omega)) (lc (lI (by rw [clR_s]; refine bz_and ?_; first | (rw [if_pos (by simp; omega)]; done) | (rw [if_neg (by simp; omega)]; done))) (lc rfl (lc rfl rfl)))) ?_
          exact ih9 (i + 1) (by omega) (by omega)
        · refine mv_aloadR_n B d_Mod_isClosed_31 rfl 2 rfl ?_
          refine gf_Mod_13 B hC9.1 rfl d_Mod_isClosed_32 ?_
          refine mv_iload_n B d_Mod_isClosed_35 rfl 0 rfl ?_
          refine ia_ld B k2_1 (by omega) (by omega) (by omega) d_Mod_isClosed_36 ?_
          rw [show Int.toNat ((b : Nat) + (i : Nat)) = b + i from by omega]
          have rr7 : R32 (F 1 (b + i)) := (hC9.R 1) _
          refine mv_aloadR_n B d_Mod_isClosed_37 rfl 2 rfl ?_
          refine gf_Mod_22 B hC9.1 rfl d_Mod_isClosed_38 ?_
          refine mv_iload_n B d_Mod_isClosed_41 rfl 0 rfl ?_
          refine ia_ld B k2_4 (by omega) (by omega) (by omega) d_Mod_isClosed_42 ?_
          rw [show Int.toNat ((b : Nat) + (i : Nat)) = b + i from by omega]
          have rr8 : R32 ((wkR F b (F 4) (Int.toNat (F 3 b))) (b + i)) := (hC9.R 4) _
          refine mv_icmp_ge (tgt := 50) B d_Mod_isClosed_43 (by decide) (by omega) (by omega) (fun c9 => ?_) (fun c9 => ?_)
          · refine mv_iconst (z := 0) B d_Mod_isClosed_50 rfl ?_
            refine mv_iand B (by first | omega | (split <;> omega)) (by omega) d_Mod_isClosed_51 ?_
            refine mv_istore_n (lv' := [(2, .int (iI (if (if clR F (wkR F b (F 4) (Int.toNat (F 3 b))) b i = true then 1 else 0) = 1 ∧ 0 = 1 then 1 else 0))), (3, .int (iI ((b : Nat) + (i : Nat)))), (0, .ref r), (1, .int (iI ((b : Nat))))]) B d_Mod_isClosed_52 rfl (by decide) rfl ?_
            refine mv_iinc (lv' := [(3, .int (iI (((b : Nat) + (i : Nat)) + 1))), (2, .int (iI (if (if clR F (wkR F b (F 4) (Int.toNat (F 3 b))) b i = true then 1 else 0) = 1 ∧ 0 = 1 then 1 else 0))), (0, .ref r), (1, .int (iI ((b : Nat))))]) B d_Mod_isClosed_53 1 rfl (by decide) rfl ?_
            refine mv_goto (tgt := 9) B d_Mod_isClosed_56 (by decide) ?_
            refine mv_lv (lv' := [(3, .int (iI ((b : Nat) + ((i + 1) : Nat)))), (2, .int (iI (if clR F (wkR F b (F 4) (Int.toNat (F 3 b))) b (i + 1) = true then 1 else 0))), (0, .ref r), (1, .int (iI ((b : Nat))))]) [0, 1, 2, 3] (lc (lI (by first | rfl | omega)) (lc (lI (by rw [clR_s]; refine bz_and ?_; first | (rw [if_pos (by simp; omega)]; done) | (rw [if_neg (by simp; omega)]; done))) (lc rfl (lc rfl rfl)))) ?_
            exact ih9 (i + 1) (by omega) (by omega)
          · refine mv_iconst (z := 1) B d_Mod_isClosed_46 rfl ?_
            refine mv_goto (tgt := 51) B d_Mod_isClosed_47 (by decide) ?_
            refine mv_iand B (by first | omega | (split <;> omega)) (by omega) d_Mod_isClosed_51 ?_
            refine mv_istore_n (lv' := [(2, .int (iI (if (if clR F (wkR F b (F 4) (Int.toNat (F 3 b))) b i = true then 1 else 0) = 1 ∧ 1 = 1 then 1 else 0))), (3, .int (iI ((b : Nat) + (i : Nat)))), (0, .ref r), (1, .int (iI ((b : Nat))))]) B d_Mod_isClosed_52 rfl (by decide) rfl ?_
            refine mv_iinc (lv' := [(3, .int (iI (((b : Nat) + (i : Nat)) + 1))), (2, .int (iI (if (if clR F (wkR F b (F 4) (Int.toNat (F 3 b))) b i = true then 1 else 0) = 1 ∧ 1 = 1 then 1 else 0))), (0, .ref r), (1, .int (iI ((b : Nat))))]) B d_Mod_isClosed_53 1 rfl (by decide) rfl ?_
            refine mv_goto (tgt := 9) B d_Mod_isClosed_56 (by decide) ?_
            refine mv_lv (lv' := [(3, .int (iI ((b : Nat) + ((i + 1) : Nat)))), (2, .int (iI (if clR F (wkR F b (F 4) (Int.toNat (F 3 b))) b (i + 1) = true then 1 else 0))), (0, .ref r), (1, .int (iI ((b : Nat))))]) [0, 1, 2, 3] (lc (lI (by first | rfl | omega)) (lc (lI (by rw [clR_s]; refine bz_and ?_; first | (rw [if_pos (by simp; omega)]; done) | (rw [if_neg (by simp; omega)]; done))) (lc rfl (lc rfl rfl)))) ?_
            exact ih9 (i + 1) (by omega) (by omega)
  refine mv_lv (lv' := [(3, .int (iI ((b : Nat) + (0 : Nat)))), (2, .int (iI (if clR F (wkR F b (F 4) (Int.toNat (F 3 b))) b 0 = true then 1 else 0))), (0, .ref r), (1, .int (iI ((b : Nat))))]) [0, 1, 2, 3] (lc (lI (by first | rfl | omega)) (lc (lI (by rfl)) (lc rfl (lc rfl rfl)))) ?_
  exact L9 _ 0 (by omega) (Nat.lt_succ_self _)
set_option maxRecDepth 100000 in
set_option maxHeartbeats 4000000 in
theorem m_Mod_term {l : Launch} {V : mv_V} {M : mv_M} {r cap lq : Nat} {A : Nat → Nat} {F : Nat → Nat → Int} {c tn gn : Int} (hC : RefC V M r A (rN cap lq) F c tn gn) (hcap : cap ≤ 1000000) {b n : Nat} {ℓ : Nat → Nat} (hcn : c = (b : Nat) + (n : Nat)) (hbc : b + n ≤ cap) (ht : 0 ≤ tn ∧ tn ≤ 1500) (hw : n ≤ 1000 → WF n (fun j => F 0 (b + j)) ℓ) : Met l y_Mod_term ws_Mod_term (rM 1 0 0 30) (mv_Pre (kk V) [.ref r, .int (iI ((b : Nat)))] M) (mv_Q (kk V) (fun z0 M' => ((tn = 1500 ∨ 1000 < n ∨ 30000 < b + n) ∧ z0 = some (.int (iI (-1))) ∧ RefC V M' r A (rN cap lq) F (b : Nat) tn gn) ∨ (¬ (tn = 1500 ∨ 1000 < n ∨ 30000 < b + n) ∧ z0 = some (.int (iI tn)) ∧ RefC V M' r A (rN cap lq) (va_up (va_up F 3 (msR (F 3) b n ℓ n)) 5 (va_up (F 5) tn.toNat (b : Nat))) c (tn + 1) gn))) 0 0 V.2.2.2.2 := by
  refine mv_Met (by decide) rfl (Nat.le_of_ble_eq_true rfl) (fun X hX B => ?_)
  subst hX
  replace B : mv_B X (kk V) c_Mod_term ws_Mod_term "FamilyRulesModel" 2 (Option.some Jvm.ClassFile.FieldType.int) (rM 1 0 0 30) "term" := B
  obtain ⟨Q, hQ⟩ : ∃ Q, Q = mv_E X (kk V) (fun z0 M' => ((tn = 1500 ∨ 1000 < n ∨ 30000 < b + n) ∧ z0 = some (.int (iI (-1))) ∧ RefC V M' r A (rN cap lq) F (b : Nat) tn gn) ∨ (¬ (tn = 1500 ∨ 1000 < n ∨ 30000 < b + n) ∧ z0 = some (.int (iI tn)) ∧ RefC V M' r A (rN cap lq) (va_up (va_up F 3 (msR (F 3) b n ℓ n)) 5 (va_up (F 5) tn.toNat (b : Nat))) c (tn + 1) gn)) 0 0 := ⟨_, rfl⟩
  rw [← hQ]
  show mv_G X Q (kk V) 2 0 [(0, .ref r), (1, .int (iI ((b : Nat))))] [] M 0 0
  have k1_5 : M (A 5) = some (iA V (1500) (F 5)) := hC.2.1 5 (by decide)
  refine mv_aloadR_n B d_Mod_term_0 rfl 0 rfl ?_
  refine gf_Mod_75 B hC.1 rfl d_Mod_term_1 ?_
  refine mv_sipush (z := 1500) B d_Mod_term_4 (by decide) ?_
  refine mv_icmp_eq (tgt := 32) B d_Mod_term_7 (by decide) (by omega) (by omega) (fun c2 => ?_) (fun c2 => ?_)
  · refine mv_aloadR_n B d_Mod_term_32 rfl 0 rfl ?_
    refine mv_iload_n B d_Mod_term_33 rfl 1 rfl ?_
    refine pf_Mod_55 B hC.1 rfl rfl (Nat.le_of_ble_eq_true rfl) d_Mod_term_34 ?_
    show mv_G X Q (kk V) 2 37 [(0, .ref r), (1, .int (iI ((b : Nat))))] [] (mv_up M r (.inr (7, [.ref ((A 0)), .ref ((A 1)), .ref ((A 2)), .ref ((A 3)), .ref ((A 4)), .int (iI ((b : Nat))), .ref ((A 5)), .int (iI (tn)), .ref ((A 6)), .ref ((A 7)), .ref ((A 8)), .ref ((A 9)), .ref ((A 10)), .ref ((A 11)), .int (iI (gn)), .ref ((A 12))]))) 0 0
    obtain ⟨M3, hM4⟩ : ∃ My : mv_M, My = mv_up M r (.inr (7, [.ref ((A 0)), .ref ((A 1)), .ref ((A 2)), .ref ((A 3)), .ref ((A 4)), .int (iI ((b : Nat))), .ref ((A 5)), .int (iI (tn)), .ref ((A 6)), .ref ((A 7)), .ref ((A 8)), .ref ((A 9)), .ref ((A 10)), .ref ((A 11)), .int (iI (gn)), .ref ((A 12))])) := ⟨_, rfl⟩
    rw [← hM4]
    have hC5 : RefC V M3 r A (rN cap lq) F ((b : Nat)) (tn) (gn) := by rw [hM4]; exact RefC_f hC _ _ _
    have k6_5 : M3 (A 5) = some (iA V (1500) (F 5)) := hC5.2.1 5 (by decide)
    refine mv_iconst (z := -1) B d_Mod_term_37 rfl ?_
    rw [hQ]
    exact mv_iret B (Or.inl ⟨by omega, rfl, hC5⟩) (by omega) (by omega) d_Mod_term_38
  · refine mv_aloadR_n B d_Mod_term_10 rfl 0 rfl ?_
    refine gf_Mod_55 B hC.1 rfl d_Mod_term_11 ?_
    refine mv_iload_n B d_Mod_term_14 rfl 1 rfl ?_
    refine mv_isub B d_Mod_term_15 ?_
    refine mv_sipush (z := 1000) B d_Mod_term_16 (by decide) ?_
    refine mv_icmp_gt (tgt := 32) B d_Mod_term_19 (by decide) (by omega) (by omega) (fun c7 => ?_) (fun c7 => ?_)
    · refine mv_aloadR_n B d_Mod_term_32 rfl 0 rfl ?_
      refine mv_iload_n B d_Mod_term_33 rfl 1 rfl ?_
      refine pf_Mod_55 B hC.1 rfl rfl (Nat.le_of_ble_eq_true rfl) d_Mod_term_34 ?_
      show mv_G X Q (kk V) 2 37 [(0, .ref r), (1, .int (iI ((b : Nat))))] [] (mv_up M r (.inr (7, [.ref ((A 0)), .ref ((A 1)), .ref ((A 2)), .ref ((A 3)), .ref ((A 4)), .int (iI ((b : Nat))), .ref ((A 5)), .int (iI (tn)), .ref ((A 6)), .ref ((A 7)), .ref ((A 8)), .ref ((A 9)), .ref ((A 10)), .ref ((A 11)), .int (iI (gn)), .ref ((A 12))]))) 0 0
      obtain ⟨M8, hM9⟩ : ∃ My : mv_M, My = mv_up M r (.inr (7, [.ref ((A 0)), .ref ((A 1)), .ref ((A 2)), .ref ((A 3)), .ref ((A 4)), .int (iI ((b : Nat))), .ref ((A 5)), .int (iI (tn)), .ref ((A 6)), .ref ((A 7)), .ref ((A 8)), .ref ((A 9)), .ref ((A 10)), .ref ((A 11)), .int (iI (gn)), .ref ((A 12))])) := ⟨_, rfl⟩
      rw [← hM9]
      have hC10 : RefC V M8 r A (rN cap lq) F ((b : Nat)) (tn) (gn) := by rw [hM9]; exact RefC_f hC _ _ _
      have k11_5 : M8 (A 5) = some (iA V (1500) (F 5)) := hC10.2.1 5 (by decide)
      refine mv_iconst (z := -1) B d_Mod_term_37 rfl ?_
      rw [hQ]
      exact mv_iret B (Or.inl ⟨by omega, rfl, hC10⟩) (by omega) (by omega) d_Mod_term_38
    · refine mv_aloadR_n B d_Mod_term_22 rfl 0 rfl ?_
      refine gf_Mod_55 B hC.1 rfl d_Mod_term_23 ?_
      refine mv_sipush (z := 30000) B d_Mod_term_26 (by decide) ?_
      refine mv_icmp_le (tgt := 39) B d_Mod_term_29 (by decide) (by omega) (by omega) (fun c12 => ?_) (fun c12 => ?_)
      · refine mv_aloadR_n B d_Mod_term_39 rfl 0 rfl ?_
        refine mv_iload_n B d_Mod_term_40 rfl 1 rfl ?_
        refine ca_Mod_78 (mc := 0) (ms := 0) (rm' := rM 0 0 0 0) (As := [.int (iI ((b : Nat)))]) (rest := []) B (m_Mod_measure hC hcap (b := b) (n := n) (ℓ := ℓ) hcn hbc (by omega) (hw (by omega))) rfl rfl ⟨Nat.le_of_ble_eq_true rfl, Nat.le_of_ble_eq_true rfl⟩ hC.1 rfl rfl (Nat.le_of_ble_eq_true rfl) d_Mod_term_41 ⟨by omega, by omega⟩ (fun v1 M9 ep => ?_)
        obtain ⟨e1, hC9⟩ := ep
        subst e1
        show mv_G X Q (kk V) 2 44 [(0, .ref r), (1, .int (iI ((b : Nat))))] [] M9 0 0
        have k13_5 : M9 (A 5) = some (iA V (1500) (F 5)) := hC9.2.1 5 (by decide)
        refine mv_aloadR_n B d_Mod_term_44 rfl 0 rfl ?_
        refine gf_Mod_25 B hC9.1 rfl d_Mod_term_45 ?_
        refine mv_aloadR_n B d_Mod_term_48 rfl 0 rfl ?_
        refine gf_Mod_75 B hC9.1 rfl d_Mod_term_49 ?_
        refine mv_iload_n B d_Mod_term_52 rfl 1 rfl ?_
        refine ia_st B k13_5 (by omega) (by omega) (by omega) d_Mod_term_53 ?_
        obtain ⟨M14, hM15⟩ : ∃ My : mv_M, My = mv_up M9 (A 5) (iA V (1500) (va_up (F 5) (Int.toNat (tn)) ((b : Nat)))) := ⟨_, rfl⟩
        rw [← hM15]
        have hC16 : RefC V M14 r A (rN cap lq) (va_up (va_up F 3 (msR (F 3) b n ℓ n)) 5 (va_up (F 5) (Int.toNat (tn)) ((b : Nat)))) (c) (tn) (gn) := by rw [hM15]; exact RefC_w (i := 5) (k := (Int.toNat (tn))) (x := (b : Nat)) hC9 (by decide) (by show (Int.toNat (tn)) < 1500; omega) (by omega)
        have k17_5 : M14 (A 5) = some (iA V (1500) (va_up (F 5) (Int.toNat (tn)) ((b : Nat)))) := hC16.2.1 5 (by decide)
        refine mv_aloadR_n B d_Mod_term_54 rfl 0 rfl ?_
        refine mv_dup B d_Mod_term_55 rfl ?_
        refine gf_Mod_75 B hC16.1 rfl d_Mod_term_56 ?_
        refine mv_dup_x1 B d_Mod_term_59 rfl rfl ?_
        refine mv_iconst (z := 1) B d_Mod_term_60 rfl ?_
        refine mv_iadd B d_Mod_term_61 ?_
        refine pf_Mod_75 B hC16.1 rfl rfl (Nat.le_of_ble_eq_true rfl) d_Mod_term_62 ?_
        show mv_G X Q (kk V) 2 65 [(0, .ref r), (1, .int (iI ((b : Nat))))] [.int (iI (tn))] (mv_up M14 r (.inr (7, [.ref ((A 0)), .ref ((A 1)), .ref ((A 2)), .ref ((A 3)), .ref ((A 4)), .int (iI (c)), .ref ((A 5)), .int (iI (tn + 1)), .ref ((A 6)), .ref ((A 7)), .ref ((A 8)), .ref ((A 9)), .ref ((A 10)), .ref ((A 11)), .int (iI (gn)), .ref ((A 12))]))) 0 0
        obtain ⟨M18, hM19⟩ : ∃ My : mv_M, My = mv_up M14 r (.inr (7, [.ref ((A 0)), .ref ((A 1)), .ref ((A 2)), .ref ((A 3)), .ref ((A 4)), .int (iI (c)), .ref ((A 5)), .int (iI (tn + 1)), .ref ((A 6)), .ref ((A 7)), .ref ((A 8)), .ref ((A 9)), .ref ((A 10)), .ref ((A 11)), .int (iI (gn)), .ref ((A 12))])) := ⟨_, rfl⟩
        rw [← hM19]
        have hC20 : RefC V M18 r A (rN cap lq) (va_up (va_up F 3 (msR (F 3) b n ℓ n)) 5 (va_up (F 5) (Int.toNat (tn)) ((b : Nat)))) (c) (tn + 1) (gn) := by rw [hM19]; exact RefC_f hC16 _ _ _
        have k21_5 : M18 (A 5) = some (iA V (1500) (va_up (F 5) (Int.toNat (tn)) ((b : Nat)))) := hC20.2.1 5 (by decide)
        rw [hQ]
        exact mv_iret B (Or.inr ⟨by omega, rfl, hC20⟩) (by omega) (by omega) d_Mod_term_65
      · refine mv_aloadR_n B d_Mod_term_32 rfl 0 rfl ?_
        refine mv_iload_n B d_Mod_term_33 rfl 1 rfl ?_
        refine pf_Mod_55 B hC.1 rfl rfl (Nat.le_of_ble_eq_true rfl) d_Mod_term_34 ?_
        show mv_G X Q (kk V) 2 37 [(0, .ref r), (1, .int (iI ((b : Nat))))] [] (mv_up M r (.inr (7, [.ref ((A 0)), .ref ((A 1)), .ref ((A 2)), .ref ((A 3)), .ref ((A 4)), .int (iI ((b : Nat))), .ref ((A 5)), .int (iI (tn)), .ref ((A 6)), .ref ((A 7)), .ref ((A 8)), .ref ((A 9)), .ref ((A 10)), .ref ((A 11)), .int (iI (gn)), .ref ((A 12))]))) 0 0
        obtain ⟨M22, hM23⟩ : ∃ My : mv_M, My = mv_up M r (.inr (7, [.ref ((A 0)), .ref ((A 1)), .ref ((A 2)), .ref ((A 3)), .ref ((A 4)), .int (iI ((b : Nat))), .ref ((A 5)), .int (iI (tn)), .ref ((A 6)), .ref ((A 7)), .ref ((A 8)), .ref ((A 9)), .ref ((A 10)), .ref ((A 11)), .int (iI (gn)), .ref ((A 12))])) := ⟨_, rfl⟩
        rw [← hM23]
        have hC24 : RefC V M22 r A (rN cap lq) F ((b : Nat)) (tn) (gn) := by rw [hM23]; exact RefC_f hC _ _ _
        have k25_5 : M22 (A 5) = some (iA V (1500) (F 5)) := hC24.2.1 5 (by decide)
        refine mv_iconst (z := -1) B d_Mod_term_37 rfl ?_
        rw [hQ]
        exact mv_iret B (Or.inl ⟨by omega, rfl, hC24⟩) (by omega) (by omega) d_Mod_term_38
