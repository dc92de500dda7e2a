/-! the reference: measure -/
def msR (L : Nat → Int) (b n : Nat) (ℓ : Nat → Nat) (m : Nat) : Nat → Int := fun x => if b + n - m ≤ x ∧ x < b + n ∧ b ≤ x then (ℓ (x - b) : Int) else L x
theorem msR_0 (L : Nat → Int) (b n : Nat) (ℓ : Nat → Nat) : msR L b n ℓ 0 = L := by
  funext x
  unfold msR
  rw [if_neg (by omega)]
theorem msR_s {L : Nat → Int} {b n : Nat} {ℓ : Nat → Nat} {m : Nat} (hm : m < n) {x : Int} (hx : x = ℓ (n - 1 - m)) {k : Nat} (hk : k = b + (n - 1 - m) := by omega) : va_up (msR L b n ℓ m) k x = msR L b n ℓ (m + 1) := by
  subst hk
  funext j
  unfold va_up msR
  by_cases hj : j = b + (n - 1 - m)
  · rw [if_pos hj, if_pos (by omega), hx, hj]
    congr 2
    omega
  · rw [if_neg hj]
    by_cases h : b + n - m ≤ j ∧ j < b + n ∧ b ≤ j
    · rw [if_pos h, if_pos (by omega)]
    · rw [if_neg h, if_neg (by omega)]
theorem msR_at {L : Nat → Int} {b n : Nat} {ℓ : Nat → Nat} {m j : Nat} (h : n - m ≤ j) (h2 : j < n) : msR L b n ℓ m (b + j) = ℓ j := by
  unfold msR
  rw [if_pos (by omega), show b + j - b = j by omega]
set_option maxRecDepth 100000 in
set_option maxHeartbeats 4000000 in
theorem m_Mod_measure {l : Launch} {V : mv_V} {M : mv_M} {r cap lq : Nat} {A : Nat → Nat} {F : Nat → Nat → Int} {c tn gn : Int} (hC : RefC V M r A (rN cap lq) F c tn gn) (hcap : cap ≤ 1000000) {b n : Nat} {ℓ : Nat → Nat} (hcn : c = (b : Nat) + (n : Nat)) (hbc : b + n ≤ cap) (hn1 : n ≤ 1000000) (hw : WF n (fun j => F 0 (b + j)) ℓ) : Met l y_Mod_measure ws_Mod_measure (rM 0 0 0 0) (mv_Pre (kk V) [.ref r, .int (iI ((b : Nat)))] M) (mv_Q (kk V) (fun v M' => v = none ∧ RefC V M' r A (rN cap lq) (va_up F 3 (msR (F 3) b n ℓ n)) c tn gn)) 0 0 V.2.2.2.2 := by
  refine mv_Met (by decide) rfl (Nat.le_of_ble_eq_true rfl) (fun X hX B => ?_)
  subst hX
  replace B : mv_B X (kk V) c_Mod_measure ws_Mod_measure "FamilyRulesModel" 4 (Option.none : Option Jvm.ClassFile.FieldType) (rM 0 0 0 0) "measure" := B
  obtain ⟨Q, hQ⟩ : ∃ Q, Q = mv_E X (kk V) (fun v M' => v = none ∧ RefC V M' r A (rN cap lq) (va_up F 3 (msR (F 3) b n ℓ n)) c tn gn) 0 0 := ⟨_, rfl⟩
  rw [← hQ]
  show mv_G X Q (kk V) 4 0 [(0, .ref r), (1, .int (iI ((b : Nat))))] [] M 0 0
  have k1_0 : M (A 0) = some (iA V (cap) (F 0)) := hC.2.1 0 (by decide)
  have k1_3 : M (A 3) = some (iA V (cap) (F 3)) := hC.2.1 3 (by decide)
  refine mv_aloadR_n B d_Mod_measure_0 rfl 0 rfl ?_
  refine gf_Mod_55 B hC.1 rfl d_Mod_measure_1 ?_
  refine mv_iconst (z := 1) B d_Mod_measure_4 rfl ?_
  refine mv_isub B d_Mod_measure_5 ?_
  refine mv_istore_n (lv' := [(2, .int (iI (c - 1))), (0, .ref r), (1, .int (iI ((b : Nat))))]) B d_Mod_measure_6 rfl (by decide) rfl ?_
  have L7 : ∀ (fu : Nat) (m : Nat) (My1 : mv_M), (m ≤ n) → (RefC V My1 r A (rN cap lq) (va_up F 3 (msR (F 3) b n ℓ m)) (c) (tn) (gn)) → (n - m) < fu → mv_G X Q (kk V) 4 7 [(2, .int (iI ((b : Nat) + (n : Nat) - 1 - (m : Nat)))), (0, .ref r), (1, .int (iI ((b : Nat))))] [] My1 0 0 := by
    intro fu
    induction fu with
    | zero => intro m My1 hm0 hCl hm; exact absurd hm (Nat.not_lt_zero _)
    | succ fu ih7 =>
      intro m My1 hm0 hCl hm
      have k2_0 : My1 (A 0) = some (iA V (cap) (F 0)) := hCl.2.1 0 (by decide)
      have k2_3 : My1 (A 3) = some (iA V (cap) (msR (F 3) b n ℓ m)) := hCl.2.1 3 (by decide)
      refine mv_iload_n B d_Mod_measure_7 rfl 0 rfl ?_
      refine mv_iload_n B d_Mod_measure_8 rfl 2 rfl ?_
      refine mv_icmp_lt (tgt := 59) B d_Mod_measure_9 (by decide) (by omega) (by omega) (fun c3 => ?_) (fun c3 => ?_)
      · rw [hQ]
        have em : m = n := by omega
        subst em
        exact mv_vret B ⟨rfl, hCl⟩ (by omega) (by omega) d_Mod_measure_59
      · refine mv_iload_n B d_Mod_measure_12 rfl 0 rfl ?_
        refine mv_iconst (z := 1) B d_Mod_measure_13 rfl ?_
        refine mv_iadd B d_Mod_measure_14 ?_
        refine mv_istore_n (lv' := [(3, .int (iI (((b : Nat) + (n : Nat) - 1 - (m : Nat)) + 1))), (2, .int (iI ((b : Nat) + (n : Nat) - 1 - (m : Nat)))), (0, .ref r), (1, .int (iI ((b : Nat))))]) B d_Mod_measure_15 rfl (by decide) rfl ?_
        refine mv_aloadR_n B d_Mod_measure_16 rfl 2 rfl ?_
        refine gf_Mod_7 B hCl.1 rfl d_Mod_measure_17 ?_
        refine mv_iload_n B d_Mod_measure_20 rfl 1 rfl ?_
        refine ia_ld B k2_0 (by omega) (by omega) (by omega) d_Mod_measure_21 ?_
        have rr4 : R32 (F 0 (Int.toNat ((b : Nat) + (n : Nat) - 1 - (m : Nat)))) := (hCl.R 0) _
        have w1 := hw (n - 1 - m) (by omega)
        dsimp only at w1
        rw [show Int.toNat ((b : Nat) + (n : Nat) - 1 - (m : Nat)) = b + (n - 1 - m) by omega]
        have hR0 := hC.R 0 (b + (n - 1 - m))
        refine mv_iconst (z := 4) B d_Mod_measure_22 rfl ?_
        refine mv_icmp_lt (tgt := 44) B d_Mod_measure_23 (by decide) (by omega) (by omega) (fun c5 => ?_) (fun c5 => ?_)
        · refine mv_aloadR_n B d_Mod_measure_44 rfl 2 rfl ?_
          refine gf_Mod_19 B hCl.1 rfl d_Mod_measure_45 ?_
          refine mv_iload_n B d_Mod_measure_48 rfl 1 rfl ?_
          refine mv_iload_n B d_Mod_measure_49 rfl 0 rfl ?_
          refine mv_iload_n B d_Mod_measure_50 rfl 1 rfl ?_
          refine mv_isub B d_Mod_measure_51 ?_
          refine ia_st B k2_3 (by omega) (by omega) (by omega) d_Mod_measure_52 ?_
          obtain ⟨M6, hM7⟩ : ∃ My : mv_M, My = mv_up My1 (A 3) (iA V (cap) (va_up (msR (F 3) b n ℓ m) (Int.toNat ((b : Nat) + (n : Nat) - 1 - (m : Nat))) ((((b : Nat) + (n : Nat) - 1 - (m : Nat)) + 1) - ((b : Nat) + (n : Nat) - 1 - (m : Nat))))) := ⟨_, rfl⟩
          rw [← hM7]
          have hC8 : RefC V M6 r A (rN cap lq) (va_up (va_up F 3 (msR (F 3) b n ℓ m)) 3 (va_up (msR (F 3) b n ℓ m) (Int.toNat ((b : Nat) + (n : Nat) - 1 - (m : Nat))) ((((b : Nat) + (n : Nat) - 1 - (m : Nat)) + 1) - ((b : Nat) + (n : Nat) - 1 - (m : Nat))))) (c) (tn) (gn) := by rw [hM7]; exact RefC_w (i := 3) (k := (Int.toNat ((b : Nat) + (n : Nat) - 1 - (m : Nat)))) (x := (((b : Nat) + (n : Nat) - 1 - (m : Nat)) + 1) - ((b : Nat) + (n : Nat) - 1 - (m : Nat))) hCl (by decide) (by show (Int.toNat ((b : Nat) + (n : Nat) - 1 - (m : Nat))) < cap; omega) (by omega)
          have k9_0 : M6 (A 0) = some (iA V (cap) (F 0)) := hC8.2.1 0 (by decide)
          have k9_3 : M6 (A 3) = some (iA V (cap) (va_up (msR (F 3) b n ℓ m) (Int.toNat ((b : Nat) + (n : Nat) - 1 - (m : Nat))) ((((b : Nat) + (n : Nat) - 1 - (m : Nat)) + 1) - ((b : Nat) + (n : Nat) - 1 - (m : Nat))))) := hC8.2.1 3 (by decide)
          refine mv_iinc (lv' := [(2, .int (iI (((b : Nat) + (n : Nat) - 1 - (m : Nat)) + (-1)))), (3, .int (iI (((b : Nat) + (n : Nat) - 1 - (m : Nat)) + 1))), (0, .ref r), (1, .int (iI ((b : Nat))))]) B d_Mod_measure_53 1 rfl (by decide) rfl ?_
          refine mv_goto (tgt := 7) B d_Mod_measure_56 (by decide) ?_
          refine mv_lv (lv' := [(2, .int (iI ((b : Nat) + (n : Nat) - 1 - ((m + 1) : Nat)))), (0, .ref r), (1, .int (iI ((b : Nat))))]) [0, 2, 3] (lc (lI (by omega)) (lc rfl (lc rfl rfl))) ?_
          exact ih7 (m + 1) M6 (by omega) (by rw [show (va_up F 3 (msR (F 3) b n ℓ (m + 1))) = (va_up (va_up F 3 (msR (F 3) b n ℓ m)) 3 (va_up (msR (F 3) b n ℓ m) (Int.toNat ((b : Nat) + (n : Nat) - 1 - (m : Nat))) ((((b : Nat) + (n : Nat) - 1 - (m : Nat)) + 1) - ((b : Nat) + (n : Nat) - 1 - (m : Nat))))) from (by rw [bx_uu, msR_s (by omega) (by first | omega | (have := w1.2.2.1 (by omega); omega))])]; exact hC8) (by omega)
        · have w2 := w1.2.2.2 (by omega)
          refine mv_iload_n B d_Mod_measure_26 rfl 0 rfl ?_
          refine mv_aloadR_n B d_Mod_measure_27 rfl 2 rfl ?_
          refine gf_Mod_19 B hCl.1 rfl d_Mod_measure_28 ?_
          refine mv_iload_n B d_Mod_measure_31 rfl 0 rfl ?_
          refine ia_ld B k2_3 (by omega) (by omega) (by omega) d_Mod_measure_32 ?_
          have rr10 : R32 ((msR (F 3) b n ℓ m) (Int.toNat (((b : Nat) + (n : Nat) - 1 - (m : Nat)) + 1))) := (hCl.R 3) _
          have e1 : msR (F 3) b n ℓ m (Int.toNat ((b : Nat) + (n : Nat) - 1 - (m : Nat) + 1)) = (ℓ (n - 1 - m + 1) : Nat) := by rw [show Int.toNat ((b : Nat) + (n : Nat) - 1 - (m : Nat) + 1) = b + (n - 1 - m + 1) by omega]; exact msR_at (by omega) (by omega)
          rw [e1]
          refine mv_iadd B d_Mod_measure_33 ?_
          refine mv_istore_n (lv' := [(3, .int (iI ((((b : Nat) + (n : Nat) - 1 - (m : Nat)) + 1) + (ℓ (n - 1 - m + 1) : Nat)))), (2, .int (iI ((b : Nat) + (n : Nat) - 1 - (m : Nat)))), (0, .ref r), (1, .int (iI ((b : Nat))))]) B d_Mod_measure_34 rfl (by decide) rfl ?_
          refine mv_iload_n B d_Mod_measure_35 rfl 0 rfl ?_
          refine mv_aloadR_n B d_Mod_measure_36 rfl 2 rfl ?_
          refine gf_Mod_19 B hCl.1 rfl d_Mod_measure_37 ?_
          refine mv_iload_n B d_Mod_measure_40 rfl 0 rfl ?_
          refine ia_ld B k2_3 (by omega) (by omega) (by omega) d_Mod_measure_41 ?_
          have rr11 : R32 ((msR (F 3) b n ℓ m) (Int.toNat ((((b : Nat) + (n : Nat) - 1 - (m : Nat)) + 1) + (ℓ (n - 1 - m + 1) : Nat)))) := (hCl.R 3) _
          have e2 : msR (F 3) b n ℓ m (Int.toNat ((b : Nat) + (n : Nat) - 1 - (m : Nat) + 1 + (ℓ (n - 1 - m + 1) : Nat))) = (ℓ (n - 1 - m + 1 + ℓ (n - 1 - m + 1)) : Nat) := by rw [show Int.toNat ((b : Nat) + (n : Nat) - 1 - (m : Nat) + 1 + (ℓ (n - 1 - m + 1) : Nat)) = b + (n - 1 - m + 1 + ℓ (n - 1 - m + 1)) by omega]; exact msR_at (by omega) (by omega)
          rw [e2]
          refine mv_iadd B d_Mod_measure_42 ?_
          refine mv_istore_n (lv' := [(3, .int (iI (((((b : Nat) + (n : Nat) - 1 - (m : Nat)) + 1) + (ℓ (n - 1 - m + 1) : Nat)) + (ℓ (n - 1 - m + 1 + ℓ (n - 1 - m + 1)) : Nat)))), (2, .int (iI ((b : Nat) + (n : Nat) - 1 - (m : Nat)))), (0, .ref r), (1, .int (iI ((b : Nat))))]) B d_Mod_measure_43 rfl (by decide) rfl ?_
          refine mv_aloadR_n B d_Mod_measure_44 rfl 2 rfl ?_
          refine gf_Mod_19 B hCl.1 rfl d_Mod_measure_45 ?_
          refine mv_iload_n B d_Mod_measure_48 rfl 1 rfl ?_
          refine mv_iload_n B d_Mod_measure_49 rfl 0 rfl ?_
          refine mv_iload_n B d_Mod_measure_50 rfl 1 rfl ?_
          refine mv_isub B d_Mod_measure_51 ?_
          refine ia_st B k2_3 (by omega) (by omega) (by omega) d_Mod_measure_52 ?_
          obtain ⟨M12, hM13⟩ : ∃ My : mv_M, My = mv_up My1 (A 3) (iA V (cap) (va_up (msR (F 3) b n ℓ m) (Int.toNat ((b : Nat) + (n : Nat) - 1 - (m : Nat))) ((((((b : Nat) + (n : Nat) - 1 - (m : Nat)) + 1) + (ℓ (n - 1 - m + 1) : Nat)) + (ℓ (n - 1 - m + 1 + ℓ (n - 1 - m + 1)) : Nat)) - ((b : Nat) + (n : Nat) - 1 - (m : Nat))))) := ⟨_, rfl⟩
          rw [← hM13]
          have hC14 : RefC V M12 r A (rN cap lq) (va_up (va_up F 3 (msR (F 3) b n ℓ m)) 3 (va_up (msR (F 3) b n ℓ m) (Int.toNat ((b : Nat) + (n : Nat) - 1 - (m : Nat))) ((((((b : Nat) + (n : Nat) - 1 - (m : Nat)) + 1) + (ℓ (n - 1 - m + 1) : Nat)) + (ℓ (n - 1 - m + 1 + ℓ (n - 1 - m + 1)) : Nat)) - ((b : Nat) + (n : Nat) - 1 - (m : Nat))))) (c) (tn) (gn) := by rw [hM13]; exact RefC_w (i := 3) (k := (Int.toNat ((b : Nat) + (n : Nat) - 1 - (m : Nat)))) (x := (((((b : Nat) + (n : Nat) - 1 - (m : Nat)) + 1) + (ℓ (n - 1 - m + 1) : Nat)) + (ℓ (n - 1 - m + 1 + ℓ (n - 1 - m + 1)) : Nat)) - ((b : Nat) + (n : Nat) - 1 - (m : Nat))) hCl (by decide) (by show (Int.toNat ((b : Nat) + (n : Nat) - 1 - (m : Nat))) < cap; omega) (by omega)
          have k15_0 : M12 (A 0) = some (iA V (cap) (F 0)) := hC14.2.1 0 (by decide)
          have k15_3 : M12 (A 3) = some (iA V (cap) (va_up (msR (F 3) b n ℓ m) (Int.toNat ((b : Nat) + (n : Nat) - 1 - (m : Nat))) ((((((b : Nat) + (n : Nat) - 1 - (m : Nat)) + 1) + (ℓ (n - 1 - m + 1) : Nat)) + (ℓ (n - 1 - m + 1 + ℓ (n - 1 - m + 1)) : Nat)) - ((b : Nat) + (n : Nat) - 1 - (m : Nat))))) := hC14.2.1 3 (by decide)
          refine mv_iinc (lv' := [(2, .int (iI (((b : Nat) + (n : Nat) - 1 - (m : Nat)) + (-1)))), (3, .int (iI (((((b : Nat) + (n : Nat) - 1 - (m : Nat)) + 1) + (ℓ (n - 1 - m + 1) : Nat)) + (ℓ (n - 1 - m + 1 + ℓ (n - 1 - m + 1)) : Nat)))), (0, .ref r), (1, .int (iI ((b : Nat))))]) B d_Mod_measure_53 1 rfl (by decide) rfl ?_
          refine mv_goto (tgt := 7) B d_Mod_measure_56 (by decide) ?_
          refine mv_lv (lv' := [(2, .int (iI ((b : Nat) + (n : Nat) - 1 - ((m + 1) : Nat)))), (0, .ref r), (1, .int (iI ((b : Nat))))]) [0, 2, 3] (lc (lI (by omega)) (lc rfl (lc rfl rfl))) ?_
          exact ih7 (m + 1) M12 (by omega) (by rw [show (va_up F 3 (msR (F 3) b n ℓ (m + 1))) = (va_up (va_up F 3 (msR (F 3) b n ℓ m)) 3 (va_up (msR (F 3) b n ℓ m) (Int.toNat ((b : Nat) + (n : Nat) - 1 - (m : Nat))) ((((((b : Nat) + (n : Nat) - 1 - (m : Nat)) + 1) + (ℓ (n - 1 - m + 1) : Nat)) + (ℓ (n - 1 - m + 1 + ℓ (n - 1 - m + 1)) : Nat)) - ((b : Nat) + (n : Nat) - 1 - (m : Nat))))) from (by rw [bx_uu, msR_s (by omega) (by first | omega | (have := w1.2.2.1 (by omega); omega))])]; exact hC14) (by omega)
  refine mv_lv (lv' := [(2, .int (iI ((b : Nat) + (n : Nat) - 1 - (0 : Nat)))), (0, .ref r), (1, .int (iI ((b : Nat))))]) [0, 1, 2] (lc (lI (by omega)) (lc rfl (lc rfl rfl))) ?_
  exact L7 _ 0 M (by omega) (by rw [show (va_up F 3 (msR (F 3) b n ℓ 0)) = F from (by rw [msR_0]; funext j; by_cases h : j = 3 <;> simp [va_up, h])]; exact hC) (Nat.lt_succ_self _)
