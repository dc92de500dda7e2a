/-! the reference: settle -/
def stR (K U D : Nat → Int) (b i : Nat) : Nat → Int := fun x => if b ≤ x ∧ x < b + i ∧ K x = 0 ∧ 500000 < U x then D x - 1 - (U x - 1000000) else U x
theorem stR_0 (K U D : Nat → Int) (b : Nat) : stR K U D b 0 = U := by
  funext x
  unfold stR
  rw [if_neg (by omega)]
theorem stR_at {K U D : Nat → Int} {b i j : Nat} (h : i ≤ j) : stR K U D b i (b + j) = U (b + j) := by
  unfold stR
  rw [if_neg (by omega)]
theorem stR_s {K U D : Nat → Int} {b i : Nat} (h : K (b + i) = 0 ∧ 500000 < U (b + i)) : va_up (stR K U D b i) (b + i) (D (b + i) - 1 - (U (b + i) - 1000000)) = stR K U D b (i + 1) := by
  funext x
  by_cases e : x = b + i
  · subst e
    rw [va_us]
    unfold stR
    rw [if_pos (by omega)]
  · rw [va_un e]
    unfold stR
    by_cases q : b ≤ x ∧ x < b + i ∧ K x = 0 ∧ 500000 < U x
    · rw [if_pos q, if_pos (by omega)]
    · rw [if_neg q, if_neg (by omega)]
theorem stR_n {K U D : Nat → Int} {b i : Nat} (h : ¬ (K (b + i) = 0 ∧ 500000 < U (b + i))) : stR K U D b (i + 1) = stR K U D b i := by
  funext x
  unfold stR
  by_cases q : b ≤ x ∧ x < b + i ∧ K x = 0 ∧ 500000 < U x
  · rw [if_pos q, if_pos (by omega)]
  · rw [if_neg q]
    by_cases e : x = b + i
    · subst e; rw [if_neg (by omega)]
    · rw [if_neg (by omega)]
set_option maxRecDepth 100000 in
set_option maxHeartbeats 4000000 in
theorem m_Mod_settle {l : Launch} {V : mv_V} {M : mv_M} {r cap lq : Nat} {A : Nat → Nat} {F : Nat → Nat → Int} {c tn gn : Int} (hC : RefC V M r A (rN cap lq) F c tn gn) (hcap : cap ≤ 1000000) {b n : Nat} {ℓ : Nat → Nat} (hcn : c = (b : Nat) + (n : Nat)) (hbc : b + n ≤ cap) (hn1 : n ≤ 1000000) (hw : WF n (fun j => F 0 (b + j)) ℓ) (hb : 0 ≤ (va_up F 3 (msR (F 3) b n ℓ n)) 3 b ∧ (b : Int) + (va_up F 3 (msR (F 3) b n ℓ n)) 3 b ≤ cap ∧ b < cap) (hin : ∀ i : Nat, (i : Int) < (va_up F 3 (msR (F 3) b n ℓ n)) 3 b → 4 ≤ (va_up F 3 (msR (F 3) b n ℓ n)) 0 (b + i) → (b : Int) + i + 1 < cap ∧ 0 ≤ scR (va_up F 3 (msR (F 3) b n ℓ n)) (b + i) ∧ scR (va_up F 3 (msR (F 3) b n ℓ n)) (b + i) < cap) (hsm : ∀ i : Nat, (i : Int) < (va_up F 3 (msR (F 3) b n ℓ n)) 3 b → Sm (wkR (va_up F 3 (msR (F 3) b n ℓ n)) b ((va_up F 3 (msR (F 3) b n ℓ n)) 4) i (b + i) + 1)) (hst : ∀ i : Nat, i < n → Sm ((wkR (va_up F 3 (msR (F 3) b n ℓ n)) b (F 4) (Int.toNat ((va_up F 3 (msR (F 3) b n ℓ n)) 3 b))) (b + i) - 1 - (F 1 (b + i) - 1000000))) : Met l y_Mod_settle ws_Mod_settle (rM 2 0 0 60) (mv_Pre (kk V) [.ref r, .int (iI ((b : Nat)))] M) (mv_Q (kk V) (fun z0 M' => z0 = none ∧ RefC V M' r A (rN cap lq) (va_up (va_up (va_up F 3 (msR (F 3) b n ℓ n)) 4 (wkR (va_up F 3 (msR (F 3) b n ℓ n)) b (F 4) (Int.toNat ((va_up F 3 (msR (F 3) b n ℓ n)) 3 b)))) 1 (stR (F 0) (F 1) (wkR (va_up F 3 (msR (F 3) b n ℓ n)) b (F 4) (Int.toNat ((va_up F 3 (msR (F 3) b n ℓ n)) 3 b))) b n)) c tn gn)) 0 0 V.2.2.2.2 := by
  refine mv_Met (by decide) rfl (Nat.le_of_ble_eq_true rfl) (fun X hX B => ?_)
  subst hX
  replace B : mv_B X (kk V) c_Mod_settle ws_Mod_settle "FamilyRulesModel" 3 (Option.none : Option Jvm.ClassFile.FieldType) (rM 2 0 0 60) "settle" := B
  obtain ⟨Q, hQ⟩ : ∃ Q, Q = mv_E X (kk V) (fun z0 M' => z0 = none ∧ RefC V M' r A (rN cap lq) (va_up (va_up (va_up F 3 (msR (F 3) b n ℓ n)) 4 (wkR (va_up F 3 (msR (F 3) b n ℓ n)) b (F 4) (Int.toNat ((va_up F 3 (msR (F 3) b n ℓ n)) 3 b)))) 1 (stR (F 0) (F 1) (wkR (va_up F 3 (msR (F 3) b n ℓ n)) b (F 4) (Int.toNat ((va_up F 3 (msR (F 3) b n ℓ n)) 3 b))) b n)) c tn gn) 0 0 := ⟨_, rfl⟩
  rw [← hQ]
  show mv_G X Q (kk V) 3 0 [(0, .ref r), (1, .int (iI ((b : Nat))))] [] M 0 0
  have k1_0 : M (A 0) = some (iA V (cap) (F 0)) := hC.2.1 0 (by decide)
  have k1_1 : M (A 1) = some (iA V (cap) (F 1)) := hC.2.1 1 (by decide)
  have k1_4 : M (A 4) = some (iA V (cap) (F 4)) := hC.2.1 4 (by decide)
  refine mv_aloadR_n B d_Mod_settle_0 rfl 0 rfl ?_
  refine mv_iload_n B d_Mod_settle_1 rfl 1 rfl ?_
  refine ca_Mod_78 (mc := 0) (ms := 0) (rm' := rM 0 0 0 0) (As := [.int (iI ((b : Nat)))]) (rest := []) B (m_Mod_measure hC hcap (b := b) (n := n) (ℓ := ℓ) hcn hbc hn1 hw) rfl rfl ⟨Nat.le_of_ble_eq_true rfl, Nat.le_of_ble_eq_true rfl⟩ hC.1 rfl rfl (Nat.le_of_ble_eq_true rfl) d_Mod_settle_2 ⟨by omega, by omega⟩ (fun v1 M8 ep => ?_)
  obtain ⟨e1, hC8⟩ := ep
  subst e1
  show mv_G X Q (kk V) 3 5 [(0, .ref r), (1, .int (iI ((b : Nat))))] [] M8 0 0
  refine mv_aloadR_n B d_Mod_settle_5 rfl 0 rfl ?_
  refine mv_iload_n B d_Mod_settle_6 rfl 1 rfl ?_
  refine ca_Mod_71 (mc := 0) (ms := 0) (rm' := rM 1 0 0 21) (As := [.int (iI ((b : Nat)))]) (rest := []) B (m_Mod_walk hC8 hcap (b := b) hb hin hsm) rfl rfl ⟨Nat.le_of_ble_eq_true rfl, Nat.le_of_ble_eq_true rfl⟩ hC8.1 rfl rfl (Nat.le_of_ble_eq_true rfl) d_Mod_settle_7 ⟨by omega, by omega⟩ (fun v1 M9 ep => ?_)
  obtain ⟨e1, hC9⟩ := ep
  subst e1
  obtain ⟨D4, hD4⟩ : ∃ D : Nat → Int, D = (wkR (va_up F 3 (msR (F 3) b n ℓ n)) b (F 4) (Int.toNat ((va_up F 3 (msR (F 3) b n ℓ n)) 3 b))) := ⟨_, rfl⟩
  have hC9 : RefC V M9 r A (rN cap lq) (va_up (va_up F 3 (msR (F 3) b n ℓ n)) 4 (wkR (va_up F 3 (msR (F 3) b n ℓ n)) b (F 4) (Int.toNat ((va_up F 3 (msR (F 3) b n ℓ n)) 3 b)))) c tn gn := hC9
  rw [← hD4] at hC9 hQ
  obtain ⟨L3, hL3⟩ : ∃ L : Nat → Int, L = msR (F 3) b n ℓ n := ⟨_, rfl⟩
  rw [← hL3] at hC9 hQ
  show mv_G X Q (kk V) 3 10 [(0, .ref r), (1, .int (iI ((b : Nat))))] [] M9 0 0
  have k2_0 : M9 (A 0) = some (iA V (cap) (F 0)) := hC9.2.1 0 (by decide)
  have k2_1 : M9 (A 1) = some (iA V (cap) (F 1)) := hC9.2.1 1 (by decide)
  have k2_4 : M9 (A 4) = some (iA V (cap) D4) := hC9.2.1 4 (by decide)
  refine mv_iload_n B d_Mod_settle_10 rfl 1 rfl ?_
  refine mv_istore_n (lv' := [(2, .int (iI ((b : Nat)))), (0, .ref r), (1, .int (iI ((b : Nat))))]) B d_Mod_settle_11 rfl (by decide) rfl ?_
  have L12 : ∀ (fu : Nat) (i : Nat) (My1 : mv_M), (i ≤ n) → (RefC V My1 r A (rN cap lq) (va_up (va_up (va_up F 3 L3) 4 D4) 1 (stR (F 0) (F 1) D4 b i)) (c) (tn) (gn)) → (n - i) < fu → mv_G X Q (kk V) 3 12 [(2, .int (iI ((b : Nat) + (i : Nat)))), (0, .ref r), (1, .int (iI ((b : Nat))))] [] My1 0 0 := by
    intro fu
    induction fu with
    | zero => intro i My1 hi hCl hm; exact absurd hm (Nat.not_lt_zero _)
    | succ fu ih12 =>
      intro i My1 hi hCl hm
      have k3_0 : My1 (A 0) = some (iA V (cap) (F 0)) := hCl.2.1 0 (by decide)
      have k3_1 : My1 (A 1) = some (iA V (cap) (stR (F 0) (F 1) D4 b i)) := hCl.2.1 1 (by decide)
      have k3_4 : My1 (A 4) = some (iA V (cap) D4) := hCl.2.1 4 (by decide)
      refine mv_iload_n B d_Mod_settle_12 rfl 0 rfl ?_
      refine mv_aloadR_n B d_Mod_settle_13 rfl 1 rfl ?_
      refine gf_Mod_55 B hCl.1 rfl d_Mod_settle_14 ?_
      refine mv_icmp_ge (tgt := 70) B d_Mod_settle_17 (by decide) (by omega) (by omega) (fun c4 => ?_) (fun c4 => ?_)
      · have ei : i = n := by omega
        subst ei
        rw [hQ]
        exact mv_vret B ⟨rfl, hCl⟩ (by omega) (by omega) d_Mod_settle_70
      · have hR0 := hC.R 0 (b + i)
        have hR1 := hC.2.2.2.2.1 1 (b + i)
        have hR4 : Sm (D4 (b + i)) := hC9.2.2.2.2.1 4 (b + i)
        have hs4 := hst i (by omega)
        rw [← hD4] at hs4
        refine mv_aloadR_n B d_Mod_settle_20 rfl 1 rfl ?_
        refine gf_Mod_7 B hCl.1 rfl d_Mod_settle_21 ?_
        refine mv_iload_n B d_Mod_settle_24 rfl 0 rfl ?_
        refine ia_ld B k3_0 (by omega) (by omega) (by omega) d_Mod_settle_25 ?_
        rw [show Int.toNat ((b : Nat) + (i : Nat)) = b + i from by omega]
        have rr5 : R32 (F 0 (b + i)) := (hCl.R 0) _
        refine mv_if_ne (tgt := 64) B d_Mod_settle_26 (by decide) (by omega) (fun c6 => ?_) (fun c6 => ?_)
        · refine mv_iinc (lv' := [(2, .int (iI (((b : Nat) + (i : Nat)) + 1))), (0, .ref r), (1, .int (iI ((b : Nat))))]) B d_Mod_settle_64 0 rfl (by decide) rfl ?_
          refine mv_goto (tgt := 12) B d_Mod_settle_67 (by decide) ?_
          refine mv_lv (lv' := [(2, .int (iI ((b : Nat) + ((i + 1) : Nat)))), (0, .ref r), (1, .int (iI ((b : Nat))))]) [0, 1, 2] (lc (lI (by first | rfl | omega)) (lc rfl (lc rfl rfl))) ?_
          exact ih12 (i + 1) My1 (by omega) (by rw [show (va_up (va_up (va_up F 3 L3) 4 D4) 1 (stR (F 0) (F 1) D4 b (i + 1))) = (va_up (va_up (va_up F 3 L3) 4 D4) 1 (stR (F 0) (F 1) D4 b i)) from (by rw [stR_n (by omega)])]; exact hCl) (by omega)
        · refine mv_aloadR_n B d_Mod_settle_29 rfl 1 rfl ?_
          refine gf_Mod_13 B hCl.1 rfl d_Mod_settle_30 ?_
          refine mv_iload_n B d_Mod_settle_33 rfl 0 rfl ?_
          refine ia_ld B k3_1 (by omega) (by omega) (by omega) d_Mod_settle_34 ?_
          rw [show Int.toNat ((b : Nat) + (i : Nat)) = b + i from by omega]
          have rr7 : R32 ((stR (F 0) (F 1) D4 b i) (b + i)) := (hCl.R 1) _
          rw [stR_at (Nat.le_refl _)]
          refine mv_ldc (z := 500000) B (mwc (mw_t 684 (by decide +kernel) (by decide +kernel))) d_Mod_settle_35 ?_
          refine mv_icmp_le (tgt := 64) B d_Mod_settle_37 (by decide) (by omega) (by omega) (fun c8 => ?_) (fun c8 => ?_)
          · refine mv_iinc (lv' := [(2, .int (iI (((b : Nat) + (i : Nat)) + 1))), (0, .ref r), (1, .int (iI ((b : Nat))))]) B d_Mod_settle_64 0 rfl (by decide) rfl ?_
            refine mv_goto (tgt := 12) B d_Mod_settle_67 (by decide) ?_
            refine mv_lv (lv' := [(2, .int (iI ((b : Nat) + ((i + 1) : Nat)))), (0, .ref r), (1, .int (iI ((b : Nat))))]) [0, 1, 2] (lc (lI (by first | rfl | omega)) (lc rfl (lc rfl rfl))) ?_
            exact ih12 (i + 1) My1 (by omega) (by rw [show (va_up (va_up (va_up F 3 L3) 4 D4) 1 (stR (F 0) (F 1) D4 b (i + 1))) = (va_up (va_up (va_up F 3 L3) 4 D4) 1 (stR (F 0) (F 1) D4 b i)) from (by rw [stR_n (by omega)])]; exact hCl) (by omega)
          · refine mv_aloadR_n B d_Mod_settle_40 rfl 1 rfl ?_
            refine gf_Mod_13 B hCl.1 rfl d_Mod_settle_41 ?_
            refine mv_iload_n B d_Mod_settle_44 rfl 0 rfl ?_
            refine mv_aloadR_n B d_Mod_settle_45 rfl 1 rfl ?_
            refine gf_Mod_22 B hCl.1 rfl d_Mod_settle_46 ?_
            refine mv_iload_n B d_Mod_settle_49 rfl 0 rfl ?_
            refine ia_ld B k3_4 (by omega) (by omega) (by omega) d_Mod_settle_50 ?_
            rw [show Int.toNat ((b : Nat) + (i : Nat)) = b + i from by omega]
            have rr9 : R32 (D4 (b + i)) := (hCl.R 4) _
            refine mv_iconst (z := 1) B d_Mod_settle_51 rfl ?_
            refine mv_isub B d_Mod_settle_52 ?_
            refine mv_aloadR_n B d_Mod_settle_53 rfl 1 rfl ?_
            refine gf_Mod_13 B hCl.1 rfl d_Mod_settle_54 ?_
            refine mv_iload_n B d_Mod_settle_57 rfl 0 rfl ?_
            refine ia_ld B k3_1 (by omega) (by omega) (by omega) d_Mod_settle_58 ?_
            rw [show Int.toNat ((b : Nat) + (i : Nat)) = b + i from by omega]
            have rr10 : R32 ((stR (F 0) (F 1) D4 b i) (b + i)) := (hCl.R 1) _
            rw [stR_at (Nat.le_refl _)]
            refine mv_ldc (z := 1000000) B (mwc (mw_t 675 (by decide +kernel) (by decide +kernel))) d_Mod_settle_59 ?_
            refine mv_isub B d_Mod_settle_61 ?_
            refine mv_isub B d_Mod_settle_62 ?_
            refine ia_st B k3_1 (by omega) (by omega) (by omega) d_Mod_settle_63 ?_
            rw [show Int.toNat ((b : Nat) + (i : Nat)) = b + i from by omega]
            obtain ⟨M11, hM12⟩ : ∃ My : mv_M, My = mv_up My1 (A 1) (iA V (cap) (va_up (stR (F 0) (F 1) D4 b i) (b + i) (((D4 (b + i)) - 1) - ((F 1 (b + i)) - 1000000)))) := ⟨_, rfl⟩
            rw [← hM12]
            have hC13 : RefC V M11 r A (rN cap lq) (va_up (va_up (va_up (va_up F 3 L3) 4 D4) 1 (stR (F 0) (F 1) D4 b i)) 1 (va_up (stR (F 0) (F 1) D4 b i) (b + i) (((D4 (b + i)) - 1) - ((F 1 (b + i)) - 1000000)))) (c) (tn) (gn) := by rw [hM12]; exact RefC_w (i := 1) (k := (b + i)) (x := ((D4 (b + i)) - 1) - ((F 1 (b + i)) - 1000000)) hCl (by decide) (by show (b + i) < cap; omega) (by omega)
            have k14_0 : M11 (A 0) = some (iA V (cap) (F 0)) := hC13.2.1 0 (by decide)
            have k14_1 : M11 (A 1) = some (iA V (cap) (va_up (stR (F 0) (F 1) D4 b i) (b + i) (((D4 (b + i)) - 1) - ((F 1 (b + i)) - 1000000)))) := hC13.2.1 1 (by decide)
            have k14_4 : M11 (A 4) = some (iA V (cap) D4) := hC13.2.1 4 (by decide)
            refine mv_iinc (lv' := [(2, .int (iI (((b : Nat) + (i : Nat)) + 1))), (0, .ref r), (1, .int (iI ((b : Nat))))]) B d_Mod_settle_64 0 rfl (by decide) rfl ?_
            refine mv_goto (tgt := 12) B d_Mod_settle_67 (by decide) ?_
            refine mv_lv (lv' := [(2, .int (iI ((b : Nat) + ((i + 1) : Nat)))), (0, .ref r), (1, .int (iI ((b : Nat))))]) [0, 1, 2] (lc (lI (by first | rfl | omega)) (lc rfl (lc rfl rfl))) ?_
            exact ih12 (i + 1) M11 (by omega) (by rw [show (va_up (va_up (va_up F 3 L3) 4 D4) 1 (stR (F 0) (F 1) D4 b (i + 1))) = (va_up (va_up (va_up (va_up F 3 L3) 4 D4) 1 (stR (F 0) (F 1) D4 b i)) 1 (va_up (stR (F 0) (F 1) D4 b i) (b + i) (((D4 (b + i)) - 1) - ((F 1 (b + i)) - 1000000)))) from (by rw [bx_uu, stR_s (by omega)])]; exact hC13) (by omega)
  refine mv_lv (lv' := [(2, .int (iI ((b : Nat) + (0 : Nat)))), (0, .ref r), (1, .int (iI ((b : Nat))))]) [0, 1, 2] (lc (lI (by first | rfl | omega)) (lc rfl (lc rfl rfl))) ?_
  exact L12 _ 0 M9 (by omega) (by rw [show (va_up (va_up (va_up F 3 L3) 4 D4) 1 (stR (F 0) (F 1) D4 b 0)) = (va_up (va_up F 3 L3) 4 D4) from (by rw [stR_0]; funext j; by_cases h : j = 1 <;> simp [va_up, h])]; exact hC9) (Nat.lt_succ_self _)
