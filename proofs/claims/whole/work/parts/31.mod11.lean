/-! the reference: copy -/
def sgL (F : Nat → Nat → Int) (b : Nat) : Nat → List Nd
  | 0 => []
  | i + 1 => sgL F b i ++ [(F 0 (b + i), F 1 (b + i), F 2 (b + i))]
theorem sgL_len (F : Nat → Nat → Int) (b : Nat) : ∀ n, (sgL F b n).length = n
  | 0 => rfl
  | n + 1 => by simp [sgL, sgL_len]
theorem addF_3 (G : Nat → Nat → Int) (L : Nat → Int) (c : Nat) (k v s : Int) : addF (va_up G 3 L) c k v s = va_up (addF G c k v s) 3 (va_up L c 1) := by
  funext j
  unfold addF
  by_cases h3 : j = 3
  · subst h3; rw [va_us, va_us, va_us]
  · rw [va_un h3, va_un h3, va_un h3]
    by_cases h2 : j = 2
    · subst h2; rw [va_us, va_us, va_un (by decide)]
    · rw [va_un h2, va_un h2]
      by_cases h1 : j = 1
      · subst h1; rw [va_us, va_us, va_un (by decide)]
      · rw [va_un h1, va_un h1]
        by_cases h0 : j = 0
        · subst h0; rw [va_us, va_us, va_un (by decide)]
        · rw [va_un h0, va_un h0, va_un h3]
set_option maxRecDepth 100000 in
set_option maxHeartbeats 4000000 in
theorem m_Mod_copy {l : Launch} {V : mv_V} {M : mv_M} {r cap lq c : Nat} {A : Nat → Nat} {F : Nat → Nat → Int} {tn gn : Int} (hC : RefC V M r A (rN cap lq) F (c : Nat) tn gn) (hcc : c ≤ cap) (hcap0 : 1 ≤ cap) (hcap : cap ≤ 1000000) {b : Nat} (hb : 0 ≤ F 3 b ∧ (b : Int) + F 3 b ≤ c ∧ b < cap) (hcb : ∀ j : Nat, (j : Int) ≤ F 3 b → capL cap c j ≤ 1000000) : Met l y_Mod_copy ws_Mod_copy (rM 3 (pC (capL cap c ((F 3 b).toNat)) lq - pC cap lq) (pS (capL cap c ((F 3 b).toNat)) lq - pS cap lq) 100) (mv_Pre (kk V) [.ref r, .int (iI ((b : Nat)))] M) (mv_Q (kk V) (fun z0 M' => z0 = none ∧ ∃ (A' : Nat → Nat) (L' : Nat → Int), (∀ x, x < c → L' x = F 3 x) ∧ RefC V M' r A' (rN (capL cap c ((F 3 b).toNat)) lq) (va_up (appF F c (sgL F b (F 3 b).toNat)) 3 L') ((c + (F 3 b).toNat : Nat) : Int) tn gn)) (pC (capL cap c ((F 3 b).toNat)) lq - pC cap lq) (pS (capL cap c ((F 3 b).toNat)) lq - pS cap lq) V.2.2.2.2 := by
  refine mv_Met (by decide) rfl (Nat.le_of_ble_eq_true rfl) (fun X hX B => ?_)
  subst hX
  replace B : mv_B X (kk V) c_Mod_copy ws_Mod_copy "FamilyRulesModel" 5 (Option.none : Option Jvm.ClassFile.FieldType) (rM 3 (pC (capL cap c ((F 3 b).toNat)) lq - pC cap lq) (pS (capL cap c ((F 3 b).toNat)) lq - pS cap lq) 100) "copy" := B
  obtain ⟨Q, hQ⟩ : ∃ Q, Q = mv_E X (kk V) (fun z0 M' => z0 = none ∧ ∃ (A' : Nat → Nat) (L' : Nat → Int), (∀ x, x < c → L' x = F 3 x) ∧ RefC V M' r A' (rN (capL cap c ((F 3 b).toNat)) lq) (va_up (appF F c (sgL F b (F 3 b).toNat)) 3 L') ((c + (F 3 b).toNat : Nat) : Int) tn gn) (pC (capL cap c ((F 3 b).toNat)) lq - pC cap lq) (pS (capL cap c ((F 3 b).toNat)) lq - pS cap lq) := ⟨_, rfl⟩
  rw [← hQ]
  show mv_G X Q (kk V) 5 0 [(0, .ref r), (1, .int (iI ((b : Nat))))] [] M 0 0
  have hrc : (rM 3 (pC (capL cap c ((F 3 b).toNat)) lq - pC cap lq) (pS (capL cap c ((F 3 b).toNat)) lq - pS cap lq) 100).cells = pC (capL cap c ((F 3 b).toNat)) lq - pC cap lq := rfl
  have hrs : (rM 3 (pC (capL cap c ((F 3 b).toNat)) lq - pC cap lq) (pS (capL cap c ((F 3 b).toNat)) lq - pS cap lq) 100).slots = pS (capL cap c ((F 3 b).toNat)) lq - pS cap lq := rfl
  have k1_0 : M (A 0) = some (iA V (cap) (F 0)) := hC.2.1 0 (by decide)
  have k1_1 : M (A 1) = some (iA V (cap) (F 1)) := hC.2.1 1 (by decide)
  have k1_2 : M (A 2) = some (iA V (cap) (F 2)) := hC.2.1 2 (by decide)
  have k1_3 : M (A 3) = some (iA V (cap) (F 3)) := hC.2.1 3 (by decide)
  refine mv_iload_n B d_Mod_copy_0 rfl 1 rfl ?_
  refine mv_aloadR_n B d_Mod_copy_1 rfl 0 rfl ?_
  refine gf_Mod_19 B hC.1 rfl d_Mod_copy_2 ?_
  refine mv_iload_n B d_Mod_copy_5 rfl 1 rfl ?_
  refine ia_ld B k1_3 (by omega) (by omega) (by omega) d_Mod_copy_6 ?_
  rw [show Int.toNat ((b : Nat)) = b from by omega]
  have rr2 : R32 (F 3 b) := (hC.R 3) _
  refine mv_iadd B d_Mod_copy_7 ?_
  refine mv_istore_n (lv' := [(2, .int (iI ((b : Nat) + (F 3 b)))), (0, .ref r), (1, .int (iI ((b : Nat))))]) B d_Mod_copy_8 rfl (by decide) rfl ?_
  refine mv_iload_n B d_Mod_copy_9 rfl 2 rfl ?_
  refine mv_istore_n (lv' := [(3, .int (iI ((b : Nat)))), (2, .int (iI ((b : Nat) + (F 3 b)))), (0, .ref r), (1, .int (iI ((b : Nat))))]) B d_Mod_copy_10 rfl (by decide) rfl ?_
  have L11 : ∀ (fu : Nat) (i : Nat) (L1 : Nat → Int) (Ay1 : Nat → Nat) (My1 : mv_M), ((i : Int) ≤ F 3 b) → (∀ x, x < c → L1 x = F 3 x) → (RefC V My1 r Ay1 (rN (capL cap c (i)) lq) (va_up (appF F c (sgL F b i)) 3 L1) ((c + (i) : Nat) : Int) tn gn) → ((F 3 b).toNat - i) < fu → mv_G X Q (kk V) 5 11 [(3, .int (iI ((b : Nat) + (i : Nat)))), (2, .int (iI ((b : Nat) + F 3 b))), (0, .ref r), (1, .int (iI ((b : Nat))))] [] My1 (pC (capL cap c (i)) lq - pC cap lq) (pS (capL cap c (i)) lq - pS cap lq) := by
    intro fu
    induction fu with
    | zero => intro i L1 Ay1 My1 hi hLx hCl hm; exact absurd hm (Nat.not_lt_zero _)
    | succ fu ih11 =>
      intro i L1 Ay1 My1 hi hLx hCl hm
      have hcl := capL_c hcap0 hcc i
      have hcl2 := capL_c hcap0 hcc (i + 1)
      have hcg2 := capL_ge cap c (i + 1)
      have hcg := capL_ge cap c i
      have hcb1 := hcb i (by omega)
      have hpl := pC_L (lc := lq) c hcap0 i
      have hR0 := hC.2.2.2.2.1 0 (b + i)
      have hR1 := hC.2.2.2.2.1 1 (b + i)
      have hR2 := hC.2.2.2.2.1 2 (b + i)
      have hR3 := hC.2.2.2.2.1 3 (b + i)
      have hpt := fun h => pC_LL (lc := lq) cap c hcap0 (show i + 1 ≤ (F 3 b).toNat from h)
      have k3_0 : My1 (Ay1 0) = some (iA V (capL cap c (i)) (appF F c (sgL F b i) 0)) := hCl.2.1 0 (by decide)
      have k3_1 : My1 (Ay1 1) = some (iA V (capL cap c (i)) (appF F c (sgL F b i) 1)) := hCl.2.1 1 (by decide)
      have k3_2 : My1 (Ay1 2) = some (iA V (capL cap c (i)) (appF F c (sgL F b i) 2)) := hCl.2.1 2 (by decide)
      have k3_3 : My1 (Ay1 3) = some (iA V (capL cap c (i)) L1) := hCl.2.1 3 (by decide)
      refine mv_iload_n B d_Mod_copy_11 rfl 0 rfl ?_
      refine mv_iload_n B d_Mod_copy_12 rfl 1 rfl ?_
      refine mv_icmp_ge (tgt := 59) B d_Mod_copy_13 (by decide) (by omega) (by omega) (fun c4 => ?_) (fun c4 => ?_)
      · have ei : (F 3 b).toNat = i := by omega
        rw [hQ]
        exact mv_vret B ⟨rfl, Ay1, L1, hLx, by rw [ei]; exact hCl⟩ (by rw [ei]; exact Nat.le_refl _) (by rw [ei]; exact Nat.le_refl _) d_Mod_copy_59
      · refine mv_aloadR_n B d_Mod_copy_16 rfl 2 rfl ?_
        refine mv_aloadR_n B d_Mod_copy_17 rfl 2 rfl ?_
        refine gf_Mod_7 B hCl.1 rfl d_Mod_copy_18 ?_
        refine mv_iload_n B d_Mod_copy_21 rfl 0 rfl ?_
        refine ia_ld B k3_0 (by omega) (by omega) (by omega) d_Mod_copy_22 ?_
        rw [show Int.toNat ((b : Nat) + (i : Nat)) = b + i from by omega]
        have rr5 : R32 ((appF F c (sgL F b i) 0) (b + i)) := (hCl.R 0) _
        rw [appF_lt 0 _ (by omega)]
        refine mv_aloadR_n B d_Mod_copy_23 rfl 2 rfl ?_
        refine gf_Mod_13 B hCl.1 rfl d_Mod_copy_24 ?_
        refine mv_iload_n B d_Mod_copy_27 rfl 0 rfl ?_
        refine ia_ld B k3_1 (by omega) (by omega) (by omega) d_Mod_copy_28 ?_
        rw [show Int.toNat ((b : Nat) + (i : Nat)) = b + i from by omega]
        have rr6 : R32 ((appF F c (sgL F b i) 1) (b + i)) := (hCl.R 1) _
        rw [appF_lt 1 _ (by omega)]
        refine mv_aloadR_n B d_Mod_copy_29 rfl 2 rfl ?_
        refine gf_Mod_16 B hCl.1 rfl d_Mod_copy_30 ?_
        refine mv_iload_n B d_Mod_copy_33 rfl 0 rfl ?_
        refine ia_ld B k3_2 (by omega) (by omega) (by omega) d_Mod_copy_34 ?_
        rw [show Int.toNat ((b : Nat) + (i : Nat)) = b + i from by omega]
        have rr7 : R32 ((appF F c (sgL F b i) 2) (b + i)) := (hCl.R 2) _
        rw [appF_lt 2 _ (by omega)]
        have n8q : pC (capL cap c (i + 1)) lq = pC (capN (capL cap c (i)) (((c + (i) : Nat) : Int))) lq := rfl
        have n8r : pS (capL cap c (i + 1)) lq = pS (capN (capL cap c (i)) (((c + (i) : Nat) : Int))) lq := rfl
        have n8p := pC_N (lc := lq) (c := ((c + (i) : Nat) : Int)) (show 1 ≤ capL cap c (i) by omega)
        refine ca_Mod_63 (mc := pC (capN (capL cap c (i)) (((c + (i) : Nat) : Int))) lq - pC (capL cap c (i)) lq) (ms := pS (capN (capL cap c (i)) (((c + (i) : Nat) : Int))) lq - pS (capL cap c (i)) lq) (rm' := rM 2 (pC (capN (capL cap c (i)) (((c + (i) : Nat) : Int))) lq - pC (capL cap c (i)) lq) (pS (capN (capL cap c (i)) (((c + (i) : Nat) : Int))) lq - pS (capL cap c (i)) lq) 70) (As := [.int (iI (F 0 (b + i))), .int (iI (F 1 (b + i))), .int (iI (F 2 (b + i)))]) (rest := []) B (m_Mod_add hCl (by omega) (by omega) (k := F 0 (b + i)) (v := F 1 (b + i)) (s := F 2 (b + i)) (by omega) (by omega) (by omega)) rfl rfl ⟨Nat.le_of_ble_eq_true rfl, Nat.le_of_ble_eq_true rfl⟩ hCl.1 rfl rfl (Nat.le_of_ble_eq_true rfl) d_Mod_copy_35 ⟨by omega, by omega⟩ (fun v1 n8M ep => ?_)
        obtain ⟨e1, n8A, n8C⟩ := ep
        subst e1
        have n8D : RefC V n8M r n8A (rN (capL cap c (i + 1)) lq) (va_up (appF F c (sgL F b i ++ [(F 0 (b + i), F 1 (b + i), F 2 (b + i))])) 3 (va_up L1 (c + i) 1)) ((c + (i + 1) : Nat) : Int) tn gn := by
          have h := n8C
          rw [show (((c + (i) : Nat) : Int)).toNat = c + i by omega, addF_3] at h
          have e3 : appF F c (sgL F b i ++ [(F 0 (b + i), F 1 (b + i), F 2 (b + i))]) = addF (appF F c (sgL F b i)) (c + i) (F 0 (b + i)) (F 1 (b + i)) (F 2 (b + i)) := by rw [appF_1, sgL_len]
          rw [e3]
          exact h
        refine mv_widen (c2 := pC (capL cap c (i + 1)) lq - pC cap lq) (s2 := pS (capL cap c (i + 1)) lq - pS cap lq) (by omega) (by omega) ?_
        show mv_G X Q (kk V) 5 38 [(3, .int (iI ((b : Nat) + (i : Nat)))), (2, .int (iI ((b : Nat) + F 3 b))), (0, .ref r), (1, .int (iI ((b : Nat))))] [.int (iI (((c + (i) : Nat) : Int)))] n8M (pC (capL cap c (i + 1)) lq - pC cap lq) (pS (capL cap c (i + 1)) lq - pS cap lq)
        have k9_0 : n8M (n8A 0) = some (iA V (capL cap c (i + 1)) (appF F c (sgL F b i ++ [(F 0 (b + i), F 1 (b + i), F 2 (b + i))]) 0)) := n8D.2.1 0 (by decide)
        have k9_1 : n8M (n8A 1) = some (iA V (capL cap c (i + 1)) (appF F c (sgL F b i ++ [(F 0 (b + i), F 1 (b + i), F 2 (b + i))]) 1)) := n8D.2.1 1 (by decide)
        have k9_2 : n8M (n8A 2) = some (iA V (capL cap c (i + 1)) (appF F c (sgL F b i ++ [(F 0 (b + i), F 1 (b + i), F 2 (b + i))]) 2)) := n8D.2.1 2 (by decide)
        have k9_3 : n8M (n8A 3) = some (iA V (capL cap c (i + 1)) (va_up L1 (c + i) 1)) := n8D.2.1 3 (by decide)
        refine mv_istore (lv' := [(4, .int (iI (((c + (i) : Nat) : Int)))), (3, .int (iI ((b : Nat) + (i : Nat)))), (2, .int (iI ((b : Nat) + F 3 b))), (0, .ref r), (1, .int (iI ((b : Nat))))]) B d_Mod_copy_38 (by decide) rfl ?_
        refine mv_aloadR_n B d_Mod_copy_40 rfl 3 rfl ?_
        refine gf_Mod_19 B n8D.1 rfl d_Mod_copy_41 ?_
        refine mv_iload B d_Mod_copy_44 0 rfl ?_
        refine mv_aloadR_n B d_Mod_copy_46 rfl 3 rfl ?_
        refine gf_Mod_19 B n8D.1 rfl d_Mod_copy_47 ?_
        refine mv_iload_n B d_Mod_copy_50 rfl 1 rfl ?_
        refine ia_ld B k9_3 (by omega) (by omega) (by omega) d_Mod_copy_51 ?_
        rw [show Int.toNat ((b : Nat) + (i : Nat)) = b + i from by omega]
        have rr10 : R32 ((va_up L1 (c + i) 1) (b + i)) := (n8D.R 3) _
        rw [va_un (by omega), hLx _ (by omega)]
        refine ia_st B k9_3 (by omega) (by omega) (by omega) d_Mod_copy_52 ?_
        obtain ⟨M11, hM12⟩ : ∃ My : mv_M, My = mv_up n8M (n8A 3) (iA V (capL cap c (i + 1)) (va_up (va_up L1 (c + i) 1) (Int.toNat (((c + (i) : Nat) : Int))) (F 3 (b + i)))) := ⟨_, rfl⟩
        rw [← hM12]
        have hC13 : RefC V M11 r n8A (rN (capL cap c (i + 1)) lq) (va_up (va_up (appF F c (sgL F b i ++ [(F 0 (b + i), F 1 (b + i), F 2 (b + i))])) 3 (va_up L1 (c + i) 1)) 3 (va_up (va_up L1 (c + i) 1) (Int.toNat (((c + (i) : Nat) : Int))) (F 3 (b + i)))) (((c + (i + 1) : Nat) : Int)) (tn) (gn) := by rw [hM12]; exact RefC_w (i := 3) (k := (Int.toNat (((c + (i) : Nat) : Int)))) (x := F 3 (b + i)) n8D (by decide) (by show (Int.toNat (((c + (i) : Nat) : Int))) < capL cap c (i + 1); omega) (by omega)
        have k14_0 : M11 (n8A 0) = some (iA V (capL cap c (i + 1)) (appF F c (sgL F b i ++ [(F 0 (b + i), F 1 (b + i), F 2 (b + i))]) 0)) := hC13.2.1 0 (by decide)
        have k14_1 : M11 (n8A 1) = some (iA V (capL cap c (i + 1)) (appF F c (sgL F b i ++ [(F 0 (b + i), F 1 (b + i), F 2 (b + i))]) 1)) := hC13.2.1 1 (by decide)
        have k14_2 : M11 (n8A 2) = some (iA V (capL cap c (i + 1)) (appF F c (sgL F b i ++ [(F 0 (b + i), F 1 (b + i), F 2 (b + i))]) 2)) := hC13.2.1 2 (by decide)
        have k14_3 : M11 (n8A 3) = some (iA V (capL cap c (i + 1)) (va_up (va_up L1 (c + i) 1) (Int.toNat (((c + (i) : Nat) : Int))) (F 3 (b + i)))) := hC13.2.1 3 (by decide)
        refine mv_iinc (lv' := [(3, .int (iI (((b : Nat) + (i : Nat)) + 1))), (4, .int (iI (((c + (i) : Nat) : Int)))), (2, .int (iI ((b : Nat) + F 3 b))), (0, .ref r), (1, .int (iI ((b : Nat))))]) B d_Mod_copy_53 1 rfl (by decide) rfl ?_
        refine mv_goto (tgt := 11) B d_Mod_copy_56 (by decide) ?_
        refine mv_lv (lv' := [(3, .int (iI ((b : Nat) + ((i + 1) : Nat)))), (2, .int (iI ((b : Nat) + F 3 b))), (0, .ref r), (1, .int (iI ((b : Nat))))]) [0, 2, 3, 4] (lc (lI (by first | rfl | omega)) (lc rfl (lc rfl (lc rfl rfl)))) ?_
        have hD2 : RefC V M11 r n8A (rN (capL cap c (i + 1)) lq) (va_up (appF F c (sgL F b (i + 1))) 3 (va_up (va_up L1 (c + i) 1) (Int.toNat (((c + (i) : Nat) : Int))) (F 3 (b + i)))) ((c + (i + 1) : Nat) : Int) tn gn := by
          have h := hC13
          rw [bx_uu] at h
          exact h
        exact ih11 (i + 1) (va_up (va_up L1 (c + i) 1) (Int.toNat (((c + (i) : Nat) : Int))) (F 3 (b + i))) n8A M11 (by omega) (fun x hx => by rw [va_un (by omega), va_un (by omega)]; exact hLx x hx) hD2 (by omega)
  refine mv_lv (lv' := [(3, .int (iI ((b : Nat) + (0 : Nat)))), (2, .int (iI ((b : Nat) + F 3 b))), (0, .ref r), (1, .int (iI ((b : Nat))))]) [0, 1, 2, 3] (lc (lI (by first | rfl | omega)) (lc (lI (by first | rfl | omega)) (lc rfl (lc rfl rfl)))) ?_
  refine mv_widen (c2 := pC (capL cap c (0)) lq - pC cap lq) (s2 := pS (capL cap c (0)) lq - pS cap lq) (Nat.zero_le _) (Nat.zero_le _) ?_
  exact L11 _ 0 (F 3) A M (by omega) (fun x _ => rfl) (by rw [show va_up (appF F c (sgL F b 0)) 3 (F 3) = F from (by funext j; by_cases h : j = 3 <;> simp [va_up, h, sgL, appF])]; exact hC) (Nat.lt_succ_self _)
