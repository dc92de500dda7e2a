theorem bd1 {xs : List Nd} (hc : Cpl xs) {i : Nat} (hi : i < xs.length) (hk : (gN xs i).1 = 6) : i + 1 < xs.length ∧ dpS xs (i + 1) = dpS xs i := by
  have h := (Bds_ok hc (i := i) (n := 1) ⟨hi, fun y hy => by rw [show y = 0 by omega]; exact hk⟩ 0 (by omega)).2.2 (by omega)
  exact ⟨h.1, by have := h.2; simp only [unS] at this; omega⟩
set_option maxRecDepth 100000 in
set_option maxHeartbeats 4000000 in
theorem mW_binderOf {l : Launch} {V : mv_V} {M : mv_M} {r cap lq c : Nat} {A : Nat → Nat} {F : Nat → Nat → Int} {tn gn : Int} (hC : RefC V M r A (rN cap lq) F (c : Nat) tn gn) (hcc : c ≤ cap) (hcap0 : 1 ≤ cap) (hcap : cap ≤ 1000000) {Λ : Nat → Int} (hL : F 12 = Λ) {xs : List Nd} {b : Nat} (hs : seF F b xs) (hl : b + xs.length ≤ c) (hcp : Cpl xs) (hn1 : xs.length ≤ 1000) (hcl : Cls xs) (ho : AOk xs) {i ar : Nat} {k lv : Int} (hi : i < xs.length) (hk6 : (gN xs i).1 = 6) (har : dpS xs i = (ar : Nat)) (hlv : ∀ l : Nat, l < ar → -1000000 ≤ Λ l ∧ Λ l ≤ 1000000) (hlq : ar ≤ lq ∧ 1 ≤ lq ∧ lq ≤ 4000) (rk : Sm k) (rlv : Sm lv) (hnb : c + (([(k, (gN xs i).2.1, 0)] : List Nd) ++ pqS xs Λ (ar : Nat) (i + 1) (lnS xs (i + 1))).length ≤ 500000) : Met l y_Mod_binderOf ws_Mod_binderOf (rM 5 (pC (capL cap c (([(k, (gN xs i).2.1, 0)] : List Nd) ++ pqS xs Λ (ar : Nat) (i + 1) (lnS xs (i + 1))).length) (lvN lq ar) - pC cap lq) (pS (capL cap c (([(k, (gN xs i).2.1, 0)] : List Nd) ++ pqS xs Λ (ar : Nat) (i + 1) (lnS xs (i + 1))).length) (lvN lq ar) - pS cap lq) 165) (mv_Pre (kk V) [.ref r, .int (iI (k)), .int (iI (((b + i : Nat) : Int))), .int (iI ((ar : Nat))), .int (iI (lv))] M) (mv_Q (kk V) (fun z0 M' => z0 = some (.int (iI ((b + (i + 1 + lnS xs (i + 1)) : Nat) : Int))) ∧ wrP V r cap lq (lvN lq ar) F c tn gn (([(k, (gN xs i).2.1, 0)] : List Nd) ++ pqS xs Λ (ar : Nat) (i + 1) (lnS xs (i + 1))) (va_up Λ ar lv) M')) (pC (capL cap c (([(k, (gN xs i).2.1, 0)] : List Nd) ++ pqS xs Λ (ar : Nat) (i + 1) (lnS xs (i + 1))).length) (lvN lq ar) - pC cap lq) (pS (capL cap c (([(k, (gN xs i).2.1, 0)] : List Nd) ++ pqS xs Λ (ar : Nat) (i + 1) (lnS xs (i + 1))).length) (lvN lq ar) - pS cap lq) V.2.2.2.2 := by
  refine mv_Met (by decide) rfl (Nat.le_of_ble_eq_true rfl) (fun X hX B => ?_)
  subst hX
  replace B : mv_B X (kk V) c_Mod_binderOf ws_Mod_binderOf "FamilyRulesModel" 5 (Option.some Jvm.ClassFile.FieldType.int) (rM 5 (pC (capL cap c (([(k, (gN xs i).2.1, 0)] : List Nd) ++ pqS xs Λ (ar : Nat) (i + 1) (lnS xs (i + 1))).length) (lvN lq ar) - pC cap lq) (pS (capL cap c (([(k, (gN xs i).2.1, 0)] : List Nd) ++ pqS xs Λ (ar : Nat) (i + 1) (lnS xs (i + 1))).length) (lvN lq ar) - pS cap lq) 165) "binderOf" := B
  obtain ⟨Q, hQ⟩ : ∃ Q, Q = mv_E X (kk V) (fun z0 M' => z0 = some (.int (iI ((b + (i + 1 + lnS xs (i + 1)) : Nat) : Int))) ∧ wrP V r cap lq (lvN lq ar) F c tn gn (([(k, (gN xs i).2.1, 0)] : List Nd) ++ pqS xs Λ (ar : Nat) (i + 1) (lnS xs (i + 1))) (va_up Λ ar lv) M') (pC (capL cap c (([(k, (gN xs i).2.1, 0)] : List Nd) ++ pqS xs Λ (ar : Nat) (i + 1) (lnS xs (i + 1))).length) (lvN lq ar) - pC cap lq) (pS (capL cap c (([(k, (gN xs i).2.1, 0)] : List Nd) ++ pqS xs Λ (ar : Nat) (i + 1) (lnS xs (i + 1))).length) (lvN lq ar) - pS cap lq) := ⟨_, rfl⟩
  rw [← hQ]
  show mv_G X Q (kk V) 5 0 [(0, .ref r), (1, .int (iI (k))), (2, .int (iI (((b + i : Nat) : Int)))), (3, .int (iI ((ar : Nat)))), (4, .int (iI (lv)))] [] M 0 0
  have hrc : (rM 5 (pC (capL cap c (([(k, (gN xs i).2.1, 0)] : List Nd) ++ pqS xs Λ (ar : Nat) (i + 1) (lnS xs (i + 1))).length) (lvN lq ar) - pC cap lq) (pS (capL cap c (([(k, (gN xs i).2.1, 0)] : List Nd) ++ pqS xs Λ (ar : Nat) (i + 1) (lnS xs (i + 1))).length) (lvN lq ar) - pS cap lq) 165).cells = pC (capL cap c (([(k, (gN xs i).2.1, 0)] : List Nd) ++ pqS xs Λ (ar : Nat) (i + 1) (lnS xs (i + 1))).length) (lvN lq ar) - pC cap lq := rfl
  have hrs : (rM 5 (pC (capL cap c (([(k, (gN xs i).2.1, 0)] : List Nd) ++ pqS xs Λ (ar : Nat) (i + 1) (lnS xs (i + 1))).length) (lvN lq ar) - pC cap lq) (pS (capL cap c (([(k, (gN xs i).2.1, 0)] : List Nd) ++ pqS xs Λ (ar : Nat) (i + 1) (lnS xs (i + 1))).length) (lvN lq ar) - pS cap lq) 165).slots = pS (capL cap c (([(k, (gN xs i).2.1, 0)] : List Nd) ++ pqS xs Λ (ar : Nat) (i + 1) (lnS xs (i + 1))).length) (lvN lq ar) - pS cap lq := rfl
  subst hL
  clear hrc hrs
  obtain ⟨Y0, hY0⟩ : ∃ Y : List Nd, Y = [] := ⟨_, rfl⟩
  have hl0 : Y0.length = 0 := by rw [hY0]; rfl
  have hC0 : RefC V M r A (rN (capL cap c Y0.length) lq) F ((c + Y0.length : Nat) : Int) tn gn := by rw [hl0]; exact hC
  have hW0 : WR F F c Y0 := by rw [hY0]; exact WR_nil
  obtain ⟨N9, hN9⟩ : ∃ n : Nat, n = (([(k, (gN xs i).2.1, 0)] : List Nd) ++ pqS xs (F 12) (ar : Nat) (i + 1) (lnS xs (i + 1))).length := ⟨_, rfl⟩
  obtain ⟨Q9, hQ9⟩ : ∃ n : Nat, n = lvN lq ar := ⟨_, rfl⟩
  rw [← hN9] at hnb
  have hNl : N9 = 1 + lnS xs (i + 1) := by rw [hN9, List.length_append, pqS_len]; rfl
  have hQl : lq ≤ Q9 := by rw [hQ9]; exact (lvN_ok (by omega) (by omega)).2.1
  have ho1 := (AOk_g ho hi).2.1
  have hB9 := bd1 hcp hi hk6
  have hB1 := hB9.1
  have hB2 : dpS xs (i + 1) = (ar : Nat) := by rw [hB9.2]; exact har
  have hbl := (lnS_ok hcp hB1).2.1
  have hb0 : Y0.length ≤ N9 := by omega
  have ck0 : CK cap c Y0.length := CK_of hcc hcap0 hcap (by omega)
  have hq0 : lq ≤ lq ∧ lq ≤ Q9 := by omega
  have pl0 : PL cap lq (capL cap c Y0.length) (lq) := PL_le (capL_ge cap c Y0.length) hq0.1
  refine mv_widen (c2 := pC (capL cap c Y0.length) (lq) - pC cap lq) (s2 := pS (capL cap c Y0.length) (lq) - pS cap lq) (Nat.zero_le _) (Nat.zero_le _) ?_
  have k1_1 : M (A 1) = some (iA V (capL cap c Y0.length) (F 1)) := hC0.2.1 1 (by decide)
  have hck0 := ck0.1
  refine mv_aloadR_n B d_Mod_binderOf_0 rfl 0 rfl ?_
  refine mv_iload_n B d_Mod_binderOf_1 rfl 1 rfl ?_
  refine mv_aloadR_n B d_Mod_binderOf_2 rfl 0 rfl ?_
  refine gf_Mod_13 B hC0.1 rfl d_Mod_binderOf_3 ?_
  refine mv_iload_n B d_Mod_binderOf_6 rfl 2 rfl ?_
  refine ia_ld B k1_1 (by omega) (by omega) (by omega) d_Mod_binderOf_7 ?_
  have rr2 : R32 (F 1 (Int.toNat (((b + i : Nat) : Int)))) := (hC0.R 1) _
  rw [show F 1 (Int.toNat (((b + i : Nat) : Int))) = (gN xs i).2.1 from hs.u hi]
  refine mv_iconst (z := 0) B d_Mod_binderOf_8 rfl ?_
  have w3z : ([(k, (gN xs i).2.1, 0)] : List Nd).length = 1 := rfl
  have w3q : lq ≤ lq ∧ lq ≤ Q9 := ⟨Nat.le_refl _, hq0.2⟩
  have w3n : Y0.length + (([(k, (gN xs i).2.1, 0)] : List Nd)).length ≤ N9 := by omega
  have w3e : capL (capL cap c Y0.length) (c + Y0.length) (([(k, (gN xs i).2.1, 0)] : List Nd)).length = capL cap c (Y0.length + (([(k, (gN xs i).2.1, 0)] : List Nd)).length) := (capL_add cap c Y0.length (([(k, (gN xs i).2.1, 0)] : List Nd)).length).symm
  have w3m : PL (capL cap c Y0.length) (lq) (capL cap c (Y0.length + (([(k, (gN xs i).2.1, 0)] : List Nd)).length)) (lq) := PL_le (capL_mono cap c (Nat.le_add_right _ _)) w3q.1
  have w3t : PL (capL cap c (Y0.length + (([(k, (gN xs i).2.1, 0)] : List Nd)).length)) (lq) (capL cap c (([(k, (gN xs i).2.1, 0)] : List Nd) ++ pqS xs (F 12) (ar : Nat) (i + 1) (lnS xs (i + 1))).length) (lvN lq ar) := PL_le (capL_mono cap c (hN9 ▸ w3n)) (hQ9 ▸ w3q.2)
  refine ca_Mod_63 (mc := pC (capL (capL cap c Y0.length) (c + Y0.length) (([(k, (gN xs i).2.1, 0)] : List Nd)).length) (lq) - pC (capL cap c Y0.length) (lq)) (ms := pS (capL (capL cap c Y0.length) (c + Y0.length) (([(k, (gN xs i).2.1, 0)] : List Nd)).length) (lq) - pS (capL cap c Y0.length) (lq)) (rm' := rM 2 (pC (capL (capL cap c Y0.length) (c + Y0.length) (([(k, (gN xs i).2.1, 0)] : List Nd)).length) (lq) - pC (capL cap c Y0.length) (lq)) (pS (capL (capL cap c Y0.length) (c + Y0.length) (([(k, (gN xs i).2.1, 0)] : List Nd)).length) (lq) - pS (capL cap c Y0.length) (lq)) 70) (As := [.int (iI (k)), .int (iI ((gN xs i).2.1)), .int (iI (0))]) (rest := []) B (mW_add hC0 ck0.1 ck0.2.1 ck0.2.2 (k := k) (v := (gN xs i).2.1) (s := 0) (by omega) (by omega) (by omega) rfl) rfl rfl ⟨Nat.le_of_ble_eq_true rfl, Nat.le_of_ble_eq_true rfl⟩ hC0.1 rfl rfl (Nat.le_of_ble_eq_true rfl) d_Mod_binderOf_9 ⟨by rw [w3e]; exact PL_c pl0 w3m w3t, by rw [w3e]; exact PL_s pl0 w3m w3t⟩ (fun v1 w3M ep => ?_)
  obtain ⟨e1, w3U⟩ := ep
  subst e1
  have w3U := wrP_app (lq := lq) hW0 w3U
  obtain ⟨w3Y, w3h⟩ : ∃ Y : List Nd, Y = Y0 ++ (([(k, (gN xs i).2.1, 0)] : List Nd)) := ⟨_, rfl⟩
  rw [← w3h] at w3U
  have w3l : w3Y.length = Y0.length + (([(k, (gN xs i).2.1, 0)] : List Nd)).length := by rw [w3h, List.length_append]
  obtain ⟨w3A, w3F, w3W, w3L, w3C⟩ := w3U
  rw [← w3l] at w3e w3m w3t
  have w3b : CK cap c w3Y.length := CK_of hcc hcap0 hcap (by omega)
  have w3p := pl0.tr w3m
  refine mv_widen (c2 := pC (capL cap c w3Y.length) (lq) - pC cap lq) (s2 := pS (capL cap c w3Y.length) (lq) - pS cap lq) (by rw [w3e]; exact PL_c2 pl0 w3m) (by rw [w3e]; exact PL_s2 pl0 w3m) ?_
  clear w3e w3m w3t w3n
  show mv_G X Q (kk V) 5 12 [(0, .ref r), (1, .int (iI (k))), (2, .int (iI (((b + i : Nat) : Int)))), (3, .int (iI ((ar : Nat)))), (4, .int (iI (lv)))] [.int (iI (((c + Y0.length : Nat) : Int)))] w3M (pC (capL cap c w3Y.length) (lq) - pC cap lq) (pS (capL cap c w3Y.length) (lq) - pS cap lq)
  have k4_1 : w3M (w3A 1) = some (iA V (capL cap c w3Y.length) (w3F 1)) := w3C.2.1 1 (by decide)
  refine mv_pop B d_Mod_binderOf_12 rfl ?_
  refine mv_aloadR_n B d_Mod_binderOf_13 rfl 0 rfl ?_
  refine mv_iload_n B d_Mod_binderOf_14 rfl 2 rfl ?_
  refine mv_iconst (z := 1) B d_Mod_binderOf_15 rfl ?_
  refine mv_iadd B d_Mod_binderOf_16 ?_
  refine mv_iload_n B d_Mod_binderOf_17 rfl 3 rfl ?_
  rw [show (((b + i : Nat) : Int)) + 1 = ((b + (i + 1) : Nat) : Int) by omega]
  have w5z : (pqS xs (F 12) ((ar : Nat) : Int) (i + 1) (lnS xs (i + 1))).length = lnS xs (i + 1) := pqS_len _ _ _ _ _
  have w5q : lq ≤ lq ∧ lq ≤ Q9 := ⟨Nat.le_refl _, w3q.2⟩
  have w5n : w3Y.length + (pqS xs (F 12) ((ar : Nat) : Int) (i + 1) (lnS xs (i + 1))).length ≤ N9 := by omega
  have w5e : capL (capL cap c w3Y.length) (c + w3Y.length) (pqS xs (F 12) ((ar : Nat) : Int) (i + 1) (lnS xs (i + 1))).length = capL cap c (w3Y.length + (pqS xs (F 12) ((ar : Nat) : Int) (i + 1) (lnS xs (i + 1))).length) := (capL_add cap c w3Y.length (pqS xs (F 12) ((ar : Nat) : Int) (i + 1) (lnS xs (i + 1))).length).symm
  have w5m : PL (capL cap c w3Y.length) (lq) (capL cap c (w3Y.length + (pqS xs (F 12) ((ar : Nat) : Int) (i + 1) (lnS xs (i + 1))).length)) (lq) := PL_le (capL_mono cap c (Nat.le_add_right _ _)) w5q.1
  have w5t : PL (capL cap c (w3Y.length + (pqS xs (F 12) ((ar : Nat) : Int) (i + 1) (lnS xs (i + 1))).length)) (lq) (capL cap c (([(k, (gN xs i).2.1, 0)] : List Nd) ++ pqS xs (F 12) (ar : Nat) (i + 1) (lnS xs (i + 1))).length) (lvN lq ar) := PL_le (capL_mono cap c (hN9 ▸ w5n)) (hQ9 ▸ w5q.2)
  refine ca_Mod_129 (mc := pC (capL (capL cap c w3Y.length) (c + w3Y.length) (pqS xs (F 12) ((ar : Nat) : Int) (i + 1) (lnS xs (i + 1))).length) (lq) - pC (capL cap c w3Y.length) (lq)) (ms := pS (capL (capL cap c w3Y.length) (c + w3Y.length) (pqS xs (F 12) ((ar : Nat) : Int) (i + 1) (lnS xs (i + 1))).length) (lq) - pS (capL cap c w3Y.length) (lq)) (rm' := rM 4 (pC (capL (capL cap c w3Y.length) (c + w3Y.length) (pqS xs (F 12) ((ar : Nat) : Int) (i + 1) (lnS xs (i + 1))).length) (lq) - pC (capL cap c w3Y.length) (lq)) (pS (capL (capL cap c w3Y.length) (c + w3Y.length) (pqS xs (F 12) ((ar : Nat) : Int) (i + 1) (lnS xs (i + 1))).length) (lq) - pS (capL cap c w3Y.length) (lq)) 130) (As := [.int (iI (((b + (i + 1) : Nat) : Int))), .int (iI ((ar : Nat)))]) (rest := []) B (mW_piece w3C w3b.1 w3b.2.1 w3b.2.2 (xs := xs) (b := b) (i := i + 1) (ar := ar) w3L (seF_ag w3W.1 hl hs) hcp hn1 (by omega) hB1 hB2 hcl hlv (by omega) (by rw [pqS_len] at w5n; omega)) rfl rfl ⟨Nat.le_of_ble_eq_true rfl, Nat.le_of_ble_eq_true rfl⟩ w3C.1 rfl rfl (Nat.le_of_ble_eq_true rfl) d_Mod_binderOf_18 ⟨by rw [w5e]; exact PL_c w3p w5m w5t, by rw [w5e]; exact PL_s w3p w5m w5t⟩ (fun v1 w5M ep => ?_)
  obtain ⟨e1, w5U⟩ := ep
  subst e1
  have w5U := wrP_app (lq := lq) w3W w5U
  obtain ⟨w5Y, w5h⟩ : ∃ Y : List Nd, Y = w3Y ++ (pqS xs (F 12) ((ar : Nat) : Int) (i + 1) (lnS xs (i + 1))) := ⟨_, rfl⟩
  rw [← w5h] at w5U
  have w5l : w5Y.length = w3Y.length + (pqS xs (F 12) ((ar : Nat) : Int) (i + 1) (lnS xs (i + 1))).length := by rw [w5h, List.length_append]
  obtain ⟨w5A, w5F, w5W, w5L, w5C⟩ := w5U
  rw [← w5l] at w5e w5m w5t
  have w5b : CK cap c w5Y.length := CK_of hcc hcap0 hcap (by omega)
  have w5p := w3p.tr w5m
  refine mv_widen (c2 := pC (capL cap c w5Y.length) (lq) - pC cap lq) (s2 := pS (capL cap c w5Y.length) (lq) - pS cap lq) (by rw [w5e]; exact PL_c2 w3p w5m) (by rw [w5e]; exact PL_s2 w3p w5m) ?_
  clear w5e w5m w5t w5n
  show mv_G X Q (kk V) 5 21 [(0, .ref r), (1, .int (iI (k))), (2, .int (iI (((b + i : Nat) : Int)))), (3, .int (iI ((ar : Nat)))), (4, .int (iI (lv)))] [] w5M (pC (capL cap c w5Y.length) (lq) - pC cap lq) (pS (capL cap c w5Y.length) (lq) - pS cap lq)
  have k6_1 : w5M (w5A 1) = some (iA V (capL cap c w5Y.length) (w5F 1)) := w5C.2.1 1 (by decide)
  refine mv_aloadR_n B d_Mod_binderOf_21 rfl 0 rfl ?_
  refine mv_iload_n B d_Mod_binderOf_22 rfl 3 rfl ?_
  refine mv_iload B d_Mod_binderOf_23 4 rfl ?_
  have w7z : ([] : List Nd).length = 0 := rfl
  have w7q : lq ≤ lvN (lq) (ar) ∧ lvN (lq) (ar) ≤ Q9 := by have := lvN_ok (lq := lq) (v := ar) (by omega) (by omega); omega
  have w7n : w5Y.length + (([] : List Nd)).length ≤ N9 := by omega
  have w7e : capL (capL cap c w5Y.length) (c + w5Y.length) (([] : List Nd)).length = capL cap c (w5Y.length + (([] : List Nd)).length) := (capL_add cap c w5Y.length (([] : List Nd)).length).symm
  have w7m : PL (capL cap c w5Y.length) (lq) (capL cap c (w5Y.length + (([] : List Nd)).length)) (lvN (lq) (ar)) := PL_le (capL_mono cap c (Nat.le_add_right _ _)) w7q.1
  have w7t : PL (capL cap c (w5Y.length + (([] : List Nd)).length)) (lvN (lq) (ar)) (capL cap c (([(k, (gN xs i).2.1, 0)] : List Nd) ++ pqS xs (F 12) (ar : Nat) (i + 1) (lnS xs (i + 1))).length) (lvN lq ar) := PL_le (capL_mono cap c (hN9 ▸ w7n)) (hQ9 ▸ w7q.2)
  refine ca_Mod_133 (mc := pC (capL (capL cap c w5Y.length) (c + w5Y.length) (([] : List Nd)).length) (lvN (lq) (ar)) - pC (capL cap c w5Y.length) (lq)) (ms := pS (capL (capL cap c w5Y.length) (c + w5Y.length) (([] : List Nd)).length) (lvN (lq) (ar)) - pS (capL cap c w5Y.length) (lq)) (rm' := rM 2 (pC (capL (capL cap c w5Y.length) (c + w5Y.length) (([] : List Nd)).length) (lvN (lq) (ar)) - pC (capL cap c w5Y.length) (lq)) (pS (capL (capL cap c w5Y.length) (c + w5Y.length) (([] : List Nd)).length) (lvN (lq) (ar)) - pS (capL cap c w5Y.length) (lq)) 70) (As := [.int (iI ((ar : Nat))), .int (iI (lv))]) (rest := []) B (mW_level w5C w5b.1 w5b.2.1 w5b.2.2 (v := ar) (z := (ar : Nat)) (x := lv) (by omega) (by omega) (by omega) (by omega) w5L) rfl rfl ⟨Nat.le_of_ble_eq_true rfl, Nat.le_of_ble_eq_true rfl⟩ w5C.1 rfl rfl (Nat.le_of_ble_eq_true rfl) d_Mod_binderOf_25 ⟨by rw [w7e]; exact PL_c w5p w7m w7t, by rw [w7e]; exact PL_s w5p w7m w7t⟩ (fun v1 w7M ep => ?_)
  obtain ⟨e1, w7U⟩ := ep
  subst e1
  have w7U := wrP_app (lq := lq) w5W w7U
  obtain ⟨w7Y, w7h⟩ : ∃ Y : List Nd, Y = w5Y ++ (([] : List Nd)) := ⟨_, rfl⟩
  rw [← w7h] at w7U
  have w7l : w7Y.length = w5Y.length + (([] : List Nd)).length := by rw [w7h, List.length_append]
  obtain ⟨w7A, w7F, w7W, w7L, w7C⟩ := w7U
  rw [← w7l] at w7e w7m w7t
  have w7b : CK cap c w7Y.length := CK_of hcc hcap0 hcap (by omega)
  have w7p := w5p.tr w7m
  refine mv_widen (c2 := pC (capL cap c w7Y.length) (lvN (lq) (ar)) - pC cap lq) (s2 := pS (capL cap c w7Y.length) (lvN (lq) (ar)) - pS cap lq) (by rw [w7e]; exact PL_c2 w5p w7m) (by rw [w7e]; exact PL_s2 w5p w7m) ?_
  clear w7e w7m w7t w7n
  show mv_G X Q (kk V) 5 28 [(0, .ref r), (1, .int (iI (k))), (2, .int (iI (((b + i : Nat) : Int)))), (3, .int (iI ((ar : Nat)))), (4, .int (iI (lv)))] [] w7M (pC (capL cap c w7Y.length) (lvN (lq) (ar)) - pC cap lq) (pS (capL cap c w7Y.length) (lvN (lq) (ar)) - pS cap lq)
  have k8_1 : w7M (w7A 1) = some (iA V (capL cap c w7Y.length) (w7F 1)) := w7C.2.1 1 (by decide)
  have hck9 := w7b.1
  refine mv_aloadR_n B d_Mod_binderOf_28 rfl 0 rfl ?_
  refine mv_iload_n B d_Mod_binderOf_29 rfl 2 rfl ?_
  refine ca_Mod_67 (mc := 0) (ms := 0) (As := [.int (iI (((b + i : Nat) : Int)))]) (rest := []) B (m_Mod_second w7C w7b.2.2 (k := ((b + i : Nat) : Int)) (by omega)) rfl rfl ⟨Nat.le_of_ble_eq_true rfl, Nat.le_of_ble_eq_true rfl⟩ w7C.1 rfl rfl (Nat.le_of_ble_eq_true rfl) d_Mod_binderOf_30 ⟨PL_0c (PL_le (capL_mono cap c (hN9 ▸ (show w7Y.length ≤ N9 by omega))) (hQ9 ▸ w7q.2)), PL_0s (PL_le (capL_mono cap c (hN9 ▸ (show w7Y.length ≤ N9 by omega))) (hQ9 ▸ w7q.2))⟩ (mv_x ?_)
  show mv_G X Q (kk V) 5 33 [(0, .ref r), (1, .int (iI (k))), (2, .int (iI (((b + i : Nat) : Int)))), (3, .int (iI ((ar : Nat)))), (4, .int (iI (lv)))] [.int (iI (scR w7F ((b + i : Nat) : Int)))] w7M (pC (capL cap c w7Y.length) (lvN (lq) (ar)) - pC cap lq) (pS (capL cap c w7Y.length) (lvN (lq) (ar)) - pS cap lq)
  rw [show scR w7F ((b + i : Nat) : Int) = ((b + (i + 1 + lnS xs (i + 1)) : Nat) : Int) from (seF_ag w7W.1 hl hs).sc hB1]
  have eZ : w7Y = ([(k, (gN xs i).2.1, 0)] : List Nd) ++ pqS xs (F 12) (ar : Nat) (i + 1) (lnS xs (i + 1)) := by rw [w7h, w5h, w3h, hY0]; simp only [List.append_nil, List.nil_append, List.append_assoc]
  rw [hQ]
  exact mv_iret B ⟨rfl, w7A, w7F, by rw [← eZ]; exact w7W, w7L, by rw [← eZ]; exact w7C⟩ (by rw [eZ]; exact Nat.le_refl _) (by rw [eZ]; exact Nat.le_refl _) d_Mod_binderOf_33
set_option maxRecDepth 100000 in
set_option maxHeartbeats 4000000 in
theorem mW_put {l : Launch} {V : mv_V} {M : mv_M} {r cap lq c : Nat} {A : Nat → Nat} {F : Nat → Nat → Int} {tn gn : Int} (hC : RefC V M r A (rN cap lq) F (c : Nat) tn gn) (hcc : c ≤ cap) (hcap0 : 1 ≤ cap) (hcap : cap ≤ 1000000) {Λ : Nat → Int} (hL : F 12 = Λ) {d np ni : Nat} {lv : Int} (hd : d < 100) (h9 : F 9 d = (np : Nat)) (h10 : F 10 d = (ni : Nat)) (hpn : np ≤ 1000 ∧ ni ≤ 1000) (rlv : -1000000 ≤ lv ∧ lv ≤ 1000000) (hnb : c + (apL (np + ni) ++ ([(1, ((d : Nat) : Int), 0)] : List Nd) ++ mdL 0 np ++ mdL lv ni).length ≤ 500000) : Met l y_Mod_put ws_Mod_put (rM 4 (pC (capL cap c (apL (np + ni) ++ ([(1, ((d : Nat) : Int), 0)] : List Nd) ++ mdL 0 np ++ mdL lv ni).length) (lq) - pC cap lq) (pS (capL cap c (apL (np + ni) ++ ([(1, ((d : Nat) : Int), 0)] : List Nd) ++ mdL 0 np ++ mdL lv ni).length) (lq) - pS cap lq) 130) (mv_Pre (kk V) [.ref r, .int (iI ((d : Nat))), .int (iI (lv))] M) (mv_Q (kk V) (fun z0 M' => z0 = none ∧ wrP V r cap lq (lq) F c tn gn (apL (np + ni) ++ ([(1, ((d : Nat) : Int), 0)] : List Nd) ++ mdL 0 np ++ mdL lv ni) (Λ) M')) (pC (capL cap c (apL (np + ni) ++ ([(1, ((d : Nat) : Int), 0)] : List Nd) ++ mdL 0 np ++ mdL lv ni).length) (lq) - pC cap lq) (pS (capL cap c (apL (np + ni) ++ ([(1, ((d : Nat) : Int), 0)] : List Nd) ++ mdL 0 np ++ mdL lv ni).length) (lq) - pS cap lq) V.2.2.2.2 := by
  refine mv_Met (by decide) rfl (Nat.le_of_ble_eq_true rfl) (fun X hX B => ?_)
  subst hX
  replace B : mv_B X (kk V) c_Mod_put ws_Mod_put "FamilyRulesModel" 4 (Option.none : Option Jvm.ClassFile.FieldType) (rM 4 (pC (capL cap c (apL (np + ni) ++ ([(1, ((d : Nat) : Int), 0)] : List Nd) ++ mdL 0 np ++ mdL lv ni).length) (lq) - pC cap lq) (pS (capL cap c (apL (np + ni) ++ ([(1, ((d : Nat) : Int), 0)] : List Nd) ++ mdL 0 np ++ mdL lv ni).length) (lq) - pS cap lq) 130) "put" := B
  obtain ⟨Q, hQ⟩ : ∃ Q, Q = mv_E X (kk V) (fun z0 M' => z0 = none ∧ wrP V r cap lq (lq) F c tn gn (apL (np + ni) ++ ([(1, ((d : Nat) : Int), 0)] : List Nd) ++ mdL 0 np ++ mdL lv ni) (Λ) M') (pC (capL cap c (apL (np + ni) ++ ([(1, ((d : Nat) : Int), 0)] : List Nd) ++ mdL 0 np ++ mdL lv ni).length) (lq) - pC cap lq) (pS (capL cap c (apL (np + ni) ++ ([(1, ((d : Nat) : Int), 0)] : List Nd) ++ mdL 0 np ++ mdL lv ni).length) (lq) - pS cap lq) := ⟨_, rfl⟩
  rw [← hQ]
  show mv_G X Q (kk V) 4 0 [(0, .ref r), (1, .int (iI ((d : Nat)))), (2, .int (iI (lv)))] [] M 0 0
  have hrc : (rM 4 (pC (capL cap c (apL (np + ni) ++ ([(1, ((d : Nat) : Int), 0)] : List Nd) ++ mdL 0 np ++ mdL lv ni).length) (lq) - pC cap lq) (pS (capL cap c (apL (np + ni) ++ ([(1, ((d : Nat) : Int), 0)] : List Nd) ++ mdL 0 np ++ mdL lv ni).length) (lq) - pS cap lq) 130).cells = pC (capL cap c (apL (np + ni) ++ ([(1, ((d : Nat) : Int), 0)] : List Nd) ++ mdL 0 np ++ mdL lv ni).length) (lq) - pC cap lq := rfl
  have hrs : (rM 4 (pC (capL cap c (apL (np + ni) ++ ([(1, ((d : Nat) : Int), 0)] : List Nd) ++ mdL 0 np ++ mdL lv ni).length) (lq) - pC cap lq) (pS (capL cap c (apL (np + ni) ++ ([(1, ((d : Nat) : Int), 0)] : List Nd) ++ mdL 0 np ++ mdL lv ni).length) (lq) - pS cap lq) 130).slots = pS (capL cap c (apL (np + ni) ++ ([(1, ((d : Nat) : Int), 0)] : List Nd) ++ mdL 0 np ++ mdL lv ni).length) (lq) - pS cap lq := rfl
  subst hL
  clear hrc hrs
  obtain ⟨Y0, hY0⟩ : ∃ Y : List Nd, Y = [] := ⟨_, rfl⟩
  have hl0 : Y0.length = 0 := by rw [hY0]; rfl
  have hC0 : RefC V M r A (rN (capL cap c Y0.length) lq) F ((c + Y0.length : Nat) : Int) tn gn := by rw [hl0]; exact hC
  have hW0 : WR F F c Y0 := by rw [hY0]; exact WR_nil
  obtain ⟨N9, hN9⟩ : ∃ n : Nat, n = (apL (np + ni) ++ ([(1, ((d : Nat) : Int), 0)] : List Nd) ++ mdL 0 np ++ mdL lv ni).length := ⟨_, rfl⟩
  obtain ⟨Q9, hQ9⟩ : ∃ n : Nat, n = lq := ⟨_, rfl⟩
  rw [← hN9] at hnb
  have hNl : N9 = (np + ni) + 1 + np + ni := by rw [hN9]; simp only [List.length_append, List.length_singleton, List.length_cons, List.length_nil, pqS_len, apL_len, mdL_len, bnR_len, idR_len]; try omega
  have hb0 : Y0.length ≤ N9 := by omega
  have ck0 : CK cap c Y0.length := CK_of hcc hcap0 hcap (by omega)
  have hq0 : lq ≤ lq ∧ lq ≤ Q9 := by omega
  have pl0 : PL cap lq (capL cap c Y0.length) (lq) := PL_le (capL_ge cap c Y0.length) hq0.1
  refine mv_widen (c2 := pC (capL cap c Y0.length) (lq) - pC cap lq) (s2 := pS (capL cap c Y0.length) (lq) - pS cap lq) (Nat.zero_le _) (Nat.zero_le _) ?_
  have k1_9 : M (A 9) = some (iA V (100) (F 9)) := hC0.2.1 9 (by decide)
  have k1_10 : M (A 10) = some (iA V (100) (F 10)) := hC0.2.1 10 (by decide)
  refine mv_aloadR_n B d_Mod_put_0 rfl 0 rfl ?_
  refine mv_aloadR_n B d_Mod_put_1 rfl 0 rfl ?_
  refine gf_Mod_37 B hC0.1 rfl d_Mod_put_2 ?_
  refine mv_iload_n B d_Mod_put_5 rfl 1 rfl ?_
  refine ia_ld B k1_9 (by omega) (by omega) (by omega) d_Mod_put_6 ?_
  rw [show Int.toNat ((d : Nat)) = d from by omega]
  have rr2 : R32 (F 9 d) := (hC0.R 9) _
  rw [show F 9 d = (np : Nat) from (congrFun (hW0.2.1 9 (by omega) (by omega)) d).trans h9]
  refine mv_aloadR_n B d_Mod_put_7 rfl 0 rfl ?_
  refine gf_Mod_40 B hC0.1 rfl d_Mod_put_8 ?_
  refine mv_iload_n B d_Mod_put_11 rfl 1 rfl ?_
  refine ia_ld B k1_10 (by omega) (by omega) (by omega) d_Mod_put_12 ?_
  rw [show Int.toNat ((d : Nat)) = d from by omega]
  have rr3 : R32 (F 10 d) := (hC0.R 10) _
  rw [show F 10 d = (ni : Nat) from (congrFun (hW0.2.1 10 (by omega) (by omega)) d).trans h10]
  refine mv_iadd B d_Mod_put_13 ?_
  have w4z : (apL (np + ni)).length = np + ni := apL_len _
  have w4q : lq ≤ lq ∧ lq ≤ Q9 := ⟨Nat.le_refl _, hq0.2⟩
  have w4n : Y0.length + (apL (np + ni)).length ≤ N9 := by omega
  have w4e : capL (capL cap c Y0.length) (c + Y0.length) (apL (np + ni)).length = capL cap c (Y0.length + (apL (np + ni)).length) := (capL_add cap c Y0.length (apL (np + ni)).length).symm
  have w4m : PL (capL cap c Y0.length) (lq) (capL cap c (Y0.length + (apL (np + ni)).length)) (lq) := PL_le (capL_mono cap c (Nat.le_add_right _ _)) w4q.1
  have w4t : PL (capL cap c (Y0.length + (apL (np + ni)).length)) (lq) (capL cap c (apL (np + ni) ++ ([(1, ((d : Nat) : Int), 0)] : List Nd) ++ mdL 0 np ++ mdL lv ni).length) (lq) := PL_le (capL_mono cap c (hN9 ▸ w4n)) (hQ9 ▸ w4q.2)
  refine ca_Mod_153 (mc := pC (capL (capL cap c Y0.length) (c + Y0.length) (apL (np + ni)).length) (lq) - pC (capL cap c Y0.length) (lq)) (ms := pS (capL (capL cap c Y0.length) (c + Y0.length) (apL (np + ni)).length) (lq) - pS (capL cap c Y0.length) (lq)) (rm' := rM 3 (pC (capL (capL cap c Y0.length) (c + Y0.length) (apL (np + ni)).length) (lq) - pC (capL cap c Y0.length) (lq)) (pS (capL (capL cap c Y0.length) (c + Y0.length) (apL (np + ni)).length) (lq) - pS (capL cap c Y0.length) (lq)) 100) (As := [.int (iI ((np : Nat) + (ni : Nat)))]) (rest := []) B (mW_apps hC0 ck0.1 ck0.2.1 ck0.2.2 (n := np + ni) (m := (np : Nat) + (ni : Nat)) (by omega) (by rw [apL_len]; omega) rfl) rfl rfl ⟨Nat.le_of_ble_eq_true rfl, Nat.le_of_ble_eq_true rfl⟩ hC0.1 rfl rfl (Nat.le_of_ble_eq_true rfl) d_Mod_put_14 ⟨by rw [w4e]; exact PL_c pl0 w4m w4t, by rw [w4e]; exact PL_s pl0 w4m w4t⟩ (fun v1 w4M ep => ?_)
  obtain ⟨e1, w4U⟩ := ep
  subst e1
  have w4U := wrP_app (lq := lq) hW0 w4U
  obtain ⟨w4Y, w4h⟩ : ∃ Y : List Nd, Y = Y0 ++ (apL (np + ni)) := ⟨_, rfl⟩
  rw [← w4h] at w4U
  have w4l : w4Y.length = Y0.length + (apL (np + ni)).length := by rw [w4h, List.length_append]
  obtain ⟨w4A, w4F, w4W, w4L, w4C⟩ := w4U
  rw [← w4l] at w4e w4m w4t
  have w4b : CK cap c w4Y.length := CK_of hcc hcap0 hcap (by omega)
  have w4p := pl0.tr w4m
  refine mv_widen (c2 := pC (capL cap c w4Y.length) (lq) - pC cap lq) (s2 := pS (capL cap c w4Y.length) (lq) - pS cap lq) (by rw [w4e]; exact PL_c2 pl0 w4m) (by rw [w4e]; exact PL_s2 pl0 w4m) ?_
  clear w4e w4m w4t w4n
  show mv_G X Q (kk V) 4 17 [(0, .ref r), (1, .int (iI ((d : Nat)))), (2, .int (iI (lv)))] [] w4M (pC (capL cap c w4Y.length) (lq) - pC cap lq) (pS (capL cap c w4Y.length) (lq) - pS cap lq)
  have k5_9 : w4M (w4A 9) = some (iA V (100) (w4F 9)) := w4C.2.1 9 (by decide)
  have k5_10 : w4M (w4A 10) = some (iA V (100) (w4F 10)) := w4C.2.1 10 (by decide)
  refine mv_aloadR_n B d_Mod_put_17 rfl 0 rfl ?_
  refine mv_iconst (z := 1) B d_Mod_put_18 rfl ?_
  refine mv_iload_n B d_Mod_put_19 rfl 1 rfl ?_
  refine mv_iconst (z := 0) B d_Mod_put_20 rfl ?_
  have w6z : ([(1, (d : Nat), 0)] : List Nd).length = 1 := rfl
  have w6q : lq ≤ lq ∧ lq ≤ Q9 := ⟨Nat.le_refl _, w4q.2⟩
  have w6n : w4Y.length + (([(1, (d : Nat), 0)] : List Nd)).length ≤ N9 := by omega
  have w6e : capL (capL cap c w4Y.length) (c + w4Y.length) (([(1, (d : Nat), 0)] : List Nd)).length = capL cap c (w4Y.length + (([(1, (d : Nat), 0)] : List Nd)).length) := (capL_add cap c w4Y.length (([(1, (d : Nat), 0)] : List Nd)).length).symm
  have w6m : PL (capL cap c w4Y.length) (lq) (capL cap c (w4Y.length + (([(1, (d : Nat), 0)] : List Nd)).length)) (lq) := PL_le (capL_mono cap c (Nat.le_add_right _ _)) w6q.1
  have w6t : PL (capL cap c (w4Y.length + (([(1, (d : Nat), 0)] : List Nd)).length)) (lq) (capL cap c (apL (np + ni) ++ ([(1, ((d : Nat) : Int), 0)] : List Nd) ++ mdL 0 np ++ mdL lv ni).length) (lq) := PL_le (capL_mono cap c (hN9 ▸ w6n)) (hQ9 ▸ w6q.2)
  refine ca_Mod_63 (mc := pC (capL (capL cap c w4Y.length) (c + w4Y.length) (([(1, (d : Nat), 0)] : List Nd)).length) (lq) - pC (capL cap c w4Y.length) (lq)) (ms := pS (capL (capL cap c w4Y.length) (c + w4Y.length) (([(1, (d : Nat), 0)] : List Nd)).length) (lq) - pS (capL cap c w4Y.length) (lq)) (rm' := rM 2 (pC (capL (capL cap c w4Y.length) (c + w4Y.length) (([(1, (d : Nat), 0)] : List Nd)).length) (lq) - pC (capL cap c w4Y.length) (lq)) (pS (capL (capL cap c w4Y.length) (c + w4Y.length) (([(1, (d : Nat), 0)] : List Nd)).length) (lq) - pS (capL cap c w4Y.length) (lq)) 70) (As := [.int (iI (1)), .int (iI ((d : Nat))), .int (iI (0))]) (rest := []) B (mW_add w4C w4b.1 w4b.2.1 w4b.2.2 (k := 1) (v := (d : Nat)) (s := 0) (by omega) (by omega) (by omega) w4L) rfl rfl ⟨Nat.le_of_ble_eq_true rfl, Nat.le_of_ble_eq_true rfl⟩ w4C.1 rfl rfl (Nat.le_of_ble_eq_true rfl) d_Mod_put_21 ⟨by rw [w6e]; exact PL_c w4p w6m w6t, by rw [w6e]; exact PL_s w4p w6m w6t⟩ (fun v1 w6M ep => ?_)
  obtain ⟨e1, w6U⟩ := ep
  subst e1
  have w6U := wrP_app (lq := lq) w4W w6U
  obtain ⟨w6Y, w6h⟩ : ∃ Y : List Nd, Y = w4Y ++ (([(1, (d : Nat), 0)] : List Nd)) := ⟨_, rfl⟩
  rw [← w6h] at w6U
  have w6l : w6Y.length = w4Y.length + (([(1, (d : Nat), 0)] : List Nd)).length := by rw [w6h, List.length_append]
  obtain ⟨w6A, w6F, w6W, w6L, w6C⟩ := w6U
  rw [← w6l] at w6e w6m w6t
  have w6b : CK cap c w6Y.length := CK_of hcc hcap0 hcap (by omega)
  have w6p := w4p.tr w6m
  refine mv_widen (c2 := pC (capL cap c w6Y.length) (lq) - pC cap lq) (s2 := pS (capL cap c w6Y.length) (lq) - pS cap lq) (by rw [w6e]; exact PL_c2 w4p w6m) (by rw [w6e]; exact PL_s2 w4p w6m) ?_
  clear w6e w6m w6t w6n
  show mv_G X Q (kk V) 4 24 [(0, .ref r), (1, .int (iI ((d : Nat)))), (2, .int (iI (lv)))] [.int (iI (((c + w4Y.length : Nat) : Int)))] w6M (pC (capL cap c w6Y.length) (lq) - pC cap lq) (pS (capL cap c w6Y.length) (lq) - pS cap lq)
  have k7_9 : w6M (w6A 9) = some (iA V (100) (w6F 9)) := w6C.2.1 9 (by decide)
  have k7_10 : w6M (w6A 10) = some (iA V (100) (w6F 10)) := w6C.2.1 10 (by decide)
  refine mv_pop B d_Mod_put_24 rfl ?_
  refine mv_iconst (z := 0) B d_Mod_put_25 rfl ?_
  refine mv_istore_n (lv' := [(3, .int (iI (0))), (0, .ref r), (1, .int (iI ((d : Nat)))), (2, .int (iI (lv)))]) B d_Mod_put_26 rfl (by decide) rfl ?_
  have L27 : ∀ (fu : Nat) (i : Nat) (My1 : mv_M) (Ay1 : Nat → Nat) (Fy1 : Nat → Nat → Int), (i ≤ np) → (WR F Fy1 c (w6Y ++ mdL (0) i)) → (Fy1 12 = F 12) → (RefC V My1 r Ay1 (rN (capL cap c (w6Y ++ mdL (0) i).length) (lq)) Fy1 ((c + (w6Y ++ mdL (0) i).length : Nat) : Int) tn gn) → (np - i) < fu → mv_G X Q (kk V) 4 27 [(3, .int (iI ((i : Nat)))), (0, .ref r), (1, .int (iI ((d : Nat)))), (2, .int (iI (lv)))] [] My1 (pC (capL cap c (w6Y ++ mdL (0) i).length) (lq) - pC cap lq) (pS (capL cap c (w6Y ++ mdL (0) i).length) (lq) - pS cap lq) := by
    intro fu
    induction fu with
    | zero => intro i My1 Ay1 Fy1 hi hWl hLl hCl hm; exact absurd hm (Nat.not_lt_zero _)
    | succ fu ih27 =>
      intro i My1 Ay1 Fy1 hi hWl hLl hCl hm
      obtain ⟨Yl27, hYl27⟩ : ∃ Y : List Nd, Y = (w6Y ++ mdL (0) i) := ⟨_, rfl⟩
      rw [← hYl27] at hWl hCl
      rw [← hYl27]
      have lYl27 : Yl27.length = w6Y.length + (mdL (0) i).length := by rw [hYl27, List.length_append]
      have lz27 : (mdL (0) i).length = i := mdL_len _ _
      have hbL27 : Yl27.length ≤ N9 := by omega
      have ckL27 : CK cap c Yl27.length := CK_of hcc hcap0 hcap (by omega)
      have hqL27 : lq ≤ lq ∧ lq ≤ Q9 := by omega
      have plL27 : PL cap lq (capL cap c Yl27.length) (lq) := PL_le (capL_ge cap c Yl27.length) hqL27.1
      have k9_9 : My1 (Ay1 9) = some (iA V (100) (Fy1 9)) := hCl.2.1 9 (by decide)
      have k9_10 : My1 (Ay1 10) = some (iA V (100) (Fy1 10)) := hCl.2.1 10 (by decide)
      refine mv_iload_n B d_Mod_put_27 rfl 0 rfl ?_
      refine mv_aloadR_n B d_Mod_put_28 rfl 1 rfl ?_
      refine gf_Mod_37 B hCl.1 rfl d_Mod_put_29 ?_
      refine mv_iload_n B d_Mod_put_32 rfl 2 rfl ?_
      refine ia_ld B k9_9 (by omega) (by omega) (by omega) d_Mod_put_33 ?_
      rw [show Int.toNat ((d : Nat)) = d from by omega]
      have rr10 : R32 ((Fy1 9) d) := (hCl.R 9) _
      rw [show Fy1 9 d = (np : Nat) from (congrFun (hWl.2.1 9 (by omega) (by omega)) d).trans h9]
      refine mv_icmp_ge (tgt := 48) B d_Mod_put_34 (by decide) (by omega) (by omega) (fun c11 => ?_) (fun c11 => ?_)
      · have ei : np = i := by omega
        subst ei
        refine mv_iconst (z := 0) B d_Mod_put_48 rfl ?_
        refine mv_istore_n (lv' := [(3, .int (iI (0))), (0, .ref r), (1, .int (iI ((d : Nat)))), (2, .int (iI (lv)))]) B d_Mod_put_49 rfl (by decide) rfl ?_
        have L50 : ∀ (fu : Nat) (i2 : Nat) (My1 : mv_M) (Ay1 : Nat → Nat) (Fy1 : Nat → Nat → Int), (i2 ≤ ni) → (WR F Fy1 c (Yl27 ++ mdL (lv) i2)) → (Fy1 12 = F 12) → (RefC V My1 r Ay1 (rN (capL cap c (Yl27 ++ mdL (lv) i2).length) (lq)) Fy1 ((c + (Yl27 ++ mdL (lv) i2).length : Nat) : Int) tn gn) → (ni - i2) < fu → mv_G X Q (kk V) 4 50 [(3, .int (iI ((i2 : Nat)))), (0, .ref r), (1, .int (iI ((d : Nat)))), (2, .int (iI (lv)))] [] My1 (pC (capL cap c (Yl27 ++ mdL (lv) i2).length) (lq) - pC cap lq) (pS (capL cap c (Yl27 ++ mdL (lv) i2).length) (lq) - pS cap lq) := by
          intro fu
          induction fu with
          | zero => intro i2 My1 Ay1 Fy1 hi hWl hLl hCl hm; exact absurd hm (Nat.not_lt_zero _)
          | succ fu ih50 =>
            intro i2 My1 Ay1 Fy1 hi hWl hLl hCl hm
            obtain ⟨Yl50, hYl50⟩ : ∃ Y : List Nd, Y = (Yl27 ++ mdL (lv) i2) := ⟨_, rfl⟩
            rw [← hYl50] at hWl hCl
            rw [← hYl50]
            have lYl50 : Yl50.length = Yl27.length + (mdL (lv) i2).length := by rw [hYl50, List.length_append]
            have lz50 : (mdL (lv) i2).length = i2 := mdL_len _ _
            have hbL50 : Yl50.length ≤ N9 := by omega
            have ckL50 : CK cap c Yl50.length := CK_of hcc hcap0 hcap (by omega)
            have hqL50 : lq ≤ lq ∧ lq ≤ Q9 := by omega
            have plL50 : PL cap lq (capL cap c Yl50.length) (lq) := PL_le (capL_ge cap c Yl50.length) hqL50.1
            have k13_9 : My1 (Ay1 9) = some (iA V (100) (Fy1 9)) := hCl.2.1 9 (by decide)
            have k13_10 : My1 (Ay1 10) = some (iA V (100) (Fy1 10)) := hCl.2.1 10 (by decide)
            refine mv_iload_n B d_Mod_put_50 rfl 0 rfl ?_
            refine mv_aloadR_n B d_Mod_put_51 rfl 1 rfl ?_
            refine gf_Mod_40 B hCl.1 rfl d_Mod_put_52 ?_
            refine mv_iload_n B d_Mod_put_55 rfl 2 rfl ?_
            refine ia_ld B k13_10 (by omega) (by omega) (by omega) d_Mod_put_56 ?_
            rw [show Int.toNat ((d : Nat)) = d from by omega]
            have rr14 : R32 ((Fy1 10) d) := (hCl.R 10) _
            rw [show Fy1 10 d = (ni : Nat) from (congrFun (hWl.2.1 10 (by omega) (by omega)) d).trans h10]
            refine mv_icmp_ge (tgt := 73) B d_Mod_put_57 (by decide) (by omega) (by omega) (fun c15 => ?_) (fun c15 => ?_)
            · have ei2 : ni = i2 := by omega
              subst ei2
              have eZ : Yl50 = apL (np + ni) ++ ([(1, ((d : Nat) : Int), 0)] : List Nd) ++ mdL 0 np ++ mdL lv ni := by rw [hYl50, hYl27, w6h, w4h, hY0]; simp only [List.append_nil, List.nil_append, List.append_assoc]
              rw [hQ]
              exact mv_vret B ⟨rfl, Ay1, Fy1, by rw [← eZ]; exact hWl, hLl, by rw [← eZ]; exact hCl⟩ (by rw [eZ]; exact Nat.le_refl _) (by rw [eZ]; exact Nat.le_refl _) d_Mod_put_73
            · refine mv_aloadR_n B d_Mod_put_60 rfl 1 rfl ?_
              refine mv_iload_n B d_Mod_put_61 rfl 3 rfl ?_
              refine mv_iload_n B d_Mod_put_62 rfl 0 rfl ?_
              refine mv_iadd B d_Mod_put_63 ?_
              have w16z : ([((0 : Int), 1000000 + (lv + (i2 : Nat)), (0 : Int))] : List Nd).length = 1 := rfl
              have w16q : lq ≤ lq ∧ lq ≤ Q9 := ⟨Nat.le_refl _, hqL50.2⟩
              have w16n : Yl50.length + (([((0 : Int), 1000000 + (lv + (i2 : Nat)), (0 : Int))] : List Nd)).length ≤ N9 := by omega
              have w16e : capL (capL cap c Yl50.length) (c + Yl50.length) (([((0 : Int), 1000000 + (lv + (i2 : Nat)), (0 : Int))] : List Nd)).length = capL cap c (Yl50.length + (([((0 : Int), 1000000 + (lv + (i2 : Nat)), (0 : Int))] : List Nd)).length) := (capL_add cap c Yl50.length (([((0 : Int), 1000000 + (lv + (i2 : Nat)), (0 : Int))] : List Nd)).length).symm
              have w16m : PL (capL cap c Yl50.length) (lq) (capL cap c (Yl50.length + (([((0 : Int), 1000000 + (lv + (i2 : Nat)), (0 : Int))] : List Nd)).length)) (lq) := PL_le (capL_mono cap c (Nat.le_add_right _ _)) w16q.1
              have w16t : PL (capL cap c (Yl50.length + (([((0 : Int), 1000000 + (lv + (i2 : Nat)), (0 : Int))] : List Nd)).length)) (lq) (capL cap c (apL (np + ni) ++ ([(1, ((d : Nat) : Int), 0)] : List Nd) ++ mdL 0 np ++ mdL lv ni).length) (lq) := PL_le (capL_mono cap c (hN9 ▸ w16n)) (hQ9 ▸ w16q.2)
              refine ca_Mod_126 (mc := pC (capL (capL cap c Yl50.length) (c + Yl50.length) (([((0 : Int), 1000000 + (lv + (i2 : Nat)), (0 : Int))] : List Nd)).length) (lq) - pC (capL cap c Yl50.length) (lq)) (ms := pS (capL (capL cap c Yl50.length) (c + Yl50.length) (([((0 : Int), 1000000 + (lv + (i2 : Nat)), (0 : Int))] : List Nd)).length) (lq) - pS (capL cap c Yl50.length) (lq)) (rm' := rM 3 (pC (capL (capL cap c Yl50.length) (c + Yl50.length) (([((0 : Int), 1000000 + (lv + (i2 : Nat)), (0 : Int))] : List Nd)).length) (lq) - pC (capL cap c Yl50.length) (lq)) (pS (capL (capL cap c Yl50.length) (c + Yl50.length) (([((0 : Int), 1000000 + (lv + (i2 : Nat)), (0 : Int))] : List Nd)).length) (lq) - pS (capL cap c Yl50.length) (lq)) 100) (As := [.int (iI (lv + (i2 : Nat)))]) (rest := []) B (mW_made hCl ckL50.1 ckL50.2.1 ckL50.2.2 (v := lv + (i2 : Nat)) (by omega) hLl) rfl rfl ⟨Nat.le_of_ble_eq_true rfl, Nat.le_of_ble_eq_true rfl⟩ hCl.1 rfl rfl (Nat.le_of_ble_eq_true rfl) d_Mod_put_64 ⟨by rw [w16e]; exact PL_c plL50 w16m w16t, by rw [w16e]; exact PL_s plL50 w16m w16t⟩ (fun v1 w16M ep => ?_)
              obtain ⟨e1, w16U⟩ := ep
              subst e1
              have w16U := wrP_app (lq := lq) hWl w16U
              obtain ⟨w16Y, w16h⟩ : ∃ Y : List Nd, Y = Yl50 ++ (([((0 : Int), 1000000 + (lv + (i2 : Nat)), (0 : Int))] : List Nd)) := ⟨_, rfl⟩
              rw [← w16h] at w16U
              have w16l : w16Y.length = Yl50.length + (([((0 : Int), 1000000 + (lv + (i2 : Nat)), (0 : Int))] : List Nd)).length := by rw [w16h, List.length_append]
              obtain ⟨w16A, w16F, w16W, w16L, w16C⟩ := w16U
              rw [← w16l] at w16e w16m w16t
              have w16b : CK cap c w16Y.length := CK_of hcc hcap0 hcap (by omega)
              have w16p := plL50.tr w16m
              refine mv_widen (c2 := pC (capL cap c w16Y.length) (lq) - pC cap lq) (s2 := pS (capL cap c w16Y.length) (lq) - pS cap lq) (by rw [w16e]; exact PL_c2 plL50 w16m) (by rw [w16e]; exact PL_s2 plL50 w16m) ?_
              clear w16e w16m w16t w16n
              show mv_G X Q (kk V) 4 67 [(3, .int (iI ((i2 : Nat)))), (0, .ref r), (1, .int (iI ((d : Nat)))), (2, .int (iI (lv)))] [] w16M (pC (capL cap c w16Y.length) (lq) - pC cap lq) (pS (capL cap c w16Y.length) (lq) - pS cap lq)
              have k17_9 : w16M (w16A 9) = some (iA V (100) (w16F 9)) := w16C.2.1 9 (by decide)
              have k17_10 : w16M (w16A 10) = some (iA V (100) (w16F 10)) := w16C.2.1 10 (by decide)
              refine mv_iinc (lv' := [(3, .int (iI ((i2 : Nat) + 1))), (0, .ref r), (1, .int (iI ((d : Nat)))), (2, .int (iI (lv)))]) B d_Mod_put_67 0 rfl (by decide) rfl ?_
              refine mv_goto (tgt := 50) B d_Mod_put_70 (by decide) ?_
              have y18 : w16Y = (Yl27 ++ mdL (lv) (i2 + 1)) := by rw [w16h, hYl50]; simp only [mdL, Int.zero_add, List.append_assoc]
              rw [y18]
              refine mv_lv (lv' := [(3, .int (iI (((i2 + 1) : Nat)))), (0, .ref r), (1, .int (iI ((d : Nat)))), (2, .int (iI (lv)))]) [0, 1, 2, 3] (lc (lI (by first | rfl | omega)) (lc rfl (lc rfl (lc rfl rfl)))) ?_
              exact ih50 (i2 + 1) w16M w16A w16F (by omega) (by rw [← y18]; exact w16W) (w16L) (by rw [← y18]; exact w16C) (by omega)
        refine mv_lv (lv' := [(3, .int (iI ((0 : Nat)))), (0, .ref r), (1, .int (iI ((d : Nat)))), (2, .int (iI (lv)))]) [0, 1, 2, 3] (lc (lI (by first | rfl | omega)) (lc rfl (lc rfl (lc rfl rfl)))) ?_
        have y12 : Yl27 = (Yl27 ++ mdL (lv) 0) := (List.append_nil _).symm
        rw [y12]
        exact L50 _ 0 My1 Ay1 Fy1 (by omega) (by rw [← y12]; exact hWl) (hLl) (by rw [← y12]; exact hCl) (Nat.lt_succ_self _)
      · refine mv_aloadR_n B d_Mod_put_37 rfl 1 rfl ?_
        refine mv_iload_n B d_Mod_put_38 rfl 0 rfl ?_
        have w19z : ([((0 : Int), 1000000 + ((i : Nat)), (0 : Int))] : List Nd).length = 1 := rfl
        have w19q : lq ≤ lq ∧ lq ≤ Q9 := ⟨Nat.le_refl _, hqL27.2⟩
        have w19n : Yl27.length + (([((0 : Int), 1000000 + ((i : Nat)), (0 : Int))] : List Nd)).length ≤ N9 := by omega
        have w19e : capL (capL cap c Yl27.length) (c + Yl27.length) (([((0 : Int), 1000000 + ((i : Nat)), (0 : Int))] : List Nd)).length = capL cap c (Yl27.length + (([((0 : Int), 1000000 + ((i : Nat)), (0 : Int))] : List Nd)).length) := (capL_add cap c Yl27.length (([((0 : Int), 1000000 + ((i : Nat)), (0 : Int))] : List Nd)).length).symm
        have w19m : PL (capL cap c Yl27.length) (lq) (capL cap c (Yl27.length + (([((0 : Int), 1000000 + ((i : Nat)), (0 : Int))] : List Nd)).length)) (lq) := PL_le (capL_mono cap c (Nat.le_add_right _ _)) w19q.1
        have w19t : PL (capL cap c (Yl27.length + (([((0 : Int), 1000000 + ((i : Nat)), (0 : Int))] : List Nd)).length)) (lq) (capL cap c (apL (np + ni) ++ ([(1, ((d : Nat) : Int), 0)] : List Nd) ++ mdL 0 np ++ mdL lv ni).length) (lq) := PL_le (capL_mono cap c (hN9 ▸ w19n)) (hQ9 ▸ w19q.2)
        refine ca_Mod_126 (mc := pC (capL (capL cap c Yl27.length) (c + Yl27.length) (([((0 : Int), 1000000 + ((i : Nat)), (0 : Int))] : List Nd)).length) (lq) - pC (capL cap c Yl27.length) (lq)) (ms := pS (capL (capL cap c Yl27.length) (c + Yl27.length) (([((0 : Int), 1000000 + ((i : Nat)), (0 : Int))] : List Nd)).length) (lq) - pS (capL cap c Yl27.length) (lq)) (rm' := rM 3 (pC (capL (capL cap c Yl27.length) (c + Yl27.length) (([((0 : Int), 1000000 + ((i : Nat)), (0 : Int))] : List Nd)).length) (lq) - pC (capL cap c Yl27.length) (lq)) (pS (capL (capL cap c Yl27.length) (c + Yl27.length) (([((0 : Int), 1000000 + ((i : Nat)), (0 : Int))] : List Nd)).length) (lq) - pS (capL cap c Yl27.length) (lq)) 100) (As := [.int (iI ((i : Nat)))]) (rest := []) B (mW_made hCl ckL27.1 ckL27.2.1 ckL27.2.2 (v := (i : Nat)) (by omega) hLl) rfl rfl ⟨Nat.le_of_ble_eq_true rfl, Nat.le_of_ble_eq_true rfl⟩ hCl.1 rfl rfl (Nat.le_of_ble_eq_true rfl) d_Mod_put_39 ⟨by rw [w19e]; exact PL_c plL27 w19m w19t, by rw [w19e]; exact PL_s plL27 w19m w19t⟩ (fun v1 w19M ep => ?_)
        obtain ⟨e1, w19U⟩ := ep
        subst e1
        have w19U := wrP_app (lq := lq) hWl w19U
        obtain ⟨w19Y, w19h⟩ : ∃ Y : List Nd, Y = Yl27 ++ (([((0 : Int), 1000000 + ((i : Nat)), (0 : Int))] : List Nd)) := ⟨_, rfl⟩
        rw [← w19h] at w19U
        have w19l : w19Y.length = Yl27.length + (([((0 : Int), 1000000 + ((i : Nat)), (0 : Int))] : List Nd)).length := by rw [w19h, List.length_append]
        obtain ⟨w19A, w19F, w19W, w19L, w19C⟩ := w19U
        rw [← w19l] at w19e w19m w19t
        have w19b : CK cap c w19Y.length := CK_of hcc hcap0 hcap (by omega)
        have w19p := plL27.tr w19m
        refine mv_widen (c2 := pC (capL cap c w19Y.length) (lq) - pC cap lq) (s2 := pS (capL cap c w19Y.length) (lq) - pS cap lq) (by rw [w19e]; exact PL_c2 plL27 w19m) (by rw [w19e]; exact PL_s2 plL27 w19m) ?_
        clear w19e w19m w19t w19n
        show mv_G X Q (kk V) 4 42 [(3, .int (iI ((i : Nat)))), (0, .ref r), (1, .int (iI ((d : Nat)))), (2, .int (iI (lv)))] [] w19M (pC (capL cap c w19Y.length) (lq) - pC cap lq) (pS (capL cap c w19Y.length) (lq) - pS cap lq)
        have k20_9 : w19M (w19A 9) = some (iA V (100) (w19F 9)) := w19C.2.1 9 (by decide)
        have k20_10 : w19M (w19A 10) = some (iA V (100) (w19F 10)) := w19C.2.1 10 (by decide)
        refine mv_iinc (lv' := [(3, .int (iI ((i : Nat) + 1))), (0, .ref r), (1, .int (iI ((d : Nat)))), (2, .int (iI (lv)))]) B d_Mod_put_42 0 rfl (by decide) rfl ?_
        refine mv_goto (tgt := 27) B d_Mod_put_45 (by decide) ?_
        have y21 : w19Y = (w6Y ++ mdL (0) (i + 1)) := by rw [w19h, hYl27]; simp only [mdL, Int.zero_add, List.append_assoc]
        rw [y21]
        refine mv_lv (lv' := [(3, .int (iI (((i + 1) : Nat)))), (0, .ref r), (1, .int (iI ((d : Nat)))), (2, .int (iI (lv)))]) [0, 1, 2, 3] (lc (lI (by first | rfl | omega)) (lc rfl (lc rfl (lc rfl rfl)))) ?_
        exact ih27 (i + 1) w19M w19A w19F (by omega) (by rw [← y21]; exact w19W) (w19L) (by rw [← y21]; exact w19C) (by omega)
  refine mv_lv (lv' := [(3, .int (iI ((0 : Nat)))), (0, .ref r), (1, .int (iI ((d : Nat)))), (2, .int (iI (lv)))]) [0, 1, 2, 3] (lc (lI (by first | rfl | omega)) (lc rfl (lc rfl (lc rfl rfl)))) ?_
  have y8 : w6Y = (w6Y ++ mdL (0) 0) := (List.append_nil _).symm
  rw [y8]
  exact L27 _ 0 w6M w6A w6F (by omega) (by rw [← y8]; exact w6W) (w6L) (by rw [← y8]; exact w6C) (Nat.lt_succ_self _)
