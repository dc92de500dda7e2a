/-! Shelf, Register, Global and the constructors -/
theorem TermAt_kept {V : mv_V} {M M1 : mv_M} {h : Nat} {t : Tm} (hT : TermAt V M h t) (a : Nat) {e0 : va_E} (e : va_E) (ha : M a = some e0) (hne : ∀ n f, e0 ≠ iA V n f ∧ ∀ vs, e0 ≠ .inr (0, vs)) (hM : M1 = mv_up M a e) : TermAt V M1 h t := by
  obtain ⟨a0, a1, a2, a3, hh, h0, h1, h2, h3⟩ := hT
  subst hM
  refine ⟨a0, a1, a2, a3, ?_, ?_, ?_, ?_, ?_⟩
  · rw [mv_un (mv_ne hh ha (fun q => (hne 0 (fun _ => 0)).2 _ q.symm))]; exact hh
  · rw [mv_un (mv_ne h0 ha (fun q => (hne _ _).1 q.symm))]; exact h0
  · rw [mv_un (mv_ne h1 ha (fun q => (hne _ _).1 q.symm))]; exact h1
  · rw [mv_un (mv_ne h2 ha (fun q => (hne _ _).1 q.symm))]; exact h2
  · rw [mv_un (mv_ne h3 ha (fun q => (hne _ _).1 q.symm))]; exact h3
set_option maxRecDepth 100000 in
set_option maxHeartbeats 4000000 in
theorem m_Shelf_find {l : Launch} {V : mv_V} {M : mv_M} {sh row : Nat} {c N : Int} {f : Nat → Option Nat} (hs : M sh = some (.inr (1, [.ref row, .int (iI c), .int (iI N)]))) (hr : M row = some (tA V 1500 f)) (rc : 0 ≤ c ∧ c ≤ 1500) {i : Int} (ri : R32 i) : Met l y_Shelf_find ws_Shelf_find (rM 0 0 0 0) (mv_Pre (kk V) [.ref sh, .int (iI (i))] M) (mv_Q (kk V) (mv_R (some (va_rf (if 0 ≤ i ∧ i < c then f i.toNat else none))) M)) 0 0 V.2.2.2.2 := by
  refine mv_Met (by decide) rfl (Nat.le_of_ble_eq_true rfl) (fun X hX B => ?_)
  subst hX
  replace B : mv_B X (kk V) c_Shelf_find ws_Shelf_find "FamilyRules$Shelf" 2 (Option.some (Jvm.ClassFile.FieldType.object "FamilyRules$Term")) (rM 0 0 0 0) "find" := B
  obtain ⟨Q, hQ⟩ : ∃ Q, Q = mv_E X (kk V) (mv_R (some (va_rf (if 0 ≤ i ∧ i < c then f i.toNat else none))) M) 0 0 := ⟨_, rfl⟩
  rw [← hQ]
  show mv_G X Q (kk V) 2 0 [(0, .ref sh), (1, .int (iI (i)))] [] M 0 0
  refine mv_iload_n B d_Shelf_find_0 rfl 1 rfl ?_
  refine mv_if_lt (tgt := 30) B d_Shelf_find_1 (by decide) (by omega) (fun c1 => ?_) (fun c1 => ?_)
  · refine mv_null B d_Shelf_find_30 ?_
    rw [hQ]
    exact mv_aret B ⟨(by first | rw [if_pos (by omega)] | rw [if_neg (by omega)]), rfl⟩ (by omega) (by omega) d_Shelf_find_31
  · refine mv_iload_n B d_Shelf_find_4 rfl 1 rfl ?_
    refine mv_aloadR_n B d_Shelf_find_5 rfl 0 rfl ?_
    refine gf_Shelf_17 B hs rfl d_Shelf_find_6 ?_
    refine mv_icmp_ge (tgt := 30) B d_Shelf_find_9 (by decide) (by omega) (by omega) (fun c2 => ?_) (fun c2 => ?_)
    · refine mv_null B d_Shelf_find_30 ?_
      rw [hQ]
      exact mv_aret B ⟨(by first | rw [if_pos (by omega)] | rw [if_neg (by omega)]), rfl⟩ (by omega) (by omega) d_Shelf_find_31
    · refine mv_iload_n B d_Shelf_find_12 rfl 1 rfl ?_
      refine mv_aloadR_n B d_Shelf_find_13 rfl 0 rfl ?_
      refine gf_Shelf_11 B hs rfl d_Shelf_find_14 ?_
      refine ta_len B hr d_Shelf_find_17 ?_
      refine mv_icmp_ge (tgt := 30) B d_Shelf_find_18 (by decide) (by omega) (by omega) (fun c3 => ?_) (fun c3 => ?_)
      · omega
      · refine mv_aloadR_n B d_Shelf_find_21 rfl 0 rfl ?_
        refine gf_Shelf_11 B hs rfl d_Shelf_find_22 ?_
        refine mv_iload_n B d_Shelf_find_25 rfl 1 rfl ?_
        refine ta_ld B hr (by omega) (by omega) (by omega) d_Shelf_find_26 ?_
        refine mv_goto (tgt := 31) B d_Shelf_find_27 (by decide) ?_
        rw [hQ]
        exact mv_aret B ⟨(by first | rw [if_pos (by omega)] | rw [if_neg (by omega)]), rfl⟩ (by omega) (by omega) d_Shelf_find_31
set_option maxRecDepth 100000 in
set_option maxHeartbeats 4000000 in
theorem m_Shelf_keep {l : Launch} {V : mv_V} {M : mv_M} {sh row : Nat} {c N : Int} {f : Nat → Option Nat} (hs : M sh = some (.inr (1, [.ref row, .int (iI c), .int (iI N)]))) (hr : M row = some (tA V 1500 f)) (rc : 0 ≤ c ∧ c ≤ 1500) {h : Nat} {t : Tm} (hT : TermAt V M h t) (ho : Tok t) (hc : c < 1500) : Met l y_Shelf_keep ws_Shelf_keep (rM 1 0 0 20) (mv_Pre (kk V) [.ref sh, .ref h] M) (mv_Q (kk V) (mv_R (some (.int (iI c))) (mv_up (mv_up M row (tA V 1500 (va_up f c.toNat (some h)))) sh (.inr (1, [.ref row, .int (iI (c + 1)), .int (iI (N + (t.1 : Nat)))]))))) 0 0 V.2.2.2.2 := by
  refine mv_Met (by decide) rfl (Nat.le_of_ble_eq_true rfl) (fun X hX B => ?_)
  subst hX
  replace B : mv_B X (kk V) c_Shelf_keep ws_Shelf_keep "FamilyRules$Shelf" 2 (Option.some Jvm.ClassFile.FieldType.int) (rM 1 0 0 20) "keep" := B
  obtain ⟨Q, hQ⟩ : ∃ Q, Q = mv_E X (kk V) (mv_R (some (.int (iI c))) (mv_up (mv_up M row (tA V 1500 (va_up f c.toNat (some h)))) sh (.inr (1, [.ref row, .int (iI (c + 1)), .int (iI (N + (t.1 : Nat)))])))) 0 0 := ⟨_, rfl⟩
  rw [← hQ]
  show mv_G X Q (kk V) 2 0 [(0, .ref sh), (1, .ref h)] [] M 0 0
  obtain ⟨a0, a1, a2, a3, hh, h0, h1, h2, h3⟩ := id hT
  refine mv_aloadR_n B d_Shelf_keep_0 rfl 0 rfl ?_
  refine gf_Shelf_17 B hs rfl d_Shelf_keep_1 ?_
  refine mv_if_lt (tgt := 19) B d_Shelf_keep_4 (by decide) (by omega) (fun c1 => ?_) (fun c1 => ?_)
  · omega
  · refine mv_aloadR_n B d_Shelf_keep_7 rfl 0 rfl ?_
    refine gf_Shelf_17 B hs rfl d_Shelf_keep_8 ?_
    refine mv_aloadR_n B d_Shelf_keep_11 rfl 0 rfl ?_
    refine gf_Shelf_11 B hs rfl d_Shelf_keep_12 ?_
    refine ta_len B hr d_Shelf_keep_15 ?_
    refine mv_icmp_lt (tgt := 21) B d_Shelf_keep_16 (by decide) (by omega) (by omega) (fun c2 => ?_) (fun c2 => ?_)
    · refine mv_aloadR_n B d_Shelf_keep_21 rfl 0 rfl ?_
      refine gf_Shelf_11 B hs rfl d_Shelf_keep_22 ?_
      refine mv_aloadR_n B d_Shelf_keep_25 rfl 0 rfl ?_
      refine gf_Shelf_17 B hs rfl d_Shelf_keep_26 ?_
      refine mv_aloadR_n B d_Shelf_keep_29 rfl 1 rfl ?_
      refine ta_st B hr hh (by omega) (by omega) (by omega) d_Shelf_keep_30 ?_
      obtain ⟨M3, hM4⟩ : ∃ My : mv_M, My = mv_up M row (tA V 1500 (va_up f (Int.toNat (c)) (some (h)))) := ⟨_, rfl⟩
      rw [← hM4]
      have hf5 : M3 sh = some (.inr (1, [.ref row, .int (iI (c)), .int (iI (N))])) := by rw [hM4, mv_un (mv_ne hs hr (by simp))]; exact hs
      have hf6 : M3 row = some (tA V 1500 (va_up f (Int.toNat (c)) (some (h)))) := by rw [hM4]; exact mv_us
      have hf7 : M3 h = some (.inr (0, [.ref a0, .ref a1, .ref a2, .ref a3])) := by rw [hM4, mv_un (mv_ne hh hr (by simp))]; exact hh
      refine mv_aloadR_n B d_Shelf_keep_31 rfl 0 rfl ?_
      refine mv_dup B d_Shelf_keep_32 rfl ?_
      refine gf_Shelf_21 B hf5 rfl d_Shelf_keep_33 ?_
      refine mv_aloadR_n B d_Shelf_keep_36 rfl 1 rfl ?_
      refine ca_Shelf_27 (mc := 0) (ms := 0) (As := []) (rest := [.int (iI (N)), .ref sh]) B (m_Term_length (t := t) (TermAt_kept hT row (tA V 1500 (va_up f c.toNat (some h))) hr (by simp) hM4) ho) rfl rfl ⟨Nat.le_of_ble_eq_true rfl, Nat.le_of_ble_eq_true rfl⟩ hf7 rfl rfl (Nat.le_of_ble_eq_true rfl) d_Shelf_keep_37 ⟨by omega, by omega⟩ (mv_x ?_)
      show mv_G X Q (kk V) 2 40 [(0, .ref sh), (1, .ref h)] [.int (iI ((t.1 : Nat))), .int (iI (N)), .ref sh] M3 0 0
      refine mv_iadd B d_Shelf_keep_40 ?_
      refine pf_Shelf_21 B hf5 rfl rfl (Nat.le_of_ble_eq_true rfl) d_Shelf_keep_41 ?_
      show mv_G X Q (kk V) 2 44 [(0, .ref sh), (1, .ref h)] [] (mv_up M3 sh (.inr (1, [.ref row, .int (iI (c)), .int (iI (N + (t.1 : Nat)))]))) 0 0
      obtain ⟨M8, hM9⟩ : ∃ My : mv_M, My = mv_up M3 sh (.inr (1, [.ref row, .int (iI (c)), .int (iI (N + (t.1 : Nat)))])) := ⟨_, rfl⟩
      rw [← hM9]
      have hf10 : M8 sh = some (.inr (1, [.ref row, .int (iI (c)), .int (iI (N + (t.1 : Nat)))])) := by rw [hM9]; exact mv_us
      have hf11 : M8 row = some (tA V 1500 (va_up f (Int.toNat (c)) (some (h)))) := by rw [hM9, mv_un (mv_ne hf6 hf5 (by simp))]; exact hf6
      have hf12 : M8 h = some (.inr (0, [.ref a0, .ref a1, .ref a2, .ref a3])) := by rw [hM9, mv_un (mv_ne hf7 hf5 (by simp))]; exact hf7
      refine mv_aloadR_n B d_Shelf_keep_44 rfl 0 rfl ?_
      refine mv_dup B d_Shelf_keep_45 rfl ?_
      refine gf_Shelf_17 B hf10 rfl d_Shelf_keep_46 ?_
      refine mv_iconst (z := 1) B d_Shelf_keep_49 rfl ?_
      refine mv_iadd B d_Shelf_keep_50 ?_
      refine pf_Shelf_17 B hf10 rfl rfl (Nat.le_of_ble_eq_true rfl) d_Shelf_keep_51 ?_
      show mv_G X Q (kk V) 2 54 [(0, .ref sh), (1, .ref h)] [] (mv_up M8 sh (.inr (1, [.ref row, .int (iI (c + 1)), .int (iI (N + (t.1 : Nat)))]))) 0 0
      obtain ⟨M13, hM14⟩ : ∃ My : mv_M, My = mv_up M8 sh (.inr (1, [.ref row, .int (iI (c + 1)), .int (iI (N + (t.1 : Nat)))])) := ⟨_, rfl⟩
      rw [← hM14]
      have hf15 : M13 sh = some (.inr (1, [.ref row, .int (iI (c + 1)), .int (iI (N + (t.1 : Nat)))])) := by rw [hM14]; exact mv_us
      have hf16 : M13 row = some (tA V 1500 (va_up f (Int.toNat (c)) (some (h)))) := by rw [hM14, mv_un (mv_ne hf11 hf10 (by simp))]; exact hf11
      have hf17 : M13 h = some (.inr (0, [.ref a0, .ref a1, .ref a2, .ref a3])) := by rw [hM14, mv_un (mv_ne hf12 hf10 (by simp))]; exact hf12
      refine mv_aloadR_n B d_Shelf_keep_54 rfl 0 rfl ?_
      refine gf_Shelf_17 B hf15 rfl d_Shelf_keep_55 ?_
      refine mv_iconst (z := 1) B d_Shelf_keep_58 rfl ?_
      refine mv_isub B d_Shelf_keep_59 ?_
      rw [hQ]
      exact mv_iret B ⟨(by rw [show c + 1 - 1 = c by omega]), (by rw [hM14, hM9, hM4, mv_uu])⟩ (by omega) (by omega) d_Shelf_keep_60
    · omega
set_option maxRecDepth 100000 in
set_option maxHeartbeats 4000000 in
theorem m_Shelf_blank {l : Launch} {V : mv_V} {M : mv_M} {sh row : Nat} {c N i : Int} (hs : M sh = some (.inr (1, [.ref row, .int (iI c), .int (iI N)]))) (rc : 0 ≤ c ∧ c ≤ 1500) (rN : 0 ≤ N ∧ N ≤ 30000) (ri : R32 i) {n : Nat} (hn : n = (if 1 ≤ i ∧ i ≤ 1000 ∧ i ≤ 30000 - N ∧ c < 1500 then i.toNat else 0)) : Met l y_Shelf_blank ws_Shelf_blank (rM 2 5 (4 * n + 4) 62) (mv_Pre (kk V) [.ref sh, .int (iI (i))] M) (mv_Q (kk V) (fun v M' => (¬ (1 ≤ i ∧ i ≤ 1000 ∧ i ≤ 30000 - N ∧ c < 1500) ∧ v = some (va_rf none) ∧ M' = M) ∨ ((1 ≤ i ∧ i ≤ 1000 ∧ i ≤ 30000 - N ∧ c < 1500) ∧ ∃ (h : Nat) (q : Q4), v = some (.ref h) ∧ TmC V M' h q (n, fun _ => 0, fun _ => 0, fun _ => 0, va_up (fun _ => 0) 0 1) ∧ (∀ x e, M x = some e → M' x = some e) ∧ (∀ x e, M x = some e → x < h ∧ x < q.1 ∧ x < q.2.1 ∧ x < q.2.2.1 ∧ x < q.2.2.2)))) 5 (4 * n + 4) V.2.2.2.2 := by
  refine mv_Met (by decide) rfl (Nat.le_of_ble_eq_true rfl) (fun X hX B => ?_)
  subst hX
  replace B : mv_B X (kk V) c_Shelf_blank ws_Shelf_blank "FamilyRules$Shelf" 3 (Option.some (Jvm.ClassFile.FieldType.object "FamilyRules$Term")) (rM 2 5 (4 * n + 4) 62) "blank" := B
  obtain ⟨Q, hQ⟩ : ∃ Q, Q = mv_E X (kk V) (fun v M' => (¬ (1 ≤ i ∧ i ≤ 1000 ∧ i ≤ 30000 - N ∧ c < 1500) ∧ v = some (va_rf none) ∧ M' = M) ∨ ((1 ≤ i ∧ i ≤ 1000 ∧ i ≤ 30000 - N ∧ c < 1500) ∧ ∃ (h : Nat) (q : Q4), v = some (.ref h) ∧ TmC V M' h q (n, fun _ => 0, fun _ => 0, fun _ => 0, va_up (fun _ => 0) 0 1) ∧ (∀ x e, M x = some e → M' x = some e) ∧ (∀ x e, M x = some e → x < h ∧ x < q.1 ∧ x < q.2.1 ∧ x < q.2.2.1 ∧ x < q.2.2.2))) 5 (4 * n + 4) := ⟨_, rfl⟩
  rw [← hQ]
  show mv_G X Q (kk V) 3 0 [(0, .ref sh), (1, .int (iI (i)))] [] M 0 0
  have hrc : (rM 2 5 (4 * n + 4) 62).cells = 5 := rfl
  have hrs : (rM 2 5 (4 * n + 4) 62).slots = 4 * n + 4 := rfl
  refine mv_iload_n B d_Shelf_blank_0 rfl 1 rfl ?_
  refine mv_iconst (z := 1) B d_Shelf_blank_1 rfl ?_
  refine mv_icmp_lt (tgt := 38) B d_Shelf_blank_2 (by decide) (by omega) (by omega) (fun c1 => ?_) (fun c1 => ?_)
  · refine mv_iconst (z := 0) B d_Shelf_blank_38 rfl ?_
    refine mv_istore_n (lv' := [(2, .int (iI (0))), (0, .ref sh), (1, .int (iI (i)))]) B d_Shelf_blank_39 rfl (by decide) rfl ?_
    refine mv_iload_n B d_Shelf_blank_40 rfl 0 rfl ?_
    refine mv_if_eq (tgt := 55) B d_Shelf_blank_41 (by decide) (by omega) (fun c2 => ?_) (fun c2 => ?_)
    · refine mv_null B d_Shelf_blank_55 ?_
      rw [hQ]
      exact mv_aret B (Or.inl ⟨by omega, rfl, rfl⟩) (by omega) (by omega) d_Shelf_blank_56
    · omega
  · refine mv_iload_n B d_Shelf_blank_5 rfl 1 rfl ?_
    refine mv_sipush (z := 1000) B d_Shelf_blank_6 (by decide) ?_
    refine mv_icmp_gt (tgt := 38) B d_Shelf_blank_9 (by decide) (by omega) (by omega) (fun c3 => ?_) (fun c3 => ?_)
    · refine mv_iconst (z := 0) B d_Shelf_blank_38 rfl ?_
      refine mv_istore_n (lv' := [(2, .int (iI (0))), (0, .ref sh), (1, .int (iI (i)))]) B d_Shelf_blank_39 rfl (by decide) rfl ?_
      refine mv_iload_n B d_Shelf_blank_40 rfl 0 rfl ?_
      refine mv_if_eq (tgt := 55) B d_Shelf_blank_41 (by decide) (by omega) (fun c4 => ?_) (fun c4 => ?_)
      · refine mv_null B d_Shelf_blank_55 ?_
        rw [hQ]
        exact mv_aret B (Or.inl ⟨by omega, rfl, rfl⟩) (by omega) (by omega) d_Shelf_blank_56
      · omega
    · refine mv_iload_n B d_Shelf_blank_12 rfl 1 rfl ?_
      refine mv_sipush (z := 30000) B d_Shelf_blank_13 (by decide) ?_
      refine mv_aloadR_n B d_Shelf_blank_16 rfl 0 rfl ?_
      refine gf_Shelf_21 B hs rfl d_Shelf_blank_17 ?_
      refine mv_isub B d_Shelf_blank_20 ?_
      refine mv_icmp_gt (tgt := 38) B d_Shelf_blank_21 (by decide) (by omega) (by omega) (fun c5 => ?_) (fun c5 => ?_)
      · refine mv_iconst (z := 0) B d_Shelf_blank_38 rfl ?_
        refine mv_istore_n (lv' := [(2, .int (iI (0))), (0, .ref sh), (1, .int (iI (i)))]) B d_Shelf_blank_39 rfl (by decide) rfl ?_
        refine mv_iload_n B d_Shelf_blank_40 rfl 0 rfl ?_
        refine mv_if_eq (tgt := 55) B d_Shelf_blank_41 (by decide) (by omega) (fun c6 => ?_) (fun c6 => ?_)
        · refine mv_null B d_Shelf_blank_55 ?_
          rw [hQ]
          exact mv_aret B (Or.inl ⟨by omega, rfl, rfl⟩) (by omega) (by omega) d_Shelf_blank_56
        · omega
      · refine mv_aloadR_n B d_Shelf_blank_24 rfl 0 rfl ?_
        refine gf_Shelf_17 B hs rfl d_Shelf_blank_25 ?_
        refine mv_sipush (z := 1500) B d_Shelf_blank_28 (by decide) ?_
        refine mv_icmp_ge (tgt := 38) B d_Shelf_blank_31 (by decide) (by omega) (by omega) (fun c7 => ?_) (fun c7 => ?_)
        · refine mv_iconst (z := 0) B d_Shelf_blank_38 rfl ?_
          refine mv_istore_n (lv' := [(2, .int (iI (0))), (0, .ref sh), (1, .int (iI (i)))]) B d_Shelf_blank_39 rfl (by decide) rfl ?_
          refine mv_iload_n B d_Shelf_blank_40 rfl 0 rfl ?_
          refine mv_if_eq (tgt := 55) B d_Shelf_blank_41 (by decide) (by omega) (fun c8 => ?_) (fun c8 => ?_)
          · refine mv_null B d_Shelf_blank_55 ?_
            rw [hQ]
            exact mv_aret B (Or.inl ⟨by omega, rfl, rfl⟩) (by omega) (by omega) d_Shelf_blank_56
          · omega
        · refine mv_iconst (z := 1) B d_Shelf_blank_34 rfl ?_
          refine mv_goto (tgt := 39) B d_Shelf_blank_35 (by decide) ?_
          refine mv_istore_n (lv' := [(2, .int (iI (1))), (0, .ref sh), (1, .int (iI (i)))]) B d_Shelf_blank_39 rfl (by decide) rfl ?_
          refine mv_iload_n B d_Shelf_blank_40 rfl 0 rfl ?_
          refine mv_if_eq (tgt := 55) B d_Shelf_blank_41 (by decide) (by omega) (fun c9 => ?_) (fun c9 => ?_)
          · omega
          · have hni : i = (n : Nat) := by rw [hn, if_pos (by omega)]; omega
            have hn4 : n ≤ 1000 := by omega
            refine nc_Shelf_9 B (by omega) (by omega) d_Shelf_blank_44 (fun q10 fq11 => ?_)
            obtain ⟨M12, hM13⟩ : ∃ My : mv_M, My = mv_up M q10 (.inr (0, [va_rf (none), va_rf (none), va_rf (none), va_rf (none)])) := ⟨_, rfl⟩
            rw [← hM13]
            have hf14 : M12 sh = some (.inr (1, [.ref row, .int (iI (c)), .int (iI (N))])) := by rw [hM13, mv_un (Nat.ne_of_lt (fq11 _ _ hs))]; exact hs
            have hf15 : M12 q10 = some (.inr (0, [va_rf (none), va_rf (none), va_rf (none), va_rf (none)])) := by rw [hM13]; exact mv_us
            refine mv_dup B d_Shelf_blank_47 rfl ?_
            refine mv_iload_n B d_Shelf_blank_48 rfl 2 rfl ?_
            refine ca_Shelf_24 (mc := 4) (ms := 4 * n) (As := [.int (iI i)]) (rest := [.ref q10]) (rm' := rM 1 4 (4 * n) 40) B (by rw [hni]; exact m_Term_init hf15 ⟨by omega, by omega⟩) rfl rfl ⟨Nat.le_of_ble_eq_true rfl, Nat.le_of_ble_eq_true rfl⟩ rfl rfl (Nat.le_of_ble_eq_true rfl) d_Shelf_blank_49 ⟨by omega, by omega⟩ (fun v1 M9 ep => ?_)
            obtain ⟨e1, q4, hC9, hk9, hf9⟩ := ep
            subst e1
            show mv_G X Q (kk V) 3 52 [(2, .int (iI (1))), (0, .ref sh), (1, .int (iI (i)))] [.ref q10] M9 (0 + 1 + 4) (0 + 4 + 4 * n)
            refine mv_goto (tgt := 56) B d_Shelf_blank_52 (by decide) ?_
            rw [hQ]
            exact mv_aretR B (Or.inr ⟨by omega, q10, q4, rfl, hC9, fun x e hx => hk9 x e (by rw [hM13, mv_un (Nat.ne_of_lt (fq11 _ _ hx))]; exact hx) (Nat.ne_of_lt (fq11 _ _ hx)), fun x e hx => ⟨fq11 _ _ hx, hf9 x e (by rw [hM13, mv_un (Nat.ne_of_lt (fq11 _ _ hx))]; exact hx)⟩⟩) (by omega) (by omega) d_Shelf_blank_56
set_option maxRecDepth 100000 in
set_option maxHeartbeats 4000000 in
theorem m_Shelf_init {l : Launch} {V : mv_V} {M : mv_M} {o : Nat} (ho : M o = some (.inr (1, [va_rf none, .int (iI 0), .int (iI 0)]))) : Met l y_Shelf_init ws_Shelf_init (rM 1 1 1500 20) (mv_Pre (kk V) [.ref o] M) (mv_Q (kk V) (fun v M' => v = none ∧ ∃ row : Nat, M' o = some (.inr (1, [.ref row, .int (iI 0), .int (iI 0)])) ∧ M' row = some (tA V 1500 (fun _ => none)) ∧ (∀ x e, M x = some e → x ≠ o → M' x = some e) ∧ (∀ x e, M x = some e → x < row))) 1 1500 V.2.2.2.2 := by
  refine mv_Met (by decide) rfl (Nat.le_of_ble_eq_true rfl) (fun X hX B => ?_)
  subst hX
  replace B : mv_B X (kk V) c_Shelf_init ws_Shelf_init "FamilyRules$Shelf" 1 (Option.none : Option Jvm.ClassFile.FieldType) (rM 1 1 1500 20) "<init>" := B
  obtain ⟨Q, hQ⟩ : ∃ Q, Q = mv_E X (kk V) (fun v M' => v = none ∧ ∃ row : Nat, M' o = some (.inr (1, [.ref row, .int (iI 0), .int (iI 0)])) ∧ M' row = some (tA V 1500 (fun _ => none)) ∧ (∀ x e, M x = some e → x ≠ o → M' x = some e) ∧ (∀ x e, M x = some e → x < row)) 1 1500 := ⟨_, rfl⟩
  rw [← hQ]
  show mv_G X Q (kk V) 1 0 [(0, .ref o)] [] M 0 0
  have hrc : (rM 1 1 1500 20).cells = 1 := rfl
  have hrs : (rM 1 1 1500 20).slots = 1500 := rfl
  refine mv_aloadR_n B d_Shelf_init_0 rfl 0 rfl ?_
  refine mv_objInit B (mwc (mw_t 50 (by decide +kernel) (by decide +kernel))) (mwc (mw_t 17 (by decide +kernel) (by decide +kernel))) (mwc (mw_t 18 (by decide +kernel) (by decide +kernel))) d_Shelf_init_1 (Nat.le_of_ble_eq_true rfl) (Nat.le_of_ble_eq_true rfl) ?_
  refine mv_aloadR_n B d_Shelf_init_4 rfl 0 rfl ?_
  refine mv_sipush (z := 1500) B d_Shelf_init_5 (by decide) ?_
  refine ta_new_Shelf_9 (n := 1500) B (by omega) (by omega) (by omega) (by omega) d_Shelf_init_8 (fun q1 fq2 => ?_)
  obtain ⟨M3, hM4⟩ : ∃ My : mv_M, My = mv_up M q1 (tA V 1500 (fun _ => none)) := ⟨_, rfl⟩
  rw [← hM4]
  have hf5 : M3 o = some (.inr (1, [va_rf (none), .int (iI (0)), .int (iI (0))])) := by rw [hM4, mv_un (Nat.ne_of_lt (fq2 _ _ ho))]; exact ho
  have hf6 : M3 q1 = some (tA V 1500 (fun _ => none)) := by rw [hM4]; exact mv_us
  refine pF_Shelf_11 B hf5 rfl rfl (Nat.le_of_ble_eq_true rfl) d_Shelf_init_11 ?_
  show mv_G X Q (kk V) 1 14 [(0, .ref o)] [] (mv_up M3 o (.inr (1, [.ref q1, .int (iI (0)), .int (iI (0))]))) (0 + 1) (0 + 1500)
  obtain ⟨M7, hM8⟩ : ∃ My : mv_M, My = mv_up M3 o (.inr (1, [.ref q1, .int (iI (0)), .int (iI (0))])) := ⟨_, rfl⟩
  rw [← hM8]
  have hf9 : M7 o = some (.inr (1, [.ref q1, .int (iI (0)), .int (iI (0))])) := by rw [hM8]; exact mv_us
  have hf10 : M7 q1 = some (tA V 1500 (fun _ => none)) := by rw [hM8, mv_un (Ne.symm (Nat.ne_of_lt (fq2 _ _ ho)))]; exact hf6
  rw [hQ]
  have keep : ∀ x e, M x = some e → x ≠ o → M7 x = some e := by
    intro x e hx hne
    have hx_0 : M3 x = some e := by rw [hM4, mv_un (Nat.ne_of_lt (fq2 _ _ hx))]; exact hx
    have hx_1 : M7 x = some e := by rw [hM8, mv_un (hne)]; exact hx_0
    exact hx_1
  exact mv_vret B ⟨rfl, q1, hf9, hf10, keep, fun x e hx => fq2 _ _ hx⟩ (by omega) (by omega) d_Shelf_init_14
set_option maxRecDepth 100000 in
set_option maxHeartbeats 4000000 in
theorem m_Register_init {l : Launch} {V : mv_V} {M : mv_M} {o : Nat} (ho : M o = some (.inr (3, [va_rf none, .int (iI 0)]))) : Met l y_Register_init ws_Register_init (rM 1 1 100 20) (mv_Pre (kk V) [.ref o] M) (mv_Q (kk V) (fun v M' => v = none ∧ ∃ row : Nat, M' o = some (.inr (3, [.ref row, .int (iI 0)])) ∧ M' row = some (gA V 100 (fun _ => none)) ∧ (∀ x e, M x = some e → x ≠ o → M' x = some e) ∧ (∀ x e, M x = some e → x < row))) 1 100 V.2.2.2.2 := by
  refine mv_Met (by decide) rfl (Nat.le_of_ble_eq_true rfl) (fun X hX B => ?_)
  subst hX
  replace B : mv_B X (kk V) c_Register_init ws_Register_init "FamilyRules$Register" 1 (Option.none : Option Jvm.ClassFile.FieldType) (rM 1 1 100 20) "<init>" := B
  obtain ⟨Q, hQ⟩ : ∃ Q, Q = mv_E X (kk V) (fun v M' => v = none ∧ ∃ row : Nat, M' o = some (.inr (3, [.ref row, .int (iI 0)])) ∧ M' row = some (gA V 100 (fun _ => none)) ∧ (∀ x e, M x = some e → x ≠ o → M' x = some e) ∧ (∀ x e, M x = some e → x < row)) 1 100 := ⟨_, rfl⟩
  rw [← hQ]
  show mv_G X Q (kk V) 1 0 [(0, .ref o)] [] M 0 0
  have hrc : (rM 1 1 100 20).cells = 1 := rfl
  have hrs : (rM 1 1 100 20).slots = 100 := rfl
  refine mv_aloadR_n B d_Register_init_0 rfl 0 rfl ?_
  refine mv_objInit B (mwc (mw_t 69 (by decide +kernel) (by decide +kernel))) (mwc (mw_t 17 (by decide +kernel) (by decide +kernel))) (mwc (mw_t 18 (by decide +kernel) (by decide +kernel))) d_Register_init_1 (Nat.le_of_ble_eq_true rfl) (Nat.le_of_ble_eq_true rfl) ?_
  refine mv_aloadR_n B d_Register_init_4 rfl 0 rfl ?_
  refine mv_bipush (z := 100) B d_Register_init_5 (by decide) ?_
  refine ga_new_Register_9 (n := 100) B (by omega) (by omega) (by omega) (by omega) d_Register_init_7 (fun q1 fq2 => ?_)
  obtain ⟨M3, hM4⟩ : ∃ My : mv_M, My = mv_up M q1 (gA V 100 (fun _ => none)) := ⟨_, rfl⟩
  rw [← hM4]
  have hf5 : M3 o = some (.inr (3, [va_rf (none), .int (iI (0))])) := by rw [hM4, mv_un (Nat.ne_of_lt (fq2 _ _ ho))]; exact ho
  have hf6 : M3 q1 = some (gA V 100 (fun _ => none)) := by rw [hM4]; exact mv_us
  refine pF_Register_11 B hf5 rfl rfl (Nat.le_of_ble_eq_true rfl) d_Register_init_10 ?_
  show mv_G X Q (kk V) 1 13 [(0, .ref o)] [] (mv_up M3 o (.inr (3, [.ref q1, .int (iI (0))]))) (0 + 1) (0 + 100)
  obtain ⟨M7, hM8⟩ : ∃ My : mv_M, My = mv_up M3 o (.inr (3, [.ref q1, .int (iI (0))])) := ⟨_, rfl⟩
  rw [← hM8]
  have hf9 : M7 o = some (.inr (3, [.ref q1, .int (iI (0))])) := by rw [hM8]; exact mv_us
  have hf10 : M7 q1 = some (gA V 100 (fun _ => none)) := by rw [hM8, mv_un (Ne.symm (Nat.ne_of_lt (fq2 _ _ ho)))]; exact hf6
  rw [hQ]
  have keep : ∀ x e, M x = some e → x ≠ o → M7 x = some e := by
    intro x e hx hne
    have hx_0 : M3 x = some e := by rw [hM4, mv_un (Nat.ne_of_lt (fq2 _ _ hx))]; exact hx
    have hx_1 : M7 x = some e := by rw [hM8, mv_un (hne)]; exact hx_0
    exact hx_1
  exact mv_vret B ⟨rfl, q1, hf9, hf10, keep, fun x e hx => fq2 _ _ hx⟩ (by omega) (by omega) d_Register_init_13
set_option maxRecDepth 100000 in
set_option maxHeartbeats 4000000 in
theorem m_Reader_init {l : Launch} {V : mv_V} {M : mv_M} {o : Nat} (ho : M o = some (.inr (4, [va_rf none, va_rf none, .int (iI 0), .int (iI 0), .int (iI 0)]))) : Met l y_Reader_init ws_Reader_init (rM 1 1 1000 20) (mv_Pre (kk V) [.ref o] M) (mv_Q (kk V) (fun v M' => v = none ∧ ∃ row : Nat, M' o = some (.inr (4, [.ref row, va_rf none, .int (iI 0), .int (iI 0), .int (iI 0)])) ∧ M' row = some (iA V 1000 (fun _ => 0)) ∧ (∀ x e, M x = some e → x ≠ o → M' x = some e) ∧ (∀ x e, M x = some e → x < row))) 1 1000 V.2.2.2.2 := by
  refine mv_Met (by decide) rfl (Nat.le_of_ble_eq_true rfl) (fun X hX B => ?_)
  subst hX
  replace B : mv_B X (kk V) c_Reader_init ws_Reader_init "FamilyRules$Reader" 1 (Option.none : Option Jvm.ClassFile.FieldType) (rM 1 1 1000 20) "<init>" := B
  obtain ⟨Q, hQ⟩ : ∃ Q, Q = mv_E X (kk V) (fun v M' => v = none ∧ ∃ row : Nat, M' o = some (.inr (4, [.ref row, va_rf none, .int (iI 0), .int (iI 0), .int (iI 0)])) ∧ M' row = some (iA V 1000 (fun _ => 0)) ∧ (∀ x e, M x = some e → x ≠ o → M' x = some e) ∧ (∀ x e, M x = some e → x < row)) 1 1000 := ⟨_, rfl⟩
  rw [← hQ]
  show mv_G X Q (kk V) 1 0 [(0, .ref o)] [] M 0 0
  have hrc : (rM 1 1 1000 20).cells = 1 := rfl
  have hrs : (rM 1 1 1000 20).slots = 1000 := rfl
  refine mv_aloadR_n B d_Reader_init_0 rfl 0 rfl ?_
  refine mv_objInit B (mwc (mw_t 24 (by decide +kernel) (by decide +kernel))) (mwc (mw_t 17 (by decide +kernel) (by decide +kernel))) (mwc (mw_t 18 (by decide +kernel) (by decide +kernel))) d_Reader_init_1 (Nat.le_of_ble_eq_true rfl) (Nat.le_of_ble_eq_true rfl) ?_
  refine mv_aloadR_n B d_Reader_init_4 rfl 0 rfl ?_
  refine mv_sipush (z := 1000) B d_Reader_init_5 (by decide) ?_
  refine ia_new (n := 1000) B (mw_t 44 (by decide +kernel) (by decide +kernel)) (by omega) (by omega) (by omega) (by omega) d_Reader_init_8 (fun q1 fq2 => ?_)
  obtain ⟨M3, hM4⟩ : ∃ My : mv_M, My = mv_up M q1 (iA V 1000 (fun _ => 0)) := ⟨_, rfl⟩
  rw [← hM4]
  have hf5 : M3 o = some (.inr (4, [va_rf (none), va_rf (none), .int (iI (0)), .int (iI (0)), .int (iI (0))])) := by rw [hM4, mv_un (Nat.ne_of_lt (fq2 _ _ ho))]; exact ho
  have hf6 : M3 q1 = some (iA V 1000 (fun _ => 0)) := by rw [hM4]; exact mv_us
  refine pF_Reader_9 B hf5 rfl rfl (Nat.le_of_ble_eq_true rfl) d_Reader_init_10 ?_
  show mv_G X Q (kk V) 1 13 [(0, .ref o)] [] (mv_up M3 o (.inr (4, [.ref q1, va_rf (none), .int (iI (0)), .int (iI (0)), .int (iI (0))]))) (0 + 1) (0 + 1000)
  obtain ⟨M7, hM8⟩ : ∃ My : mv_M, My = mv_up M3 o (.inr (4, [.ref q1, va_rf (none), .int (iI (0)), .int (iI (0)), .int (iI (0))])) := ⟨_, rfl⟩
  rw [← hM8]
  have hf9 : M7 o = some (.inr (4, [.ref q1, va_rf (none), .int (iI (0)), .int (iI (0)), .int (iI (0))])) := by rw [hM8]; exact mv_us
  have hf10 : M7 q1 = some (iA V 1000 (fun _ => 0)) := by rw [hM8, mv_un (Ne.symm (Nat.ne_of_lt (fq2 _ _ ho)))]; exact hf6
  rw [hQ]
  have keep : ∀ x e, M x = some e → x ≠ o → M7 x = some e := by
    intro x e hx hne
    have hx_0 : M3 x = some e := by rw [hM4, mv_un (Nat.ne_of_lt (fq2 _ _ hx))]; exact hx
    have hx_1 : M7 x = some e := by rw [hM8, mv_un (hne)]; exact hx_0
    exact hx_1
  exact mv_vret B ⟨rfl, q1, hf9, hf10, keep, fun x e hx => fq2 _ _ hx⟩ (by omega) (by omega) d_Reader_init_13
set_option maxRecDepth 100000 in
set_option maxHeartbeats 4000000 in
theorem m_Maker_init {l : Launch} {V : mv_V} {M : mv_M} {o rd : Nat} (ho : M o = some (.inr (5, [va_rf none, va_rf none, .int (iI 0), va_rf none, .int (iI 0), .int (iI 0), .int (iI 0), .int (iI 0)]))) : Met l y_Maker_init ws_Maker_init (rM 1 0 0 20) (mv_Pre (kk V) [.ref o, .ref rd] M) (mv_Q (kk V) (mv_R none (mv_up M o (.inr (5, [.ref rd, va_rf none, .int (iI 0), va_rf none, .int (iI 0), .int (iI 0), .int (iI 0), .int (iI 0)]))))) 0 0 V.2.2.2.2 := by
  refine mv_Met (by decide) rfl (Nat.le_of_ble_eq_true rfl) (fun X hX B => ?_)
  subst hX
  replace B : mv_B X (kk V) c_Maker_init ws_Maker_init "FamilyRules$Maker" 2 (Option.none : Option Jvm.ClassFile.FieldType) (rM 1 0 0 20) "<init>" := B
  obtain ⟨Q, hQ⟩ : ∃ Q, Q = mv_E X (kk V) (mv_R none (mv_up M o (.inr (5, [.ref rd, va_rf none, .int (iI 0), va_rf none, .int (iI 0), .int (iI 0), .int (iI 0), .int (iI 0)])))) 0 0 := ⟨_, rfl⟩
  rw [← hQ]
  show mv_G X Q (kk V) 2 0 [(0, .ref o), (1, .ref rd)] [] M 0 0
  refine mv_aloadR_n B d_Maker_init_0 rfl 0 rfl ?_
  refine mv_objInit B (mwc (mw_t 84 (by decide +kernel) (by decide +kernel))) (mwc (mw_t 17 (by decide +kernel) (by decide +kernel))) (mwc (mw_t 18 (by decide +kernel) (by decide +kernel))) d_Maker_init_1 (Nat.le_of_ble_eq_true rfl) (Nat.le_of_ble_eq_true rfl) ?_
  refine mv_aloadR_n B d_Maker_init_4 rfl 0 rfl ?_
  refine mv_aloadR_n B d_Maker_init_5 rfl 1 rfl ?_
  refine pF_Maker_9 B ho rfl rfl (Nat.le_of_ble_eq_true rfl) d_Maker_init_6 ?_
  show mv_G X Q (kk V) 2 9 [(0, .ref o), (1, .ref rd)] [] (mv_up M o (.inr (5, [.ref rd, va_rf (none), .int (iI (0)), va_rf (none), .int (iI (0)), .int (iI (0)), .int (iI (0)), .int (iI (0))]))) 0 0
  obtain ⟨M1, hM2⟩ : ∃ My : mv_M, My = mv_up M o (.inr (5, [.ref rd, va_rf (none), .int (iI (0)), va_rf (none), .int (iI (0)), .int (iI (0)), .int (iI (0)), .int (iI (0))])) := ⟨_, rfl⟩
  rw [← hM2]
  have hf3 : M1 o = some (.inr (5, [.ref rd, va_rf (none), .int (iI (0)), va_rf (none), .int (iI (0)), .int (iI (0)), .int (iI (0)), .int (iI (0))])) := by rw [hM2]; exact mv_us
  rw [hQ]
  exact mv_vret B ⟨rfl, hM2⟩ (by omega) (by omega) d_Maker_init_9
set_option maxRecDepth 100000 in
set_option maxHeartbeats 4000000 in
theorem m_Global_init {l : Launch} {V : mv_V} {M : mv_M} {g : Nat} {nu ro pa ix ra : Int} (hg : M g = some (.inr (2, [.int (iI 0), .int (iI 0), .int (iI 0), .int (iI 0), .int (iI 0), va_rf none, va_rf none, va_rf none, .int (iI 0), .int (iI 0)]))) : Met l y_Global_init ws_Global_init (rM 1 0 0 20) (mv_Pre (kk V) [.ref g, .int (iI (nu)), .int (iI (ro)), .int (iI (pa)), .int (iI (ix)), .int (iI (ra))] M) (mv_Q (kk V) (mv_R none (mv_up M g (.inr (2, [.int (iI nu), .int (iI ro), .int (iI pa), .int (iI ix), .int (iI ra), va_rf none, va_rf none, va_rf none, .int (iI (-1)), .int (iI 0)]))))) 0 0 V.2.2.2.2 := by
  refine mv_Met (by decide) rfl (Nat.le_of_ble_eq_true rfl) (fun X hX B => ?_)
  subst hX
  replace B : mv_B X (kk V) c_Global_init ws_Global_init "FamilyRules$Global" 6 (Option.none : Option Jvm.ClassFile.FieldType) (rM 1 0 0 20) "<init>" := B
  obtain ⟨Q, hQ⟩ : ∃ Q, Q = mv_E X (kk V) (mv_R none (mv_up M g (.inr (2, [.int (iI nu), .int (iI ro), .int (iI pa), .int (iI ix), .int (iI ra), va_rf none, va_rf none, va_rf none, .int (iI (-1)), .int (iI 0)])))) 0 0 := ⟨_, rfl⟩
  rw [← hQ]
  show mv_G X Q (kk V) 6 0 [(0, .ref g), (1, .int (iI (nu))), (2, .int (iI (ro))), (3, .int (iI (pa))), (4, .int (iI (ix))), (5, .int (iI (ra)))] [] M 0 0
  refine mv_aloadR_n B d_Global_init_0 rfl 0 rfl ?_
  refine mv_objInit B (mwc (mw_t 226 (by decide +kernel) (by decide +kernel))) (mwc (mw_t 17 (by decide +kernel) (by decide +kernel))) (mwc (mw_t 18 (by decide +kernel) (by decide +kernel))) d_Global_init_1 (Nat.le_of_ble_eq_true rfl) (Nat.le_of_ble_eq_true rfl) ?_
  refine mv_aloadR_n B d_Global_init_4 rfl 0 rfl ?_
  refine mv_iconst (z := -1) B d_Global_init_5 rfl ?_
  refine pf_Global_9 B hg rfl rfl (Nat.le_of_ble_eq_true rfl) d_Global_init_6 ?_
  show mv_G X Q (kk V) 6 9 [(0, .ref g), (1, .int (iI (nu))), (2, .int (iI (ro))), (3, .int (iI (pa))), (4, .int (iI (ix))), (5, .int (iI (ra)))] [] (mv_up M g (.inr (2, [.int (iI (0)), .int (iI (0)), .int (iI (0)), .int (iI (0)), .int (iI (0)), va_rf (none), va_rf (none), va_rf (none), .int (iI (-1)), .int (iI (0))]))) 0 0
  obtain ⟨M1, hM2⟩ : ∃ My : mv_M, My = mv_up M g (.inr (2, [.int (iI (0)), .int (iI (0)), .int (iI (0)), .int (iI (0)), .int (iI (0)), va_rf (none), va_rf (none), va_rf (none), .int (iI (-1)), .int (iI (0))])) := ⟨_, rfl⟩
  rw [← hM2]
  have hf3 : M1 g = some (.inr (2, [.int (iI (0)), .int (iI (0)), .int (iI (0)), .int (iI (0)), .int (iI (0)), va_rf (none), va_rf (none), va_rf (none), .int (iI (-1)), .int (iI (0))])) := by rw [hM2]; exact mv_us
  refine mv_aloadR_n B d_Global_init_9 rfl 0 rfl ?_
  refine mv_iload_n B d_Global_init_10 rfl 1 rfl ?_
  refine pF_Global_15 B hf3 rfl rfl (Nat.le_of_ble_eq_true rfl) d_Global_init_11 ?_
  show mv_G X Q (kk V) 6 14 [(0, .ref g), (1, .int (iI (nu))), (2, .int (iI (ro))), (3, .int (iI (pa))), (4, .int (iI (ix))), (5, .int (iI (ra)))] [] (mv_up M1 g (.inr (2, [.int (iI (nu)), .int (iI (0)), .int (iI (0)), .int (iI (0)), .int (iI (0)), va_rf (none), va_rf (none), va_rf (none), .int (iI (-1)), .int (iI (0))]))) 0 0
  obtain ⟨M4, hM5⟩ : ∃ My : mv_M, My = mv_up M1 g (.inr (2, [.int (iI (nu)), .int (iI (0)), .int (iI (0)), .int (iI (0)), .int (iI (0)), va_rf (none), va_rf (none), va_rf (none), .int (iI (-1)), .int (iI (0))])) := ⟨_, rfl⟩
  rw [← hM5]
  have hf6 : M4 g = some (.inr (2, [.int (iI (nu)), .int (iI (0)), .int (iI (0)), .int (iI (0)), .int (iI (0)), va_rf (none), va_rf (none), va_rf (none), .int (iI (-1)), .int (iI (0))])) := by rw [hM5]; exact mv_us
  refine mv_aloadR_n B d_Global_init_14 rfl 0 rfl ?_
  refine mv_iload_n B d_Global_init_15 rfl 2 rfl ?_
  refine pF_Global_18 B hf6 rfl rfl (Nat.le_of_ble_eq_true rfl) d_Global_init_16 ?_
  show mv_G X Q (kk V) 6 19 [(0, .ref g), (1, .int (iI (nu))), (2, .int (iI (ro))), (3, .int (iI (pa))), (4, .int (iI (ix))), (5, .int (iI (ra)))] [] (mv_up M4 g (.inr (2, [.int (iI (nu)), .int (iI (ro)), .int (iI (0)), .int (iI (0)), .int (iI (0)), va_rf (none), va_rf (none), va_rf (none), .int (iI (-1)), .int (iI (0))]))) 0 0
  obtain ⟨M7, hM8⟩ : ∃ My : mv_M, My = mv_up M4 g (.inr (2, [.int (iI (nu)), .int (iI (ro)), .int (iI (0)), .int (iI (0)), .int (iI (0)), va_rf (none), va_rf (none), va_rf (none), .int (iI (-1)), .int (iI (0))])) := ⟨_, rfl⟩
  rw [← hM8]
  have hf9 : M7 g = some (.inr (2, [.int (iI (nu)), .int (iI (ro)), .int (iI (0)), .int (iI (0)), .int (iI (0)), va_rf (none), va_rf (none), va_rf (none), .int (iI (-1)), .int (iI (0))])) := by rw [hM8]; exact mv_us
  refine mv_aloadR_n B d_Global_init_19 rfl 0 rfl ?_
  refine mv_iload_n B d_Global_init_20 rfl 3 rfl ?_
  refine pF_Global_21 B hf9 rfl rfl (Nat.le_of_ble_eq_true rfl) d_Global_init_21 ?_
  show mv_G X Q (kk V) 6 24 [(0, .ref g), (1, .int (iI (nu))), (2, .int (iI (ro))), (3, .int (iI (pa))), (4, .int (iI (ix))), (5, .int (iI (ra)))] [] (mv_up M7 g (.inr (2, [.int (iI (nu)), .int (iI (ro)), .int (iI (pa)), .int (iI (0)), .int (iI (0)), va_rf (none), va_rf (none), va_rf (none), .int (iI (-1)), .int (iI (0))]))) 0 0
  obtain ⟨M10, hM11⟩ : ∃ My : mv_M, My = mv_up M7 g (.inr (2, [.int (iI (nu)), .int (iI (ro)), .int (iI (pa)), .int (iI (0)), .int (iI (0)), va_rf (none), va_rf (none), va_rf (none), .int (iI (-1)), .int (iI (0))])) := ⟨_, rfl⟩
  rw [← hM11]
  have hf12 : M10 g = some (.inr (2, [.int (iI (nu)), .int (iI (ro)), .int (iI (pa)), .int (iI (0)), .int (iI (0)), va_rf (none), va_rf (none), va_rf (none), .int (iI (-1)), .int (iI (0))])) := by rw [hM11]; exact mv_us
  refine mv_aloadR_n B d_Global_init_24 rfl 0 rfl ?_
  refine mv_iload B d_Global_init_25 4 rfl ?_
  refine pF_Global_24 B hf12 rfl rfl (Nat.le_of_ble_eq_true rfl) d_Global_init_27 ?_
  show mv_G X Q (kk V) 6 30 [(0, .ref g), (1, .int (iI (nu))), (2, .int (iI (ro))), (3, .int (iI (pa))), (4, .int (iI (ix))), (5, .int (iI (ra)))] [] (mv_up M10 g (.inr (2, [.int (iI (nu)), .int (iI (ro)), .int (iI (pa)), .int (iI (ix)), .int (iI (0)), va_rf (none), va_rf (none), va_rf (none), .int (iI (-1)), .int (iI (0))]))) 0 0
  obtain ⟨M13, hM14⟩ : ∃ My : mv_M, My = mv_up M10 g (.inr (2, [.int (iI (nu)), .int (iI (ro)), .int (iI (pa)), .int (iI (ix)), .int (iI (0)), va_rf (none), va_rf (none), va_rf (none), .int (iI (-1)), .int (iI (0))])) := ⟨_, rfl⟩
  rw [← hM14]
  have hf15 : M13 g = some (.inr (2, [.int (iI (nu)), .int (iI (ro)), .int (iI (pa)), .int (iI (ix)), .int (iI (0)), va_rf (none), va_rf (none), va_rf (none), .int (iI (-1)), .int (iI (0))])) := by rw [hM14]; exact mv_us
  refine mv_aloadR_n B d_Global_init_30 rfl 0 rfl ?_
  refine mv_iload B d_Global_init_31 5 rfl ?_
  refine pF_Global_27 B hf15 rfl rfl (Nat.le_of_ble_eq_true rfl) d_Global_init_33 ?_
  show mv_G X Q (kk V) 6 36 [(0, .ref g), (1, .int (iI (nu))), (2, .int (iI (ro))), (3, .int (iI (pa))), (4, .int (iI (ix))), (5, .int (iI (ra)))] [] (mv_up M13 g (.inr (2, [.int (iI (nu)), .int (iI (ro)), .int (iI (pa)), .int (iI (ix)), .int (iI (ra)), va_rf (none), va_rf (none), va_rf (none), .int (iI (-1)), .int (iI (0))]))) 0 0
  obtain ⟨M16, hM17⟩ : ∃ My : mv_M, My = mv_up M13 g (.inr (2, [.int (iI (nu)), .int (iI (ro)), .int (iI (pa)), .int (iI (ix)), .int (iI (ra)), va_rf (none), va_rf (none), va_rf (none), .int (iI (-1)), .int (iI (0))])) := ⟨_, rfl⟩
  rw [← hM17]
  have hf18 : M16 g = some (.inr (2, [.int (iI (nu)), .int (iI (ro)), .int (iI (pa)), .int (iI (ix)), .int (iI (ra)), va_rf (none), va_rf (none), va_rf (none), .int (iI (-1)), .int (iI (0))])) := by rw [hM17]; exact mv_us
  rw [hQ]
  exact mv_vret B ⟨rfl, (by rw [hM17, hM14, hM11, hM8, hM5, hM2, mv_uu, mv_uu, mv_uu, mv_uu, mv_uu])⟩ (by omega) (by omega) d_Global_init_36
set_option maxRecDepth 100000 in
set_option maxHeartbeats 4000000 in
theorem m_Global_constructorAt {l : Launch} {V : mv_V} {M : mv_M} {g ca n : Nat} {nu ro pa ix ra ar rc : Int} {fa tl : Option Nat} {f : Nat → Option Nat} (hg : M g = some (.inr (2, [.int (iI nu), .int (iI ro), .int (iI pa), .int (iI ix), .int (iI ra), va_rf fa, .ref ca, va_rf tl, .int (iI ar), .int (iI rc)]))) (hca : M ca = some (gA V n f)) (hn : n ≤ 100) {i : Int} (ri : R32 i) : Met l y_Global_constructorAt ws_Global_constructorAt (rM 0 0 0 0) (mv_Pre (kk V) [.ref g, .int (iI (i))] M) (mv_Q (kk V) (mv_R (some (va_rf (if 0 ≤ i ∧ i < n then f i.toNat else none))) M)) 0 0 V.2.2.2.2 := by
  refine mv_Met (by decide) rfl (Nat.le_of_ble_eq_true rfl) (fun X hX B => ?_)
  subst hX
  replace B : mv_B X (kk V) c_Global_constructorAt ws_Global_constructorAt "FamilyRules$Global" 2 (Option.some (Jvm.ClassFile.FieldType.object "FamilyRules$Global")) (rM 0 0 0 0) "constructorAt" := B
  obtain ⟨Q, hQ⟩ : ∃ Q, Q = mv_E X (kk V) (mv_R (some (va_rf (if 0 ≤ i ∧ i < n then f i.toNat else none))) M) 0 0 := ⟨_, rfl⟩
  rw [← hQ]
  show mv_G X Q (kk V) 2 0 [(0, .ref g), (1, .int (iI (i)))] [] M 0 0
  refine mv_aloadR_n B d_Global_constructorAt_0 rfl 0 rfl ?_
  refine gf_Global_30 B hg rfl d_Global_constructorAt_1 ?_
  refine mv_ifnullR (tgt := 29) B d_Global_constructorAt_4 (by decide) ?_
  refine mv_iload_n B d_Global_constructorAt_7 rfl 1 rfl ?_
  refine mv_if_lt (tgt := 29) B d_Global_constructorAt_8 (by decide) (by omega) (fun c1 => ?_) (fun c1 => ?_)
  · refine mv_null B d_Global_constructorAt_29 ?_
    rw [hQ]
    exact mv_aret B ⟨(by first | rw [if_pos (by omega)] | rw [if_neg (by omega)]), rfl⟩ (by omega) (by omega) d_Global_constructorAt_30
  · refine mv_iload_n B d_Global_constructorAt_11 rfl 1 rfl ?_
    refine mv_aloadR_n B d_Global_constructorAt_12 rfl 0 rfl ?_
    refine gf_Global_30 B hg rfl d_Global_constructorAt_13 ?_
    refine ga_len B hca d_Global_constructorAt_16 ?_
    refine mv_icmp_ge (tgt := 29) B d_Global_constructorAt_17 (by decide) (by omega) (by omega) (fun c2 => ?_) (fun c2 => ?_)
    · refine mv_null B d_Global_constructorAt_29 ?_
      rw [hQ]
      exact mv_aret B ⟨(by first | rw [if_pos (by omega)] | rw [if_neg (by omega)]), rfl⟩ (by omega) (by omega) d_Global_constructorAt_30
    · refine mv_aloadR_n B d_Global_constructorAt_20 rfl 0 rfl ?_
      refine gf_Global_30 B hg rfl d_Global_constructorAt_21 ?_
      refine mv_iload_n B d_Global_constructorAt_24 rfl 1 rfl ?_
      refine ga_ld B hca (by omega) (by omega) (by omega) d_Global_constructorAt_25 ?_
      refine mv_goto (tgt := 30) B d_Global_constructorAt_26 (by decide) ?_
      rw [hQ]
      exact mv_aret B ⟨(by first | rw [if_pos (by omega)] | rw [if_neg (by omega)]), rfl⟩ (by omega) (by omega) d_Global_constructorAt_30
set_option maxRecDepth 100000 in
set_option maxHeartbeats 4000000 in
theorem m_Register_find {l : Launch} {V : mv_V} {M : mv_M} {rg row : Nat} {c : Int} {f : Nat → Option Nat} (hr : M rg = some (.inr (3, [.ref row, .int (iI c)]))) (hw : M row = some (gA V 100 f)) (rc : 0 ≤ c ∧ c ≤ 100) {i : Int} (ri : R32 i) : Met l y_Register_find ws_Register_find (rM 0 0 0 0) (mv_Pre (kk V) [.ref rg, .int (iI (i))] M) (mv_Q (kk V) (mv_R (some (va_rf (if 0 ≤ i ∧ i < c then f i.toNat else none))) M)) 0 0 V.2.2.2.2 := by
  refine mv_Met (by decide) rfl (Nat.le_of_ble_eq_true rfl) (fun X hX B => ?_)
  subst hX
  replace B : mv_B X (kk V) c_Register_find ws_Register_find "FamilyRules$Register" 2 (Option.some (Jvm.ClassFile.FieldType.object "FamilyRules$Global")) (rM 0 0 0 0) "find" := B
  obtain ⟨Q, hQ⟩ : ∃ Q, Q = mv_E X (kk V) (mv_R (some (va_rf (if 0 ≤ i ∧ i < c then f i.toNat else none))) M) 0 0 := ⟨_, rfl⟩
  rw [← hQ]
  show mv_G X Q (kk V) 2 0 [(0, .ref rg), (1, .int (iI (i)))] [] M 0 0
  refine mv_iload_n B d_Register_find_0 rfl 1 rfl ?_
  refine mv_if_lt (tgt := 30) B d_Register_find_1 (by decide) (by omega) (fun c1 => ?_) (fun c1 => ?_)
  · refine mv_null B d_Register_find_30 ?_
    rw [hQ]
    exact mv_aret B ⟨(by first | rw [if_pos (by omega)] | rw [if_neg (by omega)]), rfl⟩ (by omega) (by omega) d_Register_find_31
  · refine mv_iload_n B d_Register_find_4 rfl 1 rfl ?_
    refine mv_aloadR_n B d_Register_find_5 rfl 0 rfl ?_
    refine gf_Register_17 B hr rfl d_Register_find_6 ?_
    refine mv_icmp_ge (tgt := 30) B d_Register_find_9 (by decide) (by omega) (by omega) (fun c2 => ?_) (fun c2 => ?_)
    · refine mv_null B d_Register_find_30 ?_
      rw [hQ]
      exact mv_aret B ⟨(by first | rw [if_pos (by omega)] | rw [if_neg (by omega)]), rfl⟩ (by omega) (by omega) d_Register_find_31
    · refine mv_iload_n B d_Register_find_12 rfl 1 rfl ?_
      refine mv_aloadR_n B d_Register_find_13 rfl 0 rfl ?_
      refine gf_Register_11 B hr rfl d_Register_find_14 ?_
      refine ga_len B hw d_Register_find_17 ?_
      refine mv_icmp_ge (tgt := 30) B d_Register_find_18 (by decide) (by omega) (by omega) (fun c3 => ?_) (fun c3 => ?_)
      · omega
      · refine mv_aloadR_n B d_Register_find_21 rfl 0 rfl ?_
        refine gf_Register_11 B hr rfl d_Register_find_22 ?_
        refine mv_iload_n B d_Register_find_25 rfl 1 rfl ?_
        refine ga_ld B hw (by omega) (by omega) (by omega) d_Register_find_26 ?_
        refine mv_goto (tgt := 31) B d_Register_find_27 (by decide) ?_
        rw [hQ]
        exact mv_aret B ⟨(by first | rw [if_pos (by omega)] | rw [if_neg (by omega)]), rfl⟩ (by omega) (by omega) d_Register_find_31
set_option maxRecDepth 100000 in
set_option maxHeartbeats 4000000 in
theorem m_Register_enter {l : Launch} {V : mv_V} {M : mv_M} {rg row : Nat} {c : Int} {f : Nat → Option Nat} (hr : M rg = some (.inr (3, [.ref row, .int (iI c)]))) (hw : M row = some (gA V 100 f)) (rc : 0 ≤ c ∧ c ≤ 100) {g : Nat} {vs : List Value} (hg : M g = some (.inr (2, vs))) (hc : c < 100) : Met l y_Register_enter ws_Register_enter (rM 0 0 0 0) (mv_Pre (kk V) [.ref rg, .ref g] M) (mv_Q (kk V) (mv_R (some (.int (iI c))) (mv_up (mv_up M row (gA V 100 (va_up f c.toNat (some g)))) rg (.inr (3, [.ref row, .int (iI (c + 1))]))))) 0 0 V.2.2.2.2 := by
  refine mv_Met (by decide) rfl (Nat.le_of_ble_eq_true rfl) (fun X hX B => ?_)
  subst hX
  replace B : mv_B X (kk V) c_Register_enter ws_Register_enter "FamilyRules$Register" 2 (Option.some Jvm.ClassFile.FieldType.int) (rM 0 0 0 0) "enter" := B
  obtain ⟨Q, hQ⟩ : ∃ Q, Q = mv_E X (kk V) (mv_R (some (.int (iI c))) (mv_up (mv_up M row (gA V 100 (va_up f c.toNat (some g)))) rg (.inr (3, [.ref row, .int (iI (c + 1))])))) 0 0 := ⟨_, rfl⟩
  rw [← hQ]
  show mv_G X Q (kk V) 2 0 [(0, .ref rg), (1, .ref g)] [] M 0 0
  refine mv_aloadR_n B d_Register_enter_0 rfl 0 rfl ?_
  refine gf_Register_17 B hr rfl d_Register_enter_1 ?_
  refine mv_if_lt (tgt := 19) B d_Register_enter_4 (by decide) (by omega) (fun c1 => ?_) (fun c1 => ?_)
  · omega
  · refine mv_aloadR_n B d_Register_enter_7 rfl 0 rfl ?_
    refine gf_Register_17 B hr rfl d_Register_enter_8 ?_
    refine mv_aloadR_n B d_Register_enter_11 rfl 0 rfl ?_
    refine gf_Register_11 B hr rfl d_Register_enter_12 ?_
    refine ga_len B hw d_Register_enter_15 ?_
    refine mv_icmp_lt (tgt := 21) B d_Register_enter_16 (by decide) (by omega) (by omega) (fun c2 => ?_) (fun c2 => ?_)
    · refine mv_aloadR_n B d_Register_enter_21 rfl 0 rfl ?_
      refine gf_Register_11 B hr rfl d_Register_enter_22 ?_
      refine mv_aloadR_n B d_Register_enter_25 rfl 0 rfl ?_
      refine gf_Register_17 B hr rfl d_Register_enter_26 ?_
      refine mv_aloadR_n B d_Register_enter_29 rfl 1 rfl ?_
      refine ga_st B hw hg (by omega) (by omega) (by omega) d_Register_enter_30 ?_
      obtain ⟨M3, hM4⟩ : ∃ My : mv_M, My = mv_up M row (gA V 100 (va_up f (Int.toNat (c)) (some (g)))) := ⟨_, rfl⟩
      rw [← hM4]
      have hf5 : M3 rg = some (.inr (3, [.ref row, .int (iI (c))])) := by rw [hM4, mv_un (mv_ne hr hw (by simp))]; exact hr
      have hf6 : M3 row = some (gA V 100 (va_up f (Int.toNat (c)) (some (g)))) := by rw [hM4]; exact mv_us
      have hf7 : M3 g = some (.inr (2, vs)) := by rw [hM4, mv_un (mv_ne hg hw (by simp))]; exact hg
      refine mv_aloadR_n B d_Register_enter_31 rfl 0 rfl ?_
      refine mv_dup B d_Register_enter_32 rfl ?_
      refine gf_Register_17 B hf5 rfl d_Register_enter_33 ?_
      refine mv_iconst (z := 1) B d_Register_enter_36 rfl ?_
      refine mv_iadd B d_Register_enter_37 ?_
      refine pf_Register_17 B hf5 rfl rfl (Nat.le_of_ble_eq_true rfl) d_Register_enter_38 ?_
      show mv_G X Q (kk V) 2 41 [(0, .ref rg), (1, .ref g)] [] (mv_up M3 rg (.inr (3, [.ref row, .int (iI (c + 1))]))) 0 0
      obtain ⟨M8, hM9⟩ : ∃ My : mv_M, My = mv_up M3 rg (.inr (3, [.ref row, .int (iI (c + 1))])) := ⟨_, rfl⟩
      rw [← hM9]
      have hf10 : M8 rg = some (.inr (3, [.ref row, .int (iI (c + 1))])) := by rw [hM9]; exact mv_us
      have hf11 : M8 row = some (gA V 100 (va_up f (Int.toNat (c)) (some (g)))) := by rw [hM9, mv_un (mv_ne hf6 hf5 (by simp))]; exact hf6
      have hf12 : M8 g = some (.inr (2, vs)) := by rw [hM9, mv_un (mv_ne hf7 hf5 (by simp))]; exact hf7
      refine mv_aloadR_n B d_Register_enter_41 rfl 0 rfl ?_
      refine gf_Register_17 B hf10 rfl d_Register_enter_42 ?_
      refine mv_iconst (z := 1) B d_Register_enter_45 rfl ?_
      refine mv_isub B d_Register_enter_46 ?_
      rw [hQ]
      exact mv_iret B ⟨(by rw [show c + 1 - 1 = c by omega]), (by rw [hM9, hM4])⟩ (by omega) (by omega) d_Register_enter_47
    · omega
