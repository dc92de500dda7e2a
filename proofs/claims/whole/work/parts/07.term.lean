/-! Term: contracts of the reads -/
set_option maxRecDepth 100000 in
set_option maxHeartbeats 4000000 in
theorem m_Term_length {l : Launch} {V : mv_V} {M : mv_M} {h : Nat} {t : Tm} (hT : TermAt V M h t) (ho : Tok t) : Met l y_Term_length ws_Term_length (rM 0 0 0 0) (mv_Pre (kk V) [.ref h] M) (mv_Q (kk V) (mv_R (some (.int (iI ((t.1 : Nat))))) M)) 0 0 V.2.2.2.2 := by
  refine mv_Met (by decide) rfl (Nat.le_of_ble_eq_true rfl) (fun X hX B => ?_)
  subst hX
  replace B : mv_B X (kk V) c_Term_length ws_Term_length "FamilyRules$Term" 1 (Option.some Jvm.ClassFile.FieldType.int) (rM 0 0 0 0) "length" := B
  obtain ⟨Q, hQ⟩ : ∃ Q, Q = mv_E X (kk V) (mv_R (some (.int (iI ((t.1 : Nat))))) M) 0 0 := ⟨_, rfl⟩
  rw [← hQ]
  show mv_G X Q (kk V) 1 0 [(0, .ref h)] [] M 0 0
  obtain ⟨a0, a1, a2, a3, hh, h0, h1, h2, h3⟩ := hT
  have hn0 := ho.1
  have hn1 := ho.2.1
  have rk := Tok_k ho
  have ru := Tok_u ho
  have rs := Tok_s ho
  have rd := Tok_d ho
  refine mv_aloadR_n B d_Term_length_0 rfl 0 rfl ?_
  refine gf_Term_15 B hh rfl d_Term_length_1 ?_
  refine ia_len B h0 d_Term_length_4 ?_
  rw [hQ]
  exact mv_iret B ⟨(by rfl), rfl⟩ (by omega) (by omega) d_Term_length_5
set_option maxRecDepth 100000 in
set_option maxHeartbeats 4000000 in
theorem m_Term_has {l : Launch} {V : mv_V} {M : mv_M} {h : Nat} {t : Tm} (hT : TermAt V M h t) (ho : Tok t) {i : Int} (ri : R32 i) : Met l y_Term_has ws_Term_has (rM 0 0 0 0) (mv_Pre (kk V) [.ref h, .int (iI (i))] M) (mv_Q (kk V) (mv_R (some (.int (iI (if 0 ≤ i ∧ i < t.1 then 1 else 0)))) M)) 0 0 V.2.2.2.2 := by
  refine mv_Met (by decide) rfl (Nat.le_of_ble_eq_true rfl) (fun X hX B => ?_)
  subst hX
  replace B : mv_B X (kk V) c_Term_has ws_Term_has "FamilyRules$Term" 2 (Option.some Jvm.ClassFile.FieldType.boolean) (rM 0 0 0 0) "has" := B
  obtain ⟨Q, hQ⟩ : ∃ Q, Q = mv_E X (kk V) (mv_R (some (.int (iI (if 0 ≤ i ∧ i < t.1 then 1 else 0)))) M) 0 0 := ⟨_, rfl⟩
  rw [← hQ]
  show mv_G X Q (kk V) 2 0 [(0, .ref h), (1, .int (iI (i)))] [] M 0 0
  obtain ⟨a0, a1, a2, a3, hh, h0, h1, h2, h3⟩ := hT
  have hn0 := ho.1
  have hn1 := ho.2.1
  have rk := Tok_k ho
  have ru := Tok_u ho
  have rs := Tok_s ho
  have rd := Tok_d ho
  refine mv_iload_n B d_Term_has_0 rfl 1 rfl ?_
  refine mv_if_lt (tgt := 17) B d_Term_has_1 (by decide) (by omega) (fun c1 => ?_) (fun c1 => ?_)
  · refine mv_iconst (z := 0) B d_Term_has_17 rfl ?_
    rw [hQ]
    exact mv_zret B rfl ⟨(by first | rfl | rw [if_pos (by omega)] | rw [if_neg (by omega)]), rfl⟩ (by omega) (by omega) d_Term_has_18
  · refine mv_iload_n B d_Term_has_4 rfl 1 rfl ?_
    refine mv_aloadR_n B d_Term_has_5 rfl 0 rfl ?_
    refine gf_Term_15 B hh rfl d_Term_has_6 ?_
    refine ia_len B h0 d_Term_has_9 ?_
    refine mv_icmp_ge (tgt := 17) B d_Term_has_10 (by decide) (by omega) (by omega) (fun c2 => ?_) (fun c2 => ?_)
    · refine mv_iconst (z := 0) B d_Term_has_17 rfl ?_
      rw [hQ]
      exact mv_zret B rfl ⟨(by first | rfl | rw [if_pos (by omega)] | rw [if_neg (by omega)]), rfl⟩ (by omega) (by omega) d_Term_has_18
    · refine mv_iconst (z := 1) B d_Term_has_13 rfl ?_
      refine mv_goto (tgt := 18) B d_Term_has_14 (by decide) ?_
      rw [hQ]
      exact mv_zret B rfl ⟨(by first | rfl | rw [if_pos (by omega)] | rw [if_neg (by omega)]), rfl⟩ (by omega) (by omega) d_Term_has_18
set_option maxRecDepth 100000 in
set_option maxHeartbeats 4000000 in
theorem m_Term_kindAt {l : Launch} {V : mv_V} {M : mv_M} {h : Nat} {t : Tm} (hT : TermAt V M h t) (ho : Tok t) {i : Int} (ri : R32 i) : Met l y_Term_kindAt ws_Term_kindAt (rM 0 0 0 0) (mv_Pre (kk V) [.ref h, .int (iI (i))] M) (mv_Q (kk V) (mv_R (some (.int (iI (kAt t i)))) M)) 0 0 V.2.2.2.2 := by
  refine mv_Met (by decide) rfl (Nat.le_of_ble_eq_true rfl) (fun X hX B => ?_)
  subst hX
  replace B : mv_B X (kk V) c_Term_kindAt ws_Term_kindAt "FamilyRules$Term" 2 (Option.some Jvm.ClassFile.FieldType.int) (rM 0 0 0 0) "kindAt" := B
  obtain ⟨Q, hQ⟩ : ∃ Q, Q = mv_E X (kk V) (mv_R (some (.int (iI (kAt t i)))) M) 0 0 := ⟨_, rfl⟩
  rw [← hQ]
  show mv_G X Q (kk V) 2 0 [(0, .ref h), (1, .int (iI (i)))] [] M 0 0
  obtain ⟨a0, a1, a2, a3, hh, h0, h1, h2, h3⟩ := hT
  have hn0 := ho.1
  have hn1 := ho.2.1
  have rk := Tok_k ho
  have ru := Tok_u ho
  have rs := Tok_s ho
  have rd := Tok_d ho
  refine mv_iload_n B d_Term_kindAt_0 rfl 1 rfl ?_
  refine mv_if_lt (tgt := 22) B d_Term_kindAt_1 (by decide) (by omega) (fun c1 => ?_) (fun c1 => ?_)
  · refine mv_iconst (z := -1) B d_Term_kindAt_22 rfl ?_
    rw [hQ]
    exact mv_iret B ⟨(by simp only [kAt]; first | rw [if_pos (by omega)] | rw [if_neg (by omega)]), rfl⟩ (by omega) (by omega) d_Term_kindAt_23
  · refine mv_iload_n B d_Term_kindAt_4 rfl 1 rfl ?_
    refine mv_aloadR_n B d_Term_kindAt_5 rfl 0 rfl ?_
    refine gf_Term_15 B hh rfl d_Term_kindAt_6 ?_
    refine ia_len B h0 d_Term_kindAt_9 ?_
    refine mv_icmp_ge (tgt := 22) B d_Term_kindAt_10 (by decide) (by omega) (by omega) (fun c2 => ?_) (fun c2 => ?_)
    · refine mv_iconst (z := -1) B d_Term_kindAt_22 rfl ?_
      rw [hQ]
      exact mv_iret B ⟨(by simp only [kAt]; first | rw [if_pos (by omega)] | rw [if_neg (by omega)]), rfl⟩ (by omega) (by omega) d_Term_kindAt_23
    · refine mv_aloadR_n B d_Term_kindAt_13 rfl 0 rfl ?_
      refine gf_Term_15 B hh rfl d_Term_kindAt_14 ?_
      refine mv_iload_n B d_Term_kindAt_17 rfl 1 rfl ?_
      refine ia_ld B h0 (by omega) (by omega) (by omega) d_Term_kindAt_18 ?_
      have rr3 : R32 (t.2.1 (Int.toNat (i))) := rk _
      refine mv_goto (tgt := 23) B d_Term_kindAt_19 (by decide) ?_
      rw [hQ]
      exact mv_iret B ⟨(by simp only [kAt]; first | rw [if_pos (by omega)] | rw [if_neg (by omega)]), rfl⟩ (by omega) (by omega) d_Term_kindAt_23
set_option maxRecDepth 100000 in
set_option maxHeartbeats 4000000 in
theorem m_Term_numberAt {l : Launch} {V : mv_V} {M : mv_M} {h : Nat} {t : Tm} (hT : TermAt V M h t) (ho : Tok t) {i : Int} (ri : R32 i) : Met l y_Term_numberAt ws_Term_numberAt (rM 0 0 0 0) (mv_Pre (kk V) [.ref h, .int (iI (i))] M) (mv_Q (kk V) (mv_R (some (.int (iI (uAt t i)))) M)) 0 0 V.2.2.2.2 := by
  refine mv_Met (by decide) rfl (Nat.le_of_ble_eq_true rfl) (fun X hX B => ?_)
  subst hX
  replace B : mv_B X (kk V) c_Term_numberAt ws_Term_numberAt "FamilyRules$Term" 2 (Option.some Jvm.ClassFile.FieldType.int) (rM 0 0 0 0) "numberAt" := B
  obtain ⟨Q, hQ⟩ : ∃ Q, Q = mv_E X (kk V) (mv_R (some (.int (iI (uAt t i)))) M) 0 0 := ⟨_, rfl⟩
  rw [← hQ]
  show mv_G X Q (kk V) 2 0 [(0, .ref h), (1, .int (iI (i)))] [] M 0 0
  obtain ⟨a0, a1, a2, a3, hh, h0, h1, h2, h3⟩ := hT
  have hn0 := ho.1
  have hn1 := ho.2.1
  have rk := Tok_k ho
  have ru := Tok_u ho
  have rs := Tok_s ho
  have rd := Tok_d ho
  refine mv_iload_n B d_Term_numberAt_0 rfl 1 rfl ?_
  refine mv_if_lt (tgt := 22) B d_Term_numberAt_1 (by decide) (by omega) (fun c1 => ?_) (fun c1 => ?_)
  · refine mv_iconst (z := -1) B d_Term_numberAt_22 rfl ?_
    rw [hQ]
    exact mv_iret B ⟨(by simp only [uAt]; first | rw [if_pos (by omega)] | rw [if_neg (by omega)]), rfl⟩ (by omega) (by omega) d_Term_numberAt_23
  · refine mv_iload_n B d_Term_numberAt_4 rfl 1 rfl ?_
    refine mv_aloadR_n B d_Term_numberAt_5 rfl 0 rfl ?_
    refine gf_Term_21 B hh rfl d_Term_numberAt_6 ?_
    refine ia_len B h1 d_Term_numberAt_9 ?_
    refine mv_icmp_ge (tgt := 22) B d_Term_numberAt_10 (by decide) (by omega) (by omega) (fun c2 => ?_) (fun c2 => ?_)
    · refine mv_iconst (z := -1) B d_Term_numberAt_22 rfl ?_
      rw [hQ]
      exact mv_iret B ⟨(by simp only [uAt]; first | rw [if_pos (by omega)] | rw [if_neg (by omega)]), rfl⟩ (by omega) (by omega) d_Term_numberAt_23
    · refine mv_aloadR_n B d_Term_numberAt_13 rfl 0 rfl ?_
      refine gf_Term_21 B hh rfl d_Term_numberAt_14 ?_
      refine mv_iload_n B d_Term_numberAt_17 rfl 1 rfl ?_
      refine ia_ld B h1 (by omega) (by omega) (by omega) d_Term_numberAt_18 ?_
      have rr3 : R32 (t.2.2.1 (Int.toNat (i))) := ru _
      refine mv_goto (tgt := 23) B d_Term_numberAt_19 (by decide) ?_
      rw [hQ]
      exact mv_iret B ⟨(by simp only [uAt]; first | rw [if_pos (by omega)] | rw [if_neg (by omega)]), rfl⟩ (by omega) (by omega) d_Term_numberAt_23
set_option maxRecDepth 100000 in
set_option maxHeartbeats 4000000 in
theorem m_Term_sortAt {l : Launch} {V : mv_V} {M : mv_M} {h : Nat} {t : Tm} (hT : TermAt V M h t) (ho : Tok t) {i : Int} (ri : R32 i) : Met l y_Term_sortAt ws_Term_sortAt (rM 0 0 0 0) (mv_Pre (kk V) [.ref h, .int (iI (i))] M) (mv_Q (kk V) (mv_R (some (.int (iI (sAt t i)))) M)) 0 0 V.2.2.2.2 := by
  refine mv_Met (by decide) rfl (Nat.le_of_ble_eq_true rfl) (fun X hX B => ?_)
  subst hX
  replace B : mv_B X (kk V) c_Term_sortAt ws_Term_sortAt "FamilyRules$Term" 2 (Option.some Jvm.ClassFile.FieldType.int) (rM 0 0 0 0) "sortAt" := B
  obtain ⟨Q, hQ⟩ : ∃ Q, Q = mv_E X (kk V) (mv_R (some (.int (iI (sAt t i)))) M) 0 0 := ⟨_, rfl⟩
  rw [← hQ]
  show mv_G X Q (kk V) 2 0 [(0, .ref h), (1, .int (iI (i)))] [] M 0 0
  obtain ⟨a0, a1, a2, a3, hh, h0, h1, h2, h3⟩ := hT
  have hn0 := ho.1
  have hn1 := ho.2.1
  have rk := Tok_k ho
  have ru := Tok_u ho
  have rs := Tok_s ho
  have rd := Tok_d ho
  refine mv_iload_n B d_Term_sortAt_0 rfl 1 rfl ?_
  refine mv_if_lt (tgt := 22) B d_Term_sortAt_1 (by decide) (by omega) (fun c1 => ?_) (fun c1 => ?_)
  · refine mv_iconst (z := -1) B d_Term_sortAt_22 rfl ?_
    rw [hQ]
    exact mv_iret B ⟨(by simp only [sAt]; first | rw [if_pos (by omega)] | rw [if_neg (by omega)]), rfl⟩ (by omega) (by omega) d_Term_sortAt_23
  · refine mv_iload_n B d_Term_sortAt_4 rfl 1 rfl ?_
    refine mv_aloadR_n B d_Term_sortAt_5 rfl 0 rfl ?_
    refine gf_Term_24 B hh rfl d_Term_sortAt_6 ?_
    refine ia_len B h2 d_Term_sortAt_9 ?_
    refine mv_icmp_ge (tgt := 22) B d_Term_sortAt_10 (by decide) (by omega) (by omega) (fun c2 => ?_) (fun c2 => ?_)
    · refine mv_iconst (z := -1) B d_Term_sortAt_22 rfl ?_
      rw [hQ]
      exact mv_iret B ⟨(by simp only [sAt]; first | rw [if_pos (by omega)] | rw [if_neg (by omega)]), rfl⟩ (by omega) (by omega) d_Term_sortAt_23
    · refine mv_aloadR_n B d_Term_sortAt_13 rfl 0 rfl ?_
      refine gf_Term_24 B hh rfl d_Term_sortAt_14 ?_
      refine mv_iload_n B d_Term_sortAt_17 rfl 1 rfl ?_
      refine ia_ld B h2 (by omega) (by omega) (by omega) d_Term_sortAt_18 ?_
      have rr3 : R32 (t.2.2.2.1 (Int.toNat (i))) := rs _
      refine mv_goto (tgt := 23) B d_Term_sortAt_19 (by decide) ?_
      rw [hQ]
      exact mv_iret B ⟨(by simp only [sAt]; first | rw [if_pos (by omega)] | rw [if_neg (by omega)]), rfl⟩ (by omega) (by omega) d_Term_sortAt_23
set_option maxRecDepth 100000 in
set_option maxHeartbeats 4000000 in
theorem m_Term_nodesAt {l : Launch} {V : mv_V} {M : mv_M} {h : Nat} {t : Tm} (hT : TermAt V M h t) (ho : Tok t) {i : Int} (ri : R32 i) : Met l y_Term_nodesAt ws_Term_nodesAt (rM 0 0 0 0) (mv_Pre (kk V) [.ref h, .int (iI (i))] M) (mv_Q (kk V) (mv_R (some (.int (iI (dAt t i)))) M)) 0 0 V.2.2.2.2 := by
  refine mv_Met (by decide) rfl (Nat.le_of_ble_eq_true rfl) (fun X hX B => ?_)
  subst hX
  replace B : mv_B X (kk V) c_Term_nodesAt ws_Term_nodesAt "FamilyRules$Term" 2 (Option.some Jvm.ClassFile.FieldType.int) (rM 0 0 0 0) "nodesAt" := B
  obtain ⟨Q, hQ⟩ : ∃ Q, Q = mv_E X (kk V) (mv_R (some (.int (iI (dAt t i)))) M) 0 0 := ⟨_, rfl⟩
  rw [← hQ]
  show mv_G X Q (kk V) 2 0 [(0, .ref h), (1, .int (iI (i)))] [] M 0 0
  obtain ⟨a0, a1, a2, a3, hh, h0, h1, h2, h3⟩ := hT
  have hn0 := ho.1
  have hn1 := ho.2.1
  have rk := Tok_k ho
  have ru := Tok_u ho
  have rs := Tok_s ho
  have rd := Tok_d ho
  refine mv_iload_n B d_Term_nodesAt_0 rfl 1 rfl ?_
  refine mv_if_lt (tgt := 22) B d_Term_nodesAt_1 (by decide) (by omega) (fun c1 => ?_) (fun c1 => ?_)
  · refine mv_iconst (z := 0) B d_Term_nodesAt_22 rfl ?_
    rw [hQ]
    exact mv_iret B ⟨(by simp only [dAt]; first | rw [if_pos (by omega)] | rw [if_neg (by omega)]), rfl⟩ (by omega) (by omega) d_Term_nodesAt_23
  · refine mv_iload_n B d_Term_nodesAt_4 rfl 1 rfl ?_
    refine mv_aloadR_n B d_Term_nodesAt_5 rfl 0 rfl ?_
    refine gf_Term_27 B hh rfl d_Term_nodesAt_6 ?_
    refine ia_len B h3 d_Term_nodesAt_9 ?_
    refine mv_icmp_ge (tgt := 22) B d_Term_nodesAt_10 (by decide) (by omega) (by omega) (fun c2 => ?_) (fun c2 => ?_)
    · refine mv_iconst (z := 0) B d_Term_nodesAt_22 rfl ?_
      rw [hQ]
      exact mv_iret B ⟨(by simp only [dAt]; first | rw [if_pos (by omega)] | rw [if_neg (by omega)]), rfl⟩ (by omega) (by omega) d_Term_nodesAt_23
    · refine mv_aloadR_n B d_Term_nodesAt_13 rfl 0 rfl ?_
      refine gf_Term_27 B hh rfl d_Term_nodesAt_14 ?_
      refine mv_iload_n B d_Term_nodesAt_17 rfl 1 rfl ?_
      refine ia_ld B h3 (by omega) (by omega) (by omega) d_Term_nodesAt_18 ?_
      have rr3 : R32 (t.2.2.2.2 (Int.toNat (i))) := rd _
      refine mv_goto (tgt := 23) B d_Term_nodesAt_19 (by decide) ?_
      rw [hQ]
      exact mv_iret B ⟨(by simp only [dAt]; first | rw [if_pos (by omega)] | rw [if_neg (by omega)]), rfl⟩ (by omega) (by omega) d_Term_nodesAt_23
set_option maxRecDepth 100000 in
set_option maxHeartbeats 4000000 in
theorem m_Term_secondOf {l : Launch} {V : mv_V} {M : mv_M} {h : Nat} {t : Tm} (hT : TermAt V M h t) (ho : Tok t) {i : Int} (ri : Sm i) : Met l y_Term_secondOf ws_Term_secondOf (rM 1 0 0 21) (mv_Pre (kk V) [.ref h, .int (iI (i))] M) (mv_Q (kk V) (mv_R (some (.int (iI (scd t i)))) M)) 0 0 V.2.2.2.2 := by
  refine mv_Met (by decide) rfl (Nat.le_of_ble_eq_true rfl) (fun X hX B => ?_)
  subst hX
  replace B : mv_B X (kk V) c_Term_secondOf ws_Term_secondOf "FamilyRules$Term" 2 (Option.some Jvm.ClassFile.FieldType.int) (rM 1 0 0 21) "secondOf" := B
  obtain ⟨Q, hQ⟩ : ∃ Q, Q = mv_E X (kk V) (mv_R (some (.int (iI (scd t i)))) M) 0 0 := ⟨_, rfl⟩
  rw [← hQ]
  show mv_G X Q (kk V) 2 0 [(0, .ref h), (1, .int (iI (i)))] [] M 0 0
  obtain ⟨a0, a1, a2, a3, hh, h0, h1, h2, h3⟩ := hT
  have hn0 := ho.1
  have hn1 := ho.2.1
  have rk := Tok_k ho
  have ru := Tok_u ho
  have rs := Tok_s ho
  have rd := Tok_d ho
  refine mv_iload_n B d_Term_secondOf_0 rfl 1 rfl ?_
  refine mv_iconst (z := 1) B d_Term_secondOf_1 rfl ?_
  refine mv_iadd B d_Term_secondOf_2 ?_
  refine mv_aloadR_n B d_Term_secondOf_3 rfl 0 rfl ?_
  refine mv_iload_n B d_Term_secondOf_4 rfl 1 rfl ?_
  refine mv_iconst (z := 1) B d_Term_secondOf_5 rfl ?_
  refine mv_iadd B d_Term_secondOf_6 ?_
  refine ca_Term_30 (mc := 0) (ms := 0) (As := [.int (iI (i + 1))]) (rest := [.int (iI (i + 1))]) B (m_Term_nodesAt ⟨a0, a1, a2, a3, hh, h0, h1, h2, h3⟩ ho (i := i + 1) (by omega)) rfl rfl ⟨Nat.le_of_ble_eq_true rfl, Nat.le_of_ble_eq_true rfl⟩ hh rfl rfl (Nat.le_of_ble_eq_true rfl) d_Term_secondOf_7 ⟨by omega, by omega⟩ (mv_x ?_)
  show mv_G X Q (kk V) 2 10 [(0, .ref h), (1, .int (iI (i)))] [.int (iI (dAt t (i + 1))), .int (iI (i + 1))] M 0 0
  refine mv_iadd B d_Term_secondOf_10 ?_
  rw [hQ]
  exact mv_iret B ⟨(by rfl), rfl⟩ (by omega) (by omega) d_Term_secondOf_11
set_option maxRecDepth 100000 in
set_option maxHeartbeats 4000000 in
theorem m_Term_behindAlls {l : Launch} {V : mv_V} {M : mv_M} {h : Nat} {t : Tm} (hT : TermAt V M h t) (ho : Tok t) {n : Int} (hc : 0 ≤ n ∧ n ≤ 10000) : Met l y_Term_behindAlls ws_Term_behindAlls (rM 2 0 0 42) (mv_Pre (kk V) [.ref h, .int (iI (n))] M) (mv_Q (kk V) (mv_R (some (.int (iI (beh t n.toNat)))) M)) 0 0 V.2.2.2.2 := by
  refine mv_Met (by decide) rfl (Nat.le_of_ble_eq_true rfl) (fun X hX B => ?_)
  subst hX
  replace B : mv_B X (kk V) c_Term_behindAlls ws_Term_behindAlls "FamilyRules$Term" 4 (Option.some Jvm.ClassFile.FieldType.int) (rM 2 0 0 42) "behindAlls" := B
  obtain ⟨Q, hQ⟩ : ∃ Q, Q = mv_E X (kk V) (mv_R (some (.int (iI (beh t n.toNat)))) M) 0 0 := ⟨_, rfl⟩
  rw [← hQ]
  show mv_G X Q (kk V) 4 0 [(0, .ref h), (1, .int (iI (n)))] [] M 0 0
  obtain ⟨a0, a1, a2, a3, hh, h0, h1, h2, h3⟩ := hT
  have hn0 := ho.1
  have hn1 := ho.2.1
  have rk := Tok_k ho
  have ru := Tok_u ho
  have rs := Tok_s ho
  have rd := Tok_d ho
  refine mv_iconst (z := 0) B d_Term_behindAlls_0 rfl ?_
  refine mv_istore_n (lv' := [(2, .int (iI (0))), (0, .ref h), (1, .int (iI (n)))]) B d_Term_behindAlls_1 rfl (by decide) rfl ?_
  refine mv_iconst (z := 0) B d_Term_behindAlls_2 rfl ?_
  refine mv_istore_n (lv' := [(3, .int (iI (0))), (2, .int (iI (0))), (0, .ref h), (1, .int (iI (n)))]) B d_Term_behindAlls_3 rfl (by decide) rfl ?_
  have L4 : ∀ (fu : Nat) (i : Nat), ((i : Int) ≤ n) → (n.toNat - i) < fu → mv_G X Q (kk V) 4 4 [(3, .int (iI (i))), (2, .int (iI (beh t i))), (0, .ref h), (1, .int (iI (n)))] [] M 0 0 := by
    intro fu
    induction fu with
    | zero => intro i hi hm; exact absurd hm (Nat.not_lt_zero _)
    | succ fu ih4 =>
      intro i hi hm
      have hb := beh_sm ho i (by omega)
      refine mv_iload_n B d_Term_behindAlls_4 rfl 0 rfl ?_
      refine mv_iload_n B d_Term_behindAlls_5 rfl 3 rfl ?_
      refine mv_icmp_ge (tgt := 21) B d_Term_behindAlls_6 (by decide) (by omega) (by omega) (fun c1 => ?_) (fun c1 => ?_)
      · refine mv_iload_n B d_Term_behindAlls_21 rfl 1 rfl ?_
        rw [hQ]
        exact mv_iret B ⟨(by rw [show i = n.toNat by omega]), rfl⟩ (by omega) (by omega) d_Term_behindAlls_22
      · refine mv_aloadR_n B d_Term_behindAlls_9 rfl 2 rfl ?_
        refine mv_iload_n B d_Term_behindAlls_10 rfl 1 rfl ?_
        refine ca_Term_34 (mc := 0) (ms := 0) (As := [.int (iI (beh t i))]) (rest := []) B (m_Term_secondOf ⟨a0, a1, a2, a3, hh, h0, h1, h2, h3⟩ ho (i := beh t i) (by omega)) rfl rfl ⟨Nat.le_of_ble_eq_true rfl, Nat.le_of_ble_eq_true rfl⟩ hh rfl rfl (Nat.le_of_ble_eq_true rfl) d_Term_behindAlls_11 ⟨by omega, by omega⟩ (mv_x ?_)
        show mv_G X Q (kk V) 4 14 [(3, .int (iI (i))), (2, .int (iI (beh t i))), (0, .ref h), (1, .int (iI (n)))] [.int (iI (scd t (beh t i)))] M 0 0
        refine mv_istore_n (lv' := [(2, .int (iI (scd t (beh t i)))), (3, .int (iI (i))), (0, .ref h), (1, .int (iI (n)))]) B d_Term_behindAlls_14 rfl (by decide) rfl ?_
        refine mv_iinc (lv' := [(3, .int (iI (i + 1))), (2, .int (iI (scd t (beh t i)))), (0, .ref h), (1, .int (iI (n)))]) B d_Term_behindAlls_15 1 rfl (by decide) rfl ?_
        refine mv_goto (tgt := 4) B d_Term_behindAlls_18 (by decide) ?_
        refine mv_lv (lv' := [(3, .int (iI ((i + 1)))), (2, .int (iI (beh t (i + 1)))), (0, .ref h), (1, .int (iI (n)))]) [0, 1, 2, 3] (lc (lI (by first | rfl | omega)) (lc (lI (by first | rfl | omega)) (lc rfl (lc rfl rfl)))) ?_
        exact ih4 (i + 1) (by omega) (by omega)
  refine mv_lv (lv' := [(3, .int (iI (0))), (2, .int (iI (beh t 0))), (0, .ref h), (1, .int (iI (n)))]) [0, 1, 2, 3] (lc rfl (lc (lI (by first | rfl | omega)) (lc rfl (lc rfl rfl)))) ?_
  exact L4 _ 0 hc.1 (Nat.lt_succ_self _)
set_option maxRecDepth 100000 in
set_option maxHeartbeats 4000000 in
theorem m_Term_countFamily {l : Launch} {V : mv_V} {M : mv_M} {h : Nat} {t : Tm} (hT : TermAt V M h t) (ho : Tok t) {g b e : Int} (rg : Sm g) (rb : Sm b) (re : Sm e) : Met l y_Term_countFamily ws_Term_countFamily (rM 1 0 0 21) (mv_Pre (kk V) [.ref h, .int (iI (g)), .int (iI (b)), .int (iI (e))] M) (mv_Q (kk V) (mv_R (some (.int (iI (cntF t g b (e - b).toNat)))) M)) 0 0 V.2.2.2.2 := by
  refine mv_Met (by decide) rfl (Nat.le_of_ble_eq_true rfl) (fun X hX B => ?_)
  subst hX
  replace B : mv_B X (kk V) c_Term_countFamily ws_Term_countFamily "FamilyRules$Term" 7 (Option.some Jvm.ClassFile.FieldType.int) (rM 1 0 0 21) "countFamily" := B
  obtain ⟨Q, hQ⟩ : ∃ Q, Q = mv_E X (kk V) (mv_R (some (.int (iI (cntF t g b (e - b).toNat)))) M) 0 0 := ⟨_, rfl⟩
  rw [← hQ]
  show mv_G X Q (kk V) 7 0 [(0, .ref h), (1, .int (iI (g))), (2, .int (iI (b))), (3, .int (iI (e)))] [] M 0 0
  obtain ⟨a0, a1, a2, a3, hh, h0, h1, h2, h3⟩ := hT
  have hn0 := ho.1
  have hn1 := ho.2.1
  have rk := Tok_k ho
  have ru := Tok_u ho
  have rs := Tok_s ho
  have rd := Tok_d ho
  refine mv_iconst (z := 0) B d_Term_countFamily_0 rfl ?_
  refine mv_istore (lv' := [(4, .int (iI (0))), (0, .ref h), (1, .int (iI (g))), (2, .int (iI (b))), (3, .int (iI (e)))]) B d_Term_countFamily_1 (by decide) rfl ?_
  refine mv_iload_n B d_Term_countFamily_3 rfl 3 rfl ?_
  refine mv_istore (lv' := [(5, .int (iI (b))), (4, .int (iI (0))), (0, .ref h), (1, .int (iI (g))), (2, .int (iI (b))), (3, .int (iI (e)))]) B d_Term_countFamily_4 (by decide) rfl ?_
  have L6 : ∀ (fu : Nat) (i : Nat), (b + i ≤ e ∨ i = 0) → ((e - b).toNat - i) < fu → mv_G X Q (kk V) 7 6 [(5, .int (iI (b + i))), (4, .int (iI (cntF t g b i))), (0, .ref h), (1, .int (iI (g))), (2, .int (iI (b))), (3, .int (iI (e)))] [] M 0 0 := by
    intro fu
    induction fu with
    | zero => intro i hi hm; exact absurd hm (Nat.not_lt_zero _)
    | succ fu ih6 =>
      intro i hi hm
      have hc1 := cntF_sm t g b i
      have hk1 := kAt_r ho (b + i)
      have hu1 := uAt_r ho (b + i)
      refine mv_iload B d_Term_countFamily_6 0 rfl ?_
      refine mv_iload_n B d_Term_countFamily_8 rfl 5 rfl ?_
      refine mv_icmp_ge (tgt := 51) B d_Term_countFamily_9 (by decide) (by omega) (by omega) (fun c1 => ?_) (fun c1 => ?_)
      · refine mv_iload B d_Term_countFamily_51 1 rfl ?_
        rw [hQ]
        exact mv_iret B ⟨(by rw [show (e - b).toNat = i by omega]), rfl⟩ (by omega) (by omega) d_Term_countFamily_53
      · refine mv_aloadR_n B d_Term_countFamily_12 rfl 2 rfl ?_
        refine mv_iload B d_Term_countFamily_13 0 rfl ?_
        refine ca_Term_47 (mc := 0) (ms := 0) (As := [.int (iI (b + i))]) (rest := []) B (m_Term_kindAt ⟨a0, a1, a2, a3, hh, h0, h1, h2, h3⟩ ho (i := b + i) (by omega)) rfl rfl ⟨Nat.le_of_ble_eq_true rfl, Nat.le_of_ble_eq_true rfl⟩ hh rfl rfl (Nat.le_of_ble_eq_true rfl) d_Term_countFamily_15 ⟨by omega, by omega⟩ (mv_x ?_)
        show mv_G X Q (kk V) 7 18 [(5, .int (iI (b + i))), (4, .int (iI (cntF t g b i))), (0, .ref h), (1, .int (iI (g))), (2, .int (iI (b))), (3, .int (iI (e)))] [.int (iI (kAt t (b + i)))] M 0 0
        refine mv_istore (lv' := [(6, .int (iI (kAt t (b + i)))), (5, .int (iI (b + i))), (4, .int (iI (cntF t g b i))), (0, .ref h), (1, .int (iI (g))), (2, .int (iI (b))), (3, .int (iI (e)))]) B d_Term_countFamily_18 (by decide) rfl ?_
        refine mv_iload B d_Term_countFamily_20 0 rfl ?_
        refine mv_iconst (z := 1) B d_Term_countFamily_22 rfl ?_
        refine mv_icmp_eq (tgt := 32) B d_Term_countFamily_23 (by decide) (by omega) (by omega) (fun c2 => ?_) (fun c2 => ?_)
        · refine mv_aloadR_n B d_Term_countFamily_32 rfl 3 rfl ?_
          refine mv_iload B d_Term_countFamily_33 1 rfl ?_
          refine ca_Term_50 (mc := 0) (ms := 0) (As := [.int (iI (b + i))]) (rest := []) B (m_Term_numberAt ⟨a0, a1, a2, a3, hh, h0, h1, h2, h3⟩ ho (i := b + i) (by omega)) rfl rfl ⟨Nat.le_of_ble_eq_true rfl, Nat.le_of_ble_eq_true rfl⟩ hh rfl rfl (Nat.le_of_ble_eq_true rfl) d_Term_countFamily_35 ⟨by omega, by omega⟩ (mv_x ?_)
          show mv_G X Q (kk V) 7 38 [(6, .int (iI (kAt t (b + i)))), (5, .int (iI (b + i))), (4, .int (iI (cntF t g b i))), (0, .ref h), (1, .int (iI (g))), (2, .int (iI (b))), (3, .int (iI (e)))] [.int (iI (uAt t (b + i)))] M 0 0
          refine mv_iload_n B d_Term_countFamily_38 rfl 4 rfl ?_
          refine mv_icmp_ne (tgt := 45) B d_Term_countFamily_39 (by decide) (by omega) (by omega) (fun c3 => ?_) (fun c3 => ?_)
          · refine mv_iinc (lv' := [(5, .int (iI ((b + i) + 1))), (6, .int (iI (kAt t (b + i)))), (4, .int (iI (cntF t g b i))), (0, .ref h), (1, .int (iI (g))), (2, .int (iI (b))), (3, .int (iI (e)))]) B d_Term_countFamily_45 1 rfl (by decide) rfl ?_
            refine mv_goto (tgt := 6) B d_Term_countFamily_48 (by decide) ?_
            refine mv_lv (lv' := [(5, .int (iI (b + (i + 1)))), (4, .int (iI (cntF t g b (i + 1)))), (0, .ref h), (1, .int (iI (g))), (2, .int (iI (b))), (3, .int (iI (e)))]) [0, 2, 3, 4, 5, 6] (lc (lI (by first | rfl | omega)) (lc (lI (by simp only [cntF]; first | (rw [if_pos (by omega)]; done) | (rw [if_neg (by omega)]; omega))) (lc rfl (lc rfl (lc rfl (lc rfl rfl)))))) ?_
            exact ih6 (i + 1) (Or.inl (by omega)) (by omega)
          · refine mv_iinc (lv' := [(4, .int (iI ((cntF t g b i) + 1))), (6, .int (iI (kAt t (b + i)))), (5, .int (iI (b + i))), (0, .ref h), (1, .int (iI (g))), (2, .int (iI (b))), (3, .int (iI (e)))]) B d_Term_countFamily_42 2 rfl (by decide) rfl ?_
            refine mv_iinc (lv' := [(5, .int (iI ((b + i) + 1))), (4, .int (iI ((cntF t g b i) + 1))), (6, .int (iI (kAt t (b + i)))), (0, .ref h), (1, .int (iI (g))), (2, .int (iI (b))), (3, .int (iI (e)))]) B d_Term_countFamily_45 2 rfl (by decide) rfl ?_
            refine mv_goto (tgt := 6) B d_Term_countFamily_48 (by decide) ?_
            refine mv_lv (lv' := [(5, .int (iI (b + (i + 1)))), (4, .int (iI (cntF t g b (i + 1)))), (0, .ref h), (1, .int (iI (g))), (2, .int (iI (b))), (3, .int (iI (e)))]) [0, 1, 3, 4, 5, 6] (lc (lI (by first | rfl | omega)) (lc (lI (by simp only [cntF]; first | (rw [if_pos (by omega)]; done) | (rw [if_neg (by omega)]; omega))) (lc rfl (lc rfl (lc rfl (lc rfl rfl)))))) ?_
            exact ih6 (i + 1) (Or.inl (by omega)) (by omega)
        · refine mv_iload B d_Term_countFamily_26 0 rfl ?_
          refine mv_iconst (z := 3) B d_Term_countFamily_28 rfl ?_
          refine mv_icmp_ne (tgt := 45) B d_Term_countFamily_29 (by decide) (by omega) (by omega) (fun c4 => ?_) (fun c4 => ?_)
          · refine mv_iinc (lv' := [(5, .int (iI ((b + i) + 1))), (6, .int (iI (kAt t (b + i)))), (4, .int (iI (cntF t g b i))), (0, .ref h), (1, .int (iI (g))), (2, .int (iI (b))), (3, .int (iI (e)))]) B d_Term_countFamily_45 1 rfl (by decide) rfl ?_
            refine mv_goto (tgt := 6) B d_Term_countFamily_48 (by decide) ?_
            refine mv_lv (lv' := [(5, .int (iI (b + (i + 1)))), (4, .int (iI (cntF t g b (i + 1)))), (0, .ref h), (1, .int (iI (g))), (2, .int (iI (b))), (3, .int (iI (e)))]) [0, 2, 3, 4, 5, 6] (lc (lI (by first | rfl | omega)) (lc (lI (by simp only [cntF]; first | (rw [if_pos (by omega)]; done) | (rw [if_neg (by omega)]; omega))) (lc rfl (lc rfl (lc rfl (lc rfl rfl)))))) ?_
            exact ih6 (i + 1) (Or.inl (by omega)) (by omega)
          · refine mv_aloadR_n B d_Term_countFamily_32 rfl 3 rfl ?_
            refine mv_iload B d_Term_countFamily_33 1 rfl ?_
            refine ca_Term_50 (mc := 0) (ms := 0) (As := [.int (iI (b + i))]) (rest := []) B (m_Term_numberAt ⟨a0, a1, a2, a3, hh, h0, h1, h2, h3⟩ ho (i := b + i) (by omega)) rfl rfl ⟨Nat.le_of_ble_eq_true rfl, Nat.le_of_ble_eq_true rfl⟩ hh rfl rfl (Nat.le_of_ble_eq_true rfl) d_Term_countFamily_35 ⟨by omega, by omega⟩ (mv_x ?_)
            show mv_G X Q (kk V) 7 38 [(6, .int (iI (kAt t (b + i)))), (5, .int (iI (b + i))), (4, .int (iI (cntF t g b i))), (0, .ref h), (1, .int (iI (g))), (2, .int (iI (b))), (3, .int (iI (e)))] [.int (iI (uAt t (b + i)))] M 0 0
            refine mv_iload_n B d_Term_countFamily_38 rfl 4 rfl ?_
            refine mv_icmp_ne (tgt := 45) B d_Term_countFamily_39 (by decide) (by omega) (by omega) (fun c5 => ?_) (fun c5 => ?_)
            · refine mv_iinc (lv' := [(5, .int (iI ((b + i) + 1))), (6, .int (iI (kAt t (b + i)))), (4, .int (iI (cntF t g b i))), (0, .ref h), (1, .int (iI (g))), (2, .int (iI (b))), (3, .int (iI (e)))]) B d_Term_countFamily_45 1 rfl (by decide) rfl ?_
              refine mv_goto (tgt := 6) B d_Term_countFamily_48 (by decide) ?_
              refine mv_lv (lv' := [(5, .int (iI (b + (i + 1)))), (4, .int (iI (cntF t g b (i + 1)))), (0, .ref h), (1, .int (iI (g))), (2, .int (iI (b))), (3, .int (iI (e)))]) [0, 2, 3, 4, 5, 6] (lc (lI (by first | rfl | omega)) (lc (lI (by simp only [cntF]; first | (rw [if_pos (by omega)]; done) | (rw [if_neg (by omega)]; omega))) (lc rfl (lc rfl (lc rfl (lc rfl rfl)))))) ?_
              exact ih6 (i + 1) (Or.inl (by omega)) (by omega)
            · refine mv_iinc (lv' := [(4, .int (iI ((cntF t g b i) + 1))), (6, .int (iI (kAt t (b + i)))), (5, .int (iI (b + i))), (0, .ref h), (1, .int (iI (g))), (2, .int (iI (b))), (3, .int (iI (e)))]) B d_Term_countFamily_42 2 rfl (by decide) rfl ?_
              refine mv_iinc (lv' := [(5, .int (iI ((b + i) + 1))), (4, .int (iI ((cntF t g b i) + 1))), (6, .int (iI (kAt t (b + i)))), (0, .ref h), (1, .int (iI (g))), (2, .int (iI (b))), (3, .int (iI (e)))]) B d_Term_countFamily_45 2 rfl (by decide) rfl ?_
              refine mv_goto (tgt := 6) B d_Term_countFamily_48 (by decide) ?_
              refine mv_lv (lv' := [(5, .int (iI (b + (i + 1)))), (4, .int (iI (cntF t g b (i + 1)))), (0, .ref h), (1, .int (iI (g))), (2, .int (iI (b))), (3, .int (iI (e)))]) [0, 1, 3, 4, 5, 6] (lc (lI (by first | rfl | omega)) (lc (lI (by simp only [cntF]; first | (rw [if_pos (by omega)]; done) | (rw [if_neg (by omega)]; omega))) (lc rfl (lc rfl (lc rfl (lc rfl rfl)))))) ?_
              exact ih6 (i + 1) (Or.inl (by omega)) (by omega)
  refine mv_lv (lv' := [(5, .int (iI (b + 0))), (4, .int (iI (cntF t g b 0))), (0, .ref h), (1, .int (iI (g))), (2, .int (iI (b))), (3, .int (iI (e)))]) [0, 1, 2, 3, 4, 5] (lc (lI (by first | rfl | omega)) (lc (lI (by first | rfl | omega)) (lc rfl (lc rfl (lc rfl (lc rfl rfl)))))) ?_
  exact L6 _ 0 (Or.inr rfl) (Nat.lt_succ_self _)
