/-! Register.addAxiom -/
set_option maxRecDepth 100000 in
set_option maxHeartbeats 4000000 in
theorem m_Register_addAxiom {l : Launch} {V : mv_V} {M : mv_M} {rg row : Nat} {c : Int} {f : Nat → Option Nat} (hr : M rg = some (.inr (3, [.ref row, .int (iI c)]))) (hw : M row = some (gA V 100 f)) (rc : 0 ≤ c ∧ c ≤ 100) : Met l y_Register_addAxiom ws_Register_addAxiom (rM 2 1 10 50) (mv_Pre (kk V) [.ref rg] M) (mv_Q (kk V) (fun z0 M' => (100 ≤ c ∧ z0 = some (.int (iI (-1))) ∧ M' = M) ∨ (c < 100 ∧ z0 = some (.int (iI c)) ∧ ∃ g : Nat, (∀ x e, M x = some e → x < g) ∧ M' = mv_up (mv_up (mv_up M g (.inr (2, [.int (iI c), .int (iI 0), .int (iI 0), .int (iI 0), .int (iI 0), va_rf none, va_rf none, va_rf none, .int (iI (-1)), .int (iI 0)]))) row (gA V 100 (va_up f c.toNat (some g)))) rg (.inr (3, [.ref row, .int (iI (c + 1))]))))) 1 10 V.2.2.2.2 := by
  refine mv_Met (by decide) rfl (Nat.le_of_ble_eq_true rfl) (fun X hX B => ?_)
  subst hX
  replace B : mv_B X (kk V) c_Register_addAxiom ws_Register_addAxiom "FamilyRules$Register" 1 (Option.some Jvm.ClassFile.FieldType.int) (rM 2 1 10 50) "addAxiom" := B
  obtain ⟨Q, hQ⟩ : ∃ Q, Q = mv_E X (kk V) (fun z0 M' => (100 ≤ c ∧ z0 = some (.int (iI (-1))) ∧ M' = M) ∨ (c < 100 ∧ z0 = some (.int (iI c)) ∧ ∃ g : Nat, (∀ x e, M x = some e → x < g) ∧ M' = mv_up (mv_up (mv_up M g (.inr (2, [.int (iI c), .int (iI 0), .int (iI 0), .int (iI 0), .int (iI 0), va_rf none, va_rf none, va_rf none, .int (iI (-1)), .int (iI 0)]))) row (gA V 100 (va_up f c.toNat (some g)))) rg (.inr (3, [.ref row, .int (iI (c + 1))])))) 1 10 := ⟨_, rfl⟩
  rw [← hQ]
  show mv_G X Q (kk V) 1 0 [(0, .ref rg)] [] M 0 0
  have hrc : (rM 2 1 10 50).cells = 1 := rfl
  have hrs : (rM 2 1 10 50).slots = 10 := rfl
  refine mv_aloadR_n B d_Register_addAxiom_0 rfl 0 rfl ?_
  refine gf_Register_17 B hr rfl d_Register_addAxiom_1 ?_
  refine mv_bipush (z := 100) B d_Register_addAxiom_4 (by decide) ?_
  refine mv_icmp_ge (tgt := 31) B d_Register_addAxiom_6 (by decide) (by omega) (by omega) (fun c1 => ?_) (fun c1 => ?_)
  · refine mv_iconst (z := -1) B d_Register_addAxiom_31 rfl ?_
    rw [hQ]
    exact mv_iret B (Or.inl ⟨by omega, rfl, rfl⟩) (by omega) (by omega) d_Register_addAxiom_32
  · refine mv_aloadR_n B d_Register_addAxiom_9 rfl 0 rfl ?_
    refine nc_Register_9 B (by omega) (by omega) d_Register_addAxiom_10 (fun q2 fq3 => ?_)
    obtain ⟨M4, hM5⟩ : ∃ My : mv_M, My = mv_up M q2 (.inr (2, [.int (iI (0)), .int (iI (0)), .int (iI (0)), .int (iI (0)), .int (iI (0)), va_rf (none), va_rf (none), va_rf (none), .int (iI (0)), .int (iI (0))])) := ⟨_, rfl⟩
    rw [← hM5]
    have hf6 : M4 rg = some (.inr (3, [.ref row, .int (iI (c))])) := by rw [hM5, mv_un (Nat.ne_of_lt (fq3 _ _ hr))]; exact hr
    have hf7 : M4 row = some (gA V 100 f) := by rw [hM5, mv_un (Nat.ne_of_lt (fq3 _ _ hw))]; exact hw
    have hf8 : M4 q2 = some (.inr (2, [.int (iI (0)), .int (iI (0)), .int (iI (0)), .int (iI (0)), .int (iI (0)), va_rf (none), va_rf (none), va_rf (none), .int (iI (0)), .int (iI (0))])) := by rw [hM5]; exact mv_us
    refine mv_dup B d_Register_addAxiom_13 rfl ?_
    refine mv_aloadR_n B d_Register_addAxiom_14 rfl 0 rfl ?_
    refine gf_Register_17 B hf6 rfl d_Register_addAxiom_15 ?_
    refine mv_iconst (z := 0) B d_Register_addAxiom_18 rfl ?_
    refine mv_iconst (z := 0) B d_Register_addAxiom_19 rfl ?_
    refine mv_iconst (z := 0) B d_Register_addAxiom_20 rfl ?_
    refine mv_iconst (z := 0) B d_Register_addAxiom_21 rfl ?_
    refine ca_Register_28 (mc := 0) (ms := 0) (As := [.int (iI (c)), .int (iI (0)), .int (iI (0)), .int (iI (0)), .int (iI (0))]) (rest := [.ref q2, .ref rg]) B (m_Global_init hf8) rfl rfl ⟨Nat.le_of_ble_eq_true rfl, Nat.le_of_ble_eq_true rfl⟩ rfl rfl (Nat.le_of_ble_eq_true rfl) d_Register_addAxiom_22 ⟨by omega, by omega⟩ (mv_x ?_)
    show mv_G X Q (kk V) 1 25 [(0, .ref rg)] [.ref q2, .ref rg] (mv_up M4 q2 (.inr (2, [.int (iI (c)), .int (iI (0)), .int (iI (0)), .int (iI (0)), .int (iI (0)), va_rf (none), va_rf (none), va_rf (none), .int (iI (-1)), .int (iI (0))]))) (0 + 1) (0 + 10)
    obtain ⟨M9, hM10⟩ : ∃ My : mv_M, My = mv_up M4 q2 (.inr (2, [.int (iI (c)), .int (iI (0)), .int (iI (0)), .int (iI (0)), .int (iI (0)), va_rf (none), va_rf (none), va_rf (none), .int (iI (-1)), .int (iI (0))])) := ⟨_, rfl⟩
    rw [← hM10]
    have hf11 : M9 rg = some (.inr (3, [.ref row, .int (iI (c))])) := by rw [hM10, mv_un (Nat.ne_of_lt (fq3 _ _ hr))]; exact hf6
    have hf12 : M9 row = some (gA V 100 f) := by rw [hM10, mv_un (Nat.ne_of_lt (fq3 _ _ hw))]; exact hf7
    have hf13 : M9 q2 = some (.inr (2, [.int (iI (c)), .int (iI (0)), .int (iI (0)), .int (iI (0)), .int (iI (0)), va_rf (none), va_rf (none), va_rf (none), .int (iI (-1)), .int (iI (0))])) := by rw [hM10]; exact mv_us
    refine ca_Register_31 (mc := 0) (ms := 0) (As := [.ref q2]) (rest := []) B (m_Register_enter hf11 hf12 (by omega) hf13 (by omega)) rfl rfl ⟨Nat.le_of_ble_eq_true rfl, Nat.le_of_ble_eq_true rfl⟩ hf11 rfl rfl (Nat.le_of_ble_eq_true rfl) d_Register_addAxiom_25 ⟨by omega, by omega⟩ (mv_x ?_)
    show mv_G X Q (kk V) 1 28 [(0, .ref rg)] [.int (iI (c))] (mv_up (mv_up M9 row (gA V 100 (va_up f (Int.toNat (c)) (some q2)))) rg (.inr (3, [.ref row, .int (iI (c + 1))]))) (0 + 1) (0 + 10)
    obtain ⟨M14, hM15⟩ : ∃ My : mv_M, My = mv_up M9 row (gA V 100 (va_up f (Int.toNat (c)) (some q2))) := ⟨_, rfl⟩
    rw [← hM15]
    have hf16 : M14 rg = some (.inr (3, [.ref row, .int (iI (c))])) := by rw [hM15, mv_un (mv_ne hf11 hf12 (by simp))]; exact hf11
    have hf17 : M14 row = some (gA V 100 (va_up f (Int.toNat (c)) (some q2))) := by rw [hM15]; exact mv_us
    have hf18 : M14 q2 = some (.inr (2, [.int (iI (c)), .int (iI (0)), .int (iI (0)), .int (iI (0)), .int (iI (0)), va_rf (none), va_rf (none), va_rf (none), .int (iI (-1)), .int (iI (0))])) := by rw [hM15, mv_un (Ne.symm (Nat.ne_of_lt (fq3 _ _ hw)))]; exact hf13
    obtain ⟨M19, hM20⟩ : ∃ My : mv_M, My = mv_up M14 rg (.inr (3, [.ref row, .int (iI (c + 1))])) := ⟨_, rfl⟩
    rw [← hM20]
    have hf21 : M19 rg = some (.inr (3, [.ref row, .int (iI (c + 1))])) := by rw [hM20]; exact mv_us
    have hf22 : M19 row = some (gA V 100 (va_up f (Int.toNat (c)) (some q2))) := by rw [hM20, mv_un (mv_ne hf17 hf16 (by simp))]; exact hf17
    have hf23 : M19 q2 = some (.inr (2, [.int (iI (c)), .int (iI (0)), .int (iI (0)), .int (iI (0)), .int (iI (0)), va_rf (none), va_rf (none), va_rf (none), .int (iI (-1)), .int (iI (0))])) := by rw [hM20, mv_un (Ne.symm (Nat.ne_of_lt (fq3 _ _ hr)))]; exact hf18
    refine mv_goto (tgt := 32) B d_Register_addAxiom_28 (by decide) ?_
    rw [hQ]
    exact mv_iret B (Or.inr ⟨by omega, rfl, q2, fq3, by rw [hM20, hM15, hM10, hM5, mv_uu]⟩) (by omega) (by omega) d_Register_addAxiom_32
