/-! Register.addFamily -/
theorem fam_row0 {f : Nat → Option Nat} {c : Int} {g : Nat} : va_up f (Int.toNat c) (some g) = (fun x => if x = c.toNat then some g else if c.toNat + 1 ≤ x ∧ x < c.toNat + 1 + 0 then some ((fun _ => 0) (x - (c.toNat + 1))) else f x) := by
  funext x
  unfold va_up
  by_cases e : x = c.toNat
  · rw [if_pos e, if_pos e]
  · rw [if_neg e, if_neg e, if_neg (by omega)]
theorem fam_row {f : Nat → Option Nat} {cc : Nat → Nat} {c : Int} {g q i : Nat} (h : 0 ≤ c) : va_up (fun x => if x = c.toNat then some g else if c.toNat + 1 ≤ x ∧ x < c.toNat + 1 + i then some (cc (x - (c.toNat + 1))) else f x) (Int.toNat (c + 1 + (i : Nat))) (some q) = (fun x => if x = c.toNat then some g else if c.toNat + 1 ≤ x ∧ x < c.toNat + 1 + (i + 1) then some ((va_up cc i q) (x - (c.toNat + 1))) else f x) := by
  funext x
  rw [show Int.toNat (c + 1 + (i : Nat)) = c.toNat + 1 + i by omega]
  by_cases e : x = c.toNat + 1 + i
  · subst e
    rw [va_us, if_neg (by omega), if_pos (by omega), show c.toNat + 1 + i - (c.toNat + 1) = i by omega, va_us]
  · rw [va_un e]
    by_cases e2 : x = c.toNat
    · rw [if_pos e2, if_pos e2]
    · rw [if_neg e2, if_neg e2]
      by_cases e3 : c.toNat + 1 ≤ x ∧ x < c.toNat + 1 + i
      · rw [if_pos e3, if_pos (by omega), va_un (by omega)]
      · rw [if_neg e3, if_neg (by omega)]
theorem fam_ca {cc : Nat → Nat} {q i : Nat} : va_up (fun x => if x < i then some (cc x) else none) (Int.toNat ((i : Nat))) (some q) = (fun x => if x < i + 1 then some ((va_up cc i q) x) else none) := by
  funext x
  rw [Int.toNat_natCast]
  by_cases e : x = i
  · subst e; rw [va_us, if_pos (by omega), va_us]
  · rw [va_un e, va_un e]
    by_cases e2 : x < i
    · rw [if_pos e2, if_pos (by omega)]
    · rw [if_neg e2, if_neg (by omega)]
set_option maxRecDepth 100000 in
set_option maxHeartbeats 4000000 in
theorem m_Register_addFamily {l : Launch} {V : mv_V} {M : mv_M} {rg row : Nat} {c : Int} {f : Nat → Option Nat} (hr : M rg = some (.inr (3, [.ref row, .int (iI c)]))) (hw : M row = some (gA V 100 f)) (rc : 0 ≤ c ∧ c ≤ 100) {h k : Nat} {P ix : Int} {vs : List Value} (hh : M h = some (.inr (0, vs))) (hk : k ≤ 100) : Met l y_Register_addFamily ws_Register_addFamily (rM 2 (2 + k) (10 + k + 10 * k) 60) (mv_Pre (kk V) [.ref rg, .ref h, .int (iI (P)), .int (iI (ix)), .int (iI ((k : Nat)))] M) (mv_Q (kk V) (fun z0 M' => (100 < c + 1 + (k : Nat) ∧ z0 = some (.int (iI (-1))) ∧ M' = M) ∨ (c + 1 + (k : Nat) ≤ 100 ∧ z0 = some (.int (iI c)) ∧ ∃ (g ca : Nat) (cc : Nat → Nat), (∀ x e, M x = some e → x < g) ∧ (∀ x e, M x = some e → x < ca) ∧ (M' rg = some (.inr (3, [.ref row, .int (iI (c + 1 + (k : Nat)))]))) ∧ (M' row = some (gA V 100 (fun x => if x = c.toNat then some g else if c.toNat + 1 ≤ x ∧ x < c.toNat + 1 + k then some (cc (x - (c.toNat + 1))) else f x))) ∧ (M' g = some (.inr (2, [.int (iI c), .int (iI 3), .int (iI P), .int (iI ix), .int (iI (k : Nat)), va_rf none, .ref ca, .ref h, .int (iI (-1)), .int (iI 0)]))) ∧ (M' ca = some (gA V k (fun x => if x < k then some (cc x) else none))) ∧ (∀ j : Nat, j < k → M' (cc j) = some (.inr (2, [.int (iI (c + 1 + (j : Nat))), .int (iI 4), .int (iI P), .int (iI ix), .int (iI (j : Nat)), .ref g, va_rf none, va_rf none, .int (iI (-1)), .int (iI 0)])) ∧ (∀ x e, M x = some e → x < cc j)) ∧ (∀ x e, M x = some e → x ≠ row → x ≠ rg → M' x = some e)))) (2 + k) (10 + k + 10 * k) V.2.2.2.2 := by
  refine mv_Met (by decide) rfl (Nat.le_of_ble_eq_true rfl) (fun X hX B => ?_)
  subst hX
  replace B : mv_B X (kk V) c_Register_addFamily ws_Register_addFamily "FamilyRules$Register" 9 (Option.some Jvm.ClassFile.FieldType.int) (rM 2 (2 + k) (10 + k + 10 * k) 60) "addFamily" := B
  obtain ⟨Q, hQ⟩ : ∃ Q, Q = mv_E X (kk V) (fun z0 M' => (100 < c + 1 + (k : Nat) ∧ z0 = some (.int (iI (-1))) ∧ M' = M) ∨ (c + 1 + (k : Nat) ≤ 100 ∧ z0 = some (.int (iI c)) ∧ ∃ (g ca : Nat) (cc : Nat → Nat), (∀ x e, M x = some e → x < g) ∧ (∀ x e, M x = some e → x < ca) ∧ (M' rg = some (.inr (3, [.ref row, .int (iI (c + 1 + (k : Nat)))]))) ∧ (M' row = some (gA V 100 (fun x => if x = c.toNat then some g else if c.toNat + 1 ≤ x ∧ x < c.toNat + 1 + k then some (cc (x - (c.toNat + 1))) else f x))) ∧ (M' g = some (.inr (2, [.int (iI c), .int (iI 3), .int (iI P), .int (iI ix), .int (iI (k : Nat)), va_rf none, .ref ca, .ref h, .int (iI (-1)), .int (iI 0)]))) ∧ (M' ca = some (gA V k (fun x => if x < k then some (cc x) else none))) ∧ (∀ j : Nat, j < k → M' (cc j) = some (.inr (2, [.int (iI (c + 1 + (j : Nat))), .int (iI 4), .int (iI P), .int (iI ix), .int (iI (j : Nat)), .ref g, va_rf none, va_rf none, .int (iI (-1)), .int (iI 0)])) ∧ (∀ x e, M x = some e → x < cc j)) ∧ (∀ x e, M x = some e → x ≠ row → x ≠ rg → M' x = some e))) (2 + k) (10 + k + 10 * k) := ⟨_, rfl⟩
  rw [← hQ]
  show mv_G X Q (kk V) 9 0 [(0, .ref rg), (1, .ref h), (2, .int (iI (P))), (3, .int (iI (ix))), (4, .int (iI ((k : Nat))))] [] M 0 0
  have hrc : (rM 2 (2 + k) (10 + k + 10 * k) 60).cells = 2 + k := rfl
  have hrs : (rM 2 (2 + k) (10 + k + 10 * k) 60).slots = 10 + k + 10 * k := rfl
  refine mv_iload B d_Register_addFamily_0 4 rfl ?_
  refine mv_if_lt (tgt := 19) B d_Register_addFamily_2 (by decide) (by omega) (fun c1 => ?_) (fun c1 => ?_)
  · refine mv_iconst (z := -1) B d_Register_addFamily_19 rfl ?_
    rw [hQ]
    exact mv_iret B (Or.inl ⟨by omega, rfl, rfl⟩) (by omega) (by omega) d_Register_addFamily_20
  · refine mv_aloadR_n B d_Register_addFamily_5 rfl 0 rfl ?_
    refine gf_Register_17 B hr rfl d_Register_addFamily_6 ?_
    refine mv_iconst (z := 1) B d_Register_addFamily_9 rfl ?_
    refine mv_iadd B d_Register_addFamily_10 ?_
    refine mv_iload B d_Register_addFamily_11 4 rfl ?_
    refine mv_iadd B d_Register_addFamily_13 ?_
    refine mv_bipush (z := 100) B d_Register_addFamily_14 (by decide) ?_
    refine mv_icmp_le (tgt := 21) B d_Register_addFamily_16 (by decide) (by omega) (by omega) (fun c2 => ?_) (fun c2 => ?_)
    · have hc0 : c.toNat + 1 + k ≤ 100 := by omega
      refine nc_Register_9 B (by omega) (by omega) d_Register_addFamily_21 (fun q3 fq4 => ?_)
      obtain ⟨M5, hM6⟩ : ∃ My : mv_M, My = mv_up M q3 (.inr (2, [.int (iI (0)), .int (iI (0)), .int (iI (0)), .int (iI (0)), .int (iI (0)), va_rf (none), va_rf (none), va_rf (none), .int (iI (0)), .int (iI (0))])) := ⟨_, rfl⟩
      rw [← hM6]
      have hf7 : M5 rg = some (.inr (3, [.ref row, .int (iI (c))])) := by rw [hM6, mv_un (Nat.ne_of_lt (fq4 _ _ hr))]; exact hr
      have hf8 : M5 row = some (gA V 100 f) := by rw [hM6, mv_un (Nat.ne_of_lt (fq4 _ _ hw))]; exact hw
      have hf9 : M5 q3 = some (.inr (2, [.int (iI (0)), .int (iI (0)), .int (iI (0)), .int (iI (0)), .int (iI (0)), va_rf (none), va_rf (none), va_rf (none), .int (iI (0)), .int (iI (0))])) := by rw [hM6]; exact mv_us
      refine mv_dup B d_Register_addFamily_24 rfl ?_
      refine mv_aloadR_n B d_Register_addFamily_25 rfl 0 rfl ?_
      refine gf_Register_17 B hf7 rfl d_Register_addFamily_26 ?_
      refine mv_iconst (z := 3) B d_Register_addFamily_29 rfl ?_
      refine mv_iload_n B d_Register_addFamily_30 rfl 2 rfl ?_
      refine mv_iload_n B d_Register_addFamily_31 rfl 3 rfl ?_
      refine mv_iload B d_Register_addFamily_32 4 rfl ?_
      refine ca_Register_28 (mc := 0) (ms := 0) (As := [.int (iI (c)), .int (iI (3)), .int (iI (P)), .int (iI (ix)), .int (iI ((k : Nat)))]) (rest := [.ref q3]) B (m_Global_init hf9) rfl rfl ⟨Nat.le_of_ble_eq_true rfl, Nat.le_of_ble_eq_true rfl⟩ rfl rfl (Nat.le_of_ble_eq_true rfl) d_Register_addFamily_34 ⟨by omega, by omega⟩ (mv_x ?_)
      show mv_G X Q (kk V) 9 37 [(0, .ref rg), (1, .ref h), (2, .int (iI (P))), (3, .int (iI (ix))), (4, .int (iI ((k : Nat))))] [.ref q3] (mv_up M5 q3 (.inr (2, [.int (iI (c)), .int (iI (3)), .int (iI (P)), .int (iI (ix)), .int (iI ((k : Nat))), va_rf (none), va_rf (none), va_rf (none), .int (iI (-1)), .int (iI (0))]))) (0 + 1) (0 + 10)
      obtain ⟨M10, hM11⟩ : ∃ My : mv_M, My = mv_up M5 q3 (.inr (2, [.int (iI (c)), .int (iI (3)), .int (iI (P)), .int (iI (ix)), .int (iI ((k : Nat))), va_rf (none), va_rf (none), va_rf (none), .int (iI (-1)), .int (iI (0))])) := ⟨_, rfl⟩
      rw [← hM11]
      have hf12 : M10 rg = some (.inr (3, [.ref row, .int (iI (c))])) := by rw [hM11, mv_un (Nat.ne_of_lt (fq4 _ _ hr))]; exact hf7
      have hf13 : M10 row = some (gA V 100 f) := by rw [hM11, mv_un (Nat.ne_of_lt (fq4 _ _ hw))]; exact hf8
      have hf14 : M10 q3 = some (.inr (2, [.int (iI (c)), .int (iI (3)), .int (iI (P)), .int (iI (ix)), .int (iI ((k : Nat))), va_rf (none), va_rf (none), va_rf (none), .int (iI (-1)), .int (iI (0))])) := by rw [hM11]; exact mv_us
      refine mv_astoreR (lv' := [(5, .ref q3), (0, .ref rg), (1, .ref h), (2, .int (iI (P))), (3, .int (iI (ix))), (4, .int (iI ((k : Nat))))]) B d_Register_addFamily_37 (by decide) rfl ?_
      refine mv_aloadR B d_Register_addFamily_39 0 rfl ?_
      refine mv_aloadR_n B d_Register_addFamily_41 rfl 2 rfl ?_
      refine pf_Register_35 B hf14 rfl rfl (Nat.le_of_ble_eq_true rfl) d_Register_addFamily_42 ?_
      show mv_G X Q (kk V) 9 45 [(5, .ref q3), (0, .ref rg), (1, .ref h), (2, .int (iI (P))), (3, .int (iI (ix))), (4, .int (iI ((k : Nat))))] [] (mv_up M10 q3 (.inr (2, [.int (iI (c)), .int (iI (3)), .int (iI (P)), .int (iI (ix)), .int (iI ((k : Nat))), va_rf (none), va_rf (none), .ref h, .int (iI (-1)), .int (iI (0))]))) (0 + 1) (0 + 10)
      obtain ⟨M15, hM16⟩ : ∃ My : mv_M, My = mv_up M10 q3 (.inr (2, [.int (iI (c)), .int (iI (3)), .int (iI (P)), .int (iI (ix)), .int (iI ((k : Nat))), va_rf (none), va_rf (none), .ref h, .int (iI (-1)), .int (iI (0))])) := ⟨_, rfl⟩
      rw [← hM16]
      have hf17 : M15 rg = some (.inr (3, [.ref row, .int (iI (c))])) := by rw [hM16, mv_un (Nat.ne_of_lt (fq4 _ _ hr))]; exact hf12
      have hf18 : M15 row = some (gA V 100 f) := by rw [hM16, mv_un (Nat.ne_of_lt (fq4 _ _ hw))]; exact hf13
      have hf19 : M15 q3 = some (.inr (2, [.int (iI (c)), .int (iI (3)), .int (iI (P)), .int (iI (ix)), .int (iI ((k : Nat))), va_rf (none), va_rf (none), .ref h, .int (iI (-1)), .int (iI (0))])) := by rw [hM16]; exact mv_us
      refine mv_aloadR B d_Register_addFamily_45 0 rfl ?_
      refine mv_iload B d_Register_addFamily_47 5 rfl ?_
      refine ga_new_Register_9 (n := k) B (by omega) (by omega) (by omega) (by omega) d_Register_addFamily_49 (fun q20 fq21 => ?_)
      obtain ⟨M22, hM23⟩ : ∃ My : mv_M, My = mv_up M15 q20 (gA V k (fun _ => none)) := ⟨_, rfl⟩
      rw [← hM23]
      have hf24 : M22 rg = some (.inr (3, [.ref row, .int (iI (c))])) := by rw [hM23, mv_un (Nat.ne_of_lt (fq21 _ _ hf17))]; exact hf17
      have hf25 : M22 row = some (gA V 100 f) := by rw [hM23, mv_un (Nat.ne_of_lt (fq21 _ _ hf18))]; exact hf18
      have hf26 : M22 q3 = some (.inr (2, [.int (iI (c)), .int (iI (3)), .int (iI (P)), .int (iI (ix)), .int (iI ((k : Nat))), va_rf (none), va_rf (none), .ref h, .int (iI (-1)), .int (iI (0))])) := by rw [hM23, mv_un (Nat.ne_of_lt (fq21 _ _ hf19))]; exact hf19
      have hf27 : M22 q20 = some (gA V k (fun _ => none)) := by rw [hM23]; exact mv_us
      refine pf_Register_39 B hf26 rfl rfl (Nat.le_of_ble_eq_true rfl) d_Register_addFamily_52 ?_
      show mv_G X Q (kk V) 9 55 [(5, .ref q3), (0, .ref rg), (1, .ref h), (2, .int (iI (P))), (3, .int (iI (ix))), (4, .int (iI ((k : Nat))))] [] (mv_up M22 q3 (.inr (2, [.int (iI (c)), .int (iI (3)), .int (iI (P)), .int (iI (ix)), .int (iI ((k : Nat))), va_rf (none), .ref q20, .ref h, .int (iI (-1)), .int (iI (0))]))) ((0 + 1) + 1) ((0 + 10) + k)
      obtain ⟨M28, hM29⟩ : ∃ My : mv_M, My = mv_up M22 q3 (.inr (2, [.int (iI (c)), .int (iI (3)), .int (iI (P)), .int (iI (ix)), .int (iI ((k : Nat))), va_rf (none), .ref q20, .ref h, .int (iI (-1)), .int (iI (0))])) := ⟨_, rfl⟩
      rw [← hM29]
      have hf30 : M28 rg = some (.inr (3, [.ref row, .int (iI (c))])) := by rw [hM29, mv_un (Nat.ne_of_lt (fq4 _ _ hr))]; exact hf24
      have hf31 : M28 row = some (gA V 100 f) := by rw [hM29, mv_un (Nat.ne_of_lt (fq4 _ _ hw))]; exact hf25
      have hf32 : M28 q3 = some (.inr (2, [.int (iI (c)), .int (iI (3)), .int (iI (P)), .int (iI (ix)), .int (iI ((k : Nat))), va_rf (none), .ref q20, .ref h, .int (iI (-1)), .int (iI (0))])) := by rw [hM29]; exact mv_us
      have hf33 : M28 q20 = some (gA V k (fun _ => none)) := by rw [hM29, mv_un (Ne.symm (Nat.ne_of_lt (fq21 _ _ hf19)))]; exact hf27
      refine mv_aloadR_n B d_Register_addFamily_55 rfl 1 rfl ?_
      refine mv_aloadR B d_Register_addFamily_56 0 rfl ?_
      refine ca_Register_31 (mc := 0) (ms := 0) (As := [.ref q3]) (rest := []) B (m_Register_enter hf30 hf31 (by omega) hf32 (by omega)) rfl rfl ⟨Nat.le_of_ble_eq_true rfl, Nat.le_of_ble_eq_true rfl⟩ hf30 rfl rfl (Nat.le_of_ble_eq_true rfl) d_Register_addFamily_58 ⟨by omega, by omega⟩ (mv_x ?_)
      show mv_G X Q (kk V) 9 61 [(5, .ref q3), (0, .ref rg), (1, .ref h), (2, .int (iI (P))), (3, .int (iI (ix))), (4, .int (iI ((k : Nat))))] [.int (iI (c))] (mv_up (mv_up M28 row (gA V 100 (va_up f (Int.toNat (c)) (some q3)))) rg (.inr (3, [.ref row, .int (iI (c + 1))]))) ((0 + 1) + 1) ((0 + 10) + k)
      obtain ⟨M34, hM35⟩ : ∃ My : mv_M, My = mv_up M28 row (gA V 100 (va_up f (Int.toNat (c)) (some q3))) := ⟨_, rfl⟩
      rw [← hM35]
      have hf36 : M34 rg = some (.inr (3, [.ref row, .int (iI (c))])) := by rw [hM35, mv_un (mv_ne hf30 hf31 (by simp))]; exact hf30
      have hf37 : M34 row = some (gA V 100 (va_up f (Int.toNat (c)) (some q3))) := by rw [hM35]; exact mv_us
      have hf38 : M34 q3 = some (.inr (2, [.int (iI (c)), .int (iI (3)), .int (iI (P)), .int (iI (ix)), .int (iI ((k : Nat))), va_rf (none), .ref q20, .ref h, .int (iI (-1)), .int (iI (0))])) := by rw [hM35, mv_un (Ne.symm (Nat.ne_of_lt (fq4 _ _ hw)))]; exact hf32
      have hf39 : M34 q20 = some (gA V k (fun _ => none)) := by rw [hM35, mv_un (Ne.symm (Nat.ne_of_lt (fq21 _ _ hf18)))]; exact hf33
      obtain ⟨M40, hM41⟩ : ∃ My : mv_M, My = mv_up M34 rg (.inr (3, [.ref row, .int (iI (c + 1))])) := ⟨_, rfl⟩
      rw [← hM41]
      have hf42 : M40 rg = some (.inr (3, [.ref row, .int (iI (c + 1))])) := by rw [hM41]; exact mv_us
      have hf43 : M40 row = some (gA V 100 (va_up f (Int.toNat (c)) (some q3))) := by rw [hM41, mv_un (mv_ne hf37 hf36 (by simp))]; exact hf37
      have hf44 : M40 q3 = some (.inr (2, [.int (iI (c)), .int (iI (3)), .int (iI (P)), .int (iI (ix)), .int (iI ((k : Nat))), va_rf (none), .ref q20, .ref h, .int (iI (-1)), .int (iI (0))])) := by rw [hM41, mv_un (Ne.symm (Nat.ne_of_lt (fq4 _ _ hr)))]; exact hf38
      have hf45 : M40 q20 = some (gA V k (fun _ => none)) := by rw [hM41, mv_un (Ne.symm (Nat.ne_of_lt (fq21 _ _ hf17)))]; exact hf39
      refine mv_istore (lv' := [(6, .int (iI (c))), (5, .ref q3), (0, .ref rg), (1, .ref h), (2, .int (iI (P))), (3, .int (iI (ix))), (4, .int (iI ((k : Nat))))]) B d_Register_addFamily_61 (by decide) rfl ?_
      refine mv_iconst (z := 0) B d_Register_addFamily_63 rfl ?_
      refine mv_istore (lv' := [(7, .int (iI (0))), (6, .int (iI (c))), (5, .ref q3), (0, .ref rg), (1, .ref h), (2, .int (iI (P))), (3, .int (iI (ix))), (4, .int (iI ((k : Nat))))]) B d_Register_addFamily_64 (by decide) rfl ?_
      obtain ⟨g, hgq⟩ : ∃ g : Nat, g = q3 := ⟨_, rfl⟩
      obtain ⟨ca, hcq⟩ : ∃ a : Nat, a = q20 := ⟨_, rfl⟩
      have keep : ∀ x e, M x = some e → x ≠ row → x ≠ rg → M40 x = some e := by
        intro x e hx n1 n2
        have hx_0 : M5 x = some e := by rw [hM6, mv_un (Nat.ne_of_lt (fq4 _ _ hx))]; exact hx
        have hx_1 : M10 x = some e := by rw [hM11, mv_un (Nat.ne_of_lt (fq4 _ _ hx))]; exact hx_0
        have hx_2 : M15 x = some e := by rw [hM16, mv_un (Nat.ne_of_lt (fq4 _ _ hx))]; exact hx_1
        have hx_3 : M22 x = some e := by rw [hM23, mv_un (Nat.ne_of_lt (fq21 _ _ hx_2))]; exact hx_2
        have hx_4 : M28 x = some e := by rw [hM29, mv_un (Nat.ne_of_lt (fq4 _ _ hx))]; exact hx_3
        have hx_5 : M34 x = some e := by rw [hM35, mv_un (n1)]; exact hx_4
        have hx_6 : M40 x = some e := by rw [hM41, mv_un (n2)]; exact hx_5
        exact hx_6
      have lt0 : ∀ x e, M x = some e → x < q3 := fq4
      have lt1 : ∀ x e, M x = some e → x < q20 := by
        intro x e hx
        have hx_0 : M5 x = some e := by rw [hM6, mv_un (Nat.ne_of_lt (fq4 _ _ hx))]; exact hx
        have hx_1 : M10 x = some e := by rw [hM11, mv_un (Nat.ne_of_lt (fq4 _ _ hx))]; exact hx_0
        have hx_2 : M15 x = some e := by rw [hM16, mv_un (Nat.ne_of_lt (fq4 _ _ hx))]; exact hx_1
        exact fq21 _ _ hx_2
      have kp7 : ∀ x e, M x = some e → ∃ e1, M40 x = some e1 := by
        intro x e hx
        by_cases n1 : x = row
        · subst n1; exact ⟨_, hf43⟩
        · by_cases n2 : x = rg
          · subst n2; exact ⟨_, hf42⟩
          · exact ⟨_, keep x e hx n1 n2⟩
      have u1 := hf42
      have u2 := hf43
      have u3 := hf44
      have u4 := hf45
      rw [← hgq] at *
      rw [← hcq] at *
      have L66 : ∀ (fu : Nat) (i : Nat) (cc : Nat → Nat) (My1 : mv_M), (i ≤ k) → (My1 rg = some (.inr (3, [.ref row, .int (iI (c + 1 + (i : Nat)))]))) → (My1 row = some (gA V 100 (fun x => if x = c.toNat then some g else if c.toNat + 1 ≤ x ∧ x < c.toNat + 1 + i then some (cc (x - (c.toNat + 1))) else f x))) → (My1 g = some (.inr (2, [.int (iI c), .int (iI 3), .int (iI P), .int (iI ix), .int (iI (k : Nat)), va_rf none, .ref ca, .ref h, .int (iI (-1)), .int (iI 0)]))) → (My1 ca = some (gA V k (fun x => if x < i then some (cc x) else none))) → (∀ j : Nat, j < i → My1 (cc j) = some (.inr (2, [.int (iI (c + 1 + (j : Nat))), .int (iI 4), .int (iI P), .int (iI ix), .int (iI (j : Nat)), .ref g, va_rf none, va_rf none, .int (iI (-1)), .int (iI 0)])) ∧ (∀ x e, M x = some e → x < cc j)) → (∀ x e, M x = some e → x ≠ row → x ≠ rg → My1 x = some e) → (∀ x e, M x = some e → ∃ e1, My1 x = some e1) → (k - i) < fu → mv_G X Q (kk V) 9 66 [(7, .int (iI ((i : Nat)))), (6, .int (iI (c))), (5, .ref g), (0, .ref rg), (1, .ref h), (2, .int (iI (P))), (3, .int (iI (ix))), (4, .int (iI ((k : Nat))))] [] My1 (2 + i) (10 + k + 10 * i) := by
        intro fu
        induction fu with
        | zero => intro i cc My1 hi w1 w2 w3 w4 w5 w6 w7 hm; exact absurd hm (Nat.not_lt_zero _)
        | succ fu ih66 =>
          intro i cc My1 hi w1 w2 w3 w4 w5 w6 w7 hm
          refine mv_iload B d_Register_addFamily_66 0 rfl ?_
          refine mv_iload B d_Register_addFamily_68 7 rfl ?_
          refine mv_icmp_ge (tgt := 121) B d_Register_addFamily_70 (by decide) (by omega) (by omega) (fun c46 => ?_) (fun c46 => ?_)
          · refine mv_iload B d_Register_addFamily_121 1 rfl ?_
            rw [hQ]
            have ei : i = k := by omega
            subst ei
            exact mv_iret B (Or.inr ⟨by omega, rfl, g, ca, cc, lt0, lt1, w1, w2, w3, w4, w5, w6⟩) (by omega) (by omega) d_Register_addFamily_123
          · refine nc_Register_9 B (by omega) (by omega) d_Register_addFamily_73 (fun q47 fq48 => ?_)
            obtain ⟨M49, hM50⟩ : ∃ My : mv_M, My = mv_up My1 q47 (.inr (2, [.int (iI (0)), .int (iI (0)), .int (iI (0)), .int (iI (0)), .int (iI (0)), va_rf (none), va_rf (none), va_rf (none), .int (iI (0)), .int (iI (0))])) := ⟨_, rfl⟩
            rw [← hM50]
            have hf51 : M49 rg = some (.inr (3, [.ref row, .int (iI (c + 1 + (i : Nat)))])) := by rw [hM50, mv_un (Nat.ne_of_lt (fq48 _ _ w1))]; exact w1
            have hf52 : M49 row = some (gA V 100 (fun x => if x = c.toNat then some g else if c.toNat + 1 ≤ x ∧ x < c.toNat + 1 + i then some (cc (x - (c.toNat + 1))) else f x)) := by rw [hM50, mv_un (Nat.ne_of_lt (fq48 _ _ w2))]; exact w2
            have hf53 : M49 g = some (.inr (2, [.int (iI (c)), .int (iI (3)), .int (iI (P)), .int (iI (ix)), .int (iI ((k : Nat))), va_rf (none), .ref ca, .ref h, .int (iI (-1)), .int (iI (0))])) := by rw [hM50, mv_un (Nat.ne_of_lt (fq48 _ _ w3))]; exact w3
            have hf54 : M49 ca = some (gA V k (fun x => if x < i then some (cc x) else none)) := by rw [hM50, mv_un (Nat.ne_of_lt (fq48 _ _ w4))]; exact w4
            have hf55 : M49 q47 = some (.inr (2, [.int (iI (0)), .int (iI (0)), .int (iI (0)), .int (iI (0)), .int (iI (0)), va_rf (none), va_rf (none), va_rf (none), .int (iI (0)), .int (iI (0))])) := by rw [hM50]; exact mv_us
            refine mv_dup B d_Register_addFamily_76 rfl ?_
            refine mv_aloadR_n B d_Register_addFamily_77 rfl 3 rfl ?_
            refine gf_Register_17 B hf51 rfl d_Register_addFamily_78 ?_
            refine mv_iconst (z := 4) B d_Register_addFamily_81 rfl ?_
            refine mv_iload_n B d_Register_addFamily_82 rfl 5 rfl ?_
            refine mv_iload_n B d_Register_addFamily_83 rfl 6 rfl ?_
            refine mv_iload B d_Register_addFamily_84 0 rfl ?_
            refine ca_Register_28 (mc := 0) (ms := 0) (As := [.int (iI (c + 1 + (i : Nat))), .int (iI (4)), .int (iI (P)), .int (iI (ix)), .int (iI ((i : Nat)))]) (rest := [.ref q47]) B (m_Global_init hf55) rfl rfl ⟨Nat.le_of_ble_eq_true rfl, Nat.le_of_ble_eq_true rfl⟩ rfl rfl (Nat.le_of_ble_eq_true rfl) d_Register_addFamily_86 ⟨by omega, by omega⟩ (mv_x ?_)
            show mv_G X Q (kk V) 9 89 [(7, .int (iI ((i : Nat)))), (6, .int (iI (c))), (5, .ref g), (0, .ref rg), (1, .ref h), (2, .int (iI (P))), (3, .int (iI (ix))), (4, .int (iI ((k : Nat))))] [.ref q47] (mv_up M49 q47 (.inr (2, [.int (iI (c + 1 + (i : Nat))), .int (iI (4)), .int (iI (P)), .int (iI (ix)), .int (iI ((i : Nat))), va_rf (none), va_rf (none), va_rf (none), .int (iI (-1)), .int (iI (0))]))) ((2 + i) + 1) ((10 + k + 10 * i) + 10)
            obtain ⟨M56, hM57⟩ : ∃ My : mv_M, My = mv_up M49 q47 (.inr (2, [.int (iI (c + 1 + (i : Nat))), .int (iI (4)), .int (iI (P)), .int (iI (ix)), .int (iI ((i : Nat))), va_rf (none), va_rf (none), va_rf (none), .int (iI (-1)), .int (iI (0))])) := ⟨_, rfl⟩
            rw [← hM57]
            have hf58 : M56 rg = some (.inr (3, [.ref row, .int (iI (c + 1 + (i : Nat)))])) := by rw [hM57, mv_un (Nat.ne_of_lt (fq48 _ _ w1))]; exact hf51
            have hf59 : M56 row = some (gA V 100 (fun x => if x = c.toNat then some g else if c.toNat + 1 ≤ x ∧ x < c.toNat + 1 + i then some (cc (x - (c.toNat + 1))) else f x)) := by rw [hM57, mv_un (Nat.ne_of_lt (fq48 _ _ w2))]; exact hf52
            have hf60 : M56 g = some (.inr (2, [.int (iI (c)), .int (iI (3)), .int (iI (P)), .int (iI (ix)), .int (iI ((k : Nat))), va_rf (none), .ref ca, .ref h, .int (iI (-1)), .int (iI (0))])) := by rw [hM57, mv_un (Nat.ne_of_lt (fq48 _ _ w3))]; exact hf53
            have hf61 : M56 ca = some (gA V k (fun x => if x < i then some (cc x) else none)) := by rw [hM57, mv_un (Nat.ne_of_lt (fq48 _ _ w4))]; exact hf54
            have hf62 : M56 q47 = some (.inr (2, [.int (iI (c + 1 + (i : Nat))), .int (iI (4)), .int (iI (P)), .int (iI (ix)), .int (iI ((i : Nat))), va_rf (none), va_rf (none), va_rf (none), .int (iI (-1)), .int (iI (0))])) := by rw [hM57]; exact mv_us
            refine mv_astoreR (lv' := [(8, .ref q47), (7, .int (iI ((i : Nat)))), (6, .int (iI (c))), (5, .ref g), (0, .ref rg), (1, .ref h), (2, .int (iI (P))), (3, .int (iI (ix))), (4, .int (iI ((k : Nat))))]) B d_Register_addFamily_89 (by decide) rfl ?_
            refine mv_aloadR B d_Register_addFamily_91 0 rfl ?_
            refine mv_aloadR B d_Register_addFamily_93 3 rfl ?_
            refine pf_Register_42 B hf62 rfl rfl (Nat.le_of_ble_eq_true rfl) d_Register_addFamily_95 ?_
            show mv_G X Q (kk V) 9 98 [(8, .ref q47), (7, .int (iI ((i : Nat)))), (6, .int (iI (c))), (5, .ref g), (0, .ref rg), (1, .ref h), (2, .int (iI (P))), (3, .int (iI (ix))), (4, .int (iI ((k : Nat))))] [] (mv_up M56 q47 (.inr (2, [.int (iI (c + 1 + (i : Nat))), .int (iI (4)), .int (iI (P)), .int (iI (ix)), .int (iI ((i : Nat))), .ref g, va_rf (none), va_rf (none), .int (iI (-1)), .int (iI (0))]))) ((2 + i) + 1) ((10 + k + 10 * i) + 10)
            obtain ⟨M63, hM64⟩ : ∃ My : mv_M, My = mv_up M56 q47 (.inr (2, [.int (iI (c + 1 + (i : Nat))), .int (iI (4)), .int (iI (P)), .int (iI (ix)), .int (iI ((i : Nat))), .ref g, va_rf (none), va_rf (none), .int (iI (-1)), .int (iI (0))])) := ⟨_, rfl⟩
            rw [← hM64]
            have hf65 : M63 rg = some (.inr (3, [.ref row, .int (iI (c + 1 + (i : Nat)))])) := by rw [hM64, mv_un (Nat.ne_of_lt (fq48 _ _ w1))]; exact hf58
            have hf66 : M63 row = some (gA V 100 (fun x => if x = c.toNat then some g else if c.toNat + 1 ≤ x ∧ x < c.toNat + 1 + i then some (cc (x - (c.toNat + 1))) else f x)) := by rw [hM64, mv_un (Nat.ne_of_lt (fq48 _ _ w2))]; exact hf59
            have hf67 : M63 g = some (.inr (2, [.int (iI (c)), .int (iI (3)), .int (iI (P)), .int (iI (ix)), .int (iI ((k : Nat))), va_rf (none), .ref ca, .ref h, .int (iI (-1)), .int (iI (0))])) := by rw [hM64, mv_un (Nat.ne_of_lt (fq48 _ _ w3))]; exact hf60
            have hf68 : M63 ca = some (gA V k (fun x => if x < i then some (cc x) else none)) := by rw [hM64, mv_un (Nat.ne_of_lt (fq48 _ _ w4))]; exact hf61
            have hf69 : M63 q47 = some (.inr (2, [.int (iI (c + 1 + (i : Nat))), .int (iI (4)), .int (iI (P)), .int (iI (ix)), .int (iI ((i : Nat))), .ref g, va_rf (none), va_rf (none), .int (iI (-1)), .int (iI (0))])) := by rw [hM64]; exact mv_us
            refine mv_aloadR B d_Register_addFamily_98 3 rfl ?_
            refine gf_Register_39 B hf67 rfl d_Register_addFamily_100 ?_
            refine mv_iload B d_Register_addFamily_103 1 rfl ?_
            refine mv_aloadR B d_Register_addFamily_105 0 rfl ?_
            refine ga_st B hf68 hf69 (by omega) (by omega) (by omega) d_Register_addFamily_107 ?_
            obtain ⟨M70, hM71⟩ : ∃ My : mv_M, My = mv_up M63 ca (gA V k (va_up (fun x => if x < i then some (cc x) else none) (Int.toNat ((i : Nat))) (some (q47)))) := ⟨_, rfl⟩
            rw [← hM71]
            have hf72 : M70 rg = some (.inr (3, [.ref row, .int (iI (c + 1 + (i : Nat)))])) := by rw [hM71, mv_un (mv_ne hf65 hf68 (by simp))]; exact hf65
            have hf73 : M70 row = some (gA V 100 (fun x => if x = c.toNat then some g else if c.toNat + 1 ≤ x ∧ x < c.toNat + 1 + i then some (cc (x - (c.toNat + 1))) else f x)) := by rw [hM71, mv_un (Ne.symm (Ne.symm (Nat.ne_of_lt (lt1 _ _ hw))))]; exact hf66
            have hf74 : M70 g = some (.inr (2, [.int (iI (c)), .int (iI (3)), .int (iI (P)), .int (iI (ix)), .int (iI ((k : Nat))), va_rf (none), .ref ca, .ref h, .int (iI (-1)), .int (iI (0))])) := by rw [hM71, mv_un (mv_ne hf67 hf68 (by simp))]; exact hf67
            have hf75 : M70 ca = some (gA V k (va_up (fun x => if x < i then some (cc x) else none) (Int.toNat ((i : Nat))) (some (q47)))) := by rw [hM71]; exact mv_us
            have hf76 : M70 q47 = some (.inr (2, [.int (iI (c + 1 + (i : Nat))), .int (iI (4)), .int (iI (P)), .int (iI (ix)), .int (iI ((i : Nat))), .ref g, va_rf (none), va_rf (none), .int (iI (-1)), .int (iI (0))])) := by rw [hM71, mv_un (Ne.symm (Nat.ne_of_lt (fq48 _ _ w4)))]; exact hf69
            refine mv_aloadR_n B d_Register_addFamily_108 rfl 4 rfl ?_
            refine mv_aloadR B d_Register_addFamily_109 0 rfl ?_
            refine ca_Register_31 (mc := 0) (ms := 0) (As := [.ref q47]) (rest := []) B (m_Register_enter hf72 hf73 (by omega) hf76 (by omega)) rfl rfl ⟨Nat.le_of_ble_eq_true rfl, Nat.le_of_ble_eq_true rfl⟩ hf72 rfl rfl (Nat.le_of_ble_eq_true rfl) d_Register_addFamily_111 ⟨by omega, by omega⟩ (mv_x ?_)
            show mv_G X Q (kk V) 9 114 [(8, .ref q47), (7, .int (iI ((i : Nat)))), (6, .int (iI (c))), (5, .ref g), (0, .ref rg), (1, .ref h), (2, .int (iI (P))), (3, .int (iI (ix))), (4, .int (iI ((k : Nat))))] [.int (iI (c + 1 + (i : Nat)))] (mv_up (mv_up M70 row (gA V 100 (va_up (fun x => if x = c.toNat then some g else if c.toNat + 1 ≤ x ∧ x < c.toNat + 1 + i then some (cc (x - (c.toNat + 1))) else f x) (Int.toNat (c + 1 + (i : Nat))) (some q47)))) rg (.inr (3, [.ref row, .int (iI ((c + 1 + (i : Nat)) + 1))]))) ((2 + i) + 1) ((10 + k + 10 * i) + 10)
            obtain ⟨M77, hM78⟩ : ∃ My : mv_M, My = mv_up M70 row (gA V 100 (va_up (fun x => if x = c.toNat then some g else if c.toNat + 1 ≤ x ∧ x < c.toNat + 1 + i then some (cc (x - (c.toNat + 1))) else f x) (Int.toNat (c + 1 + (i : Nat))) (some q47))) := ⟨_, rfl⟩
            rw [← hM78]
            have hf79 : M77 rg = some (.inr (3, [.ref row, .int (iI (c + 1 + (i : Nat)))])) := by rw [hM78, mv_un (mv_ne hf72 hf73 (by simp))]; exact hf72
            have hf80 : M77 row = some (gA V 100 (va_up (fun x => if x = c.toNat then some g else if c.toNat + 1 ≤ x ∧ x < c.toNat + 1 + i then some (cc (x - (c.toNat + 1))) else f x) (Int.toNat (c + 1 + (i : Nat))) (some q47))) := by rw [hM78]; exact mv_us
            have hf81 : M77 g = some (.inr (2, [.int (iI (c)), .int (iI (3)), .int (iI (P)), .int (iI (ix)), .int (iI ((k : Nat))), va_rf (none), .ref ca, .ref h, .int (iI (-1)), .int (iI (0))])) := by rw [hM78, mv_un (mv_ne hf74 hf73 (by simp))]; exact hf74
            have hf82 : M77 ca = some (gA V k (va_up (fun x => if x < i then some (cc x) else none) (Int.toNat ((i : Nat))) (some (q47)))) := by rw [hM78, mv_un (Ne.symm (Nat.ne_of_lt (lt1 _ _ hw)))]; exact hf75
            have hf83 : M77 q47 = some (.inr (2, [.int (iI (c + 1 + (i : Nat))), .int (iI (4)), .int (iI (P)), .int (iI (ix)), .int (iI ((i : Nat))), .ref g, va_rf (none), va_rf (none), .int (iI (-1)), .int (iI (0))])) := by rw [hM78, mv_un (Ne.symm (Nat.ne_of_lt (fq48 _ _ w2)))]; exact hf76
            obtain ⟨M84, hM85⟩ : ∃ My : mv_M, My = mv_up M77 rg (.inr (3, [.ref row, .int (iI ((c + 1 + (i : Nat)) + 1))])) := ⟨_, rfl⟩
            rw [← hM85]
            have hf86 : M84 rg = some (.inr (3, [.ref row, .int (iI ((c + 1 + (i : Nat)) + 1))])) := by rw [hM85]; exact mv_us
            have hf87 : M84 row = some (gA V 100 (va_up (fun x => if x = c.toNat then some g else if c.toNat + 1 ≤ x ∧ x < c.toNat + 1 + i then some (cc (x - (c.toNat + 1))) else f x) (Int.toNat (c + 1 + (i : Nat))) (some q47))) := by rw [hM85, mv_un (mv_ne hf80 hf79 (by simp))]; exact hf80
            have hf88 : M84 g = some (.inr (2, [.int (iI (c)), .int (iI (3)), .int (iI (P)), .int (iI (ix)), .int (iI ((k : Nat))), va_rf (none), .ref ca, .ref h, .int (iI (-1)), .int (iI (0))])) := by rw [hM85, mv_un (mv_ne hf81 hf79 (by simp))]; exact hf81
            have hf89 : M84 ca = some (gA V k (va_up (fun x => if x < i then some (cc x) else none) (Int.toNat ((i : Nat))) (some (q47)))) := by rw [hM85, mv_un (mv_ne hf82 hf79 (by simp))]; exact hf82
            have hf90 : M84 q47 = some (.inr (2, [.int (iI (c + 1 + (i : Nat))), .int (iI (4)), .int (iI (P)), .int (iI (ix)), .int (iI ((i : Nat))), .ref g, va_rf (none), va_rf (none), .int (iI (-1)), .int (iI (0))])) := by rw [hM85, mv_un (Ne.symm (Nat.ne_of_lt (fq48 _ _ w1)))]; exact hf83
            refine mv_pop B d_Register_addFamily_114 rfl ?_
            refine mv_iinc (lv' := [(7, .int (iI ((i : Nat) + 1))), (8, .ref q47), (6, .int (iI (c))), (5, .ref g), (0, .ref rg), (1, .ref h), (2, .int (iI (P))), (3, .int (iI (ix))), (4, .int (iI ((k : Nat))))]) B d_Register_addFamily_115 1 rfl (by decide) rfl ?_
            refine mv_goto (tgt := 66) B d_Register_addFamily_118 (by decide) ?_
            have cy : ∀ x e, My1 x = some e → x ≠ row → x ≠ rg → x ≠ ca → M84 x = some e := by
              intro x e hx n1 n2 n3
              have hx_0 : M49 x = some e := by rw [hM50, mv_un (Nat.ne_of_lt (fq48 _ _ hx))]; exact hx
              have hx_1 : M56 x = some e := by rw [hM57, mv_un (Nat.ne_of_lt (fq48 _ _ hx))]; exact hx_0
              have hx_2 : M63 x = some e := by rw [hM64, mv_un (Nat.ne_of_lt (fq48 _ _ hx))]; exact hx_1
              have hx_3 : M70 x = some e := by rw [hM71, mv_un (n3)]; exact hx_2
              have hx_4 : M77 x = some e := by rw [hM78, mv_un (n1)]; exact hx_3
              have hx_5 : M84 x = some e := by rw [hM85, mv_un (n2)]; exact hx_4
              exact hx_5
            have hq0 : ∀ x e, M x = some e → x < q47 := fun x e hx => by obtain ⟨e1, h1⟩ := w7 x e hx; exact fq48 _ _ h1
            have v1 : M84 rg = some (.inr (3, [.ref row, .int (iI (c + 1 + ((i + 1 : Nat) : Nat)))])) := by rw [hf86]; congr 7; omega
            have v2 : M84 row = some (gA V 100 (fun x => if x = c.toNat then some g else if c.toNat + 1 ≤ x ∧ x < c.toNat + 1 + (i + 1) then some ((va_up cc i q47) (x - (c.toNat + 1))) else f x)) := by
              rw [hf87, fam_row (by omega)]
            have v4 : M84 ca = some (gA V k (fun x => if x < (i + 1) then some ((va_up cc i q47) x) else none)) := by
              rw [hf89, fam_ca]
            have v5 : ∀ j : Nat, j < i + 1 → M84 ((va_up cc i q47) j) = some (.inr (2, [.int (iI (c + 1 + (j : Nat))), .int (iI 4), .int (iI P), .int (iI ix), .int (iI (j : Nat)), .ref g, va_rf none, va_rf none, .int (iI (-1)), .int (iI 0)])) ∧ (∀ x e, M x = some e → x < (va_up cc i q47) j) := by
              intro j hj
              by_cases e : j = i
              · subst e; rw [va_us]; exact ⟨hf90, hq0⟩
              · rw [va_un e]
                obtain ⟨a1, a2⟩ := w5 j (by omega)
                exact ⟨cy _ _ a1 (mv_ne a1 w2 (by simp)) (mv_ne a1 w1 (by simp)) (mv_ne a1 w4 (by simp)), a2⟩
            have v6 : ∀ x e, M x = some e → x ≠ row → x ≠ rg → M84 x = some e := fun x e hx n1 n2 => cy x e (w6 x e hx n1 n2) n1 n2 (Nat.ne_of_lt (lt1 x e hx))
            have v7 : ∀ x e, M x = some e → ∃ e1, M84 x = some e1 := by
              intro x e hx
              by_cases n1 : x = row
              · subst n1; exact ⟨_, v2⟩
              · by_cases n2 : x = rg
                · subst n2; exact ⟨_, v1⟩
                · exact ⟨_, v6 x e hx n1 n2⟩
            refine mv_lv (lv' := [(7, .int (iI (((i + 1) : Nat)))), (6, .int (iI (c))), (5, .ref g), (0, .ref rg), (1, .ref h), (2, .int (iI (P))), (3, .int (iI (ix))), (4, .int (iI ((k : Nat))))]) [0, 2, 3, 4, 5, 6, 7, 8] (lc (lI (by first | rfl | omega)) (lc rfl (lc rfl (lc rfl (lc rfl (lc rfl (lc rfl (lc rfl rfl)))))))) ?_
            refine mv_widen (c2 := 2 + (i + 1)) (s2 := 10 + k + 10 * (i + 1)) (by omega) (by omega) ?_
            exact ih66 (i + 1) (va_up cc i q47) M84 (by omega) v1 v2 hf88 v4 v5 v6 v7 (by omega)
      refine mv_lv (lv' := [(7, .int (iI ((0 : Nat)))), (6, .int (iI (c))), (5, .ref g), (0, .ref rg), (1, .ref h), (2, .int (iI (P))), (3, .int (iI (ix))), (4, .int (iI ((k : Nat))))]) [0, 1, 2, 3, 4, 5, 6, 7] (lc (lI (by first | rfl | omega)) (lc rfl (lc rfl (lc rfl (lc rfl (lc rfl (lc rfl (lc rfl rfl)))))))) ?_
      exact L66 _ 0 (fun _ => 0) M40 (by omega) (by rw [u1]; congr 7; omega) (by rw [u2, fam_row0]) u3 u4 (fun j hj => by omega) keep kp7 (Nat.lt_succ_self _)
    · refine mv_iconst (z := -1) B d_Register_addFamily_19 rfl ?_
      rw [hQ]
      exact mv_iret B (Or.inl ⟨by omega, rfl, rfl⟩) (by omega) (by omega) d_Register_addFamily_20
