/-! the beginning -/
def s00 : SS := (0, fun _ => [], 0, fun _ => (0, 0, 0, 0, 0, none, 0, 0))
theorem Jv_00 : Jv s00 := ⟨⟨Nat.zero_le _, Nat.zero_le _, Nat.zero_le _, fun t ht => absurd ht (Nat.not_lt_zero _), fun g hg => absurd hg (Nat.not_lt_zero _)⟩, fun g hg => absurd hg (Nat.not_lt_zero _)⟩
theorem RefK_00 : RefK 1024 64 s00 := ⟨Nat.zero_le _, by omega, by omega, by omega, by omega, Jv_00⟩
theorem RefP_00 {V : mv_V} {M : mv_M} {r : Nat} {A : Nat → Nat} (h : RefC V M r A (rN 1024 64) (fun _ _ => 0) 0 0 0) : RefP V M r 1024 64 s00 := ⟨A, fun _ _ => 0, h, fun t ht => absurd ht (Nat.not_lt_zero _), fun g hg => absurd hg (Nat.not_lt_zero _)⟩
set_option maxRecDepth 100000 in
set_option maxHeartbeats 4000000 in
theorem m_Fam_init {l : Launch} {V : mv_V} {M : mv_M} {x : Nat} (hx : M x = some (.inr (6, [va_rf none, va_rf none, va_rf none, va_rf none]))) : Met l y_Fam_init ws_Fam_init (rM 2 7 2618 50) (mv_Pre (kk V) [.ref x] M) (mv_Q (kk V) (fun z0 M' => z0 = none ∧ ClsP V M' x s00)) 7 2618 V.2.2.2.2 := by
  refine mv_Met (by decide) rfl (Nat.le_of_ble_eq_true rfl) (fun X hX B => ?_)
  subst hX
  replace B : mv_B X (kk V) c_Fam_init ws_Fam_init "FamilyRules" 2 (Option.none : Option Jvm.ClassFile.FieldType) (rM 2 7 2618 50) "<init>" := B
  obtain ⟨Q, hQ⟩ : ∃ Q, Q = mv_E X (kk V) (fun z0 M' => z0 = none ∧ ClsP V M' x s00) 7 2618 := ⟨_, rfl⟩
  rw [← hQ]
  show mv_G X Q (kk V) 2 0 [(0, .ref x)] [] M 0 0
  have hrc : (rM 2 7 2618 50).cells = 7 := rfl
  have hrs : (rM 2 7 2618 50).slots = 2618 := rfl
  refine mv_aloadR_n B d_Fam_init_0 rfl 0 rfl ?_
  refine mv_objInit B (mwc (mw_t 16 (by decide +kernel) (by decide +kernel))) (mwc (mw_t 17 (by decide +kernel) (by decide +kernel))) (mwc (mw_t 18 (by decide +kernel) (by decide +kernel))) d_Fam_init_1 (Nat.le_of_ble_eq_true rfl) (Nat.le_of_ble_eq_true rfl) ?_
  refine nc_Fam_7 B (by omega) (by omega) d_Fam_init_4 (fun q1 fq2 => ?_)
  obtain ⟨M3, hM4⟩ : ∃ My : mv_M, My = mv_up M q1 (.inr (4, [va_rf (none), va_rf (none), .int (iI (0)), .int (iI (0)), .int (iI (0))])) := ⟨_, rfl⟩
  rw [← hM4]
  have hf5 : M3 x = some (.inr (6, [va_rf (none), va_rf (none), va_rf (none), va_rf (none)])) := by rw [hM4, mv_un (Nat.ne_of_lt (fq2 _ _ hx))]; exact hx
  have hf6 : M3 q1 = some (.inr (4, [va_rf (none), va_rf (none), .int (iI (0)), .int (iI (0)), .int (iI (0))])) := by rw [hM4]; exact mv_us
  refine mv_dup B d_Fam_init_7 rfl ?_
  refine ca_Fam_9 (mc := 1) (ms := 1000) (rm' := rM 1 1 1000 20) (As := []) (rest := [.ref q1]) B (m_Reader_init hf6) rfl rfl ⟨Nat.le_of_ble_eq_true rfl, Nat.le_of_ble_eq_true rfl⟩ rfl rfl (Nat.le_of_ble_eq_true rfl) d_Fam_init_8 ⟨by omega, by omega⟩ (fun v1 Mi8 ep => ?_)
  obtain ⟨e1, row9, k7a, k7b, k7c, k7d⟩ := ep
  subst e1
  have hf10 : Mi8 x = some (.inr (6, [va_rf (none), va_rf (none), va_rf (none), va_rf (none)])) := k7c _ _ hf5 (mv_ne hf5 hf6 (by simp))
  show mv_G X Q (kk V) 2 11 [(0, .ref x)] [.ref q1] Mi8 ((0 + 1) + 1) ((0 + 5) + 1000)
  refine mv_astoreR_n (lv' := [(1, .ref q1), (0, .ref x)]) B d_Fam_init_11 rfl (by decide) rfl ?_
  refine mv_aloadR_n B d_Fam_init_12 rfl 1 rfl ?_
  refine nc_Fam_10 B (by omega) (by omega) d_Fam_init_13 (fun q11 fq12 => ?_)
  obtain ⟨M13, hM14⟩ : ∃ My : mv_M, My = mv_up Mi8 q11 (.inr (1, [va_rf (none), .int (iI (0)), .int (iI (0))])) := ⟨_, rfl⟩
  rw [← hM14]
  have hf15 : M13 x = some (.inr (6, [va_rf (none), va_rf (none), va_rf (none), va_rf (none)])) := by rw [hM14, mv_un (Nat.ne_of_lt (fq12 _ _ hf10))]; exact hf10
  have hf16 : M13 q1 = some (.inr (4, [.ref row9, va_rf (none), .int (iI (0)), .int (iI (0)), .int (iI (0))])) := by rw [hM14, mv_un (Nat.ne_of_lt (fq12 _ _ k7a))]; exact k7a
  have hf17 : M13 row9 = some (iA V 1000 (fun _ => 0)) := by rw [hM14, mv_un (Nat.ne_of_lt (fq12 _ _ k7b))]; exact k7b
  have hf18 : M13 q11 = some (.inr (1, [va_rf (none), .int (iI (0)), .int (iI (0))])) := by rw [hM14]; exact mv_us
  refine mv_dup B d_Fam_init_16 rfl ?_
  refine ca_Fam_12 (mc := 1) (ms := 1500) (rm' := rM 1 1 1500 20) (As := []) (rest := [.ref q11, .ref x]) B (m_Shelf_init hf18) rfl rfl ⟨Nat.le_of_ble_eq_true rfl, Nat.le_of_ble_eq_true rfl⟩ rfl rfl (Nat.le_of_ble_eq_true rfl) d_Fam_init_17 ⟨by omega, by omega⟩ (fun v1 Mi20 ep => ?_)
  obtain ⟨e1, row21, k19a, k19b, k19c, k19d⟩ := ep
  subst e1
  have hf22 : Mi20 x = some (.inr (6, [va_rf (none), va_rf (none), va_rf (none), va_rf (none)])) := k19c _ _ hf15 (mv_ne hf15 hf18 (by simp))
  have hf23 : Mi20 q1 = some (.inr (4, [.ref row9, va_rf (none), .int (iI (0)), .int (iI (0)), .int (iI (0))])) := k19c _ _ hf16 (mv_ne hf16 hf18 (by simp))
  have hf24 : Mi20 row9 = some (iA V 1000 (fun _ => 0)) := k19c _ _ hf17 (mv_ne hf17 hf18 (by simp))
  show mv_G X Q (kk V) 2 20 [(1, .ref q1), (0, .ref x)] [.ref q11, .ref x] Mi20 ((((0 + 1) + 1) + 1) + 1) ((((0 + 5) + 1000) + 3) + 1500)
  refine pF_Fam_13 B hf22 rfl rfl (Nat.le_of_ble_eq_true rfl) d_Fam_init_20 ?_
  show mv_G X Q (kk V) 2 23 [(1, .ref q1), (0, .ref x)] [] (mv_up Mi20 x (.inr (6, [.ref q11, va_rf (none), va_rf (none), va_rf (none)]))) ((((0 + 1) + 1) + 1) + 1) ((((0 + 5) + 1000) + 3) + 1500)
  obtain ⟨M25, hM26⟩ : ∃ My : mv_M, My = mv_up Mi20 x (.inr (6, [.ref q11, va_rf (none), va_rf (none), va_rf (none)])) := ⟨_, rfl⟩
  rw [← hM26]
  have hf27 : M25 x = some (.inr (6, [.ref q11, va_rf (none), va_rf (none), va_rf (none)])) := by rw [hM26]; exact mv_us
  have hf28 : M25 q1 = some (.inr (4, [.ref row9, va_rf (none), .int (iI (0)), .int (iI (0)), .int (iI (0))])) := by rw [hM26, mv_un (Ne.symm (Nat.ne_of_lt (fq2 _ _ hx)))]; exact hf23
  have hf29 : M25 row9 = some (iA V 1000 (fun _ => 0)) := by rw [hM26, mv_un (mv_ne hf24 hf22 (by simp))]; exact hf24
  have hf30 : M25 q11 = some (.inr (1, [.ref row21, .int (iI (0)), .int (iI (0))])) := by rw [hM26, mv_un (Ne.symm (Nat.ne_of_lt (fq12 _ _ hf10)))]; exact k19a
  have hf31 : M25 row21 = some (tA V 1500 (fun _ => none)) := by rw [hM26, mv_un (mv_ne k19b hf22 (by simp))]; exact k19b
  refine mv_aloadR_n B d_Fam_init_23 rfl 1 rfl ?_
  refine nc_Fam_19 B (by omega) (by omega) d_Fam_init_24 (fun q32 fq33 => ?_)
  obtain ⟨M34, hM35⟩ : ∃ My : mv_M, My = mv_up M25 q32 (.inr (3, [va_rf (none), .int (iI (0))])) := ⟨_, rfl⟩
  rw [← hM35]
  have hf36 : M34 x = some (.inr (6, [.ref q11, va_rf (none), va_rf (none), va_rf (none)])) := by rw [hM35, mv_un (Nat.ne_of_lt (fq33 _ _ hf27))]; exact hf27
  have hf37 : M34 q1 = some (.inr (4, [.ref row9, va_rf (none), .int (iI (0)), .int (iI (0)), .int (iI (0))])) := by rw [hM35, mv_un (Nat.ne_of_lt (fq33 _ _ hf28))]; exact hf28
  have hf38 : M34 row9 = some (iA V 1000 (fun _ => 0)) := by rw [hM35, mv_un (Nat.ne_of_lt (fq33 _ _ hf29))]; exact hf29
  have hf39 : M34 q11 = some (.inr (1, [.ref row21, .int (iI (0)), .int (iI (0))])) := by rw [hM35, mv_un (Nat.ne_of_lt (fq33 _ _ hf30))]; exact hf30
  have hf40 : M34 row21 = some (tA V 1500 (fun _ => none)) := by rw [hM35, mv_un (Nat.ne_of_lt (fq33 _ _ hf31))]; exact hf31
  have hf41 : M34 q32 = some (.inr (3, [va_rf (none), .int (iI (0))])) := by rw [hM35]; exact mv_us
  refine mv_dup B d_Fam_init_27 rfl ?_
  refine ca_Fam_21 (mc := 1) (ms := 100) (rm' := rM 1 1 100 20) (As := []) (rest := [.ref q32, .ref x]) B (m_Register_init hf41) rfl rfl ⟨Nat.le_of_ble_eq_true rfl, Nat.le_of_ble_eq_true rfl⟩ rfl rfl (Nat.le_of_ble_eq_true rfl) d_Fam_init_28 ⟨by omega, by omega⟩ (fun v1 Mi43 ep => ?_)
  obtain ⟨e1, row44, k42a, k42b, k42c, k42d⟩ := ep
  subst e1
  have hf45 : Mi43 x = some (.inr (6, [.ref q11, va_rf (none), va_rf (none), va_rf (none)])) := k42c _ _ hf36 (mv_ne hf36 hf41 (by simp))
  have hf46 : Mi43 q1 = some (.inr (4, [.ref row9, va_rf (none), .int (iI (0)), .int (iI (0)), .int (iI (0))])) := k42c _ _ hf37 (mv_ne hf37 hf41 (by simp))
  have hf47 : Mi43 row9 = some (iA V 1000 (fun _ => 0)) := k42c _ _ hf38 (mv_ne hf38 hf41 (by simp))
  have hf48 : Mi43 q11 = some (.inr (1, [.ref row21, .int (iI (0)), .int (iI (0))])) := k42c _ _ hf39 (mv_ne hf39 hf41 (by simp))
  have hf49 : Mi43 row21 = some (tA V 1500 (fun _ => none)) := k42c _ _ hf40 (mv_ne hf40 hf41 (by simp))
  show mv_G X Q (kk V) 2 31 [(1, .ref q1), (0, .ref x)] [.ref q32, .ref x] Mi43 ((((((0 + 1) + 1) + 1) + 1) + 1) + 1) ((((((0 + 5) + 1000) + 3) + 1500) + 2) + 100)
  refine pF_Fam_22 B hf45 rfl rfl (Nat.le_of_ble_eq_true rfl) d_Fam_init_31 ?_
  show mv_G X Q (kk V) 2 34 [(1, .ref q1), (0, .ref x)] [] (mv_up Mi43 x (.inr (6, [.ref q11, .ref q32, va_rf (none), va_rf (none)]))) ((((((0 + 1) + 1) + 1) + 1) + 1) + 1) ((((((0 + 5) + 1000) + 3) + 1500) + 2) + 100)
  obtain ⟨M50, hM51⟩ : ∃ My : mv_M, My = mv_up Mi43 x (.inr (6, [.ref q11, .ref q32, va_rf (none), va_rf (none)])) := ⟨_, rfl⟩
  rw [← hM51]
  have hf52 : M50 x = some (.inr (6, [.ref q11, .ref q32, va_rf (none), va_rf (none)])) := by rw [hM51]; exact mv_us
  have hf53 : M50 q1 = some (.inr (4, [.ref row9, va_rf (none), .int (iI (0)), .int (iI (0)), .int (iI (0))])) := by rw [hM51, mv_un (Ne.symm (Nat.ne_of_lt (fq2 _ _ hx)))]; exact hf46
  have hf54 : M50 row9 = some (iA V 1000 (fun _ => 0)) := by rw [hM51, mv_un (mv_ne hf47 hf45 (by simp))]; exact hf47
  have hf55 : M50 q11 = some (.inr (1, [.ref row21, .int (iI (0)), .int (iI (0))])) := by rw [hM51, mv_un (Ne.symm (Nat.ne_of_lt (fq12 _ _ hf10)))]; exact hf48
  have hf56 : M50 row21 = some (tA V 1500 (fun _ => none)) := by rw [hM51, mv_un (mv_ne hf49 hf45 (by simp))]; exact hf49
  have hf57 : M50 q32 = some (.inr (3, [.ref row44, .int (iI (0))])) := by rw [hM51, mv_un (Ne.symm (Nat.ne_of_lt (fq33 _ _ hf27)))]; exact k42a
  have hf58 : M50 row44 = some (gA V 100 (fun _ => none)) := by rw [hM51, mv_un (mv_ne k42b hf45 (by simp))]; exact k42b
  refine mv_aloadR_n B d_Fam_init_34 rfl 1 rfl ?_
  refine mv_aloadR_n B d_Fam_init_35 rfl 0 rfl ?_
  refine pF_Fam_26 B hf52 rfl rfl (Nat.le_of_ble_eq_true rfl) d_Fam_init_36 ?_
  show mv_G X Q (kk V) 2 39 [(1, .ref q1), (0, .ref x)] [] (mv_up M50 x (.inr (6, [.ref q11, .ref q32, .ref q1, va_rf (none)]))) ((((((0 + 1) + 1) + 1) + 1) + 1) + 1) ((((((0 + 5) + 1000) + 3) + 1500) + 2) + 100)
  obtain ⟨M59, hM60⟩ : ∃ My : mv_M, My = mv_up M50 x (.inr (6, [.ref q11, .ref q32, .ref q1, va_rf (none)])) := ⟨_, rfl⟩
  rw [← hM60]
  have hf61 : M59 x = some (.inr (6, [.ref q11, .ref q32, .ref q1, va_rf (none)])) := by rw [hM60]; exact mv_us
  have hf62 : M59 q1 = some (.inr (4, [.ref row9, va_rf (none), .int (iI (0)), .int (iI (0)), .int (iI (0))])) := by rw [hM60, mv_un (Ne.symm (Nat.ne_of_lt (fq2 _ _ hx)))]; exact hf53
  have hf63 : M59 row9 = some (iA V 1000 (fun _ => 0)) := by rw [hM60, mv_un (mv_ne hf54 hf52 (by simp))]; exact hf54
  have hf64 : M59 q11 = some (.inr (1, [.ref row21, .int (iI (0)), .int (iI (0))])) := by rw [hM60, mv_un (Ne.symm (Nat.ne_of_lt (fq12 _ _ hf10)))]; exact hf55
  have hf65 : M59 row21 = some (tA V 1500 (fun _ => none)) := by rw [hM60, mv_un (mv_ne hf56 hf52 (by simp))]; exact hf56
  have hf66 : M59 q32 = some (.inr (3, [.ref row44, .int (iI (0))])) := by rw [hM60, mv_un (Ne.symm (Nat.ne_of_lt (fq33 _ _ hf27)))]; exact hf57
  have hf67 : M59 row44 = some (gA V 100 (fun _ => none)) := by rw [hM60, mv_un (mv_ne hf58 hf52 (by simp))]; exact hf58
  refine mv_aloadR_n B d_Fam_init_39 rfl 1 rfl ?_
  refine nc_Fam_30 B (by omega) (by omega) d_Fam_init_40 (fun q68 fq69 => ?_)
  obtain ⟨M70, hM71⟩ : ∃ My : mv_M, My = mv_up M59 q68 (.inr (5, [va_rf (none), va_rf (none), .int (iI (0)), va_rf (none), .int (iI (0)), .int (iI (0)), .int (iI (0)), .int (iI (0))])) := ⟨_, rfl⟩
  rw [← hM71]
  have hf72 : M70 x = some (.inr (6, [.ref q11, .ref q32, .ref q1, va_rf (none)])) := by rw [hM71, mv_un (Nat.ne_of_lt (fq69 _ _ hf61))]; exact hf61
  have hf73 : M70 q1 = some (.inr (4, [.ref row9, va_rf (none), .int (iI (0)), .int (iI (0)), .int (iI (0))])) := by rw [hM71, mv_un (Nat.ne_of_lt (fq69 _ _ hf62))]; exact hf62
  have hf74 : M70 row9 = some (iA V 1000 (fun _ => 0)) := by rw [hM71, mv_un (Nat.ne_of_lt (fq69 _ _ hf63))]; exact hf63
  have hf75 : M70 q11 = some (.inr (1, [.ref row21, .int (iI (0)), .int (iI (0))])) := by rw [hM71, mv_un (Nat.ne_of_lt (fq69 _ _ hf64))]; exact hf64
  have hf76 : M70 row21 = some (tA V 1500 (fun _ => none)) := by rw [hM71, mv_un (Nat.ne_of_lt (fq69 _ _ hf65))]; exact hf65
  have hf77 : M70 q32 = some (.inr (3, [.ref row44, .int (iI (0))])) := by rw [hM71, mv_un (Nat.ne_of_lt (fq69 _ _ hf66))]; exact hf66
  have hf78 : M70 row44 = some (gA V 100 (fun _ => none)) := by rw [hM71, mv_un (Nat.ne_of_lt (fq69 _ _ hf67))]; exact hf67
  have hf79 : M70 q68 = some (.inr (5, [va_rf (none), va_rf (none), .int (iI (0)), va_rf (none), .int (iI (0)), .int (iI (0)), .int (iI (0)), .int (iI (0))])) := by rw [hM71]; exact mv_us
  refine mv_dup B d_Fam_init_43 rfl ?_
  refine mv_aloadR_n B d_Fam_init_44 rfl 0 rfl ?_
  refine ca_Fam_32 (mc := 0) (ms := 0) (rm' := rM 1 0 0 20) (As := [.ref q1]) (rest := [.ref q68, .ref x]) B (m_Maker_init hf79) rfl rfl ⟨Nat.le_of_ble_eq_true rfl, Nat.le_of_ble_eq_true rfl⟩ rfl rfl (Nat.le_of_ble_eq_true rfl) d_Fam_init_45 ⟨by omega, by omega⟩ (mv_x ?_)
  show mv_G X Q (kk V) 2 48 [(1, .ref q1), (0, .ref x)] [.ref q68, .ref x] (mv_up M70 q68 (.inr (5, [.ref q1, va_rf (none), .int (iI (0)), va_rf (none), .int (iI (0)), .int (iI (0)), .int (iI (0)), .int (iI (0))]))) (((((((0 + 1) + 1) + 1) + 1) + 1) + 1) + 1) (((((((0 + 5) + 1000) + 3) + 1500) + 2) + 100) + 8)
  obtain ⟨M80, hM81⟩ : ∃ My : mv_M, My = mv_up M70 q68 (.inr (5, [.ref q1, va_rf (none), .int (iI (0)), va_rf (none), .int (iI (0)), .int (iI (0)), .int (iI (0)), .int (iI (0))])) := ⟨_, rfl⟩
  rw [← hM81]
  have hf82 : M80 x = some (.inr (6, [.ref q11, .ref q32, .ref q1, va_rf (none)])) := by rw [hM81, mv_un (Nat.ne_of_lt (fq69 _ _ hf61))]; exact hf72
  have hf83 : M80 q1 = some (.inr (4, [.ref row9, va_rf (none), .int (iI (0)), .int (iI (0)), .int (iI (0))])) := by rw [hM81, mv_un (Nat.ne_of_lt (fq69 _ _ hf62))]; exact hf73
  have hf84 : M80 row9 = some (iA V 1000 (fun _ => 0)) := by rw [hM81, mv_un (Nat.ne_of_lt (fq69 _ _ hf63))]; exact hf74
  have hf85 : M80 q11 = some (.inr (1, [.ref row21, .int (iI (0)), .int (iI (0))])) := by rw [hM81, mv_un (Nat.ne_of_lt (fq69 _ _ hf64))]; exact hf75
  have hf86 : M80 row21 = some (tA V 1500 (fun _ => none)) := by rw [hM81, mv_un (Nat.ne_of_lt (fq69 _ _ hf65))]; exact hf76
  have hf87 : M80 q32 = some (.inr (3, [.ref row44, .int (iI (0))])) := by rw [hM81, mv_un (Nat.ne_of_lt (fq69 _ _ hf66))]; exact hf77
  have hf88 : M80 row44 = some (gA V 100 (fun _ => none)) := by rw [hM81, mv_un (Nat.ne_of_lt (fq69 _ _ hf67))]; exact hf78
  have hf89 : M80 q68 = some (.inr (5, [.ref q1, va_rf (none), .int (iI (0)), va_rf (none), .int (iI (0)), .int (iI (0)), .int (iI (0)), .int (iI (0))])) := by rw [hM81]; exact mv_us
  refine pF_Fam_35 B hf82 rfl rfl (Nat.le_of_ble_eq_true rfl) d_Fam_init_48 ?_
  show mv_G X Q (kk V) 2 51 [(1, .ref q1), (0, .ref x)] [] (mv_up M80 x (.inr (6, [.ref q11, .ref q32, .ref q1, .ref q68]))) (((((((0 + 1) + 1) + 1) + 1) + 1) + 1) + 1) (((((((0 + 5) + 1000) + 3) + 1500) + 2) + 100) + 8)
  obtain ⟨M90, hM91⟩ : ∃ My : mv_M, My = mv_up M80 x (.inr (6, [.ref q11, .ref q32, .ref q1, .ref q68])) := ⟨_, rfl⟩
  rw [← hM91]
  have hf92 : M90 x = some (.inr (6, [.ref q11, .ref q32, .ref q1, .ref q68])) := by rw [hM91]; exact mv_us
  have hf93 : M90 q1 = some (.inr (4, [.ref row9, va_rf (none), .int (iI (0)), .int (iI (0)), .int (iI (0))])) := by rw [hM91, mv_un (Ne.symm (Nat.ne_of_lt (fq2 _ _ hx)))]; exact hf83
  have hf94 : M90 row9 = some (iA V 1000 (fun _ => 0)) := by rw [hM91, mv_un (mv_ne hf84 hf82 (by simp))]; exact hf84
  have hf95 : M90 q11 = some (.inr (1, [.ref row21, .int (iI (0)), .int (iI (0))])) := by rw [hM91, mv_un (Ne.symm (Nat.ne_of_lt (fq12 _ _ hf10)))]; exact hf85
  have hf96 : M90 row21 = some (tA V 1500 (fun _ => none)) := by rw [hM91, mv_un (mv_ne hf86 hf82 (by simp))]; exact hf86
  have hf97 : M90 q32 = some (.inr (3, [.ref row44, .int (iI (0))])) := by rw [hM91, mv_un (Ne.symm (Nat.ne_of_lt (fq33 _ _ hf27)))]; exact hf87
  have hf98 : M90 row44 = some (gA V 100 (fun _ => none)) := by rw [hM91, mv_un (mv_ne hf88 hf82 (by simp))]; exact hf88
  have hf99 : M90 q68 = some (.inr (5, [.ref q1, va_rf (none), .int (iI (0)), va_rf (none), .int (iI (0)), .int (iI (0)), .int (iI (0)), .int (iI (0))])) := by rw [hM91, mv_un (Ne.symm (Nat.ne_of_lt (fq69 _ _ hf61)))]; exact hf89
  rw [hQ]
  exact mv_vret B ⟨rfl, q11, q32, q1, q68, row21, row44, row9, fun _ => 0, fun _ => q00, fun _ => t00, fun _ => 0, fun _ => 0, _, _, ⟨hf92, hf95, hf96, hf97, hf98, ⟨_, _, _, _, hf93⟩, ⟨_, hf94, fun _ => by omega⟩, ⟨_, _, _, _, _, _, _, hf99⟩⟩, fun t ht => absurd ht (Nat.not_lt_zero _), fun g hg => absurd hg (Nat.not_lt_zero _), fun g _ hg => absurd hg (Nat.not_lt_zero _)⟩ (by omega) (by omega) d_Fam_init_51
