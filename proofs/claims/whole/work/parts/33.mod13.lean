/-! the reference: its constructor -/
theorem inj13 {A : Nat → Nat} (h : ∀ i, i < 12 → A i < A (i + 1)) : ∀ i j, i < 13 → j < 13 → A i = A j → i = j := by
  have mono : ∀ d i, i + d + 1 < 13 → A i < A (i + d + 1) := by
    intro d
    induction d with
    | zero => intro i hi; exact h i (by omega)
    | succ d ih => intro i hi; exact Nat.lt_trans (ih i (by omega)) (h (i + d + 1) (by omega))
  intro i j hi hj e
  apply Classical.byContradiction
  intro q
  rcases Nat.lt_or_ge i j with l | l
  · have := mono (j - i - 1) i (by omega)
    rw [show i + (j - i - 1) + 1 = j by omega] at this
    omega
  · have := mono (i - j - 1) j (by omega)
    rw [show j + (i - j - 1) + 1 = i by omega] at this
    omega
set_option maxRecDepth 100000 in
set_option maxHeartbeats 4000000 in
theorem m_Mod_init {l : Launch} {V : mv_V} {M : mv_M} {r : Nat} (hr : M r = some (.inr (7, [va_rf (none), va_rf (none), va_rf (none), va_rf (none), va_rf (none), .int (iI (0)), va_rf (none), .int (iI (0)), va_rf (none), va_rf (none), va_rf (none), va_rf (none), va_rf (none), va_rf (none), .int (iI (0)), va_rf (none)]))) : Met l y_Mod_init ws_Mod_init (rM 1 13 7284 20) (mv_Pre (kk V) [.ref r] M) (mv_Q (kk V) (fun z0 M' => z0 = none ∧ ∃ A, RefC V M' r A (rN 1024 64) (fun _ _ => 0) 0 0 0)) 13 7284 V.2.2.2.2 := by
  refine mv_Met (by decide) rfl (Nat.le_of_ble_eq_true rfl) (fun X hX B => ?_)
  subst hX
  replace B : mv_B X (kk V) c_Mod_init ws_Mod_init "FamilyRulesModel" 1 (Option.none : Option Jvm.ClassFile.FieldType) (rM 1 13 7284 20) "<init>" := B
  obtain ⟨Q, hQ⟩ : ∃ Q, Q = mv_E X (kk V) (fun z0 M' => z0 = none ∧ ∃ A, RefC V M' r A (rN 1024 64) (fun _ _ => 0) 0 0 0) 13 7284 := ⟨_, rfl⟩
  rw [← hQ]
  show mv_G X Q (kk V) 1 0 [(0, .ref r)] [] M 0 0
  have hrc : (rM 1 13 7284 20).cells = 13 := rfl
  have hrs : (rM 1 13 7284 20).slots = 7284 := rfl
  refine mv_aloadR_n B d_Mod_init_0 rfl 0 rfl ?_
  refine mv_objInit B (mwc (mw_t 485 (by decide +kernel) (by decide +kernel))) (mwc (mw_t 17 (by decide +kernel) (by decide +kernel))) (mwc (mw_t 18 (by decide +kernel) (by decide +kernel))) d_Mod_init_1 (Nat.le_of_ble_eq_true rfl) (Nat.le_of_ble_eq_true rfl) ?_
  refine mv_aloadR_n B d_Mod_init_4 rfl 0 rfl ?_
  refine mv_sipush (z := 1024) B d_Mod_init_5 (by decide) ?_
  refine ia_new (n := 1024) B (mw_t 44 (by decide +kernel) (by decide +kernel)) (by omega) (by omega) (by omega) (by omega) d_Mod_init_8 (fun q1 fq2 => ?_)
  obtain ⟨M3, hM4⟩ : ∃ My : mv_M, My = mv_up M q1 (iA V 1024 (fun _ => 0)) := ⟨_, rfl⟩
  rw [← hM4]
  have hf5 : M3 r = some (.inr (7, [va_rf (none), va_rf (none), va_rf (none), va_rf (none), va_rf (none), .int (iI (0)), va_rf (none), .int (iI (0)), va_rf (none), va_rf (none), va_rf (none), va_rf (none), va_rf (none), va_rf (none), .int (iI (0)), va_rf (none)])) := by rw [hM4, mv_un (Nat.ne_of_lt (fq2 _ _ hr))]; exact hr
  have hf6 : M3 q1 = some (iA V 1024 (fun _ => 0)) := by rw [hM4]; exact mv_us
  refine pf_Mod_7 B hf5 rfl rfl (Nat.le_of_ble_eq_true rfl) d_Mod_init_10 ?_
  show mv_G X Q (kk V) 1 13 [(0, .ref r)] [] (mv_up M3 r (.inr (7, [.ref q1, va_rf (none), va_rf (none), va_rf (none), va_rf (none), .int (iI (0)), va_rf (none), .int (iI (0)), va_rf (none), va_rf (none), va_rf (none), va_rf (none), va_rf (none), va_rf (none), .int (iI (0)), va_rf (none)]))) (0 + 1) (0 + 1024)
  obtain ⟨M7, hM8⟩ : ∃ My : mv_M, My = mv_up M3 r (.inr (7, [.ref q1, va_rf (none), va_rf (none), va_rf (none), va_rf (none), .int (iI (0)), va_rf (none), .int (iI (0)), va_rf (none), va_rf (none), va_rf (none), va_rf (none), va_rf (none), va_rf (none), .int (iI (0)), va_rf (none)])) := ⟨_, rfl⟩
  rw [← hM8]
  have hf9 : M7 r = some (.inr (7, [.ref q1, va_rf (none), va_rf (none), va_rf (none), va_rf (none), .int (iI (0)), va_rf (none), .int (iI (0)), va_rf (none), va_rf (none), va_rf (none), va_rf (none), va_rf (none), va_rf (none), .int (iI (0)), va_rf (none)])) := by rw [hM8]; exact mv_us
  have hf10 : M7 q1 = some (iA V 1024 (fun _ => 0)) := by rw [hM8, mv_un (Ne.symm (Nat.ne_of_lt (fq2 _ _ hr)))]; exact hf6
  refine mv_aloadR_n B d_Mod_init_13 rfl 0 rfl ?_
  refine mv_sipush (z := 1024) B d_Mod_init_14 (by decide) ?_
  refine ia_new (n := 1024) B (mw_t 44 (by decide +kernel) (by decide +kernel)) (by omega) (by omega) (by omega) (by omega) d_Mod_init_17 (fun q11 fq12 => ?_)
  obtain ⟨M13, hM14⟩ : ∃ My : mv_M, My = mv_up M7 q11 (iA V 1024 (fun _ => 0)) := ⟨_, rfl⟩
  rw [← hM14]
  have hf15 : M13 r = some (.inr (7, [.ref q1, va_rf (none), va_rf (none), va_rf (none), va_rf (none), .int (iI (0)), va_rf (none), .int (iI (0)), va_rf (none), va_rf (none), va_rf (none), va_rf (none), va_rf (none), va_rf (none), .int (iI (0)), va_rf (none)])) := by rw [hM14, mv_un (Nat.ne_of_lt (fq12 _ _ hf9))]; exact hf9
  have hf16 : M13 q1 = some (iA V 1024 (fun _ => 0)) := by rw [hM14, mv_un (Nat.ne_of_lt (fq12 _ _ hf10))]; exact hf10
  have hf17 : M13 q11 = some (iA V 1024 (fun _ => 0)) := by rw [hM14]; exact mv_us
  refine pf_Mod_13 B hf15 rfl rfl (Nat.le_of_ble_eq_true rfl) d_Mod_init_19 ?_
  show mv_G X Q (kk V) 1 22 [(0, .ref r)] [] (mv_up M13 r (.inr (7, [.ref q1, .ref q11, va_rf (none), va_rf (none), va_rf (none), .int (iI (0)), va_rf (none), .int (iI (0)), va_rf (none), va_rf (none), va_rf (none), va_rf (none), va_rf (none), va_rf (none), .int (iI (0)), va_rf (none)]))) ((0 + 1) + 1) ((0 + 1024) + 1024)
  obtain ⟨M18, hM19⟩ : ∃ My : mv_M, My = mv_up M13 r (.inr (7, [.ref q1, .ref q11, va_rf (none), va_rf (none), va_rf (none), .int (iI (0)), va_rf (none), .int (iI (0)), va_rf (none), va_rf (none), va_rf (none), va_rf (none), va_rf (none), va_rf (none), .int (iI (0)), va_rf (none)])) := ⟨_, rfl⟩
  rw [← hM19]
  have hf20 : M18 r = some (.inr (7, [.ref q1, .ref q11, va_rf (none), va_rf (none), va_rf (none), .int (iI (0)), va_rf (none), .int (iI (0)), va_rf (none), va_rf (none), va_rf (none), va_rf (none), va_rf (none), va_rf (none), .int (iI (0)), va_rf (none)])) := by rw [hM19]; exact mv_us
  have hf21 : M18 q1 = some (iA V 1024 (fun _ => 0)) := by rw [hM19, mv_un (Ne.symm (Nat.ne_of_lt (fq2 _ _ hr)))]; exact hf16
  have hf22 : M18 q11 = some (iA V 1024 (fun _ => 0)) := by rw [hM19, mv_un (Ne.symm (Nat.ne_of_lt (fq12 _ _ hf9)))]; exact hf17
  refine mv_aloadR_n B d_Mod_init_22 rfl 0 rfl ?_
  refine mv_sipush (z := 1024) B d_Mod_init_23 (by decide) ?_
  refine ia_new (n := 1024) B (mw_t 44 (by decide +kernel) (by decide +kernel)) (by omega) (by omega) (by omega) (by omega) d_Mod_init_26 (fun q23 fq24 => ?_)
  obtain ⟨M25, hM26⟩ : ∃ My : mv_M, My = mv_up M18 q23 (iA V 1024 (fun _ => 0)) := ⟨_, rfl⟩
  rw [← hM26]
  have hf27 : M25 r = some (.inr (7, [.ref q1, .ref q11, va_rf (none), va_rf (none), va_rf (none), .int (iI (0)), va_rf (none), .int (iI (0)), va_rf (none), va_rf (none), va_rf (none), va_rf (none), va_rf (none), va_rf (none), .int (iI (0)), va_rf (none)])) := by rw [hM26, mv_un (Nat.ne_of_lt (fq24 _ _ hf20))]; exact hf20
  have hf28 : M25 q1 = some (iA V 1024 (fun _ => 0)) := by rw [hM26, mv_un (Nat.ne_of_lt (fq24 _ _ hf21))]; exact hf21
  have hf29 : M25 q11 = some (iA V 1024 (fun _ => 0)) := by rw [hM26, mv_un (Nat.ne_of_lt (fq24 _ _ hf22))]; exact hf22
  have hf30 : M25 q23 = some (iA V 1024 (fun _ => 0)) := by rw [hM26]; exact mv_us
  refine pf_Mod_16 B hf27 rfl rfl (Nat.le_of_ble_eq_true rfl) d_Mod_init_28 ?_
  show mv_G X Q (kk V) 1 31 [(0, .ref r)] [] (mv_up M25 r (.inr (7, [.ref q1, .ref q11, .ref q23, va_rf (none), va_rf (none), .int (iI (0)), va_rf (none), .int (iI (0)), va_rf (none), va_rf (none), va_rf (none), va_rf (none), va_rf (none), va_rf (none), .int (iI (0)), va_rf (none)]))) (((0 + 1) + 1) + 1) (((0 + 1024) + 1024) + 1024)
  obtain ⟨M31, hM32⟩ : ∃ My : mv_M, My = mv_up M25 r (.inr (7, [.ref q1, .ref q11, .ref q23, va_rf (none), va_rf (none), .int (iI (0)), va_rf (none), .int (iI (0)), va_rf (none), va_rf (none), va_rf (none), va_rf (none), va_rf (none), va_rf (none), .int (iI (0)), va_rf (none)])) := ⟨_, rfl⟩
  rw [← hM32]
  have hf33 : M31 r = some (.inr (7, [.ref q1, .ref q11, .ref q23, va_rf (none), va_rf (none), .int (iI (0)), va_rf (none), .int (iI (0)), va_rf (none), va_rf (none), va_rf (none), va_rf (none), va_rf (none), va_rf (none), .int (iI (0)), va_rf (none)])) := by rw [hM32]; exact mv_us
  have hf34 : M31 q1 = some (iA V 1024 (fun _ => 0)) := by rw [hM32, mv_un (Ne.symm (Nat.ne_of_lt (fq2 _ _ hr)))]; exact hf28
  have hf35 : M31 q11 = some (iA V 1024 (fun _ => 0)) := by rw [hM32, mv_un (Ne.symm (Nat.ne_of_lt (fq12 _ _ hf9)))]; exact hf29
  have hf36 : M31 q23 = some (iA V 1024 (fun _ => 0)) := by rw [hM32, mv_un (Ne.symm (Nat.ne_of_lt (fq24 _ _ hf20)))]; exact hf30
  refine mv_aloadR_n B d_Mod_init_31 rfl 0 rfl ?_
  refine mv_sipush (z := 1024) B d_Mod_init_32 (by decide) ?_
  refine ia_new (n := 1024) B (mw_t 44 (by decide +kernel) (by decide +kernel)) (by omega) (by omega) (by omega) (by omega) d_Mod_init_35 (fun q37 fq38 => ?_)
  obtain ⟨M39, hM40⟩ : ∃ My : mv_M, My = mv_up M31 q37 (iA V 1024 (fun _ => 0)) := ⟨_, rfl⟩
  rw [← hM40]
  have hf41 : M39 r = some (.inr (7, [.ref q1, .ref q11, .ref q23, va_rf (none), va_rf (none), .int (iI (0)), va_rf (none), .int (iI (0)), va_rf (none), va_rf (none), va_rf (none), va_rf (none), va_rf (none), va_rf (none), .int (iI (0)), va_rf (none)])) := by rw [hM40, mv_un (Nat.ne_of_lt (fq38 _ _ hf33))]; exact hf33
  have hf42 : M39 q1 = some (iA V 1024 (fun _ => 0)) := by rw [hM40, mv_un (Nat.ne_of_lt (fq38 _ _ hf34))]; exact hf34
  have hf43 : M39 q11 = some (iA V 1024 (fun _ => 0)) := by rw [hM40, mv_un (Nat.ne_of_lt (fq38 _ _ hf35))]; exact hf35
  have hf44 : M39 q23 = some (iA V 1024 (fun _ => 0)) := by rw [hM40, mv_un (Nat.ne_of_lt (fq38 _ _ hf36))]; exact hf36
  have hf45 : M39 q37 = some (iA V 1024 (fun _ => 0)) := by rw [hM40]; exact mv_us
  refine pf_Mod_19 B hf41 rfl rfl (Nat.le_of_ble_eq_true rfl) d_Mod_init_37 ?_
  show mv_G X Q (kk V) 1 40 [(0, .ref r)] [] (mv_up M39 r (.inr (7, [.ref q1, .ref q11, .ref q23, .ref q37, va_rf (none), .int (iI (0)), va_rf (none), .int (iI (0)), va_rf (none), va_rf (none), va_rf (none), va_rf (none), va_rf (none), va_rf (none), .int (iI (0)), va_rf (none)]))) ((((0 + 1) + 1) + 1) + 1) ((((0 + 1024) + 1024) + 1024) + 1024)
  obtain ⟨M46, hM47⟩ : ∃ My : mv_M, My = mv_up M39 r (.inr (7, [.ref q1, .ref q11, .ref q23, .ref q37, va_rf (none), .int (iI (0)), va_rf (none), .int (iI (0)), va_rf (none), va_rf (none), va_rf (none), va_rf (none), va_rf (none), va_rf (none), .int (iI (0)), va_rf (none)])) := ⟨_, rfl⟩
  rw [← hM47]
  have hf48 : M46 r = some (.inr (7, [.ref q1, .ref q11, .ref q23, .ref q37, va_rf (none), .int (iI (0)), va_rf (none), .int (iI (0)), va_rf (none), va_rf (none), va_rf (none), va_rf (none), va_rf (none), va_rf (none), .int (iI (0)), va_rf (none)])) := by rw [hM47]; exact mv_us
  have hf49 : M46 q1 = some (iA V 1024 (fun _ => 0)) := by rw [hM47, mv_un (Ne.symm (Nat.ne_of_lt (fq2 _ _ hr)))]; exact hf42
  have hf50 : M46 q11 = some (iA V 1024 (fun _ => 0)) := by rw [hM47, mv_un (Ne.symm (Nat.ne_of_lt (fq12 _ _ hf9)))]; exact hf43
  have hf51 : M46 q23 = some (iA V 1024 (fun _ => 0)) := by rw [hM47, mv_un (Ne.symm (Nat.ne_of_lt (fq24 _ _ hf20)))]; exact hf44
  have hf52 : M46 q37 = some (iA V 1024 (fun _ => 0)) := by rw [hM47, mv_un (Ne.symm (Nat.ne_of_lt (fq38 _ _ hf33)))]; exact hf45
  refine mv_aloadR_n B d_Mod_init_40 rfl 0 rfl ?_
  refine mv_sipush (z := 1024) B d_Mod_init_41 (by decide) ?_
  refine ia_new (n := 1024) B (mw_t 44 (by decide +kernel) (by decide +kernel)) (by omega) (by omega) (by omega) (by omega) d_Mod_init_44 (fun q53 fq54 => ?_)
  obtain ⟨M55, hM56⟩ : ∃ My : mv_M, My = mv_up M46 q53 (iA V 1024 (fun _ => 0)) := ⟨_, rfl⟩
  rw [← hM56]
  have hf57 : M55 r = some (.inr (7, [.ref q1, .ref q11, .ref q23, .ref q37, va_rf (none), .int (iI (0)), va_rf (none), .int (iI (0)), va_rf (none), va_rf (none), va_rf (none), va_rf (none), va_rf (none), va_rf (none), .int (iI (0)), va_rf (none)])) := by rw [hM56, mv_un (Nat.ne_of_lt (fq54 _ _ hf48))]; exact hf48
  have hf58 : M55 q1 = some (iA V 1024 (fun _ => 0)) := by rw [hM56, mv_un (Nat.ne_of_lt (fq54 _ _ hf49))]; exact hf49
  have hf59 : M55 q11 = some (iA V 1024 (fun _ => 0)) := by rw [hM56, mv_un (Nat.ne_of_lt (fq54 _ _ hf50))]; exact hf50
  have hf60 : M55 q23 = some (iA V 1024 (fun _ => 0)) := by rw [hM56, mv_un (Nat.ne_of_lt (fq54 _ _ hf51))]; exact hf51
  have hf61 : M55 q37 = some (iA V 1024 (fun _ => 0)) := by rw [hM56, mv_un (Nat.ne_of_lt (fq54 _ _ hf52))]; exact hf52
  have hf62 : M55 q53 = some (iA V 1024 (fun _ => 0)) := by rw [hM56]; exact mv_us
  refine pf_Mod_22 B hf57 rfl rfl (Nat.le_of_ble_eq_true rfl) d_Mod_init_46 ?_
  show mv_G X Q (kk V) 1 49 [(0, .ref r)] [] (mv_up M55 r (.inr (7, [.ref q1, .ref q11, .ref q23, .ref q37, .ref q53, .int (iI (0)), va_rf (none), .int (iI (0)), va_rf (none), va_rf (none), va_rf (none), va_rf (none), va_rf (none), va_rf (none), .int (iI (0)), va_rf (none)]))) (((((0 + 1) + 1) + 1) + 1) + 1) (((((0 + 1024) + 1024) + 1024) + 1024) + 1024)
  obtain ⟨M63, hM64⟩ : ∃ My : mv_M, My = mv_up M55 r (.inr (7, [.ref q1, .ref q11, .ref q23, .ref q37, .ref q53, .int (iI (0)), va_rf (none), .int (iI (0)), va_rf (none), va_rf (none), va_rf (none), va_rf (none), va_rf (none), va_rf (none), .int (iI (0)), va_rf (none)])) := ⟨_, rfl⟩
  rw [← hM64]
  have hf65 : M63 r = some (.inr (7, [.ref q1, .ref q11, .ref q23, .ref q37, .ref q53, .int (iI (0)), va_rf (none), .int (iI (0)), va_rf (none), va_rf (none), va_rf (none), va_rf (none), va_rf (none), va_rf (none), .int (iI (0)), va_rf (none)])) := by rw [hM64]; exact mv_us
  have hf66 : M63 q1 = some (iA V 1024 (fun _ => 0)) := by rw [hM64, mv_un (Ne.symm (Nat.ne_of_lt (fq2 _ _ hr)))]; exact hf58
  have hf67 : M63 q11 = some (iA V 1024 (fun _ => 0)) := by rw [hM64, mv_un (Ne.symm (Nat.ne_of_lt (fq12 _ _ hf9)))]; exact hf59
  have hf68 : M63 q23 = some (iA V 1024 (fun _ => 0)) := by rw [hM64, mv_un (Ne.symm (Nat.ne_of_lt (fq24 _ _ hf20)))]; exact hf60
  have hf69 : M63 q37 = some (iA V 1024 (fun _ => 0)) := by rw [hM64, mv_un (Ne.symm (Nat.ne_of_lt (fq38 _ _ hf33)))]; exact hf61
  have hf70 : M63 q53 = some (iA V 1024 (fun _ => 0)) := by rw [hM64, mv_un (Ne.symm (Nat.ne_of_lt (fq54 _ _ hf48)))]; exact hf62
  refine mv_aloadR_n B d_Mod_init_49 rfl 0 rfl ?_
  refine mv_sipush (z := 1500) B d_Mod_init_50 (by decide) ?_
  refine ia_new (n := 1500) B (mw_t 44 (by decide +kernel) (by decide +kernel)) (by omega) (by omega) (by omega) (by omega) d_Mod_init_53 (fun q71 fq72 => ?_)
  obtain ⟨M73, hM74⟩ : ∃ My : mv_M, My = mv_up M63 q71 (iA V 1500 (fun _ => 0)) := ⟨_, rfl⟩
  rw [← hM74]
  have hf75 : M73 r = some (.inr (7, [.ref q1, .ref q11, .ref q23, .ref q37, .ref q53, .int (iI (0)), va_rf (none), .int (iI (0)), va_rf (none), va_rf (none), va_rf (none), va_rf (none), va_rf (none), va_rf (none), .int (iI (0)), va_rf (none)])) := by rw [hM74, mv_un (Nat.ne_of_lt (fq72 _ _ hf65))]; exact hf65
  have hf76 : M73 q1 = some (iA V 1024 (fun _ => 0)) := by rw [hM74, mv_un (Nat.ne_of_lt (fq72 _ _ hf66))]; exact hf66
  have hf77 : M73 q11 = some (iA V 1024 (fun _ => 0)) := by rw [hM74, mv_un (Nat.ne_of_lt (fq72 _ _ hf67))]; exact hf67
  have hf78 : M73 q23 = some (iA V 1024 (fun _ => 0)) := by rw [hM74, mv_un (Nat.ne_of_lt (fq72 _ _ hf68))]; exact hf68
  have hf79 : M73 q37 = some (iA V 1024 (fun _ => 0)) := by rw [hM74, mv_un (Nat.ne_of_lt (fq72 _ _ hf69))]; exact hf69
  have hf80 : M73 q53 = some (iA V 1024 (fun _ => 0)) := by rw [hM74, mv_un (Nat.ne_of_lt (fq72 _ _ hf70))]; exact hf70
  have hf81 : M73 q71 = some (iA V 1500 (fun _ => 0)) := by rw [hM74]; exact mv_us
  refine pF_Mod_25 B hf75 rfl rfl (Nat.le_of_ble_eq_true rfl) d_Mod_init_55 ?_
  show mv_G X Q (kk V) 1 58 [(0, .ref r)] [] (mv_up M73 r (.inr (7, [.ref q1, .ref q11, .ref q23, .ref q37, .ref q53, .int (iI (0)), .ref q71, .int (iI (0)), va_rf (none), va_rf (none), va_rf (none), va_rf (none), va_rf (none), va_rf (none), .int (iI (0)), va_rf (none)]))) ((((((0 + 1) + 1) + 1) + 1) + 1) + 1) ((((((0 + 1024) + 1024) + 1024) + 1024) + 1024) + 1500)
  obtain ⟨M82, hM83⟩ : ∃ My : mv_M, My = mv_up M73 r (.inr (7, [.ref q1, .ref q11, .ref q23, .ref q37, .ref q53, .int (iI (0)), .ref q71, .int (iI (0)), va_rf (none), va_rf (none), va_rf (none), va_rf (none), va_rf (none), va_rf (none), .int (iI (0)), va_rf (none)])) := ⟨_, rfl⟩
  rw [← hM83]
  have hf84 : M82 r = some (.inr (7, [.ref q1, .ref q11, .ref q23, .ref q37, .ref q53, .int (iI (0)), .ref q71, .int (iI (0)), va_rf (none), va_rf (none), va_rf (none), va_rf (none), va_rf (none), va_rf (none), .int (iI (0)), va_rf (none)])) := by rw [hM83]; exact mv_us
  have hf85 : M82 q1 = some (iA V 1024 (fun _ => 0)) := by rw [hM83, mv_un (Ne.symm (Nat.ne_of_lt (fq2 _ _ hr)))]; exact hf76
  have hf86 : M82 q11 = some (iA V 1024 (fun _ => 0)) := by rw [hM83, mv_un (Ne.symm (Nat.ne_of_lt (fq12 _ _ hf9)))]; exact hf77
  have hf87 : M82 q23 = some (iA V 1024 (fun _ => 0)) := by rw [hM83, mv_un (Ne.symm (Nat.ne_of_lt (fq24 _ _ hf20)))]; exact hf78
  have hf88 : M82 q37 = some (iA V 1024 (fun _ => 0)) := by rw [hM83, mv_un (Ne.symm (Nat.ne_of_lt (fq38 _ _ hf33)))]; exact hf79
  have hf89 : M82 q53 = some (iA V 1024 (fun _ => 0)) := by rw [hM83, mv_un (Ne.symm (Nat.ne_of_lt (fq54 _ _ hf48)))]; exact hf80
  have hf90 : M82 q71 = some (iA V 1500 (fun _ => 0)) := by rw [hM83, mv_un (Ne.symm (Nat.ne_of_lt (fq72 _ _ hf65)))]; exact hf81
  refine mv_aloadR_n B d_Mod_init_58 rfl 0 rfl ?_
  refine mv_bipush (z := 100) B d_Mod_init_59 (by decide) ?_
  refine ia_new (n := 100) B (mw_t 44 (by decide +kernel) (by decide +kernel)) (by omega) (by omega) (by omega) (by omega) d_Mod_init_61 (fun q91 fq92 => ?_)
  obtain ⟨M93, hM94⟩ : ∃ My : mv_M, My = mv_up M82 q91 (iA V 100 (fun _ => 0)) := ⟨_, rfl⟩
  rw [← hM94]
  have hf95 : M93 r = some (.inr (7, [.ref q1, .ref q11, .ref q23, .ref q37, .ref q53, .int (iI (0)), .ref q71, .int (iI (0)), va_rf (none), va_rf (none), va_rf (none), va_rf (none), va_rf (none), va_rf (none), .int (iI (0)), va_rf (none)])) := by rw [hM94, mv_un (Nat.ne_of_lt (fq92 _ _ hf84))]; exact hf84
  have hf96 : M93 q1 = some (iA V 1024 (fun _ => 0)) := by rw [hM94, mv_un (Nat.ne_of_lt (fq92 _ _ hf85))]; exact hf85
  have hf97 : M93 q11 = some (iA V 1024 (fun _ => 0)) := by rw [hM94, mv_un (Nat.ne_of_lt (fq92 _ _ hf86))]; exact hf86
  have hf98 : M93 q23 = some (iA V 1024 (fun _ => 0)) := by rw [hM94, mv_un (Nat.ne_of_lt (fq92 _ _ hf87))]; exact hf87
  have hf99 : M93 q37 = some (iA V 1024 (fun _ => 0)) := by rw [hM94, mv_un (Nat.ne_of_lt (fq92 _ _ hf88))]; exact hf88
  have hf100 : M93 q53 = some (iA V 1024 (fun _ => 0)) := by rw [hM94, mv_un (Nat.ne_of_lt (fq92 _ _ hf89))]; exact hf89
  have hf101 : M93 q71 = some (iA V 1500 (fun _ => 0)) := by rw [hM94, mv_un (Nat.ne_of_lt (fq92 _ _ hf90))]; exact hf90
  have hf102 : M93 q91 = some (iA V 100 (fun _ => 0)) := by rw [hM94]; exact mv_us
  refine pF_Mod_28 B hf95 rfl rfl (Nat.le_of_ble_eq_true rfl) d_Mod_init_63 ?_
  show mv_G X Q (kk V) 1 66 [(0, .ref r)] [] (mv_up M93 r (.inr (7, [.ref q1, .ref q11, .ref q23, .ref q37, .ref q53, .int (iI (0)), .ref q71, .int (iI (0)), .ref q91, va_rf (none), va_rf (none), va_rf (none), va_rf (none), va_rf (none), .int (iI (0)), va_rf (none)]))) (((((((0 + 1) + 1) + 1) + 1) + 1) + 1) + 1) (((((((0 + 1024) + 1024) + 1024) + 1024) + 1024) + 1500) + 100)
  obtain ⟨M103, hM104⟩ : ∃ My : mv_M, My = mv_up M93 r (.inr (7, [.ref q1, .ref q11, .ref q23, .ref q37, .ref q53, .int (iI (0)), .ref q71, .int (iI (0)), .ref q91, va_rf (none), va_rf (none), va_rf (none), va_rf (none), va_rf (none), .int (iI (0)), va_rf (none)])) := ⟨_, rfl⟩
  rw [← hM104]
  have hf105 : M103 r = some (.inr (7, [.ref q1, .ref q11, .ref q23, .ref q37, .ref q53, .int (iI (0)), .ref q71, .int (iI (0)), .ref q91, va_rf (none), va_rf (none), va_rf (none), va_rf (none), va_rf (none), .int (iI (0)), va_rf (none)])) := by rw [hM104]; exact mv_us
  have hf106 : M103 q1 = some (iA V 1024 (fun _ => 0)) := by rw [hM104, mv_un (Ne.symm (Nat.ne_of_lt (fq2 _ _ hr)))]; exact hf96
  have hf107 : M103 q11 = some (iA V 1024 (fun _ => 0)) := by rw [hM104, mv_un (Ne.symm (Nat.ne_of_lt (fq12 _ _ hf9)))]; exact hf97
  have hf108 : M103 q23 = some (iA V 1024 (fun _ => 0)) := by rw [hM104, mv_un (Ne.symm (Nat.ne_of_lt (fq24 _ _ hf20)))]; exact hf98
  have hf109 : M103 q37 = some (iA V 1024 (fun _ => 0)) := by rw [hM104, mv_un (Ne.symm (Nat.ne_of_lt (fq38 _ _ hf33)))]; exact hf99
  have hf110 : M103 q53 = some (iA V 1024 (fun _ => 0)) := by rw [hM104, mv_un (Ne.symm (Nat.ne_of_lt (fq54 _ _ hf48)))]; exact hf100
  have hf111 : M103 q71 = some (iA V 1500 (fun _ => 0)) := by rw [hM104, mv_un (Ne.symm (Nat.ne_of_lt (fq72 _ _ hf65)))]; exact hf101
  have hf112 : M103 q91 = some (iA V 100 (fun _ => 0)) := by rw [hM104, mv_un (Ne.symm (Nat.ne_of_lt (fq92 _ _ hf84)))]; exact hf102
  refine mv_aloadR_n B d_Mod_init_66 rfl 0 rfl ?_
  refine mv_bipush (z := 100) B d_Mod_init_67 (by decide) ?_
  refine ia_new (n := 100) B (mw_t 44 (by decide +kernel) (by decide +kernel)) (by omega) (by omega) (by omega) (by omega) d_Mod_init_69 (fun q113 fq114 => ?_)
  obtain ⟨M115, hM116⟩ : ∃ My : mv_M, My = mv_up M103 q113 (iA V 100 (fun _ => 0)) := ⟨_, rfl⟩
  rw [← hM116]
  have hf117 : M115 r = some (.inr (7, [.ref q1, .ref q11, .ref q23, .ref q37, .ref q53, .int (iI (0)), .ref q71, .int (iI (0)), .ref q91, va_rf (none), va_rf (none), va_rf (none), va_rf (none), va_rf (none), .int (iI (0)), va_rf (none)])) := by rw [hM116, mv_un (Nat.ne_of_lt (fq114 _ _ hf105))]; exact hf105
  have hf118 : M115 q1 = some (iA V 1024 (fun _ => 0)) := by rw [hM116, mv_un (Nat.ne_of_lt (fq114 _ _ hf106))]; exact hf106
  have hf119 : M115 q11 = some (iA V 1024 (fun _ => 0)) := by rw [hM116, mv_un (Nat.ne_of_lt (fq114 _ _ hf107))]; exact hf107
  have hf120 : M115 q23 = some (iA V 1024 (fun _ => 0)) := by rw [hM116, mv_un (Nat.ne_of_lt (fq114 _ _ hf108))]; exact hf108
  have hf121 : M115 q37 = some (iA V 1024 (fun _ => 0)) := by rw [hM116, mv_un (Nat.ne_of_lt (fq114 _ _ hf109))]; exact hf109
  have hf122 : M115 q53 = some (iA V 1024 (fun _ => 0)) := by rw [hM116, mv_un (Nat.ne_of_lt (fq114 _ _ hf110))]; exact hf110
  have hf123 : M115 q71 = some (iA V 1500 (fun _ => 0)) := by rw [hM116, mv_un (Nat.ne_of_lt (fq114 _ _ hf111))]; exact hf111
  have hf124 : M115 q91 = some (iA V 100 (fun _ => 0)) := by rw [hM116, mv_un (Nat.ne_of_lt (fq114 _ _ hf112))]; exact hf112
  have hf125 : M115 q113 = some (iA V 100 (fun _ => 0)) := by rw [hM116]; exact mv_us
  refine pF_Mod_31 B hf117 rfl rfl (Nat.le_of_ble_eq_true rfl) d_Mod_init_71 ?_
  show mv_G X Q (kk V) 1 74 [(0, .ref r)] [] (mv_up M115 r (.inr (7, [.ref q1, .ref q11, .ref q23, .ref q37, .ref q53, .int (iI (0)), .ref q71, .int (iI (0)), .ref q91, .ref q113, va_rf (none), va_rf (none), va_rf (none), va_rf (none), .int (iI (0)), va_rf (none)]))) ((((((((0 + 1) + 1) + 1) + 1) + 1) + 1) + 1) + 1) ((((((((0 + 1024) + 1024) + 1024) + 1024) + 1024) + 1500) + 100) + 100)
  obtain ⟨M126, hM127⟩ : ∃ My : mv_M, My = mv_up M115 r (.inr (7, [.ref q1, .ref q11, .ref q23, .ref q37, .ref q53, .int (iI (0)), .ref q71, .int (iI (0)), .ref q91, .ref q113, va_rf (none), va_rf (none), va_rf (none), va_rf (none), .int (iI (0)), va_rf (none)])) := ⟨_, rfl⟩
  rw [← hM127]
  have hf128 : M126 r = some (.inr (7, [.ref q1, .ref q11, .ref q23, .ref q37, .ref q53, .int (iI (0)), .ref q71, .int (iI (0)), .ref q91, .ref q113, va_rf (none), va_rf (none), va_rf (none), va_rf (none), .int (iI (0)), va_rf (none)])) := by rw [hM127]; exact mv_us
  have hf129 : M126 q1 = some (iA V 1024 (fun _ => 0)) := by rw [hM127, mv_un (Ne.symm (Nat.ne_of_lt (fq2 _ _ hr)))]; exact hf118
  have hf130 : M126 q11 = some (iA V 1024 (fun _ => 0)) := by rw [hM127, mv_un (Ne.symm (Nat.ne_of_lt (fq12 _ _ hf9)))]; exact hf119
  have hf131 : M126 q23 = some (iA V 1024 (fun _ => 0)) := by rw [hM127, mv_un (Ne.symm (Nat.ne_of_lt (fq24 _ _ hf20)))]; exact hf120
  have hf132 : M126 q37 = some (iA V 1024 (fun _ => 0)) := by rw [hM127, mv_un (Ne.symm (Nat.ne_of_lt (fq38 _ _ hf33)))]; exact hf121
  have hf133 : M126 q53 = some (iA V 1024 (fun _ => 0)) := by rw [hM127, mv_un (Ne.symm (Nat.ne_of_lt (fq54 _ _ hf48)))]; exact hf122
  have hf134 : M126 q71 = some (iA V 1500 (fun _ => 0)) := by rw [hM127, mv_un (Ne.symm (Nat.ne_of_lt (fq72 _ _ hf65)))]; exact hf123
  have hf135 : M126 q91 = some (iA V 100 (fun _ => 0)) := by rw [hM127, mv_un (Ne.symm (Nat.ne_of_lt (fq92 _ _ hf84)))]; exact hf124
  have hf136 : M126 q113 = some (iA V 100 (fun _ => 0)) := by rw [hM127, mv_un (Ne.symm (Nat.ne_of_lt (fq114 _ _ hf105)))]; exact hf125
  refine mv_aloadR_n B d_Mod_init_74 rfl 0 rfl ?_
  refine mv_bipush (z := 100) B d_Mod_init_75 (by decide) ?_
  refine ia_new (n := 100) B (mw_t 44 (by decide +kernel) (by decide +kernel)) (by omega) (by omega) (by omega) (by omega) d_Mod_init_77 (fun q137 fq138 => ?_)
  obtain ⟨M139, hM140⟩ : ∃ My : mv_M, My = mv_up M126 q137 (iA V 100 (fun _ => 0)) := ⟨_, rfl⟩
  rw [← hM140]
  have hf141 : M139 r = some (.inr (7, [.ref q1, .ref q11, .ref q23, .ref q37, .ref q53, .int (iI (0)), .ref q71, .int (iI (0)), .ref q91, .ref q113, va_rf (none), va_rf (none), va_rf (none), va_rf (none), .int (iI (0)), va_rf (none)])) := by rw [hM140, mv_un (Nat.ne_of_lt (fq138 _ _ hf128))]; exact hf128
  have hf142 : M139 q1 = some (iA V 1024 (fun _ => 0)) := by rw [hM140, mv_un (Nat.ne_of_lt (fq138 _ _ hf129))]; exact hf129
  have hf143 : M139 q11 = some (iA V 1024 (fun _ => 0)) := by rw [hM140, mv_un (Nat.ne_of_lt (fq138 _ _ hf130))]; exact hf130
  have hf144 : M139 q23 = some (iA V 1024 (fun _ => 0)) := by rw [hM140, mv_un (Nat.ne_of_lt (fq138 _ _ hf131))]; exact hf131
  have hf145 : M139 q37 = some (iA V 1024 (fun _ => 0)) := by rw [hM140, mv_un (Nat.ne_of_lt (fq138 _ _ hf132))]; exact hf132
  have hf146 : M139 q53 = some (iA V 1024 (fun _ => 0)) := by rw [hM140, mv_un (Nat.ne_of_lt (fq138 _ _ hf133))]; exact hf133
  have hf147 : M139 q71 = some (iA V 1500 (fun _ => 0)) := by rw [hM140, mv_un (Nat.ne_of_lt (fq138 _ _ hf134))]; exact hf134
  have hf148 : M139 q91 = some (iA V 100 (fun _ => 0)) := by rw [hM140, mv_un (Nat.ne_of_lt (fq138 _ _ hf135))]; exact hf135
  have hf149 : M139 q113 = some (iA V 100 (fun _ => 0)) := by rw [hM140, mv_un (Nat.ne_of_lt (fq138 _ _ hf136))]; exact hf136
  have hf150 : M139 q137 = some (iA V 100 (fun _ => 0)) := by rw [hM140]; exact mv_us
  refine pF_Mod_34 B hf141 rfl rfl (Nat.le_of_ble_eq_true rfl) d_Mod_init_79 ?_
  show mv_G X Q (kk V) 1 82 [(0, .ref r)] [] (mv_up M139 r (.inr (7, [.ref q1, .ref q11, .ref q23, .ref q37, .ref q53, .int (iI (0)), .ref q71, .int (iI (0)), .ref q91, .ref q113, .ref q137, va_rf (none), va_rf (none), va_rf (none), .int (iI (0)), va_rf (none)]))) (((((((((0 + 1) + 1) + 1) + 1) + 1) + 1) + 1) + 1) + 1) (((((((((0 + 1024) + 1024) + 1024) + 1024) + 1024) + 1500) + 100) + 100) + 100)
  obtain ⟨M151, hM152⟩ : ∃ My : mv_M, My = mv_up M139 r (.inr (7, [.ref q1, .ref q11, .ref q23, .ref q37, .ref q53, .int (iI (0)), .ref q71, .int (iI (0)), .ref q91, .ref q113, .ref q137, va_rf (none), va_rf (none), va_rf (none), .int (iI (0)), va_rf (none)])) := ⟨_, rfl⟩
  rw [← hM152]
  have hf153 : M151 r = some (.inr (7, [.ref q1, .ref q11, .ref q23, .ref q37, .ref q53, .int (iI (0)), .ref q71, .int (iI (0)), .ref q91, .ref q113, .ref q137, va_rf (none), va_rf (none), va_rf (none), .int (iI (0)), va_rf (none)])) := by rw [hM152]; exact mv_us
  have hf154 : M151 q1 = some (iA V 1024 (fun _ => 0)) := by rw [hM152, mv_un (Ne.symm (Nat.ne_of_lt (fq2 _ _ hr)))]; exact hf142
  have hf155 : M151 q11 = some (iA V 1024 (fun _ => 0)) := by rw [hM152, mv_un (Ne.symm (Nat.ne_of_lt (fq12 _ _ hf9)))]; exact hf143
  have hf156 : M151 q23 = some (iA V 1024 (fun _ => 0)) := by rw [hM152, mv_un (Ne.symm (Nat.ne_of_lt (fq24 _ _ hf20)))]; exact hf144
  have hf157 : M151 q37 = some (iA V 1024 (fun _ => 0)) := by rw [hM152, mv_un (Ne.symm (Nat.ne_of_lt (fq38 _ _ hf33)))]; exact hf145
  have hf158 : M151 q53 = some (iA V 1024 (fun _ => 0)) := by rw [hM152, mv_un (Ne.symm (Nat.ne_of_lt (fq54 _ _ hf48)))]; exact hf146
  have hf159 : M151 q71 = some (iA V 1500 (fun _ => 0)) := by rw [hM152, mv_un (Ne.symm (Nat.ne_of_lt (fq72 _ _ hf65)))]; exact hf147
  have hf160 : M151 q91 = some (iA V 100 (fun _ => 0)) := by rw [hM152, mv_un (Ne.symm (Nat.ne_of_lt (fq92 _ _ hf84)))]; exact hf148
  have hf161 : M151 q113 = some (iA V 100 (fun _ => 0)) := by rw [hM152, mv_un (Ne.symm (Nat.ne_of_lt (fq114 _ _ hf105)))]; exact hf149
  have hf162 : M151 q137 = some (iA V 100 (fun _ => 0)) := by rw [hM152, mv_un (Ne.symm (Nat.ne_of_lt (fq138 _ _ hf128)))]; exact hf150
  refine mv_aloadR_n B d_Mod_init_82 rfl 0 rfl ?_
  refine mv_bipush (z := 100) B d_Mod_init_83 (by decide) ?_
  refine ia_new (n := 100) B (mw_t 44 (by decide +kernel) (by decide +kernel)) (by omega) (by omega) (by omega) (by omega) d_Mod_init_85 (fun q163 fq164 => ?_)
  obtain ⟨M165, hM166⟩ : ∃ My : mv_M, My = mv_up M151 q163 (iA V 100 (fun _ => 0)) := ⟨_, rfl⟩
  rw [← hM166]
  have hf167 : M165 r = some (.inr (7, [.ref q1, .ref q11, .ref q23, .ref q37, .ref q53, .int (iI (0)), .ref q71, .int (iI (0)), .ref q91, .ref q113, .ref q137, va_rf (none), va_rf (none), va_rf (none), .int (iI (0)), va_rf (none)])) := by rw [hM166, mv_un (Nat.ne_of_lt (fq164 _ _ hf153))]; exact hf153
  have hf168 : M165 q1 = some (iA V 1024 (fun _ => 0)) := by rw [hM166, mv_un (Nat.ne_of_lt (fq164 _ _ hf154))]; exact hf154
  have hf169 : M165 q11 = some (iA V 1024 (fun _ => 0)) := by rw [hM166, mv_un (Nat.ne_of_lt (fq164 _ _ hf155))]; exact hf155
  have hf170 : M165 q23 = some (iA V 1024 (fun _ => 0)) := by rw [hM166, mv_un (Nat.ne_of_lt (fq164 _ _ hf156))]; exact hf156
  have hf171 : M165 q37 = some (iA V 1024 (fun _ => 0)) := by rw [hM166, mv_un (Nat.ne_of_lt (fq164 _ _ hf157))]; exact hf157
  have hf172 : M165 q53 = some (iA V 1024 (fun _ => 0)) := by rw [hM166, mv_un (Nat.ne_of_lt (fq164 _ _ hf158))]; exact hf158
  have hf173 : M165 q71 = some (iA V 1500 (fun _ => 0)) := by rw [hM166, mv_un (Nat.ne_of_lt (fq164 _ _ hf159))]; exact hf159
  have hf174 : M165 q91 = some (iA V 100 (fun _ => 0)) := by rw [hM166, mv_un (Nat.ne_of_lt (fq164 _ _ hf160))]; exact hf160
  have hf175 : M165 q113 = some (iA V 100 (fun _ => 0)) := by rw [hM166, mv_un (Nat.ne_of_lt (fq164 _ _ hf161))]; exact hf161
  have hf176 : M165 q137 = some (iA V 100 (fun _ => 0)) := by rw [hM166, mv_un (Nat.ne_of_lt (fq164 _ _ hf162))]; exact hf162
  have hf177 : M165 q163 = some (iA V 100 (fun _ => 0)) := by rw [hM166]; exact mv_us
  refine pF_Mod_37 B hf167 rfl rfl (Nat.le_of_ble_eq_true rfl) d_Mod_init_87 ?_
  show mv_G X Q (kk V) 1 90 [(0, .ref r)] [] (mv_up M165 r (.inr (7, [.ref q1, .ref q11, .ref q23, .ref q37, .ref q53, .int (iI (0)), .ref q71, .int (iI (0)), .ref q91, .ref q113, .ref q137, .ref q163, va_rf (none), va_rf (none), .int (iI (0)), va_rf (none)]))) ((((((((((0 + 1) + 1) + 1) + 1) + 1) + 1) + 1) + 1) + 1) + 1) ((((((((((0 + 1024) + 1024) + 1024) + 1024) + 1024) + 1500) + 100) + 100) + 100) + 100)
  obtain ⟨M178, hM179⟩ : ∃ My : mv_M, My = mv_up M165 r (.inr (7, [.ref q1, .ref q11, .ref q23, .ref q37, .ref q53, .int (iI (0)), .ref q71, .int (iI (0)), .ref q91, .ref q113, .ref q137, .ref q163, va_rf (none), va_rf (none), .int (iI (0)), va_rf (none)])) := ⟨_, rfl⟩
  rw [← hM179]
  have hf180 : M178 r = some (.inr (7, [.ref q1, .ref q11, .ref q23, .ref q37, .ref q53, .int (iI (0)), .ref q71, .int (iI (0)), .ref q91, .ref q113, .ref q137, .ref q163, va_rf (none), va_rf (none), .int (iI (0)), va_rf (none)])) := by rw [hM179]; exact mv_us
  have hf181 : M178 q1 = some (iA V 1024 (fun _ => 0)) := by rw [hM179, mv_un (Ne.symm (Nat.ne_of_lt (fq2 _ _ hr)))]; exact hf168
  have hf182 : M178 q11 = some (iA V 1024 (fun _ => 0)) := by rw [hM179, mv_un (Ne.symm (Nat.ne_of_lt (fq12 _ _ hf9)))]; exact hf169
  have hf183 : M178 q23 = some (iA V 1024 (fun _ => 0)) := by rw [hM179, mv_un (Ne.symm (Nat.ne_of_lt (fq24 _ _ hf20)))]; exact hf170
  have hf184 : M178 q37 = some (iA V 1024 (fun _ => 0)) := by rw [hM179, mv_un (Ne.symm (Nat.ne_of_lt (fq38 _ _ hf33)))]; exact hf171
  have hf185 : M178 q53 = some (iA V 1024 (fun _ => 0)) := by rw [hM179, mv_un (Ne.symm (Nat.ne_of_lt (fq54 _ _ hf48)))]; exact hf172
  have hf186 : M178 q71 = some (iA V 1500 (fun _ => 0)) := by rw [hM179, mv_un (Ne.symm (Nat.ne_of_lt (fq72 _ _ hf65)))]; exact hf173
  have hf187 : M178 q91 = some (iA V 100 (fun _ => 0)) := by rw [hM179, mv_un (Ne.symm (Nat.ne_of_lt (fq92 _ _ hf84)))]; exact hf174
  have hf188 : M178 q113 = some (iA V 100 (fun _ => 0)) := by rw [hM179, mv_un (Ne.symm (Nat.ne_of_lt (fq114 _ _ hf105)))]; exact hf175
  have hf189 : M178 q137 = some (iA V 100 (fun _ => 0)) := by rw [hM179, mv_un (Ne.symm (Nat.ne_of_lt (fq138 _ _ hf128)))]; exact hf176
  have hf190 : M178 q163 = some (iA V 100 (fun _ => 0)) := by rw [hM179, mv_un (Ne.symm (Nat.ne_of_lt (fq164 _ _ hf153)))]; exact hf177
  refine mv_aloadR_n B d_Mod_init_90 rfl 0 rfl ?_
  refine mv_bipush (z := 100) B d_Mod_init_91 (by decide) ?_
  refine ia_new (n := 100) B (mw_t 44 (by decide +kernel) (by decide +kernel)) (by omega) (by omega) (by omega) (by omega) d_Mod_init_93 (fun q191 fq192 => ?_)
  obtain ⟨M193, hM194⟩ : ∃ My : mv_M, My = mv_up M178 q191 (iA V 100 (fun _ => 0)) := ⟨_, rfl⟩
  rw [← hM194]
  have hf195 : M193 r = some (.inr (7, [.ref q1, .ref q11, .ref q23, .ref q37, .ref q53, .int (iI (0)), .ref q71, .int (iI (0)), .ref q91, .ref q113, .ref q137, .ref q163, va_rf (none), va_rf (none), .int (iI (0)), va_rf (none)])) := by rw [hM194, mv_un (Nat.ne_of_lt (fq192 _ _ hf180))]; exact hf180
  have hf196 : M193 q1 = some (iA V 1024 (fun _ => 0)) := by rw [hM194, mv_un (Nat.ne_of_lt (fq192 _ _ hf181))]; exact hf181
  have hf197 : M193 q11 = some (iA V 1024 (fun _ => 0)) := by rw [hM194, mv_un (Nat.ne_of_lt (fq192 _ _ hf182))]; exact hf182
  have hf198 : M193 q23 = some (iA V 1024 (fun _ => 0)) := by rw [hM194, mv_un (Nat.ne_of_lt (fq192 _ _ hf183))]; exact hf183
  have hf199 : M193 q37 = some (iA V 1024 (fun _ => 0)) := by rw [hM194, mv_un (Nat.ne_of_lt (fq192 _ _ hf184))]; exact hf184
  have hf200 : M193 q53 = some (iA V 1024 (fun _ => 0)) := by rw [hM194, mv_un (Nat.ne_of_lt (fq192 _ _ hf185))]; exact hf185
  have hf201 : M193 q71 = some (iA V 1500 (fun _ => 0)) := by rw [hM194, mv_un (Nat.ne_of_lt (fq192 _ _ hf186))]; exact hf186
  have hf202 : M193 q91 = some (iA V 100 (fun _ => 0)) := by rw [hM194, mv_un (Nat.ne_of_lt (fq192 _ _ hf187))]; exact hf187
  have hf203 : M193 q113 = some (iA V 100 (fun _ => 0)) := by rw [hM194, mv_un (Nat.ne_of_lt (fq192 _ _ hf188))]; exact hf188
  have hf204 : M193 q137 = some (iA V 100 (fun _ => 0)) := by rw [hM194, mv_un (Nat.ne_of_lt (fq192 _ _ hf189))]; exact hf189
  have hf205 : M193 q163 = some (iA V 100 (fun _ => 0)) := by rw [hM194, mv_un (Nat.ne_of_lt (fq192 _ _ hf190))]; exact hf190
  have hf206 : M193 q191 = some (iA V 100 (fun _ => 0)) := by rw [hM194]; exact mv_us
  refine pF_Mod_40 B hf195 rfl rfl (Nat.le_of_ble_eq_true rfl) d_Mod_init_95 ?_
  show mv_G X Q (kk V) 1 98 [(0, .ref r)] [] (mv_up M193 r (.inr (7, [.ref q1, .ref q11, .ref q23, .ref q37, .ref q53, .int (iI (0)), .ref q71, .int (iI (0)), .ref q91, .ref q113, .ref q137, .ref q163, .ref q191, va_rf (none), .int (iI (0)), va_rf (none)]))) (((((((((((0 + 1) + 1) + 1) + 1) + 1) + 1) + 1) + 1) + 1) + 1) + 1) (((((((((((0 + 1024) + 1024) + 1024) + 1024) + 1024) + 1500) + 100) + 100) + 100) + 100) + 100)
  obtain ⟨M207, hM208⟩ : ∃ My : mv_M, My = mv_up M193 r (.inr (7, [.ref q1, .ref q11, .ref q23, .ref q37, .ref q53, .int (iI (0)), .ref q71, .int (iI (0)), .ref q91, .ref q113, .ref q137, .ref q163, .ref q191, va_rf (none), .int (iI (0)), va_rf (none)])) := ⟨_, rfl⟩
  rw [← hM208]
  have hf209 : M207 r = some (.inr (7, [.ref q1, .ref q11, .ref q23, .ref q37, .ref q53, .int (iI (0)), .ref q71, .int (iI (0)), .ref q91, .ref q113, .ref q137, .ref q163, .ref q191, va_rf (none), .int (iI (0)), va_rf (none)])) := by rw [hM208]; exact mv_us
  have hf210 : M207 q1 = some (iA V 1024 (fun _ => 0)) := by rw [hM208, mv_un (Ne.symm (Nat.ne_of_lt (fq2 _ _ hr)))]; exact hf196
  have hf211 : M207 q11 = some (iA V 1024 (fun _ => 0)) := by rw [hM208, mv_un (Ne.symm (Nat.ne_of_lt (fq12 _ _ hf9)))]; exact hf197
  have hf212 : M207 q23 = some (iA V 1024 (fun _ => 0)) := by rw [hM208, mv_un (Ne.symm (Nat.ne_of_lt (fq24 _ _ hf20)))]; exact hf198
  have hf213 : M207 q37 = some (iA V 1024 (fun _ => 0)) := by rw [hM208, mv_un (Ne.symm (Nat.ne_of_lt (fq38 _ _ hf33)))]; exact hf199
  have hf214 : M207 q53 = some (iA V 1024 (fun _ => 0)) := by rw [hM208, mv_un (Ne.symm (Nat.ne_of_lt (fq54 _ _ hf48)))]; exact hf200
  have hf215 : M207 q71 = some (iA V 1500 (fun _ => 0)) := by rw [hM208, mv_un (Ne.symm (Nat.ne_of_lt (fq72 _ _ hf65)))]; exact hf201
  have hf216 : M207 q91 = some (iA V 100 (fun _ => 0)) := by rw [hM208, mv_un (Ne.symm (Nat.ne_of_lt (fq92 _ _ hf84)))]; exact hf202
  have hf217 : M207 q113 = some (iA V 100 (fun _ => 0)) := by rw [hM208, mv_un (Ne.symm (Nat.ne_of_lt (fq114 _ _ hf105)))]; exact hf203
  have hf218 : M207 q137 = some (iA V 100 (fun _ => 0)) := by rw [hM208, mv_un (Ne.symm (Nat.ne_of_lt (fq138 _ _ hf128)))]; exact hf204
  have hf219 : M207 q163 = some (iA V 100 (fun _ => 0)) := by rw [hM208, mv_un (Ne.symm (Nat.ne_of_lt (fq164 _ _ hf153)))]; exact hf205
  have hf220 : M207 q191 = some (iA V 100 (fun _ => 0)) := by rw [hM208, mv_un (Ne.symm (Nat.ne_of_lt (fq192 _ _ hf180)))]; exact hf206
  refine mv_aloadR_n B d_Mod_init_98 rfl 0 rfl ?_
  refine mv_bipush (z := 100) B d_Mod_init_99 (by decide) ?_
  refine ia_new (n := 100) B (mw_t 44 (by decide +kernel) (by decide +kernel)) (by omega) (by omega) (by omega) (by omega) d_Mod_init_101 (fun q221 fq222 => ?_)
  obtain ⟨M223, hM224⟩ : ∃ My : mv_M, My = mv_up M207 q221 (iA V 100 (fun _ => 0)) := ⟨_, rfl⟩
  rw [← hM224]
  have hf225 : M223 r = some (.inr (7, [.ref q1, .ref q11, .ref q23, .ref q37, .ref q53, .int (iI (0)), .ref q71, .int (iI (0)), .ref q91, .ref q113, .ref q137, .ref q163, .ref q191, va_rf (none), .int (iI (0)), va_rf (none)])) := by rw [hM224, mv_un (Nat.ne_of_lt (fq222 _ _ hf209))]; exact hf209
  have hf226 : M223 q1 = some (iA V 1024 (fun _ => 0)) := by rw [hM224, mv_un (Nat.ne_of_lt (fq222 _ _ hf210))]; exact hf210
  have hf227 : M223 q11 = some (iA V 1024 (fun _ => 0)) := by rw [hM224, mv_un (Nat.ne_of_lt (fq222 _ _ hf211))]; exact hf211
  have hf228 : M223 q23 = some (iA V 1024 (fun _ => 0)) := by rw [hM224, mv_un (Nat.ne_of_lt (fq222 _ _ hf212))]; exact hf212
  have hf229 : M223 q37 = some (iA V 1024 (fun _ => 0)) := by rw [hM224, mv_un (Nat.ne_of_lt (fq222 _ _ hf213))]; exact hf213
  have hf230 : M223 q53 = some (iA V 1024 (fun _ => 0)) := by rw [hM224, mv_un (Nat.ne_of_lt (fq222 _ _ hf214))]; exact hf214
  have hf231 : M223 q71 = some (iA V 1500 (fun _ => 0)) := by rw [hM224, mv_un (Nat.ne_of_lt (fq222 _ _ hf215))]; exact hf215
  have hf232 : M223 q91 = some (iA V 100 (fun _ => 0)) := by rw [hM224, mv_un (Nat.ne_of_lt (fq222 _ _ hf216))]; exact hf216
  have hf233 : M223 q113 = some (iA V 100 (fun _ => 0)) := by rw [hM224, mv_un (Nat.ne_of_lt (fq222 _ _ hf217))]; exact hf217
  have hf234 : M223 q137 = some (iA V 100 (fun _ => 0)) := by rw [hM224, mv_un (Nat.ne_of_lt (fq222 _ _ hf218))]; exact hf218
  have hf235 : M223 q163 = some (iA V 100 (fun _ => 0)) := by rw [hM224, mv_un (Nat.ne_of_lt (fq222 _ _ hf219))]; exact hf219
  have hf236 : M223 q191 = some (iA V 100 (fun _ => 0)) := by rw [hM224, mv_un (Nat.ne_of_lt (fq222 _ _ hf220))]; exact hf220
  have hf237 : M223 q221 = some (iA V 100 (fun _ => 0)) := by rw [hM224]; exact mv_us
  refine pF_Mod_43 B hf225 rfl rfl (Nat.le_of_ble_eq_true rfl) d_Mod_init_103 ?_
  show mv_G X Q (kk V) 1 106 [(0, .ref r)] [] (mv_up M223 r (.inr (7, [.ref q1, .ref q11, .ref q23, .ref q37, .ref q53, .int (iI (0)), .ref q71, .int (iI (0)), .ref q91, .ref q113, .ref q137, .ref q163, .ref q191, .ref q221, .int (iI (0)), va_rf (none)]))) ((((((((((((0 + 1) + 1) + 1) + 1) + 1) + 1) + 1) + 1) + 1) + 1) + 1) + 1) ((((((((((((0 + 1024) + 1024) + 1024) + 1024) + 1024) + 1500) + 100) + 100) + 100) + 100) + 100) + 100)
  obtain ⟨M238, hM239⟩ : ∃ My : mv_M, My = mv_up M223 r (.inr (7, [.ref q1, .ref q11, .ref q23, .ref q37, .ref q53, .int (iI (0)), .ref q71, .int (iI (0)), .ref q91, .ref q113, .ref q137, .ref q163, .ref q191, .ref q221, .int (iI (0)), va_rf (none)])) := ⟨_, rfl⟩
  rw [← hM239]
  have hf240 : M238 r = some (.inr (7, [.ref q1, .ref q11, .ref q23, .ref q37, .ref q53, .int (iI (0)), .ref q71, .int (iI (0)), .ref q91, .ref q113, .ref q137, .ref q163, .ref q191, .ref q221, .int (iI (0)), va_rf (none)])) := by rw [hM239]; exact mv_us
  have hf241 : M238 q1 = some (iA V 1024 (fun _ => 0)) := by rw [hM239, mv_un (Ne.symm (Nat.ne_of_lt (fq2 _ _ hr)))]; exact hf226
  have hf242 : M238 q11 = some (iA V 1024 (fun _ => 0)) := by rw [hM239, mv_un (Ne.symm (Nat.ne_of_lt (fq12 _ _ hf9)))]; exact hf227
  have hf243 : M238 q23 = some (iA V 1024 (fun _ => 0)) := by rw [hM239, mv_un (Ne.symm (Nat.ne_of_lt (fq24 _ _ hf20)))]; exact hf228
  have hf244 : M238 q37 = some (iA V 1024 (fun _ => 0)) := by rw [hM239, mv_un (Ne.symm (Nat.ne_of_lt (fq38 _ _ hf33)))]; exact hf229
  have hf245 : M238 q53 = some (iA V 1024 (fun _ => 0)) := by rw [hM239, mv_un (Ne.symm (Nat.ne_of_lt (fq54 _ _ hf48)))]; exact hf230
  have hf246 : M238 q71 = some (iA V 1500 (fun _ => 0)) := by rw [hM239, mv_un (Ne.symm (Nat.ne_of_lt (fq72 _ _ hf65)))]; exact hf231
  have hf247 : M238 q91 = some (iA V 100 (fun _ => 0)) := by rw [hM239, mv_un (Ne.symm (Nat.ne_of_lt (fq92 _ _ hf84)))]; exact hf232
  have hf248 : M238 q113 = some (iA V 100 (fun _ => 0)) := by rw [hM239, mv_un (Ne.symm (Nat.ne_of_lt (fq114 _ _ hf105)))]; exact hf233
  have hf249 : M238 q137 = some (iA V 100 (fun _ => 0)) := by rw [hM239, mv_un (Ne.symm (Nat.ne_of_lt (fq138 _ _ hf128)))]; exact hf234
  have hf250 : M238 q163 = some (iA V 100 (fun _ => 0)) := by rw [hM239, mv_un (Ne.symm (Nat.ne_of_lt (fq164 _ _ hf153)))]; exact hf235
  have hf251 : M238 q191 = some (iA V 100 (fun _ => 0)) := by rw [hM239, mv_un (Ne.symm (Nat.ne_of_lt (fq192 _ _ hf180)))]; exact hf236
  have hf252 : M238 q221 = some (iA V 100 (fun _ => 0)) := by rw [hM239, mv_un (Ne.symm (Nat.ne_of_lt (fq222 _ _ hf209)))]; exact hf237
  refine mv_aloadR_n B d_Mod_init_106 rfl 0 rfl ?_
  refine mv_bipush (z := 64) B d_Mod_init_107 (by decide) ?_
  refine ia_new (n := 64) B (mw_t 44 (by decide +kernel) (by decide +kernel)) (by omega) (by omega) (by omega) (by omega) d_Mod_init_109 (fun q253 fq254 => ?_)
  obtain ⟨M255, hM256⟩ : ∃ My : mv_M, My = mv_up M238 q253 (iA V 64 (fun _ => 0)) := ⟨_, rfl⟩
  rw [← hM256]
  have hf257 : M255 r = some (.inr (7, [.ref q1, .ref q11, .ref q23, .ref q37, .ref q53, .int (iI (0)), .ref q71, .int (iI (0)), .ref q91, .ref q113, .ref q137, .ref q163, .ref q191, .ref q221, .int (iI (0)), va_rf (none)])) := by rw [hM256, mv_un (Nat.ne_of_lt (fq254 _ _ hf240))]; exact hf240
  have hf258 : M255 q1 = some (iA V 1024 (fun _ => 0)) := by rw [hM256, mv_un (Nat.ne_of_lt (fq254 _ _ hf241))]; exact hf241
  have hf259 : M255 q11 = some (iA V 1024 (fun _ => 0)) := by rw [hM256, mv_un (Nat.ne_of_lt (fq254 _ _ hf242))]; exact hf242
  have hf260 : M255 q23 = some (iA V 1024 (fun _ => 0)) := by rw [hM256, mv_un (Nat.ne_of_lt (fq254 _ _ hf243))]; exact hf243
  have hf261 : M255 q37 = some (iA V 1024 (fun _ => 0)) := by rw [hM256, mv_un (Nat.ne_of_lt (fq254 _ _ hf244))]; exact hf244
  have hf262 : M255 q53 = some (iA V 1024 (fun _ => 0)) := by rw [hM256, mv_un (Nat.ne_of_lt (fq254 _ _ hf245))]; exact hf245
  have hf263 : M255 q71 = some (iA V 1500 (fun _ => 0)) := by rw [hM256, mv_un (Nat.ne_of_lt (fq254 _ _ hf246))]; exact hf246
  have hf264 : M255 q91 = some (iA V 100 (fun _ => 0)) := by rw [hM256, mv_un (Nat.ne_of_lt (fq254 _ _ hf247))]; exact hf247
  have hf265 : M255 q113 = some (iA V 100 (fun _ => 0)) := by rw [hM256, mv_un (Nat.ne_of_lt (fq254 _ _ hf248))]; exact hf248
  have hf266 : M255 q137 = some (iA V 100 (fun _ => 0)) := by rw [hM256, mv_un (Nat.ne_of_lt (fq254 _ _ hf249))]; exact hf249
  have hf267 : M255 q163 = some (iA V 100 (fun _ => 0)) := by rw [hM256, mv_un (Nat.ne_of_lt (fq254 _ _ hf250))]; exact hf250
  have hf268 : M255 q191 = some (iA V 100 (fun _ => 0)) := by rw [hM256, mv_un (Nat.ne_of_lt (fq254 _ _ hf251))]; exact hf251
  have hf269 : M255 q221 = some (iA V 100 (fun _ => 0)) := by rw [hM256, mv_un (Nat.ne_of_lt (fq254 _ _ hf252))]; exact hf252
  have hf270 : M255 q253 = some (iA V 64 (fun _ => 0)) := by rw [hM256]; exact mv_us
  refine pf_Mod_46 B hf257 rfl rfl (Nat.le_of_ble_eq_true rfl) d_Mod_init_111 ?_
  show mv_G X Q (kk V) 1 114 [(0, .ref r)] [] (mv_up M255 r (.inr (7, [.ref q1, .ref q11, .ref q23, .ref q37, .ref q53, .int (iI (0)), .ref q71, .int (iI (0)), .ref q91, .ref q113, .ref q137, .ref q163, .ref q191, .ref q221, .int (iI (0)), .ref q253]))) (((((((((((((0 + 1) + 1) + 1) + 1) + 1) + 1) + 1) + 1) + 1) + 1) + 1) + 1) + 1) (((((((((((((0 + 1024) + 1024) + 1024) + 1024) + 1024) + 1500) + 100) + 100) + 100) + 100) + 100) + 100) + 64)
  obtain ⟨M271, hM272⟩ : ∃ My : mv_M, My = mv_up M255 r (.inr (7, [.ref q1, .ref q11, .ref q23, .ref q37, .ref q53, .int (iI (0)), .ref q71, .int (iI (0)), .ref q91, .ref q113, .ref q137, .ref q163, .ref q191, .ref q221, .int (iI (0)), .ref q253])) := ⟨_, rfl⟩
  rw [← hM272]
  have hf273 : M271 r = some (.inr (7, [.ref q1, .ref q11, .ref q23, .ref q37, .ref q53, .int (iI (0)), .ref q71, .int (iI (0)), .ref q91, .ref q113, .ref q137, .ref q163, .ref q191, .ref q221, .int (iI (0)), .ref q253])) := by rw [hM272]; exact mv_us
  have hf274 : M271 q1 = some (iA V 1024 (fun _ => 0)) := by rw [hM272, mv_un (Ne.symm (Nat.ne_of_lt (fq2 _ _ hr)))]; exact hf258
  have hf275 : M271 q11 = some (iA V 1024 (fun _ => 0)) := by rw [hM272, mv_un (Ne.symm (Nat.ne_of_lt (fq12 _ _ hf9)))]; exact hf259
  have hf276 : M271 q23 = some (iA V 1024 (fun _ => 0)) := by rw [hM272, mv_un (Ne.symm (Nat.ne_of_lt (fq24 _ _ hf20)))]; exact hf260
  have hf277 : M271 q37 = some (iA V 1024 (fun _ => 0)) := by rw [hM272, mv_un (Ne.symm (Nat.ne_of_lt (fq38 _ _ hf33)))]; exact hf261
  have hf278 : M271 q53 = some (iA V 1024 (fun _ => 0)) := by rw [hM272, mv_un (Ne.symm (Nat.ne_of_lt (fq54 _ _ hf48)))]; exact hf262
  have hf279 : M271 q71 = some (iA V 1500 (fun _ => 0)) := by rw [hM272, mv_un (Ne.symm (Nat.ne_of_lt (fq72 _ _ hf65)))]; exact hf263
  have hf280 : M271 q91 = some (iA V 100 (fun _ => 0)) := by rw [hM272, mv_un (Ne.symm (Nat.ne_of_lt (fq92 _ _ hf84)))]; exact hf264
  have hf281 : M271 q113 = some (iA V 100 (fun _ => 0)) := by rw [hM272, mv_un (Ne.symm (Nat.ne_of_lt (fq114 _ _ hf105)))]; exact hf265
  have hf282 : M271 q137 = some (iA V 100 (fun _ => 0)) := by rw [hM272, mv_un (Ne.symm (Nat.ne_of_lt (fq138 _ _ hf128)))]; exact hf266
  have hf283 : M271 q163 = some (iA V 100 (fun _ => 0)) := by rw [hM272, mv_un (Ne.symm (Nat.ne_of_lt (fq164 _ _ hf153)))]; exact hf267
  have hf284 : M271 q191 = some (iA V 100 (fun _ => 0)) := by rw [hM272, mv_un (Ne.symm (Nat.ne_of_lt (fq192 _ _ hf180)))]; exact hf268
  have hf285 : M271 q221 = some (iA V 100 (fun _ => 0)) := by rw [hM272, mv_un (Ne.symm (Nat.ne_of_lt (fq222 _ _ hf209)))]; exact hf269
  have hf286 : M271 q253 = some (iA V 64 (fun _ => 0)) := by rw [hM272, mv_un (Ne.symm (Nat.ne_of_lt (fq254 _ _ hf240)))]; exact hf270
  rw [hQ]
  refine mv_vret B ⟨rfl, (fun j => if j = 0 then q1 else if j = 1 then q11 else if j = 2 then q23 else if j = 3 then q37 else if j = 4 then q53 else if j = 5 then q71 else if j = 6 then q91 else if j = 7 then q113 else if j = 8 then q137 else if j = 9 then q163 else if j = 10 then q191 else if j = 11 then q221 else q253), hf273, ?_, inj13 ?_, fun _ _ _ _ => rfl, fun _ _ => (show Sm 0 from ⟨by decide, by decide⟩), ?_⟩ (by omega) (by omega) d_Mod_init_114
  · intro i hi
    match i, hi with
    | 0, _ => exact hf274
    | 1, _ => exact hf275
    | 2, _ => exact hf276
    | 3, _ => exact hf277
    | 4, _ => exact hf278
    | 5, _ => exact hf279
    | 6, _ => exact hf280
    | 7, _ => exact hf281
    | 8, _ => exact hf282
    | 9, _ => exact hf283
    | 10, _ => exact hf284
    | 11, _ => exact hf285
    | 12, _ => exact hf286
    | i + 13, h => exact absurd h (by omega)
  · intro i hi
    match i, hi with
    | 0, _ => exact fq12 _ _ hf10
    | 1, _ => exact fq24 _ _ hf22
    | 2, _ => exact fq38 _ _ hf36
    | 3, _ => exact fq54 _ _ hf52
    | 4, _ => exact fq72 _ _ hf70
    | 5, _ => exact fq92 _ _ hf90
    | 6, _ => exact fq114 _ _ hf112
    | 7, _ => exact fq138 _ _ hf136
    | 8, _ => exact fq164 _ _ hf162
    | 9, _ => exact fq192 _ _ hf190
    | 10, _ => exact fq222 _ _ hf220
    | 11, _ => exact fq254 _ _ hf252
    | i + 12, h => exact absurd h (by omega)
  · intro i hi
    unfold rN
    split
    · omega
    · split
      · omega
      · split <;> omega
