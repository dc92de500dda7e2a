/-! the reference: a global more -/
def glF (F : Nat → Nat → Int) (g : Nat) (s t d : Int) : Nat → Nat → Int := va_up (va_up (va_up (va_up (va_up (va_up F 6 (va_up (F 6) g s)) 7 (va_up (F 7) g t)) 8 (va_up (F 8) g d)) 9 (va_up (F 9) g (if s = 4 then F 9 d.toNat else 0))) 10 (va_up (F 10) g (if s = 4 then -1 else 0))) 11 (va_up (F 11) g 0)
set_option maxRecDepth 100000 in
set_option maxHeartbeats 4000000 in
theorem m_Mod_global {l : Launch} {V : mv_V} {M : mv_M} {r cap lq : Nat} {A : Nat → Nat} {F : Nat → Nat → Int} {c tn gn : Int} (hC : RefC V M r A (rN cap lq) F c tn gn) (hcap : cap ≤ 1000000) {s t d : Int} (hg : 0 ≤ gn ∧ gn < 100) (rs : Sm s) (rt : Sm t) (rd : 0 ≤ d ∧ d < 100) (hp9 : Sm (F 9 d.toNat)) : Met l y_Mod_global ws_Mod_global (rM 0 0 0 0) (mv_Pre (kk V) [.ref r, .int (iI (s)), .int (iI (t)), .int (iI (d))] M) (mv_Q (kk V) (fun z0 M' => z0 = some (.int (iI gn)) ∧ RefC V M' r A (rN cap lq) (glF F gn.toNat s t d) c tn (gn + 1))) 0 0 V.2.2.2.2 := by
  refine mv_Met (by decide) rfl (Nat.le_of_ble_eq_true rfl) (fun X hX B => ?_)
  subst hX
  replace B : mv_B X (kk V) c_Mod_global ws_Mod_global "FamilyRulesModel" 4 (Option.some Jvm.ClassFile.FieldType.int) (rM 0 0 0 0) "global" := B
  obtain ⟨Q, hQ⟩ : ∃ Q, Q = mv_E X (kk V) (fun z0 M' => z0 = some (.int (iI gn)) ∧ RefC V M' r A (rN cap lq) (glF F gn.toNat s t d) c tn (gn + 1)) 0 0 := ⟨_, rfl⟩
  rw [← hQ]
  show mv_G X Q (kk V) 4 0 [(0, .ref r), (1, .int (iI (s))), (2, .int (iI (t))), (3, .int (iI (d)))] [] M 0 0
  have k1_6 : M (A 6) = some (iA V (100) (F 6)) := hC.2.1 6 (by decide)
  have k1_7 : M (A 7) = some (iA V (100) (F 7)) := hC.2.1 7 (by decide)
  have k1_8 : M (A 8) = some (iA V (100) (F 8)) := hC.2.1 8 (by decide)
  have k1_9 : M (A 9) = some (iA V (100) (F 9)) := hC.2.1 9 (by decide)
  have k1_10 : M (A 10) = some (iA V (100) (F 10)) := hC.2.1 10 (by decide)
  have k1_11 : M (A 11) = some (iA V (100) (F 11)) := hC.2.1 11 (by decide)
  refine mv_aloadR_n B d_Mod_global_0 rfl 0 rfl ?_
  refine gf_Mod_28 B hC.1 rfl d_Mod_global_1 ?_
  refine mv_aloadR_n B d_Mod_global_4 rfl 0 rfl ?_
  refine gf_Mod_81 B hC.1 rfl d_Mod_global_5 ?_
  refine mv_iload_n B d_Mod_global_8 rfl 1 rfl ?_
  refine ia_st B k1_6 (by omega) (by omega) (by omega) d_Mod_global_9 ?_
  obtain ⟨M2, hM3⟩ : ∃ My : mv_M, My = mv_up M (A 6) (iA V (100) (va_up (F 6) (Int.toNat (gn)) (s))) := ⟨_, rfl⟩
  rw [← hM3]
  have hC4 : RefC V M2 r A (rN cap lq) (va_up F 6 (va_up (F 6) (Int.toNat (gn)) (s))) (c) (tn) (gn) := by rw [hM3]; exact RefC_w (i := 6) (k := (Int.toNat (gn))) (x := s) hC (by decide) (by show (Int.toNat (gn)) < 100; omega) (by omega)
  have k5_6 : M2 (A 6) = some (iA V (100) (va_up (F 6) (Int.toNat (gn)) (s))) := hC4.2.1 6 (by decide)
  have k5_7 : M2 (A 7) = some (iA V (100) (F 7)) := hC4.2.1 7 (by decide)
  have k5_8 : M2 (A 8) = some (iA V (100) (F 8)) := hC4.2.1 8 (by decide)
  have k5_9 : M2 (A 9) = some (iA V (100) (F 9)) := hC4.2.1 9 (by decide)
  have k5_10 : M2 (A 10) = some (iA V (100) (F 10)) := hC4.2.1 10 (by decide)
  have k5_11 : M2 (A 11) = some (iA V (100) (F 11)) := hC4.2.1 11 (by decide)
  refine mv_aloadR_n B d_Mod_global_10 rfl 0 rfl ?_
  refine gf_Mod_31 B hC4.1 rfl d_Mod_global_11 ?_
  refine mv_aloadR_n B d_Mod_global_14 rfl 0 rfl ?_
  refine gf_Mod_81 B hC4.1 rfl d_Mod_global_15 ?_
  refine mv_iload_n B d_Mod_global_18 rfl 2 rfl ?_
  refine ia_st B k5_7 (by omega) (by omega) (by omega) d_Mod_global_19 ?_
  obtain ⟨M6, hM7⟩ : ∃ My : mv_M, My = mv_up M2 (A 7) (iA V (100) (va_up (F 7) (Int.toNat (gn)) (t))) := ⟨_, rfl⟩
  rw [← hM7]
  have hC8 : RefC V M6 r A (rN cap lq) (va_up (va_up F 6 (va_up (F 6) (Int.toNat (gn)) (s))) 7 (va_up (F 7) (Int.toNat (gn)) (t))) (c) (tn) (gn) := by rw [hM7]; exact RefC_w (i := 7) (k := (Int.toNat (gn))) (x := t) hC4 (by decide) (by show (Int.toNat (gn)) < 100; omega) (by omega)
  have k9_6 : M6 (A 6) = some (iA V (100) (va_up (F 6) (Int.toNat (gn)) (s))) := hC8.2.1 6 (by decide)
  have k9_7 : M6 (A 7) = some (iA V (100) (va_up (F 7) (Int.toNat (gn)) (t))) := hC8.2.1 7 (by decide)
  have k9_8 : M6 (A 8) = some (iA V (100) (F 8)) := hC8.2.1 8 (by decide)
  have k9_9 : M6 (A 9) = some (iA V (100) (F 9)) := hC8.2.1 9 (by decide)
  have k9_10 : M6 (A 10) = some (iA V (100) (F 10)) := hC8.2.1 10 (by decide)
  have k9_11 : M6 (A 11) = some (iA V (100) (F 11)) := hC8.2.1 11 (by decide)
  refine mv_aloadR_n B d_Mod_global_20 rfl 0 rfl ?_
  refine gf_Mod_34 B hC8.1 rfl d_Mod_global_21 ?_
  refine mv_aloadR_n B d_Mod_global_24 rfl 0 rfl ?_
  refine gf_Mod_81 B hC8.1 rfl d_Mod_global_25 ?_
  refine mv_iload_n B d_Mod_global_28 rfl 3 rfl ?_
  refine ia_st B k9_8 (by omega) (by omega) (by omega) d_Mod_global_29 ?_
  obtain ⟨M10, hM11⟩ : ∃ My : mv_M, My = mv_up M6 (A 8) (iA V (100) (va_up (F 8) (Int.toNat (gn)) (d))) := ⟨_, rfl⟩
  rw [← hM11]
  have hC12 : RefC V M10 r A (rN cap lq) (va_up (va_up (va_up F 6 (va_up (F 6) (Int.toNat (gn)) (s))) 7 (va_up (F 7) (Int.toNat (gn)) (t))) 8 (va_up (F 8) (Int.toNat (gn)) (d))) (c) (tn) (gn) := by rw [hM11]; exact RefC_w (i := 8) (k := (Int.toNat (gn))) (x := d) hC8 (by decide) (by show (Int.toNat (gn)) < 100; omega) (by omega)
  have k13_6 : M10 (A 6) = some (iA V (100) (va_up (F 6) (Int.toNat (gn)) (s))) := hC12.2.1 6 (by decide)
  have k13_7 : M10 (A 7) = some (iA V (100) (va_up (F 7) (Int.toNat (gn)) (t))) := hC12.2.1 7 (by decide)
  have k13_8 : M10 (A 8) = some (iA V (100) (va_up (F 8) (Int.toNat (gn)) (d))) := hC12.2.1 8 (by decide)
  have k13_9 : M10 (A 9) = some (iA V (100) (F 9)) := hC12.2.1 9 (by decide)
  have k13_10 : M10 (A 10) = some (iA V (100) (F 10)) := hC12.2.1 10 (by decide)
  have k13_11 : M10 (A 11) = some (iA V (100) (F 11)) := hC12.2.1 11 (by decide)
  refine mv_aloadR_n B d_Mod_global_30 rfl 0 rfl ?_
  refine gf_Mod_37 B hC12.1 rfl d_Mod_global_31 ?_
  refine mv_aloadR_n B d_Mod_global_34 rfl 0 rfl ?_
  refine gf_Mod_81 B hC12.1 rfl d_Mod_global_35 ?_
  refine mv_iload_n B d_Mod_global_38 rfl 1 rfl ?_
  refine mv_iconst (z := 4) B d_Mod_global_39 rfl ?_
  refine mv_icmp_ne (tgt := 52) B d_Mod_global_40 (by decide) (by omega) (by omega) (fun c14 => ?_) (fun c14 => ?_)
  · refine mv_iconst (z := 0) B d_Mod_global_52 rfl ?_
    refine ia_st B k13_9 (by omega) (by omega) (by omega) d_Mod_global_53 ?_
    obtain ⟨M15, hM16⟩ : ∃ My : mv_M, My = mv_up M10 (A 9) (iA V (100) (va_up (F 9) (Int.toNat (gn)) (0))) := ⟨_, rfl⟩
    rw [← hM16]
    have hC17 : RefC V M15 r A (rN cap lq) (va_up (va_up (va_up (va_up F 6 (va_up (F 6) (Int.toNat (gn)) (s))) 7 (va_up (F 7) (Int.toNat (gn)) (t))) 8 (va_up (F 8) (Int.toNat (gn)) (d))) 9 (va_up (F 9) (Int.toNat (gn)) (0))) (c) (tn) (gn) := by rw [hM16]; exact RefC_w (i := 9) (k := (Int.toNat (gn))) (x := 0) hC12 (by decide) (by show (Int.toNat (gn)) < 100; omega) (by omega)
    have k18_6 : M15 (A 6) = some (iA V (100) (va_up (F 6) (Int.toNat (gn)) (s))) := hC17.2.1 6 (by decide)
    have k18_7 : M15 (A 7) = some (iA V (100) (va_up (F 7) (Int.toNat (gn)) (t))) := hC17.2.1 7 (by decide)
    have k18_8 : M15 (A 8) = some (iA V (100) (va_up (F 8) (Int.toNat (gn)) (d))) := hC17.2.1 8 (by decide)
    have k18_9 : M15 (A 9) = some (iA V (100) (va_up (F 9) (Int.toNat (gn)) (0))) := hC17.2.1 9 (by decide)
    have k18_10 : M15 (A 10) = some (iA V (100) (F 10)) := hC17.2.1 10 (by decide)
    have k18_11 : M15 (A 11) = some (iA V (100) (F 11)) := hC17.2.1 11 (by decide)
    refine mv_aloadR_n B d_Mod_global_54 rfl 0 rfl ?_
    refine gf_Mod_40 B hC17.1 rfl d_Mod_global_55 ?_
    refine mv_aloadR_n B d_Mod_global_58 rfl 0 rfl ?_
    refine gf_Mod_81 B hC17.1 rfl d_Mod_global_59 ?_
    refine mv_iload_n B d_Mod_global_62 rfl 1 rfl ?_
    refine mv_iconst (z := 4) B d_Mod_global_63 rfl ?_
    refine mv_icmp_ne (tgt := 71) B d_Mod_global_64 (by decide) (by omega) (by omega) (fun c19 => ?_) (fun c19 => ?_)
    · refine mv_iconst (z := 0) B d_Mod_global_71 rfl ?_
      refine ia_st B k18_10 (by omega) (by omega) (by omega) d_Mod_global_72 ?_
      obtain ⟨M20, hM21⟩ : ∃ My : mv_M, My = mv_up M15 (A 10) (iA V (100) (va_up (F 10) (Int.toNat (gn)) (0))) := ⟨_, rfl⟩
      rw [← hM21]
      have hC22 : RefC V M20 r A (rN cap lq) (va_up (va_up (va_up (va_up (va_up F 6 (va_up (F 6) (Int.toNat (gn)) (s))) 7 (va_up (F 7) (Int.toNat (gn)) (t))) 8 (va_up (F 8) (Int.toNat (gn)) (d))) 9 (va_up (F 9) (Int.toNat (gn)) (0))) 10 (va_up (F 10) (Int.toNat (gn)) (0))) (c) (tn) (gn) := by rw [hM21]; exact RefC_w (i := 10) (k := (Int.toNat (gn))) (x := 0) hC17 (by decide) (by show (Int.toNat (gn)) < 100; omega) (by omega)
      have k23_6 : M20 (A 6) = some (iA V (100) (va_up (F 6) (Int.toNat (gn)) (s))) := hC22.2.1 6 (by decide)
      have k23_7 : M20 (A 7) = some (iA V (100) (va_up (F 7) (Int.toNat (gn)) (t))) := hC22.2.1 7 (by decide)
      have k23_8 : M20 (A 8) = some (iA V (100) (va_up (F 8) (Int.toNat (gn)) (d))) := hC22.2.1 8 (by decide)
      have k23_9 : M20 (A 9) = some (iA V (100) (va_up (F 9) (Int.toNat (gn)) (0))) := hC22.2.1 9 (by decide)
      have k23_10 : M20 (A 10) = some (iA V (100) (va_up (F 10) (Int.toNat (gn)) (0))) := hC22.2.1 10 (by decide)
      have k23_11 : M20 (A 11) = some (iA V (100) (F 11)) := hC22.2.1 11 (by decide)
      refine mv_aloadR_n B d_Mod_global_73 rfl 0 rfl ?_
      refine gf_Mod_43 B hC22.1 rfl d_Mod_global_74 ?_
      refine mv_aloadR_n B d_Mod_global_77 rfl 0 rfl ?_
      refine gf_Mod_81 B hC22.1 rfl d_Mod_global_78 ?_
      refine mv_iconst (z := 0) B d_Mod_global_81 rfl ?_
      refine ia_st B k23_11 (by omega) (by omega) (by omega) d_Mod_global_82 ?_
      obtain ⟨M24, hM25⟩ : ∃ My : mv_M, My = mv_up M20 (A 11) (iA V (100) (va_up (F 11) (Int.toNat (gn)) (0))) := ⟨_, rfl⟩
      rw [← hM25]
      have hC26 : RefC V M24 r A (rN cap lq) (va_up (va_up (va_up (va_up (va_up (va_up F 6 (va_up (F 6) (Int.toNat (gn)) (s))) 7 (va_up (F 7) (Int.toNat (gn)) (t))) 8 (va_up (F 8) (Int.toNat (gn)) (d))) 9 (va_up (F 9) (Int.toNat (gn)) (0))) 10 (va_up (F 10) (Int.toNat (gn)) (0))) 11 (va_up (F 11) (Int.toNat (gn)) (0))) (c) (tn) (gn) := by rw [hM25]; exact RefC_w (i := 11) (k := (Int.toNat (gn))) (x := 0) hC22 (by decide) (by show (Int.toNat (gn)) < 100; omega) (by omega)
      have k27_6 : M24 (A 6) = some (iA V (100) (va_up (F 6) (Int.toNat (gn)) (s))) := hC26.2.1 6 (by decide)
      have k27_7 : M24 (A 7) = some (iA V (100) (va_up (F 7) (Int.toNat (gn)) (t))) := hC26.2.1 7 (by decide)
      have k27_8 : M24 (A 8) = some (iA V (100) (va_up (F 8) (Int.toNat (gn)) (d))) := hC26.2.1 8 (by decide)
      have k27_9 : M24 (A 9) = some (iA V (100) (va_up (F 9) (Int.toNat (gn)) (0))) := hC26.2.1 9 (by decide)
      have k27_10 : M24 (A 10) = some (iA V (100) (va_up (F 10) (Int.toNat (gn)) (0))) := hC26.2.1 10 (by decide)
      have k27_11 : M24 (A 11) = some (iA V (100) (va_up (F 11) (Int.toNat (gn)) (0))) := hC26.2.1 11 (by decide)
      refine mv_aloadR_n B d_Mod_global_83 rfl 0 rfl ?_
      refine mv_dup B d_Mod_global_84 rfl ?_
      refine gf_Mod_81 B hC26.1 rfl d_Mod_global_85 ?_
      refine mv_dup_x1 B d_Mod_global_88 rfl rfl ?_
      refine mv_iconst (z := 1) B d_Mod_global_89 rfl ?_
      refine mv_iadd B d_Mod_global_90 ?_
      refine pf_Mod_81 B hC26.1 rfl rfl (Nat.le_of_ble_eq_true rfl) d_Mod_global_91 ?_
      show mv_G X Q (kk V) 4 94 [(0, .ref r), (1, .int (iI (s))), (2, .int (iI (t))), (3, .int (iI (d)))] [.int (iI (gn))] (mv_up M24 r (.inr (7, [.ref ((A 0)), .ref ((A 1)), .ref ((A 2)), .ref ((A 3)), .ref ((A 4)), .int (iI (c)), .ref ((A 5)), .int (iI (tn)), .ref ((A 6)), .ref ((A 7)), .ref ((A 8)), .ref ((A 9)), .ref ((A 10)), .ref ((A 11)), .int (iI (gn + 1)), .ref ((A 12))]))) 0 0
      obtain ⟨M28, hM29⟩ : ∃ My : mv_M, My = mv_up M24 r (.inr (7, [.ref ((A 0)), .ref ((A 1)), .ref ((A 2)), .ref ((A 3)), .ref ((A 4)), .int (iI (c)), .ref ((A 5)), .int (iI (tn)), .ref ((A 6)), .ref ((A 7)), .ref ((A 8)), .ref ((A 9)), .ref ((A 10)), .ref ((A 11)), .int (iI (gn + 1)), .ref ((A 12))])) := ⟨_, rfl⟩
      rw [← hM29]
      have hC30 : RefC V M28 r A (rN cap lq) (va_up (va_up (va_up (va_up (va_up (va_up F 6 (va_up (F 6) (Int.toNat (gn)) (s))) 7 (va_up (F 7) (Int.toNat (gn)) (t))) 8 (va_up (F 8) (Int.toNat (gn)) (d))) 9 (va_up (F 9) (Int.toNat (gn)) (0))) 10 (va_up (F 10) (Int.toNat (gn)) (0))) 11 (va_up (F 11) (Int.toNat (gn)) (0))) (c) (tn) (gn + 1) := by rw [hM29]; exact RefC_f hC26 _ _ _
      have k31_6 : M28 (A 6) = some (iA V (100) (va_up (F 6) (Int.toNat (gn)) (s))) := hC30.2.1 6 (by decide)
      have k31_7 : M28 (A 7) = some (iA V (100) (va_up (F 7) (Int.toNat (gn)) (t))) := hC30.2.1 7 (by decide)
      have k31_8 : M28 (A 8) = some (iA V (100) (va_up (F 8) (Int.toNat (gn)) (d))) := hC30.2.1 8 (by decide)
      have k31_9 : M28 (A 9) = some (iA V (100) (va_up (F 9) (Int.toNat (gn)) (0))) := hC30.2.1 9 (by decide)
      have k31_10 : M28 (A 10) = some (iA V (100) (va_up (F 10) (Int.toNat (gn)) (0))) := hC30.2.1 10 (by decide)
      have k31_11 : M28 (A 11) = some (iA V (100) (va_up (F 11) (Int.toNat (gn)) (0))) := hC30.2.1 11 (by decide)
      rw [hQ]
      exact mv_iret B ⟨rfl, by rw [show (glF F gn.toNat s t d) = (va_up (va_up (va_up (va_up (va_up (va_up F 6 (va_up (F 6) (Int.toNat (gn)) (s))) 7 (va_up (F 7) (Int.toNat (gn)) (t))) 8 (va_up (F 8) (Int.toNat (gn)) (d))) 9 (va_up (F 9) (Int.toNat (gn)) (0))) 10 (va_up (F 10) (Int.toNat (gn)) (0))) 11 (va_up (F 11) (Int.toNat (gn)) (0))) from (by unfold glF; first | omega | (rw [if_pos (by omega), if_pos (by omega)]; done) | (rw [if_neg (by omega), if_neg (by omega)]; done) | (rw [if_pos (by omega), if_pos (by omega)]; rfl) | (rw [if_neg (by omega), if_neg (by omega)]; rfl))]; exact hC30⟩ (by omega) (by omega) d_Mod_global_94
    · refine mv_iconst (z := -1) B d_Mod_global_67 rfl ?_
      refine mv_goto (tgt := 72) B d_Mod_global_68 (by decide) ?_
      refine ia_st B k18_10 (by omega) (by omega) (by omega) d_Mod_global_72 ?_
      obtain ⟨M32, hM33⟩ : ∃ My : mv_M, My = mv_up M15 (A 10) (iA V (100) (va_up (F 10) (Int.toNat (gn)) (-1))) := ⟨_, rfl⟩
      rw [← hM33]
      have hC34 : RefC V M32 r A (rN cap lq) (va_up (va_up (va_up (va_up (va_up F 6 (va_up (F 6) (Int.toNat (gn)) (s))) 7 (va_up (F 7) (Int.toNat (gn)) (t))) 8 (va_up (F 8) (Int.toNat (gn)) (d))) 9 (va_up (F 9) (Int.toNat (gn)) (0))) 10 (va_up (F 10) (Int.toNat (gn)) (-1))) (c) (tn) (gn) := by rw [hM33]; exact RefC_w (i := 10) (k := (Int.toNat (gn))) (x := -1) hC17 (by decide) (by show (Int.toNat (gn)) < 100; omega) (by omega)
      have k35_6 : M32 (A 6) = some (iA V (100) (va_up (F 6) (Int.toNat (gn)) (s))) := hC34.2.1 6 (by decide)
      have k35_7 : M32 (A 7) = some (iA V (100) (va_up (F 7) (Int.toNat (gn)) (t))) := hC34.2.1 7 (by decide)
      have k35_8 : M32 (A 8) = some (iA V (100) (va_up (F 8) (Int.toNat (gn)) (d))) := hC34.2.1 8 (by decide)
      have k35_9 : M32 (A 9) = some (iA V (100) (va_up (F 9) (Int.toNat (gn)) (0))) := hC34.2.1 9 (by decide)
      have k35_10 : M32 (A 10) = some (iA V (100) (va_up (F 10) (Int.toNat (gn)) (-1))) := hC34.2.1 10 (by decide)
      have k35_11 : M32 (A 11) = some (iA V (100) (F 11)) := hC34.2.1 11 (by decide)
      refine mv_aloadR_n B d_Mod_global_73 rfl 0 rfl ?_
      refine gf_Mod_43 B hC34.1 rfl d_Mod_global_74 ?_
      refine mv_aloadR_n B d_Mod_global_77 rfl 0 rfl ?_
      refine gf_Mod_81 B hC34.1 rfl d_Mod_global_78 ?_
      refine mv_iconst (z := 0) B d_Mod_global_81 rfl ?_
      refine ia_st B k35_11 (by omega) (by omega) (by omega) d_Mod_global_82 ?_
      obtain ⟨M36, hM37⟩ : ∃ My : mv_M, My = mv_up M32 (A 11) (iA V (100) (va_up (F 11) (Int.toNat (gn)) (0))) := ⟨_, rfl⟩
      rw [← hM37]
      have hC38 : RefC V M36 r A (rN cap lq) (va_up (va_up (va_up (va_up (va_up (va_up F 6 (va_up (F 6) (Int.toNat (gn)) (s))) 7 (va_up (F 7) (Int.toNat (gn)) (t))) 8 (va_up (F 8) (Int.toNat (gn)) (d))) 9 (va_up (F 9) (Int.toNat (gn)) (0))) 10 (va_up (F 10) (Int.toNat (gn)) (-1))) 11 (va_up (F 11) (Int.toNat (gn)) (0))) (c) (tn) (gn) := by rw [hM37]; exact RefC_w (i := 11) (k := (Int.toNat (gn))) (x := 0) hC34 (by decide) (by show (Int.toNat (gn)) < 100; omega) (by omega)
      have k39_6 : M36 (A 6) = some (iA V (100) (va_up (F 6) (Int.toNat (gn)) (s))) := hC38.2.1 6 (by decide)
      have k39_7 : M36 (A 7) = some (iA V (100) (va_up (F 7) (Int.toNat (gn)) (t))) := hC38.2.1 7 (by decide)
      have k39_8 : M36 (A 8) = some (iA V (100) (va_up (F 8) (Int.toNat (gn)) (d))) := hC38.2.1 8 (by decide)
      have k39_9 : M36 (A 9) = some (iA V (100) (va_up (F 9) (Int.toNat (gn)) (0))) := hC38.2.1 9 (by decide)
      have k39_10 : M36 (A 10) = some (iA V (100) (va_up (F 10) (Int.toNat (gn)) (-1))) := hC38.2.1 10 (by decide)
      have k39_11 : M36 (A 11) = some (iA V (100) (va_up (F 11) (Int.toNat (gn)) (0))) := hC38.2.1 11 (by decide)
      refine mv_aloadR_n B d_Mod_global_83 rfl 0 rfl ?_
      refine mv_dup B d_Mod_global_84 rfl ?_
      refine gf_Mod_81 B hC38.1 rfl d_Mod_global_85 ?_
      refine mv_dup_x1 B d_Mod_global_88 rfl rfl ?_
      refine mv_iconst (z := 1) B d_Mod_global_89 rfl ?_
      refine mv_iadd B d_Mod_global_90 ?_
      refine pf_Mod_81 B hC38.1 rfl rfl (Nat.le_of_ble_eq_true rfl) d_Mod_global_91 ?_
      show mv_G X Q (kk V) 4 94 [(0, .ref r), (1, .int (iI (s))), (2, .int (iI (t))), (3, .int (iI (d)))] [.int (iI (gn))] (mv_up M36 r (.inr (7, [.ref ((A 0)), .ref ((A 1)), .ref ((A 2)), .ref ((A 3)), .ref ((A 4)), .int (iI (c)), .ref ((A 5)), .int (iI (tn)), .ref ((A 6)), .ref ((A 7)), .ref ((A 8)), .ref ((A 9)), .ref ((A 10)), .ref ((A 11)), .int (iI (gn + 1)), .ref ((A 12))]))) 0 0
      obtain ⟨M40, hM41⟩ : ∃ My : mv_M, My = mv_up M36 r (.inr (7, [.ref ((A 0)), .ref ((A 1)), .ref ((A 2)), .ref ((A 3)), .ref ((A 4)), .int (iI (c)), .ref ((A 5)), .int (iI (tn)), .ref ((A 6)), .ref ((A 7)), .ref ((A 8)), .ref ((A 9)), .ref ((A 10)), .ref ((A 11)), .int (iI (gn + 1)), .ref ((A 12))])) := ⟨_, rfl⟩
      rw [← hM41]
      have hC42 : RefC V M40 r A (rN cap lq) (va_up (va_up (va_up (va_up (va_up (va_up F 6 (va_up (F 6) (Int.toNat (gn)) (s))) 7 (va_up (F 7) (Int.toNat (gn)) (t))) 8 (va_up (F 8) (Int.toNat (gn)) (d))) 9 (va_up (F 9) (Int.toNat (gn)) (0))) 10 (va_up (F 10) (Int.toNat (gn)) (-1))) 11 (va_up (F 11) (Int.toNat (gn)) (0))) (c) (tn) (gn + 1) := by rw [hM41]; exact RefC_f hC38 _ _ _
      have k43_6 : M40 (A 6) = some (iA V (100) (va_up (F 6) (Int.toNat (gn)) (s))) := hC42.2.1 6 (by decide)
      have k43_7 : M40 (A 7) = some (iA V (100) (va_up (F 7) (Int.toNat (gn)) (t))) := hC42.2.1 7 (by decide)
      have k43_8 : M40 (A 8) = some (iA V (100) (va_up (F 8) (Int.toNat (gn)) (d))) := hC42.2.1 8 (by decide)
      have k43_9 : M40 (A 9) = some (iA V (100) (va_up (F 9) (Int.toNat (gn)) (0))) := hC42.2.1 9 (by decide)
      have k43_10 : M40 (A 10) = some (iA V (100) (va_up (F 10) (Int.toNat (gn)) (-1))) := hC42.2.1 10 (by decide)
      have k43_11 : M40 (A 11) = some (iA V (100) (va_up (F 11) (Int.toNat (gn)) (0))) := hC42.2.1 11 (by decide)
      rw [hQ]
      exact mv_iret B ⟨rfl, by rw [show (glF F gn.toNat s t d) = (va_up (va_up (va_up (va_up (va_up (va_up F 6 (va_up (F 6) (Int.toNat (gn)) (s))) 7 (va_up (F 7) (Int.toNat (gn)) (t))) 8 (va_up (F 8) (Int.toNat (gn)) (d))) 9 (va_up (F 9) (Int.toNat (gn)) (0))) 10 (va_up (F 10) (Int.toNat (gn)) (-1))) 11 (va_up (F 11) (Int.toNat (gn)) (0))) from (by unfold glF; first | omega | (rw [if_pos (by omega), if_pos (by omega)]; done) | (rw [if_neg (by omega), if_neg (by omega)]; done) | (rw [if_pos (by omega), if_pos (by omega)]; rfl) | (rw [if_neg (by omega), if_neg (by omega)]; rfl))]; exact hC42⟩ (by omega) (by omega) d_Mod_global_94
  · refine mv_aloadR_n B d_Mod_global_43 rfl 0 rfl ?_
    refine gf_Mod_37 B hC12.1 rfl d_Mod_global_44 ?_
    refine mv_iload_n B d_Mod_global_47 rfl 3 rfl ?_
    refine ia_ld B k13_9 (by omega) (by omega) (by omega) d_Mod_global_48 ?_
    have rr44 : R32 (F 9 (Int.toNat (d))) := (hC12.R 9) _
    refine mv_goto (tgt := 53) B d_Mod_global_49 (by decide) ?_
    refine ia_st B k13_9 (by omega) (by omega) (by omega) d_Mod_global_53 ?_
    obtain ⟨M45, hM46⟩ : ∃ My : mv_M, My = mv_up M10 (A 9) (iA V (100) (va_up (F 9) (Int.toNat (gn)) (F 9 (Int.toNat (d))))) := ⟨_, rfl⟩
    rw [← hM46]
    have hC47 : RefC V M45 r A (rN cap lq) (va_up (va_up (va_up (va_up F 6 (va_up (F 6) (Int.toNat (gn)) (s))) 7 (va_up (F 7) (Int.toNat (gn)) (t))) 8 (va_up (F 8) (Int.toNat (gn)) (d))) 9 (va_up (F 9) (Int.toNat (gn)) (F 9 (Int.toNat (d))))) (c) (tn) (gn) := by rw [hM46]; exact RefC_w (i := 9) (k := (Int.toNat (gn))) (x := F 9 (Int.toNat (d))) hC12 (by decide) (by show (Int.toNat (gn)) < 100; omega) (by omega)
    have k48_6 : M45 (A 6) = some (iA V (100) (va_up (F 6) (Int.toNat (gn)) (s))) := hC47.2.1 6 (by decide)
    have k48_7 : M45 (A 7) = some (iA V (100) (va_up (F 7) (Int.toNat (gn)) (t))) := hC47.2.1 7 (by decide)
    have k48_8 : M45 (A 8) = some (iA V (100) (va_up (F 8) (Int.toNat (gn)) (d))) := hC47.2.1 8 (by decide)
    have k48_9 : M45 (A 9) = some (iA V (100) (va_up (F 9) (Int.toNat (gn)) (F 9 (Int.toNat (d))))) := hC47.2.1 9 (by decide)
    have k48_10 : M45 (A 10) = some (iA V (100) (F 10)) := hC47.2.1 10 (by decide)
    have k48_11 : M45 (A 11) = some (iA V (100) (F 11)) := hC47.2.1 11 (by decide)
    refine mv_aloadR_n B d_Mod_global_54 rfl 0 rfl ?_
    refine gf_Mod_40 B hC47.1 rfl d_Mod_global_55 ?_
    refine mv_aloadR_n B d_Mod_global_58 rfl 0 rfl ?_
    refine gf_Mod_81 B hC47.1 rfl d_Mod_global_59 ?_
    refine mv_iload_n B d_Mod_global_62 rfl 1 rfl ?_
    refine mv_iconst (z := 4) B d_Mod_global_63 rfl ?_
    refine mv_icmp_ne (tgt := 71) B d_Mod_global_64 (by decide) (by omega) (by omega) (fun c49 => ?_) (fun c49 => ?_)
    · refine mv_iconst (z := 0) B d_Mod_global_71 rfl ?_
      refine ia_st B k48_10 (by omega) (by omega) (by omega) d_Mod_global_72 ?_
      obtain ⟨M50, hM51⟩ : ∃ My : mv_M, My = mv_up M45 (A 10) (iA V (100) (va_up (F 10) (Int.toNat (gn)) (0))) := ⟨_, rfl⟩
      rw [← hM51]
      have hC52 : RefC V M50 r A (rN cap lq) (va_up (va_up (va_up (va_up (va_up F 6 (va_up (F 6) (Int.toNat (gn)) (s))) 7 (va_up (F 7) (Int.toNat (gn)) (t))) 8 (va_up (F 8) (Int.toNat (gn)) (d))) 9 (va_up (F 9) (Int.toNat (gn)) (F 9 (Int.toNat (d))))) 10 (va_up (F 10) (Int.toNat (gn)) (0))) (c) (tn) (gn) := by rw [hM51]; exact RefC_w (i := 10) (k := (Int.toNat (gn))) (x := 0) hC47 (by decide) (by show (Int.toNat (gn)) < 100; omega) (by omega)
      have k53_6 : M50 (A 6) = some (iA V (100) (va_up (F 6) (Int.toNat (gn)) (s))) := hC52.2.1 6 (by decide)
      have k53_7 : M50 (A 7) = some (iA V (100) (va_up (F 7) (Int.toNat (gn)) (t))) := hC52.2.1 7 (by decide)
      have k53_8 : M50 (A 8) = some (iA V (100) (va_up (F 8) (Int.toNat (gn)) (d))) := hC52.2.1 8 (by decide)
      have k53_9 : M50 (A 9) = some (iA V (100) (va_up (F 9) (Int.toNat (gn)) (F 9 (Int.toNat (d))))) := hC52.2.1 9 (by decide)
      have k53_10 : M50 (A 10) = some (iA V (100) (va_up (F 10) (Int.toNat (gn)) (0))) := hC52.2.1 10 (by decide)
      have k53_11 : M50 (A 11) = some (iA V (100) (F 11)) := hC52.2.1 11 (by decide)
      refine mv_aloadR_n B d_Mod_global_73 rfl 0 rfl ?_
      refine gf_Mod_43 B hC52.1 rfl d_Mod_global_74 ?_
      refine mv_aloadR_n B d_Mod_global_77 rfl 0 rfl ?_
      refine gf_Mod_81 B hC52.1 rfl d_Mod_global_78 ?_
      refine mv_iconst (z := 0) B d_Mod_global_81 rfl ?_
      refine ia_st B k53_11 (by omega) (by omega) (by omega) d_Mod_global_82 ?_
      obtain ⟨M54, hM55⟩ : ∃ My : mv_M, My = mv_up M50 (A 11) (iA V (100) (va_up (F 11) (Int.toNat (gn)) (0))) := ⟨_, rfl⟩
      rw [← hM55]
      have hC56 : RefC V M54 r A (rN cap lq) (va_up (va_up (va_up (va_up (va_up (va_up F 6 (va_up (F 6) (Int.toNat (gn)) (s))) 7 (va_up (F 7) (Int.toNat (gn)) (t))) 8 (va_up (F 8) (Int.toNat (gn)) (d))) 9 (va_up (F 9) (Int.toNat (gn)) (F 9 (Int.toNat (d))))) 10 (va_up (F 10) (Int.toNat (gn)) (0))) 11 (va_up (F 11) (Int.toNat (gn)) (0))) (c) (tn) (gn) := by rw [hM55]; exact RefC_w (i := 11) (k := (Int.toNat (gn))) (x := 0) hC52 (by decide) (by show (Int.toNat (gn)) < 100; omega) (by omega)
      have k57_6 : M54 (A 6) = some (iA V (100) (va_up (F 6) (Int.toNat (gn)) (s))) := hC56.2.1 6 (by decide)
      have k57_7 : M54 (A 7) = some (iA V (100) (va_up (F 7) (Int.toNat (gn)) (t))) := hC56.2.1 7 (by decide)
      have k57_8 : M54 (A 8) = some (iA V (100) (va_up (F 8) (Int.toNat (gn)) (d))) := hC56.2.1 8 (by decide)
      have k57_9 : M54 (A 9) = some (iA V (100) (va_up (F 9) (Int.toNat (gn)) (F 9 (Int.toNat (d))))) := hC56.2.1 9 (by decide)
      have k57_10 : M54 (A 10) = some (iA V (100) (va_up (F 10) (Int.toNat (gn)) (0))) := hC56.2.1 10 (by decide)
      have k57_11 : M54 (A 11) = some (iA V (100) (va_up (F 11) (Int.toNat (gn)) (0))) := hC56.2.1 11 (by decide)
      refine mv_aloadR_n B d_Mod_global_83 rfl 0 rfl ?_
      refine mv_dup B d_Mod_global_84 rfl ?_
      refine gf_Mod_81 B hC56.1 rfl d_Mod_global_85 ?_
      refine mv_dup_x1 B d_Mod_global_88 rfl rfl ?_
      refine mv_iconst (z := 1) B d_Mod_global_89 rfl ?_
      refine mv_iadd B d_Mod_global_90 ?_
      refine pf_Mod_81 B hC56.1 rfl rfl (Nat.le_of_ble_eq_true rfl) d_Mod_global_91 ?_
      show mv_G X Q (kk V) 4 94 [(0, .ref r), (1, .int (iI (s))), (2, .int (iI (t))), (3, .int (iI (d)))] [.int (iI (gn))] (mv_up M54 r (.inr (7, [.ref ((A 0)), .ref ((A 1)), .ref ((A 2)), .ref ((A 3)), .ref ((A 4)), .int (iI (c)), .ref ((A 5)), .int (iI (tn)), .ref ((A 6)), .ref ((A 7)), .ref ((A 8)), .ref ((A 9)), .ref ((A 10)), .ref ((A 11)), .int (iI (gn + 1)), .ref ((A 12))]))) 0 0
      obtain ⟨M58, hM59⟩ : ∃ My : mv_M, My = mv_up M54 r (.inr (7, [.ref ((A 0)), .ref ((A 1)), .ref ((A 2)), .ref ((A 3)), .ref ((A 4)), .int (iI (c)), .ref ((A 5)), .int (iI (tn)), .ref ((A 6)), .ref ((A 7)), .ref ((A 8)), .ref ((A 9)), .ref ((A 10)), .ref ((A 11)), .int (iI (gn + 1)), .ref ((A 12))])) := ⟨_, rfl⟩
      rw [← hM59]
      have hC60 : RefC V M58 r A (rN cap lq) (va_up (va_up (va_up (va_up (va_up (va_up F 6 (va_up (F 6) (Int.toNat (gn)) (s))) 7 (va_up (F 7) (Int.toNat (gn)) (t))) 8 (va_up (F 8) (Int.toNat (gn)) (d))) 9 (va_up (F 9) (Int.toNat (gn)) (F 9 (Int.toNat (d))))) 10 (va_up (F 10) (Int.toNat (gn)) (0))) 11 (va_up (F 11) (Int.toNat (gn)) (0))) (c) (tn) (gn + 1) := by rw [hM59]; exact RefC_f hC56 _ _ _
      have k61_6 : M58 (A 6) = some (iA V (100) (va_up (F 6) (Int.toNat (gn)) (s))) := hC60.2.1 6 (by decide)
      have k61_7 : M58 (A 7) = some (iA V (100) (va_up (F 7) (Int.toNat (gn)) (t))) := hC60.2.1 7 (by decide)
      have k61_8 : M58 (A 8) = some (iA V (100) (va_up (F 8) (Int.toNat (gn)) (d))) := hC60.2.1 8 (by decide)
      have k61_9 : M58 (A 9) = some (iA V (100) (va_up (F 9) (Int.toNat (gn)) (F 9 (Int.toNat (d))))) := hC60.2.1 9 (by decide)
      have k61_10 : M58 (A 10) = some (iA V (100) (va_up (F 10) (Int.toNat (gn)) (0))) := hC60.2.1 10 (by decide)
      have k61_11 : M58 (A 11) = some (iA V (100) (va_up (F 11) (Int.toNat (gn)) (0))) := hC60.2.1 11 (by decide)
      rw [hQ]
      exact mv_iret B ⟨rfl, by rw [show (glF F gn.toNat s t d) = (va_up (va_up (va_up (va_up (va_up (va_up F 6 (va_up (F 6) (Int.toNat (gn)) (s))) 7 (va_up (F 7) (Int.toNat (gn)) (t))) 8 (va_up (F 8) (Int.toNat (gn)) (d))) 9 (va_up (F 9) (Int.toNat (gn)) (F 9 (Int.toNat (d))))) 10 (va_up (F 10) (Int.toNat (gn)) (0))) 11 (va_up (F 11) (Int.toNat (gn)) (0))) from (by unfold glF; first | omega | (rw [if_pos (by omega), if_pos (by omega)]; done) | (rw [if_neg (by omega), if_neg (by omega)]; done) | (rw [if_pos (by omega), if_pos (by omega)]; rfl) | (rw [if_neg (by omega), if_neg (by omega)]; rfl))]; exact hC60⟩ (by omega) (by omega) d_Mod_global_94
    · refine mv_iconst (z := -1) B d_Mod_global_67 rfl ?_
      refine mv_goto (tgt := 72) B d_Mod_global_68 (by decide) ?_
      refine ia_st B k48_10 (by omega) (by omega) (by omega) d_Mod_global_72 ?_
      obtain ⟨M62, hM63⟩ : ∃ My : mv_M, My = mv_up M45 (A 10) (iA V (100) (va_up (F 10) (Int.toNat (gn)) (-1))) := ⟨_, rfl⟩
      rw [← hM63]
      have hC64 : RefC V M62 r A (rN cap lq) (va_up (va_up (va_up (va_up (va_up F 6 (va_up (F 6) (Int.toNat (gn)) (s))) 7 (va_up (F 7) (Int.toNat (gn)) (t))) 8 (va_up (F 8) (Int.toNat (gn)) (d))) 9 (va_up (F 9) (Int.toNat (gn)) (F 9 (Int.toNat (d))))) 10 (va_up (F 10) (Int.toNat (gn)) (-1))) (c) (tn) (gn) := by rw [hM63]; exact RefC_w (i := 10) (k := (Int.toNat (gn))) (x := -1) hC47 (by decide) (by show (Int.toNat (gn)) < 100; omega) (by omega)
      have k65_6 : M62 (A 6) = some (iA V (100) (va_up (F 6) (Int.toNat (gn)) (s))) := hC64.2.1 6 (by decide)
      have k65_7 : M62 (A 7) = some (iA V (100) (va_up (F 7) (Int.toNat (gn)) (t))) := hC64.2.1 7 (by decide)
      have k65_8 : M62 (A 8) = some (iA V (100) (va_up (F 8) (Int.toNat (gn)) (d))) := hC64.2.1 8 (by decide)
      have k65_9 : M62 (A 9) = some (iA V (100) (va_up (F 9) (Int.toNat (gn)) (F 9 (Int.toNat (d))))) := hC64.2.1 9 (by decide)
      have k65_10 : M62 (A 10) = some (iA V (100) (va_up (F 10) (Int.toNat (gn)) (-1))) := hC64.2.1 10 (by decide)
      have k65_11 : M62 (A 11) = some (iA V (100) (F 11)) := hC64.2.1 11 (by decide)
      refine mv_aloadR_n B d_Mod_global_73 rfl 0 rfl ?_
      refine gf_Mod_43 B hC64.1 rfl d_Mod_global_74 ?_
      refine mv_aloadR_n B d_Mod_global_77 rfl 0 rfl ?_
      refine gf_Mod_81 B hC64.1 rfl d_Mod_global_78 ?_
      refine mv_iconst (z := 0) B d_Mod_global_81 rfl ?_
      refine ia_st B k65_11 (by omega) (by omega) (by omega) d_Mod_global_82 ?_
      obtain ⟨M66, hM67⟩ : ∃ My : mv_M, My = mv_up M62 (A 11) (iA V (100) (va_up (F 11) (Int.toNat (gn)) (0))) := ⟨_, rfl⟩
      rw [← hM67]
      have hC68 : RefC V M66 r A (rN cap lq) (va_up (va_up (va_up (va_up (va_up (va_up F 6 (va_up (F 6) (Int.toNat (gn)) (s))) 7 (va_up (F 7) (Int.toNat (gn)) (t))) 8 (va_up (F 8) (Int.toNat (gn)) (d))) 9 (va_up (F 9) (Int.toNat (gn)) (F 9 (Int.toNat (d))))) 10 (va_up (F 10) (Int.toNat (gn)) (-1))) 11 (va_up (F 11) (Int.toNat (gn)) (0))) (c) (tn) (gn) := by rw [hM67]; exact RefC_w (i := 11) (k := (Int.toNat (gn))) (x := 0) hC64 (by decide) (by show (Int.toNat (gn)) < 100; omega) (by omega)
      have k69_6 : M66 (A 6) = some (iA V (100) (va_up (F 6) (Int.toNat (gn)) (s))) := hC68.2.1 6 (by decide)
      have k69_7 : M66 (A 7) = some (iA V (100) (va_up (F 7) (Int.toNat (gn)) (t))) := hC68.2.1 7 (by decide)
      have k69_8 : M66 (A 8) = some (iA V (100) (va_up (F 8) (Int.toNat (gn)) (d))) := hC68.2.1 8 (by decide)
      have k69_9 : M66 (A 9) = some (iA V (100) (va_up (F 9) (Int.toNat (gn)) (F 9 (Int.toNat (d))))) := hC68.2.1 9 (by decide)
      have k69_10 : M66 (A 10) = some (iA V (100) (va_up (F 10) (Int.toNat (gn)) (-1))) := hC68.2.1 10 (by decide)
      have k69_11 : M66 (A 11) = some (iA V (100) (va_up (F 11) (Int.toNat (gn)) (0))) := hC68.2.1 11 (by decide)
      refine mv_aloadR_n B d_Mod_global_83 rfl 0 rfl ?_
      refine mv_dup B d_Mod_global_84 rfl ?_
      refine gf_Mod_81 B hC68.1 rfl d_Mod_global_85 ?_
      refine mv_dup_x1 B d_Mod_global_88 rfl rfl ?_
      refine mv_iconst (z := 1) B d_Mod_global_89 rfl ?_
      refine mv_iadd B d_Mod_global_90 ?_
      refine pf_Mod_81 B hC68.1 rfl rfl (Nat.le_of_ble_eq_true rfl) d_Mod_global_91 ?_
      show mv_G X Q (kk V) 4 94 [(0, .ref r), (1, .int (iI (s))), (2, .int (iI (t))), (3, .int (iI (d)))] [.int (iI (gn))] (mv_up M66 r (.inr (7, [.ref ((A 0)), .ref ((A 1)), .ref ((A 2)), .ref ((A 3)), .ref ((A 4)), .int (iI (c)), .ref ((A 5)), .int (iI (tn)), .ref ((A 6)), .ref ((A 7)), .ref ((A 8)), .ref ((A 9)), .ref ((A 10)), .ref ((A 11)), .int (iI (gn + 1)), .ref ((A 12))]))) 0 0
      obtain ⟨M70, hM71⟩ : ∃ My : mv_M, My = mv_up M66 r (.inr (7, [.ref ((A 0)), .ref ((A 1)), .ref ((A 2)), .ref ((A 3)), .ref ((A 4)), .int (iI (c)), .ref ((A 5)), .int (iI (tn)), .ref ((A 6)), .ref ((A 7)), .ref ((A 8)), .ref ((A 9)), .ref ((A 10)), .ref ((A 11)), .int (iI (gn + 1)), .ref ((A 12))])) := ⟨_, rfl⟩
      rw [← hM71]
      have hC72 : RefC V M70 r A (rN cap lq) (va_up (va_up (va_up (va_up (va_up (va_up F 6 (va_up (F 6) (Int.toNat (gn)) (s))) 7 (va_up (F 7) (Int.toNat (gn)) (t))) 8 (va_up (F 8) (Int.toNat (gn)) (d))) 9 (va_up (F 9) (Int.toNat (gn)) (F 9 (Int.toNat (d))))) 10 (va_up (F 10) (Int.toNat (gn)) (-1))) 11 (va_up (F 11) (Int.toNat (gn)) (0))) (c) (tn) (gn + 1) := by rw [hM71]; exact RefC_f hC68 _ _ _
      have k73_6 : M70 (A 6) = some (iA V (100) (va_up (F 6) (Int.toNat (gn)) (s))) := hC72.2.1 6 (by decide)
      have k73_7 : M70 (A 7) = some (iA V (100) (va_up (F 7) (Int.toNat (gn)) (t))) := hC72.2.1 7 (by decide)
      have k73_8 : M70 (A 8) = some (iA V (100) (va_up (F 8) (Int.toNat (gn)) (d))) := hC72.2.1 8 (by decide)
      have k73_9 : M70 (A 9) = some (iA V (100) (va_up (F 9) (Int.toNat (gn)) (F 9 (Int.toNat (d))))) := hC72.2.1 9 (by decide)
      have k73_10 : M70 (A 10) = some (iA V (100) (va_up (F 10) (Int.toNat (gn)) (-1))) := hC72.2.1 10 (by decide)
      have k73_11 : M70 (A 11) = some (iA V (100) (va_up (F 11) (Int.toNat (gn)) (0))) := hC72.2.1 11 (by decide)
      rw [hQ]
      exact mv_iret B ⟨rfl, by rw [show (glF F gn.toNat s t d) = (va_up (va_up (va_up (va_up (va_up (va_up F 6 (va_up (F 6) (Int.toNat (gn)) (s))) 7 (va_up (F 7) (Int.toNat (gn)) (t))) 8 (va_up (F 8) (Int.toNat (gn)) (d))) 9 (va_up (F 9) (Int.toNat (gn)) (F 9 (Int.toNat (d))))) 10 (va_up (F 10) (Int.toNat (gn)) (-1))) 11 (va_up (F 11) (Int.toNat (gn)) (0))) from (by unfold glF; first | omega | (rw [if_pos (by omega), if_pos (by omega)]; done) | (rw [if_neg (by omega), if_neg (by omega)]; done) | (rw [if_pos (by omega), if_pos (by omega)]; rfl) | (rw [if_neg (by omega), if_neg (by omega)]; rfl))]; exact hC72⟩ (by omega) (by omega) d_Mod_global_94
set_option maxRecDepth 100000 in
set_option maxHeartbeats 4000000 in
theorem m_Mod_axiom {l : Launch} {V : mv_V} {M : mv_M} {r cap lq : Nat} {A : Nat → Nat} {F : Nat → Nat → Int} {c tn gn : Int} (hC : RefC V M r A (rN cap lq) F c tn gn) (hcap : cap ≤ 1000000) (hg : 0 ≤ gn ∧ gn ≤ 100) : Met l y_Mod_axiom ws_Mod_axiom (rM 1 0 0 30) (mv_Pre (kk V) [.ref r] M) (mv_Q (kk V) (fun z0 M' => (gn = 100 ∧ z0 = some (.int (iI (-1))) ∧ RefC V M' r A (rN cap lq) F c tn gn) ∨ (gn < 100 ∧ z0 = some (.int (iI gn)) ∧ RefC V M' r A (rN cap lq) (glF F gn.toNat 0 (-1) gn) c tn (gn + 1)))) 0 0 V.2.2.2.2 := by
  refine mv_Met (by decide) rfl (Nat.le_of_ble_eq_true rfl) (fun X hX B => ?_)
  subst hX
  replace B : mv_B X (kk V) c_Mod_axiom ws_Mod_axiom "FamilyRulesModel" 1 (Option.some Jvm.ClassFile.FieldType.int) (rM 1 0 0 30) "axiom" := B
  obtain ⟨Q, hQ⟩ : ∃ Q, Q = mv_E X (kk V) (fun z0 M' => (gn = 100 ∧ z0 = some (.int (iI (-1))) ∧ RefC V M' r A (rN cap lq) F c tn gn) ∨ (gn < 100 ∧ z0 = some (.int (iI gn)) ∧ RefC V M' r A (rN cap lq) (glF F gn.toNat 0 (-1) gn) c tn (gn + 1))) 0 0 := ⟨_, rfl⟩
  rw [← hQ]
  show mv_G X Q (kk V) 1 0 [(0, .ref r)] [] M 0 0
  refine mv_aloadR_n B d_Mod_axiom_0 rfl 0 rfl ?_
  refine gf_Mod_81 B hC.1 rfl d_Mod_axiom_1 ?_
  refine mv_bipush (z := 100) B d_Mod_axiom_4 (by decide) ?_
  refine mv_icmp_ne (tgt := 13) B d_Mod_axiom_6 (by decide) (by omega) (by omega) (fun c2 => ?_) (fun c2 => ?_)
  · refine mv_aloadR_n B d_Mod_axiom_13 rfl 0 rfl ?_
    refine mv_iconst (z := 0) B d_Mod_axiom_14 rfl ?_
    refine mv_iconst (z := -1) B d_Mod_axiom_15 rfl ?_
    refine mv_aloadR_n B d_Mod_axiom_16 rfl 0 rfl ?_
    refine gf_Mod_81 B hC.1 rfl d_Mod_axiom_17 ?_
    refine ca_Mod_98 (mc := 0) (ms := 0) (rm' := rM 0 0 0 0) (As := [.int (iI (0)), .int (iI (-1)), .int (iI (gn))]) (rest := []) B (m_Mod_global hC hcap (s := 0) (t := -1) (d := gn) (by omega) (by omega) (by omega) (by omega) (hC.2.2.2.2.1 9 _)) rfl rfl ⟨Nat.le_of_ble_eq_true rfl, Nat.le_of_ble_eq_true rfl⟩ hC.1 rfl rfl (Nat.le_of_ble_eq_true rfl) d_Mod_axiom_20 ⟨by omega, by omega⟩ (fun v1 M9 ep => ?_)
    obtain ⟨e1, hC9⟩ := ep
    subst e1
    show mv_G X Q (kk V) 1 23 [(0, .ref r)] [.int (iI gn)] M9 0 0
    rw [hQ]
    exact mv_iret B (Or.inr ⟨by omega, rfl, hC9⟩) (by omega) (by omega) d_Mod_axiom_23
  · refine mv_iconst (z := -1) B d_Mod_axiom_9 rfl ?_
    refine mv_goto (tgt := 23) B d_Mod_axiom_10 (by decide) ?_
    rw [hQ]
    exact mv_iret B (Or.inl ⟨by omega, rfl, hC⟩) (by omega) (by omega) d_Mod_axiom_23
