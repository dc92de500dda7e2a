/-! the reference: wide, add and the reads -/
set_option maxRecDepth 100000 in
set_option maxHeartbeats 4000000 in
theorem m_Mod_wide {l : Launch} {V : mv_V} {M : mv_M} {a n : Nat} {f : Nat → Int} (ha : M a = some (iA V n f)) (hn : n ≤ 10000000) (hz : ∀ j, n ≤ j → f j = 0) : Met l y_Mod_wide ws_Mod_wide (rM 1 1 (2 * n) 40) (mv_Pre (kk V) [.ref a] M) (mv_Q (kk V) (fun v M' => ∃ q : Nat, v = some (.ref q) ∧ (∀ x e, M x = some e → x < q) ∧ M' = mv_up M q (iA V (2 * n) f))) 1 (2 * n) V.2.2.2.2 := by
  refine mv_Met (by decide) rfl (Nat.le_of_ble_eq_true rfl) (fun X hX B => ?_)
  subst hX
  replace B : mv_B X (kk V) c_Mod_wide ws_Mod_wide "FamilyRulesModel" 2 (Option.some (Jvm.ClassFile.FieldType.array Jvm.ClassFile.FieldType.int)) (rM 1 1 (2 * n) 40) "wide" := B
  obtain ⟨Q, hQ⟩ : ∃ Q, Q = mv_E X (kk V) (fun v M' => ∃ q : Nat, v = some (.ref q) ∧ (∀ x e, M x = some e → x < q) ∧ M' = mv_up M q (iA V (2 * n) f)) 1 (2 * n) := ⟨_, rfl⟩
  rw [← hQ]
  show mv_G X Q (kk V) 2 0 [(0, .ref a)] [] M 0 0
  have hrc : (rM 1 1 (2 * n) 40).cells = 1 := rfl
  have hrs : (rM 1 1 (2 * n) 40).slots = 2 * n := rfl
  refine mv_iconst (z := 2) B d_Mod_wide_0 rfl ?_
  refine mv_aloadR_n B d_Mod_wide_1 rfl 0 rfl ?_
  refine ia_len B ha d_Mod_wide_2 ?_
  refine mv_imul B d_Mod_wide_3 ?_
  refine ia_new (n := 2 * n) B (mw_t 44 (by decide +kernel) (by decide +kernel)) (by omega) (by omega) (by omega) (by omega) d_Mod_wide_4 (fun q1 fq2 => ?_)
  obtain ⟨M3, hM4⟩ : ∃ My : mv_M, My = mv_up M q1 (iA V (2 * n) (fun _ => 0)) := ⟨_, rfl⟩
  rw [← hM4]
  have hf5 : M3 a = some (iA V n f) := by rw [hM4, mv_un (Nat.ne_of_lt (fq2 _ _ ha))]; exact ha
  have hf6 : M3 q1 = some (iA V (2 * n) (fun _ => 0)) := by rw [hM4]; exact mv_us
  refine mv_astoreR_n (lv' := [(1, .ref q1), (0, .ref a)]) B d_Mod_wide_6 rfl (by decide) rfl ?_
  refine mv_aloadR_n B d_Mod_wide_7 rfl 1 rfl ?_
  refine mv_iconst (z := 0) B d_Mod_wide_8 rfl ?_
  refine mv_aloadR_n B d_Mod_wide_9 rfl 0 rfl ?_
  refine mv_iconst (z := 0) B d_Mod_wide_10 rfl ?_
  refine mv_aloadR_n B d_Mod_wide_11 rfl 1 rfl ?_
  refine ia_len B hf5 d_Mod_wide_12 ?_
  refine ia_cpy B (mwc (mw_t 546 (by decide +kernel) (by decide +kernel))) (mwc (mw_t 201 (by decide +kernel) (by decide +kernel))) (mwc (mw_t 200 (by decide +kernel) (by decide +kernel))) (mwc (mw_t 9 (by decide +kernel) (by decide +kernel))) hf5 hf6 (by omega) (by omega) (by omega) (by omega) (by omega) (by omega) (by omega) (by omega) (Nat.le_of_ble_eq_true rfl) (Nat.le_of_ble_eq_true rfl) d_Mod_wide_13 ?_
  obtain ⟨M7, hM8⟩ : ∃ My : mv_M, My = mv_up M3 q1 (iA V (2 * n) (va_cpy f (fun _ => 0) (Int.toNat (0)) (Int.toNat (0)) (Int.toNat ((n : Nat))))) := ⟨_, rfl⟩
  rw [← hM8]
  have hf9 : M7 a = some (iA V n f) := by rw [hM8, mv_un (Nat.ne_of_lt (fq2 _ _ ha))]; exact hf5
  have hf10 : M7 q1 = some (iA V (2 * n) (va_cpy f (fun _ => 0) (Int.toNat (0)) (Int.toNat (0)) (Int.toNat ((n : Nat))))) := by rw [hM8]; exact mv_us
  refine mv_aloadR_n B d_Mod_wide_16 rfl 0 rfl ?_
  rw [hQ]
  refine mv_aretA B ⟨q1, rfl, fq2, ?_⟩ (by omega) (by omega) d_Mod_wide_17
  rw [hM8, hM4, mv_uu, show va_cpy f (fun _ => 0) (Int.toNat 0) (Int.toNat 0) (Int.toNat ((n : Nat) : Int)) = f from ?_]
  funext j
  unfold va_cpy
  split
  · congr 1; omega
  · exact (hz j (by omega)).symm
set_option maxRecDepth 100000 in
set_option maxHeartbeats 4000000 in
theorem m_Mod_add {l : Launch} {V : mv_V} {M : mv_M} {r cap lq : Nat} {A : Nat → Nat} {F : Nat → Nat → Int} {c tn gn : Int} (hC : RefC V M r A (rN cap lq) F c tn gn) (hc : 0 ≤ c ∧ c ≤ cap) (hcap0 : 1 ≤ cap ∧ cap ≤ 1000000) {k v s : Int} (rk : Sm k) (rv : Sm v) (rs : Sm s) : Met l y_Mod_add ws_Mod_add (rM 2 (pC (capN cap c) lq - pC cap lq) (pS (capN cap c) lq - pS cap lq) 70) (mv_Pre (kk V) [.ref r, .int (iI (k)), .int (iI (v)), .int (iI (s))] M) (mv_Q (kk V) (fun z M' => z = some (.int (iI c)) ∧ RefAt V M' r (capN cap c) lq (addF F c.toNat k v s) (c + 1) tn gn)) (pC (capN cap c) lq - pC cap lq) (pS (capN cap c) lq - pS cap lq) V.2.2.2.2 := by
  refine mv_Met (by decide) rfl (Nat.le_of_ble_eq_true rfl) (fun X hX B => ?_)
  subst hX
  replace B : mv_B X (kk V) c_Mod_add ws_Mod_add "FamilyRulesModel" 4 (Option.some Jvm.ClassFile.FieldType.int) (rM 2 (pC (capN cap c) lq - pC cap lq) (pS (capN cap c) lq - pS cap lq) 70) "add" := B
  obtain ⟨Q, hQ⟩ : ∃ Q, Q = mv_E X (kk V) (fun z M' => z = some (.int (iI c)) ∧ RefAt V M' r (capN cap c) lq (addF F c.toNat k v s) (c + 1) tn gn) (pC (capN cap c) lq - pC cap lq) (pS (capN cap c) lq - pS cap lq) := ⟨_, rfl⟩
  rw [← hQ]
  show mv_G X Q (kk V) 4 0 [(0, .ref r), (1, .int (iI (k))), (2, .int (iI (v))), (3, .int (iI (s)))] [] M 0 0
  have hrc : (rM 2 (pC (capN cap c) lq - pC cap lq) (pS (capN cap c) lq - pS cap lq) 70).cells = pC (capN cap c) lq - pC cap lq := rfl
  have hrs : (rM 2 (pC (capN cap c) lq - pC cap lq) (pS (capN cap c) lq - pS cap lq) 70).slots = pS (capN cap c) lq - pS cap lq := rfl
  have k1_0 : M (A 0) = some (iA V (cap) (F 0)) := hC.2.1 0 (by decide)
  have k1_1 : M (A 1) = some (iA V (cap) (F 1)) := hC.2.1 1 (by decide)
  have k1_2 : M (A 2) = some (iA V (cap) (F 2)) := hC.2.1 2 (by decide)
  have k1_3 : M (A 3) = some (iA V (cap) (F 3)) := hC.2.1 3 (by decide)
  have k1_4 : M (A 4) = some (iA V (cap) (F 4)) := hC.2.1 4 (by decide)
  refine mv_aloadR_n B d_Mod_add_0 rfl 0 rfl ?_
  refine gf_Mod_55 B hC.1 rfl d_Mod_add_1 ?_
  refine mv_aloadR_n B d_Mod_add_4 rfl 0 rfl ?_
  refine gf_Mod_7 B hC.1 rfl d_Mod_add_5 ?_
  refine ia_len B k1_0 d_Mod_add_8 ?_
  refine mv_icmp_ne (tgt := 67) B d_Mod_add_9 (by decide) (by omega) (by omega) (fun c2 => ?_) (fun c2 => ?_)
  · have hcap : capN cap c = cap := if_neg (by omega)
    refine mv_aloadR_n B d_Mod_add_67 rfl 0 rfl ?_
    refine gf_Mod_7 B hC.1 rfl d_Mod_add_68 ?_
    refine mv_aloadR_n B d_Mod_add_71 rfl 0 rfl ?_
    refine gf_Mod_55 B hC.1 rfl d_Mod_add_72 ?_
    refine mv_iload_n B d_Mod_add_75 rfl 1 rfl ?_
    refine ia_st B k1_0 (by omega) (by omega) (by omega) d_Mod_add_76 ?_
    obtain ⟨M3, hM4⟩ : ∃ My : mv_M, My = mv_up M (A 0) (iA V (cap) (va_up (F 0) (Int.toNat (c)) (k))) := ⟨_, rfl⟩
    rw [← hM4]
    have hC5 : RefC V M3 r A (rN cap lq) (va_up F 0 (va_up (F 0) (Int.toNat (c)) (k))) (c) (tn) (gn) := by rw [hM4]; exact RefC_w (i := 0) (k := (Int.toNat (c))) (x := k) hC (by decide) (by show (Int.toNat (c)) < cap; omega) (by omega)
    have k6_0 : M3 (A 0) = some (iA V (cap) (va_up (F 0) (Int.toNat (c)) (k))) := hC5.2.1 0 (by decide)
    have k6_1 : M3 (A 1) = some (iA V (cap) (F 1)) := hC5.2.1 1 (by decide)
    have k6_2 : M3 (A 2) = some (iA V (cap) (F 2)) := hC5.2.1 2 (by decide)
    have k6_3 : M3 (A 3) = some (iA V (cap) (F 3)) := hC5.2.1 3 (by decide)
    have k6_4 : M3 (A 4) = some (iA V (cap) (F 4)) := hC5.2.1 4 (by decide)
    refine mv_aloadR_n B d_Mod_add_77 rfl 0 rfl ?_
    refine gf_Mod_13 B hC5.1 rfl d_Mod_add_78 ?_
    refine mv_aloadR_n B d_Mod_add_81 rfl 0 rfl ?_
    refine gf_Mod_55 B hC5.1 rfl d_Mod_add_82 ?_
    refine mv_iload_n B d_Mod_add_85 rfl 2 rfl ?_
    refine ia_st B k6_1 (by omega) (by omega) (by omega) d_Mod_add_86 ?_
    obtain ⟨M7, hM8⟩ : ∃ My : mv_M, My = mv_up M3 (A 1) (iA V (cap) (va_up (F 1) (Int.toNat (c)) (v))) := ⟨_, rfl⟩
    rw [← hM8]
    have hC9 : RefC V M7 r A (rN cap lq) (va_up (va_up F 0 (va_up (F 0) (Int.toNat (c)) (k))) 1 (va_up (F 1) (Int.toNat (c)) (v))) (c) (tn) (gn) := by rw [hM8]; exact RefC_w (i := 1) (k := (Int.toNat (c))) (x := v) hC5 (by decide) (by show (Int.toNat (c)) < cap; omega) (by omega)
    have k10_0 : M7 (A 0) = some (iA V (cap) (va_up (F 0) (Int.toNat (c)) (k))) := hC9.2.1 0 (by decide)
    have k10_1 : M7 (A 1) = some (iA V (cap) (va_up (F 1) (Int.toNat (c)) (v))) := hC9.2.1 1 (by decide)
    have k10_2 : M7 (A 2) = some (iA V (cap) (F 2)) := hC9.2.1 2 (by decide)
    have k10_3 : M7 (A 3) = some (iA V (cap) (F 3)) := hC9.2.1 3 (by decide)
    have k10_4 : M7 (A 4) = some (iA V (cap) (F 4)) := hC9.2.1 4 (by decide)
    refine mv_aloadR_n B d_Mod_add_87 rfl 0 rfl ?_
    refine gf_Mod_16 B hC9.1 rfl d_Mod_add_88 ?_
    refine mv_aloadR_n B d_Mod_add_91 rfl 0 rfl ?_
    refine gf_Mod_55 B hC9.1 rfl d_Mod_add_92 ?_
    refine mv_iload_n B d_Mod_add_95 rfl 3 rfl ?_
    refine ia_st B k10_2 (by omega) (by omega) (by omega) d_Mod_add_96 ?_
    obtain ⟨M11, hM12⟩ : ∃ My : mv_M, My = mv_up M7 (A 2) (iA V (cap) (va_up (F 2) (Int.toNat (c)) (s))) := ⟨_, rfl⟩
    rw [← hM12]
    have hC13 : RefC V M11 r A (rN cap lq) (va_up (va_up (va_up F 0 (va_up (F 0) (Int.toNat (c)) (k))) 1 (va_up (F 1) (Int.toNat (c)) (v))) 2 (va_up (F 2) (Int.toNat (c)) (s))) (c) (tn) (gn) := by rw [hM12]; exact RefC_w (i := 2) (k := (Int.toNat (c))) (x := s) hC9 (by decide) (by show (Int.toNat (c)) < cap; omega) (by omega)
    have k14_0 : M11 (A 0) = some (iA V (cap) (va_up (F 0) (Int.toNat (c)) (k))) := hC13.2.1 0 (by decide)
    have k14_1 : M11 (A 1) = some (iA V (cap) (va_up (F 1) (Int.toNat (c)) (v))) := hC13.2.1 1 (by decide)
    have k14_2 : M11 (A 2) = some (iA V (cap) (va_up (F 2) (Int.toNat (c)) (s))) := hC13.2.1 2 (by decide)
    have k14_3 : M11 (A 3) = some (iA V (cap) (F 3)) := hC13.2.1 3 (by decide)
    have k14_4 : M11 (A 4) = some (iA V (cap) (F 4)) := hC13.2.1 4 (by decide)
    refine mv_aloadR_n B d_Mod_add_97 rfl 0 rfl ?_
    refine gf_Mod_19 B hC13.1 rfl d_Mod_add_98 ?_
    refine mv_aloadR_n B d_Mod_add_101 rfl 0 rfl ?_
    refine gf_Mod_55 B hC13.1 rfl d_Mod_add_102 ?_
    refine mv_iconst (z := 1) B d_Mod_add_105 rfl ?_
    refine ia_st B k14_3 (by omega) (by omega) (by omega) d_Mod_add_106 ?_
    obtain ⟨M15, hM16⟩ : ∃ My : mv_M, My = mv_up M11 (A 3) (iA V (cap) (va_up (F 3) (Int.toNat (c)) (1))) := ⟨_, rfl⟩
    rw [← hM16]
    have hC17 : RefC V M15 r A (rN cap lq) (va_up (va_up (va_up (va_up F 0 (va_up (F 0) (Int.toNat (c)) (k))) 1 (va_up (F 1) (Int.toNat (c)) (v))) 2 (va_up (F 2) (Int.toNat (c)) (s))) 3 (va_up (F 3) (Int.toNat (c)) (1))) (c) (tn) (gn) := by rw [hM16]; exact RefC_w (i := 3) (k := (Int.toNat (c))) (x := 1) hC13 (by decide) (by show (Int.toNat (c)) < cap; omega) (by omega)
    have k18_0 : M15 (A 0) = some (iA V (cap) (va_up (F 0) (Int.toNat (c)) (k))) := hC17.2.1 0 (by decide)
    have k18_1 : M15 (A 1) = some (iA V (cap) (va_up (F 1) (Int.toNat (c)) (v))) := hC17.2.1 1 (by decide)
    have k18_2 : M15 (A 2) = some (iA V (cap) (va_up (F 2) (Int.toNat (c)) (s))) := hC17.2.1 2 (by decide)
    have k18_3 : M15 (A 3) = some (iA V (cap) (va_up (F 3) (Int.toNat (c)) (1))) := hC17.2.1 3 (by decide)
    have k18_4 : M15 (A 4) = some (iA V (cap) (F 4)) := hC17.2.1 4 (by decide)
    refine mv_aloadR_n B d_Mod_add_107 rfl 0 rfl ?_
    refine mv_dup B d_Mod_add_108 rfl ?_
    refine gf_Mod_55 B hC17.1 rfl d_Mod_add_109 ?_
    refine mv_dup_x1 B d_Mod_add_112 rfl rfl ?_
    refine mv_iconst (z := 1) B d_Mod_add_113 rfl ?_
    refine mv_iadd B d_Mod_add_114 ?_
    refine pf_Mod_55 B hC17.1 rfl rfl (Nat.le_of_ble_eq_true rfl) d_Mod_add_115 ?_
    show mv_G X Q (kk V) 4 118 [(0, .ref r), (1, .int (iI (k))), (2, .int (iI (v))), (3, .int (iI (s)))] [.int (iI (c))] (mv_up M15 r (.inr (7, [.ref ((A 0)), .ref ((A 1)), .ref ((A 2)), .ref ((A 3)), .ref ((A 4)), .int (iI (c + 1)), .ref ((A 5)), .int (iI (tn)), .ref ((A 6)), .ref ((A 7)), .ref ((A 8)), .ref ((A 9)), .ref ((A 10)), .ref ((A 11)), .int (iI (gn)), .ref ((A 12))]))) 0 0
    obtain ⟨M19, hM20⟩ : ∃ My : mv_M, My = mv_up M15 r (.inr (7, [.ref ((A 0)), .ref ((A 1)), .ref ((A 2)), .ref ((A 3)), .ref ((A 4)), .int (iI (c + 1)), .ref ((A 5)), .int (iI (tn)), .ref ((A 6)), .ref ((A 7)), .ref ((A 8)), .ref ((A 9)), .ref ((A 10)), .ref ((A 11)), .int (iI (gn)), .ref ((A 12))])) := ⟨_, rfl⟩
    rw [← hM20]
    have hC21 : RefC V M19 r A (rN cap lq) (va_up (va_up (va_up (va_up F 0 (va_up (F 0) (Int.toNat (c)) (k))) 1 (va_up (F 1) (Int.toNat (c)) (v))) 2 (va_up (F 2) (Int.toNat (c)) (s))) 3 (va_up (F 3) (Int.toNat (c)) (1))) (c + 1) (tn) (gn) := by rw [hM20]; exact RefC_f hC17 _ _ _
    have k22_0 : M19 (A 0) = some (iA V (cap) (va_up (F 0) (Int.toNat (c)) (k))) := hC21.2.1 0 (by decide)
    have k22_1 : M19 (A 1) = some (iA V (cap) (va_up (F 1) (Int.toNat (c)) (v))) := hC21.2.1 1 (by decide)
    have k22_2 : M19 (A 2) = some (iA V (cap) (va_up (F 2) (Int.toNat (c)) (s))) := hC21.2.1 2 (by decide)
    have k22_3 : M19 (A 3) = some (iA V (cap) (va_up (F 3) (Int.toNat (c)) (1))) := hC21.2.1 3 (by decide)
    have k22_4 : M19 (A 4) = some (iA V (cap) (F 4)) := hC21.2.1 4 (by decide)
    rw [hQ]
    exact mv_iret B ⟨by first | rfl | (congr 3; omega), A, by rw [hcap]; exact hC21⟩ (by omega) (by omega) d_Mod_add_118
  · have hcap : capN cap c = 2 * cap := if_pos (by omega)
    have hm1 : pC (capN cap c) lq - pC cap lq = 5 := by rw [hcap, pC_2 (by omega)]; omega
    have hm2 : pS (capN cap c) lq - pS cap lq = 10 * cap := by rw [hcap]; unfold pS; omega
    refine mv_aloadR_n B d_Mod_add_12 rfl 0 rfl ?_
    refine mv_aloadR_n B d_Mod_add_13 rfl 0 rfl ?_
    refine gf_Mod_7 B hC.1 rfl d_Mod_add_14 ?_
    refine ca_Mod_59 (mc := 1) (ms := 2 * (cap)) (rm' := rM 1 1 (2 * (cap)) 40) (As := [.ref ((A 0))]) (rest := [.ref r]) B (m_Mod_wide k1_0 (by omega) (fun x hx => hC.2.2.2.1 0 x (by decide) hx)) rfl rfl ⟨Nat.le_of_ble_eq_true rfl, Nat.le_of_ble_eq_true rfl⟩ rfl rfl (Nat.le_of_ble_eq_true rfl) d_Mod_add_17 ⟨(by omega), (by omega)⟩ (fun v1 M25 ep => ?_)
    obtain ⟨q23, e1, hq24, hM26⟩ := ep
    subst e1
    have hrq23 : M25 r = some (roC A (c) (tn) (gn)) := by rw [hM26, mv_un (Nat.ne_of_lt (hq24 _ _ hC.1))]; exact hC.1
    show mv_G X Q (kk V) 4 20 [(0, .ref r), (1, .int (iI (k))), (2, .int (iI (v))), (3, .int (iI (s)))] [.ref q23, .ref r] M25 (0 + 1) (0 + 2 * (cap))
    refine pf_Mod_7 B hrq23 rfl rfl (Nat.le_of_ble_eq_true rfl) d_Mod_add_20 ?_
    show mv_G X Q (kk V) 4 23 [(0, .ref r), (1, .int (iI (k))), (2, .int (iI (v))), (3, .int (iI (s)))] [] (mv_up M25 r (.inr (7, [.ref q23, .ref ((A 1)), .ref ((A 2)), .ref ((A 3)), .ref ((A 4)), .int (iI (c)), .ref ((A 5)), .int (iI (tn)), .ref ((A 6)), .ref ((A 7)), .ref ((A 8)), .ref ((A 9)), .ref ((A 10)), .ref ((A 11)), .int (iI (gn)), .ref ((A 12))]))) (0 + 1) (0 + 2 * (cap))
    obtain ⟨M27, hM28⟩ : ∃ My : mv_M, My = mv_up M25 r (.inr (7, [.ref q23, .ref ((A 1)), .ref ((A 2)), .ref ((A 3)), .ref ((A 4)), .int (iI (c)), .ref ((A 5)), .int (iI (tn)), .ref ((A 6)), .ref ((A 7)), .ref ((A 8)), .ref ((A 9)), .ref ((A 10)), .ref ((A 11)), .int (iI (gn)), .ref ((A 12))])) := ⟨_, rfl⟩
    rw [← hM28]
    have hC29 : RefC V M27 r (va_up A 0 q23) (va_up (rN cap lq) 0 (2 * cap)) F (c) (tn) (gn) := by rw [hM28, hM26]; exact RefC_wide (i := 0) hC (by decide) hq24 (by show 2 * (cap) ≤ 10000000; omega)
    obtain ⟨A30, hA30⟩ : ∃ Ay : Nat → Nat, Ay = va_up A 0 q23 := ⟨_, rfl⟩
    rw [← hA30] at hC29
    have k31_0 : M27 (A30 0) = some (iA V (2 * cap) (F 0)) := hC29.2.1 0 (by decide)
    have k31_1 : M27 (A30 1) = some (iA V (cap) (F 1)) := hC29.2.1 1 (by decide)
    have k31_2 : M27 (A30 2) = some (iA V (cap) (F 2)) := hC29.2.1 2 (by decide)
    have k31_3 : M27 (A30 3) = some (iA V (cap) (F 3)) := hC29.2.1 3 (by decide)
    have k31_4 : M27 (A30 4) = some (iA V (cap) (F 4)) := hC29.2.1 4 (by decide)
    refine mv_aloadR_n B d_Mod_add_23 rfl 0 rfl ?_
    refine mv_aloadR_n B d_Mod_add_24 rfl 0 rfl ?_
    refine gf_Mod_13 B hC29.1 rfl d_Mod_add_25 ?_
    refine ca_Mod_59 (mc := 1) (ms := 2 * (cap)) (rm' := rM 1 1 (2 * (cap)) 40) (As := [.ref ((A30 1))]) (rest := [.ref r]) B (m_Mod_wide k31_1 (by omega) (fun x hx => hC29.2.2.2.1 1 x (by decide) hx)) rfl rfl ⟨Nat.le_of_ble_eq_true rfl, Nat.le_of_ble_eq_true rfl⟩ rfl rfl (Nat.le_of_ble_eq_true rfl) d_Mod_add_28 ⟨(by omega), (by omega)⟩ (fun v1 M34 ep => ?_)
    obtain ⟨q32, e1, hq33, hM35⟩ := ep
    subst e1
    have hrq32 : M34 r = some (roC A30 (c) (tn) (gn)) := by rw [hM35, mv_un (Nat.ne_of_lt (hq33 _ _ hC29.1))]; exact hC29.1
    show mv_G X Q (kk V) 4 31 [(0, .ref r), (1, .int (iI (k))), (2, .int (iI (v))), (3, .int (iI (s)))] [.ref q32, .ref r] M34 ((0 + 1) + 1) ((0 + 2 * (cap)) + 2 * (cap))
    refine pf_Mod_13 B hrq32 rfl rfl (Nat.le_of_ble_eq_true rfl) d_Mod_add_31 ?_
    show mv_G X Q (kk V) 4 34 [(0, .ref r), (1, .int (iI (k))), (2, .int (iI (v))), (3, .int (iI (s)))] [] (mv_up M34 r (.inr (7, [.ref ((A30 0)), .ref q32, .ref ((A30 2)), .ref ((A30 3)), .ref ((A30 4)), .int (iI (c)), .ref ((A30 5)), .int (iI (tn)), .ref ((A30 6)), .ref ((A30 7)), .ref ((A30 8)), .ref ((A30 9)), .ref ((A30 10)), .ref ((A30 11)), .int (iI (gn)), .ref ((A30 12))]))) ((0 + 1) + 1) ((0 + 2 * (cap)) + 2 * (cap))
    obtain ⟨M36, hM37⟩ : ∃ My : mv_M, My = mv_up M34 r (.inr (7, [.ref ((A30 0)), .ref q32, .ref ((A30 2)), .ref ((A30 3)), .ref ((A30 4)), .int (iI (c)), .ref ((A30 5)), .int (iI (tn)), .ref ((A30 6)), .ref ((A30 7)), .ref ((A30 8)), .ref ((A30 9)), .ref ((A30 10)), .ref ((A30 11)), .int (iI (gn)), .ref ((A30 12))])) := ⟨_, rfl⟩
    rw [← hM37]
    have hC38 : RefC V M36 r (va_up A30 1 q32) (va_up (va_up (rN cap lq) 0 (2 * cap)) 1 (2 * cap)) F (c) (tn) (gn) := by rw [hM37, hM35]; exact RefC_wide (i := 1) hC29 (by decide) hq33 (by show 2 * (cap) ≤ 10000000; omega)
    obtain ⟨A39, hA39⟩ : ∃ Ay : Nat → Nat, Ay = va_up A30 1 q32 := ⟨_, rfl⟩
    rw [← hA39] at hC38
    have k40_0 : M36 (A39 0) = some (iA V (2 * cap) (F 0)) := hC38.2.1 0 (by decide)
    have k40_1 : M36 (A39 1) = some (iA V (2 * cap) (F 1)) := hC38.2.1 1 (by decide)
    have k40_2 : M36 (A39 2) = some (iA V (cap) (F 2)) := hC38.2.1 2 (by decide)
    have k40_3 : M36 (A39 3) = some (iA V (cap) (F 3)) := hC38.2.1 3 (by decide)
    have k40_4 : M36 (A39 4) = some (iA V (cap) (F 4)) := hC38.2.1 4 (by decide)
    refine mv_aloadR_n B d_Mod_add_34 rfl 0 rfl ?_
    refine mv_aloadR_n B d_Mod_add_35 rfl 0 rfl ?_
    refine gf_Mod_16 B hC38.1 rfl d_Mod_add_36 ?_
    refine ca_Mod_59 (mc := 1) (ms := 2 * (cap)) (rm' := rM 1 1 (2 * (cap)) 40) (As := [.ref ((A39 2))]) (rest := [.ref r]) B (m_Mod_wide k40_2 (by omega) (fun x hx => hC38.2.2.2.1 2 x (by decide) hx)) rfl rfl ⟨Nat.le_of_ble_eq_true rfl, Nat.le_of_ble_eq_true rfl⟩ rfl rfl (Nat.le_of_ble_eq_true rfl) d_Mod_add_39 ⟨(by omega), (by omega)⟩ (fun v1 M43 ep => ?_)
    obtain ⟨q41, e1, hq42, hM44⟩ := ep
    subst e1
    have hrq41 : M43 r = some (roC A39 (c) (tn) (gn)) := by rw [hM44, mv_un (Nat.ne_of_lt (hq42 _ _ hC38.1))]; exact hC38.1
    show mv_G X Q (kk V) 4 42 [(0, .ref r), (1, .int (iI (k))), (2, .int (iI (v))), (3, .int (iI (s)))] [.ref q41, .ref r] M43 (((0 + 1) + 1) + 1) (((0 + 2 * (cap)) + 2 * (cap)) + 2 * (cap))
    refine pf_Mod_16 B hrq41 rfl rfl (Nat.le_of_ble_eq_true rfl) d_Mod_add_42 ?_
    show mv_G X Q (kk V) 4 45 [(0, .ref r), (1, .int (iI (k))), (2, .int (iI (v))), (3, .int (iI (s)))] [] (mv_up M43 r (.inr (7, [.ref ((A39 0)), .ref ((A39 1)), .ref q41, .ref ((A39 3)), .ref ((A39 4)), .int (iI (c)), .ref ((A39 5)), .int (iI (tn)), .ref ((A39 6)), .ref ((A39 7)), .ref ((A39 8)), .ref ((A39 9)), .ref ((A39 10)), .ref ((A39 11)), .int (iI (gn)), .ref ((A39 12))]))) (((0 + 1) + 1) + 1) (((0 + 2 * (cap)) + 2 * (cap)) + 2 * (cap))
    obtain ⟨M45, hM46⟩ : ∃ My : mv_M, My = mv_up M43 r (.inr (7, [.ref ((A39 0)), .ref ((A39 1)), .ref q41, .ref ((A39 3)), .ref ((A39 4)), .int (iI (c)), .ref ((A39 5)), .int (iI (tn)), .ref ((A39 6)), .ref ((A39 7)), .ref ((A39 8)), .ref ((A39 9)), .ref ((A39 10)), .ref ((A39 11)), .int (iI (gn)), .ref ((A39 12))])) := ⟨_, rfl⟩
    rw [← hM46]
    have hC47 : RefC V M45 r (va_up A39 2 q41) (va_up (va_up (va_up (rN cap lq) 0 (2 * cap)) 1 (2 * cap)) 2 (2 * cap)) F (c) (tn) (gn) := by rw [hM46, hM44]; exact RefC_wide (i := 2) hC38 (by decide) hq42 (by show 2 * (cap) ≤ 10000000; omega)
    obtain ⟨A48, hA48⟩ : ∃ Ay : Nat → Nat, Ay = va_up A39 2 q41 := ⟨_, rfl⟩
    rw [← hA48] at hC47
    have k49_0 : M45 (A48 0) = some (iA V (2 * cap) (F 0)) := hC47.2.1 0 (by decide)
    have k49_1 : M45 (A48 1) = some (iA V (2 * cap) (F 1)) := hC47.2.1 1 (by decide)
    have k49_2 : M45 (A48 2) = some (iA V (2 * cap) (F 2)) := hC47.2.1 2 (by decide)
    have k49_3 : M45 (A48 3) = some (iA V (cap) (F 3)) := hC47.2.1 3 (by decide)
    have k49_4 : M45 (A48 4) = some (iA V (cap) (F 4)) := hC47.2.1 4 (by decide)
    refine mv_aloadR_n B d_Mod_add_45 rfl 0 rfl ?_
    refine mv_aloadR_n B d_Mod_add_46 rfl 0 rfl ?_
    refine gf_Mod_19 B hC47.1 rfl d_Mod_add_47 ?_
    refine ca_Mod_59 (mc := 1) (ms := 2 * (cap)) (rm' := rM 1 1 (2 * (cap)) 40) (As := [.ref ((A48 3))]) (rest := [.ref r]) B (m_Mod_wide k49_3 (by omega) (fun x hx => hC47.2.2.2.1 3 x (by decide) hx)) rfl rfl ⟨Nat.le_of_ble_eq_true rfl, Nat.le_of_ble_eq_true rfl⟩ rfl rfl (Nat.le_of_ble_eq_true rfl) d_Mod_add_50 ⟨(by omega), (by omega)⟩ (fun v1 M52 ep => ?_)
    obtain ⟨q50, e1, hq51, hM53⟩ := ep
    subst e1
    have hrq50 : M52 r = some (roC A48 (c) (tn) (gn)) := by rw [hM53, mv_un (Nat.ne_of_lt (hq51 _ _ hC47.1))]; exact hC47.1
    show mv_G X Q (kk V) 4 53 [(0, .ref r), (1, .int (iI (k))), (2, .int (iI (v))), (3, .int (iI (s)))] [.ref q50, .ref r] M52 ((((0 + 1) + 1) + 1) + 1) ((((0 + 2 * (cap)) + 2 * (cap)) + 2 * (cap)) + 2 * (cap))
    refine pf_Mod_19 B hrq50 rfl rfl (Nat.le_of_ble_eq_true rfl) d_Mod_add_53 ?_
    show mv_G X Q (kk V) 4 56 [(0, .ref r), (1, .int (iI (k))), (2, .int (iI (v))), (3, .int (iI (s)))] [] (mv_up M52 r (.inr (7, [.ref ((A48 0)), .ref ((A48 1)), .ref ((A48 2)), .ref q50, .ref ((A48 4)), .int (iI (c)), .ref ((A48 5)), .int (iI (tn)), .ref ((A48 6)), .ref ((A48 7)), .ref ((A48 8)), .ref ((A48 9)), .ref ((A48 10)), .ref ((A48 11)), .int (iI (gn)), .ref ((A48 12))]))) ((((0 + 1) + 1) + 1) + 1) ((((0 + 2 * (cap)) + 2 * (cap)) + 2 * (cap)) + 2 * (cap))
    obtain ⟨M54, hM55⟩ : ∃ My : mv_M, My = mv_up M52 r (.inr (7, [.ref ((A48 0)), .ref ((A48 1)), .ref ((A48 2)), .ref q50, .ref ((A48 4)), .int (iI (c)), .ref ((A48 5)), .int (iI (tn)), .ref ((A48 6)), .ref ((A48 7)), .ref ((A48 8)), .ref ((A48 9)), .ref ((A48 10)), .ref ((A48 11)), .int (iI (gn)), .ref ((A48 12))])) := ⟨_, rfl⟩
    rw [← hM55]
    have hC56 : RefC V M54 r (va_up A48 3 q50) (va_up (va_up (va_up (va_up (rN cap lq) 0 (2 * cap)) 1 (2 * cap)) 2 (2 * cap)) 3 (2 * cap)) F (c) (tn) (gn) := by rw [hM55, hM53]; exact RefC_wide (i := 3) hC47 (by decide) hq51 (by show 2 * (cap) ≤ 10000000; omega)
    obtain ⟨A57, hA57⟩ : ∃ Ay : Nat → Nat, Ay = va_up A48 3 q50 := ⟨_, rfl⟩
    rw [← hA57] at hC56
    have k58_0 : M54 (A57 0) = some (iA V (2 * cap) (F 0)) := hC56.2.1 0 (by decide)
    have k58_1 : M54 (A57 1) = some (iA V (2 * cap) (F 1)) := hC56.2.1 1 (by decide)
    have k58_2 : M54 (A57 2) = some (iA V (2 * cap) (F 2)) := hC56.2.1 2 (by decide)
    have k58_3 : M54 (A57 3) = some (iA V (2 * cap) (F 3)) := hC56.2.1 3 (by decide)
    have k58_4 : M54 (A57 4) = some (iA V (cap) (F 4)) := hC56.2.1 4 (by decide)
    refine mv_aloadR_n B d_Mod_add_56 rfl 0 rfl ?_
    refine mv_aloadR_n B d_Mod_add_57 rfl 0 rfl ?_
    refine gf_Mod_22 B hC56.1 rfl d_Mod_add_58 ?_
    refine ca_Mod_59 (mc := 1) (ms := 2 * (cap)) (rm' := rM 1 1 (2 * (cap)) 40) (As := [.ref ((A57 4))]) (rest := [.ref r]) B (m_Mod_wide k58_4 (by omega) (fun x hx => hC56.2.2.2.1 4 x (by decide) hx)) rfl rfl ⟨Nat.le_of_ble_eq_true rfl, Nat.le_of_ble_eq_true rfl⟩ rfl rfl (Nat.le_of_ble_eq_true rfl) d_Mod_add_61 ⟨(by omega), (by omega)⟩ (fun v1 M61 ep => ?_)
    obtain ⟨q59, e1, hq60, hM62⟩ := ep
    subst e1
    have hrq59 : M61 r = some (roC A57 (c) (tn) (gn)) := by rw [hM62, mv_un (Nat.ne_of_lt (hq60 _ _ hC56.1))]; exact hC56.1
    show mv_G X Q (kk V) 4 64 [(0, .ref r), (1, .int (iI (k))), (2, .int (iI (v))), (3, .int (iI (s)))] [.ref q59, .ref r] M61 (((((0 + 1) + 1) + 1) + 1) + 1) (((((0 + 2 * (cap)) + 2 * (cap)) + 2 * (cap)) + 2 * (cap)) + 2 * (cap))
    refine pf_Mod_22 B hrq59 rfl rfl (Nat.le_of_ble_eq_true rfl) d_Mod_add_64 ?_
    show mv_G X Q (kk V) 4 67 [(0, .ref r), (1, .int (iI (k))), (2, .int (iI (v))), (3, .int (iI (s)))] [] (mv_up M61 r (.inr (7, [.ref ((A57 0)), .ref ((A57 1)), .ref ((A57 2)), .ref ((A57 3)), .ref q59, .int (iI (c)), .ref ((A57 5)), .int (iI (tn)), .ref ((A57 6)), .ref ((A57 7)), .ref ((A57 8)), .ref ((A57 9)), .ref ((A57 10)), .ref ((A57 11)), .int (iI (gn)), .ref ((A57 12))]))) (((((0 + 1) + 1) + 1) + 1) + 1) (((((0 + 2 * (cap)) + 2 * (cap)) + 2 * (cap)) + 2 * (cap)) + 2 * (cap))
    obtain ⟨M63, hM64⟩ : ∃ My : mv_M, My = mv_up M61 r (.inr (7, [.ref ((A57 0)), .ref ((A57 1)), .ref ((A57 2)), .ref ((A57 3)), .ref q59, .int (iI (c)), .ref ((A57 5)), .int (iI (tn)), .ref ((A57 6)), .ref ((A57 7)), .ref ((A57 8)), .ref ((A57 9)), .ref ((A57 10)), .ref ((A57 11)), .int (iI (gn)), .ref ((A57 12))])) := ⟨_, rfl⟩
    rw [← hM64]
    have hC65 : RefC V M63 r (va_up A57 4 q59) (va_up (va_up (va_up (va_up (va_up (rN cap lq) 0 (2 * cap)) 1 (2 * cap)) 2 (2 * cap)) 3 (2 * cap)) 4 (2 * cap)) F (c) (tn) (gn) := by rw [hM64, hM62]; exact RefC_wide (i := 4) hC56 (by decide) hq60 (by show 2 * (cap) ≤ 10000000; omega)
    obtain ⟨A66, hA66⟩ : ∃ Ay : Nat → Nat, Ay = va_up A57 4 q59 := ⟨_, rfl⟩
    rw [← hA66] at hC65
    have k67_0 : M63 (A66 0) = some (iA V (2 * cap) (F 0)) := hC65.2.1 0 (by decide)
    have k67_1 : M63 (A66 1) = some (iA V (2 * cap) (F 1)) := hC65.2.1 1 (by decide)
    have k67_2 : M63 (A66 2) = some (iA V (2 * cap) (F 2)) := hC65.2.1 2 (by decide)
    have k67_3 : M63 (A66 3) = some (iA V (2 * cap) (F 3)) := hC65.2.1 3 (by decide)
    have k67_4 : M63 (A66 4) = some (iA V (2 * cap) (F 4)) := hC65.2.1 4 (by decide)
    have hC68 := RefC_N hC65 (rN_up5 (cap := cap) (lc := lq))
    have k69_0 : M63 (A66 0) = some (iA V (2 * cap) (F 0)) := hC68.2.1 0 (by decide)
    have k69_1 : M63 (A66 1) = some (iA V (2 * cap) (F 1)) := hC68.2.1 1 (by decide)
    have k69_2 : M63 (A66 2) = some (iA V (2 * cap) (F 2)) := hC68.2.1 2 (by decide)
    have k69_3 : M63 (A66 3) = some (iA V (2 * cap) (F 3)) := hC68.2.1 3 (by decide)
    have k69_4 : M63 (A66 4) = some (iA V (2 * cap) (F 4)) := hC68.2.1 4 (by decide)
    refine mv_aloadR_n B d_Mod_add_67 rfl 0 rfl ?_
    refine gf_Mod_7 B hC68.1 rfl d_Mod_add_68 ?_
    refine mv_aloadR_n B d_Mod_add_71 rfl 0 rfl ?_
    refine gf_Mod_55 B hC68.1 rfl d_Mod_add_72 ?_
    refine mv_iload_n B d_Mod_add_75 rfl 1 rfl ?_
    refine ia_st B k69_0 (by omega) (by omega) (by omega) d_Mod_add_76 ?_
    obtain ⟨M70, hM71⟩ : ∃ My : mv_M, My = mv_up M63 (A66 0) (iA V (2 * cap) (va_up (F 0) (Int.toNat (c)) (k))) := ⟨_, rfl⟩
    rw [← hM71]
    have hC72 : RefC V M70 r A66 (rN (2 * cap) lq) (va_up F 0 (va_up (F 0) (Int.toNat (c)) (k))) (c) (tn) (gn) := by rw [hM71]; exact RefC_w (i := 0) (k := (Int.toNat (c))) (x := k) hC68 (by decide) (by show (Int.toNat (c)) < 2 * cap; omega) (by omega)
    have k73_0 : M70 (A66 0) = some (iA V (2 * cap) (va_up (F 0) (Int.toNat (c)) (k))) := hC72.2.1 0 (by decide)
    have k73_1 : M70 (A66 1) = some (iA V (2 * cap) (F 1)) := hC72.2.1 1 (by decide)
    have k73_2 : M70 (A66 2) = some (iA V (2 * cap) (F 2)) := hC72.2.1 2 (by decide)
    have k73_3 : M70 (A66 3) = some (iA V (2 * cap) (F 3)) := hC72.2.1 3 (by decide)
    have k73_4 : M70 (A66 4) = some (iA V (2 * cap) (F 4)) := hC72.2.1 4 (by decide)
    refine mv_aloadR_n B d_Mod_add_77 rfl 0 rfl ?_
    refine gf_Mod_13 B hC72.1 rfl d_Mod_add_78 ?_
    refine mv_aloadR_n B d_Mod_add_81 rfl 0 rfl ?_
    refine gf_Mod_55 B hC72.1 rfl d_Mod_add_82 ?_
    refine mv_iload_n B d_Mod_add_85 rfl 2 rfl ?_
    refine ia_st B k73_1 (by omega) (by omega) (by omega) d_Mod_add_86 ?_
    obtain ⟨M74, hM75⟩ : ∃ My : mv_M, My = mv_up M70 (A66 1) (iA V (2 * cap) (va_up (F 1) (Int.toNat (c)) (v))) := ⟨_, rfl⟩
    rw [← hM75]
    have hC76 : RefC V M74 r A66 (rN (2 * cap) lq) (va_up (va_up F 0 (va_up (F 0) (Int.toNat (c)) (k))) 1 (va_up (F 1) (Int.toNat (c)) (v))) (c) (tn) (gn) := by rw [hM75]; exact RefC_w (i := 1) (k := (Int.toNat (c))) (x := v) hC72 (by decide) (by show (Int.toNat (c)) < 2 * cap; omega) (by omega)
    have k77_0 : M74 (A66 0) = some (iA V (2 * cap) (va_up (F 0) (Int.toNat (c)) (k))) := hC76.2.1 0 (by decide)
    have k77_1 : M74 (A66 1) = some (iA V (2 * cap) (va_up (F 1) (Int.toNat (c)) (v))) := hC76.2.1 1 (by decide)
    have k77_2 : M74 (A66 2) = some (iA V (2 * cap) (F 2)) := hC76.2.1 2 (by decide)
    have k77_3 : M74 (A66 3) = some (iA V (2 * cap) (F 3)) := hC76.2.1 3 (by decide)
    have k77_4 : M74 (A66 4) = some (iA V (2 * cap) (F 4)) := hC76.2.1 4 (by decide)
    refine mv_aloadR_n B d_Mod_add_87 rfl 0 rfl ?_
    refine gf_Mod_16 B hC76.1 rfl d_Mod_add_88 ?_
    refine mv_aloadR_n B d_Mod_add_91 rfl 0 rfl ?_
    refine gf_Mod_55 B hC76.1 rfl d_Mod_add_92 ?_
    refine mv_iload_n B d_Mod_add_95 rfl 3 rfl ?_
    refine ia_st B k77_2 (by omega) (by omega) (by omega) d_Mod_add_96 ?_
    obtain ⟨M78, hM79⟩ : ∃ My : mv_M, My = mv_up M74 (A66 2) (iA V (2 * cap) (va_up (F 2) (Int.toNat (c)) (s))) := ⟨_, rfl⟩
    rw [← hM79]
    have hC80 : RefC V M78 r A66 (rN (2 * cap) lq) (va_up (va_up (va_up F 0 (va_up (F 0) (Int.toNat (c)) (k))) 1 (va_up (F 1) (Int.toNat (c)) (v))) 2 (va_up (F 2) (Int.toNat (c)) (s))) (c) (tn) (gn) := by rw [hM79]; exact RefC_w (i := 2) (k := (Int.toNat (c))) (x := s) hC76 (by decide) (by show (Int.toNat (c)) < 2 * cap; omega) (by omega)
    have k81_0 : M78 (A66 0) = some (iA V (2 * cap) (va_up (F 0) (Int.toNat (c)) (k))) := hC80.2.1 0 (by decide)
    have k81_1 : M78 (A66 1) = some (iA V (2 * cap) (va_up (F 1) (Int.toNat (c)) (v))) := hC80.2.1 1 (by decide)
    have k81_2 : M78 (A66 2) = some (iA V (2 * cap) (va_up (F 2) (Int.toNat (c)) (s))) := hC80.2.1 2 (by decide)
    have k81_3 : M78 (A66 3) = some (iA V (2 * cap) (F 3)) := hC80.2.1 3 (by decide)
    have k81_4 : M78 (A66 4) = some (iA V (2 * cap) (F 4)) := hC80.2.1 4 (by decide)
    refine mv_aloadR_n B d_Mod_add_97 rfl 0 rfl ?_
    refine gf_Mod_19 B hC80.1 rfl d_Mod_add_98 ?_
    refine mv_aloadR_n B d_Mod_add_101 rfl 0 rfl ?_
    refine gf_Mod_55 B hC80.1 rfl d_Mod_add_102 ?_
    refine mv_iconst (z := 1) B d_Mod_add_105 rfl ?_
    refine ia_st B k81_3 (by omega) (by omega) (by omega) d_Mod_add_106 ?_
    obtain ⟨M82, hM83⟩ : ∃ My : mv_M, My = mv_up M78 (A66 3) (iA V (2 * cap) (va_up (F 3) (Int.toNat (c)) (1))) := ⟨_, rfl⟩
    rw [← hM83]
    have hC84 : RefC V M82 r A66 (rN (2 * cap) lq) (va_up (va_up (va_up (va_up F 0 (va_up (F 0) (Int.toNat (c)) (k))) 1 (va_up (F 1) (Int.toNat (c)) (v))) 2 (va_up (F 2) (Int.toNat (c)) (s))) 3 (va_up (F 3) (Int.toNat (c)) (1))) (c) (tn) (gn) := by rw [hM83]; exact RefC_w (i := 3) (k := (Int.toNat (c))) (x := 1) hC80 (by decide) (by show (Int.toNat (c)) < 2 * cap; omega) (by omega)
    have k85_0 : M82 (A66 0) = some (iA V (2 * cap) (va_up (F 0) (Int.toNat (c)) (k))) := hC84.2.1 0 (by decide)
    have k85_1 : M82 (A66 1) = some (iA V (2 * cap) (va_up (F 1) (Int.toNat (c)) (v))) := hC84.2.1 1 (by decide)
    have k85_2 : M82 (A66 2) = some (iA V (2 * cap) (va_up (F 2) (Int.toNat (c)) (s))) := hC84.2.1 2 (by decide)
    have k85_3 : M82 (A66 3) = some (iA V (2 * cap) (va_up (F 3) (Int.toNat (c)) (1))) := hC84.2.1 3 (by decide)
    have k85_4 : M82 (A66 4) = some (iA V (2 * cap) (F 4)) := hC84.2.1 4 (by decide)
    refine mv_aloadR_n B d_Mod_add_107 rfl 0 rfl ?_
    refine mv_dup B d_Mod_add_108 rfl ?_
    refine gf_Mod_55 B hC84.1 rfl d_Mod_add_109 ?_
    refine mv_dup_x1 B d_Mod_add_112 rfl rfl ?_
    refine mv_iconst (z := 1) B d_Mod_add_113 rfl ?_
    refine mv_iadd B d_Mod_add_114 ?_
    refine pf_Mod_55 B hC84.1 rfl rfl (Nat.le_of_ble_eq_true rfl) d_Mod_add_115 ?_
    show mv_G X Q (kk V) 4 118 [(0, .ref r), (1, .int (iI (k))), (2, .int (iI (v))), (3, .int (iI (s)))] [.int (iI (c))] (mv_up M82 r (.inr (7, [.ref ((A66 0)), .ref ((A66 1)), .ref ((A66 2)), .ref ((A66 3)), .ref ((A66 4)), .int (iI (c + 1)), .ref ((A66 5)), .int (iI (tn)), .ref ((A66 6)), .ref ((A66 7)), .ref ((A66 8)), .ref ((A66 9)), .ref ((A66 10)), .ref ((A66 11)), .int (iI (gn)), .ref ((A66 12))]))) (((((0 + 1) + 1) + 1) + 1) + 1) (((((0 + 2 * (cap)) + 2 * (cap)) + 2 * (cap)) + 2 * (cap)) + 2 * (cap))
    obtain ⟨M86, hM87⟩ : ∃ My : mv_M, My = mv_up M82 r (.inr (7, [.ref ((A66 0)), .ref ((A66 1)), .ref ((A66 2)), .ref ((A66 3)), .ref ((A66 4)), .int (iI (c + 1)), .ref ((A66 5)), .int (iI (tn)), .ref ((A66 6)), .ref ((A66 7)), .ref ((A66 8)), .ref ((A66 9)), .ref ((A66 10)), .ref ((A66 11)), .int (iI (gn)), .ref ((A66 12))])) := ⟨_, rfl⟩
    rw [← hM87]
    have hC88 : RefC V M86 r A66 (rN (2 * cap) lq) (va_up (va_up (va_up (va_up F 0 (va_up (F 0) (Int.toNat (c)) (k))) 1 (va_up (F 1) (Int.toNat (c)) (v))) 2 (va_up (F 2) (Int.toNat (c)) (s))) 3 (va_up (F 3) (Int.toNat (c)) (1))) (c + 1) (tn) (gn) := by rw [hM87]; exact RefC_f hC84 _ _ _
    have k89_0 : M86 (A66 0) = some (iA V (2 * cap) (va_up (F 0) (Int.toNat (c)) (k))) := hC88.2.1 0 (by decide)
    have k89_1 : M86 (A66 1) = some (iA V (2 * cap) (va_up (F 1) (Int.toNat (c)) (v))) := hC88.2.1 1 (by decide)
    have k89_2 : M86 (A66 2) = some (iA V (2 * cap) (va_up (F 2) (Int.toNat (c)) (s))) := hC88.2.1 2 (by decide)
    have k89_3 : M86 (A66 3) = some (iA V (2 * cap) (va_up (F 3) (Int.toNat (c)) (1))) := hC88.2.1 3 (by decide)
    have k89_4 : M86 (A66 4) = some (iA V (2 * cap) (F 4)) := hC88.2.1 4 (by decide)
    rw [hQ]
    exact mv_iret B ⟨by first | rfl | (congr 3; omega), A66, by rw [hcap]; exact hC88⟩ (by omega) (by omega) d_Mod_add_118
