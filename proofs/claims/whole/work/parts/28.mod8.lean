/-! the reference: level, isRecursive -/
def lvN (lq v : Nat) : Nat := if lq ≤ v then 2 * lq else lq
theorem jdR_r (F : Nat → Nat → Int) (b : Int) (d : Nat) (ar : Int) (n a : Nat) : 0 ≤ jdR F b d ar n a ∧ jdR F b d ar n a ≤ 2 := by
  unfold jdR
  split
  · omega
  · split
    · omega
    · split <;> omega
set_option maxRecDepth 100000 in
set_option maxHeartbeats 4000000 in
theorem m_Mod_level {l : Launch} {V : mv_V} {M : mv_M} {r cap lq : Nat} {A : Nat → Nat} {F : Nat → Nat → Int} {c tn gn : Int} (hC : RefC V M r A (rN cap lq) F c tn gn) (hcap : cap ≤ 1000000) {v : Nat} {x : Int} (hv : v ≤ lq) (hl0 : 1 ≤ lq ∧ lq ≤ 1000000) (rx : Sm x) : Met l y_Mod_level ws_Mod_level (rM 2 (pC cap (lvN lq v) - pC cap lq) (pS cap (lvN lq v) - pS cap lq) 70) (mv_Pre (kk V) [.ref r, .int (iI ((v : Nat))), .int (iI (x))] M) (mv_Q (kk V) (fun z0 M' => z0 = none ∧ RefAt V M' r cap (lvN lq v) (va_up F 12 (va_up (F 12) v x)) c tn gn)) (pC cap (lvN lq v) - pC cap lq) (pS cap (lvN lq v) - pS cap lq) V.2.2.2.2 := by
  refine mv_Met (by decide) rfl (Nat.le_of_ble_eq_true rfl) (fun X hX B => ?_)
  subst hX
  replace B : mv_B X (kk V) c_Mod_level ws_Mod_level "FamilyRulesModel" 3 (Option.none : Option Jvm.ClassFile.FieldType) (rM 2 (pC cap (lvN lq v) - pC cap lq) (pS cap (lvN lq v) - pS cap lq) 70) "level" := B
  obtain ⟨Q, hQ⟩ : ∃ Q, Q = mv_E X (kk V) (fun z0 M' => z0 = none ∧ RefAt V M' r cap (lvN lq v) (va_up F 12 (va_up (F 12) v x)) c tn gn) (pC cap (lvN lq v) - pC cap lq) (pS cap (lvN lq v) - pS cap lq) := ⟨_, rfl⟩
  rw [← hQ]
  show mv_G X Q (kk V) 3 0 [(0, .ref r), (1, .int (iI ((v : Nat)))), (2, .int (iI (x)))] [] M 0 0
  have hrc : (rM 2 (pC cap (lvN lq v) - pC cap lq) (pS cap (lvN lq v) - pS cap lq) 70).cells = pC cap (lvN lq v) - pC cap lq := rfl
  have hrs : (rM 2 (pC cap (lvN lq v) - pC cap lq) (pS cap (lvN lq v) - pS cap lq) 70).slots = pS cap (lvN lq v) - pS cap lq := rfl
  have k1_12 : M (A 12) = some (iA V (lq) (F 12)) := hC.2.1 12 (by decide)
  refine mv_iload_n B d_Mod_level_0 rfl 1 rfl ?_
  refine mv_aloadR_n B d_Mod_level_1 rfl 0 rfl ?_
  refine gf_Mod_46 B hC.1 rfl d_Mod_level_2 ?_
  refine ia_len B k1_12 d_Mod_level_5 ?_
  refine mv_icmp_lt (tgt := 20) B d_Mod_level_6 (by decide) (by omega) (by omega) (fun c2 => ?_) (fun c2 => ?_)
  · have hlv : lvN lq v = lq := if_neg (by omega)
    refine mv_aloadR_n B d_Mod_level_20 rfl 0 rfl ?_
    refine gf_Mod_46 B hC.1 rfl d_Mod_level_21 ?_
    refine mv_iload_n B d_Mod_level_24 rfl 1 rfl ?_
    refine mv_iload_n B d_Mod_level_25 rfl 2 rfl ?_
    refine ia_st B k1_12 (by omega) (by omega) (by omega) d_Mod_level_26 ?_
    rw [show Int.toNat ((v : Nat)) = v from by omega]
    obtain ⟨M3, hM4⟩ : ∃ My : mv_M, My = mv_up M (A 12) (iA V (lq) (va_up (F 12) v (x))) := ⟨_, rfl⟩
    rw [← hM4]
    have hC5 : RefC V M3 r A (rN cap lq) (va_up F 12 (va_up (F 12) v (x))) (c) (tn) (gn) := by rw [hM4]; exact RefC_w (i := 12) (k := v) (x := x) hC (by decide) (by show v < lq; omega) (by omega)
    have k6_12 : M3 (A 12) = some (iA V (lq) (va_up (F 12) v (x))) := hC5.2.1 12 (by decide)
    rw [hQ]
    exact mv_vret B ⟨rfl, A, by rw [hlv]; exact hC5⟩ (by omega) (by omega) d_Mod_level_27
  · have hlv : lvN lq v = 2 * lq := if_pos (by omega)
    have hm1 : pC cap (lvN lq v) - pC cap lq = 1 := by rw [hlv, pC_l (by omega)]; omega
    have hm2 : pS cap (lvN lq v) - pS cap lq = 2 * lq := by rw [hlv]; unfold pS; omega
    refine mv_aloadR_n B d_Mod_level_9 rfl 0 rfl ?_
    refine mv_aloadR_n B d_Mod_level_10 rfl 0 rfl ?_
    refine gf_Mod_46 B hC.1 rfl d_Mod_level_11 ?_
    refine ca_Mod_59 (mc := 1) (ms := 2 * (lq)) (rm' := rM 1 1 (2 * (lq)) 40) (As := [.ref ((A 12))]) (rest := [.ref r]) B (m_Mod_wide k1_12 (by omega) (fun x hx => hC.2.2.2.1 12 x (by decide) hx)) rfl rfl ⟨Nat.le_of_ble_eq_true rfl, Nat.le_of_ble_eq_true rfl⟩ rfl rfl (Nat.le_of_ble_eq_true rfl) d_Mod_level_14 ⟨(by omega), (by omega)⟩ (fun v1 M9 ep => ?_)
    obtain ⟨q7, e1, hq8, hM10⟩ := ep
    subst e1
    have hrq7 : M9 r = some (roC A (c) (tn) (gn)) := by rw [hM10, mv_un (Nat.ne_of_lt (hq8 _ _ hC.1))]; exact hC.1
    show mv_G X Q (kk V) 3 17 [(0, .ref r), (1, .int (iI ((v : Nat)))), (2, .int (iI (x)))] [.ref q7, .ref r] M9 (0 + 1) (0 + 2 * (lq))
    refine pf_Mod_46 B hrq7 rfl rfl (Nat.le_of_ble_eq_true rfl) d_Mod_level_17 ?_
    show mv_G X Q (kk V) 3 20 [(0, .ref r), (1, .int (iI ((v : Nat)))), (2, .int (iI (x)))] [] (mv_up M9 r (.inr (7, [.ref ((A 0)), .ref ((A 1)), .ref ((A 2)), .ref ((A 3)), .ref ((A 4)), .int (iI (c)), .ref ((A 5)), .int (iI (tn)), .ref ((A 6)), .ref ((A 7)), .ref ((A 8)), .ref ((A 9)), .ref ((A 10)), .ref ((A 11)), .int (iI (gn)), .ref q7]))) (0 + 1) (0 + 2 * (lq))
    obtain ⟨M11, hM12⟩ : ∃ My : mv_M, My = mv_up M9 r (.inr (7, [.ref ((A 0)), .ref ((A 1)), .ref ((A 2)), .ref ((A 3)), .ref ((A 4)), .int (iI (c)), .ref ((A 5)), .int (iI (tn)), .ref ((A 6)), .ref ((A 7)), .ref ((A 8)), .ref ((A 9)), .ref ((A 10)), .ref ((A 11)), .int (iI (gn)), .ref q7])) := ⟨_, rfl⟩
    rw [← hM12]
    have hC13 : RefC V M11 r (va_up A 12 q7) (va_up (rN cap lq) 12 (2 * lq)) F (c) (tn) (gn) := by rw [hM12, hM10]; exact RefC_wide (i := 12) hC (by decide) hq8 (by show 2 * (lq) ≤ 10000000; omega)
    obtain ⟨A14, hA14⟩ : ∃ Ay : Nat → Nat, Ay = va_up A 12 q7 := ⟨_, rfl⟩
    rw [← hA14] at hC13
    have k15_12 : M11 (A14 12) = some (iA V (2 * lq) (F 12)) := hC13.2.1 12 (by decide)
    have hC16 := RefC_N hC13 (rN_up12 (cap := cap) (lc := lq))
    have k17_12 : M11 (A14 12) = some (iA V (2 * lq) (F 12)) := hC16.2.1 12 (by decide)
    refine mv_aloadR_n B d_Mod_level_20 rfl 0 rfl ?_
    refine gf_Mod_46 B hC16.1 rfl d_Mod_level_21 ?_
    refine mv_iload_n B d_Mod_level_24 rfl 1 rfl ?_
    refine mv_iload_n B d_Mod_level_25 rfl 2 rfl ?_
    refine ia_st B k17_12 (by omega) (by omega) (by omega) d_Mod_level_26 ?_
    rw [show Int.toNat ((v : Nat)) = v from by omega]
    obtain ⟨M18, hM19⟩ : ∃ My : mv_M, My = mv_up M11 (A14 12) (iA V (2 * lq) (va_up (F 12) v (x))) := ⟨_, rfl⟩
    rw [← hM19]
    have hC20 : RefC V M18 r A14 (rN cap (2 * lq)) (va_up F 12 (va_up (F 12) v (x))) (c) (tn) (gn) := by rw [hM19]; exact RefC_w (i := 12) (k := v) (x := x) hC16 (by decide) (by show v < 2 * lq; omega) (by omega)
    have k21_12 : M18 (A14 12) = some (iA V (2 * lq) (va_up (F 12) v (x))) := hC20.2.1 12 (by decide)
    rw [hQ]
    exact mv_vret B ⟨rfl, A14, by rw [hlv]; exact hC20⟩ (by omega) (by omega) d_Mod_level_27
set_option maxRecDepth 100000 in
set_option maxHeartbeats 4000000 in
theorem m_Mod_isRecursive {l : Launch} {V : mv_V} {M : mv_M} {r cap lq : Nat} {A : Nat → Nat} {F : Nat → Nat → Int} {c tn gn : Int} (hC : RefC V M r A (rN cap lq) F c tn gn) (hcap : cap ≤ 1000000) {d n a g jx : Nat} (hb : 0 ≤ (unR F (F 7 g) (Int.toNat (F 9 g + (jx : Nat))) + 1) ∧ 0 ≤ F 3 (unR F (F 7 g) (Int.toNat (F 9 g + (jx : Nat))) + 1).toNat ∧ (unR F (F 7 g) (Int.toNat (F 9 g + (jx : Nat))) + 1) + F 3 (unR F (F 7 g) (Int.toNat (F 9 g + (jx : Nat))) + 1).toNat ≤ cap ∧ (unR F (F 7 g) (Int.toNat (F 9 g + (jx : Nat))) + 1) < cap) (hn : n ≤ 1000) (hk : ∀ j, j < n → F 0 (unR F (unR F (F 7 g) (Int.toNat (F 9 g + (jx : Nat))) + 1) j).toNat = 6) (hk0 : ¬ F 0 (unR F (unR F (F 7 g) (Int.toNat (F 9 g + (jx : Nat))) + 1) n).toNat = 6) (hp : ∀ j, j ≤ n → 0 ≤ unR F (unR F (F 7 g) (Int.toNat (F 9 g + (jx : Nat))) + 1) j ∧ unR F (unR F (F 7 g) (Int.toNat (F 9 g + (jx : Nat))) + 1) j < cap ∧ (j < n → unR F (unR F (F 7 g) (Int.toNat (F 9 g + (jx : Nat))) + 1) j + 1 < cap)) (hpa : unR F (unR F (F 7 g) (Int.toNat (F 9 g + (jx : Nat))) + 1) n + a + 1 ≤ cap) (ha : ∀ j, j < a → F 0 (unR F (unR F (F 7 g) (Int.toNat (F 9 g + (jx : Nat))) + 1) n + (j : Nat)).toNat = 4) (ha0 : ¬ F 0 (unR F (unR F (F 7 g) (Int.toNat (F 9 g + (jx : Nat))) + 1) n + (a : Nat)).toNat = 4) (hd : d < 100) (hpd : 0 ≤ F 9 d ∧ F 9 d ≤ 1000 ∧ 0 ≤ F 10 d ∧ F 10 d ≤ 1000) (hsf : (a : Int) = F 9 d + F 10 d → unR F (unR F (F 7 g) (Int.toNat (F 9 g + (jx : Nat))) + 1) n + a + 1 + F 9 d ≤ cap) (hv1 : pvO F d (unR F (unR F (F 7 g) (Int.toNat (F 9 g + (jx : Nat))) + 1) n) a (F 9 g + (jx : Nat) + (n : Nat) - 1)) (rar : 0 ≤ F 9 g + (jx : Nat) ∧ F 9 g + (jx : Nat) ≤ 1000000) (hal : ∀ k, k < n → 0 ≤ F 3 (unR F (unR F (F 7 g) (Int.toNat (F 9 g + (jx : Nat))) + 1) k + 1).toNat ∧ unR F (unR F (F 7 g) (Int.toNat (F 9 g + (jx : Nat))) + 1) k + 1 + F 3 (unR F (unR F (F 7 g) (Int.toNat (F 9 g + (jx : Nat))) + 1) k + 1).toNat ≤ cap) (hix : isPR F d (unR F (unR F (F 7 g) (Int.toNat (F 9 g + (jx : Nat))) + 1) n) a (F 9 g + (jx : Nat) + (n : Nat) - 1) = true → (∀ j : Nat, (j : Int) < F 9 d + F 10 d → 0 ≤ ixR F (unR F (unR F (F 7 g) (Int.toNat (F 9 g + (jx : Nat))) + 1) n + F 9 d + F 10 d + 1) j ∧ ixR F (unR F (unR F (F 7 g) (Int.toNat (F 9 g + (jx : Nat))) + 1) n + F 9 d + F 10 d + 1) j < cap) ∧ (∀ k : Nat, (k : Int) < F 10 d → 0 ≤ ixR F (unR F (unR F (F 7 g) (Int.toNat (F 9 g + (jx : Nat))) + 1) n + F 9 d + F 10 d + 1) (F 9 d + (k : Nat)).toNat ∧ 0 ≤ F 3 (ixR F (unR F (unR F (F 7 g) (Int.toNat (F 9 g + (jx : Nat))) + 1) n + F 9 d + F 10 d + 1) (F 9 d + (k : Nat)).toNat).toNat ∧ ixR F (unR F (unR F (F 7 g) (Int.toNat (F 9 g + (jx : Nat))) + 1) n + F 9 d + F 10 d + 1) (F 9 d + (k : Nat)).toNat + F 3 (ixR F (unR F (unR F (F 7 g) (Int.toNat (F 9 g + (jx : Nat))) + 1) n + F 9 d + F 10 d + 1) (F 9 d + (k : Nat)).toNat).toNat ≤ cap ∧ ixR F (unR F (unR F (F 7 g) (Int.toNat (F 9 g + (jx : Nat))) + 1) n + F 9 d + F 10 d + 1) (F 9 d + (k : Nat)).toNat < cap)) (hg : g < 100) (hfd : F 8 g = (d : Nat)) (hu : ∀ j : Nat, (j : Int) < F 9 g + (jx : Nat) → 0 ≤ unR F (F 7 g) j ∧ unR F (F 7 g) j + 1 < cap) : Met l y_Mod_isRecursive ws_Mod_isRecursive (rM 3 0 0 90) (mv_Pre (kk V) [.ref r, .int (iI ((g : Nat))), .int (iI ((jx : Nat)))] M) (mv_Q (kk V) (mv_R (some (.int (iI (if jdR F (unR F (F 7 g) (Int.toNat (F 9 g + (jx : Nat))) + 1) d (F 9 g + (jx : Nat)) n a = 2 then 1 else 0)))) M)) 0 0 V.2.2.2.2 := by
  refine mv_Met (by decide) rfl (Nat.le_of_ble_eq_true rfl) (fun X hX B => ?_)
  subst hX
  replace B : mv_B X (kk V) c_Mod_isRecursive ws_Mod_isRecursive "FamilyRulesModel" 3 (Option.some Jvm.ClassFile.FieldType.boolean) (rM 3 0 0 90) "isRecursive" := B
  obtain ⟨Q, hQ⟩ : ∃ Q, Q = mv_E X (kk V) (mv_R (some (.int (iI (if jdR F (unR F (F 7 g) (Int.toNat (F 9 g + (jx : Nat))) + 1) d (F 9 g + (jx : Nat)) n a = 2 then 1 else 0)))) M) 0 0 := ⟨_, rfl⟩
  rw [← hQ]
  show mv_G X Q (kk V) 3 0 [(0, .ref r), (1, .int (iI ((g : Nat)))), (2, .int (iI ((jx : Nat))))] [] M 0 0
  have k1_8 : M (A 8) = some (iA V (100) (F 8)) := hC.2.1 8 (by decide)
  have k1_9 : M (A 9) = some (iA V (100) (F 9)) := hC.2.1 9 (by decide)
  refine mv_aloadR_n B d_Mod_isRecursive_0 rfl 0 rfl ?_
  refine mv_aloadR_n B d_Mod_isRecursive_1 rfl 0 rfl ?_
  refine mv_iload_n B d_Mod_isRecursive_2 rfl 1 rfl ?_
  refine mv_iload_n B d_Mod_isRecursive_3 rfl 2 rfl ?_
  refine ca_Mod_137 (mc := 0) (ms := 0) (As := [.int (iI ((g : Nat))), .int (iI ((jx : Nat)))]) (rest := [.ref r]) B (m_Mod_argument hC hcap (g := g) (k := (jx : Nat)) hg rar hu) rfl rfl ⟨Nat.le_of_ble_eq_true rfl, Nat.le_of_ble_eq_true rfl⟩ hC.1 rfl rfl (Nat.le_of_ble_eq_true rfl) d_Mod_isRecursive_4 ⟨by omega, by omega⟩ (mv_x ?_)
  show mv_G X Q (kk V) 3 7 [(0, .ref r), (1, .int (iI ((g : Nat)))), (2, .int (iI ((jx : Nat))))] [.int (iI (unR F (F 7 g) (Int.toNat (F 9 g + (jx : Nat))) + 1)), .ref r] M 0 0
  refine mv_aloadR_n B d_Mod_isRecursive_7 rfl 0 rfl ?_
  refine gf_Mod_34 B hC.1 rfl d_Mod_isRecursive_8 ?_
  refine mv_iload_n B d_Mod_isRecursive_11 rfl 1 rfl ?_
  refine ia_ld B k1_8 (by omega) (by omega) (by omega) d_Mod_isRecursive_12 ?_
  rw [show Int.toNat ((g : Nat)) = g from by omega]
  have rr2 : R32 (F 8 g) := (hC.R 8) _
  rw [hfd]
  refine mv_aloadR_n B d_Mod_isRecursive_13 rfl 0 rfl ?_
  refine gf_Mod_37 B hC.1 rfl d_Mod_isRecursive_14 ?_
  refine mv_iload_n B d_Mod_isRecursive_17 rfl 1 rfl ?_
  refine ia_ld B k1_9 (by omega) (by omega) (by omega) d_Mod_isRecursive_18 ?_
  rw [show Int.toNat ((g : Nat)) = g from by omega]
  have rr3 : R32 (F 9 g) := (hC.R 9) _
  refine mv_iload_n B d_Mod_isRecursive_19 rfl 2 rfl ?_
  refine mv_iadd B d_Mod_isRecursive_20 ?_
  refine ca_Mod_122 (mc := 0) (ms := 0) (As := [.int (iI (unR F (F 7 g) (Int.toNat (F 9 g + (jx : Nat))) + 1)), .int (iI ((d : Nat))), .int (iI ((F 9 g) + (jx : Nat)))]) (rest := []) B (m_Mod_judge hC hcap (b := (unR F (F 7 g) (Int.toNat (F 9 g + (jx : Nat))) + 1)) (ar := F 9 g + (jx : Nat)) (d := d) (n := n) (a := a) hb hn hk hk0 hp hpa ha ha0 hd hpd hsf hv1 rar hal hix) rfl rfl ⟨Nat.le_of_ble_eq_true rfl, Nat.le_of_ble_eq_true rfl⟩ hC.1 rfl rfl (Nat.le_of_ble_eq_true rfl) d_Mod_isRecursive_21 ⟨by omega, by omega⟩ (mv_x ?_)
  show mv_G X Q (kk V) 3 24 [(0, .ref r), (1, .int (iI ((g : Nat)))), (2, .int (iI ((jx : Nat))))] [.int (iI (jdR F (unR F (F 7 g) (Int.toNat (F 9 g + (jx : Nat))) + 1) d (F 9 g + (jx : Nat)) n a))] M 0 0
  have hj1 := jdR_r F (unR F (F 7 g) (Int.toNat (F 9 g + (jx : Nat))) + 1) d (F 9 g + (jx : Nat)) n a
  refine mv_iconst (z := 2) B d_Mod_isRecursive_24 rfl ?_
  refine mv_icmp_ne (tgt := 32) B d_Mod_isRecursive_25 (by decide) (by omega) (by omega) (fun c4 => ?_) (fun c4 => ?_)
  · refine mv_iconst (z := 0) B d_Mod_isRecursive_32 rfl ?_
    rw [hQ]
    exact mv_zret B rfl ⟨(by first | rfl | rw [if_pos (by omega)] | rw [if_neg (by omega)]), rfl⟩ (by omega) (by omega) d_Mod_isRecursive_33
  · refine mv_iconst (z := 1) B d_Mod_isRecursive_28 rfl ?_
    refine mv_goto (tgt := 33) B d_Mod_isRecursive_29 (by decide) ?_
    rw [hQ]
    exact mv_zret B rfl ⟨(by first | rfl | rw [if_pos (by omega)] | rw [if_neg (by omega)]), rfl⟩ (by omega) (by omega) d_Mod_isRecursive_33
