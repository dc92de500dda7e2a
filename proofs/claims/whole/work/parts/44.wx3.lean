theorem mW_isRec {l : Launch} {V : mv_V} {M : mv_M} {r cap lq : Nat} {A : Nat → Nat} {F : Nat → Nat → Int} {c tn gn : Int} (hC : RefC V M r A (rN cap lq) F c tn gn) (hcap : cap ≤ 1000000) {xs : List Nd} {b : Nat} (hs : seF F b xs) (hl : b + xs.length ≤ cap) {g d np ni n jx : Nat} (hT : Told xs (d : Nat) np ni n) (hnz : ∀ j, j < n → jdS xs (d : Nat) np ni (rtS xs np j) ((np + j : Nat) : Int) ≠ 0) (hg : g < 100) (hd : d < 100) (h7 : F 7 g = (b : Nat)) (h8 : F 8 g = (d : Nat)) (h9g : F 9 g = (np : Nat)) (h9 : F 9 d = (np : Nat)) (h10 : F 10 d = (ni : Nat)) (hpn : np ≤ 1000 ∧ ni ≤ 1000) (hj : jx < n) : Met l y_Mod_isRecursive ws_Mod_isRecursive (rM 3 0 0 90) (mv_Pre (kk V) [.ref r, .int (iI ((g : Nat))), .int (iI ((jx : Nat)))] M) (mv_Q (kk V) (mv_R (some (.int (iI (if rcS xs (d : Nat) np ni jx = true then 1 else 0)))) M)) 0 0 V.2.2.2.2 := by
  have r1 := hT.r hj
  have hb := hT.b
  have eB : unR F (F 7 g) (Int.toNat (F 9 g + ((jx : Nat) : Int))) + 1 = ((b + rtS xs np jx : Nat) : Int) := by
    rw [h7, h9g, show (((np : Nat) : Int) + ((jx : Nat) : Int)).toNat = np + jx by omega, show ((b : Nat) : Int) = ((b + 0 : Nat) : Int) by omega, unR_S hs hT.1 hb _ (by omega), ← r1.2.2]
    omega
  have hJ := JOK_S hs hT.1 hT.2.1 hl (ar := F 9 g + ((jx : Nat) : Int)) (by rw [h9g]; have := hT.2.1; have := (Bds_le hT.1 hb _ (Nat.le_refl _)); have := (Bds_ok hT.1 hb _ (Nat.le_refl _)).1; omega) r1.1 hd h9 h10 hpn
  rw [← eB] at hJ
  have h := m_Mod_isRecursive (l := l) hC hcap (g := g) (jx := jx) hJ.1 hJ.2.1 hJ.2.2.1 hJ.2.2.2.1 hJ.2.2.2.2.1 hJ.2.2.2.2.2.1 hJ.2.2.2.2.2.2.1 hJ.2.2.2.2.2.2.2.1 hJ.2.2.2.2.2.2.2.2.1 hJ.2.2.2.2.2.2.2.2.2.1 hJ.2.2.2.2.2.2.2.2.2.2.1 hJ.2.2.2.2.2.2.2.2.2.2.2.1 hJ.2.2.2.2.2.2.2.2.2.2.2.2.1 hJ.2.2.2.2.2.2.2.2.2.2.2.2.2.1 hJ.2.2.2.2.2.2.2.2.2.2.2.2.2.2 hg h8 (fun j hj' => by
    rw [h9g] at hj'
    have q1 := (Bds_ok hT.1 hb j (by omega)).2.2 (by omega)
    rw [h7, show ((b : Nat) : Int) = ((b + 0 : Nat) : Int) by omega, unR_S hs hT.1 hb _ (by omega)]
    omega)
  rw [eB, jdR_S hs hT.1 hT.2.1 r1.1 h9 h10] at h
  have e2 : F 9 g + ((jx : Nat) : Int) = ((np + jx : Nat) : Int) := by rw [h9g]; omega
  rw [e2] at h
  have e3 := jd_rc hT hj (hnz jx hj)
  have e4 : (if jdS xs ((d : Nat) : Int) np ni (rtS xs np jx) ((np + jx : Nat) : Int) = 2 then (1 : Int) else 0) = if rcS xs (d : Nat) np ni jx = true then 1 else 0 := by
    by_cases q : rcS xs (d : Nat) np ni jx = true
    · rw [if_pos (e3.mpr q), if_pos q]
    · rw [if_neg (fun z => q (e3.mp z)), if_neg q]
  rw [e4] at h
  exact h
/-- what part reads of a told constructor -/
def PaO (xs : List Nd) (d np ni n : Nat) (rc : Nat → Bool) (yf xf : Nat → Nat) (i0 p x0 : Nat) : Prop := Told xs (d : Nat) np ni n ∧ (∀ j, j < n → jdS xs (d : Nat) np ni (rtS xs np j) ((np + j : Nat) : Int) ≠ 0) ∧ AOk xs ∧ rc = rcS xs (d : Nat) np ni ∧ yf = (fun j => nA xs (rtS xs np j)) ∧ xf = (fun j => ft xs (rtS xs np j) + (np + ni) + 1 + np) ∧ i0 = unS xs 0 np ∧ p = ft xs 0 ∧ x0 = ft xs 0 + (np + ni) + 1 + np
theorem lqB_t {lq : Nat} {rc : Nat → Bool} {yf : Nat → Nat} {np n j : Nat} (h : rc j = true) : lqB lq rc yf np n (j + 1) = lvS (lvS (lqB lq rc yf np n j) (np + j) (yf j)) np n := by
  simp only [lqB]
  rw [if_pos h]
theorem lqB_f {lq : Nat} {rc : Nat → Bool} {yf : Nat → Nat} {np n j : Nat} (h : rc j = false) : lqB lq rc yf np n (j + 1) = lqB lq rc yf np n j := by
  simp only [lqB]
  rw [if_neg (by rw [h]; simp)]
theorem lvB_t {Λ : Nat → Int} {rc : Nat → Bool} {yf : Nat → Nat} {np : Nat} {level : Int} {n j : Nat} (h : rc j = true) : lvB Λ rc yf np level n (j + 1) = upL (upL (lvB Λ rc yf np level n j) (np + j) (level + n + cnB rc j) (yf j)) np level n := by
  simp only [lvB]
  rw [if_pos h]
theorem lvB_f {Λ : Nat → Int} {rc : Nat → Bool} {yf : Nat → Nat} {np : Nat} {level : Int} {n j : Nat} (h : rc j = false) : lvB Λ rc yf np level n (j + 1) = lvB Λ rc yf np level n j := by
  simp only [lvB]
  rw [if_neg (by rw [h]; simp)]
theorem bcR_mono {xs : List Nd} {Λ : Nat → Int} {rc : Nat → Bool} {yf xf : Nat → Nat} {np ni n i0 : Nat} {level : Int} {i j : Nat} (h : i ≤ j) : (bcR xs Λ rc yf xf np ni level n i0 i).length ≤ (bcR xs Λ rc yf xf np ni level n i0 j).length := by
  obtain ⟨k, rfl⟩ : ∃ k, j = i + k := ⟨j - i, by omega⟩
  induction k with
  | zero => exact Nat.le_refl _
  | succ k ih =>
    refine Nat.le_trans (ih (by omega)) ?_
    rw [← Nat.add_assoc]
    simp only [bcR, List.length_append]
    omega
theorem PaO_f {xs : List Nd} {d np ni n : Nat} {rc : Nat → Bool} {yf xf : Nat → Nat} {i0 p x0 : Nat} (h : PaO xs d np ni n rc yf xf i0 p x0) : (Cpl xs ∧ xs.length ≤ 1000 ∧ Cls xs ∧ AOk xs) ∧ Bds xs 0 (np + n) ∧ unS xs 0 np = i0 ∧ Bds xs i0 n ∧ dpS xs i0 = ((np : Nat) : Int) ∧ 2 * (np + n) ≤ 1000 ∧ unS xs i0 n = p ∧ p < xs.length ∧ dpS xs p = ((np + n : Nat) : Int) ∧ (∃ a v, ApS xs p a ∧ ptB xs (d : Nat) np ni p a v = true) ∧ Spn xs p np ni x0 ∧ (∀ j, j < n → rc j = true → BrO xs d np ni j (unS xs i0 j + 1) (yf j) (unS xs (unS xs i0 j + 1) (yf j)) (xf j) ∧ 2 * yf j ≤ 1000) ∧ Told xs (d : Nat) np ni n ∧ (∀ j, j < n → jdS xs (d : Nat) np ni (rtS xs np j) ((np + j : Nat) : Int) ≠ 0) ∧ (∀ j, rcS xs (d : Nat) np ni j = rc j) ∧ Arg xs rc yf xf np ni n i0 := by
  obtain ⟨hT, hnz, ho, rfl, rfl, rfl, rfl, rfl, rfl⟩ := h
  have hb := hT.b
  have hB := Bds_sub hT.1 hb
  have hok := hT.ok
  have h0 := nA_ok hT.1 hT.2.1 (i := 0) (by have := hT.2.2.1; omega)
  have ap := nP_ok hT.1 hT.2.1 h0.2.2
  have e1 := Bds_ok hT.1 hb np (by omega)
  have e2 := Bds_ok hT.1 hb (np + n) (Nat.le_refl _)
  have e3 := Bds_le hT.1 hb _ (Nat.le_refl _)
  have hf := hT.f
  refine ⟨⟨hT.1, hT.2.1, hT.2.2.2.2.1, ho⟩, hb, rfl, hB.2, by rw [e1.2.1, dp_0]; omega, by have := e2.1; have := hT.2.1; omega, hf.symm, h0.2.2, ?_, ⟨_, _, ap, hT.2.2.2.2.2.2⟩, (ptB_spn hT.1 ap hT.2.2.2.2.2.2).1, fun j hj hr => ?_, hT, hnz, fun _ => rfl, hok.2.2.2.1⟩
  · rw [hf, ← unS_add, e2.2.1, dp_0]; omega
  · have br := BrO_T hT hj hr
    refine ⟨br, ?_⟩
    have q1 := Bds_le hT.1 br.2.2.2.2.2.2.2.1.1 _ (Nat.le_refl _)
    have q2 := (Bds_ok hT.1 br.2.2.2.2.2.2.2.1.1 _ (Nat.le_refl _)).1
    have := hT.2.1
    show 2 * nA xs (rtS xs np j) ≤ 1000
    omega
theorem paR_len2 {xs : List Nd} {Λ : Nat → Int} {rc : Nat → Bool} {yf xf : Nat → Nat} {np ni n i0 x0 : Nat} {level nc : Int} : (paR xs Λ rc yf xf np ni level n i0 x0 nc).length + i0 + x0 = unS xs i0 n + (bcR xs (upL (upL Λ 0 0 np) np level n) rc yf xf np ni level n i0 n).length + (ni + 1) + 1 + ixS xs x0 ni + (np + n) + 1 + np + n := by
  have h1 := bnR_len2 (xs := xs) (Λ := upL Λ 0 0 np) (k := 6) (lv := level) (ar := np) (i := i0) n
  have h2 := idR_len2 (xs := xs) (Λ := paL Λ rc yf np level n) (ar := ((np + n : Nat) : Int)) (i := x0) ni
  unfold paR
  simp only [List.length_append, apL_len, mdL_len, List.length_singleton]
  omega
theorem lqB_bd {lq : Nat} {rc : Nat → Bool} {yf : Nat → Nat} {np n : Nat} (h : lq ≤ 4000) (h1 : np + n ≤ lq) (h2 : ∀ j, j < n → rc j = true → 2 * yf j ≤ 1000) (h3 : 2 * (np + n) ≤ 1000) : ∀ j, j ≤ n → lqB lq rc yf np n j ≤ 4000
  | 0, _ => h
  | j + 1, hj => by
    have ih := lqB_bd h h1 h2 h3 j (by omega)
    have i0 := lqB_m (lq := lq) (rc := rc) (yf := yf) (np := np) (n := n) (Nat.zero_le j)
    have i1 : lq ≤ lqB lq rc yf np n j := i0
    simp only [lqB]
    split
    · rename_i hr
      have hy := h2 j (by omega) hr
      by_cases z : lqB lq rc yf np n j = 0
      · have : lq = 0 := by omega
        have : np + n = 0 := by omega
        omega
      · obtain ⟨c1, c2, c3⟩ := lvS_ok (lq := lqB lq rc yf np n j) (v := np + j) (by omega) (by omega) (yf j)
        obtain ⟨d1, d2, d3⟩ := lvS_ok (lq := lvS (lqB lq rc yf np n j) (np + j) (yf j)) (v := np) (by omega) (by omega) n
        exact d3 (c3 ih (by omega)) (by omega)
    · exact ih
set_option maxRecDepth 100000 in
set_option maxHeartbeats 4000000 in
theorem mW_part {l : Launch} {V : mv_V} {M : mv_M} {r cap lq c : Nat} {A : Nat → Nat} {F : Nat → Nat → Int} {tn gn : Int} (hC : RefC V M r A (rN cap lq) F (c : Nat) tn gn) (hcc : c ≤ cap) (hcap0 : 1 ≤ cap) (hcap : cap ≤ 1000000) {Λ : Nat → Int} (hL : F 12 = Λ) {xs : List Nd} {b : Nat} (hs : seF F b xs) (hl : b + xs.length ≤ c) {g d np ni n : Nat} {rc : Nat → Bool} {yf xf : Nat → Nat} {i0 p x0 : Nat} {level : Int} (hPO : PaO xs d np ni n rc yf xf i0 p x0) (hg : g < 100) (hd : d < 100) (h7 : F 7 g = (b : Nat)) (h8 : F 8 g = (d : Nat)) (h9g : F 9 g = (np : Nat)) (h9 : F 9 d = (np : Nat)) (h10 : F 10 d = (ni : Nat)) (h10g : F 10 g = (n : Nat)) (rlv : 0 ≤ level ∧ level ≤ 10000) (hpn : ni ≤ 1000) (hlq : 1 ≤ lq ∧ lq ≤ 4000) (hnb : c + (paR xs Λ rc yf xf np ni level n i0 x0 ((g : Nat) : Int)).length ≤ 500000) : Met l y_Mod_part2 ws_Mod_part2 (rM 7 (pC (capL cap c (paR xs Λ rc yf xf np ni level n i0 x0 ((g : Nat) : Int)).length) (paQ lq rc yf np n) - pC cap lq) (pS (capL cap c (paR xs Λ rc yf xf np ni level n i0 x0 ((g : Nat) : Int)).length) (paQ lq rc yf np n) - pS cap lq) 240) (mv_Pre (kk V) [.ref r, .int (iI ((g : Nat))), .int (iI (level))] M) (mv_Q (kk V) (fun z0 M' => z0 = none ∧ wrP V r cap lq (paQ lq rc yf np n) F c tn gn (paR xs Λ rc yf xf np ni level n i0 x0 ((g : Nat) : Int)) (paL Λ rc yf np level n) M')) (pC (capL cap c (paR xs Λ rc yf xf np ni level n i0 x0 ((g : Nat) : Int)).length) (paQ lq rc yf np n) - pC cap lq) (pS (capL cap c (paR xs Λ rc yf xf np ni level n i0 x0 ((g : Nat) : Int)).length) (paQ lq rc yf np n) - pS cap lq) V.2.2.2.2 := by
  refine mv_Met (by decide) rfl (Nat.le_of_ble_eq_true rfl) (fun X hX B => ?_)
  subst hX
  replace B : mv_B X (kk V) c_Mod_part2 ws_Mod_part2 "FamilyRulesModel" 10 (Option.none : Option Jvm.ClassFile.FieldType) (rM 7 (pC (capL cap c (paR xs Λ rc yf xf np ni level n i0 x0 ((g : Nat) : Int)).length) (paQ lq rc yf np n) - pC cap lq) (pS (capL cap c (paR xs Λ rc yf xf np ni level n i0 x0 ((g : Nat) : Int)).length) (paQ lq rc yf np n) - pS cap lq) 240) "part" := B
  obtain ⟨Q, hQ⟩ : ∃ Q, Q = mv_E X (kk V) (fun z0 M' => z0 = none ∧ wrP V r cap lq (paQ lq rc yf np n) F c tn gn (paR xs Λ rc yf xf np ni level n i0 x0 ((g : Nat) : Int)) (paL Λ rc yf np level n) M') (pC (capL cap c (paR xs Λ rc yf xf np ni level n i0 x0 ((g : Nat) : Int)).length) (paQ lq rc yf np n) - pC cap lq) (pS (capL cap c (paR xs Λ rc yf xf np ni level n i0 x0 ((g : Nat) : Int)).length) (paQ lq rc yf np n) - pS cap lq) := ⟨_, rfl⟩
  rw [← hQ]
  show mv_G X Q (kk V) 10 0 [(0, .ref r), (1, .int (iI ((g : Nat)))), (2, .int (iI (level)))] [] M 0 0
  have hrc : (rM 7 (pC (capL cap c (paR xs Λ rc yf xf np ni level n i0 x0 ((g : Nat) : Int)).length) (paQ lq rc yf np n) - pC cap lq) (pS (capL cap c (paR xs Λ rc yf xf np ni level n i0 x0 ((g : Nat) : Int)).length) (paQ lq rc yf np n) - pS cap lq) 240).cells = pC (capL cap c (paR xs Λ rc yf xf np ni level n i0 x0 ((g : Nat) : Int)).length) (paQ lq rc yf np n) - pC cap lq := rfl
  have hrs : (rM 7 (pC (capL cap c (paR xs Λ rc yf xf np ni level n i0 x0 ((g : Nat) : Int)).length) (paQ lq rc yf np n) - pC cap lq) (pS (capL cap c (paR xs Λ rc yf xf np ni level n i0 x0 ((g : Nat) : Int)).length) (paQ lq rc yf np n) - pS cap lq) 240).slots = pS (capL cap c (paR xs Λ rc yf xf np ni level n i0 x0 ((g : Nat) : Int)).length) (paQ lq rc yf np n) - pS cap lq := rfl
  subst hL
  clear hrc hrs
  obtain ⟨Y0, hY0⟩ : ∃ Y : List Nd, Y = [] := ⟨_, rfl⟩
  have hl0 : Y0.length = 0 := by rw [hY0]; rfl
  have hC0 : RefC V M r A (rN (capL cap c Y0.length) lq) F ((c + Y0.length : Nat) : Int) tn gn := by rw [hl0]; exact hC
  have hW0 : WR F F c Y0 := by rw [hY0]; exact WR_nil
  obtain ⟨N9, hN9⟩ : ∃ nz9 : Nat, nz9 = (paR xs (F 12) rc yf xf np ni level n i0 x0 ((g : Nat) : Int)).length := ⟨_, rfl⟩
  obtain ⟨Q9, hQ9⟩ : ∃ nz9 : Nat, nz9 = paQ lq rc yf np n := ⟨_, rfl⟩
  rw [← hN9] at hnb
  obtain ⟨⟨hcp, hn1, hcl, ho⟩, hBa, hI0, hBd, hI0d, hnp2, hPu, hPl, hPd, ⟨a9, v9, hPa, hPt⟩, hSp, hBO, hT, hnz, hrE, hAg⟩ := PaO_f hPO
  have hNl : N9 + i0 + x0 = unS xs i0 n + (bcR xs (upL (upL (F 12) 0 0 np) np level n) rc yf xf np ni level n i0 n).length + (ni + 1) + 1 + ixS xs x0 ni + (np + n) + 1 + np + n := by rw [hN9]; exact paR_len2
  have hT0 : paQ lq rc yf np n = Q9 := hQ9.symm
  have hA1 := (lvS_ok (lq := lq) (v := 0) (by omega) (by omega) np).1
  have hA2 := (lvS_ok (lq := lq) (v := 0) (by omega) (by omega) np).2.1
  have hA3 := (lvS_ok (lq := lq) (v := 0) (by omega) (by omega) np).2.2 (by omega) (by omega)
  have hA4 := (lvS_ok (lq := (lvS lq 0 np)) (v := np) (by omega) (by omega) n).1
  have hA5 := (lvS_ok (lq := (lvS lq 0 np)) (v := np) (by omega) (by omega) n).2.1
  have hA6 := (lvS_ok (lq := (lvS lq 0 np)) (v := np) (by omega) (by omega) n).2.2 (by omega) (by omega)
  have hT3 : ∀ j, j ≤ n → lqB (lvS (lvS lq 0 np) np n) rc yf np n j ≤ Q9 := fun j hj => by rw [← hT0]; exact lqB_m hj
  have hT2 : (lvS (lvS lq 0 np) np n) ≤ Q9 := hT3 0 (Nat.zero_le _)
  have hT1 : (lvS lq 0 np) ≤ Q9 := Nat.le_trans hA5 hT2
  have hQl : lq ≤ Q9 := Nat.le_trans hA2 hT1
  have hT7 : ∀ j, j ≤ n → lqB (lvS (lvS lq 0 np) np n) rc yf np n j ≤ 4000 := lqB_bd hA6 hA4 (fun j hj hr => (hBO j hj hr).2) hnp2
  have hSi := Spn_in2 hcp hPl hSp
  have hLv : ∀ y : Nat, y ≤ n → ∀ z : Nat, z < np + y → -1000000 ≤ upL (upL (F 12) 0 0 np) np level y z ∧ upL (upL (F 12) 0 0 np) np level y z ≤ 1000000 := fun y hy z hz => by
    by_cases q : z < np
    · rw [upL_lt q, upL_id q]; omega
    · rw [upL_in (by omega)]; omega
  have hT5 : ∀ j, j ≤ n → ∀ z : Nat, z < np + j → -1000000 ≤ lvB (upL (upL (F 12) 0 0 np) np level n) rc yf np level n j z ∧ lvB (upL (upL (F 12) 0 0 np) np level n) rc yf np level n j z ≤ 1000000 := fun j hj z hz => by
    obtain ⟨z1, z2⟩ := lvB_ok (Λ := (upL (upL (F 12) 0 0 np) np level n)) (rc := rc) (yf := yf) (np := np) (level := level) (n := n) (fun l h => by rw [upL_lt h]; exact upL_id h) (fun l h h2 => upL_in ⟨h, h2⟩) j
    by_cases q : z < np
    · rw [z1 z q]; omega
    · rw [z2 z (by omega) (by omega)]; omega
  have hUr : unR F ((b : Nat) : Int) ((np : Nat) : Int).toNat = ((b + unS xs i0 0 : Nat) : Int) := by rw [Int.toNat_natCast, show ((b : Nat) : Int) = ((b + 0 : Nat) : Int) by omega, unR_S hs hcp hBa _ (by omega), hI0]; rfl
  have hUu : ∀ z : Nat, (z : Int) < ((np : Nat) : Int) → 0 ≤ unR F ((b : Nat) : Int) z ∧ unR F ((b : Nat) : Int) z + 1 < capL cap c Y0.length := fun z hz => by
    have q1 := ((Bds_ok hcp hBa z (by omega)).2.2 (by omega)).1
    have q2 := capL_ge cap c Y0.length
    rw [show ((b : Nat) : Int) = ((b + 0 : Nat) : Int) by omega, unR_S hs hcp hBa _ (by omega)]
    omega
  have hb0 : Y0.length ≤ N9 := by omega
  have ck0 : CK cap c Y0.length := CK_of hcc hcap0 hcap (by omega)
  have hq0 : lq ≤ lq ∧ lq ≤ Q9 := by omega
  have pl0 : PL cap lq (capL cap c Y0.length) (lq) := PL_le (capL_ge cap c Y0.length) hq0.1
  refine mv_widen (c2 := pC (capL cap c Y0.length) (lq) - pC cap lq) (s2 := pS (capL cap c Y0.length) (lq) - pS cap lq) (Nat.zero_le _) (Nat.zero_le _) ?_
  have k1_7 : M (A 7) = some (iA V (100) (F 7)) := hC0.2.1 7 (by decide)
  have k1_8 : M (A 8) = some (iA V (100) (F 8)) := hC0.2.1 8 (by decide)
  have k1_9 : M (A 9) = some (iA V (100) (F 9)) := hC0.2.1 9 (by decide)
  have k1_10 : M (A 10) = some (iA V (100) (F 10)) := hC0.2.1 10 (by decide)
  refine mv_aloadR_n B d_Mod_part2_0 rfl 0 rfl ?_
  refine gf_Mod_34 B hC0.1 rfl d_Mod_part2_1 ?_
  refine mv_iload_n B d_Mod_part2_4 rfl 1 rfl ?_
  refine ia_ld B k1_8 (by first | omega | (split <;> omega)) (by omega) (by omega) d_Mod_part2_5 ?_
  rw [show Int.toNat ((g : Nat)) = g from by omega]
  have rr2 : R32 (F 8 g) := (hC0.R 8) _
  rw [show F 8 g = (d : Nat) from (congrFun (hW0.2.1 8 (by omega) (by omega)) g).trans h8]
  refine mv_istore_n (lv' := [(3, .int (iI ((d : Nat)))), (0, .ref r), (1, .int (iI ((g : Nat)))), (2, .int (iI (level)))]) B d_Mod_part2_6 rfl (by decide) rfl ?_
  refine mv_aloadR_n B d_Mod_part2_7 rfl 1 rfl ?_
  refine gf_Mod_37 B hC0.1 rfl d_Mod_part2_8 ?_
  refine mv_iload_n B d_Mod_part2_11 rfl 0 rfl ?_
  refine ia_ld B k1_9 (by first | omega | (split <;> omega)) (by omega) (by omega) d_Mod_part2_12 ?_
  rw [show Int.toNat ((d : Nat)) = d from by omega]
  have rr3 : R32 (F 9 d) := (hC0.R 9) _
  rw [show F 9 d = (np : Nat) from (congrFun (hW0.2.1 9 (by omega) (by omega)) d).trans h9]
  refine mv_istore (lv' := [(4, .int (iI ((np : Nat)))), (3, .int (iI ((d : Nat)))), (0, .ref r), (1, .int (iI ((g : Nat)))), (2, .int (iI (level)))]) B d_Mod_part2_13 (by decide) rfl ?_
  refine mv_aloadR_n B d_Mod_part2_15 rfl 2 rfl ?_
  refine gf_Mod_40 B hC0.1 rfl d_Mod_part2_16 ?_
  refine mv_iload_n B d_Mod_part2_19 rfl 3 rfl ?_
  refine ia_ld B k1_10 (by first | omega | (split <;> omega)) (by omega) (by omega) d_Mod_part2_20 ?_
  rw [show Int.toNat ((g : Nat)) = g from by omega]
  have rr4 : R32 (F 10 g) := (hC0.R 10) _
  rw [show F 10 g = (n : Nat) from (congrFun (hW0.2.1 10 (by omega) (by omega)) g).trans h10g]
  refine mv_istore (lv' := [(5, .int (iI ((n : Nat)))), (4, .int (iI ((np : Nat)))), (3, .int (iI ((d : Nat)))), (0, .ref r), (1, .int (iI ((g : Nat)))), (2, .int (iI (level)))]) B d_Mod_part2_21 (by decide) rfl ?_
  refine mv_aloadR_n B d_Mod_part2_23 rfl 3 rfl ?_
  refine mv_aloadR_n B d_Mod_part2_24 rfl 3 rfl ?_
  refine gf_Mod_31 B hC0.1 rfl d_Mod_part2_25 ?_
  refine mv_iload_n B d_Mod_part2_28 rfl 4 rfl ?_
  refine ia_ld B k1_7 (by first | omega | (split <;> omega)) (by omega) (by omega) d_Mod_part2_29 ?_
  rw [show Int.toNat ((g : Nat)) = g from by omega]
  have rr5 : R32 (F 7 g) := (hC0.R 7) _
  rw [show F 7 g = ((b : Nat) : Int) from h7]
  refine mv_iload B d_Mod_part2_30 1 rfl ?_
  refine ca_Mod_107 (mc := 0) (ms := 0) (As := [.int (iI (((b : Nat) : Int))), .int (iI ((np : Nat)))]) (rest := []) B (m_Mod_under hC0 ck0.2.2 (b := ((b : Nat) : Int)) (n := ((np : Nat) : Int)) (by omega) hUu) rfl rfl ⟨Nat.le_of_ble_eq_true rfl, Nat.le_of_ble_eq_true rfl⟩ hC0.1 rfl rfl (Nat.le_of_ble_eq_true rfl) d_Mod_part2_32 ⟨PL_0c (PL_le (capL_mono cap c (hN9 ▸ (show Y0.length ≤ N9 by omega))) (hQ9 ▸ hq0.2)), PL_0s (PL_le (capL_mono cap c (hN9 ▸ (show Y0.length ≤ N9 by omega))) (hQ9 ▸ hq0.2))⟩ (mv_x ?_)
  show mv_G X Q (kk V) 10 35 [(5, .int (iI ((n : Nat)))), (4, .int (iI ((np : Nat)))), (3, .int (iI ((d : Nat)))), (0, .ref r), (1, .int (iI ((g : Nat)))), (2, .int (iI (level)))] [.int (iI (unR F ((b : Nat) : Int) ((np : Nat) : Int).toNat))] M (pC (capL cap c Y0.length) (lq) - pC cap lq) (pS (capL cap c Y0.length) (lq) - pS cap lq)
  rw [show unR F ((b : Nat) : Int) ((np : Nat) : Int).toNat = ((b + unS xs i0 0 : Nat) : Int) from hUr]
  refine mv_istore (lv' := [(6, .int (iI (((b + unS xs i0 0 : Nat) : Int)))), (5, .int (iI ((n : Nat)))), (4, .int (iI ((np : Nat)))), (3, .int (iI ((d : Nat)))), (0, .ref r), (1, .int (iI ((g : Nat)))), (2, .int (iI (level)))]) B d_Mod_part2_35 (by decide) rfl ?_
  refine mv_iconst (z := 0) B d_Mod_part2_37 rfl ?_
  refine mv_istore (lv' := [(7, .int (iI (0))), (6, .int (iI (((b + unS xs i0 0 : Nat) : Int)))), (5, .int (iI ((n : Nat)))), (4, .int (iI ((np : Nat)))), (3, .int (iI ((d : Nat)))), (0, .ref r), (1, .int (iI ((g : Nat)))), (2, .int (iI (level)))]) B d_Mod_part2_38 (by decide) rfl ?_
  have L40 : ∀ (fu : Nat) (k1 : Nat) (My1 : mv_M) (Ay1 : Nat → Nat) (Fy1 : Nat → Nat → Int), (k1 ≤ np) → (WR F Fy1 c (Y0 ++ ([] : List Nd))) → (Fy1 12 = upL (F 12) 0 0 k1) → (RefC V My1 r Ay1 (rN (capL cap c (Y0 ++ ([] : List Nd)).length) (lvS lq 0 k1)) Fy1 ((c + (Y0 ++ ([] : List Nd)).length : Nat) : Int) tn gn) → (np - k1) < fu → mv_G X Q (kk V) 10 40 [(7, .int (iI ((k1 : Nat)))), (6, .int (iI (((b + unS xs i0 0 : Nat) : Int)))), (0, .ref r), (1, .int (iI ((g : Nat)))), (2, .int (iI (level))), (3, .int (iI ((d : Nat)))), (4, .int (iI ((np : Nat)))), (5, .int (iI ((n : Nat))))] [] My1 (pC (capL cap c (Y0 ++ ([] : List Nd)).length) (lvS lq 0 k1) - pC cap lq) (pS (capL cap c (Y0 ++ ([] : List Nd)).length) (lvS lq 0 k1) - pS cap lq) := by
    intro fu
    induction fu with
    | zero => intro k1 My1 Ay1 Fy1 hk1 hWl hLl hCl hm; exact absurd hm (Nat.not_lt_zero _)
    | succ fu ih40 =>
      intro k1 My1 Ay1 Fy1 hk1 hWl hLl hCl hm
      obtain ⟨Yl40, hYl40⟩ : ∃ Y : List Nd, Y = (Y0 ++ ([] : List Nd)) := ⟨_, rfl⟩
      rw [← hYl40] at hWl hCl
      rw [← hYl40]
      have lYl40 : Yl40.length = Y0.length + (([] : List Nd)).length := by rw [hYl40, List.length_append]
      have lz40 : ([] : List Nd).length = 0 := rfl
      have hlak1 := (lvS_ok (lq := lq) (v := 0) (by omega) (by omega) k1).1
      have hlbk1 := (lvS_ok (lq := lq) (v := 0) (by omega) (by omega) k1).2.1
      have hlck1 := (lvS_ok (lq := lq) (v := 0) (by omega) (by omega) k1).2.2 (by omega) (by omega)
      have hldk1 : lvS lq 0 k1 ≤ Q9 := Nat.le_trans (lvS_m hk1) hT1
      have hbL40 : Yl40.length ≤ N9 := by omega
      have ckL40 : CK cap c Yl40.length := CK_of hcc hcap0 hcap (by omega)
      have hqL40 : lq ≤ lvS lq 0 k1 ∧ lvS lq 0 k1 ≤ Q9 := by omega
      have plL40 : PL cap lq (capL cap c Yl40.length) (lvS lq 0 k1) := PL_le (capL_ge cap c Yl40.length) hqL40.1
      have k7_7 : My1 (Ay1 7) = some (iA V (100) (Fy1 7)) := hCl.2.1 7 (by decide)
      have k7_8 : My1 (Ay1 8) = some (iA V (100) (Fy1 8)) := hCl.2.1 8 (by decide)
      have k7_9 : My1 (Ay1 9) = some (iA V (100) (Fy1 9)) := hCl.2.1 9 (by decide)
      have k7_10 : My1 (Ay1 10) = some (iA V (100) (Fy1 10)) := hCl.2.1 10 (by decide)
      refine mv_iload B d_Mod_part2_40 0 rfl ?_
      refine mv_iload B d_Mod_part2_42 6 rfl ?_
      refine mv_icmp_ge (tgt := 61) B d_Mod_part2_44 (by decide) (by first | omega | (split <;> omega)) (by first | omega | (split <;> omega)) (fun c8 => ?_) (fun c8 => ?_)
      · have ek1 : np = k1 := by omega
        subst ek1
        clear ih40 hm
        refine mv_iconst (z := 0) B d_Mod_part2_61 rfl ?_
        refine mv_istore (lv' := [(7, .int (iI (0))), (6, .int (iI (((b + unS xs i0 0 : Nat) : Int)))), (0, .ref r), (1, .int (iI ((g : Nat)))), (2, .int (iI (level))), (3, .int (iI ((d : Nat)))), (4, .int (iI ((np : Nat)))), (5, .int (iI ((n : Nat))))]) B d_Mod_part2_62 (by decide) rfl ?_
        have L64 : ∀ (fu : Nat) (k2 : Nat) (My1 : mv_M) (Ay1 : Nat → Nat) (Fy1 : Nat → Nat → Int), (k2 ≤ n) → (WR F Fy1 c (Yl40 ++ bnR xs (upL (F 12) 0 0 np) 6 np level i0 k2)) → (Fy1 12 = upL (upL (F 12) 0 0 np) np level k2) → (RefC V My1 r Ay1 (rN (capL cap c (Yl40 ++ bnR xs (upL (F 12) 0 0 np) 6 np level i0 k2).length) (lvS (lvS lq 0 np) np k2)) Fy1 ((c + (Yl40 ++ bnR xs (upL (F 12) 0 0 np) 6 np level i0 k2).length : Nat) : Int) tn gn) → (n - k2) < fu → mv_G X Q (kk V) 10 64 [(7, .int (iI ((k2 : Nat)))), (6, .int (iI (((b + unS xs i0 k2 : Nat) : Int)))), (0, .ref r), (1, .int (iI ((g : Nat)))), (2, .int (iI (level))), (3, .int (iI ((d : Nat)))), (4, .int (iI ((np : Nat)))), (5, .int (iI ((n : Nat))))] [] My1 (pC (capL cap c (Yl40 ++ bnR xs (upL (F 12) 0 0 np) 6 np level i0 k2).length) (lvS (lvS lq 0 np) np k2) - pC cap lq) (pS (capL cap c (Yl40 ++ bnR xs (upL (F 12) 0 0 np) 6 np level i0 k2).length) (lvS (lvS lq 0 np) np k2) - pS cap lq) := by
          intro fu
          induction fu with
          | zero => intro k2 My1 Ay1 Fy1 hk2 hWl hLl hCl hm; exact absurd hm (Nat.not_lt_zero _)
          | succ fu ih64 =>
            intro k2 My1 Ay1 Fy1 hk2 hWl hLl hCl hm
            obtain ⟨Yl64, hYl64⟩ : ∃ Y : List Nd, Y = (Yl40 ++ bnR xs (upL (F 12) 0 0 np) 6 np level i0 k2) := ⟨_, rfl⟩
            rw [← hYl64] at hWl hCl
            rw [← hYl64]
            have lYl64 : Yl64.length = Yl40.length + (bnR xs (upL (F 12) 0 0 np) 6 np level i0 k2).length := by rw [hYl64, List.length_append]
            have lz64 : (bnR xs (upL (F 12) 0 0 np) 6 np level i0 k2).length + i0 = unS xs i0 k2 := bnR_len2 k2
            have hmo := unS_mono xs i0 hk2
            have hlak2 := (lvS_ok (lq := (lvS lq 0 np)) (v := np) (by omega) (by omega) k2).1
            have hlbk2 := (lvS_ok (lq := (lvS lq 0 np)) (v := np) (by omega) (by omega) k2).2.1
            have hlck2 := (lvS_ok (lq := (lvS lq 0 np)) (v := np) (by omega) (by omega) k2).2.2 (by omega) (by omega)
            have hldk2 : lvS (lvS lq 0 np) np k2 ≤ Q9 := Nat.le_trans (lvS_m hk2) hT2
            have hbL64 : Yl64.length ≤ N9 := by omega
            have ckL64 : CK cap c Yl64.length := CK_of hcc hcap0 hcap (by omega)
            have hqL64 : lq ≤ lvS (lvS lq 0 np) np k2 ∧ lvS (lvS lq 0 np) np k2 ≤ Q9 := by omega
            have plL64 : PL cap lq (capL cap c Yl64.length) (lvS (lvS lq 0 np) np k2) := PL_le (capL_ge cap c Yl64.length) hqL64.1
            have k10_7 : My1 (Ay1 7) = some (iA V (100) (Fy1 7)) := hCl.2.1 7 (by decide)
            have k10_8 : My1 (Ay1 8) = some (iA V (100) (Fy1 8)) := hCl.2.1 8 (by decide)
            have k10_9 : My1 (Ay1 9) = some (iA V (100) (Fy1 9)) := hCl.2.1 9 (by decide)
            have k10_10 : My1 (Ay1 10) = some (iA V (100) (Fy1 10)) := hCl.2.1 10 (by decide)
            refine mv_iload B d_Mod_part2_64 0 rfl ?_
            refine mv_iload B d_Mod_part2_66 7 rfl ?_
            refine mv_icmp_ge (tgt := 96) B d_Mod_part2_68 (by decide) (by first | omega | (split <;> omega)) (by first | omega | (split <;> omega)) (fun c11 => ?_) (fun c11 => ?_)
            · have ek2 : n = k2 := by omega
              subst ek2
              clear ih64 hm
              rw [hPu]
              obtain ⟨Q8, hQ8⟩ : ∃ z : Nat, z = (lvS (lvS lq 0 np) np n) := ⟨_, rfl⟩
              obtain ⟨L8, hL8⟩ : ∃ z : Nat → Int, z = (upL (upL (F 12) 0 0 np) np level n) := ⟨_, rfl⟩
              rw [← hQ8] at hCl hT3 hT2 hT7 hA4 hA5 hA6 plL64 hqL64 hlak2 hlbk2 hlck2 hldk2
              rw [← hQ8]
              rw [← hL8] at hLl hT5 hNl
              show mv_G X Q (kk V) 10 96 [(7, .int (iI ((n : Nat)))), (6, .int (iI (((b + p : Nat) : Int)))), (0, .ref r), (1, .int (iI ((g : Nat)))), (2, .int (iI (level))), (3, .int (iI ((d : Nat)))), (4, .int (iI ((np : Nat)))), (5, .int (iI ((n : Nat))))] [] My1 (pC (capL cap c Yl64.length) (Q8) - pC cap lq) (pS (capL cap c Yl64.length) (Q8) - pS cap lq)
              have k12_7 : My1 (Ay1 7) = some (iA V (100) (Fy1 7)) := hCl.2.1 7 (by decide)
              have k12_8 : My1 (Ay1 8) = some (iA V (100) (Fy1 8)) := hCl.2.1 8 (by decide)
              have k12_9 : My1 (Ay1 9) = some (iA V (100) (Fy1 9)) := hCl.2.1 9 (by decide)
              have k12_10 : My1 (Ay1 10) = some (iA V (100) (Fy1 10)) := hCl.2.1 10 (by decide)
              refine mv_iload_n B d_Mod_part2_96 rfl 4 rfl ?_
              refine mv_iload B d_Mod_part2_97 7 rfl ?_
              refine mv_iadd B d_Mod_part2_99 ?_
              refine mv_istore (lv' := [(7, .int (iI (level + (n : Nat)))), (6, .int (iI (((b + p : Nat) : Int)))), (0, .ref r), (1, .int (iI ((g : Nat)))), (2, .int (iI (level))), (3, .int (iI ((d : Nat)))), (4, .int (iI ((np : Nat)))), (5, .int (iI ((n : Nat))))]) B d_Mod_part2_100 (by decide) rfl ?_
              refine mv_iconst (z := 0) B d_Mod_part2_102 rfl ?_
              refine mv_istore (lv' := [(8, .int (iI (0))), (7, .int (iI (level + (n : Nat)))), (6, .int (iI (((b + p : Nat) : Int)))), (0, .ref r), (1, .int (iI ((g : Nat)))), (2, .int (iI (level))), (3, .int (iI ((d : Nat)))), (4, .int (iI ((np : Nat)))), (5, .int (iI ((n : Nat))))]) B d_Mod_part2_103 (by decide) rfl ?_
              have L105 : ∀ (fu : Nat) (j : Nat) (My1 : mv_M) (Ay1 : Nat → Nat) (Fy1 : Nat → Nat → Int), (j ≤ n) → (WR F Fy1 c (Yl64 ++ bcR xs L8 rc yf xf np ni level n i0 j)) → (Fy1 12 = lvB L8 rc yf np level n j) → (RefC V My1 r Ay1 (rN (capL cap c (Yl64 ++ bcR xs L8 rc yf xf np ni level n i0 j).length) (lqB Q8 rc yf np n j)) Fy1 ((c + (Yl64 ++ bcR xs L8 rc yf xf np ni level n i0 j).length : Nat) : Int) tn gn) → (n - j) < fu → mv_G X Q (kk V) 10 105 [(8, .int (iI ((j : Nat)))), (7, .int (iI ((level + ((n : Nat) : Int)) + ((cnB rc j : Nat) : Int)))), (6, .int (iI (((b + p : Nat) : Int)))), (0, .ref r), (1, .int (iI ((g : Nat)))), (2, .int (iI (level))), (3, .int (iI ((d : Nat)))), (4, .int (iI ((np : Nat)))), (5, .int (iI ((n : Nat))))] [] My1 (pC (capL cap c (Yl64 ++ bcR xs L8 rc yf xf np ni level n i0 j).length) (lqB Q8 rc yf np n j) - pC cap lq) (pS (capL cap c (Yl64 ++ bcR xs L8 rc yf xf np ni level n i0 j).length) (lqB Q8 rc yf np n j) - pS cap lq) := by
                intro fu
                induction fu with
                | zero => intro j My1 Ay1 Fy1 hj9 hWl hLl hCl hm; exact absurd hm (Nat.not_lt_zero _)
                | succ fu ih105 =>
                  intro j My1 Ay1 Fy1 hj9 hWl hLl hCl hm
                  obtain ⟨Yl105, hYl105⟩ : ∃ Y : List Nd, Y = (Yl64 ++ bcR xs L8 rc yf xf np ni level n i0 j) := ⟨_, rfl⟩
                  rw [← hYl105] at hWl hCl
                  rw [← hYl105]
                  have lYl105 : Yl105.length = Yl64.length + (bcR xs L8 rc yf xf np ni level n i0 j).length := by rw [hYl105, List.length_append]
                  have hbn := bcR_mono (xs := xs) (Λ := L8) (rc := rc) (yf := yf) (xf := xf) (np := np) (ni := ni) (n := n) (i0 := i0) (level := level) hj9
                  have hlqj := (lqB_ok (rc := rc) (yf := yf) (np := np) (n := n) (lq := Q8) (by omega) (by omega) j hj9).1
                  have hlqk := hT7 j hj9
                  have hlqm := hT3 j hj9
                  have hbL105 : Yl105.length ≤ N9 := by omega
                  have ckL105 : CK cap c Yl105.length := CK_of hcc hcap0 hcap (by omega)
                  have hqL105 : lq ≤ lqB Q8 rc yf np n j ∧ lqB Q8 rc yf np n j ≤ Q9 := by omega
                  have plL105 : PL cap lq (capL cap c Yl105.length) (lqB Q8 rc yf np n j) := PL_le (capL_ge cap c Yl105.length) hqL105.1
                  have k14_7 : My1 (Ay1 7) = some (iA V (100) (Fy1 7)) := hCl.2.1 7 (by decide)
                  have k14_8 : My1 (Ay1 8) = some (iA V (100) (Fy1 8)) := hCl.2.1 8 (by decide)
                  have k14_9 : My1 (Ay1 9) = some (iA V (100) (Fy1 9)) := hCl.2.1 9 (by decide)
                  have k14_10 : My1 (Ay1 10) = some (iA V (100) (Fy1 10)) := hCl.2.1 10 (by decide)
                  refine mv_iload B d_Mod_part2_105 0 rfl ?_
                  refine mv_iload B d_Mod_part2_107 8 rfl ?_
                  refine mv_icmp_ge (tgt := 186) B d_Mod_part2_109 (by decide) (by first | omega | (split <;> omega)) (by first | omega | (split <;> omega)) (fun c15 => ?_) (fun c15 => ?_)
                  · have ej : n = j := by omega
                    subst ej
                    clear ih105 hm
                    refine mv_aloadR_n B d_Mod_part2_186 rfl 3 rfl ?_
                    refine mv_aloadR_n B d_Mod_part2_187 rfl 3 rfl ?_
                    refine gf_Mod_40 B hCl.1 rfl d_Mod_part2_188 ?_
                    refine mv_iload_n B d_Mod_part2_191 rfl 6 rfl ?_
                    refine ia_ld B k14_10 (by first | omega | (split <;> omega)) (by omega) (by omega) d_Mod_part2_192 ?_
                    rw [show Int.toNat ((d : Nat)) = d from by omega]
                    have rr16 : R32 ((Fy1 10) d) := (hCl.R 10) _
                    rw [show Fy1 10 d = (ni : Nat) from (congrFun (hWl.2.1 10 (by omega) (by omega)) d).trans h10]
                    refine mv_iconst (z := 1) B d_Mod_part2_193 rfl ?_
                    refine mv_iadd B d_Mod_part2_194 ?_
                    have w17z : (apL (ni + 1)).length = ni + 1 := apL_len _
                    have w17q : lqB Q8 rc yf np n n ≤ lqB Q8 rc yf np n n ∧ lqB Q8 rc yf np n n ≤ Q9 := ⟨Nat.le_refl _, hqL105.2⟩
                    have w17n : Yl105.length + (apL (ni + 1)).length ≤ N9 := by omega
                    have w17e : capL (capL cap c Yl105.length) (c + Yl105.length) (apL (ni + 1)).length = capL cap c (Yl105.length + (apL (ni + 1)).length) := (capL_add cap c Yl105.length (apL (ni + 1)).length).symm
                    have w17m : PL (capL cap c Yl105.length) (lqB Q8 rc yf np n n) (capL cap c (Yl105.length + (apL (ni + 1)).length)) (lqB Q8 rc yf np n n) := PL_le (capL_mono cap c (Nat.le_add_right _ _)) w17q.1
                    have w17t : PL (capL cap c (Yl105.length + (apL (ni + 1)).length)) (lqB Q8 rc yf np n n) (capL cap c (paR xs (F 12) rc yf xf np ni level n i0 x0 ((g : Nat) : Int)).length) (paQ lq rc yf np n) := PL_le (capL_mono cap c (hN9 ▸ w17n)) (hQ9 ▸ w17q.2)
                    refine ca_Mod_153 (mc := pC (capL (capL cap c Yl105.length) (c + Yl105.length) (apL (ni + 1)).length) (lqB Q8 rc yf np n n) - pC (capL cap c Yl105.length) (lqB Q8 rc yf np n n)) (ms := pS (capL (capL cap c Yl105.length) (c + Yl105.length) (apL (ni + 1)).length) (lqB Q8 rc yf np n n) - pS (capL cap c Yl105.length) (lqB Q8 rc yf np n n)) (rm' := rM 3 (pC (capL (capL cap c Yl105.length) (c + Yl105.length) (apL (ni + 1)).length) (lqB Q8 rc yf np n n) - pC (capL cap c Yl105.length) (lqB Q8 rc yf np n n)) (pS (capL (capL cap c Yl105.length) (c + Yl105.length) (apL (ni + 1)).length) (lqB Q8 rc yf np n n) - pS (capL cap c Yl105.length) (lqB Q8 rc yf np n n)) 100) (As := [.int (iI ((ni : Nat) + 1))]) (rest := []) B (mW_apps hCl ckL105.1 ckL105.2.1 ckL105.2.2 (n := ni + 1) (m := (ni : Nat) + 1) (by omega) (by rw [apL_len]; omega) hLl) rfl rfl ⟨Nat.le_of_ble_eq_true rfl, Nat.le_of_ble_eq_true rfl⟩ hCl.1 rfl rfl (Nat.le_of_ble_eq_true rfl) d_Mod_part2_195 ⟨by rw [w17e]; exact PL_c plL105 w17m w17t, by rw [w17e]; exact PL_s plL105 w17m w17t⟩ (fun v1 w17M ep => ?_)
                    obtain ⟨e1, w17U⟩ := ep
                    subst e1
                    have w17U := wrP_app (lq := lq) hWl w17U
                    obtain ⟨w17Y, w17h⟩ : ∃ Y : List Nd, Y = Yl105 ++ (apL (ni + 1)) := ⟨_, rfl⟩
                    rw [← w17h] at w17U
                    have w17l : w17Y.length = Yl105.length + (apL (ni + 1)).length := by rw [w17h, List.length_append]
                    obtain ⟨w17A, w17F, w17W, w17L, w17C⟩ := w17U
                    rw [← w17l] at w17e w17m w17t
                    have w17b : CK cap c w17Y.length := CK_of hcc hcap0 hcap (by omega)
                    have w17p := plL105.tr w17m
                    refine mv_widen (c2 := pC (capL cap c w17Y.length) (lqB Q8 rc yf np n n) - pC cap lq) (s2 := pS (capL cap c w17Y.length) (lqB Q8 rc yf np n n) - pS cap lq) (by rw [w17e]; exact PL_c2 plL105 w17m) (by rw [w17e]; exact PL_s2 plL105 w17m) ?_
                    clear w17e w17m w17t w17n
                    show mv_G X Q (kk V) 10 198 [(8, .int (iI ((n : Nat)))), (7, .int (iI ((level + ((n : Nat) : Int)) + ((cnB rc n : Nat) : Int)))), (6, .int (iI (((b + p : Nat) : Int)))), (0, .ref r), (1, .int (iI ((g : Nat)))), (2, .int (iI (level))), (3, .int (iI ((d : Nat)))), (4, .int (iI ((np : Nat)))), (5, .int (iI ((n : Nat))))] [] w17M (pC (capL cap c w17Y.length) (lqB Q8 rc yf np n n) - pC cap lq) (pS (capL cap c w17Y.length) (lqB Q8 rc yf np n n) - pS cap lq)
                    have k18_7 : w17M (w17A 7) = some (iA V (100) (w17F 7)) := w17C.2.1 7 (by decide)
                    have k18_8 : w17M (w17A 8) = some (iA V (100) (w17F 8)) := w17C.2.1 8 (by decide)
                    have k18_9 : w17M (w17A 9) = some (iA V (100) (w17F 9)) := w17C.2.1 9 (by decide)
                    have k18_10 : w17M (w17A 10) = some (iA V (100) (w17F 10)) := w17C.2.1 10 (by decide)
                    refine mv_aloadR_n B d_Mod_part2_198 rfl 3 rfl ?_
                    refine mv_iload B d_Mod_part2_199 7 rfl ?_
                    have w19z : ([((0 : Int), 1000000 + ((np : Nat)), (0 : Int))] : List Nd).length = 1 := rfl
                    have w19q : lqB Q8 rc yf np n n ≤ lqB Q8 rc yf np n n ∧ lqB Q8 rc yf np n n ≤ Q9 := ⟨Nat.le_refl _, w17q.2⟩
                    have w19n : w17Y.length + (([((0 : Int), 1000000 + ((np : Nat)), (0 : Int))] : List Nd)).length ≤ N9 := by omega
                    have w19e : capL (capL cap c w17Y.length) (c + w17Y.length) (([((0 : Int), 1000000 + ((np : Nat)), (0 : Int))] : List Nd)).length = capL cap c (w17Y.length + (([((0 : Int), 1000000 + ((np : Nat)), (0 : Int))] : List Nd)).length) := (capL_add cap c w17Y.length (([((0 : Int), 1000000 + ((np : Nat)), (0 : Int))] : List Nd)).length).symm
                    have w19m : PL (capL cap c w17Y.length) (lqB Q8 rc yf np n n) (capL cap c (w17Y.length + (([((0 : Int), 1000000 + ((np : Nat)), (0 : Int))] : List Nd)).length)) (lqB Q8 rc yf np n n) := PL_le (capL_mono cap c (Nat.le_add_right _ _)) w19q.1
                    have w19t : PL (capL cap c (w17Y.length + (([((0 : Int), 1000000 + ((np : Nat)), (0 : Int))] : List Nd)).length)) (lqB Q8 rc yf np n n) (capL cap c (paR xs (F 12) rc yf xf np ni level n i0 x0 ((g : Nat) : Int)).length) (paQ lq rc yf np n) := PL_le (capL_mono cap c (hN9 ▸ w19n)) (hQ9 ▸ w19q.2)
                    refine ca_Mod_126 (mc := pC (capL (capL cap c w17Y.length) (c + w17Y.length) (([((0 : Int), 1000000 + ((np : Nat)), (0 : Int))] : List Nd)).length) (lqB Q8 rc yf np n n) - pC (capL cap c w17Y.length) (lqB Q8 rc yf np n n)) (ms := pS (capL (capL cap c w17Y.length) (c + w17Y.length) (([((0 : Int), 1000000 + ((np : Nat)), (0 : Int))] : List Nd)).length) (lqB Q8 rc yf np n n) - pS (capL cap c w17Y.length) (lqB Q8 rc yf np n n)) (rm' := rM 3 (pC (capL (capL cap c w17Y.length) (c + w17Y.length) (([((0 : Int), 1000000 + ((np : Nat)), (0 : Int))] : List Nd)).length) (lqB Q8 rc yf np n n) - pC (capL cap c w17Y.length) (lqB Q8 rc yf np n n)) (pS (capL (capL cap c w17Y.length) (c + w17Y.length) (([((0 : Int), 1000000 + ((np : Nat)), (0 : Int))] : List Nd)).length) (lqB Q8 rc yf np n n) - pS (capL cap c w17Y.length) (lqB Q8 rc yf np n n)) 100) (As := [.int (iI ((np : Nat)))]) (rest := []) B (mW_made w17C w17b.1 w17b.2.1 w17b.2.2 (v := (np : Nat)) (by omega) w17L) rfl rfl ⟨Nat.le_of_ble_eq_true rfl, Nat.le_of_ble_eq_true rfl⟩ w17C.1 rfl rfl (Nat.le_of_ble_eq_true rfl) d_Mod_part2_201 ⟨by rw [w19e]; exact PL_c w17p w19m w19t, by rw [w19e]; exact PL_s w17p w19m w19t⟩ (fun v1 w19M ep => ?_)
                    obtain ⟨e1, w19U⟩ := ep
                    subst e1
                    have w19U := wrP_app (lq := lq) w17W w19U
                    obtain ⟨w19Y, w19h⟩ : ∃ Y : List Nd, Y = w17Y ++ (([((0 : Int), 1000000 + ((np : Nat)), (0 : Int))] : List Nd)) := ⟨_, rfl⟩
                    rw [← w19h] at w19U
                    have w19l : w19Y.length = w17Y.length + (([((0 : Int), 1000000 + ((np : Nat)), (0 : Int))] : List Nd)).length := by rw [w19h, List.length_append]
                    obtain ⟨w19A, w19F, w19W, w19L, w19C⟩ := w19U
                    rw [← w19l] at w19e w19m w19t
                    have w19b : CK cap c w19Y.length := CK_of hcc hcap0 hcap (by omega)
                    have w19p := w17p.tr w19m
                    refine mv_widen (c2 := pC (capL cap c w19Y.length) (lqB Q8 rc yf np n n) - pC cap lq) (s2 := pS (capL cap c w19Y.length) (lqB Q8 rc yf np n n) - pS cap lq) (by rw [w19e]; exact PL_c2 w17p w19m) (by rw [w19e]; exact PL_s2 w17p w19m) ?_
                    clear w19e w19m w19t w19n
                    show mv_G X Q (kk V) 10 204 [(8, .int (iI ((n : Nat)))), (7, .int (iI ((level + ((n : Nat) : Int)) + ((cnB rc n : Nat) : Int)))), (6, .int (iI (((b + p : Nat) : Int)))), (0, .ref r), (1, .int (iI ((g : Nat)))), (2, .int (iI (level))), (3, .int (iI ((d : Nat)))), (4, .int (iI ((np : Nat)))), (5, .int (iI ((n : Nat))))] [] w19M (pC (capL cap c w19Y.length) (lqB Q8 rc yf np n n) - pC cap lq) (pS (capL cap c w19Y.length) (lqB Q8 rc yf np n n) - pS cap lq)
                    have k20_7 : w19M (w19A 7) = some (iA V (100) (w19F 7)) := w19C.2.1 7 (by decide)
                    have k20_8 : w19M (w19A 8) = some (iA V (100) (w19F 8)) := w19C.2.1 8 (by decide)
                    have k20_9 : w19M (w19A 9) = some (iA V (100) (w19F 9)) := w19C.2.1 9 (by decide)
                    have k20_10 : w19M (w19A 10) = some (iA V (100) (w19F 10)) := w19C.2.1 10 (by decide)
                    refine mv_iconst (z := 0) B d_Mod_part2_204 rfl ?_
                    refine mv_istore (lv' := [(8, .int (iI (0))), (7, .int (iI ((level + ((n : Nat) : Int)) + ((cnB rc n : Nat) : Int)))), (6, .int (iI (((b + p : Nat) : Int)))), (0, .ref r), (1, .int (iI ((g : Nat)))), (2, .int (iI (level))), (3, .int (iI ((d : Nat)))), (4, .int (iI ((np : Nat)))), (5, .int (iI ((n : Nat))))]) B d_Mod_part2_205 (by decide) rfl ?_
                    have L207 : ∀ (fu : Nat) (j2 : Nat) (My1 : mv_M) (Ay1 : Nat → Nat) (Fy1 : Nat → Nat → Int), (j2 ≤ ni) → (WR F Fy1 c (w19Y ++ idR xs (lvB L8 rc yf np level n n) ((np + n : Nat) : Int) x0 j2)) → (Fy1 12 = lvB L8 rc yf np level n n) → (RefC V My1 r Ay1 (rN (capL cap c (w19Y ++ idR xs (lvB L8 rc yf np level n n) ((np + n : Nat) : Int) x0 j2).length) (lqB Q8 rc yf np n n)) Fy1 ((c + (w19Y ++ idR xs (lvB L8 rc yf np level n n) ((np + n : Nat) : Int) x0 j2).length : Nat) : Int) tn gn) → (ni - j2) < fu → mv_G X Q (kk V) 10 207 [(8, .int (iI ((j2 : Nat)))), (7, .int (iI ((level + ((n : Nat) : Int)) + ((cnB rc n : Nat) : Int)))), (6, .int (iI (((b + p : Nat) : Int)))), (0, .ref r), (1, .int (iI ((g : Nat)))), (2, .int (iI (level))), (3, .int (iI ((d : Nat)))), (4, .int (iI ((np : Nat)))), (5, .int (iI ((n : Nat))))] [] My1 (pC (capL cap c (w19Y ++ idR xs (lvB L8 rc yf np level n n) ((np + n : Nat) : Int) x0 j2).length) (lqB Q8 rc yf np n n) - pC cap lq) (pS (capL cap c (w19Y ++ idR xs (lvB L8 rc yf np level n n) ((np + n : Nat) : Int) x0 j2).length) (lqB Q8 rc yf np n n) - pS cap lq) := by
                      intro fu
                      induction fu with
                      | zero => intro j2 My1 Ay1 Fy1 hj8 hWl hLl hCl hm; exact absurd hm (Nat.not_lt_zero _)
                      | succ fu ih207 =>
                        intro j2 My1 Ay1 Fy1 hj8 hWl hLl hCl hm
                        obtain ⟨Yl207, hYl207⟩ : ∃ Y : List Nd, Y = (w19Y ++ idR xs (lvB L8 rc yf np level n n) ((np + n : Nat) : Int) x0 j2) := ⟨_, rfl⟩
                        rw [← hYl207] at hWl hCl
                        rw [← hYl207]
                        have lYl207 : Yl207.length = w19Y.length + (idR xs (lvB L8 rc yf np level n n) ((np + n : Nat) : Int) x0 j2).length := by rw [hYl207, List.length_append]
                        have lz207 : (idR xs (lvB L8 rc yf np level n n) ((np + n : Nat) : Int) x0 j2).length + x0 = ixS xs x0 j2 := idR_len2 j2
                        have hmx := ixS_mono xs x0 hj8
                        have hbL207 : Yl207.length ≤ N9 := by omega
                        have ckL207 : CK cap c Yl207.length := CK_of hcc hcap0 hcap (by omega)
                        have hqL207 : lq ≤ lqB Q8 rc yf np n n ∧ lqB Q8 rc yf np n n ≤ Q9 := by omega
                        have plL207 : PL cap lq (capL cap c Yl207.length) (lqB Q8 rc yf np n n) := PL_le (capL_ge cap c Yl207.length) hqL207.1
                        have k22_7 : My1 (Ay1 7) = some (iA V (100) (Fy1 7)) := hCl.2.1 7 (by decide)
                        have k22_8 : My1 (Ay1 8) = some (iA V (100) (Fy1 8)) := hCl.2.1 8 (by decide)
                        have k22_9 : My1 (Ay1 9) = some (iA V (100) (Fy1 9)) := hCl.2.1 9 (by decide)
                        have k22_10 : My1 (Ay1 10) = some (iA V (100) (Fy1 10)) := hCl.2.1 10 (by decide)
                        refine mv_iload B d_Mod_part2_207 0 rfl ?_
                        refine mv_aloadR_n B d_Mod_part2_209 rfl 3 rfl ?_
                        refine gf_Mod_40 B hCl.1 rfl d_Mod_part2_210 ?_
                        refine mv_iload_n B d_Mod_part2_213 rfl 6 rfl ?_
                        refine ia_ld B k22_10 (by first | omega | (split <;> omega)) (by omega) (by omega) d_Mod_part2_214 ?_
                        rw [show Int.toNat ((d : Nat)) = d from by omega]
                        have rr23 : R32 ((Fy1 10) d) := (hCl.R 10) _
                        rw [show Fy1 10 d = (ni : Nat) from (congrFun (hWl.2.1 10 (by omega) (by omega)) d).trans h10]
                        refine mv_icmp_ge (tgt := 242) B d_Mod_part2_215 (by decide) (by first | omega | (split <;> omega)) (by first | omega | (split <;> omega)) (fun c24 => ?_) (fun c24 => ?_)
                        · have ej2 : ni = j2 := by omega
                          subst ej2
                          clear ih207 hm
                          refine mv_aloadR_n B d_Mod_part2_242 rfl 3 rfl ?_
                          refine mv_iload B d_Mod_part2_243 7 rfl ?_
                          refine mv_iload B d_Mod_part2_245 8 rfl ?_
                          refine mv_iadd B d_Mod_part2_247 ?_
                          have w25z : (apL (np + n)).length = np + n := apL_len _
                          have w25q : lqB Q8 rc yf np n n ≤ lqB Q8 rc yf np n n ∧ lqB Q8 rc yf np n n ≤ Q9 := ⟨Nat.le_refl _, hqL207.2⟩
                          have w25n : Yl207.length + (apL (np + n)).length ≤ N9 := by omega
                          have w25e : capL (capL cap c Yl207.length) (c + Yl207.length) (apL (np + n)).length = capL cap c (Yl207.length + (apL (np + n)).length) := (capL_add cap c Yl207.length (apL (np + n)).length).symm
                          have w25m : PL (capL cap c Yl207.length) (lqB Q8 rc yf np n n) (capL cap c (Yl207.length + (apL (np + n)).length)) (lqB Q8 rc yf np n n) := PL_le (capL_mono cap c (Nat.le_add_right _ _)) w25q.1
                          have w25t : PL (capL cap c (Yl207.length + (apL (np + n)).length)) (lqB Q8 rc yf np n n) (capL cap c (paR xs (F 12) rc yf xf np ni level n i0 x0 ((g : Nat) : Int)).length) (paQ lq rc yf np n) := PL_le (capL_mono cap c (hN9 ▸ w25n)) (hQ9 ▸ w25q.2)
                          refine ca_Mod_153 (mc := pC (capL (capL cap c Yl207.length) (c + Yl207.length) (apL (np + n)).length) (lqB Q8 rc yf np n n) - pC (capL cap c Yl207.length) (lqB Q8 rc yf np n n)) (ms := pS (capL (capL cap c Yl207.length) (c + Yl207.length) (apL (np + n)).length) (lqB Q8 rc yf np n n) - pS (capL cap c Yl207.length) (lqB Q8 rc yf np n n)) (rm' := rM 3 (pC (capL (capL cap c Yl207.length) (c + Yl207.length) (apL (np + n)).length) (lqB Q8 rc yf np n n) - pC (capL cap c Yl207.length) (lqB Q8 rc yf np n n)) (pS (capL (capL cap c Yl207.length) (c + Yl207.length) (apL (np + n)).length) (lqB Q8 rc yf np n n) - pS (capL cap c Yl207.length) (lqB Q8 rc yf np n n)) 100) (As := [.int (iI ((np : Nat) + (n : Nat)))]) (rest := []) B (mW_apps hCl ckL207.1 ckL207.2.1 ckL207.2.2 (n := np + n) (m := (np : Nat) + (n : Nat)) (by omega) (by rw [apL_len]; omega) hLl) rfl rfl ⟨Nat.le_of_ble_eq_true rfl, Nat.le_of_ble_eq_true rfl⟩ hCl.1 rfl rfl (Nat.le_of_ble_eq_true rfl) d_Mod_part2_248 ⟨by rw [w25e]; exact PL_c plL207 w25m w25t, by rw [w25e]; exact PL_s plL207 w25m w25t⟩ (fun v1 w25M ep => ?_)
                          obtain ⟨e1, w25U⟩ := ep
                          subst e1
                          have w25U := wrP_app (lq := lq) hWl w25U
                          obtain ⟨w25Y, w25h⟩ : ∃ Y : List Nd, Y = Yl207 ++ (apL (np + n)) := ⟨_, rfl⟩
                          rw [← w25h] at w25U
                          have w25l : w25Y.length = Yl207.length + (apL (np + n)).length := by rw [w25h, List.length_append]
                          obtain ⟨w25A, w25F, w25W, w25L, w25C⟩ := w25U
                          rw [← w25l] at w25e w25m w25t
                          have w25b : CK cap c w25Y.length := CK_of hcc hcap0 hcap (by omega)
                          have w25p := plL207.tr w25m
                          refine mv_widen (c2 := pC (capL cap c w25Y.length) (lqB Q8 rc yf np n n) - pC cap lq) (s2 := pS (capL cap c w25Y.length) (lqB Q8 rc yf np n n) - pS cap lq) (by rw [w25e]; exact PL_c2 plL207 w25m) (by rw [w25e]; exact PL_s2 plL207 w25m) ?_
                          clear w25e w25m w25t w25n
                          show mv_G X Q (kk V) 10 251 [(8, .int (iI ((ni : Nat)))), (7, .int (iI ((level + ((n : Nat) : Int)) + ((cnB rc n : Nat) : Int)))), (6, .int (iI (((b + p : Nat) : Int)))), (0, .ref r), (1, .int (iI ((g : Nat)))), (2, .int (iI (level))), (3, .int (iI ((d : Nat)))), (4, .int (iI ((np : Nat)))), (5, .int (iI ((n : Nat))))] [] w25M (pC (capL cap c w25Y.length) (lqB Q8 rc yf np n n) - pC cap lq) (pS (capL cap c w25Y.length) (lqB Q8 rc yf np n n) - pS cap lq)
                          have k26_7 : w25M (w25A 7) = some (iA V (100) (w25F 7)) := w25C.2.1 7 (by decide)
                          have k26_8 : w25M (w25A 8) = some (iA V (100) (w25F 8)) := w25C.2.1 8 (by decide)
                          have k26_9 : w25M (w25A 9) = some (iA V (100) (w25F 9)) := w25C.2.1 9 (by decide)
                          have k26_10 : w25M (w25A 10) = some (iA V (100) (w25F 10)) := w25C.2.1 10 (by decide)
                          refine mv_aloadR_n B d_Mod_part2_251 rfl 3 rfl ?_
                          refine mv_iconst (z := 1) B d_Mod_part2_252 rfl ?_
                          refine mv_iload_n B d_Mod_part2_253 rfl 4 rfl ?_
                          refine mv_iconst (z := 0) B d_Mod_part2_254 rfl ?_
                          have w27z : ([(1, (g : Nat), 0)] : List Nd).length = 1 := rfl
                          have w27q : lqB Q8 rc yf np n n ≤ lqB Q8 rc yf np n n ∧ lqB Q8 rc yf np n n ≤ Q9 := ⟨Nat.le_refl _, w25q.2⟩
                          have w27n : w25Y.length + (([(1, (g : Nat), 0)] : List Nd)).length ≤ N9 := by omega
                          have w27e : capL (capL cap c w25Y.length) (c + w25Y.length) (([(1, (g : Nat), 0)] : List Nd)).length = capL cap c (w25Y.length + (([(1, (g : Nat), 0)] : List Nd)).length) := (capL_add cap c w25Y.length (([(1, (g : Nat), 0)] : List Nd)).length).symm
                          have w27m : PL (capL cap c w25Y.length) (lqB Q8 rc yf np n n) (capL cap c (w25Y.length + (([(1, (g : Nat), 0)] : List Nd)).length)) (lqB Q8 rc yf np n n) := PL_le (capL_mono cap c (Nat.le_add_right _ _)) w27q.1
                          have w27t : PL (capL cap c (w25Y.length + (([(1, (g : Nat), 0)] : List Nd)).length)) (lqB Q8 rc yf np n n) (capL cap c (paR xs (F 12) rc yf xf np ni level n i0 x0 ((g : Nat) : Int)).length) (paQ lq rc yf np n) := PL_le (capL_mono cap c (hN9 ▸ w27n)) (hQ9 ▸ w27q.2)
                          refine ca_Mod_63 (mc := pC (capL (capL cap c w25Y.length) (c + w25Y.length) (([(1, (g : Nat), 0)] : List Nd)).length) (lqB Q8 rc yf np n n) - pC (capL cap c w25Y.length) (lqB Q8 rc yf np n n)) (ms := pS (capL (capL cap c w25Y.length) (c + w25Y.length) (([(1, (g : Nat), 0)] : List Nd)).length) (lqB Q8 rc yf np n n) - pS (capL cap c w25Y.length) (lqB Q8 rc yf np n n)) (rm' := rM 2 (pC (capL (capL cap c w25Y.length) (c + w25Y.length) (([(1, (g : Nat), 0)] : List Nd)).length) (lqB Q8 rc yf np n n) - pC (capL cap c w25Y.length) (lqB Q8 rc yf np n n)) (pS (capL (capL cap c w25Y.length) (c + w25Y.length) (([(1, (g : Nat), 0)] : List Nd)).length) (lqB Q8 rc yf np n n) - pS (capL cap c w25Y.length) (lqB Q8 rc yf np n n)) 70) (As := [.int (iI (1)), .int (iI ((g : Nat))), .int (iI (0))]) (rest := []) B (mW_add w25C w25b.1 w25b.2.1 w25b.2.2 (k := 1) (v := (g : Nat)) (s := 0) (by omega) (by omega) (by omega) w25L) rfl rfl ⟨Nat.le_of_ble_eq_true rfl, Nat.le_of_ble_eq_true rfl⟩ w25C.1 rfl rfl (Nat.le_of_ble_eq_true rfl) d_Mod_part2_255 ⟨by rw [w27e]; exact PL_c w25p w27m w27t, by rw [w27e]; exact PL_s w25p w27m w27t⟩ (fun v1 w27M ep => ?_)
                          obtain ⟨e1, w27U⟩ := ep
                          subst e1
                          have w27U := wrP_app (lq := lq) w25W w27U
                          obtain ⟨w27Y, w27h⟩ : ∃ Y : List Nd, Y = w25Y ++ (([(1, (g : Nat), 0)] : List Nd)) := ⟨_, rfl⟩
                          rw [← w27h] at w27U
                          have w27l : w27Y.length = w25Y.length + (([(1, (g : Nat), 0)] : List Nd)).length := by rw [w27h, List.length_append]
                          obtain ⟨w27A, w27F, w27W, w27L, w27C⟩ := w27U
                          rw [← w27l] at w27e w27m w27t
                          have w27b : CK cap c w27Y.length := CK_of hcc hcap0 hcap (by omega)
                          have w27p := w25p.tr w27m
                          refine mv_widen (c2 := pC (capL cap c w27Y.length) (lqB Q8 rc yf np n n) - pC cap lq) (s2 := pS (capL cap c w27Y.length) (lqB Q8 rc yf np n n) - pS cap lq) (by rw [w27e]; exact PL_c2 w25p w27m) (by rw [w27e]; exact PL_s2 w25p w27m) ?_
                          clear w27e w27m w27t w27n
                          show mv_G X Q (kk V) 10 258 [(8, .int (iI ((ni : Nat)))), (7, .int (iI ((level + ((n : Nat) : Int)) + ((cnB rc n : Nat) : Int)))), (6, .int (iI (((b + p : Nat) : Int)))), (0, .ref r), (1, .int (iI ((g : Nat)))), (2, .int (iI (level))), (3, .int (iI ((d : Nat)))), (4, .int (iI ((np : Nat)))), (5, .int (iI ((n : Nat))))] [.int (iI (((c + w25Y.length : Nat) : Int)))] w27M (pC (capL cap c w27Y.length) (lqB Q8 rc yf np n n) - pC cap lq) (pS (capL cap c w27Y.length) (lqB Q8 rc yf np n n) - pS cap lq)
                          have k28_7 : w27M (w27A 7) = some (iA V (100) (w27F 7)) := w27C.2.1 7 (by decide)
                          have k28_8 : w27M (w27A 8) = some (iA V (100) (w27F 8)) := w27C.2.1 8 (by decide)
                          have k28_9 : w27M (w27A 9) = some (iA V (100) (w27F 9)) := w27C.2.1 9 (by decide)
                          have k28_10 : w27M (w27A 10) = some (iA V (100) (w27F 10)) := w27C.2.1 10 (by decide)
                          refine mv_pop B d_Mod_part2_258 rfl ?_
                          refine mv_iconst (z := 0) B d_Mod_part2_259 rfl ?_
                          refine mv_istore (lv' := [(8, .int (iI (0))), (7, .int (iI ((level + ((n : Nat) : Int)) + ((cnB rc n : Nat) : Int)))), (6, .int (iI (((b + p : Nat) : Int)))), (0, .ref r), (1, .int (iI ((g : Nat)))), (2, .int (iI (level))), (3, .int (iI ((d : Nat)))), (4, .int (iI ((np : Nat)))), (5, .int (iI ((n : Nat))))]) B d_Mod_part2_260 (by decide) rfl ?_
                          have L262 : ∀ (fu : Nat) (m1 : Nat) (My1 : mv_M) (Ay1 : Nat → Nat) (Fy1 : Nat → Nat → Int), (m1 ≤ np) → (WR F Fy1 c (w27Y ++ mdL (0) m1)) → (Fy1 12 = lvB L8 rc yf np level n n) → (RefC V My1 r Ay1 (rN (capL cap c (w27Y ++ mdL (0) m1).length) (lqB Q8 rc yf np n n)) Fy1 ((c + (w27Y ++ mdL (0) m1).length : Nat) : Int) tn gn) → (np - m1) < fu → mv_G X Q (kk V) 10 262 [(8, .int (iI ((m1 : Nat)))), (7, .int (iI ((level + ((n : Nat) : Int)) + ((cnB rc n : Nat) : Int)))), (6, .int (iI (((b + p : Nat) : Int)))), (0, .ref r), (1, .int (iI ((g : Nat)))), (2, .int (iI (level))), (3, .int (iI ((d : Nat)))), (4, .int (iI ((np : Nat)))), (5, .int (iI ((n : Nat))))] [] My1 (pC (capL cap c (w27Y ++ mdL (0) m1).length) (lqB Q8 rc yf np n n) - pC cap lq) (pS (capL cap c (w27Y ++ mdL (0) m1).length) (lqB Q8 rc yf np n n) - pS cap lq) := by
                            intro fu
                            induction fu with
                            | zero => intro m1 My1 Ay1 Fy1 hi hWl hLl hCl hm; exact absurd hm (Nat.not_lt_zero _)
                            | succ fu ih262 =>
                              intro m1 My1 Ay1 Fy1 hi hWl hLl hCl hm
                              obtain ⟨Yl262, hYl262⟩ : ∃ Y : List Nd, Y = (w27Y ++ mdL (0) m1) := ⟨_, rfl⟩
                              rw [← hYl262] at hWl hCl
                              rw [← hYl262]
                              have lYl262 : Yl262.length = w27Y.length + (mdL (0) m1).length := by rw [hYl262, List.length_append]
                              have lz262 : (mdL (0) m1).length = m1 := mdL_len _ _
                              have hbL262 : Yl262.length ≤ N9 := by omega
                              have ckL262 : CK cap c Yl262.length := CK_of hcc hcap0 hcap (by omega)
                              have hqL262 : lq ≤ lqB Q8 rc yf np n n ∧ lqB Q8 rc yf np n n ≤ Q9 := by omega
                              have plL262 : PL cap lq (capL cap c Yl262.length) (lqB Q8 rc yf np n n) := PL_le (capL_ge cap c Yl262.length) hqL262.1
                              have k30_7 : My1 (Ay1 7) = some (iA V (100) (Fy1 7)) := hCl.2.1 7 (by decide)
                              have k30_8 : My1 (Ay1 8) = some (iA V (100) (Fy1 8)) := hCl.2.1 8 (by decide)
                              have k30_9 : My1 (Ay1 9) = some (iA V (100) (Fy1 9)) := hCl.2.1 9 (by decide)
                              have k30_10 : My1 (Ay1 10) = some (iA V (100) (Fy1 10)) := hCl.2.1 10 (by decide)
                              refine mv_iload B d_Mod_part2_262 0 rfl ?_
                              refine mv_iload B d_Mod_part2_264 7 rfl ?_
                              refine mv_icmp_ge (tgt := 281) B d_Mod_part2_266 (by decide) (by first | omega | (split <;> omega)) (by first | omega | (split <;> omega)) (fun c31 => ?_) (fun c31 => ?_)
                              · have em1 : np = m1 := by omega
                                subst em1
                                clear ih262 hm
                                refine mv_iconst (z := 0) B d_Mod_part2_281 rfl ?_
                                refine mv_istore (lv' := [(8, .int (iI (0))), (7, .int (iI ((level + ((n : Nat) : Int)) + ((cnB rc n : Nat) : Int)))), (6, .int (iI (((b + p : Nat) : Int)))), (0, .ref r), (1, .int (iI ((g : Nat)))), (2, .int (iI (level))), (3, .int (iI ((d : Nat)))), (4, .int (iI ((np : Nat)))), (5, .int (iI ((n : Nat))))]) B d_Mod_part2_282 (by decide) rfl ?_
                                have L284 : ∀ (fu : Nat) (m2 : Nat) (My1 : mv_M) (Ay1 : Nat → Nat) (Fy1 : Nat → Nat → Int), (m2 ≤ n) → (WR F Fy1 c (Yl262 ++ mdL (level) m2)) → (Fy1 12 = lvB L8 rc yf np level n n) → (RefC V My1 r Ay1 (rN (capL cap c (Yl262 ++ mdL (level) m2).length) (lqB Q8 rc yf np n n)) Fy1 ((c + (Yl262 ++ mdL (level) m2).length : Nat) : Int) tn gn) → (n - m2) < fu → mv_G X Q (kk V) 10 284 [(8, .int (iI ((m2 : Nat)))), (7, .int (iI ((level + ((n : Nat) : Int)) + ((cnB rc n : Nat) : Int)))), (6, .int (iI (((b + p : Nat) : Int)))), (0, .ref r), (1, .int (iI ((g : Nat)))), (2, .int (iI (level))), (3, .int (iI ((d : Nat)))), (4, .int (iI ((np : Nat)))), (5, .int (iI ((n : Nat))))] [] My1 (pC (capL cap c (Yl262 ++ mdL (level) m2).length) (lqB Q8 rc yf np n n) - pC cap lq) (pS (capL cap c (Yl262 ++ mdL (level) m2).length) (lqB Q8 rc yf np n n) - pS cap lq) := by
                                  intro fu
                                  induction fu with
                                  | zero => intro m2 My1 Ay1 Fy1 hi hWl hLl hCl hm; exact absurd hm (Nat.not_lt_zero _)
                                  | succ fu ih284 =>
                                    intro m2 My1 Ay1 Fy1 hi hWl hLl hCl hm
                                    obtain ⟨Yl284, hYl284⟩ : ∃ Y : List Nd, Y = (Yl262 ++ mdL (level) m2) := ⟨_, rfl⟩
                                    rw [← hYl284] at hWl hCl
                                    rw [← hYl284]
                                    have lYl284 : Yl284.length = Yl262.length + (mdL (level) m2).length := by rw [hYl284, List.length_append]
                                    have lz284 : (mdL (level) m2).length = m2 := mdL_len _ _
                                    have hbL284 : Yl284.length ≤ N9 := by omega
                                    have ckL284 : CK cap c Yl284.length := CK_of hcc hcap0 hcap (by omega)
                                    have hqL284 : lq ≤ lqB Q8 rc yf np n n ∧ lqB Q8 rc yf np n n ≤ Q9 := by omega
                                    have plL284 : PL cap lq (capL cap c Yl284.length) (lqB Q8 rc yf np n n) := PL_le (capL_ge cap c Yl284.length) hqL284.1
                                    have k33_7 : My1 (Ay1 7) = some (iA V (100) (Fy1 7)) := hCl.2.1 7 (by decide)
                                    have k33_8 : My1 (Ay1 8) = some (iA V (100) (Fy1 8)) := hCl.2.1 8 (by decide)
                                    have k33_9 : My1 (Ay1 9) = some (iA V (100) (Fy1 9)) := hCl.2.1 9 (by decide)
                                    have k33_10 : My1 (Ay1 10) = some (iA V (100) (Fy1 10)) := hCl.2.1 10 (by decide)
                                    refine mv_iload B d_Mod_part2_284 0 rfl ?_
                                    refine mv_iload B d_Mod_part2_286 8 rfl ?_
                                    refine mv_icmp_ge (tgt := 305) B d_Mod_part2_288 (by decide) (by first | omega | (split <;> omega)) (by first | omega | (split <;> omega)) (fun c34 => ?_) (fun c34 => ?_)
                                    · have em2 : n = m2 := by omega
                                      subst em2
                                      clear ih284 hm
                                      subst hQ8
                                      subst hL8
                                      have eZ : Yl284 = paR xs (F 12) rc yf xf np ni level n i0 x0 ((g : Nat) : Int) := by rw [hYl284, hYl262, w27h, w25h, hYl207, w19h, w17h, hYl105, hYl64, hYl40, hY0]; unfold paR paL; simp only [List.append_nil, List.nil_append, List.append_assoc]
                                      rw [hQ]
                                      exact mv_vret B ⟨rfl, Ay1, Fy1, by rw [← eZ]; exact hWl, hLl, by rw [← eZ]; exact hCl⟩ (by rw [eZ]; exact Nat.le_refl _) (by rw [eZ]; exact Nat.le_refl _) d_Mod_part2_305
                                    · refine mv_aloadR_n B d_Mod_part2_291 rfl 3 rfl ?_
                                      refine mv_iload_n B d_Mod_part2_292 rfl 5 rfl ?_
                                      refine mv_iload B d_Mod_part2_293 0 rfl ?_
                                      refine mv_iadd B d_Mod_part2_295 ?_
                                      have w35z : ([((0 : Int), 1000000 + (level + (m2 : Nat)), (0 : Int))] : List Nd).length = 1 := rfl
                                      have w35q : lqB Q8 rc yf np n n ≤ lqB Q8 rc yf np n n ∧ lqB Q8 rc yf np n n ≤ Q9 := ⟨Nat.le_refl _, hqL284.2⟩
                                      have w35n : Yl284.length + (([((0 : Int), 1000000 + (level + (m2 : Nat)), (0 : Int))] : List Nd)).length ≤ N9 := by omega
                                      have w35e : capL (capL cap c Yl284.length) (c + Yl284.length) (([((0 : Int), 1000000 + (level + (m2 : Nat)), (0 : Int))] : List Nd)).length = capL cap c (Yl284.length + (([((0 : Int), 1000000 + (level + (m2 : Nat)), (0 : Int))] : List Nd)).length) := (capL_add cap c Yl284.length (([((0 : Int), 1000000 + (level + (m2 : Nat)), (0 : Int))] : List Nd)).length).symm
                                      have w35m : PL (capL cap c Yl284.length) (lqB Q8 rc yf np n n) (capL cap c (Yl284.length + (([((0 : Int), 1000000 + (level + (m2 : Nat)), (0 : Int))] : List Nd)).length)) (lqB Q8 rc yf np n n) := PL_le (capL_mono cap c (Nat.le_add_right _ _)) w35q.1
                                      have w35t : PL (capL cap c (Yl284.length + (([((0 : Int), 1000000 + (level + (m2 : Nat)), (0 : Int))] : List Nd)).length)) (lqB Q8 rc yf np n n) (capL cap c (paR xs (F 12) rc yf xf np ni level n i0 x0 ((g : Nat) : Int)).length) (paQ lq rc yf np n) := PL_le (capL_mono cap c (hN9 ▸ w35n)) (hQ9 ▸ w35q.2)
                                      refine ca_Mod_126 (mc := pC (capL (capL cap c Yl284.length) (c + Yl284.length) (([((0 : Int), 1000000 + (level + (m2 : Nat)), (0 : Int))] : List Nd)).length) (lqB Q8 rc yf np n n) - pC (capL cap c Yl284.length) (lqB Q8 rc yf np n n)) (ms := pS (capL (capL cap c Yl284.length) (c + Yl284.length) (([((0 : Int), 1000000 + (level + (m2 : Nat)), (0 : Int))] : List Nd)).length) (lqB Q8 rc yf np n n) - pS (capL cap c Yl284.length) (lqB Q8 rc yf np n n)) (rm' := rM 3 (pC (capL (capL cap c Yl284.length) (c + Yl284.length) (([((0 : Int), 1000000 + (level + (m2 : Nat)), (0 : Int))] : List Nd)).length) (lqB Q8 rc yf np n n) - pC (capL cap c Yl284.length) (lqB Q8 rc yf np n n)) (pS (capL (capL cap c Yl284.length) (c + Yl284.length) (([((0 : Int), 1000000 + (level + (m2 : Nat)), (0 : Int))] : List Nd)).length) (lqB Q8 rc yf np n n) - pS (capL cap c Yl284.length) (lqB Q8 rc yf np n n)) 100) (As := [.int (iI (level + (m2 : Nat)))]) (rest := []) B (mW_made hCl ckL284.1 ckL284.2.1 ckL284.2.2 (v := level + (m2 : Nat)) (by omega) hLl) rfl rfl ⟨Nat.le_of_ble_eq_true rfl, Nat.le_of_ble_eq_true rfl⟩ hCl.1 rfl rfl (Nat.le_of_ble_eq_true rfl) d_Mod_part2_296 ⟨by rw [w35e]; exact PL_c plL284 w35m w35t, by rw [w35e]; exact PL_s plL284 w35m w35t⟩ (fun v1 w35M ep => ?_)
                                      obtain ⟨e1, w35U⟩ := ep
                                      subst e1
                                      have w35U := wrP_app (lq := lq) hWl w35U
                                      obtain ⟨w35Y, w35h⟩ : ∃ Y : List Nd, Y = Yl284 ++ (([((0 : Int), 1000000 + (level + (m2 : Nat)), (0 : Int))] : List Nd)) := ⟨_, rfl⟩
                                      rw [← w35h] at w35U
                                      have w35l : w35Y.length = Yl284.length + (([((0 : Int), 1000000 + (level + (m2 : Nat)), (0 : Int))] : List Nd)).length := by rw [w35h, List.length_append]
                                      obtain ⟨w35A, w35F, w35W, w35L, w35C⟩ := w35U
                                      rw [← w35l] at w35e w35m w35t
                                      have w35b : CK cap c w35Y.length := CK_of hcc hcap0 hcap (by omega)
                                      have w35p := plL284.tr w35m
                                      refine mv_widen (c2 := pC (capL cap c w35Y.length) (lqB Q8 rc yf np n n) - pC cap lq) (s2 := pS (capL cap c w35Y.length) (lqB Q8 rc yf np n n) - pS cap lq) (by rw [w35e]; exact PL_c2 plL284 w35m) (by rw [w35e]; exact PL_s2 plL284 w35m) ?_
                                      clear w35e w35m w35t w35n
                                      show mv_G X Q (kk V) 10 299 [(8, .int (iI ((m2 : Nat)))), (7, .int (iI ((level + ((n : Nat) : Int)) + ((cnB rc n : Nat) : Int)))), (6, .int (iI (((b + p : Nat) : Int)))), (0, .ref r), (1, .int (iI ((g : Nat)))), (2, .int (iI (level))), (3, .int (iI ((d : Nat)))), (4, .int (iI ((np : Nat)))), (5, .int (iI ((n : Nat))))] [] w35M (pC (capL cap c w35Y.length) (lqB Q8 rc yf np n n) - pC cap lq) (pS (capL cap c w35Y.length) (lqB Q8 rc yf np n n) - pS cap lq)
                                      have k36_7 : w35M (w35A 7) = some (iA V (100) (w35F 7)) := w35C.2.1 7 (by decide)
                                      have k36_8 : w35M (w35A 8) = some (iA V (100) (w35F 8)) := w35C.2.1 8 (by decide)
                                      have k36_9 : w35M (w35A 9) = some (iA V (100) (w35F 9)) := w35C.2.1 9 (by decide)
                                      have k36_10 : w35M (w35A 10) = some (iA V (100) (w35F 10)) := w35C.2.1 10 (by decide)
                                      refine mv_iinc (lv' := [(8, .int (iI ((m2 : Nat) + 1))), (7, .int (iI ((level + ((n : Nat) : Int)) + ((cnB rc n : Nat) : Int)))), (6, .int (iI (((b + p : Nat) : Int)))), (0, .ref r), (1, .int (iI ((g : Nat)))), (2, .int (iI (level))), (3, .int (iI ((d : Nat)))), (4, .int (iI ((np : Nat)))), (5, .int (iI ((n : Nat))))]) B d_Mod_part2_299 0 rfl (by decide) rfl ?_
                                      refine mv_goto (tgt := 284) B d_Mod_part2_302 (by decide) ?_
                                      have y37 : w35Y = (Yl262 ++ mdL (level) (m2 + 1)) := by rw [w35h, hYl284]; simp only [mdL, Int.zero_add, List.append_assoc]
                                      rw [y37]
                                      refine mv_lv (lv' := [(8, .int (iI (((m2 + 1) : Nat)))), (7, .int (iI ((level + ((n : Nat) : Int)) + ((cnB rc n : Nat) : Int)))), (6, .int (iI (((b + p : Nat) : Int)))), (0, .ref r), (1, .int (iI ((g : Nat)))), (2, .int (iI (level))), (3, .int (iI ((d : Nat)))), (4, .int (iI ((np : Nat)))), (5, .int (iI ((n : Nat))))]) [0, 1, 2, 3, 4, 5, 6, 7, 8] (lc (lI (by first | rfl | omega)) (lc rfl (lc rfl (lc rfl (lc rfl (lc rfl (lc rfl (lc rfl (lc rfl rfl))))))))) ?_
                                      exact ih284 (m2 + 1) w35M w35A w35F (by omega) (by rw [← y37]; exact w35W) (w35L) (by rw [← y37]; exact w35C) (by omega)
                                refine mv_lv (lv' := [(8, .int (iI ((0 : Nat)))), (7, .int (iI ((level + ((n : Nat) : Int)) + ((cnB rc n : Nat) : Int)))), (6, .int (iI (((b + p : Nat) : Int)))), (0, .ref r), (1, .int (iI ((g : Nat)))), (2, .int (iI (level))), (3, .int (iI ((d : Nat)))), (4, .int (iI ((np : Nat)))), (5, .int (iI ((n : Nat))))]) [0, 1, 2, 3, 4, 5, 6, 7, 8] (lc (lI (by first | rfl | omega)) (lc rfl (lc rfl (lc rfl (lc rfl (lc rfl (lc rfl (lc rfl (lc rfl rfl))))))))) ?_
                                have y32 : Yl262 = (Yl262 ++ mdL (level) 0) := (List.append_nil _).symm
                                rw [y32]
                                exact L284 _ 0 My1 Ay1 Fy1 (by omega) (by rw [← y32]; exact hWl) (hLl) (by rw [← y32]; exact hCl) (Nat.lt_succ_self _)
                              · refine mv_aloadR_n B d_Mod_part2_269 rfl 3 rfl ?_
                                refine mv_iload B d_Mod_part2_270 0 rfl ?_
                                have w38z : ([((0 : Int), 1000000 + ((m1 : Nat)), (0 : Int))] : List Nd).length = 1 := rfl
                                have w38q : lqB Q8 rc yf np n n ≤ lqB Q8 rc yf np n n ∧ lqB Q8 rc yf np n n ≤ Q9 := ⟨Nat.le_refl _, hqL262.2⟩
                                have w38n : Yl262.length + (([((0 : Int), 1000000 + ((m1 : Nat)), (0 : Int))] : List Nd)).length ≤ N9 := by omega
                                have w38e : capL (capL cap c Yl262.length) (c + Yl262.length) (([((0 : Int), 1000000 + ((m1 : Nat)), (0 : Int))] : List Nd)).length = capL cap c (Yl262.length + (([((0 : Int), 1000000 + ((m1 : Nat)), (0 : Int))] : List Nd)).length) := (capL_add cap c Yl262.length (([((0 : Int), 1000000 + ((m1 : Nat)), (0 : Int))] : List Nd)).length).symm
                                have w38m : PL (capL cap c Yl262.length) (lqB Q8 rc yf np n n) (capL cap c (Yl262.length + (([((0 : Int), 1000000 + ((m1 : Nat)), (0 : Int))] : List Nd)).length)) (lqB Q8 rc yf np n n) := PL_le (capL_mono cap c (Nat.le_add_right _ _)) w38q.1
                                have w38t : PL (capL cap c (Yl262.length + (([((0 : Int), 1000000 + ((m1 : Nat)), (0 : Int))] : List Nd)).length)) (lqB Q8 rc yf np n n) (capL cap c (paR xs (F 12) rc yf xf np ni level n i0 x0 ((g : Nat) : Int)).length) (paQ lq rc yf np n) := PL_le (capL_mono cap c (hN9 ▸ w38n)) (hQ9 ▸ w38q.2)
                                refine ca_Mod_126 (mc := pC (capL (capL cap c Yl262.length) (c + Yl262.length) (([((0 : Int), 1000000 + ((m1 : Nat)), (0 : Int))] : List Nd)).length) (lqB Q8 rc yf np n n) - pC (capL cap c Yl262.length) (lqB Q8 rc yf np n n)) (ms := pS (capL (capL cap c Yl262.length) (c + Yl262.length) (([((0 : Int), 1000000 + ((m1 : Nat)), (0 : Int))] : List Nd)).length) (lqB Q8 rc yf np n n) - pS (capL cap c Yl262.length) (lqB Q8 rc yf np n n)) (rm' := rM 3 (pC (capL (capL cap c Yl262.length) (c + Yl262.length) (([((0 : Int), 1000000 + ((m1 : Nat)), (0 : Int))] : List Nd)).length) (lqB Q8 rc yf np n n) - pC (capL cap c Yl262.length) (lqB Q8 rc yf np n n)) (pS (capL (capL cap c Yl262.length) (c + Yl262.length) (([((0 : Int), 1000000 + ((m1 : Nat)), (0 : Int))] : List Nd)).length) (lqB Q8 rc yf np n n) - pS (capL cap c Yl262.length) (lqB Q8 rc yf np n n)) 100) (As := [.int (iI ((m1 : Nat)))]) (rest := []) B (mW_made hCl ckL262.1 ckL262.2.1 ckL262.2.2 (v := (m1 : Nat)) (by omega) hLl) rfl rfl ⟨Nat.le_of_ble_eq_true rfl, Nat.le_of_ble_eq_true rfl⟩ hCl.1 rfl rfl (Nat.le_of_ble_eq_true rfl) d_Mod_part2_272 ⟨by rw [w38e]; exact PL_c plL262 w38m w38t, by rw [w38e]; exact PL_s plL262 w38m w38t⟩ (fun v1 w38M ep => ?_)
                                obtain ⟨e1, w38U⟩ := ep
                                subst e1
                                have w38U := wrP_app (lq := lq) hWl w38U
                                obtain ⟨w38Y, w38h⟩ : ∃ Y : List Nd, Y = Yl262 ++ (([((0 : Int), 1000000 + ((m1 : Nat)), (0 : Int))] : List Nd)) := ⟨_, rfl⟩
                                rw [← w38h] at w38U
                                have w38l : w38Y.length = Yl262.length + (([((0 : Int), 1000000 + ((m1 : Nat)), (0 : Int))] : List Nd)).length := by rw [w38h, List.length_append]
                                obtain ⟨w38A, w38F, w38W, w38L, w38C⟩ := w38U
                                rw [← w38l] at w38e w38m w38t
                                have w38b : CK cap c w38Y.length := CK_of hcc hcap0 hcap (by omega)
                                have w38p := plL262.tr w38m
                                refine mv_widen (c2 := pC (capL cap c w38Y.length) (lqB Q8 rc yf np n n) - pC cap lq) (s2 := pS (capL cap c w38Y.length) (lqB Q8 rc yf np n n) - pS cap lq) (by rw [w38e]; exact PL_c2 plL262 w38m) (by rw [w38e]; exact PL_s2 plL262 w38m) ?_
                                clear w38e w38m w38t w38n
                                show mv_G X Q (kk V) 10 275 [(8, .int (iI ((m1 : Nat)))), (7, .int (iI ((level + ((n : Nat) : Int)) + ((cnB rc n : Nat) : Int)))), (6, .int (iI (((b + p : Nat) : Int)))), (0, .ref r), (1, .int (iI ((g : Nat)))), (2, .int (iI (level))), (3, .int (iI ((d : Nat)))), (4, .int (iI ((np : Nat)))), (5, .int (iI ((n : Nat))))] [] w38M (pC (capL cap c w38Y.length) (lqB Q8 rc yf np n n) - pC cap lq) (pS (capL cap c w38Y.length) (lqB Q8 rc yf np n n) - pS cap lq)
                                have k39_7 : w38M (w38A 7) = some (iA V (100) (w38F 7)) := w38C.2.1 7 (by decide)
                                have k39_8 : w38M (w38A 8) = some (iA V (100) (w38F 8)) := w38C.2.1 8 (by decide)
                                have k39_9 : w38M (w38A 9) = some (iA V (100) (w38F 9)) := w38C.2.1 9 (by decide)
                                have k39_10 : w38M (w38A 10) = some (iA V (100) (w38F 10)) := w38C.2.1 10 (by decide)
                                refine mv_iinc (lv' := [(8, .int (iI ((m1 : Nat) + 1))), (7, .int (iI ((level + ((n : Nat) : Int)) + ((cnB rc n : Nat) : Int)))), (6, .int (iI (((b + p : Nat) : Int)))), (0, .ref r), (1, .int (iI ((g : Nat)))), (2, .int (iI (level))), (3, .int (iI ((d : Nat)))), (4, .int (iI ((np : Nat)))), (5, .int (iI ((n : Nat))))]) B d_Mod_part2_275 0 rfl (by decide) rfl ?_
                                refine mv_goto (tgt := 262) B d_Mod_part2_278 (by decide) ?_
                                have y40 : w38Y = (w27Y ++ mdL (0) (m1 + 1)) := by rw [w38h, hYl262]; simp only [mdL, Int.zero_add, List.append_assoc]
                                rw [y40]
                                refine mv_lv (lv' := [(8, .int (iI (((m1 + 1) : Nat)))), (7, .int (iI ((level + ((n : Nat) : Int)) + ((cnB rc n : Nat) : Int)))), (6, .int (iI (((b + p : Nat) : Int)))), (0, .ref r), (1, .int (iI ((g : Nat)))), (2, .int (iI (level))), (3, .int (iI ((d : Nat)))), (4, .int (iI ((np : Nat)))), (5, .int (iI ((n : Nat))))]) [0, 1, 2, 3, 4, 5, 6, 7, 8] (lc (lI (by first | rfl | omega)) (lc rfl (lc rfl (lc rfl (lc rfl (lc rfl (lc rfl (lc rfl (lc rfl rfl))))))))) ?_
                                exact ih262 (m1 + 1) w38M w38A w38F (by omega) (by rw [← y40]; exact w38W) (w38L) (by rw [← y40]; exact w38C) (by omega)
                          refine mv_lv (lv' := [(8, .int (iI ((0 : Nat)))), (7, .int (iI ((level + ((n : Nat) : Int)) + ((cnB rc n : Nat) : Int)))), (6, .int (iI (((b + p : Nat) : Int)))), (0, .ref r), (1, .int (iI ((g : Nat)))), (2, .int (iI (level))), (3, .int (iI ((d : Nat)))), (4, .int (iI ((np : Nat)))), (5, .int (iI ((n : Nat))))]) [0, 1, 2, 3, 4, 5, 6, 7, 8] (lc (lI (by first | rfl | omega)) (lc rfl (lc rfl (lc rfl (lc rfl (lc rfl (lc rfl (lc rfl (lc rfl rfl))))))))) ?_
                          have y29 : w27Y = (w27Y ++ mdL (0) 0) := (List.append_nil _).symm
                          rw [y29]
                          exact L262 _ 0 w27M w27A w27F (by omega) (by rw [← y29]; exact w27W) (w27L) (by rw [← y29]; exact w27C) (Nat.lt_succ_self _)
                        · have hF9 : Fy1 9 d = (np : Nat) := (congrFun (hWl.2.1 9 (by omega) (by omega)) d).trans h9
                          have hF10 : Fy1 10 d = (ni : Nat) := (congrFun (hWl.2.1 10 (by omega) (by omega)) d).trans h10
                          obtain ⟨i1, i2, i3, -⟩ := ijB_S (seF_ag hWl.1 hl hs) hcp hF9 hF10 hPa hPt
                          have hFi : ∀ z : Nat, (z : Int) < Fy1 9 d + ((j2 : Nat) : Int) → 0 ≤ ixR Fy1 (((b + p : Nat) : Int) + Fy1 9 d + Fy1 10 d + 1) z ∧ ixR Fy1 (((b + p : Nat) : Int) + Fy1 9 d + Fy1 10 d + 1) z < capL cap c Yl207.length := fun z hz => by rw [hF9] at hz; rw [i1 z (by omega)]; have := i2 z (by omega); have := ckL207.1; omega
                          have hSj := hSp.2.1 j2 (by omega)
                          have hmj := ixS_mono xs x0 (show j2 + 1 ≤ ni by omega)
                          have hju : ixS xs x0 (j2 + 1) = ixS xs x0 j2 + lnS xs (ixS xs x0 j2) := rfl
                          refine mv_aloadR_n B d_Mod_part2_218 rfl 3 rfl ?_
                          refine mv_aloadR_n B d_Mod_part2_219 rfl 3 rfl ?_
                          refine mv_iload B d_Mod_part2_220 2 rfl ?_
                          refine mv_iload_n B d_Mod_part2_222 rfl 6 rfl ?_
                          refine mv_iload B d_Mod_part2_223 0 rfl ?_
                          refine ca_Mod_119 (mc := 0) (ms := 0) (As := [.int (iI (((b + p : Nat) : Int))), .int (iI ((d : Nat))), .int (iI ((j2 : Nat)))]) (rest := [.ref r]) B (m_Mod_index hCl ckL207.2.2 (b := ((b + p : Nat) : Int)) (k := ((j2 : Nat) : Int)) (d := d) (by omega) hd (by rw [hF9, hF10]; omega) (by omega) hFi) rfl rfl ⟨Nat.le_of_ble_eq_true rfl, Nat.le_of_ble_eq_true rfl⟩ hCl.1 rfl rfl (Nat.le_of_ble_eq_true rfl) d_Mod_part2_225 ⟨PL_0c (PL_le (capL_mono cap c (hN9 ▸ (show Yl207.length ≤ N9 by omega))) (hQ9 ▸ hqL207.2)), PL_0s (PL_le (capL_mono cap c (hN9 ▸ (show Yl207.length ≤ N9 by omega))) (hQ9 ▸ hqL207.2))⟩ (mv_x ?_)
                          show mv_G X Q (kk V) 10 228 [(8, .int (iI ((j2 : Nat)))), (7, .int (iI ((level + ((n : Nat) : Int)) + ((cnB rc n : Nat) : Int)))), (6, .int (iI (((b + p : Nat) : Int)))), (0, .ref r), (1, .int (iI ((g : Nat)))), (2, .int (iI (level))), (3, .int (iI ((d : Nat)))), (4, .int (iI ((np : Nat)))), (5, .int (iI ((n : Nat))))] [.int (iI (ixR Fy1 (((b + p : Nat) : Int) + Fy1 9 d + Fy1 10 d + 1) (Fy1 9 d + ((j2 : Nat) : Int)).toNat)), .ref r] My1 (pC (capL cap c Yl207.length) (lqB Q8 rc yf np n n) - pC cap lq) (pS (capL cap c Yl207.length) (lqB Q8 rc yf np n n) - pS cap lq)
                          rw [show ixR Fy1 (((b + p : Nat) : Int) + Fy1 9 d + Fy1 10 d + 1) (Fy1 9 d + ((j2 : Nat) : Int)).toNat = ((b + ixS xs x0 j2 : Nat) : Int) from by rw [show (Fy1 9 d + ((j2 : Nat) : Int)).toNat = np + j2 by rw [hF9]; omega, i1 _ (by omega), i3 j2 (by omega), ← hSp.1]]
                          refine mv_iload B d_Mod_part2_228 7 rfl ?_
                          refine mv_iload B d_Mod_part2_230 8 rfl ?_
                          refine mv_iadd B d_Mod_part2_232 ?_
                          rw [show ((np : Nat) : Int) + ((n : Nat) : Int) = ((np + n : Nat) : Int) by omega]
                          have w41z : (pqS xs (lvB L8 rc yf np level n n) ((np + n : Nat) : Int) (ixS xs x0 j2) (lnS xs (ixS xs x0 j2))).length = lnS xs (ixS xs x0 j2) := pqS_len _ _ _ _ _
                          have w41q : lqB Q8 rc yf np n n ≤ lqB Q8 rc yf np n n ∧ lqB Q8 rc yf np n n ≤ Q9 := ⟨Nat.le_refl _, hqL207.2⟩
                          have w41n : Yl207.length + (pqS xs (lvB L8 rc yf np level n n) ((np + n : Nat) : Int) (ixS xs x0 j2) (lnS xs (ixS xs x0 j2))).length ≤ N9 := by omega
                          have w41e : capL (capL cap c Yl207.length) (c + Yl207.length) (pqS xs (lvB L8 rc yf np level n n) ((np + n : Nat) : Int) (ixS xs x0 j2) (lnS xs (ixS xs x0 j2))).length = capL cap c (Yl207.length + (pqS xs (lvB L8 rc yf np level n n) ((np + n : Nat) : Int) (ixS xs x0 j2) (lnS xs (ixS xs x0 j2))).length) := (capL_add cap c Yl207.length (pqS xs (lvB L8 rc yf np level n n) ((np + n : Nat) : Int) (ixS xs x0 j2) (lnS xs (ixS xs x0 j2))).length).symm
                          have w41m : PL (capL cap c Yl207.length) (lqB Q8 rc yf np n n) (capL cap c (Yl207.length + (pqS xs (lvB L8 rc yf np level n n) ((np + n : Nat) : Int) (ixS xs x0 j2) (lnS xs (ixS xs x0 j2))).length)) (lqB Q8 rc yf np n n) := PL_le (capL_mono cap c (Nat.le_add_right _ _)) w41q.1
                          have w41t : PL (capL cap c (Yl207.length + (pqS xs (lvB L8 rc yf np level n n) ((np + n : Nat) : Int) (ixS xs x0 j2) (lnS xs (ixS xs x0 j2))).length)) (lqB Q8 rc yf np n n) (capL cap c (paR xs (F 12) rc yf xf np ni level n i0 x0 ((g : Nat) : Int)).length) (paQ lq rc yf np n) := PL_le (capL_mono cap c (hN9 ▸ w41n)) (hQ9 ▸ w41q.2)
                          refine ca_Mod_129 (mc := pC (capL (capL cap c Yl207.length) (c + Yl207.length) (pqS xs (lvB L8 rc yf np level n n) ((np + n : Nat) : Int) (ixS xs x0 j2) (lnS xs (ixS xs x0 j2))).length) (lqB Q8 rc yf np n n) - pC (capL cap c Yl207.length) (lqB Q8 rc yf np n n)) (ms := pS (capL (capL cap c Yl207.length) (c + Yl207.length) (pqS xs (lvB L8 rc yf np level n n) ((np + n : Nat) : Int) (ixS xs x0 j2) (lnS xs (ixS xs x0 j2))).length) (lqB Q8 rc yf np n n) - pS (capL cap c Yl207.length) (lqB Q8 rc yf np n n)) (rm' := rM 4 (pC (capL (capL cap c Yl207.length) (c + Yl207.length) (pqS xs (lvB L8 rc yf np level n n) ((np + n : Nat) : Int) (ixS xs x0 j2) (lnS xs (ixS xs x0 j2))).length) (lqB Q8 rc yf np n n) - pC (capL cap c Yl207.length) (lqB Q8 rc yf np n n)) (pS (capL (capL cap c Yl207.length) (c + Yl207.length) (pqS xs (lvB L8 rc yf np level n n) ((np + n : Nat) : Int) (ixS xs x0 j2) (lnS xs (ixS xs x0 j2))).length) (lqB Q8 rc yf np n n) - pS (capL cap c Yl207.length) (lqB Q8 rc yf np n n)) 130) (As := [.int (iI (((b + ixS xs x0 j2 : Nat) : Int))), .int (iI (((np + n : Nat) : Int)))]) (rest := []) B (mW_piece hCl ckL207.1 ckL207.2.1 ckL207.2.2 (xs := xs) (b := b) (i := ixS xs x0 j2) (ar := np + n) hLl (seF_ag hWl.1 hl hs) hcp hn1 (by omega) hSj.1 (by rw [hSj.2, hPd]) hcl (hT5 n (Nat.le_refl _)) (by omega) (by rw [pqS_len] at w41n; omega)) rfl rfl ⟨Nat.le_of_ble_eq_true rfl, Nat.le_of_ble_eq_true rfl⟩ hCl.1 rfl rfl (Nat.le_of_ble_eq_true rfl) d_Mod_part2_233 ⟨by rw [w41e]; exact PL_c plL207 w41m w41t, by rw [w41e]; exact PL_s plL207 w41m w41t⟩ (fun v1 w41M ep => ?_)
                          obtain ⟨e1, w41U⟩ := ep
                          subst e1
                          have w41U := wrP_app (lq := lq) hWl w41U
                          obtain ⟨w41Y, w41h⟩ : ∃ Y : List Nd, Y = Yl207 ++ (pqS xs (lvB L8 rc yf np level n n) ((np + n : Nat) : Int) (ixS xs x0 j2) (lnS xs (ixS xs x0 j2))) := ⟨_, rfl⟩
                          rw [← w41h] at w41U
                          have w41l : w41Y.length = Yl207.length + (pqS xs (lvB L8 rc yf np level n n) ((np + n : Nat) : Int) (ixS xs x0 j2) (lnS xs (ixS xs x0 j2))).length := by rw [w41h, List.length_append]
                          obtain ⟨w41A, w41F, w41W, w41L, w41C⟩ := w41U
                          rw [← w41l] at w41e w41m w41t
                          have w41b : CK cap c w41Y.length := CK_of hcc hcap0 hcap (by omega)
                          have w41p := plL207.tr w41m
                          refine mv_widen (c2 := pC (capL cap c w41Y.length) (lqB Q8 rc yf np n n) - pC cap lq) (s2 := pS (capL cap c w41Y.length) (lqB Q8 rc yf np n n) - pS cap lq) (by rw [w41e]; exact PL_c2 plL207 w41m) (by rw [w41e]; exact PL_s2 plL207 w41m) ?_
                          clear w41e w41m w41t w41n
                          show mv_G X Q (kk V) 10 236 [(8, .int (iI ((j2 : Nat)))), (7, .int (iI ((level + ((n : Nat) : Int)) + ((cnB rc n : Nat) : Int)))), (6, .int (iI (((b + p : Nat) : Int)))), (0, .ref r), (1, .int (iI ((g : Nat)))), (2, .int (iI (level))), (3, .int (iI ((d : Nat)))), (4, .int (iI ((np : Nat)))), (5, .int (iI ((n : Nat))))] [] w41M (pC (capL cap c w41Y.length) (lqB Q8 rc yf np n n) - pC cap lq) (pS (capL cap c w41Y.length) (lqB Q8 rc yf np n n) - pS cap lq)
                          have k42_7 : w41M (w41A 7) = some (iA V (100) (w41F 7)) := w41C.2.1 7 (by decide)
                          have k42_8 : w41M (w41A 8) = some (iA V (100) (w41F 8)) := w41C.2.1 8 (by decide)
                          have k42_9 : w41M (w41A 9) = some (iA V (100) (w41F 9)) := w41C.2.1 9 (by decide)
                          have k42_10 : w41M (w41A 10) = some (iA V (100) (w41F 10)) := w41C.2.1 10 (by decide)
                          refine mv_iinc (lv' := [(8, .int (iI ((j2 : Nat) + 1))), (7, .int (iI ((level + ((n : Nat) : Int)) + ((cnB rc n : Nat) : Int)))), (6, .int (iI (((b + p : Nat) : Int)))), (0, .ref r), (1, .int (iI ((g : Nat)))), (2, .int (iI (level))), (3, .int (iI ((d : Nat)))), (4, .int (iI ((np : Nat)))), (5, .int (iI ((n : Nat))))]) B d_Mod_part2_236 0 rfl (by decide) rfl ?_
                          refine mv_goto (tgt := 207) B d_Mod_part2_239 (by decide) ?_
                          have y43 : w41Y = (w19Y ++ idR xs (lvB L8 rc yf np level n n) ((np + n : Nat) : Int) x0 (j2 + 1)) := by rw [w41h, hYl207]; simp only [idR, List.append_assoc]
                          rw [y43]
                          refine mv_lv (lv' := [(8, .int (iI (((j2 + 1) : Nat)))), (7, .int (iI ((level + ((n : Nat) : Int)) + ((cnB rc n : Nat) : Int)))), (6, .int (iI (((b + p : Nat) : Int)))), (0, .ref r), (1, .int (iI ((g : Nat)))), (2, .int (iI (level))), (3, .int (iI ((d : Nat)))), (4, .int (iI ((np : Nat)))), (5, .int (iI ((n : Nat))))]) [0, 1, 2, 3, 4, 5, 6, 7, 8] (lc (lI (by first | rfl | omega)) (lc rfl (lc rfl (lc rfl (lc rfl (lc rfl (lc rfl (lc rfl (lc rfl rfl))))))))) ?_
                          exact ih207 (j2 + 1) w41M w41A w41F (by omega) (by rw [← y43]; exact w41W) (w41L) (by rw [← y43]; exact w41C) (by omega)
                    refine mv_lv (lv' := [(8, .int (iI ((0 : Nat)))), (7, .int (iI ((level + ((n : Nat) : Int)) + ((cnB rc n : Nat) : Int)))), (6, .int (iI (((b + p : Nat) : Int)))), (0, .ref r), (1, .int (iI ((g : Nat)))), (2, .int (iI (level))), (3, .int (iI ((d : Nat)))), (4, .int (iI ((np : Nat)))), (5, .int (iI ((n : Nat))))]) [0, 1, 2, 3, 4, 5, 6, 7, 8] (lc (lI (by first | rfl | omega)) (lc rfl (lc rfl (lc rfl (lc rfl (lc rfl (lc rfl (lc rfl (lc rfl rfl))))))))) ?_
                    have y21 : w19Y = (w19Y ++ idR xs (lvB L8 rc yf np level n n) ((np + n : Nat) : Int) x0 0) := (List.append_nil _).symm
                    rw [y21]
                    exact L207 _ 0 w19M w19A w19F (by omega) (by rw [← y21]; exact w19W) (w19L) (by rw [← y21]; exact w19C) (Nat.lt_succ_self _)
                  · refine mv_aloadR_n B d_Mod_part2_112 rfl 3 rfl ?_
                    refine mv_iload_n B d_Mod_part2_113 rfl 4 rfl ?_
                    refine mv_iload B d_Mod_part2_114 0 rfl ?_
                    refine ca_Mod_140 (mc := 0) (ms := 0) (As := [.int (iI ((g : Nat))), .int (iI ((j : Nat)))]) (rest := []) B (mW_isRec hCl ckL105.2.2 (seF_ag hWl.1 hl hs) (by have := ckL105.1; omega) hT hnz hg hd ((congrFun (hWl.2.1 7 (by omega) (by omega)) g).trans h7) ((congrFun (hWl.2.1 8 (by omega) (by omega)) g).trans h8) ((congrFun (hWl.2.1 9 (by omega) (by omega)) g).trans h9g) ((congrFun (hWl.2.1 9 (by omega) (by omega)) d).trans h9) ((congrFun (hWl.2.1 10 (by omega) (by omega)) d).trans h10) (by omega) (jx := j) (by omega)) rfl rfl ⟨Nat.le_of_ble_eq_true rfl, Nat.le_of_ble_eq_true rfl⟩ hCl.1 rfl rfl (Nat.le_of_ble_eq_true rfl) d_Mod_part2_116 ⟨PL_0c (PL_le (capL_mono cap c (hN9 ▸ (show Yl105.length ≤ N9 by omega))) (hQ9 ▸ hqL105.2)), PL_0s (PL_le (capL_mono cap c (hN9 ▸ (show Yl105.length ≤ N9 by omega))) (hQ9 ▸ hqL105.2))⟩ (mv_x ?_)
                    show mv_G X Q (kk V) 10 119 [(8, .int (iI ((j : Nat)))), (7, .int (iI ((level + ((n : Nat) : Int)) + ((cnB rc j : Nat) : Int)))), (6, .int (iI (((b + p : Nat) : Int)))), (0, .ref r), (1, .int (iI ((g : Nat)))), (2, .int (iI (level))), (3, .int (iI ((d : Nat)))), (4, .int (iI ((np : Nat)))), (5, .int (iI ((n : Nat))))] [.int (iI (if rcS xs ((d : Nat) : Int) np ni j = true then 1 else 0))] My1 (pC (capL cap c Yl105.length) (lqB Q8 rc yf np n j) - pC cap lq) (pS (capL cap c Yl105.length) (lqB Q8 rc yf np n j) - pS cap lq)
                    rw [hrE j]
                    refine mv_if_eq (tgt := 180) B d_Mod_part2_119 (by decide) (by first | omega | (split <;> omega)) (fun c44 => ?_) (fun c44 => ?_)
                    · have hr : rc j = false := by
                        apply Bool.eq_false_iff.mpr
                        intro z
                        rw [if_pos z] at c44
                        omega
                      refine mv_iinc (lv' := [(8, .int (iI ((j : Nat) + 1))), (7, .int (iI ((level + ((n : Nat) : Int)) + ((cnB rc j : Nat) : Int)))), (6, .int (iI (((b + p : Nat) : Int)))), (0, .ref r), (1, .int (iI ((g : Nat)))), (2, .int (iI (level))), (3, .int (iI ((d : Nat)))), (4, .int (iI ((np : Nat)))), (5, .int (iI ((n : Nat))))]) B d_Mod_part2_180 0 rfl (by decide) rfl ?_
                      refine mv_goto (tgt := 105) B d_Mod_part2_183 (by decide) ?_
                      have y45 : Yl105 = (Yl64 ++ bcR xs L8 rc yf xf np ni level n i0 (j + 1)) := by rw [hYl105]; simp only [bcR]; rw [if_neg (by rw [hr]; simp)]; simp only [List.append_nil, List.nil_append, List.append_assoc]
                      rw [y45]
                      refine mv_lv (lv' := [(8, .int (iI (((j + 1) : Nat)))), (7, .int (iI ((level + ((n : Nat) : Int)) + ((cnB rc (j + 1) : Nat) : Int)))), (6, .int (iI (((b + p : Nat) : Int)))), (0, .ref r), (1, .int (iI ((g : Nat)))), (2, .int (iI (level))), (3, .int (iI ((d : Nat)))), (4, .int (iI ((np : Nat)))), (5, .int (iI ((n : Nat))))]) [0, 1, 2, 3, 4, 5, 6, 7, 8] (lc (lI (by first | rfl | omega)) (lc (lI (by simp only [cnB]; first | (rw [if_pos hr]; omega) | (rw [if_neg (by rw [hr]; simp)]; omega))) (lc rfl (lc rfl (lc rfl (lc rfl (lc rfl (lc rfl (lc rfl rfl))))))))) ?_
                      have y45Q : lqB Q8 rc yf np n (j + 1) = lqB Q8 rc yf np n j := lqB_f hr
                      rw [← y45Q]
                      exact ih105 (j + 1) My1 Ay1 Fy1 (by omega) (by rw [← y45]; exact hWl) (hLl.trans (lvB_f hr).symm) (by rw [← y45, y45Q]; exact hCl) (by omega)
                    · have hr : rc j = true := by
                        apply Classical.byContradiction
                        intro z
                        rw [if_neg z] at c44
                        omega
                      obtain ⟨hBr, hyb⟩ := hBO j (by omega) hr
                      have hbm := bcR_mono (xs := xs) (Λ := L8) (rc := rc) (yf := yf) (xf := xf) (np := np) (ni := ni) (n := n) (i0 := i0) (level := level) (show j + 1 ≤ n by omega)
                      have hbe : (bcR xs L8 rc yf xf np ni level n i0 (j + 1)).length = (bcR xs L8 rc yf xf np ni level n i0 j).length + (1 + (brR xs (lvB L8 rc yf np level n j) 6 (np + j) (level + n + cnB rc j) (level + j) np (unS xs i0 j + 1) (yf j) ni (xf j)).length) := by simp only [bcR, List.length_append]; rw [if_pos hr, List.length_append]; rfl
                      have hcn := cnB_le rc j
                      have hT4 := hT3 (j + 1) (by omega)
                      rw [lqB_t hr] at hT4
                      have hlj2 := (lvS_ok (lq := lqB Q8 rc yf np n j) (v := np + j) (by omega) (by omega) (yf j)).1
                      have hlj3 := (lvS_ok (lq := lqB Q8 rc yf np n j) (v := np + j) (by omega) (by omega) (yf j)).2.1
                      have hlj4 := (lvS_ok (lq := lqB Q8 rc yf np n j) (v := np + j) (by omega) (by omega) (yf j)).2.2 (by omega) (by omega)
                      refine mv_aloadR_n B d_Mod_part2_122 rfl 3 rfl ?_
                      refine mv_bipush (z := 6) B d_Mod_part2_123 (by decide) ?_
                      refine mv_iconst (z := -1) B d_Mod_part2_125 rfl ?_
                      refine mv_iconst (z := 0) B d_Mod_part2_126 rfl ?_
                      have w46z : ([(6, -1, 0)] : List Nd).length = 1 := rfl
                      have w46q : lqB Q8 rc yf np n j ≤ lqB Q8 rc yf np n j ∧ lqB Q8 rc yf np n j ≤ Q9 := ⟨Nat.le_refl _, hqL105.2⟩
                      have w46n : Yl105.length + (([(6, -1, 0)] : List Nd)).length ≤ N9 := by omega
                      have w46e : capL (capL cap c Yl105.length) (c + Yl105.length) (([(6, -1, 0)] : List Nd)).length = capL cap c (Yl105.length + (([(6, -1, 0)] : List Nd)).length) := (capL_add cap c Yl105.length (([(6, -1, 0)] : List Nd)).length).symm
                      have w46m : PL (capL cap c Yl105.length) (lqB Q8 rc yf np n j) (capL cap c (Yl105.length + (([(6, -1, 0)] : List Nd)).length)) (lqB Q8 rc yf np n j) := PL_le (capL_mono cap c (Nat.le_add_right _ _)) w46q.1
                      have w46t : PL (capL cap c (Yl105.length + (([(6, -1, 0)] : List Nd)).length)) (lqB Q8 rc yf np n j) (capL cap c (paR xs (F 12) rc yf xf np ni level n i0 x0 ((g : Nat) : Int)).length) (paQ lq rc yf np n) := PL_le (capL_mono cap c (hN9 ▸ w46n)) (hQ9 ▸ w46q.2)
                      refine ca_Mod_63 (mc := pC (capL (capL cap c Yl105.length) (c + Yl105.length) (([(6, -1, 0)] : List Nd)).length) (lqB Q8 rc yf np n j) - pC (capL cap c Yl105.length) (lqB Q8 rc yf np n j)) (ms := pS (capL (capL cap c Yl105.length) (c + Yl105.length) (([(6, -1, 0)] : List Nd)).length) (lqB Q8 rc yf np n j) - pS (capL cap c Yl105.length) (lqB Q8 rc yf np n j)) (rm' := rM 2 (pC (capL (capL cap c Yl105.length) (c + Yl105.length) (([(6, -1, 0)] : List Nd)).length) (lqB Q8 rc yf np n j) - pC (capL cap c Yl105.length) (lqB Q8 rc yf np n j)) (pS (capL (capL cap c Yl105.length) (c + Yl105.length) (([(6, -1, 0)] : List Nd)).length) (lqB Q8 rc yf np n j) - pS (capL cap c Yl105.length) (lqB Q8 rc yf np n j)) 70) (As := [.int (iI (6)), .int (iI (-1)), .int (iI (0))]) (rest := []) B (mW_add hCl ckL105.1 ckL105.2.1 ckL105.2.2 (k := 6) (v := -1) (s := 0) (by omega) (by omega) (by omega) hLl) rfl rfl ⟨Nat.le_of_ble_eq_true rfl, Nat.le_of_ble_eq_true rfl⟩ hCl.1 rfl rfl (Nat.le_of_ble_eq_true rfl) d_Mod_part2_127 ⟨by rw [w46e]; exact PL_c plL105 w46m w46t, by rw [w46e]; exact PL_s plL105 w46m w46t⟩ (fun v1 w46M ep => ?_)
                      obtain ⟨e1, w46U⟩ := ep
                      subst e1
                      have w46U := wrP_app (lq := lq) hWl w46U
                      obtain ⟨w46Y, w46h⟩ : ∃ Y : List Nd, Y = Yl105 ++ (([(6, -1, 0)] : List Nd)) := ⟨_, rfl⟩
                      rw [← w46h] at w46U
                      have w46l : w46Y.length = Yl105.length + (([(6, -1, 0)] : List Nd)).length := by rw [w46h, List.length_append]
                      obtain ⟨w46A, w46F, w46W, w46L, w46C⟩ := w46U
                      rw [← w46l] at w46e w46m w46t
                      have w46b : CK cap c w46Y.length := CK_of hcc hcap0 hcap (by omega)
                      have w46p := plL105.tr w46m
                      refine mv_widen (c2 := pC (capL cap c w46Y.length) (lqB Q8 rc yf np n j) - pC cap lq) (s2 := pS (capL cap c w46Y.length) (lqB Q8 rc yf np n j) - pS cap lq) (by rw [w46e]; exact PL_c2 plL105 w46m) (by rw [w46e]; exact PL_s2 plL105 w46m) ?_
                      clear w46e w46m w46t w46n
                      show mv_G X Q (kk V) 10 130 [(8, .int (iI ((j : Nat)))), (7, .int (iI ((level + ((n : Nat) : Int)) + ((cnB rc j : Nat) : Int)))), (6, .int (iI (((b + p : Nat) : Int)))), (0, .ref r), (1, .int (iI ((g : Nat)))), (2, .int (iI (level))), (3, .int (iI ((d : Nat)))), (4, .int (iI ((np : Nat)))), (5, .int (iI ((n : Nat))))] [.int (iI (((c + Yl105.length : Nat) : Int)))] w46M (pC (capL cap c w46Y.length) (lqB Q8 rc yf np n j) - pC cap lq) (pS (capL cap c w46Y.length) (lqB Q8 rc yf np n j) - pS cap lq)
                      have k47_7 : w46M (w46A 7) = some (iA V (100) (w46F 7)) := w46C.2.1 7 (by decide)
                      have k47_8 : w46M (w46A 8) = some (iA V (100) (w46F 8)) := w46C.2.1 8 (by decide)
                      have k47_9 : w46M (w46A 9) = some (iA V (100) (w46F 9)) := w46C.2.1 9 (by decide)
                      have k47_10 : w46M (w46A 10) = some (iA V (100) (w46F 10)) := w46C.2.1 10 (by decide)
                      refine mv_pop B d_Mod_part2_130 rfl ?_
                      refine mv_aloadR_n B d_Mod_part2_131 rfl 3 rfl ?_
                      refine mv_iload_n B d_Mod_part2_132 rfl 4 rfl ?_
                      refine mv_iload B d_Mod_part2_133 0 rfl ?_
                      refine mv_bipush (z := 6) B d_Mod_part2_135 (by decide) ?_
                      refine mv_iload B d_Mod_part2_137 1 rfl ?_
                      refine mv_iload_n B d_Mod_part2_139 rfl 5 rfl ?_
                      refine mv_iload B d_Mod_part2_140 0 rfl ?_
                      refine mv_iadd B d_Mod_part2_142 ?_
                      refine mv_iload B d_Mod_part2_143 7 rfl ?_
                      have w48q : lqB Q8 rc yf np n j ≤ (lvS (lqB Q8 rc yf np n j) (np + j) (yf j)) ∧ (lvS (lqB Q8 rc yf np n j) (np + j) (yf j)) ≤ Q9 := by have h2 := lvS_ge (lvS (lqB Q8 rc yf np n j) (np + j) (yf j)) np n; omega
                      have w48n : w46Y.length + (brR xs (lvB L8 rc yf np level n j) 6 (np + j) (((level + ((n : Nat) : Int)) + ((cnB rc j : Nat) : Int))) (level + ((j : Nat) : Int)) ((np : Nat) : Int) (unS xs i0 j + 1) (yf j) ni (xf j)).length ≤ N9 := by omega
                      have w48e : capL (capL cap c w46Y.length) (c + w46Y.length) (brR xs (lvB L8 rc yf np level n j) 6 (np + j) (((level + ((n : Nat) : Int)) + ((cnB rc j : Nat) : Int))) (level + ((j : Nat) : Int)) ((np : Nat) : Int) (unS xs i0 j + 1) (yf j) ni (xf j)).length = capL cap c (w46Y.length + (brR xs (lvB L8 rc yf np level n j) 6 (np + j) (((level + ((n : Nat) : Int)) + ((cnB rc j : Nat) : Int))) (level + ((j : Nat) : Int)) ((np : Nat) : Int) (unS xs i0 j + 1) (yf j) ni (xf j)).length) := (capL_add cap c w46Y.length (brR xs (lvB L8 rc yf np level n j) 6 (np + j) (((level + ((n : Nat) : Int)) + ((cnB rc j : Nat) : Int))) (level + ((j : Nat) : Int)) ((np : Nat) : Int) (unS xs i0 j + 1) (yf j) ni (xf j)).length).symm
                      have w48m : PL (capL cap c w46Y.length) (lqB Q8 rc yf np n j) (capL cap c (w46Y.length + (brR xs (lvB L8 rc yf np level n j) 6 (np + j) (((level + ((n : Nat) : Int)) + ((cnB rc j : Nat) : Int))) (level + ((j : Nat) : Int)) ((np : Nat) : Int) (unS xs i0 j + 1) (yf j) ni (xf j)).length)) ((lvS (lqB Q8 rc yf np n j) (np + j) (yf j))) := PL_le (capL_mono cap c (Nat.le_add_right _ _)) w48q.1
                      have w48t : PL (capL cap c (w46Y.length + (brR xs (lvB L8 rc yf np level n j) 6 (np + j) (((level + ((n : Nat) : Int)) + ((cnB rc j : Nat) : Int))) (level + ((j : Nat) : Int)) ((np : Nat) : Int) (unS xs i0 j + 1) (yf j) ni (xf j)).length)) ((lvS (lqB Q8 rc yf np n j) (np + j) (yf j))) (capL cap c (paR xs (F 12) rc yf xf np ni level n i0 x0 ((g : Nat) : Int)).length) (paQ lq rc yf np n) := PL_le (capL_mono cap c (hN9 ▸ w48n)) (hQ9 ▸ w48q.2)
                      refine ca_Mod_143 (mc := pC (capL (capL cap c w46Y.length) (c + w46Y.length) (brR xs (lvB L8 rc yf np level n j) 6 (np + j) (((level + ((n : Nat) : Int)) + ((cnB rc j : Nat) : Int))) (level + ((j : Nat) : Int)) ((np : Nat) : Int) (unS xs i0 j + 1) (yf j) ni (xf j)).length) ((lvS (lqB Q8 rc yf np n j) (np + j) (yf j))) - pC (capL cap c w46Y.length) (lqB Q8 rc yf np n j)) (ms := pS (capL (capL cap c w46Y.length) (c + w46Y.length) (brR xs (lvB L8 rc yf np level n j) 6 (np + j) (((level + ((n : Nat) : Int)) + ((cnB rc j : Nat) : Int))) (level + ((j : Nat) : Int)) ((np : Nat) : Int) (unS xs i0 j + 1) (yf j) ni (xf j)).length) ((lvS (lqB Q8 rc yf np n j) (np + j) (yf j))) - pS (capL cap c w46Y.length) (lqB Q8 rc yf np n j)) (rm' := rM 6 (pC (capL (capL cap c w46Y.length) (c + w46Y.length) (brR xs (lvB L8 rc yf np level n j) 6 (np + j) (((level + ((n : Nat) : Int)) + ((cnB rc j : Nat) : Int))) (level + ((j : Nat) : Int)) ((np : Nat) : Int) (unS xs i0 j + 1) (yf j) ni (xf j)).length) ((lvS (lqB Q8 rc yf np n j) (np + j) (yf j))) - pC (capL cap c w46Y.length) (lqB Q8 rc yf np n j)) (pS (capL (capL cap c w46Y.length) (c + w46Y.length) (brR xs (lvB L8 rc yf np level n j) 6 (np + j) (((level + ((n : Nat) : Int)) + ((cnB rc j : Nat) : Int))) (level + ((j : Nat) : Int)) ((np : Nat) : Int) (unS xs i0 j + 1) (yf j) ni (xf j)).length) ((lvS (lqB Q8 rc yf np n j) (np + j) (yf j))) - pS (capL cap c w46Y.length) (lqB Q8 rc yf np n j)) 200) (As := [.int (iI ((g : Nat))), .int (iI ((j : Nat))), .int (iI (6)), .int (iI ((level + ((n : Nat) : Int)) + ((cnB rc j : Nat) : Int))), .int (iI (level + (j : Nat))), .int (iI ((np : Nat)))]) (rest := []) B (mW_brought w46C w46b.1 w46b.2.1 w46b.2.2 w46L (seF_ag w46W.1 hl hs) (by omega) hBr ho hg hd ((congrFun (w46W.2.1 7 (by omega) (by omega)) g).trans h7) ((congrFun (w46W.2.1 8 (by omega) (by omega)) g).trans h8) ((congrFun (w46W.2.1 9 (by omega) (by omega)) g).trans h9g) ((congrFun (w46W.2.1 9 (by omega) (by omega)) d).trans h9) ((congrFun (w46W.2.1 10 (by omega) (by omega)) d).trans h10) (k := 6) (first := (level + ((n : Nat) : Int)) + ((cnB rc j : Nat) : Int)) (own := level + ((j : Nat) : Int)) (head := ((np : Nat) : Int)) (by omega) (by omega) (by omega) (by omega) (by omega) (hT5 j (by omega)) (by omega) (by omega)) rfl rfl ⟨Nat.le_of_ble_eq_true rfl, Nat.le_of_ble_eq_true rfl⟩ w46C.1 rfl rfl (Nat.le_of_ble_eq_true rfl) d_Mod_part2_145 ⟨by rw [w48e]; exact PL_c w46p w48m w48t, by rw [w48e]; exact PL_s w46p w48m w48t⟩ (fun v1 w48M ep => ?_)
                      obtain ⟨e1, w48U⟩ := ep
                      subst e1
                      have w48U := wrP_app (lq := lq) w46W w48U
                      obtain ⟨w48Y, w48h⟩ : ∃ Y : List Nd, Y = w46Y ++ (brR xs (lvB L8 rc yf np level n j) 6 (np + j) (((level + ((n : Nat) : Int)) + ((cnB rc j : Nat) : Int))) (level + ((j : Nat) : Int)) ((np : Nat) : Int) (unS xs i0 j + 1) (yf j) ni (xf j)) := ⟨_, rfl⟩
                      rw [← w48h] at w48U
                      have w48l : w48Y.length = w46Y.length + (brR xs (lvB L8 rc yf np level n j) 6 (np + j) (((level + ((n : Nat) : Int)) + ((cnB rc j : Nat) : Int))) (level + ((j : Nat) : Int)) ((np : Nat) : Int) (unS xs i0 j + 1) (yf j) ni (xf j)).length := by rw [w48h, List.length_append]
                      obtain ⟨w48A, w48F, w48W, w48L, w48C⟩ := w48U
                      rw [← w48l] at w48e w48m w48t
                      have w48b : CK cap c w48Y.length := CK_of hcc hcap0 hcap (by omega)
                      have w48p := w46p.tr w48m
                      refine mv_widen (c2 := pC (capL cap c w48Y.length) ((lvS (lqB Q8 rc yf np n j) (np + j) (yf j))) - pC cap lq) (s2 := pS (capL cap c w48Y.length) ((lvS (lqB Q8 rc yf np n j) (np + j) (yf j))) - pS cap lq) (by rw [w48e]; exact PL_c2 w46p w48m) (by rw [w48e]; exact PL_s2 w46p w48m) ?_
                      clear w48e w48m w48t w48n
                      show mv_G X Q (kk V) 10 148 [(8, .int (iI ((j : Nat)))), (7, .int (iI ((level + ((n : Nat) : Int)) + ((cnB rc j : Nat) : Int)))), (6, .int (iI (((b + p : Nat) : Int)))), (0, .ref r), (1, .int (iI ((g : Nat)))), (2, .int (iI (level))), (3, .int (iI ((d : Nat)))), (4, .int (iI ((np : Nat)))), (5, .int (iI ((n : Nat))))] [] w48M (pC (capL cap c w48Y.length) ((lvS (lqB Q8 rc yf np n j) (np + j) (yf j))) - pC cap lq) (pS (capL cap c w48Y.length) ((lvS (lqB Q8 rc yf np n j) (np + j) (yf j))) - pS cap lq)
                      have k49_7 : w48M (w48A 7) = some (iA V (100) (w48F 7)) := w48C.2.1 7 (by decide)
                      have k49_8 : w48M (w48A 8) = some (iA V (100) (w48F 8)) := w48C.2.1 8 (by decide)
                      have k49_9 : w48M (w48A 9) = some (iA V (100) (w48F 9)) := w48C.2.1 9 (by decide)
                      have k49_10 : w48M (w48A 10) = some (iA V (100) (w48F 10)) := w48C.2.1 10 (by decide)
                      refine mv_iinc (lv' := [(7, .int (iI (((level + ((n : Nat) : Int)) + ((cnB rc j : Nat) : Int)) + 1))), (8, .int (iI ((j : Nat)))), (6, .int (iI (((b + p : Nat) : Int)))), (0, .ref r), (1, .int (iI ((g : Nat)))), (2, .int (iI (level))), (3, .int (iI ((d : Nat)))), (4, .int (iI ((np : Nat)))), (5, .int (iI ((n : Nat))))]) B d_Mod_part2_148 1 rfl (by decide) rfl ?_
                      refine mv_iconst (z := 0) B d_Mod_part2_151 rfl ?_
                      refine mv_istore (lv' := [(9, .int (iI (0))), (7, .int (iI (((level + ((n : Nat) : Int)) + ((cnB rc j : Nat) : Int)) + 1))), (8, .int (iI ((j : Nat)))), (6, .int (iI (((b + p : Nat) : Int)))), (0, .ref r), (1, .int (iI ((g : Nat)))), (2, .int (iI (level))), (3, .int (iI ((d : Nat)))), (4, .int (iI ((np : Nat)))), (5, .int (iI ((n : Nat))))]) B d_Mod_part2_152 (by decide) rfl ?_
                      have L154 : ∀ (fu : Nat) (q : Nat) (My1 : mv_M) (Ay1 : Nat → Nat) (Fy1 : Nat → Nat → Int), (q ≤ n) → (WR F Fy1 c (w48Y ++ ([] : List Nd))) → (Fy1 12 = upL (upL (lvB L8 rc yf np level n j) (np + j) ((level + ((n : Nat) : Int)) + ((cnB rc j : Nat) : Int)) (yf j)) np level q) → (RefC V My1 r Ay1 (rN (capL cap c (w48Y ++ ([] : List Nd)).length) (lvS (lvS (lqB Q8 rc yf np n j) (np + j) (yf j)) np q)) Fy1 ((c + (w48Y ++ ([] : List Nd)).length : Nat) : Int) tn gn) → (n - q) < fu → mv_G X Q (kk V) 10 154 [(9, .int (iI ((q : Nat)))), (8, .int (iI ((j : Nat)))), (7, .int (iI (((level + ((n : Nat) : Int)) + ((cnB rc j : Nat) : Int)) + 1))), (6, .int (iI (((b + p : Nat) : Int)))), (0, .ref r), (1, .int (iI ((g : Nat)))), (2, .int (iI (level))), (3, .int (iI ((d : Nat)))), (4, .int (iI ((np : Nat)))), (5, .int (iI ((n : Nat))))] [] My1 (pC (capL cap c (w48Y ++ ([] : List Nd)).length) (lvS (lvS (lqB Q8 rc yf np n j) (np + j) (yf j)) np q) - pC cap lq) (pS (capL cap c (w48Y ++ ([] : List Nd)).length) (lvS (lvS (lqB Q8 rc yf np n j) (np + j) (yf j)) np q) - pS cap lq) := by
                        intro fu
                        induction fu with
                        | zero => intro q My1 Ay1 Fy1 hq9 hWl hLl hCl hm; exact absurd hm (Nat.not_lt_zero _)
                        | succ fu ih154 =>
                          intro q My1 Ay1 Fy1 hq9 hWl hLl hCl hm
                          obtain ⟨Yl154, hYl154⟩ : ∃ Y : List Nd, Y = (w48Y ++ ([] : List Nd)) := ⟨_, rfl⟩
                          rw [← hYl154] at hWl hCl
                          rw [← hYl154]
                          have lYl154 : Yl154.length = w48Y.length + (([] : List Nd)).length := by rw [hYl154, List.length_append]
                          have lz154 : ([] : List Nd).length = 0 := rfl
                          have hlaq := (lvS_ok (lq := (lvS (lqB Q8 rc yf np n j) (np + j) (yf j))) (v := np) (by omega) (by omega) q).1
                          have hlbq := (lvS_ok (lq := (lvS (lqB Q8 rc yf np n j) (np + j) (yf j))) (v := np) (by omega) (by omega) q).2.1
                          have hlcq := (lvS_ok (lq := (lvS (lqB Q8 rc yf np n j) (np + j) (yf j))) (v := np) (by omega) (by omega) q).2.2 (by omega) (by omega)
                          have hldq : lvS (lvS (lqB Q8 rc yf np n j) (np + j) (yf j)) np q ≤ Q9 := Nat.le_trans (lvS_m hq9) hT4
                          have hbL154 : Yl154.length ≤ N9 := by omega
                          have ckL154 : CK cap c Yl154.length := CK_of hcc hcap0 hcap (by omega)
                          have hqL154 : lq ≤ lvS (lvS (lqB Q8 rc yf np n j) (np + j) (yf j)) np q ∧ lvS (lvS (lqB Q8 rc yf np n j) (np + j) (yf j)) np q ≤ Q9 := by omega
                          have plL154 : PL cap lq (capL cap c Yl154.length) (lvS (lvS (lqB Q8 rc yf np n j) (np + j) (yf j)) np q) := PL_le (capL_ge cap c Yl154.length) hqL154.1
                          have k51_7 : My1 (Ay1 7) = some (iA V (100) (Fy1 7)) := hCl.2.1 7 (by decide)
                          have k51_8 : My1 (Ay1 8) = some (iA V (100) (Fy1 8)) := hCl.2.1 8 (by decide)
                          have k51_9 : My1 (Ay1 9) = some (iA V (100) (Fy1 9)) := hCl.2.1 9 (by decide)
                          have k51_10 : My1 (Ay1 10) = some (iA V (100) (Fy1 10)) := hCl.2.1 10 (by decide)
                          refine mv_iload B d_Mod_part2_154 0 rfl ?_
                          refine mv_iload B d_Mod_part2_156 9 rfl ?_
                          refine mv_icmp_ge (tgt := 180) B d_Mod_part2_158 (by decide) (by first | omega | (split <;> omega)) (by first | omega | (split <;> omega)) (fun c52 => ?_) (fun c52 => ?_)
                          · have eq : n = q := by omega
                            subst eq
                            clear ih154 hm
                            refine mv_iinc (lv' := [(8, .int (iI ((j : Nat) + 1))), (9, .int (iI ((n : Nat)))), (7, .int (iI (((level + ((n : Nat) : Int)) + ((cnB rc j : Nat) : Int)) + 1))), (6, .int (iI (((b + p : Nat) : Int)))), (0, .ref r), (1, .int (iI ((g : Nat)))), (2, .int (iI (level))), (3, .int (iI ((d : Nat)))), (4, .int (iI ((np : Nat)))), (5, .int (iI ((n : Nat))))]) B d_Mod_part2_180 1 rfl (by decide) rfl ?_
                            refine mv_goto (tgt := 105) B d_Mod_part2_183 (by decide) ?_
                            have y53 : Yl154 = (Yl64 ++ bcR xs L8 rc yf xf np ni level n i0 (j + 1)) := by rw [hYl154, w48h, w46h, hYl105]; simp only [bcR]; rw [if_pos hr]; simp only [List.append_nil, List.nil_append, List.append_assoc]
                            rw [y53]
                            refine mv_lv (lv' := [(8, .int (iI (((j + 1) : Nat)))), (7, .int (iI ((level + ((n : Nat) : Int)) + ((cnB rc (j + 1) : Nat) : Int)))), (6, .int (iI (((b + p : Nat) : Int)))), (0, .ref r), (1, .int (iI ((g : Nat)))), (2, .int (iI (level))), (3, .int (iI ((d : Nat)))), (4, .int (iI ((np : Nat)))), (5, .int (iI ((n : Nat))))]) [0, 2, 3, 4, 5, 6, 7, 8, 9] (lc (lI (by first | rfl | omega)) (lc (lI (by simp only [cnB]; first | (rw [if_pos hr]; omega) | (rw [if_neg (by rw [hr]; simp)]; omega))) (lc rfl (lc rfl (lc rfl (lc rfl (lc rfl (lc rfl (lc rfl rfl))))))))) ?_
                            have y53Q : lqB Q8 rc yf np n (j + 1) = lvS (lvS (lqB Q8 rc yf np n j) (np + j) (yf j)) np n := lqB_t hr
                            rw [← y53Q]
                            exact ih105 (j + 1) My1 Ay1 Fy1 (by omega) (by rw [← y53]; exact hWl) (hLl.trans (lvB_t hr).symm) (by rw [← y53, y53Q]; exact hCl) (by omega)
                          · refine mv_aloadR_n B d_Mod_part2_161 rfl 4 rfl ?_
                            refine mv_iload B d_Mod_part2_162 8 rfl ?_
                            refine mv_iload B d_Mod_part2_164 0 rfl ?_
                            refine mv_iadd B d_Mod_part2_166 ?_
                            refine mv_iload_n B d_Mod_part2_167 rfl 6 rfl ?_
                            refine mv_iload B d_Mod_part2_168 0 rfl ?_
                            refine mv_iadd B d_Mod_part2_170 ?_
                            have w54z : ([] : List Nd).length = 0 := rfl
                            have w54q : lvS (lvS (lqB Q8 rc yf np n j) (np + j) (yf j)) np q ≤ lvN (lvS (lvS (lqB Q8 rc yf np n j) (np + j) (yf j)) np q) (np + q) ∧ lvN (lvS (lvS (lqB Q8 rc yf np n j) (np + j) (yf j)) np q) (np + q) ≤ Q9 := by have h1 := (lvN_ok (lq := lvS (lvS (lqB Q8 rc yf np n j) (np + j) (yf j)) np q) (v := np + q) (by omega) (by omega)).2.1; have h2 : lvN (lvS (lvS (lqB Q8 rc yf np n j) (np + j) (yf j)) np q) (np + q) ≤ lvS (lvS (lqB Q8 rc yf np n j) (np + j) (yf j)) np n := lvS_m (m := q + 1) (by omega); have h3 : lvS (lvS (lqB Q8 rc yf np n j) (np + j) (yf j)) np n ≤ Q9 := hT4; omega
                            have w54n : Yl154.length + (([] : List Nd)).length ≤ N9 := by omega
                            have w54e : capL (capL cap c Yl154.length) (c + Yl154.length) (([] : List Nd)).length = capL cap c (Yl154.length + (([] : List Nd)).length) := (capL_add cap c Yl154.length (([] : List Nd)).length).symm
                            have w54m : PL (capL cap c Yl154.length) (lvS (lvS (lqB Q8 rc yf np n j) (np + j) (yf j)) np q) (capL cap c (Yl154.length + (([] : List Nd)).length)) (lvN (lvS (lvS (lqB Q8 rc yf np n j) (np + j) (yf j)) np q) (np + q)) := PL_le (capL_mono cap c (Nat.le_add_right _ _)) w54q.1
                            have w54t : PL (capL cap c (Yl154.length + (([] : List Nd)).length)) (lvN (lvS (lvS (lqB Q8 rc yf np n j) (np + j) (yf j)) np q) (np + q)) (capL cap c (paR xs (F 12) rc yf xf np ni level n i0 x0 ((g : Nat) : Int)).length) (paQ lq rc yf np n) := PL_le (capL_mono cap c (hN9 ▸ w54n)) (hQ9 ▸ w54q.2)
                            refine ca_Mod_133 (mc := pC (capL (capL cap c Yl154.length) (c + Yl154.length) (([] : List Nd)).length) (lvN (lvS (lvS (lqB Q8 rc yf np n j) (np + j) (yf j)) np q) (np + q)) - pC (capL cap c Yl154.length) (lvS (lvS (lqB Q8 rc yf np n j) (np + j) (yf j)) np q)) (ms := pS (capL (capL cap c Yl154.length) (c + Yl154.length) (([] : List Nd)).length) (lvN (lvS (lvS (lqB Q8 rc yf np n j) (np + j) (yf j)) np q) (np + q)) - pS (capL cap c Yl154.length) (lvS (lvS (lqB Q8 rc yf np n j) (np + j) (yf j)) np q)) (rm' := rM 2 (pC (capL (capL cap c Yl154.length) (c + Yl154.length) (([] : List Nd)).length) (lvN (lvS (lvS (lqB Q8 rc yf np n j) (np + j) (yf j)) np q) (np + q)) - pC (capL cap c Yl154.length) (lvS (lvS (lqB Q8 rc yf np n j) (np + j) (yf j)) np q)) (pS (capL (capL cap c Yl154.length) (c + Yl154.length) (([] : List Nd)).length) (lvN (lvS (lvS (lqB Q8 rc yf np n j) (np + j) (yf j)) np q) (np + q)) - pS (capL cap c Yl154.length) (lvS (lvS (lqB Q8 rc yf np n j) (np + j) (yf j)) np q)) 70) (As := [.int (iI ((np : Nat) + (q : Nat))), .int (iI (level + (q : Nat)))]) (rest := []) B (mW_level hCl ckL154.1 ckL154.2.1 ckL154.2.2 (v := np + q) (z := (np : Nat) + (q : Nat)) (x := level + (q : Nat)) (by omega) (by omega) (by omega) (by omega) hLl) rfl rfl ⟨Nat.le_of_ble_eq_true rfl, Nat.le_of_ble_eq_true rfl⟩ hCl.1 rfl rfl (Nat.le_of_ble_eq_true rfl) d_Mod_part2_171 ⟨by rw [w54e]; exact PL_c plL154 w54m w54t, by rw [w54e]; exact PL_s plL154 w54m w54t⟩ (fun v1 w54M ep => ?_)
                            obtain ⟨e1, w54U⟩ := ep
                            subst e1
                            have w54U := wrP_app (lq := lq) hWl w54U
                            obtain ⟨w54Y, w54h⟩ : ∃ Y : List Nd, Y = Yl154 ++ (([] : List Nd)) := ⟨_, rfl⟩
                            rw [← w54h] at w54U
                            have w54l : w54Y.length = Yl154.length + (([] : List Nd)).length := by rw [w54h, List.length_append]
                            obtain ⟨w54A, w54F, w54W, w54L, w54C⟩ := w54U
                            rw [← w54l] at w54e w54m w54t
                            have w54b : CK cap c w54Y.length := CK_of hcc hcap0 hcap (by omega)
                            have w54p := plL154.tr w54m
                            refine mv_widen (c2 := pC (capL cap c w54Y.length) (lvN (lvS (lvS (lqB Q8 rc yf np n j) (np + j) (yf j)) np q) (np + q)) - pC cap lq) (s2 := pS (capL cap c w54Y.length) (lvN (lvS (lvS (lqB Q8 rc yf np n j) (np + j) (yf j)) np q) (np + q)) - pS cap lq) (by rw [w54e]; exact PL_c2 plL154 w54m) (by rw [w54e]; exact PL_s2 plL154 w54m) ?_
                            clear w54e w54m w54t w54n
                            show mv_G X Q (kk V) 10 174 [(9, .int (iI ((q : Nat)))), (8, .int (iI ((j : Nat)))), (7, .int (iI (((level + ((n : Nat) : Int)) + ((cnB rc j : Nat) : Int)) + 1))), (6, .int (iI (((b + p : Nat) : Int)))), (0, .ref r), (1, .int (iI ((g : Nat)))), (2, .int (iI (level))), (3, .int (iI ((d : Nat)))), (4, .int (iI ((np : Nat)))), (5, .int (iI ((n : Nat))))] [] w54M (pC (capL cap c w54Y.length) (lvN (lvS (lvS (lqB Q8 rc yf np n j) (np + j) (yf j)) np q) (np + q)) - pC cap lq) (pS (capL cap c w54Y.length) (lvN (lvS (lvS (lqB Q8 rc yf np n j) (np + j) (yf j)) np q) (np + q)) - pS cap lq)
                            have k55_7 : w54M (w54A 7) = some (iA V (100) (w54F 7)) := w54C.2.1 7 (by decide)
                            have k55_8 : w54M (w54A 8) = some (iA V (100) (w54F 8)) := w54C.2.1 8 (by decide)
                            have k55_9 : w54M (w54A 9) = some (iA V (100) (w54F 9)) := w54C.2.1 9 (by decide)
                            have k55_10 : w54M (w54A 10) = some (iA V (100) (w54F 10)) := w54C.2.1 10 (by decide)
                            refine mv_iinc (lv' := [(9, .int (iI ((q : Nat) + 1))), (8, .int (iI ((j : Nat)))), (7, .int (iI (((level + ((n : Nat) : Int)) + ((cnB rc j : Nat) : Int)) + 1))), (6, .int (iI (((b + p : Nat) : Int)))), (0, .ref r), (1, .int (iI ((g : Nat)))), (2, .int (iI (level))), (3, .int (iI ((d : Nat)))), (4, .int (iI ((np : Nat)))), (5, .int (iI ((n : Nat))))]) B d_Mod_part2_174 0 rfl (by decide) rfl ?_
                            refine mv_goto (tgt := 154) B d_Mod_part2_177 (by decide) ?_
                            have y56 : w54Y = (w48Y ++ ([] : List Nd)) := by rw [w54h, hYl154]; simp only [List.append_nil]
                            rw [y56]
                            refine mv_lv (lv' := [(9, .int (iI (((q + 1) : Nat)))), (8, .int (iI ((j : Nat)))), (7, .int (iI (((level + ((n : Nat) : Int)) + ((cnB rc j : Nat) : Int)) + 1))), (6, .int (iI (((b + p : Nat) : Int)))), (0, .ref r), (1, .int (iI ((g : Nat)))), (2, .int (iI (level))), (3, .int (iI ((d : Nat)))), (4, .int (iI ((np : Nat)))), (5, .int (iI ((n : Nat))))]) [0, 1, 2, 3, 4, 5, 6, 7, 8, 9] (lc (lI (by first | rfl | omega)) (lc rfl (lc rfl (lc rfl (lc rfl (lc rfl (lc rfl (lc rfl (lc rfl (lc rfl rfl)))))))))) ?_
                            exact ih154 (q + 1) w54M w54A w54F (by omega) (by rw [← y56]; exact w54W) (w54L.trans (upL_s _ _ _ _)) (by rw [← y56]; exact w54C) (by omega)
                      refine mv_lv (lv' := [(9, .int (iI ((0 : Nat)))), (8, .int (iI ((j : Nat)))), (7, .int (iI (((level + ((n : Nat) : Int)) + ((cnB rc j : Nat) : Int)) + 1))), (6, .int (iI (((b + p : Nat) : Int)))), (0, .ref r), (1, .int (iI ((g : Nat)))), (2, .int (iI (level))), (3, .int (iI ((d : Nat)))), (4, .int (iI ((np : Nat)))), (5, .int (iI ((n : Nat))))]) [0, 2, 1, 3, 4, 5, 6, 7, 8, 9] (lc (lI (by first | rfl | omega)) (lc rfl (lc rfl (lc rfl (lc rfl (lc rfl (lc rfl (lc rfl (lc rfl (lc rfl rfl)))))))))) ?_
                      have y50 : w48Y = (w48Y ++ ([] : List Nd)) := (List.append_nil _).symm
                      rw [y50]
                      exact L154 _ 0 w48M w48A w48F (by omega) (by rw [← y50]; exact w48W) (w48L.trans (upL_0 _ _ _).symm) (by rw [← y50]; exact w48C) (Nat.lt_succ_self _)
              refine mv_lv (lv' := [(8, .int (iI ((0 : Nat)))), (7, .int (iI ((level + ((n : Nat) : Int)) + ((cnB rc 0 : Nat) : Int)))), (6, .int (iI (((b + p : Nat) : Int)))), (0, .ref r), (1, .int (iI ((g : Nat)))), (2, .int (iI (level))), (3, .int (iI ((d : Nat)))), (4, .int (iI ((np : Nat)))), (5, .int (iI ((n : Nat))))]) [0, 1, 2, 3, 4, 5, 6, 7, 8] (lc (lI (by first | rfl | omega)) (lc (lI (by simp [cnB])) (lc rfl (lc rfl (lc rfl (lc rfl (lc rfl (lc rfl (lc rfl rfl))))))))) ?_
              have y13 : Yl64 = (Yl64 ++ bcR xs L8 rc yf xf np ni level n i0 0) := (List.append_nil _).symm
              rw [y13]
              exact L105 _ 0 My1 Ay1 Fy1 (by omega) (by rw [← y13]; exact hWl) (hLl) (by rw [← y13]; exact hCl) (Nat.lt_succ_self _)
            · refine mv_aloadR_n B d_Mod_part2_71 rfl 2 rfl ?_
              refine mv_bipush (z := 6) B d_Mod_part2_72 (by decide) ?_
              refine mv_iload B d_Mod_part2_74 1 rfl ?_
              refine mv_iload B d_Mod_part2_76 6 rfl ?_
              refine mv_iload B d_Mod_part2_78 0 rfl ?_
              refine mv_iadd B d_Mod_part2_80 ?_
              refine mv_iload_n B d_Mod_part2_81 rfl 4 rfl ?_
              refine mv_iload B d_Mod_part2_82 0 rfl ?_
              refine mv_iadd B d_Mod_part2_84 ?_
              rw [show ((np : Nat) : Int) + ((k2 : Nat) : Int) = ((np + k2 : Nat) : Int) by omega]
              have hBy1 := (Bds_ok hcp hBd k2 (by omega)).1
              have hBy2 := (Bds_ok hcp hBd k2 (by omega)).2.1
              have hBk := hBd.2 k2 (by omega)
              have hmn := unS_mono xs i0 (show k2 + 1 ≤ n by omega)
              have hmu : unS xs i0 (k2 + 1) = unS xs i0 k2 + 1 + lnS xs (unS xs i0 k2 + 1) := rfl
              have w57z : (([(6, (gN xs (unS xs i0 k2)).2.1, 0)] : List Nd) ++ pqS xs (upL (upL (F 12) 0 0 np) np level k2) ((np + k2 : Nat) : Int) (unS xs i0 k2 + 1) (lnS xs (unS xs i0 k2 + 1))).length = 1 + lnS xs (unS xs i0 k2 + 1) := by rw [List.length_append, pqS_len]; rfl
              have w57v : np + k2 ≤ lvS (lvS lq 0 np) np k2 ∧ 1 ≤ lvS (lvS lq 0 np) np k2 ∧ lvS (lvS lq 0 np) np k2 ≤ 4000 := by omega
              have w57q : lvS (lvS lq 0 np) np k2 ≤ lvN (lvS (lvS lq 0 np) np k2) (np + k2) ∧ lvN (lvS (lvS lq 0 np) np k2) (np + k2) ≤ Q9 := by have h1 := (lvN_ok (lq := lvS (lvS lq 0 np) np k2) (v := np + k2) (by omega) (by omega)).2.1; have h2 : lvN (lvS (lvS lq 0 np) np k2) (np + k2) ≤ lvS (lvS lq 0 np) np n := lvS_m (m := k2 + 1) (by omega); have h3 : lvS (lvS lq 0 np) np n ≤ Q9 := hT2; omega
              have w57n : Yl64.length + (([(6, (gN xs (unS xs i0 k2)).2.1, 0)] : List Nd) ++ pqS xs (upL (upL (F 12) 0 0 np) np level k2) ((np + k2 : Nat) : Int) (unS xs i0 k2 + 1) (lnS xs (unS xs i0 k2 + 1))).length ≤ N9 := by omega
              have w57e : capL (capL cap c Yl64.length) (c + Yl64.length) (([(6, (gN xs (unS xs i0 k2)).2.1, 0)] : List Nd) ++ pqS xs (upL (upL (F 12) 0 0 np) np level k2) ((np + k2 : Nat) : Int) (unS xs i0 k2 + 1) (lnS xs (unS xs i0 k2 + 1))).length = capL cap c (Yl64.length + (([(6, (gN xs (unS xs i0 k2)).2.1, 0)] : List Nd) ++ pqS xs (upL (upL (F 12) 0 0 np) np level k2) ((np + k2 : Nat) : Int) (unS xs i0 k2 + 1) (lnS xs (unS xs i0 k2 + 1))).length) := (capL_add cap c Yl64.length (([(6, (gN xs (unS xs i0 k2)).2.1, 0)] : List Nd) ++ pqS xs (upL (upL (F 12) 0 0 np) np level k2) ((np + k2 : Nat) : Int) (unS xs i0 k2 + 1) (lnS xs (unS xs i0 k2 + 1))).length).symm
              have w57m : PL (capL cap c Yl64.length) (lvS (lvS lq 0 np) np k2) (capL cap c (Yl64.length + (([(6, (gN xs (unS xs i0 k2)).2.1, 0)] : List Nd) ++ pqS xs (upL (upL (F 12) 0 0 np) np level k2) ((np + k2 : Nat) : Int) (unS xs i0 k2 + 1) (lnS xs (unS xs i0 k2 + 1))).length)) (lvN (lvS (lvS lq 0 np) np k2) (np + k2)) := PL_le (capL_mono cap c (Nat.le_add_right _ _)) w57q.1
              have w57t : PL (capL cap c (Yl64.length + (([(6, (gN xs (unS xs i0 k2)).2.1, 0)] : List Nd) ++ pqS xs (upL (upL (F 12) 0 0 np) np level k2) ((np + k2 : Nat) : Int) (unS xs i0 k2 + 1) (lnS xs (unS xs i0 k2 + 1))).length)) (lvN (lvS (lvS lq 0 np) np k2) (np + k2)) (capL cap c (paR xs (F 12) rc yf xf np ni level n i0 x0 ((g : Nat) : Int)).length) (paQ lq rc yf np n) := PL_le (capL_mono cap c (hN9 ▸ w57n)) (hQ9 ▸ w57q.2)
              refine ca_Mod_150 (mc := pC (capL (capL cap c Yl64.length) (c + Yl64.length) (([(6, (gN xs (unS xs i0 k2)).2.1, 0)] : List Nd) ++ pqS xs (upL (upL (F 12) 0 0 np) np level k2) ((np + k2 : Nat) : Int) (unS xs i0 k2 + 1) (lnS xs (unS xs i0 k2 + 1))).length) (lvN (lvS (lvS lq 0 np) np k2) (np + k2)) - pC (capL cap c Yl64.length) (lvS (lvS lq 0 np) np k2)) (ms := pS (capL (capL cap c Yl64.length) (c + Yl64.length) (([(6, (gN xs (unS xs i0 k2)).2.1, 0)] : List Nd) ++ pqS xs (upL (upL (F 12) 0 0 np) np level k2) ((np + k2 : Nat) : Int) (unS xs i0 k2 + 1) (lnS xs (unS xs i0 k2 + 1))).length) (lvN (lvS (lvS lq 0 np) np k2) (np + k2)) - pS (capL cap c Yl64.length) (lvS (lvS lq 0 np) np k2)) (rm' := rM 5 (pC (capL (capL cap c Yl64.length) (c + Yl64.length) (([(6, (gN xs (unS xs i0 k2)).2.1, 0)] : List Nd) ++ pqS xs (upL (upL (F 12) 0 0 np) np level k2) ((np + k2 : Nat) : Int) (unS xs i0 k2 + 1) (lnS xs (unS xs i0 k2 + 1))).length) (lvN (lvS (lvS lq 0 np) np k2) (np + k2)) - pC (capL cap c Yl64.length) (lvS (lvS lq 0 np) np k2)) (pS (capL (capL cap c Yl64.length) (c + Yl64.length) (([(6, (gN xs (unS xs i0 k2)).2.1, 0)] : List Nd) ++ pqS xs (upL (upL (F 12) 0 0 np) np level k2) ((np + k2 : Nat) : Int) (unS xs i0 k2 + 1) (lnS xs (unS xs i0 k2 + 1))).length) (lvN (lvS (lvS lq 0 np) np k2) (np + k2)) - pS (capL cap c Yl64.length) (lvS (lvS lq 0 np) np k2)) 165) (As := [.int (iI (6)), .int (iI (((b + unS xs i0 k2 : Nat) : Int))), .int (iI (((np + k2 : Nat) : Int))), .int (iI (level + (k2 : Nat)))]) (rest := []) B (mW_binderOf hCl ckL64.1 ckL64.2.1 ckL64.2.2 hLl (seF_ag hWl.1 hl hs) (by omega) hcp hn1 hcl ho (i := unS xs i0 k2) (ar := np + k2) (k := 6) (lv := level + (k2 : Nat)) hBy1 hBk (by rw [hBy2, hI0d]; omega) (hLv k2 (by omega)) w57v (by omega) (by omega) (by omega)) rfl rfl ⟨Nat.le_of_ble_eq_true rfl, Nat.le_of_ble_eq_true rfl⟩ hCl.1 rfl rfl (Nat.le_of_ble_eq_true rfl) d_Mod_part2_85 ⟨by rw [w57e]; exact PL_c plL64 w57m w57t, by rw [w57e]; exact PL_s plL64 w57m w57t⟩ (fun v1 w57M ep => ?_)
              obtain ⟨e1, w57U⟩ := ep
              subst e1
              have w57U := wrP_app (lq := lq) hWl w57U
              obtain ⟨w57Y, w57h⟩ : ∃ Y : List Nd, Y = Yl64 ++ (([(6, (gN xs (unS xs i0 k2)).2.1, 0)] : List Nd) ++ pqS xs (upL (upL (F 12) 0 0 np) np level k2) ((np + k2 : Nat) : Int) (unS xs i0 k2 + 1) (lnS xs (unS xs i0 k2 + 1))) := ⟨_, rfl⟩
              rw [← w57h] at w57U
              have w57l : w57Y.length = Yl64.length + (([(6, (gN xs (unS xs i0 k2)).2.1, 0)] : List Nd) ++ pqS xs (upL (upL (F 12) 0 0 np) np level k2) ((np + k2 : Nat) : Int) (unS xs i0 k2 + 1) (lnS xs (unS xs i0 k2 + 1))).length := by rw [w57h, List.length_append]
              obtain ⟨w57A, w57F, w57W, w57L, w57C⟩ := w57U
              rw [← w57l] at w57e w57m w57t
              have w57b : CK cap c w57Y.length := CK_of hcc hcap0 hcap (by omega)
              have w57p := plL64.tr w57m
              refine mv_widen (c2 := pC (capL cap c w57Y.length) (lvN (lvS (lvS lq 0 np) np k2) (np + k2)) - pC cap lq) (s2 := pS (capL cap c w57Y.length) (lvN (lvS (lvS lq 0 np) np k2) (np + k2)) - pS cap lq) (by rw [w57e]; exact PL_c2 plL64 w57m) (by rw [w57e]; exact PL_s2 plL64 w57m) ?_
              clear w57e w57m w57t w57n
              show mv_G X Q (kk V) 10 88 [(7, .int (iI ((k2 : Nat)))), (6, .int (iI (((b + unS xs i0 k2 : Nat) : Int)))), (0, .ref r), (1, .int (iI ((g : Nat)))), (2, .int (iI (level))), (3, .int (iI ((d : Nat)))), (4, .int (iI ((np : Nat)))), (5, .int (iI ((n : Nat))))] [.int (iI (((b + (unS xs i0 k2 + 1 + lnS xs (unS xs i0 k2 + 1)) : Nat) : Int)))] w57M (pC (capL cap c w57Y.length) (lvN (lvS (lvS lq 0 np) np k2) (np + k2)) - pC cap lq) (pS (capL cap c w57Y.length) (lvN (lvS (lvS lq 0 np) np k2) (np + k2)) - pS cap lq)
              have k58_7 : w57M (w57A 7) = some (iA V (100) (w57F 7)) := w57C.2.1 7 (by decide)
              have k58_8 : w57M (w57A 8) = some (iA V (100) (w57F 8)) := w57C.2.1 8 (by decide)
              have k58_9 : w57M (w57A 9) = some (iA V (100) (w57F 9)) := w57C.2.1 9 (by decide)
              have k58_10 : w57M (w57A 10) = some (iA V (100) (w57F 10)) := w57C.2.1 10 (by decide)
              refine mv_istore (lv' := [(6, .int (iI (((b + (unS xs i0 k2 + 1 + lnS xs (unS xs i0 k2 + 1)) : Nat) : Int)))), (7, .int (iI ((k2 : Nat)))), (0, .ref r), (1, .int (iI ((g : Nat)))), (2, .int (iI (level))), (3, .int (iI ((d : Nat)))), (4, .int (iI ((np : Nat)))), (5, .int (iI ((n : Nat))))]) B d_Mod_part2_88 (by decide) rfl ?_
              refine mv_iinc (lv' := [(7, .int (iI ((k2 : Nat) + 1))), (6, .int (iI (((b + (unS xs i0 k2 + 1 + lnS xs (unS xs i0 k2 + 1)) : Nat) : Int)))), (0, .ref r), (1, .int (iI ((g : Nat)))), (2, .int (iI (level))), (3, .int (iI ((d : Nat)))), (4, .int (iI ((np : Nat)))), (5, .int (iI ((n : Nat))))]) B d_Mod_part2_90 1 rfl (by decide) rfl ?_
              refine mv_goto (tgt := 64) B d_Mod_part2_93 (by decide) ?_
              have y59 : w57Y = (Yl40 ++ bnR xs (upL (F 12) 0 0 np) 6 np level i0 (k2 + 1)) := by rw [w57h, hYl64]; simp only [bnR, List.append_assoc]
              rw [y59]
              refine mv_lv (lv' := [(7, .int (iI (((k2 + 1) : Nat)))), (6, .int (iI (((b + unS xs i0 (k2 + 1) : Nat) : Int)))), (0, .ref r), (1, .int (iI ((g : Nat)))), (2, .int (iI (level))), (3, .int (iI ((d : Nat)))), (4, .int (iI ((np : Nat)))), (5, .int (iI ((n : Nat))))]) [0, 1, 2, 3, 4, 5, 6, 7] (lc (lI (by first | rfl | omega)) (lc (lI (by first | rfl | omega)) (lc rfl (lc rfl (lc rfl (lc rfl (lc rfl (lc rfl rfl)))))))) ?_
              exact ih64 (k2 + 1) w57M w57A w57F (by omega) (by rw [← y59]; exact w57W) (w57L.trans (upL_s _ _ _ _)) (by rw [← y59]; exact w57C) (by omega)
        refine mv_lv (lv' := [(7, .int (iI ((0 : Nat)))), (6, .int (iI (((b + unS xs i0 0 : Nat) : Int)))), (0, .ref r), (1, .int (iI ((g : Nat)))), (2, .int (iI (level))), (3, .int (iI ((d : Nat)))), (4, .int (iI ((np : Nat)))), (5, .int (iI ((n : Nat))))]) [0, 1, 2, 3, 4, 5, 6, 7] (lc (lI (by first | rfl | omega)) (lc rfl (lc rfl (lc rfl (lc rfl (lc rfl (lc rfl (lc rfl rfl)))))))) ?_
        have y9 : Yl40 = (Yl40 ++ bnR xs (upL (F 12) 0 0 np) 6 np level i0 0) := (List.append_nil _).symm
        rw [y9]
        exact L64 _ 0 My1 Ay1 Fy1 (by omega) (by rw [← y9]; exact hWl) (hLl.trans (upL_0 _ _ _).symm) (by rw [← y9]; exact hCl) (Nat.lt_succ_self _)
      · refine mv_aloadR_n B d_Mod_part2_47 rfl 2 rfl ?_
        refine mv_iload B d_Mod_part2_48 0 rfl ?_
        refine mv_iload B d_Mod_part2_50 0 rfl ?_
        have w60z : ([] : List Nd).length = 0 := rfl
        have w60q : lvS lq 0 k1 ≤ lvN (lvS lq 0 k1) (0 + k1) ∧ lvN (lvS lq 0 k1) (0 + k1) ≤ Q9 := by have h1 := (lvN_ok (lq := lvS lq 0 k1) (v := 0 + k1) (by omega) (by omega)).2.1; have h2 : lvN (lvS lq 0 k1) (0 + k1) ≤ lvS lq 0 np := lvS_m (m := k1 + 1) (by omega); have h3 : lvS lq 0 np ≤ Q9 := hT1; omega
        have w60n : Yl40.length + (([] : List Nd)).length ≤ N9 := by omega
        have w60e : capL (capL cap c Yl40.length) (c + Yl40.length) (([] : List Nd)).length = capL cap c (Yl40.length + (([] : List Nd)).length) := (capL_add cap c Yl40.length (([] : List Nd)).length).symm
        have w60m : PL (capL cap c Yl40.length) (lvS lq 0 k1) (capL cap c (Yl40.length + (([] : List Nd)).length)) (lvN (lvS lq 0 k1) (0 + k1)) := PL_le (capL_mono cap c (Nat.le_add_right _ _)) w60q.1
        have w60t : PL (capL cap c (Yl40.length + (([] : List Nd)).length)) (lvN (lvS lq 0 k1) (0 + k1)) (capL cap c (paR xs (F 12) rc yf xf np ni level n i0 x0 ((g : Nat) : Int)).length) (paQ lq rc yf np n) := PL_le (capL_mono cap c (hN9 ▸ w60n)) (hQ9 ▸ w60q.2)
        refine ca_Mod_133 (mc := pC (capL (capL cap c Yl40.length) (c + Yl40.length) (([] : List Nd)).length) (lvN (lvS lq 0 k1) (0 + k1)) - pC (capL cap c Yl40.length) (lvS lq 0 k1)) (ms := pS (capL (capL cap c Yl40.length) (c + Yl40.length) (([] : List Nd)).length) (lvN (lvS lq 0 k1) (0 + k1)) - pS (capL cap c Yl40.length) (lvS lq 0 k1)) (rm' := rM 2 (pC (capL (capL cap c Yl40.length) (c + Yl40.length) (([] : List Nd)).length) (lvN (lvS lq 0 k1) (0 + k1)) - pC (capL cap c Yl40.length) (lvS lq 0 k1)) (pS (capL (capL cap c Yl40.length) (c + Yl40.length) (([] : List Nd)).length) (lvN (lvS lq 0 k1) (0 + k1)) - pS (capL cap c Yl40.length) (lvS lq 0 k1)) 70) (As := [.int (iI ((k1 : Nat))), .int (iI ((k1 : Nat)))]) (rest := []) B (mW_level hCl ckL40.1 ckL40.2.1 ckL40.2.2 (v := 0 + k1) (z := (k1 : Nat)) (x := (k1 : Nat)) (by omega) (by omega) (by omega) (by omega) hLl) rfl rfl ⟨Nat.le_of_ble_eq_true rfl, Nat.le_of_ble_eq_true rfl⟩ hCl.1 rfl rfl (Nat.le_of_ble_eq_true rfl) d_Mod_part2_52 ⟨by rw [w60e]; exact PL_c plL40 w60m w60t, by rw [w60e]; exact PL_s plL40 w60m w60t⟩ (fun v1 w60M ep => ?_)
        obtain ⟨e1, w60U⟩ := ep
        subst e1
        have w60U := wrP_app (lq := lq) hWl w60U
        obtain ⟨w60Y, w60h⟩ : ∃ Y : List Nd, Y = Yl40 ++ (([] : List Nd)) := ⟨_, rfl⟩
        rw [← w60h] at w60U
        have w60l : w60Y.length = Yl40.length + (([] : List Nd)).length := by rw [w60h, List.length_append]
        obtain ⟨w60A, w60F, w60W, w60L, w60C⟩ := w60U
        rw [← w60l] at w60e w60m w60t
        have w60b : CK cap c w60Y.length := CK_of hcc hcap0 hcap (by omega)
        have w60p := plL40.tr w60m
        refine mv_widen (c2 := pC (capL cap c w60Y.length) (lvN (lvS lq 0 k1) (0 + k1)) - pC cap lq) (s2 := pS (capL cap c w60Y.length) (lvN (lvS lq 0 k1) (0 + k1)) - pS cap lq) (by rw [w60e]; exact PL_c2 plL40 w60m) (by rw [w60e]; exact PL_s2 plL40 w60m) ?_
        clear w60e w60m w60t w60n
        show mv_G X Q (kk V) 10 55 [(7, .int (iI ((k1 : Nat)))), (6, .int (iI (((b + unS xs i0 0 : Nat) : Int)))), (0, .ref r), (1, .int (iI ((g : Nat)))), (2, .int (iI (level))), (3, .int (iI ((d : Nat)))), (4, .int (iI ((np : Nat)))), (5, .int (iI ((n : Nat))))] [] w60M (pC (capL cap c w60Y.length) (lvN (lvS lq 0 k1) (0 + k1)) - pC cap lq) (pS (capL cap c w60Y.length) (lvN (lvS lq 0 k1) (0 + k1)) - pS cap lq)
        have k61_7 : w60M (w60A 7) = some (iA V (100) (w60F 7)) := w60C.2.1 7 (by decide)
        have k61_8 : w60M (w60A 8) = some (iA V (100) (w60F 8)) := w60C.2.1 8 (by decide)
        have k61_9 : w60M (w60A 9) = some (iA V (100) (w60F 9)) := w60C.2.1 9 (by decide)
        have k61_10 : w60M (w60A 10) = some (iA V (100) (w60F 10)) := w60C.2.1 10 (by decide)
        refine mv_iinc (lv' := [(7, .int (iI ((k1 : Nat) + 1))), (6, .int (iI (((b + unS xs i0 0 : Nat) : Int)))), (0, .ref r), (1, .int (iI ((g : Nat)))), (2, .int (iI (level))), (3, .int (iI ((d : Nat)))), (4, .int (iI ((np : Nat)))), (5, .int (iI ((n : Nat))))]) B d_Mod_part2_55 0 rfl (by decide) rfl ?_
        refine mv_goto (tgt := 40) B d_Mod_part2_58 (by decide) ?_
        have y62 : w60Y = (Y0 ++ ([] : List Nd)) := by rw [w60h, hYl40]; simp only [List.append_nil]
        rw [y62]
        refine mv_lv (lv' := [(7, .int (iI (((k1 + 1) : Nat)))), (6, .int (iI (((b + unS xs i0 0 : Nat) : Int)))), (0, .ref r), (1, .int (iI ((g : Nat)))), (2, .int (iI (level))), (3, .int (iI ((d : Nat)))), (4, .int (iI ((np : Nat)))), (5, .int (iI ((n : Nat))))]) [0, 1, 2, 3, 4, 5, 6, 7] (lc (lI (by first | rfl | omega)) (lc rfl (lc rfl (lc rfl (lc rfl (lc rfl (lc rfl (lc rfl rfl)))))))) ?_
        exact ih40 (k1 + 1) w60M w60A w60F (by omega) (by rw [← y62]; exact w60W) (w60L.trans (by rw [← upL_s, Int.zero_add])) (by rw [← y62]; exact w60C) (by omega)
  refine mv_lv (lv' := [(7, .int (iI ((0 : Nat)))), (6, .int (iI (((b + unS xs i0 0 : Nat) : Int)))), (0, .ref r), (1, .int (iI ((g : Nat)))), (2, .int (iI (level))), (3, .int (iI ((d : Nat)))), (4, .int (iI ((np : Nat)))), (5, .int (iI ((n : Nat))))]) [0, 1, 5, 6, 7, 4, 3, 2] (lc (lI (by first | rfl | omega)) (lc rfl (lc rfl (lc rfl (lc rfl (lc rfl (lc rfl (lc rfl rfl)))))))) ?_
  have y6 : Y0 = (Y0 ++ ([] : List Nd)) := (List.append_nil _).symm
  rw [y6]
  exact L40 _ 0 M A F (by omega) (by rw [← y6]; exact hW0) ((upL_0 _ _ _).symm) (by rw [← y6]; exact hC0) (Nat.lt_succ_self _)
