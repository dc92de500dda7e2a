def BrO (xs : List Nd) (d np ni jx i ys p x0 : Nat) : Prop := Cpl xs ∧ xs.length ≤ 1000 ∧ Cls xs ∧ Bds xs 0 (np + jx) ∧ unS xs 0 (np + jx) + 1 = i ∧ i < xs.length ∧ dpS xs i = ((np + jx : Nat) : Int) ∧ AlS xs i ys ∧ unS xs i ys = p ∧ (∃ a v, ApS xs p a ∧ ptB xs (d : Nat) np ni p a v = true) ∧ Spn xs p np ni x0
theorem BrO_T {xs : List Nd} {d np ni n jx : Nat} (hT : Told xs (d : Nat) np ni n) (hj : jx < n) (hr : rcS xs (d : Nat) np ni jx = true) : BrO xs d np ni jx (rtS xs np jx) (nA xs (rtS xs np jx)) (ft xs (rtS xs np jx)) (ft xs (rtS xs np jx) + (np + ni) + 1 + np) := by
  have r1 := hT.r hj
  have a1 := nA_ok hT.1 hT.2.1 r1.1
  have ap := nP_ok hT.1 hT.2.1 a1.2.2
  exact ⟨hT.1, hT.2.1, hT.2.2.2.2.1, ⟨hT.b.1, fun y hy => hT.b.2 y (by omega)⟩, r1.2.2, r1.1, r1.2.1, a1.1, rfl, ⟨_, _, ap, hr⟩, (ptB_spn hT.1 ap hr).1⟩
theorem alO {F : Nat → Nat → Int} {b : Nat} {xs : List Nd} (hs : seF F b xs) (hc : Cpl xs) {i n cap : Nat} (ha : AlS xs i n) (hcap : b + xs.length ≤ cap) : (∀ j, j < n → F 0 (unR F ((b + i : Nat) : Int) j).toNat = 6) ∧ (¬ F 0 (unR F ((b + i : Nat) : Int) n).toNat = 6) ∧ (∀ j, j ≤ n → 0 ≤ unR F ((b + i : Nat) : Int) j ∧ unR F ((b + i : Nat) : Int) j < cap ∧ (j < n → unR F ((b + i : Nat) : Int) j + 1 < cap)) := by
  refine ⟨fun j hj => ?_, ?_, fun j hj => ?_⟩
  · rw [unR_S hs hc ha.1 j (by omega), hs.k (Bds_ok hc ha.1 j (by omega)).1]
    exact ha.1.2 j hj
  · rw [unR_S hs hc ha.1 n (Nat.le_refl _), hs.k (Bds_ok hc ha.1 n (Nat.le_refl _)).1]
    exact ha.2
  · have hB := Bds_ok hc ha.1 j hj
    have hB1 := hB.1
    rw [unR_S hs hc ha.1 j hj]
    refine ⟨by omega, by omega, fun q => ?_⟩
    have := (hB.2.2 q).1
    omega
theorem bnR_len2 {xs : List Nd} {Λ : Nat → Int} {k lv : Int} {ar i : Nat} (m : Nat) : (bnR xs Λ k ar lv i m).length + i = unS xs i m := by
  have := unS_le xs i m
  rw [bnR_len]
  omega
theorem idR_len2 {xs : List Nd} {Λ : Nat → Int} {ar : Int} {i : Nat} (m : Nat) : (idR xs Λ ar i m).length + i = ixS xs i m := by
  have := ixS_le xs i m
  rw [idR_len]
  omega
theorem brR_len2 {xs : List Nd} {Λ : Nat → Int} {k first own head : Int} {ar i ys ni x0 : Nat} : (brR xs Λ k ar first own head i ys ni x0).length + i + x0 = unS xs i ys + (ni + 1) + 1 + ixS xs x0 ni + ys + 1 + ys := by
  have := unS_le xs i ys
  have := ixS_le xs x0 ni
  rw [brR_len]
  omega
theorem Spn_in2 {xs : List Nd} (hc : Cpl xs) {p np ni x0 : Nat} (hp : p < xs.length) (h : Spn xs p np ni x0) : ixS xs x0 ni ≤ xs.length ∧ x0 ≤ ixS xs x0 ni ∧ np + ni + 1 + np ≤ xs.length := by
  have l1 := (lnS_ok hc hp).2.1
  have := Spn_in hc hp h
  omega
theorem unS_mono (xs : List Nd) (i : Nat) {m n : Nat} (h : m ≤ n) : unS xs i m ≤ unS xs i n := by
  obtain ⟨k, rfl⟩ : ∃ k, n = m + k := ⟨n - m, by omega⟩
  rw [unS_add]
  exact unS_le _ _ _
theorem ixS_mono (xs : List Nd) (i : Nat) {m n : Nat} (h : m ≤ n) : ixS xs i m ≤ ixS xs i n := by
  obtain ⟨k, rfl⟩ : ∃ k, n = m + k := ⟨n - m, by omega⟩
  rw [ixS_add]
  exact ixS_le _ _ _
set_option maxRecDepth 100000 in
set_option maxHeartbeats 4000000 in
theorem mW_brought {l : Launch} {V : mv_V} {M : mv_M} {r cap lq c : Nat} {A : Nat → Nat} {F : Nat → Nat → Int} {tn gn : Int} (hC : RefC V M r A (rN cap lq) F (c : Nat) tn gn) (hcc : c ≤ cap) (hcap0 : 1 ≤ cap) (hcap : cap ≤ 1000000) {Λ : Nat → Int} (hL : F 12 = Λ) {xs : List Nd} {b : Nat} (hs : seF F b xs) (hl : b + xs.length ≤ c) {g d np ni jx i ys p x0 : Nat} (hBr : BrO xs d np ni jx i ys p x0) (ho : AOk xs) (hg : g < 100) (hd : d < 100) (h7 : F 7 g = (b : Nat)) (h8 : F 8 g = (d : Nat)) (h9g : F 9 g = (np : Nat)) (h9 : F 9 d = (np : Nat)) (h10 : F 10 d = (ni : Nat)) {k first own head : Int} (hpn : np + jx ≤ 1000 ∧ ni ≤ 1000) (rk : Sm k) (rf : -100000 ≤ first ∧ first ≤ 100000) (ro : -100000 ≤ own ∧ own ≤ 100000) (rh : -100000 ≤ head ∧ head ≤ 100000) (hlv : ∀ l : Nat, l < np + jx → -1000000 ≤ Λ l ∧ Λ l ≤ 1000000) (hlq : np + jx ≤ lq ∧ 1 ≤ lq ∧ lq ≤ 4000) (hnb : c + (brR xs Λ k (np + jx) first own head i ys ni x0).length ≤ 500000) : Met l y_Mod_brought ws_Mod_brought (rM 6 (pC (capL cap c (brR xs Λ k (np + jx) first own head i ys ni x0).length) (lvS lq (np + jx) ys) - pC cap lq) (pS (capL cap c (brR xs Λ k (np + jx) first own head i ys ni x0).length) (lvS lq (np + jx) ys) - pS cap lq) 200) (mv_Pre (kk V) [.ref r, .int (iI ((g : Nat))), .int (iI ((jx : Nat))), .int (iI (k)), .int (iI (first)), .int (iI (own)), .int (iI (head))] M) (mv_Q (kk V) (fun z0 M' => z0 = none ∧ wrP V r cap lq (lvS lq (np + jx) ys) F c tn gn (brR xs Λ k (np + jx) first own head i ys ni x0) (upL Λ (np + jx) first ys) M')) (pC (capL cap c (brR xs Λ k (np + jx) first own head i ys ni x0).length) (lvS lq (np + jx) ys) - pC cap lq) (pS (capL cap c (brR xs Λ k (np + jx) first own head i ys ni x0).length) (lvS lq (np + jx) ys) - pS cap lq) V.2.2.2.2 := by
  refine mv_Met (by decide) rfl (Nat.le_of_ble_eq_true rfl) (fun X hX B => ?_)
  subst hX
  replace B : mv_B X (kk V) c_Mod_brought ws_Mod_brought "FamilyRulesModel" 12 (Option.none : Option Jvm.ClassFile.FieldType) (rM 6 (pC (capL cap c (brR xs Λ k (np + jx) first own head i ys ni x0).length) (lvS lq (np + jx) ys) - pC cap lq) (pS (capL cap c (brR xs Λ k (np + jx) first own head i ys ni x0).length) (lvS lq (np + jx) ys) - pS cap lq) 200) "brought" := B
  obtain ⟨Q, hQ⟩ : ∃ Q, Q = mv_E X (kk V) (fun z0 M' => z0 = none ∧ wrP V r cap lq (lvS lq (np + jx) ys) F c tn gn (brR xs Λ k (np + jx) first own head i ys ni x0) (upL Λ (np + jx) first ys) M') (pC (capL cap c (brR xs Λ k (np + jx) first own head i ys ni x0).length) (lvS lq (np + jx) ys) - pC cap lq) (pS (capL cap c (brR xs Λ k (np + jx) first own head i ys ni x0).length) (lvS lq (np + jx) ys) - pS cap lq) := ⟨_, rfl⟩
  rw [← hQ]
  show mv_G X Q (kk V) 12 0 [(0, .ref r), (1, .int (iI ((g : Nat)))), (2, .int (iI ((jx : Nat)))), (3, .int (iI (k))), (4, .int (iI (first))), (5, .int (iI (own))), (6, .int (iI (head)))] [] M 0 0
  have hrc : (rM 6 (pC (capL cap c (brR xs Λ k (np + jx) first own head i ys ni x0).length) (lvS lq (np + jx) ys) - pC cap lq) (pS (capL cap c (brR xs Λ k (np + jx) first own head i ys ni x0).length) (lvS lq (np + jx) ys) - pS cap lq) 200).cells = pC (capL cap c (brR xs Λ k (np + jx) first own head i ys ni x0).length) (lvS lq (np + jx) ys) - pC cap lq := rfl
  have hrs : (rM 6 (pC (capL cap c (brR xs Λ k (np + jx) first own head i ys ni x0).length) (lvS lq (np + jx) ys) - pC cap lq) (pS (capL cap c (brR xs Λ k (np + jx) first own head i ys ni x0).length) (lvS lq (np + jx) ys) - pS cap lq) 200).slots = pS (capL cap c (brR xs Λ k (np + jx) first own head i ys ni x0).length) (lvS lq (np + jx) ys) - pS cap lq := rfl
  subst hL
  clear hrc hrs
  obtain ⟨Y0, hY0⟩ : ∃ Y : List Nd, Y = [] := ⟨_, rfl⟩
  have hl0 : Y0.length = 0 := by rw [hY0]; rfl
  have hC0 : RefC V M r A (rN (capL cap c Y0.length) lq) F ((c + Y0.length : Nat) : Int) tn gn := by rw [hl0]; exact hC
  have hW0 : WR F F c Y0 := by rw [hY0]; exact WR_nil
  obtain ⟨N9, hN9⟩ : ∃ n : Nat, n = (brR xs (F 12) k (np + jx) first own head i ys ni x0).length := ⟨_, rfl⟩
  obtain ⟨Q9, hQ9⟩ : ∃ n : Nat, n = lvS lq (np + jx) ys := ⟨_, rfl⟩
  rw [← hN9] at hnb
  obtain ⟨hcp, hn1, hcl, hBa, hAi, hi, hAd, hAl, hPu, ⟨a9, v9, hPa, hPt⟩, hSp⟩ := hBr
  have hNl : N9 + i + x0 = unS xs i ys + (ni + 1) + 1 + ixS xs x0 ni + ys + 1 + ys := by rw [hN9]; exact brR_len2
  have hQl : lq ≤ Q9 := by rw [hQ9]; exact (lvS_ok (lq := lq) (v := np + jx) (by omega) (by omega) ys).2.1
  obtain ⟨hA1, hA2, hA3⟩ := alO hs hcp hAl (show b + xs.length ≤ capL cap c Y0.length by have := capL_ge cap c Y0.length; omega)
  have hBy1 := (Bds_ok hcp hAl.1 ys (Nat.le_refl _)).1
  have hBy2 := (Bds_ok hcp hAl.1 ys (Nat.le_refl _)).2.1
  have hBle := Bds_le hcp hAl.1 ys (Nat.le_refl _)
  have hPd : dpS xs p = ((np + jx + ys : Nat) : Int) := by rw [← hPu, hBy2, hAd]; omega
  have hPl : p < xs.length := by rw [← hPu]; exact hBy1
  have hSi := Spn_in2 hcp hPl hSp
  have hAr : unR F (F 7 g) (F 9 g + ((jx : Nat) : Int)).toNat + 1 = ((b + i : Nat) : Int) := by rw [h7, h9g, show (((np : Nat) : Int) + ((jx : Nat) : Int)).toNat = np + jx by omega, show ((b : Nat) : Int) = ((b + 0 : Nat) : Int) by omega, unR_S hs hcp hBa _ (Nat.le_refl _), ← hAi]; omega
  have hAu : ∀ z : Nat, (z : Int) < F 9 g + ((jx : Nat) : Int) → 0 ≤ unR F (F 7 g) z ∧ unR F (F 7 g) z + 1 < capL cap c Y0.length := fun z hz => by
    rw [h9g] at hz
    have q1 := (Bds_ok hcp hBa z (by omega)).2.2 (by omega)
    have q2 := capL_ge cap c Y0.length
    rw [h7, show ((b : Nat) : Int) = ((b + 0 : Nat) : Int) by omega, unR_S hs hcp hBa _ (by omega)]
    omega
  have hLv : ∀ y : Nat, y ≤ ys → ∀ z : Nat, z < np + jx + y → -1000000 ≤ upL (F 12) (np + jx) first y z ∧ upL (F 12) (np + jx) first y z ≤ 1000000   := fun y hy9 z hz => by
    by_cases q : z < np + jx
    · rw [upL_lt q]; exact hlv z q
    · rw [upL_in (by omega)]; omega
  have hb0 : Y0.length ≤ N9 := by omega
  have ck0 : CK cap c Y0.length := CK_of hcc hcap0 hcap (by omega)
  have hq0 : lq ≤ lq ∧ lq ≤ Q9 := by omega
  have pl0 : PL cap lq (capL cap c Y0.length) (lq) := PL_le (capL_ge cap c Y0.length) hq0.1
  refine mv_widen (c2 := pC (capL cap c Y0.length) (lq) - pC cap lq) (s2 := pS (capL cap c Y0.length) (lq) - pS cap lq) (Nat.zero_le _) (Nat.zero_le _) ?_
  have k1_8 : M (A 8) = some (iA V (100) (F 8)) := hC0.2.1 8 (by decide)
  have k1_9 : M (A 9) = some (iA V (100) (F 9)) := hC0.2.1 9 (by decide)
  have k1_10 : M (A 10) = some (iA V (100) (F 10)) := hC0.2.1 10 (by decide)
  refine mv_aloadR_n B d_Mod_brought_0 rfl 0 rfl ?_
  refine gf_Mod_37 B hC0.1 rfl d_Mod_brought_1 ?_
  refine mv_iload_n B d_Mod_brought_4 rfl 1 rfl ?_
  refine ia_ld B k1_9 (by omega) (by omega) (by omega) d_Mod_brought_5 ?_
  rw [show Int.toNat ((g : Nat)) = g from by omega]
  have rr2 : R32 (F 9 g) := (hC0.R 9) _
  rw [show F 9 g = (np : Nat) from (congrFun (hW0.2.1 9 (by omega) (by omega)) g).trans h9g]
  refine mv_istore (lv' := [(7, .int (iI ((np : Nat)))), (0, .ref r), (1, .int (iI ((g : Nat)))), (2, .int (iI ((jx : Nat)))), (3, .int (iI (k))), (4, .int (iI (first))), (5, .int (iI (own))), (6, .int (iI (head)))]) B d_Mod_brought_6 (by decide) rfl ?_
  refine mv_aloadR_n B d_Mod_brought_8 rfl 1 rfl ?_
  refine gf_Mod_34 B hC0.1 rfl d_Mod_brought_9 ?_
  refine mv_iload_n B d_Mod_brought_12 rfl 2 rfl ?_
  refine ia_ld B k1_8 (by omega) (by omega) (by omega) d_Mod_brought_13 ?_
  rw [show Int.toNat ((g : Nat)) = g from by omega]
  have rr3 : R32 (F 8 g) := (hC0.R 8) _
  rw [show F 8 g = (d : Nat) from (congrFun (hW0.2.1 8 (by omega) (by omega)) g).trans h8]
  refine mv_istore (lv' := [(8, .int (iI ((d : Nat)))), (7, .int (iI ((np : Nat)))), (0, .ref r), (1, .int (iI ((g : Nat)))), (2, .int (iI ((jx : Nat)))), (3, .int (iI (k))), (4, .int (iI (first))), (5, .int (iI (own))), (6, .int (iI (head)))]) B d_Mod_brought_14 (by decide) rfl ?_
  refine mv_aloadR_n B d_Mod_brought_16 rfl 2 rfl ?_
  refine mv_iload_n B d_Mod_brought_17 rfl 3 rfl ?_
  refine mv_iload_n B d_Mod_brought_18 rfl 4 rfl ?_
  refine ca_Mod_137 (mc := 0) (ms := 0) (As := [.int (iI ((g : Nat))), .int (iI ((jx : Nat)))]) (rest := []) B (m_Mod_argument hC0 ck0.2.2 (g := g) (k := ((jx : Nat) : Int)) hg (by rw [h9g]; omega) hAu) rfl rfl ⟨Nat.le_of_ble_eq_true rfl, Nat.le_of_ble_eq_true rfl⟩ hC0.1 rfl rfl (Nat.le_of_ble_eq_true rfl) d_Mod_brought_19 ⟨PL_0c (PL_le (capL_mono cap c (hN9 ▸ (show Y0.length ≤ N9 by omega))) (hQ9 ▸ hq0.2)), PL_0s (PL_le (capL_mono cap c (hN9 ▸ (show Y0.length ≤ N9 by omega))) (hQ9 ▸ hq0.2))⟩ (mv_x ?_)
  show mv_G X Q (kk V) 12 22 [(8, .int (iI ((d : Nat)))), (7, .int (iI ((np : Nat)))), (0, .ref r), (1, .int (iI ((g : Nat)))), (2, .int (iI ((jx : Nat)))), (3, .int (iI (k))), (4, .int (iI (first))), (5, .int (iI (own))), (6, .int (iI (head)))] [.int (iI (unR F (F 7 g) (F 9 g + ((jx : Nat) : Int)).toNat + 1))] M (pC (capL cap c Y0.length) (lq) - pC cap lq) (pS (capL cap c Y0.length) (lq) - pS cap lq)
  rw [hAr]
  refine mv_istore (lv' := [(9, .int (iI (((b + i : Nat) : Int)))), (8, .int (iI ((d : Nat)))), (7, .int (iI ((np : Nat)))), (0, .ref r), (1, .int (iI ((g : Nat)))), (2, .int (iI ((jx : Nat)))), (3, .int (iI (k))), (4, .int (iI (first))), (5, .int (iI (own))), (6, .int (iI (head)))]) B d_Mod_brought_22 (by decide) rfl ?_
  refine mv_aloadR_n B d_Mod_brought_24 rfl 3 rfl ?_
  refine mv_iload B d_Mod_brought_25 0 rfl ?_
  refine ca_Mod_104 (mc := 0) (ms := 0) (As := [.int (iI (((b + i : Nat) : Int)))]) (rest := []) B (m_Mod_alls hC0 ck0.2.2 (b := ((b + i : Nat) : Int)) (n := ys) (by omega) hA1 hA2 hA3) rfl rfl ⟨Nat.le_of_ble_eq_true rfl, Nat.le_of_ble_eq_true rfl⟩ hC0.1 rfl rfl (Nat.le_of_ble_eq_true rfl) d_Mod_brought_27 ⟨PL_0c (PL_le (capL_mono cap c (hN9 ▸ (show Y0.length ≤ N9 by omega))) (hQ9 ▸ hq0.2)), PL_0s (PL_le (capL_mono cap c (hN9 ▸ (show Y0.length ≤ N9 by omega))) (hQ9 ▸ hq0.2))⟩ (mv_x ?_)
  show mv_G X Q (kk V) 12 30 [(9, .int (iI (((b + i : Nat) : Int)))), (8, .int (iI ((d : Nat)))), (7, .int (iI ((np : Nat)))), (0, .ref r), (1, .int (iI ((g : Nat)))), (2, .int (iI ((jx : Nat)))), (3, .int (iI (k))), (4, .int (iI (first))), (5, .int (iI (own))), (6, .int (iI (head)))] [.int (iI ((ys : Nat)))] M (pC (capL cap c Y0.length) (lq) - pC cap lq) (pS (capL cap c Y0.length) (lq) - pS cap lq)
  refine mv_istore (lv' := [(10, .int (iI ((ys : Nat)))), (9, .int (iI (((b + i : Nat) : Int)))), (8, .int (iI ((d : Nat)))), (7, .int (iI ((np : Nat)))), (0, .ref r), (1, .int (iI ((g : Nat)))), (2, .int (iI ((jx : Nat)))), (3, .int (iI (k))), (4, .int (iI (first))), (5, .int (iI (own))), (6, .int (iI (head)))]) B d_Mod_brought_30 (by decide) rfl ?_
  refine mv_iconst (z := 0) B d_Mod_brought_32 rfl ?_
  refine mv_istore (lv' := [(11, .int (iI (0))), (10, .int (iI ((ys : Nat)))), (9, .int (iI (((b + i : Nat) : Int)))), (8, .int (iI ((d : Nat)))), (7, .int (iI ((np : Nat)))), (0, .ref r), (1, .int (iI ((g : Nat)))), (2, .int (iI ((jx : Nat)))), (3, .int (iI (k))), (4, .int (iI (first))), (5, .int (iI (own))), (6, .int (iI (head)))]) B d_Mod_brought_33 (by decide) rfl ?_
  have L35 : ∀ (fu : Nat) (y : Nat) (My1 : mv_M) (Ay1 : Nat → Nat) (Fy1 : Nat → Nat → Int), (y ≤ ys) → (WR F Fy1 c (Y0 ++ bnR xs (F 12) k (np + jx) first i y)) → (Fy1 12 = upL (F 12) (np + jx) first y) → (RefC V My1 r Ay1 (rN (capL cap c (Y0 ++ bnR xs (F 12) k (np + jx) first i y).length) (lvS lq (np + jx) y)) Fy1 ((c + (Y0 ++ bnR xs (F 12) k (np + jx) first i y).length : Nat) : Int) tn gn) → (ys - y) < fu → mv_G X Q (kk V) 12 35 [(11, .int (iI ((y : Nat)))), (9, .int (iI (((b + unS xs i y : Nat) : Int)))), (0, .ref r), (1, .int (iI ((g : Nat)))), (2, .int (iI ((jx : Nat)))), (3, .int (iI (k))), (4, .int (iI (first))), (5, .int (iI (own))), (6, .int (iI (head))), (7, .int (iI ((np : Nat)))), (8, .int (iI ((d : Nat)))), (10, .int (iI ((ys : Nat))))] [] My1 (pC (capL cap c (Y0 ++ bnR xs (F 12) k (np + jx) first i y).length) (lvS lq (np + jx) y) - pC cap lq) (pS (capL cap c (Y0 ++ bnR xs (F 12) k (np + jx) first i y).length) (lvS lq (np + jx) y) - pS cap lq) := by
    intro fu
    induction fu with
    | zero => intro y My1 Ay1 Fy1 hy hWl hLl hCl hm; exact absurd hm (Nat.not_lt_zero _)
    | succ fu ih35 =>
      intro y My1 Ay1 Fy1 hy hWl hLl hCl hm
      obtain ⟨Yl35, hYl35⟩ : ∃ Y : List Nd, Y = (Y0 ++ bnR xs (F 12) k (np + jx) first i y) := ⟨_, rfl⟩
      rw [← hYl35] at hWl hCl
      rw [← hYl35]
      have lYl35 : Yl35.length = Y0.length + (bnR xs (F 12) k (np + jx) first i y).length := by rw [hYl35, List.length_append]
      have lz35 : (bnR xs (F 12) k (np + jx) first i y).length + i = unS xs i y := bnR_len2 y
      have hmo := unS_mono xs i (show y ≤ ys from hy)
      have hlS1 := (lvS_ok (lq := lq) (v := np + jx) (by omega) (by omega) y).1
      have hlS2 := (lvS_ok (lq := lq) (v := np + jx) (by omega) (by omega) y).2.1
      have hlT : lvS lq (np + jx) y ≤ Q9 := by rw [hQ9]; exact lvS_m (by omega)
      have hl4 := (lvS_ok (lq := lq) (v := np + jx) (by omega) (by omega) y).2.2 (by omega) (by omega)
      have hbL35 : Yl35.length ≤ N9 := by omega
      have ckL35 : CK cap c Yl35.length := CK_of hcc hcap0 hcap (by omega)
      have hqL35 : lq ≤ lvS lq (np + jx) y ∧ lvS lq (np + jx) y ≤ Q9 := by omega
      have plL35 : PL cap lq (capL cap c Yl35.length) (lvS lq (np + jx) y) := PL_le (capL_ge cap c Yl35.length) hqL35.1
      have k5_8 : My1 (Ay1 8) = some (iA V (100) (Fy1 8)) := hCl.2.1 8 (by decide)
      have k5_9 : My1 (Ay1 9) = some (iA V (100) (Fy1 9)) := hCl.2.1 9 (by decide)
      have k5_10 : My1 (Ay1 10) = some (iA V (100) (Fy1 10)) := hCl.2.1 10 (by decide)
      refine mv_iload B d_Mod_brought_35 0 rfl ?_
      refine mv_iload B d_Mod_brought_37 11 rfl ?_
      refine mv_icmp_ge (tgt := 69) B d_Mod_brought_39 (by decide) (by omega) (by omega) (fun c6 => ?_) (fun c6 => ?_)
      · have ey : ys = y := by omega
        subst ey
        rw [hPu]
        refine mv_aloadR_n B d_Mod_brought_69 rfl 2 rfl ?_
        refine mv_aloadR_n B d_Mod_brought_70 rfl 2 rfl ?_
        refine gf_Mod_40 B hCl.1 rfl d_Mod_brought_71 ?_
        refine mv_iload B d_Mod_brought_74 10 rfl ?_
        refine ia_ld B k5_10 (by omega) (by omega) (by omega) d_Mod_brought_76 ?_
        rw [show Int.toNat ((d : Nat)) = d from by omega]
        have rr7 : R32 ((Fy1 10) d) := (hCl.R 10) _
        rw [show Fy1 10 d = (ni : Nat) from (congrFun (hWl.2.1 10 (by omega) (by omega)) d).trans h10]
        refine mv_iconst (z := 1) B d_Mod_brought_77 rfl ?_
        refine mv_iadd B d_Mod_brought_78 ?_
        have w8z : (apL (ni + 1)).length = ni + 1 := apL_len _
        have w8q : lvS lq (np + jx) ys ≤ lvS lq (np + jx) ys ∧ lvS lq (np + jx) ys ≤ Q9 := ⟨Nat.le_refl _, hqL35.2⟩
        have w8n : Yl35.length + (apL (ni + 1)).length ≤ N9 := by omega
        have w8e : capL (capL cap c Yl35.length) (c + Yl35.length) (apL (ni + 1)).length = capL cap c (Yl35.length + (apL (ni + 1)).length) := (capL_add cap c Yl35.length (apL (ni + 1)).length).symm
        have w8m : PL (capL cap c Yl35.length) (lvS lq (np + jx) ys) (capL cap c (Yl35.length + (apL (ni + 1)).length)) (lvS lq (np + jx) ys) := PL_le (capL_mono cap c (Nat.le_add_right _ _)) w8q.1
        have w8t : PL (capL cap c (Yl35.length + (apL (ni + 1)).length)) (lvS lq (np + jx) ys) (capL cap c (brR xs (F 12) k (np + jx) first own head i ys ni x0).length) (lvS lq (np + jx) ys) := PL_le (capL_mono cap c (hN9 ▸ w8n)) (hQ9 ▸ w8q.2)
        refine ca_Mod_153 (mc := pC (capL (capL cap c Yl35.length) (c + Yl35.length) (apL (ni + 1)).length) (lvS lq (np + jx) ys) - pC (capL cap c Yl35.length) (lvS lq (np + jx) ys)) (ms := pS (capL (capL cap c Yl35.length) (c + Yl35.length) (apL (ni + 1)).length) (lvS lq (np + jx) ys) - pS (capL cap c Yl35.length) (lvS lq (np + jx) ys)) (rm' := rM 3 (pC (capL (capL cap c Yl35.length) (c + Yl35.length) (apL (ni + 1)).length) (lvS lq (np + jx) ys) - pC (capL cap c Yl35.length) (lvS lq (np + jx) ys)) (pS (capL (capL cap c Yl35.length) (c + Yl35.length) (apL (ni + 1)).length) (lvS lq (np + jx) ys) - pS (capL cap c Yl35.length) (lvS lq (np + jx) ys)) 100) (As := [.int (iI ((ni : Nat) + 1))]) (rest := []) B (mW_apps hCl ckL35.1 ckL35.2.1 ckL35.2.2 (n := ni + 1) (m := (ni : Nat) + 1) (by omega) (by rw [apL_len]; omega) hLl) rfl rfl ⟨Nat.le_of_ble_eq_true rfl, Nat.le_of_ble_eq_true rfl⟩ hCl.1 rfl rfl (Nat.le_of_ble_eq_true rfl) d_Mod_brought_79 ⟨by rw [w8e]; exact PL_c plL35 w8m w8t, by rw [w8e]; exact PL_s plL35 w8m w8t⟩ (fun v1 w8M ep => ?_)
        obtain ⟨e1, w8U⟩ := ep
        subst e1
        have w8U := wrP_app (lq := lq) hWl w8U
        obtain ⟨w8Y, w8h⟩ : ∃ Y : List Nd, Y = Yl35 ++ (apL (ni + 1)) := ⟨_, rfl⟩
        rw [← w8h] at w8U
        have w8l : w8Y.length = Yl35.length + (apL (ni + 1)).length := by rw [w8h, List.length_append]
        obtain ⟨w8A, w8F, w8W, w8L, w8C⟩ := w8U
        rw [← w8l] at w8e w8m w8t
        have w8b : CK cap c w8Y.length := CK_of hcc hcap0 hcap (by omega)
        have w8p := plL35.tr w8m
        refine mv_widen (c2 := pC (capL cap c w8Y.length) (lvS lq (np + jx) ys) - pC cap lq) (s2 := pS (capL cap c w8Y.length) (lvS lq (np + jx) ys) - pS cap lq) (by rw [w8e]; exact PL_c2 plL35 w8m) (by rw [w8e]; exact PL_s2 plL35 w8m) ?_
        clear w8e w8m w8t w8n
        show mv_G X Q (kk V) 12 82 [(11, .int (iI ((ys : Nat)))), (9, .int (iI (((b + p : Nat) : Int)))), (0, .ref r), (1, .int (iI ((g : Nat)))), (2, .int (iI ((jx : Nat)))), (3, .int (iI (k))), (4, .int (iI (first))), (5, .int (iI (own))), (6, .int (iI (head))), (7, .int (iI ((np : Nat)))), (8, .int (iI ((d : Nat)))), (10, .int (iI ((ys : Nat))))] [] w8M (pC (capL cap c w8Y.length) (lvS lq (np + jx) ys) - pC cap lq) (pS (capL cap c w8Y.length) (lvS lq (np + jx) ys) - pS cap lq)
        have k9_8 : w8M (w8A 8) = some (iA V (100) (w8F 8)) := w8C.2.1 8 (by decide)
        have k9_9 : w8M (w8A 9) = some (iA V (100) (w8F 9)) := w8C.2.1 9 (by decide)
        have k9_10 : w8M (w8A 10) = some (iA V (100) (w8F 10)) := w8C.2.1 10 (by decide)
        refine mv_aloadR_n B d_Mod_brought_82 rfl 2 rfl ?_
        refine mv_iload B d_Mod_brought_83 8 rfl ?_
        have w10z : ([((0 : Int), 1000000 + (head), (0 : Int))] : List Nd).length = 1 := rfl
        have w10q : lvS lq (np + jx) ys ≤ lvS lq (np + jx) ys ∧ lvS lq (np + jx) ys ≤ Q9 := ⟨Nat.le_refl _, w8q.2⟩
        have w10n : w8Y.length + (([((0 : Int), 1000000 + (head), (0 : Int))] : List Nd)).length ≤ N9 := by omega
        have w10e : capL (capL cap c w8Y.length) (c + w8Y.length) (([((0 : Int), 1000000 + (head), (0 : Int))] : List Nd)).length = capL cap c (w8Y.length + (([((0 : Int), 1000000 + (head), (0 : Int))] : List Nd)).length) := (capL_add cap c w8Y.length (([((0 : Int), 1000000 + (head), (0 : Int))] : List Nd)).length).symm
        have w10m : PL (capL cap c w8Y.length) (lvS lq (np + jx) ys) (capL cap c (w8Y.length + (([((0 : Int), 1000000 + (head), (0 : Int))] : List Nd)).length)) (lvS lq (np + jx) ys) := PL_le (capL_mono cap c (Nat.le_add_right _ _)) w10q.1
        have w10t : PL (capL cap c (w8Y.length + (([((0 : Int), 1000000 + (head), (0 : Int))] : List Nd)).length)) (lvS lq (np + jx) ys) (capL cap c (brR xs (F 12) k (np + jx) first own head i ys ni x0).length) (lvS lq (np + jx) ys) := PL_le (capL_mono cap c (hN9 ▸ w10n)) (hQ9 ▸ w10q.2)
        refine ca_Mod_126 (mc := pC (capL (capL cap c w8Y.length) (c + w8Y.length) (([((0 : Int), 1000000 + (head), (0 : Int))] : List Nd)).length) (lvS lq (np + jx) ys) - pC (capL cap c w8Y.length) (lvS lq (np + jx) ys)) (ms := pS (capL (capL cap c w8Y.length) (c + w8Y.length) (([((0 : Int), 1000000 + (head), (0 : Int))] : List Nd)).length) (lvS lq (np + jx) ys) - pS (capL cap c w8Y.length) (lvS lq (np + jx) ys)) (rm' := rM 3 (pC (capL (capL cap c w8Y.length) (c + w8Y.length) (([((0 : Int), 1000000 + (head), (0 : Int))] : List Nd)).length) (lvS lq (np + jx) ys) - pC (capL cap c w8Y.length) (lvS lq (np + jx) ys)) (pS (capL (capL cap c w8Y.length) (c + w8Y.length) (([((0 : Int), 1000000 + (head), (0 : Int))] : List Nd)).length) (lvS lq (np + jx) ys) - pS (capL cap c w8Y.length) (lvS lq (np + jx) ys)) 100) (As := [.int (iI (head))]) (rest := []) B (mW_made w8C w8b.1 w8b.2.1 w8b.2.2 (v := head) (by omega) w8L) rfl rfl ⟨Nat.le_of_ble_eq_true rfl, Nat.le_of_ble_eq_true rfl⟩ w8C.1 rfl rfl (Nat.le_of_ble_eq_true rfl) d_Mod_brought_85 ⟨by rw [w10e]; exact PL_c w8p w10m w10t, by rw [w10e]; exact PL_s w8p w10m w10t⟩ (fun v1 w10M ep => ?_)
        obtain ⟨e1, w10U⟩ := ep
        subst e1
        have w10U := wrP_app (lq := lq) w8W w10U
        obtain ⟨w10Y, w10h⟩ : ∃ Y : List Nd, Y = w8Y ++ (([((0 : Int), 1000000 + (head), (0 : Int))] : List Nd)) := ⟨_, rfl⟩
        rw [← w10h] at w10U
        have w10l : w10Y.length = w8Y.length + (([((0 : Int), 1000000 + (head), (0 : Int))] : List Nd)).length := by rw [w10h, List.length_append]
        obtain ⟨w10A, w10F, w10W, w10L, w10C⟩ := w10U
        rw [← w10l] at w10e w10m w10t
        have w10b : CK cap c w10Y.length := CK_of hcc hcap0 hcap (by omega)
        have w10p := w8p.tr w10m
        refine mv_widen (c2 := pC (capL cap c w10Y.length) (lvS lq (np + jx) ys) - pC cap lq) (s2 := pS (capL cap c w10Y.length) (lvS lq (np + jx) ys) - pS cap lq) (by rw [w10e]; exact PL_c2 w8p w10m) (by rw [w10e]; exact PL_s2 w8p w10m) ?_
        clear w10e w10m w10t w10n
        show mv_G X Q (kk V) 12 88 [(11, .int (iI ((ys : Nat)))), (9, .int (iI (((b + p : Nat) : Int)))), (0, .ref r), (1, .int (iI ((g : Nat)))), (2, .int (iI ((jx : Nat)))), (3, .int (iI (k))), (4, .int (iI (first))), (5, .int (iI (own))), (6, .int (iI (head))), (7, .int (iI ((np : Nat)))), (8, .int (iI ((d : Nat)))), (10, .int (iI ((ys : Nat))))] [] w10M (pC (capL cap c w10Y.length) (lvS lq (np + jx) ys) - pC cap lq) (pS (capL cap c w10Y.length) (lvS lq (np + jx) ys) - pS cap lq)
        have k11_8 : w10M (w10A 8) = some (iA V (100) (w10F 8)) := w10C.2.1 8 (by decide)
        have k11_9 : w10M (w10A 9) = some (iA V (100) (w10F 9)) := w10C.2.1 9 (by decide)
        have k11_10 : w10M (w10A 10) = some (iA V (100) (w10F 10)) := w10C.2.1 10 (by decide)
        refine mv_iconst (z := 0) B d_Mod_brought_88 rfl ?_
        refine mv_istore (lv' := [(11, .int (iI (0))), (9, .int (iI (((b + p : Nat) : Int)))), (0, .ref r), (1, .int (iI ((g : Nat)))), (2, .int (iI ((jx : Nat)))), (3, .int (iI (k))), (4, .int (iI (first))), (5, .int (iI (own))), (6, .int (iI (head))), (7, .int (iI ((np : Nat)))), (8, .int (iI ((d : Nat)))), (10, .int (iI ((ys : Nat))))]) B d_Mod_brought_89 (by decide) rfl ?_
        have L91 : ∀ (fu : Nat) (j : Nat) (My1 : mv_M) (Ay1 : Nat → Nat) (Fy1 : Nat → Nat → Int), (j ≤ ni) → (WR F Fy1 c (w10Y ++ idR xs (upL (F 12) (np + jx) first ys) ((np + jx + ys : Nat) : Int) x0 j)) → (Fy1 12 = upL (F 12) (np + jx) first ys) → (RefC V My1 r Ay1 (rN (capL cap c (w10Y ++ idR xs (upL (F 12) (np + jx) first ys) ((np + jx + ys : Nat) : Int) x0 j).length) (lvS lq (np + jx) ys)) Fy1 ((c + (w10Y ++ idR xs (upL (F 12) (np + jx) first ys) ((np + jx + ys : Nat) : Int) x0 j).length : Nat) : Int) tn gn) → (ni - j) < fu → mv_G X Q (kk V) 12 91 [(11, .int (iI ((j : Nat)))), (9, .int (iI (((b + p : Nat) : Int)))), (0, .ref r), (1, .int (iI ((g : Nat)))), (2, .int (iI ((jx : Nat)))), (3, .int (iI (k))), (4, .int (iI (first))), (5, .int (iI (own))), (6, .int (iI (head))), (7, .int (iI ((np : Nat)))), (8, .int (iI ((d : Nat)))), (10, .int (iI ((ys : Nat))))] [] My1 (pC (capL cap c (w10Y ++ idR xs (upL (F 12) (np + jx) first ys) ((np + jx + ys : Nat) : Int) x0 j).length) (lvS lq (np + jx) ys) - pC cap lq) (pS (capL cap c (w10Y ++ idR xs (upL (F 12) (np + jx) first ys) ((np + jx + ys : Nat) : Int) x0 j).length) (lvS lq (np + jx) ys) - pS cap lq) := by
          intro fu
          induction fu with
          | zero => intro j My1 Ay1 Fy1 hj9 hWl hLl hCl hm; exact absurd hm (Nat.not_lt_zero _)
          | succ fu ih91 =>
            intro j My1 Ay1 Fy1 hj9 hWl hLl hCl hm
            obtain ⟨Yl91, hYl91⟩ : ∃ Y : List Nd, Y = (w10Y ++ idR xs (upL (F 12) (np + jx) first ys) ((np + jx + ys : Nat) : Int) x0 j) := ⟨_, rfl⟩
            rw [← hYl91] at hWl hCl
            rw [← hYl91]
            have lYl91 : Yl91.length = w10Y.length + (idR xs (upL (F 12) (np + jx) first ys) ((np + jx + ys : Nat) : Int) x0 j).length := by rw [hYl91, List.length_append]
            have lz91 : (idR xs (upL (F 12) (np + jx) first ys) ((np + jx + ys : Nat) : Int) x0 j).length + x0 = ixS xs x0 j := idR_len2 j
            have hmx := ixS_mono xs x0 (show j ≤ ni from hj9)
            have hbL91 : Yl91.length ≤ N9 := by omega
            have ckL91 : CK cap c Yl91.length := CK_of hcc hcap0 hcap (by omega)
            have hqL91 : lq ≤ lvS lq (np + jx) ys ∧ lvS lq (np + jx) ys ≤ Q9 := by omega
            have plL91 : PL cap lq (capL cap c Yl91.length) (lvS lq (np + jx) ys) := PL_le (capL_ge cap c Yl91.length) hqL91.1
            have k13_8 : My1 (Ay1 8) = some (iA V (100) (Fy1 8)) := hCl.2.1 8 (by decide)
            have k13_9 : My1 (Ay1 9) = some (iA V (100) (Fy1 9)) := hCl.2.1 9 (by decide)
            have k13_10 : My1 (Ay1 10) = some (iA V (100) (Fy1 10)) := hCl.2.1 10 (by decide)
            refine mv_iload B d_Mod_brought_91 0 rfl ?_
            refine mv_aloadR_n B d_Mod_brought_93 rfl 2 rfl ?_
            refine gf_Mod_40 B hCl.1 rfl d_Mod_brought_94 ?_
            refine mv_iload B d_Mod_brought_97 10 rfl ?_
            refine ia_ld B k13_10 (by omega) (by omega) (by omega) d_Mod_brought_99 ?_
            rw [show Int.toNat ((d : Nat)) = d from by omega]
            have rr14 : R32 ((Fy1 10) d) := (hCl.R 10) _
            rw [show Fy1 10 d = (ni : Nat) from (congrFun (hWl.2.1 10 (by omega) (by omega)) d).trans h10]
            refine mv_icmp_ge (tgt := 130) B d_Mod_brought_100 (by decide) (by omega) (by omega) (fun c15 => ?_) (fun c15 => ?_)
            · have ej : ni = j := by omega
              subst ej
              refine mv_aloadR_n B d_Mod_brought_130 rfl 2 rfl ?_
              refine mv_iload B d_Mod_brought_131 11 rfl ?_
              have w16z : (apL (ys)).length = ys := apL_len _
              have w16q : lvS lq (np + jx) ys ≤ lvS lq (np + jx) ys ∧ lvS lq (np + jx) ys ≤ Q9 := ⟨Nat.le_refl _, hqL91.2⟩
              have w16n : Yl91.length + (apL (ys)).length ≤ N9 := by omega
              have w16e : capL (capL cap c Yl91.length) (c + Yl91.length) (apL (ys)).length = capL cap c (Yl91.length + (apL (ys)).length) := (capL_add cap c Yl91.length (apL (ys)).length).symm
              have w16m : PL (capL cap c Yl91.length) (lvS lq (np + jx) ys) (capL cap c (Yl91.length + (apL (ys)).length)) (lvS lq (np + jx) ys) := PL_le (capL_mono cap c (Nat.le_add_right _ _)) w16q.1
              have w16t : PL (capL cap c (Yl91.length + (apL (ys)).length)) (lvS lq (np + jx) ys) (capL cap c (brR xs (F 12) k (np + jx) first own head i ys ni x0).length) (lvS lq (np + jx) ys) := PL_le (capL_mono cap c (hN9 ▸ w16n)) (hQ9 ▸ w16q.2)
              refine ca_Mod_153 (mc := pC (capL (capL cap c Yl91.length) (c + Yl91.length) (apL (ys)).length) (lvS lq (np + jx) ys) - pC (capL cap c Yl91.length) (lvS lq (np + jx) ys)) (ms := pS (capL (capL cap c Yl91.length) (c + Yl91.length) (apL (ys)).length) (lvS lq (np + jx) ys) - pS (capL cap c Yl91.length) (lvS lq (np + jx) ys)) (rm' := rM 3 (pC (capL (capL cap c Yl91.length) (c + Yl91.length) (apL (ys)).length) (lvS lq (np + jx) ys) - pC (capL cap c Yl91.length) (lvS lq (np + jx) ys)) (pS (capL (capL cap c Yl91.length) (c + Yl91.length) (apL (ys)).length) (lvS lq (np + jx) ys) - pS (capL cap c Yl91.length) (lvS lq (np + jx) ys)) 100) (As := [.int (iI ((ys : Nat)))]) (rest := []) B (mW_apps hCl ckL91.1 ckL91.2.1 ckL91.2.2 (n := ys) (m := (ys : Nat)) (by omega) (by rw [apL_len]; omega) hLl) rfl rfl ⟨Nat.le_of_ble_eq_true rfl, Nat.le_of_ble_eq_true rfl⟩ hCl.1 rfl rfl (Nat.le_of_ble_eq_true rfl) d_Mod_brought_133 ⟨by rw [w16e]; exact PL_c plL91 w16m w16t, by rw [w16e]; exact PL_s plL91 w16m w16t⟩ (fun v1 w16M ep => ?_)
              obtain ⟨e1, w16U⟩ := ep
              subst e1
              have w16U := wrP_app (lq := lq) hWl w16U
              obtain ⟨w16Y, w16h⟩ : ∃ Y : List Nd, Y = Yl91 ++ (apL (ys)) := ⟨_, rfl⟩
              rw [← w16h] at w16U
              have w16l : w16Y.length = Yl91.length + (apL (ys)).length := by rw [w16h, List.length_append]
              obtain ⟨w16A, w16F, w16W, w16L, w16C⟩ := w16U
              rw [← w16l] at w16e w16m w16t
              have w16b : CK cap c w16Y.length := CK_of hcc hcap0 hcap (by omega)
              have w16p := plL91.tr w16m
              refine mv_widen (c2 := pC (capL cap c w16Y.length) (lvS lq (np + jx) ys) - pC cap lq) (s2 := pS (capL cap c w16Y.length) (lvS lq (np + jx) ys) - pS cap lq) (by rw [w16e]; exact PL_c2 plL91 w16m) (by rw [w16e]; exact PL_s2 plL91 w16m) ?_
              clear w16e w16m w16t w16n
              show mv_G X Q (kk V) 12 136 [(11, .int (iI ((ni : Nat)))), (9, .int (iI (((b + p : Nat) : Int)))), (0, .ref r), (1, .int (iI ((g : Nat)))), (2, .int (iI ((jx : Nat)))), (3, .int (iI (k))), (4, .int (iI (first))), (5, .int (iI (own))), (6, .int (iI (head))), (7, .int (iI ((np : Nat)))), (8, .int (iI ((d : Nat)))), (10, .int (iI ((ys : Nat))))] [] w16M (pC (capL cap c w16Y.length) (lvS lq (np + jx) ys) - pC cap lq) (pS (capL cap c w16Y.length) (lvS lq (np + jx) ys) - pS cap lq)
              have k17_8 : w16M (w16A 8) = some (iA V (100) (w16F 8)) := w16C.2.1 8 (by decide)
              have k17_9 : w16M (w16A 9) = some (iA V (100) (w16F 9)) := w16C.2.1 9 (by decide)
              have k17_10 : w16M (w16A 10) = some (iA V (100) (w16F 10)) := w16C.2.1 10 (by decide)
              refine mv_aloadR_n B d_Mod_brought_136 rfl 2 rfl ?_
              refine mv_iload B d_Mod_brought_137 7 rfl ?_
              have w18z : ([((0 : Int), 1000000 + (own), (0 : Int))] : List Nd).length = 1 := rfl
              have w18q : lvS lq (np + jx) ys ≤ lvS lq (np + jx) ys ∧ lvS lq (np + jx) ys ≤ Q9 := ⟨Nat.le_refl _, w16q.2⟩
              have w18n : w16Y.length + (([((0 : Int), 1000000 + (own), (0 : Int))] : List Nd)).length ≤ N9 := by omega
              have w18e : capL (capL cap c w16Y.length) (c + w16Y.length) (([((0 : Int), 1000000 + (own), (0 : Int))] : List Nd)).length = capL cap c (w16Y.length + (([((0 : Int), 1000000 + (own), (0 : Int))] : List Nd)).length) := (capL_add cap c w16Y.length (([((0 : Int), 1000000 + (own), (0 : Int))] : List Nd)).length).symm
              have w18m : PL (capL cap c w16Y.length) (lvS lq (np + jx) ys) (capL cap c (w16Y.length + (([((0 : Int), 1000000 + (own), (0 : Int))] : List Nd)).length)) (lvS lq (np + jx) ys) := PL_le (capL_mono cap c (Nat.le_add_right _ _)) w18q.1
              have w18t : PL (capL cap c (w16Y.length + (([((0 : Int), 1000000 + (own), (0 : Int))] : List Nd)).length)) (lvS lq (np + jx) ys) (capL cap c (brR xs (F 12) k (np + jx) first own head i ys ni x0).length) (lvS lq (np + jx) ys) := PL_le (capL_mono cap c (hN9 ▸ w18n)) (hQ9 ▸ w18q.2)
              refine ca_Mod_126 (mc := pC (capL (capL cap c w16Y.length) (c + w16Y.length) (([((0 : Int), 1000000 + (own), (0 : Int))] : List Nd)).length) (lvS lq (np + jx) ys) - pC (capL cap c w16Y.length) (lvS lq (np + jx) ys)) (ms := pS (capL (capL cap c w16Y.length) (c + w16Y.length) (([((0 : Int), 1000000 + (own), (0 : Int))] : List Nd)).length) (lvS lq (np + jx) ys) - pS (capL cap c w16Y.length) (lvS lq (np + jx) ys)) (rm' := rM 3 (pC (capL (capL cap c w16Y.length) (c + w16Y.length) (([((0 : Int), 1000000 + (own), (0 : Int))] : List Nd)).length) (lvS lq (np + jx) ys) - pC (capL cap c w16Y.length) (lvS lq (np + jx) ys)) (pS (capL (capL cap c w16Y.length) (c + w16Y.length) (([((0 : Int), 1000000 + (own), (0 : Int))] : List Nd)).length) (lvS lq (np + jx) ys) - pS (capL cap c w16Y.length) (lvS lq (np + jx) ys)) 100) (As := [.int (iI (own))]) (rest := []) B (mW_made w16C w16b.1 w16b.2.1 w16b.2.2 (v := own) (by omega) w16L) rfl rfl ⟨Nat.le_of_ble_eq_true rfl, Nat.le_of_ble_eq_true rfl⟩ w16C.1 rfl rfl (Nat.le_of_ble_eq_true rfl) d_Mod_brought_139 ⟨by rw [w18e]; exact PL_c w16p w18m w18t, by rw [w18e]; exact PL_s w16p w18m w18t⟩ (fun v1 w18M ep => ?_)
              obtain ⟨e1, w18U⟩ := ep
              subst e1
              have w18U := wrP_app (lq := lq) w16W w18U
              obtain ⟨w18Y, w18h⟩ : ∃ Y : List Nd, Y = w16Y ++ (([((0 : Int), 1000000 + (own), (0 : Int))] : List Nd)) := ⟨_, rfl⟩
              rw [← w18h] at w18U
              have w18l : w18Y.length = w16Y.length + (([((0 : Int), 1000000 + (own), (0 : Int))] : List Nd)).length := by rw [w18h, List.length_append]
              obtain ⟨w18A, w18F, w18W, w18L, w18C⟩ := w18U
              rw [← w18l] at w18e w18m w18t
              have w18b : CK cap c w18Y.length := CK_of hcc hcap0 hcap (by omega)
              have w18p := w16p.tr w18m
              refine mv_widen (c2 := pC (capL cap c w18Y.length) (lvS lq (np + jx) ys) - pC cap lq) (s2 := pS (capL cap c w18Y.length) (lvS lq (np + jx) ys) - pS cap lq) (by rw [w18e]; exact PL_c2 w16p w18m) (by rw [w18e]; exact PL_s2 w16p w18m) ?_
              clear w18e w18m w18t w18n
              show mv_G X Q (kk V) 12 142 [(11, .int (iI ((ni : Nat)))), (9, .int (iI (((b + p : Nat) : Int)))), (0, .ref r), (1, .int (iI ((g : Nat)))), (2, .int (iI ((jx : Nat)))), (3, .int (iI (k))), (4, .int (iI (first))), (5, .int (iI (own))), (6, .int (iI (head))), (7, .int (iI ((np : Nat)))), (8, .int (iI ((d : Nat)))), (10, .int (iI ((ys : Nat))))] [] w18M (pC (capL cap c w18Y.length) (lvS lq (np + jx) ys) - pC cap lq) (pS (capL cap c w18Y.length) (lvS lq (np + jx) ys) - pS cap lq)
              have k19_8 : w18M (w18A 8) = some (iA V (100) (w18F 8)) := w18C.2.1 8 (by decide)
              have k19_9 : w18M (w18A 9) = some (iA V (100) (w18F 9)) := w18C.2.1 9 (by decide)
              have k19_10 : w18M (w18A 10) = some (iA V (100) (w18F 10)) := w18C.2.1 10 (by decide)
              refine mv_iconst (z := 0) B d_Mod_brought_142 rfl ?_
              refine mv_istore (lv' := [(11, .int (iI (0))), (9, .int (iI (((b + p : Nat) : Int)))), (0, .ref r), (1, .int (iI ((g : Nat)))), (2, .int (iI ((jx : Nat)))), (3, .int (iI (k))), (4, .int (iI (first))), (5, .int (iI (own))), (6, .int (iI (head))), (7, .int (iI ((np : Nat)))), (8, .int (iI ((d : Nat)))), (10, .int (iI ((ys : Nat))))]) B d_Mod_brought_143 (by decide) rfl ?_
              have L145 : ∀ (fu : Nat) (m : Nat) (My1 : mv_M) (Ay1 : Nat → Nat) (Fy1 : Nat → Nat → Int), (m ≤ ys) → (WR F Fy1 c (w18Y ++ mdL (first) m)) → (Fy1 12 = upL (F 12) (np + jx) first ys) → (RefC V My1 r Ay1 (rN (capL cap c (w18Y ++ mdL (first) m).length) (lvS lq (np + jx) ys)) Fy1 ((c + (w18Y ++ mdL (first) m).length : Nat) : Int) tn gn) → (ys - m) < fu → mv_G X Q (kk V) 12 145 [(11, .int (iI ((m : Nat)))), (9, .int (iI (((b + p : Nat) : Int)))), (0, .ref r), (1, .int (iI ((g : Nat)))), (2, .int (iI ((jx : Nat)))), (3, .int (iI (k))), (4, .int (iI (first))), (5, .int (iI (own))), (6, .int (iI (head))), (7, .int (iI ((np : Nat)))), (8, .int (iI ((d : Nat)))), (10, .int (iI ((ys : Nat))))] [] My1 (pC (capL cap c (w18Y ++ mdL (first) m).length) (lvS lq (np + jx) ys) - pC cap lq) (pS (capL cap c (w18Y ++ mdL (first) m).length) (lvS lq (np + jx) ys) - pS cap lq) := by
                intro fu
                induction fu with
                | zero => intro m My1 Ay1 Fy1 hi hWl hLl hCl hm; exact absurd hm (Nat.not_lt_zero _)
                | succ fu ih145 =>
                  intro m My1 Ay1 Fy1 hi hWl hLl hCl hm
                  obtain ⟨Yl145, hYl145⟩ : ∃ Y : List Nd, Y = (w18Y ++ mdL (first) m) := ⟨_, rfl⟩
                  rw [← hYl145] at hWl hCl
                  rw [← hYl145]
                  have lYl145 : Yl145.length = w18Y.length + (mdL (first) m).length := by rw [hYl145, List.length_append]
                  have lz145 : (mdL (first) m).length = m := mdL_len _ _
                  have hbL145 : Yl145.length ≤ N9 := by omega
                  have ckL145 : CK cap c Yl145.length := CK_of hcc hcap0 hcap (by omega)
                  have hqL145 : lq ≤ lvS lq (np + jx) ys ∧ lvS lq (np + jx) ys ≤ Q9 := by omega
                  have plL145 : PL cap lq (capL cap c Yl145.length) (lvS lq (np + jx) ys) := PL_le (capL_ge cap c Yl145.length) hqL145.1
                  have k21_8 : My1 (Ay1 8) = some (iA V (100) (Fy1 8)) := hCl.2.1 8 (by decide)
                  have k21_9 : My1 (Ay1 9) = some (iA V (100) (Fy1 9)) := hCl.2.1 9 (by decide)
                  have k21_10 : My1 (Ay1 10) = some (iA V (100) (Fy1 10)) := hCl.2.1 10 (by decide)
                  refine mv_iload B d_Mod_brought_145 0 rfl ?_
                  refine mv_iload B d_Mod_brought_147 11 rfl ?_
                  refine mv_icmp_ge (tgt := 167) B d_Mod_brought_149 (by decide) (by omega) (by omega) (fun c22 => ?_) (fun c22 => ?_)
                  · have em : ys = m := by omega
                    subst em
                    have eZ : Yl145 = brR xs (F 12) k (np + jx) first own head i ys ni x0 := by rw [hYl145, w18h, w16h, hYl91, w10h, w8h, hYl35, hY0]; unfold brR; simp only [List.append_nil, List.nil_append, List.append_assoc]
                    rw [hQ]
                    exact mv_vret B ⟨rfl, Ay1, Fy1, by rw [← eZ]; exact hWl, hLl, by rw [← eZ]; exact hCl⟩ (by rw [eZ]; exact Nat.le_refl _) (by rw [eZ]; exact Nat.le_refl _) d_Mod_brought_167
                  · refine mv_aloadR_n B d_Mod_brought_152 rfl 2 rfl ?_
                    refine mv_iload B d_Mod_brought_153 6 rfl ?_
                    refine mv_iload B d_Mod_brought_155 0 rfl ?_
                    refine mv_iadd B d_Mod_brought_157 ?_
                    have w23z : ([((0 : Int), 1000000 + (first + (m : Nat)), (0 : Int))] : List Nd).length = 1 := rfl
                    have w23q : lvS lq (np + jx) ys ≤ lvS lq (np + jx) ys ∧ lvS lq (np + jx) ys ≤ Q9 := ⟨Nat.le_refl _, hqL145.2⟩
                    have w23n : Yl145.length + (([((0 : Int), 1000000 + (first + (m : Nat)), (0 : Int))] : List Nd)).length ≤ N9 := by omega
                    have w23e : capL (capL cap c Yl145.length) (c + Yl145.length) (([((0 : Int), 1000000 + (first + (m : Nat)), (0 : Int))] : List Nd)).length = capL cap c (Yl145.length + (([((0 : Int), 1000000 + (first + (m : Nat)), (0 : Int))] : List Nd)).length) := (capL_add cap c Yl145.length (([((0 : Int), 1000000 + (first + (m : Nat)), (0 : Int))] : List Nd)).length).symm
                    have w23m : PL (capL cap c Yl145.length) (lvS lq (np + jx) ys) (capL cap c (Yl145.length + (([((0 : Int), 1000000 + (first + (m : Nat)), (0 : Int))] : List Nd)).length)) (lvS lq (np + jx) ys) := PL_le (capL_mono cap c (Nat.le_add_right _ _)) w23q.1
                    have w23t : PL (capL cap c (Yl145.length + (([((0 : Int), 1000000 + (first + (m : Nat)), (0 : Int))] : List Nd)).length)) (lvS lq (np + jx) ys) (capL cap c (brR xs (F 12) k (np + jx) first own head i ys ni x0).length) (lvS lq (np + jx) ys) := PL_le (capL_mono cap c (hN9 ▸ w23n)) (hQ9 ▸ w23q.2)
                    refine ca_Mod_126 (mc := pC (capL (capL cap c Yl145.length) (c + Yl145.length) (([((0 : Int), 1000000 + (first + (m : Nat)), (0 : Int))] : List Nd)).length) (lvS lq (np + jx) ys) - pC (capL cap c Yl145.length) (lvS lq (np + jx) ys)) (ms := pS (capL (capL cap c Yl145.length) (c + Yl145.length) (([((0 : Int), 1000000 + (first + (m : Nat)), (0 : Int))] : List Nd)).length) (lvS lq (np + jx) ys) - pS (capL cap c Yl145.length) (lvS lq (np + jx) ys)) (rm' := rM 3 (pC (capL (capL cap c Yl145.length) (c + Yl145.length) (([((0 : Int), 1000000 + (first + (m : Nat)), (0 : Int))] : List Nd)).length) (lvS lq (np + jx) ys) - pC (capL cap c Yl145.length) (lvS lq (np + jx) ys)) (pS (capL (capL cap c Yl145.length) (c + Yl145.length) (([((0 : Int), 1000000 + (first + (m : Nat)), (0 : Int))] : List Nd)).length) (lvS lq (np + jx) ys) - pS (capL cap c Yl145.length) (lvS lq (np + jx) ys)) 100) (As := [.int (iI (first + (m : Nat)))]) (rest := []) B (mW_made hCl ckL145.1 ckL145.2.1 ckL145.2.2 (v := first + (m : Nat)) (by omega) hLl) rfl rfl ⟨Nat.le_of_ble_eq_true rfl, Nat.le_of_ble_eq_true rfl⟩ hCl.1 rfl rfl (Nat.le_of_ble_eq_true rfl) d_Mod_brought_158 ⟨by rw [w23e]; exact PL_c plL145 w23m w23t, by rw [w23e]; exact PL_s plL145 w23m w23t⟩ (fun v1 w23M ep => ?_)
                    obtain ⟨e1, w23U⟩ := ep
                    subst e1
                    have w23U := wrP_app (lq := lq) hWl w23U
                    obtain ⟨w23Y, w23h⟩ : ∃ Y : List Nd, Y = Yl145 ++ (([((0 : Int), 1000000 + (first + (m : Nat)), (0 : Int))] : List Nd)) := ⟨_, rfl⟩
                    rw [← w23h] at w23U
                    have w23l : w23Y.length = Yl145.length + (([((0 : Int), 1000000 + (first + (m : Nat)), (0 : Int))] : List Nd)).length := by rw [w23h, List.length_append]
                    obtain ⟨w23A, w23F, w23W, w23L, w23C⟩ := w23U
                    rw [← w23l] at w23e w23m w23t
                    have w23b : CK cap c w23Y.length := CK_of hcc hcap0 hcap (by omega)
                    have w23p := plL145.tr w23m
                    refine mv_widen (c2 := pC (capL cap c w23Y.length) (lvS lq (np + jx) ys) - pC cap lq) (s2 := pS (capL cap c w23Y.length) (lvS lq (np + jx) ys) - pS cap lq) (by rw [w23e]; exact PL_c2 plL145 w23m) (by rw [w23e]; exact PL_s2 plL145 w23m) ?_
                    clear w23e w23m w23t w23n
                    show mv_G X Q (kk V) 12 161 [(11, .int (iI ((m : Nat)))), (9, .int (iI (((b + p : Nat) : Int)))), (0, .ref r), (1, .int (iI ((g : Nat)))), (2, .int (iI ((jx : Nat)))), (3, .int (iI (k))), (4, .int (iI (first))), (5, .int (iI (own))), (6, .int (iI (head))), (7, .int (iI ((np : Nat)))), (8, .int (iI ((d : Nat)))), (10, .int (iI ((ys : Nat))))] [] w23M (pC (capL cap c w23Y.length) (lvS lq (np + jx) ys) - pC cap lq) (pS (capL cap c w23Y.length) (lvS lq (np + jx) ys) - pS cap lq)
                    have k24_8 : w23M (w23A 8) = some (iA V (100) (w23F 8)) := w23C.2.1 8 (by decide)
                    have k24_9 : w23M (w23A 9) = some (iA V (100) (w23F 9)) := w23C.2.1 9 (by decide)
                    have k24_10 : w23M (w23A 10) = some (iA V (100) (w23F 10)) := w23C.2.1 10 (by decide)
                    refine mv_iinc (lv' := [(11, .int (iI ((m : Nat) + 1))), (9, .int (iI (((b + p : Nat) : Int)))), (0, .ref r), (1, .int (iI ((g : Nat)))), (2, .int (iI ((jx : Nat)))), (3, .int (iI (k))), (4, .int (iI (first))), (5, .int (iI (own))), (6, .int (iI (head))), (7, .int (iI ((np : Nat)))), (8, .int (iI ((d : Nat)))), (10, .int (iI ((ys : Nat))))]) B d_Mod_brought_161 0 rfl (by decide) rfl ?_
                    refine mv_goto (tgt := 145) B d_Mod_brought_164 (by decide) ?_
                    have y25 : w23Y = (w18Y ++ mdL (first) (m + 1)) := by rw [w23h, hYl145]; simp only [mdL, Int.zero_add, List.append_assoc]
                    rw [y25]
                    refine mv_lv (lv' := [(11, .int (iI (((m + 1) : Nat)))), (9, .int (iI (((b + p : Nat) : Int)))), (0, .ref r), (1, .int (iI ((g : Nat)))), (2, .int (iI ((jx : Nat)))), (3, .int (iI (k))), (4, .int (iI (first))), (5, .int (iI (own))), (6, .int (iI (head))), (7, .int (iI ((np : Nat)))), (8, .int (iI ((d : Nat)))), (10, .int (iI ((ys : Nat))))]) [0, 1, 2, 3, 4, 5, 6, 7, 8, 9, 10, 11] (lc (lI (by first | rfl | omega)) (lc rfl (lc rfl (lc rfl (lc rfl (lc rfl (lc rfl (lc rfl (lc rfl (lc rfl (lc rfl (lc rfl rfl)))))))))))) ?_
                    exact ih145 (m + 1) w23M w23A w23F (by omega) (by rw [← y25]; exact w23W) (w23L) (by rw [← y25]; exact w23C) (by omega)
              refine mv_lv (lv' := [(11, .int (iI ((0 : Nat)))), (9, .int (iI (((b + p : Nat) : Int)))), (0, .ref r), (1, .int (iI ((g : Nat)))), (2, .int (iI ((jx : Nat)))), (3, .int (iI (k))), (4, .int (iI (first))), (5, .int (iI (own))), (6, .int (iI (head))), (7, .int (iI ((np : Nat)))), (8, .int (iI ((d : Nat)))), (10, .int (iI ((ys : Nat))))]) [0, 1, 2, 3, 4, 5, 6, 7, 8, 9, 10, 11] (lc (lI (by first | rfl | omega)) (lc rfl (lc rfl (lc rfl (lc rfl (lc rfl (lc rfl (lc rfl (lc rfl (lc rfl (lc rfl (lc rfl rfl)))))))))))) ?_
              have y20 : w18Y = (w18Y ++ mdL (first) 0) := (List.append_nil _).symm
              rw [y20]
              exact L145 _ 0 w18M w18A w18F (by omega) (by rw [← y20]; exact w18W) (w18L) (by rw [← y20]; exact w18C) (Nat.lt_succ_self _)
            · have hF9 : Fy1 9 d = (np : Nat) := (congrFun (hWl.2.1 9 (by omega) (by omega)) d).trans h9
              have hF10 : Fy1 10 d = (ni : Nat) := (congrFun (hWl.2.1 10 (by omega) (by omega)) d).trans h10
              obtain ⟨i1, i2, i3, -⟩ := ijB_S (seF_ag hWl.1 hl hs) hcp hF9 hF10 hPa hPt
              have hFi : ∀ z : Nat, (z : Int) < Fy1 9 d + ((j : Nat) : Int) → 0 ≤ ixR Fy1 (((b + p : Nat) : Int) + Fy1 9 d + Fy1 10 d + 1) z ∧ ixR Fy1 (((b + p : Nat) : Int) + Fy1 9 d + Fy1 10 d + 1) z < capL cap c Yl91.length := fun z hz => by rw [hF9] at hz; rw [i1 z (by omega)]; have := i2 z (by omega); have := ckL91.1; omega
              have hSj := hSp.2.1 j (by omega)
              have hmj := ixS_mono xs x0 (show j + 1 ≤ ni by omega)
              have hju : ixS xs x0 (j + 1) = ixS xs x0 j + lnS xs (ixS xs x0 j) := rfl
              have hjl := ixS_le xs x0 j
              refine mv_aloadR_n B d_Mod_brought_103 rfl 2 rfl ?_
              refine mv_aloadR_n B d_Mod_brought_104 rfl 2 rfl ?_
              refine mv_iload B d_Mod_brought_105 1 rfl ?_
              refine mv_iload B d_Mod_brought_107 10 rfl ?_
              refine mv_iload B d_Mod_brought_109 0 rfl ?_
              refine ca_Mod_119 (mc := 0) (ms := 0) (As := [.int (iI (((b + p : Nat) : Int))), .int (iI ((d : Nat))), .int (iI ((j : Nat)))]) (rest := [.ref r]) B (m_Mod_index hCl ckL91.2.2 (b := ((b + p : Nat) : Int)) (k := ((j : Nat) : Int)) (d := d) (by omega) hd (by rw [hF9, hF10]; omega) (by omega) hFi) rfl rfl ⟨Nat.le_of_ble_eq_true rfl, Nat.le_of_ble_eq_true rfl⟩ hCl.1 rfl rfl (Nat.le_of_ble_eq_true rfl) d_Mod_brought_111 ⟨PL_0c (PL_le (capL_mono cap c (hN9 ▸ (show Yl91.length ≤ N9 by omega))) (hQ9 ▸ hqL91.2)), PL_0s (PL_le (capL_mono cap c (hN9 ▸ (show Yl91.length ≤ N9 by omega))) (hQ9 ▸ hqL91.2))⟩ (mv_x ?_)
              show mv_G X Q (kk V) 12 114 [(11, .int (iI ((j : Nat)))), (9, .int (iI (((b + p : Nat) : Int)))), (0, .ref r), (1, .int (iI ((g : Nat)))), (2, .int (iI ((jx : Nat)))), (3, .int (iI (k))), (4, .int (iI (first))), (5, .int (iI (own))), (6, .int (iI (head))), (7, .int (iI ((np : Nat)))), (8, .int (iI ((d : Nat)))), (10, .int (iI ((ys : Nat))))] [.int (iI (ixR Fy1 (((b + p : Nat) : Int) + Fy1 9 d + Fy1 10 d + 1) (Fy1 9 d + ((j : Nat) : Int)).toNat)), .ref r] My1 (pC (capL cap c Yl91.length) (lvS lq (np + jx) ys) - pC cap lq) (pS (capL cap c Yl91.length) (lvS lq (np + jx) ys) - pS cap lq)
              rw [show ixR Fy1 (((b + p : Nat) : Int) + Fy1 9 d + Fy1 10 d + 1) (Fy1 9 d + ((j : Nat) : Int)).toNat = ((b + ixS xs x0 j : Nat) : Int) from by rw [show (Fy1 9 d + ((j : Nat) : Int)).toNat = np + j by rw [hF9]; omega, i1 _ (by omega), i3 j (by omega), ← hSp.1]]
              refine mv_iload B d_Mod_brought_114 9 rfl ?_
              refine mv_iload_n B d_Mod_brought_116 rfl 4 rfl ?_
              refine mv_iadd B d_Mod_brought_117 ?_
              refine mv_iload B d_Mod_brought_118 11 rfl ?_
              refine mv_iadd B d_Mod_brought_120 ?_
              rw [show (((np : Nat) : Int) + ((jx : Nat) : Int)) + ((ys : Nat) : Int) = ((np + jx + ys : Nat) : Int) by omega]
              have w26z : (pqS xs (upL (F 12) (np + jx) first ys) ((np + jx + ys : Nat) : Int) (ixS xs x0 j) (lnS xs (ixS xs x0 j))).length = lnS xs (ixS xs x0 j) := pqS_len _ _ _ _ _
              have w26q : lvS lq (np + jx) ys ≤ lvS lq (np + jx) ys ∧ lvS lq (np + jx) ys ≤ Q9 := ⟨Nat.le_refl _, hqL91.2⟩
              have w26n : Yl91.length + (pqS xs (upL (F 12) (np + jx) first ys) ((np + jx + ys : Nat) : Int) (ixS xs x0 j) (lnS xs (ixS xs x0 j))).length ≤ N9 := by omega
              have w26e : capL (capL cap c Yl91.length) (c + Yl91.length) (pqS xs (upL (F 12) (np + jx) first ys) ((np + jx + ys : Nat) : Int) (ixS xs x0 j) (lnS xs (ixS xs x0 j))).length = capL cap c (Yl91.length + (pqS xs (upL (F 12) (np + jx) first ys) ((np + jx + ys : Nat) : Int) (ixS xs x0 j) (lnS xs (ixS xs x0 j))).length) := (capL_add cap c Yl91.length (pqS xs (upL (F 12) (np + jx) first ys) ((np + jx + ys : Nat) : Int) (ixS xs x0 j) (lnS xs (ixS xs x0 j))).length).symm
              have w26m : PL (capL cap c Yl91.length) (lvS lq (np + jx) ys) (capL cap c (Yl91.length + (pqS xs (upL (F 12) (np + jx) first ys) ((np + jx + ys : Nat) : Int) (ixS xs x0 j) (lnS xs (ixS xs x0 j))).length)) (lvS lq (np + jx) ys) := PL_le (capL_mono cap c (Nat.le_add_right _ _)) w26q.1
              have w26t : PL (capL cap c (Yl91.length + (pqS xs (upL (F 12) (np + jx) first ys) ((np + jx + ys : Nat) : Int) (ixS xs x0 j) (lnS xs (ixS xs x0 j))).length)) (lvS lq (np + jx) ys) (capL cap c (brR xs (F 12) k (np + jx) first own head i ys ni x0).length) (lvS lq (np + jx) ys) := PL_le (capL_mono cap c (hN9 ▸ w26n)) (hQ9 ▸ w26q.2)
              refine ca_Mod_129 (mc := pC (capL (capL cap c Yl91.length) (c + Yl91.length) (pqS xs (upL (F 12) (np + jx) first ys) ((np + jx + ys : Nat) : Int) (ixS xs x0 j) (lnS xs (ixS xs x0 j))).length) (lvS lq (np + jx) ys) - pC (capL cap c Yl91.length) (lvS lq (np + jx) ys)) (ms := pS (capL (capL cap c Yl91.length) (c + Yl91.length) (pqS xs (upL (F 12) (np + jx) first ys) ((np + jx + ys : Nat) : Int) (ixS xs x0 j) (lnS xs (ixS xs x0 j))).length) (lvS lq (np + jx) ys) - pS (capL cap c Yl91.length) (lvS lq (np + jx) ys)) (rm' := rM 4 (pC (capL (capL cap c Yl91.length) (c + Yl91.length) (pqS xs (upL (F 12) (np + jx) first ys) ((np + jx + ys : Nat) : Int) (ixS xs x0 j) (lnS xs (ixS xs x0 j))).length) (lvS lq (np + jx) ys) - pC (capL cap c Yl91.length) (lvS lq (np + jx) ys)) (pS (capL (capL cap c Yl91.length) (c + Yl91.length) (pqS xs (upL (F 12) (np + jx) first ys) ((np + jx + ys : Nat) : Int) (ixS xs x0 j) (lnS xs (ixS xs x0 j))).length) (lvS lq (np + jx) ys) - pS (capL cap c Yl91.length) (lvS lq (np + jx) ys)) 130) (As := [.int (iI (((b + ixS xs x0 j : Nat) : Int))), .int (iI (((np + jx + ys : Nat) : Int)))]) (rest := []) B (mW_piece hCl ckL91.1 ckL91.2.1 ckL91.2.2 (xs := xs) (b := b) (i := ixS xs x0 j) (ar := np + jx + ys) hLl (seF_ag hWl.1 hl hs) hcp hn1 (by omega) hSj.1 (by rw [hSj.2, hPd]) hcl (hLv ys (Nat.le_refl _)) (by omega) (by rw [pqS_len] at w26n; omega)) rfl rfl ⟨Nat.le_of_ble_eq_true rfl, Nat.le_of_ble_eq_true rfl⟩ hCl.1 rfl rfl (Nat.le_of_ble_eq_true rfl) d_Mod_brought_121 ⟨by rw [w26e]; exact PL_c plL91 w26m w26t, by rw [w26e]; exact PL_s plL91 w26m w26t⟩ (fun v1 w26M ep => ?_)
              obtain ⟨e1, w26U⟩ := ep
              subst e1
              have w26U := wrP_app (lq := lq) hWl w26U
              obtain ⟨w26Y, w26h⟩ : ∃ Y : List Nd, Y = Yl91 ++ (pqS xs (upL (F 12) (np + jx) first ys) ((np + jx + ys : Nat) : Int) (ixS xs x0 j) (lnS xs (ixS xs x0 j))) := ⟨_, rfl⟩
              rw [← w26h] at w26U
              have w26l : w26Y.length = Yl91.length + (pqS xs (upL (F 12) (np + jx) first ys) ((np + jx + ys : Nat) : Int) (ixS xs x0 j) (lnS xs (ixS xs x0 j))).length := by rw [w26h, List.length_append]
              obtain ⟨w26A, w26F, w26W, w26L, w26C⟩ := w26U
              rw [← w26l] at w26e w26m w26t
              have w26b : CK cap c w26Y.length := CK_of hcc hcap0 hcap (by omega)
              have w26p := plL91.tr w26m
              refine mv_widen (c2 := pC (capL cap c w26Y.length) (lvS lq (np + jx) ys) - pC cap lq) (s2 := pS (capL cap c w26Y.length) (lvS lq (np + jx) ys) - pS cap lq) (by rw [w26e]; exact PL_c2 plL91 w26m) (by rw [w26e]; exact PL_s2 plL91 w26m) ?_
              clear w26e w26m w26t w26n
              show mv_G X Q (kk V) 12 124 [(11, .int (iI ((j : Nat)))), (9, .int (iI (((b + p : Nat) : Int)))), (0, .ref r), (1, .int (iI ((g : Nat)))), (2, .int (iI ((jx : Nat)))), (3, .int (iI (k))), (4, .int (iI (first))), (5, .int (iI (own))), (6, .int (iI (head))), (7, .int (iI ((np : Nat)))), (8, .int (iI ((d : Nat)))), (10, .int (iI ((ys : Nat))))] [] w26M (pC (capL cap c w26Y.length) (lvS lq (np + jx) ys) - pC cap lq) (pS (capL cap c w26Y.length) (lvS lq (np + jx) ys) - pS cap lq)
              have k27_8 : w26M (w26A 8) = some (iA V (100) (w26F 8)) := w26C.2.1 8 (by decide)
              have k27_9 : w26M (w26A 9) = some (iA V (100) (w26F 9)) := w26C.2.1 9 (by decide)
              have k27_10 : w26M (w26A 10) = some (iA V (100) (w26F 10)) := w26C.2.1 10 (by decide)
              refine mv_iinc (lv' := [(11, .int (iI ((j : Nat) + 1))), (9, .int (iI (((b + p : Nat) : Int)))), (0, .ref r), (1, .int (iI ((g : Nat)))), (2, .int (iI ((jx : Nat)))), (3, .int (iI (k))), (4, .int (iI (first))), (5, .int (iI (own))), (6, .int (iI (head))), (7, .int (iI ((np : Nat)))), (8, .int (iI ((d : Nat)))), (10, .int (iI ((ys : Nat))))]) B d_Mod_brought_124 0 rfl (by decide) rfl ?_
              refine mv_goto (tgt := 91) B d_Mod_brought_127 (by decide) ?_
              have y28 : w26Y = (w10Y ++ idR xs (upL (F 12) (np + jx) first ys) ((np + jx + ys : Nat) : Int) x0 (j + 1)) := by rw [w26h, hYl91]; simp only [idR, List.append_assoc]
              rw [y28]
              refine mv_lv (lv' := [(11, .int (iI (((j + 1) : Nat)))), (9, .int (iI (((b + p : Nat) : Int)))), (0, .ref r), (1, .int (iI ((g : Nat)))), (2, .int (iI ((jx : Nat)))), (3, .int (iI (k))), (4, .int (iI (first))), (5, .int (iI (own))), (6, .int (iI (head))), (7, .int (iI ((np : Nat)))), (8, .int (iI ((d : Nat)))), (10, .int (iI ((ys : Nat))))]) [0, 1, 2, 3, 4, 5, 6, 7, 8, 9, 10, 11] (lc (lI (by first | rfl | omega)) (lc rfl (lc rfl (lc rfl (lc rfl (lc rfl (lc rfl (lc rfl (lc rfl (lc rfl (lc rfl (lc rfl rfl)))))))))))) ?_
              exact ih91 (j + 1) w26M w26A w26F (by omega) (by rw [← y28]; exact w26W) (w26L) (by rw [← y28]; exact w26C) (by omega)
        refine mv_lv (lv' := [(11, .int (iI ((0 : Nat)))), (9, .int (iI (((b + p : Nat) : Int)))), (0, .ref r), (1, .int (iI ((g : Nat)))), (2, .int (iI ((jx : Nat)))), (3, .int (iI (k))), (4, .int (iI (first))), (5, .int (iI (own))), (6, .int (iI (head))), (7, .int (iI ((np : Nat)))), (8, .int (iI ((d : Nat)))), (10, .int (iI ((ys : Nat))))]) [0, 1, 2, 3, 4, 5, 6, 7, 8, 9, 10, 11] (lc (lI (by first | rfl | omega)) (lc rfl (lc rfl (lc rfl (lc rfl (lc rfl (lc rfl (lc rfl (lc rfl (lc rfl (lc rfl (lc rfl rfl)))))))))))) ?_
        have y12 : w10Y = (w10Y ++ idR xs (upL (F 12) (np + jx) first ys) ((np + jx + ys : Nat) : Int) x0 0) := (List.append_nil _).symm
        rw [y12]
        exact L91 _ 0 w10M w10A w10F (by omega) (by rw [← y12]; exact w10W) (w10L) (by rw [← y12]; exact w10C) (Nat.lt_succ_self _)
      · refine mv_aloadR_n B d_Mod_brought_42 rfl 2 rfl ?_
        refine mv_iload_n B d_Mod_brought_43 rfl 5 rfl ?_
        refine mv_iload B d_Mod_brought_44 1 rfl ?_
        refine mv_iload B d_Mod_brought_46 9 rfl ?_
        refine mv_iload_n B d_Mod_brought_48 rfl 4 rfl ?_
        refine mv_iadd B d_Mod_brought_49 ?_
        refine mv_iload B d_Mod_brought_50 0 rfl ?_
        refine mv_iadd B d_Mod_brought_52 ?_
        refine mv_iload B d_Mod_brought_53 6 rfl ?_
        refine mv_iload B d_Mod_brought_55 0 rfl ?_
        refine mv_iadd B d_Mod_brought_57 ?_
        rw [show (((np : Nat) : Int) + ((jx : Nat) : Int)) + ((y : Nat) : Int) = ((np + jx + y : Nat) : Int) by omega]
        have hBy1 := (Bds_ok hcp hAl.1 y (by omega)).1
        have hBy2 := (Bds_ok hcp hAl.1 y (by omega)).2.1
        have hBu := ((Bds_ok hcp hAl.1 y (by omega)).2.2 (by omega)).1
        have hBk := hAl.1.2 y (by omega)
        have hmn := unS_mono xs i (show y + 1 ≤ ys by omega)
        have hmu : unS xs i (y + 1) = unS xs i y + 1 + lnS xs (unS xs i y + 1) := rfl
        have hmi := unS_le xs i y
        have w29z : (([(k, (gN xs (unS xs i y)).2.1, 0)] : List Nd) ++ pqS xs (upL (F 12) (np + jx) first y) ((np + jx + y : Nat) : Int) (unS xs i y + 1) (lnS xs (unS xs i y + 1))).length = 1 + lnS xs (unS xs i y + 1) := by rw [List.length_append, pqS_len]; rfl
        have w29v : np + jx + y ≤ lvS lq (np + jx) y ∧ 1 ≤ lvS lq (np + jx) y ∧ lvS lq (np + jx) y ≤ 4000 := by omega
        have w29q : lvS lq (np + jx) y ≤ lvN (lvS lq (np + jx) y) (np + jx + y) ∧ lvN (lvS lq (np + jx) y) (np + jx + y) ≤ Q9 := by have h1 := (lvN_ok (lq := lvS lq (np + jx) y) (v := np + jx + y) (by omega) (by omega)).2.1; have h2 : lvN (lvS lq (np + jx) y) (np + jx + y) ≤ Q9 := (by rw [hQ9]; exact lvS_m (m := y + 1) (by omega)); omega
        have w29n : Yl35.length + (([(k, (gN xs (unS xs i y)).2.1, 0)] : List Nd) ++ pqS xs (upL (F 12) (np + jx) first y) ((np + jx + y : Nat) : Int) (unS xs i y + 1) (lnS xs (unS xs i y + 1))).length ≤ N9 := by omega
        have w29e : capL (capL cap c Yl35.length) (c + Yl35.length) (([(k, (gN xs (unS xs i y)).2.1, 0)] : List Nd) ++ pqS xs (upL (F 12) (np + jx) first y) ((np + jx + y : Nat) : Int) (unS xs i y + 1) (lnS xs (unS xs i y + 1))).length = capL cap c (Yl35.length + (([(k, (gN xs (unS xs i y)).2.1, 0)] : List Nd) ++ pqS xs (upL (F 12) (np + jx) first y) ((np + jx + y : Nat) : Int) (unS xs i y + 1) (lnS xs (unS xs i y + 1))).length) := (capL_add cap c Yl35.length (([(k, (gN xs (unS xs i y)).2.1, 0)] : List Nd) ++ pqS xs (upL (F 12) (np + jx) first y) ((np + jx + y : Nat) : Int) (unS xs i y + 1) (lnS xs (unS xs i y + 1))).length).symm
        have w29m : PL (capL cap c Yl35.length) (lvS lq (np + jx) y) (capL cap c (Yl35.length + (([(k, (gN xs (unS xs i y)).2.1, 0)] : List Nd) ++ pqS xs (upL (F 12) (np + jx) first y) ((np + jx + y : Nat) : Int) (unS xs i y + 1) (lnS xs (unS xs i y + 1))).length)) (lvN (lvS lq (np + jx) y) (np + jx + y)) := PL_le (capL_mono cap c (Nat.le_add_right _ _)) w29q.1
        have w29t : PL (capL cap c (Yl35.length + (([(k, (gN xs (unS xs i y)).2.1, 0)] : List Nd) ++ pqS xs (upL (F 12) (np + jx) first y) ((np + jx + y : Nat) : Int) (unS xs i y + 1) (lnS xs (unS xs i y + 1))).length)) (lvN (lvS lq (np + jx) y) (np + jx + y)) (capL cap c (brR xs (F 12) k (np + jx) first own head i ys ni x0).length) (lvS lq (np + jx) ys) := PL_le (capL_mono cap c (hN9 ▸ w29n)) (hQ9 ▸ w29q.2)
        refine ca_Mod_150 (mc := pC (capL (capL cap c Yl35.length) (c + Yl35.length) (([(k, (gN xs (unS xs i y)).2.1, 0)] : List Nd) ++ pqS xs (upL (F 12) (np + jx) first y) ((np + jx + y : Nat) : Int) (unS xs i y + 1) (lnS xs (unS xs i y + 1))).length) (lvN (lvS lq (np + jx) y) (np + jx + y)) - pC (capL cap c Yl35.length) (lvS lq (np + jx) y)) (ms := pS (capL (capL cap c Yl35.length) (c + Yl35.length) (([(k, (gN xs (unS xs i y)).2.1, 0)] : List Nd) ++ pqS xs (upL (F 12) (np + jx) first y) ((np + jx + y : Nat) : Int) (unS xs i y + 1) (lnS xs (unS xs i y + 1))).length) (lvN (lvS lq (np + jx) y) (np + jx + y)) - pS (capL cap c Yl35.length) (lvS lq (np + jx) y)) (rm' := rM 5 (pC (capL (capL cap c Yl35.length) (c + Yl35.length) (([(k, (gN xs (unS xs i y)).2.1, 0)] : List Nd) ++ pqS xs (upL (F 12) (np + jx) first y) ((np + jx + y : Nat) : Int) (unS xs i y + 1) (lnS xs (unS xs i y + 1))).length) (lvN (lvS lq (np + jx) y) (np + jx + y)) - pC (capL cap c Yl35.length) (lvS lq (np + jx) y)) (pS (capL (capL cap c Yl35.length) (c + Yl35.length) (([(k, (gN xs (unS xs i y)).2.1, 0)] : List Nd) ++ pqS xs (upL (F 12) (np + jx) first y) ((np + jx + y : Nat) : Int) (unS xs i y + 1) (lnS xs (unS xs i y + 1))).length) (lvN (lvS lq (np + jx) y) (np + jx + y)) - pS (capL cap c Yl35.length) (lvS lq (np + jx) y)) 165) (As := [.int (iI (k)), .int (iI (((b + unS xs i y : Nat) : Int))), .int (iI (((np + jx + y : Nat) : Int))), .int (iI (first + (y : Nat)))]) (rest := []) B (mW_binderOf hCl ckL35.1 ckL35.2.1 ckL35.2.2 hLl (seF_ag hWl.1 hl hs) (by omega) hcp hn1 hcl ho (i := unS xs i y) (ar := np + jx + y) (k := k) (lv := first + (y : Nat)) hBy1 hBk (by rw [hBy2, hAd]; omega) (hLv y (by omega)) w29v (by omega) (by omega) (by omega)) rfl rfl ⟨Nat.le_of_ble_eq_true rfl, Nat.le_of_ble_eq_true rfl⟩ hCl.1 rfl rfl (Nat.le_of_ble_eq_true rfl) d_Mod_brought_58 ⟨by rw [w29e]; exact PL_c plL35 w29m w29t, by rw [w29e]; exact PL_s plL35 w29m w29t⟩ (fun v1 w29M ep => ?_)
        obtain ⟨e1, w29U⟩ := ep
        subst e1
        have w29U := wrP_app (lq := lq) hWl w29U
        obtain ⟨w29Y, w29h⟩ : ∃ Y : List Nd, Y = Yl35 ++ (([(k, (gN xs (unS xs i y)).2.1, 0)] : List Nd) ++ pqS xs (upL (F 12) (np + jx) first y) ((np + jx + y : Nat) : Int) (unS xs i y + 1) (lnS xs (unS xs i y + 1))) := ⟨_, rfl⟩
        rw [← w29h] at w29U
        have w29l : w29Y.length = Yl35.length + (([(k, (gN xs (unS xs i y)).2.1, 0)] : List Nd) ++ pqS xs (upL (F 12) (np + jx) first y) ((np + jx + y : Nat) : Int) (unS xs i y + 1) (lnS xs (unS xs i y + 1))).length := by rw [w29h, List.length_append]
        obtain ⟨w29A, w29F, w29W, w29L, w29C⟩ := w29U
        rw [← w29l] at w29e w29m w29t
        have w29b : CK cap c w29Y.length := CK_of hcc hcap0 hcap (by omega)
        have w29p := plL35.tr w29m
        refine mv_widen (c2 := pC (capL cap c w29Y.length) (lvN (lvS lq (np + jx) y) (np + jx + y)) - pC cap lq) (s2 := pS (capL cap c w29Y.length) (lvN (lvS lq (np + jx) y) (np + jx + y)) - pS cap lq) (by rw [w29e]; exact PL_c2 plL35 w29m) (by rw [w29e]; exact PL_s2 plL35 w29m) ?_
        clear w29e w29m w29t w29n
        show mv_G X Q (kk V) 12 61 [(11, .int (iI ((y : Nat)))), (9, .int (iI (((b + unS xs i y : Nat) : Int)))), (0, .ref r), (1, .int (iI ((g : Nat)))), (2, .int (iI ((jx : Nat)))), (3, .int (iI (k))), (4, .int (iI (first))), (5, .int (iI (own))), (6, .int (iI (head))), (7, .int (iI ((np : Nat)))), (8, .int (iI ((d : Nat)))), (10, .int (iI ((ys : Nat))))] [.int (iI (((b + (unS xs i y + 1 + lnS xs (unS xs i y + 1)) : Nat) : Int)))] w29M (pC (capL cap c w29Y.length) (lvN (lvS lq (np + jx) y) (np + jx + y)) - pC cap lq) (pS (capL cap c w29Y.length) (lvN (lvS lq (np + jx) y) (np + jx + y)) - pS cap lq)
        have k30_8 : w29M (w29A 8) = some (iA V (100) (w29F 8)) := w29C.2.1 8 (by decide)
        have k30_9 : w29M (w29A 9) = some (iA V (100) (w29F 9)) := w29C.2.1 9 (by decide)
        have k30_10 : w29M (w29A 10) = some (iA V (100) (w29F 10)) := w29C.2.1 10 (by decide)
        refine mv_istore (lv' := [(9, .int (iI (((b + (unS xs i y + 1 + lnS xs (unS xs i y + 1)) : Nat) : Int)))), (11, .int (iI ((y : Nat)))), (0, .ref r), (1, .int (iI ((g : Nat)))), (2, .int (iI ((jx : Nat)))), (3, .int (iI (k))), (4, .int (iI (first))), (5, .int (iI (own))), (6, .int (iI (head))), (7, .int (iI ((np : Nat)))), (8, .int (iI ((d : Nat)))), (10, .int (iI ((ys : Nat))))]) B d_Mod_brought_61 (by decide) rfl ?_
        refine mv_iinc (lv' := [(11, .int (iI ((y : Nat) + 1))), (9, .int (iI (((b + (unS xs i y + 1 + lnS xs (unS xs i y + 1)) : Nat) : Int)))), (0, .ref r), (1, .int (iI ((g : Nat)))), (2, .int (iI ((jx : Nat)))), (3, .int (iI (k))), (4, .int (iI (first))), (5, .int (iI (own))), (6, .int (iI (head))), (7, .int (iI ((np : Nat)))), (8, .int (iI ((d : Nat)))), (10, .int (iI ((ys : Nat))))]) B d_Mod_brought_63 1 rfl (by decide) rfl ?_
        refine mv_goto (tgt := 35) B d_Mod_brought_66 (by decide) ?_
        have y31 : w29Y = (Y0 ++ bnR xs (F 12) k (np + jx) first i (y + 1)) := by rw [w29h, hYl35]; simp only [bnR, List.append_assoc]
        rw [y31]
        refine mv_lv (lv' := [(11, .int (iI (((y + 1) : Nat)))), (9, .int (iI (((b + unS xs i (y + 1) : Nat) : Int)))), (0, .ref r), (1, .int (iI ((g : Nat)))), (2, .int (iI ((jx : Nat)))), (3, .int (iI (k))), (4, .int (iI (first))), (5, .int (iI (own))), (6, .int (iI (head))), (7, .int (iI ((np : Nat)))), (8, .int (iI ((d : Nat)))), (10, .int (iI ((ys : Nat))))]) [0, 1, 2, 3, 4, 5, 6, 7, 8, 9, 10, 11] (lc (lI (by first | rfl | omega)) (lc (lI (by first | rfl | omega)) (lc rfl (lc rfl (lc rfl (lc rfl (lc rfl (lc rfl (lc rfl (lc rfl (lc rfl (lc rfl rfl)))))))))))) ?_
        exact ih35 (y + 1) w29M w29A w29F (by omega) (by rw [← y31]; exact w29W) (w29L.trans (upL_s _ _ _ _)) (by rw [← y31]; exact w29C) (by omega)
  refine mv_lv (lv' := [(11, .int (iI ((0 : Nat)))), (9, .int (iI (((b + unS xs i 0 : Nat) : Int)))), (0, .ref r), (1, .int (iI ((g : Nat)))), (2, .int (iI ((jx : Nat)))), (3, .int (iI (k))), (4, .int (iI (first))), (5, .int (iI (own))), (6, .int (iI (head))), (7, .int (iI ((np : Nat)))), (8, .int (iI ((d : Nat)))), (10, .int (iI ((ys : Nat))))]) [0, 2, 5, 6, 7, 8, 9, 10, 11, 4, 3, 1] (lc (lI (by first | rfl | omega)) (lc (lI (by first | rfl | omega)) (lc rfl (lc rfl (lc rfl (lc rfl (lc rfl (lc rfl (lc rfl (lc rfl (lc rfl (lc rfl rfl)))))))))))) ?_
  have y4 : Y0 = (Y0 ++ bnR xs (F 12) k (np + jx) first i 0) := (List.append_nil _).symm
  rw [y4]
  exact L35 _ 0 M A F (by omega) (by rw [← y4]; exact hW0) ((upL_0 _ _ _).symm) (by rw [← y4]; exact hC0) (Nat.lt_succ_self _)
