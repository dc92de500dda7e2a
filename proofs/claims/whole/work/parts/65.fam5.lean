theorem wkR_o {F : Nat → Nat → Int} {b : Nat} {xs : List Nd} (hc : Cpl xs) (hl : lyF F b xs) (D : Nat → Int) {x : Nat} (hx : b + xs.length ≤ x) : ∀ m, m ≤ xs.length → 1 ≤ xs.length → wkR F b D m x = D x
  | 0, _, h1 => va_un (by omega)
  | m + 1, hm, h1 => by
    have ih := wkR_o hc hl D hx m (by omega) h1
    simp only [wkR]
    by_cases q : 4 ≤ F 0 (b + m)
    · rw [if_pos q]
      have hk : 4 ≤ (gN xs m).1 := by rw [← (hl m (by omega)).1]; exact q
      obtain ⟨w1, w2, w3⟩ := (WF_S hc m (by omega)).2.2.2 hk
      have e4 := (hl (m + 1) w1).2
      have es : (scR F (((b : Nat) : Int) + (m : Nat))).toNat = b + (m + 1 + lnS xs (m + 1)) := by
        unfold scR
        rw [show (((b : Nat) : Int) + (m : Nat) + 1).toNat = b + (m + 1) by omega, e4]
        omega
      rw [es, va_un (by omega), va_un (by omega)]
      exact ih
    · rw [if_neg q]; exact ih
theorem dpW_bd {t : Tm} {xs : List Nd} (h : TmS t xs) (hc : Cpl xs) (hn : xs.length ≤ 1000) {δ : Nat → Int} (hδ : ∀ j, 0 ≤ δ j ∧ δ j ≤ 1000) : ∀ j, 0 ≤ dpW t δ t.1 j ∧ dpW t δ t.1 j ≤ 1000 := by
  intro j
  have h1 := Cpl_1 hc
  rw [h.1, dpW_S h hc hn _ (Nat.le_refl _)]
  by_cases q : j < xs.length
  · have := wkR_end hc (lyF_T h) δ q
    rw [Nat.zero_add] at this
    have b := dp_bd hc q
    rw [this]
    omega
  · rw [wkR_o hc (lyF_T h) δ (by omega) _ (Nat.le_refl _) h1]
    exact hδ j
theorem TmC_D {V : mv_V} {M : mv_M} {h dep : Nat} {q : Q4} {t : Tm} (hC : TmC V M h q t) (hd : dep ≠ q.1 ∧ dep ≠ q.2.1 ∧ dep ≠ q.2.2.1 ∧ dep ≠ q.2.2.2) : ∀ a0 a1 a2 a3, M h = some (.inr (0, [.ref a0, .ref a1, .ref a2, .ref a3])) → a0 ≠ dep ∧ a1 ≠ dep ∧ a2 ≠ dep ∧ a3 ≠ dep := by
  intro a0 a1 a2 a3 e
  rw [hC.1] at e
  simp only [Option.some.injEq, Sum.inr.injEq, Prod.mk.injEq, List.cons.injEq, Value.ref.injEq, and_true, true_and] at e
  obtain ⟨e0, e1, e2, e3⟩ := e
  exact ⟨by rw [← e0]; exact hd.1.symm, by rw [← e1]; exact hd.2.1.symm, by rw [← e2]; exact hd.2.2.1.symm, by rw [← e3]; exact hd.2.2.2.symm⟩
theorem cl_eq {t : Tm} {xs : List Nd} (h : TmS t xs) (hc : Cpl xs) (hn : xs.length ≤ 1000) {δ : Nat → Int} : (if clB t (dpW t δ t.1) t.1 = true then (1 : Int) else 0) = if clsB xs = true then 1 else 0 := by
  have k1 := clB_S h (dpW_dp h hc hn (δ := δ)) xs.length (Nat.le_refl _)
  have k2 := clsB_i hn (xs := xs)
  rw [← h.1] at k1
  by_cases q : Cls xs
  · rw [if_pos (k1.mpr (by rw [h.1]; exact q)), if_pos (k2.mpr q)]
  · rw [if_neg (fun z => q (by have := k1.mp z; rw [h.1] at this; exact this)), if_neg (fun z => q (k2.mp z))]
theorem Cls_fm {V : mv_V} {M M' : mv_M} {x sh rg rd mk trow grow dep : Nat} {hT : Nat → Nat} {tq : Nat → Q4} {tt : Nat → Tm} {ga ca : Nat → Nat} {f gf : Nat → Option Nat} {S : SS} (h : ClsC V M x sh rg rd mk trow grow dep hT tq tt ga ca f gf S) (hJ : Jv S) {t p k : Int} (ok : okF S t p k) {g c : Nat} {cc : Nat → Nat} (z3 : ∀ y e, M y = some e → y < g) (z4 : ∀ y e, M y = some e → y < c) (z5 : M' rg = some (.inr (3, [.ref grow, .int (iI (((S.2.2.1 : Nat) : Int) + 1 + (k.toNat : Nat)))]))) (z6 : M' grow = some (gA V 100 (fun y => if y = ((S.2.2.1 : Nat) : Int).toNat then some g else if ((S.2.2.1 : Nat) : Int).toNat + 1 ≤ y ∧ y < ((S.2.2.1 : Nat) : Int).toNat + 1 + k.toNat then some (cc (y - (((S.2.2.1 : Nat) : Int).toNat + 1))) else gf y))) (z7 : M' g = some (.inr (2, [.int (iI ((S.2.2.1 : Nat) : Int)), .int (iI 3), .int (iI p), .int (iI (((nA (S.2.1 t.toNat) 0 : Nat) : Int) - p)), .int (iI (k.toNat : Nat)), va_rf none, .ref c, .ref (hT t.toNat), .int (iI (-1)), .int (iI 0)]))) (z8 : M' c = some (gA V k.toNat (fun y => if y < k.toNat then some (cc y) else none))) (z9 : ∀ j : Nat, j < k.toNat → M' (cc j) = some (.inr (2, [.int (iI (((S.2.2.1 : Nat) : Int) + 1 + (j : Nat))), .int (iI 4), .int (iI p), .int (iI (((nA (S.2.1 t.toNat) 0 : Nat) : Int) - p)), .int (iI (j : Nat)), .ref g, va_rf none, va_rf none, .int (iI (-1)), .int (iI 0)])) ∧ (∀ y e, M y = some e → y < cc j)) (z10 : ∀ y e, M y = some e → y ≠ grow → y ≠ rg → M' y = some e) : ClsP V M' x (S.1, S.2.1, S.2.2.1 + 1 + k.toNat, fmG S t p k) := by
  obtain ⟨⟨hx, hsh, htr, hrg, hgr, ⟨tm0, al0, fo0, ap0, hrd⟩, ⟨δ, hdp, hδ⟩, ⟨tg0, pl0, src0, P0, ar0, al1, pp0, hmk⟩⟩, hTm, hGl, hIn⟩ := id h
  obtain ⟨q1, q2, q3, q4, q5, q6, q7, q8, q9⟩ := id ok
  rw [Int.toNat_natCast] at z6
  have eL : ∀ y, y < S.2.2.1 → fmG S t p k y = S.2.2.2 y := fun y hy => by unfold fmG; rw [if_neg (by omega), if_neg (by omega)]
  have eF : fmG S t p k S.2.2.1 = (3, S.2.2.1, p.toNat, nA (S.2.1 t.toNat) 0 - p.toNat, k.toNat, some t.toNat, 0, 0) := by unfold fmG; rw [if_pos rfl]
  have eC : ∀ i, i < k.toNat → fmG S t p k (S.2.2.1 + 1 + i) = (4, S.2.2.1, p.toNat, nA (S.2.1 t.toNat) 0 - p.toNat, i, none, 0, 0) := fun i hi => by unfold fmG; rw [if_neg (by omega), if_pos (by omega), show S.2.2.1 + 1 + i - S.2.2.1 - 1 = i by omega]
  obtain ⟨ga', hga⟩ : ∃ z : Nat → Nat, z = fun y => if y = S.2.2.1 then g else if S.2.2.1 + 1 ≤ y ∧ y < S.2.2.1 + 1 + k.toNat then cc (y - (S.2.2.1 + 1)) else ga y := ⟨_, rfl⟩
  have gL : ∀ y, y < S.2.2.1 → ga' y = ga y := fun y hy => by rw [hga]; show (if _ then _ else _) = _; rw [if_neg (by omega), if_neg (by omega)]
  have gF : ga' S.2.2.1 = g := by rw [hga]; show (if _ then _ else _) = _; rw [if_pos rfl]
  have gC : ∀ i, i < k.toNat → ga' (S.2.2.1 + 1 + i) = cc i := fun i hi => by rw [hga]; show (if _ then _ else _) = _; rw [if_neg (by omega), if_pos (by omega), show S.2.2.1 + 1 + i - (S.2.2.1 + 1) = i by omega]
  have np : p = ((p.toNat : Nat) : Int) := by omega
  have ni : ((nA (S.2.1 t.toNat) 0 : Nat) : Int) - p = ((nA (S.2.1 t.toNat) 0 - p.toNat : Nat) : Int) := by omega
  have glt : ∀ y, y < S.2.2.1 → ga y < g ∧ ∀ j, j < k.toNat → ga y < cc j := fun y hy => ⟨z3 _ _ (hGl y hy).2.1, fun j hj => (z9 j hj).2 _ _ (hGl y hy).2.1⟩
  have hb2 : S.2.2.1 ≤ 100 := hJ.1.2.1
  refine ⟨sh, rg, rd, mk, trow, grow, dep, hT, tq, tt, ga', va_up ca S.2.2.1 c, f, fun y => if y = S.2.2.1 then some g else if S.2.2.1 + 1 ≤ y ∧ y < S.2.2.1 + 1 + k.toNat then some (cc (y - (S.2.2.1 + 1))) else gf y, ⟨z10 _ _ hx (mv_ne hx hgr (by simp)) (mv_ne hx hrg (by simp)), z10 _ _ hsh (mv_ne hsh hgr (by simp)) (mv_ne hsh hrg (by simp)), z10 _ _ htr (mv_ne htr hgr (by simp)) (mv_ne htr hrg (by simp)), ?_, z6, ⟨_, _, _, _, z10 _ _ hrd (mv_ne hrd hgr (by simp)) (mv_ne hrd hrg (by simp))⟩, ⟨δ, z10 _ _ hdp (mv_ne hdp hgr (by simp)) (mv_ne hdp hrg (by simp)), hδ⟩, ⟨_, _, _, _, _, _, _, z10 _ _ hmk (mv_ne hmk hgr (by simp)) (mv_ne hmk hrg (by simp))⟩⟩, fun u hu => ?_, fun y hy => ?_, fun y y' hy hy' e => ?_⟩
  · rw [z5, show ((S.2.2.1 : Nat) : Int) + 1 + (k.toNat : Nat) = ((S.2.2.1 + 1 + k.toNat : Nat) : Int) by omega]
  · obtain ⟨a, hC, b⟩ := hTm u hu
    exact ⟨a, ⟨z10 _ _ hC.1 (mv_ne hC.1 hgr (by simp)) (mv_ne hC.1 hrg (by simp)), z10 _ _ hC.2.1 (mv_ne hC.2.1 hgr (by simp)) (mv_ne hC.2.1 hrg (by simp)), z10 _ _ hC.2.2.1 (mv_ne hC.2.2.1 hgr (by simp)) (mv_ne hC.2.2.1 hrg (by simp)), z10 _ _ hC.2.2.2.1 (mv_ne hC.2.2.2.1 hgr (by simp)) (mv_ne hC.2.2.2.1 hrg (by simp)), z10 _ _ hC.2.2.2.2.1 (mv_ne hC.2.2.2.2.1 hgr (by simp)) (mv_ne hC.2.2.2.2.1 hrg (by simp)), hC.2.2.2.2.2⟩, b⟩
  · have hy2 : y < S.2.2.1 + 1 + k.toNat := hy
    by_cases w1 : y < S.2.2.1
    · obtain ⟨a, hG, hc⟩ := hGl y w1
      have eg : glO (S.1, S.2.1, S.2.2.1 + 1 + k.toNat, fmG S t p k) hT ga' (va_up ca S.2.2.1 c) y = glO S hT ga ca y := by
        unfold glO faO coO tdO agO otS
        simp only [eL y w1]
        rw [va_un (show y ≠ S.2.2.1 by omega)]
        by_cases r4 : (S.2.2.2 y).1 = 4
        · have := (con_b hJ.1 (g := y) w1 r4).1
          rw [gL _ (by omega)]
        · simp only [if_neg r4]
      refine ⟨by show (if _ then _ else _) = _; rw [if_neg (by omega), if_neg (by omega), gL y w1]; exact a, by rw [eg, gL y w1]; exact z10 _ _ hG (mv_ne hG hgr (by simp)) (mv_ne hG hrg (by simp)), fun h3 => ?_⟩
      have h3' : (fmG S t p k y).1 = 3 := h3
      rw [eL y w1] at h3'
      obtain ⟨b, cf, hcf, kk⟩ := hc h3'
      obtain ⟨t0, -, -, -, -, -, -, rk, -⟩ := fam_b hJ.1 (g := y) w1 h3'
      refine ⟨by rw [va_un (show y ≠ S.2.2.1 by omega)]; exact b, cf, ?_, fun i hi => ?_⟩
      · show _ = some (gA V (fmG S t p k y).2.2.2.2.1 cf)
        rw [eL y w1, va_un (show y ≠ S.2.2.1 by omega)]
        exact z10 _ _ hcf b (mv_ne hcf hrg (by simp))
      · have hi' : i < (fmG S t p k y).2.2.2.2.1 := hi
        rw [eL y w1] at hi'
        rw [gL _ (by omega)]
        exact kk i hi'
    · by_cases w2 : y = S.2.2.1
      · subst w2
        refine ⟨by show (if _ then _ else _) = _; rw [if_pos rfl, gF], ?_, fun _ => ⟨?_, (fun y => if y < k.toNat then some (cc y) else none), ?_, fun i hi => ?_⟩⟩
        · rw [gF, z7]
          unfold glO faO coO tdO agO
          simp only [eF, va_us]
          rw [if_neg (by omega), if_pos trivial, if_neg (by omega), ← np, ← ni]
          rfl
        · rw [va_us]; have := z4 _ _ hgr; omega
        · show _ = some (gA V (fmG S t p k S.2.2.1).2.2.2.2.1 _)
          rw [va_us, eF]
          exact z8
        · have hi' : i < (fmG S t p k S.2.2.1).2.2.2.2.1 := hi
          rw [eF] at hi'
          show (if i < k.toNat then some (cc i) else none) = _
          rw [if_pos hi', gC i hi']
      · obtain ⟨i, hi, rfl⟩ : ∃ i, i < k.toNat ∧ y = S.2.2.1 + 1 + i := ⟨y - S.2.2.1 - 1, by omega, by omega⟩
        refine ⟨by show (if _ then _ else _) = _; rw [if_neg (by omega), if_pos (by omega), gC i hi, show S.2.2.1 + 1 + i - (S.2.2.1 + 1) = i by omega], ?_, fun h3 => ?_⟩
        · rw [gC i hi, (z9 i hi).1]
          unfold glO faO coO tdO agO otS
          simp only [eC i hi]
          rw [if_pos trivial, if_neg (by omega), if_pos trivial, if_pos trivial, gF, ← np, ← ni, show ((S.2.2.1 : Nat) : Int) + 1 + (i : Nat) = ((S.2.2.1 + 1 + i : Nat) : Int) by omega]
          rfl
        · have h3' : (fmG S t p k (S.2.2.1 + 1 + i)).1 = 3 := h3
          rw [eC i hi] at h3'
          exact absurd h3' (by simp)
  · have hy2 : y < S.2.2.1 + 1 + k.toNat := hy
    have hy3 : y' < S.2.2.1 + 1 + k.toNat := hy'
    have num : ∀ w, w < S.2.2.1 + 1 + k.toNat → S.2.2.1 ≤ w → ∃ vs, M' (ga' w) = some (.inr (2, .int (iI ((w : Nat) : Int)) :: vs)) := fun w w1 w2 => by
      by_cases w3 : w = S.2.2.1
      · subst w3; rw [gF, z7]; exact ⟨_, rfl⟩
      · obtain ⟨i, hi, rfl⟩ : ∃ i, i < k.toNat ∧ w = S.2.2.1 + 1 + i := ⟨w - S.2.2.1 - 1, by omega, by omega⟩
        rw [gC i hi, (z9 i hi).1, show ((S.2.2.1 : Nat) : Int) + 1 + (i : Nat) = ((S.2.2.1 + 1 + i : Nat) : Int) by omega]
        exact ⟨_, rfl⟩
    have big : ∀ w u, w < S.2.2.1 → S.2.2.1 ≤ u → u < S.2.2.1 + 1 + k.toNat → ga' w < ga' u := fun w u w1 w2 w3 => by
      rw [gL w w1]
      by_cases w4 : u = S.2.2.1
      · subst w4; rw [gF]; exact (glt w w1).1
      · obtain ⟨i, hi, rfl⟩ : ∃ i, i < k.toNat ∧ u = S.2.2.1 + 1 + i := ⟨u - S.2.2.1 - 1, by omega, by omega⟩
        rw [gC i hi]; exact (glt w w1).2 i hi
    by_cases w1 : y < S.2.2.1
    · by_cases w2 : y' < S.2.2.1
      · rw [gL y w1, gL y' w2] at e; exact hIn y y' w1 w2 e
      · have := big y y' w1 (by omega) hy3; omega
    · by_cases w2 : y' < S.2.2.1
      · have := big y' y w2 (by omega) hy2; omega
      · obtain ⟨v1, n1⟩ := num y hy2 (by omega)
        obtain ⟨v2, n2⟩ := num y' hy3 (by omega)
        rw [e, n2] at n1
        simp only [Option.some.injEq, Sum.inr.injEq, Prod.mk.injEq, List.cons.injEq, Value.int.injEq, true_and] at n1
        have := (iI_eq (by omega) (by omega)).mp n1.1
        omega
set_option maxRecDepth 100000 in
set_option maxHeartbeats 4000000 in
theorem m_Fam_family {l : Launch} {V : mv_V} {M : mv_M} {x sh rg rd mk trow grow dep : Nat} {hT : Nat → Nat} {tq : Nat → Q4} {tt : Nat → Tm} {ga ca : Nat → Nat} {f gf : Nat → Option Nat} {S : SS} (hP : ClsC V M x sh rg rd mk trow grow dep hT tq tt ga ca f gf S) (hJ : Jv S) {t p k : Int} (rt9 : R32 t) (rp9 : R32 p) (rk9 : R32 k) : Met l y_Fam_family ws_Fam_family (rM 4 14 142 110) (mv_Pre (kk V) [.ref x, .int (iI (t)), .int (iI (p)), .int (iI (k))] M) (mv_Q (kk V) (fun z0 M' => z0 = some (.int (iI (aFm S t p k))) ∧ ClsP V M' x (nFm S t p k))) 14 142 V.2.2.2.2 := by
  refine mv_Met (by decide) rfl (Nat.le_of_ble_eq_true rfl) (fun X hX B => ?_)
  subst hX
  replace B : mv_B X (kk V) c_Fam_family ws_Fam_family "FamilyRules" 6 (Option.some Jvm.ClassFile.FieldType.int) (rM 4 14 142 110) "family" := B
  obtain ⟨Q, hQ⟩ : ∃ Q, Q = mv_E X (kk V) (fun z0 M' => z0 = some (.int (iI (aFm S t p k))) ∧ ClsP V M' x (nFm S t p k)) 14 142 := ⟨_, rfl⟩
  rw [← hQ]
  show mv_G X Q (kk V) 6 0 [(0, .ref x), (1, .int (iI (t))), (2, .int (iI (p))), (3, .int (iI (k)))] [] M 0 0
  have hrc : (rM 4 14 142 110).cells = 14 := rfl
  have hrs : (rM 4 14 142 110).slots = 142 := rfl
  obtain ⟨⟨hx, hsh, htr, hrg, hgr, ⟨tm0, al0, fo0, ap0, hrd⟩, ⟨δ, hdp, hδ⟩, ⟨tg0, pl0, src0, P0, ar0, al1, pp0, hmk⟩⟩, hTm, hGl, hIn⟩ := id hP
  have hI := hJ.1
  have hb1 : S.1 ≤ 1500 := hI.1
  have hb2 : S.2.2.1 ≤ 100 := hI.2.1
  have hb3 : bs S.2.1 S.1 ≤ 30000 := hI.2.2.1
  refine mv_aloadR_n B d_Fam_family_0 rfl 0 rfl ?_
  refine gf_Fam_13 B hx rfl d_Fam_family_1 ?_
  refine mv_iload_n B d_Fam_family_4 rfl 1 rfl ?_
  refine ca_Fam_65 (mc := 0) (ms := 0) (As := [.int (iI (t))]) (rest := []) B (m_Shelf_find hsh htr (by omega) (i := t) (by omega)) rfl rfl ⟨Nat.le_of_ble_eq_true rfl, Nat.le_of_ble_eq_true rfl⟩ hsh rfl rfl (Nat.le_of_ble_eq_true rfl) d_Fam_family_5 ⟨by omega, by omega⟩ (mv_x ?_)
  show mv_G X Q (kk V) 6 8 [(0, .ref x), (1, .int (iI (t))), (2, .int (iI (p))), (3, .int (iI (k)))] [va_rf (if 0 ≤ t ∧ t < ((S.1 : Nat) : Int) then f (t).toNat else none)] M 0 0
  refine mv_astore (lv' := [(4, va_rf (if 0 ≤ t ∧ t < ((S.1 : Nat) : Int) then f (t).toNat else none)), (0, .ref x), (1, .int (iI (t))), (2, .int (iI (p))), (3, .int (iI (k)))]) B d_Fam_family_8 (by decide) rfl ?_
  refine mv_aload B d_Fam_family_10 0 rfl ?_
  refine mv_ifnull (tgt := 29) B d_Fam_family_12 (by decide) (fun c1 => ?_) (fun a2 c1 => ?_)
  · have hnt : ¬ (0 ≤ t ∧ t < ((S.1 : Nat) : Int)) := by
      intro q
      rw [if_pos q, (hTm (t).toNat (by omega)).1] at c1
      cases c1
    refine mv_iconst (z := -1) B d_Fam_family_29 rfl ?_
    rw [hQ]
    have hno : ¬ okF S t p k := fun z => by
      obtain ⟨w1, w2, w3, w4, w5, w6, w7, w8, w9⟩ := z
      first | omega | exact hcl w3
    exact mv_iret B ⟨by unfold aFm; rw [if_neg hno], by unfold nFm; rw [if_neg hno]; exact ⟨sh, rg, rd, mk, trow, grow, dep, hT, tq, tt, ga, ca, f, gf, hP⟩⟩ (by omega) (by omega) d_Fam_family_30
  · have hit : 0 ≤ t ∧ t < ((S.1 : Nat) : Int) := by
      apply Classical.byContradiction
      intro q
      rw [if_neg q] at c1
      cases c1
    have htt := hTm (t).toNat (by omega)
    rw [if_pos hit, htt.1]
    show mv_G X Q (kk V) 6 15 [(4, .ref ((hT (t).toNat))), (0, .ref x), (1, .int (iI (t))), (2, .int (iI (p))), (3, .int (iI (k)))] [] M 0 0
    refine mv_iload_n B d_Fam_family_15 rfl 3 rfl ?_
    refine mv_if_lt (tgt := 29) B d_Fam_family_16 (by decide) (by first | omega | (split <;> omega)) (fun c3 => ?_) (fun c3 => ?_)
    · refine mv_iconst (z := -1) B d_Fam_family_29 rfl ?_
      rw [hQ]
      have hno : ¬ okF S t p k := fun z => by
        obtain ⟨w1, w2, w3, w4, w5, w6, w7, w8, w9⟩ := z
        first | omega | exact hcl w3
      exact mv_iret B ⟨by unfold aFm; rw [if_neg hno], by unfold nFm; rw [if_neg hno]; exact ⟨sh, rg, rd, mk, trow, grow, dep, hT, tq, tt, ga, ca, f, gf, hP⟩⟩ (by omega) (by omega) d_Fam_family_30
    · refine mv_iload_n B d_Fam_family_19 rfl 4 rfl ?_
      refine mv_if_lt (tgt := 29) B d_Fam_family_20 (by decide) (by first | omega | (split <;> omega)) (fun c4 => ?_) (fun c4 => ?_)
      · refine mv_iconst (z := -1) B d_Fam_family_29 rfl ?_
        rw [hQ]
        have hno : ¬ okF S t p k := fun z => by
          obtain ⟨w1, w2, w3, w4, w5, w6, w7, w8, w9⟩ := z
          first | omega | exact hcl w3
        exact mv_iret B ⟨by unfold aFm; rw [if_neg hno], by unfold nFm; rw [if_neg hno]; exact ⟨sh, rg, rd, mk, trow, grow, dep, hT, tq, tt, ga, ca, f, gf, hP⟩⟩ (by omega) (by omega) d_Fam_family_30
      · refine mv_iload_n B d_Fam_family_23 rfl 4 rfl ?_
        refine mv_bipush (z := 12) B d_Fam_family_24 (by decide) ?_
        refine mv_icmp_le (tgt := 31) B d_Fam_family_26 (by decide) (by first | omega | (split <;> omega)) (by first | omega | (split <;> omega)) (fun c5 => ?_) (fun c5 => ?_)
        · refine mv_aloadR_n B d_Fam_family_31 rfl 1 rfl ?_
          refine gf_Fam_26 B hx rfl d_Fam_family_32 ?_
          refine mv_aloadR B d_Fam_family_35 0 rfl ?_
          refine mv_iconst (z := 0) B d_Fam_family_37 rfl ?_
          refine ca_Fam_68 (mc := 0) (ms := 0) (rm' := rM 2 0 0 45) (As := [.ref ((hT (t).toNat)), .int (iI (0))]) (rest := []) B (m_Reader_readShape hrd htt.2.1.at htt.2.2.1 (r := 0) (by omega)) rfl rfl ⟨Nat.le_of_ble_eq_true rfl, Nat.le_of_ble_eq_true rfl⟩ hrd rfl rfl (Nat.le_of_ble_eq_true rfl) d_Fam_family_38 ⟨by omega, by omega⟩ (fun v1 M1 ep => ?_)
          obtain ⟨e1, hM1⟩ := ep
          subst e1
          have ho := hI.2.2.2.1 t.toNat (by omega)
          have hxl : 0 < (S.2.1 t.toNat).length := by have := ho.2.1; omega
          have hxl2 := ho.2.2.1
          have enA : allN (tt t.toNat) 1000 0 = nA (S.2.1 t.toNat) 0 := nA_t htt.2.2.2.1 ho.1 ho.2.2.1 hxl
          have eft : beR (tt t.toNat) 0 (allN (tt t.toNat) 1000 0) = ((ft (S.2.1 t.toNat) 0 : Nat) : Int) := ft_t htt.2.2.2.1 ho.1 ho.2.2.1 hxl
          have enP : appN (tt t.toNat) 1000 (beR (tt t.toNat) 0 (allN (tt t.toNat) 1000 0)) = nP (S.2.1 t.toNat) (ft (S.2.1 t.toNat) 0) := sA_t htt.2.2.2.1 ho.1 ho.2.2.1 hxl
          have ha9 := nA_ok ho.1 ho.2.2.1 hxl
          have hp9 := (nP_ok ho.1 ho.2.2.1 ha9.2.2).1
          have hP1 : ClsC V M1 x sh rg rd mk trow grow dep hT tq tt ga ca f gf S := by rw [hM1]; exact Cls_rd hP
          have hrd1 : M1 rd = some (dC dep (some (hT t.toNat)) ((nA (S.2.1 t.toNat) 0 : Nat) : Int) ((ft (S.2.1 t.toNat) 0 : Nat) : Int) ((nP (S.2.1 t.toNat) (ft (S.2.1 t.toNat) 0) : Nat) : Int)) := by rw [hM1, mv_us]; unfold shC; rw [enP, eft, enA]
          obtain ⟨⟨hx1, hsh1, htr1, hrg1, hgr1, -, -, -⟩, hTm1, hGl1, -⟩ := id hP1
          have hdp1 : M1 dep = some (iA V 1000 δ) := by rw [hM1, mv_un (mv_ne hdp hrd (by simp))]; exact hdp
          have htt1 := hTm1 t.toNat (by omega)
          show mv_G X Q (kk V) 6 41 [(4, .ref ((hT (t).toNat))), (0, .ref x), (1, .int (iI (t))), (2, .int (iI (p))), (3, .int (iI (k)))] [] M1 (0) (0)
          refine mv_aloadR_n B d_Fam_family_41 rfl 1 rfl ?_
          refine gf_Fam_26 B hx1 rfl d_Fam_family_42 ?_
          refine gf_Fam_72 B hrd1 rfl d_Fam_family_45 ?_
          refine mv_iload_n B d_Fam_family_48 rfl 3 rfl ?_
          refine mv_isub B d_Fam_family_49 ?_
          refine mv_istore (lv' := [(5, .int (iI (((nA (S.2.1 t.toNat) 0 : Nat) : Int) - p))), (4, .ref ((hT (t).toNat))), (0, .ref x), (1, .int (iI (t))), (2, .int (iI (p))), (3, .int (iI (k)))]) B d_Fam_family_50 (by decide) rfl ?_
          refine mv_iload B d_Fam_family_52 0 rfl ?_
          refine mv_if_lt (tgt := 85) B d_Fam_family_54 (by decide) (by first | omega | (split <;> omega)) (fun c6 => ?_) (fun c6 => ?_)
          · refine mv_iconst (z := -1) B d_Fam_family_85 rfl ?_
            rw [hQ]
            have hno : ¬ okF S t p k := fun z => by
              obtain ⟨w1, w2, w3, w4, w5, w6, w7, w8, w9⟩ := z
              first | omega | exact hcl w3
            exact mv_iret B ⟨by unfold aFm; rw [if_neg hno], by unfold nFm; rw [if_neg hno]; exact ⟨sh, rg, rd, mk, trow, grow, dep, hT, tq, tt, ga, ca, f, gf, hP1⟩⟩ (by omega) (by omega) d_Fam_family_86
          · refine mv_aloadR B d_Fam_family_57 1 rfl ?_
            refine mv_aloadR_n B d_Fam_family_59 rfl 2 rfl ?_
            refine gf_Fam_26 B hx1 rfl d_Fam_family_60 ?_
            refine gf_Fam_76 B hrd1 rfl d_Fam_family_63 ?_
            refine ca_Fam_79 (mc := 0) (ms := 0) (As := [.int (iI (((ft (S.2.1 t.toNat) 0 : Nat) : Int)))]) (rest := []) B (m_Term_kindAt htt1.2.1.at htt1.2.2.1 (i := ((ft (S.2.1 t.toNat) 0 : Nat) : Int)) (by omega)) rfl rfl ⟨Nat.le_of_ble_eq_true rfl, Nat.le_of_ble_eq_true rfl⟩ htt1.2.1.1 rfl rfl (Nat.le_of_ble_eq_true rfl) d_Fam_family_66 ⟨by omega, by omega⟩ (mv_x ?_)
            show mv_G X Q (kk V) 6 69 [(5, .int (iI (((nA (S.2.1 t.toNat) 0 : Nat) : Int) - p))), (4, .ref ((hT (t).toNat))), (0, .ref x), (1, .int (iI (t))), (2, .int (iI (p))), (3, .int (iI (k)))] [.int (iI (kAt (tt t.toNat) ((ft (S.2.1 t.toNat) 0 : Nat) : Int)))] M1 0 0
            rw [kAt_S htt.2.2.2.1 ha9.2.2]
            have hkr := (AOk_g ho.2.2.2 ha9.2.2).1
            refine mv_iconst (z := 2) B d_Fam_family_69 rfl ?_
            refine mv_icmp_ne (tgt := 85) B d_Fam_family_70 (by decide) (by first | omega | (split <;> omega)) (by first | omega | (split <;> omega)) (fun c7 => ?_) (fun c7 => ?_)
            · refine mv_iconst (z := -1) B d_Fam_family_85 rfl ?_
              rw [hQ]
              have hno : ¬ okF S t p k := fun z => by
                obtain ⟨w1, w2, w3, w4, w5, w6, w7, w8, w9⟩ := z
                first | omega | exact hcl w3
              exact mv_iret B ⟨by unfold aFm; rw [if_neg hno], by unfold nFm; rw [if_neg hno]; exact ⟨sh, rg, rd, mk, trow, grow, dep, hT, tq, tt, ga, ca, f, gf, hP1⟩⟩ (by omega) (by omega) d_Fam_family_86
            · refine mv_aloadR_n B d_Fam_family_73 rfl 2 rfl ?_
              refine gf_Fam_26 B hx1 rfl d_Fam_family_74 ?_
              refine mv_aloadR B d_Fam_family_77 1 rfl ?_
              have hdB := dpW_bd htt.2.2.2.1 ho.1 ho.2.2.1 hδ
              refine ca_Fam_83 (mc := 0) (ms := 0) (rm' := rM 3 0 0 70) (As := [.ref ((hT (t).toNat))]) (rest := []) B (m_Reader_isClosed hrd1 hdp1 htt1.2.1.at htt1.2.2.1 (TmC_D htt1.2.1 htt1.2.2.2.2) (fun i => by unfold dgt; split; have := hdB i.toNat; omega; omega)) rfl rfl ⟨Nat.le_of_ble_eq_true rfl, Nat.le_of_ble_eq_true rfl⟩ hrd1 rfl rfl (Nat.le_of_ble_eq_true rfl) d_Fam_family_79 ⟨by omega, by omega⟩ (fun v1 M2 ep => ?_)
              obtain ⟨e1, hM2⟩ := ep
              subst e1
              have hP2 : ClsC V M2 x sh rg rd mk trow grow dep hT tq tt ga ca f gf S := by rw [hM2]; exact Cls_dp hP1 hdB
              have ecl : (if clB (tt t.toNat) (dpW (tt t.toNat) δ (tt t.toNat).1) (tt t.toNat).1 = true then (1 : Int) else 0) = if clsB (S.2.1 t.toNat) = true then 1 else 0 := cl_eq htt.2.2.2.1 ho.1 ho.2.2.1
              obtain ⟨⟨hx2, hsh2, htr2, hrg2, hgr2, -, -, -⟩, hTm2, hGl2, -⟩ := id hP2
              have htt2 := hTm2 t.toNat (by omega)
              rw [ecl]
              show mv_G X Q (kk V) 6 82 [(5, .int (iI (((nA (S.2.1 t.toNat) 0 : Nat) : Int) - p))), (4, .ref ((hT (t).toNat))), (0, .ref x), (1, .int (iI (t))), (2, .int (iI (p))), (3, .int (iI (k)))] [.int (iI (if clsB (S.2.1 t.toNat) = true then 1 else 0))] M2 (0) (0)
              refine mv_if_ne (tgt := 87) B d_Fam_family_82 (by decide) (by first | omega | (split <;> omega)) (fun c8 => ?_) (fun c8 => ?_)
              · have hcl : clsB (S.2.1 t.toNat) = true := by
                  apply Classical.byContradiction
                  intro q
                  rw [if_neg q] at c8
                  omega
                refine mv_aloadR_n B d_Fam_family_87 rfl 2 rfl ?_
                refine gf_Fam_22 B hx2 rfl d_Fam_family_88 ?_
                refine mv_aloadR B d_Fam_family_91 1 rfl ?_
                refine mv_iload_n B d_Fam_family_93 rfl 4 rfl ?_
                refine mv_iload B d_Fam_family_94 0 rfl ?_
                refine mv_iload_n B d_Fam_family_96 rfl 5 rfl ?_
                have ek : k = ((k.toNat : Nat) : Int) := by omega
                have hok : ((S.2.2.1 : Nat) : Int) + 1 + k ≤ 100 → okF S t p k := fun z => ⟨by omega, by omega, hcl, by omega, by omega, by omega, z, by omega, by omega⟩
                rw [show iI k = iI ((k.toNat : Nat) : Int) by rw [← ek]]
                refine ca_Fam_87 (mc := 2 + k.toNat) (ms := 10 + k.toNat + 10 * k.toNat) (rm' := rM 2 (2 + k.toNat) (10 + k.toNat + 10 * k.toNat) 60) (As := [.ref ((hT (t).toNat)), .int (iI (p)), .int (iI (((nA (S.2.1 t.toNat) 0 : Nat) : Int) - p)), .int (iI (((k.toNat : Nat) : Int)))]) (rest := []) B (m_Register_addFamily hrg2 hgr2 (by omega) (P := p) (ix := ((nA (S.2.1 t.toNat) 0 : Nat) : Int) - p) htt2.2.1.1 (by omega)) rfl rfl ⟨Nat.le_of_ble_eq_true rfl, Nat.le_of_ble_eq_true rfl⟩ hrg2 rfl rfl (Nat.le_of_ble_eq_true rfl) d_Fam_family_97 ⟨by omega, by omega⟩ (fun v1 M3 ep => ?_)
                rw [hQ]
                rcases ep with ⟨z1, z2, z3⟩ | ⟨z1, z2, g9, ca9, cc9, z3, z4, z5, z6, z7, z8, z9, z10⟩
                · subst z2
                  have hno : ¬ okF S t p k := fun z => by have := z.2.2.2.2.2.2.1; omega
                  exact mv_iret B ⟨by unfold aFm; rw [if_neg hno], by unfold nFm; rw [if_neg hno, z3]; exact ⟨sh, rg, rd, mk, trow, grow, dep, hT, tq, tt, ga, ca, f, gf, hP2⟩⟩ (by omega) (by omega) d_Fam_family_100
                · subst z2
                  have hok := hok (by omega)
                  refine mv_iret B ⟨by unfold aFm; rw [if_pos hok], ?_⟩ (by omega) (by omega) d_Fam_family_100
                  unfold nFm; rw [if_pos hok]
                  exact Cls_fm hP2 hJ hok z3 z4 z5 z6 z7 z8 z9 z10
              · have hcl : ¬ clsB (S.2.1 t.toNat) = true := by
                  intro q
                  rw [if_pos q] at c8
                  omega
                refine mv_iconst (z := -1) B d_Fam_family_85 rfl ?_
                rw [hQ]
                have hno : ¬ okF S t p k := fun z => by
                  obtain ⟨w1, w2, w3, w4, w5, w6, w7, w8, w9⟩ := z
                  first | omega | exact hcl w3
                exact mv_iret B ⟨by unfold aFm; rw [if_neg hno], by unfold nFm; rw [if_neg hno]; exact ⟨sh, rg, rd, mk, trow, grow, dep, hT, tq, tt, ga, ca, f, gf, hP2⟩⟩ (by omega) (by omega) d_Fam_family_86
        · refine mv_iconst (z := -1) B d_Fam_family_29 rfl ?_
          rw [hQ]
          have hno : ¬ okF S t p k := fun z => by
            obtain ⟨w1, w2, w3, w4, w5, w6, w7, w8, w9⟩ := z
            first | omega | exact hcl w3
          exact mv_iret B ⟨by unfold aFm; rw [if_neg hno], by unfold nFm; rw [if_neg hno]; exact ⟨sh, rg, rd, mk, trow, grow, dep, hT, tq, tt, ga, ca, f, gf, hP⟩⟩ (by omega) (by omega) d_Fam_family_30
