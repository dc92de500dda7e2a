/-! the reference over the shared state: family, constructor -/
theorem told_pr {F : Nat → Nat → Int} {b cap : Nat} {xs : List Nd} (hs : seF F b xs) (hc : Cpl xs) (h1 : 1 ≤ xs.length) (hn : xs.length ≤ 1000) (hcap : b + xs.length ≤ cap) : (0 ≤ F 3 b ∧ (b : Int) + F 3 b ≤ cap ∧ b < cap) ∧ (∀ i : Nat, (i : Int) < F 3 b → 4 ≤ F 0 (b + i) → (b : Int) + i + 1 < cap ∧ 0 ≤ scR F (b + i) ∧ scR F (b + i) < cap) ∧ (∀ i : Nat, (i : Int) < F 3 b → Sm (wkR F b (F 4) i (b + i) + 1)) ∧ (if clR F (wkR F b (F 4) (Int.toNat (F 3 b))) b (F 3 b).toNat = true then (1 : Int) else 0) = (if clsB xs = true then 1 else 0) ∧ nA xs 0 ≤ 1000 ∧ (∀ j, j < nA xs 0 → F 0 (unR F (b : Nat) j).toNat = 6) ∧ (¬ F 0 (unR F (b : Nat) (nA xs 0)).toNat = 6) ∧ (∀ j, j ≤ nA xs 0 → 0 ≤ unR F (b : Nat) j ∧ unR F (b : Nat) j < cap ∧ (j < nA xs 0 → unR F (b : Nat) j + 1 < cap)) := by
  have e3 : F 3 b = (xs.length : Nat) := by
    have := (hs 0 (by omega)).2.2.2
    rw [Nat.add_zero, ln_0 hc h1] at this
    exact this
  have hly := hs.ly
  have a1 := nA_ok hc hn (i := 0) (by omega)
  obtain ⟨q1, q2, q3⟩ := alO hs hc a1.1 hcap
  refine ⟨by rw [e3]; omega, fun k hk h4 => ?_, fun k hk => ?_, ?_, by omega, q1, q2, q3⟩
  · rw [e3] at hk
    have hk' : k < xs.length := by omega
    have h4' : 4 ≤ (gN xs k).1 := by rw [← (hly k hk').1]; exact h4
    obtain ⟨w1, w2, w3⟩ := (WF_S hc k hk').2.2.2 h4'
    have e4 := (hly (k + 1) w1).2
    have es : scR F (((b : Nat) : Int) + (k : Nat)) = ((b + (k + 1 + lnS xs (k + 1)) : Nat) : Int) := by
      unfold scR
      rw [show (((b : Nat) : Int) + (k : Nat) + 1).toNat = b + (k + 1) by omega, e4]
      omega
    rw [es]
    omega
  · rw [e3] at hk
    have hk' : k < xs.length := by omega
    have := dp_bd hc hk'
    rw [wkR_at hc hly (F 4) hk']
    omega
  · rw [e3, Int.toNat_natCast]
    have k1 := clR_S hs (D := wkR F b (F 4) xs.length) (fun j hj => wkR_end hc hly (F 4) hj) xs.length (Nat.le_refl _)
    have k2 := clsB_i hn (xs := xs)
    by_cases q : Cls xs
    · rw [if_pos (k1.mpr q), if_pos (k2.mpr q)]
    · rw [if_neg (fun z => q (k1.mp z)), if_neg (fun z => q (k2.mp z))]
section MR3
variable {l : Launch} {V : mv_V} {M : mv_M} {r cap lq : Nat} {S : SS}
theorem mR_family (hP : RefP V M r cap lq S) (hK : RefK cap lq S) {t p k : Int} (rt : R32 t) (rp : R32 p) (rk : R32 k) : RCall l V M r cap lq y_Mod_family ws_Mod_family 3 80 [.ref r, .int (iI t), .int (iI p), .int (iI k)] (aFm S t p k) (nFm S t p k) := by
  obtain ⟨A, F, hC, hF⟩ := id hP
  obtain ⟨K1, K2, K3, K4, K5, K6⟩ := id hK
  have hgt := hgtS hK
  have hK' : RefK cap lq (nFm S t p k) := ⟨by unfold nFm; split <;> exact K1, K2, K3, K4, K5, Jv_Fm K6 t p k⟩
  have hun : 0 ≤ t ∧ t < ((S.1 : Nat) : Int) → F 0 (unR F ((bs S.2.1 t.toNat : Nat) : Int) (nA (S.2.1 t.toNat) 0)).toNat = (gN (S.2.1 t.toNat) (ft (S.2.1 t.toNat) 0)).1 := fun q => by
    obtain ⟨a, b⟩ := hF.1 t.toNat (by omega)
    have ho := K6.1.2.2.2.1 t.toNat (by omega)
    have a1 := nA_ok ho.1 ho.2.2.1 (i := 0) (by have := ho.2.1; omega)
    have e := unR_S b ho.1 a1.1.1 _ (Nat.le_refl _)
    have e' : unR F ((bs S.2.1 t.toNat : Nat) : Int) (nA (S.2.1 t.toNat) 0) = ((bs S.2.1 t.toNat + ft (S.2.1 t.toNat) 0 : Nat) : Int) := e
    rw [e']
    exact b.k a1.2.2
  refine RCall_0 hK' (m_Mod_family hC (by omega) (b := bs S.2.1 t.toNat) (n := nA (S.2.1 t.toNat) 0) (cl := if clsB (S.2.1 t.toNat) = true then 1 else 0) hgt rt rp rk (fun q => by
    obtain ⟨a, b⟩ := hF.1 t.toNat (by omega)
    have ho := K6.1.2.2.2.1 t.toNat (by omega)
    have hin := bs_in (X := S.2.1) (s := t.toNat) (t := S.1) (by omega)
    exact ⟨a, told_pr b ho.1 ho.2.1 ho.2.2.1 (by omega)⟩)) (fun v M' h => ?_)
  obtain ⟨h1, h2⟩ := h
  have eG : (0 ≤ t ∧ t < ((S.1 : Nat) : Int) ∧ (if clsB (S.2.1 t.toNat) = true then (1 : Int) else 0) = 1 ∧ 0 ≤ p ∧ 0 ≤ k ∧ k ≤ 12 ∧ ((S.2.2.1 : Nat) : Int) + 1 + k ≤ 100 ∧ F 0 (unR F ((bs S.2.1 t.toNat : Nat) : Int) (nA (S.2.1 t.toNat) 0)).toNat = 2 ∧ p ≤ (nA (S.2.1 t.toNat) 0 : Nat)) ↔ okF S t p k := by
    constructor
    · intro ⟨z1, z2, z3, z4, z5, z6, z7, z8, z9⟩
      rw [hun ⟨z1, z2⟩] at z8
      refine ⟨z1, z2, ?_, z4, z5, z6, z7, z8, z9⟩
      apply Classical.byContradiction
      intro w
      rw [if_neg w] at z3
      omega
    · intro ⟨z1, z2, z3, z4, z5, z6, z7, z8, z9⟩
      rw [← hun ⟨z1, z2⟩] at z8
      exact ⟨z1, z2, by rw [if_pos z3], z4, z5, z6, z7, z8, z9⟩
  unfold aFm nFm
  by_cases q : okF S t p k
  · rw [if_pos (eG.mpr q)] at h1
    rw [if_pos q, if_pos q]
    refine ⟨h1, ?_⟩
    rcases h2 with ⟨h2, -⟩ | ⟨-, D, h3⟩
    · exact absurd (eG.mpr q) h2
    · rw [Int.toNat_natCast] at h3
      obtain ⟨q1, q2, q3, q4, q5, q6, q7, q8, q9⟩ := q
      obtain ⟨f1, f2, f3, f4⟩ := fmL_e (va_up F 4 D) S.2.2.1 p ((nA (S.2.1 t.toNat) 0 : Nat) - p) k ((bs S.2.1 t.toNat : Nat) : Int) k.toNat
      refine ⟨A, _, by rw [show ((S.2.2.1 : Nat) : Int) + 1 + k = ((S.2.2.1 + 1 + k.toNat : Nat) : Int) by omega] at h3; exact h3, fun u hu => ?_, fun g hg => ?_⟩
      · obtain ⟨a, b⟩ := hF.1 u hu
        refine ⟨by rw [f1 5 (by omega), va_un (by omega)]; exact a, seF_cg (fun j hj => ?_) b⟩
        rw [f1 j (by omega), va_un (by omega)]
      · have hg' : g < S.2.2.1 + 1 + k.toNat := hg
        unfold tbS otS cnG
        show _ = (fmG S t p k g).1 ∧ _ = (match (fmG S t p k g).2.2.2.2.2.1 with | some t => ((bs S.2.1 t : Nat) : Int) | none => -1) ∧ _ = (((fmG S t p k g).2.1 : Nat) : Int) ∧ _ = (((fmG S t p k g).2.2.1 : Nat) : Int) ∧ _ = (if (fmG S t p k g).1 = 4 then (match (fmG S t p k g).2.2.2.2.2.1 with | some _ => (((fmG S t p k g).2.2.2.2.2.2.1 : Nat) : Int) | none => -1) else (((fmG S t p k g).2.2.2.1 : Nat) : Int)) ∧ _ = (if (fmG S t p k g).1 = 3 then (((fmG S t p k g).2.2.2.2.1 : Nat) : Int) else 0)
        by_cases z : g < S.2.2.1
        · rw [show fmG S t p k g = S.2.2.2 g by unfold fmG; rw [if_neg (by omega), if_neg (by omega)]]
          obtain ⟨y6, y7, y8, y9, y10, y11⟩ := f3 g z
          rw [y6, y7, y8, y9, y10, y11, va_un (by omega), va_un (by omega), va_un (by omega), va_un (by omega), va_un (by omega), va_un (by omega)]
          exact hF.2 g z
        · by_cases z2 : g = S.2.2.1
          · subst z2
            rw [show fmG S t p k S.2.2.1 = (3, S.2.2.1, p.toNat, nA (S.2.1 t.toNat) 0 - p.toNat, k.toNat, some t.toNat, 0, 0) by unfold fmG; rw [if_pos rfl]]
            obtain ⟨y6, y7, y8, y9, y10, y11⟩ := f2
            rw [y6, y7, y8, y9, y10, y11]
            simp only
            rw [if_neg (by omega), if_pos trivial]
            exact ⟨trivial, trivial, trivial, by omega, by omega, by omega⟩
          · rw [show fmG S t p k g = (4, S.2.2.1, p.toNat, nA (S.2.1 t.toNat) 0 - p.toNat, g - S.2.2.1 - 1, none, 0, 0) by unfold fmG; rw [if_neg z2, if_pos (by omega)]]
            obtain ⟨y6, y7, y8, y9, y10, y11⟩ := f4 g (by omega) (by omega)
            rw [y6, y7, y8, y9, y10, y11]
            simp only
            rw [if_pos trivial, if_neg (by omega)]
            exact ⟨trivial, trivial, trivial, by omega, rfl, rfl⟩
  · rw [if_neg (fun z => q (eG.mp z))] at h1
    rw [if_neg q, if_neg q]
    refine ⟨h1, ?_⟩
    rcases h2 with ⟨-, D, h3⟩ | ⟨h2, -⟩
    · exact ⟨A, _, h3, RFS_ag hF (fun j x hj hx => by rw [va_un (by omega)]) (fun j a b => by rw [va_un (by omega)])⟩
    · exact absurd (eG.mp h2) q
theorem tb_n {g : Nat} : tbS S g = -1 ↔ (S.2.2.2 g).2.2.2.2.2.1 = none := by
  unfold tbS
  cases h : (S.2.2.2 g).2.2.2.2.2.1 with
  | none => simp
  | some t => simp only; constructor <;> intro q <;> first | omega | (exact absurd q (by simp))
theorem mR_constructor (hP : RefP V M r cap lq S) (hK : RefK cap lq S) {g t : Int} (rg : R32 g) (rt : R32 t) : RCall l V M r cap lq y_Mod_constructor ws_Mod_constructor 3 90 [.ref r, .int (iI g), .int (iI t)] (aCo S g t) (nCo S g t) := by
  obtain ⟨A, F, hC, hF⟩ := id hP
  obtain ⟨K1, K2, K3, K4, K5, K6⟩ := id hK
  have hgt := hgtS hK
  have hK' : RefK cap lq (nCo S g t) := ⟨by unfold nCo; split <;> exact K1, K2, K3, K4, K5, Jv_Co K6 g t⟩
  obtain ⟨xs, hxs⟩ : ∃ z, z = S.2.1 t.toNat := ⟨_, rfl⟩
  obtain ⟨d, hd⟩ : ∃ z, z = (S.2.2.2 g.toNat).2.1 := ⟨_, rfl⟩
  obtain ⟨np, hnp⟩ : ∃ z, z = (S.2.2.2 g.toNat).2.2.1 := ⟨_, rfl⟩
  obtain ⟨ni, hni⟩ : ∃ z, z = (S.2.2.2 g.toNat).2.2.2.1 := ⟨_, rfl⟩
  obtain ⟨n, hnn⟩ : ∃ z, z = nA xs 0 := ⟨_, rfl⟩
  obtain ⟨b, hb⟩ : ∃ z, z = bs S.2.1 t.toNat := ⟨_, rfl⟩
  -- what holds where the guard does
  have key : 0 ≤ g ∧ g < ((S.2.2.1 : Nat) : Int) ∧ (S.2.2.2 g.toNat).1 = 4 ∧ 0 ≤ t ∧ t < ((S.1 : Nat) : Int) → (F 5 t.toNat = ((b : Nat) : Int) ∧ seF F b xs ∧ Cpl xs ∧ 1 ≤ xs.length ∧ xs.length ≤ 1000 ∧ b + xs.length ≤ cap) ∧ (F 8 g.toNat = ((d : Nat) : Int) ∧ F 9 g.toNat = ((np : Nat) : Int) ∧ F 9 d = ((np : Nat) : Int) ∧ F 10 d = ((ni : Nat) : Int) ∧ d < 100 ∧ np + ni ≤ 500) ∧ d < S.2.2.1 := fun ⟨q1, q2, q3, q4, q5⟩ => by
    obtain ⟨a, b'⟩ := hF.1 t.toNat (by omega)
    have ho := K6.1.2.2.2.1 t.toNat (by omega)
    have hin := bs_in (X := S.2.1) (s := t.toNat) (t := S.1) (by omega)
    obtain ⟨c1, c2, c3, c4, c5, c6, c7⟩ := con_b K6.1 (g := g.toNat) (by omega) q3
    obtain ⟨t0, f1, f2, f3, f4, f5, f6, f7, f8, f9⟩ := fam_b K6.1 (g := (S.2.2.2 g.toNat).2.1) (by omega) c2
    obtain ⟨-, -, k8, k9, -, -⟩ := hF.2 g.toNat (by omega)
    obtain ⟨-, -, -, m9, m10, -⟩ := hF.2 (S.2.2.2 g.toNat).2.1 (by omega)
    rw [ot_3 c2] at m10
    subst hxs hd hnp hni hb
    refine ⟨⟨a, b', ho.1, ho.2.1, ho.2.2.1, by omega⟩, ⟨k8, k9, by rw [m9, c3], by rw [m10, c4], by have := K6.1.2.1; omega, by omega⟩, by omega⟩
  have key2 : ∀ i : Nat, Cpl xs → 1 ≤ xs.length → xs.length ≤ 1000 → np + i < n → rtS xs np i < xs.length ∧ unS xs 0 (np + i) + 1 = rtS xs np i := fun i h1 h2 h3 h4 => by
    have a1 := nA_ok h1 h3 (i := 0) (by omega)
    rw [← hnn] at a1
    have := (Bds_ok h1 a1.1.1 (np + i) (by omega)).2.2 (by omega)
    refine ⟨?_, ?_⟩
    · unfold rtS
      rw [← unS_add]
      exact this.1
    · unfold rtS
      rw [unS_add]
  have key3 : Cpl xs → seF F b xs → 1 ≤ xs.length → xs.length ≤ 1000 → ∀ i : Nat, np + i < n → unR F ((b : Nat) : Int) (np + i) + 1 = ((b + rtS xs np i : Nat) : Int) := fun h1 hs h2 h3 i h4 => by
    have a1 := nA_ok h1 h3 (i := 0) (by omega)
    rw [← hnn] at a1
    have e : unR F ((b : Nat) : Int) (np + i) = ((b + unS xs 0 (np + i) : Nat) : Int) := unR_S hs h1 a1.1.1 _ (by omega)
    rw [e, ← (key2 i h1 h2 h3 h4).2]
    omega
  have key4 : Cpl xs → seF F b xs → 1 ≤ xs.length → xs.length ≤ 1000 → unR F ((b : Nat) : Int) n = ((b + ft xs 0 : Nat) : Int) ∧ ApS xs (ft xs 0) (nP xs (ft xs 0)) := fun h1 hs h2 h3 => by
    have a1 := nA_ok h1 h3 (i := 0) (by omega)
    rw [← hnn] at a1
    refine ⟨?_, nP_ok h1 h3 a1.2.2⟩
    have e : unR F ((b : Nat) : Int) n = ((b + unS xs 0 n : Nat) : Int) := unR_S hs h1 a1.1.1 _ (Nat.le_refl _)
    rw [e]
    unfold ft
    rw [hnn]
  have h := m_Mod_constructor (l := l) hC (by omega) (g := g) (t := t) (b := b) (n := n) (d := d) (a := nP xs (ft xs 0)) (cl := if clsB xs = true then 1 else 0) (nn := fun i => nA xs (rtS xs np i)) (aa := fun i => nP xs (ft xs (rtS xs np i))) hgt rg rt (fun q => by
    have hg6 := (hF.2 g.toNat (by omega)).1
    obtain ⟨⟨y1, y2, y3, y4, y5, y6⟩, ⟨y7, y8, y9, y10, y11, y12⟩, -⟩ := key ⟨q.1, q.2.1, by rw [← hg6]; exact q.2.2.1, q.2.2.2.2.1, q.2.2.2.2.2⟩
    obtain ⟨z1, z2⟩ := key4 y3 y2 y4 y5
    obtain ⟨p2, p3, p4, p5, p6, p7, p8, p9⟩ := told_pr y2 y3 y4 y5 y6
    rw [← hnn] at p6 p7 p8 p9
    have hJ := JOK_S y2 y3 y5 y6 (ar := 0) (by omega) (i := 0) (by omega) y11 y9 y10 (by omega)
    have apl := z2.1
    have hsf : ((nP xs (ft xs 0) : Nat) : Int) = F 9 d + F 10 d → unR F ((b : Nat) : Int) n + ((nP xs (ft xs 0) : Nat) : Int) + 1 + F 9 d ≤ cap := by
      have := hJ.2.2.2.2.2.2.2.2.2.2.1
      rw [← hnn] at this
      exact this
    refine ⟨y1, p2, p3, p4, p5, p6, p7, p8, p9, y7, y11, by rw [y9, y10]; omega, by rw [z1]; omega, fun j hj => ?_, ?_, hsf, by rw [z1]; exact pvO_S y2 y3 y9 y10 z2, fun i hi => ?_⟩
    · rw [z1, show ((b + ft xs 0 : Nat) : Int) + (j : Int) = ((b + (ft xs 0 + j) : Nat) : Int) by omega, y2.k (by omega)]
      exact z2.2.1 j hj
    · rw [z1, show ((b + ft xs 0 : Nat) : Int) + ((nP xs (ft xs 0) : Nat) : Int) = ((b + (ft xs 0 + nP xs (ft xs 0)) : Nat) : Int) by omega, y2.k z2.1]
      exact z2.2.2
    · rw [y9] at hi
      rw [show (F 9 d).toNat + i = np + i by rw [y9]; omega, key3 y3 y2 y4 y5 i (by omega)]
      exact JOK_S y2 y3 y5 y6 (by rw [y9]; omega) (key2 i y3 y4 y5 (by omega)).1 y11 y9 y10 (by omega))
  have eC : okC S g t ↔ (0 ≤ g ∧ g < ((S.2.2.1 : Nat) : Int) ∧ (S.2.2.2 g.toNat).1 = 4 ∧ (S.2.2.2 g.toNat).2.2.2.2.2.1 = none ∧ 0 ≤ t ∧ t < ((S.1 : Nat) : Int) ∧ clsB xs = true ∧ np ≤ n ∧ ptB xs ((d : Nat) : Int) np ni (ft xs 0) (nP xs (ft xs 0)) ((n : Nat) - 1) = true) := by
    unfold okC
    rw [← hxs, ← hd, ← hnp, ← hni, ← hnn]
  have eb : bdC S g t = fbN (fun j => decide (jdS xs ((d : Nat) : Int) np ni (rtS xs np j) ((np + j : Nat) : Int) = 0)) (n - np) := by
    unfold bdC
    rw [← hxs, ← hd, ← hnp, ← hni, ← hnn]
  have er : rcC S g t = cnB (rcS xs ((d : Nat) : Int) np ni) (n - np) := by
    unfold rcC
    rw [← hxs, ← hd, ← hnp, ← hni, ← hnn]
  have e1 : (0 ≤ g ∧ g < ((S.2.2.1 : Nat) : Int) ∧ F 6 g.toNat = 4 ∧ F 7 g.toNat = -1 ∧ 0 ≤ t ∧ t < ((S.1 : Nat) : Int) ∧ (if clsB xs = true then (1 : Int) else 0) = 1) → (0 ≤ g ∧ g < ((S.2.2.1 : Nat) : Int) ∧ (S.2.2.2 g.toNat).1 = 4 ∧ (S.2.2.2 g.toNat).2.2.2.2.2.1 = none ∧ 0 ≤ t ∧ t < ((S.1 : Nat) : Int) ∧ clsB xs = true) := by
    intro ⟨z1, z2, z3, z4, z5, z6, z7⟩
    obtain ⟨k6, k7, -⟩ := hF.2 g.toNat (by omega)
    refine ⟨z1, z2, by rw [← k6]; exact z3, tb_n.mp (by rw [← k7]; exact z4), z5, z6, ?_⟩
    apply Classical.byContradiction
    intro w
    rw [if_neg w] at z7
    omega
  have e2 : (0 ≤ g ∧ g < ((S.2.2.1 : Nat) : Int) ∧ (S.2.2.2 g.toNat).1 = 4 ∧ (S.2.2.2 g.toNat).2.2.2.2.2.1 = none ∧ 0 ≤ t ∧ t < ((S.1 : Nat) : Int) ∧ clsB xs = true) → (0 ≤ g ∧ g < ((S.2.2.1 : Nat) : Int) ∧ F 6 g.toNat = 4 ∧ F 7 g.toNat = -1 ∧ 0 ≤ t ∧ t < ((S.1 : Nat) : Int) ∧ (if clsB xs = true then (1 : Int) else 0) = 1) := by
    intro ⟨z1, z2, z3, z4, z5, z6, z7⟩
    obtain ⟨k6, k7, -⟩ := hF.2 g.toNat (by omega)
    exact ⟨z1, z2, by rw [k6]; exact z3, by rw [k7]; exact tb_n.mpr z4, z5, z6, by rw [if_pos z7]⟩
  have hD : ∀ D : Nat → Int, RFS (va_up F 4 D) S := fun D => RFS_ag hF (fun j x hj hx => by rw [va_un (by omega)]) (fun j a b => by rw [va_un (by omega)])
  have fail : ¬ okC S g t → aCo S g t = -1 ∧ nCo S g t = S := fun z => by
    unfold aCo nCo
    rw [if_neg z, if_neg (fun w => z w.1)]
    exact ⟨rfl, rfl⟩
  refine RCall_0 hK' h (fun v M' g4 => ?_)
  rcases g4 with ⟨g1, g2, D, g3⟩ | ⟨g1, g2, g3, D, g5⟩ | ⟨g1, g2, g3, i, g5, g6, g7, g8, D, g9⟩ | ⟨g1, g2, g3, g5, g6, D, g7⟩
  · obtain ⟨f1, f2⟩ := fail (fun z => g1 (e2 (by
      obtain ⟨z1, z2, z3, z4, z5, z6, z7, -⟩ := eC.mp z
      exact ⟨z1, z2, z3, z4, z5, z6, z7⟩)))
    rw [f1, f2]
    exact ⟨g2, A, _, g3, hD D⟩
  · have y := e1 g1
    obtain ⟨⟨y1, y2, y3, y4, y5, y6⟩, ⟨y7, y8, y9, y10, y11, y12⟩, -⟩ := key ⟨y.1, y.2.1, y.2.2.1, y.2.2.2.2.1, y.2.2.2.2.2.1⟩
    obtain ⟨z1, z2⟩ := key4 y3 y2 y4 y5
    rw [z1, isPR_S y2 y3 y9 y10 z2, y9] at g2
    obtain ⟨f1, f2⟩ := fail (fun z => by
      obtain ⟨-, -, -, -, -, -, -, w1, w2⟩ := eC.mp z
      rcases g2 with g2 | g2
      · omega
      · rw [w2] at g2; exact absurd g2 (by simp))
    rw [f1, f2]
    exact ⟨g3, A, _, g5, hD D⟩
  · have y := e1 g1
    obtain ⟨⟨y1, y2, y3, y4, y5, y6⟩, ⟨y7, y8, y9, y10, y11, y12⟩, -⟩ := key ⟨y.1, y.2.1, y.2.2.1, y.2.2.2.2.1, y.2.2.2.2.2.1⟩
    obtain ⟨z1, z2⟩ := key4 y3 y2 y4 y5
    rw [z1, isPR_S y2 y3 y9 y10 z2] at g3
    rw [y9] at g2 g5
    have eJ : ∀ j : Nat, np + j < n → jdR F (unR F ((b : Nat) : Int) ((F 9 d).toNat + j) + 1) d (F 9 d + (j : Nat)) (nA xs (rtS xs np j)) (nP xs (ft xs (rtS xs np j))) = jdS xs ((d : Nat) : Int) np ni (rtS xs np j) ((np + j : Nat) : Int) := fun j hj => by
      rw [show (F 9 d).toNat + j = np + j by rw [y9]; omega, key3 y3 y2 y4 y5 j hj, jdR_S y2 y3 y5 (key2 j y3 y4 y5 hj).1 y9 y10, y9]
      congr 1
    have ok : okC S g t := eC.mpr ⟨y.1, y.2.1, y.2.2.1, y.2.2.2.1, y.2.2.2.2.1, y.2.2.2.2.2.1, y.2.2.2.2.2.2, by omega, g3⟩
    have bd : bdC S g t = some i := by
      rw [eb]
      refine fbN_s (by omega) ?_ (fun j hj => ?_)
      · rw [decide_eq_true_eq, ← eJ i (by omega)]; exact g7
      · rw [decide_eq_false_iff_not, ← eJ j (by omega)]; exact g6 j hj
    have f1 : aCo S g t = -2 - ((i : Nat) : Int) := by
      unfold aCo
      rw [if_pos ok, bd]
    have f2 : nCo S g t = S := by
      unfold nCo
      rw [if_neg (fun w => by rw [bd] at w; exact absurd w.2 (by simp))]
    rw [f1, f2]
    exact ⟨g8, A, _, g9, hD D⟩
  · have y := e1 g1
    obtain ⟨⟨y1, y2, y3, y4, y5, y6⟩, ⟨y7, y8, y9, y10, y11, y12⟩, ydg⟩ := key ⟨y.1, y.2.1, y.2.2.1, y.2.2.2.2.1, y.2.2.2.2.2.1⟩
    obtain ⟨z1, z2⟩ := key4 y3 y2 y4 y5
    rw [z1, isPR_S y2 y3 y9 y10 z2] at g3
    rw [y9] at g2
    have e9 : n - (F 9 d).toNat = n - np := by rw [y9]; omega
    rw [e9] at g5 g6
    have eJ : ∀ j : Nat, np + j < n → jdR F (unR F ((b : Nat) : Int) ((F 9 d).toNat + j) + 1) d (F 9 d + (j : Nat)) (nA xs (rtS xs np j)) (nP xs (ft xs (rtS xs np j))) = jdS xs ((d : Nat) : Int) np ni (rtS xs np j) ((np + j : Nat) : Int) := fun j hj => by
      rw [show (F 9 d).toNat + j = np + j by rw [y9]; omega, key3 y3 y2 y4 y5 j hj, jdR_S y2 y3 y5 (key2 j y3 y4 y5 hj).1 y9 y10, y9]
      congr 1
    have ok : okC S g t := eC.mpr ⟨y.1, y.2.1, y.2.2.1, y.2.2.2.1, y.2.2.2.2.1, y.2.2.2.2.2.1, y.2.2.2.2.2.2, by omega, g3⟩
    have hT := okC_T K6.1 ok
    rw [← hxs, ← hd, ← hnp, ← hni, ← hnn] at hT
    have hnz : ∀ j, j < n - np → jdS xs ((d : Nat) : Int) np ni (rtS xs np j) ((np + j : Nat) : Int) ≠ 0 := fun j hj => by rw [← eJ j (by omega)]; exact g5 j hj
    have bd : bdC S g t = none := by
      rw [eb]
      exact fbN_n.mpr (fun j hj => by rw [decide_eq_false_iff_not]; exact hnz j hj)
    have ec : ∀ m, m ≤ n - np → cnR F ((b : Nat) : Int) d (fun i => nA xs (rtS xs np i)) (fun i => nP xs (ft xs (rtS xs np i))) m = ((cnB (rcS xs ((d : Nat) : Int) np ni) m : Nat) : Int) := by
      intro m
      induction m with
      | zero => intro _; rfl
      | succ m ih =>
        intro hm
        have jr := jd_rc hT (j := m) (by omega) (hnz m (by omega))
        simp only [cnR, cnB]
        rw [ih (by omega), eJ m (by omega)]
        by_cases w : rcS xs ((d : Nat) : Int) np ni m = true
        · rw [if_pos (jr.mpr w), if_pos w]; omega
        · rw [if_neg (fun x => w (jr.mp x)), if_neg w]; omega
    have f1 : aCo S g t = ((cnB (rcS xs ((d : Nat) : Int) np ni) (n - np) : Nat) : Int) := by
      unfold aCo
      rw [if_pos ok, bd, er]
    have f2 : nCo S g t = (S.1, S.2.1, S.2.2.1, va_up S.2.2.2 g.toNat (coG S g t)) := by
      unfold nCo
      rw [if_pos ⟨ok, bd⟩]
    rw [f1, f2]
    rw [ec _ (Nat.le_refl _)] at g6
    refine ⟨g6, A, _, g7, fun u hu => ?_, fun x hx => ?_⟩
    · obtain ⟨a, b'⟩ := hF.1 u hu
      exact ⟨a, seF_cg (fun j hj => by unfold ctF; rw [va_un (by omega), va_un (by omega), va_un (by omega)]) b'⟩
    · have hx' : x < S.2.2.1 := hx
      have key5 := hF.2 x hx'
      have c7 : ctF (va_up F 4 D) g.toNat ((b : Nat) : Int) ((n : Nat) - F 9 d) 7 = va_up (F 7) g.toNat ((b : Nat) : Int) := by unfold ctF; rw [va_un (by omega), va_us]; rfl
      have c10 : ctF (va_up F 4 D) g.toNat ((b : Nat) : Int) ((n : Nat) - F 9 d) 10 = va_up (F 10) g.toNat ((n : Nat) - F 9 d) := by unfold ctF; rw [va_us]; rfl
      have co : ∀ j, j ≠ 4 → j ≠ 7 → j ≠ 10 → ctF (va_up F 4 D) g.toNat ((b : Nat) : Int) ((n : Nat) - F 9 d) j = F j := fun j h1 h2 h3 => by unfold ctF; rw [va_un h3, va_un h2, va_un h1]
      rw [co 6 (by omega) (by omega) (by omega), c7, co 8 (by omega) (by omega) (by omega), co 9 (by omega) (by omega) (by omega), c10, co 11 (by omega) (by omega) (by omega)]
      unfold tbS otS cnG at key5 ⊢
      simp only
      by_cases w : x = g.toNat
      · subst w
        rw [va_us, va_us, va_us, y9]
        obtain ⟨k6, k7, k8, k9, k10, k11⟩ := key5
        refine ⟨by rw [k6]; exact y.2.2.1, by rw [hb]; rfl, k8, k9, ?_, ?_⟩
        · show ((n : Nat) : Int) - ((np : Nat) : Int) = if (4 : Int) = 4 then ((nA (S.2.1 t.toNat) 0 - (S.2.2.2 g.toNat).2.2.1 : Nat) : Int) else _
          rw [if_pos rfl, ← hnp, ← hxs, ← hnn]
          omega
        · rw [k11, if_neg (by rw [y.2.2.1]; omega)]
          show (0 : Int) = if (4 : Int) = 3 then _ else 0
          rw [if_neg (by omega)]
      · rw [va_un w, va_un w, va_un w]
        exact key5
end MR3
