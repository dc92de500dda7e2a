/-! what a constructor brings, by Maker, over the shared state -/
section MKB
variable {V : mv_V} {M : mv_M} {x sh rg rd mk trow grow dep : Nat} {hT : Nat → Nat} {tq : Nat → Q4} {tt : Nat → Tm} {ga ca : Nat → Nat} {f gf : Nat → Option Nat} {S : SS}
theorem mC_brings {l : Launch} (hP : ClsC V M x sh rg rd mk trow grow dep hT tq tt ga ca f gf S) (hJ : Jv S) {g k : Nat} (ok : okR S ((g : Nat) : Int) ((k : Nat) : Int)) {tg : Option Nat} {q : Q4} {τ : Tm} (hτ : τ.1 ≤ 1000) (hB : HB V M mk rd dep tg q) (hO : OffA dep tg q tq S.1) {δ : Nat → Int} (hδ : ∀ j, 0 ≤ δ j ∧ δ j ≤ 1000) {tm : Option Nat} {al0 fo0 ap0 : Int} {src : Option Nat} {P ar al pp : Int} : Met l y_Maker_writeBrings ws_Maker_writeBrings (rM 4 0 0 130) (mv_Pre (kk V) [.ref mk, .ref (ga g), .int (iI ((k : Nat)))] (mX V M mk rd dep tg q τ [] (dC dep tm al0 fo0 ap0) δ src P ar al pp)) (mv_Q (kk V) (fun v M' => v = none ∧ ∃ (tm9 : Option Nat) (al9 fo9 ap9 ar' al' pp' : Int) (δ9 : Nat → Int) (LS : List Nd) (sr : Option Nat) (pa : Int), (∀ j, 0 ≤ δ9 j ∧ δ9 j ≤ 1000) ∧ M' = mX V M mk rd dep tg q τ LS (dC dep tm9 al9 fo9 ap9) δ9 sr pa ar' al' pp' ∧ LS.length = (bL S g k).length ∧ (tg ≠ none → LS = bL S g k))) 0 0 V.2.2.2.2 := by
  obtain ⟨-, hTm, hGl, -⟩ := hP
  obtain ⟨q1, q2, q3, q4, q5⟩ := ok
  rw [Int.toNat_natCast] at q2 q3 q5
  have hg : g < S.2.2.1 := by have := q1.2; omega
  obtain ⟨t, ht⟩ := Option.isSome_iff_exists.mp q3
  obtain ⟨c1, c2, c3, c4, c5, c6, c7⟩ := con_b hJ.1 hg q2
  obtain ⟨z1, z2⟩ := c6 t ht
  obtain ⟨t0, f1, f2, f3, f4, f5, f6, f7, f8, f9⟩ := fam_b hJ.1 (g := (S.2.2.2 g).2.1) (by omega) c2
  obtain ⟨d, hd⟩ : ∃ z, z = (S.2.2.2 g).2.1 := ⟨_, rfl⟩
  obtain ⟨np, hnp⟩ : ∃ z, z = (S.2.2.2 g).2.2.1 := ⟨_, rfl⟩
  obtain ⟨ni, hni⟩ : ∃ z, z = (S.2.2.2 g).2.2.2.1 := ⟨_, rfl⟩
  obtain ⟨n, hn⟩ : ∃ z, z = (S.2.2.2 g).2.2.2.2.2.2.1 := ⟨_, rfl⟩
  obtain ⟨xs, hxs⟩ : ∃ z, z = S.2.1 t := ⟨_, rfl⟩
  have et : tl S g = t := tl_s ht
  obtain ⟨-, hC, hk, hS, -⟩ := hTm t z1
  rw [← hd, ← hnp, ← hni, ← hn, ← hxs] at z2
  rw [← hxs] at hS
  obtain ⟨hTo, hrc, hnz⟩ := z2
  have hkk : k < cnB (rcS xs ((d : Nat) : Int) np ni) n := by rw [← hrc]; omega
  obtain ⟨j1, j2, j3⟩ := jxS_ok hkk
  obtain ⟨jx, hjx⟩ : ∃ j, j = jxS xs ((d : Nat) : Int) np ni n k := ⟨_, rfl⟩
  rw [← hjx] at j1 j2 j3
  have eL : bL S g k = bgC xs np ni jx := by
    unfold bL
    rw [et, ← hd, ← hnp, ← hni, ← hn, ← hxs, hjx]
  have b0 := opD_bd (tg := tg) hS hTo.1 hTo.2.1 hδ
  have hSr := Src_of hC hk (hO t z1)
  have hGc := (hGl g hg).2.1
  have hGd := (hGl (S.2.2.2 g).2.1 (by omega)).2.1
  have e1 : faO S ga g = some (ga d) := by unfold faO; rw [if_pos q2, hd]
  have e2 : tdO S hT g = some (hT t) := by unfold tdO; rw [ht]; rfl
  have e6 : agO S g = ((n : Nat) : Int) := by unfold agO otS; rw [if_pos q2, if_pos q2, ht, hn]
  have hGc' : M (ga g) = some (.inr (2, [.int (iI ((g : Nat) : Int)), .int (iI ((S.2.2.2 g).1)), .int (iI ((np : Nat) : Int)), .int (iI ((ni : Nat) : Int)), .int (iI (((S.2.2.2 g).2.2.2.2.1 : Nat) : Int)), .ref (ga d), va_rf (coO S ca g), .ref (hT t), .int (iI ((n : Nat) : Int)), .int (iI (((S.2.2.2 g).2.2.2.2.2.2.2 : Nat) : Int))])) := by
    rw [hGc]
    unfold glO
    rw [e1, e2, e6, hnp, hni]
    rfl
  have hGd' : M (ga d) = some (.inr (2, [.int (iI ((d : Nat) : Int)), .int (iI ((S.2.2.2 d).1)), .int (iI ((np : Nat) : Int)), .int (iI ((ni : Nat) : Int)), .int (iI (((S.2.2.2 d).2.2.2.2.1 : Nat) : Int)), va_rf (faO S ga d), va_rf (coO S ca d), va_rf (tdO S hT d), .int (iI (agO S d)), .int (iI (((S.2.2.2 d).2.2.2.2.2.2.2 : Nat) : Int))])) := by
    rw [hd, hGd]
    unfold glO
    rw [hnp, hni, c3, c4]
  have hb := hTo.b
  have e3 := Bds_le hTo.1 hb _ (Nat.le_refl _)
  have e4 := (Bds_ok hTo.1 hb _ (Nat.le_refl _)).1
  have e5 := hTo.2.1
  have hdb : d < 100 := by have := hJ.1.2.1; omega
  obtain ⟨l1, l2, l3⟩ := l0_T hS hTo j1 j2
  have r1 := hTo.r j1
  have a1 := nA_ok hTo.1 hTo.2.1 r1.1
  obtain ⟨s1, s2, s3⟩ := ptB_spn hTo.1 (nP_ok hTo.1 hTo.2.1 a1.2.2) j2
  have hni2 : ni ≤ 500 := by rw [hni, c4]; omega
  have h := m_Maker_writeBrings (l := l) (XS := []) (tm := tm) (al0 := al0) (fo0 := fo0) (ap0 := ap0) (src := src) (P := P) (ar := ar) (al := al) (pp := pp) hB hτ hSr (fun z => dgt_sm b0 z) hGc' hGd' (k := k) (j0 := jx) j1 (by rw [isR_T hS hTo j1]; exact j2) (by rw [rcN_T hS hTo jx (by omega)]; exact j3) (by omega) (by omega) (by omega) (by omega) (by omega) (by
    have := ixS_le xs (ft xs (rtS xs np jx) + (np + ni) + 1 + np) ni
    have w : l0F (tt t) (rPos (tt t) ((np : Nat) : Int) jx) ((np : Nat) : Int) ≤ shF (tt t) (rPos (tt t) ((np : Nat) : Int) jx) + dAt (tt t) (shF (tt t) (rPos (tt t) ((np : Nat) : Int) jx)) := by rw [l1, l3]; omega
    exact w) (by simp)
  refine mv_post h (fun v M' kq => ⟨kq.1, some (hT t), _, _, _, _, _, _, _, _, _, _, b0, kq.2, ?_, fun hne => ?_⟩)
  · rw [List.nil_append, brL_ln (tt t) _ (dpW (tt t) (fun _ => 0) (tt t).1), eL]
    have e : brL (tt t) (dpW (tt t) (fun _ => 0) (tt t).1) ((np : Nat) : Int) (((np : Nat) : Int) + (jx : Nat)) 1 1 5 ((ni : Nat) : Int) (rPos (tt t) ((np : Nat) : Int) jx) (((np : Nat) : Int) + (jx : Nat) + 1) 0 (allN (tt t) 1000 (rPos (tt t) ((np : Nat) : Int) jx)) (l0F (tt t) (rPos (tt t) ((np : Nat) : Int) jx) ((np : Nat) : Int)) (lnF (tt t) (rPos (tt t) ((np : Nat) : Int) jx) ((np : Nat) : Int)) = bgC xs np ni jx := by
      rw [l1, l2, rPos_T hS hTo j1, nA_t hS hTo.1 hTo.2.1 r1.1, brL_S hS hTo.1 (dpW_dp hS hTo.1 hTo.2.1) a1.1.1 s1 s3]
      rfl
    exact congrArg List.length e
  · cases tg with
    | none => exact absurd rfl hne
    | some p =>
      rw [List.nil_append, eL]
      have e : brL (tt t) (dpW (tt t) δ (tt t).1) ((np : Nat) : Int) (((np : Nat) : Int) + (jx : Nat)) 1 1 5 ((ni : Nat) : Int) (rPos (tt t) ((np : Nat) : Int) jx) (((np : Nat) : Int) + (jx : Nat) + 1) 0 (allN (tt t) 1000 (rPos (tt t) ((np : Nat) : Int) jx)) (l0F (tt t) (rPos (tt t) ((np : Nat) : Int) jx) ((np : Nat) : Int)) (lnF (tt t) (rPos (tt t) ((np : Nat) : Int) jx) ((np : Nat) : Int)) = bgC xs np ni jx := by
        rw [l1, l2, rPos_T hS hTo j1, nA_t hS hTo.1 hTo.2.1 r1.1, brL_S hS hTo.1 (dpW_dp hS hTo.1 hTo.2.1) a1.1.1 s1 s3]
        rfl
      exact e
end MKB
