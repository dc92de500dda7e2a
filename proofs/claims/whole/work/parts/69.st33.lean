/-! Maker over the shared state -/
section MKS
variable {V : mv_V} {M : mv_M} {x sh rg rd mk trow grow dep : Nat} {hT : Nat → Nat} {tq : Nat → Q4} {tt : Nat → Tm} {ga ca : Nat → Nat} {f gf : Nat → Option Nat} {S : SS}
theorem wL_len (S : SS) (g : Nat) (s s' : Int) : (wL S g s).length = (wL S g s').length := by
  unfold wL wtC
  simp only [List.length_append, List.length_singleton]
theorem mC_recType {l : Launch} (hP : ClsC V M x sh rg rd mk trow grow dep hT tq tt ga ca f gf S) (hJ : Jv S) {g : Nat} (ok : okW S ((g : Nat) : Int)) {tg : Option Nat} {q : Q4} {τ : Tm} (hτ : τ.1 ≤ 1000) (hB : HB V M mk rd dep tg q) (hO : OffA dep tg q tq S.1) {δ : Nat → Int} (hδ : ∀ j, 0 ≤ δ j ∧ δ j ≤ 1000) {tm : Option Nat} {al0 fo0 ap0 : Int} {src : Option Nat} {P ar al pp so : Int} : Met l y_Maker_writeRecType ws_Maker_writeRecType (rM 5 0 0 170) (mv_Pre (kk V) [.ref mk, .ref (ga g), .int (iI so)] (mX V M mk rd dep tg q τ [] (dC dep tm al0 fo0 ap0) δ src P ar al pp)) (mv_Q (kk V) (fun v M' => v = none ∧ ∃ (tm9 : Option Nat) (al9 fo9 ap9 ar' al' pp' : Int) (δ9 : Nat → Int) (LS : List Nd) (sr : Option Nat) (pa : Int), (∀ j, 0 ≤ δ9 j ∧ δ9 j ≤ 1000) ∧ M' = mX V M mk rd dep tg q τ LS (dC dep tm9 al9 fo9 ap9) δ9 sr pa ar' al' pp' ∧ LS.length = (wL S g so).length ∧ (tg ≠ none → LS = wL S g so))) 0 0 V.2.2.2.2 := by
  obtain ⟨cf, w1, w2, ⟨w3, w4, w5, w6, w7, w8⟩, w9, w10, w11⟩ := whole_C hP hJ ok hO
  obtain ⟨np, hnp⟩ : ∃ z, z = (S.2.2.2 g).2.2.1 := ⟨_, rfl⟩
  obtain ⟨ni, hni⟩ : ∃ z, z = (S.2.2.2 g).2.2.2.1 := ⟨_, rfl⟩
  obtain ⟨ra, hra⟩ : ∃ z, z = (S.2.2.2 g).2.2.2.2.1 := ⟨_, rfl⟩
  have hgb : g < 100 := by have := ok.1.2; have := hJ.1.2.1; omega
  have HX : ∀ i, i < ra → TmS (tt (tl S (g + 1 + i))) (S.2.1 (tl S (g + 1 + i))) ∧ Told (S.2.1 (tl S (g + 1 + i))) ((g : Nat) : Int) np ni (S.2.2.2 (g + 1 + i)).2.2.2.2.2.2.1 := fun i hi => by rw [hnp, hni]; exact (w9 i (by omega)).2
  have HB2 : ∀ i, i < ra → TmS (tt (tl S (g + 1 + i))) (S.2.1 (tl S (g + 1 + i))) ∧ Cpl (S.2.1 (tl S (g + 1 + i))) ∧ (S.2.1 (tl S (g + 1 + i))).length ≤ 1000 := fun i hi => ⟨(HX i hi).1, (HX i hi).2.1, (HX i hi).2.2.1⟩
  have b0 := opD_bd (tg := tg) w5 w6 w7 hδ
  have b1 := dsq_bd (tg := tg) HB2 b0
  have b2 := opD_bd (tg := tg) w5 w6 w7 (b1 ra (Nat.le_refl _))
  rw [← hnp, ← hni, ← hra] at w1
  rw [← hra] at w2 w10
  rw [← hnp, ← hni] at w8 w11
  have h := m_Maker_writeRecTypeD (l := l) (XS := []) (tm := tm) (al0 := al0) (fo0 := fo0) (ap0 := ap0) (src := src) (P := P) (ar := ar) (al := al) (pp := pp) hB hτ (f := cf) (fa := faO S ga g) w4 w1 w2 ⟨Nat.le_refl _, by omega⟩ (cc := fun i => ga (g + 1 + i)) (hh := fun i => hT (tl S (g + 1 + i))) (arc := fun i => (S.2.2.2 (g + 1 + i)).2.2.2.2.2.2.1) (nc := ncG g) (roc := fun i => (S.2.2.2 (g + 1 + i)).1) (ixc := fun i => (((S.2.2.2 (g + 1 + i)).2.2.2.1 : Nat) : Int)) (rcc := fun i => (((S.2.2.2 (g + 1 + i)).2.2.2.2.2.2.2 : Nat) : Int)) (coc := fun i => coO S ca (g + 1 + i)) (tt := fun i => tt (tl S (g + 1 + i))) (fun i hi => by have := (w9 i (by omega)).1; rw [← hnp] at this; exact this)
    (fun z => dgt_sm b0 z) (fun z => dgt_sm b2 z) (fun i hi z => dgt_sm (b1 (i + 1) (by omega)) z)
    (fun i hi j hj hr => by
      obtain ⟨t1, t2⟩ := HX i hi
      rw [isR_T t1 t2 hj] at hr
      obtain ⟨l1, l2, l3⟩ := l0_T t1 t2 hj hr
      have := ixS_le (S.2.1 (tl S (g + 1 + i))) (ft (S.2.1 (tl S (g + 1 + i))) (rtS (S.2.1 (tl S (g + 1 + i))) np j) + (np + ni) + 1 + np) ni
      rw [l1, l3]
      omega)
    (fun i hi => by
      obtain ⟨t1, t2⟩ := HX i hi
      obtain ⟨l1, l2, l3⟩ := l0_0 t1 t2
      have := ixS_le (S.2.1 (tl S (g + 1 + i))) (ft (S.2.1 (tl S (g + 1 + i))) 0 + (np + ni) + 1 + np) ni
      rw [l1, l3]
      omega)
    (fun i hi j hj => by
      obtain ⟨t1, t2⟩ := HX i hi
      rw [bcL_ln _ _ (dpW (tt (tl S (g + 1 + i))) (fun _ => 0) (tt (tl S (g + 1 + i))).1), bcL_T t1 t2 (dpW_dp t1 t2.1 t2.2.1) j hj]
      have hA : Arg (S.2.1 (tl S (g + 1 + i))) (rcS (S.2.1 (tl S (g + 1 + i))) ((g : Nat) : Int) np ni) (fun j => nA (S.2.1 (tl S (g + 1 + i))) (rtS (S.2.1 (tl S (g + 1 + i))) np j)) (fun j => ft (S.2.1 (tl S (g + 1 + i))) (rtS (S.2.1 (tl S (g + 1 + i))) np j) + (np + ni) + 1 + np) np ni (S.2.2.2 (g + 1 + i)).2.2.2.2.2.2.1 (unS (S.2.1 (tl S (g + 1 + i))) 0 np) := t2.ok.2.2.2.1
      have k := bcC_le t2.1 hA (rank := (i : Nat)) j hj
      have k2 := (Bds_ok t2.1 hA.1 j hj).1
      have k3 := t2.2.1
      have k4 := Bds_le t2.1 hA.1 j hj
      refine Nat.le_trans k ?_
      omega)
    (fun i hi => by
      rw [csL_ln tg (some 0) _ _ (fun _ => 0), csL_T (xf := fun i => S.2.1 (tl S (g + 1 + i))) HX i hi]
      have := csC_le (cd := fun i => cdS (S.2.1 (tl S (g + 1 + i))) ((g : Nat) : Int) np ni (S.2.2.2 (g + 1 + i)).2.2.2.2.2.2.1) (np := np) (ni := ni) (fun c hc => ⟨(HX c hc).2.ok, (HX c hc).2.2.1⟩) (nc := ncG g) i hi
      omega) (so := so) (by omega) (by omega) (by omega) w10 (by simp)
  refine mv_post h (fun v M' k => ?_)
  obtain ⟨k1, tm9, al9, fo9, ap9, ar', al', pp', k2⟩ := k
  rw [List.nil_append] at k2
  have eW : ∀ s : Int, wL S g s = wtC (S.2.1 (tl S g)) (fun i => cdS (S.2.1 (tl S (g + 1 + i))) ((g : Nat) : Int) np ni (S.2.2.2 (g + 1 + i)).2.2.2.2.2.2.1) np ni ra ((g : Nat) : Int) s (ncG g) := fun s => by
    unfold wL cdG
    rw [← hnp, ← hni, ← hra]
  refine ⟨k1, tm9, al9, fo9, ap9, ar', al', pp', _, _, _, _, b2, k2, ?_, fun hne => ?_⟩
  · rw [rtL_ln tg (some 0) _ _ _ _ (dpW (tt (tl S g)) (fun _ => 0) (tt (tl S g)).1) (dpW (tt (tl S g)) (fun _ => 0) (tt (tl S g)).1) _ _ _ _ _ _ so so, rtL_T (xf := fun i => S.2.1 (tl S (g + 1 + i))) HX w5 w6 w8 (dpW_dp w5 w6 w7) (dpW_dp w5 w6 w7) rfl, eW]
  · cases tg with
    | none => exact absurd rfl hne
    | some p =>
      rw [eW]
      exact rtL_T (xf := fun i => S.2.1 (tl S (g + 1 + i))) HX w5 w6 w8 (dpW_dp w5 w6 w7) (dpW_dp w5 w6 w7) rfl
end MKS
