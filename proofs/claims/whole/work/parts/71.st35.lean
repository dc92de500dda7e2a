/-! the made term: lists, worlds -/
theorem wL_g {S : SS} (hJ : Jv S) {g : Nat} (h : okW S ((g : Nat) : Int)) {s : Int} (hs : 0 ≤ s ∧ s ≤ 100) : Cpl (wL S g s) ∧ AOk (wL S g s) ∧ (wL S g s).length ≤ 110000 := by
  obtain ⟨h1, h3, h4⟩ := h
  have hg : g < S.2.2.1 := by have := h1.2; omega
  rw [Int.toNat_natCast] at h3 h4
  obtain ⟨t, f1, f2, f3, f4, f5, f6, f7, f8, f9⟩ := fam_b hJ.1 hg h3
  have ho := hJ.1.2.2.2.1 t f2
  have hb2 := hJ.1.2.1
  have a1 := nA_ok ho.1 ho.2.2.1 (i := 0) (by have := ho.2.1; omega)
  rw [f4] at a1
  have et : tl S g = t := tl_s f1
  have hcon : ∀ k, k < (S.2.2.2 g).2.2.2.2.1 → CDok (S.2.2.2 g).2.2.1 (S.2.2.2 g).2.2.2.1 (cdG S g k) ∧ (cdG S g k).1.length ≤ 1000 ∧ AOk (cdG S g k).1 := by
    intro k hk
    obtain ⟨u, hu⟩ := Option.isSome_iff_exists.mp (h4 k hk)
    obtain ⟨y1, y2, y3⟩ := f9 k hk
    obtain ⟨c1, c2, c3, c4, c5, c6, c7⟩ := con_b hJ.1 (g := g + 1 + k) (by omega) y1
    obtain ⟨z1, z2⟩ := c6 u hu
    rw [y2] at c3 c4 z2
    rw [c3, c4] at z2
    have eu := tl_s hu
    have hou := hJ.1.2.2.2.1 u z1
    have ec : cdG S g k = cdS (S.2.1 u) ((g : Nat) : Int) (S.2.2.2 g).2.2.1 (S.2.2.2 g).2.2.2.1 (S.2.2.2 (g + 1 + k)).2.2.2.2.2.2.1 := by
      show cdS (S.2.1 (tl S (g + 1 + k))) _ _ _ _ = _
      rw [eu]
    rw [ec]
    exact ⟨z2.1.ok, hou.2.2.1, hou.2.2.2⟩
  have hT : TR [0] (wtR (S.2.1 t) (cdG S g) (fun _ => 0) (S.2.2.2 g).2.2.1 (S.2.2.2 g).2.2.2.1 (S.2.2.2 g).2.2.2.2.1 ((g : Nat) : Int) s (ncG g)) [] (wL S g s) := by
    unfold wL
    rw [et]
    exact TR_wt ho.1 (AOk_gd ho.2.2.2) f3 a1.1.1 (fun c hc => (hcon c hc).1)
  obtain ⟨-, e2, e3, -, -⟩ := TR_end hT
  refine ⟨e2, ?_, ?_⟩
  · unfold wL
    rw [et]
    exact AOk_wt2 ho.1 ho.2.2.2 f3 ho.2.2.1 a1.1.1 f6 hcon (fun c hc => by show 0 ≤ ((g + 1 + c : Nat) : Int) ∧ ((g + 1 + c : Nat) : Int) ≤ 100; omega) (by omega) hs
  · rw [e3]
    exact wtR_le ho.1 ho.2.2.1 a1.1.1 f6 (fun c hc => ⟨(hcon c hc).1, (hcon c hc).2.1⟩)
theorem bL_g {S : SS} (hJ : Jv S) {g k : Nat} (ok : okR S ((g : Nat) : Int) ((k : Nat) : Int)) : Cpl (bL S g k) ∧ AOk (bL S g k) ∧ (bL S g k).length ≤ 3000 := by
  obtain ⟨q1, q2, q3, q4, q5⟩ := ok
  rw [Int.toNat_natCast] at q2 q3 q5
  have hg : g < S.2.2.1 := by have := q1.2; omega
  obtain ⟨t, ht⟩ := Option.isSome_iff_exists.mp q3
  obtain ⟨c1, c2, c3, c4, c5, c6, c7⟩ := con_b hJ.1 hg q2
  obtain ⟨z1, z2⟩ := c6 t ht
  have ho := hJ.1.2.2.2.1 t z1
  obtain ⟨d, hd⟩ : ∃ z, z = (S.2.2.2 g).2.1 := ⟨_, rfl⟩
  obtain ⟨np, hnp⟩ : ∃ z, z = (S.2.2.2 g).2.2.1 := ⟨_, rfl⟩
  obtain ⟨ni, hni⟩ : ∃ z, z = (S.2.2.2 g).2.2.2.1 := ⟨_, rfl⟩
  obtain ⟨n, hn⟩ : ∃ z, z = (S.2.2.2 g).2.2.2.2.2.2.1 := ⟨_, rfl⟩
  obtain ⟨xs, hxs⟩ : ∃ z, z = S.2.1 t := ⟨_, rfl⟩
  have et : tl S g = t := tl_s ht
  rw [← hd, ← hnp, ← hni, ← hn, ← hxs] at z2
  rw [← hxs] at ho
  obtain ⟨hTo, hrc, hnz⟩ := z2
  have hkk : k < cnB (rcS xs ((d : Nat) : Int) np ni) n := by rw [← hrc]; omega
  obtain ⟨j1, j2, j3⟩ := jxS_ok hkk
  obtain ⟨jx, hjx⟩ : ∃ j, j = jxS xs ((d : Nat) : Int) np ni n k := ⟨_, rfl⟩
  rw [← hjx] at j1 j2 j3
  have eL : bL S g k = bgC xs np ni jx := by
    unfold bL
    rw [et, ← hd, ← hnp, ← hni, ← hn, ← hxs, hjx]
  obtain ⟨w1, w2, w3, w4⟩ := bg_ok hTo ho.2.2.2 j1 j2 (Λ := fun l => -1 - (((np + jx : Nat) : Int) - l)) (fun l hl => rfl)
  obtain ⟨-, e2, e3, -, -⟩ := TR_end w1
  rw [eL]
  exact ⟨e2, w2, by rw [e3]; exact w3⟩
theorem wrL_at : ∀ (xs : List Nd) (τ : Tm) (p : Nat), p + xs.length ≤ τ.1 → ∀ j, ((wrL τ p xs).2.1 j = if p ≤ j ∧ j < p + xs.length then (gN xs (j - p)).1 else τ.2.1 j) ∧ ((wrL τ p xs).2.2.1 j = if p ≤ j ∧ j < p + xs.length then (gN xs (j - p)).2.1 else τ.2.2.1 j) ∧ ((wrL τ p xs).2.2.2.1 j = if p ≤ j ∧ j < p + xs.length then (gN xs (j - p)).2.2 else τ.2.2.2.1 j) ∧ (wrL τ p xs).2.2.2.2 = τ.2.2.2.2
  | [], τ, p, h, j => by
    have : ¬ (p ≤ j ∧ j < p + ([] : List Nd).length) := by simp only [List.length_nil]; omega
    rw [if_neg this, if_neg this, if_neg this]
    exact ⟨rfl, rfl, rfl, rfl⟩
  | x :: xs, τ, p, h, j => by
    have hl : (x :: xs).length = xs.length + 1 := rfl
    rw [hl] at h ⊢
    have es : setT τ ((p : Nat) : Int) x.1 x.2.1 x.2.2 = (τ.1, va_up τ.2.1 p x.1, va_up τ.2.2.1 p x.2.1, va_up τ.2.2.2.1 p x.2.2, τ.2.2.2.2) := by
      unfold setT
      rw [if_pos (by omega), Int.toNat_natCast]
    have ew : wrL τ ((p : Nat) : Int) (x :: xs) = wrL (τ.1, va_up τ.2.1 p x.1, va_up τ.2.2.1 p x.2.1, va_up τ.2.2.2.1 p x.2.2, τ.2.2.2.2) ((p + 1 : Nat) : Int) xs := by
      rw [← es]
      rfl
    obtain ⟨i1, i2, i3, i4⟩ := wrL_at xs (τ.1, va_up τ.2.1 p x.1, va_up τ.2.2.1 p x.2.1, va_up τ.2.2.2.1 p x.2.2, τ.2.2.2.2) (p + 1) (by show p + 1 + xs.length ≤ τ.1; omega) j
    rw [ew, i1, i2, i3, i4]
    by_cases z : j = p
    · subst z
      have k1 : ¬ (j + 1 ≤ j ∧ j < j + 1 + xs.length) := by omega
      have k2 : j ≤ j ∧ j < j + (xs.length + 1) := by omega
      simp only [if_neg k1, if_pos k2, Nat.sub_self]
      exact ⟨va_us, va_us, va_us, trivial⟩
    · by_cases w : p + 1 ≤ j ∧ j < p + 1 + xs.length
      · have k2 : p ≤ j ∧ j < p + (xs.length + 1) := by omega
        simp only [if_pos w, if_pos k2]
        have : gN (x :: xs) (j - p) = gN xs (j - (p + 1)) := by
          rw [show j - p = (j - (p + 1)) + 1 by omega]
          rfl
        rw [this]
        exact ⟨rfl, rfl, rfl, trivial⟩
      · have k2 : ¬ (p ≤ j ∧ j < p + (xs.length + 1)) := by omega
        simp only [if_neg w, if_neg k2]
        exact ⟨va_un z, va_un z, va_un z, trivial⟩
/-- a blank, written whole, and counted -/
theorem mk_T {LS : List Nd} (hc : Cpl LS) (ho : AOk LS) (hn : LS.length ≤ 1000) {n : Nat} (en : n = LS.length) {τ : Tm} (e : τ = wrL (n, fun _ => 0, fun _ => 0, fun _ => 0, va_up (fun _ => 0) 0 1) 0 LS) : Tok τ ∧ WF τ.1 τ.2.1 (lnS LS) ∧ Tok (τ.1, τ.2.1, τ.2.2.1, τ.2.2.2.1, dnF τ.1 (lnS LS) τ.2.2.2.2 τ.1) ∧ TmS (τ.1, τ.2.1, τ.2.2.1, τ.2.2.2.1, dnF τ.1 (lnS LS) τ.2.2.2.2 τ.1) LS := by
  have h1 := Cpl_1 hc
  have e1 : τ.1 = LS.length := by rw [e, wrL_n, ← en]
  have at' := wrL_at LS (n, fun _ => 0, fun _ => 0, fun _ => 0, va_up (fun _ => 0) 0 1) 0 (by show 0 + LS.length ≤ n; omega)
  rw [show ((0 : Nat) : Int) = 0 from rfl, ← e] at at'
  have hO : Tok τ := by
    refine ⟨by omega, by omega, fun j => ?_, fun j => ?_, fun j => ?_, fun j => ?_⟩
    · rw [(at' j).1]
      split
      · rename_i z
        have := (AOk_g ho (i := j - 0) (by omega)).1
        omega
      · show (0 : Int) ≤ 0 ∧ (0 : Int) ≤ 6; omega
    · rw [(at' j).2.1]
      split
      · rename_i z
        have := (AOk_g ho (i := j - 0) (by omega)).2.1
        omega
      · show (-1 : Int) ≤ 0 ∧ (0 : Int) ≤ 1000000; omega
    · rw [(at' j).2.2.1]
      split
      · rename_i z
        have := (AOk_g ho (i := j - 0) (by omega)).2.2.1
        omega
      · show (0 : Int) ≤ 0 ∧ (0 : Int) ≤ 100; omega
    · rw [(at' j).2.2.2]
      show 0 ≤ va_up (fun _ => (0 : Int)) 0 1 j ∧ va_up (fun _ => (0 : Int)) 0 1 j ≤ 1000
      by_cases z : j = 0
      · subst z; rw [va_us]; omega
      · rw [va_un z]; exact ⟨by decide, by decide⟩
  have hk : ∀ i, i < LS.length → τ.2.1 i = (gN LS i).1 ∧ τ.2.2.1 i = (gN LS i).2.1 ∧ τ.2.2.2.1 i = (gN LS i).2.2 := fun i hi => by
    obtain ⟨k1, k2, k3, -⟩ := at' i
    rw [if_pos (by omega)] at k1 k2 k3
    exact ⟨k1, k2, k3⟩
  have hW : WF τ.1 τ.2.1 (lnS LS) := by rw [e1]; exact WF_cg (WF_S hc) (fun i hi => (hk i hi).1)
  refine ⟨hO, hW, dnF_ok hO hW _, e1, fun i hi => ⟨(hk i hi).1, (hk i hi).2.1, (hk i hi).2.2, ?_⟩⟩
  show dnF τ.1 (lnS LS) τ.2.2.2.2 τ.1 i = _
  unfold dnF
  rw [if_pos (by omega)]
def q00 : Q4 := (0, 0, 0, 0)
def t00 : Tm := (0, fun _ => 0, fun _ => 0, fun _ => 0, fun _ => 0)
section MKW
variable {V : mv_V} {M M1 : mv_M} {x sh rg rd mk trow grow dep p : Nat} {hT : Nat → Nat} {tq : Nat → Q4} {tt : Nat → Tm} {ga ca : Nat → Nat} {f gf : Nat → Option Nat} {S : SS} {tm src : Option Nat} {al fo ap P ar al1 pp pl : Int} {δ : Nat → Int} {q : Q4} {τ τ0 : Tm} {LS : List Nd}
theorem Cls_ext (h : ClsC V M x sh rg rd mk trow grow dep hT tq tt ga ca f gf S) (hE : ∀ y c, M y = some c → M1 y = some c) : ClsC V M1 x sh rg rd mk trow grow dep hT tq tt ga ca f gf S := by
  obtain ⟨⟨-, -, -, -, -, ⟨tm0, al0, fo0, ap0, hrd⟩, ⟨δ, hdp, hδ⟩, ⟨tg0, pl0, src0, P0, ar0, al1, pp0, hmk⟩⟩, -⟩ := id h
  exact Cls_scr h (fun y c hy _ _ _ => hE y c hy) ⟨_, _, _, _, hE _ _ hrd⟩ ⟨δ, hE _ _ hdp, hδ⟩ ⟨_, _, _, _, _, _, _, hE _ _ hmk⟩
theorem HB_0 (h : ClsC V M x sh rg rd mk trow grow dep hT tq tt ga ca f gf S) : HB V M mk rd dep none q := by
  obtain ⟨⟨-, -, -, -, -, ⟨tm0, al0, fo0, ap0, hrd⟩, ⟨δ, hdp, hδ⟩, ⟨tg0, pl0, src0, P0, ar0, al1, pp0, hmk⟩⟩, -⟩ := id h
  exact ⟨⟨_, hmk⟩, ⟨_, hrd⟩, ⟨_, hdp⟩, (fun h e => by cases e), (fun h e => by cases e)⟩
theorem Off_0 (h : ClsC V M x sh rg rd mk trow grow dep hT tq tt ga ca f gf S) : OffA dep none q tq S.1 := fun t ht => by
  obtain ⟨-, -, -, -, d1, d2, d3, d4⟩ := h.2.1 t ht
  exact ⟨⟨d1.symm, fun z => absurd rfl z⟩, ⟨d2.symm, fun z => absurd rfl z⟩, ⟨d3.symm, fun z => absurd rfl z⟩, ⟨d4.symm, fun z => absurd rfl z⟩⟩
theorem mX_0 (hrd : M rd = some (dC dep tm al fo ap)) (hdp : M dep = some (iA V 1000 δ)) : mv_up M mk (mkC rd none 0 src P ar al1 pp) = mX V M mk rd dep none q τ [] (dC dep tm al fo ap) δ src P ar al1 pp := by
  show _ = mv_up (mv_up (mv_up M dep (iA V 1000 δ)) rd (dC dep tm al fo ap)) mk (mkC rd none 0 src P ar al1 pp)
  rw [mv_self hdp, mv_self hrd]
theorem mX_1 (hrd : M rd = some (dC dep tm al fo ap)) (hdp : M dep = some (iA V 1000 δ)) (hC : TmC V M p q τ) : mv_up M mk (mkC rd (some p) 0 src P ar al1 pp) = mX V M mk rd dep (some p) q τ [] (dC dep tm al fo ap) δ src P ar al1 pp := by
  show _ = mv_up (mv_up (mv_up (wrTm V M q τ) dep (iA V 1000 δ)) rd (dC dep tm al fo ap)) mk (mkC rd (some p) 0 src P ar al1 pp)
  rw [wrTm_self hC, mv_self hdp, mv_self hrd]
theorem Cls_m0 (h : ClsC V M x sh rg rd mk trow grow dep hT tq tt ga ca f gf S) (hδ : ∀ j, 0 ≤ δ j ∧ δ j ≤ 1000) : ClsC V (mX V M mk rd dep none q τ LS (dC dep tm al fo ap) δ src P ar al1 pp) x sh rg rd mk trow grow dep hT tq tt ga ca f gf S :=
  Cls_scr h (fun y c hy a b d => (mW_off d a ⟨b, fun z => absurd rfl z⟩).trans hy) ⟨_, _, _, _, mW_rd (HB_0 h)⟩ ⟨δ, mW_dep (HB_0 h), hδ⟩ ⟨_, _, _, _, _, _, _, mW_mk⟩
theorem HB_1 (h : ClsC V M x sh rg rd mk trow grow dep hT tq tt ga ca f gf S) (hE : ∀ y c, M y = some c → M1 y = some c) (hL : ∀ y c, M y = some c → y < p ∧ y < q.1 ∧ y < q.2.1 ∧ y < q.2.2.1 ∧ y < q.2.2.2) (hC : TmC V M1 p q τ0) (h0 : τ0.1 ≤ 1000) : HB V M1 mk rd dep (some p) q ∧ OffA dep (some p) q tq S.1 := by
  obtain ⟨⟨-, -, -, -, -, ⟨tm0, al0, fo0, ap0, hrd⟩, ⟨δ, hdp, hδ⟩, ⟨tg0, pl0, src0, P0, ar0, al1, pp0, hmk⟩⟩, hTm, -⟩ := id h
  have l := hL _ _ hdp
  refine ⟨⟨⟨_, hE _ _ hmk⟩, ⟨_, hE _ _ hrd⟩, ⟨_, hE _ _ hdp⟩, fun h e => ?_, fun h e => by omega⟩, fun t ht => ?_⟩
  · cases e
    exact ⟨τ0, hC, h0⟩
  · obtain ⟨-, hc, -, -, d1, d2, d3, d4⟩ := hTm t ht
    have l1 := hL _ _ hc.2.1
    have l2 := hL _ _ hc.2.2.1
    have l3 := hL _ _ hc.2.2.2.1
    have l4 := hL _ _ hc.2.2.2.2.1
    exact ⟨⟨d1.symm, fun _ => by omega⟩, ⟨d2.symm, fun _ => by omega⟩, ⟨d3.symm, fun _ => by omega⟩, ⟨d4.symm, fun _ => by omega⟩⟩
/-- the world with the made term, seen from outside -/
theorem Cls_o1 (h : ClsC V M x sh rg rd mk trow grow dep hT tq tt ga ca f gf S) (hE : ∀ y c, M y = some c → M1 y = some c) (hL : ∀ y c, M y = some c → y < p ∧ y < q.1 ∧ y < q.2.1 ∧ y < q.2.2.1 ∧ y < q.2.2.2) (hC : TmC V M1 p q τ0) (h0 : τ0.1 ≤ 1000) (hδ : ∀ j, 0 ≤ δ j ∧ δ j ≤ 1000) : ClsC V (mW V M1 mk rd dep (some p) q τ (dC dep tm al fo ap) δ (mkC rd (some p) pl src P ar al1 pp)) x sh rg rd mk trow grow dep hT tq tt ga ca f gf S := by
  have hB := (HB_1 h hE hL hC h0).1
  exact Cls_scr h (fun y c hy a b d => by
    have l := hL _ _ hy
    rw [mW_off d a ⟨b, fun _ => by omega⟩]
    exact hE _ _ hy) ⟨_, _, _, _, mW_rd hB⟩ ⟨δ, mW_dep hB, hδ⟩ ⟨_, _, _, _, _, _, _, mW_mk⟩
theorem Cls_made (h : ClsC V M x sh rg rd mk trow grow dep hT tq tt ga ca f gf S) (hJ : Jv S) (hE : ∀ y c, M y = some c → M1 y = some c) (hL : ∀ y c, M y = some c → y < p ∧ y < q.1 ∧ y < q.2.1 ∧ y < q.2.2.1 ∧ y < q.2.2.2) (hC : TmC V M1 p q τ0) (h0 : τ0.1 ≤ 1000) (hδ : ∀ j, 0 ≤ δ j ∧ δ j ≤ 1000) (hO : Tok τ) (hS : TmS τ LS) : ClsP V (mv_up (mv_up (mW V M1 mk rd dep (some p) q τ (dC dep tm al fo ap) δ (mkC rd (some p) pl src P ar al1 pp)) trow (tA V 1500 (va_up f ((S.1 : Nat) : Int).toNat (some p)))) sh (.inr (1, [.ref trow, .int (iI (((S.1 : Nat) : Int) + 1)), .int (iI (((bs S.2.1 S.1 : Nat) : Int) + (τ.1 : Nat)))]))) x (S.1 + 1, va_up S.2.1 S.1 LS, S.2.2) := by
  have hB := (HB_1 h hE hL hC h0).1
  exact ⟨sh, rg, rd, mk, trow, grow, dep, _, _, _, ga, ca, _, gf, Cls_fin h hJ hE hL (fun y c hy a b d k1 k2 k3 k4 => by rw [mW_off d a ⟨b, fun _ => ⟨k1, k2, k3, k4⟩⟩]; exact hy) ⟨_, _, _, _, mW_rd hB⟩ ⟨δ, mW_dep hB, hδ⟩ ⟨_, _, _, _, _, _, _, mW_mk⟩ (mW_tm hB rfl) hO hS⟩
end MKW
