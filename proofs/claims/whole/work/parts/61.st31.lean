/-! the class's world, changed -/
section CLSX
variable {V : mv_V} {M M' : mv_M} {x sh rg rd mk trow grow dep : Nat} {hT : Nat → Nat} {tq : Nat → Q4} {tt : Nat → Tm} {ga ca : Nat → Nat} {f gf : Nat → Option Nat} {S : SS}
/-- what is no scratch lies apart from it -/
theorem Cls_ne (h : ClsC V M x sh rg rd mk trow grow dep hT tq tt ga ca f gf S) : (x ≠ rd ∧ x ≠ dep ∧ x ≠ mk) ∧ (sh ≠ rd ∧ sh ≠ dep ∧ sh ≠ mk) ∧ (trow ≠ rd ∧ trow ≠ dep ∧ trow ≠ mk) ∧ (rg ≠ rd ∧ rg ≠ dep ∧ rg ≠ mk) ∧ (grow ≠ rd ∧ grow ≠ dep ∧ grow ≠ mk) ∧ (∀ t, t < S.1 → (hT t ≠ rd ∧ hT t ≠ dep ∧ hT t ≠ mk) ∧ ((tq t).1 ≠ rd ∧ (tq t).1 ≠ dep ∧ (tq t).1 ≠ mk) ∧ ((tq t).2.1 ≠ rd ∧ (tq t).2.1 ≠ dep ∧ (tq t).2.1 ≠ mk) ∧ ((tq t).2.2.1 ≠ rd ∧ (tq t).2.2.1 ≠ dep ∧ (tq t).2.2.1 ≠ mk) ∧ ((tq t).2.2.2 ≠ rd ∧ (tq t).2.2.2 ≠ dep ∧ (tq t).2.2.2 ≠ mk)) ∧ (∀ g, g < S.2.2.1 → (ga g ≠ rd ∧ ga g ≠ dep ∧ ga g ≠ mk) ∧ ((S.2.2.2 g).1 = 3 → ca g ≠ rd ∧ ca g ≠ dep ∧ ca g ≠ mk)) := by
  obtain ⟨⟨hx, hsh, htr, hrg, hgr, ⟨tm0, al0, fo0, ap0, hrd⟩, ⟨δ, hdp, hδ⟩, ⟨tg0, pl0, src0, P0, ar0, al1, pp0, hmk⟩⟩, hTm, hGl, hIn⟩ := h
  refine ⟨⟨mv_ne hx hrd (by simp), mv_ne hx hdp (by simp), mv_ne hx hmk (by simp)⟩, ⟨mv_ne hsh hrd (by simp), mv_ne hsh hdp (by simp), mv_ne hsh hmk (by simp)⟩, ⟨mv_ne htr hrd (by simp), mv_ne htr hdp (by simp), mv_ne htr hmk (by simp)⟩, ⟨mv_ne hrg hrd (by simp), mv_ne hrg hdp (by simp), mv_ne hrg hmk (by simp)⟩, ⟨mv_ne hgr hrd (by simp), mv_ne hgr hdp (by simp), mv_ne hgr hmk (by simp)⟩, fun t ht => ?_, fun g hg => ?_⟩
  · obtain ⟨-, hC, -, -, d1, d2, d3, d4⟩ := hTm t ht
    exact ⟨⟨mv_ne hC.1 hrd (by simp), mv_ne hC.1 hdp (by simp), mv_ne hC.1 hmk (by simp)⟩, ⟨mv_ne hC.2.1 hrd (by simp), d1.symm, mv_ne hC.2.1 hmk (by simp)⟩, ⟨mv_ne hC.2.2.1 hrd (by simp), d2.symm, mv_ne hC.2.2.1 hmk (by simp)⟩, ⟨mv_ne hC.2.2.2.1 hrd (by simp), d3.symm, mv_ne hC.2.2.2.1 hmk (by simp)⟩, ⟨mv_ne hC.2.2.2.2.1 hrd (by simp), d4.symm, mv_ne hC.2.2.2.2.1 hmk (by simp)⟩⟩
  · obtain ⟨-, hG, hc⟩ := hGl g hg
    refine ⟨⟨mv_ne hG hrd (by simp), mv_ne hG hdp (by simp), mv_ne hG hmk (by simp)⟩, fun h3 => ?_⟩
    obtain ⟨-, cf, hcf, -⟩ := hc h3
    exact ⟨mv_ne hcf hrd (by simp), mv_ne hcf hdp (by simp), mv_ne hcf hmk (by simp)⟩
/-- the scratch anew -/
theorem Cls_scr (h : ClsC V M x sh rg rd mk trow grow dep hT tq tt ga ca f gf S) (e : ∀ y c, M y = some c → y ≠ rd → y ≠ dep → y ≠ mk → M' y = some c) (h1 : ∃ tm al fo ap, M' rd = some (dC dep tm al fo ap)) (h2 : ∃ δ, M' dep = some (iA V 1000 δ) ∧ ∀ j, 0 ≤ δ j ∧ δ j ≤ 1000) (h3 : ∃ tg pl src P ar al pp, M' mk = some (mkC rd tg pl src P ar al pp)) : ClsC V M' x sh rg rd mk trow grow dep hT tq tt ga ca f gf S := by
  obtain ⟨n1, n2, n3, n4, n5, n6, n7⟩ := Cls_ne h
  obtain ⟨⟨hx, hsh, htr, hrg, hgr, -, -, -⟩, hTm, hGl, hIn⟩ := h
  refine ⟨⟨e _ _ hx n1.1 n1.2.1 n1.2.2, e _ _ hsh n2.1 n2.2.1 n2.2.2, e _ _ htr n3.1 n3.2.1 n3.2.2, e _ _ hrg n4.1 n4.2.1 n4.2.2, e _ _ hgr n5.1 n5.2.1 n5.2.2, h1, h2, h3⟩, fun t ht => ?_, fun g hg => ?_, hIn⟩
  · obtain ⟨a, hC, b⟩ := hTm t ht
    obtain ⟨m0, m1, m2, m3, m4⟩ := n6 t ht
    exact ⟨a, ⟨e _ _ hC.1 m0.1 m0.2.1 m0.2.2, e _ _ hC.2.1 m1.1 m1.2.1 m1.2.2, e _ _ hC.2.2.1 m2.1 m2.2.1 m2.2.2, e _ _ hC.2.2.2.1 m3.1 m3.2.1 m3.2.2, e _ _ hC.2.2.2.2.1 m4.1 m4.2.1 m4.2.2, hC.2.2.2.2.2⟩, b⟩
  · obtain ⟨a, hG, hc⟩ := hGl g hg
    obtain ⟨m0, m1⟩ := n7 g hg
    refine ⟨a, e _ _ hG m0.1 m0.2.1 m0.2.2, fun z => ?_⟩
    obtain ⟨b, cf, hcf, k⟩ := hc z
    obtain ⟨p1, p2, p3⟩ := m1 z
    exact ⟨b, cf, e _ _ hcf p1 p2 p3, k⟩
/-- the reader alone anew -/
theorem Cls_rd (h : ClsC V M x sh rg rd mk trow grow dep hT tq tt ga ca f gf S) {tm : Option Nat} {al fo ap : Int} : ClsC V (mv_up M rd (dC dep tm al fo ap)) x sh rg rd mk trow grow dep hT tq tt ga ca f gf S := by
  obtain ⟨⟨-, -, -, -, -, ⟨tm0, al0, fo0, ap0, hrd⟩, ⟨δ, hdp, hδ⟩, ⟨tg0, pl0, src0, P0, ar0, al1, pp0, hmk⟩⟩, -⟩ := id h
  exact Cls_scr h (fun y c hy a b d => by rw [mv_un a]; exact hy) ⟨_, _, _, _, mv_us⟩ ⟨δ, by rw [mv_un (mv_ne hdp hrd (by simp))]; exact hdp, hδ⟩ ⟨_, _, _, _, _, _, _, by rw [mv_un (mv_ne hmk hrd (by simp))]; exact hmk⟩
/-- the depths alone anew -/
theorem Cls_dp (h : ClsC V M x sh rg rd mk trow grow dep hT tq tt ga ca f gf S) {δ' : Nat → Int} (hδ' : ∀ j, 0 ≤ δ' j ∧ δ' j ≤ 1000) : ClsC V (mv_up M dep (iA V 1000 δ')) x sh rg rd mk trow grow dep hT tq tt ga ca f gf S := by
  obtain ⟨⟨-, -, -, -, -, ⟨tm0, al0, fo0, ap0, hrd⟩, ⟨δ, hdp, hδ⟩, ⟨tg0, pl0, src0, P0, ar0, al1, pp0, hmk⟩⟩, -⟩ := id h
  exact Cls_scr h (fun y c hy a b d => by rw [mv_un b]; exact hy) ⟨_, _, _, _, by rw [mv_un (mv_ne hrd hdp (by simp))]; exact hrd⟩ ⟨δ', mv_us, hδ'⟩ ⟨_, _, _, _, _, _, _, by rw [mv_un (mv_ne hmk hdp (by simp))]; exact hmk⟩
/-- a term more -/
theorem Cls_tm (h : ClsC V M x sh rg rd mk trow grow dep hT tq tt ga ca f gf S) (hJ : Jv S) (e : ∀ y c, M y = some c → y ≠ rd → y ≠ dep → y ≠ mk → y ≠ trow → y ≠ sh → M' y = some c) (h1 : ∃ tm al fo ap, M' rd = some (dC dep tm al fo ap)) (h2 : ∃ δ, M' dep = some (iA V 1000 δ) ∧ ∀ j, 0 ≤ δ j ∧ δ j ≤ 1000) (h3 : ∃ tg pl src P ar al pp, M' mk = some (mkC rd tg pl src P ar al pp)) {p : Nat} {q : Q4} {τ : Tm} {ys : List Nd} (ht : M' trow = some (tA V 1500 (va_up f S.1 (some p)))) (hs : M' sh = some (.inr (1, [.ref trow, .int (iI ((S.1 + 1 : Nat) : Int)), .int (iI ((bs S.2.1 S.1 + ys.length : Nat) : Int))]))) (hC : TmC V M' p q τ) (hO : Tok τ) (hS : TmS τ ys) (hd : dep ≠ q.1 ∧ dep ≠ q.2.1 ∧ dep ≠ q.2.2.1 ∧ dep ≠ q.2.2.2) : ClsC V M' x sh rg rd mk trow grow dep (va_up hT S.1 p) (va_up tq S.1 q) (va_up tt S.1 τ) ga ca (va_up f S.1 (some p)) gf (S.1 + 1, va_up S.2.1 S.1 ys, S.2.2) := by
  obtain ⟨n1, n2, n3, n4, n5, n6, n7⟩ := Cls_ne h
  obtain ⟨⟨hx, hsh, htr, hrg, hgr, -, -, -⟩, hTm, hGl, hIn⟩ := h
  have eb : bs (va_up S.2.1 S.1 ys) (S.1 + 1) = bs S.2.1 S.1 + ys.length := by
    simp only [bs]
    rw [bs_cg (X := S.2.1) (fun u hu => va_un (by omega)), va_us]
  refine ⟨⟨e _ _ hx n1.1 n1.2.1 n1.2.2 (mv_ne hx htr (by simp)) (mv_ne hx hsh (by simp)), ?_, ht, e _ _ hrg n4.1 n4.2.1 n4.2.2 (mv_ne hrg htr (by simp)) (mv_ne hrg hsh (by simp)), ?_, h1, h2, h3⟩, fun t ht' => ?_, fun g hg => ?_, hIn⟩
  · show M' sh = some (.inr (1, [.ref trow, .int (iI ((S.1 + 1 : Nat) : Int)), .int (iI ((bs (va_up S.2.1 S.1 ys) (S.1 + 1) : Nat) : Int))]))
    rw [eb]
    exact hs
  · exact e _ _ hgr n5.1 n5.2.1 n5.2.2 (mv_ne hgr htr (by simp)) (mv_ne hgr hsh (by simp))
  · have ht2 : t < S.1 + 1 := ht'
    show va_up f S.1 (some p) t = some (va_up hT S.1 p t) ∧ TmC V M' (va_up hT S.1 p t) (va_up tq S.1 q t) (va_up tt S.1 τ t) ∧ Tok (va_up tt S.1 τ t) ∧ TmS (va_up tt S.1 τ t) (va_up S.2.1 S.1 ys t) ∧ dep ≠ (va_up tq S.1 q t).1 ∧ dep ≠ (va_up tq S.1 q t).2.1 ∧ dep ≠ (va_up tq S.1 q t).2.2.1 ∧ dep ≠ (va_up tq S.1 q t).2.2.2
    by_cases z : t = S.1
    · subst z
      rw [va_us, va_us, va_us, va_us, va_us]
      exact ⟨rfl, hC, hO, hS, hd⟩
    · rw [va_un z, va_un z, va_un z, va_un z, va_un z]
      obtain ⟨a, hC', b⟩ := hTm t (by omega)
      obtain ⟨m0, m1, m2, m3, m4⟩ := n6 t (by omega)
      exact ⟨a, ⟨e _ _ hC'.1 m0.1 m0.2.1 m0.2.2 (mv_ne hC'.1 htr (by simp)) (mv_ne hC'.1 hsh (by simp)), e _ _ hC'.2.1 m1.1 m1.2.1 m1.2.2 (mv_ne hC'.2.1 htr (by simp)) (mv_ne hC'.2.1 hsh (by simp)), e _ _ hC'.2.2.1 m2.1 m2.2.1 m2.2.2 (mv_ne hC'.2.2.1 htr (by simp)) (mv_ne hC'.2.2.1 hsh (by simp)), e _ _ hC'.2.2.2.1 m3.1 m3.2.1 m3.2.2 (mv_ne hC'.2.2.2.1 htr (by simp)) (mv_ne hC'.2.2.2.1 hsh (by simp)), e _ _ hC'.2.2.2.2.1 m4.1 m4.2.1 m4.2.2 (mv_ne hC'.2.2.2.2.1 htr (by simp)) (mv_ne hC'.2.2.2.2.1 hsh (by simp)), hC'.2.2.2.2.2⟩, b⟩
  · have hg' : g < S.2.2.1 := hg
    obtain ⟨a, hG, hc⟩ := hGl g hg'
    obtain ⟨m0, m1⟩ := n7 g hg'
    have eg : glO (S.1 + 1, va_up S.2.1 S.1 ys, S.2.2) (va_up hT S.1 p) ga ca g = glO S hT ga ca g := by
      have : tdO (S.1 + 1, va_up S.2.1 S.1 ys, S.2.2) (va_up hT S.1 p) g = tdO S hT g := by
        show ((S.2.2.2 g).2.2.2.2.2.1).map (va_up hT S.1 p) = ((S.2.2.2 g).2.2.2.2.2.1).map hT
        cases hq : (S.2.2.2 g).2.2.2.2.2.1 with
        | none => rfl
        | some u =>
          have := hJ.2 g hg' u hq
          show some (va_up hT S.1 p u) = some (hT u)
          rw [va_un (by omega)]
      unfold glO
      rw [this]
      rfl
    refine ⟨a, by rw [eg]; exact e _ _ hG m0.1 m0.2.1 m0.2.2 (mv_ne hG htr (by simp)) (mv_ne hG hsh (by simp)), fun z => ?_⟩
    obtain ⟨b, cf, hcf, k⟩ := hc z
    obtain ⟨p1, p2, p3⟩ := m1 z
    obtain ⟨t0, -, -, -, -, -, rk, -⟩ := fam_b hJ.1 hg' z
    refine ⟨b, cf, e _ _ hcf p1 p2 p3 (mv_ne hcf htr (fun w => ?_)) (mv_ne hcf hsh (by simp)), k⟩
    simp at w
    omega
/-- a made term kept: M1 the world with the blank, M2 with what was written into it -/
theorem Cls_fin (h : ClsC V M x sh rg rd mk trow grow dep hT tq tt ga ca f gf S) (hJ : Jv S) {M1 M2 : mv_M} {p : Nat} {q : Q4} {τ : Tm} {ys : List Nd} (hE : ∀ y c, M y = some c → M1 y = some c) (hL : ∀ y c, M y = some c → y < p ∧ y < q.1 ∧ y < q.2.1 ∧ y < q.2.2.1 ∧ y < q.2.2.2) (e2 : ∀ y c, M1 y = some c → y ≠ rd → y ≠ dep → y ≠ mk → y ≠ q.1 → y ≠ q.2.1 → y ≠ q.2.2.1 → y ≠ q.2.2.2 → M2 y = some c) (h1 : ∃ tm al fo ap, M2 rd = some (dC dep tm al fo ap)) (h2 : ∃ δ, M2 dep = some (iA V 1000 δ) ∧ ∀ j, 0 ≤ δ j ∧ δ j ≤ 1000) (h3 : ∃ tg pl src P ar al pp, M2 mk = some (mkC rd tg pl src P ar al pp)) (hC : TmC V M2 p q τ) (hO : Tok τ) (hS : TmS τ ys) : ClsC V (mv_up (mv_up M2 trow (tA V 1500 (va_up f ((S.1 : Nat) : Int).toNat (some p)))) sh (.inr (1, [.ref trow, .int (iI (((S.1 : Nat) : Int) + 1)), .int (iI (((bs S.2.1 S.1 : Nat) : Int) + (τ.1 : Nat)))]))) x sh rg rd mk trow grow dep (va_up hT S.1 p) (va_up tq S.1 q) (va_up tt S.1 τ) ga ca (va_up f S.1 (some p)) gf (S.1 + 1, va_up S.2.1 S.1 ys, S.2.2) := by
  obtain ⟨n1, n2, n3, n4, n5, n6, n7⟩ := Cls_ne h
  obtain ⟨⟨hx, hsh, htr, hrg, hgr, ⟨tm0, al0, fo0, ap0, hrd⟩, ⟨δ, hdp, hδ⟩, ⟨tg0, pl0, src0, P0, ar0, al1, pp0, hmk⟩⟩, hTm, hGl, hIn⟩ := id h
  have old : ∀ y c, M y = some c → y ≠ rd → y ≠ dep → y ≠ mk → M2 y = some c := fun y c hy a b d => by
    obtain ⟨l0, l1, l2, l3, l4⟩ := hL y c hy
    exact e2 y c (hE y c hy) a b d (by omega) (by omega) (by omega) (by omega)
  have htr2 := old _ _ htr n3.1 n3.2.1 n3.2.2
  have hsh2 := old _ _ hsh n2.1 n2.2.1 n2.2.2
  have hts : trow ≠ sh := mv_ne htr hsh (by simp)
  have hdq := hL dep _ hdp
  rw [Int.toNat_natCast, hS.1, show ((S.1 : Nat) : Int) + 1 = ((S.1 + 1 : Nat) : Int) by omega, show ((bs S.2.1 S.1 : Nat) : Int) + (ys.length : Nat) = ((bs S.2.1 S.1 + ys.length : Nat) : Int) by omega]
  refine Cls_tm h hJ (fun y c hy a b d k1 k2 => by rw [mv_un k2, mv_un k1]; exact old y c hy a b d) ?_ ?_ ?_ (by rw [mv_un hts, mv_us]) mv_us ?_ hO hS ⟨by omega, by omega, by omega, by omega⟩
  · obtain ⟨a, b, c, d, k⟩ := h1
    exact ⟨a, b, c, d, by rw [mv_un n2.1.symm, mv_un n3.1.symm]; exact k⟩
  · obtain ⟨a, k, b⟩ := h2
    exact ⟨a, by rw [mv_un n2.2.1.symm, mv_un n3.2.1.symm]; exact k, b⟩
  · obtain ⟨a, b, c, d, e, f', g, k⟩ := h3
    exact ⟨a, b, c, d, e, f', g, by rw [mv_un n2.2.2.symm, mv_un n3.2.2.symm]; exact k⟩
  · obtain ⟨c0, c1, c2, c3, c4, c5⟩ := hC
    refine ⟨?_, ?_, ?_, ?_, ?_, c5⟩
    · rw [mv_un (mv_ne c0 hsh2 (by simp)), mv_un (mv_ne c0 htr2 (by simp))]; exact c0
    · rw [mv_un (mv_ne c1 hsh2 (by simp)), mv_un (mv_ne c1 htr2 (by simp))]; exact c1
    · rw [mv_un (mv_ne c2 hsh2 (by simp)), mv_un (mv_ne c2 htr2 (by simp))]; exact c2
    · rw [mv_un (mv_ne c3 hsh2 (by simp)), mv_un (mv_ne c3 htr2 (by simp))]; exact c3
    · rw [mv_un (mv_ne c4 hsh2 (by simp)), mv_un (mv_ne c4 htr2 (by simp))]; exact c4
end CLSX
