/-! what Maker needs of a whole family -/
theorem bnC_len {xs : List Nd} {P al pp k : Int} {arf : Nat → Int} {i : Nat} : ∀ m, (bnC xs P arf al pp k i m).length = unS xs i m - i
  | 0 => by simp [bnC, unS]
  | m + 1 => by
    have ih := bnC_len (xs := xs) (P := P) (al := al) (pp := pp) (k := k) (arf := arf) (i := i) m
    have := unS_le xs i m
    simp only [bnC, unS, List.length_append, ih, cqS_len, List.length_singleton]
    omega
theorem brC_len {xs : List Nd} {P ar al pp k v w : Int} {i ys ni x0 : Nat} : (brC xs P ar al pp k v w i ys ni x0).length = (unS xs i ys - i) + (ni + 1) + 1 + (ixS xs x0 ni - x0) + ys + 1 + ys := by
  unfold brC
  simp only [List.length_append, bnC_len, apL_len, cqS_len, vrL_len, List.length_singleton]
section LNC
variable {xs : List Nd} {rc : Nat → Bool} {yf xf : Nat → Nat} {np ni n i0 : Nat}
theorem bcC_le (hc : Cpl xs) (hA : Arg xs rc yf xf np ni n i0) {rank : Int} : ∀ j, j ≤ n → (bcC xs rc yf xf np ni rank n i0 j).length ≤ 2 * (unS xs i0 j - i0) + j
  | 0, _ => by simp [bcC]
  | j + 1, hj => by
    have ih := bcC_le hc hA (rank := rank) j (by omega)
    have hu := unS_le xs i0 j
    simp only [bcC, unS, List.length_append]
    by_cases q : rc j = true
    · rw [if_pos q]
      obtain ⟨p1, p2⟩ := hA.2.2 j (by omega) q
      have hB := (Bds_ok hc p1 (yf j) (Nat.le_refl _)).1
      have hS := Spn_in hc hB p2
      have he := Bds_end hc (yf j) _ p1
      have h2 := Bds_le hc p1 (yf j) (Nat.le_refl _)
      simp only [List.length_append, List.length_singleton, brC_len]
      omega
    · rw [if_neg q]
      simp only [List.length_nil]
      omega
theorem paC_le (hc : Cpl xs) (hn : xs.length ≤ 1000) (hA : Arg xs rc yf xf np ni n i0) {x0 : Nat} (hs : Spn xs (unS xs i0 n) np ni x0) {rank nc : Int} : (paC xs rc yf xf np ni rank n i0 x0 nc).length ≤ 8000 := by
  have b1 := Bds_le hc hA.1 n (Nat.le_refl _)
  have b2 := (Bds_ok hc hA.1 n (Nat.le_refl _)).1
  have hS := Spn_in hc b2 hs
  have l1 := lnS_ok hc b2
  have h1 := bcC_le hc hA (rank := rank) n (Nat.le_refl _)
  unfold paC glC
  simp only [List.length_append, bnC_len, apL_len, cqS_len, vrL_len, List.length_singleton]
  omega
end LNC
theorem csC_le {cd : Nat → CD} {np ni ra : Nat} (h : ∀ c, c < ra → CDok np ni (cd c) ∧ (cd c).1.length ≤ 1000) {nc : Nat → Int} : ∀ c, c ≤ ra → (csC cd np ni nc c).length ≤ 8001 * c
  | 0, _ => by simp [csC]
  | c + 1, hc => by
    have ih := csC_le h (nc := nc) c (by omega)
    obtain ⟨⟨h1, h2, h3, h4, h5⟩, h6⟩ := h c (by omega)
    have := paC_le h1 h6 h4 h5 (rank := (c : Int)) (nc := nc c)
    simp only [csC, List.length_append, List.length_singleton]
    omega
theorem dsq_bd {tg : Option Nat} {tt : Nat → Tm} {xf : Nat → List Nd} {ra : Nat} (H : ∀ i, i < ra → TmS (tt i) (xf i) ∧ Cpl (xf i) ∧ (xf i).length ≤ 1000) {δ : Nat → Int} (hδ : ∀ j, 0 ≤ δ j ∧ δ j ≤ 1000) : ∀ i, i ≤ ra → ∀ j, 0 ≤ dsq tg tt δ i j ∧ dsq tg tt δ i j ≤ 1000
  | 0, _ => hδ
  | i + 1, hi => by
    have ih := dsq_bd (tg := tg) H hδ i (by omega)
    obtain ⟨h1, h2, h3⟩ := H i (by omega)
    simp only [dsq]
    cases tg with
    | none => exact ih
    | some p => exact dpW_bd h1 h2 h3 ih
theorem opD_bd {tg : Option Nat} {t : Tm} {xs : List Nd} (h : TmS t xs) (hc : Cpl xs) (hn : xs.length ≤ 1000) {δ : Nat → Int} (hδ : ∀ j, 0 ≤ δ j ∧ δ j ≤ 1000) : ∀ j, 0 ≤ opD tg t δ j ∧ opD tg t δ j ≤ 1000 := by
  cases tg with
  | none => exact hδ
  | some p => exact dpW_bd h hc hn hδ
theorem dgt_sm {δ : Nat → Int} (hδ : ∀ j, 0 ≤ δ j ∧ δ j ≤ 1000) (z : Int) : Sm (dgt δ z) := by
  unfold dgt
  split
  · have := hδ z.toNat; omega
  · omega
/-- the arrays of every term are none that is written in -/
def OffA (dep : Nat) (tg : Option Nat) (q : Q4) (tq : Nat → Q4) (n : Nat) : Prop := ∀ t, t < n → Off dep tg q (tq t).1 ∧ Off dep tg q (tq t).2.1 ∧ Off dep tg q (tq t).2.2.1 ∧ Off dep tg q (tq t).2.2.2
theorem Src_of {V : mv_V} {M : mv_M} {h dep : Nat} {tg : Option Nat} {q q' : Q4} {t : Tm} (hC : TmC V M h q' t) (ho : Tok t) (hO : Off dep tg q q'.1 ∧ Off dep tg q q'.2.1 ∧ Off dep tg q q'.2.2.1 ∧ Off dep tg q q'.2.2.2) : SrcOk V M dep tg q h t := by
  refine ⟨hC.at, ho, fun a0 a1 a2 a3 e => ?_⟩
  rw [hC.1] at e
  simp only [Option.some.injEq, Sum.inr.injEq, Prod.mk.injEq, List.cons.injEq, Value.ref.injEq, and_true, true_and] at e
  obtain ⟨rfl, rfl, rfl, rfl⟩ := e
  exact hO
section WHC
variable {V : mv_V} {M : mv_M} {x sh rg rd mk trow grow dep : Nat} {hT : Nat → Nat} {tq : Nat → Q4} {tt : Nat → Tm} {ga ca : Nat → Nat} {f gf : Nat → Option Nat} {S : SS}
theorem whole_C (h : ClsC V M x sh rg rd mk trow grow dep hT tq tt ga ca f gf S) (hJ : Jv S) {g : Nat} (ok : okW S ((g : Nat) : Int)) {tg : Option Nat} {q : Q4} (hO : OffA dep tg q tq S.1) : ∃ cf, M (ga g) = some (.inr (2, [.int (iI ((g : Nat) : Int)), .int (iI ((S.2.2.2 g).1)), .int (iI (((S.2.2.2 g).2.2.1 : Nat) : Int)), .int (iI (((S.2.2.2 g).2.2.2.1 : Nat) : Int)), .int (iI (((S.2.2.2 g).2.2.2.2.1 : Nat) : Int)), va_rf (faO S ga g), .ref (ca g), .ref (hT (tl S g)), .int (iI (agO S g)), .int (iI (((S.2.2.2 g).2.2.2.2.2.2.2 : Nat) : Int))])) ∧ M (ca g) = some (gA V (S.2.2.2 g).2.2.2.2.1 cf) ∧ (tl S g < S.1 ∧ SrcOk V M dep tg q (hT (tl S g)) (tt (tl S g)) ∧ TmS (tt (tl S g)) (S.2.1 (tl S g)) ∧ Cpl (S.2.1 (tl S g)) ∧ (S.2.1 (tl S g)).length ≤ 1000 ∧ Bds (S.2.1 (tl S g)) 0 ((S.2.2.2 g).2.2.1 + (S.2.2.2 g).2.2.2.1)) ∧ (∀ i, i < (S.2.2.2 g).2.2.2.2.1 → (cf i = some (ga (g + 1 + i)) ∧ M (ga (g + 1 + i)) = some (.inr (2, [.int (iI ((g + 1 + i : Nat) : Int)), .int (iI ((S.2.2.2 (g + 1 + i)).1)), .int (iI (((S.2.2.2 g).2.2.1 : Nat) : Int)), .int (iI (((S.2.2.2 (g + 1 + i)).2.2.2.1 : Nat) : Int)), .int (iI ((i : Nat) : Int)), .ref (ga g), va_rf (coO S ca (g + 1 + i)), .ref (hT (tl S (g + 1 + i))), .int (iI (((S.2.2.2 (g + 1 + i)).2.2.2.2.2.2.1 : Nat) : Int)), .int (iI (((S.2.2.2 (g + 1 + i)).2.2.2.2.2.2.2 : Nat) : Int))])) ∧ SrcOk V M dep tg q (hT (tl S (g + 1 + i))) (tt (tl S (g + 1 + i))) ∧ (S.2.2.2 (g + 1 + i)).2.2.2.2.2.2.1 ≤ 1000) ∧ TmS (tt (tl S (g + 1 + i))) (S.2.1 (tl S (g + 1 + i))) ∧ Told (S.2.1 (tl S (g + 1 + i))) ((g : Nat) : Int) (S.2.2.2 g).2.2.1 (S.2.2.2 g).2.2.2.1 (S.2.2.2 (g + 1 + i)).2.2.2.2.2.2.1) ∧ (S.2.2.2 g).2.2.2.2.1 ≤ 12 ∧ (S.2.2.2 g).2.2.1 + (S.2.2.2 g).2.2.2.1 ≤ 500 := by
  obtain ⟨-, hTm, hGl, -⟩ := h
  obtain ⟨h1, h3, h4⟩ := ok
  have hg : g < S.2.2.1 := by have := h1.2; omega
  rw [Int.toNat_natCast] at h3 h4
  obtain ⟨t, f1, f2, f3, f4, f5, f6, f7, f8, f9⟩ := fam_b hJ.1 hg h3
  have ho := hJ.1.2.2.2.1 t f2
  have a1 := nA_ok ho.1 ho.2.2.1 (i := 0) (by have := ho.2.1; omega)
  rw [f4] at a1
  obtain ⟨-, hG, hc⟩ := hGl g hg
  obtain ⟨-, cf, hcf, hcc⟩ := hc h3
  have et : tl S g = t := tl_s f1
  refine ⟨cf, ?_, hcf, ?_, fun i hi => ?_, f6, f5⟩
  · rw [hG]
    unfold glO
    have e1 : coO S ca g = some (ca g) := by unfold coO; rw [if_pos h3]
    have e2 : tdO S hT g = some (hT (tl S g)) := by unfold tdO; rw [f1, et]; rfl
    rw [e1, e2]
    rfl
  · rw [et]
    obtain ⟨-, hC, hk, hS, -⟩ := hTm t f2
    exact ⟨f2, Src_of hC hk (hO t f2), hS, ho.1, ho.2.2.1, a1.1.1⟩
  · obtain ⟨u, hu⟩ := Option.isSome_iff_exists.mp (h4 i hi)
    obtain ⟨y1, y2, y3⟩ := f9 i hi
    obtain ⟨c1, c2, c3, c4, c5, c6, c7⟩ := con_b hJ.1 (g := g + 1 + i) (by omega) y1
    obtain ⟨z1, z2⟩ := c6 u hu
    rw [y2] at c3 c4 z2
    rw [c3, c4] at z2
    have eu : tl S (g + 1 + i) = u := tl_s hu
    obtain ⟨-, hC, hk, hS, -⟩ := hTm u z1
    have hGi := (hGl (g + 1 + i) (by omega)).2.1
    have hb := z2.1.b
    have e3 := Bds_le z2.1.1 hb _ (Nat.le_refl _)
    have e4 := (Bds_ok z2.1.1 hb _ (Nat.le_refl _)).1
    have e5 := z2.1.2.1
    rw [eu]
    refine ⟨⟨hcc i hi, ?_, Src_of hC hk (hO u z1), by omega⟩, hS, z2.1⟩
    rw [hGi]
    unfold glO
    have e1 : faO S ga (g + 1 + i) = some (ga g) := by unfold faO; rw [if_pos y1, y2]
    have e2 : tdO S hT (g + 1 + i) = some (hT u) := by unfold tdO; rw [hu]; rfl
    have e6 : agO S (g + 1 + i) = (((S.2.2.2 (g + 1 + i)).2.2.2.2.2.2.1 : Nat) : Int) := by unfold agO otS; rw [if_pos y1, if_pos y1, hu]
    rw [e1, e2, e6, y3, c3]
    rfl
end WHC
