/-! kinds alone give lengths and completeness; closedness -/
theorem fs_k : ∀ (f : Nat) (xs ys : List Nd), xs.map (·.1) = ys.map (·.1) → fs f xs = fs f ys := by
  intro f
  induction f with
  | zero => intro xs ys _; rfl
  | succ f ih =>
    intro xs ys h
    cases xs with
    | nil =>
      cases ys with
      | nil => rfl
      | cons y ys => simp at h
    | cons x xs =>
      cases ys with
      | nil => simp at h
      | cons y ys =>
        simp only [List.map_cons, List.cons.injEq] at h
        simp only [fs]
        rw [h.1, ih xs ys h.2, ih (xs.drop (fs f ys)) (ys.drop (fs f ys)) (by rw [List.map_drop, List.map_drop, h.2])]
theorem lnS_k {xs ys : List Nd} (h : xs.map (·.1) = ys.map (·.1)) (i : Nat) : lnS xs i = lnS ys i := by
  have hl : xs.length = ys.length := by have := congrArg List.length h; simpa using this
  unfold lnS
  rw [hl]
  exact fs_k _ _ _ (by rw [List.map_drop, List.map_drop, h])
theorem sx_k (d : Int) (x : Nd) : (sx d x).1 = x.1 := by unfold sx; split <;> rfl
theorem stl_k : ∀ (ys : List Nd) (σ : List Int), (stl σ ys).map (·.1) = ys.map (·.1) := by
  intro ys
  induction ys with
  | nil => intro σ; rfl
  | cons y ys ih =>
    intro σ
    simp only [stl, List.map_cons]
    rw [ih, sx_k]
/-- what was settled is a term of the same lengths -/
theorem TR_end {ys zs : List Nd} (h : TR [0] ys [] zs) : Cpl ys ∧ Cpl zs ∧ zs.length = ys.length ∧ (∀ i, lnS zs i = lnS ys i) ∧ ∀ i, i < ys.length → gN zs i = sx (dpS ys i) (gN ys i) := by
  obtain ⟨h1, h2⟩ := h
  subst h2
  refine ⟨h1, ?_, stl_len _ _, lnS_k (stl_k _ _), fun i hi => ?_⟩
  · rw [Cpl, rn_k _ _ _ (stl_k ys [0])]
    exact h1
  · obtain ⟨d, σ, e1, e2, e3, e4⟩ := sk_ok h1 hi
    rw [stl_at ys [0] i d σ hi e1, e3]
theorem clB_S {t : Tm} {xs : List Nd} (h : TmS t xs) {δ : Nat → Int} (hδ : ∀ j : Nat, j < xs.length → dgt δ (j : Nat) = dpS xs j) : ∀ n, n ≤ xs.length → (clB t δ n = true ↔ ∀ j, j < n → (gN xs j).1 = 0 → (gN xs j).2.1 < dpS xs j)
  | 0, _ => ⟨fun _ j hj => absurd hj (by omega), fun _ => rfl⟩
  | n + 1, hn => by
    have ih := clB_S h hδ n (by omega)
    simp only [clB, Bool.and_eq_true]
    rw [ih, kAt_S h (by omega), uAt_S h (by omega), hδ n (by omega)]
    constructor
    · intro ⟨g1, g2⟩ j hj hk
      by_cases e : j = n
      · subst e
        rw [decide_eq_true hk, Bool.true_and, Bool.not_eq_true', decide_eq_false_iff_not] at g2
        omega
      · exact g1 j (by omega) hk
    · intro g
      refine ⟨fun j hj => g j (by omega), ?_⟩
      by_cases hk : (gN xs n).1 = 0
      · rw [decide_eq_true hk, Bool.true_and, Bool.not_eq_true', decide_eq_false_iff_not]
        have := g n (by omega) hk
        omega
      · rw [decide_eq_false hk, Bool.false_and]
        rfl
theorem clR_S {F : Nat → Nat → Int} {b : Nat} {xs : List Nd} (h : seF F b xs) {D : Nat → Int} (hD : ∀ j : Nat, j < xs.length → D (b + j) = dpS xs j) : ∀ n, n ≤ xs.length → (clR F D b n = true ↔ ∀ j, j < n → (gN xs j).1 = 0 → (gN xs j).2.1 < dpS xs j)
  | 0, _ => ⟨fun _ j hj => absurd hj (by omega), fun _ => rfl⟩
  | n + 1, hn => by
    have ih := clR_S h hD n (by omega)
    simp only [clR, Bool.and_eq_true]
    rw [ih, (h n (by omega)).1, (h n (by omega)).2.1, hD n (by omega)]
    constructor
    · intro ⟨g1, g2⟩ j hj hk
      by_cases e : j = n
      · subst e
        rw [decide_eq_false (fun q => q hk), Bool.false_or, decide_eq_true_eq] at g2
        exact g2
      · exact g1 j (by omega) hk
    · intro g
      refine ⟨fun j hj => g j (by omega), ?_⟩
      by_cases hk : (gN xs n).1 = 0
      · rw [decide_eq_true (g n (by omega) hk), Bool.or_true]
      · rw [decide_eq_true hk, Bool.true_or]
/-! depths are small -/
theorem rn_bd : ∀ (xs : List Nd) (σ τ : List Int) (m : Int), rn σ xs = some τ → (∀ d, d ∈ σ → 0 ≤ d ∧ d ≤ m) → ∀ d, d ∈ τ → 0 ≤ d ∧ d ≤ m + xs.length := by
  intro xs
  induction xs with
  | nil => intro σ τ m h hs d hd; rw [← Option.some.inj h] at hd; have := hs d hd; simp; omega
  | cons x xs ih =>
    intro σ τ m h hs d hd
    obtain ⟨e, σ', rfl, h'⟩ := rn_s h
    have he := hs e (by simp)
    have := ih _ _ (m + 1) h' (fun y hy => by
      by_cases q : x.1 < 4
      · rw [if_pos q] at hy
        have := hs y (by simp [hy])
        omega
      · rw [if_neg q] at hy
        simp only [List.mem_cons] at hy
        rcases hy with rfl | rfl | hy
        · omega
        · split <;> omega
        · have := hs y (by simp [hy])
          omega) d hd
    simp only [List.length_cons]
    omega
theorem dp_bd {xs : List Nd} (hc : Cpl xs) {i : Nat} (hi : i < xs.length) : 0 ≤ dpS xs i ∧ dpS xs i ≤ i := by
  obtain ⟨d, σ, e1, e2, e3, e4⟩ := sk_ok hc hi
  have := rn_bd _ _ _ 0 e1 (fun y hy => by simp at hy; omega) d (by simp)
  rw [List.length_take] at this
  rw [e3]
  omega
/-! NODES ARE GOOD -/
def NdO (x : Nd) : Prop := (0 ≤ x.1 ∧ x.1 ≤ 6) ∧ (-1 ≤ x.2.1 ∧ x.2.1 ≤ 10000) ∧ (0 ≤ x.2.2 ∧ x.2.2 ≤ 100) ∧ (x.1 = 0 → 0 ≤ x.2.1 ∧ x.2.2 = 0)
def AOk (xs : List Nd) : Prop := ∀ x, x ∈ xs → NdO x
theorem AOk_a {xs ys : List Nd} (h : AOk xs) (k : AOk ys) : AOk (xs ++ ys) := fun x hx => by
  rw [List.mem_append] at hx
  exact hx.elim (h x) (k x)
theorem AOk_1 {x : Nd} (h : NdO x) : AOk [x] := fun y hy => by
  simp at hy
  subst hy
  exact h
theorem AOk_nil : AOk [] := fun x hx => absurd hx (by simp)
theorem AOk_g {xs : List Nd} (h : AOk xs) {i : Nat} (hi : i < xs.length) : NdO (gN xs i) := by
  have : gN xs i = xs[i] := by unfold gN; rw [List.getD_eq_getElem?_getD, List.getElem?_eq_getElem hi]; rfl
  rw [this]
  exact h _ (List.getElem_mem hi)
theorem AOk_gd {xs : List Nd} (h : AOk xs) : Gd xs := fun i hi hk => by
  have := AOk_g h hi
  exact ⟨(this.2.2.2 hk).2, (this.2.2.2 hk).1, by have := this.2.1; omega⟩
theorem AOk_ap : ∀ n, AOk (apL n)
  | 0 => AOk_nil
  | n + 1 => by rw [apL_s]; exact AOk_a (AOk_ap n) (AOk_1 ⟨by simp, by simp, by simp, by simp⟩)
theorem AOk_vr {v : Int} (hv : v ≤ 10000) : ∀ n : Nat, (n : Int) ≤ v + 1 → AOk (vrL v n)
  | 0, _ => AOk_nil
  | n + 1, h => by
    simp only [vrL]
    exact AOk_a (AOk_vr hv n (by omega)) (AOk_1 ⟨by simp, by simp only; omega, by simp, fun _ => ⟨by simp only; omega, rfl⟩⟩)
theorem AOk_cq {xs : List Nd} (hc : Cpl xs) (h : AOk xs) (hcl : Cls xs) (hn : xs.length ≤ 1000) {P ar al pp : Int} (ha : 0 ≤ al ∧ al ≤ 5000) (hp : 0 ≤ pp ∧ pp ≤ 5000) {i : Nat} : ∀ n, i + n ≤ xs.length → AOk (cqS xs P ar al pp i n)
  | 0, _ => AOk_nil
  | n + 1, hin => by
    simp only [cqS]
    refine AOk_a (AOk_cq hc h hcl hn ha hp n (by omega)) (AOk_1 ?_)
    have h1 := AOk_g h (i := i + n) (by omega)
    have h2 := hcl (i + n) (by omega)
    have h3 := dp_bd hc (i := i + n) (by omega)
    unfold cq
    by_cases q : (gN xs (i + n)).1 = 0
    · rw [if_pos q]
      have h4 := h1.2.2.2 q
      have h5 := h2 q
      have h6 := h1.2.2.1
      refine ⟨by simp only; omega, ?_, h6, fun _ => ⟨?_, h4.2⟩⟩
      · simp only
        split
        · omega
        · split <;> omega
      · simp only
        split
        · omega
        · split <;> omega
    · rw [if_neg q]; exact h1
theorem AOk_bn {xs : List Nd} (hc : Cpl xs) (h : AOk xs) (hcl : Cls xs) (hn : xs.length ≤ 1000) {P al pp k : Int} {arf : Nat → Int} (hk : k = 5 ∨ k = 6) (ha : 0 ≤ al ∧ al ≤ 5000) (hp : 0 ≤ pp ∧ pp ≤ 5000) {i n : Nat} (hb : Bds xs i n) : ∀ m, m ≤ n → AOk (bnC xs P arf al pp k i m)
  | 0, _ => AOk_nil
  | m + 1, hm => by
    have hB := Bds_ok hc hb m (by omega)
    have hB2 := hB.2.2 (by omega)
    have l1 := lnS_ok hc hB2.1
    have h1 := AOk_g h hB.1
    simp only [bnC]
    exact AOk_a (AOk_a (AOk_bn hc h hcl hn hk ha hp hb m (by omega)) (AOk_1 ⟨by simp only; omega, h1.2.1, by simp, fun q => by simp only at q; omega⟩)) (AOk_cq hc h hcl hn ha hp _ (by omega))
theorem AOk_v1 {v : Int} (h : 0 ≤ v ∧ v ≤ 10000) : AOk [((0 : Int), v, (0 : Int))] := AOk_1 ⟨by simp, by simp only; omega, by simp, fun _ => ⟨h.1, rfl⟩⟩
theorem Spn_in {xs : List Nd} (hc : Cpl xs) {p np ni x0 : Nat} (hp : p < xs.length) (h : Spn xs p np ni x0) : x0 + (ixS xs x0 ni - x0) ≤ xs.length ∧ x0 ≤ ixS xs x0 ni ∧ np + ni + 1 + np ≤ lnS xs p ∧ (ixS xs x0 ni - x0) + (np + ni + 1 + np) = lnS xs p := by
  have l1 := lnS_ok hc hp
  have l2 := ixS_le xs x0 ni
  have := h.2.2
  have := h.1
  omega
theorem AOk_br {xs : List Nd} (hc : Cpl xs) (h : AOk xs) (hcl : Cls xs) (hn : xs.length ≤ 1000) {P ar al pp k v w : Int} (hk : k = 5 ∨ k = 6) (ha : 0 ≤ al ∧ al ≤ 5000) (hp : 0 ≤ pp ∧ pp ≤ 5000) (hv : 0 ≤ v ∧ v ≤ 5000) (hw : 0 ≤ w ∧ w ≤ 5000) {i ys np ni x0 : Nat} (hb : Bds xs i ys) (hy : ys ≤ 1000) (hs : Spn xs (unS xs i ys) np ni x0) : AOk (brC xs P ar al pp k v w i ys ni x0) := by
  have hB := Bds_ok hc hb ys (Nat.le_refl _)
  have hS := Spn_in hc hB.1 hs
  unfold brC
  exact AOk_a (AOk_a (AOk_a (AOk_a (AOk_a (AOk_a (AOk_bn hc h hcl hn hk ha hp hb ys (Nat.le_refl _)) (AOk_ap _)) (AOk_v1 (by omega))) (AOk_cq hc h hcl hn ha hp _ (by omega))) (AOk_ap _)) (AOk_v1 (by omega))) (AOk_vr (by omega) _ (by omega))
/-! nodes of the cases and of the type are good; lengths -/
theorem cnB_le (rc : Nat → Bool) : ∀ j, cnB rc j ≤ j
  | 0 => Nat.le_refl _
  | j + 1 => by have := cnB_le rc j; simp only [cnB]; split <;> omega
theorem Bds_le {xs : List Nd} (hc : Cpl xs) {i n : Nat} (h : Bds xs i n) : ∀ y, y ≤ n → i + 2 * y ≤ unS xs i y
  | 0, _ => by simp [unS]
  | y + 1, hy => by
    have ih := Bds_le hc h y (by omega)
    have l1 := (lnS_ok hc ((Bds_ok hc h y (by omega)).2.2 (by omega)).1).1
    simp only [unS]
    omega
section ARG
variable {xs : List Nd} {rc : Nat → Bool} {yf xf : Nat → Nat} {np ni n i0 : Nat}
theorem AOk_bc (hc : Cpl xs) (h : AOk xs) (hcl : Cls xs) (hn : xs.length ≤ 1000) (hA : Arg xs rc yf xf np ni n i0) {rank : Int} (hr : 0 ≤ rank ∧ rank ≤ 100) : ∀ j, j ≤ n → AOk (bcC xs rc yf xf np ni rank n i0 j)
  | 0, _ => AOk_nil
  | j + 1, hj => by
    have ih := AOk_bc hc h hcl hn hA hr j (by omega)
    have c1 := cnB_le rc j
    have b1 := Bds_le hc hA.1 n (Nat.le_refl _)
    have b2 := (Bds_ok hc hA.1 n (Nat.le_refl _)).1
    simp only [bcC]
    refine AOk_a ih ?_
    by_cases q : rc j = true
    · rw [if_pos q]
      obtain ⟨p1, p2⟩ := hA.2.2 j (by omega) q
      have b3 := Bds_le hc p1 _ (Nat.le_refl _)
      have b4 := (Bds_ok hc p1 _ (Nat.le_refl _)).1
      exact AOk_a (AOk_1 ⟨by simp, by simp, by simp, by simp⟩) (AOk_br hc h hcl hn (Or.inr rfl) (by omega) (by omega) (by omega) (by omega) p1 (by omega) p2)
    · rw [if_neg q]; exact AOk_nil
theorem AOk_gl {nu btw aft : Int} (hu : 0 ≤ nu ∧ nu ≤ 100) (hb : 0 ≤ btw ∧ btw ≤ 2000) (ha : 0 ≤ aft ∧ aft ≤ 2000) {np own : Nat} (hp : np ≤ 1000 ∧ own ≤ 1000) : AOk (glC nu np own btw aft) := by
  unfold glC
  exact AOk_a (AOk_a (AOk_a (AOk_ap _) (AOk_1 ⟨by simp, by simp only; omega, by simp, by simp⟩)) (AOk_vr (by omega) _ (by omega))) (AOk_vr (by omega) _ (by omega))
theorem AOk_pa (hc : Cpl xs) (h : AOk xs) (hcl : Cls xs) (hn : xs.length ≤ 1000) (hA : Arg xs rc yf xf np ni n i0) {x0 : Nat} (hs : Spn xs (unS xs i0 n) np ni x0) {rank nc : Int} (hr : 0 ≤ rank ∧ rank ≤ 100) (hu : 0 ≤ nc ∧ nc ≤ 100) : AOk (paC xs rc yf xf np ni rank n i0 x0 nc) := by
  have c1 := cnB_le rc n
  have b1 := Bds_le hc hA.1 n (Nat.le_refl _)
  have b2 := (Bds_ok hc hA.1 n (Nat.le_refl _)).1
  have hS := Spn_in hc b2 hs
  have l1 := lnS_ok hc b2
  unfold paC
  exact AOk_a (AOk_a (AOk_a (AOk_a (AOk_a (AOk_bn hc h hcl hn (Or.inr rfl) (by omega) (by omega) hA.1 n (Nat.le_refl _)) (AOk_bc hc h hcl hn hA hr n (Nat.le_refl _))) (AOk_ap _)) (AOk_v1 (by omega))) (AOk_cq hc h hcl hn (by omega) (by omega) _ (by omega))) (AOk_gl hu (by omega) (by omega) (by omega))
/-! the raw lists' lengths -/
theorem bnR_len {Λ : Nat → Int} {k lv : Int} {ar i : Nat} : ∀ m, (bnR xs Λ k ar lv i m).length = unS xs i m - i
  | 0 => by simp [bnR, unS]
  | m + 1 => by
    have ih := bnR_len (Λ := Λ) (k := k) (lv := lv) (ar := ar) (i := i) m
    have := unS_le xs i m
    simp only [bnR, unS, List.length_append, ih, pqS_len, List.length_singleton]
    omega
theorem idR_len {Λ : Nat → Int} {ar : Int} {i : Nat} : ∀ m, (idR xs Λ ar i m).length = ixS xs i m - i
  | 0 => by simp [idR, ixS]
  | m + 1 => by
    have ih := idR_len (Λ := Λ) (ar := ar) (i := i) m
    have := ixS_le xs i m
    simp only [idR, ixS, List.length_append, ih, pqS_len]
    omega
theorem brR_len {Λ : Nat → Int} {k first own head : Int} {ar i ys x0 : Nat} : (brR xs Λ k ar first own head i ys ni x0).length = (unS xs i ys - i) + (ni + 1) + 1 + (ixS xs x0 ni - x0) + ys + 1 + ys := by
  unfold brR
  simp only [List.length_append, bnR_len, apL_len, idR_len, mdL_len, List.length_singleton]
theorem brR_le (hc : Cpl xs) {Λ : Nat → Int} {k first own head : Int} {ar i ys x0 : Nat} (hb : Bds xs i ys) (hs : Spn xs (unS xs i ys) np ni x0) : (brR xs Λ k ar first own head i ys ni x0).length ≤ 2 * lnS xs i + 2 := by
  have hB := (Bds_ok hc hb ys (Nat.le_refl _)).1
  have hS := Spn_in hc hB hs
  have he := Bds_end hc ys i hb
  have h2 := Bds_le hc hb ys (Nat.le_refl _)
  rw [brR_len]
  omega
theorem bcR_le (hc : Cpl xs) (hA : Arg xs rc yf xf np ni n i0) {Λ : Nat → Int} {level : Int} : ∀ j, j ≤ n → (bcR xs Λ rc yf xf np ni level n i0 j).length ≤ 2 * (unS xs i0 j - i0) + j
  | 0, _ => by simp [bcR]
  | j + 1, hj => by
    have ih := bcR_le hc hA (Λ := Λ) (level := level) j (by omega)
    have hu := unS_le xs i0 j
    simp only [bcR, unS, List.length_append]
    by_cases q : rc j = true
    · rw [if_pos q]
      obtain ⟨p1, p2⟩ := hA.2.2 j (by omega) q
      have := brR_le hc (Λ := lvB Λ rc yf np level n j) (k := 6) (first := level + n + cnB rc j) (own := level + j) (head := np) (ar := np + j) p1 p2
      simp only [List.length_append, List.length_singleton]
      omega
    · rw [if_neg q]
      simp only [List.length_nil]
      omega
theorem paR_le (hc : Cpl xs) (hn : xs.length ≤ 1000) (hA : Arg xs rc yf xf np ni n i0) {x0 : Nat} (hs : Spn xs (unS xs i0 n) np ni x0) {Λ : Nat → Int} {level nc : Int} : (paR xs Λ rc yf xf np ni level n i0 x0 nc).length ≤ 8000 := by
  have b1 := Bds_le hc hA.1 n (Nat.le_refl _)
  have b2 := (Bds_ok hc hA.1 n (Nat.le_refl _)).1
  have hS := Spn_in hc b2 hs
  have l1 := lnS_ok hc b2
  have h1 := bcR_le hc hA (Λ := upL (upL Λ 0 0 np) np level n) (level := level) n (Nat.le_refl _)
  unfold paR
  simp only [List.length_append, bnR_len, apL_len, idR_len, mdL_len, List.length_singleton]
  omega
end ARG
theorem csR_le {cd : Nat → CD} {np ni ra : Nat} (h : ∀ c, c < ra → CDok np ni (cd c) ∧ (cd c).1.length ≤ 1000) {Λ : Nat → Int} {nc : Nat → Int} : ∀ c, c ≤ ra → (csR cd Λ np ni nc c).length ≤ 8001 * c
  | 0, _ => by simp [csR]
  | c + 1, hc => by
    have ih := csR_le h (Λ := Λ) (nc := nc) c (by omega)
    obtain ⟨⟨h1, h2, h3, h4, h5⟩, h6⟩ := h c (by omega)
    have := paR_le h1 h6 h4 h5 (Λ := csLv cd Λ np c) (level := (np : Int) + 1 + c) (nc := nc c)
    simp only [csR, List.length_append, List.length_singleton]
    omega
theorem wtR_le {xs : List Nd} (hc : Cpl xs) (hn : xs.length ≤ 1000) {cd : Nat → CD} {np ni ra : Nat} (hb : Bds xs 0 (np + ni)) (hra : ra ≤ 12) (h : ∀ c, c < ra → CDok np ni (cd c) ∧ (cd c).1.length ≤ 1000) {Λ : Nat → Int} {nu s : Int} {nc : Nat → Int} : (wtR xs cd Λ np ni ra nu s nc).length ≤ 110000 := by
  have b1 := Bds_le hc hb _ (Nat.le_refl _)
  have b2 := (Bds_ok hc hb _ (Nat.le_refl _)).1
  have b3 := (Bds_ok hc hb np (by omega)).1
  have h1 := csR_le h (Λ := upL (upL Λ 0 0 np) np np ni) (nc := nc) ra (Nat.le_refl _)
  have e1 : unS xs (unS xs 0 np) ni = unS xs 0 (np + ni) := (unS_add xs 0 np ni).symm
  unfold wtR
  simp only [List.length_append, bnR_len, apL_len, mdL_len, List.length_singleton, e1]
  omega
theorem AOk_cs {cd : Nat → CD} {np ni ra : Nat} (h : ∀ c, c < ra → CDok np ni (cd c) ∧ (cd c).1.length ≤ 1000 ∧ AOk (cd c).1) (hra : ra ≤ 12) {nc : Nat → Int} (hu : ∀ c, 0 ≤ nc c ∧ nc c ≤ 100) : ∀ c, c ≤ ra → AOk (csC cd np ni nc c)
  | 0, _ => AOk_nil
  | c + 1, hc => by
    obtain ⟨⟨h1, h2, h3, h4, h5⟩, h6, h7⟩ := h c (by omega)
    simp only [csC]
    exact AOk_a (AOk_a (AOk_cs h hra hu c (by omega)) (AOk_1 ⟨by simp, by simp, by simp, by simp⟩)) (AOk_pa h1 h7 h3 h6 h4 h5 (by omega) (hu c))
theorem AOk_wt {xs : List Nd} (hc : Cpl xs) (ho : AOk xs) (hcl : Cls xs) (hn : xs.length ≤ 1000) {cd : Nat → CD} {np ni ra : Nat} (hb : Bds xs 0 (np + ni)) (hra : ra ≤ 12) (h : ∀ c, c < ra → CDok np ni (cd c) ∧ (cd c).1.length ≤ 1000 ∧ AOk (cd c).1) {nu s : Int} {nc : Nat → Int} (hu : ∀ c, 0 ≤ nc c ∧ nc c ≤ 100) (hnu : 0 ≤ nu ∧ nu ≤ 100) (hs : 0 ≤ s ∧ s ≤ 100) : AOk (wtC xs cd np ni ra nu s nc) := by
  have b1 := Bds_le hc hb _ (Nat.le_refl _)
  have b2 := (Bds_ok hc hb _ (Nat.le_refl _)).1
  have hB := Bds_sub hc hb
  have hz : ∀ u : Int, -1 ≤ u → u ≤ 100 → AOk [((6 : Int), u, (0 : Int))] := fun u h1 h2 => AOk_1 ⟨by simp, by simp only; omega, by simp, by simp⟩
  unfold wtC
  exact AOk_a (AOk_a (AOk_a (AOk_a (AOk_a (AOk_a (AOk_a (AOk_a (AOk_a (AOk_a (AOk_a (AOk_a (AOk_bn hc ho hcl hn (Or.inr rfl) (by omega) (by omega) hB.1 np (Nat.le_refl _)) (hz _ (by omega) (by omega))) (AOk_bn hc ho hcl hn (Or.inr rfl) (by omega) (by omega) hB.2 ni (Nat.le_refl _))) (hz _ (by omega) (by omega))) (AOk_gl hnu (by omega) (by omega) (by omega))) (AOk_1 ⟨by simp, by simp only; omega, by simp, by simp⟩)) (AOk_cs h hra hu ra (Nat.le_refl _))) (AOk_bn hc ho hcl hn (Or.inr rfl) (by omega) (by omega) hB.2 ni (Nat.le_refl _))) (hz _ (by omega) (by omega))) (AOk_gl hnu (by omega) (by omega) (by omega))) (AOk_ap _)) (AOk_v1 (by omega))) (AOk_vr (by omega) _ (by omega))
/-! room and levels of the writing phase -/
theorem log2_m {a b : Nat} (h : a ≤ b) : Nat.log2 a ≤ Nat.log2 b := by
  by_cases ha : a = 0
  · subst ha; simp
  · exact (Nat.le_log2 (by omega)).mpr (Nat.le_trans (Nat.log2_self_le ha) h)
theorem pC_le {c1 c2 l1 l2 : Nat} (h1 : c1 ≤ c2) (h2 : l1 ≤ l2) : pC c1 l1 ≤ pC c2 l2 ∧ pS c1 l1 ≤ pS c2 l2 := by
  have a1 := log2_m h1
  have a2 := log2_m h2
  unfold pC pS
  omega
theorem capL_mono (cap c : Nat) {m n : Nat} (h : m ≤ n) : capL cap c m ≤ capL cap c n := by
  obtain ⟨k, rfl⟩ : ∃ k, n = m + k := ⟨n - m, by omega⟩
  rw [capL_add]
  exact capL_ge _ _ _
theorem capL_bd {cap c : Nat} (h : cap ≤ 1000000) : ∀ n, c + n ≤ 500000 → capL cap c n ≤ 1000000
  | 0, _ => h
  | n + 1, hn => by
    have ih := capL_bd (c := c) h n (by omega)
    show capN (capL cap c n) ((c + n : Nat) : Int) ≤ 1000000
    unfold capN
    split <;> omega
/-- the levels' length behind n levels from v on -/
def lvS (lq v : Nat) : Nat → Nat
  | 0 => lq
  | n + 1 => lvN (lvS lq v n) (v + n)
theorem lvN_ok {lq v : Nat} (h0 : 1 ≤ lq) (h : v ≤ lq) : v + 1 ≤ lvN lq v ∧ lq ≤ lvN lq v ∧ (lq ≤ 4000 → v ≤ 2000 → lvN lq v ≤ 4000) := by
  unfold lvN
  split <;> omega
theorem lvS_ok {lq v : Nat} (h0 : 1 ≤ lq) (h : v ≤ lq) : ∀ n, v + n ≤ lvS lq v n ∧ lq ≤ lvS lq v n ∧ (lq ≤ 4000 → v + n ≤ 2000 → lvS lq v n ≤ 4000)
  | 0 => ⟨h, Nat.le_refl _, fun h _ => h⟩
  | n + 1 => by
    obtain ⟨a, b, c⟩ := lvS_ok h0 h n
    obtain ⟨d, e, f⟩ := lvN_ok (lq := lvS lq v n) (v := v + n) (by omega) a
    simp only [lvS]
    exact ⟨by omega, by omega, fun h1 h2 => f (c h1 (by omega)) (by omega)⟩
theorem lvS_m {lq v : Nat} {m n : Nat} (h : m ≤ n) : lvS lq v m ≤ lvS lq v n := by
  obtain ⟨k, rfl⟩ : ∃ k, n = m + k := ⟨n - m, by omega⟩
  induction k with
  | zero => exact Nat.le_refl _
  | succ k ih =>
    refine Nat.le_trans (ih (by omega)) ?_
    rw [← Nat.add_assoc]
    simp only [lvS]
    unfold lvN
    split <;> omega
theorem lvS_ge (lq v n : Nat) : lq ≤ lvS lq v n := lvS_m (m := 0) (Nat.zero_le n)
def lqB (lq : Nat) (rc : Nat → Bool) (yf : Nat → Nat) (np n : Nat) : Nat → Nat
  | 0 => lq
  | j + 1 => if rc j = true then lvS (lvS (lqB lq rc yf np n j) (np + j) (yf j)) np n else lqB lq rc yf np n j
theorem lqB_ok {lq : Nat} {rc : Nat → Bool} {yf : Nat → Nat} {np n : Nat} (h0 : 1 ≤ lq) (h : np + n ≤ lq) : ∀ j, j ≤ n → lq ≤ lqB lq rc yf np n j ∧ (lq ≤ 4000 → (∀ i, i < j → np + n + i + yf i ≤ 2000) → np + n ≤ 2000 → lqB lq rc yf np n j ≤ 4000)
  | 0, _ => ⟨Nat.le_refl _, fun h _ _ => h⟩
  | j + 1, hj => by
    obtain ⟨a, b⟩ := lqB_ok (rc := rc) (yf := yf) h0 h j (by omega)
    simp only [lqB]
    split
    · obtain ⟨c1, c2, c3⟩ := lvS_ok (lq := lqB lq rc yf np n j) (v := np + j) (by omega) (by omega) (yf j)
      obtain ⟨d1, d2, d3⟩ := lvS_ok (lq := lvS (lqB lq rc yf np n j) (np + j) (yf j)) (v := np) (by omega) (by omega) n
      exact ⟨by omega, fun g1 g2 g3 => d3 (c3 (b g1 (fun i hi => g2 i (by omega)) g3) (by have := g2 j (by omega); omega)) g3⟩
    · exact ⟨a, fun g1 g2 g3 => b g1 (fun i hi => g2 i (by omega)) g3⟩
theorem lqB_m {lq : Nat} {rc : Nat → Bool} {yf : Nat → Nat} {np n : Nat} {i j : Nat} (h : i ≤ j) : lqB lq rc yf np n i ≤ lqB lq rc yf np n j := by
  obtain ⟨k, rfl⟩ : ∃ k, j = i + k := ⟨j - i, by omega⟩
  induction k with
  | zero => exact Nat.le_refl _
  | succ k ih =>
    refine Nat.le_trans (ih (by omega)) ?_
    rw [← Nat.add_assoc]
    simp only [lqB]
    split
    · exact Nat.le_trans (lvS_ge _ _ _) (lvS_ge _ _ _)
    · exact Nat.le_refl _
def paQ (lq : Nat) (rc : Nat → Bool) (yf : Nat → Nat) (np n : Nat) : Nat := lqB (lvS (lvS lq 0 np) np n) rc yf np n n
def csQ (cd : Nat → CD) (lq np : Nat) : Nat → Nat
  | 0 => lq
  | c + 1 => paQ (csQ cd lq np c) (cd c).2.2.1 (cd c).2.2.2.1 np (cd c).2.1
def wtQ (cd : Nat → CD) (lq np ni ra : Nat) : Nat := lvS (csQ cd (lvS (lvS lq 0 np) np ni) np ra) np ni
theorem paQ_ok {lq : Nat} {rc : Nat → Bool} {yf : Nat → Nat} {np n : Nat} (h0 : 1 ≤ lq) : lq ≤ paQ lq rc yf np n ∧ np + n ≤ paQ lq rc yf np n ∧ (lq ≤ 4000 → (∀ i, i < n → np + n + i + yf i ≤ 2000) → np + n ≤ 2000 → paQ lq rc yf np n ≤ 4000) := by
  obtain ⟨a1, a2, a3⟩ := lvS_ok h0 (Nat.zero_le lq) np
  obtain ⟨b1, b2, b3⟩ := lvS_ok (lq := lvS lq 0 np) (v := np) (by omega) (by omega) n
  obtain ⟨c1, c2⟩ := lqB_ok (rc := rc) (yf := yf) (np := np) (n := n) (lq := lvS (lvS lq 0 np) np n) (by omega) b1 n (Nat.le_refl _)
  unfold paQ
  exact ⟨by omega, by omega, fun g1 g2 g3 => c2 (b3 (a3 g1 (by omega)) g3) g2 g3⟩
theorem csQ_ok {cd : Nat → CD} {lq np : Nat} (h0 : 1 ≤ lq) (h : np ≤ lq) : ∀ c, lq ≤ csQ cd lq np c ∧ (lq ≤ 4000 → (∀ k, k < c → np + (cd k).2.1 ≤ 2000 ∧ ∀ i, i < (cd k).2.1 → np + (cd k).2.1 + i + (cd k).2.2.2.1 i ≤ 2000) → csQ cd lq np c ≤ 4000)
  | 0 => ⟨Nat.le_refl _, fun h _ => h⟩
  | c + 1 => by
    obtain ⟨a, b⟩ := csQ_ok (cd := cd) h0 h c
    obtain ⟨d, e, f⟩ := paQ_ok (rc := (cd c).2.2.1) (yf := (cd c).2.2.2.1) (np := np) (n := (cd c).2.1) (lq := csQ cd lq np c) (by omega)
    simp only [csQ]
    exact ⟨by omega, fun g1 g2 => f (b g1 (fun k hk => g2 k (by omega))) (g2 c (by omega)).2 (g2 c (by omega)).1⟩
theorem csQ_m {cd : Nat → CD} {lq np : Nat} (h0 : 1 ≤ lq) (h : np ≤ lq) {i j : Nat} (hij : i ≤ j) : csQ cd lq np i ≤ csQ cd lq np j := by
  obtain ⟨k, rfl⟩ : ∃ k, j = i + k := ⟨j - i, by omega⟩
  induction k with
  | zero => exact Nat.le_refl _
  | succ k ih =>
    refine Nat.le_trans (ih (by omega)) ?_
    rw [← Nat.add_assoc]
    simp only [csQ]
    have := (csQ_ok (cd := cd) h0 h (i + k)).1
    exact (paQ_ok (by omega)).1
theorem wtQ_ok {cd : Nat → CD} {lq np ni ra : Nat} (h0 : 1 ≤ lq) : lq ≤ wtQ cd lq np ni ra ∧ (lq ≤ 4000 → np + ni ≤ 2000 → (∀ k, k < ra → np + (cd k).2.1 ≤ 2000 ∧ ∀ i, i < (cd k).2.1 → np + (cd k).2.1 + i + (cd k).2.2.2.1 i ≤ 2000) → wtQ cd lq np ni ra ≤ 4000) := by
  obtain ⟨a1, a2, a3⟩ := lvS_ok h0 (Nat.zero_le lq) np
  obtain ⟨b1, b2, b3⟩ := lvS_ok (lq := lvS lq 0 np) (v := np) (by omega) (by omega) ni
  obtain ⟨c1, c2⟩ := csQ_ok (cd := cd) (lq := lvS (lvS lq 0 np) np ni) (np := np) (by omega) (by omega) ra
  obtain ⟨d1, d2, d3⟩ := lvS_ok (lq := csQ cd (lvS (lvS lq 0 np) np ni) np ra) (v := np) (by omega) (by omega) ni
  unfold wtQ
  exact ⟨by omega, fun g1 g2 g3 => d3 (c2 (b3 (a3 g1 (by omega)) g2) g3) g2⟩
theorem seF_ag {F F1 : Nat → Nat → Int} {b c : Nat} {xs : List Nd} (h : ∀ j x, j < 4 → x < c → F1 j x = F j x) (hb : b + xs.length ≤ c) (k : seF F b xs) : seF F1 b xs := fun i hi => by
  obtain ⟨k0, k1, k2, k3⟩ := k i hi
  rw [h 0 _ (by omega) (by omega), h 1 _ (by omega) (by omega), h 2 _ (by omega) (by omega), h 3 _ (by omega) (by omega)]
  exact ⟨k0, k1, k2, k3⟩
