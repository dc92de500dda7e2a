/-! THE CLASS'S TERM AS A LIST: reads and what Maker writes -/
def TmS (t : Tm) (xs : List Nd) : Prop := t.1 = xs.length ∧ ∀ i, i < xs.length → t.2.1 i = (gN xs i).1 ∧ t.2.2.1 i = (gN xs i).2.1 ∧ t.2.2.2.1 i = (gN xs i).2.2 ∧ t.2.2.2.2 i = lnS xs i
section TMS
variable {t : Tm} {xs : List Nd}
theorem kAt_S (h : TmS t xs) {i : Nat} (hi : i < xs.length) : kAt t (i : Nat) = (gN xs i).1 := by
  unfold kAt
  rw [if_pos ⟨by omega, by rw [h.1]; omega⟩, Int.toNat_natCast]
  exact (h.2 i hi).1
theorem uAt_S (h : TmS t xs) {i : Nat} (hi : i < xs.length) : uAt t (i : Nat) = (gN xs i).2.1 := by
  unfold uAt
  rw [if_pos ⟨by omega, by rw [h.1]; omega⟩, Int.toNat_natCast]
  exact (h.2 i hi).2.1
theorem sAt_S (h : TmS t xs) {i : Nat} (hi : i < xs.length) : sAt t (i : Nat) = (gN xs i).2.2 := by
  unfold sAt
  rw [if_pos ⟨by omega, by rw [h.1]; omega⟩, Int.toNat_natCast]
  exact (h.2 i hi).2.2.1
theorem dAt_S (h : TmS t xs) {i : Nat} (hi : i < xs.length) : dAt t (i : Nat) = (lnS xs i : Nat) := by
  unfold dAt
  rw [if_pos ⟨by omega, by rw [h.1]; omega⟩, Int.toNat_natCast]
  exact (h.2 i hi).2.2.2
theorem kAt_o (h : TmS t xs) {i : Int} (hi : ¬ (0 ≤ i ∧ i < xs.length)) : kAt t i = -1 := by
  unfold kAt
  rw [if_neg (by rw [h.1]; exact hi)]
theorem scd_S (h : TmS t xs) {i : Nat} (hi : i + 1 < xs.length) : scd t (i : Nat) = ((i + 1 + lnS xs (i + 1) : Nat) : Int) := by
  unfold scd
  rw [show ((i : Nat) : Int) + 1 = ((i + 1 : Nat) : Int) by omega, dAt_S h hi]
  omega
theorem beR_S (h : TmS t xs) (hc : Cpl xs) {i n : Nat} (hb : Bds xs i n) : ∀ y, y ≤ n → beR t (i : Nat) y = (unS xs i y : Nat)
  | 0, _ => rfl
  | y + 1, hy => by
    have hB := (Bds_ok hc hb y (by omega)).2.2 (by omega)
    simp only [beR, unS]
    rw [beR_S h hc hb y (by omega), scd_S h hB.1]
theorem beh_R (t : Tm) : ∀ n, beh t n = beR t 0 n
  | 0 => rfl
  | n + 1 => by simp only [beh, beR]; rw [beh_R t n]
theorem cpL_S (h : TmS t xs) {δ : Nat → Int} (hδ : ∀ j : Nat, j < xs.length → dgt δ (j : Nat) = dpS xs j) {P ar al pp : Int} {i : Nat} : ∀ n, i + n ≤ xs.length → cpL t δ P ar al pp (i : Nat) n = cqS xs P ar al pp i n
  | 0, _ => rfl
  | n + 1, hn => by
    simp only [cpL, cqS]
    rw [cpL_S h hδ n (by omega)]
    congr 2
    unfold lfN cq
    rw [show ((i : Nat) : Int) + (n : Int) = ((i + n : Nat) : Int) by omega, kAt_S h (by omega), uAt_S h (by omega), sAt_S h (by omega), hδ (i + n) (by omega)]
    by_cases q : (gN xs (i + n)).1 = 0
    · rw [if_pos q, if_pos q]
    · rw [if_neg q, if_neg q]
theorem alL_S (h : TmS t xs) (hc : Cpl xs) {δ : Nat → Int} (hδ : ∀ j : Nat, j < xs.length → dgt δ (j : Nat) = dpS xs j) {P outer : Int} {i n : Nat} (hb : Bds xs i n) : ∀ m, m ≤ n → alL t δ P outer (i : Nat) m = bnC xs P (fun m => P + m) 0 outer 6 i m
  | 0, _ => rfl
  | m + 1, hm => by
    have hB := Bds_ok hc hb m (by omega)
    have hB2 := hB.2.2 (by omega)
    have l1 := lnS_ok hc hB2.1
    simp only [alL, bnC]
    rw [alL_S h hc hδ hb m (by omega), beR_S h hc hb m (by omega), uAt_S h hB.1, show ((unS xs i m : Nat) : Int) + 1 = ((unS xs i m + 1 : Nat) : Int) by omega, dAt_S h hB2.1, Int.toNat_natCast, cpL_S h hδ _ (by omega)]
theorem bnL_S (h : TmS t xs) (hc : Cpl xs) {δ : Nat → Int} (hδ : ∀ j : Nat, j < xs.length → dgt δ (j : Nat) = dpS xs j) {P ar al pp k : Int} {i n : Nat} (hb : Bds xs i n) : ∀ m, m ≤ n → bnL t δ P ar al pp k (i : Nat) m = bnC xs P (fun _ => ar) al pp k i m
  | 0, _ => rfl
  | m + 1, hm => by
    have hB := Bds_ok hc hb m (by omega)
    have hB2 := hB.2.2 (by omega)
    have l1 := lnS_ok hc hB2.1
    simp only [bnL, bnC]
    rw [bnL_S h hc hδ hb m (by omega), beR_S h hc hb m (by omega), uAt_S h hB.1, show ((unS xs i m : Nat) : Int) + 1 = ((unS xs i m + 1 : Nat) : Int) by omega, dAt_S h hB2.1, Int.toNat_natCast, cpL_S h hδ _ (by omega)]
theorem glL_S {nu btw aft : Int} {np own : Nat} : glL nu (np : Nat) (own : Nat) btw aft = glC nu np own btw aft := by
  unfold glL glC
  rw [show ((np : Int) + (own : Int)).toNat = np + own by omega, Int.toNat_natCast, Int.toNat_natCast]
theorem brL_S (h : TmS t xs) (hc : Cpl xs) {δ : Nat → Int} (hδ : ∀ j : Nat, j < xs.length → dgt δ (j : Nat) = dpS xs j) {P ar al pp k v w : Int} {i ys np ni x0 : Nat} (hb : Bds xs i ys) (hs : Spn xs (unS xs i ys) np ni x0) (hx : x0 ≤ ixS xs x0 ni) : brL t δ P ar al pp k (ni : Nat) (i : Nat) v w ys (x0 : Nat) (ixS xs x0 ni - x0) = brC xs P ar al pp k v w i ys ni x0 := by
  have hB := Bds_ok hc hb ys (Nat.le_refl _)
  have l1 := lnS_ok hc hB.1
  unfold brL brC
  rw [bnL_S h hc hδ hb ys (Nat.le_refl _), cpL_S h hδ _ (by rw [hs.2.2]; have := hs.2.2; omega), show ((ni : Int) + 1).toNat = ni + 1 by omega]
/-- the walk of the class -/
def FT (t : Tm) : Nat → Nat → Int := fun j => if j = 0 then t.2.1 else t.2.2.2.2
theorem lyF_T (h : TmS t xs) : lyF (FT t) 0 xs := fun i hi => ⟨by rw [Nat.zero_add]; exact (h.2 i hi).1, by rw [Nat.zero_add]; exact (h.2 i hi).2.2.2⟩
theorem dset_in {δ : Nat → Int} {i : Nat} {x : Int} (h : i < 1000) : dset δ (i : Nat) x = va_up δ i x := by
  unfold dset
  rw [if_pos (by omega), Int.toNat_natCast]
theorem dgt_in {δ : Nat → Int} {i : Nat} (h : i < 1000) : dgt δ (i : Nat) = δ i := by
  unfold dgt
  rw [if_pos (by omega), Int.toNat_natCast]
theorem dpW_S (h : TmS t xs) (hc : Cpl xs) (hn : xs.length ≤ 1000) {δ : Nat → Int} : ∀ m, m ≤ xs.length → dpW t δ m = wkR (FT t) 0 δ m
  | 0, _ => dset_in (i := 0) (by omega)
  | m + 1, hm => by
    have hm' : m < xs.length := by omega
    have ih := dpW_S h hc hn (δ := δ) m (by omega)
    obtain ⟨w1, w2, w3, w4⟩ := WF_S hc m hm'
    simp only [dpW, wkR]
    rw [ih, kAt_S h hm', Nat.zero_add, show FT t 0 m = (gN xs m).1 from (h.2 m hm').1]
    by_cases q : 4 ≤ (gN xs m).1
    · obtain ⟨w5, w6, w7⟩ := w4 q
      rw [if_pos q, if_pos q, scd_S h w5, dset_in (by omega), dgt_in (by omega), show ((m : Nat) : Int) + 1 = ((m + 1 : Nat) : Int) by omega, dset_in (by omega)]
      congr 1
      unfold scR
      rw [show ((0 : Nat) : Int) + (m : Int) + 1 = ((m + 1 : Nat) : Int) by omega, Int.toNat_natCast, show FT t 3 (m + 1) = (lnS xs (m + 1) : Nat) from (h.2 (m + 1) w5).2.2.2]
      omega
    · rw [if_neg q, if_neg q]
theorem dpW_dp (h : TmS t xs) (hc : Cpl xs) (hn : xs.length ≤ 1000) {δ : Nat → Int} : ∀ j : Nat, j < xs.length → dgt (dpW t δ t.1) (j : Nat) = dpS xs j := by
  intro j hj
  rw [h.1, dgt_in (by omega), dpW_S h hc hn _ (Nat.le_refl _)]
  have := wkR_end hc (lyF_T h) δ hj
  rw [Nat.zero_add] at this
  exact this
end TMS
/-! SHAPES: alls, applications, the spine -/
theorem unS_1 (xs : List Nd) (i n : Nat) : unS xs i (n + 1) = unS xs (i + 1 + lnS xs (i + 1)) n := by
  rw [show n + 1 = 1 + n by omega, unS_add]
  rfl
theorem ixS_add (xs : List Nd) (i m : Nat) : ∀ n, ixS xs i (m + n) = ixS xs (ixS xs i m) n
  | 0 => rfl
  | n + 1 => by rw [← Nat.add_assoc]; simp only [ixS]; rw [ixS_add xs i m n]
/-- n alls at i and no more; a applications at p and no more -/
def AlS (xs : List Nd) (i n : Nat) : Prop := Bds xs i n ∧ ¬ (gN xs (unS xs i n)).1 = 6
def ApS (xs : List Nd) (p a : Nat) : Prop := p + a < xs.length ∧ (∀ j, j < a → (gN xs (p + j)).1 = 4) ∧ ¬ (gN xs (p + a)).1 = 4
theorem AlS_ex {xs : List Nd} (hc : Cpl xs) : ∀ (q i : Nat), xs.length - i ≤ q → i < xs.length → ∃ n, AlS xs i n ∧ i + 2 * n ≤ unS xs i n := by
  intro q
  induction q with
  | zero => intro i h1 h2; omega
  | succ q ih =>
    intro i h1 h2
    by_cases hk : (gN xs i).1 = 6
    · obtain ⟨w1, w2, w3, w4⟩ := WF_S hc i h2
      obtain ⟨w5, w6, w7⟩ := w4 (by show 4 ≤ (gN xs i).1; omega)
      have l1 := (WF_S hc _ w5).1
      obtain ⟨n, ⟨hb, hn⟩, hle⟩ := ih (i + 1 + lnS xs (i + 1)) (by omega) w6
      refine ⟨n + 1, ⟨⟨h2, fun y hy => ?_⟩, ?_⟩, ?_⟩
      · cases y with
        | zero => exact hk
        | succ y => rw [unS_1]; exact hb.2 y (by omega)
      · rw [unS_1]; exact hn
      · rw [unS_1]; omega
    · exact ⟨0, ⟨⟨h2, fun y hy => absurd hy (by omega)⟩, hk⟩, by simp [unS]⟩
theorem ApS_ex {xs : List Nd} (hc : Cpl xs) : ∀ (q p : Nat), xs.length - p ≤ q → p < xs.length → ∃ a, ApS xs p a := by
  intro q
  induction q with
  | zero => intro i h1 h2; omega
  | succ q ih =>
    intro i h1 h2
    by_cases hk : (gN xs i).1 = 4
    · obtain ⟨w1, w2, w3, w4⟩ := WF_S hc i h2
      obtain ⟨w5, w6, w7⟩ := w4 (by show 4 ≤ (gN xs i).1; omega)
      obtain ⟨a, h3, h4, h5⟩ := ih (i + 1) (by omega) w5
      refine ⟨a + 1, by omega, fun j hj => ?_, by rw [show i + (a + 1) = i + 1 + a by omega]; exact h5⟩
      cases j with
      | zero => exact hk
      | succ j => rw [show i + (j + 1) = i + 1 + j by omega]; exact h4 j (by omega)
    · exact ⟨0, h2, fun y hy => absurd hy (by omega), hk⟩
theorem Bds_1 {xs : List Nd} (hc : Cpl xs) {i n : Nat} (h : Bds xs i (n + 1)) : Bds xs (i + 1 + lnS xs (i + 1)) n := ⟨by have := (Bds_ok hc h 1 (by omega)).1; exact this, fun y hy => by rw [← unS_1]; exact h.2 _ (by omega)⟩
theorem Bds_end {xs : List Nd} (hc : Cpl xs) : ∀ (n i : Nat), Bds xs i n → unS xs i n + lnS xs (unS xs i n) = i + lnS xs i
  | 0, i, _ => rfl
  | n + 1, i, h => by
    have hk := h.2 0 (by omega)
    have w := (WF_S hc i h.1).2.2.2 (by show 4 ≤ (gN xs i).1; simp only [unS] at hk; omega)
    rw [unS_1, Bds_end hc n _ (Bds_1 hc h)]
    omega
theorem allN_S {t : Tm} {xs : List Nd} (h : TmS t xs) (hc : Cpl xs) : ∀ (n f i : Nat), AlS xs i n → n ≤ f → allN t f (i : Nat) = n
  | 0, f, i, ha, _ => allN_n (by rw [kAt_S h ha.1.1]; exact ha.2)
  | n + 1, f, i, ha, hf => by
    have hk := ha.1.2 0 (by omega)
    have w := (Bds_ok hc ha.1 0 (by omega)).2.2 (by omega)
    simp only [unS] at hk w
    rw [allN_s (by omega) (by rw [kAt_S h ha.1.1]; exact hk), scd_S h w.1, allN_S h hc n (f - 1) _ ⟨Bds_1 hc ha.1, by rw [← unS_1]; exact ha.2⟩ (by omega)]
    omega
theorem appN_S {t : Tm} {xs : List Nd} (h : TmS t xs) : ∀ (a f p : Nat), ApS xs p a → a ≤ f → appN t f (p : Nat) = a
  | 0, f, p, ha, _ => appN_n (by rw [kAt_S h (i := p) (by have := ha.1; omega)]; exact ha.2.2)
  | a + 1, f, p, ha, hf => by
    have hk := ha.2.1 0 (by omega)
    have hl := ha.1
    rw [appN_s (by omega) (by rw [kAt_S h (by omega)]; exact hk), show ((p : Nat) : Int) + 1 = ((p + 1 : Nat) : Int) by omega, appN_S h a (f - 1) (p + 1) ⟨by omega, fun j hj => by rw [show p + 1 + j = p + (j + 1) by omega]; exact ha.2.1 _ (by omega), by rw [show p + 1 + a = p + (a + 1) by omega]; exact ha.2.2⟩ (by omega)]
    omega
theorem spine {xs : List Nd} (hc : Cpl xs) : ∀ (a p : Nat), p + a < xs.length → (∀ j, j < a → (gN xs (p + j)).1 = 4) → ixS xs (p + a) (a + 1) = p + lnS xs p
  | 0, p, _, _ => rfl
  | a + 1, p, hl, hk => by
    have w := (WF_S hc p (by omega)).2.2.2 (by show 4 ≤ (gN xs p).1; have := hk 0 (by omega); simp only [Nat.add_zero] at this; omega)
    have ih := spine hc a (p + 1) (by omega) (fun j hj => by rw [show p + 1 + j = p + (j + 1) by omega]; exact hk _ (by omega))
    rw [show p + (a + 1) = p + 1 + a by omega]
    show ixS xs (p + 1 + a) (a + 1) + lnS xs (ixS xs (p + 1 + a) (a + 1)) = _
    rw [ih]
    omega
theorem ap_sk {xs : List Nd} (hc : Cpl xs) {p : Nat} {e : Int} {ρ : List Int} (hs : sk xs p = e :: ρ) : ∀ a, p + a < xs.length → (∀ j, j < a → (gN xs (p + j)).1 = 4) → sk xs (p + a) = rp (a + 1) e ρ
  | 0, _, _ => hs
  | a + 1, hl, hk => by
    have ih := ap_sk hc hs a (by omega) (fun j hj => hk j (by omega))
    rw [rp_s] at ih
    have h1 := sk_s hc (by omega) ih
    have h2 := hk a (by omega)
    rw [if_neg (by omega), if_pos h2] at h1
    rw [show p + (a + 1) = p + a + 1 by omega, h1, rp_s, rp_s]
theorem ix_sk {xs : List Nd} (hc : Cpl xs) {q a : Nat} {e : Int} {ρ : List Int} (hq : q < xs.length) (hs : sk xs q = rp a e ρ) : ∀ j, j ≤ a → sk xs (ixS xs q j) = rp (a - j) e ρ ∧ (j < a → ixS xs q j < xs.length ∧ dpS xs (ixS xs q j) = e)
  | 0, _ => ⟨hs, fun h => ⟨hq, by
      show (sk xs q).headD 0 = e
      rw [hs]
      obtain ⟨b, rfl⟩ : ∃ b, a = b + 1 := ⟨a - 1, by omega⟩
      rfl⟩⟩
  | j + 1, hj => by
    obtain ⟨h1, h2⟩ := ix_sk hc hq hs j (by omega)
    obtain ⟨h3, h4⟩ := h2 (by omega)
    rw [show a - j = (a - (j + 1)) + 1 by omega, rp_s] at h1
    have h5 := sk_j hc h3 h1
    refine ⟨h5, fun h => ?_⟩
    have hin : ixS xs q (j + 1) < xs.length := by
      have l1 := lnS_ok hc h3
      simp only [ixS]
      apply Classical.byContradiction
      intro g
      rw [show ixS xs q j + lnS xs (ixS xs q j) = xs.length by omega, sk_end hc] at h5
      obtain ⟨b, hb⟩ : ∃ b, a - (j + 1) = b + 1 := ⟨a - (j + 1) - 1, by omega⟩
      rw [hb, rp_s] at h5
      exact absurd h5 (by simp)
    refine ⟨hin, ?_⟩
    show (sk xs (ixS xs q j + lnS xs (ixS xs q j))).headD 0 = e
    rw [h5]
    obtain ⟨b, hb⟩ : ∃ b, a - (j + 1) = b + 1 := ⟨a - (j + 1) - 1, by omega⟩
    rw [hb]
    rfl
/-- the family nu put to its np parameters, which are v, v - 1, .., and ni more, at p -/
def pvB (xs : List Nd) (p : Nat) (v : Int) : Nat → Bool
  | 0 => true
  | n + 1 => pvB xs p v n && (decide ((gN xs (p + n)).1 = 0) && decide ((gN xs (p + n)).2.1 = v - n))
def ptB (xs : List Nd) (nu : Int) (np ni p a : Nat) (v : Int) : Bool := decide (a = np + ni) && (decide ((gN xs (p + a)).1 = 1) && (decide ((gN xs (p + a)).2.1 = nu) && pvB xs (p + a + 1) v np))
theorem pvB_le {xs : List Nd} {p : Nat} {v : Int} : ∀ {n : Nat}, pvB xs p v n = true → ∀ j, j < n → (gN xs (p + j)).1 = 0 ∧ (gN xs (p + j)).2.1 = v - j
  | 0, _, j, hj => absurd hj (by omega)
  | n + 1, h, j, hj => by
    simp only [pvB, Bool.and_eq_true, decide_eq_true_eq] at h
    by_cases q : j = n
    · subst q; exact h.2
    · exact pvB_le h.1 j (by omega)
/-- so many variables behind each other: in the list, the next place too -/
theorem pv_in {xs : List Nd} (hc : Cpl xs) {q a : Nat} {e : Int} {ρ : List Int} (hq : q < xs.length) (hs : sk xs q = rp a e ρ) : ∀ k, k ≤ a → (∀ j, j < k → (gN xs (q + j)).1 = 0) → ixS xs q k = q + k ∧ (k < a → q + k < xs.length)
  | 0, _, _ => ⟨rfl, fun _ => hq⟩
  | k + 1, hk, h => by
    obtain ⟨h1, h2⟩ := pv_in hc hq hs k (by omega) (fun j hj => h j (by omega))
    have h3 := h2 (by omega)
    have w := (WF_S hc _ h3).2.2.1 (by show (gN xs (q + k)).1 < 4; have := h k (by omega); omega)
    have e1 : ixS xs q (k + 1) = q + (k + 1) := by
      simp only [ixS]
      rw [h1, w]
      omega
    refine ⟨e1, fun g => ?_⟩
    have := ((ix_sk hc hq hs (k + 1) (by omega)).2 g).1
    omega
/-- behind the head: the arguments -/
theorem hd_sk {xs : List Nd} (hc : Cpl xs) {p a : Nat} (ha : ApS xs p a) (hk : (gN xs (p + a)).1 < 4) : ∃ ρ, sk xs (p + a + 1) = rp a (dpS xs p) ρ ∧ (1 ≤ a → p + a + 1 < xs.length) := by
  obtain ⟨d, σ, e1, e2, e3, e4⟩ := sk_ok hc (i := p) (by have := ha.1; omega)
  have h1 := ap_sk hc e2 a ha.1 ha.2.1
  rw [rp_s] at h1
  have h2 := sk_s hc ha.1 h1
  rw [if_pos hk] at h2
  rw [e3]
  refine ⟨σ, h2, fun g => ?_⟩
  apply Classical.byContradiction
  intro q
  have := ha.1
  rw [show p + a + 1 = xs.length by omega, sk_end hc] at h2
  obtain ⟨b, hb⟩ : ∃ b, a = b + 1 := ⟨a - 1, by omega⟩
  rw [hb, rp_s] at h2
  exact absurd h2 (by simp)
theorem ptB_in {xs : List Nd} (hc : Cpl xs) {np ni p a : Nat} (ha : ApS xs p a) (hk : (gN xs (p + a)).1 = 1) (e : a = np + ni) : ∀ k, k ≤ np → (∀ j, j < k → (gN xs (p + a + 1 + j)).1 = 0) → k < np → p + a + 1 + k < xs.length := by
  intro k h1 h2 h3
  obtain ⟨ρ, g1, g2⟩ := hd_sk hc ha (by omega)
  exact (pv_in hc (g2 (by omega)) g1 k (by omega) h2).2 (by omega)
theorem ptB_spn {xs : List Nd} (hc : Cpl xs) {nu v : Int} {np ni p a : Nat} (ha : ApS xs p a) (h : ptB xs nu np ni p a v = true) : Spn xs p np ni (p + (np + ni) + 1 + np) ∧ a = np + ni ∧ p + (np + ni) + 1 + np ≤ ixS xs (p + (np + ni) + 1 + np) ni := by
  unfold ptB at h
  simp only [Bool.and_eq_true, decide_eq_true_eq] at h
  obtain ⟨e, hk, hu, hv⟩ := h
  subst e
  obtain ⟨ρ, g1, g2⟩ := hd_sk hc ha (by omega)
  have hp := fun j hj => (pvB_le hv j hj).1
  have hsp := spine hc (np + ni) p ha.1 ha.2.1
  have e1 : ixS xs (p + (np + ni)) (np + ni + 1) = ixS xs (p + (np + ni) + 1) (np + ni) := by
    have w := (WF_S hc _ ha.1).2.2.1 (by show (gN xs (p + (np + ni))).1 < 4; omega)
    rw [show np + ni + 1 = 1 + (np + ni) by omega, ixS_add]
    simp only [ixS]
    rw [w]
  rw [e1] at hsp
  refine ⟨⟨rfl, fun j hj => ?_, ?_⟩, rfl, ixS_le _ _ _⟩
  · have hq := g2 (by omega)
    have h1 := (pv_in hc hq g1 np (by omega) hp).1
    have h2 := (ix_sk hc hq g1 (np + j) (by omega)).2 (by omega)
    rw [ixS_add, h1] at h2
    exact h2
  · by_cases z : np + ni = 0
    · obtain ⟨rfl, rfl⟩ : np = 0 ∧ ni = 0 := by omega
      exact hsp
    · have hq := g2 (by omega)
      have h1 := (pv_in hc hq g1 np (by omega) hp).1
      rw [ixS_add, h1] at hsp
      exact hsp
theorem isPB_S {t : Tm} {xs : List Nd} (h : TmS t xs) (hc : Cpl xs) {nu v : Int} {np ni p a : Nat} (ha : ApS xs p a) : isPB t nu (np : Nat) (ni : Nat) (p : Nat) a v = ptB xs nu np ni p a v := by
  have hl := ha.1
  unfold isPB ptB
  rw [show ((p : Nat) : Int) + (a : Int) = ((p + a : Nat) : Int) by omega, kAt_S h hl, uAt_S h hl, Int.toNat_natCast]
  by_cases e : a = np + ni
  · rw [show decide ((a : Int) = (np : Int) + (ni : Int)) = decide (a = np + ni) from by simp only [decide_eq_decide]; omega]
    by_cases hk : (gN xs (p + a)).1 = 1
    · congr 3
      rw [show ((p + a : Nat) : Int) + 1 = ((p + a + 1 : Nat) : Int) by omega]
      have key : ∀ n, n ≤ np → prmB t ((p + a + 1 : Nat) : Int) v n = pvB xs (p + a + 1) v n := by
        intro n
        induction n with
        | zero => intro _; rfl
        | succ n ih =>
          intro hn
          simp only [prmB, pvB]
          rw [ih (by omega)]
          cases hb : pvB xs (p + a + 1) v n with
          | false => rfl
          | true =>
            have hin := ptB_in hc ha hk e n (by omega) (fun j hj => (pvB_le hb j hj).1) (by omega)
            rw [show ((p + a + 1 : Nat) : Int) + (n : Int) = ((p + a + 1 + n : Nat) : Int) by omega, kAt_S h hin, uAt_S h hin]
      exact key np (Nat.le_refl _)
    · simp [hk]
  · rw [show decide ((a : Int) = (np : Int) + (ni : Int)) = false from by simp only [decide_eq_false_iff_not]; omega, show decide (a = np + ni) = false from by simp only [decide_eq_false_iff_not]; omega]
    rfl
/-! THE DATA OF A TOLD TERM, by its list; the class's lists over it -/
def tmO (xs : List Nd) : Tm := (xs.length, fun i => (gN xs i).1, fun i => (gN xs i).2.1, fun i => (gN xs i).2.2, fun i => (lnS xs i : Nat))
theorem tmO_S (xs : List Nd) : TmS (tmO xs) xs := ⟨rfl, fun _ _ => ⟨rfl, rfl, rfl, rfl⟩⟩
def nA (xs : List Nd) (i : Nat) : Nat := allN (tmO xs) 1000 (i : Nat)
def ft (xs : List Nd) (i : Nat) : Nat := unS xs i (nA xs i)
def nP (xs : List Nd) (p : Nat) : Nat := appN (tmO xs) 1000 (p : Nat)
section DAT
variable {xs : List Nd} {t : Tm}
theorem nA_ok (hc : Cpl xs) (hn : xs.length ≤ 1000) {i : Nat} (hi : i < xs.length) : AlS xs i (nA xs i) ∧ i + 2 * nA xs i ≤ ft xs i ∧ ft xs i < xs.length := by
  obtain ⟨n, h1, h2⟩ := AlS_ex hc _ i (Nat.le_refl _) hi
  have h3 := (Bds_ok hc h1.1 n (Nat.le_refl _)).1
  have e : nA xs i = n := allN_S (tmO_S xs) hc n 1000 i h1 (by omega)
  unfold ft
  rw [e]
  exact ⟨h1, h2, h3⟩
theorem nP_ok (hc : Cpl xs) (hn : xs.length ≤ 1000) {p : Nat} (hp : p < xs.length) : ApS xs p (nP xs p) := by
  obtain ⟨a, h1⟩ := ApS_ex hc _ p (Nat.le_refl _) hp
  have e : nP xs p = a := appN_S (tmO_S xs) a 1000 p h1 (by have := h1.1; omega)
  rw [e]
  exact h1
theorem nA_t (h : TmS t xs) (hc : Cpl xs) (hn : xs.length ≤ 1000) {i : Nat} (hi : i < xs.length) : allN t 1000 (i : Nat) = nA xs i := by
  have h1 := nA_ok hc hn hi
  exact allN_S h hc _ 1000 i h1.1 (by have := h1.2; omega)
theorem nP_t (h : TmS t xs) (hc : Cpl xs) (hn : xs.length ≤ 1000) {p : Nat} (hp : p < xs.length) : appN t 1000 (p : Nat) = nP xs p := by
  have h1 := nP_ok hc hn hp
  exact appN_S h _ 1000 p h1 (by have := h1.1; omega)
theorem ft_t (h : TmS t xs) (hc : Cpl xs) (hn : xs.length ≤ 1000) {i : Nat} (hi : i < xs.length) : shF t (i : Nat) = (ft xs i : Nat) := by
  unfold shF ft
  rw [nA_t h hc hn hi]
  exact beR_S h hc (nA_ok hc hn hi).1.1 _ (Nat.le_refl _)
theorem sA_t (h : TmS t xs) (hc : Cpl xs) (hn : xs.length ≤ 1000) {i : Nat} (hi : i < xs.length) : shA t (i : Nat) = nP xs (ft xs i) := by
  unfold shA
  rw [ft_t h hc hn hi]
  exact nP_t h hc hn (nA_ok hc hn hi).2.2
/-- the j-th argument's root; whether it is recursive -/
def rtS (xs : List Nd) (np j : Nat) : Nat := unS xs (unS xs 0 np) j + 1
def rcS (xs : List Nd) (nu : Int) (np ni j : Nat) : Bool := ptB xs nu np ni (ft xs (rtS xs np j)) (nP xs (ft xs (rtS xs np j))) (((np + j : Nat) : Int) + (nA xs (rtS xs np j) : Nat) - 1)
def cdS (xs : List Nd) (nu : Int) (np ni n : Nat) : CD := (xs, n, rcS xs nu np ni, fun j => nA xs (rtS xs np j), fun j => ft xs (rtS xs np j) + (np + ni) + 1 + np, unS xs 0 np, ft xs 0 + (np + ni) + 1 + np)
/-- a told list: np parameters, n arguments, what it makes is the family nu put to the parameters -/
def Told (xs : List Nd) (nu : Int) (np ni n : Nat) : Prop := Cpl xs ∧ xs.length ≤ 1000 ∧ 1 ≤ xs.length ∧ Gd xs ∧ Cls xs ∧ nA xs 0 = np + n ∧ ptB xs nu np ni (ft xs 0) (nP xs (ft xs 0)) (((np + n : Nat) : Int) - 1) = true
theorem Bds_sub (hc : Cpl xs) {i m n : Nat} (h : Bds xs i (m + n)) : Bds xs i m ∧ Bds xs (unS xs i m) n := ⟨⟨h.1, fun y hy => h.2 y (by omega)⟩, ⟨(Bds_ok hc h m (by omega)).1, fun y hy => by rw [← unS_add]; exact h.2 _ (by omega)⟩⟩
theorem dp_0 : dpS xs 0 = 0 := by unfold dpS sk; simp [rn]
section TLD
variable {nu : Int} {np ni n : Nat} (hT : Told xs nu np ni n)
theorem Told.b (hT : Told xs nu np ni n) : Bds xs 0 (np + n) := by
  have := (nA_ok hT.1 hT.2.1 (i := 0) (by have := hT.2.2.1; omega)).1.1
  rw [hT.2.2.2.2.2.1] at this
  exact this
theorem Told.r (hT : Told xs nu np ni n) {j : Nat} (hj : j < n) : rtS xs np j < xs.length ∧ dpS xs (rtS xs np j) = ((np + j : Nat) : Int) ∧ unS xs 0 (np + j) + 1 = rtS xs np j := by
  have h := (Bds_ok hT.1 hT.b (np + j) (by omega)).2.2 (by omega)
  have e : unS xs 0 (np + j) + 1 = rtS xs np j := by unfold rtS; rw [unS_add]
  rw [e, dp_0] at h
  exact ⟨h.1, by rw [h.2]; omega, e⟩
theorem Told.f (hT : Told xs nu np ni n) : ft xs 0 = unS xs (unS xs 0 np) n := by
  unfold ft
  rw [hT.2.2.2.2.2.1, unS_add]
theorem Told.ok (hT : Told xs nu np ni n) : CDok np ni (cdS xs nu np ni n) := by
  obtain ⟨hc, hl, h1, hg, hcl, hn, hp⟩ := id hT
  have hb := Bds_sub hc hT.b
  have hf0 := nA_ok hc hl (i := 0) (by omega)
  refine ⟨hc, hg, hcl, ⟨hb.2, ?_, fun j hj hr => ?_⟩, ?_⟩
  · have := (Bds_ok hc hT.b np (by omega)).2.1
    rw [dp_0] at this
    exact this.trans (by omega)
  · have r1 := hT.r hj
    have a1 := nA_ok hc hl r1.1
    exact ⟨a1.1.1, (ptB_spn hc (nP_ok hc hl a1.2.2) hr).1⟩
  · have := (ptB_spn hc (nP_ok hc hl hf0.2.2) hp).1
    show Spn xs (unS xs (unS xs 0 np) n) np ni (ft xs 0 + (np + ni) + 1 + np)
    rw [← hT.f]
    exact this
end TLD
section CLS
variable {nu : Int} {np ni n : Nat}
theorem rPos_S (h : TmS t xs) (hT : Told xs nu np ni n) {j : Nat} (hj : j ≤ n) : beR t (beh t ((np : Nat) : Int).toNat) j = (unS xs (unS xs 0 np) j : Nat) := by
  have hb := Bds_sub hT.1 hT.b
  rw [Int.toNat_natCast, beh_R, show beR t 0 np = ((unS xs 0 np : Nat) : Int) from beR_S h hT.1 hT.b np (by omega)]
  exact beR_S h hT.1 hb.2 j hj
theorem rPos_T (h : TmS t xs) (hT : Told xs nu np ni n) {j : Nat} (hj : j < n) : rPos t (np : Nat) j = (rtS xs np j : Nat) := by
  unfold rPos rtS
  rw [rPos_S h hT (by omega)]
  omega
theorem isR_T (h : TmS t xs) (hT : Told xs nu np ni n) {j : Nat} (hj : j < n) : isR t nu (np : Nat) (ni : Nat) (np : Nat) j = rcS xs nu np ni j := by
  have r1 := hT.r hj
  have a1 := nA_ok hT.1 hT.2.1 r1.1
  unfold isR rcS
  rw [rPos_T h hT hj, nA_t h hT.1 hT.2.1 r1.1, show beR t ((rtS xs np j : Nat) : Int) (nA xs (rtS xs np j)) = (ft xs (rtS xs np j) : Nat) from beR_S h hT.1 a1.1.1 _ (Nat.le_refl _), nP_t h hT.1 hT.2.1 a1.2.2, isPB_S h hT.1 (nP_ok hT.1 hT.2.1 a1.2.2)]
  congr 1
theorem rcN_T (h : TmS t xs) (hT : Told xs nu np ni n) : ∀ j, j ≤ n → rcN t nu (np : Nat) (ni : Nat) (np : Nat) j = cnB (rcS xs nu np ni) j
  | 0, _ => rfl
  | j + 1, hj => by
    simp only [rcN, cnB]
    rw [rcN_T h hT j (by omega), isR_T h hT (by omega)]
theorem l0_T (h : TmS t xs) (hT : Told xs nu np ni n) {j : Nat} (hj : j < n) (hr : rcS xs nu np ni j = true) : l0F t (rPos t (np : Nat) j) (np : Nat) = ((ft xs (rtS xs np j) + (np + ni) + 1 + np : Nat) : Int) ∧ lnF t (rPos t (np : Nat) j) (np : Nat) = ixS xs (ft xs (rtS xs np j) + (np + ni) + 1 + np) ni - (ft xs (rtS xs np j) + (np + ni) + 1 + np) ∧ shF t (rPos t (np : Nat) j) + dAt t (shF t (rPos t (np : Nat) j)) = ((ixS xs (ft xs (rtS xs np j) + (np + ni) + 1 + np) ni : Nat) : Int) := by
  have r1 := hT.r hj
  have a1 := nA_ok hT.1 hT.2.1 r1.1
  obtain ⟨s1, s2, s3⟩ := ptB_spn hT.1 (nP_ok hT.1 hT.2.1 a1.2.2) hr
  have e0 : shF t (rPos t (np : Nat) j) = (ft xs (rtS xs np j) : Nat) := by rw [rPos_T h hT hj]; exact ft_t h hT.1 hT.2.1 r1.1
  have e1 : l0F t (rPos t (np : Nat) j) (np : Nat) = ((ft xs (rtS xs np j) + (np + ni) + 1 + np : Nat) : Int) := by
    unfold l0F
    rw [e0, rPos_T h hT hj, sA_t h hT.1 hT.2.1 r1.1, s2]
    omega
  have e2 : shF t (rPos t (np : Nat) j) + dAt t (shF t (rPos t (np : Nat) j)) = ((ixS xs (ft xs (rtS xs np j) + (np + ni) + 1 + np) ni : Nat) : Int) := by
    rw [e0, dAt_S h a1.2.2, s1.2.2]
    omega
  refine ⟨e1, ?_, e2⟩
  unfold lnF
  rw [e1, e2]
  omega
theorem l0_0 (h : TmS t xs) (hT : Told xs nu np ni n) : l0F t 0 (np : Nat) = ((ft xs 0 + (np + ni) + 1 + np : Nat) : Int) ∧ lnF t 0 (np : Nat) = ixS xs (ft xs 0 + (np + ni) + 1 + np) ni - (ft xs 0 + (np + ni) + 1 + np) ∧ shF t 0 + dAt t (shF t 0) = ((ixS xs (ft xs 0 + (np + ni) + 1 + np) ni : Nat) : Int) := by
  have r1 : 0 < xs.length := by have := hT.2.2.1; omega
  have a1 := nA_ok hT.1 hT.2.1 r1
  obtain ⟨s1, s2, s3⟩ := ptB_spn hT.1 (nP_ok hT.1 hT.2.1 a1.2.2) hT.2.2.2.2.2.2
  have e0 : shF t 0 = (ft xs 0 : Nat) := ft_t h hT.1 hT.2.1 r1
  have e3 : shA t 0 = nP xs (ft xs 0) := sA_t h hT.1 hT.2.1 r1
  have e1 : l0F t 0 (np : Nat) = ((ft xs 0 + (np + ni) + 1 + np : Nat) : Int) := by
    unfold l0F
    rw [e0, e3, s2]
    omega
  have e2 : shF t 0 + dAt t (shF t 0) = ((ixS xs (ft xs 0 + (np + ni) + 1 + np) ni : Nat) : Int) := by
    rw [e0, dAt_S h a1.2.2, s1.2.2]
    omega
  refine ⟨e1, ?_, e2⟩
  unfold lnF
  rw [e1, e2]
  omega
theorem bcL_T (h : TmS t xs) (hT : Told xs nu np ni n) {δ : Nat → Int} (hδ : ∀ j : Nat, j < xs.length → dgt δ (j : Nat) = dpS xs j) {rank : Int} : ∀ j, j ≤ n → bcL t δ nu (np : Nat) (ni : Nat) (np : Nat) rank n j = bcC xs (rcS xs nu np ni) (fun j => nA xs (rtS xs np j)) (fun j => ft xs (rtS xs np j) + (np + ni) + 1 + np) np ni rank n (unS xs 0 np) j
  | 0, _ => rfl
  | j + 1, hj => by
    simp only [bcL, bcC]
    rw [bcL_T h hT hδ j (by omega), isR_T h hT (by omega), rcN_T h hT j (by omega)]
    congr 1
    by_cases q : rcS xs nu np ni j = true
    · rw [if_pos q, if_pos q]
      have r1 := hT.r (j := j) (by omega)
      have a1 := nA_ok hT.1 hT.2.1 r1.1
      obtain ⟨s1, s2, s3⟩ := ptB_spn hT.1 (nP_ok hT.1 hT.2.1 a1.2.2) q
      obtain ⟨l1, l2, l3⟩ := l0_T h hT (j := j) (by omega) q
      congr 1
      rw [l1, l2, rPos_T h hT (by omega), nA_t h hT.1 hT.2.1 r1.1]
      rw [brL_S h hT.1 hδ a1.1.1 s1 s3]
      congr 1
    · rw [if_neg q, if_neg q]
theorem caL_T (h : TmS t xs) (hT : Told xs nu np ni n) {δ : Nat → Int} (hδ : ∀ j : Nat, j < xs.length → dgt δ (j : Nat) = dpS xs j) {rank nc : Int} : caL t δ nu (np : Nat) (ni : Nat) nc (np : Nat) rank n = paC xs (rcS xs nu np ni) (fun j => nA xs (rtS xs np j)) (fun j => ft xs (rtS xs np j) + (np + ni) + 1 + np) np ni rank n (unS xs 0 np) (ft xs 0 + (np + ni) + 1 + np) nc := by
  have hb := Bds_sub hT.1 hT.b
  have r1 : 0 < xs.length := by have := hT.2.2.1; omega
  have a1 := nA_ok hT.1 hT.2.1 r1
  obtain ⟨s1, s2, s3⟩ := ptB_spn hT.1 (nP_ok hT.1 hT.2.1 a1.2.2) hT.2.2.2.2.2.2
  obtain ⟨l1, l2, l3⟩ := l0_0 h hT
  have l5 := lnS_ok hT.1 a1.2.2
  have e0 : beh t ((np : Nat) : Int).toNat = ((unS xs 0 np : Nat) : Int) := rPos_S h hT (j := 0) (by omega)
  unfold caL paC
  rw [bcL_T h hT hδ n (Nat.le_refl _), rcN_T h hT n (Nat.le_refl _), l1, l2, e0, alL_S h hT.1 hδ hb.2 n (Nat.le_refl _), cpL_S h hδ _ (by have := s1.2.2; omega), glL_S, show ((ni : Int) + 1).toNat = ni + 1 by omega]
  congr 1
end CLS
end DAT
