/-! THE STATE that class and reference share: terms as lists, globals as data -/
/-- role, family, parameters, indices, rank, the told term, arguments, recursive ones -/
abbrev GD : Type := Int × Nat × Nat × Nat × Nat × Option Nat × Nat × Nat
abbrev SS : Type := Nat × (Nat → List Nd) × Nat × (Nat → GD)
def bs (X : Nat → List Nd) : Nat → Nat
  | 0 => 0
  | t + 1 => bs X t + (X t).length
def TOk (xs : List Nd) : Prop := Cpl xs ∧ 1 ≤ xs.length ∧ xs.length ≤ 1000 ∧ AOk xs
/-- a told constructor: its list, what stands of it -/
def CoT (xs : List Nd) (f np ni n rc : Nat) : Prop := Told xs (f : Nat) np ni n ∧ rc = cnB (rcS xs (f : Nat) np ni) n ∧ ∀ j, j < n → jdS xs (f : Nat) np ni (rtS xs np j) ((np + j : Nat) : Int) ≠ 0
def GOk (S : SS) (g : Nat) : Prop :=
  ((S.2.2.2 g).1 = 0 ∧ (S.2.2.2 g).2.2.1 = 0 ∧ (S.2.2.2 g).2.2.2.1 = 0 ∧ (S.2.2.2 g).2.2.2.2.1 = 0) ∨
  ((S.2.2.2 g).1 = 3 ∧ (S.2.2.2 g).2.1 = g ∧ (∃ t, (S.2.2.2 g).2.2.2.2.2.1 = some t ∧ t < S.1 ∧ Cls (S.2.1 t) ∧ nA (S.2.1 t) 0 = (S.2.2.2 g).2.2.1 + (S.2.2.2 g).2.2.2.1) ∧ (S.2.2.2 g).2.2.2.2.1 ≤ 12 ∧ g + (S.2.2.2 g).2.2.2.2.1 < S.2.2.1 ∧ ∀ i, i < (S.2.2.2 g).2.2.2.2.1 → (S.2.2.2 (g + 1 + i)).1 = 4 ∧ (S.2.2.2 (g + 1 + i)).2.1 = g ∧ (S.2.2.2 (g + 1 + i)).2.2.2.2.1 = i) ∨
  ((S.2.2.2 g).1 = 4 ∧ (S.2.2.2 g).2.1 < g ∧ (S.2.2.2 (S.2.2.2 g).2.1).1 = 3 ∧ (S.2.2.2 g).2.2.1 = (S.2.2.2 (S.2.2.2 g).2.1).2.2.1 ∧ (S.2.2.2 g).2.2.2.1 = (S.2.2.2 (S.2.2.2 g).2.1).2.2.2.1 ∧ (S.2.2.2 g).2.2.2.2.1 < (S.2.2.2 (S.2.2.2 g).2.1).2.2.2.2.1 ∧ g = (S.2.2.2 g).2.1 + 1 + (S.2.2.2 g).2.2.2.2.1 ∧
    ∀ t, (S.2.2.2 g).2.2.2.2.2.1 = some t → t < S.1 ∧ CoT (S.2.1 t) (S.2.2.2 g).2.1 (S.2.2.2 g).2.2.1 (S.2.2.2 g).2.2.2.1 (S.2.2.2 g).2.2.2.2.2.2.1 (S.2.2.2 g).2.2.2.2.2.2.2)
def Iv (S : SS) : Prop := S.1 ≤ 1500 ∧ S.2.2.1 ≤ 100 ∧ bs S.2.1 S.1 ≤ 30000 ∧ (∀ t, t < S.1 → TOk (S.2.1 t)) ∧ ∀ g, g < S.2.2.1 → GOk S g
/-- a term more, or none -/
abbrev okT (S : SS) (ys : List Nd) : Prop := ¬ (S.1 = 1500 ∨ 1000 < ys.length ∨ 30000 < bs S.2.1 S.1 + ys.length)
def aT (S : SS) (ys : List Nd) : Int := if okT S ys then (S.1 : Nat) else -1
def nT (S : SS) (ys : List Nd) : SS := if okT S ys then (S.1 + 1, va_up S.2.1 S.1 ys, S.2.2) else S
theorem bs_cg {X Y : Nat → List Nd} : ∀ {t : Nat}, (∀ u, u < t → Y u = X u) → bs Y t = bs X t
  | 0, _ => rfl
  | t + 1, h => by simp only [bs]; rw [bs_cg (fun u hu => h u (by omega)), h t (by omega)]
theorem bs_m {X : Nat → List Nd} {s t : Nat} (h : s ≤ t) : bs X s ≤ bs X t := by
  obtain ⟨k, rfl⟩ : ∃ k, t = s + k := ⟨t - s, by omega⟩
  induction k with
  | zero => exact Nat.le_refl _
  | succ k ih => exact Nat.le_trans (ih (by omega)) (by rw [← Nat.add_assoc]; simp only [bs]; omega)
theorem bs_in {X : Nat → List Nd} {s t : Nat} (h : s < t) : bs X s + (X s).length ≤ bs X t := bs_m (X := X) (s := s + 1) h
theorem GOk_T {S : SS} {ys : List Nd} {g : Nat} (h : GOk S g) : GOk (S.1 + 1, va_up S.2.1 S.1 ys, S.2.2) g := by
  have e : ∀ t, t < S.1 → va_up S.2.1 S.1 ys t = S.2.1 t := fun t ht => va_un (by omega)
  rcases h with h | ⟨h1, h2, ⟨t, t1, t2, t3, t4⟩, h4⟩ | ⟨h1, h2, h3, h4, h5, h6, h7, h8⟩
  · exact Or.inl h
  · refine Or.inr (Or.inl ⟨h1, h2, ⟨t, t1, by show t < S.1 + 1; omega, ?_, ?_⟩, h4⟩)
    · show Cls (va_up S.2.1 S.1 ys t); rw [e t t2]; exact t3
    · show nA (va_up S.2.1 S.1 ys t) 0 = _; rw [e t t2]; exact t4
  · refine Or.inr (Or.inr ⟨h1, h2, h3, h4, h5, h6, h7, fun t ht => ?_⟩)
    obtain ⟨a, b⟩ := h8 t ht
    refine ⟨by show t < S.1 + 1; omega, ?_⟩
    show CoT (va_up S.2.1 S.1 ys t) _ _ _ _ _
    rw [e t a]
    exact b
theorem Iv_T {S : SS} (h : Iv S) {ys : List Nd} (hc : Cpl ys) (h1 : 1 ≤ ys.length) (ho : AOk ys) : Iv (nT S ys) := by
  unfold nT
  by_cases q : okT S ys
  · rw [if_pos q]
    obtain ⟨a, b, c, d, e⟩ := h
    refine ⟨by show S.1 + 1 ≤ 1500; omega, b, ?_, fun t ht => ?_, fun g hg => GOk_T (e g hg)⟩
    · show bs (va_up S.2.1 S.1 ys) (S.1 + 1) ≤ 30000
      simp only [bs]
      rw [bs_cg (X := S.2.1) (fun u hu => va_un (by omega)), va_us]
      omega
    · show TOk (va_up S.2.1 S.1 ys t)
      by_cases q2 : t = S.1
      · subst q2; rw [va_us]; exact ⟨hc, h1, by omega, ho⟩
      · rw [va_un q2]; exact d t (by have : t < S.1 + 1 := ht; omega)
  · rw [if_neg q]; exact h
/-- an axiom more -/
def nAx (S : SS) : SS := if S.2.2.1 = 100 then S else (S.1, S.2.1, S.2.2.1 + 1, va_up S.2.2.2 S.2.2.1 (0, S.2.2.1, 0, 0, 0, none, 0, 0))
def aAx (S : SS) : Int := if S.2.2.1 = 100 then -1 else (S.2.2.1 : Nat)
theorem GOk_G {S : SS} {gn' : Nat} {G' : Nat → GD} {g : Nat} (hg : g < S.2.2.1) (hn : S.2.2.1 ≤ gn') (e : ∀ x, x < S.2.2.1 → G' x = S.2.2.2 x) (h : GOk S g) : GOk (S.1, S.2.1, gn', G') g := by
  unfold GOk at h ⊢
  simp only
  rw [e g hg]
  rcases h with h | ⟨h1, h2, h3, h4, h5, h6⟩ | ⟨h1, h2, h3, h4, h5, h6, h7, h8⟩
  · exact Or.inl h
  · refine Or.inr (Or.inl ⟨h1, h2, h3, h4, by omega, fun i hi => ?_⟩)
    rw [e _ (by omega)]
    exact h6 i hi
  · refine Or.inr (Or.inr ⟨h1, h2, ?_⟩)
    rw [e _ (by omega)]
    exact ⟨h3, h4, h5, h6, h7, h8⟩
theorem Iv_Ax {S : SS} (h : Iv S) : Iv (nAx S) := by
  unfold nAx
  by_cases q : S.2.2.1 = 100
  · rw [if_pos q]; exact h
  · rw [if_neg q]
    obtain ⟨a, b, c, d, e⟩ := h
    refine ⟨a, by show S.2.2.1 + 1 ≤ 100; omega, c, d, fun g hg => ?_⟩
    by_cases q2 : g = S.2.2.1
    · subst q2
      refine Or.inl ?_
      show (va_up S.2.2.2 S.2.2.1 _ S.2.2.1).1 = 0 ∧ _
      simp only [va_us, and_self]
    · have hg' : g < S.2.2.1 + 1 := hg
      exact GOk_G (by omega) (by omega) (fun x hx => va_un (by omega)) (e g (by omega))
/-- a family more, with its constructors -/
def clsB (xs : List Nd) : Bool := clB (tmO xs) (fun i => dpS xs i) xs.length
theorem clsB_i {xs : List Nd} (hn : xs.length ≤ 1000) : clsB xs = true ↔ Cls xs := clB_S (tmO_S xs) (fun j hj => dgt_in (by omega)) _ (Nat.le_refl _)
abbrev okF (S : SS) (t p k : Int) : Prop := 0 ≤ t ∧ t < (S.1 : Nat) ∧ clsB (S.2.1 t.toNat) = true ∧ 0 ≤ p ∧ 0 ≤ k ∧ k ≤ 12 ∧ ((S.2.2.1 : Nat) : Int) + 1 + k ≤ 100 ∧ (gN (S.2.1 t.toNat) (ft (S.2.1 t.toNat) 0)).1 = 2 ∧ p ≤ (nA (S.2.1 t.toNat) 0 : Nat)
def fmG (S : SS) (t p k : Int) : Nat → GD := fun x => if x = S.2.2.1 then (3, S.2.2.1, p.toNat, nA (S.2.1 t.toNat) 0 - p.toNat, k.toNat, some t.toNat, 0, 0) else if S.2.2.1 < x ∧ x ≤ S.2.2.1 + k.toNat then (4, S.2.2.1, p.toNat, nA (S.2.1 t.toNat) 0 - p.toNat, x - S.2.2.1 - 1, none, 0, 0) else S.2.2.2 x
def nFm (S : SS) (t p k : Int) : SS := if okF S t p k then (S.1, S.2.1, S.2.2.1 + 1 + k.toNat, fmG S t p k) else S
def aFm (S : SS) (t p k : Int) : Int := if okF S t p k then (S.2.2.1 : Nat) else -1
theorem Iv_Fm {S : SS} (h : Iv S) (t p k : Int) : Iv (nFm S t p k) := by
  unfold nFm
  by_cases q : okF S t p k
  · rw [if_pos q]
    obtain ⟨a, b, c, d, e⟩ := h
    obtain ⟨q1, q2, q3, q4, q5, q6, q7, q8, q9⟩ := q
    have ht := d t.toNat (by omega)
    have eL : ∀ x, x < S.2.2.1 → fmG S t p k x = S.2.2.2 x := fun x hx => by unfold fmG; rw [if_neg (by omega), if_neg (by omega)]
    have eF : fmG S t p k S.2.2.1 = (3, S.2.2.1, p.toNat, nA (S.2.1 t.toNat) 0 - p.toNat, k.toNat, some t.toNat, 0, 0) := by unfold fmG; rw [if_pos rfl]
    have eC : ∀ i, i < k.toNat → fmG S t p k (S.2.2.1 + 1 + i) = (4, S.2.2.1, p.toNat, nA (S.2.1 t.toNat) 0 - p.toNat, i, none, 0, 0) := fun i hi => by unfold fmG; rw [if_neg (by omega), if_pos (by omega), show S.2.2.1 + 1 + i - S.2.2.1 - 1 = i by omega]
    refine ⟨a, by show S.2.2.1 + 1 + k.toNat ≤ 100; omega, c, d, fun g hg => ?_⟩
    have hg' : g < S.2.2.1 + 1 + k.toNat := hg
    by_cases g1 : g < S.2.2.1
    · exact GOk_G g1 (by omega) eL (e g g1)
    · by_cases g2 : g = S.2.2.1
      · subst g2
        refine Or.inr (Or.inl ?_)
        show (fmG S t p k S.2.2.1).1 = 3 ∧ (fmG S t p k S.2.2.1).2.1 = S.2.2.1 ∧ (∃ u, (fmG S t p k S.2.2.1).2.2.2.2.2.1 = some u ∧ u < S.1 ∧ Cls (S.2.1 u) ∧ nA (S.2.1 u) 0 = (fmG S t p k S.2.2.1).2.2.1 + (fmG S t p k S.2.2.1).2.2.2.1) ∧ (fmG S t p k S.2.2.1).2.2.2.2.1 ≤ 12 ∧ S.2.2.1 + (fmG S t p k S.2.2.1).2.2.2.2.1 < S.2.2.1 + 1 + k.toNat ∧ ∀ i, i < (fmG S t p k S.2.2.1).2.2.2.2.1 → (fmG S t p k (S.2.2.1 + 1 + i)).1 = 4 ∧ (fmG S t p k (S.2.2.1 + 1 + i)).2.1 = S.2.2.1 ∧ (fmG S t p k (S.2.2.1 + 1 + i)).2.2.2.2.1 = i
        rw [eF]
        refine ⟨rfl, rfl, ⟨t.toNat, rfl, by omega, (clsB_i ht.2.2.1).mp q3, by show _ = p.toNat + (nA (S.2.1 t.toNat) 0 - p.toNat); omega⟩, by show k.toNat ≤ 12; omega, by show S.2.2.1 + k.toNat < _; omega, fun i hi => ?_⟩
        rw [eC i hi]
        exact ⟨rfl, rfl, rfl⟩
      · obtain ⟨i, hi, rfl⟩ : ∃ i, i < k.toNat ∧ g = S.2.2.1 + 1 + i := ⟨g - S.2.2.1 - 1, by omega, by omega⟩
        refine Or.inr (Or.inr ?_)
        unfold GOk at *
        simp only
        rw [eC i hi]
        simp only
        rw [eF]
        exact ⟨trivial, by omega, rfl, rfl, rfl, hi, trivial, fun t ht => by simp at ht⟩
  · rw [if_neg q]; exact h
/-! telling a constructor -/
def fbN (p : Nat → Bool) : Nat → Option Nat
  | 0 => none
  | n + 1 => match fbN p n with
    | some j => some j
    | none => if p n = true then some n else none
theorem fbN_n {p : Nat → Bool} : ∀ {n : Nat}, fbN p n = none ↔ ∀ i, i < n → p i = false
  | 0 => ⟨fun _ i hi => absurd hi (by omega), fun _ => rfl⟩
  | n + 1 => by
    have ih := fbN_n (p := p) (n := n)
    simp only [fbN]
    cases h : fbN p n with
    | some j =>
      simp only
      constructor
      · intro q; exact absurd q (by simp)
      · intro q
        have := ih.mpr (fun i hi => q i (by omega))
        rw [h] at this
        exact absurd this (by simp)
    | none =>
      simp only
      have h' := ih.mp h
      by_cases q : p n = true
      · rw [if_pos q]
        constructor
        · intro g; exact absurd g (by simp)
        · intro g; rw [g n (by omega)] at q; exact absurd q (by simp)
      · rw [if_neg q]
        refine ⟨fun _ i hi => ?_, fun _ => rfl⟩
        by_cases e : i = n
        · subst e; exact Bool.eq_false_iff.mpr q
        · exact h' i (by omega)
theorem fbN_s {p : Nat → Bool} {n j : Nat} (hj : j < n) (h1 : p j = true) (h2 : ∀ i, i < j → p i = false) : fbN p n = some j := by
  induction n with
  | zero => omega
  | succ n ih =>
    simp only [fbN]
    by_cases e : j = n
    · subst e
      rw [fbN_n.mpr h2]
      simp only
      rw [if_pos h1]
    · rw [ih (by omega)]
theorem jd_rc {xs : List Nd} {nu : Int} {np ni n : Nat} (hT : Told xs nu np ni n) {j : Nat} (hj : j < n) (h0 : jdS xs nu np ni (rtS xs np j) ((np + j : Nat) : Int) ≠ 0) : jdS xs nu np ni (rtS xs np j) ((np + j : Nat) : Int) = 2 ↔ rcS xs nu np ni j = true := by
  have r1 := hT.r hj
  obtain ⟨a1, a2, a3⟩ := nA_ok hT.1 hT.2.1 r1.1
  have ap := nP_ok hT.1 hT.2.1 a3
  unfold jdS at h0 ⊢
  unfold rcS
  by_cases q : cnS xs nu (rtS xs np j) (lnS xs (rtS xs np j)) = 0
  · rw [if_pos q]
    constructor
    · intro g; exact absurd g (by omega)
    · intro g
      have := cnS_rec hT.1 a1 ap g
      omega
  · rw [if_neg q] at h0 ⊢
    by_cases q2 : cnS xs nu (rtS xs np j) (lnS xs (rtS xs np j)) = 1 ∧ ptB xs nu np ni (ft xs (rtS xs np j)) (nP xs (ft xs (rtS xs np j))) (((np + j : Nat) : Int) + (nA xs (rtS xs np j) : Nat) - 1) = true
    · rw [if_pos q2]
      exact ⟨fun _ => q2.2, fun _ => rfl⟩
    · rw [if_neg q2] at h0
      exact absurd rfl h0
abbrev okC (S : SS) (g t : Int) : Prop := 0 ≤ g ∧ g < (S.2.2.1 : Nat) ∧ (S.2.2.2 g.toNat).1 = 4 ∧ (S.2.2.2 g.toNat).2.2.2.2.2.1 = none ∧ 0 ≤ t ∧ t < (S.1 : Nat) ∧ clsB (S.2.1 t.toNat) = true ∧ (S.2.2.2 g.toNat).2.2.1 ≤ nA (S.2.1 t.toNat) 0 ∧ ptB (S.2.1 t.toNat) (((S.2.2.2 g.toNat).2.1 : Nat) : Int) (S.2.2.2 g.toNat).2.2.1 (S.2.2.2 g.toNat).2.2.2.1 (ft (S.2.1 t.toNat) 0) (nP (S.2.1 t.toNat) (ft (S.2.1 t.toNat) 0)) ((nA (S.2.1 t.toNat) 0 : Nat) - 1) = true
def bdC (S : SS) (g t : Int) : Option Nat := fbN (fun j => decide (jdS (S.2.1 t.toNat) (((S.2.2.2 g.toNat).2.1 : Nat) : Int) (S.2.2.2 g.toNat).2.2.1 (S.2.2.2 g.toNat).2.2.2.1 (rtS (S.2.1 t.toNat) (S.2.2.2 g.toNat).2.2.1 j) (((S.2.2.2 g.toNat).2.2.1 + j : Nat) : Int) = 0)) (nA (S.2.1 t.toNat) 0 - (S.2.2.2 g.toNat).2.2.1)
def rcC (S : SS) (g t : Int) : Nat := cnB (rcS (S.2.1 t.toNat) (((S.2.2.2 g.toNat).2.1 : Nat) : Int) (S.2.2.2 g.toNat).2.2.1 (S.2.2.2 g.toNat).2.2.2.1) (nA (S.2.1 t.toNat) 0 - (S.2.2.2 g.toNat).2.2.1)
def aCo (S : SS) (g t : Int) : Int := if okC S g t then (match bdC S g t with
  | some j => -2 - (j : Nat)
  | none => (rcC S g t : Nat)) else -1
def coG (S : SS) (g t : Int) : GD := (4, (S.2.2.2 g.toNat).2.1, (S.2.2.2 g.toNat).2.2.1, (S.2.2.2 g.toNat).2.2.2.1, (S.2.2.2 g.toNat).2.2.2.2.1, some t.toNat, nA (S.2.1 t.toNat) 0 - (S.2.2.2 g.toNat).2.2.1, rcC S g t)
def nCo (S : SS) (g t : Int) : SS := if okC S g t ∧ bdC S g t = none then (S.1, S.2.1, S.2.2.1, va_up S.2.2.2 g.toNat (coG S g t)) else S
theorem okC_T {S : SS} (h : Iv S) {g t : Int} (q : okC S g t) : Told (S.2.1 t.toNat) (((S.2.2.2 g.toNat).2.1 : Nat) : Int) (S.2.2.2 g.toNat).2.2.1 (S.2.2.2 g.toNat).2.2.2.1 (nA (S.2.1 t.toNat) 0 - (S.2.2.2 g.toNat).2.2.1) := by
  obtain ⟨q1, q2, q3, q4, q5, q6, q7, q8, q9⟩ := q
  obtain ⟨t1, t2, t3, t4⟩ := h.2.2.2.1 t.toNat (by omega)
  refine ⟨t1, t3, t2, AOk_gd t4, (clsB_i t3).mp q7, by omega, ?_⟩
  rw [show (S.2.2.2 g.toNat).2.2.1 + (nA (S.2.1 t.toNat) 0 - (S.2.2.2 g.toNat).2.2.1) = nA (S.2.1 t.toNat) 0 by omega]
  exact q9
theorem Iv_Co {S : SS} (h : Iv S) (g t : Int) : Iv (nCo S g t) := by
  unfold nCo
  by_cases q : okC S g t ∧ bdC S g t = none
  · rw [if_pos q]
    have hT := okC_T h q.1
    obtain ⟨a, b, c, d, e⟩ := h
    obtain ⟨⟨q1, q2, q3, q4, q5, q6, q7, q8, q9⟩, qb⟩ := q
    have hb := fbN_n.mp qb
    refine ⟨a, b, c, d, fun x hx => ?_⟩
    have hx' : x < S.2.2.1 := hx
    have hgx := e x hx'
    have hgg := e g.toNat (by omega)
    have eN : ∀ y, y ≠ g.toNat → va_up S.2.2.2 g.toNat (coG S g t) y = S.2.2.2 y := fun y hy => va_un hy
    have e4 : ∀ y, (va_up S.2.2.2 g.toNat (coG S g t) y).1 = (S.2.2.2 y).1 ∧ (va_up S.2.2.2 g.toNat (coG S g t) y).2.1 = (S.2.2.2 y).2.1 ∧ (va_up S.2.2.2 g.toNat (coG S g t) y).2.2.1 = (S.2.2.2 y).2.2.1 ∧ (va_up S.2.2.2 g.toNat (coG S g t) y).2.2.2.1 = (S.2.2.2 y).2.2.2.1 ∧ (va_up S.2.2.2 g.toNat (coG S g t) y).2.2.2.2.1 = (S.2.2.2 y).2.2.2.2.1 := by
      intro y
      by_cases z : y = g.toNat
      · subst z
        rw [va_us]
        exact ⟨q3.symm, rfl, rfl, rfl, rfl⟩
      · rw [va_un z]; exact ⟨rfl, rfl, rfl, rfl, rfl⟩
    have f1 := fun y => (e4 y).1
    have f2 := fun y => (e4 y).2.1
    have f3 := fun y => (e4 y).2.2.1
    have f4 := fun y => (e4 y).2.2.2.1
    have f5 := fun y => (e4 y).2.2.2.2
    unfold GOk at hgx ⊢
    simp only [f1, f2, f3, f4, f5]
    rcases hgx with h1 | ⟨h1, h2, h3, h4⟩ | ⟨h1, h2, h3, h4, h5, h6, h7, h8⟩
    · exact Or.inl h1
    · refine Or.inr (Or.inl ⟨h1, h2, ?_, h4⟩)
      rw [eN x (fun z => by rw [z, q3] at h1; omega)]
      exact h3
    · refine Or.inr (Or.inr ⟨h1, h2, h3, h4, h5, h6, h7, fun u hu => ?_⟩)
      by_cases z : x = g.toNat
      · subst z
        rw [va_us] at hu ⊢
        have : t.toNat = u := Option.some.inj hu
        subst this
        refine ⟨by omega, hT, rfl, fun j hj => ?_⟩
        have := hb j hj
        simpa using this
      · rw [va_un z] at hu ⊢
        exact h8 u hu
  · rw [if_neg q]; exact h
