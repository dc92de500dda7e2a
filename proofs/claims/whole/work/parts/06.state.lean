/-! A TERM of the class: length, kinds, numbers, sorts, nodes; how it lies in the heap; its reads -/
abbrev Tm : Type := Nat × (Nat → Int) × (Nat → Int) × (Nat → Int) × (Nat → Int)
abbrev Sm (z : Int) : Prop := -100000000 ≤ z ∧ z ≤ 100000000
def TermAt (V : mv_V) (M : mv_M) (h : Nat) (t : Tm) : Prop := ∃ a0 a1 a2 a3 : Nat, M h = some (.inr (0, [.ref a0, .ref a1, .ref a2, .ref a3])) ∧ M a0 = some (iA V t.1 t.2.1) ∧ M a1 = some (iA V t.1 t.2.2.1) ∧ M a2 = some (iA V t.1 t.2.2.2.1) ∧ M a3 = some (iA V t.1 t.2.2.2.2)
def Tok (t : Tm) : Prop := 1 ≤ t.1 ∧ t.1 ≤ 1000 ∧ (∀ j, 0 ≤ t.2.1 j ∧ t.2.1 j ≤ 6) ∧ (∀ j, -1 ≤ t.2.2.1 j ∧ t.2.2.1 j ≤ 1000000) ∧ (∀ j, 0 ≤ t.2.2.2.1 j ∧ t.2.2.2.1 j ≤ 100) ∧ (∀ j, 0 ≤ t.2.2.2.2 j ∧ t.2.2.2.2 j ≤ 1000)
theorem Tok_k {t : Tm} (h : Tok t) : ∀ j, R32 (t.2.1 j) := fun j => by have := h.2.2.1 j; omega
theorem Tok_u {t : Tm} (h : Tok t) : ∀ j, R32 (t.2.2.1 j) := fun j => by have := h.2.2.2.1 j; omega
theorem Tok_s {t : Tm} (h : Tok t) : ∀ j, R32 (t.2.2.2.1 j) := fun j => by have := h.2.2.2.2.1 j; omega
theorem Tok_d {t : Tm} (h : Tok t) : ∀ j, R32 (t.2.2.2.2 j) := fun j => by have := h.2.2.2.2.2 j; omega
def kAt (t : Tm) (i : Int) : Int := if 0 ≤ i ∧ i < t.1 then t.2.1 i.toNat else -1
def uAt (t : Tm) (i : Int) : Int := if 0 ≤ i ∧ i < t.1 then t.2.2.1 i.toNat else -1
def sAt (t : Tm) (i : Int) : Int := if 0 ≤ i ∧ i < t.1 then t.2.2.2.1 i.toNat else -1
def dAt (t : Tm) (i : Int) : Int := if 0 ≤ i ∧ i < t.1 then t.2.2.2.2 i.toNat else 0
def scd (t : Tm) (i : Int) : Int := i + 1 + dAt t (i + 1)
def beh (t : Tm) : Nat → Int
  | 0 => 0
  | n + 1 => scd t (beh t n)
/-- how often the family g stands in the places b, b + 1, .. of which there are n -/
def cntF (t : Tm) (g b : Int) : Nat → Int
  | 0 => 0
  | n + 1 => cntF t g b n + (if (kAt t (b + n) = 1 ∨ kAt t (b + n) = 3) ∧ uAt t (b + n) = g then 1 else 0)
theorem kAt_r {t : Tm} (h : Tok t) (i : Int) : -1 ≤ kAt t i ∧ kAt t i ≤ 6 := by
  unfold kAt
  split
  · have := h.2.2.1 i.toNat; omega
  · omega
theorem uAt_r {t : Tm} (h : Tok t) (i : Int) : -1 ≤ uAt t i ∧ uAt t i ≤ 1000000 := by
  unfold uAt
  split
  · have := h.2.2.2.1 i.toNat; omega
  · omega
theorem sAt_r {t : Tm} (h : Tok t) (i : Int) : -1 ≤ sAt t i ∧ sAt t i ≤ 100 := by
  unfold sAt
  split
  · have := h.2.2.2.2.1 i.toNat; omega
  · omega
theorem dAt_r {t : Tm} (h : Tok t) (i : Int) : 0 ≤ dAt t i ∧ dAt t i ≤ 1000 := by
  unfold dAt
  split
  · have := h.2.2.2.2.2 i.toNat; omega
  · omega
theorem scd_r {t : Tm} (h : Tok t) (i : Int) : i + 1 ≤ scd t i ∧ scd t i ≤ i + 1001 := by
  have := dAt_r h (i + 1)
  unfold scd
  omega
theorem beh_r {t : Tm} (h : Tok t) : ∀ n : Nat, (n : Int) ≤ beh t n ∧ beh t n ≤ 1001 * n
  | 0 => by simp [beh]
  | n + 1 => by
    have h1 := beh_r h n
    have h2 := scd_r h (beh t n)
    simp only [beh]
    omega
theorem beh_sm {t : Tm} (h : Tok t) (n : Nat) (hn : (n : Int) ≤ 10000) : Sm (beh t n) := by
  have := beh_r h n
  omega
theorem cntF_r (t : Tm) (g b : Int) : ∀ n : Nat, 0 ≤ cntF t g b n ∧ cntF t g b n ≤ n
  | 0 => by simp [cntF]
  | n + 1 => by
    have h1 := cntF_r t g b n
    simp only [cntF]
    split <;> omega
theorem cntF_sm (t : Tm) (g b : Int) (n : Nat) : 0 ≤ cntF t g b n ∧ cntF t g b n ≤ n := cntF_r t g b n
