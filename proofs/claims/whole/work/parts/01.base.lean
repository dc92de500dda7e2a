/-! INTS BY THEIR VALUES, AND THE WORLD AS A MAP from addresses to cells -/
def iI (z : Int) : Int32 := Int32.ofInt z
abbrev R32 (z : Int) : Prop := -2147483648 ≤ z ∧ z < 2147483648
theorem iI_t {z : Int} (h : R32 z) : (iI z).toInt = z := Int32.toInt_ofInt_of_le (by omega) (by omega)
theorem iI_x (x : Int32) : iI x.toInt = x := Int32.ofInt_toInt x
theorem iI_r (x : Int32) : R32 x.toInt := ⟨by have := Int32.le_toInt x; omega, by have := Int32.toInt_lt x; omega⟩
theorem iI_add (a b : Int) : iI a + iI b = iI (a + b) := (Int32.ofInt_add a b).symm
theorem iI_sub (a b : Int) : iI a - iI b = iI (a - b) := (Int32.ofInt_sub a b).symm
theorem iI_mul (a b : Int) : iI a * iI b = iI (a * b) := (Int32.ofInt_mul a b).symm
theorem iI_neg (a : Int) : -iI a = iI (-a) := (Int32.ofInt_neg a).symm
theorem iI_lt {a b : Int} (ha : R32 a) (hb : R32 b) : iI a < iI b ↔ a < b := by rw [Int32.lt_iff_toInt_lt, iI_t ha, iI_t hb]
theorem iI_le {a b : Int} (ha : R32 a) (hb : R32 b) : iI a ≤ iI b ↔ a ≤ b := by rw [Int32.le_iff_toInt_le, iI_t ha, iI_t hb]
theorem iI_eq {a b : Int} (ha : R32 a) (hb : R32 b) : iI a = iI b ↔ a = b := by rw [← Int32.toInt_inj, iI_t ha, iI_t hb]
theorem iI_0 : iI 0 = 0 := rfl
theorem iI_n (n : Nat) : nI n = iI n := Int32.ofInt_eq_ofNat.symm
theorem iI_c {z : Int} (h : R32 z) : (iI z).toNatClampNeg = z.toNat := by rw [← Int32.toNat_toInt, iI_t h]
theorem iI_in {z : Int} {n : Nat} (h : R32 z) (h0 : 0 ≤ z) (h1 : z < n) : vp_in (iI z) n := by
  rw [vp_in_iff, iI_t h]
  exact ⟨h0, h1⟩
abbrev mv_M : Type := Nat → Option va_E
def mv_up (M : mv_M) (a : Nat) (e : va_E) : mv_M := fun q => if q = a then some e else M q
theorem mv_us {M : mv_M} {a : Nat} {e : va_E} : mv_up M a e a = some e := by simp [mv_up]
theorem mv_un {M : mv_M} {a q : Nat} {e : va_E} (h : q ≠ a) : mv_up M a e q = M q := by simp [mv_up, h]
theorem mv_uu {M : mv_M} {a : Nat} {e e' : va_E} : mv_up (mv_up M a e) a e' = mv_up M a e' := by
  funext q
  by_cases h : q = a <;> simp [mv_up, h]
theorem mv_self {M : mv_M} {a : Nat} {e : va_E} (h : M a = some e) : mv_up M a e = M := by
  funext q
  by_cases hq : q = a
  · subst hq; rw [mv_us, h]
  · rw [mv_un hq]
theorem mv_ne {M : mv_M} {a b : Nat} {e e' : va_E} (h1 : M a = some e) (h2 : M b = some e') (h : e ≠ e') : a ≠ b := fun q => by
  subst q
  exact h (Option.some.inj (h1.symm.trans h2))
theorem mv_comm {M : mv_M} {a b : Nat} {e e' : va_E} (h : a ≠ b) : mv_up (mv_up M a e) b e' = mv_up (mv_up M b e') a e := by
  funext q
  by_cases h1 : q = a
  · subst h1; rw [mv_un h, mv_us, mv_us]
  · by_cases h2 : q = b
    · subst h2; rw [mv_us, mv_un (Ne.symm h), mv_us]
    · rw [mv_un h2, mv_un h1, mv_un h1, mv_un h2]
