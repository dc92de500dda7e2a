/-! THE REFERENCE: one object, thirteen arrays of ints (kind, value, sort, length, depth, begin, sorts, types, families, parameters, others, constructors, levels) at A, of lengths N, with contents F, zero behind their ends -/
abbrev roC (A : Nat → Nat) (c t g : Int) : va_E := .inr (7, [.ref (A 0), .ref (A 1), .ref (A 2), .ref (A 3), .ref (A 4), .int (iI c), .ref (A 5), .int (iI t), .ref (A 6), .ref (A 7), .ref (A 8), .ref (A 9), .ref (A 10), .ref (A 11), .int (iI g), .ref (A 12)])
def RefC (V : mv_V) (M : mv_M) (r : Nat) (A N : Nat → Nat) (F : Nat → Nat → Int) (c t g : Int) : Prop := M r = some (roC A c t g) ∧ (∀ i, i < 13 → M (A i) = some (iA V (N i) (F i))) ∧ (∀ i j, i < 13 → j < 13 → A i = A j → i = j) ∧ (∀ i j, i < 13 → N i ≤ j → F i j = 0) ∧ (∀ i j, Sm (F i j)) ∧ (∀ i, i < 13 → N i ≤ 10000000)
section RFC
variable {V : mv_V} {M : mv_M} {r : Nat} {A N : Nat → Nat} {F : Nat → Nat → Int} {c t g : Int}
theorem RefC.ne (h : RefC V M r A N F c t g) {i : Nat} (hi : i < 13) : r ≠ A i := mv_ne h.1 (h.2.1 i hi) (by simp)
theorem RefC_w (h : RefC V M r A N F c t g) {i : Nat} (hi : i < 13) {k : Nat} (hk : k < N i) {x : Int} (hx : Sm x) : RefC V (mv_up M (A i) (iA V (N i) (va_up (F i) k x))) r A N (va_up F i (va_up (F i) k x)) c t g := by
  refine ⟨by rw [mv_un (h.ne hi)]; exact h.1, fun j hj => ?_, h.2.2.1, fun a b ha hb => ?_, fun a b => ?_, h.2.2.2.2.2⟩
  · by_cases e : j = i
    · subst e; rw [mv_us, va_us]
    · rw [mv_un (fun q => e (h.2.2.1 j i hj hi q)), va_un e]; exact h.2.1 j hj
  · by_cases e : a = i
    · subst e; rw [va_us, va_un (by omega)]; exact h.2.2.2.1 a b ha hb
    · rw [va_un e]; exact h.2.2.2.1 a b ha hb
  · by_cases e : a = i
    · subst e
      rw [va_us]
      by_cases e2 : b = k
      · subst e2; rw [va_us]; exact hx
      · rw [va_un e2]; exact h.2.2.2.2.1 a b
    · rw [va_un e]; exact h.2.2.2.2.1 a b
theorem RefC_f (h : RefC V M r A N F c t g) (c' t' g' : Int) : RefC V (mv_up M r (roC A c' t' g')) r A N F c' t' g' := ⟨mv_us, fun i hi => by rw [mv_un (h.ne hi).symm]; exact h.2.1 i hi, h.2.2.1, h.2.2.2.1, h.2.2.2.2.1, h.2.2.2.2.2⟩
theorem RefC_wide (h : RefC V M r A N F c t g) {i : Nat} (hi : i < 13) {q : Nat} (hq : ∀ x e, M x = some e → x < q) (hn : 2 * N i ≤ 10000000) : RefC V (mv_up (mv_up M q (iA V (2 * N i) (F i))) r (roC (va_up A i q) c t g)) r (va_up A i q) (va_up N i (2 * N i)) F c t g := by
  have hrq := hq r _ h.1
  refine ⟨mv_us, fun j hj => ?_, fun a b ha hb e => ?_, fun a b ha hb => ?_, h.2.2.2.2.1, fun j hj => ?_⟩
  · by_cases e : j = i
    · subst e; rw [va_us, va_us, mv_un (by omega), mv_us]
    · have hj2 := hq _ _ (h.2.1 j hj)
      rw [va_un e, va_un e, mv_un (h.ne hj).symm, mv_un (by omega)]; exact h.2.1 j hj
  · by_cases e1 : a = i
    · by_cases e2 : b = i
      · omega
      · have hj2 := hq _ _ (h.2.1 b hb)
        rw [e1, va_us, va_un e2] at e
        omega
    · by_cases e2 : b = i
      · have hj2 := hq _ _ (h.2.1 a ha)
        rw [e2, va_us, va_un e1] at e
        omega
      · rw [va_un e1, va_un e2] at e
        exact h.2.2.1 a b ha hb e
  · by_cases e : a = i
    · subst e; rw [va_us] at hb; exact h.2.2.2.1 a b ha (by omega)
    · rw [va_un e] at hb; exact h.2.2.2.1 a b ha hb
  · by_cases e : j = i
    · subst e; rw [va_us]; exact hn
    · rw [va_un e]; exact h.2.2.2.2.2 j hj
theorem RefC_N {N' : Nat → Nat} (h : RefC V M r A N F c t g) (e : ∀ i, i < 13 → N i = N' i) : RefC V M r A N' F c t g := ⟨h.1, fun i hi => by rw [← e i hi]; exact h.2.1 i hi, h.2.2.1, fun i j hi hj => h.2.2.2.1 i j hi (by rw [e i hi]; exact hj), h.2.2.2.2.1, fun i hi => by rw [← e i hi]; exact h.2.2.2.2.2 i hi⟩
theorem RefC.R (h : RefC V M r A N F c t g) (i j : Nat) : R32 (F i j) := by have := h.2.2.2.2.1 i j; omega
end RFC
/-- the lengths: five of cap, 1500, six of 100, and the levels' -/
def rN (cap lc : Nat) (i : Nat) : Nat := if i < 5 then cap else if i = 5 then 1500 else if i < 12 then 100 else lc
theorem rN_up5 {cap lc : Nat} : ∀ i, i < 13 → va_up (va_up (va_up (va_up (va_up (rN cap lc) 0 (2 * cap)) 1 (2 * cap)) 2 (2 * cap)) 3 (2 * cap)) 4 (2 * cap) i = rN (2 * cap) lc i := by
  intro i hi
  by_cases h : i < 5
  · have : i = 0 ∨ i = 1 ∨ i = 2 ∨ i = 3 ∨ i = 4 := by omega
    rcases this with rfl | rfl | rfl | rfl | rfl <;> simp [va_up, rN]
  · rw [va_un (by omega), va_un (by omega), va_un (by omega), va_un (by omega), va_un (by omega)]
    unfold rN
    rw [if_neg h, if_neg h]
theorem rN_up12 {cap lc : Nat} : ∀ i, i < 13 → va_up (rN cap lc) 12 (2 * lc) i = rN cap (2 * lc) i := by
  intro i hi
  by_cases h : i = 12
  · subst h; simp [va_up, rN]
  · rw [va_un h]
    unfold rN
    by_cases h5 : i < 5
    · rw [if_pos h5, if_pos h5]
    · rw [if_neg h5, if_neg h5]
      by_cases e5 : i = 5
      · rw [if_pos e5, if_pos e5]
      · rw [if_neg e5, if_neg e5, if_pos (by omega), if_pos (by omega)]
def pC (cap lc : Nat) : Nat := 5 * Nat.log2 cap + Nat.log2 lc
def pS (cap lc : Nat) : Nat := 10 * cap + 2 * lc
theorem pC_2 {cap lc : Nat} (h : 0 < cap) : pC (2 * cap) lc = pC cap lc + 5 := by
  unfold pC
  rw [Nat.log2_two_mul (by omega)]
  omega
theorem pC_l {cap lc : Nat} (h : 0 < lc) : pC cap (2 * lc) = pC cap lc + 1 := by
  unfold pC
  rw [Nat.log2_two_mul (by omega)]
  omega
abbrev RefAt (V : mv_V) (M : mv_M) (r cap lc : Nat) (F : Nat → Nat → Int) (c t g : Int) : Prop := ∃ A, RefC V M r A (rN cap lc) F c t g
/-- a node at c -/
def addF (F : Nat → Nat → Int) (c : Nat) (k v s : Int) : Nat → Nat → Int := va_up (va_up (va_up (va_up F 0 (va_up (F 0) c k)) 1 (va_up (F 1) c v)) 2 (va_up (F 2) c s)) 3 (va_up (F 3) c 1)
def capN (cap : Nat) (c : Int) : Nat := if c = (cap : Nat) then 2 * cap else cap
theorem capN_r {cap : Nat} {c : Int} : cap ≤ capN cap c ∧ capN cap c ≤ 2 * cap := by
  unfold capN
  split <;> omega
theorem iand_b {x y : Int} (hx : x = 0 ∨ x = 1) (hy : y = 0 ∨ y = 1) : iI x &&& iI y = iI (if x = 1 ∧ y = 1 then 1 else 0) := by
  rcases hx with rfl | rfl <;> rcases hy with rfl | rfl <;> decide
theorem ior_b {x y : Int} (hx : x = 0 ∨ x = 1) (hy : y = 0 ∨ y = 1) : iI x ||| iI y = iI (if x = 1 ∨ y = 1 then 1 else 0) := by
  rcases hx with rfl | rfl <;> rcases hy with rfl | rfl <;> decide
section RIA
variable {X : mv_X} {Q : State → Prop} {K : mv_K} {nL pc : Nat} {lv : List (Nat × Value)} {st : List Value} {M : mv_M} {cells slots : Nat}
variable {cc : ByteArray} {Ts : List Cond} {own nm : String} {ret : Option FieldType} {rm : Room}
theorem mv_iand (B : mv_B X K cc Ts own nL ret rm nm) {x y : Int} (hx : x = 0 ∨ x = 1) (hy : y = 0 ∨ y = 1) (hdg : decode cc pc = .ok (.iand, 1)) (k : mv_G X Q K nL (pc + 1) lv (.int (iI (if x = 1 ∧ y = 1 then 1 else 0)) :: st) M cells slots) : mv_G X Q K nL pc lv (.int (iI y) :: .int (iI x) :: st) M cells slots := by
  obtain ⟨p, l, e, R, s, m, args, below, meth, c⟩ := X
  obtain ⟨hx', hb, -⟩ := B
  intro H locs ls hH hS hl
  refine lv_iand hx' hb hdg ?_
  rw [iand_b hx hy]
  exact k H locs ls hH hS hl
theorem mv_ior (B : mv_B X K cc Ts own nL ret rm nm) {x y : Int} (hx : x = 0 ∨ x = 1) (hy : y = 0 ∨ y = 1) (hdg : decode cc pc = .ok (.ior, 1)) (k : mv_G X Q K nL (pc + 1) lv (.int (iI (if x = 1 ∨ y = 1 then 1 else 0)) :: st) M cells slots) : mv_G X Q K nL pc lv (.int (iI y) :: .int (iI x) :: st) M cells slots := by
  obtain ⟨p, l, e, R, s, m, args, below, meth, c⟩ := X
  obtain ⟨hx', hb, -⟩ := B
  intro H locs ls hH hS hl
  refine lv_ior hx' hb hdg ?_
  rw [ior_b hx hy]
  exact k H locs ls hH hS hl
theorem mv_aretA {C' : FieldType} {post : Option Value → mv_M → Prop} {mc ms : Nat} (B : mv_B X K cc Ts own nL (some (.array C')) rm nm) {r : Nat} (hp : post (some (.ref r)) M) (hc : cells ≤ mc) (hs : slots ≤ ms) (hdg : decode cc pc = .ok (.areturn, 1)) : mv_G X (mv_E X K post mc ms) K nL pc lv [.ref r] M cells slots := by
  obtain ⟨p, l, e, R, s, m, args, below, meth, c⟩ := X
  obtain ⟨hx, hbb, hml, hown, hts, hT, -, hr, hRR, hlk, -⟩ := B
  intro H locs ls hH hS hlv
  exact W.widen hc hs (W.aret hx hbb hr (Or.inr ⟨_, rfl⟩) (Or.inr ⟨_, rfl⟩) (fun t ht hW => ⟨_, M, rfl, hp, by rw [ht]; exact hH, hS.F ht⟩) hS.2.2 hdg hlk)
end RIA
