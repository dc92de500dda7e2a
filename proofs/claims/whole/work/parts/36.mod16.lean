/-! the reference: what was written, by agreement -/
def gN (ys : List Nd) (i : Nat) : Nd := ys.getD i (0, 0, 0)
/-- F' comes of F by writing ys at c (depths, levels and what lies behind are free) -/
def WR (F F' : Nat → Nat → Int) (c : Nat) (ys : List Nd) : Prop := (∀ j x, j < 4 → x < c → F' j x = F j x) ∧ (∀ j, 5 ≤ j → j < 12 → F' j = F j) ∧ (∀ i, i < ys.length → F' 0 (c + i) = (gN ys i).1 ∧ F' 1 (c + i) = (gN ys i).2.1 ∧ F' 2 (c + i) = (gN ys i).2.2)
theorem gN_l {ys zs : List Nd} {i : Nat} (h : i < ys.length) : gN (ys ++ zs) i = gN ys i := by
  unfold gN
  rw [List.getD_eq_getElem?_getD, List.getD_eq_getElem?_getD, List.getElem?_append_left h]
theorem gN_r {ys zs : List Nd} {i : Nat} : gN (ys ++ zs) (ys.length + i) = gN zs i := by
  unfold gN
  rw [List.getD_eq_getElem?_getD, List.getD_eq_getElem?_getD, List.getElem?_append_right (by omega), show ys.length + i - ys.length = i by omega]
theorem WR_nil {F : Nat → Nat → Int} {c : Nat} : WR F F c [] := ⟨fun _ _ _ _ => rfl, fun _ _ _ => rfl, fun i h => absurd h (by simp)⟩
theorem WR_app {F F1 F2 : Nat → Nat → Int} {c : Nat} {ys zs : List Nd} (h : WR F F1 c ys) (k : WR F1 F2 (c + ys.length) zs) : WR F F2 c (ys ++ zs) := by
  refine ⟨fun j x hj hx => by rw [k.1 j x hj (by omega), h.1 j x hj hx], fun j a b => by rw [k.2.1 j a b, h.2.1 j a b], fun i hi => ?_⟩
  by_cases q : i < ys.length
  · rw [gN_l q, k.1 0 _ (by omega) (by omega), k.1 1 _ (by omega) (by omega), k.1 2 _ (by omega) (by omega)]
    exact h.2.2 i q
  · obtain ⟨m, rfl⟩ : ∃ m, i = ys.length + m := ⟨i - ys.length, by omega⟩
    rw [gN_r, ← Nat.add_assoc]
    exact k.2.2 m (by rw [List.length_append] at hi; omega)
theorem addF_at (F : Nat → Nat → Int) (c : Nat) (k v s : Int) : addF F c k v s 0 c = k ∧ addF F c k v s 1 c = v ∧ addF F c k v s 2 c = s := by
  refine ⟨?_, ?_, ?_⟩ <;> simp [addF, va_up]
theorem WR_F : ∀ (ys : List Nd) (F : Nat → Nat → Int) (c : Nat), WR F (appF F c ys) c ys
  | [], F, c => WR_nil
  | (k, v, s) :: ys, F, c => by
    have h := WR_F ys (addF F c k v s) (c + 1)
    have h0 : WR F (addF F c k v s) c [(k, v, s)] := by
      refine ⟨fun j x hj hx => ?_, fun j a b => ?_, fun i hi => ?_⟩
      · exact appF_lt (F := F) (c := c) j [(k, v, s)] hx
      · exact appF_ge (F := F) (c := c) (by omega) [(k, v, s)]
      · have : i = 0 := by simp at hi; omega
        subst this
        exact addF_at F c k v s
    exact WR_app (ys := [(k, v, s)]) h0 h
theorem WR_3 {F F' : Nat → Nat → Int} {c : Nat} {ys : List Nd} (h : WR F F' c ys) {L : Nat → Int} (hL : ∀ x, x < c → L x = F 3 x) : WR F (va_up F' 3 L) c ys := by
  refine ⟨fun j x hj hx => ?_, fun j a b => by rw [va_un (by omega)]; exact h.2.1 j a b, fun i hi => ?_⟩
  · by_cases e : j = 3
    · subst e; rw [va_us]; exact hL x hx
    · rw [va_un e]; exact h.1 j x hj hx
  · rw [va_un (by omega), va_un (by omega), va_un (by omega)]
    exact h.2.2 i hi
theorem WR_s {F F' : Nat → Nat → Int} {c : Nat} {ys : List Nd} (h : WR F F' c ys) {j : Nat} (hj : j = 4 ∨ j = 12) (L : Nat → Int) : WR F (va_up F' j L) c ys := by
  refine ⟨fun i x hi hx => by rw [va_un (by omega)]; exact h.1 i x hi hx, fun i a b => by rw [va_un (by omega)]; exact h.2.1 i a b, fun i hi => ?_⟩
  rw [va_un (by omega), va_un (by omega), va_un (by omega)]
  exact h.2.2 i hi
theorem sgL_ag {F F' : Nat → Nat → Int} {c : Nat} (h : ∀ j x, j < 4 → x < c → F' j x = F j x) {b : Nat} : ∀ n, b + n ≤ c → sgL F' b n = sgL F b n
  | 0, _ => rfl
  | n + 1, hn => by
    simp only [sgL]
    rw [sgL_ag h n (by omega), h 0 _ (by omega) (by omega), h 1 _ (by omega) (by omega), h 2 _ (by omega) (by omega)]
/-- a term more, or none: ys was written at c, lengths ℓ -/
def nwT (V : mv_V) (M' : mv_M) (r cap lq : Nat) (F : Nat → Nat → Int) (c : Nat) (ys : List Nd) (ℓ : Nat → Nat) (tn gn : Int) : Prop := ∃ A' F', (∀ j x, j < 4 → x < c → F' j x = F j x) ∧ (∀ j, 6 ≤ j → j < 12 → F' j = F j) ∧ (((tn = 1500 ∨ 1000 < ys.length ∨ 30000 < c + ys.length) ∧ F' 5 = F 5 ∧ RefC V M' r A' (rN cap lq) F' (c : Nat) tn gn) ∨ (¬ (tn = 1500 ∨ 1000 < ys.length ∨ 30000 < c + ys.length) ∧ F' 5 = va_up (F 5) tn.toNat (c : Nat) ∧ (∀ i, i < ys.length → F' 0 (c + i) = (gN ys i).1 ∧ F' 1 (c + i) = (gN ys i).2.1 ∧ F' 2 (c + i) = (gN ys i).2.2 ∧ F' 3 (c + i) = ℓ i) ∧ RefC V M' r A' (rN cap lq) F' ((c + ys.length : Nat) : Int) (tn + 1) gn))
theorem nwT_of {V : mv_V} {M' : mv_M} {r : Nat} {A : Nat → Nat} {cap lq : Nat} {F F1 : Nat → Nat → Int} {c n : Nat} {ys : List Nd} {ℓ : Nat → Nat} {tn gn : Int} (hn : ys.length = n) (hw : WR F F1 c ys) (h : tmE V M' r A cap lq F1 c n ℓ ((c + n : Nat) : Int) tn gn) : nwT V M' r cap lq F c ys ℓ tn gn := by
  subst hn
  rcases h with ⟨h1, h2⟩ | ⟨h1, h2⟩
  · exact ⟨A, F1, hw.1, fun j a b => hw.2.1 j (by omega) b, Or.inl ⟨h1, hw.2.1 5 (by omega) (by omega), h2⟩⟩
  · refine ⟨A, _, fun j x hj hx => ?_, fun j a b => ?_, Or.inr ⟨h1, ?_, fun i hi => ?_, h2⟩⟩
    · rw [va_un (by omega)]
      by_cases e : j = 3
      · subst e
        rw [va_us, ← hw.1 3 x (by omega) hx]
        unfold msR
        rw [if_neg (by omega)]
      · rw [va_un e]; exact hw.1 j x hj hx
    · rw [va_un (by omega), va_un (by omega)]
      exact hw.2.1 j (by omega) b
    · rw [va_us, hw.2.1 5 (by omega) (by omega)]
    · obtain ⟨p, q, s⟩ := hw.2.2 i hi
      rw [va_un (by omega), va_un (by omega), va_un (by omega), va_un (by omega), va_un (by omega), va_un (by omega), va_un (by omega), va_us]
      refine ⟨p, q, s, ?_⟩
      exact msR_at (by omega) hi
