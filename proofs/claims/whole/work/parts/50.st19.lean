/-! the reference over the shared state: globals -/
theorem glF_e (F : Nat → Nat → Int) (g : Nat) (s t d : Int) : glF F g s t d 6 = va_up (F 6) g s ∧ glF F g s t d 7 = va_up (F 7) g t ∧ glF F g s t d 8 = va_up (F 8) g d ∧ glF F g s t d 9 = va_up (F 9) g (if s = 4 then F 9 d.toNat else 0) ∧ glF F g s t d 10 = va_up (F 10) g (if s = 4 then -1 else 0) ∧ glF F g s t d 11 = va_up (F 11) g 0 ∧ ∀ j, j < 6 → glF F g s t d j = F j := by
  refine ⟨rfl, rfl, rfl, rfl, rfl, rfl, fun j hj => ?_⟩
  unfold glF
  rw [va_un (by omega), va_un (by omega), va_un (by omega), va_un (by omega), va_un (by omega), va_un (by omega)]
theorem fmL_e (F : Nat → Nat → Int) (g : Nat) (p o k t : Int) : ∀ i, (∀ j, j < 6 → fmL F g p o k t i j = F j) ∧ (fmL F g p o k t i 6 g = 3 ∧ fmL F g p o k t i 7 g = t ∧ fmL F g p o k t i 8 g = (g : Nat) ∧ fmL F g p o k t i 9 g = p ∧ fmL F g p o k t i 10 g = o ∧ fmL F g p o k t i 11 g = k) ∧ (∀ x, x < g → fmL F g p o k t i 6 x = F 6 x ∧ fmL F g p o k t i 7 x = F 7 x ∧ fmL F g p o k t i 8 x = F 8 x ∧ fmL F g p o k t i 9 x = F 9 x ∧ fmL F g p o k t i 10 x = F 10 x ∧ fmL F g p o k t i 11 x = F 11 x) ∧ (∀ x, g < x → x ≤ g + i → fmL F g p o k t i 6 x = 4 ∧ fmL F g p o k t i 7 x = -1 ∧ fmL F g p o k t i 8 x = (g : Nat) ∧ fmL F g p o k t i 9 x = p ∧ fmL F g p o k t i 10 x = -1 ∧ fmL F g p o k t i 11 x = 0)
  | 0 => by
    obtain ⟨e6, e7, e8, e9, e10, e11, eo⟩ := glF_e F g 3 t (g : Nat)
    refine ⟨fun j hj => ?_, ⟨?_, ?_, ?_, ?_, ?_, ?_⟩, fun x hx => ?_, fun x h1 h2 => by omega⟩
    · simp only [fmL]
      rw [va_un (by omega), va_un (by omega), va_un (by omega)]
      exact eo j hj
    · show glF F g 3 t (g : Nat) 6 g = 3
      rw [e6, va_us]
    · show glF F g 3 t (g : Nat) 7 g = t
      rw [e7, va_us]
    · show glF F g 3 t (g : Nat) 8 g = (g : Nat)
      rw [e8, va_us]
    · show va_up (glF F g 3 t (g : Nat) 9) g p g = p
      rw [va_us]
    · show va_up (glF F g 3 t (g : Nat) 10) g o g = o
      rw [va_us]
    · show va_up (glF F g 3 t (g : Nat) 11) g k g = k
      rw [va_us]
    · have hx' : x ≠ g := by omega
      refine ⟨?_, ?_, ?_, ?_, ?_, ?_⟩
      · show glF F g 3 t (g : Nat) 6 x = _
        rw [e6, va_un hx']
      · show glF F g 3 t (g : Nat) 7 x = _
        rw [e7, va_un hx']
      · show glF F g 3 t (g : Nat) 8 x = _
        rw [e8, va_un hx']
      · show va_up (glF F g 3 t (g : Nat) 9) g p x = _
        rw [va_un hx', e9, va_un hx']
      · show va_up (glF F g 3 t (g : Nat) 10) g o x = _
        rw [va_un hx', e10, va_un hx']
      · show va_up (glF F g 3 t (g : Nat) 11) g k x = _
        rw [va_un hx', e11, va_un hx']
  | i + 1 => by
    obtain ⟨a1, a2, a3, a4⟩ := fmL_e F g p o k t i
    obtain ⟨e6, e7, e8, e9, e10, e11, eo⟩ := glF_e (fmL F g p o k t i) (g + 1 + i) 4 (-1) (g : Nat)
    have hne : ∀ x, x ≠ g + 1 + i → fmL F g p o k t (i + 1) 6 x = fmL F g p o k t i 6 x ∧ fmL F g p o k t (i + 1) 7 x = fmL F g p o k t i 7 x ∧ fmL F g p o k t (i + 1) 8 x = fmL F g p o k t i 8 x ∧ fmL F g p o k t (i + 1) 9 x = fmL F g p o k t i 9 x ∧ fmL F g p o k t (i + 1) 10 x = fmL F g p o k t i 10 x ∧ fmL F g p o k t (i + 1) 11 x = fmL F g p o k t i 11 x := by
      intro x hx
      refine ⟨?_, ?_, ?_, ?_, ?_, ?_⟩
      · show glF (fmL F g p o k t i) (g + 1 + i) 4 (-1) (g : Nat) 6 x = _; rw [e6, va_un hx]
      · show glF (fmL F g p o k t i) (g + 1 + i) 4 (-1) (g : Nat) 7 x = _; rw [e7, va_un hx]
      · show glF (fmL F g p o k t i) (g + 1 + i) 4 (-1) (g : Nat) 8 x = _; rw [e8, va_un hx]
      · show glF (fmL F g p o k t i) (g + 1 + i) 4 (-1) (g : Nat) 9 x = _; rw [e9, va_un hx]
      · show glF (fmL F g p o k t i) (g + 1 + i) 4 (-1) (g : Nat) 10 x = _; rw [e10, va_un hx]
      · show glF (fmL F g p o k t i) (g + 1 + i) 4 (-1) (g : Nat) 11 x = _; rw [e11, va_un hx]
    refine ⟨fun j hj => ?_, ?_, fun x hx => ?_, fun x h1 h2 => ?_⟩
    · show glF (fmL F g p o k t i) (g + 1 + i) 4 (-1) (g : Nat) j = _
      rw [eo j hj]
      exact a1 j hj
    · obtain ⟨h6, h7, h8, h9, h10, h11⟩ := hne g (by omega)
      rw [h6, h7, h8, h9, h10, h11]
      exact a2
    · obtain ⟨h6, h7, h8, h9, h10, h11⟩ := hne x (by omega)
      rw [h6, h7, h8, h9, h10, h11]
      exact a3 x hx
    · by_cases q : x = g + 1 + i
      · subst q
        refine ⟨?_, ?_, ?_, ?_, ?_, ?_⟩
        · show glF (fmL F g p o k t i) (g + 1 + i) 4 (-1) (g : Nat) 6 _ = _; rw [e6, va_us]
        · show glF (fmL F g p o k t i) (g + 1 + i) 4 (-1) (g : Nat) 7 _ = _; rw [e7, va_us]
        · show glF (fmL F g p o k t i) (g + 1 + i) 4 (-1) (g : Nat) 8 _ = _; rw [e8, va_us]
        · show glF (fmL F g p o k t i) (g + 1 + i) 4 (-1) (g : Nat) 9 _ = _; rw [e9, va_us, if_pos rfl, Int.toNat_natCast]; exact a2.2.2.2.1
        · show glF (fmL F g p o k t i) (g + 1 + i) 4 (-1) (g : Nat) 10 _ = _; rw [e10, va_us, if_pos rfl]
        · show glF (fmL F g p o k t i) (g + 1 + i) 4 (-1) (g : Nat) 11 _ = _; rw [e11, va_us]
      · obtain ⟨h6, h7, h8, h9, h10, h11⟩ := hne x q
        rw [h6, h7, h8, h9, h10, h11]
        exact a4 x h1 (by omega)
theorem seF_cg {F F' : Nat → Nat → Int} (h : ∀ j, j < 4 → F' j = F j) {b : Nat} {xs : List Nd} (k : seF F b xs) : seF F' b xs := fun i hi => by
  rw [h 0 (by omega), h 1 (by omega), h 2 (by omega), h 3 (by omega)]
  exact k i hi
theorem hgtS {cap lq : Nat} {S : SS} (hK : RefK cap lq S) : (0 ≤ ((S.2.2.1 : Nat) : Int) ∧ ((S.2.2.1 : Nat) : Int) ≤ 100) ∧ 0 ≤ ((S.1 : Nat) : Int) ∧ ((S.1 : Nat) : Int) ≤ 1500 := by
  have := hK.2.2.2.2.2.1.1
  have := hK.2.2.2.2.2.1.2.1
  omega
/-- a family's numbers are small -/
theorem fam_b {S : SS} (hI : Iv S) {g : Nat} (hg : g < S.2.2.1) (h3 : (S.2.2.2 g).1 = 3) : ∃ t, (S.2.2.2 g).2.2.2.2.2.1 = some t ∧ t < S.1 ∧ Cls (S.2.1 t) ∧ nA (S.2.1 t) 0 = (S.2.2.2 g).2.2.1 + (S.2.2.2 g).2.2.2.1 ∧ (S.2.2.2 g).2.2.1 + (S.2.2.2 g).2.2.2.1 ≤ 500 ∧ (S.2.2.2 g).2.2.2.2.1 ≤ 12 ∧ g + (S.2.2.2 g).2.2.2.2.1 < S.2.2.1 ∧ (S.2.2.2 g).2.1 = g ∧ ∀ i, i < (S.2.2.2 g).2.2.2.2.1 → (S.2.2.2 (g + 1 + i)).1 = 4 ∧ (S.2.2.2 (g + 1 + i)).2.1 = g ∧ (S.2.2.2 (g + 1 + i)).2.2.2.2.1 = i := by
  rcases hI.2.2.2.2 g hg with h | ⟨h1, h2, ⟨t, t1, t2, t3, t4⟩, h4, h5, h6⟩ | h
  · omega
  · have ht := hI.2.2.2.1 t t2
    have := nA_ok ht.1 ht.2.2.1 (i := 0) (by have := ht.2.1; omega)
    have := ht.2.2.1
    exact ⟨t, t1, t2, t3, t4, by omega, h4, h5, h2, h6⟩
  · have := h.1; omega
/-- a constructor's -/
theorem con_b {S : SS} (hI : Iv S) {g : Nat} (hg : g < S.2.2.1) (h4 : (S.2.2.2 g).1 = 4) : (S.2.2.2 g).2.1 < g ∧ (S.2.2.2 (S.2.2.2 g).2.1).1 = 3 ∧ (S.2.2.2 g).2.2.1 = (S.2.2.2 (S.2.2.2 g).2.1).2.2.1 ∧ (S.2.2.2 g).2.2.2.1 = (S.2.2.2 (S.2.2.2 g).2.1).2.2.2.1 ∧ g = (S.2.2.2 g).2.1 + 1 + (S.2.2.2 g).2.2.2.2.1 ∧ (∀ t, (S.2.2.2 g).2.2.2.2.2.1 = some t → t < S.1 ∧ CoT (S.2.1 t) (S.2.2.2 g).2.1 (S.2.2.2 g).2.2.1 (S.2.2.2 g).2.2.2.1 (S.2.2.2 g).2.2.2.2.2.2.1 (S.2.2.2 g).2.2.2.2.2.2.2) ∧ (S.2.2.2 g).2.2.2.2.1 < (S.2.2.2 (S.2.2.2 g).2.1).2.2.2.2.1 := by
  rcases hI.2.2.2.2 g hg with h | h | ⟨h1, h2, h3, h5, h6, h7, h8, h9⟩
  · omega
  · have := h.1; omega
  · exact ⟨h2, h3, h5, h6, h8, h9, h7⟩
section MR2
variable {l : Launch} {V : mv_V} {M : mv_M} {r cap lq : Nat} {S : SS}
theorem mR_terms (hP : RefP V M r cap lq S) (hK : RefK cap lq S) : RCall l V M r cap lq y_Mod_terms ws_Mod_terms 0 0 [.ref r] ((S.1 : Nat) : Int) S := by
  obtain ⟨A, F, hC, hF⟩ := id hP
  exact RCall_no hP hK (m_Mod_terms hC (by have := hK.2.2.1; omega))
theorem mR_axiom (hP : RefP V M r cap lq S) (hK : RefK cap lq S) : RCall l V M r cap lq y_Mod_axiom ws_Mod_axiom 1 30 [.ref r] (aAx S) (nAx S) := by
  obtain ⟨A, F, hC, hF⟩ := id hP
  obtain ⟨K1, K2, K3, K4, K5, K6⟩ := id hK
  have hgt := hgtS hK
  have hK' : RefK cap lq (nAx S) := ⟨by unfold nAx; split <;> exact K1, K2, K3, K4, K5, Jv_Ax K6⟩
  refine RCall_0 hK' (m_Mod_axiom hC (by omega) hgt.1) (fun v M' h => ?_)
  unfold aAx nAx
  rcases h with ⟨h1, h2, h3⟩ | ⟨h1, h2, h3⟩
  · rw [if_pos (by omega), if_pos (by omega)]
    exact ⟨h2, A, F, h3, hF⟩
  · rw [if_neg (by omega), if_neg (by omega)]
    refine ⟨h2, A, _, h3, ?_⟩
    rw [Int.toNat_natCast]
    obtain ⟨e6, e7, e8, e9, e10, e11, eo⟩ := glF_e F S.2.2.1 0 (-1) ((S.2.2.1 : Nat) : Int)
    refine ⟨fun t ht => ?_, fun g hg => ?_⟩
    · obtain ⟨a, b⟩ := hF.1 t ht
      exact ⟨by rw [eo 5 (by omega)]; exact a, seF_cg (fun j hj => eo j (by omega)) b⟩
    · have hg' : g < S.2.2.1 + 1 := hg
      rw [e6, e7, e8, e9, e10, e11]
      by_cases q : g = S.2.2.1
      · subst q
        rw [va_us, va_us, va_us, va_us, va_us, va_us]
        unfold tbS otS cnG
        simp only [va_us]
        exact ⟨trivial, trivial, trivial, by rw [if_neg (by omega)]; rfl, by rw [if_neg (by omega), if_neg (by omega)]; rfl, by rw [if_neg (by omega)]⟩
      · rw [va_un q, va_un q, va_un q, va_un q, va_un q, va_un q]
        have key := hF.2 g (by omega)
        unfold tbS otS cnG at *
        simp only [va_un q]
        exact key
abbrev okG (S : SS) (g : Int) : Prop := 0 ≤ g ∧ g < ((S.2.2.1 : Nat) : Int)
def aAb (S : SS) (g w : Int) : Int := if ¬ (okG S g ∧ 0 ≤ w ∧ w ≤ 3) then -1 else if w = 0 then (S.2.2.2 g.toNat).1 else if w = 1 then (((S.2.2.2 g.toNat).2.2.1 : Nat) : Int) else if w = 2 then otS S g.toNat else (((S.2.2.2 g.toNat).2.2.2.2.1 : Nat) : Int)
theorem mR_about (hP : RefP V M r cap lq S) (hK : RefK cap lq S) {g w : Int} (rg : R32 g) (rw' : R32 w) : RCall l V M r cap lq y_Mod_about ws_Mod_about 0 0 [.ref r, .int (iI g), .int (iI w)] (aAb S g w) S := by
  obtain ⟨A, F, hC, hF⟩ := id hP
  have hgt := hgtS hK
  have h := m_Mod_about (l := l) hC (by have := hK.2.2.1; omega) rg rw' hgt.1
  have e : abR F ((S.2.2.1 : Nat) : Int) g w = aAb S g w := by
    unfold abR aAb
    by_cases q : okG S g ∧ 0 ≤ w ∧ w ≤ 3
    · obtain ⟨k6, k7, k8, k9, k10, k11⟩ := hF.2 g.toNat (by omega)
      rw [if_neg (show ¬ ¬ (0 ≤ g ∧ g < ((S.2.2.1 : Nat) : Int) ∧ 0 ≤ w ∧ w ≤ 3) by omega), if_neg (show ¬ ¬ (okG S g ∧ 0 ≤ w ∧ w ≤ 3) by omega), k6, k8, k9, k10, k11]
      by_cases w0 : w = 0
      · rw [if_pos w0, if_pos w0]
      · rw [if_neg w0, if_neg w0]
        by_cases w1 : w = 1
        · rw [if_pos w1, if_pos w1]
        · rw [if_neg w1, if_neg w1]
          by_cases w2 : w = 2
          · rw [if_pos w2, if_pos w2]
          · rw [if_neg w2, if_neg w2]
            by_cases r4 : (S.2.2.2 g.toNat).1 = 4
            · rw [if_pos r4]
              have := (con_b hK.2.2.2.2.2.1 (g := g.toNat) (by omega) r4).2.2.2.2.1
              omega
            · rw [if_neg r4]
              unfold cnG
              by_cases r3 : (S.2.2.2 g.toNat).1 = 3
              · rw [if_pos r3]
              · rw [if_neg r3]
                rcases hK.2.2.2.2.2.1.2.2.2.2 g.toNat (by omega) with z | z | z
                · rw [z.2.2.2]; rfl
                · exact absurd z.1 r3
                · exact absurd z.1 r4
    · rw [if_pos (by omega), if_pos (by omega)]
  rw [e] at h
  exact RCall_no hP hK h
def aPt (S : SS) (i j w : Int) : Int := if ¬ (0 ≤ i ∧ i < ((S.1 : Nat) : Int) ∧ 0 ≤ j ∧ j < (((S.2.1 i.toNat).length : Nat) : Int) ∧ 0 ≤ w ∧ w ≤ 3) then -1 else if w = 0 then (gN (S.2.1 i.toNat) j.toNat).1 else if w = 1 then (gN (S.2.1 i.toNat) j.toNat).2.1 else if w = 2 then (gN (S.2.1 i.toNat) j.toNat).2.2 else ((lnS (S.2.1 i.toNat) j.toNat : Nat) : Int)
theorem mR_part (hP : RefP V M r cap lq S) (hK : RefK cap lq S) {i j w : Int} (ri : R32 i) (rj : R32 j) (rw' : R32 w) : RCall l V M r cap lq y_Mod_part3 ws_Mod_part3 1 21 [.ref r, .int (iI i), .int (iI j), .int (iI w)] (aPt S i j w) S := by
  obtain ⟨A, F, hC, hF⟩ := id hP
  obtain ⟨K1, K2, K3, K4, K5, K6⟩ := id hK
  have hgt := hgtS hK
  have key : ∀ t, t < S.1 → F 5 t = ((bs S.2.1 t : Nat) : Int) ∧ F 3 (bs S.2.1 t) = (((S.2.1 t).length : Nat) : Int) ∧ bs S.2.1 t + (S.2.1 t).length ≤ bs S.2.1 S.1 ∧ 1 ≤ (S.2.1 t).length := by
    intro t ht
    obtain ⟨a, b⟩ := hF.1 t ht
    have ho := K6.1.2.2.2.1 t ht
    have h0 := (b 0 (by have := ho.2.1; omega)).2.2.2
    rw [Nat.add_zero, ln_0 ho.1 ho.2.1] at h0
    exact ⟨a, h0, bs_in ht, ho.2.1⟩
  have h := m_Mod_part3 (l := l) hC (by omega) ri rj rw' hgt.2 (fun k hk => by
    obtain ⟨a, b, c, d⟩ := key k (by omega)
    rw [a, Int.toNat_natCast, b]
    omega)
  have e : ptR F ((S.1 : Nat) : Int) i j w = aPt S i j w := by
    unfold ptR aPt
    by_cases q0 : 0 ≤ i ∧ i < ((S.1 : Nat) : Int)
    · obtain ⟨a, b, c, d⟩ := key i.toNat (by omega)
      rw [a, Int.toNat_natCast, b]
      by_cases q : 0 ≤ i ∧ i < ((S.1 : Nat) : Int) ∧ 0 ≤ j ∧ j < (((S.2.1 i.toNat).length : Nat) : Int) ∧ 0 ≤ w ∧ w ≤ 3
      · have qn : ¬ ¬ (0 ≤ i ∧ i < ((S.1 : Nat) : Int) ∧ 0 ≤ j ∧ j < (((S.2.1 i.toNat).length : Nat) : Int) ∧ 0 ≤ w ∧ w ≤ 3) := fun z => z q
        rw [if_neg qn, if_neg qn]
        obtain ⟨k0, k1, k2, k3⟩ := (hF.1 i.toNat (by omega)).2 j.toNat (by omega)
        rw [show (((bs S.2.1 i.toNat : Nat) : Int) + j).toNat = bs S.2.1 i.toNat + j.toNat by omega, k0, k1, k2, k3]
      · rw [if_pos (show ¬ (0 ≤ i ∧ i < ((S.1 : Nat) : Int) ∧ 0 ≤ j ∧ j < (((S.2.1 i.toNat).length : Nat) : Int) ∧ 0 ≤ w ∧ w ≤ 3) from q), if_pos (show ¬ (0 ≤ i ∧ i < ((S.1 : Nat) : Int) ∧ 0 ≤ j ∧ j < (((S.2.1 i.toNat).length : Nat) : Int) ∧ 0 ≤ w ∧ w ≤ 3) from q)]
    · rw [if_pos (fun z => q0 ⟨z.1, z.2.1⟩), if_pos (fun z => q0 ⟨z.1, z.2.1⟩)]
  rw [e] at h
  exact RCall_no hP hK h
def aPo (S : SS) (g t ar : Int) : Int := if okG S g ∧ (S.2.2.2 g.toNat).1 = 3 ∧ 0 ≤ t ∧ t < ((S.1 : Nat) : Int) ∧ 0 ≤ ar ∧ ar ≤ 100 then jdS (S.2.1 t.toNat) ((g.toNat : Nat) : Int) (S.2.2.2 g.toNat).2.2.1 (S.2.2.2 g.toNat).2.2.2.1 0 ((((S.2.2.2 g.toNat).2.2.1 : Nat) : Int) + ar) else -1
theorem ot_3 {S : SS} {g : Nat} (h : (S.2.2.2 g).1 = 3) : otS S g = (((S.2.2.2 g).2.2.2.1 : Nat) : Int) := by
  unfold otS
  rw [if_neg (by omega)]
theorem mR_positive (hP : RefP V M r cap lq S) (hK : RefK cap lq S) {g t ar : Int} (rg : R32 g) (rt : R32 t) (ra : R32 ar) : RCall l V M r cap lq y_Mod_positive ws_Mod_positive 3 90 [.ref r, .int (iI g), .int (iI t), .int (iI ar)] (aPo S g t ar) S := by
  obtain ⟨A, F, hC, hF⟩ := id hP
  obtain ⟨K1, K2, K3, K4, K5, K6⟩ := id hK
  have hgt := hgtS hK
  by_cases q : okG S g ∧ (S.2.2.2 g.toNat).1 = 3 ∧ 0 ≤ t ∧ t < ((S.1 : Nat) : Int) ∧ 0 ≤ ar ∧ ar ≤ 100
  · obtain ⟨k6, k7, k8, k9, k10, k11⟩ := hF.2 g.toNat (by omega)
    rw [ot_3 q.2.1] at k10
    obtain ⟨t0, f1, f2, f3, f4, f5, f6, f7, f8, f9⟩ := fam_b K6.1 (g := g.toNat) (by omega) q.2.1
    have ho := K6.1.2.2.2.1 t.toNat (by omega)
    obtain ⟨a, b⟩ := hF.1 t.toNat (by omega)
    have hin := bs_in (X := S.2.1) (s := t.toNat) (t := S.1) (by omega)
    have hl : 0 < (S.2.1 t.toNat).length := by have := ho.2.1; omega
    have eb : F 5 t.toNat = ((bs S.2.1 t.toNat + 0 : Nat) : Int) := a
    have hJ := JOK_S b ho.1 ho.2.2.1 (cap := cap) (by omega) (ar := F 9 g.toNat + ar) (by rw [k9]; omega) hl (d := g.toNat) (by have := K6.1.2.1; omega) k9 k10 (by omega)
    have h := m_Mod_positive (l := l) hC (by omega) hgt rg rt ra (n := nA (S.2.1 t.toNat) 0) (a := nP (S.2.1 t.toNat) (ft (S.2.1 t.toNat) 0)) (fun _ => by rw [eb]; exact hJ)
    rw [if_pos ⟨q.1.1, q.1.2, by rw [k6]; exact q.2.1, q.2.2.1, q.2.2.2.1, q.2.2.2.2.1, q.2.2.2.2.2⟩, eb, jdR_S b ho.1 ho.2.2.1 hl k9 k10, k9] at h
    unfold aPo
    rw [if_pos q]
    exact RCall_no hP hK h
  · have h := m_Mod_positive (l := l) hC (by omega) hgt rg rt ra (n := 0) (a := 0) (fun z => absurd (by
      obtain ⟨k6, -⟩ := hF.2 g.toNat (by omega)
      rw [k6] at z
      exact ⟨⟨z.1, z.2.1⟩, z.2.2⟩) q)
    rw [if_neg (fun z => q (by
      obtain ⟨k6, -⟩ := hF.2 g.toNat (by omega)
      rw [k6] at z
      exact ⟨⟨z.1, z.2.1⟩, z.2.2⟩))] at h
    unfold aPo
    rw [if_neg q]
    exact RCall_no hP hK h
end MR2
