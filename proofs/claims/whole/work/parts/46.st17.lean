/-! settling what was written -/
theorem WR_in {F F1 : Nat → Nat → Int} {c : Nat} {ys : List Nd} (h : WR F F1 c ys) {i : Nat} (hi : i < ys.length) : F1 0 (c + i) = (gN ys i).1 ∧ F1 1 (c + i) = (gN ys i).2.1 ∧ F1 2 (c + i) = (gN ys i).2.2 := h.2.2 i hi
theorem raw_bd {ys zs : List Nd} (h : TR [0] ys [] zs) (ho : AOk zs) (hn : ys.length ≤ 500000) {i : Nat} (hi : i < ys.length) : -1 ≤ (gN ys i).2.1 ∧ (gN ys i).2.1 ≤ 2000000 := by
  obtain ⟨h1, h2, h3, h4, h5⟩ := TR_end h
  have e := h5 i hi
  have o := AOk_g ho (i := i) (by omega)
  have d := dp_bd h1 hi
  rw [e] at o
  unfold sx at o
  by_cases q : (gN ys i).1 = 0 ∧ 500000 < (gN ys i).2.1
  · rw [if_pos q] at o
    have := o.2.1
    simp only at this
    omega
  · rw [if_neg q] at o
    have := o.2.1
    omega
theorem mW_settle {l : Launch} {V : mv_V} {M : mv_M} {r cap lq c : Nat} {A : Nat → Nat} {F F1 : Nat → Nat → Int} {tn gn : Int} {ys zs : List Nd} (hC : RefC V M r A (rN cap lq) F1 ((c + ys.length : Nat) : Int) tn gn) (hcap : cap ≤ 1000000) (hW : WR F F1 c ys) (hT : TR [0] ys [] zs) (ho : AOk zs) (h1 : 1 ≤ ys.length) (hn : c + ys.length ≤ 500000) (hbc : c + ys.length ≤ cap) : Met l y_Mod_settle ws_Mod_settle (rM 2 0 0 60) (mv_Pre (kk V) [.ref r, .int (iI ((c : Nat)))] M) (mv_Q (kk V) (fun z0 M' => z0 = none ∧ ∃ F2, WR F F2 c zs ∧ RefC V M' r A (rN cap lq) F2 ((c + ys.length : Nat) : Int) tn gn)) 0 0 V.2.2.2.2 := by
  obtain ⟨hc, hz, hl, hln, hst⟩ := TR_end hT
  have hw : WF ys.length (fun j => F1 0 (c + j)) (lnS ys) := WF_cg (WF_S hc) (fun i hi => (hW.2.2 i hi).1)
  obtain ⟨L3, hL3⟩ : ∃ L : Nat → Int, L = msR (F1 3) c ys.length (lnS ys) ys.length := ⟨_, rfl⟩
  obtain ⟨F3, hF3⟩ : ∃ G : Nat → Nat → Int, G = va_up F1 3 L3 := ⟨_, rfl⟩
  have e30 : F3 0 = F1 0 := by rw [hF3]; rfl
  have e33 : ∀ i, i < ys.length → F3 3 (c + i) = (lnS ys i : Nat) := fun i hi => by rw [hF3, va_us, hL3]; exact msR_at (by omega) hi
  have hly : lyF F3 c ys := fun i hi => ⟨by rw [e30]; exact (hW.2.2 i hi).1, e33 i hi⟩
  have e3c : F3 3 c = (ys.length : Nat) := by
    have := e33 0 (by omega)
    rw [Nat.add_zero] at this
    rw [this]
    obtain ⟨d, σ, -, e2, -, -⟩ := sk_ok hc (i := 0) (by omega)
    have : sk ys 0 = [0] := by unfold sk; simp [rn]
    have k := sk_j hc (i := 0) (by omega) this
    have l2 := lnS_ok hc (i := 0) (by omega)
    by_cases q : lnS ys 0 < ys.length
    · obtain ⟨d2, σ2, -, e3, -, -⟩ := sk_ok hc (i := 0 + lnS ys 0) (by omega)
      rw [k] at e3
      exact absurd e3 (by simp)
    · omega
  have h := m_Mod_settle (l := l) hC hcap (b := c) (n := ys.length) (ℓ := lnS ys) (by omega) hbc (by omega) hw
  rw [← hL3, ← hF3] at h
  have h := h (by rw [e3c]; omega)
    (fun k hk h4 => by
      rw [e3c] at hk
      have hk' : k < ys.length := by omega
      have h4' : 4 ≤ (gN ys k).1 := by rw [← (hly k hk').1]; exact h4
      obtain ⟨w1, w2, w3⟩ := (WF_S hc k hk').2.2.2 h4'
      have e4 := (hly (k + 1) w1).2
      have es : scR F3 (((c : Nat) : Int) + (k : Nat)) = ((c + (k + 1 + lnS ys (k + 1)) : Nat) : Int) := by
        unfold scR
        rw [show (((c : Nat) : Int) + (k : Nat) + 1).toNat = c + (k + 1) by omega, e4]
        omega
      rw [es]
      omega)
    (fun k hk => by
      rw [e3c] at hk
      have hk' : k < ys.length := by omega
      have := dp_bd hc hk'
      rw [wkR_at hc hly (F3 4) hk']
      omega)
  have hD : ∀ i, i < ys.length → wkR F3 c (F1 4) (F3 3 c).toNat (c + i) = dpS ys i := fun i hi => by
    rw [e3c, Int.toNat_natCast]
    exact wkR_end hc hly (F1 4) hi
  have h := h (fun i hi => by
    have b1 := raw_bd hT ho (by omega) hi
    have b2 := dp_bd hc hi
    rw [hD i hi, (hW.2.2 i hi).2.1]
    omega)
  refine mv_post h (fun z M' g => ⟨g.1, _, ?_, g.2⟩)
  refine ⟨fun j x hj hx => ?_, fun j a b => ?_, fun i hi => ?_⟩
  · rw [← hW.1 j x hj hx]
    by_cases q1 : j = 1
    · subst q1
      rw [va_us]
      unfold stR
      rw [if_neg (by omega)]
    · rw [va_un q1, va_un (by omega), hF3]
      by_cases q3 : j = 3
      · subst q3
        rw [va_us, hL3]
        unfold msR
        rw [if_neg (by omega)]
      · rw [va_un q3]
  · rw [va_un (by omega), va_un (by omega), hF3, va_un (by omega)]
    exact hW.2.1 j a b
  · have hi' : i < ys.length := by omega
    obtain ⟨k0, k1, k2⟩ := hW.2.2 i hi'
    have e0 : va_up (va_up F3 4 (wkR F3 c (F1 4) (F3 3 c).toNat)) 1 (stR (F1 0) (F1 1) (wkR F3 c (F1 4) (F3 3 c).toNat) c ys.length) 0 = F1 0 := by rw [hF3]; rfl
    have e2 : va_up (va_up F3 4 (wkR F3 c (F1 4) (F3 3 c).toNat)) 1 (stR (F1 0) (F1 1) (wkR F3 c (F1 4) (F3 3 c).toNat) c ys.length) 2 = F1 2 := by rw [hF3]; rfl
    rw [e0, e2, va_us, hst i hi', k0, k2]
    unfold stR sx
    rw [hD i hi', k0, k1]
    by_cases q : (gN ys i).1 = 0 ∧ 500000 < (gN ys i).2.1
    · rw [if_pos q, if_pos ⟨by omega, by omega, q.1, q.2⟩]
      exact ⟨rfl, rfl, rfl⟩
    · rw [if_neg q, if_neg (fun z => q ⟨z.2.2.1, z.2.2.2⟩)]
      exact ⟨rfl, rfl, rfl⟩
