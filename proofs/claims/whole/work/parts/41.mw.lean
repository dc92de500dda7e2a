/-! THE WRITING PHASE: contracts by lists -/
theorem mv_post {l : Launch} {y : MethodName} {ws : List Cond} {rm : Room} {K : mv_K} {av : List Value} {M : mv_M} {p q : Option Value → mv_M → Prop} {mc ms : Nat} {fr : Addr → Prop} (h : Met l y ws rm (mv_Pre K av M) (mv_Q K p) mc ms fr) (k : ∀ v M', p v M' → q v M') : Met l y ws rm (mv_Pre K av M) (mv_Q K q) mc ms fr := by
  intro P e h1 h2 h3 s m args below e1 e2 e3 e4
  obtain ⟨n, o, a, b, c, ⟨⟨v, M', e, hp, r⟩, L⟩⟩ := h P e h1 h2 h3 s m args below e1 e2 e3 e4
  exact ⟨n, o, a, b, c, ⟨⟨v, M', e, k v M' hp, r⟩, L⟩⟩
/-- room: from lengths c1, l1 to c2, l2 it grows -/
def PL (c1 l1 c2 l2 : Nat) : Prop := pC c1 l1 ≤ pC c2 l2 ∧ pS c1 l1 ≤ pS c2 l2
theorem PL_le {c1 c2 l1 l2 : Nat} (h1 : c1 ≤ c2) (h2 : l1 ≤ l2) : PL c1 l1 c2 l2 := pC_le h1 h2
theorem PL.tr {c0 l0 c1 l1 c2 l2 : Nat} (h : PL c0 l0 c1 l1) (k : PL c1 l1 c2 l2) : PL c0 l0 c2 l2 := ⟨Nat.le_trans h.1 k.1, Nat.le_trans h.2 k.2⟩
theorem PL_c {c0 l0 c1 l1 c2 l2 c3 l3 : Nat} (h : PL c0 l0 c1 l1) (k : PL c1 l1 c2 l2) (m : PL c2 l2 c3 l3) : (pC c1 l1 - pC c0 l0) + (pC c2 l2 - pC c1 l1) ≤ pC c3 l3 - pC c0 l0 := by
  have := h.1; have := k.1; have := m.1; omega
theorem PL_s {c0 l0 c1 l1 c2 l2 c3 l3 : Nat} (h : PL c0 l0 c1 l1) (k : PL c1 l1 c2 l2) (m : PL c2 l2 c3 l3) : (pS c1 l1 - pS c0 l0) + (pS c2 l2 - pS c1 l1) ≤ pS c3 l3 - pS c0 l0 := by
  have := h.2; have := k.2; have := m.2; omega
theorem PL_c2 {c0 l0 c1 l1 c2 l2 : Nat} (h : PL c0 l0 c1 l1) (k : PL c1 l1 c2 l2) : (pC c1 l1 - pC c0 l0) + (pC c2 l2 - pC c1 l1) ≤ pC c2 l2 - pC c0 l0 := by
  have := h.1; have := k.1; omega
theorem PL_s2 {c0 l0 c1 l1 c2 l2 : Nat} (h : PL c0 l0 c1 l1) (k : PL c1 l1 c2 l2) : (pS c1 l1 - pS c0 l0) + (pS c2 l2 - pS c1 l1) ≤ pS c2 l2 - pS c0 l0 := by
  have := h.2; have := k.2; omega
theorem PL_0c {c0 l0 c1 l1 c3 l3 : Nat} (m : PL c1 l1 c3 l3) : (pC c1 l1 - pC c0 l0) + 0 ≤ pC c3 l3 - pC c0 l0 := by
  have := m.1; omega
theorem PL_0s {c0 l0 c1 l1 c3 l3 : Nat} (m : PL c1 l1 c3 l3) : (pS c1 l1 - pS c0 l0) + 0 ≤ pS c3 l3 - pS c0 l0 := by
  have := m.2; omega
/-- the arrays' length behind n nodes fits -/
def CK (cap c n : Nat) : Prop := c + n ≤ capL cap c n ∧ 1 ≤ capL cap c n ∧ capL cap c n ≤ 1000000
theorem CK_of {cap c n : Nat} (h1 : c ≤ cap) (h2 : 1 ≤ cap) (h3 : cap ≤ 1000000) (h4 : c + n ≤ 500000) : CK cap c n := ⟨capL_c h2 h1 n, Nat.le_trans h2 (capL_ge cap c n), capL_bd h3 n h4⟩
section MW
variable {l : Launch} {V : mv_V} {M : mv_M} {r cap lq c : Nat} {A : Nat → Nat} {F : Nat → Nat → Int} {tn gn : Int}
theorem mW_add (hC : RefC V M r A (rN cap lq) F (c : Nat) tn gn) (hcc : c ≤ cap) (hcap0 : 1 ≤ cap) (hcap : cap ≤ 1000000) {k v s : Int} (rk : Sm k) (rv : Sm v) (rs : Sm s) {Λ : Nat → Int} (hL : F 12 = Λ) : Met l y_Mod_add ws_Mod_add (rM 2 (pC (capL cap c ([(k, v, s)] : List Nd).length) lq - pC cap lq) (pS (capL cap c ([(k, v, s)] : List Nd).length) lq - pS cap lq) 70) (mv_Pre (kk V) [.ref r, .int (iI k), .int (iI v), .int (iI s)] M) (mv_Q (kk V) (fun z0 M' => z0 = some (.int (iI (c : Nat))) ∧ wrP V r cap lq lq F c tn gn [(k, v, s)] Λ M')) (pC (capL cap c ([(k, v, s)] : List Nd).length) lq - pC cap lq) (pS (capL cap c ([(k, v, s)] : List Nd).length) lq - pS cap lq) V.2.2.2.2 := by
  subst hL
  refine mv_post (m_Mod_add hC (by omega) (by omega) rk rv rs) (fun z M' h => ⟨h.1, wrP_F (n := 1) rfl ?_⟩)
  have h2 := h.2
  rw [show ((c : Nat) : Int).toNat = c by omega] at h2
  exact h2
theorem mW_made (hC : RefC V M r A (rN cap lq) F (c : Nat) tn gn) (hcc : c ≤ cap) (hcap0 : 1 ≤ cap) (hcap : cap ≤ 1000000) {v : Int} (rv : -10000000 ≤ v ∧ v ≤ 10000000) {Λ : Nat → Int} (hL : F 12 = Λ) : Met l y_Mod_made ws_Mod_made (rM 3 (pC (capL cap c ([((0 : Int), 1000000 + v, (0 : Int))] : List Nd).length) lq - pC cap lq) (pS (capL cap c ([((0 : Int), 1000000 + v, (0 : Int))] : List Nd).length) lq - pS cap lq) 100) (mv_Pre (kk V) [.ref r, .int (iI v)] M) (mv_Q (kk V) (fun z0 M' => z0 = none ∧ wrP V r cap lq lq F c tn gn [((0 : Int), 1000000 + v, (0 : Int))] Λ M')) (pC (capL cap c ([((0 : Int), 1000000 + v, (0 : Int))] : List Nd).length) lq - pC cap lq) (pS (capL cap c ([((0 : Int), 1000000 + v, (0 : Int))] : List Nd).length) lq - pS cap lq) V.2.2.2.2 := by
  subst hL
  exact mv_post (m_Mod_made hC hcc hcap0 rv hcap) (fun z M' h => ⟨h.1, wrP_F (n := 1) rfl h.2⟩)
theorem mW_apps (hC : RefC V M r A (rN cap lq) F (c : Nat) tn gn) (hcc : c ≤ cap) (hcap0 : 1 ≤ cap) (hcap : cap ≤ 1000000) {n : Nat} {m : Int} (hm : m = (n : Nat) ∧ n ≤ 1000000) (hnb : c + (apL n).length ≤ 500000) {Λ : Nat → Int} (hL : F 12 = Λ) : Met l y_Mod_applications ws_Mod_applications (rM 3 (pC (capL cap c (apL n).length) lq - pC cap lq) (pS (capL cap c (apL n).length) lq - pS cap lq) 100) (mv_Pre (kk V) [.ref r, .int (iI m)] M) (mv_Q (kk V) (fun z0 M' => z0 = none ∧ wrP V r cap lq lq F c tn gn (apL n) Λ M')) (pC (capL cap c (apL n).length) lq - pC cap lq) (pS (capL cap c (apL n).length) lq - pS cap lq) V.2.2.2.2 := by
  subst hL
  obtain ⟨rfl, hn⟩ := hm
  rw [apL_len] at hnb ⊢
  have h := m_Mod_applications (l := l) hC hcc hcap0 (n := ((n : Nat) : Int)) (by omega) (fun j hj => capL_bd hcap j (by omega))
  rw [Int.toNat_natCast] at h
  exact mv_post h (fun z M' h => ⟨h.1, wrP_F (n := n) (apL_len n) h.2⟩)
theorem mW_level (hC : RefC V M r A (rN cap lq) F (c : Nat) tn gn) (hcc : c ≤ cap) (hcap0 : 1 ≤ cap) (hcap : cap ≤ 1000000) {v : Nat} {z x : Int} (hz : z = (v : Nat)) (hv : v ≤ lq) (hl0 : 1 ≤ lq ∧ lq ≤ 1000000) (rx : Sm x) {Λ : Nat → Int} (hL : F 12 = Λ) : Met l y_Mod_level ws_Mod_level (rM 2 (pC (capL cap c ([] : List Nd).length) (lvN lq v) - pC cap lq) (pS (capL cap c ([] : List Nd).length) (lvN lq v) - pS cap lq) 70) (mv_Pre (kk V) [.ref r, .int (iI z), .int (iI x)] M) (mv_Q (kk V) (fun z0 M' => z0 = none ∧ wrP V r cap lq (lvN lq v) F c tn gn ([] : List Nd) (va_up Λ v x) M')) (pC (capL cap c ([] : List Nd).length) (lvN lq v) - pC cap lq) (pS (capL cap c ([] : List Nd).length) (lvN lq v) - pS cap lq) V.2.2.2.2 := by
  subst hL
  subst hz
  refine mv_post (m_Mod_level hC hcap hv hl0 rx) (fun z M' h => ⟨h.1, ?_⟩)
  obtain ⟨A', h2⟩ := h.2
  exact ⟨A', _, WR_s WR_nil (Or.inr rfl) _, va_us, h2⟩
/-- the piece at a place of a told list -/
theorem mW_piece (hC : RefC V M r A (rN cap lq) F (c : Nat) tn gn) (hcc : c ≤ cap) (hcap0 : 1 ≤ cap) (hcap : cap ≤ 1000000) {xs : List Nd} {b i ar : Nat} {Λ : Nat → Int} (hL : F 12 = Λ) (hs : seF F b xs) (hcp : Cpl xs) (hn : xs.length ≤ 1000) (hl : b + xs.length ≤ c) (hi : i < xs.length) (har : dpS xs i = (ar : Nat)) (hcl : Cls xs) (hlv : ∀ l : Nat, l < ar → -1000000 ≤ Λ l ∧ Λ l ≤ 1000000) (hlq : ar ≤ lq) (hnb : c + lnS xs i ≤ 500000) : Met l y_Mod_piece ws_Mod_piece (rM 4 (pC (capL cap c (pqS xs Λ (ar : Nat) i (lnS xs i)).length) lq - pC cap lq) (pS (capL cap c (pqS xs Λ (ar : Nat) i (lnS xs i)).length) lq - pS cap lq) 130) (mv_Pre (kk V) [.ref r, .int (iI ((b + i : Nat) : Int)), .int (iI ((ar : Nat) : Int))] M) (mv_Q (kk V) (fun z0 M' => z0 = none ∧ wrP V r cap lq lq F c tn gn (pqS xs Λ (ar : Nat) i (lnS xs i)) Λ M')) (pC (capL cap c (pqS xs Λ (ar : Nat) i (lnS xs i)).length) lq - pC cap lq) (pS (capL cap c (pqS xs Λ (ar : Nat) i (lnS xs i)).length) lq - pS cap lq) V.2.2.2.2 := by
  have l1 := lnS_ok hcp hi
  have e3 : F 3 (b + i) = (lnS xs i : Nat) := (hs i hi).2.2.2
  have hsc := sub_c hcp hi
  have hsl := sub_len hcp hi
  have hly : lyF F (b + i) (sub xs i) := by
    intro j hj
    rw [hsl] at hj
    rw [sub_at hj, sub_ln hcp hi hj, Nat.add_assoc]
    exact ⟨(hs (i + j) (by omega)).1, (hs (i + j) (by omega)).2.2.2⟩
  have hda := dp_bd hcp hi
  have hD : ∀ j : Nat, j < lnS xs i → wkR F (b + i) (F 4) (F 3 (b + i)).toNat (b + i + j) = dpS xs (i + j) - ar := by
    intro j hj
    rw [e3, Int.toNat_natCast, ← hsl, wkR_end hsc hly (F 4) (by rw [hsl]; exact hj), sub_dp hcp hi hj, har]
    omega
  have hpc : ∀ n, n ≤ lnS xs i → pcL F (wkR F (b + i) (F 4) (F 3 (b + i)).toNat) (ar : Nat) (b + i) n = pqS xs Λ (ar : Nat) i n := by
    intro n
    induction n with
    | zero => intro _; rfl
    | succ n ih =>
      intro hn'
      simp only [pcL, pqS]
      rw [ih (by omega)]
      congr 2
      unfold pcN pq
      obtain ⟨k0, k1, k2, k3⟩ := hs (i + n) (by omega)
      rw [hD n (by omega), Nat.add_assoc, k0, k1, k2, hL]
      by_cases q : (gN xs (i + n)).1 = 0 ∧ dpS xs (i + n) - 1 - (gN xs (i + n)).2.1 < (ar : Nat)
      · rw [if_pos ⟨q.1, by have := q.2; omega⟩, if_pos q]
        congr 5
        omega
      · rw [if_neg (fun g => q ⟨g.1, by have := g.2; omega⟩), if_neg q]
  have hw := WF_S hsc
  have h := m_Mod_piece (l := l) hC hcc hcap0 hcap (b := b + i) (ar := (ar : Nat)) (by rw [e3]; omega)
    (fun k hk h4 => by
      rw [e3] at hk
      have hk' : k < (sub xs i).length := by omega
      have h4' : 4 ≤ (gN (sub xs i) k).1 := by rw [← (hly k hk').1]; exact h4
      obtain ⟨w1, w2, w3⟩ := (hw k hk').2.2.2 h4'
      have e4 := (hly (k + 1) w1).2
      have es : scR F (((b + i : Nat) : Int) + (k : Nat)) = ((b + i + (k + 1 + lnS (sub xs i) (k + 1)) : Nat) : Int) := by
        unfold scR
        rw [show (((b + i : Nat) : Int) + (k : Nat) + 1).toNat = b + i + (k + 1) by omega, e4]
        omega
      rw [es]
      omega)
    (fun k hk => by
      rw [e3] at hk
      have hk' : k < (sub xs i).length := by omega
      have := dp_bd hsc hk'
      rw [wkR_at hsc hly (F 4) hk']
      omega)
    (by rw [e3]; omega) (by omega) (fun j hj => by rw [e3] at hj; exact capL_bd hcap j (by omega)) (fun j hj => by rw [hL]; exact hlv j (by omega))
    (fun k hk h0 hlo => by
      rw [e3] at hk
      have hk' : k < lnS xs i := by omega
      rw [hD k hk'] at hlo ⊢
      rw [Nat.add_assoc] at h0 hlo ⊢
      obtain ⟨k0, k1, k2, k3⟩ := hs (i + k) (by omega)
      have := hcl (i + k) (by omega) (by rw [← k0]; exact h0)
      rw [k1] at hlo ⊢
      omega)
  rw [hpc _ (by rw [e3]; omega), e3, Int.toNat_natCast] at h
  rw [pqS_len]
  refine mv_post h (fun z M' g => ⟨g.1, ?_⟩)
  obtain ⟨A', g2⟩ := g.2
  refine ⟨A', _, ?_, ?_, by rw [pqS_len]; exact g2⟩
  · have w := WR_F (pqS xs Λ (ar : Nat) i (lnS xs i)) (va_up F 4 (wkR F (b + i) (F 4) (lnS xs i))) c
    refine ⟨fun j x hj hx => ?_, fun j ha hb => ?_, w.2.2⟩
    · rw [w.1 j x hj hx, va_un (by omega)]
    · rw [w.2.1 j ha hb, va_un (by omega)]
  · rw [appF_ge (by omega), va_un (by omega)]; exact hL
end MW
