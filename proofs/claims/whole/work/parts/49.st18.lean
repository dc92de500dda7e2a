/-! THE REFERENCE OVER THE SHARED STATE -/
def TdL (S : SS) : Prop := ∀ g, g < S.2.2.1 → ∀ t, (S.2.2.2 g).2.2.2.2.2.1 = some t → t < S.1
def Jv (S : SS) : Prop := Iv S ∧ TdL S
theorem Jv_T {S : SS} (h : Jv S) {ys : List Nd} (hc : Cpl ys) (h1 : 1 ≤ ys.length) (ho : AOk ys) : Jv (nT S ys) := by
  refine ⟨Iv_T h.1 hc h1 ho, ?_⟩
  unfold nT
  by_cases q : okT S ys
  · rw [if_pos q]
    intro g hg t ht
    have := h.2 g hg t ht
    show t < S.1 + 1
    omega
  · rw [if_neg q]; exact h.2
theorem Jv_Ax {S : SS} (h : Jv S) : Jv (nAx S) := by
  refine ⟨Iv_Ax h.1, ?_⟩
  unfold nAx
  by_cases q : S.2.2.1 = 100
  · rw [if_pos q]; exact h.2
  · rw [if_neg q]
    intro g hg t ht
    have hg' : g < S.2.2.1 + 1 := hg
    have ht' : (va_up S.2.2.2 S.2.2.1 (0, S.2.2.1, 0, 0, 0, none, 0, 0) g).2.2.2.2.2.1 = some t := ht
    by_cases z : g = S.2.2.1
    · subst z; rw [va_us] at ht'; exact absurd ht' (by simp)
    · rw [va_un z] at ht'; exact h.2 g (by omega) t ht'
theorem Jv_Fm {S : SS} (h : Jv S) (t p k : Int) : Jv (nFm S t p k) := by
  refine ⟨Iv_Fm h.1 t p k, ?_⟩
  unfold nFm
  by_cases q : okF S t p k
  · rw [if_pos q]
    intro g hg u hu
    have hu' : (fmG S t p k g).2.2.2.2.2.1 = some u := hu
    have hg' : g < S.2.2.1 + 1 + k.toNat := hg
    show u < S.1
    unfold fmG at hu'
    by_cases z : g = S.2.2.1
    · rw [if_pos z] at hu'
      have : t.toNat = u := Option.some.inj hu'
      have := q.2.1
      omega
    · rw [if_neg z] at hu'
      by_cases z2 : S.2.2.1 < g ∧ g ≤ S.2.2.1 + k.toNat
      · rw [if_pos z2] at hu'; exact absurd hu' (by simp)
      · rw [if_neg z2] at hu'
        exact h.2 g (by omega) u hu'
  · rw [if_neg q]; exact h.2
theorem Jv_Co {S : SS} (h : Jv S) (g t : Int) : Jv (nCo S g t) := by
  refine ⟨Iv_Co h.1 g t, ?_⟩
  unfold nCo
  by_cases q : okC S g t ∧ bdC S g t = none
  · rw [if_pos q]
    intro x hx u hu
    have hu' : (va_up S.2.2.2 g.toNat (coG S g t) x).2.2.2.2.2.1 = some u := hu
    show u < S.1
    by_cases z : x = g.toNat
    · subst z
      rw [va_us] at hu'
      have : t.toNat = u := Option.some.inj hu'
      have := q.1.2.2.2.2.2.1
      omega
    · rw [va_un z] at hu'
      exact h.2 x hx u hu'
  · rw [if_neg q]; exact h.2
def tbS (S : SS) (g : Nat) : Int := match (S.2.2.2 g).2.2.2.2.2.1 with
  | some t => ((bs S.2.1 t : Nat) : Int)
  | none => -1
def otS (S : SS) (g : Nat) : Int := if (S.2.2.2 g).1 = 4 then (match (S.2.2.2 g).2.2.2.2.2.1 with
  | some _ => (((S.2.2.2 g).2.2.2.2.2.2.1 : Nat) : Int)
  | none => -1) else (((S.2.2.2 g).2.2.2.1 : Nat) : Int)
def cnG (S : SS) (g : Nat) : Int := if (S.2.2.2 g).1 = 3 then (((S.2.2.2 g).2.2.2.2.1 : Nat) : Int) else 0
def RFS (F : Nat → Nat → Int) (S : SS) : Prop := (∀ t, t < S.1 → F 5 t = ((bs S.2.1 t : Nat) : Int) ∧ seF F (bs S.2.1 t) (S.2.1 t)) ∧ (∀ g, g < S.2.2.1 → F 6 g = (S.2.2.2 g).1 ∧ F 7 g = tbS S g ∧ F 8 g = (((S.2.2.2 g).2.1 : Nat) : Int) ∧ F 9 g = (((S.2.2.2 g).2.2.1 : Nat) : Int) ∧ F 10 g = otS S g ∧ F 11 g = cnG S g)
def RefP (V : mv_V) (M : mv_M) (r cap lq : Nat) (S : SS) : Prop := ∃ A F, RefC V M r A (rN cap lq) F ((bs S.2.1 S.1 : Nat) : Int) ((S.1 : Nat) : Int) ((S.2.2.1 : Nat) : Int) ∧ RFS F S
def RefK (cap lq : Nat) (S : SS) : Prop := bs S.2.1 S.1 ≤ cap ∧ 1 ≤ cap ∧ cap ≤ 400000 ∧ 1 ≤ lq ∧ lq ≤ 4000 ∧ Jv S
theorem RFS_ag {F F' : Nat → Nat → Int} {S : SS} (h : RFS F S) (e1 : ∀ j x, j < 4 → x < bs S.2.1 S.1 → F' j x = F j x) (e2 : ∀ j, 5 ≤ j → j < 12 → F' j = F j) : RFS F' S := by
  refine ⟨fun t ht => ?_, fun g hg => ?_⟩
  · obtain ⟨a, b⟩ := h.1 t ht
    exact ⟨by rw [e2 5 (by omega) (by omega)]; exact a, seF_ag e1 (bs_in ht) b⟩
  · rw [e2 6 (by omega) (by omega), e2 7 (by omega) (by omega), e2 8 (by omega) (by omega), e2 9 (by omega) (by omega), e2 10 (by omega) (by omega), e2 11 (by omega) (by omega)]
    exact h.2 g hg
theorem capL_b4 {cap c : Nat} (h : cap ≤ 400000) : ∀ n, c + n ≤ 200000 → capL cap c n ≤ 400000
  | 0, _ => h
  | n + 1, hn => by
    have ih := capL_b4 (c := c) h n (by omega)
    show capN (capL cap c n) ((c + n : Nat) : Int) ≤ 400000
    unfold capN
    split <;> omega
/-- a term more: what nwT leaves is the next state -/
theorem nwT_S {V : mv_V} {M' : mv_M} {r cap' lq' : Nat} {F : Nat → Nat → Int} {S : SS} {ys : List Nd} {ℓ : Nat → Nat} (hJ : Jv S) (hF : RFS F S) (hℓ : ∀ i, i < ys.length → ℓ i = lnS ys i) (h : nwT V M' r cap' lq' F (bs S.2.1 S.1) ys ℓ ((S.1 : Nat) : Int) ((S.2.2.1 : Nat) : Int)) : RefP V M' r cap' lq' (nT S ys) := by
  obtain ⟨A', F', e1, e2, h⟩ := h
  unfold nT
  rcases h with ⟨hb, h5, hC⟩ | ⟨hb, h5, hn, hC⟩
  · rw [if_neg (by intro q; omega)]
    refine ⟨A', F', hC, RFS_ag hF e1 (fun j a b => ?_)⟩
    by_cases q : j = 5
    · subst q; exact h5
    · exact e2 j (by omega) b
  · rw [if_pos (by omega)]
    have eb : bs (va_up S.2.1 S.1 ys) S.1 = bs S.2.1 S.1 := bs_cg (fun u hu => va_un (by omega))
    refine ⟨A', F', ?_, ?_⟩
    · show RefC V M' r A' (rN cap' lq') F' ((bs (va_up S.2.1 S.1 ys) (S.1 + 1) : Nat) : Int) ((S.1 + 1 : Nat) : Int) _
      simp only [bs]
      rw [eb, va_us]
      exact hC
    · refine ⟨fun t ht => ?_, fun g hg => ?_⟩
      · show F' 5 t = ((bs (va_up S.2.1 S.1 ys) t : Nat) : Int) ∧ seF F' (bs (va_up S.2.1 S.1 ys) t) (va_up S.2.1 S.1 ys t)
        have ht' : t < S.1 + 1 := ht
        rw [bs_cg (X := S.2.1) (Y := va_up S.2.1 S.1 ys) (t := t) (fun u hu => va_un (by omega)), h5, Int.toNat_natCast]
        by_cases q : t = S.1
        · subst q
          rw [va_us, va_us]
          exact ⟨rfl, fun i hi => by rw [← hℓ i hi]; exact hn i hi⟩
        · rw [va_un q, va_un q]
          obtain ⟨a, b⟩ := hF.1 t (by omega)
          exact ⟨a, seF_ag e1 (bs_in (by omega)) b⟩
      · have hg' : g < S.2.2.1 := hg
        have key := hF.2 g hg'
        rw [e2 6 (by omega) (by omega), e2 7 (by omega) (by omega), e2 8 (by omega) (by omega), e2 9 (by omega) (by omega), e2 10 (by omega) (by omega), e2 11 (by omega) (by omega)]
        refine ⟨key.1, ?_, key.2.2.1, key.2.2.2.1, key.2.2.2.2.1, key.2.2.2.2.2⟩
        rw [key.2.1]
        unfold tbS
        simp only
        cases hq : (S.2.2.2 g).2.2.2.2.2.1 with
        | none => rfl
        | some u =>
          simp only
          have z := hJ.2 g hg' u hq
          rw [bs_cg (X := S.2.1) (Y := va_up S.2.1 S.1 ys) (t := u) (fun w hw => va_un (by omega))]
/-- the refused call -/
theorem no_S {l : Launch} {V : mv_V} {M : mv_M} {r cap lq : Nat} {S : SS} {y : MethodName} {ws : List Cond} {fr lo : Nat} {av : List Value} {z : Int} (hP : RefP V M r cap lq S) (h : Met l y ws (rM fr 0 0 lo) (mv_Pre (kk V) av M) (mv_Q (kk V) (mv_R (some (.int (iI z))) M)) 0 0 V.2.2.2.2) : Met l y ws (rM fr (pC cap lq - pC cap lq) (pS cap lq - pS cap lq) lo) (mv_Pre (kk V) av M) (mv_Q (kk V) (fun z0 M' => z0 = some (.int (iI z)) ∧ RefP V M' r cap lq S)) (pC cap lq - pC cap lq) (pS cap lq - pS cap lq) V.2.2.2.2 := by
  rw [Nat.sub_self, Nat.sub_self]
  exact mv_post h (fun v M' g => ⟨g.1, by rw [g.2]; exact hP⟩)
/-- what a call of the reference does: ans the answer, S' the next state -/
def RCall (l : Launch) (V : mv_V) (M : mv_M) (r cap lq : Nat) (y : MethodName) (ws : List Cond) (fr lo : Nat) (av : List Value) (ans : Int) (S' : SS) : Prop := ∃ cap' lq', cap ≤ cap' ∧ lq ≤ lq' ∧ RefK cap' lq' S' ∧ Met l y ws (rM fr (pC cap' lq' - pC cap lq) (pS cap' lq' - pS cap lq) lo) (mv_Pre (kk V) av M) (mv_Q (kk V) (fun z0 M' => z0 = some (.int (iI ans)) ∧ RefP V M' r cap' lq' S')) (pC cap' lq' - pC cap lq) (pS cap' lq' - pS cap lq) V.2.2.2.2
theorem RCall_no {l : Launch} {V : mv_V} {M : mv_M} {r cap lq : Nat} {S : SS} {y : MethodName} {ws : List Cond} {fr lo : Nat} {av : List Value} {z : Int} (hP : RefP V M r cap lq S) (hK : RefK cap lq S) (h : Met l y ws (rM fr 0 0 lo) (mv_Pre (kk V) av M) (mv_Q (kk V) (mv_R (some (.int (iI z))) M)) 0 0 V.2.2.2.2) : RCall l V M r cap lq y ws fr lo av z S := ⟨cap, lq, Nat.le_refl _, Nat.le_refl _, hK, no_S hP h⟩
/-- a call that costs nothing, with another state behind it -/
theorem RCall_0 {l : Launch} {V : mv_V} {M : mv_M} {r cap lq : Nat} {S' : SS} {y : MethodName} {ws : List Cond} {fr lo : Nat} {av : List Value} {z : Int} {p : Option Value → mv_M → Prop} (hK : RefK cap lq S') (h : Met l y ws (rM fr 0 0 lo) (mv_Pre (kk V) av M) (mv_Q (kk V) p) 0 0 V.2.2.2.2) (k : ∀ v M', p v M' → v = some (.int (iI z)) ∧ RefP V M' r cap lq S') : RCall l V M r cap lq y ws fr lo av z S' := by
  refine ⟨cap, lq, Nat.le_refl _, Nat.le_refl _, hK, ?_⟩
  rw [Nat.sub_self, Nat.sub_self]
  exact mv_post h k
theorem aT_eq {S : SS} {ys : List Nd} : (if (((S.1 : Nat) : Int) = 1500 ∨ 1000 < ys.length ∨ 30000 < bs S.2.1 S.1 + ys.length) then (-1 : Int) else ((S.1 : Nat) : Int)) = aT S ys := by
  unfold aT
  by_cases q : okT S ys
  · rw [if_neg (by omega), if_pos q]
  · rw [if_pos (by omega), if_neg q]
theorem RefK_T {cap lq cap' lq' : Nat} {S : SS} (h : RefK cap lq S) {ys : List Nd} (hc : Cpl ys) (h1 : 1 ≤ ys.length) (ho : AOk ys) (k1 : bs S.2.1 S.1 + ys.length ≤ cap') (k2 : 1 ≤ cap' ∧ cap' ≤ 400000) (k3 : 1 ≤ lq' ∧ lq' ≤ 4000) : RefK cap' lq' (nT S ys) := by
  refine ⟨?_, k2.1, k2.2, k3.1, k3.2, Jv_T h.2.2.2.2.2 hc h1 ho⟩
  unfold nT
  by_cases q : okT S ys
  · rw [if_pos q]
    show bs (va_up S.2.1 S.1 ys) (S.1 + 1) ≤ cap'
    simp only [bs]
    rw [bs_cg (X := S.2.1) (fun u hu => va_un (by omega)), va_us]
    exact k1
  · rw [if_neg q]; omega
section MR
variable {l : Launch} {V : mv_V} {M : mv_M} {r cap lq : Nat} {S : SS}
/-! leaf -/
abbrev okL (S : SS) (k a b : Int) : Prop := (((k = 0 ∨ k = 2) ∧ 0 ≤ a ∧ a ≤ 100 ∧ b = 0) ∨ (k = 1 ∧ 0 ≤ a ∧ a < ((S.2.2.1 : Nat) : Int) ∧ b = 0) ∨ (k = 3 ∧ 0 ≤ a ∧ a < ((S.2.2.1 : Nat) : Int) ∧ (S.2.2.2 a.toNat).1 = 3 ∧ 0 ≤ b ∧ b ≤ 100))
def aLf (S : SS) (k a b : Int) : Int := if okL S k a b then aT S [(k, a, b)] else -1
def nLf (S : SS) (k a b : Int) : SS := if okL S k a b then nT S [(k, a, b)] else S
theorem lf_ok {k a b : Int} (h : okL S k a b) (hg : S.2.2.1 ≤ 100) : Cpl [(k, a, b)] ∧ AOk [(k, a, b)] ∧ lnS [(k, a, b)] 0 = 1 := by
  have hk : k < 4 := by omega
  refine ⟨?_, AOk_1 ⟨by simp only; omega, by simp only; omega, by simp only; omega, fun q => ?_⟩, ?_⟩
  · show rn [0] [(k, a, b)] = some []
    rw [rn_1, if_pos hk]
  · simp only at q ⊢
    omega
  · show (if k < 4 then 1 else _) = 1
    rw [if_pos hk]
theorem mR_leaf (hP : RefP V M r cap lq S) (hK : RefK cap lq S) {k a b : Int} (rk : R32 k) (ra : R32 a) (rb : R32 b) : RCall l V M r cap lq y_Mod_leaf ws_Mod_leaf 3 110 [.ref r, .int (iI k), .int (iI a), .int (iI b)] (aLf S k a b) (nLf S k a b) := by
  obtain ⟨A, F, hC, hF⟩ := id hP
  obtain ⟨K1, K2, K3, K4, K5, K6⟩ := id hK
  have hI := K6.1
  have hgt : (0 ≤ ((S.2.2.1 : Nat) : Int) ∧ ((S.2.2.1 : Nat) : Int) ≤ 100) ∧ 0 ≤ ((S.1 : Nat) : Int) ∧ ((S.1 : Nat) : Int) ≤ 1500 := by have := hI.1; have := hI.2.1; omega
  have e6 : (((k = 0 ∨ k = 2) ∧ 0 ≤ a ∧ a ≤ 100 ∧ b = 0) ∨ (k = 1 ∧ 0 ≤ a ∧ a < ((S.2.2.1 : Nat) : Int) ∧ b = 0) ∨ (k = 3 ∧ 0 ≤ a ∧ a < ((S.2.2.1 : Nat) : Int) ∧ F 6 a.toNat = 3 ∧ 0 ≤ b ∧ b ≤ 100)) ↔ okL S k a b := by
    constructor
    · intro q
      rcases q with q | q | q
      · exact Or.inl q
      · exact Or.inr (Or.inl q)
      · rw [(hF.2 a.toNat (by omega)).1] at q
        exact Or.inr (Or.inr q)
    · intro q
      rcases q with q | q | q
      · exact Or.inl q
      · exact Or.inr (Or.inl q)
      · rw [← (hF.2 a.toNat (by omega)).1] at q
        exact Or.inr (Or.inr q)
  unfold aLf nLf
  by_cases q : okL S k a b
  · rw [if_pos q, if_pos q]
    obtain ⟨c1, c2, c3⟩ := lf_ok q hI.2.1
    have g1 := capL_c K2 K1 1
    have g2 := capL_ge cap (bs S.2.1 S.1) 1
    refine ⟨capL cap (bs S.2.1 S.1) 1, lq, g2, Nat.le_refl _, RefK_T hK c1 (by simp) c2 (by simpa using g1) ⟨by omega, capL_b4 K3 1 (by have := hI.2.2.1; omega)⟩ ⟨K4, K5⟩, ?_⟩
    refine mv_post (m_Mod_leaf hC K1 K2 (by omega) hgt rk ra rb) (fun v M' g => ?_)
    obtain ⟨g1, g2⟩ := g
    rw [if_pos (e6.mpr q)] at g1
    refine ⟨by rw [g1]; congr 3; exact aT_eq (ys := [(k, a, b)]), ?_⟩
    rcases g2 with ⟨g2, -⟩ | ⟨-, A', g3⟩
    · exact absurd (e6.mpr q) g2
    · exact nwT_S K6 hF (fun i hi => by
        have : i = 0 := by simp at hi; omega
        subst this
        exact c3.symm) (nwT_of rfl (WR_F [(k, a, b)] F (bs S.2.1 S.1)) g3)
  · rw [if_neg q, if_neg q]
    exact RCall_no hP hK (mN_leaf hC (by omega) hgt rk ra rb (fun z => q (e6.mp z)))
/-! apply, binder -/
theorem Cpl_any {xs : List Nd} (h : Cpl xs) (d : Int) (σ : List Int) : rn (d :: σ) xs = some σ := by
  have h1 := rn_low σ _ _ _ (rn_shf d _ _ _ h)
  have h2 : rn ((0 + d) :: σ) xs = some σ := h1
  rw [show (0 : Int) + d = d by omega] at h2
  exact h2
theorem sgL_at {F : Nat → Nat → Int} {b : Nat} : ∀ {n i : Nat}, i < n → gN (sgL F b n) i = (F 0 (b + i), F 1 (b + i), F 2 (b + i))
  | 0, i, h => absurd h (by omega)
  | n + 1, i, h => by
    simp only [sgL]
    by_cases q : i < n
    · rw [gN_l (by rw [sgL_len]; exact q)]; exact sgL_at q
    · have := sgL_len F b n
      rw [show i = (sgL F b n).length + 0 by omega, gN_r, gN_1, this]
      rfl
theorem sgL_S {F : Nat → Nat → Int} {b : Nat} {xs : List Nd} (h : seF F b xs) : sgL F b xs.length = xs := by
  apply gN_ext (sgL_len _ _ _)
  intro i hi
  rw [sgL_len] at hi
  obtain ⟨k0, k1, k2, -⟩ := h i hi
  rw [sgL_at hi, k0, k1, k2]
theorem tw_c {xa xb : List Nd} (ha : Cpl xa) (hb : Cpl xb) {k v : Int} (hk : 4 ≤ k) : Cpl ((k, v, 0) :: (xa ++ xb)) := by
  show rn (if k < 4 then [] else 0 :: (if k = 4 then 0 else 0 + 1) :: []) (xa ++ xb) = some []
  rw [if_neg (by omega)]
  exact rn_a (Cpl_any ha _ _) (Cpl_any hb _ _)
theorem ln_0 {xs : List Nd} (hc : Cpl xs) (h : 1 ≤ xs.length) : lnS xs 0 = xs.length := by
  have : sk xs 0 = [0] := by unfold sk; simp [rn]
  have k := sk_j hc (i := 0) (by omega) this
  have l2 := lnS_ok hc (i := 0) (by omega)
  by_cases q : lnS xs 0 < xs.length
  · obtain ⟨d2, σ2, -, e3, -, -⟩ := sk_ok hc (i := 0 + lnS xs 0) (by omega)
    rw [k] at e3
    exact absurd e3 (by simp)
  · omega
def twL (S : SS) (k v a b : Int) : List Nd := (k, v, 0) :: (S.2.1 a.toNat ++ S.2.1 b.toNat)
abbrev okB (S : SS) (a b : Int) : Prop := 0 ≤ a ∧ a < ((S.1 : Nat) : Int) ∧ 0 ≤ b ∧ b < ((S.1 : Nat) : Int)
theorem tw_ok (hJ : Jv S) {k v a b : Int} (hk : 4 ≤ k ∧ k ≤ 6) (hv : -1 ≤ v ∧ v < 100) (h : okB S a b) : Cpl (twL S k v a b) ∧ AOk (twL S k v a b) ∧ (twL S k v a b).length = 1 + (S.2.1 a.toNat).length + (S.2.1 b.toNat).length ∧ (S.2.1 a.toNat).length ≤ 1000 ∧ (S.2.1 b.toNat).length ≤ 1000 := by
  have ha := hJ.1.2.2.2.1 a.toNat (by omega)
  have hb := hJ.1.2.2.2.1 b.toNat (by omega)
  refine ⟨tw_c ha.1 hb.1 hk.1, ?_, ?_, ha.2.2.1, hb.2.2.1⟩
  · exact AOk_a (xs := [(k, v, 0)]) (AOk_1 ⟨by simp only; omega, by simp only; omega, by simp, fun q => by simp only at q; omega⟩) (AOk_a ha.2.2.2 hb.2.2.2)
  · unfold twL
    simp only [List.length_cons, List.length_append]
    omega
/-- the premises of two, for the state -/
theorem tw_pr (hJ : Jv S) {F : Nat → Nat → Int} (hF : RFS F S) (hc3 : cap ≤ 1000000) {k v a b : Int} (hk : 4 ≤ k ∧ k ≤ 6) (hv : -1 ≤ v ∧ v < 100) (h : okB S a b) : F 5 a.toNat = ((bs S.2.1 a.toNat : Nat) : Int) ∧ F 5 b.toNat = ((bs S.2.1 b.toNat : Nat) : Int) ∧ F 3 (bs S.2.1 a.toNat) = (((S.2.1 a.toNat).length : Nat) : Int) ∧ F 3 (bs S.2.1 b.toNat) = (((S.2.1 b.toNat).length : Nat) : Int) ∧ (bs S.2.1 a.toNat + (S.2.1 a.toNat).length ≤ bs S.2.1 S.1 ∧ bs S.2.1 a.toNat < bs S.2.1 S.1) ∧ (bs S.2.1 b.toNat + (S.2.1 b.toNat).length ≤ bs S.2.1 S.1 ∧ bs S.2.1 b.toNat < bs S.2.1 S.1) ∧ (∀ j : Nat, j ≤ (1 + (S.2.1 a.toNat).length + (S.2.1 b.toNat).length) → capL cap (bs S.2.1 S.1) j ≤ 1000000) ∧ ((1 + (S.2.1 a.toNat).length + (S.2.1 b.toNat).length) ≤ 1000 → WF (1 + (S.2.1 a.toNat).length + (S.2.1 b.toNat).length) (fun j => (gN ((k, v, 0) :: (sgL F (bs S.2.1 a.toNat) (S.2.1 a.toNat).length ++ sgL F (bs S.2.1 b.toNat) (S.2.1 b.toNat).length)) j).1) (lnS (twL S k v a b))) := by
  obtain ⟨t1, t2, t3, t4, t5⟩ := tw_ok hJ hk hv h
  obtain ⟨a1, a2⟩ := hF.1 a.toNat (by omega)
  obtain ⟨b1, b2⟩ := hF.1 b.toNat (by omega)
  have ha := hJ.1.2.2.2.1 a.toNat (by omega)
  have hb := hJ.1.2.2.2.1 b.toNat (by omega)
  have i1 := bs_in (X := S.2.1) (s := a.toNat) (t := S.1) (by omega)
  have i2 := bs_in (X := S.2.1) (s := b.toNat) (t := S.1) (by omega)
  have l1 := ha.2.1
  have l2 := hb.2.1
  have c1 := hJ.1.2.2.1
  have f1 := (a2 0 (by omega)).2.2.2
  have f2 := (b2 0 (by omega)).2.2.2
  rw [Nat.add_zero, ln_0 ha.1 l1] at f1
  rw [Nat.add_zero, ln_0 hb.1 l2] at f2
  refine ⟨a1, b1, f1, f2, by omega, by omega, fun j hj => capL_bd hc3 j (by omega), fun _ => ?_⟩
  rw [sgL_S a2, sgL_S b2, ← t3]
  exact WF_S t1
def aTw (S : SS) (k v a b : Int) : Int := if okB S a b then aT S (twL S k v a b) else -1
def nTw (S : SS) (k v a b : Int) : SS := if okB S a b then nT S (twL S k v a b) else S
theorem mR_apply (hP : RefP V M r cap lq S) (hK : RefK cap lq S) {a b : Int} (ra : R32 a) (rb : R32 b) : RCall l V M r cap lq y_Mod_apply ws_Mod_apply 5 170 [.ref r, .int (iI a), .int (iI b)] (aTw S 4 0 a b) (nTw S 4 0 a b) := by
  obtain ⟨A, F, hC, hF⟩ := id hP
  obtain ⟨K1, K2, K3, K4, K5, K6⟩ := id hK
  have hI := K6.1
  have hgt : (0 ≤ ((S.2.2.1 : Nat) : Int) ∧ ((S.2.2.1 : Nat) : Int) ≤ 100) ∧ 0 ≤ ((S.1 : Nat) : Int) ∧ ((S.1 : Nat) : Int) ≤ 1500 := by have := hI.1; have := hI.2.1; omega
  unfold aTw nTw
  by_cases q : okB S a b
  · rw [if_pos q, if_pos q]
    obtain ⟨t1, t2, t3, t4, t5⟩ := tw_ok K6 (k := 4) (v := 0) (by omega) (by omega) q
    have g1 := capL_c K2 K1 (1 + (S.2.1 a.toNat).length + (S.2.1 b.toNat).length)
    have g2 := capL_ge cap (bs S.2.1 S.1) (1 + (S.2.1 a.toNat).length + (S.2.1 b.toNat).length)
    refine ⟨capL cap (bs S.2.1 S.1) (1 + (S.2.1 a.toNat).length + (S.2.1 b.toNat).length), lq, g2, Nat.le_refl _, RefK_T hK t1 (by omega) t2 (by rw [t3]; exact g1) ⟨by omega, capL_b4 K3 _ (by have := hI.2.2.1; omega)⟩ ⟨K4, K5⟩, ?_⟩
    have pr := tw_pr K6 hF (cap := cap) (by omega) (k := 4) (v := 0) (by omega) (by omega) q
    obtain ⟨a1, a2⟩ := hF.1 a.toNat (by omega)
    obtain ⟨b1, b2⟩ := hF.1 b.toNat (by omega)
    refine mv_post (m_Mod_apply hC K1 K2 (by omega) ra rb hgt.2 (fun _ => pr)) (fun v M' g => ?_)
    obtain ⟨g1, g2⟩ := g
    rw [if_pos q, ← t3] at g1
    refine ⟨by rw [g1]; congr 3; exact aT_eq, ?_⟩
    rcases g2 with ⟨g2, -⟩ | ⟨-, g3⟩
    · exact absurd q g2
    · rw [sgL_S a2, sgL_S b2] at g3
      exact nwT_S K6 hF (fun i hi => rfl) g3
  · rw [if_neg q, if_neg q]
    exact RCall_no hP hK (mN_apply hC (by omega) hgt ra rb q)
def aBi (S : SS) (k v a b : Int) : Int := if (k = 5 ∨ k = 6) ∧ -1 ≤ v ∧ v < 100 then aTw S k v a b else -1
def nBi (S : SS) (k v a b : Int) : SS := if (k = 5 ∨ k = 6) ∧ -1 ≤ v ∧ v < 100 then nTw S k v a b else S
theorem mR_binder (hP : RefP V M r cap lq S) (hK : RefK cap lq S) {k v a b : Int} (rk : R32 k) (rv : R32 v) (ra : R32 a) (rb : R32 b) : RCall l V M r cap lq y_Mod_binder ws_Mod_binder 5 170 [.ref r, .int (iI k), .int (iI v), .int (iI a), .int (iI b)] (aBi S k v a b) (nBi S k v a b) := by
  obtain ⟨A, F, hC, hF⟩ := id hP
  obtain ⟨K1, K2, K3, K4, K5, K6⟩ := id hK
  have hI := K6.1
  have hgt : (0 ≤ ((S.2.2.1 : Nat) : Int) ∧ ((S.2.2.1 : Nat) : Int) ≤ 100) ∧ 0 ≤ ((S.1 : Nat) : Int) ∧ ((S.1 : Nat) : Int) ≤ 1500 := by have := hI.1; have := hI.2.1; omega
  by_cases q : ((k = 5 ∨ k = 6) ∧ -1 ≤ v ∧ v < 100) ∧ okB S a b
  · have ea : aBi S k v a b = aT S (twL S k v a b) := by unfold aBi aTw; rw [if_pos q.1, if_pos q.2]
    have en : nBi S k v a b = nT S (twL S k v a b) := by unfold nBi nTw; rw [if_pos q.1, if_pos q.2]
    rw [ea, en]
    obtain ⟨t1, t2, t3, t4, t5⟩ := tw_ok K6 (k := k) (v := v) (by omega) (by omega) q.2
    have g1 := capL_c K2 K1 (1 + (S.2.1 a.toNat).length + (S.2.1 b.toNat).length)
    have g2 := capL_ge cap (bs S.2.1 S.1) (1 + (S.2.1 a.toNat).length + (S.2.1 b.toNat).length)
    refine ⟨capL cap (bs S.2.1 S.1) (1 + (S.2.1 a.toNat).length + (S.2.1 b.toNat).length), lq, g2, Nat.le_refl _, RefK_T hK t1 (by omega) t2 (by rw [t3]; exact g1) ⟨by omega, capL_b4 K3 _ (by have := hI.2.2.1; omega)⟩ ⟨K4, K5⟩, ?_⟩
    have pr := tw_pr K6 hF (cap := cap) (by omega) (k := k) (v := v) (by omega) (by omega) q.2
    obtain ⟨a1, a2⟩ := hF.1 a.toNat (by omega)
    obtain ⟨b1, b2⟩ := hF.1 b.toNat (by omega)
    refine mv_post (m_Mod_binder hC K1 K2 (by omega) rk rv ra rb hgt.2 (fun _ => pr)) (fun z M' g => ?_)
    obtain ⟨g1, g2⟩ := g
    rw [if_pos ⟨q.1.1, q.1.2.1, q.1.2.2, q.2⟩, ← t3] at g1
    refine ⟨by rw [g1]; congr 3; exact aT_eq, ?_⟩
    rcases g2 with ⟨g2, -⟩ | ⟨-, g3⟩
    · exact absurd ⟨q.1.1, q.1.2.1, q.1.2.2, q.2⟩ g2
    · rw [sgL_S a2, sgL_S b2] at g3
      exact nwT_S K6 hF (fun i hi => rfl) g3
  · have ea : aBi S k v a b = -1 := by
      unfold aBi aTw
      by_cases z : (k = 5 ∨ k = 6) ∧ -1 ≤ v ∧ v < 100
      · rw [if_pos z, if_neg (fun w => q ⟨z, w⟩)]
      · rw [if_neg z]
    have en : nBi S k v a b = S := by
      unfold nBi nTw
      by_cases z : (k = 5 ∨ k = 6) ∧ -1 ≤ v ∧ v < 100
      · rw [if_pos z, if_neg (fun w => q ⟨z, w⟩)]
      · rw [if_neg z]
    rw [ea, en]
    exact RCall_no hP hK (mN_binder hC (by omega) hgt rk rv ra rb (fun z => q ⟨⟨z.1, z.2.1, z.2.2.1⟩, z.2.2.2⟩))
end MR
