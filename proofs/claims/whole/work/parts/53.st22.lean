/-! the reference over the shared state: brings -/
theorem fbN_e {p : Nat → Bool} : ∀ {n : Nat}, (∃ j, j < n ∧ p j = true) → ∃ j, fbN p n = some j ∧ j < n ∧ p j = true
  | 0, ⟨j, hj, _⟩ => absurd hj (by omega)
  | n + 1, ⟨j, hj, hp⟩ => by
    simp only [fbN]
    by_cases q : ∃ i, i < n ∧ p i = true
    · obtain ⟨i, h1, h2, h3⟩ := fbN_e q
      rw [h1]
      exact ⟨i, rfl, by omega, h3⟩
    · have h0 : fbN p n = none := fbN_n.mpr (fun i hi => Bool.eq_false_iff.mpr (fun z => q ⟨i, hi, z⟩))
      have e : j = n := by
        apply Classical.byContradiction
        intro z
        exact q ⟨j, by omega, hp⟩
      subst e
      rw [h0]
      simp only
      rw [if_pos hp]
      exact ⟨j, rfl, by omega, hp⟩
theorem cnB_x {rc : Nat → Bool} : ∀ {n k : Nat}, k < cnB rc n → ∃ j, j < n ∧ rc j = true ∧ cnB rc j = k
  | 0, k, h => by simp [cnB] at h
  | n + 1, k, h => by
    simp only [cnB] at h
    by_cases q : k < cnB rc n
    · obtain ⟨j, h1, h2, h3⟩ := cnB_x q
      exact ⟨j, by omega, h2, h3⟩
    · by_cases z : rc n = true
      · rw [if_pos z] at h
        exact ⟨n, by omega, z, by omega⟩
      · rw [if_neg z] at h
        omega
/-- the argument that brings the k-th -/
def jxS (xs : List Nd) (nu : Int) (np ni n k : Nat) : Nat := (fbN (fun j => rcS xs nu np ni j && decide (cnB (rcS xs nu np ni) j = k)) n).getD 0
theorem jxS_ok {xs : List Nd} {nu : Int} {np ni n k : Nat} (h : k < cnB (rcS xs nu np ni) n) : jxS xs nu np ni n k < n ∧ rcS xs nu np ni (jxS xs nu np ni n k) = true ∧ cnB (rcS xs nu np ni) (jxS xs nu np ni n k) = k := by
  obtain ⟨j, h1, h2, h3⟩ := cnB_x h
  obtain ⟨i, g1, g2, g3⟩ := fbN_e (p := fun j => rcS xs nu np ni j && decide (cnB (rcS xs nu np ni) j = k)) ⟨j, h1, by rw [h2, h3]; simp⟩
  unfold jxS
  rw [g1]
  simp only [Bool.and_eq_true, decide_eq_true_eq] at g3
  exact ⟨g2, g3.1, g3.2⟩
def bgC (xs : List Nd) (np ni jx : Nat) : List Nd := brC xs np ((np + jx : Nat) : Int) 1 1 5 (((np + jx : Nat) : Int) + 1) 0 (rtS xs np jx) (nA xs (rtS xs np jx)) ni (ft xs (rtS xs np jx) + (np + ni) + 1 + np)
def bL (S : SS) (g k : Nat) : List Nd := bgC (S.2.1 (tl S g)) (S.2.2.2 g).2.2.1 (S.2.2.2 g).2.2.2.1 (jxS (S.2.1 (tl S g)) (((S.2.2.2 g).2.1 : Nat) : Int) (S.2.2.2 g).2.2.1 (S.2.2.2 g).2.2.2.1 (S.2.2.2 g).2.2.2.2.2.2.1 k)
abbrev okR (S : SS) (g k : Int) : Prop := okG S g ∧ (S.2.2.2 g.toNat).1 = 4 ∧ ((S.2.2.2 g.toNat).2.2.2.2.2.1).isSome = true ∧ 0 ≤ k ∧ k < (((S.2.2.2 g.toNat).2.2.2.2.2.2.2 : Nat) : Int)
def aBr (S : SS) (g k : Int) : Int := if okR S g k then aT S (bL S g.toNat k.toNat) else -1
def nBr (S : SS) (g k : Int) : SS := if okR S g k then nT S (bL S g.toNat k.toNat) else S
section MR5
variable {l : Launch} {V : mv_V} {M : mv_M} {r cap lq : Nat} {S : SS}
theorem bg_ok {xs : List Nd} {d np ni n jx : Nat} (hT : Told xs ((d : Nat) : Int) np ni n) (ho : AOk xs) (hj : jx < n) (hr : rcS xs ((d : Nat) : Int) np ni jx = true) {Λ : Nat → Int} (hL : ∀ l : Nat, l < np + jx → Λ l = -1 - (((np + jx : Nat) : Int) - l)) : TR [0] (brR xs Λ 5 (np + jx) 0 (-1) (-2 - ((np : Nat) : Int) - ((jx : Nat) : Int)) (rtS xs np jx) (nA xs (rtS xs np jx)) ni (ft xs (rtS xs np jx) + (np + ni) + 1 + np)) [] (bgC xs np ni jx) ∧ AOk (bgC xs np ni jx) ∧ (brR xs Λ 5 (np + jx) 0 (-1) (-2 - ((np : Nat) : Int) - ((jx : Nat) : Int)) (rtS xs np jx) (nA xs (rtS xs np jx)) ni (ft xs (rtS xs np jx) + (np + ni) + 1 + np)).length ≤ 3000 ∧ np + n ≤ 500 := by
  obtain ⟨b1, b2, b3, b4, b5, b6, b7, b8, b9, ⟨a, v, b10, b11⟩, b12⟩ := BrO_T hT hj hr
  have hb := hT.b
  have e3 := Bds_le hT.1 hb _ (Nat.le_refl _)
  have e4 := (Bds_ok hT.1 hb _ (Nat.le_refl _)).1
  have e5 := Bds_le hT.1 b8.1 _ (Nat.le_refl _)
  have e6 := (Bds_ok hT.1 b8.1 _ (Nat.le_refl _)).1
  have eh : (-2 - ((np : Nat) : Int) - ((jx : Nat) : Int)) = -2 - ((np + jx : Nat) : Int) := by omega
  have hg := AOk_gd ho
  refine ⟨?_, ?_, ?_, by omega⟩
  · rw [eh]
    have := TR_bg b1 hg b3 (Λ := Λ) b8.1 b7 b12 (by omega) hL (np : Nat)
    exact this
  · exact AOk_br b1 ho b3 b2 (Or.inl rfl) (by omega) (by omega) (by omega) (by omega) b8.1 (by omega) b12
  · have := brR_le hT.1 (Λ := Λ) (k := 5) (first := 0) (own := -1) (head := -2 - ((np : Nat) : Int) - ((jx : Nat) : Int)) (ar := np + jx) b8.1 b12
    have l1 := (lnS_ok hT.1 b6).2.1
    omega
theorem mR_brings (hP : RefP V M r cap lq S) (hK : RefK cap lq S) {g k : Int} (rg : R32 g) (rk : R32 k) : RCall l V M r cap lq y_Mod_brings ws_Mod_brings 7 240 [.ref r, .int (iI g), .int (iI k)] (aBr S g k) (nBr S g k) := by
  obtain ⟨A, F, hC, hF⟩ := id hP
  obtain ⟨K1, K2, K3, K4, K5, K6⟩ := id hK
  have hgt := hgtS hK
  have hc := K6.1.2.2.1
  -- what holds of a told constructor
  have key : okG S g → (S.2.2.2 g.toNat).1 = 4 → ((S.2.2.2 g.toNat).2.2.2.2.2.1).isSome = true → ∃ t, tl S g.toNat = t ∧ t < S.1 ∧ CoT (S.2.1 t) (S.2.2.2 g.toNat).2.1 (S.2.2.2 g.toNat).2.2.1 (S.2.2.2 g.toNat).2.2.2.1 (S.2.2.2 g.toNat).2.2.2.2.2.2.1 (S.2.2.2 g.toNat).2.2.2.2.2.2.2 ∧ seF F (bs S.2.1 t) (S.2.1 t) ∧ bs S.2.1 t + (S.2.1 t).length ≤ bs S.2.1 S.1 ∧ AOk (S.2.1 t) ∧ F 7 g.toNat = ((bs S.2.1 t : Nat) : Int) ∧ F 8 g.toNat = (((S.2.2.2 g.toNat).2.1 : Nat) : Int) ∧ F 9 g.toNat = (((S.2.2.2 g.toNat).2.2.1 : Nat) : Int) ∧ F 9 (S.2.2.2 g.toNat).2.1 = (((S.2.2.2 g.toNat).2.2.1 : Nat) : Int) ∧ F 10 (S.2.2.2 g.toNat).2.1 = (((S.2.2.2 g.toNat).2.2.2.1 : Nat) : Int) ∧ F 10 g.toNat = (((S.2.2.2 g.toNat).2.2.2.2.2.2.1 : Nat) : Int) ∧ (S.2.2.2 g.toNat).2.1 < 100 ∧ (S.2.2.2 g.toNat).2.2.1 + (S.2.2.2 g.toNat).2.2.2.1 ≤ 500 ∧ (S.2.2.2 g.toNat).2.2.1 + (S.2.2.2 g.toNat).2.2.2.2.2.2.1 ≤ 500 := fun q1 q2 q3 => by
    obtain ⟨t, ht⟩ := Option.isSome_iff_exists.mp q3
    obtain ⟨c1, c2, c3, c4, c5, c6, c7⟩ := con_b K6.1 (g := g.toNat) (by omega) q2
    obtain ⟨z1, z2⟩ := c6 t ht
    obtain ⟨t0, f1, f2, f3, f4, f5, f6, f7, f8, f9⟩ := fam_b K6.1 (g := (S.2.2.2 g.toNat).2.1) (by omega) c2
    obtain ⟨a, b⟩ := hF.1 t z1
    have ho := K6.1.2.2.2.1 t z1
    obtain ⟨-, k7, k8, k9, k10, -⟩ := hF.2 g.toNat (by omega)
    obtain ⟨-, -, -, m9, m10, -⟩ := hF.2 (S.2.2.2 g.toNat).2.1 (by omega)
    rw [ot_3 c2] at m10
    have hb := z2.1.b
    have e3 := Bds_le z2.1.1 hb _ (Nat.le_refl _)
    have e4 := (Bds_ok z2.1.1 hb _ (Nat.le_refl _)).1
    have e5 := z2.1.2.1
    refine ⟨t, tl_s ht, z1, z2, b, bs_in z1, ho.2.2.2, ?_, k8, k9, by rw [m9, c3], by rw [m10, c4], ?_, by have := K6.1.2.1; omega, by omega, by omega⟩
    · rw [k7]; unfold tbS; rw [ht]
    · rw [k10]; unfold otS; rw [if_pos q2, ht]
  unfold aBr nBr
  by_cases q : okR S g k
  · rw [if_pos q, if_pos q]
    obtain ⟨q1, q2, q3, q4, q5⟩ := q
    obtain ⟨d, rfl⟩ : ∃ d : Nat, g = ((d : Nat) : Int) := ⟨g.toNat, by have := q1.1; omega⟩
    obtain ⟨m, rfl⟩ : ∃ m : Nat, k = ((m : Nat) : Int) := ⟨k.toNat, by omega⟩
    simp only [Int.toNat_natCast] at q2 q3 q5 key ⊢
    obtain ⟨t, t1, t2, t3, t4, t5, t6, t7, t8, t9, t10, t11, t12, t13, t14, t15⟩ := key q1 q2 q3
    have hk : m < cnB (rcS (S.2.1 t) (((S.2.2.2 d).2.1 : Nat) : Int) (S.2.2.2 d).2.2.1 (S.2.2.2 d).2.2.2.1) (S.2.2.2 d).2.2.2.2.2.2.1 := by rw [← t3.2.1]; omega
    obtain ⟨j1, j2, j3⟩ := jxS_ok hk
    obtain ⟨jx, hjx⟩ : ∃ j, j = jxS (S.2.1 t) (((S.2.2.2 d).2.1 : Nat) : Int) (S.2.2.2 d).2.2.1 (S.2.2.2 d).2.2.2.1 (S.2.2.2 d).2.2.2.2.2.2.1 m := ⟨_, rfl⟩
    rw [← hjx] at j1 j2 j3
    have eL : bL S d m = bgC (S.2.1 t) (S.2.2.2 d).2.2.1 (S.2.2.2 d).2.2.2.1 jx := by unfold bL; rw [t1, hjx]
    rw [eL]
    obtain ⟨w1, w2, w3, w4⟩ := bg_ok t3.1 t6 j1 j2 (Λ := lvD (F 12) ((S.2.2.2 d).2.2.1 + jx) ((S.2.2.2 d).2.2.1 + jx)) (fun l hl => by unfold lvD; rw [if_pos hl])
    obtain ⟨e1, e2, e3, e4, e5⟩ := TR_end w1
    obtain ⟨N, hN⟩ : ∃ N, N = (brR (S.2.1 t) (lvD (F 12) ((S.2.2.2 d).2.2.1 + jx) ((S.2.2.2 d).2.2.1 + jx)) 5 ((S.2.2.2 d).2.2.1 + jx) 0 (-1) (-2 - (((S.2.2.2 d).2.2.1 : Nat) : Int) - ((jx : Nat) : Int)) (rtS (S.2.1 t) (S.2.2.2 d).2.2.1 jx) (nA (S.2.1 t) (rtS (S.2.1 t) (S.2.2.2 d).2.2.1 jx)) (S.2.2.2 d).2.2.2.1 (ft (S.2.1 t) (rtS (S.2.1 t) (S.2.2.2 d).2.2.1 jx) + ((S.2.2.2 d).2.2.1 + (S.2.2.2 d).2.2.2.1) + 1 + (S.2.2.2 d).2.2.1)).length := ⟨_, rfl⟩
    rw [← hN] at w3
    have g1 := capL_c K2 K1 N
    have g2 := capL_ge cap (bs S.2.1 S.1) N
    have br := BrO_T t3.1 j1 j2
    have hy1 := Bds_le t3.1.1 br.2.2.2.2.2.2.2.1.1 _ (Nat.le_refl _)
    have hy2 := (Bds_ok t3.1.1 br.2.2.2.2.2.2.2.1.1 _ (Nat.le_refl _)).1
    have hlen := t3.1.2.1
    obtain ⟨l1, l2, l3⟩ := lvS_ok (lq := lq) (v := 0) K4 (Nat.zero_le _) ((S.2.2.2 d).2.2.1 + jx)
    obtain ⟨l4, l5, l6⟩ := lvS_ok (lq := lvS lq 0 ((S.2.2.2 d).2.2.1 + jx)) (v := (S.2.2.2 d).2.2.1 + jx) (by omega) (by omega) (nA (S.2.1 t) (rtS (S.2.1 t) (S.2.2.2 d).2.2.1 jx))
    have l7 := l6 (l3 K5 (by omega)) (by omega)
    refine ⟨capL cap (bs S.2.1 S.1) N, lvS (lvS lq 0 ((S.2.2.2 d).2.2.1 + jx)) ((S.2.2.2 d).2.2.1 + jx) (nA (S.2.1 t) (rtS (S.2.1 t) (S.2.2.2 d).2.2.1 jx)), g2, by omega, RefK_T hK e2 (Cpl_1 e2) w2 (by rw [e3, ← hN]; exact g1) ⟨by omega, capL_b4 K3 _ (by omega)⟩ ⟨by omega, l7⟩, ?_⟩
    rw [hN]
    have k6 := (hF.2 d (by omega)).1
    refine mv_post (mV_brings hC K1 K2 (by omega) t4 t5 (g := d) t3.1 t3.2.2 br t6 j1 j2 j3 (by have := K6.1.2.1; omega) t13 hgt.1 (by omega) (by rw [k6]; exact q2) t7 t8 t9 t10 t11 t12 ⟨K4, K5⟩ (by omega) hgt.2 w1 w2 (Cpl_1 e1) (by rw [← hN]; omega)) (fun v M' g => ?_)
    refine ⟨by rw [g.1]; congr 3; exact aT_eq, nwT_S K6 hF (fun i hi => rfl) g.2⟩
  · rw [if_neg q, if_neg q]
    refine RCall_no hP hK (mN_brings hC (by omega) hgt rg rk (fun z => ?_))
    obtain ⟨z1, z2, z3, z4, z5⟩ := z
    obtain ⟨k6, k7, -⟩ := hF.2 g.toNat (by omega)
    rw [k6] at z3
    rw [k7, tb_n] at z4
    have hs : ((S.2.2.2 g.toNat).2.2.2.2.2.1).isSome = true := by
      cases h : (S.2.2.2 g.toNat).2.2.2.2.2.1 with
      | none => exact absurd h z4
      | some u => rfl
    obtain ⟨t, t1, t2, t3, t4, t5, t6, t7, t8, t9, t10, t11, t12, t13, t14, t15⟩ := key ⟨z1, z2⟩ z3 hs
    refine ⟨S.2.1 t, bs S.2.1 t, (S.2.2.2 g.toNat).2.1, (S.2.2.2 g.toNat).2.2.1, (S.2.2.2 g.toNat).2.2.2.1, (S.2.2.2 g.toNat).2.2.2.2.2.2.1, t4, by omega, t3.1, t3.2.2, t13, t7, t8, t9, t10, t11, t12, by omega, by omega, by omega, ?_⟩
    rw [← t3.2.1]
    apply Classical.byContradiction
    intro w
    exact q ⟨⟨z1, z2⟩, z3, hs, z5, by omega⟩
end MR5
