/-! the reference over the shared state: brings, size, type -/
def tl (S : SS) (g : Nat) : Nat := ((S.2.2.2 g).2.2.2.2.2.1).getD 0
def cdG (S : SS) (g : Nat) : Nat → CD := fun k => cdS (S.2.1 (tl S (g + 1 + k))) ((g : Nat) : Int) (S.2.2.2 g).2.2.1 (S.2.2.2 g).2.2.2.1 (S.2.2.2 (g + 1 + k)).2.2.2.2.2.2.1
abbrev ncG (g : Nat) : Nat → Int := fun k => ((g + 1 + k : Nat) : Int)
abbrev okW (S : SS) (g : Int) : Prop := okG S g ∧ (S.2.2.2 g.toNat).1 = 3 ∧ ∀ i, i < (S.2.2.2 g.toNat).2.2.2.2.1 → ((S.2.2.2 (g.toNat + 1 + i)).2.2.2.2.2.1).isSome = true
def wL (S : SS) (g : Nat) (s : Int) : List Nd := wtC (S.2.1 (tl S g)) (cdG S g) (S.2.2.2 g).2.2.1 (S.2.2.2 g).2.2.2.1 (S.2.2.2 g).2.2.2.2.1 ((g : Nat) : Int) s (ncG g)
def aSz (S : SS) (g : Int) : Int := if okW S g then (((wL S g.toNat 0).length : Nat) : Int) else -1
def aTy (S : SS) (g s : Int) : Int := if okW S g ∧ 0 ≤ s ∧ s ≤ 100 then aT S (wL S g.toNat s) else -1
def nTy (S : SS) (g s : Int) : SS := if okW S g ∧ 0 ≤ s ∧ s ≤ 100 then nT S (wL S g.toNat s) else S
theorem wlB_i {F : Nat → Nat → Int} {g : Nat} : ∀ {n : Nat}, wlB F g n = true ↔ ∀ i, i < n → ¬ F 7 (g + i + 1) = -1
  | 0 => ⟨fun _ i hi => absurd hi (by omega), fun _ => rfl⟩
  | n + 1 => by
    have ih := wlB_i (F := F) (g := g) (n := n)
    simp only [wlB, Bool.and_eq_true, Bool.not_eq_true', decide_eq_false_iff_not]
    rw [ih]
    constructor
    · intro ⟨a, b⟩ i hi
      by_cases e : i = n
      · subst e; exact b
      · exact a i (by omega)
    · intro h
      exact ⟨fun i hi => h i (by omega), h n (by omega)⟩
theorem Cpl_1 {xs : List Nd} (h : Cpl xs) : 1 ≤ xs.length := by
  cases xs with
  | nil => exact absurd h (by simp [rn])
  | cons x xs => simp
theorem tl_s {S : SS} {g t : Nat} (h : (S.2.2.2 g).2.2.2.2.2.1 = some t) : tl S g = t := by unfold tl; rw [h]; rfl
/-- a whole family: what write reads, and what comes of it -/
theorem whole_S {S : SS} (hJ : Jv S) {F : Nat → Nat → Int} (hF : RFS F S) {g : Nat} (h : okW S ((g : Nat) : Int)) : ∃ t, tl S g = t ∧ t < S.1 ∧ FaO (S.2.1 t) (S.2.2.2 g).2.2.1 (S.2.2.2 g).2.2.2.1 (unS (S.2.1 t) 0 (S.2.2.2 g).2.2.1) ∧ CsO F (bs S.2.1 S.1) g (S.2.2.2 g).2.2.1 (S.2.2.2 g).2.2.2.1 (S.2.2.2 g).2.2.2.2.1 (cdG S g) (fun k => bs S.2.1 (tl S (g + 1 + k))) (fun k => ft (S.2.1 (tl S (g + 1 + k))) 0) ∧ (S.2.2.2 g).2.2.2.2.1 ≤ 12 ∧ g + (S.2.2.2 g).2.2.2.2.1 < 100 ∧ F 7 g = ((bs S.2.1 t : Nat) : Int) ∧ F 9 g = (((S.2.2.2 g).2.2.1 : Nat) : Int) ∧ F 10 g = (((S.2.2.2 g).2.2.2.1 : Nat) : Int) ∧ F 11 g = (((S.2.2.2 g).2.2.2.2.1 : Nat) : Int) ∧ (∀ k, k < (S.2.2.2 g).2.2.2.2.1 → CDok (S.2.2.2 g).2.2.1 (S.2.2.2 g).2.2.2.1 (cdG S g k) ∧ (cdG S g k).1.length ≤ 1000 ∧ AOk (cdG S g k).1) := by
  obtain ⟨h1, h3, h4⟩ := h
  have hg : g < S.2.2.1 := by have := h1.2; omega
  rw [Int.toNat_natCast] at h3 h4
  obtain ⟨t, f1, f2, f3, f4, f5, f6, f7, f8, f9⟩ := fam_b hJ.1 hg h3
  have ho := hJ.1.2.2.2.1 t f2
  have a1 := nA_ok ho.1 ho.2.2.1 (i := 0) (by have := ho.2.1; omega)
  rw [f4] at a1
  obtain ⟨k6, k7, k8, k9, k10, k11⟩ := hF.2 g hg
  rw [ot_3 h3] at k10
  have hcon : ∀ k, k < (S.2.2.2 g).2.2.2.2.1 → ∃ u, (S.2.2.2 (g + 1 + k)).2.2.2.2.2.1 = some u ∧ tl S (g + 1 + k) = u ∧ u < S.1 ∧ CoT (S.2.1 u) g (S.2.2.2 g).2.2.1 (S.2.2.2 g).2.2.2.1 (S.2.2.2 (g + 1 + k)).2.2.2.2.2.2.1 (S.2.2.2 (g + 1 + k)).2.2.2.2.2.2.2 ∧ (S.2.2.2 (g + 1 + k)).1 = 4 ∧ (S.2.2.2 (g + 1 + k)).2.1 = g ∧ (S.2.2.2 (g + 1 + k)).2.2.1 = (S.2.2.2 g).2.2.1 := by
    intro k hk
    obtain ⟨u, hu⟩ := Option.isSome_iff_exists.mp (h4 k hk)
    obtain ⟨y1, y2, y3⟩ := f9 k hk
    obtain ⟨c1, c2, c3, c4, c5, c6, c7⟩ := con_b hJ.1 (g := g + 1 + k) (by omega) y1
    obtain ⟨z1, z2⟩ := c6 u hu
    rw [y2] at c3 c4 z2
    rw [c3, c4] at z2
    exact ⟨u, hu, tl_s hu, z1, z2, y1, y2, c3⟩
  refine ⟨t, tl_s f1, f2, ⟨⟨ho.1, ho.2.2.1, f3, ho.2.2.2⟩, a1.1.1, rfl⟩, fun k hk => ?_, f6, by have := hJ.1.2.1; omega, ?_, k9, k10, ?_, fun k hk => ?_⟩
  · obtain ⟨u, u1, u2, u3, u4, u5, u6, u7⟩ := hcon k hk
    obtain ⟨a, b⟩ := hF.1 u u3
    have hou := hJ.1.2.2.2.1 u u3
    have hin := bs_in (X := S.2.1) (s := u) (t := S.1) u3
    obtain ⟨-, m7, m8, m9, m10, -⟩ := hF.2 (g + 1 + k) (by omega)
    show seF F (bs S.2.1 (tl S (g + 1 + k))) (S.2.1 (tl S (g + 1 + k))) ∧ bs S.2.1 (tl S (g + 1 + k)) + (S.2.1 (tl S (g + 1 + k))).length ≤ _ ∧ PaO (S.2.1 (tl S (g + 1 + k))) g _ _ (S.2.2.2 (g + 1 + k)).2.2.2.2.2.2.1 _ _ _ _ _ _ ∧ _ ∧ _ ∧ _ ∧ F 10 (g + 1 + k) = (((S.2.2.2 (g + 1 + k)).2.2.2.2.2.2.1 : Nat) : Int)
    rw [u2]
    refine ⟨b, hin, ⟨u4.1, u4.2.2, hou.2.2.2, ?_, ?_, ?_, ?_, ?_, ?_⟩, ?_, by rw [m8, u6], by rw [m9, u7], ?_⟩
    · show rcS (S.2.1 (tl S (g + 1 + k))) _ _ _ = _; rw [u2]
    · show (fun j => nA (S.2.1 (tl S (g + 1 + k))) _) = _; rw [u2]
    · show (fun j => ft (S.2.1 (tl S (g + 1 + k))) _ + _ + 1 + _) = _; rw [u2]
    · show unS (S.2.1 (tl S (g + 1 + k))) 0 _ = _; rw [u2]
    · show ft (S.2.1 (tl S (g + 1 + k))) 0 = _; rw [u2]
    · show ft (S.2.1 (tl S (g + 1 + k))) 0 + _ + 1 + _ = _; rw [u2]
    · rw [m7]
      unfold tbS
      rw [u1]
      show ((bs S.2.1 u : Nat) : Int) = ((bs S.2.1 (tl S (g + 1 + k)) : Nat) : Int)
      rw [u2]
    · rw [m10]; unfold otS; rw [if_pos u5, u1]
  · rw [k7]; unfold tbS; rw [f1]
  · rw [k11]; unfold cnG; rw [if_pos h3]
  · obtain ⟨u, u1, u2, u3, u4, u5, u6, u7⟩ := hcon k hk
    have hou := hJ.1.2.2.2.1 u u3
    show CDok _ _ (cdS (S.2.1 (tl S (g + 1 + k))) _ _ _ _) ∧ (S.2.1 (tl S (g + 1 + k))).length ≤ 1000 ∧ AOk (S.2.1 (tl S (g + 1 + k)))
    rw [u2]
    exact ⟨u4.1.ok, hou.2.2.1, hou.2.2.2⟩
theorem wh_ok {S : SS} (hJ : Jv S) {F : Nat → Nat → Int} (hF : RFS F S) {g : Int} : whR F ((S.2.2.1 : Nat) : Int) g ↔ okW S g := by
  constructor
  · intro ⟨z1, z2, z3, z4⟩
    obtain ⟨k6, k7, k8, k9, k10, k11⟩ := hF.2 g.toNat (by omega)
    rw [k6] at z3
    obtain ⟨t, f1, f2, f3, f4, f5, f6, f7, f8, f9⟩ := fam_b hJ.1 (g := g.toNat) (by omega) z3
    rw [k11] at z4
    unfold cnG at z4
    rw [if_pos z3, Int.toNat_natCast] at z4
    refine ⟨⟨z1, z2⟩, z3, fun i hi => ?_⟩
    have q := wlB_i.mp z4 i hi
    rw [(hF.2 (g.toNat + i + 1) (by omega)).2.1, tb_n, show g.toNat + i + 1 = g.toNat + 1 + i by omega] at q
    cases h : (S.2.2.2 (g.toNat + 1 + i)).2.2.2.2.2.1 with
    | none => exact absurd h q
    | some u => rfl
  · intro ⟨⟨z1, z2⟩, z3, z4⟩
    obtain ⟨k6, k7, k8, k9, k10, k11⟩ := hF.2 g.toNat (by omega)
    obtain ⟨t, f1, f2, f3, f4, f5, f6, f7, f8, f9⟩ := fam_b hJ.1 (g := g.toNat) (by omega) z3
    refine ⟨z1, z2, by rw [k6]; exact z3, ?_⟩
    rw [k11]
    unfold cnG
    rw [if_pos z3, Int.toNat_natCast]
    refine wlB_i.mpr (fun i hi => ?_)
    rw [(hF.2 (g.toNat + i + 1) (by omega)).2.1, tb_n, show g.toNat + i + 1 = g.toNat + 1 + i by omega]
    intro h
    have := z4 i hi
    rw [h] at this
    exact absurd this (by simp)
theorem hcoS {S : SS} (hJ : Jv S) {F : Nat → Nat → Int} (hF : RFS F S) : ∀ k : Nat, (k : Int) < ((S.2.2.1 : Nat) : Int) → F 6 k = 3 → 0 ≤ F 11 k ∧ (k : Int) + 1 + F 11 k ≤ ((S.2.2.1 : Nat) : Int) := fun k hk h3 => by
  obtain ⟨k6, k7, k8, k9, k10, k11⟩ := hF.2 k (by omega)
  rw [k6] at h3
  obtain ⟨t, f1, f2, f3, f4, f5, f6, f7, f8, f9⟩ := fam_b hJ.1 (g := k) (by omega) h3
  rw [k11]
  unfold cnG
  rw [if_pos h3]
  omega
theorem wtQ_bd {cd : Nat → CD} {lq np ni ra : Nat} (h0 : 1 ≤ lq) (h : lq ≤ 4000) (h1 : 2 * (np + ni) ≤ 1000) (h2 : ∀ k, k < ra → 2 * (np + (cd k).2.1) ≤ 1000 ∧ ∀ j, j < (cd k).2.1 → (cd k).2.2.1 j = true → 2 * (cd k).2.2.2.1 j ≤ 1000) : wtQ cd lq np ni ra ≤ 4000 := by
  obtain ⟨a1, a2, a3⟩ := lvS_ok h0 (Nat.zero_le lq) np
  obtain ⟨b1, b2, b3⟩ := lvS_ok (lq := lvS lq 0 np) (v := np) (by omega) (by omega) ni
  have c1 := (csQ_ok (cd := cd) (lq := lvS (lvS lq 0 np) np ni) (np := np) (by omega) (by omega) ra).1
  have c2 := csQ_bd (cd := cd) (lq := lvS (lvS lq 0 np) np ni) (np := np) (ra := ra) (by omega) (by omega) (b3 (a3 h (by omega)) (by omega)) h2 ra (Nat.le_refl _)
  obtain ⟨d1, d2, d3⟩ := lvS_ok (lq := csQ cd (lvS (lvS lq 0 np) np ni) np ra) (v := np) (by omega) (by omega) ni
  exact d3 c2 (by omega)
theorem AOk_cs2 {cd : Nat → CD} {np ni ra : Nat} (h : ∀ c, c < ra → CDok np ni (cd c) ∧ (cd c).1.length ≤ 1000 ∧ AOk (cd c).1) (hra : ra ≤ 12) {nc : Nat → Int} (hu : ∀ c, c < ra → 0 ≤ nc c ∧ nc c ≤ 100) : ∀ c, c ≤ ra → AOk (csC cd np ni nc c)
  | 0, _ => AOk_nil
  | c + 1, hc => by
    obtain ⟨⟨h1, h2, h3, h4, h5⟩, h6, h7⟩ := h c (by omega)
    simp only [csC]
    exact AOk_a (AOk_a (AOk_cs2 h hra hu c (by omega)) (AOk_1 ⟨by simp, by simp, by simp, by simp⟩)) (AOk_pa h1 h7 h3 h6 h4 h5 (by omega) (hu c (by omega)))
theorem AOk_wt2 {xs : List Nd} (hc : Cpl xs) (ho : AOk xs) (hcl : Cls xs) (hn : xs.length ≤ 1000) {cd : Nat → CD} {np ni ra : Nat} (hb : Bds xs 0 (np + ni)) (hra : ra ≤ 12) (h : ∀ c, c < ra → CDok np ni (cd c) ∧ (cd c).1.length ≤ 1000 ∧ AOk (cd c).1) {nu s : Int} {nc : Nat → Int} (hu : ∀ c, c < ra → 0 ≤ nc c ∧ nc c ≤ 100) (hnu : 0 ≤ nu ∧ nu ≤ 100) (hs : 0 ≤ s ∧ s ≤ 100) : AOk (wtC xs cd np ni ra nu s nc) := by
  have b1 := Bds_le hc hb _ (Nat.le_refl _)
  have b2 := (Bds_ok hc hb _ (Nat.le_refl _)).1
  have hB := Bds_sub hc hb
  have hz : ∀ u : Int, -1 ≤ u → u ≤ 100 → AOk [((6 : Int), u, (0 : Int))] := fun u h1 h2 => AOk_1 ⟨by simp, by simp only; omega, by simp, by simp⟩
  unfold wtC
  exact AOk_a (AOk_a (AOk_a (AOk_a (AOk_a (AOk_a (AOk_a (AOk_a (AOk_a (AOk_a (AOk_a (AOk_a (AOk_bn hc ho hcl hn (Or.inr rfl) (by omega) (by omega) hB.1 np (Nat.le_refl _)) (hz _ (by omega) (by omega))) (AOk_bn hc ho hcl hn (Or.inr rfl) (by omega) (by omega) hB.2 ni (Nat.le_refl _))) (hz _ (by omega) (by omega))) (AOk_gl hnu (by omega) (by omega) (by omega))) (AOk_1 ⟨by simp, by simp only; omega, by simp, by simp⟩)) (AOk_cs2 h hra hu ra (Nat.le_refl _))) (AOk_bn hc ho hcl hn (Or.inr rfl) (by omega) (by omega) hB.2 ni (Nat.le_refl _))) (hz _ (by omega) (by omega))) (AOk_gl hnu (by omega) (by omega) (by omega))) (AOk_ap _)) (AOk_v1 (by omega))) (AOk_vr (by omega) _ (by omega))
section MR4
variable {l : Launch} {V : mv_V} {M : mv_M} {r cap lq : Nat} {S : SS}
/-- the whole family's lists -/
theorem wL_ok (hJ : Jv S) {F : Nat → Nat → Int} (hF : RFS F S) {g : Nat} (h : okW S ((g : Nat) : Int)) {s : Int} (hs : 0 ≤ s ∧ s ≤ 100) : TR [0] (wtR (S.2.1 (tl S g)) (cdG S g) (F 12) (S.2.2.2 g).2.2.1 (S.2.2.2 g).2.2.2.1 (S.2.2.2 g).2.2.2.2.1 ((g : Nat) : Int) s (ncG g)) [] (wL S g s) ∧ AOk (wL S g s) ∧ (wtR (S.2.1 (tl S g)) (cdG S g) (F 12) (S.2.2.2 g).2.2.1 (S.2.2.2 g).2.2.2.1 (S.2.2.2 g).2.2.2.2.1 ((g : Nat) : Int) s (ncG g)).length ≤ 110000 := by
  obtain ⟨t, t1, t2, t3, t4, t5, t6, t7, t8, t9, t10, t11⟩ := whole_S hJ hF h
  obtain ⟨⟨a1, a2, a3, a4⟩, a5, -⟩ := id t3
  have hgb : g ≤ 100 := by have := h.1.2; have := hJ.1.2.1; omega
  rw [t1]
  unfold wL
  rw [t1]
  refine ⟨TR_wt a1 (AOk_gd a4) a3 a5 (fun c hc => (t11 c hc).1), ?_, wtR_le a1 a2 a5 t5 (fun c hc => ⟨(t11 c hc).1, (t11 c hc).2.1⟩)⟩
  exact AOk_wt2 a1 a4 a3 a2 a5 t5 t11 (fun c hc => by have := t6; show 0 ≤ ((g + 1 + c : Nat) : Int) ∧ ((g + 1 + c : Nat) : Int) ≤ 100; omega) (by omega) hs
theorem mR_type (hP : RefP V M r cap lq S) (hK : RefK cap lq S) {g s : Int} (rg : R32 g) (rs : R32 s) : RCall l V M r cap lq y_Mod_type ws_Mod_type 9 320 [.ref r, .int (iI g), .int (iI s)] (aTy S g s) (nTy S g s) := by
  obtain ⟨A, F, hC, hF⟩ := id hP
  obtain ⟨K1, K2, K3, K4, K5, K6⟩ := id hK
  have hgt := hgtS hK
  unfold aTy nTy
  by_cases q : okW S g ∧ 0 ≤ s ∧ s ≤ 100
  · rw [if_pos q, if_pos q]
    obtain ⟨d, rfl⟩ : ∃ d : Nat, g = ((d : Nat) : Int) := ⟨g.toNat, by have := q.1.1.1; omega⟩
    rw [Int.toNat_natCast]
    obtain ⟨t, t1, t2, t3, t4, t5, t6, t7, t8, t9, t10, t11⟩ := whole_S K6 hF q.1
    obtain ⟨w1, w2, w3⟩ := wL_ok K6 hF q.1 q.2
    obtain ⟨e1, e2, e3, e4, e5⟩ := TR_end w1
    have hc := K6.1.2.2.1
    obtain ⟨b1, b2⟩ := hF.1 t t2
    have hin := bs_in (X := S.2.1) (s := t) (t := S.1) t2
    obtain ⟨N, hN⟩ : ∃ N, N = (wtR (S.2.1 (tl S d)) (cdG S d) (F 12) (S.2.2.2 d).2.2.1 (S.2.2.2 d).2.2.2.1 (S.2.2.2 d).2.2.2.2.1 ((d : Nat) : Int) s (ncG d)).length := ⟨_, rfl⟩
    have g1 := capL_c K2 K1 N
    have g2 := capL_ge cap (bs S.2.1 S.1) N
    have hq := wtQ_bd (cd := cdG S d) (ni := (S.2.2.2 d).2.2.2.1) (np := (S.2.2.2 d).2.2.1) (ra := (S.2.2.2 d).2.2.2.2.1) K4 K5 (FaO_f t3).2.2.2.2.2.1 (fun k hk => ⟨(PaO_f (t4 k hk).2.2.1).2.2.2.2.2.1, fun j hj hr => ((PaO_f (t4 k hk).2.2.1).2.2.2.2.2.2.2.2.2.2.2.1 j hj hr).2⟩)
    have hq0 := (wtQ_ok (cd := cdG S d) (ni := (S.2.2.2 d).2.2.2.1) (np := (S.2.2.2 d).2.2.1) (ra := (S.2.2.2 d).2.2.2.2.1) K4).1
    refine ⟨capL cap (bs S.2.1 S.1) N, wtQ (cdG S d) lq (S.2.2.2 d).2.2.1 (S.2.2.2 d).2.2.2.1 (S.2.2.2 d).2.2.2.2.1, g2, hq0, RefK_T hK e2 (Cpl_1 e2) w2 (by rw [e3, ← hN]; exact g1) ⟨by omega, capL_b4 K3 _ (by omega)⟩ ⟨by omega, hq⟩, ?_⟩
    rw [hN]
    rw [t1] at w1 w3 hN ⊢
    have hd : d < 100 := by omega
    refine mv_post (mV_type hC K1 K2 (by omega) b2 hin t3 t4 t5 hd t6 t7 t8 t9 t10 q.2 ⟨K4, K5⟩ hgt.1 ((wh_ok K6 hF).mpr q.1) (hcoS K6 hF) hgt.2 w1 w2 (by have := Cpl_1 e1; rw [t1] at this; exact this) (Nat.le_trans (Nat.add_le_add_left w3 _) (by omega))) (fun v M' g => ?_)
    refine ⟨by rw [g.1]; congr 3; exact aT_eq, nwT_S K6 hF (fun i hi => rfl) g.2⟩
  · rw [if_neg q, if_neg q]
    exact RCall_no hP hK (mN_type hC (by omega) hgt rg rs (hcoS K6 hF) (fun z => q ⟨(wh_ok K6 hF).mp z.1, z.2⟩))
theorem mR_size (hP : RefP V M r cap lq S) (hK : RefK cap lq S) {g : Int} (rg : R32 g) : RCall l V M r cap lq y_Mod_size ws_Mod_size 9 320 [.ref r, .int (iI g)] (aSz S g) S := by
  obtain ⟨A, F, hC, hF⟩ := id hP
  obtain ⟨K1, K2, K3, K4, K5, K6⟩ := id hK
  have hgt := hgtS hK
  unfold aSz
  by_cases q : okW S g
  · rw [if_pos q]
    obtain ⟨d, rfl⟩ : ∃ d : Nat, g = ((d : Nat) : Int) := ⟨g.toNat, by have := q.1.1; omega⟩
    rw [Int.toNat_natCast]
    obtain ⟨t, t1, t2, t3, t4, t5, t6, t7, t8, t9, t10, t11⟩ := whole_S K6 hF q
    obtain ⟨w1, w2, w3⟩ := wL_ok K6 hF q (s := 0) (by omega)
    obtain ⟨e1, e2, e3, e4, e5⟩ := TR_end w1
    have hc := K6.1.2.2.1
    obtain ⟨b1, b2⟩ := hF.1 t t2
    have hin := bs_in (X := S.2.1) (s := t) (t := S.1) t2
    obtain ⟨N, hN⟩ : ∃ N, N = (wtR (S.2.1 (tl S d)) (cdG S d) (F 12) (S.2.2.2 d).2.2.1 (S.2.2.2 d).2.2.2.1 (S.2.2.2 d).2.2.2.2.1 ((d : Nat) : Int) 0 (ncG d)).length := ⟨_, rfl⟩
    have g1 := capL_c K2 K1 N
    have g2 := capL_ge cap (bs S.2.1 S.1) N
    have hq := wtQ_bd (cd := cdG S d) (ni := (S.2.2.2 d).2.2.2.1) (np := (S.2.2.2 d).2.2.1) (ra := (S.2.2.2 d).2.2.2.2.1) K4 K5 (FaO_f t3).2.2.2.2.2.1 (fun k hk => ⟨(PaO_f (t4 k hk).2.2.1).2.2.2.2.2.1, fun j hj hr => ((PaO_f (t4 k hk).2.2.1).2.2.2.2.2.2.2.2.2.2.2.1 j hj hr).2⟩)
    have hq0 := (wtQ_ok (cd := cdG S d) (ni := (S.2.2.2 d).2.2.2.1) (np := (S.2.2.2 d).2.2.1) (ra := (S.2.2.2 d).2.2.2.2.1) K4).1
    refine ⟨capL cap (bs S.2.1 S.1) N, wtQ (cdG S d) lq (S.2.2.2 d).2.2.1 (S.2.2.2 d).2.2.2.1 (S.2.2.2 d).2.2.2.2.1, g2, hq0, ⟨by omega, by omega, capL_b4 K3 _ (by omega), by omega, hq, K6⟩, ?_⟩
    rw [e3, hN]
    rw [t1] at w3 hN ⊢
    have hd : d < 100 := by omega
    refine mv_post (mV_size hC K1 K2 (by omega) b2 hin t3 t4 t5 hd t6 t7 t8 t9 t10 ⟨K4, K5⟩ hgt.1 ((wh_ok K6 hF).mpr q) (hcoS K6 hF) (Nat.le_trans (Nat.add_le_add_left w3 _) (by omega))) (fun v M' g => ?_)
    obtain ⟨g1, A', F', g2, g3, g4⟩ := g
    exact ⟨g1, A', F', g4, RFS_ag hF g2 g3⟩
  · rw [if_neg q]
    exact RCall_no hP hK (mN_size hC (by omega) hgt rg (hcoS K6 hF) (fun z => q ((wh_ok K6 hF).mp z)))
end MR4
