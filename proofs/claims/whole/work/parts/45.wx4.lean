/-- what write reads of a family's constructors -/
def CsO (F : Nat → Nat → Int) (c d np ni ra : Nat) (cd : Nat → CD) (bf pf : Nat → Nat) : Prop := ∀ k, k < ra → seF F (bf k) (cd k).1 ∧ bf k + (cd k).1.length ≤ c ∧ PaO (cd k).1 d np ni (cd k).2.1 (cd k).2.2.1 (cd k).2.2.2.1 (cd k).2.2.2.2.1 (cd k).2.2.2.2.2.1 (pf k) (cd k).2.2.2.2.2.2 ∧ F 7 (d + 1 + k) = ((bf k : Nat) : Int) ∧ F 8 (d + 1 + k) = ((d : Nat) : Int) ∧ F 9 (d + 1 + k) = ((np : Nat) : Int) ∧ F 10 (d + 1 + k) = (((cd k).2.1 : Nat) : Int)
def FaO (xs : List Nd) (np ni i0 : Nat) : Prop := (Cpl xs ∧ xs.length ≤ 1000 ∧ Cls xs ∧ AOk xs) ∧ Bds xs 0 (np + ni) ∧ unS xs 0 np = i0
theorem FaO_f {xs : List Nd} {np ni i0 : Nat} (h : FaO xs np ni i0) : (Cpl xs ∧ xs.length ≤ 1000 ∧ Cls xs ∧ AOk xs) ∧ Bds xs 0 np ∧ unS xs 0 np = i0 ∧ Bds xs i0 ni ∧ dpS xs i0 = ((np : Nat) : Int) ∧ 2 * (np + ni) ≤ 1000 ∧ unS xs i0 ni ≤ 1000 ∧ i0 ≤ 1000 := by
  obtain ⟨hA, hb, rfl⟩ := h
  have hB := Bds_sub hA.1 hb
  have e1 := Bds_ok hA.1 hb np (by omega)
  have e2 := Bds_ok hA.1 hb (np + ni) (Nat.le_refl _)
  have e3 := Bds_le hA.1 hb _ (Nat.le_refl _)
  have e4 := hA.2.1
  have e5 := e2.1
  have e6 := e1.1
  refine ⟨hA, hB.1, rfl, hB.2, by rw [e1.2.1, dp_0]; omega, by omega, by rw [← unS_add]; omega, by omega⟩
theorem csR_mono {cd : Nat → CD} {Λ : Nat → Int} {np ni : Nat} {nc : Nat → Int} {i j : Nat} (h : i ≤ j) : (csR cd Λ np ni nc i).length ≤ (csR cd Λ np ni nc j).length := by
  obtain ⟨k, rfl⟩ : ∃ k, j = i + k := ⟨j - i, by omega⟩
  induction k with
  | zero => exact Nat.le_refl _
  | succ k ih =>
    refine Nat.le_trans (ih (by omega)) ?_
    rw [← Nat.add_assoc]
    simp only [csR, List.length_append]
    omega
theorem paQ_bd {lq : Nat} {rc : Nat → Bool} {yf : Nat → Nat} {np n : Nat} (h0 : 1 ≤ lq) (h : lq ≤ 4000) (h2 : ∀ j, j < n → rc j = true → 2 * yf j ≤ 1000) (h3 : 2 * (np + n) ≤ 1000) : paQ lq rc yf np n ≤ 4000 := by
  obtain ⟨a1, a2, a3⟩ := lvS_ok h0 (Nat.zero_le lq) np
  obtain ⟨b1, b2, b3⟩ := lvS_ok (lq := lvS lq 0 np) (v := np) (by omega) (by omega) n
  exact lqB_bd (b3 (a3 h (by omega)) (by omega)) b1 h2 h3 n (Nat.le_refl _)
theorem csQ_bd {cd : Nat → CD} {lq np ra : Nat} (h0 : 1 ≤ lq) (hn : np ≤ lq) (h : lq ≤ 4000) (h2 : ∀ k, k < ra → 2 * (np + (cd k).2.1) ≤ 1000 ∧ ∀ j, j < (cd k).2.1 → (cd k).2.2.1 j = true → 2 * (cd k).2.2.2.1 j ≤ 1000) : ∀ k, k ≤ ra → csQ cd lq np k ≤ 4000
  | 0, _ => h
  | k + 1, hk => by
    have ih := csQ_bd h0 hn h h2 k (by omega)
    have i1 := (csQ_ok (cd := cd) h0 hn k).1
    simp only [csQ]
    exact paQ_bd (by omega) ih (h2 k (by omega)).2 (h2 k (by omega)).1
theorem wtR_len2 {xs : List Nd} {cd : Nat → CD} {Λ : Nat → Int} {np ni ra : Nat} {nu s : Int} {nc : Nat → Int} {i0 : Nat} (h : unS xs 0 np = i0) : (wtR xs cd Λ np ni ra nu s nc).length + i0 = 1 + unS xs i0 ni + 1 + (np + ni) + 1 + np + ni + 1 + (csR cd (upL (upL Λ 0 0 np) np np ni) np ni nc ra).length + unS xs i0 ni + 1 + (np + ni) + 1 + np + ni + (ni + 1) + 1 + (ni + 1) := by
  have h1 := bnR_len2 (xs := xs) (Λ := Λ) (k := 6) (lv := 0) (ar := 0) (i := 0) np
  have h2 := bnR_len2 (xs := xs) (Λ := upL Λ 0 0 np) (k := 6) (lv := np) (ar := np) (i := i0) ni
  have h3 := bnR_len2 (xs := xs) (Λ := wtLv cd Λ np ni ra) (k := 6) (lv := (np : Int) + 1 + ra) (ar := np) (i := i0) ni
  unfold wtR
  rw [h] at h1 ⊢
  simp only [List.length_append, apL_len, mdL_len, List.length_singleton]
  omega
set_option maxRecDepth 100000 in
set_option maxHeartbeats 4000000 in
theorem mW_write {l : Launch} {V : mv_V} {M : mv_M} {r cap lq c : Nat} {A : Nat → Nat} {F : Nat → Nat → Int} {tn gn : Int} (hC : RefC V M r A (rN cap lq) F (c : Nat) tn gn) (hcc : c ≤ cap) (hcap0 : 1 ≤ cap) (hcap : cap ≤ 1000000) {Λ : Nat → Int} (hL : F 12 = Λ) {xs : List Nd} {b : Nat} (hs : seF F b xs) (hl : b + xs.length ≤ c) {d np ni ra i0 : Nat} {cd : Nat → CD} {bf pf : Nat → Nat} {s : Int} (hFa : FaO xs np ni i0) (hCs : CsO F c d np ni ra cd bf pf) (hra : ra ≤ 12) (hd : d < 100) (hdr : d + ra < 100) (h7 : F 7 d = ((b : Nat) : Int)) (h9 : F 9 d = ((np : Nat) : Int)) (h10 : F 10 d = ((ni : Nat) : Int)) (h11 : F 11 d = ((ra : Nat) : Int)) (rs : 0 ≤ s ∧ s ≤ 100) (hlq : 1 ≤ lq ∧ lq ≤ 4000) (hnb : c + (wtR xs cd Λ np ni ra ((d : Nat) : Int) s (fun k => ((d + 1 + k : Nat) : Int))).length ≤ 500000) : Met l y_Mod_write ws_Mod_write (rM 8 (pC (capL cap c (wtR xs cd Λ np ni ra ((d : Nat) : Int) s (fun k => ((d + 1 + k : Nat) : Int))).length) (wtQ cd lq np ni ra) - pC cap lq) (pS (capL cap c (wtR xs cd Λ np ni ra ((d : Nat) : Int) s (fun k => ((d + 1 + k : Nat) : Int))).length) (wtQ cd lq np ni ra) - pS cap lq) 280) (mv_Pre (kk V) [.ref r, .int (iI ((d : Nat))), .int (iI (s))] M) (mv_Q (kk V) (fun z0 M' => z0 = none ∧ wrP V r cap lq (wtQ cd lq np ni ra) F c tn gn (wtR xs cd Λ np ni ra ((d : Nat) : Int) s (fun k => ((d + 1 + k : Nat) : Int))) (upL (wtLv cd Λ np ni ra) np (((np : Nat) : Int) + 1 + ((ra : Nat) : Int)) ni) M')) (pC (capL cap c (wtR xs cd Λ np ni ra ((d : Nat) : Int) s (fun k => ((d + 1 + k : Nat) : Int))).length) (wtQ cd lq np ni ra) - pC cap lq) (pS (capL cap c (wtR xs cd Λ np ni ra ((d : Nat) : Int) s (fun k => ((d + 1 + k : Nat) : Int))).length) (wtQ cd lq np ni ra) - pS cap lq) V.2.2.2.2 := by
  refine mv_Met (by decide) rfl (Nat.le_of_ble_eq_true rfl) (fun X hX B => ?_)
  subst hX
  replace B : mv_B X (kk V) c_Mod_write ws_Mod_write "FamilyRulesModel" 9 (Option.none : Option Jvm.ClassFile.FieldType) (rM 8 (pC (capL cap c (wtR xs cd Λ np ni ra ((d : Nat) : Int) s (fun k => ((d + 1 + k : Nat) : Int))).length) (wtQ cd lq np ni ra) - pC cap lq) (pS (capL cap c (wtR xs cd Λ np ni ra ((d : Nat) : Int) s (fun k => ((d + 1 + k : Nat) : Int))).length) (wtQ cd lq np ni ra) - pS cap lq) 280) "write" := B
  obtain ⟨Q, hQ⟩ : ∃ Q, Q = mv_E X (kk V) (fun z0 M' => z0 = none ∧ wrP V r cap lq (wtQ cd lq np ni ra) F c tn gn (wtR xs cd Λ np ni ra ((d : Nat) : Int) s (fun k => ((d + 1 + k : Nat) : Int))) (upL (wtLv cd Λ np ni ra) np (((np : Nat) : Int) + 1 + ((ra : Nat) : Int)) ni) M') (pC (capL cap c (wtR xs cd Λ np ni ra ((d : Nat) : Int) s (fun k => ((d + 1 + k : Nat) : Int))).length) (wtQ cd lq np ni ra) - pC cap lq) (pS (capL cap c (wtR xs cd Λ np ni ra ((d : Nat) : Int) s (fun k => ((d + 1 + k : Nat) : Int))).length) (wtQ cd lq np ni ra) - pS cap lq) := ⟨_, rfl⟩
  rw [← hQ]
  show mv_G X Q (kk V) 9 0 [(0, .ref r), (1, .int (iI ((d : Nat)))), (2, .int (iI (s)))] [] M 0 0
  have hrc : (rM 8 (pC (capL cap c (wtR xs cd Λ np ni ra ((d : Nat) : Int) s (fun k => ((d + 1 + k : Nat) : Int))).length) (wtQ cd lq np ni ra) - pC cap lq) (pS (capL cap c (wtR xs cd Λ np ni ra ((d : Nat) : Int) s (fun k => ((d + 1 + k : Nat) : Int))).length) (wtQ cd lq np ni ra) - pS cap lq) 280).cells = pC (capL cap c (wtR xs cd Λ np ni ra ((d : Nat) : Int) s (fun k => ((d + 1 + k : Nat) : Int))).length) (wtQ cd lq np ni ra) - pC cap lq := rfl
  have hrs : (rM 8 (pC (capL cap c (wtR xs cd Λ np ni ra ((d : Nat) : Int) s (fun k => ((d + 1 + k : Nat) : Int))).length) (wtQ cd lq np ni ra) - pC cap lq) (pS (capL cap c (wtR xs cd Λ np ni ra ((d : Nat) : Int) s (fun k => ((d + 1 + k : Nat) : Int))).length) (wtQ cd lq np ni ra) - pS cap lq) 280).slots = pS (capL cap c (wtR xs cd Λ np ni ra ((d : Nat) : Int) s (fun k => ((d + 1 + k : Nat) : Int))).length) (wtQ cd lq np ni ra) - pS cap lq := rfl
  subst hL
  clear hrc hrs
  obtain ⟨Y0, hY0⟩ : ∃ Y : List Nd, Y = [] := ⟨_, rfl⟩
  have hl0 : Y0.length = 0 := by rw [hY0]; rfl
  have hC0 : RefC V M r A (rN (capL cap c Y0.length) lq) F ((c + Y0.length : Nat) : Int) tn gn := by rw [hl0]; exact hC
  have hW0 : WR F F c Y0 := by rw [hY0]; exact WR_nil
  obtain ⟨N9, hN9⟩ : ∃ nz9 : Nat, nz9 = (wtR xs cd (F 12) np ni ra ((d : Nat) : Int) s (fun k => ((d + 1 + k : Nat) : Int))).length := ⟨_, rfl⟩
  obtain ⟨Q9, hQ9⟩ : ∃ nz9 : Nat, nz9 = wtQ cd lq np ni ra := ⟨_, rfl⟩
  rw [← hN9] at hnb
  obtain ⟨⟨hcp, hn1, hcl, ho⟩, hB0, hI0, hB1, hI0d, hnp2, hu1, hu0⟩ := FaO_f hFa
  have hui := unS_le xs i0 ni
  have hNl : N9 + i0 = 1 + unS xs i0 ni + 1 + (np + ni) + 1 + np + ni + 1 + (csR cd (upL (upL (F 12) 0 0 np) np ((np : Nat) : Int) ni) np ni (fun k => ((d + 1 + k : Nat) : Int)) ra).length + unS xs i0 ni + 1 + (np + ni) + 1 + np + ni + (ni + 1) + 1 + (ni + 1) := by rw [hN9]; exact wtR_len2 hI0
  have hT0 : wtQ cd lq np ni ra = Q9 := hQ9.symm
  have hA1 := (lvS_ok (lq := lq) (v := 0) (by omega) (by omega) np).1
  have hA2 := (lvS_ok (lq := lq) (v := 0) (by omega) (by omega) np).2.1
  have hA3 := (lvS_ok (lq := lq) (v := 0) (by omega) (by omega) np).2.2 (by omega) (by omega)
  have hA4 := (lvS_ok (lq := (lvS lq 0 np)) (v := np) (by omega) (by omega) ni).1
  have hA5 := (lvS_ok (lq := (lvS lq 0 np)) (v := np) (by omega) (by omega) ni).2.1
  have hA6 := (lvS_ok (lq := (lvS lq 0 np)) (v := np) (by omega) (by omega) ni).2.2 (by omega) (by omega)
  have hT9 : lvS (csQ cd (lvS (lvS lq 0 np) np ni) np ra) np ni ≤ Q9 := by rw [← hT0]; exact Nat.le_refl _
  have hT6 : (csQ cd (lvS (lvS lq 0 np) np ni) np ra) ≤ Q9 := Nat.le_trans (lvS_ge _ _ _) hT9
  have hT3 : ∀ j, j ≤ ra → csQ cd (lvS (lvS lq 0 np) np ni) np j ≤ Q9 := fun j hj => Nat.le_trans (csQ_m (by omega) (by omega) hj) hT6
  have hT2 : (lvS (lvS lq 0 np) np ni) ≤ Q9 := hT3 0 (Nat.zero_le _)
  have hT1 : (lvS lq 0 np) ≤ Q9 := Nat.le_trans hA5 hT2
  have hQl : lq ≤ Q9 := Nat.le_trans hA2 hT1
  have hT8 : ∀ j, j ≤ ra → csQ cd (lvS (lvS lq 0 np) np ni) np j ≤ 4000 := csQ_bd (by omega) (by omega) hA6 (fun k hk => ⟨(PaO_f (hCs k hk).2.2.1).2.2.2.2.2.1, fun j hj hr => ((PaO_f (hCs k hk).2.2.1).2.2.2.2.2.2.2.2.2.2.2.1 j hj hr).2⟩)
  have hLv1 : ∀ y : Nat, y ≤ np → ∀ z : Nat, z < y → -1000000 ≤ upL (F 12) 0 0 y z ∧ upL (F 12) 0 0 y z ≤ 1000000 := fun y hy z hz => by rw [upL_id hz]; omega
  have hLv2 : ∀ y : Nat, y ≤ ni → ∀ z : Nat, z < np + y → -1000000 ≤ upL (upL (F 12) 0 0 np) np ((np : Nat) : Int) y z ∧ upL (upL (F 12) 0 0 np) np ((np : Nat) : Int) y z ≤ 1000000 := fun y hy z hz => by
    by_cases q : z < np
    · rw [upL_lt q, upL_id q]; omega
    · rw [upL_in (by omega)]; omega
  have hLv3 : ∀ y : Nat, y ≤ ni → ∀ z : Nat, z < np + y → -1000000 ≤ upL (csLv cd (upL (upL (F 12) 0 0 np) np ((np : Nat) : Int) ni) np ra) np (((np : Nat) : Int) + 1 + ((ra : Nat) : Int)) y z ∧ upL (csLv cd (upL (upL (F 12) 0 0 np) np ((np : Nat) : Int) ni) np ra) np (((np : Nat) : Int) + 1 + ((ra : Nat) : Int)) y z ≤ 1000000 := fun y hy z hz => by
    by_cases q : z < np
    · rw [upL_lt q, csLv_ok (fun l h => by rw [upL_lt h]; exact upL_id h) ra z q]; omega
    · rw [upL_in (by omega)]; omega
  have hb0 : Y0.length ≤ N9 := by omega
  have ck0 : CK cap c Y0.length := CK_of hcc hcap0 hcap (by omega)
  have hq0 : lq ≤ lq ∧ lq ≤ Q9 := by omega
  have pl0 : PL cap lq (capL cap c Y0.length) (lq) := PL_le (capL_ge cap c Y0.length) hq0.1
  refine mv_widen (c2 := pC (capL cap c Y0.length) (lq) - pC cap lq) (s2 := pS (capL cap c Y0.length) (lq) - pS cap lq) (Nat.zero_le _) (Nat.zero_le _) ?_
  have k1_7 : M (A 7) = some (iA V (100) (F 7)) := hC0.2.1 7 (by decide)
  have k1_9 : M (A 9) = some (iA V (100) (F 9)) := hC0.2.1 9 (by decide)
  have k1_10 : M (A 10) = some (iA V (100) (F 10)) := hC0.2.1 10 (by decide)
  have k1_11 : M (A 11) = some (iA V (100) (F 11)) := hC0.2.1 11 (by decide)
  refine mv_aloadR_n B d_Mod_write_0 rfl 0 rfl ?_
  refine gf_Mod_37 B hC0.1 rfl d_Mod_write_1 ?_
  refine mv_iload_n B d_Mod_write_4 rfl 1 rfl ?_
  refine ia_ld B k1_9 (by omega) (by omega) (by omega) d_Mod_write_5 ?_
  rw [show Int.toNat ((d : Nat)) = d from by omega]
  have rr2 : R32 (F 9 d) := (hC0.R 9) _
  rw [show F 9 d = (np : Nat) from (congrFun (hW0.2.1 9 (by omega) (by omega)) d).trans h9]
  refine mv_istore_n (lv' := [(3, .int (iI ((np : Nat)))), (0, .ref r), (1, .int (iI ((d : Nat)))), (2, .int (iI (s)))]) B d_Mod_write_6 rfl (by decide) rfl ?_
  refine mv_aloadR_n B d_Mod_write_7 rfl 1 rfl ?_
  refine gf_Mod_40 B hC0.1 rfl d_Mod_write_8 ?_
  refine mv_iload_n B d_Mod_write_11 rfl 2 rfl ?_
  refine ia_ld B k1_10 (by omega) (by omega) (by omega) d_Mod_write_12 ?_
  rw [show Int.toNat ((d : Nat)) = d from by omega]
  have rr3 : R32 (F 10 d) := (hC0.R 10) _
  rw [show F 10 d = (ni : Nat) from (congrFun (hW0.2.1 10 (by omega) (by omega)) d).trans h10]
  refine mv_istore (lv' := [(4, .int (iI ((ni : Nat)))), (3, .int (iI ((np : Nat)))), (0, .ref r), (1, .int (iI ((d : Nat)))), (2, .int (iI (s)))]) B d_Mod_write_13 (by decide) rfl ?_
  refine mv_aloadR_n B d_Mod_write_15 rfl 2 rfl ?_
  refine gf_Mod_31 B hC0.1 rfl d_Mod_write_16 ?_
  refine mv_iload_n B d_Mod_write_19 rfl 3 rfl ?_
  refine ia_ld B k1_7 (by omega) (by omega) (by omega) d_Mod_write_20 ?_
  rw [show Int.toNat ((d : Nat)) = d from by omega]
  have rr4 : R32 (F 7 d) := (hC0.R 7) _
  rw [show F 7 d = ((b + unS xs 0 0 : Nat) : Int) from h7]
  refine mv_istore (lv' := [(5, .int (iI (((b + unS xs 0 0 : Nat) : Int)))), (4, .int (iI ((ni : Nat)))), (3, .int (iI ((np : Nat)))), (0, .ref r), (1, .int (iI ((d : Nat)))), (2, .int (iI (s)))]) B d_Mod_write_21 (by decide) rfl ?_
  refine mv_iconst (z := 0) B d_Mod_write_23 rfl ?_
  refine mv_istore (lv' := [(6, .int (iI (0))), (5, .int (iI (((b + unS xs 0 0 : Nat) : Int)))), (4, .int (iI ((ni : Nat)))), (3, .int (iI ((np : Nat)))), (0, .ref r), (1, .int (iI ((d : Nat)))), (2, .int (iI (s)))]) B d_Mod_write_24 (by decide) rfl ?_
  have L26 : ∀ (fu : Nat) (k1 : Nat) (My1 : mv_M) (Ay1 : Nat → Nat) (Fy1 : Nat → Nat → Int), (k1 ≤ np) → (WR F Fy1 c (Y0 ++ bnR xs (F 12) 6 0 0 0 k1)) → (Fy1 12 = upL (F 12) 0 0 k1) → (RefC V My1 r Ay1 (rN (capL cap c (Y0 ++ bnR xs (F 12) 6 0 0 0 k1).length) (lvS lq 0 k1)) Fy1 ((c + (Y0 ++ bnR xs (F 12) 6 0 0 0 k1).length : Nat) : Int) tn gn) → (np - k1) < fu → mv_G X Q (kk V) 9 26 [(6, .int (iI ((k1 : Nat)))), (5, .int (iI (((b + unS xs 0 k1 : Nat) : Int)))), (0, .ref r), (1, .int (iI ((d : Nat)))), (2, .int (iI (s))), (3, .int (iI ((np : Nat)))), (4, .int (iI ((ni : Nat))))] [] My1 (pC (capL cap c (Y0 ++ bnR xs (F 12) 6 0 0 0 k1).length) (lvS lq 0 k1) - pC cap lq) (pS (capL cap c (Y0 ++ bnR xs (F 12) 6 0 0 0 k1).length) (lvS lq 0 k1) - pS cap lq) := by
    intro fu
    induction fu with
    | zero => intro k1 My1 Ay1 Fy1 hk1 hWl hLl hCl hm; exact absurd hm (Nat.not_lt_zero _)
    | succ fu ih26 =>
      intro k1 My1 Ay1 Fy1 hk1 hWl hLl hCl hm
      obtain ⟨Yl26, hYl26⟩ : ∃ Y : List Nd, Y = (Y0 ++ bnR xs (F 12) 6 0 0 0 k1) := ⟨_, rfl⟩
      rw [← hYl26] at hWl hCl
      rw [← hYl26]
      have lYl26 : Yl26.length = Y0.length + (bnR xs (F 12) 6 0 0 0 k1).length := by rw [hYl26, List.length_append]
      have lz26 : (bnR xs (F 12) 6 0 0 0 k1).length + 0 = unS xs 0 k1 := bnR_len2 k1
      have hmo := unS_mono xs 0 hk1
      have hlak1 := (lvS_ok (lq := lq) (v := 0) (by omega) (by omega) k1).1
      have hlbk1 := (lvS_ok (lq := lq) (v := 0) (by omega) (by omega) k1).2.1
      have hlck1 := (lvS_ok (lq := lq) (v := 0) (by omega) (by omega) k1).2.2 (by omega) (by omega)
      have hldk1 : lvS lq 0 k1 ≤ Q9 := Nat.le_trans (lvS_m hk1) hT1
      have hbL26 : Yl26.length ≤ N9 := by omega
      have ckL26 : CK cap c Yl26.length := CK_of hcc hcap0 hcap (by omega)
      have hqL26 : lq ≤ lvS lq 0 k1 ∧ lvS lq 0 k1 ≤ Q9 := by omega
      have plL26 : PL cap lq (capL cap c Yl26.length) (lvS lq 0 k1) := PL_le (capL_ge cap c Yl26.length) hqL26.1
      have k6_7 : My1 (Ay1 7) = some (iA V (100) (Fy1 7)) := hCl.2.1 7 (by decide)
      have k6_9 : My1 (Ay1 9) = some (iA V (100) (Fy1 9)) := hCl.2.1 9 (by decide)
      have k6_10 : My1 (Ay1 10) = some (iA V (100) (Fy1 10)) := hCl.2.1 10 (by decide)
      have k6_11 : My1 (Ay1 11) = some (iA V (100) (Fy1 11)) := hCl.2.1 11 (by decide)
      refine mv_iload B d_Mod_write_26 0 rfl ?_
      refine mv_iload_n B d_Mod_write_28 rfl 5 rfl ?_
      refine mv_icmp_ge (tgt := 52) B d_Mod_write_29 (by decide) (by omega) (by omega) (fun c7 => ?_) (fun c7 => ?_)
      · have ek1 : np = k1 := by omega
        subst ek1
        clear ih26 hm
        rw [hI0] at lz26 hmo ⊢
        refine mv_aloadR_n B d_Mod_write_52 rfl 2 rfl ?_
        refine mv_bipush (z := 6) B d_Mod_write_53 (by decide) ?_
        refine mv_bipush (z := 98) B d_Mod_write_55 (by decide) ?_
        refine mv_iconst (z := 0) B d_Mod_write_57 rfl ?_
        have w8z : ([(6, 98, 0)] : List Nd).length = 1 := rfl
        have w8q : lvS lq 0 np ≤ lvS lq 0 np ∧ lvS lq 0 np ≤ Q9 := ⟨Nat.le_refl _, hqL26.2⟩
        have w8n : Yl26.length + (([(6, 98, 0)] : List Nd)).length ≤ N9 := by omega
        have w8e : capL (capL cap c Yl26.length) (c + Yl26.length) (([(6, 98, 0)] : List Nd)).length = capL cap c (Yl26.length + (([(6, 98, 0)] : List Nd)).length) := (capL_add cap c Yl26.length (([(6, 98, 0)] : List Nd)).length).symm
        have w8m : PL (capL cap c Yl26.length) (lvS lq 0 np) (capL cap c (Yl26.length + (([(6, 98, 0)] : List Nd)).length)) (lvS lq 0 np) := PL_le (capL_mono cap c (Nat.le_add_right _ _)) w8q.1
        have w8t : PL (capL cap c (Yl26.length + (([(6, 98, 0)] : List Nd)).length)) (lvS lq 0 np) (capL cap c (wtR xs cd (F 12) np ni ra ((d : Nat) : Int) s (fun k => ((d + 1 + k : Nat) : Int))).length) (wtQ cd lq np ni ra) := PL_le (capL_mono cap c (hN9 ▸ w8n)) (hQ9 ▸ w8q.2)
        refine ca_Mod_63 (mc := pC (capL (capL cap c Yl26.length) (c + Yl26.length) (([(6, 98, 0)] : List Nd)).length) (lvS lq 0 np) - pC (capL cap c Yl26.length) (lvS lq 0 np)) (ms := pS (capL (capL cap c Yl26.length) (c + Yl26.length) (([(6, 98, 0)] : List Nd)).length) (lvS lq 0 np) - pS (capL cap c Yl26.length) (lvS lq 0 np)) (rm' := rM 2 (pC (capL (capL cap c Yl26.length) (c + Yl26.length) (([(6, 98, 0)] : List Nd)).length) (lvS lq 0 np) - pC (capL cap c Yl26.length) (lvS lq 0 np)) (pS (capL (capL cap c Yl26.length) (c + Yl26.length) (([(6, 98, 0)] : List Nd)).length) (lvS lq 0 np) - pS (capL cap c Yl26.length) (lvS lq 0 np)) 70) (As := [.int (iI (6)), .int (iI (98)), .int (iI (0))]) (rest := []) B (mW_add hCl ckL26.1 ckL26.2.1 ckL26.2.2 (k := 6) (v := 98) (s := 0) (by omega) (by omega) (by omega) hLl) rfl rfl ⟨Nat.le_of_ble_eq_true rfl, Nat.le_of_ble_eq_true rfl⟩ hCl.1 rfl rfl (Nat.le_of_ble_eq_true rfl) d_Mod_write_58 ⟨by rw [w8e]; exact PL_c plL26 w8m w8t, by rw [w8e]; exact PL_s plL26 w8m w8t⟩ (fun v1 w8M ep => ?_)
        obtain ⟨e1, w8U⟩ := ep
        subst e1
        have w8U := wrP_app (lq := lq) hWl w8U
        obtain ⟨w8Y, w8h⟩ : ∃ Y : List Nd, Y = Yl26 ++ (([(6, 98, 0)] : List Nd)) := ⟨_, rfl⟩
        rw [← w8h] at w8U
        have w8l : w8Y.length = Yl26.length + (([(6, 98, 0)] : List Nd)).length := by rw [w8h, List.length_append]
        obtain ⟨w8A, w8F, w8W, w8L, w8C⟩ := w8U
        rw [← w8l] at w8e w8m w8t
        have w8b : CK cap c w8Y.length := CK_of hcc hcap0 hcap (by omega)
        have w8p := plL26.tr w8m
        refine mv_widen (c2 := pC (capL cap c w8Y.length) (lvS lq 0 np) - pC cap lq) (s2 := pS (capL cap c w8Y.length) (lvS lq 0 np) - pS cap lq) (by rw [w8e]; exact PL_c2 plL26 w8m) (by rw [w8e]; exact PL_s2 plL26 w8m) ?_
        clear w8e w8m w8t w8n
        show mv_G X Q (kk V) 9 61 [(6, .int (iI ((np : Nat)))), (5, .int (iI (((b + i0 : Nat) : Int)))), (0, .ref r), (1, .int (iI ((d : Nat)))), (2, .int (iI (s))), (3, .int (iI ((np : Nat)))), (4, .int (iI ((ni : Nat))))] [.int (iI (((c + Yl26.length : Nat) : Int)))] w8M (pC (capL cap c w8Y.length) (lvS lq 0 np) - pC cap lq) (pS (capL cap c w8Y.length) (lvS lq 0 np) - pS cap lq)
        have k9_7 : w8M (w8A 7) = some (iA V (100) (w8F 7)) := w8C.2.1 7 (by decide)
        have k9_9 : w8M (w8A 9) = some (iA V (100) (w8F 9)) := w8C.2.1 9 (by decide)
        have k9_10 : w8M (w8A 10) = some (iA V (100) (w8F 10)) := w8C.2.1 10 (by decide)
        have k9_11 : w8M (w8A 11) = some (iA V (100) (w8F 11)) := w8C.2.1 11 (by decide)
        refine mv_pop B d_Mod_write_61 rfl ?_
        refine mv_iload B d_Mod_write_62 1 rfl ?_
        refine mv_istore (lv' := [(6, .int (iI (((b + i0 : Nat) : Int)))), (5, .int (iI (((b + i0 : Nat) : Int)))), (0, .ref r), (1, .int (iI ((d : Nat)))), (2, .int (iI (s))), (3, .int (iI ((np : Nat)))), (4, .int (iI ((ni : Nat))))]) B d_Mod_write_64 (by decide) rfl ?_
        refine mv_iconst (z := 0) B d_Mod_write_66 rfl ?_
        refine mv_istore (lv' := [(7, .int (iI (0))), (6, .int (iI (((b + i0 : Nat) : Int)))), (5, .int (iI (((b + i0 : Nat) : Int)))), (0, .ref r), (1, .int (iI ((d : Nat)))), (2, .int (iI (s))), (3, .int (iI ((np : Nat)))), (4, .int (iI ((ni : Nat))))]) B d_Mod_write_67 (by decide) rfl ?_
        have L69 : ∀ (fu : Nat) (k2 : Nat) (My1 : mv_M) (Ay1 : Nat → Nat) (Fy1 : Nat → Nat → Int), (k2 ≤ ni) → (WR F Fy1 c (w8Y ++ bnR xs (upL (F 12) 0 0 np) 6 np ((np : Nat) : Int) i0 k2)) → (Fy1 12 = upL (upL (F 12) 0 0 np) np ((np : Nat) : Int) k2) → (RefC V My1 r Ay1 (rN (capL cap c (w8Y ++ bnR xs (upL (F 12) 0 0 np) 6 np ((np : Nat) : Int) i0 k2).length) (lvS (lvS lq 0 np) np k2)) Fy1 ((c + (w8Y ++ bnR xs (upL (F 12) 0 0 np) 6 np ((np : Nat) : Int) i0 k2).length : Nat) : Int) tn gn) → (ni - k2) < fu → mv_G X Q (kk V) 9 69 [(7, .int (iI ((k2 : Nat)))), (6, .int (iI (((b + unS xs i0 k2 : Nat) : Int)))), (5, .int (iI (((b + i0 : Nat) : Int)))), (0, .ref r), (1, .int (iI ((d : Nat)))), (2, .int (iI (s))), (3, .int (iI ((np : Nat)))), (4, .int (iI ((ni : Nat))))] [] My1 (pC (capL cap c (w8Y ++ bnR xs (upL (F 12) 0 0 np) 6 np ((np : Nat) : Int) i0 k2).length) (lvS (lvS lq 0 np) np k2) - pC cap lq) (pS (capL cap c (w8Y ++ bnR xs (upL (F 12) 0 0 np) 6 np ((np : Nat) : Int) i0 k2).length) (lvS (lvS lq 0 np) np k2) - pS cap lq) := by
          intro fu
          induction fu with
          | zero => intro k2 My1 Ay1 Fy1 hk2 hWl hLl hCl hm; exact absurd hm (Nat.not_lt_zero _)
          | succ fu ih69 =>
            intro k2 My1 Ay1 Fy1 hk2 hWl hLl hCl hm
            obtain ⟨Yl69, hYl69⟩ : ∃ Y : List Nd, Y = (w8Y ++ bnR xs (upL (F 12) 0 0 np) 6 np ((np : Nat) : Int) i0 k2) := ⟨_, rfl⟩
            rw [← hYl69] at hWl hCl
            rw [← hYl69]
            have lYl69 : Yl69.length = w8Y.length + (bnR xs (upL (F 12) 0 0 np) 6 np ((np : Nat) : Int) i0 k2).length := by rw [hYl69, List.length_append]
            have lz69 : (bnR xs (upL (F 12) 0 0 np) 6 np ((np : Nat) : Int) i0 k2).length + i0 = unS xs i0 k2 := bnR_len2 k2
            have hmo2 := unS_mono xs i0 hk2
            have hlak2 := (lvS_ok (lq := (lvS lq 0 np)) (v := np) (by omega) (by omega) k2).1
            have hlbk2 := (lvS_ok (lq := (lvS lq 0 np)) (v := np) (by omega) (by omega) k2).2.1
            have hlck2 := (lvS_ok (lq := (lvS lq 0 np)) (v := np) (by omega) (by omega) k2).2.2 (by omega) (by omega)
            have hldk2 : lvS (lvS lq 0 np) np k2 ≤ Q9 := Nat.le_trans (lvS_m hk2) hT2
            have hbL69 : Yl69.length ≤ N9 := by omega
            have ckL69 : CK cap c Yl69.length := CK_of hcc hcap0 hcap (by omega)
            have hqL69 : lq ≤ lvS (lvS lq 0 np) np k2 ∧ lvS (lvS lq 0 np) np k2 ≤ Q9 := by omega
            have plL69 : PL cap lq (capL cap c Yl69.length) (lvS (lvS lq 0 np) np k2) := PL_le (capL_ge cap c Yl69.length) hqL69.1
            have k11_7 : My1 (Ay1 7) = some (iA V (100) (Fy1 7)) := hCl.2.1 7 (by decide)
            have k11_9 : My1 (Ay1 9) = some (iA V (100) (Fy1 9)) := hCl.2.1 9 (by decide)
            have k11_10 : My1 (Ay1 10) = some (iA V (100) (Fy1 10)) := hCl.2.1 10 (by decide)
            have k11_11 : My1 (Ay1 11) = some (iA V (100) (Fy1 11)) := hCl.2.1 11 (by decide)
            refine mv_iload B d_Mod_write_69 0 rfl ?_
            refine mv_iload B d_Mod_write_71 7 rfl ?_
            refine mv_icmp_ge (tgt := 100) B d_Mod_write_73 (by decide) (by omega) (by omega) (fun c12 => ?_) (fun c12 => ?_)
            · have ek2 : ni = k2 := by omega
              subst ek2
              clear ih69 hm
              refine mv_aloadR_n B d_Mod_write_100 rfl 3 rfl ?_
              refine mv_bipush (z := 6) B d_Mod_write_101 (by decide) ?_
              refine mv_iconst (z := -1) B d_Mod_write_103 rfl ?_
              refine mv_iconst (z := 0) B d_Mod_write_104 rfl ?_
              have w13z : ([(6, -1, 0)] : List Nd).length = 1 := rfl
              have w13q : lvS (lvS lq 0 np) np ni ≤ lvS (lvS lq 0 np) np ni ∧ lvS (lvS lq 0 np) np ni ≤ Q9 := ⟨Nat.le_refl _, hqL69.2⟩
              have w13n : Yl69.length + (([(6, -1, 0)] : List Nd)).length ≤ N9 := by omega
              have w13e : capL (capL cap c Yl69.length) (c + Yl69.length) (([(6, -1, 0)] : List Nd)).length = capL cap c (Yl69.length + (([(6, -1, 0)] : List Nd)).length) := (capL_add cap c Yl69.length (([(6, -1, 0)] : List Nd)).length).symm
              have w13m : PL (capL cap c Yl69.length) (lvS (lvS lq 0 np) np ni) (capL cap c (Yl69.length + (([(6, -1, 0)] : List Nd)).length)) (lvS (lvS lq 0 np) np ni) := PL_le (capL_mono cap c (Nat.le_add_right _ _)) w13q.1
              have w13t : PL (capL cap c (Yl69.length + (([(6, -1, 0)] : List Nd)).length)) (lvS (lvS lq 0 np) np ni) (capL cap c (wtR xs cd (F 12) np ni ra ((d : Nat) : Int) s (fun k => ((d + 1 + k : Nat) : Int))).length) (wtQ cd lq np ni ra) := PL_le (capL_mono cap c (hN9 ▸ w13n)) (hQ9 ▸ w13q.2)
              refine ca_Mod_63 (mc := pC (capL (capL cap c Yl69.length) (c + Yl69.length) (([(6, -1, 0)] : List Nd)).length) (lvS (lvS lq 0 np) np ni) - pC (capL cap c Yl69.length) (lvS (lvS lq 0 np) np ni)) (ms := pS (capL (capL cap c Yl69.length) (c + Yl69.length) (([(6, -1, 0)] : List Nd)).length) (lvS (lvS lq 0 np) np ni) - pS (capL cap c Yl69.length) (lvS (lvS lq 0 np) np ni)) (rm' := rM 2 (pC (capL (capL cap c Yl69.length) (c + Yl69.length) (([(6, -1, 0)] : List Nd)).length) (lvS (lvS lq 0 np) np ni) - pC (capL cap c Yl69.length) (lvS (lvS lq 0 np) np ni)) (pS (capL (capL cap c Yl69.length) (c + Yl69.length) (([(6, -1, 0)] : List Nd)).length) (lvS (lvS lq 0 np) np ni) - pS (capL cap c Yl69.length) (lvS (lvS lq 0 np) np ni)) 70) (As := [.int (iI (6)), .int (iI (-1)), .int (iI (0))]) (rest := []) B (mW_add hCl ckL69.1 ckL69.2.1 ckL69.2.2 (k := 6) (v := -1) (s := 0) (by omega) (by omega) (by omega) hLl) rfl rfl ⟨Nat.le_of_ble_eq_true rfl, Nat.le_of_ble_eq_true rfl⟩ hCl.1 rfl rfl (Nat.le_of_ble_eq_true rfl) d_Mod_write_105 ⟨by rw [w13e]; exact PL_c plL69 w13m w13t, by rw [w13e]; exact PL_s plL69 w13m w13t⟩ (fun v1 w13M ep => ?_)
              obtain ⟨e1, w13U⟩ := ep
              subst e1
              have w13U := wrP_app (lq := lq) hWl w13U
              obtain ⟨w13Y, w13h⟩ : ∃ Y : List Nd, Y = Yl69 ++ (([(6, -1, 0)] : List Nd)) := ⟨_, rfl⟩
              rw [← w13h] at w13U
              have w13l : w13Y.length = Yl69.length + (([(6, -1, 0)] : List Nd)).length := by rw [w13h, List.length_append]
              obtain ⟨w13A, w13F, w13W, w13L, w13C⟩ := w13U
              rw [← w13l] at w13e w13m w13t
              have w13b : CK cap c w13Y.length := CK_of hcc hcap0 hcap (by omega)
              have w13p := plL69.tr w13m
              refine mv_widen (c2 := pC (capL cap c w13Y.length) (lvS (lvS lq 0 np) np ni) - pC cap lq) (s2 := pS (capL cap c w13Y.length) (lvS (lvS lq 0 np) np ni) - pS cap lq) (by rw [w13e]; exact PL_c2 plL69 w13m) (by rw [w13e]; exact PL_s2 plL69 w13m) ?_
              clear w13e w13m w13t w13n
              show mv_G X Q (kk V) 9 108 [(7, .int (iI ((ni : Nat)))), (6, .int (iI (((b + unS xs i0 ni : Nat) : Int)))), (5, .int (iI (((b + i0 : Nat) : Int)))), (0, .ref r), (1, .int (iI ((d : Nat)))), (2, .int (iI (s))), (3, .int (iI ((np : Nat)))), (4, .int (iI ((ni : Nat))))] [.int (iI (((c + Yl69.length : Nat) : Int)))] w13M (pC (capL cap c w13Y.length) (lvS (lvS lq 0 np) np ni) - pC cap lq) (pS (capL cap c w13Y.length) (lvS (lvS lq 0 np) np ni) - pS cap lq)
              have k14_7 : w13M (w13A 7) = some (iA V (100) (w13F 7)) := w13C.2.1 7 (by decide)
              have k14_9 : w13M (w13A 9) = some (iA V (100) (w13F 9)) := w13C.2.1 9 (by decide)
              have k14_10 : w13M (w13A 10) = some (iA V (100) (w13F 10)) := w13C.2.1 10 (by decide)
              have k14_11 : w13M (w13A 11) = some (iA V (100) (w13F 11)) := w13C.2.1 11 (by decide)
              refine mv_pop B d_Mod_write_108 rfl ?_
              refine mv_aloadR_n B d_Mod_write_109 rfl 3 rfl ?_
              refine mv_iload_n B d_Mod_write_110 rfl 4 rfl ?_
              refine mv_iload_n B d_Mod_write_111 rfl 6 rfl ?_
              have w15z : (apL (np + ni) ++ ([(1, ((d : Nat) : Int), 0)] : List Nd) ++ mdL 0 np ++ mdL (((np : Nat) : Int)) ni).length = (np + ni) + 1 + np + ni := by simp only [List.length_append, apL_len, mdL_len, List.length_singleton]
              have w15q : lvS (lvS lq 0 np) np ni ≤ lvS (lvS lq 0 np) np ni ∧ lvS (lvS lq 0 np) np ni ≤ Q9 := ⟨Nat.le_refl _, w13q.2⟩
              have w15n : w13Y.length + (apL (np + ni) ++ ([(1, ((d : Nat) : Int), 0)] : List Nd) ++ mdL 0 np ++ mdL (((np : Nat) : Int)) ni).length ≤ N9 := by omega
              have w15e : capL (capL cap c w13Y.length) (c + w13Y.length) (apL (np + ni) ++ ([(1, ((d : Nat) : Int), 0)] : List Nd) ++ mdL 0 np ++ mdL (((np : Nat) : Int)) ni).length = capL cap c (w13Y.length + (apL (np + ni) ++ ([(1, ((d : Nat) : Int), 0)] : List Nd) ++ mdL 0 np ++ mdL (((np : Nat) : Int)) ni).length) := (capL_add cap c w13Y.length (apL (np + ni) ++ ([(1, ((d : Nat) : Int), 0)] : List Nd) ++ mdL 0 np ++ mdL (((np : Nat) : Int)) ni).length).symm
              have w15m : PL (capL cap c w13Y.length) (lvS (lvS lq 0 np) np ni) (capL cap c (w13Y.length + (apL (np + ni) ++ ([(1, ((d : Nat) : Int), 0)] : List Nd) ++ mdL 0 np ++ mdL (((np : Nat) : Int)) ni).length)) (lvS (lvS lq 0 np) np ni) := PL_le (capL_mono cap c (Nat.le_add_right _ _)) w15q.1
              have w15t : PL (capL cap c (w13Y.length + (apL (np + ni) ++ ([(1, ((d : Nat) : Int), 0)] : List Nd) ++ mdL 0 np ++ mdL (((np : Nat) : Int)) ni).length)) (lvS (lvS lq 0 np) np ni) (capL cap c (wtR xs cd (F 12) np ni ra ((d : Nat) : Int) s (fun k => ((d + 1 + k : Nat) : Int))).length) (wtQ cd lq np ni ra) := PL_le (capL_mono cap c (hN9 ▸ w15n)) (hQ9 ▸ w15q.2)
              refine ca_Mod_156 (mc := pC (capL (capL cap c w13Y.length) (c + w13Y.length) (apL (np + ni) ++ ([(1, ((d : Nat) : Int), 0)] : List Nd) ++ mdL 0 np ++ mdL (((np : Nat) : Int)) ni).length) (lvS (lvS lq 0 np) np ni) - pC (capL cap c w13Y.length) (lvS (lvS lq 0 np) np ni)) (ms := pS (capL (capL cap c w13Y.length) (c + w13Y.length) (apL (np + ni) ++ ([(1, ((d : Nat) : Int), 0)] : List Nd) ++ mdL 0 np ++ mdL (((np : Nat) : Int)) ni).length) (lvS (lvS lq 0 np) np ni) - pS (capL cap c w13Y.length) (lvS (lvS lq 0 np) np ni)) (rm' := rM 4 (pC (capL (capL cap c w13Y.length) (c + w13Y.length) (apL (np + ni) ++ ([(1, ((d : Nat) : Int), 0)] : List Nd) ++ mdL 0 np ++ mdL (((np : Nat) : Int)) ni).length) (lvS (lvS lq 0 np) np ni) - pC (capL cap c w13Y.length) (lvS (lvS lq 0 np) np ni)) (pS (capL (capL cap c w13Y.length) (c + w13Y.length) (apL (np + ni) ++ ([(1, ((d : Nat) : Int), 0)] : List Nd) ++ mdL 0 np ++ mdL (((np : Nat) : Int)) ni).length) (lvS (lvS lq 0 np) np ni) - pS (capL cap c w13Y.length) (lvS (lvS lq 0 np) np ni)) 130) (As := [.int (iI ((d : Nat))), .int (iI ((np : Nat)))]) (rest := []) B (mW_put w13C w13b.1 w13b.2.1 w13b.2.2 w13L hd ((congrFun (w13W.2.1 9 (by omega) (by omega)) d).trans h9) ((congrFun (w13W.2.1 10 (by omega) (by omega)) d).trans h10) (by omega) (lv := ((np : Nat) : Int)) (by omega) (by omega)) rfl rfl ⟨Nat.le_of_ble_eq_true rfl, Nat.le_of_ble_eq_true rfl⟩ w13C.1 rfl rfl (Nat.le_of_ble_eq_true rfl) d_Mod_write_112 ⟨by rw [w15e]; exact PL_c w13p w15m w15t, by rw [w15e]; exact PL_s w13p w15m w15t⟩ (fun v1 w15M ep => ?_)
              obtain ⟨e1, w15U⟩ := ep
              subst e1
              have w15U := wrP_app (lq := lq) w13W w15U
              obtain ⟨w15Y, w15h⟩ : ∃ Y : List Nd, Y = w13Y ++ (apL (np + ni) ++ ([(1, ((d : Nat) : Int), 0)] : List Nd) ++ mdL 0 np ++ mdL (((np : Nat) : Int)) ni) := ⟨_, rfl⟩
              rw [← w15h] at w15U
              have w15l : w15Y.length = w13Y.length + (apL (np + ni) ++ ([(1, ((d : Nat) : Int), 0)] : List Nd) ++ mdL 0 np ++ mdL (((np : Nat) : Int)) ni).length := by rw [w15h, List.length_append]
              obtain ⟨w15A, w15F, w15W, w15L, w15C⟩ := w15U
              rw [← w15l] at w15e w15m w15t
              have w15b : CK cap c w15Y.length := CK_of hcc hcap0 hcap (by omega)
              have w15p := w13p.tr w15m
              refine mv_widen (c2 := pC (capL cap c w15Y.length) (lvS (lvS lq 0 np) np ni) - pC cap lq) (s2 := pS (capL cap c w15Y.length) (lvS (lvS lq 0 np) np ni) - pS cap lq) (by rw [w15e]; exact PL_c2 w13p w15m) (by rw [w15e]; exact PL_s2 w13p w15m) ?_
              clear w15e w15m w15t w15n
              show mv_G X Q (kk V) 9 115 [(7, .int (iI ((ni : Nat)))), (6, .int (iI (((b + unS xs i0 ni : Nat) : Int)))), (5, .int (iI (((b + i0 : Nat) : Int)))), (0, .ref r), (1, .int (iI ((d : Nat)))), (2, .int (iI (s))), (3, .int (iI ((np : Nat)))), (4, .int (iI ((ni : Nat))))] [] w15M (pC (capL cap c w15Y.length) (lvS (lvS lq 0 np) np ni) - pC cap lq) (pS (capL cap c w15Y.length) (lvS (lvS lq 0 np) np ni) - pS cap lq)
              have k16_7 : w15M (w15A 7) = some (iA V (100) (w15F 7)) := w15C.2.1 7 (by decide)
              have k16_9 : w15M (w15A 9) = some (iA V (100) (w15F 9)) := w15C.2.1 9 (by decide)
              have k16_10 : w15M (w15A 10) = some (iA V (100) (w15F 10)) := w15C.2.1 10 (by decide)
              have k16_11 : w15M (w15A 11) = some (iA V (100) (w15F 11)) := w15C.2.1 11 (by decide)
              refine mv_aloadR_n B d_Mod_write_115 rfl 3 rfl ?_
              refine mv_iconst (z := 2) B d_Mod_write_116 rfl ?_
              refine mv_iload_n B d_Mod_write_117 rfl 5 rfl ?_
              refine mv_iconst (z := 0) B d_Mod_write_118 rfl ?_
              have w17z : ([(2, s, 0)] : List Nd).length = 1 := rfl
              have w17q : lvS (lvS lq 0 np) np ni ≤ lvS (lvS lq 0 np) np ni ∧ lvS (lvS lq 0 np) np ni ≤ Q9 := ⟨Nat.le_refl _, w15q.2⟩
              have w17n : w15Y.length + (([(2, s, 0)] : List Nd)).length ≤ N9 := by omega
              have w17e : capL (capL cap c w15Y.length) (c + w15Y.length) (([(2, s, 0)] : List Nd)).length = capL cap c (w15Y.length + (([(2, s, 0)] : List Nd)).length) := (capL_add cap c w15Y.length (([(2, s, 0)] : List Nd)).length).symm
              have w17m : PL (capL cap c w15Y.length) (lvS (lvS lq 0 np) np ni) (capL cap c (w15Y.length + (([(2, s, 0)] : List Nd)).length)) (lvS (lvS lq 0 np) np ni) := PL_le (capL_mono cap c (Nat.le_add_right _ _)) w17q.1
              have w17t : PL (capL cap c (w15Y.length + (([(2, s, 0)] : List Nd)).length)) (lvS (lvS lq 0 np) np ni) (capL cap c (wtR xs cd (F 12) np ni ra ((d : Nat) : Int) s (fun k => ((d + 1 + k : Nat) : Int))).length) (wtQ cd lq np ni ra) := PL_le (capL_mono cap c (hN9 ▸ w17n)) (hQ9 ▸ w17q.2)
              refine ca_Mod_63 (mc := pC (capL (capL cap c w15Y.length) (c + w15Y.length) (([(2, s, 0)] : List Nd)).length) (lvS (lvS lq 0 np) np ni) - pC (capL cap c w15Y.length) (lvS (lvS lq 0 np) np ni)) (ms := pS (capL (capL cap c w15Y.length) (c + w15Y.length) (([(2, s, 0)] : List Nd)).length) (lvS (lvS lq 0 np) np ni) - pS (capL cap c w15Y.length) (lvS (lvS lq 0 np) np ni)) (rm' := rM 2 (pC (capL (capL cap c w15Y.length) (c + w15Y.length) (([(2, s, 0)] : List Nd)).length) (lvS (lvS lq 0 np) np ni) - pC (capL cap c w15Y.length) (lvS (lvS lq 0 np) np ni)) (pS (capL (capL cap c w15Y.length) (c + w15Y.length) (([(2, s, 0)] : List Nd)).length) (lvS (lvS lq 0 np) np ni) - pS (capL cap c w15Y.length) (lvS (lvS lq 0 np) np ni)) 70) (As := [.int (iI (2)), .int (iI (s)), .int (iI (0))]) (rest := []) B (mW_add w15C w15b.1 w15b.2.1 w15b.2.2 (k := 2) (v := s) (s := 0) (by omega) (by omega) (by omega) w15L) rfl rfl ⟨Nat.le_of_ble_eq_true rfl, Nat.le_of_ble_eq_true rfl⟩ w15C.1 rfl rfl (Nat.le_of_ble_eq_true rfl) d_Mod_write_119 ⟨by rw [w17e]; exact PL_c w15p w17m w17t, by rw [w17e]; exact PL_s w15p w17m w17t⟩ (fun v1 w17M ep => ?_)
              obtain ⟨e1, w17U⟩ := ep
              subst e1
              have w17U := wrP_app (lq := lq) w15W w17U
              obtain ⟨w17Y, w17h⟩ : ∃ Y : List Nd, Y = w15Y ++ (([(2, s, 0)] : List Nd)) := ⟨_, rfl⟩
              rw [← w17h] at w17U
              have w17l : w17Y.length = w15Y.length + (([(2, s, 0)] : List Nd)).length := by rw [w17h, List.length_append]
              obtain ⟨w17A, w17F, w17W, w17L, w17C⟩ := w17U
              rw [← w17l] at w17e w17m w17t
              have w17b : CK cap c w17Y.length := CK_of hcc hcap0 hcap (by omega)
              have w17p := w15p.tr w17m
              refine mv_widen (c2 := pC (capL cap c w17Y.length) (lvS (lvS lq 0 np) np ni) - pC cap lq) (s2 := pS (capL cap c w17Y.length) (lvS (lvS lq 0 np) np ni) - pS cap lq) (by rw [w17e]; exact PL_c2 w15p w17m) (by rw [w17e]; exact PL_s2 w15p w17m) ?_
              clear w17e w17m w17t w17n
              show mv_G X Q (kk V) 9 122 [(7, .int (iI ((ni : Nat)))), (6, .int (iI (((b + unS xs i0 ni : Nat) : Int)))), (5, .int (iI (((b + i0 : Nat) : Int)))), (0, .ref r), (1, .int (iI ((d : Nat)))), (2, .int (iI (s))), (3, .int (iI ((np : Nat)))), (4, .int (iI ((ni : Nat))))] [.int (iI (((c + w15Y.length : Nat) : Int)))] w17M (pC (capL cap c w17Y.length) (lvS (lvS lq 0 np) np ni) - pC cap lq) (pS (capL cap c w17Y.length) (lvS (lvS lq 0 np) np ni) - pS cap lq)
              have k18_7 : w17M (w17A 7) = some (iA V (100) (w17F 7)) := w17C.2.1 7 (by decide)
              have k18_9 : w17M (w17A 9) = some (iA V (100) (w17F 9)) := w17C.2.1 9 (by decide)
              have k18_10 : w17M (w17A 10) = some (iA V (100) (w17F 10)) := w17C.2.1 10 (by decide)
              have k18_11 : w17M (w17A 11) = some (iA V (100) (w17F 11)) := w17C.2.1 11 (by decide)
              refine mv_pop B d_Mod_write_122 rfl ?_
              obtain ⟨Q5, hQ5⟩ : ∃ z : Nat, z = (lvS (lvS lq 0 np) np ni) := ⟨_, rfl⟩
              obtain ⟨L5, hL5⟩ : ∃ z : Nat → Int, z = (upL (upL (F 12) 0 0 np) np ((np : Nat) : Int) ni) := ⟨_, rfl⟩
              rw [← hQ5] at w17C hT2 hT3 hT6 hT8 hT9 hA4 hA5 hA6 w17p hlak2 hlbk2 hlck2 hldk2
              rw [← hL5] at w17L hNl hLv3
              rw [← hQ5]
              show mv_G X Q (kk V) 9 123 [(7, .int (iI ((ni : Nat)))), (6, .int (iI (((b + unS xs i0 ni : Nat) : Int)))), (5, .int (iI (((b + i0 : Nat) : Int)))), (0, .ref r), (1, .int (iI ((d : Nat)))), (2, .int (iI (s))), (3, .int (iI ((np : Nat)))), (4, .int (iI ((ni : Nat))))] [] w17M (pC (capL cap c w17Y.length) (Q5) - pC cap lq) (pS (capL cap c w17Y.length) (Q5) - pS cap lq)
              have k19_7 : w17M (w17A 7) = some (iA V (100) (w17F 7)) := w17C.2.1 7 (by decide)
              have k19_9 : w17M (w17A 9) = some (iA V (100) (w17F 9)) := w17C.2.1 9 (by decide)
              have k19_10 : w17M (w17A 10) = some (iA V (100) (w17F 10)) := w17C.2.1 10 (by decide)
              have k19_11 : w17M (w17A 11) = some (iA V (100) (w17F 11)) := w17C.2.1 11 (by decide)
              refine mv_iload_n B d_Mod_write_123 rfl 6 rfl ?_
              refine mv_iconst (z := 1) B d_Mod_write_124 rfl ?_
              refine mv_iadd B d_Mod_write_125 ?_
              refine mv_istore (lv' := [(7, .int (iI ((np : Nat) + 1))), (6, .int (iI (((b + unS xs i0 ni : Nat) : Int)))), (5, .int (iI (((b + i0 : Nat) : Int)))), (0, .ref r), (1, .int (iI ((d : Nat)))), (2, .int (iI (s))), (3, .int (iI ((np : Nat)))), (4, .int (iI ((ni : Nat))))]) B d_Mod_write_126 (by decide) rfl ?_
              refine mv_iload_n B d_Mod_write_128 rfl 4 rfl ?_
              refine mv_iconst (z := 1) B d_Mod_write_129 rfl ?_
              refine mv_iadd B d_Mod_write_130 ?_
              refine mv_istore (lv' := [(8, .int (iI ((d : Nat) + 1))), (7, .int (iI ((np : Nat) + 1))), (6, .int (iI (((b + unS xs i0 ni : Nat) : Int)))), (5, .int (iI (((b + i0 : Nat) : Int)))), (0, .ref r), (1, .int (iI ((d : Nat)))), (2, .int (iI (s))), (3, .int (iI ((np : Nat)))), (4, .int (iI ((ni : Nat))))]) B d_Mod_write_131 (by decide) rfl ?_
              have L133 : ∀ (fu : Nat) (c1 : Nat) (My1 : mv_M) (Ay1 : Nat → Nat) (Fy1 : Nat → Nat → Int), (c1 ≤ ra) → (WR F Fy1 c (w17Y ++ csR cd L5 np ni (fun k => ((d + 1 + k : Nat) : Int)) c1)) → (Fy1 12 = csLv cd L5 np c1) → (RefC V My1 r Ay1 (rN (capL cap c (w17Y ++ csR cd L5 np ni (fun k => ((d + 1 + k : Nat) : Int)) c1).length) (csQ cd Q5 np c1)) Fy1 ((c + (w17Y ++ csR cd L5 np ni (fun k => ((d + 1 + k : Nat) : Int)) c1).length : Nat) : Int) tn gn) → (ra - c1) < fu → mv_G X Q (kk V) 9 133 [(8, .int (iI (((d + 1 + c1 : Nat) : Int)))), (7, .int (iI (((np : Nat) : Int) + 1 + ((c1 : Nat) : Int)))), (6, .int (iI (((b + unS xs i0 ni : Nat) : Int)))), (5, .int (iI (((b + i0 : Nat) : Int)))), (0, .ref r), (1, .int (iI ((d : Nat)))), (2, .int (iI (s))), (3, .int (iI ((np : Nat)))), (4, .int (iI ((ni : Nat))))] [] My1 (pC (capL cap c (w17Y ++ csR cd L5 np ni (fun k => ((d + 1 + k : Nat) : Int)) c1).length) (csQ cd Q5 np c1) - pC cap lq) (pS (capL cap c (w17Y ++ csR cd L5 np ni (fun k => ((d + 1 + k : Nat) : Int)) c1).length) (csQ cd Q5 np c1) - pS cap lq) := by
                intro fu
                induction fu with
                | zero => intro c1 My1 Ay1 Fy1 hc1 hWl hLl hCl hm; exact absurd hm (Nat.not_lt_zero _)
                | succ fu ih133 =>
                  intro c1 My1 Ay1 Fy1 hc1 hWl hLl hCl hm
                  obtain ⟨Yl133, hYl133⟩ : ∃ Y : List Nd, Y = (w17Y ++ csR cd L5 np ni (fun k => ((d + 1 + k : Nat) : Int)) c1) := ⟨_, rfl⟩
                  rw [← hYl133] at hWl hCl
                  rw [← hYl133]
                  have lYl133 : Yl133.length = w17Y.length + (csR cd L5 np ni (fun k => ((d + 1 + k : Nat) : Int)) c1).length := by rw [hYl133, List.length_append]
                  have hcn := csR_mono (cd := cd) (Λ := L5) (np := np) (ni := ni) (nc := (fun k => ((d + 1 + k : Nat) : Int))) hc1
                  have hlqj := (csQ_ok (cd := cd) (lq := Q5) (np := np) (by omega) (by omega) c1).1
                  have hlqk := hT8 c1 hc1
                  have hlqm := hT3 c1 hc1
                  have hbL133 : Yl133.length ≤ N9 := by omega
                  have ckL133 : CK cap c Yl133.length := CK_of hcc hcap0 hcap (by omega)
                  have hqL133 : lq ≤ csQ cd Q5 np c1 ∧ csQ cd Q5 np c1 ≤ Q9 := by omega
                  have plL133 : PL cap lq (capL cap c Yl133.length) (csQ cd Q5 np c1) := PL_le (capL_ge cap c Yl133.length) hqL133.1
                  have k21_7 : My1 (Ay1 7) = some (iA V (100) (Fy1 7)) := hCl.2.1 7 (by decide)
                  have k21_9 : My1 (Ay1 9) = some (iA V (100) (Fy1 9)) := hCl.2.1 9 (by decide)
                  have k21_10 : My1 (Ay1 10) = some (iA V (100) (Fy1 10)) := hCl.2.1 10 (by decide)
                  have k21_11 : My1 (Ay1 11) = some (iA V (100) (Fy1 11)) := hCl.2.1 11 (by decide)
                  refine mv_iload B d_Mod_write_133 0 rfl ?_
                  refine mv_iload_n B d_Mod_write_135 rfl 5 rfl ?_
                  refine mv_aloadR_n B d_Mod_write_136 rfl 4 rfl ?_
                  refine gf_Mod_43 B hCl.1 rfl d_Mod_write_137 ?_
                  refine mv_iload_n B d_Mod_write_140 rfl 5 rfl ?_
                  refine ia_ld B k21_11 (by omega) (by omega) (by omega) d_Mod_write_141 ?_
                  rw [show Int.toNat ((d : Nat)) = d from by omega]
                  have rr22 : R32 ((Fy1 11) d) := (hCl.R 11) _
                  rw [show Fy1 11 d = (ra : Nat) from (congrFun (hWl.2.1 11 (by omega) (by omega)) d).trans h11]
                  refine mv_iadd B d_Mod_write_142 ?_
                  refine mv_icmp_gt (tgt := 172) B d_Mod_write_143 (by decide) (by omega) (by omega) (fun c23 => ?_) (fun c23 => ?_)
                  · have ec1 : ra = c1 := by omega
                    subst ec1
                    clear ih133 hm
                    obtain ⟨Q6, hQ6⟩ : ∃ z : Nat, z = csQ cd Q5 np ra := ⟨_, rfl⟩
                    obtain ⟨L6, hL6⟩ : ∃ z : Nat → Int, z = csLv cd L5 np ra := ⟨_, rfl⟩
                    obtain ⟨L9, hL9⟩ : ∃ z : Int, z = (((np : Nat) : Int) + 1 + ((ra : Nat) : Int)) := ⟨_, rfl⟩
                    rw [← hQ6] at hCl hT6 hT9 plL133 hqL133 hlqj hlqk hlqm
                    rw [← hL6] at hLl hLv3
                    rw [← hL9] at hLv3 ⊢
                    rw [← hQ6]
                    have hR9 : 0 ≤ L9 ∧ L9 ≤ 2000 := by omega
                    have hA7 := (lvS_ok (lq := Q6) (v := np) (by omega) (by omega) ni).1
                    show mv_G X Q (kk V) 9 172 [(8, .int (iI (((d + 1 + ra : Nat) : Int)))), (7, .int (iI (L9))), (6, .int (iI (((b + unS xs i0 ni : Nat) : Int)))), (5, .int (iI (((b + i0 : Nat) : Int)))), (0, .ref r), (1, .int (iI ((d : Nat)))), (2, .int (iI (s))), (3, .int (iI ((np : Nat)))), (4, .int (iI ((ni : Nat))))] [] My1 (pC (capL cap c Yl133.length) (Q6) - pC cap lq) (pS (capL cap c Yl133.length) (Q6) - pS cap lq)
                    have k24_7 : My1 (Ay1 7) = some (iA V (100) (Fy1 7)) := hCl.2.1 7 (by decide)
                    have k24_9 : My1 (Ay1 9) = some (iA V (100) (Fy1 9)) := hCl.2.1 9 (by decide)
                    have k24_10 : My1 (Ay1 10) = some (iA V (100) (Fy1 10)) := hCl.2.1 10 (by decide)
                    have k24_11 : My1 (Ay1 11) = some (iA V (100) (Fy1 11)) := hCl.2.1 11 (by decide)
                    refine mv_iload B d_Mod_write_172 3 rfl ?_
                    refine mv_istore (lv' := [(6, .int (iI (((b + i0 : Nat) : Int)))), (8, .int (iI (((d + 1 + ra : Nat) : Int)))), (7, .int (iI (L9))), (5, .int (iI (((b + i0 : Nat) : Int)))), (0, .ref r), (1, .int (iI ((d : Nat)))), (2, .int (iI (s))), (3, .int (iI ((np : Nat)))), (4, .int (iI ((ni : Nat))))]) B d_Mod_write_174 (by decide) rfl ?_
                    refine mv_iconst (z := 0) B d_Mod_write_176 rfl ?_
                    refine mv_istore (lv' := [(8, .int (iI (0))), (6, .int (iI (((b + i0 : Nat) : Int)))), (7, .int (iI (L9))), (5, .int (iI (((b + i0 : Nat) : Int)))), (0, .ref r), (1, .int (iI ((d : Nat)))), (2, .int (iI (s))), (3, .int (iI ((np : Nat)))), (4, .int (iI ((ni : Nat))))]) B d_Mod_write_177 (by decide) rfl ?_
                    have L179 : ∀ (fu : Nat) (k3 : Nat) (My1 : mv_M) (Ay1 : Nat → Nat) (Fy1 : Nat → Nat → Int), (k3 ≤ ni) → (WR F Fy1 c (Yl133 ++ bnR xs L6 6 np L9 i0 k3)) → (Fy1 12 = upL L6 np L9 k3) → (RefC V My1 r Ay1 (rN (capL cap c (Yl133 ++ bnR xs L6 6 np L9 i0 k3).length) (lvS Q6 np k3)) Fy1 ((c + (Yl133 ++ bnR xs L6 6 np L9 i0 k3).length : Nat) : Int) tn gn) → (ni - k3) < fu → mv_G X Q (kk V) 9 179 [(8, .int (iI ((k3 : Nat)))), (7, .int (iI (L9))), (6, .int (iI (((b + unS xs i0 k3 : Nat) : Int)))), (5, .int (iI (((b + i0 : Nat) : Int)))), (0, .ref r), (1, .int (iI ((d : Nat)))), (2, .int (iI (s))), (3, .int (iI ((np : Nat)))), (4, .int (iI ((ni : Nat))))] [] My1 (pC (capL cap c (Yl133 ++ bnR xs L6 6 np L9 i0 k3).length) (lvS Q6 np k3) - pC cap lq) (pS (capL cap c (Yl133 ++ bnR xs L6 6 np L9 i0 k3).length) (lvS Q6 np k3) - pS cap lq) := by
                      intro fu
                      induction fu with
                      | zero => intro k3 My1 Ay1 Fy1 hk3 hWl hLl hCl hm; exact absurd hm (Nat.not_lt_zero _)
                      | succ fu ih179 =>
                        intro k3 My1 Ay1 Fy1 hk3 hWl hLl hCl hm
                        obtain ⟨Yl179, hYl179⟩ : ∃ Y : List Nd, Y = (Yl133 ++ bnR xs L6 6 np L9 i0 k3) := ⟨_, rfl⟩
                        rw [← hYl179] at hWl hCl
                        rw [← hYl179]
                        have lYl179 : Yl179.length = Yl133.length + (bnR xs L6 6 np L9 i0 k3).length := by rw [hYl179, List.length_append]
                        have lz179 : (bnR xs L6 6 np L9 i0 k3).length + i0 = unS xs i0 k3 := bnR_len2 k3
                        have hmo3 := unS_mono xs i0 hk3
                        have hlak3 := (lvS_ok (lq := Q6) (v := np) (by omega) (by omega) k3).1
                        have hlbk3 := (lvS_ok (lq := Q6) (v := np) (by omega) (by omega) k3).2.1
                        have hlck3 := (lvS_ok (lq := Q6) (v := np) (by omega) (by omega) k3).2.2 (by omega) (by omega)
                        have hldk3 : lvS Q6 np k3 ≤ Q9 := Nat.le_trans (lvS_m hk3) hT9
                        have hbL179 : Yl179.length ≤ N9 := by omega
                        have ckL179 : CK cap c Yl179.length := CK_of hcc hcap0 hcap (by omega)
                        have hqL179 : lq ≤ lvS Q6 np k3 ∧ lvS Q6 np k3 ≤ Q9 := by omega
                        have plL179 : PL cap lq (capL cap c Yl179.length) (lvS Q6 np k3) := PL_le (capL_ge cap c Yl179.length) hqL179.1
                        have k26_7 : My1 (Ay1 7) = some (iA V (100) (Fy1 7)) := hCl.2.1 7 (by decide)
                        have k26_9 : My1 (Ay1 9) = some (iA V (100) (Fy1 9)) := hCl.2.1 9 (by decide)
                        have k26_10 : My1 (Ay1 10) = some (iA V (100) (Fy1 10)) := hCl.2.1 10 (by decide)
                        have k26_11 : My1 (Ay1 11) = some (iA V (100) (Fy1 11)) := hCl.2.1 11 (by decide)
                        refine mv_iload B d_Mod_write_179 0 rfl ?_
                        refine mv_iload B d_Mod_write_181 8 rfl ?_
                        refine mv_icmp_ge (tgt := 211) B d_Mod_write_183 (by decide) (by omega) (by omega) (fun c27 => ?_) (fun c27 => ?_)
                        · have ek3 : ni = k3 := by omega
                          subst ek3
                          clear ih179 hm
                          refine mv_aloadR_n B d_Mod_write_211 rfl 4 rfl ?_
                          refine mv_bipush (z := 6) B d_Mod_write_212 (by decide) ?_
                          refine mv_bipush (z := 99) B d_Mod_write_214 (by decide) ?_
                          refine mv_iconst (z := 0) B d_Mod_write_216 rfl ?_
                          have w28z : ([(6, 99, 0)] : List Nd).length = 1 := rfl
                          have w28q : lvS Q6 np ni ≤ lvS Q6 np ni ∧ lvS Q6 np ni ≤ Q9 := ⟨Nat.le_refl _, hqL179.2⟩
                          have w28n : Yl179.length + (([(6, 99, 0)] : List Nd)).length ≤ N9 := by omega
                          have w28e : capL (capL cap c Yl179.length) (c + Yl179.length) (([(6, 99, 0)] : List Nd)).length = capL cap c (Yl179.length + (([(6, 99, 0)] : List Nd)).length) := (capL_add cap c Yl179.length (([(6, 99, 0)] : List Nd)).length).symm
                          have w28m : PL (capL cap c Yl179.length) (lvS Q6 np ni) (capL cap c (Yl179.length + (([(6, 99, 0)] : List Nd)).length)) (lvS Q6 np ni) := PL_le (capL_mono cap c (Nat.le_add_right _ _)) w28q.1
                          have w28t : PL (capL cap c (Yl179.length + (([(6, 99, 0)] : List Nd)).length)) (lvS Q6 np ni) (capL cap c (wtR xs cd (F 12) np ni ra ((d : Nat) : Int) s (fun k => ((d + 1 + k : Nat) : Int))).length) (wtQ cd lq np ni ra) := PL_le (capL_mono cap c (hN9 ▸ w28n)) (hQ9 ▸ w28q.2)
                          refine ca_Mod_63 (mc := pC (capL (capL cap c Yl179.length) (c + Yl179.length) (([(6, 99, 0)] : List Nd)).length) (lvS Q6 np ni) - pC (capL cap c Yl179.length) (lvS Q6 np ni)) (ms := pS (capL (capL cap c Yl179.length) (c + Yl179.length) (([(6, 99, 0)] : List Nd)).length) (lvS Q6 np ni) - pS (capL cap c Yl179.length) (lvS Q6 np ni)) (rm' := rM 2 (pC (capL (capL cap c Yl179.length) (c + Yl179.length) (([(6, 99, 0)] : List Nd)).length) (lvS Q6 np ni) - pC (capL cap c Yl179.length) (lvS Q6 np ni)) (pS (capL (capL cap c Yl179.length) (c + Yl179.length) (([(6, 99, 0)] : List Nd)).length) (lvS Q6 np ni) - pS (capL cap c Yl179.length) (lvS Q6 np ni)) 70) (As := [.int (iI (6)), .int (iI (99)), .int (iI (0))]) (rest := []) B (mW_add hCl ckL179.1 ckL179.2.1 ckL179.2.2 (k := 6) (v := 99) (s := 0) (by omega) (by omega) (by omega) hLl) rfl rfl ⟨Nat.le_of_ble_eq_true rfl, Nat.le_of_ble_eq_true rfl⟩ hCl.1 rfl rfl (Nat.le_of_ble_eq_true rfl) d_Mod_write_217 ⟨by rw [w28e]; exact PL_c plL179 w28m w28t, by rw [w28e]; exact PL_s plL179 w28m w28t⟩ (fun v1 w28M ep => ?_)
                          obtain ⟨e1, w28U⟩ := ep
                          subst e1
                          have w28U := wrP_app (lq := lq) hWl w28U
                          obtain ⟨w28Y, w28h⟩ : ∃ Y : List Nd, Y = Yl179 ++ (([(6, 99, 0)] : List Nd)) := ⟨_, rfl⟩
                          rw [← w28h] at w28U
                          have w28l : w28Y.length = Yl179.length + (([(6, 99, 0)] : List Nd)).length := by rw [w28h, List.length_append]
                          obtain ⟨w28A, w28F, w28W, w28L, w28C⟩ := w28U
                          rw [← w28l] at w28e w28m w28t
                          have w28b : CK cap c w28Y.length := CK_of hcc hcap0 hcap (by omega)
                          have w28p := plL179.tr w28m
                          refine mv_widen (c2 := pC (capL cap c w28Y.length) (lvS Q6 np ni) - pC cap lq) (s2 := pS (capL cap c w28Y.length) (lvS Q6 np ni) - pS cap lq) (by rw [w28e]; exact PL_c2 plL179 w28m) (by rw [w28e]; exact PL_s2 plL179 w28m) ?_
                          clear w28e w28m w28t w28n
                          show mv_G X Q (kk V) 9 220 [(8, .int (iI ((ni : Nat)))), (7, .int (iI (L9))), (6, .int (iI (((b + unS xs i0 ni : Nat) : Int)))), (5, .int (iI (((b + i0 : Nat) : Int)))), (0, .ref r), (1, .int (iI ((d : Nat)))), (2, .int (iI (s))), (3, .int (iI ((np : Nat)))), (4, .int (iI ((ni : Nat))))] [.int (iI (((c + Yl179.length : Nat) : Int)))] w28M (pC (capL cap c w28Y.length) (lvS Q6 np ni) - pC cap lq) (pS (capL cap c w28Y.length) (lvS Q6 np ni) - pS cap lq)
                          have k29_7 : w28M (w28A 7) = some (iA V (100) (w28F 7)) := w28C.2.1 7 (by decide)
                          have k29_9 : w28M (w28A 9) = some (iA V (100) (w28F 9)) := w28C.2.1 9 (by decide)
                          have k29_10 : w28M (w28A 10) = some (iA V (100) (w28F 10)) := w28C.2.1 10 (by decide)
                          have k29_11 : w28M (w28A 11) = some (iA V (100) (w28F 11)) := w28C.2.1 11 (by decide)
                          refine mv_pop B d_Mod_write_220 rfl ?_
                          refine mv_aloadR_n B d_Mod_write_221 rfl 4 rfl ?_
                          refine mv_iload_n B d_Mod_write_222 rfl 5 rfl ?_
                          refine mv_iload B d_Mod_write_223 1 rfl ?_
                          have w30z : (apL (np + ni) ++ ([(1, ((d : Nat) : Int), 0)] : List Nd) ++ mdL 0 np ++ mdL (L9) ni).length = (np + ni) + 1 + np + ni := by simp only [List.length_append, apL_len, mdL_len, List.length_singleton]
                          have w30q : lvS Q6 np ni ≤ lvS Q6 np ni ∧ lvS Q6 np ni ≤ Q9 := ⟨Nat.le_refl _, w28q.2⟩
                          have w30n : w28Y.length + (apL (np + ni) ++ ([(1, ((d : Nat) : Int), 0)] : List Nd) ++ mdL 0 np ++ mdL (L9) ni).length ≤ N9 := by omega
                          have w30e : capL (capL cap c w28Y.length) (c + w28Y.length) (apL (np + ni) ++ ([(1, ((d : Nat) : Int), 0)] : List Nd) ++ mdL 0 np ++ mdL (L9) ni).length = capL cap c (w28Y.length + (apL (np + ni) ++ ([(1, ((d : Nat) : Int), 0)] : List Nd) ++ mdL 0 np ++ mdL (L9) ni).length) := (capL_add cap c w28Y.length (apL (np + ni) ++ ([(1, ((d : Nat) : Int), 0)] : List Nd) ++ mdL 0 np ++ mdL (L9) ni).length).symm
                          have w30m : PL (capL cap c w28Y.length) (lvS Q6 np ni) (capL cap c (w28Y.length + (apL (np + ni) ++ ([(1, ((d : Nat) : Int), 0)] : List Nd) ++ mdL 0 np ++ mdL (L9) ni).length)) (lvS Q6 np ni) := PL_le (capL_mono cap c (Nat.le_add_right _ _)) w30q.1
                          have w30t : PL (capL cap c (w28Y.length + (apL (np + ni) ++ ([(1, ((d : Nat) : Int), 0)] : List Nd) ++ mdL 0 np ++ mdL (L9) ni).length)) (lvS Q6 np ni) (capL cap c (wtR xs cd (F 12) np ni ra ((d : Nat) : Int) s (fun k => ((d + 1 + k : Nat) : Int))).length) (wtQ cd lq np ni ra) := PL_le (capL_mono cap c (hN9 ▸ w30n)) (hQ9 ▸ w30q.2)
                          refine ca_Mod_156 (mc := pC (capL (capL cap c w28Y.length) (c + w28Y.length) (apL (np + ni) ++ ([(1, ((d : Nat) : Int), 0)] : List Nd) ++ mdL 0 np ++ mdL (L9) ni).length) (lvS Q6 np ni) - pC (capL cap c w28Y.length) (lvS Q6 np ni)) (ms := pS (capL (capL cap c w28Y.length) (c + w28Y.length) (apL (np + ni) ++ ([(1, ((d : Nat) : Int), 0)] : List Nd) ++ mdL 0 np ++ mdL (L9) ni).length) (lvS Q6 np ni) - pS (capL cap c w28Y.length) (lvS Q6 np ni)) (rm' := rM 4 (pC (capL (capL cap c w28Y.length) (c + w28Y.length) (apL (np + ni) ++ ([(1, ((d : Nat) : Int), 0)] : List Nd) ++ mdL 0 np ++ mdL (L9) ni).length) (lvS Q6 np ni) - pC (capL cap c w28Y.length) (lvS Q6 np ni)) (pS (capL (capL cap c w28Y.length) (c + w28Y.length) (apL (np + ni) ++ ([(1, ((d : Nat) : Int), 0)] : List Nd) ++ mdL 0 np ++ mdL (L9) ni).length) (lvS Q6 np ni) - pS (capL cap c w28Y.length) (lvS Q6 np ni)) 130) (As := [.int (iI ((d : Nat))), .int (iI (L9))]) (rest := []) B (mW_put w28C w28b.1 w28b.2.1 w28b.2.2 w28L hd ((congrFun (w28W.2.1 9 (by omega) (by omega)) d).trans h9) ((congrFun (w28W.2.1 10 (by omega) (by omega)) d).trans h10) (by omega) (lv := L9) (by omega) (by omega)) rfl rfl ⟨Nat.le_of_ble_eq_true rfl, Nat.le_of_ble_eq_true rfl⟩ w28C.1 rfl rfl (Nat.le_of_ble_eq_true rfl) d_Mod_write_225 ⟨by rw [w30e]; exact PL_c w28p w30m w30t, by rw [w30e]; exact PL_s w28p w30m w30t⟩ (fun v1 w30M ep => ?_)
                          obtain ⟨e1, w30U⟩ := ep
                          subst e1
                          have w30U := wrP_app (lq := lq) w28W w30U
                          obtain ⟨w30Y, w30h⟩ : ∃ Y : List Nd, Y = w28Y ++ (apL (np + ni) ++ ([(1, ((d : Nat) : Int), 0)] : List Nd) ++ mdL 0 np ++ mdL (L9) ni) := ⟨_, rfl⟩
                          rw [← w30h] at w30U
                          have w30l : w30Y.length = w28Y.length + (apL (np + ni) ++ ([(1, ((d : Nat) : Int), 0)] : List Nd) ++ mdL 0 np ++ mdL (L9) ni).length := by rw [w30h, List.length_append]
                          obtain ⟨w30A, w30F, w30W, w30L, w30C⟩ := w30U
                          rw [← w30l] at w30e w30m w30t
                          have w30b : CK cap c w30Y.length := CK_of hcc hcap0 hcap (by omega)
                          have w30p := w28p.tr w30m
                          refine mv_widen (c2 := pC (capL cap c w30Y.length) (lvS Q6 np ni) - pC cap lq) (s2 := pS (capL cap c w30Y.length) (lvS Q6 np ni) - pS cap lq) (by rw [w30e]; exact PL_c2 w28p w30m) (by rw [w30e]; exact PL_s2 w28p w30m) ?_
                          clear w30e w30m w30t w30n
                          show mv_G X Q (kk V) 9 228 [(8, .int (iI ((ni : Nat)))), (7, .int (iI (L9))), (6, .int (iI (((b + unS xs i0 ni : Nat) : Int)))), (5, .int (iI (((b + i0 : Nat) : Int)))), (0, .ref r), (1, .int (iI ((d : Nat)))), (2, .int (iI (s))), (3, .int (iI ((np : Nat)))), (4, .int (iI ((ni : Nat))))] [] w30M (pC (capL cap c w30Y.length) (lvS Q6 np ni) - pC cap lq) (pS (capL cap c w30Y.length) (lvS Q6 np ni) - pS cap lq)
                          have k31_7 : w30M (w30A 7) = some (iA V (100) (w30F 7)) := w30C.2.1 7 (by decide)
                          have k31_9 : w30M (w30A 9) = some (iA V (100) (w30F 9)) := w30C.2.1 9 (by decide)
                          have k31_10 : w30M (w30A 10) = some (iA V (100) (w30F 10)) := w30C.2.1 10 (by decide)
                          have k31_11 : w30M (w30A 11) = some (iA V (100) (w30F 11)) := w30C.2.1 11 (by decide)
                          refine mv_aloadR_n B d_Mod_write_228 rfl 4 rfl ?_
                          refine mv_iload B d_Mod_write_229 8 rfl ?_
                          refine mv_iconst (z := 1) B d_Mod_write_231 rfl ?_
                          refine mv_iadd B d_Mod_write_232 ?_
                          have w32z : (apL (ni + 1)).length = ni + 1 := apL_len _
                          have w32q : lvS Q6 np ni ≤ lvS Q6 np ni ∧ lvS Q6 np ni ≤ Q9 := ⟨Nat.le_refl _, w30q.2⟩
                          have w32n : w30Y.length + (apL (ni + 1)).length ≤ N9 := by omega
                          have w32e : capL (capL cap c w30Y.length) (c + w30Y.length) (apL (ni + 1)).length = capL cap c (w30Y.length + (apL (ni + 1)).length) := (capL_add cap c w30Y.length (apL (ni + 1)).length).symm
                          have w32m : PL (capL cap c w30Y.length) (lvS Q6 np ni) (capL cap c (w30Y.length + (apL (ni + 1)).length)) (lvS Q6 np ni) := PL_le (capL_mono cap c (Nat.le_add_right _ _)) w32q.1
                          have w32t : PL (capL cap c (w30Y.length + (apL (ni + 1)).length)) (lvS Q6 np ni) (capL cap c (wtR xs cd (F 12) np ni ra ((d : Nat) : Int) s (fun k => ((d + 1 + k : Nat) : Int))).length) (wtQ cd lq np ni ra) := PL_le (capL_mono cap c (hN9 ▸ w32n)) (hQ9 ▸ w32q.2)
                          refine ca_Mod_153 (mc := pC (capL (capL cap c w30Y.length) (c + w30Y.length) (apL (ni + 1)).length) (lvS Q6 np ni) - pC (capL cap c w30Y.length) (lvS Q6 np ni)) (ms := pS (capL (capL cap c w30Y.length) (c + w30Y.length) (apL (ni + 1)).length) (lvS Q6 np ni) - pS (capL cap c w30Y.length) (lvS Q6 np ni)) (rm' := rM 3 (pC (capL (capL cap c w30Y.length) (c + w30Y.length) (apL (ni + 1)).length) (lvS Q6 np ni) - pC (capL cap c w30Y.length) (lvS Q6 np ni)) (pS (capL (capL cap c w30Y.length) (c + w30Y.length) (apL (ni + 1)).length) (lvS Q6 np ni) - pS (capL cap c w30Y.length) (lvS Q6 np ni)) 100) (As := [.int (iI ((ni : Nat) + 1))]) (rest := []) B (mW_apps w30C w30b.1 w30b.2.1 w30b.2.2 (n := ni + 1) (m := (ni : Nat) + 1) (by omega) (by rw [apL_len]; omega) w30L) rfl rfl ⟨Nat.le_of_ble_eq_true rfl, Nat.le_of_ble_eq_true rfl⟩ w30C.1 rfl rfl (Nat.le_of_ble_eq_true rfl) d_Mod_write_233 ⟨by rw [w32e]; exact PL_c w30p w32m w32t, by rw [w32e]; exact PL_s w30p w32m w32t⟩ (fun v1 w32M ep => ?_)
                          obtain ⟨e1, w32U⟩ := ep
                          subst e1
                          have w32U := wrP_app (lq := lq) w30W w32U
                          obtain ⟨w32Y, w32h⟩ : ∃ Y : List Nd, Y = w30Y ++ (apL (ni + 1)) := ⟨_, rfl⟩
                          rw [← w32h] at w32U
                          have w32l : w32Y.length = w30Y.length + (apL (ni + 1)).length := by rw [w32h, List.length_append]
                          obtain ⟨w32A, w32F, w32W, w32L, w32C⟩ := w32U
                          rw [← w32l] at w32e w32m w32t
                          have w32b : CK cap c w32Y.length := CK_of hcc hcap0 hcap (by omega)
                          have w32p := w30p.tr w32m
                          refine mv_widen (c2 := pC (capL cap c w32Y.length) (lvS Q6 np ni) - pC cap lq) (s2 := pS (capL cap c w32Y.length) (lvS Q6 np ni) - pS cap lq) (by rw [w32e]; exact PL_c2 w30p w32m) (by rw [w32e]; exact PL_s2 w30p w32m) ?_
                          clear w32e w32m w32t w32n
                          show mv_G X Q (kk V) 9 236 [(8, .int (iI ((ni : Nat)))), (7, .int (iI (L9))), (6, .int (iI (((b + unS xs i0 ni : Nat) : Int)))), (5, .int (iI (((b + i0 : Nat) : Int)))), (0, .ref r), (1, .int (iI ((d : Nat)))), (2, .int (iI (s))), (3, .int (iI ((np : Nat)))), (4, .int (iI ((ni : Nat))))] [] w32M (pC (capL cap c w32Y.length) (lvS Q6 np ni) - pC cap lq) (pS (capL cap c w32Y.length) (lvS Q6 np ni) - pS cap lq)
                          have k33_7 : w32M (w32A 7) = some (iA V (100) (w32F 7)) := w32C.2.1 7 (by decide)
                          have k33_9 : w32M (w32A 9) = some (iA V (100) (w32F 9)) := w32C.2.1 9 (by decide)
                          have k33_10 : w32M (w32A 10) = some (iA V (100) (w32F 10)) := w32C.2.1 10 (by decide)
                          have k33_11 : w32M (w32A 11) = some (iA V (100) (w32F 11)) := w32C.2.1 11 (by decide)
                          refine mv_aloadR_n B d_Mod_write_236 rfl 4 rfl ?_
                          refine mv_iload_n B d_Mod_write_237 rfl 7 rfl ?_
                          have w34z : ([((0 : Int), 1000000 + ((np : Nat)), (0 : Int))] : List Nd).length = 1 := rfl
                          have w34q : lvS Q6 np ni ≤ lvS Q6 np ni ∧ lvS Q6 np ni ≤ Q9 := ⟨Nat.le_refl _, w32q.2⟩
                          have w34n : w32Y.length + (([((0 : Int), 1000000 + ((np : Nat)), (0 : Int))] : List Nd)).length ≤ N9 := by omega
                          have w34e : capL (capL cap c w32Y.length) (c + w32Y.length) (([((0 : Int), 1000000 + ((np : Nat)), (0 : Int))] : List Nd)).length = capL cap c (w32Y.length + (([((0 : Int), 1000000 + ((np : Nat)), (0 : Int))] : List Nd)).length) := (capL_add cap c w32Y.length (([((0 : Int), 1000000 + ((np : Nat)), (0 : Int))] : List Nd)).length).symm
                          have w34m : PL (capL cap c w32Y.length) (lvS Q6 np ni) (capL cap c (w32Y.length + (([((0 : Int), 1000000 + ((np : Nat)), (0 : Int))] : List Nd)).length)) (lvS Q6 np ni) := PL_le (capL_mono cap c (Nat.le_add_right _ _)) w34q.1
                          have w34t : PL (capL cap c (w32Y.length + (([((0 : Int), 1000000 + ((np : Nat)), (0 : Int))] : List Nd)).length)) (lvS Q6 np ni) (capL cap c (wtR xs cd (F 12) np ni ra ((d : Nat) : Int) s (fun k => ((d + 1 + k : Nat) : Int))).length) (wtQ cd lq np ni ra) := PL_le (capL_mono cap c (hN9 ▸ w34n)) (hQ9 ▸ w34q.2)
                          refine ca_Mod_126 (mc := pC (capL (capL cap c w32Y.length) (c + w32Y.length) (([((0 : Int), 1000000 + ((np : Nat)), (0 : Int))] : List Nd)).length) (lvS Q6 np ni) - pC (capL cap c w32Y.length) (lvS Q6 np ni)) (ms := pS (capL (capL cap c w32Y.length) (c + w32Y.length) (([((0 : Int), 1000000 + ((np : Nat)), (0 : Int))] : List Nd)).length) (lvS Q6 np ni) - pS (capL cap c w32Y.length) (lvS Q6 np ni)) (rm' := rM 3 (pC (capL (capL cap c w32Y.length) (c + w32Y.length) (([((0 : Int), 1000000 + ((np : Nat)), (0 : Int))] : List Nd)).length) (lvS Q6 np ni) - pC (capL cap c w32Y.length) (lvS Q6 np ni)) (pS (capL (capL cap c w32Y.length) (c + w32Y.length) (([((0 : Int), 1000000 + ((np : Nat)), (0 : Int))] : List Nd)).length) (lvS Q6 np ni) - pS (capL cap c w32Y.length) (lvS Q6 np ni)) 100) (As := [.int (iI ((np : Nat)))]) (rest := []) B (mW_made w32C w32b.1 w32b.2.1 w32b.2.2 (v := (np : Nat)) (by omega) w32L) rfl rfl ⟨Nat.le_of_ble_eq_true rfl, Nat.le_of_ble_eq_true rfl⟩ w32C.1 rfl rfl (Nat.le_of_ble_eq_true rfl) d_Mod_write_238 ⟨by rw [w34e]; exact PL_c w32p w34m w34t, by rw [w34e]; exact PL_s w32p w34m w34t⟩ (fun v1 w34M ep => ?_)
                          obtain ⟨e1, w34U⟩ := ep
                          subst e1
                          have w34U := wrP_app (lq := lq) w32W w34U
                          obtain ⟨w34Y, w34h⟩ : ∃ Y : List Nd, Y = w32Y ++ (([((0 : Int), 1000000 + ((np : Nat)), (0 : Int))] : List Nd)) := ⟨_, rfl⟩
                          rw [← w34h] at w34U
                          have w34l : w34Y.length = w32Y.length + (([((0 : Int), 1000000 + ((np : Nat)), (0 : Int))] : List Nd)).length := by rw [w34h, List.length_append]
                          obtain ⟨w34A, w34F, w34W, w34L, w34C⟩ := w34U
                          rw [← w34l] at w34e w34m w34t
                          have w34b : CK cap c w34Y.length := CK_of hcc hcap0 hcap (by omega)
                          have w34p := w32p.tr w34m
                          refine mv_widen (c2 := pC (capL cap c w34Y.length) (lvS Q6 np ni) - pC cap lq) (s2 := pS (capL cap c w34Y.length) (lvS Q6 np ni) - pS cap lq) (by rw [w34e]; exact PL_c2 w32p w34m) (by rw [w34e]; exact PL_s2 w32p w34m) ?_
                          clear w34e w34m w34t w34n
                          show mv_G X Q (kk V) 9 241 [(8, .int (iI ((ni : Nat)))), (7, .int (iI (L9))), (6, .int (iI (((b + unS xs i0 ni : Nat) : Int)))), (5, .int (iI (((b + i0 : Nat) : Int)))), (0, .ref r), (1, .int (iI ((d : Nat)))), (2, .int (iI (s))), (3, .int (iI ((np : Nat)))), (4, .int (iI ((ni : Nat))))] [] w34M (pC (capL cap c w34Y.length) (lvS Q6 np ni) - pC cap lq) (pS (capL cap c w34Y.length) (lvS Q6 np ni) - pS cap lq)
                          have k35_7 : w34M (w34A 7) = some (iA V (100) (w34F 7)) := w34C.2.1 7 (by decide)
                          have k35_9 : w34M (w34A 9) = some (iA V (100) (w34F 9)) := w34C.2.1 9 (by decide)
                          have k35_10 : w34M (w34A 10) = some (iA V (100) (w34F 10)) := w34C.2.1 10 (by decide)
                          have k35_11 : w34M (w34A 11) = some (iA V (100) (w34F 11)) := w34C.2.1 11 (by decide)
                          refine mv_iconst (z := 0) B d_Mod_write_241 rfl ?_
                          refine mv_istore (lv' := [(8, .int (iI (0))), (7, .int (iI (L9))), (6, .int (iI (((b + unS xs i0 ni : Nat) : Int)))), (5, .int (iI (((b + i0 : Nat) : Int)))), (0, .ref r), (1, .int (iI ((d : Nat)))), (2, .int (iI (s))), (3, .int (iI ((np : Nat)))), (4, .int (iI ((ni : Nat))))]) B d_Mod_write_242 (by decide) rfl ?_
                          have L244 : ∀ (fu : Nat) (m : Nat) (My1 : mv_M) (Ay1 : Nat → Nat) (Fy1 : Nat → Nat → Int), (m ≤ ni + 1) → (WR F Fy1 c (w34Y ++ mdL (L9) m)) → (Fy1 12 = upL L6 np L9 ni) → (RefC V My1 r Ay1 (rN (capL cap c (w34Y ++ mdL (L9) m).length) (lvS Q6 np ni)) Fy1 ((c + (w34Y ++ mdL (L9) m).length : Nat) : Int) tn gn) → (ni + 1 - m) < fu → mv_G X Q (kk V) 9 244 [(8, .int (iI ((m : Nat)))), (7, .int (iI (L9))), (6, .int (iI (((b + unS xs i0 ni : Nat) : Int)))), (5, .int (iI (((b + i0 : Nat) : Int)))), (0, .ref r), (1, .int (iI ((d : Nat)))), (2, .int (iI (s))), (3, .int (iI ((np : Nat)))), (4, .int (iI ((ni : Nat))))] [] My1 (pC (capL cap c (w34Y ++ mdL (L9) m).length) (lvS Q6 np ni) - pC cap lq) (pS (capL cap c (w34Y ++ mdL (L9) m).length) (lvS Q6 np ni) - pS cap lq) := by
                            intro fu
                            induction fu with
                            | zero => intro m My1 Ay1 Fy1 hi hWl hLl hCl hm; exact absurd hm (Nat.not_lt_zero _)
                            | succ fu ih244 =>
                              intro m My1 Ay1 Fy1 hi hWl hLl hCl hm
                              obtain ⟨Yl244, hYl244⟩ : ∃ Y : List Nd, Y = (w34Y ++ mdL (L9) m) := ⟨_, rfl⟩
                              rw [← hYl244] at hWl hCl
                              rw [← hYl244]
                              have lYl244 : Yl244.length = w34Y.length + (mdL (L9) m).length := by rw [hYl244, List.length_append]
                              have lz244 : (mdL (L9) m).length = m := mdL_len _ _
                              have hbL244 : Yl244.length ≤ N9 := by omega
                              have ckL244 : CK cap c Yl244.length := CK_of hcc hcap0 hcap (by omega)
                              have hqL244 : lq ≤ lvS Q6 np ni ∧ lvS Q6 np ni ≤ Q9 := by omega
                              have plL244 : PL cap lq (capL cap c Yl244.length) (lvS Q6 np ni) := PL_le (capL_ge cap c Yl244.length) hqL244.1
                              have k37_7 : My1 (Ay1 7) = some (iA V (100) (Fy1 7)) := hCl.2.1 7 (by decide)
                              have k37_9 : My1 (Ay1 9) = some (iA V (100) (Fy1 9)) := hCl.2.1 9 (by decide)
                              have k37_10 : My1 (Ay1 10) = some (iA V (100) (Fy1 10)) := hCl.2.1 10 (by decide)
                              have k37_11 : My1 (Ay1 11) = some (iA V (100) (Fy1 11)) := hCl.2.1 11 (by decide)
                              refine mv_iload B d_Mod_write_244 0 rfl ?_
                              refine mv_iload B d_Mod_write_246 8 rfl ?_
                              refine mv_icmp_gt (tgt := 266) B d_Mod_write_248 (by decide) (by omega) (by omega) (fun c38 => ?_) (fun c38 => ?_)
                              · have em : (ni + 1) = m := by omega
                                subst em
                                clear ih244 hm
                                subst hQ6
                                subst hL6
                                subst hL9
                                subst hQ5
                                subst hL5
                                have eZ : Yl244 = wtR xs cd (F 12) np ni ra ((d : Nat) : Int) s (fun k => ((d + 1 + k : Nat) : Int)) := by rw [hYl244, w34h, w32h, w30h, w28h, hYl179, hYl133, w17h, w15h, w13h, hYl69, w8h, hYl26, hY0]; unfold wtR wtLv; rw [hI0]; simp only [List.append_nil, List.nil_append, List.append_assoc]
                                rw [hQ]
                                exact mv_vret B ⟨rfl, Ay1, Fy1, by rw [← eZ]; exact hWl, hLl, by rw [← eZ]; exact hCl⟩ (by rw [eZ]; exact Nat.le_refl _) (by rw [eZ]; exact Nat.le_refl _) d_Mod_write_266
                              · refine mv_aloadR_n B d_Mod_write_251 rfl 4 rfl ?_
                                refine mv_iload B d_Mod_write_252 1 rfl ?_
                                refine mv_iload B d_Mod_write_254 0 rfl ?_
                                refine mv_iadd B d_Mod_write_256 ?_
                                have w39z : ([((0 : Int), 1000000 + (L9 + (m : Nat)), (0 : Int))] : List Nd).length = 1 := rfl
                                have w39q : lvS Q6 np ni ≤ lvS Q6 np ni ∧ lvS Q6 np ni ≤ Q9 := ⟨Nat.le_refl _, hqL244.2⟩
                                have w39n : Yl244.length + (([((0 : Int), 1000000 + (L9 + (m : Nat)), (0 : Int))] : List Nd)).length ≤ N9 := by omega
                                have w39e : capL (capL cap c Yl244.length) (c + Yl244.length) (([((0 : Int), 1000000 + (L9 + (m : Nat)), (0 : Int))] : List Nd)).length = capL cap c (Yl244.length + (([((0 : Int), 1000000 + (L9 + (m : Nat)), (0 : Int))] : List Nd)).length) := (capL_add cap c Yl244.length (([((0 : Int), 1000000 + (L9 + (m : Nat)), (0 : Int))] : List Nd)).length).symm
                                have w39m : PL (capL cap c Yl244.length) (lvS Q6 np ni) (capL cap c (Yl244.length + (([((0 : Int), 1000000 + (L9 + (m : Nat)), (0 : Int))] : List Nd)).length)) (lvS Q6 np ni) := PL_le (capL_mono cap c (Nat.le_add_right _ _)) w39q.1
                                have w39t : PL (capL cap c (Yl244.length + (([((0 : Int), 1000000 + (L9 + (m : Nat)), (0 : Int))] : List Nd)).length)) (lvS Q6 np ni) (capL cap c (wtR xs cd (F 12) np ni ra ((d : Nat) : Int) s (fun k => ((d + 1 + k : Nat) : Int))).length) (wtQ cd lq np ni ra) := PL_le (capL_mono cap c (hN9 ▸ w39n)) (hQ9 ▸ w39q.2)
                                refine ca_Mod_126 (mc := pC (capL (capL cap c Yl244.length) (c + Yl244.length) (([((0 : Int), 1000000 + (L9 + (m : Nat)), (0 : Int))] : List Nd)).length) (lvS Q6 np ni) - pC (capL cap c Yl244.length) (lvS Q6 np ni)) (ms := pS (capL (capL cap c Yl244.length) (c + Yl244.length) (([((0 : Int), 1000000 + (L9 + (m : Nat)), (0 : Int))] : List Nd)).length) (lvS Q6 np ni) - pS (capL cap c Yl244.length) (lvS Q6 np ni)) (rm' := rM 3 (pC (capL (capL cap c Yl244.length) (c + Yl244.length) (([((0 : Int), 1000000 + (L9 + (m : Nat)), (0 : Int))] : List Nd)).length) (lvS Q6 np ni) - pC (capL cap c Yl244.length) (lvS Q6 np ni)) (pS (capL (capL cap c Yl244.length) (c + Yl244.length) (([((0 : Int), 1000000 + (L9 + (m : Nat)), (0 : Int))] : List Nd)).length) (lvS Q6 np ni) - pS (capL cap c Yl244.length) (lvS Q6 np ni)) 100) (As := [.int (iI (L9 + (m : Nat)))]) (rest := []) B (mW_made hCl ckL244.1 ckL244.2.1 ckL244.2.2 (v := L9 + (m : Nat)) (by omega) hLl) rfl rfl ⟨Nat.le_of_ble_eq_true rfl, Nat.le_of_ble_eq_true rfl⟩ hCl.1 rfl rfl (Nat.le_of_ble_eq_true rfl) d_Mod_write_257 ⟨by rw [w39e]; exact PL_c plL244 w39m w39t, by rw [w39e]; exact PL_s plL244 w39m w39t⟩ (fun v1 w39M ep => ?_)
                                obtain ⟨e1, w39U⟩ := ep
                                subst e1
                                have w39U := wrP_app (lq := lq) hWl w39U
                                obtain ⟨w39Y, w39h⟩ : ∃ Y : List Nd, Y = Yl244 ++ (([((0 : Int), 1000000 + (L9 + (m : Nat)), (0 : Int))] : List Nd)) := ⟨_, rfl⟩
                                rw [← w39h] at w39U
                                have w39l : w39Y.length = Yl244.length + (([((0 : Int), 1000000 + (L9 + (m : Nat)), (0 : Int))] : List Nd)).length := by rw [w39h, List.length_append]
                                obtain ⟨w39A, w39F, w39W, w39L, w39C⟩ := w39U
                                rw [← w39l] at w39e w39m w39t
                                have w39b : CK cap c w39Y.length := CK_of hcc hcap0 hcap (by omega)
                                have w39p := plL244.tr w39m
                                refine mv_widen (c2 := pC (capL cap c w39Y.length) (lvS Q6 np ni) - pC cap lq) (s2 := pS (capL cap c w39Y.length) (lvS Q6 np ni) - pS cap lq) (by rw [w39e]; exact PL_c2 plL244 w39m) (by rw [w39e]; exact PL_s2 plL244 w39m) ?_
                                clear w39e w39m w39t w39n
                                show mv_G X Q (kk V) 9 260 [(8, .int (iI ((m : Nat)))), (7, .int (iI (L9))), (6, .int (iI (((b + unS xs i0 ni : Nat) : Int)))), (5, .int (iI (((b + i0 : Nat) : Int)))), (0, .ref r), (1, .int (iI ((d : Nat)))), (2, .int (iI (s))), (3, .int (iI ((np : Nat)))), (4, .int (iI ((ni : Nat))))] [] w39M (pC (capL cap c w39Y.length) (lvS Q6 np ni) - pC cap lq) (pS (capL cap c w39Y.length) (lvS Q6 np ni) - pS cap lq)
                                have k40_7 : w39M (w39A 7) = some (iA V (100) (w39F 7)) := w39C.2.1 7 (by decide)
                                have k40_9 : w39M (w39A 9) = some (iA V (100) (w39F 9)) := w39C.2.1 9 (by decide)
                                have k40_10 : w39M (w39A 10) = some (iA V (100) (w39F 10)) := w39C.2.1 10 (by decide)
                                have k40_11 : w39M (w39A 11) = some (iA V (100) (w39F 11)) := w39C.2.1 11 (by decide)
                                refine mv_iinc (lv' := [(8, .int (iI ((m : Nat) + 1))), (7, .int (iI (L9))), (6, .int (iI (((b + unS xs i0 ni : Nat) : Int)))), (5, .int (iI (((b + i0 : Nat) : Int)))), (0, .ref r), (1, .int (iI ((d : Nat)))), (2, .int (iI (s))), (3, .int (iI ((np : Nat)))), (4, .int (iI ((ni : Nat))))]) B d_Mod_write_260 0 rfl (by decide) rfl ?_
                                refine mv_goto (tgt := 244) B d_Mod_write_263 (by decide) ?_
                                have y41 : w39Y = (w34Y ++ mdL (L9) (m + 1)) := by rw [w39h, hYl244]; simp only [mdL, List.append_assoc]
                                rw [y41]
                                refine mv_lv (lv' := [(8, .int (iI (((m + 1) : Nat)))), (7, .int (iI (L9))), (6, .int (iI (((b + unS xs i0 ni : Nat) : Int)))), (5, .int (iI (((b + i0 : Nat) : Int)))), (0, .ref r), (1, .int (iI ((d : Nat)))), (2, .int (iI (s))), (3, .int (iI ((np : Nat)))), (4, .int (iI ((ni : Nat))))]) [0, 1, 2, 3, 4, 5, 6, 7, 8] (lc (lI (by first | rfl | omega)) (lc rfl (lc rfl (lc rfl (lc rfl (lc rfl (lc rfl (lc rfl (lc rfl rfl))))))))) ?_
                                exact ih244 (m + 1) w39M w39A w39F (by omega) (by rw [← y41]; exact w39W) (w39L) (by rw [← y41]; exact w39C) (by omega)
                          refine mv_lv (lv' := [(8, .int (iI ((0 : Nat)))), (7, .int (iI (L9))), (6, .int (iI (((b + unS xs i0 ni : Nat) : Int)))), (5, .int (iI (((b + i0 : Nat) : Int)))), (0, .ref r), (1, .int (iI ((d : Nat)))), (2, .int (iI (s))), (3, .int (iI ((np : Nat)))), (4, .int (iI ((ni : Nat))))]) [0, 1, 2, 3, 4, 5, 6, 7, 8] (lc (lI (by first | rfl | omega)) (lc rfl (lc rfl (lc rfl (lc rfl (lc rfl (lc rfl (lc rfl (lc rfl rfl))))))))) ?_
                          have y36 : w34Y = (w34Y ++ mdL (L9) 0) := (List.append_nil _).symm
                          rw [y36]
                          exact L244 _ 0 w34M w34A w34F (by omega) (by rw [← y36]; exact w34W) (w34L) (by rw [← y36]; exact w34C) (Nat.lt_succ_self _)
                        · refine mv_aloadR_n B d_Mod_write_186 rfl 4 rfl ?_
                          refine mv_bipush (z := 6) B d_Mod_write_187 (by decide) ?_
                          refine mv_iload B d_Mod_write_189 2 rfl ?_
                          refine mv_iload_n B d_Mod_write_191 rfl 7 rfl ?_
                          refine mv_iload B d_Mod_write_192 0 rfl ?_
                          refine mv_iadd B d_Mod_write_194 ?_
                          refine mv_iload B d_Mod_write_195 1 rfl ?_
                          refine mv_iload B d_Mod_write_197 0 rfl ?_
                          refine mv_iadd B d_Mod_write_199 ?_
                          rw [show ((np : Nat) : Int) + ((k3 : Nat) : Int) = ((np + k3 : Nat) : Int) by omega]
                          have hBy1 := (Bds_ok hcp hB1 k3 (by omega)).1
                          have hBy2 := (Bds_ok hcp hB1 k3 (by omega)).2.1
                          have hBk := hB1.2 k3 (by omega)
                          have hmn := unS_mono xs i0 (show k3 + 1 ≤ ni by omega)
                          have hmu : unS xs i0 (k3 + 1) = unS xs i0 k3 + 1 + lnS xs (unS xs i0 k3 + 1) := rfl
                          have w42z : (([(6, (gN xs (unS xs i0 k3)).2.1, 0)] : List Nd) ++ pqS xs (upL L6 np L9 k3) ((np + k3 : Nat) : Int) (unS xs i0 k3 + 1) (lnS xs (unS xs i0 k3 + 1))).length = 1 + lnS xs (unS xs i0 k3 + 1) := by rw [List.length_append, pqS_len]; rfl
                          have w42v : np + k3 ≤ lvS Q6 np k3 ∧ 1 ≤ lvS Q6 np k3 ∧ lvS Q6 np k3 ≤ 4000 := by omega
                          have w42q : lvS Q6 np k3 ≤ lvN (lvS Q6 np k3) (np + k3) ∧ lvN (lvS Q6 np k3) (np + k3) ≤ Q9 := by have h1 := (lvN_ok (lq := lvS Q6 np k3) (v := np + k3) (by omega) (by omega)).2.1; have h2 : lvN (lvS Q6 np k3) (np + k3) ≤ lvS Q6 np ni := lvS_m (m := k3 + 1) (by omega); have h3 : lvS Q6 np ni ≤ Q9 := hT9; omega
                          have w42n : Yl179.length + (([(6, (gN xs (unS xs i0 k3)).2.1, 0)] : List Nd) ++ pqS xs (upL L6 np L9 k3) ((np + k3 : Nat) : Int) (unS xs i0 k3 + 1) (lnS xs (unS xs i0 k3 + 1))).length ≤ N9 := by omega
                          have w42e : capL (capL cap c Yl179.length) (c + Yl179.length) (([(6, (gN xs (unS xs i0 k3)).2.1, 0)] : List Nd) ++ pqS xs (upL L6 np L9 k3) ((np + k3 : Nat) : Int) (unS xs i0 k3 + 1) (lnS xs (unS xs i0 k3 + 1))).length = capL cap c (Yl179.length + (([(6, (gN xs (unS xs i0 k3)).2.1, 0)] : List Nd) ++ pqS xs (upL L6 np L9 k3) ((np + k3 : Nat) : Int) (unS xs i0 k3 + 1) (lnS xs (unS xs i0 k3 + 1))).length) := (capL_add cap c Yl179.length (([(6, (gN xs (unS xs i0 k3)).2.1, 0)] : List Nd) ++ pqS xs (upL L6 np L9 k3) ((np + k3 : Nat) : Int) (unS xs i0 k3 + 1) (lnS xs (unS xs i0 k3 + 1))).length).symm
                          have w42m : PL (capL cap c Yl179.length) (lvS Q6 np k3) (capL cap c (Yl179.length + (([(6, (gN xs (unS xs i0 k3)).2.1, 0)] : List Nd) ++ pqS xs (upL L6 np L9 k3) ((np + k3 : Nat) : Int) (unS xs i0 k3 + 1) (lnS xs (unS xs i0 k3 + 1))).length)) (lvN (lvS Q6 np k3) (np + k3)) := PL_le (capL_mono cap c (Nat.le_add_right _ _)) w42q.1
                          have w42t : PL (capL cap c (Yl179.length + (([(6, (gN xs (unS xs i0 k3)).2.1, 0)] : List Nd) ++ pqS xs (upL L6 np L9 k3) ((np + k3 : Nat) : Int) (unS xs i0 k3 + 1) (lnS xs (unS xs i0 k3 + 1))).length)) (lvN (lvS Q6 np k3) (np + k3)) (capL cap c (wtR xs cd (F 12) np ni ra ((d : Nat) : Int) s (fun k => ((d + 1 + k : Nat) : Int))).length) (wtQ cd lq np ni ra) := PL_le (capL_mono cap c (hN9 ▸ w42n)) (hQ9 ▸ w42q.2)
                          refine ca_Mod_150 (mc := pC (capL (capL cap c Yl179.length) (c + Yl179.length) (([(6, (gN xs (unS xs i0 k3)).2.1, 0)] : List Nd) ++ pqS xs (upL L6 np L9 k3) ((np + k3 : Nat) : Int) (unS xs i0 k3 + 1) (lnS xs (unS xs i0 k3 + 1))).length) (lvN (lvS Q6 np k3) (np + k3)) - pC (capL cap c Yl179.length) (lvS Q6 np k3)) (ms := pS (capL (capL cap c Yl179.length) (c + Yl179.length) (([(6, (gN xs (unS xs i0 k3)).2.1, 0)] : List Nd) ++ pqS xs (upL L6 np L9 k3) ((np + k3 : Nat) : Int) (unS xs i0 k3 + 1) (lnS xs (unS xs i0 k3 + 1))).length) (lvN (lvS Q6 np k3) (np + k3)) - pS (capL cap c Yl179.length) (lvS Q6 np k3)) (rm' := rM 5 (pC (capL (capL cap c Yl179.length) (c + Yl179.length) (([(6, (gN xs (unS xs i0 k3)).2.1, 0)] : List Nd) ++ pqS xs (upL L6 np L9 k3) ((np + k3 : Nat) : Int) (unS xs i0 k3 + 1) (lnS xs (unS xs i0 k3 + 1))).length) (lvN (lvS Q6 np k3) (np + k3)) - pC (capL cap c Yl179.length) (lvS Q6 np k3)) (pS (capL (capL cap c Yl179.length) (c + Yl179.length) (([(6, (gN xs (unS xs i0 k3)).2.1, 0)] : List Nd) ++ pqS xs (upL L6 np L9 k3) ((np + k3 : Nat) : Int) (unS xs i0 k3 + 1) (lnS xs (unS xs i0 k3 + 1))).length) (lvN (lvS Q6 np k3) (np + k3)) - pS (capL cap c Yl179.length) (lvS Q6 np k3)) 165) (As := [.int (iI (6)), .int (iI (((b + unS xs i0 k3 : Nat) : Int))), .int (iI (((np + k3 : Nat) : Int))), .int (iI (L9 + (k3 : Nat)))]) (rest := []) B (mW_binderOf hCl ckL179.1 ckL179.2.1 ckL179.2.2 hLl (seF_ag hWl.1 hl hs) (by omega) hcp hn1 hcl ho (i := unS xs i0 k3) (ar := np + k3) (k := 6) (lv := L9 + (k3 : Nat)) hBy1 hBk (by rw [hBy2, hI0d]; omega) (hLv3 k3 (by omega)) w42v (by omega) (by omega) (by omega)) rfl rfl ⟨Nat.le_of_ble_eq_true rfl, Nat.le_of_ble_eq_true rfl⟩ hCl.1 rfl rfl (Nat.le_of_ble_eq_true rfl) d_Mod_write_200 ⟨by rw [w42e]; exact PL_c plL179 w42m w42t, by rw [w42e]; exact PL_s plL179 w42m w42t⟩ (fun v1 w42M ep => ?_)
                          obtain ⟨e1, w42U⟩ := ep
                          subst e1
                          have w42U := wrP_app (lq := lq) hWl w42U
                          obtain ⟨w42Y, w42h⟩ : ∃ Y : List Nd, Y = Yl179 ++ (([(6, (gN xs (unS xs i0 k3)).2.1, 0)] : List Nd) ++ pqS xs (upL L6 np L9 k3) ((np + k3 : Nat) : Int) (unS xs i0 k3 + 1) (lnS xs (unS xs i0 k3 + 1))) := ⟨_, rfl⟩
                          rw [← w42h] at w42U
                          have w42l : w42Y.length = Yl179.length + (([(6, (gN xs (unS xs i0 k3)).2.1, 0)] : List Nd) ++ pqS xs (upL L6 np L9 k3) ((np + k3 : Nat) : Int) (unS xs i0 k3 + 1) (lnS xs (unS xs i0 k3 + 1))).length := by rw [w42h, List.length_append]
                          obtain ⟨w42A, w42F, w42W, w42L, w42C⟩ := w42U
                          rw [← w42l] at w42e w42m w42t
                          have w42b : CK cap c w42Y.length := CK_of hcc hcap0 hcap (by omega)
                          have w42p := plL179.tr w42m
                          refine mv_widen (c2 := pC (capL cap c w42Y.length) (lvN (lvS Q6 np k3) (np + k3)) - pC cap lq) (s2 := pS (capL cap c w42Y.length) (lvN (lvS Q6 np k3) (np + k3)) - pS cap lq) (by rw [w42e]; exact PL_c2 plL179 w42m) (by rw [w42e]; exact PL_s2 plL179 w42m) ?_
                          clear w42e w42m w42t w42n
                          show mv_G X Q (kk V) 9 203 [(8, .int (iI ((k3 : Nat)))), (7, .int (iI (L9))), (6, .int (iI (((b + unS xs i0 k3 : Nat) : Int)))), (5, .int (iI (((b + i0 : Nat) : Int)))), (0, .ref r), (1, .int (iI ((d : Nat)))), (2, .int (iI (s))), (3, .int (iI ((np : Nat)))), (4, .int (iI ((ni : Nat))))] [.int (iI (((b + (unS xs i0 k3 + 1 + lnS xs (unS xs i0 k3 + 1)) : Nat) : Int)))] w42M (pC (capL cap c w42Y.length) (lvN (lvS Q6 np k3) (np + k3)) - pC cap lq) (pS (capL cap c w42Y.length) (lvN (lvS Q6 np k3) (np + k3)) - pS cap lq)
                          have k43_7 : w42M (w42A 7) = some (iA V (100) (w42F 7)) := w42C.2.1 7 (by decide)
                          have k43_9 : w42M (w42A 9) = some (iA V (100) (w42F 9)) := w42C.2.1 9 (by decide)
                          have k43_10 : w42M (w42A 10) = some (iA V (100) (w42F 10)) := w42C.2.1 10 (by decide)
                          have k43_11 : w42M (w42A 11) = some (iA V (100) (w42F 11)) := w42C.2.1 11 (by decide)
                          refine mv_istore (lv' := [(6, .int (iI (((b + (unS xs i0 k3 + 1 + lnS xs (unS xs i0 k3 + 1)) : Nat) : Int)))), (8, .int (iI ((k3 : Nat)))), (7, .int (iI (L9))), (5, .int (iI (((b + i0 : Nat) : Int)))), (0, .ref r), (1, .int (iI ((d : Nat)))), (2, .int (iI (s))), (3, .int (iI ((np : Nat)))), (4, .int (iI ((ni : Nat))))]) B d_Mod_write_203 (by decide) rfl ?_
                          refine mv_iinc (lv' := [(8, .int (iI ((k3 : Nat) + 1))), (6, .int (iI (((b + (unS xs i0 k3 + 1 + lnS xs (unS xs i0 k3 + 1)) : Nat) : Int)))), (7, .int (iI (L9))), (5, .int (iI (((b + i0 : Nat) : Int)))), (0, .ref r), (1, .int (iI ((d : Nat)))), (2, .int (iI (s))), (3, .int (iI ((np : Nat)))), (4, .int (iI ((ni : Nat))))]) B d_Mod_write_205 1 rfl (by decide) rfl ?_
                          refine mv_goto (tgt := 179) B d_Mod_write_208 (by decide) ?_
                          have y44 : w42Y = (Yl133 ++ bnR xs L6 6 np L9 i0 (k3 + 1)) := by rw [w42h, hYl179]; simp only [bnR, List.append_assoc]
                          rw [y44]
                          refine mv_lv (lv' := [(8, .int (iI (((k3 + 1) : Nat)))), (7, .int (iI (L9))), (6, .int (iI (((b + unS xs i0 (k3 + 1) : Nat) : Int)))), (5, .int (iI (((b + i0 : Nat) : Int)))), (0, .ref r), (1, .int (iI ((d : Nat)))), (2, .int (iI (s))), (3, .int (iI ((np : Nat)))), (4, .int (iI ((ni : Nat))))]) [0, 2, 1, 3, 4, 5, 6, 7, 8] (lc (lI (by first | rfl | omega)) (lc rfl (lc (lI (by first | rfl | omega)) (lc rfl (lc rfl (lc rfl (lc rfl (lc rfl (lc rfl rfl))))))))) ?_
                          exact ih179 (k3 + 1) w42M w42A w42F (by omega) (by rw [← y44]; exact w42W) (w42L.trans (upL_s _ _ _ _)) (by rw [← y44]; exact w42C) (by omega)
                    refine mv_lv (lv' := [(8, .int (iI ((0 : Nat)))), (7, .int (iI (L9))), (6, .int (iI (((b + unS xs i0 0 : Nat) : Int)))), (5, .int (iI (((b + i0 : Nat) : Int)))), (0, .ref r), (1, .int (iI ((d : Nat)))), (2, .int (iI (s))), (3, .int (iI ((np : Nat)))), (4, .int (iI ((ni : Nat))))]) [0, 2, 1, 3, 4, 5, 6, 7, 8] (lc (lI (by first | rfl | omega)) (lc rfl (lc (lI (by first | rfl | omega)) (lc rfl (lc rfl (lc rfl (lc rfl (lc rfl (lc rfl rfl))))))))) ?_
                    have y25 : Yl133 = (Yl133 ++ bnR xs L6 6 np L9 i0 0) := (List.append_nil _).symm
                    rw [y25]
                    exact L179 _ 0 My1 Ay1 Fy1 (by omega) (by rw [← y25]; exact hWl) (hLl.trans (upL_0 _ _ _).symm) (by rw [← y25]; exact hCl) (Nat.lt_succ_self _)
                  · obtain ⟨hK1, hK2, hK3, hK4, hK5, hK6, hK7⟩ := hCs c1 (by omega)
                    have hT7 := hT3 (c1 + 1) (by omega)
                    have hcm := csR_mono (cd := cd) (Λ := L5) (np := np) (ni := ni) (nc := (fun k => ((d + 1 + k : Nat) : Int))) (show c1 + 1 ≤ ra by omega)
                    have hce : (csR cd L5 np ni (fun k => ((d + 1 + k : Nat) : Int)) (c1 + 1)).length = (csR cd L5 np ni (fun k => ((d + 1 + k : Nat) : Int)) c1).length + 1 + (paR (cd c1).1 (csLv cd L5 np c1) (cd c1).2.2.1 (cd c1).2.2.2.1 (cd c1).2.2.2.2.1 np ni (((np : Nat) : Int) + 1 + ((c1 : Nat) : Int)) (cd c1).2.1 (cd c1).2.2.2.2.2.1 (cd c1).2.2.2.2.2.2 ((d + 1 + c1 : Nat) : Int)).length := by simp only [csR, List.length_append, List.length_singleton]
                    refine mv_aloadR_n B d_Mod_write_146 rfl 4 rfl ?_
                    refine mv_bipush (z := 6) B d_Mod_write_147 (by decide) ?_
                    refine mv_iconst (z := -1) B d_Mod_write_149 rfl ?_
                    refine mv_iconst (z := 0) B d_Mod_write_150 rfl ?_
                    have w45z : ([(6, -1, 0)] : List Nd).length = 1 := rfl
                    have w45q : csQ cd Q5 np c1 ≤ csQ cd Q5 np c1 ∧ csQ cd Q5 np c1 ≤ Q9 := ⟨Nat.le_refl _, hqL133.2⟩
                    have w45n : Yl133.length + (([(6, -1, 0)] : List Nd)).length ≤ N9 := by omega
                    have w45e : capL (capL cap c Yl133.length) (c + Yl133.length) (([(6, -1, 0)] : List Nd)).length = capL cap c (Yl133.length + (([(6, -1, 0)] : List Nd)).length) := (capL_add cap c Yl133.length (([(6, -1, 0)] : List Nd)).length).symm
                    have w45m : PL (capL cap c Yl133.length) (csQ cd Q5 np c1) (capL cap c (Yl133.length + (([(6, -1, 0)] : List Nd)).length)) (csQ cd Q5 np c1) := PL_le (capL_mono cap c (Nat.le_add_right _ _)) w45q.1
                    have w45t : PL (capL cap c (Yl133.length + (([(6, -1, 0)] : List Nd)).length)) (csQ cd Q5 np c1) (capL cap c (wtR xs cd (F 12) np ni ra ((d : Nat) : Int) s (fun k => ((d + 1 + k : Nat) : Int))).length) (wtQ cd lq np ni ra) := PL_le (capL_mono cap c (hN9 ▸ w45n)) (hQ9 ▸ w45q.2)
                    refine ca_Mod_63 (mc := pC (capL (capL cap c Yl133.length) (c + Yl133.length) (([(6, -1, 0)] : List Nd)).length) (csQ cd Q5 np c1) - pC (capL cap c Yl133.length) (csQ cd Q5 np c1)) (ms := pS (capL (capL cap c Yl133.length) (c + Yl133.length) (([(6, -1, 0)] : List Nd)).length) (csQ cd Q5 np c1) - pS (capL cap c Yl133.length) (csQ cd Q5 np c1)) (rm' := rM 2 (pC (capL (capL cap c Yl133.length) (c + Yl133.length) (([(6, -1, 0)] : List Nd)).length) (csQ cd Q5 np c1) - pC (capL cap c Yl133.length) (csQ cd Q5 np c1)) (pS (capL (capL cap c Yl133.length) (c + Yl133.length) (([(6, -1, 0)] : List Nd)).length) (csQ cd Q5 np c1) - pS (capL cap c Yl133.length) (csQ cd Q5 np c1)) 70) (As := [.int (iI (6)), .int (iI (-1)), .int (iI (0))]) (rest := []) B (mW_add hCl ckL133.1 ckL133.2.1 ckL133.2.2 (k := 6) (v := -1) (s := 0) (by omega) (by omega) (by omega) hLl) rfl rfl ⟨Nat.le_of_ble_eq_true rfl, Nat.le_of_ble_eq_true rfl⟩ hCl.1 rfl rfl (Nat.le_of_ble_eq_true rfl) d_Mod_write_151 ⟨by rw [w45e]; exact PL_c plL133 w45m w45t, by rw [w45e]; exact PL_s plL133 w45m w45t⟩ (fun v1 w45M ep => ?_)
                    obtain ⟨e1, w45U⟩ := ep
                    subst e1
                    have w45U := wrP_app (lq := lq) hWl w45U
                    obtain ⟨w45Y, w45h⟩ : ∃ Y : List Nd, Y = Yl133 ++ (([(6, -1, 0)] : List Nd)) := ⟨_, rfl⟩
                    rw [← w45h] at w45U
                    have w45l : w45Y.length = Yl133.length + (([(6, -1, 0)] : List Nd)).length := by rw [w45h, List.length_append]
                    obtain ⟨w45A, w45F, w45W, w45L, w45C⟩ := w45U
                    rw [← w45l] at w45e w45m w45t
                    have w45b : CK cap c w45Y.length := CK_of hcc hcap0 hcap (by omega)
                    have w45p := plL133.tr w45m
                    refine mv_widen (c2 := pC (capL cap c w45Y.length) (csQ cd Q5 np c1) - pC cap lq) (s2 := pS (capL cap c w45Y.length) (csQ cd Q5 np c1) - pS cap lq) (by rw [w45e]; exact PL_c2 plL133 w45m) (by rw [w45e]; exact PL_s2 plL133 w45m) ?_
                    clear w45e w45m w45t w45n
                    show mv_G X Q (kk V) 9 154 [(8, .int (iI (((d + 1 + c1 : Nat) : Int)))), (7, .int (iI (((np : Nat) : Int) + 1 + ((c1 : Nat) : Int)))), (6, .int (iI (((b + unS xs i0 ni : Nat) : Int)))), (5, .int (iI (((b + i0 : Nat) : Int)))), (0, .ref r), (1, .int (iI ((d : Nat)))), (2, .int (iI (s))), (3, .int (iI ((np : Nat)))), (4, .int (iI ((ni : Nat))))] [.int (iI (((c + Yl133.length : Nat) : Int)))] w45M (pC (capL cap c w45Y.length) (csQ cd Q5 np c1) - pC cap lq) (pS (capL cap c w45Y.length) (csQ cd Q5 np c1) - pS cap lq)
                    have k46_7 : w45M (w45A 7) = some (iA V (100) (w45F 7)) := w45C.2.1 7 (by decide)
                    have k46_9 : w45M (w45A 9) = some (iA V (100) (w45F 9)) := w45C.2.1 9 (by decide)
                    have k46_10 : w45M (w45A 10) = some (iA V (100) (w45F 10)) := w45C.2.1 10 (by decide)
                    have k46_11 : w45M (w45A 11) = some (iA V (100) (w45F 11)) := w45C.2.1 11 (by decide)
                    refine mv_pop B d_Mod_write_154 rfl ?_
                    refine mv_aloadR_n B d_Mod_write_155 rfl 4 rfl ?_
                    refine mv_iload B d_Mod_write_156 0 rfl ?_
                    refine mv_iload B d_Mod_write_158 1 rfl ?_
                    have w47q : csQ cd Q5 np c1 ≤ paQ (csQ cd Q5 np c1) (cd c1).2.2.1 (cd c1).2.2.2.1 np (cd c1).2.1 ∧ paQ (csQ cd Q5 np c1) (cd c1).2.2.1 (cd c1).2.2.2.1 np (cd c1).2.1 ≤ Q9 := by have h1 := (paQ_ok (lq := csQ cd Q5 np c1) (rc := (cd c1).2.2.1) (yf := (cd c1).2.2.2.1) (np := np) (n := (cd c1).2.1) (by omega)).1; have h2 : paQ (csQ cd Q5 np c1) (cd c1).2.2.1 (cd c1).2.2.2.1 np (cd c1).2.1 ≤ Q9 := hT7; exact ⟨h1, h2⟩
                    have w47n : w45Y.length + (paR (cd c1).1 (csLv cd L5 np c1) (cd c1).2.2.1 (cd c1).2.2.2.1 (cd c1).2.2.2.2.1 np ni (((np : Nat) : Int) + 1 + ((c1 : Nat) : Int)) (cd c1).2.1 (cd c1).2.2.2.2.2.1 (cd c1).2.2.2.2.2.2 ((d + 1 + c1 : Nat) : Int)).length ≤ N9 := by omega
                    have w47e : capL (capL cap c w45Y.length) (c + w45Y.length) (paR (cd c1).1 (csLv cd L5 np c1) (cd c1).2.2.1 (cd c1).2.2.2.1 (cd c1).2.2.2.2.1 np ni (((np : Nat) : Int) + 1 + ((c1 : Nat) : Int)) (cd c1).2.1 (cd c1).2.2.2.2.2.1 (cd c1).2.2.2.2.2.2 ((d + 1 + c1 : Nat) : Int)).length = capL cap c (w45Y.length + (paR (cd c1).1 (csLv cd L5 np c1) (cd c1).2.2.1 (cd c1).2.2.2.1 (cd c1).2.2.2.2.1 np ni (((np : Nat) : Int) + 1 + ((c1 : Nat) : Int)) (cd c1).2.1 (cd c1).2.2.2.2.2.1 (cd c1).2.2.2.2.2.2 ((d + 1 + c1 : Nat) : Int)).length) := (capL_add cap c w45Y.length (paR (cd c1).1 (csLv cd L5 np c1) (cd c1).2.2.1 (cd c1).2.2.2.1 (cd c1).2.2.2.2.1 np ni (((np : Nat) : Int) + 1 + ((c1 : Nat) : Int)) (cd c1).2.1 (cd c1).2.2.2.2.2.1 (cd c1).2.2.2.2.2.2 ((d + 1 + c1 : Nat) : Int)).length).symm
                    have w47m : PL (capL cap c w45Y.length) (csQ cd Q5 np c1) (capL cap c (w45Y.length + (paR (cd c1).1 (csLv cd L5 np c1) (cd c1).2.2.1 (cd c1).2.2.2.1 (cd c1).2.2.2.2.1 np ni (((np : Nat) : Int) + 1 + ((c1 : Nat) : Int)) (cd c1).2.1 (cd c1).2.2.2.2.2.1 (cd c1).2.2.2.2.2.2 ((d + 1 + c1 : Nat) : Int)).length)) (paQ (csQ cd Q5 np c1) (cd c1).2.2.1 (cd c1).2.2.2.1 np (cd c1).2.1) := PL_le (capL_mono cap c (Nat.le_add_right _ _)) w47q.1
                    have w47t : PL (capL cap c (w45Y.length + (paR (cd c1).1 (csLv cd L5 np c1) (cd c1).2.2.1 (cd c1).2.2.2.1 (cd c1).2.2.2.2.1 np ni (((np : Nat) : Int) + 1 + ((c1 : Nat) : Int)) (cd c1).2.1 (cd c1).2.2.2.2.2.1 (cd c1).2.2.2.2.2.2 ((d + 1 + c1 : Nat) : Int)).length)) (paQ (csQ cd Q5 np c1) (cd c1).2.2.1 (cd c1).2.2.2.1 np (cd c1).2.1) (capL cap c (wtR xs cd (F 12) np ni ra ((d : Nat) : Int) s (fun k => ((d + 1 + k : Nat) : Int))).length) (wtQ cd lq np ni ra) := PL_le (capL_mono cap c (hN9 ▸ w47n)) (hQ9 ▸ w47q.2)
                    refine ca_Mod_159 (mc := pC (capL (capL cap c w45Y.length) (c + w45Y.length) (paR (cd c1).1 (csLv cd L5 np c1) (cd c1).2.2.1 (cd c1).2.2.2.1 (cd c1).2.2.2.2.1 np ni (((np : Nat) : Int) + 1 + ((c1 : Nat) : Int)) (cd c1).2.1 (cd c1).2.2.2.2.2.1 (cd c1).2.2.2.2.2.2 ((d + 1 + c1 : Nat) : Int)).length) (paQ (csQ cd Q5 np c1) (cd c1).2.2.1 (cd c1).2.2.2.1 np (cd c1).2.1) - pC (capL cap c w45Y.length) (csQ cd Q5 np c1)) (ms := pS (capL (capL cap c w45Y.length) (c + w45Y.length) (paR (cd c1).1 (csLv cd L5 np c1) (cd c1).2.2.1 (cd c1).2.2.2.1 (cd c1).2.2.2.2.1 np ni (((np : Nat) : Int) + 1 + ((c1 : Nat) : Int)) (cd c1).2.1 (cd c1).2.2.2.2.2.1 (cd c1).2.2.2.2.2.2 ((d + 1 + c1 : Nat) : Int)).length) (paQ (csQ cd Q5 np c1) (cd c1).2.2.1 (cd c1).2.2.2.1 np (cd c1).2.1) - pS (capL cap c w45Y.length) (csQ cd Q5 np c1)) (rm' := rM 7 (pC (capL (capL cap c w45Y.length) (c + w45Y.length) (paR (cd c1).1 (csLv cd L5 np c1) (cd c1).2.2.1 (cd c1).2.2.2.1 (cd c1).2.2.2.2.1 np ni (((np : Nat) : Int) + 1 + ((c1 : Nat) : Int)) (cd c1).2.1 (cd c1).2.2.2.2.2.1 (cd c1).2.2.2.2.2.2 ((d + 1 + c1 : Nat) : Int)).length) (paQ (csQ cd Q5 np c1) (cd c1).2.2.1 (cd c1).2.2.2.1 np (cd c1).2.1) - pC (capL cap c w45Y.length) (csQ cd Q5 np c1)) (pS (capL (capL cap c w45Y.length) (c + w45Y.length) (paR (cd c1).1 (csLv cd L5 np c1) (cd c1).2.2.1 (cd c1).2.2.2.1 (cd c1).2.2.2.2.1 np ni (((np : Nat) : Int) + 1 + ((c1 : Nat) : Int)) (cd c1).2.1 (cd c1).2.2.2.2.2.1 (cd c1).2.2.2.2.2.2 ((d + 1 + c1 : Nat) : Int)).length) (paQ (csQ cd Q5 np c1) (cd c1).2.2.1 (cd c1).2.2.2.1 np (cd c1).2.1) - pS (capL cap c w45Y.length) (csQ cd Q5 np c1)) 240) (As := [.int (iI (((d + 1 + c1 : Nat) : Int))), .int (iI (((np : Nat) : Int) + 1 + ((c1 : Nat) : Int)))]) (rest := []) B (mW_part w45C w45b.1 w45b.2.1 w45b.2.2 w45L (seF_ag w45W.1 hK2 hK1) (by omega) hK3 (by omega) hd ((congrFun (w45W.2.1 7 (by omega) (by omega)) (d + 1 + c1)).trans hK4) ((congrFun (w45W.2.1 8 (by omega) (by omega)) (d + 1 + c1)).trans hK5) ((congrFun (w45W.2.1 9 (by omega) (by omega)) (d + 1 + c1)).trans hK6) ((congrFun (w45W.2.1 9 (by omega) (by omega)) d).trans h9) ((congrFun (w45W.2.1 10 (by omega) (by omega)) d).trans h10) ((congrFun (w45W.2.1 10 (by omega) (by omega)) (d + 1 + c1)).trans hK7) (level := ((np : Nat) : Int) + 1 + ((c1 : Nat) : Int)) (by omega) (by omega) (by omega) (by omega)) rfl rfl ⟨Nat.le_of_ble_eq_true rfl, Nat.le_of_ble_eq_true rfl⟩ w45C.1 rfl rfl (Nat.le_of_ble_eq_true rfl) d_Mod_write_160 ⟨by rw [w47e]; exact PL_c w45p w47m w47t, by rw [w47e]; exact PL_s w45p w47m w47t⟩ (fun v1 w47M ep => ?_)
                    obtain ⟨e1, w47U⟩ := ep
                    subst e1
                    have w47U := wrP_app (lq := lq) w45W w47U
                    obtain ⟨w47Y, w47h⟩ : ∃ Y : List Nd, Y = w45Y ++ (paR (cd c1).1 (csLv cd L5 np c1) (cd c1).2.2.1 (cd c1).2.2.2.1 (cd c1).2.2.2.2.1 np ni (((np : Nat) : Int) + 1 + ((c1 : Nat) : Int)) (cd c1).2.1 (cd c1).2.2.2.2.2.1 (cd c1).2.2.2.2.2.2 ((d + 1 + c1 : Nat) : Int)) := ⟨_, rfl⟩
                    rw [← w47h] at w47U
                    have w47l : w47Y.length = w45Y.length + (paR (cd c1).1 (csLv cd L5 np c1) (cd c1).2.2.1 (cd c1).2.2.2.1 (cd c1).2.2.2.2.1 np ni (((np : Nat) : Int) + 1 + ((c1 : Nat) : Int)) (cd c1).2.1 (cd c1).2.2.2.2.2.1 (cd c1).2.2.2.2.2.2 ((d + 1 + c1 : Nat) : Int)).length := by rw [w47h, List.length_append]
                    obtain ⟨w47A, w47F, w47W, w47L, w47C⟩ := w47U
                    rw [← w47l] at w47e w47m w47t
                    have w47b : CK cap c w47Y.length := CK_of hcc hcap0 hcap (by omega)
                    have w47p := w45p.tr w47m
                    refine mv_widen (c2 := pC (capL cap c w47Y.length) (paQ (csQ cd Q5 np c1) (cd c1).2.2.1 (cd c1).2.2.2.1 np (cd c1).2.1) - pC cap lq) (s2 := pS (capL cap c w47Y.length) (paQ (csQ cd Q5 np c1) (cd c1).2.2.1 (cd c1).2.2.2.1 np (cd c1).2.1) - pS cap lq) (by rw [w47e]; exact PL_c2 w45p w47m) (by rw [w47e]; exact PL_s2 w45p w47m) ?_
                    clear w47e w47m w47t w47n
                    show mv_G X Q (kk V) 9 163 [(8, .int (iI (((d + 1 + c1 : Nat) : Int)))), (7, .int (iI (((np : Nat) : Int) + 1 + ((c1 : Nat) : Int)))), (6, .int (iI (((b + unS xs i0 ni : Nat) : Int)))), (5, .int (iI (((b + i0 : Nat) : Int)))), (0, .ref r), (1, .int (iI ((d : Nat)))), (2, .int (iI (s))), (3, .int (iI ((np : Nat)))), (4, .int (iI ((ni : Nat))))] [] w47M (pC (capL cap c w47Y.length) (paQ (csQ cd Q5 np c1) (cd c1).2.2.1 (cd c1).2.2.2.1 np (cd c1).2.1) - pC cap lq) (pS (capL cap c w47Y.length) (paQ (csQ cd Q5 np c1) (cd c1).2.2.1 (cd c1).2.2.2.1 np (cd c1).2.1) - pS cap lq)
                    have k48_7 : w47M (w47A 7) = some (iA V (100) (w47F 7)) := w47C.2.1 7 (by decide)
                    have k48_9 : w47M (w47A 9) = some (iA V (100) (w47F 9)) := w47C.2.1 9 (by decide)
                    have k48_10 : w47M (w47A 10) = some (iA V (100) (w47F 10)) := w47C.2.1 10 (by decide)
                    have k48_11 : w47M (w47A 11) = some (iA V (100) (w47F 11)) := w47C.2.1 11 (by decide)
                    refine mv_iinc (lv' := [(7, .int (iI ((((np : Nat) : Int) + 1 + ((c1 : Nat) : Int)) + 1))), (8, .int (iI (((d + 1 + c1 : Nat) : Int)))), (6, .int (iI (((b + unS xs i0 ni : Nat) : Int)))), (5, .int (iI (((b + i0 : Nat) : Int)))), (0, .ref r), (1, .int (iI ((d : Nat)))), (2, .int (iI (s))), (3, .int (iI ((np : Nat)))), (4, .int (iI ((ni : Nat))))]) B d_Mod_write_163 1 rfl (by decide) rfl ?_
                    refine mv_iinc (lv' := [(8, .int (iI (((d + 1 + c1 : Nat) : Int) + 1))), (7, .int (iI ((((np : Nat) : Int) + 1 + ((c1 : Nat) : Int)) + 1))), (6, .int (iI (((b + unS xs i0 ni : Nat) : Int)))), (5, .int (iI (((b + i0 : Nat) : Int)))), (0, .ref r), (1, .int (iI ((d : Nat)))), (2, .int (iI (s))), (3, .int (iI ((np : Nat)))), (4, .int (iI ((ni : Nat))))]) B d_Mod_write_166 1 rfl (by decide) rfl ?_
                    refine mv_goto (tgt := 133) B d_Mod_write_169 (by decide) ?_
                    have y49 : w47Y = (w17Y ++ csR cd L5 np ni (fun k => ((d + 1 + k : Nat) : Int)) (c1 + 1)) := by rw [w47h, w45h, hYl133]; simp only [csR, List.append_assoc]
                    rw [y49]
                    refine mv_lv (lv' := [(8, .int (iI (((d + 1 + (c1 + 1) : Nat) : Int)))), (7, .int (iI (((np : Nat) : Int) + 1 + (((c1 + 1) : Nat) : Int)))), (6, .int (iI (((b + unS xs i0 ni : Nat) : Int)))), (5, .int (iI (((b + i0 : Nat) : Int)))), (0, .ref r), (1, .int (iI ((d : Nat)))), (2, .int (iI (s))), (3, .int (iI ((np : Nat)))), (4, .int (iI ((ni : Nat))))]) [0, 1, 2, 3, 4, 5, 6, 7, 8] (lc (lI (by first | rfl | omega)) (lc (lI (by first | rfl | omega)) (lc rfl (lc rfl (lc rfl (lc rfl (lc rfl (lc rfl (lc rfl rfl))))))))) ?_
                    exact ih133 (c1 + 1) w47M w47A w47F (by omega) (by rw [← y49]; exact w47W) (w47L) (by rw [← y49]; exact w47C) (by omega)
              refine mv_lv (lv' := [(8, .int (iI (((d + 1 + 0 : Nat) : Int)))), (7, .int (iI (((np : Nat) : Int) + 1 + ((0 : Nat) : Int)))), (6, .int (iI (((b + unS xs i0 ni : Nat) : Int)))), (5, .int (iI (((b + i0 : Nat) : Int)))), (0, .ref r), (1, .int (iI ((d : Nat)))), (2, .int (iI (s))), (3, .int (iI ((np : Nat)))), (4, .int (iI ((ni : Nat))))]) [0, 1, 2, 3, 4, 5, 6, 7, 8] (lc (lI (by first | rfl | omega)) (lc (lI (by first | rfl | omega)) (lc rfl (lc rfl (lc rfl (lc rfl (lc rfl (lc rfl (lc rfl rfl))))))))) ?_
              have y20 : w17Y = (w17Y ++ csR cd L5 np ni (fun k => ((d + 1 + k : Nat) : Int)) 0) := (List.append_nil _).symm
              rw [y20]
              exact L133 _ 0 w17M w17A w17F (by omega) (by rw [← y20]; exact w17W) (w17L) (by rw [← y20]; exact w17C) (Nat.lt_succ_self _)
            · refine mv_aloadR_n B d_Mod_write_76 rfl 3 rfl ?_
              refine mv_bipush (z := 6) B d_Mod_write_77 (by decide) ?_
              refine mv_iload B d_Mod_write_79 1 rfl ?_
              refine mv_iload_n B d_Mod_write_81 rfl 6 rfl ?_
              refine mv_iload B d_Mod_write_82 0 rfl ?_
              refine mv_iadd B d_Mod_write_84 ?_
              refine mv_iload_n B d_Mod_write_85 rfl 6 rfl ?_
              refine mv_iload B d_Mod_write_86 0 rfl ?_
              refine mv_iadd B d_Mod_write_88 ?_
              rw [show ((np : Nat) : Int) + ((k2 : Nat) : Int) = ((np + k2 : Nat) : Int) by omega]
              have hBy1 := (Bds_ok hcp hB1 k2 (by omega)).1
              have hBy2 := (Bds_ok hcp hB1 k2 (by omega)).2.1
              have hBk := hB1.2 k2 (by omega)
              have hmn := unS_mono xs i0 (show k2 + 1 ≤ ni by omega)
              have hmu : unS xs i0 (k2 + 1) = unS xs i0 k2 + 1 + lnS xs (unS xs i0 k2 + 1) := rfl
              have w50z : (([(6, (gN xs (unS xs i0 k2)).2.1, 0)] : List Nd) ++ pqS xs (upL (upL (F 12) 0 0 np) np ((np : Nat) : Int) k2) ((np + k2 : Nat) : Int) (unS xs i0 k2 + 1) (lnS xs (unS xs i0 k2 + 1))).length = 1 + lnS xs (unS xs i0 k2 + 1) := by rw [List.length_append, pqS_len]; rfl
              have w50v : np + k2 ≤ lvS (lvS lq 0 np) np k2 ∧ 1 ≤ lvS (lvS lq 0 np) np k2 ∧ lvS (lvS lq 0 np) np k2 ≤ 4000 := by omega
              have w50q : lvS (lvS lq 0 np) np k2 ≤ lvN (lvS (lvS lq 0 np) np k2) (np + k2) ∧ lvN (lvS (lvS lq 0 np) np k2) (np + k2) ≤ Q9 := by have h1 := (lvN_ok (lq := lvS (lvS lq 0 np) np k2) (v := np + k2) (by omega) (by omega)).2.1; have h2 : lvN (lvS (lvS lq 0 np) np k2) (np + k2) ≤ lvS (lvS lq 0 np) np ni := lvS_m (m := k2 + 1) (by omega); have h3 : lvS (lvS lq 0 np) np ni ≤ Q9 := hT2; omega
              have w50n : Yl69.length + (([(6, (gN xs (unS xs i0 k2)).2.1, 0)] : List Nd) ++ pqS xs (upL (upL (F 12) 0 0 np) np ((np : Nat) : Int) k2) ((np + k2 : Nat) : Int) (unS xs i0 k2 + 1) (lnS xs (unS xs i0 k2 + 1))).length ≤ N9 := by omega
              have w50e : capL (capL cap c Yl69.length) (c + Yl69.length) (([(6, (gN xs (unS xs i0 k2)).2.1, 0)] : List Nd) ++ pqS xs (upL (upL (F 12) 0 0 np) np ((np : Nat) : Int) k2) ((np + k2 : Nat) : Int) (unS xs i0 k2 + 1) (lnS xs (unS xs i0 k2 + 1))).length = capL cap c (Yl69.length + (([(6, (gN xs (unS xs i0 k2)).2.1, 0)] : List Nd) ++ pqS xs (upL (upL (F 12) 0 0 np) np ((np : Nat) : Int) k2) ((np + k2 : Nat) : Int) (unS xs i0 k2 + 1) (lnS xs (unS xs i0 k2 + 1))).length) := (capL_add cap c Yl69.length (([(6, (gN xs (unS xs i0 k2)).2.1, 0)] : List Nd) ++ pqS xs (upL (upL (F 12) 0 0 np) np ((np : Nat) : Int) k2) ((np + k2 : Nat) : Int) (unS xs i0 k2 + 1) (lnS xs (unS xs i0 k2 + 1))).length).symm
              have w50m : PL (capL cap c Yl69.length) (lvS (lvS lq 0 np) np k2) (capL cap c (Yl69.length + (([(6, (gN xs (unS xs i0 k2)).2.1, 0)] : List Nd) ++ pqS xs (upL (upL (F 12) 0 0 np) np ((np : Nat) : Int) k2) ((np + k2 : Nat) : Int) (unS xs i0 k2 + 1) (lnS xs (unS xs i0 k2 + 1))).length)) (lvN (lvS (lvS lq 0 np) np k2) (np + k2)) := PL_le (capL_mono cap c (Nat.le_add_right _ _)) w50q.1
              have w50t : PL (capL cap c (Yl69.length + (([(6, (gN xs (unS xs i0 k2)).2.1, 0)] : List Nd) ++ pqS xs (upL (upL (F 12) 0 0 np) np ((np : Nat) : Int) k2) ((np + k2 : Nat) : Int) (unS xs i0 k2 + 1) (lnS xs (unS xs i0 k2 + 1))).length)) (lvN (lvS (lvS lq 0 np) np k2) (np + k2)) (capL cap c (wtR xs cd (F 12) np ni ra ((d : Nat) : Int) s (fun k => ((d + 1 + k : Nat) : Int))).length) (wtQ cd lq np ni ra) := PL_le (capL_mono cap c (hN9 ▸ w50n)) (hQ9 ▸ w50q.2)
              refine ca_Mod_150 (mc := pC (capL (capL cap c Yl69.length) (c + Yl69.length) (([(6, (gN xs (unS xs i0 k2)).2.1, 0)] : List Nd) ++ pqS xs (upL (upL (F 12) 0 0 np) np ((np : Nat) : Int) k2) ((np + k2 : Nat) : Int) (unS xs i0 k2 + 1) (lnS xs (unS xs i0 k2 + 1))).length) (lvN (lvS (lvS lq 0 np) np k2) (np + k2)) - pC (capL cap c Yl69.length) (lvS (lvS lq 0 np) np k2)) (ms := pS (capL (capL cap c Yl69.length) (c + Yl69.length) (([(6, (gN xs (unS xs i0 k2)).2.1, 0)] : List Nd) ++ pqS xs (upL (upL (F 12) 0 0 np) np ((np : Nat) : Int) k2) ((np + k2 : Nat) : Int) (unS xs i0 k2 + 1) (lnS xs (unS xs i0 k2 + 1))).length) (lvN (lvS (lvS lq 0 np) np k2) (np + k2)) - pS (capL cap c Yl69.length) (lvS (lvS lq 0 np) np k2)) (rm' := rM 5 (pC (capL (capL cap c Yl69.length) (c + Yl69.length) (([(6, (gN xs (unS xs i0 k2)).2.1, 0)] : List Nd) ++ pqS xs (upL (upL (F 12) 0 0 np) np ((np : Nat) : Int) k2) ((np + k2 : Nat) : Int) (unS xs i0 k2 + 1) (lnS xs (unS xs i0 k2 + 1))).length) (lvN (lvS (lvS lq 0 np) np k2) (np + k2)) - pC (capL cap c Yl69.length) (lvS (lvS lq 0 np) np k2)) (pS (capL (capL cap c Yl69.length) (c + Yl69.length) (([(6, (gN xs (unS xs i0 k2)).2.1, 0)] : List Nd) ++ pqS xs (upL (upL (F 12) 0 0 np) np ((np : Nat) : Int) k2) ((np + k2 : Nat) : Int) (unS xs i0 k2 + 1) (lnS xs (unS xs i0 k2 + 1))).length) (lvN (lvS (lvS lq 0 np) np k2) (np + k2)) - pS (capL cap c Yl69.length) (lvS (lvS lq 0 np) np k2)) 165) (As := [.int (iI (6)), .int (iI (((b + unS xs i0 k2 : Nat) : Int))), .int (iI (((np + k2 : Nat) : Int))), .int (iI (((np + k2 : Nat) : Int)))]) (rest := []) B (mW_binderOf hCl ckL69.1 ckL69.2.1 ckL69.2.2 hLl (seF_ag hWl.1 hl hs) (by omega) hcp hn1 hcl ho (i := unS xs i0 k2) (ar := np + k2) (k := 6) (lv := ((np + k2 : Nat) : Int)) hBy1 hBk (by rw [hBy2, hI0d]; omega) (hLv2 k2 (by omega)) w50v (by omega) (by omega) (by omega)) rfl rfl ⟨Nat.le_of_ble_eq_true rfl, Nat.le_of_ble_eq_true rfl⟩ hCl.1 rfl rfl (Nat.le_of_ble_eq_true rfl) d_Mod_write_89 ⟨by rw [w50e]; exact PL_c plL69 w50m w50t, by rw [w50e]; exact PL_s plL69 w50m w50t⟩ (fun v1 w50M ep => ?_)
              obtain ⟨e1, w50U⟩ := ep
              subst e1
              have w50U := wrP_app (lq := lq) hWl w50U
              obtain ⟨w50Y, w50h⟩ : ∃ Y : List Nd, Y = Yl69 ++ (([(6, (gN xs (unS xs i0 k2)).2.1, 0)] : List Nd) ++ pqS xs (upL (upL (F 12) 0 0 np) np ((np : Nat) : Int) k2) ((np + k2 : Nat) : Int) (unS xs i0 k2 + 1) (lnS xs (unS xs i0 k2 + 1))) := ⟨_, rfl⟩
              rw [← w50h] at w50U
              have w50l : w50Y.length = Yl69.length + (([(6, (gN xs (unS xs i0 k2)).2.1, 0)] : List Nd) ++ pqS xs (upL (upL (F 12) 0 0 np) np ((np : Nat) : Int) k2) ((np + k2 : Nat) : Int) (unS xs i0 k2 + 1) (lnS xs (unS xs i0 k2 + 1))).length := by rw [w50h, List.length_append]
              obtain ⟨w50A, w50F, w50W, w50L, w50C⟩ := w50U
              rw [← w50l] at w50e w50m w50t
              have w50b : CK cap c w50Y.length := CK_of hcc hcap0 hcap (by omega)
              have w50p := plL69.tr w50m
              refine mv_widen (c2 := pC (capL cap c w50Y.length) (lvN (lvS (lvS lq 0 np) np k2) (np + k2)) - pC cap lq) (s2 := pS (capL cap c w50Y.length) (lvN (lvS (lvS lq 0 np) np k2) (np + k2)) - pS cap lq) (by rw [w50e]; exact PL_c2 plL69 w50m) (by rw [w50e]; exact PL_s2 plL69 w50m) ?_
              clear w50e w50m w50t w50n
              show mv_G X Q (kk V) 9 92 [(7, .int (iI ((k2 : Nat)))), (6, .int (iI (((b + unS xs i0 k2 : Nat) : Int)))), (5, .int (iI (((b + i0 : Nat) : Int)))), (0, .ref r), (1, .int (iI ((d : Nat)))), (2, .int (iI (s))), (3, .int (iI ((np : Nat)))), (4, .int (iI ((ni : Nat))))] [.int (iI (((b + (unS xs i0 k2 + 1 + lnS xs (unS xs i0 k2 + 1)) : Nat) : Int)))] w50M (pC (capL cap c w50Y.length) (lvN (lvS (lvS lq 0 np) np k2) (np + k2)) - pC cap lq) (pS (capL cap c w50Y.length) (lvN (lvS (lvS lq 0 np) np k2) (np + k2)) - pS cap lq)
              have k51_7 : w50M (w50A 7) = some (iA V (100) (w50F 7)) := w50C.2.1 7 (by decide)
              have k51_9 : w50M (w50A 9) = some (iA V (100) (w50F 9)) := w50C.2.1 9 (by decide)
              have k51_10 : w50M (w50A 10) = some (iA V (100) (w50F 10)) := w50C.2.1 10 (by decide)
              have k51_11 : w50M (w50A 11) = some (iA V (100) (w50F 11)) := w50C.2.1 11 (by decide)
              refine mv_istore (lv' := [(6, .int (iI (((b + (unS xs i0 k2 + 1 + lnS xs (unS xs i0 k2 + 1)) : Nat) : Int)))), (7, .int (iI ((k2 : Nat)))), (5, .int (iI (((b + i0 : Nat) : Int)))), (0, .ref r), (1, .int (iI ((d : Nat)))), (2, .int (iI (s))), (3, .int (iI ((np : Nat)))), (4, .int (iI ((ni : Nat))))]) B d_Mod_write_92 (by decide) rfl ?_
              refine mv_iinc (lv' := [(7, .int (iI ((k2 : Nat) + 1))), (6, .int (iI (((b + (unS xs i0 k2 + 1 + lnS xs (unS xs i0 k2 + 1)) : Nat) : Int)))), (5, .int (iI (((b + i0 : Nat) : Int)))), (0, .ref r), (1, .int (iI ((d : Nat)))), (2, .int (iI (s))), (3, .int (iI ((np : Nat)))), (4, .int (iI ((ni : Nat))))]) B d_Mod_write_94 1 rfl (by decide) rfl ?_
              refine mv_goto (tgt := 69) B d_Mod_write_97 (by decide) ?_
              have y52 : w50Y = (w8Y ++ bnR xs (upL (F 12) 0 0 np) 6 np ((np : Nat) : Int) i0 (k2 + 1)) := by rw [w50h, hYl69]; simp only [bnR, List.append_assoc]
              rw [y52]
              refine mv_lv (lv' := [(7, .int (iI (((k2 + 1) : Nat)))), (6, .int (iI (((b + unS xs i0 (k2 + 1) : Nat) : Int)))), (5, .int (iI (((b + i0 : Nat) : Int)))), (0, .ref r), (1, .int (iI ((d : Nat)))), (2, .int (iI (s))), (3, .int (iI ((np : Nat)))), (4, .int (iI ((ni : Nat))))]) [0, 1, 2, 3, 4, 5, 6, 7] (lc (lI (by first | rfl | omega)) (lc (lI (by first | rfl | omega)) (lc rfl (lc rfl (lc rfl (lc rfl (lc rfl (lc rfl rfl)))))))) ?_
              exact ih69 (k2 + 1) w50M w50A w50F (by omega) (by rw [← y52]; exact w50W) (w50L.trans (by rw [← upL_s, Int.natCast_add])) (by rw [← y52]; exact w50C) (by omega)
        refine mv_lv (lv' := [(7, .int (iI ((0 : Nat)))), (6, .int (iI (((b + unS xs i0 0 : Nat) : Int)))), (5, .int (iI (((b + i0 : Nat) : Int)))), (0, .ref r), (1, .int (iI ((d : Nat)))), (2, .int (iI (s))), (3, .int (iI ((np : Nat)))), (4, .int (iI ((ni : Nat))))]) [0, 1, 2, 3, 4, 5, 6, 7] (lc (lI (by first | rfl | omega)) (lc (lI (by first | rfl | omega)) (lc rfl (lc rfl (lc rfl (lc rfl (lc rfl (lc rfl rfl)))))))) ?_
        have y10 : w8Y = (w8Y ++ bnR xs (upL (F 12) 0 0 np) 6 np ((np : Nat) : Int) i0 0) := (List.append_nil _).symm
        rw [y10]
        exact L69 _ 0 w8M w8A w8F (by omega) (by rw [← y10]; exact w8W) (w8L.trans (upL_0 _ _ _).symm) (by rw [← y10]; exact w8C) (Nat.lt_succ_self _)
      · refine mv_aloadR_n B d_Mod_write_32 rfl 2 rfl ?_
        refine mv_bipush (z := 6) B d_Mod_write_33 (by decide) ?_
        refine mv_iload B d_Mod_write_35 1 rfl ?_
        refine mv_iload B d_Mod_write_37 0 rfl ?_
        refine mv_iload B d_Mod_write_39 0 rfl ?_
        have hBy1 := (Bds_ok hcp hB0 k1 (by omega)).1
        have hBy2 := (Bds_ok hcp hB0 k1 (by omega)).2.1
        have hBk := hB0.2 k1 (by omega)
        have hmn := unS_mono xs 0 (show k1 + 1 ≤ np by omega)
        have hmu : unS xs 0 (k1 + 1) = unS xs 0 k1 + 1 + lnS xs (unS xs 0 k1 + 1) := rfl
        have w53z : (([(6, (gN xs (unS xs 0 k1)).2.1, 0)] : List Nd) ++ pqS xs (upL (F 12) 0 0 k1) ((k1 : Nat) : Int) (unS xs 0 k1 + 1) (lnS xs (unS xs 0 k1 + 1))).length = 1 + lnS xs (unS xs 0 k1 + 1) := by rw [List.length_append, pqS_len]; rfl
        have w53v : k1 ≤ lvS lq 0 k1 ∧ 1 ≤ lvS lq 0 k1 ∧ lvS lq 0 k1 ≤ 4000 := by omega
        have w53q : lvS lq 0 k1 ≤ lvN (lvS lq 0 k1) (k1) ∧ lvN (lvS lq 0 k1) (k1) ≤ Q9 := by have h1 := (lvN_ok (lq := lvS lq 0 k1) (v := k1) (by omega) (by omega)).2.1; have h2 : lvN (lvS lq 0 k1) k1 ≤ lvS lq 0 np := (by have z := lvS_m (lq := lq) (v := 0) (show k1 + 1 ≤ np by omega); simp only [lvS, Nat.zero_add] at z; exact z); omega
        have w53n : Yl26.length + (([(6, (gN xs (unS xs 0 k1)).2.1, 0)] : List Nd) ++ pqS xs (upL (F 12) 0 0 k1) ((k1 : Nat) : Int) (unS xs 0 k1 + 1) (lnS xs (unS xs 0 k1 + 1))).length ≤ N9 := by omega
        have w53e : capL (capL cap c Yl26.length) (c + Yl26.length) (([(6, (gN xs (unS xs 0 k1)).2.1, 0)] : List Nd) ++ pqS xs (upL (F 12) 0 0 k1) ((k1 : Nat) : Int) (unS xs 0 k1 + 1) (lnS xs (unS xs 0 k1 + 1))).length = capL cap c (Yl26.length + (([(6, (gN xs (unS xs 0 k1)).2.1, 0)] : List Nd) ++ pqS xs (upL (F 12) 0 0 k1) ((k1 : Nat) : Int) (unS xs 0 k1 + 1) (lnS xs (unS xs 0 k1 + 1))).length) := (capL_add cap c Yl26.length (([(6, (gN xs (unS xs 0 k1)).2.1, 0)] : List Nd) ++ pqS xs (upL (F 12) 0 0 k1) ((k1 : Nat) : Int) (unS xs 0 k1 + 1) (lnS xs (unS xs 0 k1 + 1))).length).symm
        have w53m : PL (capL cap c Yl26.length) (lvS lq 0 k1) (capL cap c (Yl26.length + (([(6, (gN xs (unS xs 0 k1)).2.1, 0)] : List Nd) ++ pqS xs (upL (F 12) 0 0 k1) ((k1 : Nat) : Int) (unS xs 0 k1 + 1) (lnS xs (unS xs 0 k1 + 1))).length)) (lvN (lvS lq 0 k1) (k1)) := PL_le (capL_mono cap c (Nat.le_add_right _ _)) w53q.1
        have w53t : PL (capL cap c (Yl26.length + (([(6, (gN xs (unS xs 0 k1)).2.1, 0)] : List Nd) ++ pqS xs (upL (F 12) 0 0 k1) ((k1 : Nat) : Int) (unS xs 0 k1 + 1) (lnS xs (unS xs 0 k1 + 1))).length)) (lvN (lvS lq 0 k1) (k1)) (capL cap c (wtR xs cd (F 12) np ni ra ((d : Nat) : Int) s (fun k => ((d + 1 + k : Nat) : Int))).length) (wtQ cd lq np ni ra) := PL_le (capL_mono cap c (hN9 ▸ w53n)) (hQ9 ▸ w53q.2)
        refine ca_Mod_150 (mc := pC (capL (capL cap c Yl26.length) (c + Yl26.length) (([(6, (gN xs (unS xs 0 k1)).2.1, 0)] : List Nd) ++ pqS xs (upL (F 12) 0 0 k1) ((k1 : Nat) : Int) (unS xs 0 k1 + 1) (lnS xs (unS xs 0 k1 + 1))).length) (lvN (lvS lq 0 k1) (k1)) - pC (capL cap c Yl26.length) (lvS lq 0 k1)) (ms := pS (capL (capL cap c Yl26.length) (c + Yl26.length) (([(6, (gN xs (unS xs 0 k1)).2.1, 0)] : List Nd) ++ pqS xs (upL (F 12) 0 0 k1) ((k1 : Nat) : Int) (unS xs 0 k1 + 1) (lnS xs (unS xs 0 k1 + 1))).length) (lvN (lvS lq 0 k1) (k1)) - pS (capL cap c Yl26.length) (lvS lq 0 k1)) (rm' := rM 5 (pC (capL (capL cap c Yl26.length) (c + Yl26.length) (([(6, (gN xs (unS xs 0 k1)).2.1, 0)] : List Nd) ++ pqS xs (upL (F 12) 0 0 k1) ((k1 : Nat) : Int) (unS xs 0 k1 + 1) (lnS xs (unS xs 0 k1 + 1))).length) (lvN (lvS lq 0 k1) (k1)) - pC (capL cap c Yl26.length) (lvS lq 0 k1)) (pS (capL (capL cap c Yl26.length) (c + Yl26.length) (([(6, (gN xs (unS xs 0 k1)).2.1, 0)] : List Nd) ++ pqS xs (upL (F 12) 0 0 k1) ((k1 : Nat) : Int) (unS xs 0 k1 + 1) (lnS xs (unS xs 0 k1 + 1))).length) (lvN (lvS lq 0 k1) (k1)) - pS (capL cap c Yl26.length) (lvS lq 0 k1)) 165) (As := [.int (iI (6)), .int (iI (((b + unS xs 0 k1 : Nat) : Int))), .int (iI ((k1 : Nat))), .int (iI ((k1 : Nat)))]) (rest := []) B (mW_binderOf hCl ckL26.1 ckL26.2.1 ckL26.2.2 hLl (seF_ag hWl.1 hl hs) (by omega) hcp hn1 hcl ho (i := unS xs 0 k1) (ar := k1) (k := 6) (lv := ((k1 : Nat) : Int)) hBy1 hBk (by rw [hBy2, dp_0]; omega) (hLv1 k1 (by omega)) w53v (by omega) (by omega) (by omega)) rfl rfl ⟨Nat.le_of_ble_eq_true rfl, Nat.le_of_ble_eq_true rfl⟩ hCl.1 rfl rfl (Nat.le_of_ble_eq_true rfl) d_Mod_write_41 ⟨by rw [w53e]; exact PL_c plL26 w53m w53t, by rw [w53e]; exact PL_s plL26 w53m w53t⟩ (fun v1 w53M ep => ?_)
        obtain ⟨e1, w53U⟩ := ep
        subst e1
        have w53U := wrP_app (lq := lq) hWl w53U
        obtain ⟨w53Y, w53h⟩ : ∃ Y : List Nd, Y = Yl26 ++ (([(6, (gN xs (unS xs 0 k1)).2.1, 0)] : List Nd) ++ pqS xs (upL (F 12) 0 0 k1) ((k1 : Nat) : Int) (unS xs 0 k1 + 1) (lnS xs (unS xs 0 k1 + 1))) := ⟨_, rfl⟩
        rw [← w53h] at w53U
        have w53l : w53Y.length = Yl26.length + (([(6, (gN xs (unS xs 0 k1)).2.1, 0)] : List Nd) ++ pqS xs (upL (F 12) 0 0 k1) ((k1 : Nat) : Int) (unS xs 0 k1 + 1) (lnS xs (unS xs 0 k1 + 1))).length := by rw [w53h, List.length_append]
        obtain ⟨w53A, w53F, w53W, w53L, w53C⟩ := w53U
        rw [← w53l] at w53e w53m w53t
        have w53b : CK cap c w53Y.length := CK_of hcc hcap0 hcap (by omega)
        have w53p := plL26.tr w53m
        refine mv_widen (c2 := pC (capL cap c w53Y.length) (lvN (lvS lq 0 k1) (k1)) - pC cap lq) (s2 := pS (capL cap c w53Y.length) (lvN (lvS lq 0 k1) (k1)) - pS cap lq) (by rw [w53e]; exact PL_c2 plL26 w53m) (by rw [w53e]; exact PL_s2 plL26 w53m) ?_
        clear w53e w53m w53t w53n
        show mv_G X Q (kk V) 9 44 [(6, .int (iI ((k1 : Nat)))), (5, .int (iI (((b + unS xs 0 k1 : Nat) : Int)))), (0, .ref r), (1, .int (iI ((d : Nat)))), (2, .int (iI (s))), (3, .int (iI ((np : Nat)))), (4, .int (iI ((ni : Nat))))] [.int (iI (((b + (unS xs 0 k1 + 1 + lnS xs (unS xs 0 k1 + 1)) : Nat) : Int)))] w53M (pC (capL cap c w53Y.length) (lvN (lvS lq 0 k1) (k1)) - pC cap lq) (pS (capL cap c w53Y.length) (lvN (lvS lq 0 k1) (k1)) - pS cap lq)
        have k54_7 : w53M (w53A 7) = some (iA V (100) (w53F 7)) := w53C.2.1 7 (by decide)
        have k54_9 : w53M (w53A 9) = some (iA V (100) (w53F 9)) := w53C.2.1 9 (by decide)
        have k54_10 : w53M (w53A 10) = some (iA V (100) (w53F 10)) := w53C.2.1 10 (by decide)
        have k54_11 : w53M (w53A 11) = some (iA V (100) (w53F 11)) := w53C.2.1 11 (by decide)
        refine mv_istore (lv' := [(5, .int (iI (((b + (unS xs 0 k1 + 1 + lnS xs (unS xs 0 k1 + 1)) : Nat) : Int)))), (6, .int (iI ((k1 : Nat)))), (0, .ref r), (1, .int (iI ((d : Nat)))), (2, .int (iI (s))), (3, .int (iI ((np : Nat)))), (4, .int (iI ((ni : Nat))))]) B d_Mod_write_44 (by decide) rfl ?_
        refine mv_iinc (lv' := [(6, .int (iI ((k1 : Nat) + 1))), (5, .int (iI (((b + (unS xs 0 k1 + 1 + lnS xs (unS xs 0 k1 + 1)) : Nat) : Int)))), (0, .ref r), (1, .int (iI ((d : Nat)))), (2, .int (iI (s))), (3, .int (iI ((np : Nat)))), (4, .int (iI ((ni : Nat))))]) B d_Mod_write_46 1 rfl (by decide) rfl ?_
        refine mv_goto (tgt := 26) B d_Mod_write_49 (by decide) ?_
        have y55 : w53Y = (Y0 ++ bnR xs (F 12) 6 0 0 0 (k1 + 1)) := by rw [w53h, hYl26]; simp only [bnR, Nat.zero_add, List.append_assoc]
        rw [y55]
        refine mv_lv (lv' := [(6, .int (iI (((k1 + 1) : Nat)))), (5, .int (iI (((b + unS xs 0 (k1 + 1) : Nat) : Int)))), (0, .ref r), (1, .int (iI ((d : Nat)))), (2, .int (iI (s))), (3, .int (iI ((np : Nat)))), (4, .int (iI ((ni : Nat))))]) [0, 1, 2, 3, 4, 5, 6] (lc (lI (by first | rfl | omega)) (lc (lI (by first | rfl | omega)) (lc rfl (lc rfl (lc rfl (lc rfl (lc rfl rfl))))))) ?_
        have y55Q : lvS lq 0 (k1 + 1) = lvN (lvS lq 0 k1) (k1) := (by simp only [lvS, Nat.zero_add])
        rw [← y55Q]
        exact ih26 (k1 + 1) w53M w53A w53F (by omega) (by rw [← y55]; exact w53W) (w53L.trans (by rw [← upL_s, Nat.zero_add, Int.zero_add])) (by rw [← y55, y55Q]; exact w53C) (by omega)
  refine mv_lv (lv' := [(6, .int (iI ((0 : Nat)))), (5, .int (iI (((b + unS xs 0 0 : Nat) : Int)))), (0, .ref r), (1, .int (iI ((d : Nat)))), (2, .int (iI (s))), (3, .int (iI ((np : Nat)))), (4, .int (iI ((ni : Nat))))]) [0, 1, 4, 5, 6, 3, 2] (lc (lI (by first | rfl | omega)) (lc rfl (lc rfl (lc rfl (lc rfl (lc rfl (lc rfl rfl))))))) ?_
  have y5 : Y0 = (Y0 ++ bnR xs (F 12) 6 0 0 0 0) := (List.append_nil _).symm
  rw [y5]
  exact L26 _ 0 M A F (by omega) (by rw [← y5]; exact hW0) ((upL_0 _ _ _).symm) (by rw [← y5]; exact hC0) (Nat.lt_succ_self _)
