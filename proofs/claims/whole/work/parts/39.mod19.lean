/-! the reference: what judge reads -/
def agJ (F G : Nat → Nat → Int) : Prop := G 0 = F 0 ∧ G 1 = F 1 ∧ G 3 = F 3 ∧ G 9 = F 9 ∧ G 10 = F 10
section AGJ
variable {F G : Nat → Nat → Int}
theorem agJ_un (h : agJ F G) : unR G = unR F := by
  funext b n
  exact unR_cg h.2.2.1 n
theorem agJ_ix (h : agJ F G) : ixR G = ixR F := by
  funext b n
  induction n with
  | zero => rfl
  | succ n ih => simp only [ixR]; rw [ih, h.2.2.1]
theorem agJ_hs (h : agJ F G) : hsB G = hsB F := by
  funext d b n
  induction n with
  | zero => rfl
  | succ n ih => simp only [hsB]; rw [ih, h.1, h.2.1]
theorem agJ_pr (h : agJ F G) : prR G = prR F := by
  funext p v n
  induction n with
  | zero => rfl
  | succ n ih => simp only [prR]; rw [ih, h.1, h.2.1]
theorem agJ_ip (h : agJ F G) : isPR G = isPR F := by
  funext d p a v
  unfold isPR
  rw [agJ_pr h, h.1, h.2.1, h.2.2.2.1, h.2.2.2.2]
theorem agJ_pv (h : agJ F G) : pvO G = pvO F := by
  funext d p a v
  unfold pvO
  rw [agJ_pr h, h.1, h.2.1, h.2.2.1, h.2.2.2.1, h.2.2.2.2]
theorem agJ_ay (h : agJ F G) : ayB G = ayB F := by
  funext b d n
  induction n with
  | zero => rfl
  | succ n ih => simp only [ayB]; rw [ih, agJ_un h, agJ_hs h, h.2.2.1]
theorem agJ_ij (h : agJ F G) : ijB G = ijB F := by
  funext p d n
  induction n with
  | zero => rfl
  | succ n ih => simp only [ijB]; rw [ih, agJ_ix h, agJ_hs h, h.2.2.1, h.2.2.2.1, h.2.2.2.2]
theorem agJ_jd (h : agJ F G) : jdR G = jdR F := by
  funext b d ar n a
  unfold jdR
  rw [agJ_un h, agJ_hs h, agJ_ip h, agJ_ay h, agJ_ij h, h.2.2.1, h.2.2.2.2]
theorem agJ_ok (h : agJ F G) {cap : Nat} {b ar : Int} {d n a : Nat} (k : JOK F cap b ar d n a) : JOK G cap b ar d n a := by
  unfold JOK at k ⊢
  rw [agJ_un h, agJ_ix h, agJ_ip h, agJ_pv h, h.1, h.2.2.1, h.2.2.2.1, h.2.2.2.2]
  exact k
end AGJ
theorem agJ_4 (F : Nat → Nat → Int) (D : Nat → Int) : agJ F (va_up F 4 D) := ⟨rfl, rfl, rfl, rfl, rfl⟩
/-! the reference: constructor -/
def cnR (F : Nat → Nat → Int) (b : Int) (d : Nat) (nn aa : Nat → Nat) : Nat → Int
  | 0 => 0
  | i + 1 => cnR F b d nn aa i + (if jdR F (unR F b ((F 9 d).toNat + i) + 1) d (F 9 d + (i : Nat)) (nn i) (aa i) = 2 then 1 else 0)
theorem cnR_s (F : Nat → Nat → Int) (b : Int) (d : Nat) (nn aa : Nat → Nat) (i : Nat) : cnR F b d nn aa (i + 1) = cnR F b d nn aa i + (if jdR F (unR F b ((F 9 d).toNat + i) + 1) d (F 9 d + (i : Nat)) (nn i) (aa i) = 2 then 1 else 0) := rfl
def ctF (F : Nat → Nat → Int) (g : Nat) (t o : Int) : Nat → Nat → Int := va_up (va_up F 7 (va_up (F 7) g t)) 10 (va_up (F 10) g o)
set_option maxRecDepth 100000 in
set_option maxHeartbeats 4000000 in
theorem m_Mod_constructor {l : Launch} {V : mv_V} {M : mv_M} {r cap lq : Nat} {A : Nat → Nat} {F : Nat → Nat → Int} {c tn gn : Int} (hC : RefC V M r A (rN cap lq) F c tn gn) (hcap : cap ≤ 1000000) {g t cl : Int} {b n d a : Nat} {nn aa : Nat → Nat} (hgt : (0 ≤ gn ∧ gn ≤ 100) ∧ 0 ≤ tn ∧ tn ≤ 1500) (rg : R32 g) (rt : R32 t) (hp0 : 0 ≤ g ∧ g < gn ∧ F 6 g.toNat = 4 ∧ F 7 g.toNat = -1 ∧ 0 ≤ t ∧ t < tn → F 5 t.toNat = (b : Nat) ∧ (0 ≤ F 3 b ∧ (b : Int) + F 3 b ≤ cap ∧ b < cap) ∧ (∀ i : Nat, (i : Int) < F 3 b → 4 ≤ F 0 (b + i) → (b : Int) + i + 1 < cap ∧ 0 ≤ scR F (b + i) ∧ scR F (b + i) < cap) ∧ (∀ i : Nat, (i : Int) < F 3 b → Sm (wkR F b (F 4) i (b + i) + 1)) ∧ (if clR F (wkR F b (F 4) (Int.toNat (F 3 b))) b (F 3 b).toNat = true then (1 : Int) else 0) = cl ∧ n ≤ 1000 ∧ (∀ j, j < n → F 0 (unR F (b : Nat) j).toNat = 6) ∧ (¬ F 0 (unR F (b : Nat) n).toNat = 6) ∧ (∀ j, j ≤ n → 0 ≤ unR F (b : Nat) j ∧ unR F (b : Nat) j < cap ∧ (j < n → unR F (b : Nat) j + 1 < cap)) ∧ F 8 g.toNat = (d : Nat) ∧ d < 100 ∧ (0 ≤ F 9 d ∧ F 9 d ≤ 1000 ∧ 0 ≤ F 10 d ∧ F 10 d ≤ 1000) ∧ unR F (b : Nat) n + a + 1 ≤ cap ∧ (∀ j, j < a → F 0 (unR F (b : Nat) n + (j : Nat)).toNat = 4) ∧ (¬ F 0 (unR F (b : Nat) n + (a : Nat)).toNat = 4) ∧ ((a : Int) = F 9 d + F 10 d → unR F (b : Nat) n + a + 1 + F 9 d ≤ cap) ∧ pvO F d (unR F (b : Nat) n) a ((n : Nat) - 1) ∧ (∀ i : Nat, F 9 d + (i : Nat) < (n : Nat) → JOK F cap (unR F (b : Nat) ((F 9 d).toNat + i) + 1) (F 9 d + (i : Nat)) d (nn i) (aa i))) : Met l y_Mod_constructor ws_Mod_constructor (rM 3 0 0 90) (mv_Pre (kk V) [.ref r, .int (iI (g)), .int (iI (t))] M) (mv_Q (kk V) (fun z0 M' => (¬ (0 ≤ g ∧ g < gn ∧ F 6 g.toNat = 4 ∧ F 7 g.toNat = -1 ∧ 0 ≤ t ∧ t < tn ∧ cl = 1) ∧ z0 = some (.int (iI (-1))) ∧ ∃ D, RefC V M' r A (rN cap lq) (va_up F 4 D) c tn gn) ∨ ((0 ≤ g ∧ g < gn ∧ F 6 g.toNat = 4 ∧ F 7 g.toNat = -1 ∧ 0 ≤ t ∧ t < tn ∧ cl = 1) ∧ ((n : Nat) < F 9 d ∨ isPR F d (unR F (b : Nat) n) a ((n : Nat) - 1) = false) ∧ z0 = some (.int (iI (-1))) ∧ ∃ D, RefC V M' r A (rN cap lq) (va_up F 4 D) c tn gn) ∨ ((0 ≤ g ∧ g < gn ∧ F 6 g.toNat = 4 ∧ F 7 g.toNat = -1 ∧ 0 ≤ t ∧ t < tn ∧ cl = 1) ∧ F 9 d ≤ (n : Nat) ∧ isPR F d (unR F (b : Nat) n) a ((n : Nat) - 1) = true ∧ ∃ i : Nat, F 9 d + (i : Nat) < (n : Nat) ∧ (∀ i2 : Nat, i2 < i → ¬ jdR F (unR F (b : Nat) ((F 9 d).toNat + i2) + 1) d (F 9 d + (i2 : Nat)) (nn i2) (aa i2) = 0) ∧ jdR F (unR F (b : Nat) ((F 9 d).toNat + i) + 1) d (F 9 d + (i : Nat)) (nn i) (aa i) = 0 ∧ z0 = some (.int (iI (-2 - (i : Nat)))) ∧ ∃ D, RefC V M' r A (rN cap lq) (va_up F 4 D) c tn gn) ∨ ((0 ≤ g ∧ g < gn ∧ F 6 g.toNat = 4 ∧ F 7 g.toNat = -1 ∧ 0 ≤ t ∧ t < tn ∧ cl = 1) ∧ F 9 d ≤ (n : Nat) ∧ isPR F d (unR F (b : Nat) n) a ((n : Nat) - 1) = true ∧ (∀ i2 : Nat, i2 < n - (F 9 d).toNat → ¬ jdR F (unR F (b : Nat) ((F 9 d).toNat + i2) + 1) d (F 9 d + (i2 : Nat)) (nn i2) (aa i2) = 0) ∧ z0 = some (.int (iI (cnR F (b : Nat) d nn aa (n - (F 9 d).toNat)))) ∧ ∃ D, RefC V M' r A (rN cap lq) (ctF (va_up F 4 D) g.toNat (b : Nat) ((n : Nat) - F 9 d)) c tn gn))) 0 0 V.2.2.2.2 := by
  refine mv_Met (by decide) rfl (Nat.le_of_ble_eq_true rfl) (fun X hX B => ?_)
  subst hX
  replace B : mv_B X (kk V) c_Mod_constructor ws_Mod_constructor "FamilyRulesModel" 8 (Option.some Jvm.ClassFile.FieldType.int) (rM 3 0 0 90) "constructor" := B
  obtain ⟨Q, hQ⟩ : ∃ Q, Q = mv_E X (kk V) (fun z0 M' => (¬ (0 ≤ g ∧ g < gn ∧ F 6 g.toNat = 4 ∧ F 7 g.toNat = -1 ∧ 0 ≤ t ∧ t < tn ∧ cl = 1) ∧ z0 = some (.int (iI (-1))) ∧ ∃ D, RefC V M' r A (rN cap lq) (va_up F 4 D) c tn gn) ∨ ((0 ≤ g ∧ g < gn ∧ F 6 g.toNat = 4 ∧ F 7 g.toNat = -1 ∧ 0 ≤ t ∧ t < tn ∧ cl = 1) ∧ ((n : Nat) < F 9 d ∨ isPR F d (unR F (b : Nat) n) a ((n : Nat) - 1) = false) ∧ z0 = some (.int (iI (-1))) ∧ ∃ D, RefC V M' r A (rN cap lq) (va_up F 4 D) c tn gn) ∨ ((0 ≤ g ∧ g < gn ∧ F 6 g.toNat = 4 ∧ F 7 g.toNat = -1 ∧ 0 ≤ t ∧ t < tn ∧ cl = 1) ∧ F 9 d ≤ (n : Nat) ∧ isPR F d (unR F (b : Nat) n) a ((n : Nat) - 1) = true ∧ ∃ i : Nat, F 9 d + (i : Nat) < (n : Nat) ∧ (∀ i2 : Nat, i2 < i → ¬ jdR F (unR F (b : Nat) ((F 9 d).toNat + i2) + 1) d (F 9 d + (i2 : Nat)) (nn i2) (aa i2) = 0) ∧ jdR F (unR F (b : Nat) ((F 9 d).toNat + i) + 1) d (F 9 d + (i : Nat)) (nn i) (aa i) = 0 ∧ z0 = some (.int (iI (-2 - (i : Nat)))) ∧ ∃ D, RefC V M' r A (rN cap lq) (va_up F 4 D) c tn gn) ∨ ((0 ≤ g ∧ g < gn ∧ F 6 g.toNat = 4 ∧ F 7 g.toNat = -1 ∧ 0 ≤ t ∧ t < tn ∧ cl = 1) ∧ F 9 d ≤ (n : Nat) ∧ isPR F d (unR F (b : Nat) n) a ((n : Nat) - 1) = true ∧ (∀ i2 : Nat, i2 < n - (F 9 d).toNat → ¬ jdR F (unR F (b : Nat) ((F 9 d).toNat + i2) + 1) d (F 9 d + (i2 : Nat)) (nn i2) (aa i2) = 0) ∧ z0 = some (.int (iI (cnR F (b : Nat) d nn aa (n - (F 9 d).toNat)))) ∧ ∃ D, RefC V M' r A (rN cap lq) (ctF (va_up F 4 D) g.toNat (b : Nat) ((n : Nat) - F 9 d)) c tn gn)) 0 0 := ⟨_, rfl⟩
  rw [← hQ]
  show mv_G X Q (kk V) 8 0 [(0, .ref r), (1, .int (iI (g))), (2, .int (iI (t)))] [] M 0 0
  have k1_5 : M (A 5) = some (iA V (1500) (F 5)) := hC.2.1 5 (by decide)
  have k1_6 : M (A 6) = some (iA V (100) (F 6)) := hC.2.1 6 (by decide)
  have k1_7 : M (A 7) = some (iA V (100) (F 7)) := hC.2.1 7 (by decide)
  have k1_8 : M (A 8) = some (iA V (100) (F 8)) := hC.2.1 8 (by decide)
  have k1_9 : M (A 9) = some (iA V (100) (F 9)) := hC.2.1 9 (by decide)
  have k1_10 : M (A 10) = some (iA V (100) (F 10)) := hC.2.1 10 (by decide)
  refine mv_iload_n B d_Mod_constructor_0 rfl 1 rfl ?_
  refine mv_if_lt (tgt := 53) B d_Mod_constructor_1 (by decide) (by first | omega | (split <;> omega)) (fun c2 => ?_) (fun c2 => ?_)
  · refine mv_iconst (z := -1) B d_Mod_constructor_53 rfl ?_
    rw [hQ]
    exact mv_iret B (Or.inl ⟨by omega, rfl, F 4, by rw [bx_self]; exact hC⟩) (by omega) (by omega) d_Mod_constructor_54
  · refine mv_iload_n B d_Mod_constructor_4 rfl 1 rfl ?_
    refine mv_aloadR_n B d_Mod_constructor_5 rfl 0 rfl ?_
    refine gf_Mod_81 B hC.1 rfl d_Mod_constructor_6 ?_
    refine mv_icmp_ge (tgt := 53) B d_Mod_constructor_9 (by decide) (by first | omega | (split <;> omega)) (by first | omega | (split <;> omega)) (fun c3 => ?_) (fun c3 => ?_)
    · refine mv_iconst (z := -1) B d_Mod_constructor_53 rfl ?_
      rw [hQ]
      exact mv_iret B (Or.inl ⟨by omega, rfl, F 4, by rw [bx_self]; exact hC⟩) (by omega) (by omega) d_Mod_constructor_54
    · refine mv_aloadR_n B d_Mod_constructor_12 rfl 0 rfl ?_
      refine gf_Mod_28 B hC.1 rfl d_Mod_constructor_13 ?_
      refine mv_iload_n B d_Mod_constructor_16 rfl 1 rfl ?_
      refine ia_ld B k1_6 (by first | omega | (split <;> omega)) (by omega) (by omega) d_Mod_constructor_17 ?_
      have rr4 : R32 (F 6 (Int.toNat (g))) := (hC.R 6) _
      refine mv_iconst (z := 4) B d_Mod_constructor_18 rfl ?_
      refine mv_icmp_ne (tgt := 53) B d_Mod_constructor_19 (by decide) (by first | omega | (split <;> omega)) (by first | omega | (split <;> omega)) (fun c5 => ?_) (fun c5 => ?_)
      · refine mv_iconst (z := -1) B d_Mod_constructor_53 rfl ?_
        rw [hQ]
        exact mv_iret B (Or.inl ⟨by omega, rfl, F 4, by rw [bx_self]; exact hC⟩) (by omega) (by omega) d_Mod_constructor_54
      · refine mv_aloadR_n B d_Mod_constructor_22 rfl 0 rfl ?_
        refine gf_Mod_31 B hC.1 rfl d_Mod_constructor_23 ?_
        refine mv_iload_n B d_Mod_constructor_26 rfl 1 rfl ?_
        refine ia_ld B k1_7 (by first | omega | (split <;> omega)) (by omega) (by omega) d_Mod_constructor_27 ?_
        have rr6 : R32 (F 7 (Int.toNat (g))) := (hC.R 7) _
        refine mv_iconst (z := -1) B d_Mod_constructor_28 rfl ?_
        refine mv_icmp_ne (tgt := 53) B d_Mod_constructor_29 (by decide) (by first | omega | (split <;> omega)) (by first | omega | (split <;> omega)) (fun c7 => ?_) (fun c7 => ?_)
        · refine mv_iconst (z := -1) B d_Mod_constructor_53 rfl ?_
          rw [hQ]
          exact mv_iret B (Or.inl ⟨by omega, rfl, F 4, by rw [bx_self]; exact hC⟩) (by omega) (by omega) d_Mod_constructor_54
        · refine mv_aloadR_n B d_Mod_constructor_32 rfl 0 rfl ?_
          refine mv_iload_n B d_Mod_constructor_33 rfl 2 rfl ?_
          refine ca_Mod_90 (mc := 0) (ms := 0) (As := [.int (iI (t))]) (rest := []) B (m_Mod_isTerm hC hcap (i := t) (by omega) (by omega)) rfl rfl ⟨Nat.le_of_ble_eq_true rfl, Nat.le_of_ble_eq_true rfl⟩ hC.1 rfl rfl (Nat.le_of_ble_eq_true rfl) d_Mod_constructor_34 ⟨by omega, by omega⟩ (mv_x ?_)
          show mv_G X Q (kk V) 8 37 [(0, .ref r), (1, .int (iI (g))), (2, .int (iI (t)))] [.int (iI (if 0 ≤ t ∧ t < tn then 1 else 0))] M 0 0
          refine mv_if_eq (tgt := 53) B d_Mod_constructor_37 (by decide) (by first | omega | (split <;> omega)) (fun c8 => ?_) (fun c8 => ?_)
          · have htt : ¬ (0 ≤ t ∧ t < tn) := by
              intro q
              rw [if_pos q] at c8
              omega
            refine mv_iconst (z := -1) B d_Mod_constructor_53 rfl ?_
            rw [hQ]
            exact mv_iret B (Or.inl ⟨by omega, rfl, F 4, by rw [bx_self]; exact hC⟩) (by omega) (by omega) d_Mod_constructor_54
          · have htt : 0 ≤ t ∧ t < tn := by
              apply Classical.byContradiction
              intro q
              rw [if_neg q] at c8
              omega
            obtain ⟨p1, p2, p3, p4, p5, p6, p7, p8, p9, x1, x2, x3, x4, x5, x6, x7, x8, x9⟩ := hp0 (by omega)
            have hRc : cl = 0 ∨ cl = 1 := by rw [← p5]; split <;> simp
            have hu0 := p9 n (Nat.le_refl n)
            refine mv_aloadR_n B d_Mod_constructor_40 rfl 0 rfl ?_
            refine mv_aloadR_n B d_Mod_constructor_41 rfl 0 rfl ?_
            refine gf_Mod_25 B hC.1 rfl d_Mod_constructor_42 ?_
            refine mv_iload_n B d_Mod_constructor_45 rfl 2 rfl ?_
            refine ia_ld B k1_5 (by first | omega | (split <;> omega)) (by omega) (by omega) d_Mod_constructor_46 ?_
            have rr9 : R32 (F 5 (Int.toNat (t))) := (hC.R 5) _
            rw [p1]
            refine ca_Mod_101 (mc := 0) (ms := 0) (rm' := rM 2 0 0 50) (As := [.int (iI ((b : Nat)))]) (rest := []) B (m_Mod_isClosed hC hcap (b := b) p2 p3 p4) rfl rfl ⟨Nat.le_of_ble_eq_true rfl, Nat.le_of_ble_eq_true rfl⟩ hC.1 rfl rfl (Nat.le_of_ble_eq_true rfl) d_Mod_constructor_47 ⟨by omega, by omega⟩ (fun v1 M9 ep => ?_)
            obtain ⟨e1, hC9⟩ := ep
            subst e1
            rw [p5]
            obtain ⟨DD, hDD⟩ : ∃ D : Nat → Int, D = (wkR F b (F 4) (Int.toNat (F 3 b))) := ⟨_, rfl⟩
            rw [← hDD] at hC9
            obtain ⟨G, hG⟩ : ∃ G : Nat → Nat → Int, G = va_up F 4 DD := ⟨_, rfl⟩
            rw [← hG] at hC9
            have hG0 : G 0 = F 0 := by rw [hG]; rfl
            have hG1 : G 1 = F 1 := by rw [hG]; rfl
            have hG2 : G 2 = F 2 := by rw [hG]; rfl
            have hG3 : G 3 = F 3 := by rw [hG]; rfl
            have hG5 : G 5 = F 5 := by rw [hG]; rfl
            have hG6 : G 6 = F 6 := by rw [hG]; rfl
            have hG7 : G 7 = F 7 := by rw [hG]; rfl
            have hG8 : G 8 = F 8 := by rw [hG]; rfl
            have hG9 : G 9 = F 9 := by rw [hG]; rfl
            have hG10 : G 10 = F 10 := by rw [hG]; rfl
            have hG11 : G 11 = F 11 := by rw [hG]; rfl
            have hG12 : G 12 = F 12 := by rw [hG]; rfl
            have hGu : unR G (b : Nat) = unR F (b : Nat) := funext (unR_cg hG3)
            show mv_G X Q (kk V) 8 50 [(0, .ref r), (1, .int (iI (g))), (2, .int (iI (t)))] [.int (iI (cl))] M9 0 0
            have k10_5 : M9 (A 5) = some (iA V (1500) (G 5)) := hC9.2.1 5 (by decide)
            have k10_6 : M9 (A 6) = some (iA V (100) (G 6)) := hC9.2.1 6 (by decide)
            have k10_7 : M9 (A 7) = some (iA V (100) (G 7)) := hC9.2.1 7 (by decide)
            have k10_8 : M9 (A 8) = some (iA V (100) (G 8)) := hC9.2.1 8 (by decide)
            have k10_9 : M9 (A 9) = some (iA V (100) (G 9)) := hC9.2.1 9 (by decide)
            have k10_10 : M9 (A 10) = some (iA V (100) (G 10)) := hC9.2.1 10 (by decide)
            refine mv_if_ne (tgt := 55) B d_Mod_constructor_50 (by decide) (by first | omega | (split <;> omega)) (fun c11 => ?_) (fun c11 => ?_)
            · have hJG : agJ F G := by rw [hG]; exact agJ_4 F DD
              refine mv_aloadR_n B d_Mod_constructor_55 rfl 0 rfl ?_
              refine gf_Mod_34 B hC9.1 rfl d_Mod_constructor_56 ?_
              refine mv_iload_n B d_Mod_constructor_59 rfl 1 rfl ?_
              refine ia_ld B k10_8 (by first | omega | (split <;> omega)) (by omega) (by omega) d_Mod_constructor_60 ?_
              have rr12 : R32 ((G 8) (Int.toNat (g))) := (hC9.R 8) _
              rw [hG8, x1]
              refine mv_istore_n (lv' := [(3, .int (iI ((d : Nat)))), (0, .ref r), (1, .int (iI (g))), (2, .int (iI (t)))]) B d_Mod_constructor_61 rfl (by decide) rfl ?_
              refine mv_aloadR_n B d_Mod_constructor_62 rfl 1 rfl ?_
              refine mv_aloadR_n B d_Mod_constructor_63 rfl 1 rfl ?_
              refine gf_Mod_25 B hC9.1 rfl d_Mod_constructor_64 ?_
              refine mv_iload_n B d_Mod_constructor_67 rfl 3 rfl ?_
              refine ia_ld B k10_5 (by first | omega | (split <;> omega)) (by omega) (by omega) d_Mod_constructor_68 ?_
              have rr13 : R32 ((G 5) (Int.toNat (t))) := (hC9.R 5) _
              rw [hG5, p1]
              refine ca_Mod_104 (mc := 0) (ms := 0) (As := [.int (iI ((b : Nat)))]) (rest := []) B (m_Mod_alls hC9 hcap (b := (b : Nat)) (n := n) (by omega) (by rw [hGu, hG0]; exact p7) (by rw [hGu, hG0]; exact p8) (by rw [hGu]; exact p9)) rfl rfl ⟨Nat.le_of_ble_eq_true rfl, Nat.le_of_ble_eq_true rfl⟩ hC9.1 rfl rfl (Nat.le_of_ble_eq_true rfl) d_Mod_constructor_69 ⟨by omega, by omega⟩ (mv_x ?_)
              show mv_G X Q (kk V) 8 72 [(3, .int (iI ((d : Nat)))), (0, .ref r), (1, .int (iI (g))), (2, .int (iI (t)))] [.int (iI ((n : Nat)))] M9 0 0
              refine mv_istore (lv' := [(4, .int (iI ((n : Nat)))), (3, .int (iI ((d : Nat)))), (0, .ref r), (1, .int (iI (g))), (2, .int (iI (t)))]) B d_Mod_constructor_72 (by decide) rfl ?_
              refine mv_iload B d_Mod_constructor_74 0 rfl ?_
              refine mv_aloadR_n B d_Mod_constructor_76 rfl 2 rfl ?_
              refine gf_Mod_37 B hC9.1 rfl d_Mod_constructor_77 ?_
              refine mv_iload_n B d_Mod_constructor_80 rfl 1 rfl ?_
              refine ia_ld B k10_9 (by first | omega | (split <;> omega)) (by omega) (by omega) d_Mod_constructor_81 ?_
              rw [show Int.toNat ((d : Nat)) = d from by omega]
              have rr14 : R32 ((G 9) d) := (hC9.R 9) _
              rw [hG9]
              refine mv_icmp_lt (tgt := 109) B d_Mod_constructor_82 (by decide) (by first | omega | (split <;> omega)) (by first | omega | (split <;> omega)) (fun c15 => ?_) (fun c15 => ?_)
              · refine mv_iconst (z := -1) B d_Mod_constructor_109 rfl ?_
                rw [hQ]
                exact mv_iret B (Or.inr (Or.inl ⟨by omega, Or.inl (by omega), rfl, DD, by rw [← hG]; exact hC9⟩)) (by omega) (by omega) d_Mod_constructor_110
              · refine mv_aloadR_n B d_Mod_constructor_85 rfl 2 rfl ?_
                refine mv_aloadR_n B d_Mod_constructor_86 rfl 2 rfl ?_
                refine mv_aloadR_n B d_Mod_constructor_87 rfl 2 rfl ?_
                refine gf_Mod_25 B hC9.1 rfl d_Mod_constructor_88 ?_
                refine mv_iload_n B d_Mod_constructor_91 rfl 4 rfl ?_
                refine ia_ld B k10_5 (by first | omega | (split <;> omega)) (by omega) (by omega) d_Mod_constructor_92 ?_
                have rr16 : R32 ((G 5) (Int.toNat (t))) := (hC9.R 5) _
                rw [hG5, p1]
                refine mv_iload B d_Mod_constructor_93 0 rfl ?_
                refine ca_Mod_107 (mc := 0) (ms := 0) (As := [.int (iI ((b : Nat))), .int (iI ((n : Nat)))]) (rest := [.ref r]) B (m_Mod_under hC9 hcap (b := (b : Nat)) (n := (n : Nat)) (by omega) (fun j hj => by rw [hGu]; have := p9 j (by omega); omega)) rfl rfl ⟨Nat.le_of_ble_eq_true rfl, Nat.le_of_ble_eq_true rfl⟩ hC9.1 rfl rfl (Nat.le_of_ble_eq_true rfl) d_Mod_constructor_95 ⟨by omega, by omega⟩ (mv_x ?_)
                show mv_G X Q (kk V) 8 98 [(4, .int (iI ((n : Nat)))), (3, .int (iI ((d : Nat)))), (0, .ref r), (1, .int (iI (g))), (2, .int (iI (t)))] [.int (iI (unR G (b : Nat) (Int.toNat (n : Nat)))), .ref r] M9 0 0
                rw [agJ_un hJG, show Int.toNat ((n : Nat) : Int) = n by omega]
                refine mv_iload_n B d_Mod_constructor_98 rfl 1 rfl ?_
                refine mv_iload B d_Mod_constructor_99 0 rfl ?_
                refine mv_iconst (z := 1) B d_Mod_constructor_101 rfl ?_
                refine mv_isub B d_Mod_constructor_102 ?_
                refine ca_Mod_115 (mc := 0) (ms := 0) (As := [.int (iI (unR F (b : Nat) n)), .int (iI ((d : Nat))), .int (iI ((n : Nat) - 1))]) (rest := []) B (m_Mod_isPut hC9 hcap (b := unR F (b : Nat) n) (v := (n : Nat) - 1) (d := d) (a := a) (by omega) (by omega) (by rw [hG0]; exact x5) (by rw [hG0]; exact x6) x2 (by rw [hG9, hG10]; exact x3) (by rw [hG9, hG10]; exact x7) (by rw [agJ_pv hJG]; exact x8) (by omega)) rfl rfl ⟨Nat.le_of_ble_eq_true rfl, Nat.le_of_ble_eq_true rfl⟩ hC9.1 rfl rfl (Nat.le_of_ble_eq_true rfl) d_Mod_constructor_103 ⟨by omega, by omega⟩ (mv_x ?_)
                show mv_G X Q (kk V) 8 106 [(4, .int (iI ((n : Nat)))), (3, .int (iI ((d : Nat)))), (0, .ref r), (1, .int (iI (g))), (2, .int (iI (t)))] [.int (iI (if isPR G d (unR F (b : Nat) n) a ((n : Nat) - 1) = true then 1 else 0))] M9 0 0
                rw [agJ_ip hJG]
                refine mv_if_ne (tgt := 111) B d_Mod_constructor_106 (by decide) (by first | omega | (split <;> omega)) (fun c17 => ?_) (fun c17 => ?_)
                · have hpt : isPR F d (unR F (b : Nat) n) a ((n : Nat) - 1) = true := by
                    apply Classical.byContradiction
                    intro q
                    rw [if_neg q] at c17
                    omega
                  refine mv_iconst (z := 0) B d_Mod_constructor_111 rfl ?_
                  refine mv_istore (lv' := [(5, .int (iI (0))), (4, .int (iI ((n : Nat)))), (3, .int (iI ((d : Nat)))), (0, .ref r), (1, .int (iI (g))), (2, .int (iI (t)))]) B d_Mod_constructor_112 (by decide) rfl ?_
                  refine mv_aloadR_n B d_Mod_constructor_114 rfl 3 rfl ?_
                  refine gf_Mod_37 B hC9.1 rfl d_Mod_constructor_115 ?_
                  refine mv_iload_n B d_Mod_constructor_118 rfl 2 rfl ?_
                  refine ia_ld B k10_9 (by first | omega | (split <;> omega)) (by omega) (by omega) d_Mod_constructor_119 ?_
                  rw [show Int.toNat ((d : Nat)) = d from by omega]
                  have rr18 : R32 ((G 9) d) := (hC9.R 9) _
                  rw [hG9]
                  refine mv_istore (lv' := [(6, .int (iI (F 9 d))), (5, .int (iI (0))), (4, .int (iI ((n : Nat)))), (3, .int (iI ((d : Nat)))), (0, .ref r), (1, .int (iI (g))), (2, .int (iI (t)))]) B d_Mod_constructor_120 (by decide) rfl ?_
                  have L122 : ∀ (fu : Nat) (i : Nat), (F 9 d + (i : Nat) ≤ (n : Nat)) → (∀ i2 : Nat, i2 < i → ¬ jdR F (unR F (b : Nat) ((F 9 d).toNat + i2) + 1) d (F 9 d + (i2 : Nat)) (nn i2) (aa i2) = 0) → (n - i) < fu → mv_G X Q (kk V) 8 122 [(6, .int (iI (F 9 d + (i : Nat)))), (5, .int (iI (cnR F (b : Nat) d nn aa i))), (4, .int (iI ((n : Nat)))), (3, .int (iI ((d : Nat)))), (0, .ref r), (1, .int (iI (g))), (2, .int (iI (t)))] [] M9 0 0 := by
                    intro fu
                    induction fu with
                    | zero => intro i hi hnz hm; exact absurd hm (Nat.not_lt_zero _)
                    | succ fu ih122 =>
                      intro i hi hnz hm
                      refine mv_iload B d_Mod_constructor_122 0 rfl ?_
                      refine mv_iload B d_Mod_constructor_124 2 rfl ?_
                      refine mv_icmp_ge (tgt := 192) B d_Mod_constructor_126 (by decide) (by first | omega | (split <;> omega)) (by first | omega | (split <;> omega)) (fun c19 => ?_) (fun c19 => ?_)
                      · refine mv_aloadR_n B d_Mod_constructor_192 rfl 4 rfl ?_
                        refine gf_Mod_31 B hC9.1 rfl d_Mod_constructor_193 ?_
                        refine mv_iload_n B d_Mod_constructor_196 rfl 5 rfl ?_
                        refine mv_aloadR_n B d_Mod_constructor_197 rfl 4 rfl ?_
                        refine gf_Mod_25 B hC9.1 rfl d_Mod_constructor_198 ?_
                        refine mv_iload_n B d_Mod_constructor_201 rfl 6 rfl ?_
                        refine ia_ld B k10_5 (by first | omega | (split <;> omega)) (by omega) (by omega) d_Mod_constructor_202 ?_
                        have rr20 : R32 ((G 5) (Int.toNat (t))) := (hC9.R 5) _
                        rw [hG5, p1]
                        refine ia_st B k10_7 (by first | omega | (split <;> omega)) (by omega) (by omega) d_Mod_constructor_203 ?_
                        obtain ⟨M21, hM22⟩ : ∃ My : mv_M, My = mv_up M9 (A 7) (iA V (100) (va_up (G 7) (Int.toNat (g)) ((b : Nat)))) := ⟨_, rfl⟩
                        rw [← hM22]
                        have hC23 : RefC V M21 r A (rN cap lq) (va_up G 7 (va_up (G 7) (Int.toNat (g)) ((b : Nat)))) (c) (tn) (gn) := by rw [hM22]; exact RefC_w (i := 7) (k := (Int.toNat (g))) (x := (b : Nat)) hC9 (by decide) (by show (Int.toNat (g)) < 100; omega) (by omega)
                        have k24_5 : M21 (A 5) = some (iA V (1500) (G 5)) := hC23.2.1 5 (by decide)
                        have k24_6 : M21 (A 6) = some (iA V (100) (G 6)) := hC23.2.1 6 (by decide)
                        have k24_7 : M21 (A 7) = some (iA V (100) (va_up (G 7) (Int.toNat (g)) ((b : Nat)))) := hC23.2.1 7 (by decide)
                        have k24_8 : M21 (A 8) = some (iA V (100) (G 8)) := hC23.2.1 8 (by decide)
                        have k24_9 : M21 (A 9) = some (iA V (100) (G 9)) := hC23.2.1 9 (by decide)
                        have k24_10 : M21 (A 10) = some (iA V (100) (G 10)) := hC23.2.1 10 (by decide)
                        refine mv_aloadR_n B d_Mod_constructor_204 rfl 4 rfl ?_
                        refine gf_Mod_40 B hC23.1 rfl d_Mod_constructor_205 ?_
                        refine mv_iload_n B d_Mod_constructor_208 rfl 5 rfl ?_
                        refine mv_iload B d_Mod_constructor_209 2 rfl ?_
                        refine mv_aloadR_n B d_Mod_constructor_211 rfl 4 rfl ?_
                        refine gf_Mod_37 B hC23.1 rfl d_Mod_constructor_212 ?_
                        refine mv_iload_n B d_Mod_constructor_215 rfl 3 rfl ?_
                        refine ia_ld B k24_9 (by first | omega | (split <;> omega)) (by omega) (by omega) d_Mod_constructor_216 ?_
                        rw [show Int.toNat ((d : Nat)) = d from by omega]
                        have rr25 : R32 ((G 9) d) := (hC23.R 9) _
                        rw [hG9]
                        refine mv_isub B d_Mod_constructor_217 ?_
                        refine ia_st B k24_10 (by first | omega | (split <;> omega)) (by omega) (by omega) d_Mod_constructor_218 ?_
                        obtain ⟨M26, hM27⟩ : ∃ My : mv_M, My = mv_up M21 (A 10) (iA V (100) (va_up (G 10) (Int.toNat (g)) ((n : Nat) - (F 9 d)))) := ⟨_, rfl⟩
                        rw [← hM27]
                        have hC28 : RefC V M26 r A (rN cap lq) (va_up (va_up G 7 (va_up (G 7) (Int.toNat (g)) ((b : Nat)))) 10 (va_up (G 10) (Int.toNat (g)) ((n : Nat) - (F 9 d)))) (c) (tn) (gn) := by rw [hM27]; exact RefC_w (i := 10) (k := (Int.toNat (g))) (x := (n : Nat) - (F 9 d)) hC23 (by decide) (by show (Int.toNat (g)) < 100; omega) (by omega)
                        have k29_5 : M26 (A 5) = some (iA V (1500) (G 5)) := hC28.2.1 5 (by decide)
                        have k29_6 : M26 (A 6) = some (iA V (100) (G 6)) := hC28.2.1 6 (by decide)
                        have k29_7 : M26 (A 7) = some (iA V (100) (va_up (G 7) (Int.toNat (g)) ((b : Nat)))) := hC28.2.1 7 (by decide)
                        have k29_8 : M26 (A 8) = some (iA V (100) (G 8)) := hC28.2.1 8 (by decide)
                        have k29_9 : M26 (A 9) = some (iA V (100) (G 9)) := hC28.2.1 9 (by decide)
                        have k29_10 : M26 (A 10) = some (iA V (100) (va_up (G 10) (Int.toNat (g)) ((n : Nat) - (F 9 d)))) := hC28.2.1 10 (by decide)
                        refine mv_iload B d_Mod_constructor_219 1 rfl ?_
                        rw [hQ]
                        have ei : i = n - (F 9 d).toNat := by omega
                        subst ei
                        exact mv_iret B (Or.inr (Or.inr (Or.inr ⟨by omega, by omega, hpt, hnz, rfl, DD, by rw [← hG]; exact hC28⟩))) (by omega) (by omega) d_Mod_constructor_221
                      · refine mv_aloadR_n B d_Mod_constructor_129 rfl 4 rfl ?_
                        refine mv_aloadR_n B d_Mod_constructor_130 rfl 4 rfl ?_
                        refine mv_aloadR_n B d_Mod_constructor_131 rfl 4 rfl ?_
                        refine gf_Mod_25 B hC9.1 rfl d_Mod_constructor_132 ?_
                        refine mv_iload_n B d_Mod_constructor_135 rfl 6 rfl ?_
                        refine ia_ld B k10_5 (by first | omega | (split <;> omega)) (by omega) (by omega) d_Mod_constructor_136 ?_
                        have rr30 : R32 ((G 5) (Int.toNat (t))) := (hC9.R 5) _
                        rw [hG5, p1]
                        refine mv_iload B d_Mod_constructor_137 0 rfl ?_
                        refine ca_Mod_107 (mc := 0) (ms := 0) (As := [.int (iI ((b : Nat))), .int (iI (F 9 d + (i : Nat)))]) (rest := [.ref r]) B (m_Mod_under hC9 hcap (b := (b : Nat)) (n := F 9 d + (i : Nat)) (by omega) (fun j hj => by rw [hGu]; have := p9 j (by omega); omega)) rfl rfl ⟨Nat.le_of_ble_eq_true rfl, Nat.le_of_ble_eq_true rfl⟩ hC9.1 rfl rfl (Nat.le_of_ble_eq_true rfl) d_Mod_constructor_139 ⟨by omega, by omega⟩ (mv_x ?_)
                        show mv_G X Q (kk V) 8 142 [(6, .int (iI (F 9 d + (i : Nat)))), (5, .int (iI (cnR F (b : Nat) d nn aa i))), (4, .int (iI ((n : Nat)))), (3, .int (iI ((d : Nat)))), (0, .ref r), (1, .int (iI (g))), (2, .int (iI (t)))] [.int (iI (unR G (b : Nat) (Int.toNat (F 9 d + (i : Nat))))), .ref r] M9 0 0
                        rw [agJ_un hJG, show Int.toNat (F 9 d + (i : Nat)) = (F 9 d).toNat + i by omega]
                        refine mv_iconst (z := 1) B d_Mod_constructor_142 rfl ?_
                        refine mv_iadd B d_Mod_constructor_143 ?_
                        refine mv_iload_n B d_Mod_constructor_144 rfl 3 rfl ?_
                        refine mv_iload B d_Mod_constructor_145 0 rfl ?_
                        refine ca_Mod_122 (mc := 0) (ms := 0) (As := [.int (iI ((unR F (b : Nat) ((F 9 d).toNat + i)) + 1)), .int (iI ((d : Nat))), .int (iI (F 9 d + (i : Nat)))]) (rest := []) B (m_Mod_judgeJ hC9 hcap (b := unR F (b : Nat) ((F 9 d).toNat + i) + 1) (ar := F 9 d + (i : Nat)) (d := d) (n := nn i) (a := aa i) (agJ_ok hJG (x9 i (by omega)))) rfl rfl ⟨Nat.le_of_ble_eq_true rfl, Nat.le_of_ble_eq_true rfl⟩ hC9.1 rfl rfl (Nat.le_of_ble_eq_true rfl) d_Mod_constructor_147 ⟨by omega, by omega⟩ (mv_x ?_)
                        show mv_G X Q (kk V) 8 150 [(6, .int (iI (F 9 d + (i : Nat)))), (5, .int (iI (cnR F (b : Nat) d nn aa i))), (4, .int (iI ((n : Nat)))), (3, .int (iI ((d : Nat)))), (0, .ref r), (1, .int (iI (g))), (2, .int (iI (t)))] [.int (iI (jdR G (unR F (b : Nat) ((F 9 d).toNat + i) + 1) d (F 9 d + (i : Nat)) (nn i) (aa i)))] M9 0 0
                        rw [agJ_jd hJG]
                        have hjr := jdR_r F (unR F (b : Nat) ((F 9 d).toNat + i) + 1) d (F 9 d + (i : Nat)) (nn i) (aa i)
                        refine mv_istore (lv' := [(7, .int (iI (jdR F (unR F (b : Nat) ((F 9 d).toNat + i) + 1) d (F 9 d + (i : Nat)) (nn i) (aa i)))), (6, .int (iI (F 9 d + (i : Nat)))), (5, .int (iI (cnR F (b : Nat) d nn aa i))), (4, .int (iI ((n : Nat)))), (3, .int (iI ((d : Nat)))), (0, .ref r), (1, .int (iI (g))), (2, .int (iI (t)))]) B d_Mod_constructor_150 (by decide) rfl ?_
                        refine mv_iload B d_Mod_constructor_152 0 rfl ?_
                        refine mv_if_ne (tgt := 170) B d_Mod_constructor_154 (by decide) (by first | omega | (split <;> omega)) (fun c31 => ?_) (fun c31 => ?_)
                        · refine mv_iload B d_Mod_constructor_170 2 rfl ?_
                          refine mv_iload B d_Mod_constructor_172 0 rfl ?_
                          refine mv_iconst (z := 2) B d_Mod_constructor_174 rfl ?_
                          refine mv_icmp_ne (tgt := 182) B d_Mod_constructor_175 (by decide) (by first | omega | (split <;> omega)) (by first | omega | (split <;> omega)) (fun c32 => ?_) (fun c32 => ?_)
                          · refine mv_iconst (z := 0) B d_Mod_constructor_182 rfl ?_
                            refine mv_iadd B d_Mod_constructor_183 ?_
                            refine mv_istore (lv' := [(5, .int (iI ((cnR F (b : Nat) d nn aa i) + 0))), (7, .int (iI (jdR F (unR F (b : Nat) ((F 9 d).toNat + i) + 1) d (F 9 d + (i : Nat)) (nn i) (aa i)))), (6, .int (iI (F 9 d + (i : Nat)))), (4, .int (iI ((n : Nat)))), (3, .int (iI ((d : Nat)))), (0, .ref r), (1, .int (iI (g))), (2, .int (iI (t)))]) B d_Mod_constructor_184 (by decide) rfl ?_
                            refine mv_iinc (lv' := [(6, .int (iI ((F 9 d + (i : Nat)) + 1))), (5, .int (iI ((cnR F (b : Nat) d nn aa i) + 0))), (7, .int (iI (jdR F (unR F (b : Nat) ((F 9 d).toNat + i) + 1) d (F 9 d + (i : Nat)) (nn i) (aa i)))), (4, .int (iI ((n : Nat)))), (3, .int (iI ((d : Nat)))), (0, .ref r), (1, .int (iI (g))), (2, .int (iI (t)))]) B d_Mod_constructor_186 2 rfl (by decide) rfl ?_
                            refine mv_goto (tgt := 122) B d_Mod_constructor_189 (by decide) ?_
                            refine mv_lv (lv' := [(6, .int (iI (F 9 d + ((i + 1) : Nat)))), (5, .int (iI (cnR F (b : Nat) d nn aa (i + 1)))), (4, .int (iI ((n : Nat)))), (3, .int (iI ((d : Nat)))), (0, .ref r), (1, .int (iI (g))), (2, .int (iI (t)))]) [0, 1, 3, 4, 5, 6, 7] (lc (lI (by first | rfl | omega)) (lc (lI (by rw [cnR_s]; first | (rw [if_pos (by omega)]; done) | (rw [if_neg (by omega)]; done) | (rw [if_pos (by omega)]; omega) | (rw [if_neg (by omega)]; omega))) (lc rfl (lc rfl (lc rfl (lc rfl (lc rfl rfl))))))) ?_
                            exact ih122 (i + 1) (by omega) (fun j hj => (Nat.lt_or_ge j i).elim (fun q => hnz j q) (fun q => by rw [show j = i by omega]; omega)) (by omega)
                          · refine mv_iconst (z := 1) B d_Mod_constructor_178 rfl ?_
                            refine mv_goto (tgt := 183) B d_Mod_constructor_179 (by decide) ?_
                            refine mv_iadd B d_Mod_constructor_183 ?_
                            refine mv_istore (lv' := [(5, .int (iI ((cnR F (b : Nat) d nn aa i) + 1))), (7, .int (iI (jdR F (unR F (b : Nat) ((F 9 d).toNat + i) + 1) d (F 9 d + (i : Nat)) (nn i) (aa i)))), (6, .int (iI (F 9 d + (i : Nat)))), (4, .int (iI ((n : Nat)))), (3, .int (iI ((d : Nat)))), (0, .ref r), (1, .int (iI (g))), (2, .int (iI (t)))]) B d_Mod_constructor_184 (by decide) rfl ?_
                            refine mv_iinc (lv' := [(6, .int (iI ((F 9 d + (i : Nat)) + 1))), (5, .int (iI ((cnR F (b : Nat) d nn aa i) + 1))), (7, .int (iI (jdR F (unR F (b : Nat) ((F 9 d).toNat + i) + 1) d (F 9 d + (i : Nat)) (nn i) (aa i)))), (4, .int (iI ((n : Nat)))), (3, .int (iI ((d : Nat)))), (0, .ref r), (1, .int (iI (g))), (2, .int (iI (t)))]) B d_Mod_constructor_186 2 rfl (by decide) rfl ?_
                            refine mv_goto (tgt := 122) B d_Mod_constructor_189 (by decide) ?_
                            refine mv_lv (lv' := [(6, .int (iI (F 9 d + ((i + 1) : Nat)))), (5, .int (iI (cnR F (b : Nat) d nn aa (i + 1)))), (4, .int (iI ((n : Nat)))), (3, .int (iI ((d : Nat)))), (0, .ref r), (1, .int (iI (g))), (2, .int (iI (t)))]) [0, 1, 3, 4, 5, 6, 7] (lc (lI (by first | rfl | omega)) (lc (lI (by rw [cnR_s]; first | (rw [if_pos (by omega)]; done) | (rw [if_neg (by omega)]; done) | (rw [if_pos (by omega)]; omega) | (rw [if_neg (by omega)]; omega))) (lc rfl (lc rfl (lc rfl (lc rfl (lc rfl rfl))))))) ?_
                            exact ih122 (i + 1) (by omega) (fun j hj => (Nat.lt_or_ge j i).elim (fun q => hnz j q) (fun q => by rw [show j = i by omega]; omega)) (by omega)
                        · refine mv_bipush (z := -2) B d_Mod_constructor_157 (by decide) ?_
                          refine mv_iload B d_Mod_constructor_159 1 rfl ?_
                          refine mv_aloadR_n B d_Mod_constructor_161 rfl 5 rfl ?_
                          refine gf_Mod_37 B hC9.1 rfl d_Mod_constructor_162 ?_
                          refine mv_iload_n B d_Mod_constructor_165 rfl 4 rfl ?_
                          refine ia_ld B k10_9 (by first | omega | (split <;> omega)) (by omega) (by omega) d_Mod_constructor_166 ?_
                          rw [show Int.toNat ((d : Nat)) = d from by omega]
                          have rr33 : R32 ((G 9) d) := (hC9.R 9) _
                          rw [hG9]
                          refine mv_isub B d_Mod_constructor_167 ?_
                          refine mv_isub B d_Mod_constructor_168 ?_
                          rw [hQ]
                          exact mv_iret B (Or.inr (Or.inr (Or.inl ⟨by omega, by omega, hpt, i, by omega, hnz, by omega, by rw [show -2 - ((F 9 d + (i : Nat)) - F 9 d) = -2 - ((i : Nat) : Int) by omega], DD, by rw [← hG]; exact hC9⟩))) (by omega) (by omega) d_Mod_constructor_169
                  refine mv_lv (lv' := [(6, .int (iI (F 9 d + (0 : Nat)))), (5, .int (iI (cnR F (b : Nat) d nn aa 0))), (4, .int (iI ((n : Nat)))), (3, .int (iI ((d : Nat)))), (0, .ref r), (1, .int (iI (g))), (2, .int (iI (t)))]) [0, 1, 2, 3, 4, 5, 6] (lc (lI (by first | rfl | omega)) (lc (lI (by rfl)) (lc rfl (lc rfl (lc rfl (lc rfl (lc rfl rfl))))))) ?_
                  exact L122 _ 0 (by omega) (fun j hj => absurd hj (by omega)) (Nat.lt_succ_self _)
                · have hpt : isPR F d (unR F (b : Nat) n) a ((n : Nat) - 1) = false := by
                    apply Bool.eq_false_iff.mpr
                    intro q
                    rw [if_pos q] at c17
                    omega
                  refine mv_iconst (z := -1) B d_Mod_constructor_109 rfl ?_
                  rw [hQ]
                  exact mv_iret B (Or.inr (Or.inl ⟨by omega, Or.inr hpt, rfl, DD, by rw [← hG]; exact hC9⟩)) (by omega) (by omega) d_Mod_constructor_110
            · refine mv_iconst (z := -1) B d_Mod_constructor_53 rfl ?_
              rw [hQ]
              exact mv_iret B (Or.inl ⟨by omega, rfl, DD, by rw [← hG]; exact hC9⟩) (by omega) (by omega) d_Mod_constructor_54
