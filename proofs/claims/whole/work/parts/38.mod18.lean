/-! the reference: family -/
def fmL (F : Nat → Nat → Int) (g : Nat) (p o k t : Int) : Nat → Nat → Nat → Int
  | 0 => va_up (va_up (va_up (glF F g 3 t (g : Nat)) 9 (va_up (glF F g 3 t (g : Nat) 9) g p)) 10 (va_up (glF F g 3 t (g : Nat) 10) g o)) 11 (va_up (glF F g 3 t (g : Nat) 11) g k)
  | i + 1 => glF (fmL F g p o k t i) (g + 1 + i) 4 (-1) (g : Nat)
theorem unR_cg {F G : Nat → Nat → Int} (h : G 3 = F 3) {b : Int} : ∀ n, unR G b n = unR F b n
  | 0 => rfl
  | n + 1 => by
    simp only [unR, scR]
    rw [unR_cg h n, h]
theorem bx_self (F : Nat → Nat → Int) (j : Nat) : va_up F j (F j) = F := by
  funext x
  by_cases e : x = j
  · subst e; exact va_us
  · exact va_un e
set_option maxRecDepth 100000 in
set_option maxHeartbeats 4000000 in
theorem m_Mod_family {l : Launch} {V : mv_V} {M : mv_M} {r cap lq : Nat} {A : Nat → Nat} {F : Nat → Nat → Int} {c tn gn : Int} (hC : RefC V M r A (rN cap lq) F c tn gn) (hcap : cap ≤ 1000000) {t p k cl : Int} {b n : Nat} (hgt : (0 ≤ gn ∧ gn ≤ 100) ∧ 0 ≤ tn ∧ tn ≤ 1500) (rt : R32 t) (rp : R32 p) (rk : R32 k) (hp0 : 0 ≤ t ∧ t < tn → F 5 t.toNat = (b : Nat) ∧ (0 ≤ F 3 b ∧ (b : Int) + F 3 b ≤ cap ∧ b < cap) ∧ (∀ i : Nat, (i : Int) < F 3 b → 4 ≤ F 0 (b + i) → (b : Int) + i + 1 < cap ∧ 0 ≤ scR F (b + i) ∧ scR F (b + i) < cap) ∧ (∀ i : Nat, (i : Int) < F 3 b → Sm (wkR F b (F 4) i (b + i) + 1)) ∧ (if clR F (wkR F b (F 4) (Int.toNat (F 3 b))) b (F 3 b).toNat = true then (1 : Int) else 0) = cl ∧ n ≤ 1000 ∧ (∀ j, j < n → F 0 (unR F (b : Nat) j).toNat = 6) ∧ (¬ F 0 (unR F (b : Nat) n).toNat = 6) ∧ (∀ j, j ≤ n → 0 ≤ unR F (b : Nat) j ∧ unR F (b : Nat) j < cap ∧ (j < n → unR F (b : Nat) j + 1 < cap))) : Met l y_Mod_family ws_Mod_family (rM 3 0 0 80) (mv_Pre (kk V) [.ref r, .int (iI (t)), .int (iI (p)), .int (iI (k))] M) (mv_Q (kk V) (fun z0 M' => z0 = some (.int (iI (if 0 ≤ t ∧ t < tn ∧ cl = 1 ∧ 0 ≤ p ∧ 0 ≤ k ∧ k ≤ 12 ∧ gn + 1 + k ≤ 100 ∧ F 0 (unR F (b : Nat) n).toNat = 2 ∧ p ≤ (n : Nat) then gn else -1))) ∧ ((¬ (0 ≤ t ∧ t < tn ∧ cl = 1 ∧ 0 ≤ p ∧ 0 ≤ k ∧ k ≤ 12 ∧ gn + 1 + k ≤ 100 ∧ F 0 (unR F (b : Nat) n).toNat = 2 ∧ p ≤ (n : Nat)) ∧ ∃ D, RefC V M' r A (rN cap lq) (va_up F 4 D) c tn gn) ∨ ((0 ≤ t ∧ t < tn ∧ cl = 1 ∧ 0 ≤ p ∧ 0 ≤ k ∧ k ≤ 12 ∧ gn + 1 + k ≤ 100 ∧ F 0 (unR F (b : Nat) n).toNat = 2 ∧ p ≤ (n : Nat)) ∧ ∃ D, RefC V M' r A (rN cap lq) (fmL (va_up F 4 D) gn.toNat p ((n : Nat) - p) k (b : Nat) k.toNat) c tn (gn + 1 + k))))) 0 0 V.2.2.2.2 := by
  refine mv_Met (by decide) rfl (Nat.le_of_ble_eq_true rfl) (fun X hX B => ?_)
  subst hX
  replace B : mv_B X (kk V) c_Mod_family ws_Mod_family "FamilyRulesModel" 7 (Option.some Jvm.ClassFile.FieldType.int) (rM 3 0 0 80) "family" := B
  obtain ⟨Q, hQ⟩ : ∃ Q, Q = mv_E X (kk V) (fun z0 M' => z0 = some (.int (iI (if 0 ≤ t ∧ t < tn ∧ cl = 1 ∧ 0 ≤ p ∧ 0 ≤ k ∧ k ≤ 12 ∧ gn + 1 + k ≤ 100 ∧ F 0 (unR F (b : Nat) n).toNat = 2 ∧ p ≤ (n : Nat) then gn else -1))) ∧ ((¬ (0 ≤ t ∧ t < tn ∧ cl = 1 ∧ 0 ≤ p ∧ 0 ≤ k ∧ k ≤ 12 ∧ gn + 1 + k ≤ 100 ∧ F 0 (unR F (b : Nat) n).toNat = 2 ∧ p ≤ (n : Nat)) ∧ ∃ D, RefC V M' r A (rN cap lq) (va_up F 4 D) c tn gn) ∨ ((0 ≤ t ∧ t < tn ∧ cl = 1 ∧ 0 ≤ p ∧ 0 ≤ k ∧ k ≤ 12 ∧ gn + 1 + k ≤ 100 ∧ F 0 (unR F (b : Nat) n).toNat = 2 ∧ p ≤ (n : Nat)) ∧ ∃ D, RefC V M' r A (rN cap lq) (fmL (va_up F 4 D) gn.toNat p ((n : Nat) - p) k (b : Nat) k.toNat) c tn (gn + 1 + k)))) 0 0 := ⟨_, rfl⟩
  rw [← hQ]
  show mv_G X Q (kk V) 7 0 [(0, .ref r), (1, .int (iI (t))), (2, .int (iI (p))), (3, .int (iI (k)))] [] M 0 0
  have k1_0 : M (A 0) = some (iA V (cap) (F 0)) := hC.2.1 0 (by decide)
  have k1_5 : M (A 5) = some (iA V (1500) (F 5)) := hC.2.1 5 (by decide)
  have k1_9 : M (A 9) = some (iA V (100) (F 9)) := hC.2.1 9 (by decide)
  have k1_10 : M (A 10) = some (iA V (100) (F 10)) := hC.2.1 10 (by decide)
  have k1_11 : M (A 11) = some (iA V (100) (F 11)) := hC.2.1 11 (by decide)
  refine mv_aloadR_n B d_Mod_family_0 rfl 0 rfl ?_
  refine mv_iload_n B d_Mod_family_1 rfl 1 rfl ?_
  refine ca_Mod_90 (mc := 0) (ms := 0) (As := [.int (iI (t))]) (rest := []) B (m_Mod_isTerm hC hcap (i := t) (by omega) (by omega)) rfl rfl ⟨Nat.le_of_ble_eq_true rfl, Nat.le_of_ble_eq_true rfl⟩ hC.1 rfl rfl (Nat.le_of_ble_eq_true rfl) d_Mod_family_2 ⟨by omega, by omega⟩ (mv_x ?_)
  show mv_G X Q (kk V) 7 5 [(0, .ref r), (1, .int (iI (t))), (2, .int (iI (p))), (3, .int (iI (k)))] [.int (iI (if 0 ≤ t ∧ t < tn then 1 else 0))] M 0 0
  refine mv_if_eq (tgt := 48) B d_Mod_family_5 (by decide) (by first | omega | (split <;> omega)) (fun c2 => ?_) (fun c2 => ?_)
  · have htt : ¬ (0 ≤ t ∧ t < tn) := by
      intro q
      rw [if_pos q] at c2
      omega
    refine mv_iconst (z := -1) B d_Mod_family_48 rfl ?_
    rw [hQ]
    exact mv_iret B ⟨by rw [if_neg (show ¬ (0 ≤ t ∧ t < tn ∧ cl = 1 ∧ 0 ≤ p ∧ 0 ≤ k ∧ k ≤ 12 ∧ gn + 1 + k ≤ 100 ∧ F 0 (unR F (b : Nat) n).toNat = 2 ∧ p ≤ (n : Nat)) by omega)], Or.inl ⟨by omega, F 4, by rw [bx_self]; exact hC⟩⟩ (by omega) (by omega) d_Mod_family_49
  · have htt : 0 ≤ t ∧ t < tn := by
      apply Classical.byContradiction
      intro q
      rw [if_neg q] at c2
      omega
    obtain ⟨p1, p2, p3, p4, p5, p6, p7, p8, p9⟩ := hp0 htt
    have hRc : cl = 0 ∨ cl = 1 := by rw [← p5]; split <;> simp
    refine mv_aloadR_n B d_Mod_family_8 rfl 0 rfl ?_
    refine mv_aloadR_n B d_Mod_family_9 rfl 0 rfl ?_
    refine gf_Mod_25 B hC.1 rfl d_Mod_family_10 ?_
    refine mv_iload_n B d_Mod_family_13 rfl 1 rfl ?_
    refine ia_ld B k1_5 (by first | omega | (split <;> omega)) (by omega) (by omega) d_Mod_family_14 ?_
    have rr3 : R32 (F 5 (Int.toNat (t))) := (hC.R 5) _
    rw [p1]
    refine ca_Mod_101 (mc := 0) (ms := 0) (rm' := rM 2 0 0 50) (As := [.int (iI ((b : Nat)))]) (rest := []) B (m_Mod_isClosed hC hcap (b := b) p2 p3 p4) rfl rfl ⟨Nat.le_of_ble_eq_true rfl, Nat.le_of_ble_eq_true rfl⟩ hC.1 rfl rfl (Nat.le_of_ble_eq_true rfl) d_Mod_family_15 ⟨by omega, by omega⟩ (fun v1 M9 ep => ?_)
    obtain ⟨e1, hC9⟩ := ep
    subst e1
    rw [p5]
    obtain ⟨DD, hDD⟩ : ∃ D : Nat → Int, D = (wkR F b (F 4) (Int.toNat (F 3 b))) := ⟨_, rfl⟩
    rw [← hDD] at hC9
    obtain ⟨G, hG⟩ : ∃ G : Nat → Nat → Int, G = va_up F 4 DD := ⟨_, rfl⟩
    rw [← hG] at hC9
    have hG0 : G 0 = F 0 := by rw [hG]; rfl
    have hG1 : G 1 = F 1 := by rw [hG]; rfl
    have hG2 : G 2 = F 2 := by rw [hG]; rfl
    have hG3 : G 3 = F 3 := by rw [hG]; rfl
    have hG5 : G 5 = F 5 := by rw [hG]; rfl
    have hG6 : G 6 = F 6 := by rw [hG]; rfl
    have hG7 : G 7 = F 7 := by rw [hG]; rfl
    have hG8 : G 8 = F 8 := by rw [hG]; rfl
    have hG9 : G 9 = F 9 := by rw [hG]; rfl
    have hG10 : G 10 = F 10 := by rw [hG]; rfl
    have hG11 : G 11 = F 11 := by rw [hG]; rfl
    have hG12 : G 12 = F 12 := by rw [hG]; rfl
    have hGu : unR G (b : Nat) = unR F (b : Nat) := funext (unR_cg hG3)
    show mv_G X Q (kk V) 7 18 [(0, .ref r), (1, .int (iI (t))), (2, .int (iI (p))), (3, .int (iI (k)))] [.int (iI (cl))] M9 0 0
    have k4_0 : M9 (A 0) = some (iA V (cap) (G 0)) := hC9.2.1 0 (by decide)
    have k4_5 : M9 (A 5) = some (iA V (1500) (G 5)) := hC9.2.1 5 (by decide)
    have k4_9 : M9 (A 9) = some (iA V (100) (G 9)) := hC9.2.1 9 (by decide)
    have k4_10 : M9 (A 10) = some (iA V (100) (G 10)) := hC9.2.1 10 (by decide)
    have k4_11 : M9 (A 11) = some (iA V (100) (G 11)) := hC9.2.1 11 (by decide)
    refine mv_if_eq (tgt := 48) B d_Mod_family_18 (by decide) (by first | omega | (split <;> omega)) (fun c5 => ?_) (fun c5 => ?_)
    · refine mv_iconst (z := -1) B d_Mod_family_48 rfl ?_
      rw [hQ]
      exact mv_iret B ⟨by rw [if_neg (show ¬ (0 ≤ t ∧ t < tn ∧ cl = 1 ∧ 0 ≤ p ∧ 0 ≤ k ∧ k ≤ 12 ∧ gn + 1 + k ≤ 100 ∧ F 0 (unR F (b : Nat) n).toNat = 2 ∧ p ≤ (n : Nat)) by omega)], Or.inl ⟨by omega, DD, by rw [← hG]; exact hC9⟩⟩ (by omega) (by omega) d_Mod_family_49
    · refine mv_iload_n B d_Mod_family_21 rfl 2 rfl ?_
      refine mv_if_lt (tgt := 48) B d_Mod_family_22 (by decide) (by first | omega | (split <;> omega)) (fun c6 => ?_) (fun c6 => ?_)
      · refine mv_iconst (z := -1) B d_Mod_family_48 rfl ?_
        rw [hQ]
        exact mv_iret B ⟨by rw [if_neg (show ¬ (0 ≤ t ∧ t < tn ∧ cl = 1 ∧ 0 ≤ p ∧ 0 ≤ k ∧ k ≤ 12 ∧ gn + 1 + k ≤ 100 ∧ F 0 (unR F (b : Nat) n).toNat = 2 ∧ p ≤ (n : Nat)) by omega)], Or.inl ⟨by omega, DD, by rw [← hG]; exact hC9⟩⟩ (by omega) (by omega) d_Mod_family_49
      · refine mv_iload_n B d_Mod_family_25 rfl 3 rfl ?_
        refine mv_if_lt (tgt := 48) B d_Mod_family_26 (by decide) (by first | omega | (split <;> omega)) (fun c7 => ?_) (fun c7 => ?_)
        · refine mv_iconst (z := -1) B d_Mod_family_48 rfl ?_
          rw [hQ]
          exact mv_iret B ⟨by rw [if_neg (show ¬ (0 ≤ t ∧ t < tn ∧ cl = 1 ∧ 0 ≤ p ∧ 0 ≤ k ∧ k ≤ 12 ∧ gn + 1 + k ≤ 100 ∧ F 0 (unR F (b : Nat) n).toNat = 2 ∧ p ≤ (n : Nat)) by omega)], Or.inl ⟨by omega, DD, by rw [← hG]; exact hC9⟩⟩ (by omega) (by omega) d_Mod_family_49
        · refine mv_iload_n B d_Mod_family_29 rfl 3 rfl ?_
          refine mv_bipush (z := 12) B d_Mod_family_30 (by decide) ?_
          refine mv_icmp_gt (tgt := 48) B d_Mod_family_32 (by decide) (by first | omega | (split <;> omega)) (by first | omega | (split <;> omega)) (fun c8 => ?_) (fun c8 => ?_)
          · refine mv_iconst (z := -1) B d_Mod_family_48 rfl ?_
            rw [hQ]
            exact mv_iret B ⟨by rw [if_neg (show ¬ (0 ≤ t ∧ t < tn ∧ cl = 1 ∧ 0 ≤ p ∧ 0 ≤ k ∧ k ≤ 12 ∧ gn + 1 + k ≤ 100 ∧ F 0 (unR F (b : Nat) n).toNat = 2 ∧ p ≤ (n : Nat)) by omega)], Or.inl ⟨by omega, DD, by rw [← hG]; exact hC9⟩⟩ (by omega) (by omega) d_Mod_family_49
          · refine mv_aloadR_n B d_Mod_family_35 rfl 0 rfl ?_
            refine gf_Mod_81 B hC9.1 rfl d_Mod_family_36 ?_
            refine mv_iconst (z := 1) B d_Mod_family_39 rfl ?_
            refine mv_iadd B d_Mod_family_40 ?_
            refine mv_iload_n B d_Mod_family_41 rfl 3 rfl ?_
            refine mv_iadd B d_Mod_family_42 ?_
            refine mv_bipush (z := 100) B d_Mod_family_43 (by decide) ?_
            refine mv_icmp_le (tgt := 50) B d_Mod_family_45 (by decide) (by first | omega | (split <;> omega)) (by first | omega | (split <;> omega)) (fun c9 => ?_) (fun c9 => ?_)
            · refine mv_aloadR_n B d_Mod_family_50 rfl 0 rfl ?_
              refine mv_aloadR_n B d_Mod_family_51 rfl 0 rfl ?_
              refine gf_Mod_25 B hC9.1 rfl d_Mod_family_52 ?_
              refine mv_iload_n B d_Mod_family_55 rfl 1 rfl ?_
              refine ia_ld B k4_5 (by first | omega | (split <;> omega)) (by omega) (by omega) d_Mod_family_56 ?_
              have rr10 : R32 ((G 5) (Int.toNat (t))) := (hC9.R 5) _
              rw [hG5, p1]
              refine ca_Mod_104 (mc := 0) (ms := 0) (As := [.int (iI ((b : Nat)))]) (rest := []) B (m_Mod_alls hC9 hcap (b := (b : Nat)) (n := n) (by omega) (by rw [hGu, hG0]; exact p7) (by rw [hGu, hG0]; exact p8) (by rw [hGu]; exact p9)) rfl rfl ⟨Nat.le_of_ble_eq_true rfl, Nat.le_of_ble_eq_true rfl⟩ hC9.1 rfl rfl (Nat.le_of_ble_eq_true rfl) d_Mod_family_57 ⟨by omega, by omega⟩ (mv_x ?_)
              show mv_G X Q (kk V) 7 60 [(0, .ref r), (1, .int (iI (t))), (2, .int (iI (p))), (3, .int (iI (k)))] [.int (iI ((n : Nat)))] M9 0 0
              refine mv_istore (lv' := [(4, .int (iI ((n : Nat)))), (0, .ref r), (1, .int (iI (t))), (2, .int (iI (p))), (3, .int (iI (k)))]) B d_Mod_family_60 (by decide) rfl ?_
              refine mv_aloadR_n B d_Mod_family_62 rfl 1 rfl ?_
              refine gf_Mod_7 B hC9.1 rfl d_Mod_family_63 ?_
              refine mv_aloadR_n B d_Mod_family_66 rfl 1 rfl ?_
              refine mv_aloadR_n B d_Mod_family_67 rfl 1 rfl ?_
              refine gf_Mod_25 B hC9.1 rfl d_Mod_family_68 ?_
              refine mv_iload_n B d_Mod_family_71 rfl 2 rfl ?_
              refine ia_ld B k4_5 (by first | omega | (split <;> omega)) (by omega) (by omega) d_Mod_family_72 ?_
              have rr11 : R32 ((G 5) (Int.toNat (t))) := (hC9.R 5) _
              rw [hG5, p1]
              refine mv_iload B d_Mod_family_73 0 rfl ?_
              refine ca_Mod_107 (mc := 0) (ms := 0) (As := [.int (iI ((b : Nat))), .int (iI ((n : Nat)))]) (rest := [.ref ((A 0))]) B (m_Mod_under hC9 hcap (b := (b : Nat)) (n := (n : Nat)) (by omega) (fun j hj => by rw [hGu]; have := p9 j (by omega); omega)) rfl rfl ⟨Nat.le_of_ble_eq_true rfl, Nat.le_of_ble_eq_true rfl⟩ hC9.1 rfl rfl (Nat.le_of_ble_eq_true rfl) d_Mod_family_75 ⟨by omega, by omega⟩ (mv_x ?_)
              show mv_G X Q (kk V) 7 78 [(4, .int (iI ((n : Nat)))), (0, .ref r), (1, .int (iI (t))), (2, .int (iI (p))), (3, .int (iI (k)))] [.int (iI (unR G (b : Nat) (Int.toNat (n : Nat)))), .ref ((A 0))] M9 0 0
              have hu0 := p9 n (Nat.le_refl n)
              rw [← hGu] at hu0
              have hun : Int.toNat ((n : Nat) : Int) = n := by omega
              rw [← hun] at hu0
              refine ia_ld B k4_0 (by first | omega | (split <;> omega)) (by omega) (by omega) d_Mod_family_78 ?_
              have rr12 : R32 ((G 0) (Int.toNat (unR G (b : Nat) (Int.toNat (n : Nat))))) := (hC9.R 0) _
              rw [hG0, hGu, show Int.toNat ((n : Nat) : Int) = n by omega]
              have hR0 := hC.R 0 (unR F (b : Nat) n).toNat
              refine mv_iconst (z := 2) B d_Mod_family_79 rfl ?_
              refine mv_icmp_ne (tgt := 89) B d_Mod_family_80 (by decide) (by first | omega | (split <;> omega)) (by first | omega | (split <;> omega)) (fun c13 => ?_) (fun c13 => ?_)
              · refine mv_iconst (z := -1) B d_Mod_family_89 rfl ?_
                rw [hQ]
                exact mv_iret B ⟨by rw [if_neg (show ¬ (0 ≤ t ∧ t < tn ∧ cl = 1 ∧ 0 ≤ p ∧ 0 ≤ k ∧ k ≤ 12 ∧ gn + 1 + k ≤ 100 ∧ F 0 (unR F (b : Nat) n).toNat = 2 ∧ p ≤ (n : Nat)) by omega)], Or.inl ⟨by omega, DD, by rw [← hG]; exact hC9⟩⟩ (by omega) (by omega) d_Mod_family_90
              · refine mv_iload B d_Mod_family_83 0 rfl ?_
                refine mv_iload_n B d_Mod_family_85 rfl 3 rfl ?_
                refine mv_icmp_ge (tgt := 91) B d_Mod_family_86 (by decide) (by first | omega | (split <;> omega)) (by first | omega | (split <;> omega)) (fun c14 => ?_) (fun c14 => ?_)
                · refine mv_aloadR_n B d_Mod_family_91 rfl 1 rfl ?_
                  refine mv_iconst (z := 3) B d_Mod_family_92 rfl ?_
                  refine mv_aloadR_n B d_Mod_family_93 rfl 1 rfl ?_
                  refine gf_Mod_25 B hC9.1 rfl d_Mod_family_94 ?_
                  refine mv_iload_n B d_Mod_family_97 rfl 2 rfl ?_
                  refine ia_ld B k4_5 (by first | omega | (split <;> omega)) (by omega) (by omega) d_Mod_family_98 ?_
                  have rr15 : R32 ((G 5) (Int.toNat (t))) := (hC9.R 5) _
                  rw [hG5, p1]
                  refine mv_aloadR_n B d_Mod_family_99 rfl 1 rfl ?_
                  refine gf_Mod_81 B hC9.1 rfl d_Mod_family_100 ?_
                  refine ca_Mod_98 (mc := 0) (ms := 0) (rm' := rM 0 0 0 0) (As := [.int (iI (3)), .int (iI ((b : Nat))), .int (iI (gn))]) (rest := []) B (m_Mod_global hC9 hcap (s := 3) (t := (b : Nat)) (d := gn) (by omega) (by omega) (by omega) (by omega) (hC9.2.2.2.2.1 9 _)) rfl rfl ⟨Nat.le_of_ble_eq_true rfl, Nat.le_of_ble_eq_true rfl⟩ hC9.1 rfl rfl (Nat.le_of_ble_eq_true rfl) d_Mod_family_103 ⟨by omega, by omega⟩ (fun v1 g16M ep => ?_)
                  obtain ⟨e1, g16C⟩ := ep
                  subst e1
                  obtain ⟨H, hH⟩ : ∃ H : Nat → Nat → Int, H = glF G gn.toNat 3 (b : Nat) gn := ⟨_, rfl⟩
                  rw [← hH] at g16C
                  show mv_G X Q (kk V) 7 106 [(4, .int (iI ((n : Nat)))), (0, .ref r), (1, .int (iI (t))), (2, .int (iI (p))), (3, .int (iI (k)))] [.int (iI (gn))] g16M 0 0
                  have k17_0 : g16M (A 0) = some (iA V (cap) (H 0)) := g16C.2.1 0 (by decide)
                  have k17_5 : g16M (A 5) = some (iA V (1500) (H 5)) := g16C.2.1 5 (by decide)
                  have k17_9 : g16M (A 9) = some (iA V (100) (H 9)) := g16C.2.1 9 (by decide)
                  have k17_10 : g16M (A 10) = some (iA V (100) (H 10)) := g16C.2.1 10 (by decide)
                  have k17_11 : g16M (A 11) = some (iA V (100) (H 11)) := g16C.2.1 11 (by decide)
                  refine mv_istore (lv' := [(5, .int (iI (gn))), (4, .int (iI ((n : Nat)))), (0, .ref r), (1, .int (iI (t))), (2, .int (iI (p))), (3, .int (iI (k)))]) B d_Mod_family_106 (by decide) rfl ?_
                  refine mv_aloadR_n B d_Mod_family_108 rfl 2 rfl ?_
                  refine gf_Mod_37 B g16C.1 rfl d_Mod_family_109 ?_
                  refine mv_iload B d_Mod_family_112 0 rfl ?_
                  refine mv_iload_n B d_Mod_family_114 rfl 4 rfl ?_
                  refine ia_st B k17_9 (by first | omega | (split <;> omega)) (by omega) (by omega) d_Mod_family_115 ?_
                  obtain ⟨M18, hM19⟩ : ∃ My : mv_M, My = mv_up g16M (A 9) (iA V (100) (va_up (H 9) (Int.toNat (gn)) (p))) := ⟨_, rfl⟩
                  rw [← hM19]
                  have hC20 : RefC V M18 r A (rN cap lq) (va_up H 9 (va_up (H 9) (Int.toNat (gn)) (p))) (c) (tn) (gn + 1) := by rw [hM19]; exact RefC_w (i := 9) (k := (Int.toNat (gn))) (x := p) g16C (by decide) (by show (Int.toNat (gn)) < 100; omega) (by omega)
                  have k21_0 : M18 (A 0) = some (iA V (cap) (H 0)) := hC20.2.1 0 (by decide)
                  have k21_5 : M18 (A 5) = some (iA V (1500) (H 5)) := hC20.2.1 5 (by decide)
                  have k21_9 : M18 (A 9) = some (iA V (100) (va_up (H 9) (Int.toNat (gn)) (p))) := hC20.2.1 9 (by decide)
                  have k21_10 : M18 (A 10) = some (iA V (100) (H 10)) := hC20.2.1 10 (by decide)
                  have k21_11 : M18 (A 11) = some (iA V (100) (H 11)) := hC20.2.1 11 (by decide)
                  refine mv_aloadR_n B d_Mod_family_116 rfl 2 rfl ?_
                  refine gf_Mod_40 B hC20.1 rfl d_Mod_family_117 ?_
                  refine mv_iload B d_Mod_family_120 0 rfl ?_
                  refine mv_iload B d_Mod_family_122 1 rfl ?_
                  refine mv_iload_n B d_Mod_family_124 rfl 4 rfl ?_
                  refine mv_isub B d_Mod_family_125 ?_
                  refine ia_st B k21_10 (by first | omega | (split <;> omega)) (by omega) (by omega) d_Mod_family_126 ?_
                  obtain ⟨M22, hM23⟩ : ∃ My : mv_M, My = mv_up M18 (A 10) (iA V (100) (va_up (H 10) (Int.toNat (gn)) ((n : Nat) - p))) := ⟨_, rfl⟩
                  rw [← hM23]
                  have hC24 : RefC V M22 r A (rN cap lq) (va_up (va_up H 9 (va_up (H 9) (Int.toNat (gn)) (p))) 10 (va_up (H 10) (Int.toNat (gn)) ((n : Nat) - p))) (c) (tn) (gn + 1) := by rw [hM23]; exact RefC_w (i := 10) (k := (Int.toNat (gn))) (x := (n : Nat) - p) hC20 (by decide) (by show (Int.toNat (gn)) < 100; omega) (by omega)
                  have k25_0 : M22 (A 0) = some (iA V (cap) (H 0)) := hC24.2.1 0 (by decide)
                  have k25_5 : M22 (A 5) = some (iA V (1500) (H 5)) := hC24.2.1 5 (by decide)
                  have k25_9 : M22 (A 9) = some (iA V (100) (va_up (H 9) (Int.toNat (gn)) (p))) := hC24.2.1 9 (by decide)
                  have k25_10 : M22 (A 10) = some (iA V (100) (va_up (H 10) (Int.toNat (gn)) ((n : Nat) - p))) := hC24.2.1 10 (by decide)
                  have k25_11 : M22 (A 11) = some (iA V (100) (H 11)) := hC24.2.1 11 (by decide)
                  refine mv_aloadR_n B d_Mod_family_127 rfl 2 rfl ?_
                  refine gf_Mod_43 B hC24.1 rfl d_Mod_family_128 ?_
                  refine mv_iload B d_Mod_family_131 0 rfl ?_
                  refine mv_iload_n B d_Mod_family_133 rfl 5 rfl ?_
                  refine ia_st B k25_11 (by first | omega | (split <;> omega)) (by omega) (by omega) d_Mod_family_134 ?_
                  obtain ⟨M26, hM27⟩ : ∃ My : mv_M, My = mv_up M22 (A 11) (iA V (100) (va_up (H 11) (Int.toNat (gn)) (k))) := ⟨_, rfl⟩
                  rw [← hM27]
                  have hC28 : RefC V M26 r A (rN cap lq) (va_up (va_up (va_up H 9 (va_up (H 9) (Int.toNat (gn)) (p))) 10 (va_up (H 10) (Int.toNat (gn)) ((n : Nat) - p))) 11 (va_up (H 11) (Int.toNat (gn)) (k))) (c) (tn) (gn + 1) := by rw [hM27]; exact RefC_w (i := 11) (k := (Int.toNat (gn))) (x := k) hC24 (by decide) (by show (Int.toNat (gn)) < 100; omega) (by omega)
                  have k29_0 : M26 (A 0) = some (iA V (cap) (H 0)) := hC28.2.1 0 (by decide)
                  have k29_5 : M26 (A 5) = some (iA V (1500) (H 5)) := hC28.2.1 5 (by decide)
                  have k29_9 : M26 (A 9) = some (iA V (100) (va_up (H 9) (Int.toNat (gn)) (p))) := hC28.2.1 9 (by decide)
                  have k29_10 : M26 (A 10) = some (iA V (100) (va_up (H 10) (Int.toNat (gn)) ((n : Nat) - p))) := hC28.2.1 10 (by decide)
                  have k29_11 : M26 (A 11) = some (iA V (100) (va_up (H 11) (Int.toNat (gn)) (k))) := hC28.2.1 11 (by decide)
                  refine mv_iconst (z := 0) B d_Mod_family_135 rfl ?_
                  refine mv_istore (lv' := [(6, .int (iI (0))), (5, .int (iI (gn))), (4, .int (iI ((n : Nat)))), (0, .ref r), (1, .int (iI (t))), (2, .int (iI (p))), (3, .int (iI (k)))]) B d_Mod_family_136 (by decide) rfl ?_
                  have L138 : ∀ (fu : Nat) (i : Nat) (My1 : mv_M), ((i : Int) ≤ k) → (RefC V My1 r A (rN cap lq) (fmL G gn.toNat p ((n : Nat) - p) k (b : Nat) i) (c) (tn) (gn + 1 + (i : Nat))) → (k.toNat - i) < fu → mv_G X Q (kk V) 7 138 [(6, .int (iI ((i : Nat)))), (5, .int (iI (gn))), (4, .int (iI ((n : Nat)))), (0, .ref r), (1, .int (iI (t))), (2, .int (iI (p))), (3, .int (iI (k)))] [] My1 0 0 := by
                    intro fu
                    induction fu with
                    | zero => intro i My1 hi hCl hm; exact absurd hm (Nat.not_lt_zero _)
                    | succ fu ih138 =>
                      intro i My1 hi hCl hm
                      have k30_0 : My1 (A 0) = some (iA V (cap) (fmL G gn.toNat p ((n : Nat) - p) k (b : Nat) i 0)) := hCl.2.1 0 (by decide)
                      have k30_5 : My1 (A 5) = some (iA V (1500) (fmL G gn.toNat p ((n : Nat) - p) k (b : Nat) i 5)) := hCl.2.1 5 (by decide)
                      have k30_9 : My1 (A 9) = some (iA V (100) (fmL G gn.toNat p ((n : Nat) - p) k (b : Nat) i 9)) := hCl.2.1 9 (by decide)
                      have k30_10 : My1 (A 10) = some (iA V (100) (fmL G gn.toNat p ((n : Nat) - p) k (b : Nat) i 10)) := hCl.2.1 10 (by decide)
                      have k30_11 : My1 (A 11) = some (iA V (100) (fmL G gn.toNat p ((n : Nat) - p) k (b : Nat) i 11)) := hCl.2.1 11 (by decide)
                      refine mv_iload B d_Mod_family_138 0 rfl ?_
                      refine mv_iload_n B d_Mod_family_140 rfl 6 rfl ?_
                      refine mv_icmp_ge (tgt := 159) B d_Mod_family_141 (by decide) (by first | omega | (split <;> omega)) (by first | omega | (split <;> omega)) (fun c31 => ?_) (fun c31 => ?_)
                      · refine mv_iload B d_Mod_family_159 1 rfl ?_
                        rw [hQ]
                        have ei : i = k.toNat := by omega
                        subst ei
                        exact mv_iret B ⟨by rw [if_pos (show 0 ≤ t ∧ t < tn ∧ cl = 1 ∧ 0 ≤ p ∧ 0 ≤ k ∧ k ≤ 12 ∧ gn + 1 + k ≤ 100 ∧ F 0 (unR F (b : Nat) n).toNat = 2 ∧ p ≤ (n : Nat) by omega)], Or.inr ⟨by omega, DD, by rw [← hG, show gn + 1 + k = gn + 1 + ((k.toNat : Nat) : Int) by omega]; exact hCl⟩⟩ (by omega) (by omega) d_Mod_family_161
                      · refine mv_aloadR_n B d_Mod_family_144 rfl 3 rfl ?_
                        refine mv_iconst (z := 4) B d_Mod_family_145 rfl ?_
                        refine mv_iconst (z := -1) B d_Mod_family_146 rfl ?_
                        refine mv_iload B d_Mod_family_147 1 rfl ?_
                        refine ca_Mod_98 (mc := 0) (ms := 0) (rm' := rM 0 0 0 0) (As := [.int (iI (4)), .int (iI (-1)), .int (iI (gn))]) (rest := []) B (m_Mod_global hCl hcap (s := 4) (t := -1) (d := gn) (by omega) (by omega) (by omega) (by omega) (hCl.2.2.2.2.1 9 _)) rfl rfl ⟨Nat.le_of_ble_eq_true rfl, Nat.le_of_ble_eq_true rfl⟩ hCl.1 rfl rfl (Nat.le_of_ble_eq_true rfl) d_Mod_family_149 ⟨by omega, by omega⟩ (fun v1 g32M ep => ?_)
                        obtain ⟨e1, g32C⟩ := ep
                        subst e1
                        show mv_G X Q (kk V) 7 152 [(6, .int (iI ((i : Nat)))), (5, .int (iI (gn))), (4, .int (iI ((n : Nat)))), (0, .ref r), (1, .int (iI (t))), (2, .int (iI (p))), (3, .int (iI (k)))] [.int (iI (gn + 1 + (i : Nat)))] g32M 0 0
                        have k33_0 : g32M (A 0) = some (iA V (cap) ((glF (fmL G gn.toNat p ((n : Nat) - p) k (b : Nat) i) (gn + 1 + (i : Nat)).toNat 4 (-1) gn) 0)) := g32C.2.1 0 (by decide)
                        have k33_5 : g32M (A 5) = some (iA V (1500) ((glF (fmL G gn.toNat p ((n : Nat) - p) k (b : Nat) i) (gn + 1 + (i : Nat)).toNat 4 (-1) gn) 5)) := g32C.2.1 5 (by decide)
                        have k33_9 : g32M (A 9) = some (iA V (100) ((glF (fmL G gn.toNat p ((n : Nat) - p) k (b : Nat) i) (gn + 1 + (i : Nat)).toNat 4 (-1) gn) 9)) := g32C.2.1 9 (by decide)
                        have k33_10 : g32M (A 10) = some (iA V (100) ((glF (fmL G gn.toNat p ((n : Nat) - p) k (b : Nat) i) (gn + 1 + (i : Nat)).toNat 4 (-1) gn) 10)) := g32C.2.1 10 (by decide)
                        have k33_11 : g32M (A 11) = some (iA V (100) ((glF (fmL G gn.toNat p ((n : Nat) - p) k (b : Nat) i) (gn + 1 + (i : Nat)).toNat 4 (-1) gn) 11)) := g32C.2.1 11 (by decide)
                        refine mv_pop B d_Mod_family_152 rfl ?_
                        refine mv_iinc (lv' := [(6, .int (iI ((i : Nat) + 1))), (5, .int (iI (gn))), (4, .int (iI ((n : Nat)))), (0, .ref r), (1, .int (iI (t))), (2, .int (iI (p))), (3, .int (iI (k)))]) B d_Mod_family_153 0 rfl (by decide) rfl ?_
                        refine mv_goto (tgt := 138) B d_Mod_family_156 (by decide) ?_
                        refine mv_lv (lv' := [(6, .int (iI (((i + 1) : Nat)))), (5, .int (iI (gn))), (4, .int (iI ((n : Nat)))), (0, .ref r), (1, .int (iI (t))), (2, .int (iI (p))), (3, .int (iI (k)))]) [0, 1, 2, 3, 4, 5, 6] (lc (lI (by first | rfl | omega)) (lc rfl (lc rfl (lc rfl (lc rfl (lc rfl (lc rfl rfl))))))) ?_
                        exact ih138 (i + 1) g32M (by omega) (by rw [show gn + 1 + ((i + 1) : Nat) = gn + 1 + (i : Nat) + 1 by omega, show (fmL G gn.toNat p ((n : Nat) - p) k (b : Nat) (i + 1)) = (glF (fmL G gn.toNat p ((n : Nat) - p) k (b : Nat) i) (gn + 1 + (i : Nat)).toNat 4 (-1) gn) from (by simp only [fmL]; rw [show (gn + 1 + (i : Nat)).toNat = gn.toNat + 1 + i by omega, show ((gn.toNat : Nat) : Int) = gn by omega])]; exact g32C) (by omega)
                  refine mv_lv (lv' := [(6, .int (iI ((0 : Nat)))), (5, .int (iI (gn))), (4, .int (iI ((n : Nat)))), (0, .ref r), (1, .int (iI (t))), (2, .int (iI (p))), (3, .int (iI (k)))]) [0, 1, 2, 3, 4, 5, 6] (lc (lI (by first | rfl | omega)) (lc rfl (lc rfl (lc rfl (lc rfl (lc rfl (lc rfl rfl))))))) ?_
                  exact L138 _ 0 M26 (by omega) (by rw [show gn + 1 + (0 : Nat) = gn + 1 by omega, show (fmL G gn.toNat p ((n : Nat) - p) k (b : Nat) 0) = (va_up (va_up (va_up H 9 (va_up (H 9) (Int.toNat (gn)) (p))) 10 (va_up (H 10) (Int.toNat (gn)) ((n : Nat) - p))) 11 (va_up (H 11) (Int.toNat (gn)) (k))) from (by simp only [fmL]; rw [show ((gn.toNat : Nat) : Int) = gn by omega, ← hH]; try rfl)]; exact hC28) (Nat.lt_succ_self _)
                · refine mv_iconst (z := -1) B d_Mod_family_89 rfl ?_
                  rw [hQ]
                  exact mv_iret B ⟨by rw [if_neg (show ¬ (0 ≤ t ∧ t < tn ∧ cl = 1 ∧ 0 ≤ p ∧ 0 ≤ k ∧ k ≤ 12 ∧ gn + 1 + k ≤ 100 ∧ F 0 (unR F (b : Nat) n).toNat = 2 ∧ p ≤ (n : Nat)) by omega)], Or.inl ⟨by omega, DD, by rw [← hG]; exact hC9⟩⟩ (by omega) (by omega) d_Mod_family_90
            · refine mv_iconst (z := -1) B d_Mod_family_48 rfl ?_
              rw [hQ]
              exact mv_iret B ⟨by rw [if_neg (show ¬ (0 ≤ t ∧ t < tn ∧ cl = 1 ∧ 0 ≤ p ∧ 0 ≤ k ∧ k ≤ 12 ∧ gn + 1 + k ≤ 100 ∧ F 0 (unR F (b : Nat) n).toNat = 2 ∧ p ≤ (n : Nat)) by omega)], Or.inl ⟨by omega, DD, by rw [← hG]; exact hC9⟩⟩ (by omega) (by omega) d_Mod_family_49
