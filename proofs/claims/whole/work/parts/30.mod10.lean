/-! the reference: pieces -/
theorem appF_lt {F : Nat → Nat → Int} {c x : Nat} (j : Nat) : ∀ (ys : List Nd), x < c → appF F c ys j x = F j x := by
  intro ys
  induction ys generalizing F c with
  | nil => intro _; rfl
  | cons y ys ih =>
    intro h
    simp only [appF]
    rw [ih (by omega)]
    unfold addF va_up
    by_cases h3 : j = 3
    · subst h3; simp; omega
    · by_cases h2 : j = 2
      · subst h2; simp; omega
      · by_cases h1 : j = 1
        · subst h1; simp; omega
        · by_cases h0 : j = 0
          · subst h0; simp; omega
          · simp [h0, h1, h2, h3]
theorem appF_ge {F : Nat → Nat → Int} {c j : Nat} (hj : 4 ≤ j) : ∀ (ys : List Nd), appF F c ys j = F j := by
  intro ys
  induction ys generalizing F c with
  | nil => rfl
  | cons y ys ih =>
    simp only [appF]
    rw [ih]
    unfold addF
    rw [va_un (by omega), va_un (by omega), va_un (by omega), va_un (by omega)]
/-- the node that a piece's place x gives, D the depths, around the binders around it -/
def pcN (F : Nat → Nat → Int) (D : Nat → Int) (ar : Int) (x : Nat) : Nd := if F 0 x = 0 ∧ 0 ≤ F 1 x - D x then (0, 1000000 + F 12 (ar - 1 - (F 1 x - D x)).toNat, 0) else (F 0 x, F 1 x, F 2 x)
def pcL (F : Nat → Nat → Int) (D : Nat → Int) (ar : Int) (b : Nat) : Nat → List Nd
  | 0 => []
  | i + 1 => pcL F D ar b i ++ [pcN F D ar (b + i)]
theorem pcL_len (F : Nat → Nat → Int) (D : Nat → Int) (ar : Int) (b : Nat) : ∀ n, (pcL F D ar b n).length = n
  | 0 => rfl
  | n + 1 => by simp [pcL, pcL_len]
set_option maxRecDepth 100000 in
set_option maxHeartbeats 4000000 in
theorem m_Mod_piece {l : Launch} {V : mv_V} {M : mv_M} {r cap lq c : Nat} {A : Nat → Nat} {F : Nat → Nat → Int} {tn gn : Int} (hC : RefC V M r A (rN cap lq) F (c : Nat) tn gn) (hcc : c ≤ cap) (hcap0 : 1 ≤ cap) (hcap : cap ≤ 1000000) {b : Nat} {ar : Int} (hb : 0 ≤ F 3 b ∧ (b : Int) + F 3 b ≤ cap ∧ b < cap) (hin : ∀ i : Nat, (i : Int) < F 3 b → 4 ≤ F 0 (b + i) → (b : Int) + i + 1 < cap ∧ 0 ≤ scR F (b + i) ∧ scR F (b + i) < cap) (hsm : ∀ i : Nat, (i : Int) < F 3 b → Sm (wkR F b (F 4) i (b + i) + 1)) (hbc : (b : Int) + F 3 b ≤ c) (rar : 0 ≤ ar ∧ ar ≤ 1000000) (hcb : ∀ j : Nat, (j : Int) ≤ F 3 b → capL cap c j ≤ 1000000) (hlv : ∀ j : Nat, (j : Int) < ar → -1000000 ≤ F 12 j ∧ F 12 j ≤ 1000000) (hloose : ∀ i : Nat, (i : Int) < F 3 b → F 0 (b + i) = 0 → 0 ≤ F 1 (b + i) - (wkR F b (F 4) (Int.toNat (F 3 b))) (b + i) → 0 ≤ ar - 1 - (F 1 (b + i) - (wkR F b (F 4) (Int.toNat (F 3 b))) (b + i)) ∧ ar - 1 - (F 1 (b + i) - (wkR F b (F 4) (Int.toNat (F 3 b))) (b + i)) < lq) : Met l y_Mod_piece ws_Mod_piece (rM 4 (pC (capL cap c ((F 3 b).toNat)) lq - pC cap lq) (pS (capL cap c ((F 3 b).toNat)) lq - pS cap lq) 130) (mv_Pre (kk V) [.ref r, .int (iI ((b : Nat))), .int (iI (ar))] M) (mv_Q (kk V) (fun z0 M' => z0 = none ∧ RefAt V M' r (capL cap c ((F 3 b).toNat)) lq (appF (va_up F 4 (wkR F b (F 4) (Int.toNat (F 3 b)))) c (pcL F (wkR F b (F 4) (Int.toNat (F 3 b))) ar b (F 3 b).toNat)) ((c + ((F 3 b).toNat) : Nat) : Int) tn gn)) (pC (capL cap c ((F 3 b).toNat)) lq - pC cap lq) (pS (capL cap c ((F 3 b).toNat)) lq - pS cap lq) V.2.2.2.2 := by
  refine mv_Met (by decide) rfl (Nat.le_of_ble_eq_true rfl) (fun X hX B => ?_)
  subst hX
  replace B : mv_B X (kk V) c_Mod_piece ws_Mod_piece "FamilyRulesModel" 6 (Option.none : Option Jvm.ClassFile.FieldType) (rM 4 (pC (capL cap c ((F 3 b).toNat)) lq - pC cap lq) (pS (capL cap c ((F 3 b).toNat)) lq - pS cap lq) 130) "piece" := B
  obtain ⟨Q, hQ⟩ : ∃ Q, Q = mv_E X (kk V) (fun z0 M' => z0 = none ∧ RefAt V M' r (capL cap c ((F 3 b).toNat)) lq (appF (va_up F 4 (wkR F b (F 4) (Int.toNat (F 3 b)))) c (pcL F (wkR F b (F 4) (Int.toNat (F 3 b))) ar b (F 3 b).toNat)) ((c + ((F 3 b).toNat) : Nat) : Int) tn gn) (pC (capL cap c ((F 3 b).toNat)) lq - pC cap lq) (pS (capL cap c ((F 3 b).toNat)) lq - pS cap lq) := ⟨_, rfl⟩
  rw [← hQ]
  show mv_G X Q (kk V) 6 0 [(0, .ref r), (1, .int (iI ((b : Nat)))), (2, .int (iI (ar)))] [] M 0 0
  have hrc : (rM 4 (pC (capL cap c ((F 3 b).toNat)) lq - pC cap lq) (pS (capL cap c ((F 3 b).toNat)) lq - pS cap lq) 130).cells = pC (capL cap c ((F 3 b).toNat)) lq - pC cap lq := rfl
  have hrs : (rM 4 (pC (capL cap c ((F 3 b).toNat)) lq - pC cap lq) (pS (capL cap c ((F 3 b).toNat)) lq - pS cap lq) 130).slots = pS (capL cap c ((F 3 b).toNat)) lq - pS cap lq := rfl
  have k1_0 : M (A 0) = some (iA V (cap) (F 0)) := hC.2.1 0 (by decide)
  have k1_1 : M (A 1) = some (iA V (cap) (F 1)) := hC.2.1 1 (by decide)
  have k1_2 : M (A 2) = some (iA V (cap) (F 2)) := hC.2.1 2 (by decide)
  have k1_3 : M (A 3) = some (iA V (cap) (F 3)) := hC.2.1 3 (by decide)
  have k1_4 : M (A 4) = some (iA V (cap) (F 4)) := hC.2.1 4 (by decide)
  have k1_12 : M (A 12) = some (iA V (lq) (F 12)) := hC.2.1 12 (by decide)
  refine mv_aloadR_n B d_Mod_piece_0 rfl 0 rfl ?_
  refine mv_iload_n B d_Mod_piece_1 rfl 1 rfl ?_
  refine ca_Mod_71 (mc := 0) (ms := 0) (rm' := rM 1 0 0 21) (As := [.int (iI ((b : Nat)))]) (rest := []) B (m_Mod_walk hC hcap (b := b) hb hin hsm) rfl rfl ⟨Nat.le_of_ble_eq_true rfl, Nat.le_of_ble_eq_true rfl⟩ hC.1 rfl rfl (Nat.le_of_ble_eq_true rfl) d_Mod_piece_2 ⟨by omega, by omega⟩ (fun v1 M9 ep => ?_)
  obtain ⟨e1, hC9⟩ := ep
  subst e1
  obtain ⟨DD, hDD⟩ : ∃ D : Nat → Int, D = (wkR F b (F 4) (Int.toNat (F 3 b))) := ⟨_, rfl⟩
  rw [← hDD] at hC9 hQ
  obtain ⟨G, hG⟩ : ∃ G : Nat → Nat → Int, G = va_up F 4 DD := ⟨_, rfl⟩
  rw [← hG] at hC9 hQ
  have hG0 : G 0 = F 0 := by rw [hG]; rfl
  have hG1 : G 1 = F 1 := by rw [hG]; rfl
  have hG2 : G 2 = F 2 := by rw [hG]; rfl
  have hG3 : G 3 = F 3 := by rw [hG]; rfl
  have hG12 : G 12 = F 12 := by rw [hG]; rfl
  have hG4 : G 4 = DD := by rw [hG]; rfl
  show mv_G X Q (kk V) 6 5 [(0, .ref r), (1, .int (iI ((b : Nat)))), (2, .int (iI (ar)))] [] M9 0 0
  have k2_0 : M9 (A 0) = some (iA V (cap) (G 0)) := hC9.2.1 0 (by decide)
  have k2_1 : M9 (A 1) = some (iA V (cap) (G 1)) := hC9.2.1 1 (by decide)
  have k2_2 : M9 (A 2) = some (iA V (cap) (G 2)) := hC9.2.1 2 (by decide)
  have k2_3 : M9 (A 3) = some (iA V (cap) (G 3)) := hC9.2.1 3 (by decide)
  have k2_4 : M9 (A 4) = some (iA V (cap) (G 4)) := hC9.2.1 4 (by decide)
  have k2_12 : M9 (A 12) = some (iA V (lq) (G 12)) := hC9.2.1 12 (by decide)
  refine mv_iload_n B d_Mod_piece_5 rfl 1 rfl ?_
  refine mv_aloadR_n B d_Mod_piece_6 rfl 0 rfl ?_
  refine gf_Mod_19 B hC9.1 rfl d_Mod_piece_7 ?_
  refine mv_iload_n B d_Mod_piece_10 rfl 1 rfl ?_
  refine ia_ld B k2_3 (by omega) (by omega) (by omega) d_Mod_piece_11 ?_
  rw [show Int.toNat ((b : Nat)) = b from by omega]
  have rr3 : R32 ((G 3) b) := (hC9.R 3) _
  rw [hG3]
  refine mv_iadd B d_Mod_piece_12 ?_
  refine mv_istore_n (lv' := [(3, .int (iI ((b : Nat) + (F 3 b)))), (0, .ref r), (1, .int (iI ((b : Nat)))), (2, .int (iI (ar)))]) B d_Mod_piece_13 rfl (by decide) rfl ?_
  refine mv_iload_n B d_Mod_piece_14 rfl 2 rfl ?_
  refine mv_istore (lv' := [(4, .int (iI ((b : Nat)))), (3, .int (iI ((b : Nat) + (F 3 b)))), (0, .ref r), (1, .int (iI ((b : Nat)))), (2, .int (iI (ar)))]) B d_Mod_piece_15 (by decide) rfl ?_
  have L17 : ∀ (fu : Nat) (i : Nat) (Ay1 : Nat → Nat) (My1 : mv_M), ((i : Int) ≤ F 3 b) → (RefC V My1 r Ay1 (rN (capL cap c (i)) lq) (appF G c (pcL F DD ar b i)) ((c + (i) : Nat) : Int) tn gn) → ((F 3 b).toNat - i) < fu → mv_G X Q (kk V) 6 17 [(4, .int (iI ((b : Nat) + (i : Nat)))), (3, .int (iI ((b : Nat) + F 3 b))), (0, .ref r), (1, .int (iI ((b : Nat)))), (2, .int (iI (ar)))] [] My1 (pC (capL cap c (i)) lq - pC cap lq) (pS (capL cap c (i)) lq - pS cap lq) := by
    intro fu
    induction fu with
    | zero => intro i Ay1 My1 hi hCl hm; exact absurd hm (Nat.not_lt_zero _)
    | succ fu ih17 =>
      intro i Ay1 My1 hi hCl hm
      have hcl := capL_c hcap0 hcc i
      have hcg := capL_ge cap c i
      have hcb1 := hcb i (by omega)
      have hpl := pC_L (lc := lq) c hcap0 i
      have hR0 := hC.R 0 (b + i)
      have hR1 := hC.2.2.2.2.1 1 (b + i)
      have hR2 := hC.2.2.2.2.1 2 (b + i)
      have hR00 := hC.2.2.2.2.1 0 (b + i)
      have hR4 : Sm (DD (b + i)) := by have := hC9.2.2.2.2.1 4 (b + i); rw [hG4] at this; exact this
      have hpt := fun h => pC_LL (lc := lq) cap c hcap0 (show i + 1 ≤ (F 3 b).toNat from h)
      have k4_0 : My1 (Ay1 0) = some (iA V (capL cap c (i)) (appF G c (pcL F DD ar b i) 0)) := hCl.2.1 0 (by decide)
      have k4_1 : My1 (Ay1 1) = some (iA V (capL cap c (i)) (appF G c (pcL F DD ar b i) 1)) := hCl.2.1 1 (by decide)
      have k4_2 : My1 (Ay1 2) = some (iA V (capL cap c (i)) (appF G c (pcL F DD ar b i) 2)) := hCl.2.1 2 (by decide)
      have k4_3 : My1 (Ay1 3) = some (iA V (capL cap c (i)) (appF G c (pcL F DD ar b i) 3)) := hCl.2.1 3 (by decide)
      have k4_4 : My1 (Ay1 4) = some (iA V (capL cap c (i)) (appF G c (pcL F DD ar b i) 4)) := hCl.2.1 4 (by decide)
      have k4_12 : My1 (Ay1 12) = some (iA V (lq) (appF G c (pcL F DD ar b i) 12)) := hCl.2.1 12 (by decide)
      refine mv_iload B d_Mod_piece_17 0 rfl ?_
      refine mv_iload_n B d_Mod_piece_19 rfl 1 rfl ?_
      refine mv_icmp_ge (tgt := 109) B d_Mod_piece_20 (by decide) (by omega) (by omega) (fun c5 => ?_) (fun c5 => ?_)
      · have ei : (F 3 b).toNat = i := by omega
        rw [hQ]
        exact mv_vret B ⟨rfl, Ay1, by rw [ei]; exact hCl⟩ (by rw [ei]; exact Nat.le_refl _) (by rw [ei]; exact Nat.le_refl _) d_Mod_piece_109
      · refine mv_aloadR_n B d_Mod_piece_23 rfl 2 rfl ?_
        refine gf_Mod_7 B hCl.1 rfl d_Mod_piece_24 ?_
        refine mv_iload B d_Mod_piece_27 0 rfl ?_
        refine ia_ld B k4_0 (by omega) (by omega) (by omega) d_Mod_piece_29 ?_
        rw [show Int.toNat ((b : Nat) + (i : Nat)) = b + i from by omega]
        have rr6 : R32 ((appF G c (pcL F DD ar b i) 0) (b + i)) := (hCl.R 0) _
        rw [appF_lt 0 _ (by omega), hG0]
        refine mv_if_ne (tgt := 51) B d_Mod_piece_30 (by decide) (by omega) (fun c7 => ?_) (fun c7 => ?_)
        · refine mv_iconst (z := -1) B d_Mod_piece_51 rfl ?_
          refine mv_istore (lv' := [(5, .int (iI (-1))), (4, .int (iI ((b : Nat) + (i : Nat)))), (3, .int (iI ((b : Nat) + F 3 b))), (0, .ref r), (1, .int (iI ((b : Nat)))), (2, .int (iI (ar)))]) B d_Mod_piece_52 (by decide) rfl ?_
          refine mv_iload B d_Mod_piece_54 0 rfl ?_
          refine mv_if_lt (tgt := 77) B d_Mod_piece_56 (by decide) (by omega) (fun c8 => ?_) (fun c8 => ?_)
          · refine mv_aloadR_n B d_Mod_piece_77 rfl 3 rfl ?_
            refine mv_aloadR_n B d_Mod_piece_78 rfl 3 rfl ?_
            refine gf_Mod_7 B hCl.1 rfl d_Mod_piece_79 ?_
            refine mv_iload B d_Mod_piece_82 1 rfl ?_
            refine ia_ld B k4_0 (by omega) (by omega) (by omega) d_Mod_piece_84 ?_
            rw [show Int.toNat ((b : Nat) + (i : Nat)) = b + i from by omega]
            have rr9 : R32 ((appF G c (pcL F DD ar b i) 0) (b + i)) := (hCl.R 0) _
            rw [appF_lt 0 _ (by omega), hG0]
            refine mv_aloadR_n B d_Mod_piece_85 rfl 3 rfl ?_
            refine gf_Mod_13 B hCl.1 rfl d_Mod_piece_86 ?_
            refine mv_iload B d_Mod_piece_89 1 rfl ?_
            refine ia_ld B k4_1 (by omega) (by omega) (by omega) d_Mod_piece_91 ?_
            rw [show Int.toNat ((b : Nat) + (i : Nat)) = b + i from by omega]
            have rr10 : R32 ((appF G c (pcL F DD ar b i) 1) (b + i)) := (hCl.R 1) _
            rw [appF_lt 1 _ (by omega), hG1]
            refine mv_aloadR_n B d_Mod_piece_92 rfl 3 rfl ?_
            refine gf_Mod_16 B hCl.1 rfl d_Mod_piece_93 ?_
            refine mv_iload B d_Mod_piece_96 1 rfl ?_
            refine ia_ld B k4_2 (by omega) (by omega) (by omega) d_Mod_piece_98 ?_
            rw [show Int.toNat ((b : Nat) + (i : Nat)) = b + i from by omega]
            have rr11 : R32 ((appF G c (pcL F DD ar b i) 2) (b + i)) := (hCl.R 2) _
            rw [appF_lt 2 _ (by omega), hG2]
            have n12q : pC (capL cap c (i + 1)) lq = pC (capN (capL cap c (i)) (((c + (i) : Nat) : Int))) lq := rfl
            have n12r : pS (capL cap c (i + 1)) lq = pS (capN (capL cap c (i)) (((c + (i) : Nat) : Int))) lq := rfl
            have n12p := pC_N (lc := lq) (c := ((c + (i) : Nat) : Int)) (show 1 ≤ capL cap c (i) by omega)
            refine ca_Mod_63 (mc := pC (capN (capL cap c (i)) (((c + (i) : Nat) : Int))) lq - pC (capL cap c (i)) lq) (ms := pS (capN (capL cap c (i)) (((c + (i) : Nat) : Int))) lq - pS (capL cap c (i)) lq) (rm' := rM 2 (pC (capN (capL cap c (i)) (((c + (i) : Nat) : Int))) lq - pC (capL cap c (i)) lq) (pS (capN (capL cap c (i)) (((c + (i) : Nat) : Int))) lq - pS (capL cap c (i)) lq) 70) (As := [.int (iI (F 0 (b + i))), .int (iI (F 1 (b + i))), .int (iI (F 2 (b + i)))]) (rest := []) B (m_Mod_add hCl (by omega) (by omega) (k := F 0 (b + i)) (v := F 1 (b + i)) (s := F 2 (b + i)) (by omega) (by omega) (by omega)) rfl rfl ⟨Nat.le_of_ble_eq_true rfl, Nat.le_of_ble_eq_true rfl⟩ hCl.1 rfl rfl (Nat.le_of_ble_eq_true rfl) d_Mod_piece_99 ⟨by omega, by omega⟩ (fun v1 n12M ep => ?_)
            obtain ⟨e1, n12A, n12C⟩ := ep
            subst e1
            have n12D : RefC V n12M r n12A (rN (capL cap c (i + 1)) lq) (appF G c (pcL F DD ar b i ++ [(F 0 (b + i), F 1 (b + i), F 2 (b + i))])) ((c + (i + 1) : Nat) : Int) tn gn := by
              have h := n12C
              rw [show (((c + (i) : Nat) : Int)).toNat = c + (pcL F DD ar b i).length by rw [pcL_len]; omega, ← appF_1] at h
              exact h
            refine mv_widen (c2 := pC (capL cap c (i + 1)) lq - pC cap lq) (s2 := pS (capL cap c (i + 1)) lq - pS cap lq) (by omega) (by omega) ?_
            show mv_G X Q (kk V) 6 102 [(5, .int (iI (-1))), (4, .int (iI ((b : Nat) + (i : Nat)))), (3, .int (iI ((b : Nat) + F 3 b))), (0, .ref r), (1, .int (iI ((b : Nat)))), (2, .int (iI (ar)))] [.int (iI (((c + (i) : Nat) : Int)))] n12M (pC (capL cap c (i + 1)) lq - pC cap lq) (pS (capL cap c (i + 1)) lq - pS cap lq)
            have k13_0 : n12M (n12A 0) = some (iA V (capL cap c (i + 1)) (appF G c (pcL F DD ar b i ++ [(F 0 (b + i), F 1 (b + i), F 2 (b + i))]) 0)) := n12D.2.1 0 (by decide)
            have k13_1 : n12M (n12A 1) = some (iA V (capL cap c (i + 1)) (appF G c (pcL F DD ar b i ++ [(F 0 (b + i), F 1 (b + i), F 2 (b + i))]) 1)) := n12D.2.1 1 (by decide)
            have k13_2 : n12M (n12A 2) = some (iA V (capL cap c (i + 1)) (appF G c (pcL F DD ar b i ++ [(F 0 (b + i), F 1 (b + i), F 2 (b + i))]) 2)) := n12D.2.1 2 (by decide)
            have k13_3 : n12M (n12A 3) = some (iA V (capL cap c (i + 1)) (appF G c (pcL F DD ar b i ++ [(F 0 (b + i), F 1 (b + i), F 2 (b + i))]) 3)) := n12D.2.1 3 (by decide)
            have k13_4 : n12M (n12A 4) = some (iA V (capL cap c (i + 1)) (appF G c (pcL F DD ar b i ++ [(F 0 (b + i), F 1 (b + i), F 2 (b + i))]) 4)) := n12D.2.1 4 (by decide)
            have k13_12 : n12M (n12A 12) = some (iA V (lq) (appF G c (pcL F DD ar b i ++ [(F 0 (b + i), F 1 (b + i), F 2 (b + i))]) 12)) := n12D.2.1 12 (by decide)
            refine mv_pop B d_Mod_piece_102 rfl ?_
            refine mv_iinc (lv' := [(4, .int (iI (((b : Nat) + (i : Nat)) + 1))), (5, .int (iI (-1))), (3, .int (iI ((b : Nat) + F 3 b))), (0, .ref r), (1, .int (iI ((b : Nat)))), (2, .int (iI (ar)))]) B d_Mod_piece_103 1 rfl (by decide) rfl ?_
            refine mv_goto (tgt := 17) B d_Mod_piece_106 (by decide) ?_
            refine mv_lv (lv' := [(4, .int (iI ((b : Nat) + ((i + 1) : Nat)))), (3, .int (iI ((b : Nat) + F 3 b))), (0, .ref r), (1, .int (iI ((b : Nat)))), (2, .int (iI (ar)))]) [0, 2, 3, 4, 5] (lc (lI (by first | rfl | omega)) (lc rfl (lc rfl (lc rfl (lc rfl rfl))))) ?_
            refine mv_widen (c2 := pC (capL cap c ((i + 1))) lq - pC cap lq) (s2 := pS (capL cap c ((i + 1))) lq - pS cap lq) (by omega) (by omega) ?_
            exact ih17 (i + 1) n12A n12M (by omega) (by have h := n12D; simp only [pcL, pcN]; rw [if_neg (by omega)]; exact h) (by omega)
          · omega
        · refine mv_aloadR_n B d_Mod_piece_33 rfl 2 rfl ?_
          refine gf_Mod_13 B hCl.1 rfl d_Mod_piece_34 ?_
          refine mv_iload B d_Mod_piece_37 0 rfl ?_
          refine ia_ld B k4_1 (by omega) (by omega) (by omega) d_Mod_piece_39 ?_
          rw [show Int.toNat ((b : Nat) + (i : Nat)) = b + i from by omega]
          have rr14 : R32 ((appF G c (pcL F DD ar b i) 1) (b + i)) := (hCl.R 1) _
          rw [appF_lt 1 _ (by omega), hG1]
          refine mv_aloadR_n B d_Mod_piece_40 rfl 2 rfl ?_
          refine gf_Mod_22 B hCl.1 rfl d_Mod_piece_41 ?_
          refine mv_iload B d_Mod_piece_44 0 rfl ?_
          refine ia_ld B k4_4 (by omega) (by omega) (by omega) d_Mod_piece_46 ?_
          rw [show Int.toNat ((b : Nat) + (i : Nat)) = b + i from by omega]
          have rr15 : R32 ((appF G c (pcL F DD ar b i) 4) (b + i)) := (hCl.R 4) _
          rw [appF_lt 4 _ (by omega), hG4]
          refine mv_isub B d_Mod_piece_47 ?_
          refine mv_goto (tgt := 52) B d_Mod_piece_48 (by decide) ?_
          refine mv_istore (lv' := [(5, .int (iI ((F 1 (b + i)) - (DD (b + i))))), (4, .int (iI ((b : Nat) + (i : Nat)))), (3, .int (iI ((b : Nat) + F 3 b))), (0, .ref r), (1, .int (iI ((b : Nat)))), (2, .int (iI (ar)))]) B d_Mod_piece_52 (by decide) rfl ?_
          refine mv_iload B d_Mod_piece_54 0 rfl ?_
          refine mv_if_lt (tgt := 77) B d_Mod_piece_56 (by decide) (by omega) (fun c16 => ?_) (fun c16 => ?_)
          · refine mv_aloadR_n B d_Mod_piece_77 rfl 3 rfl ?_
            refine mv_aloadR_n B d_Mod_piece_78 rfl 3 rfl ?_
            refine gf_Mod_7 B hCl.1 rfl d_Mod_piece_79 ?_
            refine mv_iload B d_Mod_piece_82 1 rfl ?_
            refine ia_ld B k4_0 (by omega) (by omega) (by omega) d_Mod_piece_84 ?_
            rw [show Int.toNat ((b : Nat) + (i : Nat)) = b + i from by omega]
            have rr17 : R32 ((appF G c (pcL F DD ar b i) 0) (b + i)) := (hCl.R 0) _
            rw [appF_lt 0 _ (by omega), hG0]
            refine mv_aloadR_n B d_Mod_piece_85 rfl 3 rfl ?_
            refine gf_Mod_13 B hCl.1 rfl d_Mod_piece_86 ?_
            refine mv_iload B d_Mod_piece_89 1 rfl ?_
            refine ia_ld B k4_1 (by omega) (by omega) (by omega) d_Mod_piece_91 ?_
            rw [show Int.toNat ((b : Nat) + (i : Nat)) = b + i from by omega]
            have rr18 : R32 ((appF G c (pcL F DD ar b i) 1) (b + i)) := (hCl.R 1) _
            rw [appF_lt 1 _ (by omega), hG1]
            refine mv_aloadR_n B d_Mod_piece_92 rfl 3 rfl ?_
            refine gf_Mod_16 B hCl.1 rfl d_Mod_piece_93 ?_
            refine mv_iload B d_Mod_piece_96 1 rfl ?_
            refine ia_ld B k4_2 (by omega) (by omega) (by omega) d_Mod_piece_98 ?_
            rw [show Int.toNat ((b : Nat) + (i : Nat)) = b + i from by omega]
            have rr19 : R32 ((appF G c (pcL F DD ar b i) 2) (b + i)) := (hCl.R 2) _
            rw [appF_lt 2 _ (by omega), hG2]
            have n20q : pC (capL cap c (i + 1)) lq = pC (capN (capL cap c (i)) (((c + (i) : Nat) : Int))) lq := rfl
            have n20r : pS (capL cap c (i + 1)) lq = pS (capN (capL cap c (i)) (((c + (i) : Nat) : Int))) lq := rfl
            have n20p := pC_N (lc := lq) (c := ((c + (i) : Nat) : Int)) (show 1 ≤ capL cap c (i) by omega)
            refine ca_Mod_63 (mc := pC (capN (capL cap c (i)) (((c + (i) : Nat) : Int))) lq - pC (capL cap c (i)) lq) (ms := pS (capN (capL cap c (i)) (((c + (i) : Nat) : Int))) lq - pS (capL cap c (i)) lq) (rm' := rM 2 (pC (capN (capL cap c (i)) (((c + (i) : Nat) : Int))) lq - pC (capL cap c (i)) lq) (pS (capN (capL cap c (i)) (((c + (i) : Nat) : Int))) lq - pS (capL cap c (i)) lq) 70) (As := [.int (iI (F 0 (b + i))), .int (iI (F 1 (b + i))), .int (iI (F 2 (b + i)))]) (rest := []) B (m_Mod_add hCl (by omega) (by omega) (k := F 0 (b + i)) (v := F 1 (b + i)) (s := F 2 (b + i)) (by omega) (by omega) (by omega)) rfl rfl ⟨Nat.le_of_ble_eq_true rfl, Nat.le_of_ble_eq_true rfl⟩ hCl.1 rfl rfl (Nat.le_of_ble_eq_true rfl) d_Mod_piece_99 ⟨by omega, by omega⟩ (fun v1 n20M ep => ?_)
            obtain ⟨e1, n20A, n20C⟩ := ep
            subst e1
            have n20D : RefC V n20M r n20A (rN (capL cap c (i + 1)) lq) (appF G c (pcL F DD ar b i ++ [(F 0 (b + i), F 1 (b + i), F 2 (b + i))])) ((c + (i + 1) : Nat) : Int) tn gn := by
              have h := n20C
              rw [show (((c + (i) : Nat) : Int)).toNat = c + (pcL F DD ar b i).length by rw [pcL_len]; omega, ← appF_1] at h
              exact h
            refine mv_widen (c2 := pC (capL cap c (i + 1)) lq - pC cap lq) (s2 := pS (capL cap c (i + 1)) lq - pS cap lq) (by omega) (by omega) ?_
            show mv_G X Q (kk V) 6 102 [(5, .int (iI ((F 1 (b + i)) - (DD (b + i))))), (4, .int (iI ((b : Nat) + (i : Nat)))), (3, .int (iI ((b : Nat) + F 3 b))), (0, .ref r), (1, .int (iI ((b : Nat)))), (2, .int (iI (ar)))] [.int (iI (((c + (i) : Nat) : Int)))] n20M (pC (capL cap c (i + 1)) lq - pC cap lq) (pS (capL cap c (i + 1)) lq - pS cap lq)
            have k21_0 : n20M (n20A 0) = some (iA V (capL cap c (i + 1)) (appF G c (pcL F DD ar b i ++ [(F 0 (b + i), F 1 (b + i), F 2 (b + i))]) 0)) := n20D.2.1 0 (by decide)
            have k21_1 : n20M (n20A 1) = some (iA V (capL cap c (i + 1)) (appF G c (pcL F DD ar b i ++ [(F 0 (b + i), F 1 (b + i), F 2 (b + i))]) 1)) := n20D.2.1 1 (by decide)
            have k21_2 : n20M (n20A 2) = some (iA V (capL cap c (i + 1)) (appF G c (pcL F DD ar b i ++ [(F 0 (b + i), F 1 (b + i), F 2 (b + i))]) 2)) := n20D.2.1 2 (by decide)
            have k21_3 : n20M (n20A 3) = some (iA V (capL cap c (i + 1)) (appF G c (pcL F DD ar b i ++ [(F 0 (b + i), F 1 (b + i), F 2 (b + i))]) 3)) := n20D.2.1 3 (by decide)
            have k21_4 : n20M (n20A 4) = some (iA V (capL cap c (i + 1)) (appF G c (pcL F DD ar b i ++ [(F 0 (b + i), F 1 (b + i), F 2 (b + i))]) 4)) := n20D.2.1 4 (by decide)
            have k21_12 : n20M (n20A 12) = some (iA V (lq) (appF G c (pcL F DD ar b i ++ [(F 0 (b + i), F 1 (b + i), F 2 (b + i))]) 12)) := n20D.2.1 12 (by decide)
            refine mv_pop B d_Mod_piece_102 rfl ?_
            refine mv_iinc (lv' := [(4, .int (iI (((b : Nat) + (i : Nat)) + 1))), (5, .int (iI ((F 1 (b + i)) - (DD (b + i))))), (3, .int (iI ((b : Nat) + F 3 b))), (0, .ref r), (1, .int (iI ((b : Nat)))), (2, .int (iI (ar)))]) B d_Mod_piece_103 1 rfl (by decide) rfl ?_
            refine mv_goto (tgt := 17) B d_Mod_piece_106 (by decide) ?_
            refine mv_lv (lv' := [(4, .int (iI ((b : Nat) + ((i + 1) : Nat)))), (3, .int (iI ((b : Nat) + F 3 b))), (0, .ref r), (1, .int (iI ((b : Nat)))), (2, .int (iI (ar)))]) [0, 2, 3, 4, 5] (lc (lI (by first | rfl | omega)) (lc rfl (lc rfl (lc rfl (lc rfl rfl))))) ?_
            refine mv_widen (c2 := pC (capL cap c ((i + 1))) lq - pC cap lq) (s2 := pS (capL cap c ((i + 1))) lq - pS cap lq) (by omega) (by omega) ?_
            exact ih17 (i + 1) n20A n20M (by omega) (by have h := n20D; simp only [pcL, pcN]; rw [if_neg (by omega)]; exact h) (by omega)
          · have hlo := hloose i (by omega) (by omega) (by rw [← hDD]; omega)
            rw [← hDD] at hlo
            refine mv_aloadR_n B d_Mod_piece_59 rfl 3 rfl ?_
            refine mv_aloadR_n B d_Mod_piece_60 rfl 3 rfl ?_
            refine gf_Mod_46 B hCl.1 rfl d_Mod_piece_61 ?_
            refine mv_iload_n B d_Mod_piece_64 rfl 5 rfl ?_
            refine mv_iconst (z := 1) B d_Mod_piece_65 rfl ?_
            refine mv_isub B d_Mod_piece_66 ?_
            refine mv_iload B d_Mod_piece_67 0 rfl ?_
            refine mv_isub B d_Mod_piece_69 ?_
            refine ia_ld B k4_12 (by omega) (by omega) (by omega) d_Mod_piece_70 ?_
            have rr22 : R32 ((appF G c (pcL F DD ar b i) 12) (Int.toNat ((ar - 1) - ((F 1 (b + i)) - (DD (b + i)))))) := (hCl.R 12) _
            rw [appF_ge (by decide), hG12]
            have hR12 := hlv (Int.toNat (ar - 1 - (F 1 (b + i) - DD (b + i)))) (by omega)
            have n23e : capL (capL cap c (i)) (c + (i)) (1) = capL cap c (i + 1) := (capL_add cap c (i) (1)).symm
            have n23p := pC_LL (lc := lq) cap c hcap0 (show i ≤ i + 1 by omega)
            refine ca_Mod_126 (mc := pC (capL (capL cap c (i)) (c + (i)) (1)) lq - pC (capL cap c (i)) lq) (ms := pS (capL (capL cap c (i)) (c + (i)) (1)) lq - pS (capL cap c (i)) lq) (rm' := rM 3 (pC (capL (capL cap c (i)) (c + (i)) (1)) lq - pC (capL cap c (i)) lq) (pS (capL (capL cap c (i)) (c + (i)) (1)) lq - pS (capL cap c (i)) lq) 100) (As := [.int (iI (F 12 (Int.toNat (ar - 1 - (F 1 (b + i) - DD (b + i))))))]) (rest := []) B (m_Mod_made hCl (by omega) (by omega) (v := F 12 (Int.toNat (ar - 1 - (F 1 (b + i) - DD (b + i))))) (by omega) (by omega)) rfl rfl ⟨Nat.le_of_ble_eq_true rfl, Nat.le_of_ble_eq_true rfl⟩ hCl.1 rfl rfl (Nat.le_of_ble_eq_true rfl) d_Mod_piece_71 ⟨by rw [n23e]; omega, by rw [n23e]; omega⟩ (fun v1 n23M ep => ?_)
            obtain ⟨e1, n23A, n23C⟩ := ep
            subst e1
            have n23D : RefC V n23M r n23A (rN (capL cap c (i + 1)) lq) (appF G c (pcL F DD ar b i ++ [(0, 1000000 + (F 12 (Int.toNat (ar - 1 - (F 1 (b + i) - DD (b + i))))), 0)])) ((c + (i + 1) : Nat) : Int) tn gn := by
              have h := n23C
              rw [n23e, show appF (appF G c (pcL F DD ar b i)) (c + (i)) ([(0, 1000000 + (F 12 (Int.toNat (ar - 1 - (F 1 (b + i) - DD (b + i))))), 0)]) = appF G c (pcL F DD ar b i ++ [(0, 1000000 + (F 12 (Int.toNat (ar - 1 - (F 1 (b + i) - DD (b + i))))), 0)]) from (by rw [appF_app, pcL_len])] at h
              exact h
            refine mv_widen (c2 := pC (capL cap c (i + 1)) lq - pC cap lq) (s2 := pS (capL cap c (i + 1)) lq - pS cap lq) (by rw [n23e]; omega) (by rw [n23e]; omega) ?_
            show mv_G X Q (kk V) 6 74 [(5, .int (iI ((F 1 (b + i)) - (DD (b + i))))), (4, .int (iI ((b : Nat) + (i : Nat)))), (3, .int (iI ((b : Nat) + F 3 b))), (0, .ref r), (1, .int (iI ((b : Nat)))), (2, .int (iI (ar)))] [] n23M (pC (capL cap c (i + 1)) lq - pC cap lq) (pS (capL cap c (i + 1)) lq - pS cap lq)
            have k24_0 : n23M (n23A 0) = some (iA V (capL cap c (i + 1)) (appF G c (pcL F DD ar b i ++ [(0, 1000000 + (F 12 (Int.toNat (ar - 1 - (F 1 (b + i) - DD (b + i))))), 0)]) 0)) := n23D.2.1 0 (by decide)
            have k24_1 : n23M (n23A 1) = some (iA V (capL cap c (i + 1)) (appF G c (pcL F DD ar b i ++ [(0, 1000000 + (F 12 (Int.toNat (ar - 1 - (F 1 (b + i) - DD (b + i))))), 0)]) 1)) := n23D.2.1 1 (by decide)
            have k24_2 : n23M (n23A 2) = some (iA V (capL cap c (i + 1)) (appF G c (pcL F DD ar b i ++ [(0, 1000000 + (F 12 (Int.toNat (ar - 1 - (F 1 (b + i) - DD (b + i))))), 0)]) 2)) := n23D.2.1 2 (by decide)
            have k24_3 : n23M (n23A 3) = some (iA V (capL cap c (i + 1)) (appF G c (pcL F DD ar b i ++ [(0, 1000000 + (F 12 (Int.toNat (ar - 1 - (F 1 (b + i) - DD (b + i))))), 0)]) 3)) := n23D.2.1 3 (by decide)
            have k24_4 : n23M (n23A 4) = some (iA V (capL cap c (i + 1)) (appF G c (pcL F DD ar b i ++ [(0, 1000000 + (F 12 (Int.toNat (ar - 1 - (F 1 (b + i) - DD (b + i))))), 0)]) 4)) := n23D.2.1 4 (by decide)
            have k24_12 : n23M (n23A 12) = some (iA V (lq) (appF G c (pcL F DD ar b i ++ [(0, 1000000 + (F 12 (Int.toNat (ar - 1 - (F 1 (b + i) - DD (b + i))))), 0)]) 12)) := n23D.2.1 12 (by decide)
            refine mv_goto (tgt := 103) B d_Mod_piece_74 (by decide) ?_
            refine mv_iinc (lv' := [(4, .int (iI (((b : Nat) + (i : Nat)) + 1))), (5, .int (iI ((F 1 (b + i)) - (DD (b + i))))), (3, .int (iI ((b : Nat) + F 3 b))), (0, .ref r), (1, .int (iI ((b : Nat)))), (2, .int (iI (ar)))]) B d_Mod_piece_103 1 rfl (by decide) rfl ?_
            refine mv_goto (tgt := 17) B d_Mod_piece_106 (by decide) ?_
            refine mv_lv (lv' := [(4, .int (iI ((b : Nat) + ((i + 1) : Nat)))), (3, .int (iI ((b : Nat) + F 3 b))), (0, .ref r), (1, .int (iI ((b : Nat)))), (2, .int (iI (ar)))]) [0, 2, 3, 4, 5] (lc (lI (by first | rfl | omega)) (lc rfl (lc rfl (lc rfl (lc rfl rfl))))) ?_
            refine mv_widen (c2 := pC (capL cap c ((i + 1))) lq - pC cap lq) (s2 := pS (capL cap c ((i + 1))) lq - pS cap lq) (by omega) (by omega) ?_
            exact ih17 (i + 1) n23A n23M (by omega) (by have h := n23D; simp only [pcL, pcN]; rw [if_pos (by omega)]; exact h) (by omega)
  refine mv_lv (lv' := [(4, .int (iI ((b : Nat) + (0 : Nat)))), (3, .int (iI ((b : Nat) + F 3 b))), (0, .ref r), (1, .int (iI ((b : Nat)))), (2, .int (iI (ar)))]) [0, 1, 2, 3, 4] (lc (lI (by first | rfl | omega)) (lc (lI (by first | rfl | omega)) (lc rfl (lc rfl (lc rfl rfl))))) ?_
  refine mv_widen (c2 := pC (capL cap c (0)) lq - pC cap lq) (s2 := pS (capL cap c (0)) lq - pS cap lq) (Nat.zero_le _) (Nat.zero_le _) ?_
  exact L17 _ 0 A M9 (by omega) (by have h := hC9; skip; exact h) (Nat.lt_succ_self _)
