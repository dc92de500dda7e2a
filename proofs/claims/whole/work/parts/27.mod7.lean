/-! the reference: nodes that are added, as lists; the arrays' lengths then -/
def appF (F : Nat → Nat → Int) (c : Nat) : List Nd → Nat → Nat → Int
  | [] => F
  | x :: xs => appF (addF F c x.1 x.2.1 x.2.2) (c + 1) xs
theorem appF_app (F : Nat → Nat → Int) (c : Nat) : ∀ (xs ys : List Nd), appF F c (xs ++ ys) = appF (appF F c xs) (c + xs.length) ys := by
  intro xs
  induction xs generalizing F c with
  | nil => intro ys; simp [appF]
  | cons x xs ih =>
    intro ys
    simp only [List.cons_append, appF, ih, List.length_cons]
    congr 1
    omega
theorem appF_1 (F : Nat → Nat → Int) (c : Nat) (xs : List Nd) (k v s : Int) : appF F c (xs ++ [(k, v, s)]) = addF (appF F c xs) (c + xs.length) k v s := by
  rw [appF_app]
  rfl
def capL (cap c : Nat) : Nat → Nat
  | 0 => cap
  | n + 1 => capN (capL cap c n) ((c + n : Nat) : Int)
theorem capL_add (cap c m : Nat) : ∀ n, capL cap c (m + n) = capL (capL cap c m) (c + m) n
  | 0 => rfl
  | n + 1 => by
    have h := capL_add cap c m n
    rw [show m + (n + 1) = (m + n) + 1 by omega]
    simp only [capL]
    rw [h, show c + (m + n) = c + m + n by omega]
theorem capL_ge (cap c : Nat) : ∀ n, cap ≤ capL cap c n
  | 0 => Nat.le_refl _
  | n + 1 => Nat.le_trans (capL_ge cap c n) capN_r.1
theorem pC_N {cap lc : Nat} {c : Int} (h : 1 ≤ cap) : pC cap lc ≤ pC (capN cap c) lc ∧ pS cap lc ≤ pS (capN cap c) lc := by
  unfold capN
  split
  · rw [pC_2 (by omega)]
    unfold pS
    omega
  · exact ⟨Nat.le_refl _, Nat.le_refl _⟩
theorem pC_L {cap lc : Nat} (c : Nat) (h : 1 ≤ cap) : ∀ n, pC cap lc ≤ pC (capL cap c n) lc ∧ pS cap lc ≤ pS (capL cap c n) lc
  | 0 => ⟨Nat.le_refl _, Nat.le_refl _⟩
  | n + 1 => by
    have h1 := pC_L (lc := lc) c h n
    have h2 := pC_N (lc := lc) (c := ((c + n : Nat) : Int)) (Nat.le_trans h (capL_ge cap c n))
    exact ⟨Nat.le_trans h1.1 h2.1, Nat.le_trans h1.2 h2.2⟩
theorem capL_c {cap c : Nat} (h0 : 1 ≤ cap) (h : c ≤ cap) : ∀ n, c + n ≤ capL cap c n
  | 0 => h
  | n + 1 => by
    have h1 := capL_c h0 h n
    have h2 := capL_ge cap c n
    show c + (n + 1) ≤ capN (capL cap c n) ((c + n : Nat) : Int)
    unfold capN
    by_cases e : ((c + n : Nat) : Int) = ((capL cap c n : Nat) : Int)
    · rw [if_pos e]; omega
    · rw [if_neg e]; omega
theorem capL_1 {cap c : Nat} (h0 : 1 ≤ cap) (h : c ≤ cap) : ∀ n, 1 ≤ capL cap c n := fun n => Nat.le_trans h0 (capL_ge cap c n)
theorem pC_LL {lc : Nat} (cap c : Nat) (h0 : 1 ≤ cap) {m n : Nat} (h : m ≤ n) : pC (capL cap c m) lc ≤ pC (capL cap c n) lc ∧ pS (capL cap c m) lc ≤ pS (capL cap c n) lc := by
  obtain ⟨k, rfl⟩ : ∃ k, n = m + k := ⟨n - m, by omega⟩
  rw [capL_add]
  exact pC_L (c + m) (Nat.le_trans h0 (capL_ge cap c m)) k
set_option maxRecDepth 100000 in
set_option maxHeartbeats 4000000 in
theorem m_Mod_made {l : Launch} {V : mv_V} {M : mv_M} {r cap lq c : Nat} {A : Nat → Nat} {F : Nat → Nat → Int} {tn gn : Int} (hC : RefC V M r A (rN cap lq) F (c : Nat) tn gn) (hcc : c ≤ cap) (hcap0 : 1 ≤ cap) {v : Int} (rv : -10000000 ≤ v ∧ v ≤ 10000000) (hcb : cap ≤ 1000000) : Met l y_Mod_made ws_Mod_made (rM 3 (pC (capL cap c (1)) lq - pC cap lq) (pS (capL cap c (1)) lq - pS cap lq) 100) (mv_Pre (kk V) [.ref r, .int (iI (v))] M) (mv_Q (kk V) (fun z0 M' => z0 = none ∧ RefAt V M' r (capL cap c (1)) lq (appF F c ([(0, 1000000 + v, 0)])) ((c + (1) : Nat) : Int) tn gn)) (pC (capL cap c (1)) lq - pC cap lq) (pS (capL cap c (1)) lq - pS cap lq) V.2.2.2.2 := by
  refine mv_Met (by decide) rfl (Nat.le_of_ble_eq_true rfl) (fun X hX B => ?_)
  subst hX
  replace B : mv_B X (kk V) c_Mod_made ws_Mod_made "FamilyRulesModel" 2 (Option.none : Option Jvm.ClassFile.FieldType) (rM 3 (pC (capL cap c (1)) lq - pC cap lq) (pS (capL cap c (1)) lq - pS cap lq) 100) "made" := B
  obtain ⟨Q, hQ⟩ : ∃ Q, Q = mv_E X (kk V) (fun z0 M' => z0 = none ∧ RefAt V M' r (capL cap c (1)) lq (appF F c ([(0, 1000000 + v, 0)])) ((c + (1) : Nat) : Int) tn gn) (pC (capL cap c (1)) lq - pC cap lq) (pS (capL cap c (1)) lq - pS cap lq) := ⟨_, rfl⟩
  rw [← hQ]
  show mv_G X Q (kk V) 2 0 [(0, .ref r), (1, .int (iI (v)))] [] M 0 0
  have hrc : (rM 3 (pC (capL cap c (1)) lq - pC cap lq) (pS (capL cap c (1)) lq - pS cap lq) 100).cells = pC (capL cap c (1)) lq - pC cap lq := rfl
  have hrs : (rM 3 (pC (capL cap c (1)) lq - pC cap lq) (pS (capL cap c (1)) lq - pS cap lq) 100).slots = pS (capL cap c (1)) lq - pS cap lq := rfl
  have hmv := pC_L (lc := lq) c hcap0 1
  refine mv_aloadR_n B d_Mod_made_0 rfl 0 rfl ?_
  refine mv_iconst (z := 0) B d_Mod_made_1 rfl ?_
  refine mv_ldc (z := 1000000) B (mwc (mw_t 675 (by decide +kernel) (by decide +kernel))) d_Mod_made_2 ?_
  refine mv_iload_n B d_Mod_made_4 rfl 1 rfl ?_
  refine mv_iadd B d_Mod_made_5 ?_
  refine mv_iconst (z := 0) B d_Mod_made_6 rfl ?_
  have n2q : pC (capL cap c (1)) lq = pC (capN (cap) ((c : Nat))) lq := rfl
  have n2r : pS (capL cap c (1)) lq = pS (capN (cap) ((c : Nat))) lq := rfl
  have n2p := pC_N (lc := lq) (c := (c : Nat)) (show 1 ≤ cap by omega)
  refine ca_Mod_63 (mc := pC (capN (cap) ((c : Nat))) lq - pC (cap) lq) (ms := pS (capN (cap) ((c : Nat))) lq - pS (cap) lq) (rm' := rM 2 (pC (capN (cap) ((c : Nat))) lq - pC (cap) lq) (pS (capN (cap) ((c : Nat))) lq - pS (cap) lq) 70) (As := [.int (iI (0)), .int (iI (1000000 + v)), .int (iI (0))]) (rest := []) B (m_Mod_add hC (by omega) (by omega) (k := 0) (v := 1000000 + v) (s := 0) (by omega) (by omega) (by omega)) rfl rfl ⟨Nat.le_of_ble_eq_true rfl, Nat.le_of_ble_eq_true rfl⟩ hC.1 rfl rfl (Nat.le_of_ble_eq_true rfl) d_Mod_made_7 ⟨(by omega), (by omega)⟩ (fun v1 n2M ep => ?_)
  obtain ⟨e1, n2A, n2C⟩ := ep
  subst e1
  have n2D : RefC V n2M r n2A (rN (capL cap c (1)) lq) (appF F c ([(0, 1000000 + v, 0)])) ((c + (1) : Nat) : Int) tn gn := by
    have h := n2C
    rw [show ((c : Nat) : Int).toNat = c by omega] at h; exact h
  refine mv_widen (c2 := pC (capL cap c (1)) lq - pC cap lq) (s2 := pS (capL cap c (1)) lq - pS cap lq) (by omega) (by omega) ?_
  show mv_G X Q (kk V) 2 10 [(0, .ref r), (1, .int (iI (v)))] [.int (iI ((c : Nat)))] n2M (pC (capL cap c (1)) lq - pC cap lq) (pS (capL cap c (1)) lq - pS cap lq)
  refine mv_pop B d_Mod_made_10 rfl ?_
  rw [hQ]
  exact mv_vret B ⟨rfl, n2A, n2D⟩ (by omega) (by omega) d_Mod_made_11
set_option maxRecDepth 100000 in
set_option maxHeartbeats 4000000 in
theorem m_Mod_applications {l : Launch} {V : mv_V} {M : mv_M} {r cap lq c : Nat} {A : Nat → Nat} {F : Nat → Nat → Int} {tn gn : Int} (hC : RefC V M r A (rN cap lq) F (c : Nat) tn gn) (hcc : c ≤ cap) (hcap0 : 1 ≤ cap) {n : Int} (hn : 0 ≤ n ∧ n ≤ 1000000) (hcb : ∀ j : Nat, (j : Int) ≤ n → capL cap c j ≤ 1000000) : Met l y_Mod_applications ws_Mod_applications (rM 3 (pC (capL cap c (n.toNat)) lq - pC cap lq) (pS (capL cap c (n.toNat)) lq - pS cap lq) 100) (mv_Pre (kk V) [.ref r, .int (iI (n))] M) (mv_Q (kk V) (fun z0 M' => z0 = none ∧ RefAt V M' r (capL cap c (n.toNat)) lq (appF F c (apL n.toNat)) ((c + (n.toNat) : Nat) : Int) tn gn)) (pC (capL cap c (n.toNat)) lq - pC cap lq) (pS (capL cap c (n.toNat)) lq - pS cap lq) V.2.2.2.2 := by
  refine mv_Met (by decide) rfl (Nat.le_of_ble_eq_true rfl) (fun X hX B => ?_)
  subst hX
  replace B : mv_B X (kk V) c_Mod_applications ws_Mod_applications "FamilyRulesModel" 3 (Option.none : Option Jvm.ClassFile.FieldType) (rM 3 (pC (capL cap c (n.toNat)) lq - pC cap lq) (pS (capL cap c (n.toNat)) lq - pS cap lq) 100) "applications" := B
  obtain ⟨Q, hQ⟩ : ∃ Q, Q = mv_E X (kk V) (fun z0 M' => z0 = none ∧ RefAt V M' r (capL cap c (n.toNat)) lq (appF F c (apL n.toNat)) ((c + (n.toNat) : Nat) : Int) tn gn) (pC (capL cap c (n.toNat)) lq - pC cap lq) (pS (capL cap c (n.toNat)) lq - pS cap lq) := ⟨_, rfl⟩
  rw [← hQ]
  show mv_G X Q (kk V) 3 0 [(0, .ref r), (1, .int (iI (n)))] [] M 0 0
  have hrc : (rM 3 (pC (capL cap c (n.toNat)) lq - pC cap lq) (pS (capL cap c (n.toNat)) lq - pS cap lq) 100).cells = pC (capL cap c (n.toNat)) lq - pC cap lq := rfl
  have hrs : (rM 3 (pC (capL cap c (n.toNat)) lq - pC cap lq) (pS (capL cap c (n.toNat)) lq - pS cap lq) 100).slots = pS (capL cap c (n.toNat)) lq - pS cap lq := rfl
  have hpt0 := fun j : Nat => fun (h : j ≤ n.toNat) => pC_LL (lc := lq) cap c hcap0 h
  refine mv_iconst (z := 0) B d_Mod_applications_0 rfl ?_
  refine mv_istore_n (lv' := [(2, .int (iI (0))), (0, .ref r), (1, .int (iI (n)))]) B d_Mod_applications_1 rfl (by decide) rfl ?_
  have L2 : ∀ (fu : Nat) (i : Nat) (Ay1 : Nat → Nat) (My1 : mv_M), ((i : Int) ≤ n) → (RefC V My1 r Ay1 (rN (capL cap c (i)) lq) (appF F c (apL i)) ((c + (i) : Nat) : Int) tn gn) → (n.toNat - i) < fu → mv_G X Q (kk V) 3 2 [(2, .int (iI ((i : Nat)))), (0, .ref r), (1, .int (iI (n)))] [] My1 (pC (capL cap c (i)) lq - pC cap lq) (pS (capL cap c (i)) lq - pS cap lq) := by
    intro fu
    induction fu with
    | zero => intro i Ay1 My1 hi hCl hm; exact absurd hm (Nat.not_lt_zero _)
    | succ fu ih2 =>
      intro i Ay1 My1 hi hCl hm
      have hcl := capL_c hcap0 hcc i
      have hcg := capL_ge cap c i
      have hcb1 := hcb i (by omega)
      have hpl := pC_L (lc := lq) c hcap0 i
      have hpt := fun h => hpt0 (i + 1) h
      refine mv_iload_n B d_Mod_applications_2 rfl 0 rfl ?_
      refine mv_iload_n B d_Mod_applications_3 rfl 2 rfl ?_
      refine mv_icmp_ge (tgt := 21) B d_Mod_applications_4 (by decide) (by omega) (by omega) (fun c3 => ?_) (fun c3 => ?_)
      · rw [hQ]
        have ei : n.toNat = i := by omega
        exact mv_vret B ⟨rfl, Ay1, by rw [ei]; exact hCl⟩ (by rw [ei]; exact Nat.le_refl _) (by rw [ei]; exact Nat.le_refl _) d_Mod_applications_21
      · refine mv_aloadR_n B d_Mod_applications_7 rfl 1 rfl ?_
        refine mv_iconst (z := 4) B d_Mod_applications_8 rfl ?_
        refine mv_iconst (z := 0) B d_Mod_applications_9 rfl ?_
        refine mv_iconst (z := 0) B d_Mod_applications_10 rfl ?_
        have n4q : pC (capL cap c (i + 1)) lq = pC (capN (capL cap c (i)) (((c + (i) : Nat) : Int))) lq := rfl
        have n4r : pS (capL cap c (i + 1)) lq = pS (capN (capL cap c (i)) (((c + (i) : Nat) : Int))) lq := rfl
        have n4p := pC_N (lc := lq) (c := ((c + (i) : Nat) : Int)) (show 1 ≤ capL cap c (i) by omega)
        refine ca_Mod_63 (mc := pC (capN (capL cap c (i)) (((c + (i) : Nat) : Int))) lq - pC (capL cap c (i)) lq) (ms := pS (capN (capL cap c (i)) (((c + (i) : Nat) : Int))) lq - pS (capL cap c (i)) lq) (rm' := rM 2 (pC (capN (capL cap c (i)) (((c + (i) : Nat) : Int))) lq - pC (capL cap c (i)) lq) (pS (capN (capL cap c (i)) (((c + (i) : Nat) : Int))) lq - pS (capL cap c (i)) lq) 70) (As := [.int (iI (4)), .int (iI (0)), .int (iI (0))]) (rest := []) B (m_Mod_add hCl (by omega) (by omega) (k := 4) (v := 0) (s := 0) (by omega) (by omega) (by omega)) rfl rfl ⟨Nat.le_of_ble_eq_true rfl, Nat.le_of_ble_eq_true rfl⟩ hCl.1 rfl rfl (Nat.le_of_ble_eq_true rfl) d_Mod_applications_11 ⟨(by omega), (by omega)⟩ (fun v1 n4M ep => ?_)
        obtain ⟨e1, n4A, n4C⟩ := ep
        subst e1
        have n4D : RefC V n4M r n4A (rN (capL cap c (i + 1)) lq) (appF F c (apL i ++ [(4, 0, 0)])) ((c + (i + 1) : Nat) : Int) tn gn := by
          have h := n4C
          rw [show (((c + (i) : Nat) : Int)).toNat = c + (apL i).length by rw [apL_len]; omega, ← appF_1] at h; exact h
        refine mv_widen (c2 := pC (capL cap c (i + 1)) lq - pC cap lq) (s2 := pS (capL cap c (i + 1)) lq - pS cap lq) (by omega) (by omega) ?_
        show mv_G X Q (kk V) 3 14 [(2, .int (iI ((i : Nat)))), (0, .ref r), (1, .int (iI (n)))] [.int (iI (((c + (i) : Nat) : Int)))] n4M (pC (capL cap c (i + 1)) lq - pC cap lq) (pS (capL cap c (i + 1)) lq - pS cap lq)
        refine mv_pop B d_Mod_applications_14 rfl ?_
        refine mv_iinc (lv' := [(2, .int (iI ((i : Nat) + 1))), (0, .ref r), (1, .int (iI (n)))]) B d_Mod_applications_15 0 rfl (by decide) rfl ?_
        refine mv_goto (tgt := 2) B d_Mod_applications_18 (by decide) ?_
        refine mv_lv (lv' := [(2, .int (iI (((i + 1) : Nat)))), (0, .ref r), (1, .int (iI (n)))]) [0, 1, 2] (lc (lI (by first | rfl | omega)) (lc rfl (lc rfl rfl))) ?_
        refine mv_widen (c2 := pC (capL cap c ((i + 1))) lq - pC cap lq) (s2 := pS (capL cap c ((i + 1))) lq - pS cap lq) (by omega) (by omega) ?_
        exact ih2 (i + 1) n4A n4M (by omega) (by have h := n4D; rw [apL_s]; exact h) (by omega)
  refine mv_lv (lv' := [(2, .int (iI ((0 : Nat)))), (0, .ref r), (1, .int (iI (n)))]) [0, 1, 2] (lc (lI (by first | rfl | omega)) (lc rfl (lc rfl rfl))) ?_
  refine mv_widen (c2 := pC (capL cap c (0)) lq - pC cap lq) (s2 := pS (capL cap c (0)) lq - pS cap lq) (Nat.zero_le _) (Nat.zero_le _) ?_
  exact L2 _ 0 A M hn.1 (by have h := hC; rw [show (appF F c (apL 0)) = F from rfl, show capL cap c (0) = cap from rfl]; exact h) (Nat.lt_succ_self _)
