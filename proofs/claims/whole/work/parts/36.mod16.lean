/-! the reference: what was written, by agreement -/
def gN (ys : List Nd) (i : Nat) : Nd := ys.getD i (0, 0, 0)
/-- F' comes of F by writing ys at c (depths, levels and what lies behind are free) -/
def WR (F F' : Nat → Nat → Int) (c : Nat) (ys : List Nd) : Prop := (∀ j x, j < 4 → x < c → F' j x = F j x) ∧ (∀ j, 5 ≤ j → j < 12 → F' j = F j) ∧ (∀ i, i < ys.length → F' 0 (c + i) = (gN ys i).1 ∧ F' 1 (c + i) = (gN ys i).2.1 ∧ F' 2 (c + i) = (gN ys i).2.2)
theorem gN_l {ys zs : List Nd} {i : Nat} (h : i < ys.length) : gN (ys ++ zs) i = gN ys i := by
  unfold gN
  rw [List.getD_eq_getElem?_getD, List.getD_eq_getElem?_getD, List.getElem?_append_left h]
theorem gN_r {ys zs : List Nd} {i : Nat} : gN (ys ++ zs) (ys.length + i) = gN zs i := by
  unfold gN
  rw [List.getD_eq_getElem?_getD, List.getD_eq_getElem?_getD, List.getElem?_append_right (by omega), show ys.length + i - ys.length = i by omega]
theorem WR_nil {F : Nat → Nat → Int} {c : Nat} : WR F F c [] := ⟨fun _ _ _ _ => rfl, fun _ _ _ => rfl, fun i h => absurd h (by simp)⟩
theorem WR_app {F F1 F2 : Nat → Nat → Int} {c : Nat} {ys zs : List Nd} (h : WR F F1 c ys) (k : WR F1 F2 (c + ys.length) zs) : WR F F2 c (ys ++ zs) := by
  refine ⟨fun j x hj hx => by rw [k.1 j x hj (by omega), h.1 j x hj hx], fun j a b => by rw [k.2.1 j a b, h.2.1 j a b], fun i hi => ?_⟩
  by_cases q : i < ys.length
  · rw [gN_l q, k.1 0 _ (by omega) (by omega), k.1 1 _ (by omega) (by omega), k.1 2 _ (by omega) (by omega)]
    exact h.2.2 i q
  · obtain ⟨m, rfl⟩ : ∃ m, i = ys.length + m := ⟨i - ys.length, by omega⟩
    rw [gN_r, ← Nat.add_assoc]
    exact k.2.2 m (by rw [List.length_append] at hi; omega)
theorem addF_at (F : Nat → Nat → Int) (c : Nat) (k v s : Int) : addF F c k v s 0 c = k ∧ addF F c k v s 1 c = v ∧ addF F c k v s 2 c = s := by
  refine ⟨?_, ?_, ?_⟩ <;> simp [addF, va_up]
theorem WR_F : ∀ (ys : List Nd) (F : Nat → Nat → Int) (c : Nat), WR F (appF F c ys) c ys
  | [], F, c => WR_nil
  | (k, v, s) :: ys, F, c => by
    have h := WR_F ys (addF F c k v s) (c + 1)
    have h0 : WR F (addF F c k v s) c [(k, v, s)] := by
      refine ⟨fun j x hj hx => ?_, fun j a b => ?_, fun i hi => ?_⟩
      · exact appF_lt (F := F) (c := c) j [(k, v, s)] hx
      · exact appF_ge (F := F) (c := c) (by omega) [(k, v, s)]
      · have : i = 0 := by simp at hi; omega
        subst this
        exact addF_at F c k v s
    exact WR_app (ys := [(k, v, s)]) h0 h
theorem WR_3 {F F' : Nat → Nat → Int} {c : Nat} {ys : List Nd} (h : WR F F' c ys) {L : Nat → Int} (hL : ∀ x, x < c → L x = F 3 x) : WR F (va_up F' 3 L) c ys := by
  refine ⟨fun j x hj hx => ?_, fun j a b => by rw [va_un (by omega)]; exact h.2.1 j a b, fun i hi => ?_⟩
  · by_cases e : j = 3
    · subst e; rw [va_us]; exact hL x hx
    · rw [va_un e]; exact h.1 j x hj hx
  · rw [va_un (by omega), va_un (by omega), va_un (by omega)]
    exact h.2.2 i hi
theorem WR_s {F F' : Nat → Nat → Int} {c : Nat} {ys : List Nd} (h : WR F F' c ys) {j : Nat} (hj : j = 4 ∨ j = 12) (L : Nat → Int) : WR F (va_up F' j L) c ys := by
  refine ⟨fun i x hi hx => by rw [va_un (by omega)]; exact h.1 i x hi hx, fun i a b => by rw [va_un (by omega)]; exact h.2.1 i a b, fun i hi => ?_⟩
  rw [va_un (by omega), va_un (by omega), va_un (by omega)]
  exact h.2.2 i hi
theorem sgL_ag {F F' : Nat → Nat → Int} {c : Nat} (h : ∀ j x, j < 4 → x < c → F' j x = F j x) {b : Nat} : ∀ n, b + n ≤ c → sgL F' b n = sgL F b n
  | 0, _ => rfl
  | n + 1, hn => by
    simp only [sgL]
    rw [sgL_ag h n (by omega), h 0 _ (by omega) (by omega), h 1 _ (by omega) (by omega), h 2 _ (by omega) (by omega)]
/-- a term more, or none: ys was written at c, lengths ℓ -/
def nwT (V : mv_V) (M' : mv_M) (r cap lq : Nat) (F : Nat → Nat → Int) (c : Nat) (ys : List Nd) (ℓ : Nat → Nat) (tn gn : Int) : Prop := ∃ A' F', (∀ j x, j < 4 → x < c → F' j x = F j x) ∧ (∀ j, 6 ≤ j → j < 12 → F' j = F j) ∧ (((tn = 1500 ∨ 1000 < ys.length ∨ 30000 < c + ys.length) ∧ F' 5 = F 5 ∧ RefC V M' r A' (rN cap lq) F' (c : Nat) tn gn) ∨ (¬ (tn = 1500 ∨ 1000 < ys.length ∨ 30000 < c + ys.length) ∧ F' 5 = va_up (F 5) tn.toNat (c : Nat) ∧ (∀ i, i < ys.length → F' 0 (c + i) = (gN ys i).1 ∧ F' 1 (c + i) = (gN ys i).2.1 ∧ F' 2 (c + i) = (gN ys i).2.2 ∧ F' 3 (c + i) = ℓ i) ∧ RefC V M' r A' (rN cap lq) F' ((c + ys.length : Nat) : Int) (tn + 1) gn))
theorem nwT_of {V : mv_V} {M' : mv_M} {r : Nat} {A : Nat → Nat} {cap lq : Nat} {F F1 : Nat → Nat → Int} {c n : Nat} {ys : List Nd} {ℓ : Nat → Nat} {tn gn : Int} (hn : ys.length = n) (hw : WR F F1 c ys) (h : tmE V M' r A cap lq F1 c n ℓ ((c + n : Nat) : Int) tn gn) : nwT V M' r cap lq F c ys ℓ tn gn := by
  subst hn
  rcases h with ⟨h1, h2⟩ | ⟨h1, h2⟩
  · exact ⟨A, F1, hw.1, fun j a b => hw.2.1 j (by omega) b, Or.inl ⟨h1, hw.2.1 5 (by omega) (by omega), h2⟩⟩
  · refine ⟨A, _, fun j x hj hx => ?_, fun j a b => ?_, Or.inr ⟨h1, ?_, fun i hi => ?_, h2⟩⟩
    · rw [va_un (by omega)]
      by_cases e : j = 3
      · subst e
        rw [va_us, ← hw.1 3 x (by omega) hx]
        unfold msR
        rw [if_neg (by omega)]
      · rw [va_un e]; exact hw.1 j x hj hx
    · rw [va_un (by omega), va_un (by omega)]
      exact hw.2.1 j (by omega) b
    · rw [va_us, hw.2.1 5 (by omega) (by omega)]
    · obtain ⟨p, q, s⟩ := hw.2.2 i hi
      rw [va_un (by omega), va_un (by omega), va_un (by omega), va_un (by omega), va_un (by omega), va_un (by omega), va_un (by omega), va_us]
      refine ⟨p, q, s, ?_⟩
      exact msR_at (by omega) hi
theorem WF_cg {n : Nat} {k k' : Nat → Int} {ℓ : Nat → Nat} (h : WF n k ℓ) (e : ∀ i, i < n → k' i = k i) : WF n k' ℓ := by
  intro i hi
  rw [e i hi]
  exact h i hi
/-- the callee's writing, put behind what was written before -/
def wrP (V : mv_V) (r cap lq lq' : Nat) (F : Nat → Nat → Int) (c : Nat) (tn gn : Int) (zs : List Nd) (Λ : Nat → Int) (M' : mv_M) : Prop := ∃ A' F', WR F F' c zs ∧ F' 12 = Λ ∧ RefC V M' r A' (rN (capL cap c zs.length) lq') F' ((c + zs.length : Nat) : Int) tn gn
theorem wrP_app {V : mv_V} {r cap lq lq1 lq' : Nat} {F F1 : Nat → Nat → Int} {c : Nat} {tn gn : Int} {ys zs : List Nd} {Λ : Nat → Int} {M' : mv_M} (h : WR F F1 c ys) (k : wrP V r (capL cap c ys.length) lq1 lq' F1 (c + ys.length) tn gn zs Λ M') : wrP V r cap lq lq' F c tn gn (ys ++ zs) Λ M' := by
  obtain ⟨A', F', hw, hl, hC⟩ := k
  refine ⟨A', F', WR_app h hw, hl, ?_⟩
  rw [List.length_append, capL_add, ← Nat.add_assoc]
  exact hC
theorem wrP_F {V : mv_V} {r cap lq : Nat} {F : Nat → Nat → Int} {c : Nat} {tn gn : Int} {zs : List Nd} {n : Nat} {M' : mv_M} (hn : zs.length = n) (h : RefAt V M' r (capL cap c n) lq (appF F c zs) ((c + n : Nat) : Int) tn gn) : wrP V r cap lq lq F c tn gn zs (F 12) M' := by
  subst hn
  obtain ⟨A', hC⟩ := h
  exact ⟨A', _, WR_F zs F c, appF_ge (by omega) zs, hC⟩
theorem wrP_c {V : mv_V} {r cap lq : Nat} {F : Nat → Nat → Int} {c : Nat} {tn gn : Int} {b n : Nat} {M' : mv_M} (h : ∃ (A' : Nat → Nat) (L' : Nat → Int), (∀ x, x < c → L' x = F 3 x) ∧ RefC V M' r A' (rN (capL cap c n) lq) (va_up (appF F c (sgL F b n)) 3 L') ((c + n : Nat) : Int) tn gn) : wrP V r cap lq lq F c tn gn (sgL F b n) (F 12) M' := by
  obtain ⟨A', L', hL, hC⟩ := h
  refine ⟨A', _, WR_3 (WR_F (sgL F b n) F c) hL, ?_, ?_⟩
  · rw [va_un (by omega)]; exact appF_ge (by omega) _
  · rw [sgL_len]; exact hC
theorem m_Mod_copyN {l : Launch} {V : mv_V} {M : mv_M} {r cap lq c : Nat} {A : Nat → Nat} {F : Nat → Nat → Int} {tn gn : Int} (hC : RefC V M r A (rN cap lq) F (c : Nat) tn gn) (hcc : c ≤ cap) (hcap0 : 1 ≤ cap) (hcap : cap ≤ 1000000) {b n : Nat} (hn : F 3 b = (n : Nat)) (hb : b + n ≤ c ∧ b < cap) (hcb : ∀ j : Nat, j ≤ n → capL cap c j ≤ 1000000) : Met l y_Mod_copy ws_Mod_copy (rM 3 (pC (capL cap c n) lq - pC cap lq) (pS (capL cap c n) lq - pS cap lq) 100) (mv_Pre (kk V) [.ref r, .int (iI ((b : Nat)))] M) (mv_Q (kk V) (fun z0 M' => z0 = none ∧ ∃ (A' : Nat → Nat) (L' : Nat → Int), (∀ x, x < c → L' x = F 3 x) ∧ RefC V M' r A' (rN (capL cap c n) lq) (va_up (appF F c (sgL F b n)) 3 L') ((c + n : Nat) : Int) tn gn)) (pC (capL cap c n) lq - pC cap lq) (pS (capL cap c n) lq - pS cap lq) V.2.2.2.2 := by
  have h := m_Mod_copy (l := l) hC hcc hcap0 hcap (b := b) (by omega) (fun j hj => hcb j (by omega))
  have e : (F 3 b).toNat = n := by omega
  rw [e] at h
  exact h
set_option maxRecDepth 100000 in
set_option maxHeartbeats 4000000 in
theorem m_Mod_two {l : Launch} {V : mv_V} {M : mv_M} {r cap lq c : Nat} {A : Nat → Nat} {F : Nat → Nat → Int} {tn gn : Int} (hC : RefC V M r A (rN cap lq) F (c : Nat) tn gn) (hcc : c ≤ cap) (hcap0 : 1 ≤ cap) {k v : Int} {ta tb ba bb na nb : Nat} {ℓ : Nat → Nat} (rk : Sm k) (rv : Sm v) (hta : ta < 1500) (htb : tb < 1500) (hba : F 5 ta = (ba : Nat)) (hbb : F 5 tb = (bb : Nat)) (hna : F 3 ba = (na : Nat)) (hnb : F 3 bb = (nb : Nat)) (hla : ba + na ≤ c ∧ ba < c) (hlb : bb + nb ≤ c ∧ bb < c) (ht : 0 ≤ tn ∧ tn ≤ 1500) (hcb : ∀ j : Nat, j ≤ (1 + na + nb) → capL cap c j ≤ 1000000) (hw : (1 + na + nb) ≤ 1000 → WF (1 + na + nb) (fun j => (gN ((k, v, 0) :: (sgL F ba na ++ sgL F bb nb)) j).1) ℓ) : Met l y_Mod_two ws_Mod_two (rM 4 (pC (capL cap c (1 + na + nb)) lq - pC cap lq) (pS (capL cap c (1 + na + nb)) lq - pS cap lq) 140) (mv_Pre (kk V) [.ref r, .int (iI (k)), .int (iI (v)), .int (iI ((ta : Nat))), .int (iI ((tb : Nat)))] M) (mv_Q (kk V) (fun z0 M' => z0 = some (.int (iI (if (tn = 1500 ∨ 1000 < (1 + na + nb) ∨ 30000 < c + (1 + na + nb)) then -1 else tn))) ∧ nwT V M' r (capL cap c (1 + na + nb)) lq F c ((k, v, 0) :: (sgL F ba na ++ sgL F bb nb)) ℓ tn gn)) (pC (capL cap c (1 + na + nb)) lq - pC cap lq) (pS (capL cap c (1 + na + nb)) lq - pS cap lq) V.2.2.2.2 := by
  refine mv_Met (by decide) rfl (Nat.le_of_ble_eq_true rfl) (fun X hX B => ?_)
  subst hX
  replace B : mv_B X (kk V) c_Mod_two ws_Mod_two "FamilyRulesModel" 6 (Option.some Jvm.ClassFile.FieldType.int) (rM 4 (pC (capL cap c (1 + na + nb)) lq - pC cap lq) (pS (capL cap c (1 + na + nb)) lq - pS cap lq) 140) "two" := B
  obtain ⟨Q, hQ⟩ : ∃ Q, Q = mv_E X (kk V) (fun z0 M' => z0 = some (.int (iI (if (tn = 1500 ∨ 1000 < (1 + na + nb) ∨ 30000 < c + (1 + na + nb)) then -1 else tn))) ∧ nwT V M' r (capL cap c (1 + na + nb)) lq F c ((k, v, 0) :: (sgL F ba na ++ sgL F bb nb)) ℓ tn gn) (pC (capL cap c (1 + na + nb)) lq - pC cap lq) (pS (capL cap c (1 + na + nb)) lq - pS cap lq) := ⟨_, rfl⟩
  rw [← hQ]
  show mv_G X Q (kk V) 6 0 [(0, .ref r), (1, .int (iI (k))), (2, .int (iI (v))), (3, .int (iI ((ta : Nat)))), (4, .int (iI ((tb : Nat))))] [] M 0 0
  have hrc : (rM 4 (pC (capL cap c (1 + na + nb)) lq - pC cap lq) (pS (capL cap c (1 + na + nb)) lq - pS cap lq) 140).cells = pC (capL cap c (1 + na + nb)) lq - pC cap lq := rfl
  have hrs : (rM 4 (pC (capL cap c (1 + na + nb)) lq - pC cap lq) (pS (capL cap c (1 + na + nb)) lq - pS cap lq) 140).slots = pS (capL cap c (1 + na + nb)) lq - pS cap lq := rfl
  obtain ⟨Y0, hY0⟩ : ∃ Y : List Nd, Y = [] := ⟨_, rfl⟩
  have hl0 : Y0.length = 0 := by rw [hY0]; rfl
  have hC0 : RefC V M r A (rN (capL cap c Y0.length) lq) F ((c + Y0.length : Nat) : Int) tn gn := by rw [hl0]; exact hC
  have hW0 : WR F F c Y0 := by rw [hY0]; exact WR_nil
  have hcl0 := capL_c hcap0 hcc Y0.length
  have hcg0 := capL_ge cap c Y0.length
  have hpl0 := pC_L (lc := lq) c hcap0 Y0.length
  have hcb0 := hcb Y0.length (by omega)
  have hpt0 := pC_LL (lc := lq) cap c hcap0 (show Y0.length ≤ (1 + na + nb) by omega)
  have k1_5 : M (A 5) = some (iA V (1500) (F 5)) := hC0.2.1 5 (by decide)
  refine mv_aloadR_n B d_Mod_two_0 rfl 0 rfl ?_
  refine mv_iload_n B d_Mod_two_1 rfl 1 rfl ?_
  refine mv_iload_n B d_Mod_two_2 rfl 2 rfl ?_
  refine mv_iconst (z := 0) B d_Mod_two_3 rfl ?_
  have w1e : capL (capL cap c Y0.length) (c + Y0.length) (1) = capL cap c (Y0.length + (1)) := (capL_add cap c Y0.length (1)).symm
  have w1q := pC_LL (lc := lq) cap c hcap0 (show Y0.length ≤ Y0.length + (1) by omega)
  have w1t := pC_LL (lc := lq) cap c hcap0 (show Y0.length + (1) ≤ (1 + na + nb) by omega)
  refine ca_Mod_63 (mc := pC (capL (capL cap c Y0.length) (c + Y0.length) (1)) lq - pC (capL cap c Y0.length) lq) (ms := pS (capL (capL cap c Y0.length) (c + Y0.length) (1)) lq - pS (capL cap c Y0.length) lq) (rm' := rM 2 (pC (capL (capL cap c Y0.length) (c + Y0.length) (1)) lq - pC (capL cap c Y0.length) lq) (pS (capL (capL cap c Y0.length) (c + Y0.length) (1)) lq - pS (capL cap c Y0.length) lq) 70) (As := [.int (iI (k)), .int (iI (v)), .int (iI (0))]) (rest := []) B (m_Mod_add hC0 (by omega) (by omega) (k := k) (v := v) (s := 0) (by omega) (by omega) (by omega)) rfl rfl ⟨Nat.le_of_ble_eq_true rfl, Nat.le_of_ble_eq_true rfl⟩ hC0.1 rfl rfl (Nat.le_of_ble_eq_true rfl) d_Mod_two_4 ⟨by rw [w1e]; omega, by rw [w1e]; omega⟩ (fun v1 w1M ep => ?_)
  obtain ⟨e1, w1P⟩ := ep
  subst e1
  have w1U : wrP V r (capL cap c Y0.length) lq lq F (c + Y0.length) tn gn ([(k, v, 0)]) (F 12) w1M := wrP_F (n := 1) rfl (by have h := w1P; rw [show (((c + Y0.length : Nat) : Int)).toNat = c + Y0.length by omega] at h; exact h)
  have w1U := wrP_app (lq := lq) hW0 w1U
  obtain ⟨w1Y, w1h⟩ : ∃ Y : List Nd, Y = Y0 ++ ([(k, v, 0)]) := ⟨_, rfl⟩
  rw [← w1h] at w1U
  have w1l : w1Y.length = Y0.length + (1) := by rw [w1h, List.length_append]; rfl
  obtain ⟨w1A, w1F, w1W, w1L, w1C⟩ := w1U
  rw [← w1l] at w1e w1q w1t
  have w1b := hcb w1Y.length (by omega)
  have w1c := capL_c hcap0 hcc w1Y.length
  have w1g := capL_ge cap c w1Y.length
  refine mv_widen (c2 := pC (capL cap c w1Y.length) lq - pC cap lq) (s2 := pS (capL cap c w1Y.length) lq - pS cap lq) (by rw [w1e]; omega) (by rw [w1e]; omega) ?_
  show mv_G X Q (kk V) 6 7 [(0, .ref r), (1, .int (iI (k))), (2, .int (iI (v))), (3, .int (iI ((ta : Nat)))), (4, .int (iI ((tb : Nat))))] [.int (iI (((c + Y0.length : Nat) : Int)))] w1M (pC (capL cap c w1Y.length) lq - pC cap lq) (pS (capL cap c w1Y.length) lq - pS cap lq)
  have k1_5 : w1M (w1A 5) = some (iA V (1500) (w1F 5)) := w1C.2.1 5 (by decide)
  rw [show ((c + Y0.length : Nat) : Int) = ((c : Nat) : Int) by omega]
  refine mv_istore (lv' := [(5, .int (iI ((c : Nat)))), (0, .ref r), (1, .int (iI (k))), (2, .int (iI (v))), (3, .int (iI ((ta : Nat)))), (4, .int (iI ((tb : Nat))))]) B d_Mod_two_7 (by decide) rfl ?_
  refine mv_aloadR_n B d_Mod_two_9 rfl 1 rfl ?_
  refine mv_aloadR_n B d_Mod_two_10 rfl 1 rfl ?_
  refine gf_Mod_25 B w1C.1 rfl d_Mod_two_11 ?_
  refine mv_iload_n B d_Mod_two_14 rfl 4 rfl ?_
  refine ia_ld B k1_5 (by omega) (by omega) (by omega) d_Mod_two_15 ?_
  rw [show Int.toNat ((ta : Nat)) = ta from by omega]
  have rr2 : R32 ((w1F 5) ta) := (w1C.R 5) _
  rw [show w1F 5 = F 5 from w1W.2.1 5 (by omega) (by omega), hba]
  have w2e : capL (capL cap c w1Y.length) (c + w1Y.length) (na) = capL cap c (w1Y.length + (na)) := (capL_add cap c w1Y.length (na)).symm
  have w2q := pC_LL (lc := lq) cap c hcap0 (show w1Y.length ≤ w1Y.length + (na) by omega)
  have w2t := pC_LL (lc := lq) cap c hcap0 (show w1Y.length + (na) ≤ (1 + na + nb) by omega)
  have w2n : w1F 3 ba = (na : Nat) := by rw [w1W.1 3 ba (by omega) (by omega)]; omega
  have w2v : ∀ j : Nat, j ≤ na → capL (capL cap c w1Y.length) (c + w1Y.length) j ≤ 1000000 := fun j hj => by rw [← capL_add]; exact hcb _ (by omega)
  refine ca_Mod_87 (mc := pC (capL (capL cap c w1Y.length) (c + w1Y.length) (na)) lq - pC (capL cap c w1Y.length) lq) (ms := pS (capL (capL cap c w1Y.length) (c + w1Y.length) (na)) lq - pS (capL cap c w1Y.length) lq) (rm' := rM 3 (pC (capL (capL cap c w1Y.length) (c + w1Y.length) (na)) lq - pC (capL cap c w1Y.length) lq) (pS (capL (capL cap c w1Y.length) (c + w1Y.length) (na)) lq - pS (capL cap c w1Y.length) lq) 100) (As := [.int (iI ((ba : Nat)))]) (rest := []) B (m_Mod_copyN w1C (by omega) (by omega) (by omega) (b := ba) (n := na) w2n (by omega) w2v) rfl rfl ⟨Nat.le_of_ble_eq_true rfl, Nat.le_of_ble_eq_true rfl⟩ w1C.1 rfl rfl (Nat.le_of_ble_eq_true rfl) d_Mod_two_16 ⟨by rw [w2e]; omega, by rw [w2e]; omega⟩ (fun v1 w2M ep => ?_)
  obtain ⟨e1, w2P⟩ := ep
  subst e1
  have w2U : wrP V r (capL cap c w1Y.length) lq lq w1F (c + w1Y.length) tn gn (sgL w1F ba na) (w1F 12) w2M := wrP_c w2P
  have w2U := wrP_app (lq := lq) w1W w2U
  obtain ⟨w2Y, w2h⟩ : ∃ Y : List Nd, Y = w1Y ++ (sgL w1F ba na) := ⟨_, rfl⟩
  rw [← w2h] at w2U
  have w2l : w2Y.length = w1Y.length + (na) := by rw [w2h, List.length_append]; rw [sgL_len]
  obtain ⟨w2A, w2F, w2W, w2L, w2C⟩ := w2U
  rw [← w2l] at w2e w2q w2t
  have w2b := hcb w2Y.length (by omega)
  have w2c := capL_c hcap0 hcc w2Y.length
  have w2g := capL_ge cap c w2Y.length
  refine mv_widen (c2 := pC (capL cap c w2Y.length) lq - pC cap lq) (s2 := pS (capL cap c w2Y.length) lq - pS cap lq) (by rw [w2e]; omega) (by rw [w2e]; omega) ?_
  show mv_G X Q (kk V) 6 19 [(5, .int (iI ((c : Nat)))), (0, .ref r), (1, .int (iI (k))), (2, .int (iI (v))), (3, .int (iI ((ta : Nat)))), (4, .int (iI ((tb : Nat))))] [] w2M (pC (capL cap c w2Y.length) lq - pC cap lq) (pS (capL cap c w2Y.length) lq - pS cap lq)
  have k3_5 : w2M (w2A 5) = some (iA V (1500) (w2F 5)) := w2C.2.1 5 (by decide)
  refine mv_aloadR_n B d_Mod_two_19 rfl 1 rfl ?_
  refine mv_aloadR_n B d_Mod_two_20 rfl 1 rfl ?_
  refine gf_Mod_25 B w2C.1 rfl d_Mod_two_21 ?_
  refine mv_iload B d_Mod_two_24 5 rfl ?_
  refine ia_ld B k3_5 (by omega) (by omega) (by omega) d_Mod_two_26 ?_
  rw [show Int.toNat ((tb : Nat)) = tb from by omega]
  have rr4 : R32 ((w2F 5) tb) := (w2C.R 5) _
  rw [show w2F 5 = F 5 from w2W.2.1 5 (by omega) (by omega), hbb]
  have w3e : capL (capL cap c w2Y.length) (c + w2Y.length) (nb) = capL cap c (w2Y.length + (nb)) := (capL_add cap c w2Y.length (nb)).symm
  have w3q := pC_LL (lc := lq) cap c hcap0 (show w2Y.length ≤ w2Y.length + (nb) by omega)
  have w3t := pC_LL (lc := lq) cap c hcap0 (show w2Y.length + (nb) ≤ (1 + na + nb) by omega)
  have w3n : w2F 3 bb = (nb : Nat) := by rw [w2W.1 3 bb (by omega) (by omega)]; omega
  have w3v : ∀ j : Nat, j ≤ nb → capL (capL cap c w2Y.length) (c + w2Y.length) j ≤ 1000000 := fun j hj => by rw [← capL_add]; exact hcb _ (by omega)
  refine ca_Mod_87 (mc := pC (capL (capL cap c w2Y.length) (c + w2Y.length) (nb)) lq - pC (capL cap c w2Y.length) lq) (ms := pS (capL (capL cap c w2Y.length) (c + w2Y.length) (nb)) lq - pS (capL cap c w2Y.length) lq) (rm' := rM 3 (pC (capL (capL cap c w2Y.length) (c + w2Y.length) (nb)) lq - pC (capL cap c w2Y.length) lq) (pS (capL (capL cap c w2Y.length) (c + w2Y.length) (nb)) lq - pS (capL cap c w2Y.length) lq) 100) (As := [.int (iI ((bb : Nat)))]) (rest := []) B (m_Mod_copyN w2C (by omega) (by omega) (by omega) (b := bb) (n := nb) w3n (by omega) w3v) rfl rfl ⟨Nat.le_of_ble_eq_true rfl, Nat.le_of_ble_eq_true rfl⟩ w2C.1 rfl rfl (Nat.le_of_ble_eq_true rfl) d_Mod_two_27 ⟨by rw [w3e]; omega, by rw [w3e]; omega⟩ (fun v1 w3M ep => ?_)
  obtain ⟨e1, w3P⟩ := ep
  subst e1
  have w3U : wrP V r (capL cap c w2Y.length) lq lq w2F (c + w2Y.length) tn gn (sgL w2F bb nb) (w2F 12) w3M := wrP_c w3P
  have w3U := wrP_app (lq := lq) w2W w3U
  obtain ⟨w3Y, w3h⟩ : ∃ Y : List Nd, Y = w2Y ++ (sgL w2F bb nb) := ⟨_, rfl⟩
  rw [← w3h] at w3U
  have w3l : w3Y.length = w2Y.length + (nb) := by rw [w3h, List.length_append]; rw [sgL_len]
  obtain ⟨w3A, w3F, w3W, w3L, w3C⟩ := w3U
  rw [← w3l] at w3e w3q w3t
  have w3b := hcb w3Y.length (by omega)
  have w3c := capL_c hcap0 hcc w3Y.length
  have w3g := capL_ge cap c w3Y.length
  refine mv_widen (c2 := pC (capL cap c w3Y.length) lq - pC cap lq) (s2 := pS (capL cap c w3Y.length) lq - pS cap lq) (by rw [w3e]; omega) (by rw [w3e]; omega) ?_
  show mv_G X Q (kk V) 6 30 [(5, .int (iI ((c : Nat)))), (0, .ref r), (1, .int (iI (k))), (2, .int (iI (v))), (3, .int (iI ((ta : Nat)))), (4, .int (iI ((tb : Nat))))] [] w3M (pC (capL cap c w3Y.length) lq - pC cap lq) (pS (capL cap c w3Y.length) lq - pS cap lq)
  have k5_5 : w3M (w3A 5) = some (iA V (1500) (w3F 5)) := w3C.2.1 5 (by decide)
  refine mv_aloadR_n B d_Mod_two_30 rfl 1 rfl ?_
  refine mv_iload B d_Mod_two_31 0 rfl ?_
  have eY : w3Y = ((k, v, 0) :: (sgL F ba na ++ sgL F bb nb)) := by rw [w3h, w2h, w1h, hY0, sgL_ag w2W.1 nb (by omega), sgL_ag w1W.1 na (by omega)]; simp
  have eN : w3Y.length = (1 + na + nb) := by omega
  refine ca_Mod_84 (mc := 0) (ms := 0) (rm' := rM 1 0 0 30) (As := [.int (iI ((c : Nat)))]) (rest := []) B (m_Mod_term w3C (by omega) (b := c) (n := (1 + na + nb)) (ℓ := ℓ) (by omega) (by omega) (by omega) (fun hq => WF_cg (hw hq) (fun i hi => by rw [← eY]; exact (w3W.2.2 i (by omega)).1))) rfl rfl ⟨Nat.le_of_ble_eq_true rfl, Nat.le_of_ble_eq_true rfl⟩ w3C.1 rfl rfl (Nat.le_of_ble_eq_true rfl) d_Mod_two_33 ⟨by omega, by omega⟩ (fun v1 M9 ep => ?_)
  obtain ⟨e1, hT9⟩ := tm_v ep
  subst e1
  show mv_G X Q (kk V) 6 36 [(5, .int (iI ((c : Nat)))), (0, .ref r), (1, .int (iI (k))), (2, .int (iI (v))), (3, .int (iI ((ta : Nat)))), (4, .int (iI ((tb : Nat))))] [.int (iI (if (tn = 1500 ∨ 1000 < (1 + na + nb) ∨ 30000 < c + (1 + na + nb)) then -1 else tn))] M9 (pC (capL cap c w3Y.length) lq - pC cap lq) (pS (capL cap c w3Y.length) lq - pS cap lq)
  rw [hQ]
  rw [eN] at hT9
  exact mv_iret B ⟨rfl, nwT_of (by rw [← eY]; exact eN) (by rw [← eY]; exact w3W) hT9⟩ (by rw [eN]; exact Nat.le_refl _) (by rw [eN]; exact Nat.le_refl _) d_Mod_two_36
