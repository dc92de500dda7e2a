/-! A TERM that is written: its arrays at q, apart; what writing does -/
abbrev Q4 : Type := Nat × Nat × Nat × Nat
def TmC (V : mv_V) (M : mv_M) (h : Nat) (q : Q4) (t : Tm) : Prop := M h = some (.inr (0, [.ref q.1, .ref q.2.1, .ref q.2.2.1, .ref q.2.2.2])) ∧ M q.1 = some (iA V t.1 t.2.1) ∧ M q.2.1 = some (iA V t.1 t.2.2.1) ∧ M q.2.2.1 = some (iA V t.1 t.2.2.2.1) ∧ M q.2.2.2 = some (iA V t.1 t.2.2.2.2) ∧ q.1 ≠ q.2.1 ∧ q.1 ≠ q.2.2.1 ∧ q.1 ≠ q.2.2.2 ∧ q.2.1 ≠ q.2.2.1 ∧ q.2.1 ≠ q.2.2.2 ∧ q.2.2.1 ≠ q.2.2.2
theorem TmC.at {V : mv_V} {M : mv_M} {h : Nat} {q : Q4} {t : Tm} (c : TmC V M h q t) : TermAt V M h t := ⟨_, _, _, _, c.1, c.2.1, c.2.2.1, c.2.2.2.1, c.2.2.2.2.1⟩
def wrTm (V : mv_V) (M : mv_M) (q : Q4) (t : Tm) : mv_M := fun x => if x = q.1 then some (iA V t.1 t.2.1) else if x = q.2.1 then some (iA V t.1 t.2.2.1) else if x = q.2.2.1 then some (iA V t.1 t.2.2.2.1) else if x = q.2.2.2 then some (iA V t.1 t.2.2.2.2) else M x
theorem wrTm_self {V : mv_V} {M : mv_M} {h : Nat} {q : Q4} {t : Tm} (c : TmC V M h q t) : wrTm V M q t = M := by
  obtain ⟨-, h0, h1, h2, h3, -⟩ := c
  funext x
  unfold wrTm
  split
  · rename_i e; rw [e, h0]
  · split
    · rename_i e; rw [e, h1]
    · split
      · rename_i e; rw [e, h2]
      · split
        · rename_i e; rw [e, h3]
        · rfl
theorem wrTm_wr {V : mv_V} {M : mv_M} {q : Q4} {t t' : Tm} : wrTm V (wrTm V M q t) q t' = wrTm V M q t' := by
  funext x
  unfold wrTm
  split
  · rfl
  · split
    · rfl
    · split
      · rfl
      · split <;> rfl
theorem wrTm_ne {V : mv_V} {M : mv_M} {q : Q4} {t : Tm} {x : Nat} (h0 : x ≠ q.1) (h1 : x ≠ q.2.1) (h2 : x ≠ q.2.2.1) (h3 : x ≠ q.2.2.2) : wrTm V M q t x = M x := by
  unfold wrTm
  rw [if_neg h0, if_neg h1, if_neg h2, if_neg h3]
theorem wrTm_c {V : mv_V} {M : mv_M} {h : Nat} {q : Q4} {t t' : Tm} (c : TmC V M h q t) : TmC V (wrTm V M q t') h q t' := by
  obtain ⟨hh, h0, h1, h2, h3, n01, n02, n03, n12, n13, n23⟩ := c
  refine ⟨?_, ?_, ?_, ?_, ?_, n01, n02, n03, n12, n13, n23⟩
  · rw [wrTm_ne (mv_ne hh h0 (by simp)) (mv_ne hh h1 (by simp)) (mv_ne hh h2 (by simp)) (mv_ne hh h3 (by simp))]; exact hh
  · unfold wrTm; rw [if_pos rfl]
  · unfold wrTm; rw [if_neg n01.symm, if_pos rfl]
  · unfold wrTm; rw [if_neg n02.symm, if_neg n12.symm, if_pos rfl]
  · unfold wrTm; rw [if_neg n03.symm, if_neg n13.symm, if_neg n23.symm, if_pos rfl]
theorem wrTm_3 {V : mv_V} {M : mv_M} {h : Nat} {q : Q4} {t : Tm} (c : TmC V M h q t) (k u s : Nat → Int) : mv_up (mv_up (mv_up M q.1 (iA V t.1 k)) q.2.1 (iA V t.1 u)) q.2.2.1 (iA V t.1 s) = wrTm V M q (t.1, k, u, s, t.2.2.2.2) := by
  obtain ⟨-, h0, h1, h2, h3, n01, n02, n03, n12, n13, n23⟩ := c
  funext x
  unfold wrTm mv_up
  by_cases e0 : x = q.1
  · subst e0; simp [n01, n02]
  · by_cases e1 : x = q.2.1
    · subst e1; simp [n12, e0]
    · by_cases e2 : x = q.2.2.1
      · subst e2; simp [e0, e1]
      · by_cases e3 : x = q.2.2.2
        · subst e3; simp [e0, e1, e2, h3]
        · simp [e0, e1, e2, e3]
theorem wrTm_d {V : mv_V} {M : mv_M} {h : Nat} {q : Q4} {t : Tm} (c : TmC V M h q t) (d : Nat → Int) : mv_up M q.2.2.2 (iA V t.1 d) = wrTm V M q (t.1, t.2.1, t.2.2.1, t.2.2.2.1, d) := by
  obtain ⟨-, h0, h1, h2, h3, n01, n02, n03, n12, n13, n23⟩ := c
  funext x
  unfold wrTm mv_up
  by_cases e0 : x = q.1
  · subst e0; simp [n03, h0]
  · by_cases e1 : x = q.2.1
    · subst e1; simp [n13, h1, e0]
    · by_cases e2 : x = q.2.2.1
      · subst e2; simp [e0, e1, n23, h2]
      · by_cases e3 : x = q.2.2.2
        · subst e3; simp [e0, e1, e2]
        · simp [e0, e1, e2, e3]
def setT (t : Tm) (i k u s : Int) : Tm := if 0 ≤ i ∧ i < t.1 then (t.1, va_up t.2.1 i.toNat k, va_up t.2.2.1 i.toNat u, va_up t.2.2.2.1 i.toNat s, t.2.2.2.2) else t
def pasT (t o : Tm) (p : Nat) : Tm := (t.1, va_cpy o.2.1 t.2.1 0 p o.1, va_cpy o.2.2.1 t.2.2.1 0 p o.1, va_cpy o.2.2.2.1 t.2.2.2.1 0 p o.1, t.2.2.2.2)
/-- the lengths ℓ fit the kinds k: each place's run of places is it and its two parts' -/
def WF (n : Nat) (k : Nat → Int) (ℓ : Nat → Nat) : Prop := ∀ i, i < n → 1 ≤ ℓ i ∧ i + ℓ i ≤ n ∧ (k i < 4 → ℓ i = 1) ∧ (4 ≤ k i → i + 1 < n ∧ i + 1 + ℓ (i + 1) < n ∧ ℓ i = 1 + ℓ (i + 1) + ℓ (i + 1 + ℓ (i + 1)))
/-- the lengths from the end on, m of them -/
def dnF (n : Nat) (ℓ : Nat → Nat) (d0 : Nat → Int) (m : Nat) : Nat → Int := fun j => if n - m ≤ j ∧ j < n then (ℓ j : Int) else d0 j
theorem dnF_0 (n : Nat) (ℓ : Nat → Nat) (d0 : Nat → Int) : dnF n ℓ d0 0 = d0 := by
  funext j
  unfold dnF
  rw [if_neg (by omega)]
theorem dnF_s {n : Nat} {ℓ : Nat → Nat} {d0 : Nat → Int} {m : Nat} (hm : m < n) {x : Int} (hx : x = ℓ (n - 1 - m)) : va_up (dnF n ℓ d0 m) (n - 1 - m) x = dnF n ℓ d0 (m + 1) := by
  funext j
  unfold va_up dnF
  by_cases hj : j = n - 1 - m
  · rw [if_pos hj, if_pos (by omega), hx, hj]
  · rw [if_neg hj]
    by_cases h : n - m ≤ j ∧ j < n
    · rw [if_pos h, if_pos (by omega)]
    · rw [if_neg h, if_neg (by omega)]
theorem dnF_ok {t : Tm} (ho : Tok t) {ℓ : Nat → Nat} (hw : WF t.1 t.2.1 ℓ) (m : Nat) : Tok (t.1, t.2.1, t.2.2.1, t.2.2.2.1, dnF t.1 ℓ t.2.2.2.2 m) := by
  refine ⟨ho.1, ho.2.1, ho.2.2.1, ho.2.2.2.1, ho.2.2.2.2.1, fun j => ?_⟩
  show 0 ≤ dnF t.1 ℓ t.2.2.2.2 m j ∧ dnF t.1 ℓ t.2.2.2.2 m j ≤ 1000
  unfold dnF
  split
  · rename_i h
    have := hw j h.2
    have := ho.2.1
    omega
  · exact ho.2.2.2.2.2 j
theorem dnF_at {t : Tm} {ℓ : Nat → Nat} {m : Nat} {i : Int} (h : (t.1 : Int) - m ≤ i) (h2 : i < t.1) (h0 : 0 ≤ i) : dAt (t.1, t.2.1, t.2.2.1, t.2.2.2.1, dnF t.1 ℓ t.2.2.2.2 m) i = ℓ i.toNat := by
  unfold dAt dnF
  simp only
  rw [if_pos ⟨h0, h2⟩, if_pos (by omega)]
set_option maxRecDepth 100000 in
set_option maxHeartbeats 4000000 in
theorem m_Term_set {l : Launch} {V : mv_V} {M : mv_M} {h : Nat} {q : Q4} {t : Tm} (hC : TmC V M h q t) (hn : t.1 ≤ 1000) {i kd nu so : Int} (ri : R32 i) : Met l y_Term_set ws_Term_set (rM 0 0 0 0) (mv_Pre (kk V) [.ref h, .int (iI (i)), .int (iI (kd)), .int (iI (nu)), .int (iI (so))] M) (mv_Q (kk V) (mv_R none (wrTm V M q (setT t i kd nu so)))) 0 0 V.2.2.2.2 := by
  refine mv_Met (by decide) rfl (Nat.le_of_ble_eq_true rfl) (fun X hX B => ?_)
  subst hX
  replace B : mv_B X (kk V) c_Term_set ws_Term_set "FamilyRules$Term" 5 (Option.none : Option Jvm.ClassFile.FieldType) (rM 0 0 0 0) "set" := B
  obtain ⟨Q, hQ⟩ : ∃ Q, Q = mv_E X (kk V) (mv_R none (wrTm V M q (setT t i kd nu so))) 0 0 := ⟨_, rfl⟩
  rw [← hQ]
  show mv_G X Q (kk V) 5 0 [(0, .ref h), (1, .int (iI (i))), (2, .int (iI (kd))), (3, .int (iI (nu))), (4, .int (iI (so)))] [] M 0 0
  obtain ⟨hh, h0, h1, h2, h3, n01, n02, n03, n12, n13, n23⟩ := id hC
  refine mv_iload_n B d_Term_set_0 rfl 1 rfl ?_
  refine mv_if_lt (tgt := 35) B d_Term_set_1 (by decide) (by omega) (fun c1 => ?_) (fun c1 => ?_)
  · rw [hQ]
    exact mv_vret B ⟨rfl, (by unfold setT; rw [if_neg (by omega)]; exact (wrTm_self hC).symm)⟩ (by omega) (by omega) d_Term_set_35
  · refine mv_iload_n B d_Term_set_4 rfl 1 rfl ?_
    refine mv_aloadR_n B d_Term_set_5 rfl 0 rfl ?_
    refine gf_Term_15 B hh rfl d_Term_set_6 ?_
    refine ia_len B h0 d_Term_set_9 ?_
    refine mv_icmp_ge (tgt := 35) B d_Term_set_10 (by decide) (by omega) (by omega) (fun c2 => ?_) (fun c2 => ?_)
    · rw [hQ]
      exact mv_vret B ⟨rfl, (by unfold setT; rw [if_neg (by omega)]; exact (wrTm_self hC).symm)⟩ (by omega) (by omega) d_Term_set_35
    · refine mv_aloadR_n B d_Term_set_13 rfl 0 rfl ?_
      refine gf_Term_15 B hh rfl d_Term_set_14 ?_
      refine mv_iload_n B d_Term_set_17 rfl 1 rfl ?_
      refine mv_iload_n B d_Term_set_18 rfl 2 rfl ?_
      refine ia_st B h0 (by omega) (by omega) (by omega) d_Term_set_19 ?_
      obtain ⟨M3, hM4⟩ : ∃ My : mv_M, My = mv_up M q.1 (iA V t.1 (va_up t.2.1 (Int.toNat (i)) (kd))) := ⟨_, rfl⟩
      rw [← hM4]
      have hf5 : M3 h = some (.inr (0, [.ref q.1, .ref q.2.1, .ref q.2.2.1, .ref q.2.2.2])) := by rw [hM4, mv_un (mv_ne hh h0 (by simp))]; exact hh
      have hf6 : M3 q.1 = some (iA V t.1 (va_up t.2.1 (Int.toNat (i)) (kd))) := by rw [hM4]; exact mv_us
      have hf7 : M3 q.2.1 = some (iA V t.1 t.2.2.1) := by rw [hM4, mv_un (Ne.symm n01)]; exact h1
      have hf8 : M3 q.2.2.1 = some (iA V t.1 t.2.2.2.1) := by rw [hM4, mv_un (Ne.symm n02)]; exact h2
      have hf9 : M3 q.2.2.2 = some (iA V t.1 t.2.2.2.2) := by rw [hM4, mv_un (Ne.symm n03)]; exact h3
      refine mv_aloadR_n B d_Term_set_20 rfl 0 rfl ?_
      refine gf_Term_21 B hf5 rfl d_Term_set_21 ?_
      refine mv_iload_n B d_Term_set_24 rfl 1 rfl ?_
      refine mv_iload_n B d_Term_set_25 rfl 3 rfl ?_
      refine ia_st B hf7 (by omega) (by omega) (by omega) d_Term_set_26 ?_
      obtain ⟨M10, hM11⟩ : ∃ My : mv_M, My = mv_up M3 q.2.1 (iA V t.1 (va_up t.2.2.1 (Int.toNat (i)) (nu))) := ⟨_, rfl⟩
      rw [← hM11]
      have hf12 : M10 h = some (.inr (0, [.ref q.1, .ref q.2.1, .ref q.2.2.1, .ref q.2.2.2])) := by rw [hM11, mv_un (mv_ne hf5 hf7 (by simp))]; exact hf5
      have hf13 : M10 q.1 = some (iA V t.1 (va_up t.2.1 (Int.toNat (i)) (kd))) := by rw [hM11, mv_un n01]; exact hf6
      have hf14 : M10 q.2.1 = some (iA V t.1 (va_up t.2.2.1 (Int.toNat (i)) (nu))) := by rw [hM11]; exact mv_us
      have hf15 : M10 q.2.2.1 = some (iA V t.1 t.2.2.2.1) := by rw [hM11, mv_un (Ne.symm n12)]; exact hf8
      have hf16 : M10 q.2.2.2 = some (iA V t.1 t.2.2.2.2) := by rw [hM11, mv_un (Ne.symm n13)]; exact hf9
      refine mv_aloadR_n B d_Term_set_27 rfl 0 rfl ?_
      refine gf_Term_24 B hf12 rfl d_Term_set_28 ?_
      refine mv_iload_n B d_Term_set_31 rfl 1 rfl ?_
      refine mv_iload B d_Term_set_32 4 rfl ?_
      refine ia_st B hf15 (by omega) (by omega) (by omega) d_Term_set_34 ?_
      obtain ⟨M17, hM18⟩ : ∃ My : mv_M, My = mv_up M10 q.2.2.1 (iA V t.1 (va_up t.2.2.2.1 (Int.toNat (i)) (so))) := ⟨_, rfl⟩
      rw [← hM18]
      have hf19 : M17 h = some (.inr (0, [.ref q.1, .ref q.2.1, .ref q.2.2.1, .ref q.2.2.2])) := by rw [hM18, mv_un (mv_ne hf12 hf15 (by simp))]; exact hf12
      have hf20 : M17 q.1 = some (iA V t.1 (va_up t.2.1 (Int.toNat (i)) (kd))) := by rw [hM18, mv_un n02]; exact hf13
      have hf21 : M17 q.2.1 = some (iA V t.1 (va_up t.2.2.1 (Int.toNat (i)) (nu))) := by rw [hM18, mv_un n12]; exact hf14
      have hf22 : M17 q.2.2.1 = some (iA V t.1 (va_up t.2.2.2.1 (Int.toNat (i)) (so))) := by rw [hM18]; exact mv_us
      have hf23 : M17 q.2.2.2 = some (iA V t.1 t.2.2.2.2) := by rw [hM18, mv_un (Ne.symm n23)]; exact hf16
      rw [hQ]
      exact mv_vret B ⟨rfl, (by rw [hM18, hM11, hM4, wrTm_3 hC]; unfold setT; rw [if_pos (by omega)])⟩ (by omega) (by omega) d_Term_set_35
set_option maxRecDepth 100000 in
set_option maxHeartbeats 4000000 in
theorem m_Term_paste {l : Launch} {V : mv_V} {M : mv_M} {h p : Nat} {q r : Q4} {t o : Tm} (hC : TmC V M h q t) (hn : t.1 ≤ 1000) (hO : TmC V M p r o) (ho : Tok o) (hd : ∀ x y, x ∈ [r.1, r.2.1, r.2.2.1, r.2.2.2] → y ∈ [q.1, q.2.1, q.2.2.1, q.2.2.2] → x ≠ y) {i : Nat} (hi : i + o.1 ≤ t.1) : Met l y_Term_paste ws_Term_paste (rM 1 0 0 40) (mv_Pre (kk V) [.ref h, .ref p, .int (iI ((i : Nat)))] M) (mv_Q (kk V) (mv_R none (wrTm V M q (pasT t o i)))) 0 0 V.2.2.2.2 := by
  refine mv_Met (by decide) rfl (Nat.le_of_ble_eq_true rfl) (fun X hX B => ?_)
  subst hX
  replace B : mv_B X (kk V) c_Term_paste ws_Term_paste "FamilyRules$Term" 4 (Option.none : Option Jvm.ClassFile.FieldType) (rM 1 0 0 40) "paste" := B
  obtain ⟨Q, hQ⟩ : ∃ Q, Q = mv_E X (kk V) (mv_R none (wrTm V M q (pasT t o i))) 0 0 := ⟨_, rfl⟩
  rw [← hQ]
  show mv_G X Q (kk V) 4 0 [(0, .ref h), (1, .ref p), (2, .int (iI ((i : Nat))))] [] M 0 0
  obtain ⟨hh, h0, h1, h2, h3, n01, n02, n03, n12, n13, n23⟩ := id hC
  obtain ⟨ohh, oh0, oh1, oh2, oh3, on01, on02, on03, on12, on13, on23⟩ := id hO
  have hn1 := ho.2.1
  refine mv_aloadR_n B d_Term_paste_0 rfl 1 rfl ?_
  refine ca_Term_37 (mc := 0) (ms := 0) (As := []) (rest := []) B (m_Term_length hO.at ho) rfl rfl ⟨Nat.le_of_ble_eq_true rfl, Nat.le_of_ble_eq_true rfl⟩ ohh rfl rfl (Nat.le_of_ble_eq_true rfl) d_Term_paste_1 ⟨by omega, by omega⟩ (mv_x ?_)
  show mv_G X Q (kk V) 4 4 [(0, .ref h), (1, .ref p), (2, .int (iI ((i : Nat))))] [.int (iI ((o.1 : Nat)))] M 0 0
  refine mv_istore_n (lv' := [(3, .int (iI ((o.1 : Nat)))), (0, .ref h), (1, .ref p), (2, .int (iI ((i : Nat))))]) B d_Term_paste_4 rfl (by decide) rfl ?_
  refine mv_iload_n B d_Term_paste_5 rfl 3 rfl ?_
  refine mv_if_lt (tgt := 62) B d_Term_paste_6 (by decide) (by omega) (fun c1 => ?_) (fun c1 => ?_)
  · omega
  · refine mv_iload_n B d_Term_paste_9 rfl 3 rfl ?_
    refine mv_aloadR_n B d_Term_paste_10 rfl 1 rfl ?_
    refine gf_Term_15 B hh rfl d_Term_paste_11 ?_
    refine ia_len B h0 d_Term_paste_14 ?_
    refine mv_iload_n B d_Term_paste_15 rfl 0 rfl ?_
    refine mv_isub B d_Term_paste_16 ?_
    refine mv_icmp_gt (tgt := 62) B d_Term_paste_17 (by decide) (by omega) (by omega) (fun c2 => ?_) (fun c2 => ?_)
    · omega
    · refine mv_aloadR_n B d_Term_paste_20 rfl 2 rfl ?_
      refine gf_Term_15 B ohh rfl d_Term_paste_21 ?_
      refine mv_iconst (z := 0) B d_Term_paste_24 rfl ?_
      refine mv_aloadR_n B d_Term_paste_25 rfl 1 rfl ?_
      refine gf_Term_15 B hh rfl d_Term_paste_26 ?_
      refine mv_iload_n B d_Term_paste_29 rfl 3 rfl ?_
      refine mv_iload_n B d_Term_paste_30 rfl 0 rfl ?_
      refine ia_cpy B (mwc (mw_t 199 (by decide +kernel) (by decide +kernel))) (mwc (mw_t 201 (by decide +kernel) (by decide +kernel))) (mwc (mw_t 200 (by decide +kernel) (by decide +kernel))) (mwc (mw_t 9 (by decide +kernel) (by decide +kernel))) oh0 h0 (by omega) (by omega) (by omega) (by omega) (by omega) (by omega) (by omega) (by omega) (Nat.le_of_ble_eq_true rfl) (Nat.le_of_ble_eq_true rfl) d_Term_paste_31 ?_
      obtain ⟨M3, hM4⟩ : ∃ My : mv_M, My = mv_up M q.1 (iA V t.1 (va_cpy o.2.1 t.2.1 (Int.toNat (0)) (Int.toNat ((i : Nat))) (Int.toNat ((o.1 : Nat))))) := ⟨_, rfl⟩
      rw [← hM4]
      have hf5 : M3 h = some (.inr (0, [.ref q.1, .ref q.2.1, .ref q.2.2.1, .ref q.2.2.2])) := by rw [hM4, mv_un (mv_ne hh h0 (by simp))]; exact hh
      have hf6 : M3 q.1 = some (iA V t.1 (va_cpy o.2.1 t.2.1 (Int.toNat (0)) (Int.toNat ((i : Nat))) (Int.toNat ((o.1 : Nat))))) := by rw [hM4]; exact mv_us
      have hf7 : M3 q.2.1 = some (iA V t.1 t.2.2.1) := by rw [hM4, mv_un (Ne.symm n01)]; exact h1
      have hf8 : M3 q.2.2.1 = some (iA V t.1 t.2.2.2.1) := by rw [hM4, mv_un (Ne.symm n02)]; exact h2
      have hf9 : M3 q.2.2.2 = some (iA V t.1 t.2.2.2.2) := by rw [hM4, mv_un (Ne.symm n03)]; exact h3
      have hf10 : M3 p = some (.inr (0, [.ref r.1, .ref r.2.1, .ref r.2.2.1, .ref r.2.2.2])) := by rw [hM4, mv_un (mv_ne ohh h0 (by simp))]; exact ohh
      have hf11 : M3 r.1 = some (iA V o.1 o.2.1) := by rw [hM4, mv_un (hd r.1 q.1 (by simp) (by simp))]; exact oh0
      have hf12 : M3 r.2.1 = some (iA V o.1 o.2.2.1) := by rw [hM4, mv_un (hd r.2.1 q.1 (by simp) (by simp))]; exact oh1
      have hf13 : M3 r.2.2.1 = some (iA V o.1 o.2.2.2.1) := by rw [hM4, mv_un (hd r.2.2.1 q.1 (by simp) (by simp))]; exact oh2
      have hf14 : M3 r.2.2.2 = some (iA V o.1 o.2.2.2.2) := by rw [hM4, mv_un (hd r.2.2.2 q.1 (by simp) (by simp))]; exact oh3
      refine mv_aloadR_n B d_Term_paste_34 rfl 2 rfl ?_
      refine gf_Term_21 B hf10 rfl d_Term_paste_35 ?_
      refine mv_iconst (z := 0) B d_Term_paste_38 rfl ?_
      refine mv_aloadR_n B d_Term_paste_39 rfl 1 rfl ?_
      refine gf_Term_21 B hf5 rfl d_Term_paste_40 ?_
      refine mv_iload_n B d_Term_paste_43 rfl 3 rfl ?_
      refine mv_iload_n B d_Term_paste_44 rfl 0 rfl ?_
      refine ia_cpy B (mwc (mw_t 199 (by decide +kernel) (by decide +kernel))) (mwc (mw_t 201 (by decide +kernel) (by decide +kernel))) (mwc (mw_t 200 (by decide +kernel) (by decide +kernel))) (mwc (mw_t 9 (by decide +kernel) (by decide +kernel))) hf12 hf7 (by omega) (by omega) (by omega) (by omega) (by omega) (by omega) (by omega) (by omega) (Nat.le_of_ble_eq_true rfl) (Nat.le_of_ble_eq_true rfl) d_Term_paste_45 ?_
      obtain ⟨M15, hM16⟩ : ∃ My : mv_M, My = mv_up M3 q.2.1 (iA V t.1 (va_cpy o.2.2.1 t.2.2.1 (Int.toNat (0)) (Int.toNat ((i : Nat))) (Int.toNat ((o.1 : Nat))))) := ⟨_, rfl⟩
      rw [← hM16]
      have hf17 : M15 h = some (.inr (0, [.ref q.1, .ref q.2.1, .ref q.2.2.1, .ref q.2.2.2])) := by rw [hM16, mv_un (mv_ne hf5 hf7 (by simp))]; exact hf5
      have hf18 : M15 q.1 = some (iA V t.1 (va_cpy o.2.1 t.2.1 (Int.toNat (0)) (Int.toNat ((i : Nat))) (Int.toNat ((o.1 : Nat))))) := by rw [hM16, mv_un n01]; exact hf6
      have hf19 : M15 q.2.1 = some (iA V t.1 (va_cpy o.2.2.1 t.2.2.1 (Int.toNat (0)) (Int.toNat ((i : Nat))) (Int.toNat ((o.1 : Nat))))) := by rw [hM16]; exact mv_us
      have hf20 : M15 q.2.2.1 = some (iA V t.1 t.2.2.2.1) := by rw [hM16, mv_un (Ne.symm n12)]; exact hf8
      have hf21 : M15 q.2.2.2 = some (iA V t.1 t.2.2.2.2) := by rw [hM16, mv_un (Ne.symm n13)]; exact hf9
      have hf22 : M15 p = some (.inr (0, [.ref r.1, .ref r.2.1, .ref r.2.2.1, .ref r.2.2.2])) := by rw [hM16, mv_un (mv_ne hf10 hf7 (by simp))]; exact hf10
      have hf23 : M15 r.1 = some (iA V o.1 o.2.1) := by rw [hM16, mv_un (hd r.1 q.2.1 (by simp) (by simp))]; exact hf11
      have hf24 : M15 r.2.1 = some (iA V o.1 o.2.2.1) := by rw [hM16, mv_un (hd r.2.1 q.2.1 (by simp) (by simp))]; exact hf12
      have hf25 : M15 r.2.2.1 = some (iA V o.1 o.2.2.2.1) := by rw [hM16, mv_un (hd r.2.2.1 q.2.1 (by simp) (by simp))]; exact hf13
      have hf26 : M15 r.2.2.2 = some (iA V o.1 o.2.2.2.2) := by rw [hM16, mv_un (hd r.2.2.2 q.2.1 (by simp) (by simp))]; exact hf14
      refine mv_aloadR_n B d_Term_paste_48 rfl 2 rfl ?_
      refine gf_Term_24 B hf22 rfl d_Term_paste_49 ?_
      refine mv_iconst (z := 0) B d_Term_paste_52 rfl ?_
      refine mv_aloadR_n B d_Term_paste_53 rfl 1 rfl ?_
      refine gf_Term_24 B hf17 rfl d_Term_paste_54 ?_
      refine mv_iload_n B d_Term_paste_57 rfl 3 rfl ?_
      refine mv_iload_n B d_Term_paste_58 rfl 0 rfl ?_
      refine ia_cpy B (mwc (mw_t 199 (by decide +kernel) (by decide +kernel))) (mwc (mw_t 201 (by decide +kernel) (by decide +kernel))) (mwc (mw_t 200 (by decide +kernel) (by decide +kernel))) (mwc (mw_t 9 (by decide +kernel) (by decide +kernel))) hf25 hf20 (by omega) (by omega) (by omega) (by omega) (by omega) (by omega) (by omega) (by omega) (Nat.le_of_ble_eq_true rfl) (Nat.le_of_ble_eq_true rfl) d_Term_paste_59 ?_
      obtain ⟨M27, hM28⟩ : ∃ My : mv_M, My = mv_up M15 q.2.2.1 (iA V t.1 (va_cpy o.2.2.2.1 t.2.2.2.1 (Int.toNat (0)) (Int.toNat ((i : Nat))) (Int.toNat ((o.1 : Nat))))) := ⟨_, rfl⟩
      rw [← hM28]
      have hf29 : M27 h = some (.inr (0, [.ref q.1, .ref q.2.1, .ref q.2.2.1, .ref q.2.2.2])) := by rw [hM28, mv_un (mv_ne hf17 hf20 (by simp))]; exact hf17
      have hf30 : M27 q.1 = some (iA V t.1 (va_cpy o.2.1 t.2.1 (Int.toNat (0)) (Int.toNat ((i : Nat))) (Int.toNat ((o.1 : Nat))))) := by rw [hM28, mv_un n02]; exact hf18
      have hf31 : M27 q.2.1 = some (iA V t.1 (va_cpy o.2.2.1 t.2.2.1 (Int.toNat (0)) (Int.toNat ((i : Nat))) (Int.toNat ((o.1 : Nat))))) := by rw [hM28, mv_un n12]; exact hf19
      have hf32 : M27 q.2.2.1 = some (iA V t.1 (va_cpy o.2.2.2.1 t.2.2.2.1 (Int.toNat (0)) (Int.toNat ((i : Nat))) (Int.toNat ((o.1 : Nat))))) := by rw [hM28]; exact mv_us
      have hf33 : M27 q.2.2.2 = some (iA V t.1 t.2.2.2.2) := by rw [hM28, mv_un (Ne.symm n23)]; exact hf21
      have hf34 : M27 p = some (.inr (0, [.ref r.1, .ref r.2.1, .ref r.2.2.1, .ref r.2.2.2])) := by rw [hM28, mv_un (mv_ne hf22 hf20 (by simp))]; exact hf22
      have hf35 : M27 r.1 = some (iA V o.1 o.2.1) := by rw [hM28, mv_un (hd r.1 q.2.2.1 (by simp) (by simp))]; exact hf23
      have hf36 : M27 r.2.1 = some (iA V o.1 o.2.2.1) := by rw [hM28, mv_un (hd r.2.1 q.2.2.1 (by simp) (by simp))]; exact hf24
      have hf37 : M27 r.2.2.1 = some (iA V o.1 o.2.2.2.1) := by rw [hM28, mv_un (hd r.2.2.1 q.2.2.1 (by simp) (by simp))]; exact hf25
      have hf38 : M27 r.2.2.2 = some (iA V o.1 o.2.2.2.2) := by rw [hM28, mv_un (hd r.2.2.2 q.2.2.1 (by simp) (by simp))]; exact hf26
      rw [hQ]
      exact mv_vret B ⟨rfl, (by rw [hM28, hM16, hM4, wrTm_3 hC]; unfold pasT; simp only [Int.toNat_natCast, Int.toNat_zero])⟩ (by omega) (by omega) d_Term_paste_62
set_option maxRecDepth 100000 in
set_option maxHeartbeats 4000000 in
theorem m_Term_countNodes {l : Launch} {V : mv_V} {M : mv_M} {h : Nat} {q : Q4} {t : Tm} {ℓ : Nat → Nat} (hC : TmC V M h q t) (ho : Tok t) (hw : WF t.1 t.2.1 ℓ) : Met l y_Term_countNodes ws_Term_countNodes (rM 1 0 0 21) (mv_Pre (kk V) [.ref h] M) (mv_Q (kk V) (mv_R none (mv_up M q.2.2.2 (iA V t.1 (dnF t.1 ℓ t.2.2.2.2 t.1))))) 0 0 V.2.2.2.2 := by
  refine mv_Met (by decide) rfl (Nat.le_of_ble_eq_true rfl) (fun X hX B => ?_)
  subst hX
  replace B : mv_B X (kk V) c_Term_countNodes ws_Term_countNodes "FamilyRules$Term" 4 (Option.none : Option Jvm.ClassFile.FieldType) (rM 1 0 0 21) "countNodes" := B
  obtain ⟨Q, hQ⟩ : ∃ Q, Q = mv_E X (kk V) (mv_R none (mv_up M q.2.2.2 (iA V t.1 (dnF t.1 ℓ t.2.2.2.2 t.1)))) 0 0 := ⟨_, rfl⟩
  rw [← hQ]
  show mv_G X Q (kk V) 4 0 [(0, .ref h)] [] M 0 0
  obtain ⟨hh, h0, h1, h2, h3, n01, n02, n03, n12, n13, n23⟩ := id hC
  have hn0 := ho.1
  have hn1 := ho.2.1
  have rk := Tok_k ho
  refine mv_aloadR_n B d_Term_countNodes_0 rfl 0 rfl ?_
  refine gf_Term_15 B hh rfl d_Term_countNodes_1 ?_
  refine ia_len B h0 d_Term_countNodes_4 ?_
  refine mv_iconst (z := 1) B d_Term_countNodes_5 rfl ?_
  refine mv_isub B d_Term_countNodes_6 ?_
  refine mv_istore_n (lv' := [(1, .int (iI ((t.1 : Nat) - 1))), (0, .ref h)]) B d_Term_countNodes_7 rfl (by decide) rfl ?_
  have L8 : ∀ (fu : Nat) (m : Nat), (m ≤ t.1) → (t.1 - m) < fu → mv_G X Q (kk V) 4 8 [(1, .int (iI ((t.1 : Nat) - 1 - m))), (0, .ref h)] [] (mv_up M q.2.2.2 (iA V t.1 (dnF t.1 ℓ t.2.2.2.2 m))) 0 0 := by
    intro fu
    induction fu with
    | zero => intro m hm0 hm; exact absurd hm (Nat.not_lt_zero _)
    | succ fu ih8 =>
      intro m hm0 hm
      have gC : TmC V (mv_up M q.2.2.2 (iA V t.1 (dnF t.1 ℓ t.2.2.2.2 m))) h q (t.1, t.2.1, t.2.2.1, t.2.2.2.1, dnF t.1 ℓ t.2.2.2.2 m) := by rw [wrTm_d hC]; exact wrTm_c hC
      have gh := gC.1
      have g0 : (mv_up M q.2.2.2 (iA V t.1 (dnF t.1 ℓ t.2.2.2.2 m))) q.1 = some (iA V t.1 t.2.1) := gC.2.1
      have g3 : (mv_up M q.2.2.2 (iA V t.1 (dnF t.1 ℓ t.2.2.2.2 m))) q.2.2.2 = some (iA V t.1 (dnF t.1 ℓ t.2.2.2.2 m)) := gC.2.2.2.2.1
      have gok := dnF_ok ho hw m
      refine mv_iload_n B d_Term_countNodes_8 rfl 0 rfl ?_
      refine mv_if_lt (tgt := 59) B d_Term_countNodes_9 (by decide) (by omega) (fun c1 => ?_) (fun c1 => ?_)
      · rw [hQ]
        exact mv_vret B ⟨rfl, (by rw [show m = t.1 by omega])⟩ (by omega) (by omega) d_Term_countNodes_59
      · refine mv_iconst (z := 0) B d_Term_countNodes_12 rfl ?_
        refine mv_istore_n (lv' := [(2, .int (iI (0))), (1, .int (iI ((t.1 : Nat) - 1 - m))), (0, .ref h)]) B d_Term_countNodes_13 rfl (by decide) rfl ?_
        refine mv_aloadR_n B d_Term_countNodes_14 rfl 2 rfl ?_
        refine gf_Term_15 B gh rfl d_Term_countNodes_15 ?_
        refine mv_iload_n B d_Term_countNodes_18 rfl 1 rfl ?_
        refine ia_ld B g0 (by omega) (by omega) (by omega) d_Term_countNodes_19 ?_
        have rr2 : R32 (t.2.1 (Int.toNat ((t.1 : Nat) - 1 - m))) := rk _
        have w1 := hw (t.1 - 1 - m) (by omega)
        have ei : ((t.1 : Nat) - 1 - m : Int).toNat = t.1 - 1 - m := by omega
        rw [ei]
        have rk1 := rk (t.1 - 1 - m)
        refine mv_iconst (z := 4) B d_Term_countNodes_20 rfl ?_
        refine mv_icmp_lt (tgt := 44) B d_Term_countNodes_21 (by decide) (by omega) (by omega) (fun c3 => ?_) (fun c3 => ?_)
        · refine mv_aloadR_n B d_Term_countNodes_44 rfl 2 rfl ?_
          refine gf_Term_27 B gh rfl d_Term_countNodes_45 ?_
          refine mv_iload_n B d_Term_countNodes_48 rfl 1 rfl ?_
          refine mv_iconst (z := 1) B d_Term_countNodes_49 rfl ?_
          refine mv_iload_n B d_Term_countNodes_50 rfl 0 rfl ?_
          refine mv_iadd B d_Term_countNodes_51 ?_
          refine ia_st B g3 (by omega) (by omega) (by omega) d_Term_countNodes_52 ?_
          obtain ⟨M4, hM5⟩ : ∃ My : mv_M, My = mv_up (mv_up M q.2.2.2 (iA V t.1 (dnF t.1 ℓ t.2.2.2.2 m))) q.2.2.2 (iA V t.1 (va_up (dnF t.1 ℓ t.2.2.2.2 m) (Int.toNat ((t.1 : Nat) - 1 - m)) (1 + 0))) := ⟨_, rfl⟩
          rw [← hM5]
          have hf6 : M4 h = some (.inr (0, [.ref q.1, .ref q.2.1, .ref q.2.2.1, .ref q.2.2.2])) := by rw [hM5, mv_un (mv_ne gh g3 (by simp))]; exact gh
          have hf7 : M4 q.1 = some (iA V t.1 t.2.1) := by rw [hM5, mv_un n03]; exact g0
          have hf8 : M4 q.2.2.2 = some (iA V t.1 (va_up (dnF t.1 ℓ t.2.2.2.2 m) (Int.toNat ((t.1 : Nat) - 1 - m)) (1 + 0))) := by rw [hM5]; exact mv_us
          refine mv_iinc (lv' := [(1, .int (iI (((t.1 : Nat) - 1 - m) + (-1)))), (2, .int (iI (0))), (0, .ref h)]) B d_Term_countNodes_53 1 rfl (by decide) rfl ?_
          refine mv_goto (tgt := 8) B d_Term_countNodes_56 (by decide) ?_
          refine mv_lv (lv' := [(1, .int (iI ((t.1 : Nat) - 1 - (m + 1)))), (0, .ref h)]) [0, 2] (lc (lI (by omega)) (lc rfl rfl)) ?_
          rw [show M4 = mv_up M q.2.2.2 (iA V t.1 (dnF t.1 ℓ t.2.2.2.2 (m + 1))) from (by rw [hM5, mv_uu, show ((t.1 : Nat) - 1 - m : Int).toNat = t.1 - 1 - m by omega, dnF_s (by omega) (by first | omega | (have := w1.2.2.1 (by omega); omega))])]
          exact ih8 (m + 1) (by omega) (by omega)
        · refine mv_aloadR_n B d_Term_countNodes_24 rfl 2 rfl ?_
          refine mv_iload_n B d_Term_countNodes_25 rfl 1 rfl ?_
          refine mv_iconst (z := 1) B d_Term_countNodes_26 rfl ?_
          refine mv_iadd B d_Term_countNodes_27 ?_
          refine ca_Term_30 (mc := 0) (ms := 0) (As := [.int (iI (((t.1 : Nat) - 1 - m) + 1))]) (rest := []) B (m_Term_nodesAt gC.at gok (i := ((t.1 : Nat) - 1 - m) + 1) (by omega)) rfl rfl ⟨Nat.le_of_ble_eq_true rfl, Nat.le_of_ble_eq_true rfl⟩ gh rfl rfl (Nat.le_of_ble_eq_true rfl) d_Term_countNodes_28 ⟨by omega, by omega⟩ (mv_x ?_)
          show mv_G X Q (kk V) 4 31 [(2, .int (iI (0))), (1, .int (iI ((t.1 : Nat) - 1 - m))), (0, .ref h)] [.int (iI (dAt (t.1, t.2.1, t.2.2.1, t.2.2.2.1, dnF t.1 ℓ t.2.2.2.2 m) (((t.1 : Nat) - 1 - m) + 1)))] (mv_up M q.2.2.2 (iA V t.1 (dnF t.1 ℓ t.2.2.2.2 m))) 0 0
          have w2 := w1.2.2.2 (by omega)
          have e1 : dAt (t.1, t.2.1, t.2.2.1, t.2.2.2.1, dnF t.1 ℓ t.2.2.2.2 m) ((t.1 : Nat) - 1 - m + 1) = (ℓ (t.1 - 1 - m + 1) : Nat) := by rw [dnF_at (by omega) (by omega) (by omega)]; congr 2; omega
          rw [e1]
          refine mv_istore_n (lv' := [(3, .int (iI ((ℓ (t.1 - 1 - m + 1) : Nat)))), (2, .int (iI (0))), (1, .int (iI ((t.1 : Nat) - 1 - m))), (0, .ref h)]) B d_Term_countNodes_31 rfl (by decide) rfl ?_
          refine mv_iload_n B d_Term_countNodes_32 rfl 0 rfl ?_
          refine mv_aloadR_n B d_Term_countNodes_33 rfl 3 rfl ?_
          refine mv_iload_n B d_Term_countNodes_34 rfl 2 rfl ?_
          refine mv_iconst (z := 1) B d_Term_countNodes_35 rfl ?_
          refine mv_iadd B d_Term_countNodes_36 ?_
          refine mv_iload_n B d_Term_countNodes_37 rfl 0 rfl ?_
          refine mv_iadd B d_Term_countNodes_38 ?_
          refine ca_Term_30 (mc := 0) (ms := 0) (As := [.int (iI ((((t.1 : Nat) - 1 - m) + 1) + (ℓ (t.1 - 1 - m + 1) : Nat)))]) (rest := [.int (iI ((ℓ (t.1 - 1 - m + 1) : Nat)))]) B (m_Term_nodesAt gC.at gok (i := (((t.1 : Nat) - 1 - m) + 1) + (ℓ (t.1 - 1 - m + 1) : Nat)) (by omega)) rfl rfl ⟨Nat.le_of_ble_eq_true rfl, Nat.le_of_ble_eq_true rfl⟩ gh rfl rfl (Nat.le_of_ble_eq_true rfl) d_Term_countNodes_39 ⟨by omega, by omega⟩ (mv_x ?_)
          show mv_G X Q (kk V) 4 42 [(3, .int (iI ((ℓ (t.1 - 1 - m + 1) : Nat)))), (2, .int (iI (0))), (1, .int (iI ((t.1 : Nat) - 1 - m))), (0, .ref h)] [.int (iI (dAt (t.1, t.2.1, t.2.2.1, t.2.2.2.1, dnF t.1 ℓ t.2.2.2.2 m) ((((t.1 : Nat) - 1 - m) + 1) + (ℓ (t.1 - 1 - m + 1) : Nat)))), .int (iI ((ℓ (t.1 - 1 - m + 1) : Nat)))] (mv_up M q.2.2.2 (iA V t.1 (dnF t.1 ℓ t.2.2.2.2 m))) 0 0
          have e2 : dAt (t.1, t.2.1, t.2.2.1, t.2.2.2.1, dnF t.1 ℓ t.2.2.2.2 m) ((t.1 : Nat) - 1 - m + 1 + (ℓ (t.1 - 1 - m + 1) : Nat)) = (ℓ (t.1 - 1 - m + 1 + ℓ (t.1 - 1 - m + 1)) : Nat) := by rw [dnF_at (by omega) (by omega) (by omega)]; congr 2; omega
          rw [e2]
          refine mv_iadd B d_Term_countNodes_42 ?_
          refine mv_istore_n (lv' := [(2, .int (iI ((ℓ (t.1 - 1 - m + 1) : Nat) + (ℓ (t.1 - 1 - m + 1 + ℓ (t.1 - 1 - m + 1)) : Nat)))), (3, .int (iI ((ℓ (t.1 - 1 - m + 1) : Nat)))), (1, .int (iI ((t.1 : Nat) - 1 - m))), (0, .ref h)]) B d_Term_countNodes_43 rfl (by decide) rfl ?_
          refine mv_aloadR_n B d_Term_countNodes_44 rfl 3 rfl ?_
          refine gf_Term_27 B gh rfl d_Term_countNodes_45 ?_
          refine mv_iload_n B d_Term_countNodes_48 rfl 2 rfl ?_
          refine mv_iconst (z := 1) B d_Term_countNodes_49 rfl ?_
          refine mv_iload_n B d_Term_countNodes_50 rfl 0 rfl ?_
          refine mv_iadd B d_Term_countNodes_51 ?_
          refine ia_st B g3 (by omega) (by omega) (by omega) d_Term_countNodes_52 ?_
          obtain ⟨M9, hM10⟩ : ∃ My : mv_M, My = mv_up (mv_up M q.2.2.2 (iA V t.1 (dnF t.1 ℓ t.2.2.2.2 m))) q.2.2.2 (iA V t.1 (va_up (dnF t.1 ℓ t.2.2.2.2 m) (Int.toNat ((t.1 : Nat) - 1 - m)) (1 + ((ℓ (t.1 - 1 - m + 1) : Nat) + (ℓ (t.1 - 1 - m + 1 + ℓ (t.1 - 1 - m + 1)) : Nat))))) := ⟨_, rfl⟩
          rw [← hM10]
          have hf11 : M9 h = some (.inr (0, [.ref q.1, .ref q.2.1, .ref q.2.2.1, .ref q.2.2.2])) := by rw [hM10, mv_un (mv_ne gh g3 (by simp))]; exact gh
          have hf12 : M9 q.1 = some (iA V t.1 t.2.1) := by rw [hM10, mv_un n03]; exact g0
          have hf13 : M9 q.2.2.2 = some (iA V t.1 (va_up (dnF t.1 ℓ t.2.2.2.2 m) (Int.toNat ((t.1 : Nat) - 1 - m)) (1 + ((ℓ (t.1 - 1 - m + 1) : Nat) + (ℓ (t.1 - 1 - m + 1 + ℓ (t.1 - 1 - m + 1)) : Nat))))) := by rw [hM10]; exact mv_us
          refine mv_iinc (lv' := [(1, .int (iI (((t.1 : Nat) - 1 - m) + (-1)))), (2, .int (iI ((ℓ (t.1 - 1 - m + 1) : Nat) + (ℓ (t.1 - 1 - m + 1 + ℓ (t.1 - 1 - m + 1)) : Nat)))), (3, .int (iI ((ℓ (t.1 - 1 - m + 1) : Nat)))), (0, .ref h)]) B d_Term_countNodes_53 2 rfl (by decide) rfl ?_
          refine mv_goto (tgt := 8) B d_Term_countNodes_56 (by decide) ?_
          refine mv_lv (lv' := [(1, .int (iI ((t.1 : Nat) - 1 - (m + 1)))), (0, .ref h)]) [0, 3] (lc (lI (by omega)) (lc rfl rfl)) ?_
          rw [show M9 = mv_up M q.2.2.2 (iA V t.1 (dnF t.1 ℓ t.2.2.2.2 (m + 1))) from (by rw [hM10, mv_uu, show ((t.1 : Nat) - 1 - m : Int).toNat = t.1 - 1 - m by omega, dnF_s (by omega) (by first | omega | (have := w1.2.2.1 (by omega); omega))])]
          exact ih8 (m + 1) (by omega) (by omega)
  refine mv_lv (lv' := [(1, .int (iI ((t.1 : Nat) - 1 - 0))), (0, .ref h)]) [0, 1] (lc (lI (by omega)) (lc rfl rfl)) ?_
  rw [show M = mv_up M q.2.2.2 (iA V t.1 (dnF t.1 ℓ t.2.2.2.2 0)) from (by rw [dnF_0]; exact (mv_self h3).symm)]
  exact L8 _ 0 (Nat.zero_le _) (Nat.lt_succ_self _)
set_option maxRecDepth 100000 in
set_option maxHeartbeats 4000000 in
theorem m_Term_init {l : Launch} {V : mv_V} {M : mv_M} {h n : Nat} (hh : M h = some (.inr (0, [va_rf none, va_rf none, va_rf none, va_rf none]))) (hn : 1 ≤ n ∧ n ≤ 1000) : Met l y_Term_init ws_Term_init (rM 1 4 (4 * n) 40) (mv_Pre (kk V) [.ref h, .int (iI ((n : Nat)))] M) (mv_Q (kk V) (fun v M' => v = none ∧ ∃ q : Q4, TmC V M' h q (n, fun _ => 0, fun _ => 0, fun _ => 0, va_up (fun _ => 0) 0 1) ∧ (∀ x e, M x = some e → x ≠ h → M' x = some e) ∧ (∀ x e, M x = some e → x < q.1 ∧ x < q.2.1 ∧ x < q.2.2.1 ∧ x < q.2.2.2))) 4 (4 * n) V.2.2.2.2 := by
  refine mv_Met (by decide) rfl (Nat.le_of_ble_eq_true rfl) (fun X hX B => ?_)
  subst hX
  replace B : mv_B X (kk V) c_Term_init ws_Term_init "FamilyRules$Term" 3 (Option.none : Option Jvm.ClassFile.FieldType) (rM 1 4 (4 * n) 40) "<init>" := B
  obtain ⟨Q, hQ⟩ : ∃ Q, Q = mv_E X (kk V) (fun v M' => v = none ∧ ∃ q : Q4, TmC V M' h q (n, fun _ => 0, fun _ => 0, fun _ => 0, va_up (fun _ => 0) 0 1) ∧ (∀ x e, M x = some e → x ≠ h → M' x = some e) ∧ (∀ x e, M x = some e → x < q.1 ∧ x < q.2.1 ∧ x < q.2.2.1 ∧ x < q.2.2.2)) 4 (4 * n) := ⟨_, rfl⟩
  rw [← hQ]
  show mv_G X Q (kk V) 3 0 [(0, .ref h), (1, .int (iI ((n : Nat))))] [] M 0 0
  have hrc : (rM 1 4 (4 * n) 40).cells = 4 := rfl
  have hrs : (rM 1 4 (4 * n) 40).slots = 4 * n := rfl
  refine mv_aloadR_n B d_Term_init_0 rfl 0 rfl ?_
  refine mv_objInit B (mwc (mw_t 152 (by decide +kernel) (by decide +kernel))) (mwc (mw_t 17 (by decide +kernel) (by decide +kernel))) (mwc (mw_t 18 (by decide +kernel) (by decide +kernel))) d_Term_init_1 (Nat.le_of_ble_eq_true rfl) (Nat.le_of_ble_eq_true rfl) ?_
  refine mv_iload_n B d_Term_init_4 rfl 1 rfl ?_
  refine mv_iconst (z := 1) B d_Term_init_5 rfl ?_
  refine mv_max B (by omega) (by omega) (mwc (mw_t 153 (by decide +kernel) (by decide +kernel))) (mwc (mw_t 154 (by decide +kernel) (by decide +kernel))) (mwc (mw_t 8 (by decide +kernel) (by decide +kernel))) (mwc (mw_t 155 (by decide +kernel) (by decide +kernel))) (Nat.le_of_ble_eq_true rfl) (Nat.le_of_ble_eq_true rfl) (by omega) (by omega) d_Term_init_6 ?_
  rw [show (if (n : Int) < 1 then (1 : Int) else (n : Int)) = (n : Int) from if_neg (by omega)]
  refine mv_istore_n (lv' := [(2, .int (iI ((n : Nat)))), (0, .ref h), (1, .int (iI ((n : Nat))))]) B d_Term_init_9 rfl (by decide) rfl ?_
  refine mv_aloadR_n B d_Term_init_10 rfl 1 rfl ?_
  refine mv_iload_n B d_Term_init_11 rfl 0 rfl ?_
  refine ia_new (n := n) B (mw_t 44 (by decide +kernel) (by decide +kernel)) (by omega) (by omega) (by omega) (by omega) d_Term_init_12 (fun q1 fq2 => ?_)
  obtain ⟨M3, hM4⟩ : ∃ My : mv_M, My = mv_up M q1 (iA V n (fun _ => 0)) := ⟨_, rfl⟩
  rw [← hM4]
  have hf5 : M3 h = some (.inr (0, [va_rf (none), va_rf (none), va_rf (none), va_rf (none)])) := by rw [hM4, mv_un (Nat.ne_of_lt (fq2 _ _ hh))]; exact hh
  have hf6 : M3 q1 = some (iA V n (fun _ => 0)) := by rw [hM4]; exact mv_us
  refine pF_Term_15 B hf5 rfl rfl (Nat.le_of_ble_eq_true rfl) d_Term_init_14 ?_
  show mv_G X Q (kk V) 3 17 [(2, .int (iI ((n : Nat)))), (0, .ref h), (1, .int (iI ((n : Nat))))] [] (mv_up M3 h (.inr (0, [.ref q1, va_rf (none), va_rf (none), va_rf (none)]))) (0 + 1) (0 + n)
  obtain ⟨M7, hM8⟩ : ∃ My : mv_M, My = mv_up M3 h (.inr (0, [.ref q1, va_rf (none), va_rf (none), va_rf (none)])) := ⟨_, rfl⟩
  rw [← hM8]
  have hf9 : M7 h = some (.inr (0, [.ref q1, va_rf (none), va_rf (none), va_rf (none)])) := by rw [hM8]; exact mv_us
  have hf10 : M7 q1 = some (iA V n (fun _ => 0)) := by rw [hM8, mv_un (Ne.symm (Nat.ne_of_lt (fq2 _ _ hh)))]; exact hf6
  refine mv_aloadR_n B d_Term_init_17 rfl 1 rfl ?_
  refine mv_iload_n B d_Term_init_18 rfl 0 rfl ?_
  refine ia_new (n := n) B (mw_t 44 (by decide +kernel) (by decide +kernel)) (by omega) (by omega) (by omega) (by omega) d_Term_init_19 (fun q11 fq12 => ?_)
  obtain ⟨M13, hM14⟩ : ∃ My : mv_M, My = mv_up M7 q11 (iA V n (fun _ => 0)) := ⟨_, rfl⟩
  rw [← hM14]
  have hf15 : M13 h = some (.inr (0, [.ref q1, va_rf (none), va_rf (none), va_rf (none)])) := by rw [hM14, mv_un (Nat.ne_of_lt (fq12 _ _ hf9))]; exact hf9
  have hf16 : M13 q1 = some (iA V n (fun _ => 0)) := by rw [hM14, mv_un (Nat.ne_of_lt (fq12 _ _ hf10))]; exact hf10
  have hf17 : M13 q11 = some (iA V n (fun _ => 0)) := by rw [hM14]; exact mv_us
  refine pF_Term_21 B hf15 rfl rfl (Nat.le_of_ble_eq_true rfl) d_Term_init_21 ?_
  show mv_G X Q (kk V) 3 24 [(2, .int (iI ((n : Nat)))), (0, .ref h), (1, .int (iI ((n : Nat))))] [] (mv_up M13 h (.inr (0, [.ref q1, .ref q11, va_rf (none), va_rf (none)]))) ((0 + 1) + 1) ((0 + n) + n)
  obtain ⟨M18, hM19⟩ : ∃ My : mv_M, My = mv_up M13 h (.inr (0, [.ref q1, .ref q11, va_rf (none), va_rf (none)])) := ⟨_, rfl⟩
  rw [← hM19]
  have hf20 : M18 h = some (.inr (0, [.ref q1, .ref q11, va_rf (none), va_rf (none)])) := by rw [hM19]; exact mv_us
  have hf21 : M18 q1 = some (iA V n (fun _ => 0)) := by rw [hM19, mv_un (Ne.symm (Nat.ne_of_lt (fq2 _ _ hh)))]; exact hf16
  have hf22 : M18 q11 = some (iA V n (fun _ => 0)) := by rw [hM19, mv_un (Ne.symm (Nat.ne_of_lt (fq12 _ _ hf9)))]; exact hf17
  refine mv_aloadR_n B d_Term_init_24 rfl 1 rfl ?_
  refine mv_iload_n B d_Term_init_25 rfl 0 rfl ?_
  refine ia_new (n := n) B (mw_t 44 (by decide +kernel) (by decide +kernel)) (by omega) (by omega) (by omega) (by omega) d_Term_init_26 (fun q23 fq24 => ?_)
  obtain ⟨M25, hM26⟩ : ∃ My : mv_M, My = mv_up M18 q23 (iA V n (fun _ => 0)) := ⟨_, rfl⟩
  rw [← hM26]
  have hf27 : M25 h = some (.inr (0, [.ref q1, .ref q11, va_rf (none), va_rf (none)])) := by rw [hM26, mv_un (Nat.ne_of_lt (fq24 _ _ hf20))]; exact hf20
  have hf28 : M25 q1 = some (iA V n (fun _ => 0)) := by rw [hM26, mv_un (Nat.ne_of_lt (fq24 _ _ hf21))]; exact hf21
  have hf29 : M25 q11 = some (iA V n (fun _ => 0)) := by rw [hM26, mv_un (Nat.ne_of_lt (fq24 _ _ hf22))]; exact hf22
  have hf30 : M25 q23 = some (iA V n (fun _ => 0)) := by rw [hM26]; exact mv_us
  refine pF_Term_24 B hf27 rfl rfl (Nat.le_of_ble_eq_true rfl) d_Term_init_28 ?_
  show mv_G X Q (kk V) 3 31 [(2, .int (iI ((n : Nat)))), (0, .ref h), (1, .int (iI ((n : Nat))))] [] (mv_up M25 h (.inr (0, [.ref q1, .ref q11, .ref q23, va_rf (none)]))) (((0 + 1) + 1) + 1) (((0 + n) + n) + n)
  obtain ⟨M31, hM32⟩ : ∃ My : mv_M, My = mv_up M25 h (.inr (0, [.ref q1, .ref q11, .ref q23, va_rf (none)])) := ⟨_, rfl⟩
  rw [← hM32]
  have hf33 : M31 h = some (.inr (0, [.ref q1, .ref q11, .ref q23, va_rf (none)])) := by rw [hM32]; exact mv_us
  have hf34 : M31 q1 = some (iA V n (fun _ => 0)) := by rw [hM32, mv_un (Ne.symm (Nat.ne_of_lt (fq2 _ _ hh)))]; exact hf28
  have hf35 : M31 q11 = some (iA V n (fun _ => 0)) := by rw [hM32, mv_un (Ne.symm (Nat.ne_of_lt (fq12 _ _ hf9)))]; exact hf29
  have hf36 : M31 q23 = some (iA V n (fun _ => 0)) := by rw [hM32, mv_un (Ne.symm (Nat.ne_of_lt (fq24 _ _ hf20)))]; exact hf30
  refine mv_aloadR_n B d_Term_init_31 rfl 1 rfl ?_
  refine mv_iload_n B d_Term_init_32 rfl 0 rfl ?_
  refine ia_new (n := n) B (mw_t 44 (by decide +kernel) (by decide +kernel)) (by omega) (by omega) (by omega) (by omega) d_Term_init_33 (fun q37 fq38 => ?_)
  obtain ⟨M39, hM40⟩ : ∃ My : mv_M, My = mv_up M31 q37 (iA V n (fun _ => 0)) := ⟨_, rfl⟩
  rw [← hM40]
  have hf41 : M39 h = some (.inr (0, [.ref q1, .ref q11, .ref q23, va_rf (none)])) := by rw [hM40, mv_un (Nat.ne_of_lt (fq38 _ _ hf33))]; exact hf33
  have hf42 : M39 q1 = some (iA V n (fun _ => 0)) := by rw [hM40, mv_un (Nat.ne_of_lt (fq38 _ _ hf34))]; exact hf34
  have hf43 : M39 q11 = some (iA V n (fun _ => 0)) := by rw [hM40, mv_un (Nat.ne_of_lt (fq38 _ _ hf35))]; exact hf35
  have hf44 : M39 q23 = some (iA V n (fun _ => 0)) := by rw [hM40, mv_un (Nat.ne_of_lt (fq38 _ _ hf36))]; exact hf36
  have hf45 : M39 q37 = some (iA V n (fun _ => 0)) := by rw [hM40]; exact mv_us
  refine pF_Term_27 B hf41 rfl rfl (Nat.le_of_ble_eq_true rfl) d_Term_init_35 ?_
  show mv_G X Q (kk V) 3 38 [(2, .int (iI ((n : Nat)))), (0, .ref h), (1, .int (iI ((n : Nat))))] [] (mv_up M39 h (.inr (0, [.ref q1, .ref q11, .ref q23, .ref q37]))) ((((0 + 1) + 1) + 1) + 1) ((((0 + n) + n) + n) + n)
  obtain ⟨M46, hM47⟩ : ∃ My : mv_M, My = mv_up M39 h (.inr (0, [.ref q1, .ref q11, .ref q23, .ref q37])) := ⟨_, rfl⟩
  rw [← hM47]
  have hf48 : M46 h = some (.inr (0, [.ref q1, .ref q11, .ref q23, .ref q37])) := by rw [hM47]; exact mv_us
  have hf49 : M46 q1 = some (iA V n (fun _ => 0)) := by rw [hM47, mv_un (Ne.symm (Nat.ne_of_lt (fq2 _ _ hh)))]; exact hf42
  have hf50 : M46 q11 = some (iA V n (fun _ => 0)) := by rw [hM47, mv_un (Ne.symm (Nat.ne_of_lt (fq12 _ _ hf9)))]; exact hf43
  have hf51 : M46 q23 = some (iA V n (fun _ => 0)) := by rw [hM47, mv_un (Ne.symm (Nat.ne_of_lt (fq24 _ _ hf20)))]; exact hf44
  have hf52 : M46 q37 = some (iA V n (fun _ => 0)) := by rw [hM47, mv_un (Ne.symm (Nat.ne_of_lt (fq38 _ _ hf33)))]; exact hf45
  refine mv_aloadR_n B d_Term_init_38 rfl 1 rfl ?_
  refine gf_Term_27 B hf48 rfl d_Term_init_39 ?_
  refine mv_iconst (z := 0) B d_Term_init_42 rfl ?_
  refine mv_iconst (z := 1) B d_Term_init_43 rfl ?_
  refine ia_st B hf52 (by omega) (by omega) (by omega) d_Term_init_44 ?_
  have rg53 : ∀ j, R32 ((va_up (fun _ => 0) (Int.toNat (0)) (1)) j) := R32_up (fun _ => by omega) (by omega)
  obtain ⟨M54, hM55⟩ : ∃ My : mv_M, My = mv_up M46 q37 (iA V n (va_up (fun _ => 0) (Int.toNat (0)) (1))) := ⟨_, rfl⟩
  rw [← hM55]
  have hf56 : M54 h = some (.inr (0, [.ref q1, .ref q11, .ref q23, .ref q37])) := by rw [hM55, mv_un (Nat.ne_of_lt (fq38 _ _ hf33))]; exact hf48
  have hf57 : M54 q1 = some (iA V n (fun _ => 0)) := by rw [hM55, mv_un (Nat.ne_of_lt (fq38 _ _ hf34))]; exact hf49
  have hf58 : M54 q11 = some (iA V n (fun _ => 0)) := by rw [hM55, mv_un (Nat.ne_of_lt (fq38 _ _ hf35))]; exact hf50
  have hf59 : M54 q23 = some (iA V n (fun _ => 0)) := by rw [hM55, mv_un (Nat.ne_of_lt (fq38 _ _ hf36))]; exact hf51
  have hf60 : M54 q37 = some (iA V n (va_up (fun _ => 0) (Int.toNat (0)) (1))) := by rw [hM55]; exact mv_us
  rw [hQ]
  have keep : ∀ x e, M x = some e → x ≠ h → M54 x = some e := by
    intro x e hx hne
    have hx_0 : M3 x = some e := by rw [hM4, mv_un (Nat.ne_of_lt (fq2 _ _ hx))]; exact hx
    have hx_1 : M7 x = some e := by rw [hM8, mv_un (hne)]; exact hx_0
    have hx_2 : M13 x = some e := by rw [hM14, mv_un (Nat.ne_of_lt (fq12 _ _ hx_1))]; exact hx_1
    have hx_3 : M18 x = some e := by rw [hM19, mv_un (hne)]; exact hx_2
    have hx_4 : M25 x = some e := by rw [hM26, mv_un (Nat.ne_of_lt (fq24 _ _ hx_3))]; exact hx_3
    have hx_5 : M31 x = some e := by rw [hM32, mv_un (hne)]; exact hx_4
    have hx_6 : M39 x = some e := by rw [hM40, mv_un (Nat.ne_of_lt (fq38 _ _ hx_5))]; exact hx_5
    have hx_7 : M46 x = some e := by rw [hM47, mv_un (hne)]; exact hx_6
    have hx_8 : M54 x = some e := by rw [hM55, mv_un (Nat.ne_of_lt (fq38 _ _ hx_5))]; exact hx_7
    exact hx_8
  have fr : ∀ x e, M x = some e → x < q1 ∧ x < q11 ∧ x < q23 ∧ x < q37 := by
    intro x e hx
    by_cases hne : x = h
    · subst hne
      exact ⟨fq2 _ _ hh, fq12 _ _ hf9, fq24 _ _ hf20, fq38 _ _ hf33⟩
    · have hx_0 : M3 x = some e := by rw [hM4, mv_un (Nat.ne_of_lt (fq2 _ _ hx))]; exact hx
      have hx_1 : M7 x = some e := by rw [hM8, mv_un (hne)]; exact hx_0
      have hx_2 : M13 x = some e := by rw [hM14, mv_un (Nat.ne_of_lt (fq12 _ _ hx_1))]; exact hx_1
      have hx_3 : M18 x = some e := by rw [hM19, mv_un (hne)]; exact hx_2
      have hx_4 : M25 x = some e := by rw [hM26, mv_un (Nat.ne_of_lt (fq24 _ _ hx_3))]; exact hx_3
      have hx_5 : M31 x = some e := by rw [hM32, mv_un (hne)]; exact hx_4
      have hx_6 : M39 x = some e := by rw [hM40, mv_un (Nat.ne_of_lt (fq38 _ _ hx_5))]; exact hx_5
      have hx_7 : M46 x = some e := by rw [hM47, mv_un (hne)]; exact hx_6
      have hx_8 : M54 x = some e := by rw [hM55, mv_un (Nat.ne_of_lt (fq38 _ _ hx_5))]; exact hx_7
      exact ⟨fq2 _ _ hx, fq12 _ _ hx_1, fq24 _ _ hx_3, fq38 _ _ hx_5⟩
  exact mv_vret B ⟨rfl, (q1, q11, q23, q37), ⟨hf56, hf57, hf58, hf59, hf60, (Nat.ne_of_lt (fq12 _ _ hf10)), (Nat.ne_of_lt (fq24 _ _ hf21)), (Nat.ne_of_lt (fq38 _ _ hf34)), (Nat.ne_of_lt (fq24 _ _ hf22)), (Nat.ne_of_lt (fq38 _ _ hf35)), (Nat.ne_of_lt (fq38 _ _ hf36))⟩, keep, fr⟩ (by omega) (by omega) d_Term_init_45
