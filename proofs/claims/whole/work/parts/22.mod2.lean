theorem bz_or {x y : Bool} {v : Int} (hv : v = if y = true then 1 else 0) : (if (if x = true then (1 : Int) else 0) = 1 ∨ v = 1 then (1 : Int) else 0) = if (x || y) = true then 1 else 0 := by
  subst hv
  cases x <;> cases y <;> simp
theorem bz_and {x y : Bool} {v : Int} (hv : v = if y = true then 1 else 0) : (if (if x = true then (1 : Int) else 0) = 1 ∧ v = 1 then (1 : Int) else 0) = if (x && y) = true then 1 else 0 := by
  subst hv
  cases x <;> cases y <;> simp
/-! THE REFERENCE's reads, as functions of its arrays F -/
def scR (F : Nat → Nat → Int) (p : Int) : Int := p + 1 + F 3 (p + 1).toNat
def unR (F : Nat → Nat → Int) (b : Int) : Nat → Int
  | 0 => b
  | n + 1 => scR F (unR F b n)
def ixR (F : Nat → Nat → Int) (b : Int) : Nat → Int
  | 0 => b
  | n + 1 => ixR F b n + F 3 (ixR F b n).toNat
def hsB (F : Nat → Nat → Int) (d b : Int) : Nat → Bool
  | 0 => false
  | n + 1 => hsB F d b n || (decide (F 0 (b + n).toNat = 1 ∨ F 0 (b + n).toNat = 3) && decide (F 1 (b + n).toNat = d))
def prR (F : Nat → Nat → Int) (p v : Int) : Nat → Bool
  | 0 => true
  | n + 1 => prR F p v n && (decide (F 0 (p + n).toNat = 0) && decide (F 1 (p + n).toNat = v - n))
theorem prR_f {F : Nat → Nat → Int} {p v : Int} {k : Nat} (h : prR F p v k = false) : ∀ n, k ≤ n → prR F p v n = false
  | 0, hn => by rw [show k = 0 by omega] at h; exact h
  | n + 1, hn => by
    by_cases e : k = n + 1
    · subst e; exact h
    · have := prR_f h n (by omega)
      simp only [prR]
      rw [this]
      rfl
/-- d put to its parameters v, v - 1, .. at p, where a applications are -/
def isPR (F : Nat → Nat → Int) (d : Nat) (p : Int) (a : Nat) (v : Int) : Bool := (decide ((a : Int) = F 9 d + F 10 d) && (decide (F 0 (p + a).toNat = 1) && decide (F 1 (p + a).toNat = d))) && prR F (p + a + 1) v (F 9 d).toNat
def wlB (F : Nat → Nat → Int) (g : Nat) : Nat → Bool
  | 0 => true
  | n + 1 => wlB F g n && !decide (F 7 (g + n + 1) = -1)
theorem hsB_s (F : Nat → Nat → Int) (d b : Int) (n : Nat) : hsB F d b (n + 1) = (hsB F d b n || (decide (F 0 (b + n).toNat = 1 ∨ F 0 (b + n).toNat = 3) && decide (F 1 (b + n).toNat = d))) := rfl
theorem prR_s (F : Nat → Nat → Int) (p v : Int) (n : Nat) : prR F p v (n + 1) = (prR F p v n && (decide (F 0 (p + n).toNat = 0) && decide (F 1 (p + n).toNat = v - n))) := rfl
theorem wlB_s (F : Nat → Nat → Int) (g n : Nat) : wlB F g (n + 1) = (wlB F g n && !decide (F 7 (g + n + 1) = -1)) := rfl
/-- where d is put, a variable among its parameters is one place long -/
def pvO (F : Nat → Nat → Int) (d : Nat) (p : Int) (a : Nat) (v : Int) : Prop := ∀ k : Nat, (k : Int) < F 9 d → ((decide ((a : Int) = F 9 d + F 10 d) && (decide (F 0 (p + a).toNat = 1) && decide (F 1 (p + a).toNat = d))) && prR F (p + (a : Nat) + 1) v k) = true → F 0 (p + (a : Nat) + 1 + (k : Nat)).toNat = 0 → F 3 (p + (a : Nat) + 1 + (k : Nat)).toNat = 1
set_option maxRecDepth 100000 in
set_option maxHeartbeats 4000000 in
theorem m_Mod_second {l : Launch} {V : mv_V} {M : mv_M} {r cap lq : Nat} {A : Nat → Nat} {F : Nat → Nat → Int} {c tn gn : Int} (hC : RefC V M r A (rN cap lq) F c tn gn) (hcap : cap ≤ 1000000) {k : Int} (hk : 0 ≤ k + 1 ∧ k + 1 < cap) : Met l y_Mod_second ws_Mod_second (rM 0 0 0 0) (mv_Pre (kk V) [.ref r, .int (iI (k))] M) (mv_Q (kk V) (mv_R (some (.int (iI (scR F k)))) M)) 0 0 V.2.2.2.2 := by
  refine mv_Met (by decide) rfl (Nat.le_of_ble_eq_true rfl) (fun X hX B => ?_)
  subst hX
  replace B : mv_B X (kk V) c_Mod_second ws_Mod_second "FamilyRulesModel" 2 (Option.some Jvm.ClassFile.FieldType.int) (rM 0 0 0 0) "second" := B
  obtain ⟨Q, hQ⟩ : ∃ Q, Q = mv_E X (kk V) (mv_R (some (.int (iI (scR F k)))) M) 0 0 := ⟨_, rfl⟩
  rw [← hQ]
  show mv_G X Q (kk V) 2 0 [(0, .ref r), (1, .int (iI (k)))] [] M 0 0
  have k1_3 : M (A 3) = some (iA V (cap) (F 3)) := hC.2.1 3 (by decide)
  refine mv_iload_n B d_Mod_second_0 rfl 1 rfl ?_
  refine mv_iconst (z := 1) B d_Mod_second_1 rfl ?_
  refine mv_iadd B d_Mod_second_2 ?_
  refine mv_aloadR_n B d_Mod_second_3 rfl 0 rfl ?_
  refine gf_Mod_19 B hC.1 rfl d_Mod_second_4 ?_
  refine mv_iload_n B d_Mod_second_7 rfl 1 rfl ?_
  refine mv_iconst (z := 1) B d_Mod_second_8 rfl ?_
  refine mv_iadd B d_Mod_second_9 ?_
  refine ia_ld B k1_3 (by omega) (by omega) (by omega) d_Mod_second_10 ?_
  have rr2 : R32 (F 3 (Int.toNat (k + 1))) := (hC.R 3) _
  refine mv_iadd B d_Mod_second_11 ?_
  rw [hQ]
  exact mv_iret B ⟨(by rfl), rfl⟩ (by omega) (by omega) d_Mod_second_12
set_option maxRecDepth 100000 in
set_option maxHeartbeats 4000000 in
theorem m_Mod_isTerm {l : Launch} {V : mv_V} {M : mv_M} {r cap lq : Nat} {A : Nat → Nat} {F : Nat → Nat → Int} {c tn gn : Int} (hC : RefC V M r A (rN cap lq) F c tn gn) (hcap : cap ≤ 1000000) {i : Int} (ri : R32 i) (rt : Sm tn) : Met l y_Mod_isTerm ws_Mod_isTerm (rM 0 0 0 0) (mv_Pre (kk V) [.ref r, .int (iI (i))] M) (mv_Q (kk V) (mv_R (some (.int (iI (if 0 ≤ i ∧ i < tn then 1 else 0)))) M)) 0 0 V.2.2.2.2 := by
  refine mv_Met (by decide) rfl (Nat.le_of_ble_eq_true rfl) (fun X hX B => ?_)
  subst hX
  replace B : mv_B X (kk V) c_Mod_isTerm ws_Mod_isTerm "FamilyRulesModel" 2 (Option.some Jvm.ClassFile.FieldType.boolean) (rM 0 0 0 0) "isTerm" := B
  obtain ⟨Q, hQ⟩ : ∃ Q, Q = mv_E X (kk V) (mv_R (some (.int (iI (if 0 ≤ i ∧ i < tn then 1 else 0)))) M) 0 0 := ⟨_, rfl⟩
  rw [← hQ]
  show mv_G X Q (kk V) 2 0 [(0, .ref r), (1, .int (iI (i)))] [] M 0 0
  refine mv_iload_n B d_Mod_isTerm_0 rfl 1 rfl ?_
  refine mv_if_lt (tgt := 16) B d_Mod_isTerm_1 (by decide) (by omega) (fun c2 => ?_) (fun c2 => ?_)
  · refine mv_iconst (z := 0) B d_Mod_isTerm_16 rfl ?_
    rw [hQ]
    exact mv_zret B rfl ⟨(by first | rfl | rw [if_pos (by omega)] | rw [if_neg (by omega)]), rfl⟩ (by omega) (by omega) d_Mod_isTerm_17
  · refine mv_iload_n B d_Mod_isTerm_4 rfl 1 rfl ?_
    refine mv_aloadR_n B d_Mod_isTerm_5 rfl 0 rfl ?_
    refine gf_Mod_75 B hC.1 rfl d_Mod_isTerm_6 ?_
    refine mv_icmp_ge (tgt := 16) B d_Mod_isTerm_9 (by decide) (by omega) (by omega) (fun c3 => ?_) (fun c3 => ?_)
    · refine mv_iconst (z := 0) B d_Mod_isTerm_16 rfl ?_
      rw [hQ]
      exact mv_zret B rfl ⟨(by first | rfl | rw [if_pos (by omega)] | rw [if_neg (by omega)]), rfl⟩ (by omega) (by omega) d_Mod_isTerm_17
    · refine mv_iconst (z := 1) B d_Mod_isTerm_12 rfl ?_
      refine mv_goto (tgt := 17) B d_Mod_isTerm_13 (by decide) ?_
      rw [hQ]
      exact mv_zret B rfl ⟨(by first | rfl | rw [if_pos (by omega)] | rw [if_neg (by omega)]), rfl⟩ (by omega) (by omega) d_Mod_isTerm_17
set_option maxRecDepth 100000 in
set_option maxHeartbeats 4000000 in
theorem m_Mod_terms {l : Launch} {V : mv_V} {M : mv_M} {r cap lq : Nat} {A : Nat → Nat} {F : Nat → Nat → Int} {c tn gn : Int} (hC : RefC V M r A (rN cap lq) F c tn gn) (hcap : cap ≤ 1000000) : Met l y_Mod_terms ws_Mod_terms (rM 0 0 0 0) (mv_Pre (kk V) [.ref r] M) (mv_Q (kk V) (mv_R (some (.int (iI (tn)))) M)) 0 0 V.2.2.2.2 := by
  refine mv_Met (by decide) rfl (Nat.le_of_ble_eq_true rfl) (fun X hX B => ?_)
  subst hX
  replace B : mv_B X (kk V) c_Mod_terms ws_Mod_terms "FamilyRulesModel" 1 (Option.some Jvm.ClassFile.FieldType.int) (rM 0 0 0 0) "terms" := B
  obtain ⟨Q, hQ⟩ : ∃ Q, Q = mv_E X (kk V) (mv_R (some (.int (iI (tn)))) M) 0 0 := ⟨_, rfl⟩
  rw [← hQ]
  show mv_G X Q (kk V) 1 0 [(0, .ref r)] [] M 0 0
  refine mv_aloadR_n B d_Mod_terms_0 rfl 0 rfl ?_
  refine gf_Mod_75 B hC.1 rfl d_Mod_terms_1 ?_
  rw [hQ]
  exact mv_iret B ⟨(by rfl), rfl⟩ (by omega) (by omega) d_Mod_terms_4
set_option maxRecDepth 100000 in
set_option maxHeartbeats 4000000 in
theorem m_Mod_under {l : Launch} {V : mv_V} {M : mv_M} {r cap lq : Nat} {A : Nat → Nat} {F : Nat → Nat → Int} {c tn gn : Int} (hC : RefC V M r A (rN cap lq) F c tn gn) (hcap : cap ≤ 1000000) {b n : Int} (hn : 0 ≤ n ∧ n ≤ 1000000) (hu : ∀ j : Nat, (j : Int) < n → 0 ≤ unR F b j ∧ unR F b j + 1 < cap) : Met l y_Mod_under ws_Mod_under (rM 1 0 0 21) (mv_Pre (kk V) [.ref r, .int (iI (b)), .int (iI (n))] M) (mv_Q (kk V) (mv_R (some (.int (iI (unR F b n.toNat)))) M)) 0 0 V.2.2.2.2 := by
  refine mv_Met (by decide) rfl (Nat.le_of_ble_eq_true rfl) (fun X hX B => ?_)
  subst hX
  replace B : mv_B X (kk V) c_Mod_under ws_Mod_under "FamilyRulesModel" 5 (Option.some Jvm.ClassFile.FieldType.int) (rM 1 0 0 21) "under" := B
  obtain ⟨Q, hQ⟩ : ∃ Q, Q = mv_E X (kk V) (mv_R (some (.int (iI (unR F b n.toNat)))) M) 0 0 := ⟨_, rfl⟩
  rw [← hQ]
  show mv_G X Q (kk V) 5 0 [(0, .ref r), (1, .int (iI (b))), (2, .int (iI (n)))] [] M 0 0
  refine mv_iload_n B d_Mod_under_0 rfl 1 rfl ?_
  refine mv_istore_n (lv' := [(3, .int (iI (b))), (0, .ref r), (1, .int (iI (b))), (2, .int (iI (n)))]) B d_Mod_under_1 rfl (by decide) rfl ?_
  refine mv_iconst (z := 0) B d_Mod_under_2 rfl ?_
  refine mv_istore (lv' := [(4, .int (iI (0))), (3, .int (iI (b))), (0, .ref r), (1, .int (iI (b))), (2, .int (iI (n)))]) B d_Mod_under_3 (by decide) rfl ?_
  have L5 : ∀ (fu : Nat) (i : Nat), ((i : Int) ≤ n) → (n.toNat - i) < fu → mv_G X Q (kk V) 5 5 [(4, .int (iI ((i : Nat)))), (3, .int (iI (unR F b i))), (0, .ref r), (1, .int (iI (b))), (2, .int (iI (n)))] [] M 0 0 := by
    intro fu
    induction fu with
    | zero => intro i hi hm; exact absurd hm (Nat.not_lt_zero _)
    | succ fu ih5 =>
      intro i hi hm
      have hu1 := hu i
      refine mv_iload B d_Mod_under_5 0 rfl ?_
      refine mv_iload_n B d_Mod_under_7 rfl 4 rfl ?_
      refine mv_icmp_ge (tgt := 23) B d_Mod_under_8 (by decide) (by omega) (by omega) (fun c2 => ?_) (fun c2 => ?_)
      · refine mv_iload_n B d_Mod_under_23 rfl 1 rfl ?_
        rw [hQ]
        exact mv_iret B ⟨(by rw [show n.toNat = i by omega]), rfl⟩ (by omega) (by omega) d_Mod_under_24
      · refine mv_aloadR_n B d_Mod_under_11 rfl 2 rfl ?_
        refine mv_iload_n B d_Mod_under_12 rfl 1 rfl ?_
        refine ca_Mod_67 (mc := 0) (ms := 0) (As := [.int (iI (unR F b i))]) (rest := []) B (m_Mod_second hC hcap (k := unR F b i) (by have := hu1 (by omega); omega)) rfl rfl ⟨Nat.le_of_ble_eq_true rfl, Nat.le_of_ble_eq_true rfl⟩ hC.1 rfl rfl (Nat.le_of_ble_eq_true rfl) d_Mod_under_13 ⟨by omega, by omega⟩ (mv_x ?_)
        show mv_G X Q (kk V) 5 16 [(4, .int (iI ((i : Nat)))), (3, .int (iI (unR F b i))), (0, .ref r), (1, .int (iI (b))), (2, .int (iI (n)))] [.int (iI (scR F (unR F b i)))] M 0 0
        refine mv_istore_n (lv' := [(3, .int (iI (scR F (unR F b i)))), (4, .int (iI ((i : Nat)))), (0, .ref r), (1, .int (iI (b))), (2, .int (iI (n)))]) B d_Mod_under_16 rfl (by decide) rfl ?_
        refine mv_iinc (lv' := [(4, .int (iI ((i : Nat) + 1))), (3, .int (iI (scR F (unR F b i)))), (0, .ref r), (1, .int (iI (b))), (2, .int (iI (n)))]) B d_Mod_under_17 1 rfl (by decide) rfl ?_
        refine mv_goto (tgt := 5) B d_Mod_under_20 (by decide) ?_
        refine mv_lv (lv' := [(4, .int (iI (((i + 1) : Nat)))), (3, .int (iI (unR F b (i + 1)))), (0, .ref r), (1, .int (iI (b))), (2, .int (iI (n)))]) [0, 1, 2, 3, 4] (lc (lI (by first | rfl | omega)) (lc (lI (by first | rfl | omega)) (lc rfl (lc rfl (lc rfl rfl))))) ?_
        exact ih5 (i + 1) (by omega) (by omega)
  refine mv_lv (lv' := [(4, .int (iI ((0 : Nat)))), (3, .int (iI (unR F b 0))), (0, .ref r), (1, .int (iI (b))), (2, .int (iI (n)))]) [0, 1, 2, 3, 4] (lc (lI (by first | rfl | omega)) (lc (lI (by first | rfl | omega)) (lc rfl (lc rfl (lc rfl rfl))))) ?_
  exact L5 _ 0 hn.1 (Nat.lt_succ_self _)
set_option maxRecDepth 100000 in
set_option maxHeartbeats 4000000 in
theorem m_Mod_alls {l : Launch} {V : mv_V} {M : mv_M} {r cap lq : Nat} {A : Nat → Nat} {F : Nat → Nat → Int} {c tn gn : Int} (hC : RefC V M r A (rN cap lq) F c tn gn) (hcap : cap ≤ 1000000) {b : Int} {n : Nat} (hn : n ≤ 1000000) (hk : ∀ j, j < n → F 0 (unR F b j).toNat = 6) (hk0 : ¬ F 0 (unR F b n).toNat = 6) (hp : ∀ j, j ≤ n → 0 ≤ unR F b j ∧ unR F b j < cap ∧ (j < n → unR F b j + 1 < cap)) : Met l y_Mod_alls ws_Mod_alls (rM 1 0 0 21) (mv_Pre (kk V) [.ref r, .int (iI (b))] M) (mv_Q (kk V) (mv_R (some (.int (iI ((n : Nat))))) M)) 0 0 V.2.2.2.2 := by
  refine mv_Met (by decide) rfl (Nat.le_of_ble_eq_true rfl) (fun X hX B => ?_)
  subst hX
  replace B : mv_B X (kk V) c_Mod_alls ws_Mod_alls "FamilyRulesModel" 4 (Option.some Jvm.ClassFile.FieldType.int) (rM 1 0 0 21) "alls" := B
  obtain ⟨Q, hQ⟩ : ∃ Q, Q = mv_E X (kk V) (mv_R (some (.int (iI ((n : Nat))))) M) 0 0 := ⟨_, rfl⟩
  rw [← hQ]
  show mv_G X Q (kk V) 4 0 [(0, .ref r), (1, .int (iI (b)))] [] M 0 0
  have k1_0 : M (A 0) = some (iA V (cap) (F 0)) := hC.2.1 0 (by decide)
  refine mv_iconst (z := 0) B d_Mod_alls_0 rfl ?_
  refine mv_istore_n (lv' := [(2, .int (iI (0))), (0, .ref r), (1, .int (iI (b)))]) B d_Mod_alls_1 rfl (by decide) rfl ?_
  refine mv_iload_n B d_Mod_alls_2 rfl 2 rfl ?_
  refine mv_istore_n (lv' := [(3, .int (iI (b))), (2, .int (iI (0))), (0, .ref r), (1, .int (iI (b)))]) B d_Mod_alls_3 rfl (by decide) rfl ?_
  have L4 : ∀ (fu : Nat) (i : Nat), (i ≤ n) → (n - i) < fu → mv_G X Q (kk V) 4 4 [(3, .int (iI (unR F b i))), (2, .int (iI ((i : Nat)))), (0, .ref r), (1, .int (iI (b)))] [] M 0 0 := by
    intro fu
    induction fu with
    | zero => intro i hi hm; exact absurd hm (Nat.not_lt_zero _)
    | succ fu ih4 =>
      intro i hi hm
      have hu1 := hp i hi
      have hR0 := hC.R 0 (unR F b i).toNat
      refine mv_aloadR_n B d_Mod_alls_4 rfl 2 rfl ?_
      refine gf_Mod_7 B hC.1 rfl d_Mod_alls_5 ?_
      refine mv_iload_n B d_Mod_alls_8 rfl 0 rfl ?_
      refine ia_ld B k1_0 (by omega) (by omega) (by omega) d_Mod_alls_9 ?_
      have rr2 : R32 (F 0 (Int.toNat (unR F b i))) := (hC.R 0) _
      refine mv_bipush (z := 6) B d_Mod_alls_10 (by decide) ?_
      refine mv_icmp_ne (tgt := 27) B d_Mod_alls_12 (by decide) (by omega) (by omega) (fun c3 => ?_) (fun c3 => ?_)
      · have e : i = n := by
          apply Classical.byContradiction
          intro q
          have := hk i (by omega)
          omega
        refine mv_iload_n B d_Mod_alls_27 rfl 1 rfl ?_
        rw [hQ]
        exact mv_iret B ⟨(by rw [e]), rfl⟩ (by omega) (by omega) d_Mod_alls_28
      · have hlt : i < n := by
          apply Classical.byContradiction
          intro q
          have e : i = n := by omega
          subst e
          omega
        refine mv_iinc (lv' := [(2, .int (iI ((i : Nat) + 1))), (3, .int (iI (unR F b i))), (0, .ref r), (1, .int (iI (b)))]) B d_Mod_alls_15 1 rfl (by decide) rfl ?_
        refine mv_aloadR_n B d_Mod_alls_18 rfl 2 rfl ?_
        refine mv_iload_n B d_Mod_alls_19 rfl 1 rfl ?_
        refine ca_Mod_67 (mc := 0) (ms := 0) (As := [.int (iI (unR F b i))]) (rest := []) B (m_Mod_second hC hcap (k := unR F b i) (by omega)) rfl rfl ⟨Nat.le_of_ble_eq_true rfl, Nat.le_of_ble_eq_true rfl⟩ hC.1 rfl rfl (Nat.le_of_ble_eq_true rfl) d_Mod_alls_20 ⟨by omega, by omega⟩ (mv_x ?_)
        show mv_G X Q (kk V) 4 23 [(2, .int (iI ((i : Nat) + 1))), (3, .int (iI (unR F b i))), (0, .ref r), (1, .int (iI (b)))] [.int (iI (scR F (unR F b i)))] M 0 0
        refine mv_istore_n (lv' := [(3, .int (iI (scR F (unR F b i)))), (2, .int (iI ((i : Nat) + 1))), (0, .ref r), (1, .int (iI (b)))]) B d_Mod_alls_23 rfl (by decide) rfl ?_
        refine mv_goto (tgt := 4) B d_Mod_alls_24 (by decide) ?_
        refine mv_lv (lv' := [(3, .int (iI (unR F b (i + 1)))), (2, .int (iI (((i + 1) : Nat)))), (0, .ref r), (1, .int (iI (b)))]) [0, 1, 2, 3] (lc (lI (by first | rfl | omega)) (lc (lI (by first | rfl | omega)) (lc rfl (lc rfl rfl)))) ?_
        exact ih4 (i + 1) (by omega) (by omega)
  refine mv_lv (lv' := [(3, .int (iI (unR F b 0))), (2, .int (iI ((0 : Nat)))), (0, .ref r), (1, .int (iI (b)))]) [0, 1, 2, 3] (lc (lI (by first | rfl | omega)) (lc (lI (by first | rfl | omega)) (lc rfl (lc rfl rfl)))) ?_
  exact L4 _ 0 (by omega) (Nat.lt_succ_self _)
set_option maxRecDepth 100000 in
set_option maxHeartbeats 4000000 in
theorem m_Mod_index {l : Launch} {V : mv_V} {M : mv_M} {r cap lq : Nat} {A : Nat → Nat} {F : Nat → Nat → Int} {c tn gn : Int} (hC : RefC V M r A (rN cap lq) F c tn gn) (hcap : cap ≤ 1000000) {b k : Int} {d : Nat} (hb : 0 ≤ b ∧ b ≤ 1000000) (hd : d < 100) (hpd : 0 ≤ F 9 d ∧ F 9 d ≤ 1000 ∧ 0 ≤ F 10 d ∧ F 10 d ≤ 1000) (hkk : 0 ≤ k ∧ k ≤ 1000) (hp : ∀ j : Nat, (j : Int) < F 9 d + k → 0 ≤ ixR F (b + F 9 d + F 10 d + 1) j ∧ ixR F (b + F 9 d + F 10 d + 1) j < cap) : Met l y_Mod_index ws_Mod_index (rM 0 0 0 0) (mv_Pre (kk V) [.ref r, .int (iI (b)), .int (iI ((d : Nat))), .int (iI (k))] M) (mv_Q (kk V) (mv_R (some (.int (iI (ixR F (b + F 9 d + F 10 d + 1) (F 9 d + k).toNat)))) M)) 0 0 V.2.2.2.2 := by
  refine mv_Met (by decide) rfl (Nat.le_of_ble_eq_true rfl) (fun X hX B => ?_)
  subst hX
  replace B : mv_B X (kk V) c_Mod_index ws_Mod_index "FamilyRulesModel" 6 (Option.some Jvm.ClassFile.FieldType.int) (rM 0 0 0 0) "index" := B
  obtain ⟨Q, hQ⟩ : ∃ Q, Q = mv_E X (kk V) (mv_R (some (.int (iI (ixR F (b + F 9 d + F 10 d + 1) (F 9 d + k).toNat)))) M) 0 0 := ⟨_, rfl⟩
  rw [← hQ]
  show mv_G X Q (kk V) 6 0 [(0, .ref r), (1, .int (iI (b))), (2, .int (iI ((d : Nat)))), (3, .int (iI (k)))] [] M 0 0
  have k1_3 : M (A 3) = some (iA V (cap) (F 3)) := hC.2.1 3 (by decide)
  have k1_9 : M (A 9) = some (iA V (100) (F 9)) := hC.2.1 9 (by decide)
  have k1_10 : M (A 10) = some (iA V (100) (F 10)) := hC.2.1 10 (by decide)
  refine mv_iload_n B d_Mod_index_0 rfl 1 rfl ?_
  refine mv_aloadR_n B d_Mod_index_1 rfl 0 rfl ?_
  refine gf_Mod_37 B hC.1 rfl d_Mod_index_2 ?_
  refine mv_iload_n B d_Mod_index_5 rfl 2 rfl ?_
  refine ia_ld B k1_9 (by omega) (by omega) (by omega) d_Mod_index_6 ?_
  rw [show Int.toNat ((d : Nat)) = d from by omega]
  have rr2 : R32 (F 9 d) := (hC.R 9) _
  refine mv_iadd B d_Mod_index_7 ?_
  refine mv_aloadR_n B d_Mod_index_8 rfl 0 rfl ?_
  refine gf_Mod_40 B hC.1 rfl d_Mod_index_9 ?_
  refine mv_iload_n B d_Mod_index_12 rfl 2 rfl ?_
  refine ia_ld B k1_10 (by omega) (by omega) (by omega) d_Mod_index_13 ?_
  rw [show Int.toNat ((d : Nat)) = d from by omega]
  have rr3 : R32 (F 10 d) := (hC.R 10) _
  refine mv_iadd B d_Mod_index_14 ?_
  refine mv_iconst (z := 1) B d_Mod_index_15 rfl ?_
  refine mv_iadd B d_Mod_index_16 ?_
  refine mv_istore (lv' := [(4, .int (iI (((b + (F 9 d)) + (F 10 d)) + 1))), (0, .ref r), (1, .int (iI (b))), (2, .int (iI ((d : Nat)))), (3, .int (iI (k)))]) B d_Mod_index_17 (by decide) rfl ?_
  refine mv_iconst (z := 0) B d_Mod_index_19 rfl ?_
  refine mv_istore (lv' := [(5, .int (iI (0))), (4, .int (iI (((b + (F 9 d)) + (F 10 d)) + 1))), (0, .ref r), (1, .int (iI (b))), (2, .int (iI ((d : Nat)))), (3, .int (iI (k)))]) B d_Mod_index_20 (by decide) rfl ?_
  have L22 : ∀ (fu : Nat) (i : Nat), ((i : Int) ≤ F 9 d + k) → ((F 9 d + k).toNat - i) < fu → mv_G X Q (kk V) 6 22 [(5, .int (iI ((i : Nat)))), (4, .int (iI (ixR F (b + F 9 d + F 10 d + 1) i))), (0, .ref r), (1, .int (iI (b))), (2, .int (iI ((d : Nat)))), (3, .int (iI (k)))] [] M 0 0 := by
    intro fu
    induction fu with
    | zero => intro i hi hm; exact absurd hm (Nat.not_lt_zero _)
    | succ fu ih22 =>
      intro i hi hm
      have hu1 := hp i
      have hR3 := hC.2.2.2.2.1 3 (ixR F (b + F 9 d + F 10 d + 1) i).toNat
      refine mv_iload B d_Mod_index_22 0 rfl ?_
      refine mv_aloadR_n B d_Mod_index_24 rfl 2 rfl ?_
      refine gf_Mod_37 B hC.1 rfl d_Mod_index_25 ?_
      refine mv_iload_n B d_Mod_index_28 rfl 4 rfl ?_
      refine ia_ld B k1_9 (by omega) (by omega) (by omega) d_Mod_index_29 ?_
      rw [show Int.toNat ((d : Nat)) = d from by omega]
      have rr4 : R32 (F 9 d) := (hC.R 9) _
      refine mv_iload_n B d_Mod_index_30 rfl 5 rfl ?_
      refine mv_iadd B d_Mod_index_31 ?_
      refine mv_icmp_ge (tgt := 53) B d_Mod_index_32 (by decide) (by omega) (by omega) (fun c5 => ?_) (fun c5 => ?_)
      · refine mv_iload B d_Mod_index_53 1 rfl ?_
        rw [hQ]
        exact mv_iret B ⟨(by rw [show (F 9 d + k).toNat = i by omega]), rfl⟩ (by omega) (by omega) d_Mod_index_55
      · refine mv_iload B d_Mod_index_35 1 rfl ?_
        refine mv_aloadR_n B d_Mod_index_37 rfl 2 rfl ?_
        refine gf_Mod_19 B hC.1 rfl d_Mod_index_38 ?_
        refine mv_iload B d_Mod_index_41 1 rfl ?_
        refine ia_ld B k1_3 (by omega) (by omega) (by omega) d_Mod_index_43 ?_
        have rr6 : R32 (F 3 (Int.toNat (ixR F (b + F 9 d + F 10 d + 1) i))) := (hC.R 3) _
        refine mv_iadd B d_Mod_index_44 ?_
        refine mv_istore (lv' := [(4, .int (iI ((ixR F (b + F 9 d + F 10 d + 1) i) + (F 3 (Int.toNat (ixR F (b + F 9 d + F 10 d + 1) i)))))), (5, .int (iI ((i : Nat)))), (0, .ref r), (1, .int (iI (b))), (2, .int (iI ((d : Nat)))), (3, .int (iI (k)))]) B d_Mod_index_45 (by decide) rfl ?_
        refine mv_iinc (lv' := [(5, .int (iI ((i : Nat) + 1))), (4, .int (iI ((ixR F (b + F 9 d + F 10 d + 1) i) + (F 3 (Int.toNat (ixR F (b + F 9 d + F 10 d + 1) i)))))), (0, .ref r), (1, .int (iI (b))), (2, .int (iI ((d : Nat)))), (3, .int (iI (k)))]) B d_Mod_index_47 1 rfl (by decide) rfl ?_
        refine mv_goto (tgt := 22) B d_Mod_index_50 (by decide) ?_
        refine mv_lv (lv' := [(5, .int (iI (((i + 1) : Nat)))), (4, .int (iI (ixR F (b + F 9 d + F 10 d + 1) (i + 1)))), (0, .ref r), (1, .int (iI (b))), (2, .int (iI ((d : Nat)))), (3, .int (iI (k)))]) [0, 1, 2, 3, 4, 5] (lc (lI (by first | rfl | omega)) (lc (lI (by first | rfl | omega)) (lc rfl (lc rfl (lc rfl (lc rfl rfl)))))) ?_
        exact ih22 (i + 1) (by omega) (by omega)
  refine mv_lv (lv' := [(5, .int (iI ((0 : Nat)))), (4, .int (iI (ixR F (b + F 9 d + F 10 d + 1) 0))), (0, .ref r), (1, .int (iI (b))), (2, .int (iI ((d : Nat)))), (3, .int (iI (k)))]) [0, 1, 2, 3, 4, 5] (lc (lI (by first | rfl | omega)) (lc (lI (by first | rfl | omega)) (lc rfl (lc rfl (lc rfl (lc rfl rfl)))))) ?_
  exact L22 _ 0 (by omega) (Nat.lt_succ_self _)
set_option maxRecDepth 100000 in
set_option maxHeartbeats 4000000 in
theorem m_Mod_has {l : Launch} {V : mv_V} {M : mv_M} {r cap lq : Nat} {A : Nat → Nat} {F : Nat → Nat → Int} {c tn gn : Int} (hC : RefC V M r A (rN cap lq) F c tn gn) (hcap : cap ≤ 1000000) {b d : Int} (hb : 0 ≤ b) (hl : 0 ≤ F 3 b.toNat ∧ b + F 3 b.toNat ≤ cap ∧ b < cap) (rd : Sm d) : Met l y_Mod_has ws_Mod_has (rM 0 0 0 0) (mv_Pre (kk V) [.ref r, .int (iI (b)), .int (iI (d))] M) (mv_Q (kk V) (mv_R (some (.int (iI (if hsB F d b (F 3 b.toNat).toNat = true then 1 else 0)))) M)) 0 0 V.2.2.2.2 := by
  refine mv_Met (by decide) rfl (Nat.le_of_ble_eq_true rfl) (fun X hX B => ?_)
  subst hX
  replace B : mv_B X (kk V) c_Mod_has ws_Mod_has "FamilyRulesModel" 5 (Option.some Jvm.ClassFile.FieldType.boolean) (rM 0 0 0 0) "has" := B
  obtain ⟨Q, hQ⟩ : ∃ Q, Q = mv_E X (kk V) (mv_R (some (.int (iI (if hsB F d b (F 3 b.toNat).toNat = true then 1 else 0)))) M) 0 0 := ⟨_, rfl⟩
  rw [← hQ]
  show mv_G X Q (kk V) 5 0 [(0, .ref r), (1, .int (iI (b))), (2, .int (iI (d)))] [] M 0 0
  have k1_0 : M (A 0) = some (iA V (cap) (F 0)) := hC.2.1 0 (by decide)
  have k1_1 : M (A 1) = some (iA V (cap) (F 1)) := hC.2.1 1 (by decide)
  have k1_3 : M (A 3) = some (iA V (cap) (F 3)) := hC.2.1 3 (by decide)
  refine mv_iconst (z := 0) B d_Mod_has_0 rfl ?_
  refine mv_istore_n (lv' := [(3, .int (iI (0))), (0, .ref r), (1, .int (iI (b))), (2, .int (iI (d)))]) B d_Mod_has_1 rfl (by decide) rfl ?_
  refine mv_iload_n B d_Mod_has_2 rfl 2 rfl ?_
  refine mv_istore (lv' := [(4, .int (iI (b))), (3, .int (iI (0))), (0, .ref r), (1, .int (iI (b))), (2, .int (iI (d)))]) B d_Mod_has_3 (by decide) rfl ?_
  have L5 : ∀ (fu : Nat) (i : Nat), ((i : Int) ≤ F 3 b.toNat) → ((F 3 b.toNat).toNat - i) < fu → mv_G X Q (kk V) 5 5 [(4, .int (iI (b + (i : Nat)))), (3, .int (iI (if hsB F d b i = true then 1 else 0))), (0, .ref r), (1, .int (iI (b))), (2, .int (iI (d)))] [] M 0 0 := by
    intro fu
    induction fu with
    | zero => intro i hi hm; exact absurd hm (Nat.not_lt_zero _)
    | succ fu ih5 =>
      intro i hi hm
      have hR0 := hC.R 0 (b + (i : Nat)).toNat
      have hR1 := hC.R 1 (b + (i : Nat)).toNat
      refine mv_iload B d_Mod_has_5 0 rfl ?_
      refine mv_iload_n B d_Mod_has_7 rfl 3 rfl ?_
      refine mv_aloadR_n B d_Mod_has_8 rfl 2 rfl ?_
      refine gf_Mod_19 B hC.1 rfl d_Mod_has_9 ?_
      refine mv_iload_n B d_Mod_has_12 rfl 3 rfl ?_
      refine ia_ld B k1_3 (by omega) (by omega) (by omega) d_Mod_has_13 ?_
      have rr2 : R32 (F 3 (Int.toNat (b))) := (hC.R 3) _
      refine mv_iadd B d_Mod_has_14 ?_
      refine mv_icmp_ge (tgt := 65) B d_Mod_has_15 (by decide) (by omega) (by omega) (fun c3 => ?_) (fun c3 => ?_)
      · refine mv_iload_n B d_Mod_has_65 rfl 1 rfl ?_
        rw [hQ]
        exact mv_zret B (by cases hsB F d b i <;> rfl) ⟨(by rw [show (F 3 b.toNat).toNat = i by omega]), rfl⟩ (by omega) (by omega) d_Mod_has_66
      · refine mv_iload_n B d_Mod_has_18 rfl 1 rfl ?_
        refine mv_aloadR_n B d_Mod_has_19 rfl 2 rfl ?_
        refine gf_Mod_7 B hC.1 rfl d_Mod_has_20 ?_
        refine mv_iload B d_Mod_has_23 0 rfl ?_
        refine ia_ld B k1_0 (by omega) (by omega) (by omega) d_Mod_has_25 ?_
        have rr4 : R32 (F 0 (Int.toNat (b + (i : Nat)))) := (hC.R 0) _
        refine mv_iconst (z := 1) B d_Mod_has_26 rfl ?_
        refine mv_icmp_eq (tgt := 41) B d_Mod_has_27 (by decide) (by omega) (by omega) (fun c5 => ?_) (fun c5 => ?_)
        · refine mv_aloadR_n B d_Mod_has_41 rfl 2 rfl ?_
          refine gf_Mod_13 B hC.1 rfl d_Mod_has_42 ?_
          refine mv_iload B d_Mod_has_45 0 rfl ?_
          refine ia_ld B k1_1 (by omega) (by omega) (by omega) d_Mod_has_47 ?_
          have rr6 : R32 (F 1 (Int.toNat (b + (i : Nat)))) := (hC.R 1) _
          refine mv_iload_n B d_Mod_has_48 rfl 4 rfl ?_
          refine mv_icmp_ne (tgt := 56) B d_Mod_has_49 (by decide) (by omega) (by omega) (fun c7 => ?_) (fun c7 => ?_)
          · refine mv_iconst (z := 0) B d_Mod_has_56 rfl ?_
            refine mv_ior B (by first | omega | (split <;> omega)) (by omega) d_Mod_has_57 ?_
            refine mv_istore_n (lv' := [(3, .int (iI (if (if hsB F d b i = true then 1 else 0) = 1 ∨ 0 = 1 then 1 else 0))), (4, .int (iI (b + (i : Nat)))), (0, .ref r), (1, .int (iI (b))), (2, .int (iI (d)))]) B d_Mod_has_58 rfl (by decide) rfl ?_
            refine mv_iinc (lv' := [(4, .int (iI ((b + (i : Nat)) + 1))), (3, .int (iI (if (if hsB F d b i = true then 1 else 0) = 1 ∨ 0 = 1 then 1 else 0))), (0, .ref r), (1, .int (iI (b))), (2, .int (iI (d)))]) B d_Mod_has_59 1 rfl (by decide) rfl ?_
            refine mv_goto (tgt := 5) B d_Mod_has_62 (by decide) ?_
            refine mv_lv (lv' := [(4, .int (iI (b + ((i + 1) : Nat)))), (3, .int (iI (if hsB F d b (i + 1) = true then 1 else 0))), (0, .ref r), (1, .int (iI (b))), (2, .int (iI (d)))]) [0, 1, 2, 3, 4] (lc (lI (by first | rfl | omega)) (lc (lI (by rw [hsB_s]; exact bz_or (by first | (rw [if_pos (by rw [Bool.and_eq_true, decide_eq_true_eq, decide_eq_true_eq]; omega)]) | (rw [if_neg (by intro q; rw [Bool.and_eq_true, decide_eq_true_eq, decide_eq_true_eq] at q; omega)])))) (lc rfl (lc rfl (lc rfl rfl))))) ?_
            exact ih5 (i + 1) (by omega) (by omega)
          · refine mv_iconst (z := 1) B d_Mod_has_52 rfl ?_
            refine mv_goto (tgt := 57) B d_Mod_has_53 (by decide) ?_
            refine mv_ior B (by first | omega | (split <;> omega)) (by omega) d_Mod_has_57 ?_
            refine mv_istore_n (lv' := [(3, .int (iI (if (if hsB F d b i = true then 1 else 0) = 1 ∨ 1 = 1 then 1 else 0))), (4, .int (iI (b + (i : Nat)))), (0, .ref r), (1, .int (iI (b))), (2, .int (iI (d)))]) B d_Mod_has_58 rfl (by decide) rfl ?_
            refine mv_iinc (lv' := [(4, .int (iI ((b + (i : Nat)) + 1))), (3, .int (iI (if (if hsB F d b i = true then 1 else 0) = 1 ∨ 1 = 1 then 1 else 0))), (0, .ref r), (1, .int (iI (b))), (2, .int (iI (d)))]) B d_Mod_has_59 1 rfl (by decide) rfl ?_
            refine mv_goto (tgt := 5) B d_Mod_has_62 (by decide) ?_
            refine mv_lv (lv' := [(4, .int (iI (b + ((i + 1) : Nat)))), (3, .int (iI (if hsB F d b (i + 1) = true then 1 else 0))), (0, .ref r), (1, .int (iI (b))), (2, .int (iI (d)))]) [0, 1, 2, 3, 4] (lc (lI (by first | rfl | omega)) (lc (lI (by rw [hsB_s]; exact bz_or (by first | (rw [if_pos (by rw [Bool.and_eq_true, decide_eq_true_eq, decide_eq_true_eq]; omega)]) | (rw [if_neg (by intro q; rw [Bool.and_eq_true, decide_eq_true_eq, decide_eq_true_eq] at q; omega)])))) (lc rfl (lc rfl (lc rfl rfl))))) ?_
            exact ih5 (i + 1) (by omega) (by omega)
        · refine mv_aloadR_n B d_Mod_has_30 rfl 2 rfl ?_
          refine gf_Mod_7 B hC.1 rfl d_Mod_has_31 ?_
          refine mv_iload B d_Mod_has_34 0 rfl ?_
          refine ia_ld B k1_0 (by omega) (by omega) (by omega) d_Mod_has_36 ?_
          have rr8 : R32 (F 0 (Int.toNat (b + (i : Nat)))) := (hC.R 0) _
          refine mv_iconst (z := 3) B d_Mod_has_37 rfl ?_
          refine mv_icmp_ne (tgt := 56) B d_Mod_has_38 (by decide) (by omega) (by omega) (fun c9 => ?_) (fun c9 => ?_)
          · refine mv_iconst (z := 0) B d_Mod_has_56 rfl ?_
            refine mv_ior B (by first | omega | (split <;> omega)) (by omega) d_Mod_has_57 ?_
            refine mv_istore_n (lv' := [(3, .int (iI (if (if hsB F d b i = true then 1 else 0) = 1 ∨ 0 = 1 then 1 else 0))), (4, .int (iI (b + (i : Nat)))), (0, .ref r), (1, .int (iI (b))), (2, .int (iI (d)))]) B d_Mod_has_58 rfl (by decide) rfl ?_
            refine mv_iinc (lv' := [(4, .int (iI ((b + (i : Nat)) + 1))), (3, .int (iI (if (if hsB F d b i = true then 1 else 0) = 1 ∨ 0 = 1 then 1 else 0))), (0, .ref r), (1, .int (iI (b))), (2, .int (iI (d)))]) B d_Mod_has_59 1 rfl (by decide) rfl ?_
            refine mv_goto (tgt := 5) B d_Mod_has_62 (by decide) ?_
            refine mv_lv (lv' := [(4, .int (iI (b + ((i + 1) : Nat)))), (3, .int (iI (if hsB F d b (i + 1) = true then 1 else 0))), (0, .ref r), (1, .int (iI (b))), (2, .int (iI (d)))]) [0, 1, 2, 3, 4] (lc (lI (by first | rfl | omega)) (lc (lI (by rw [hsB_s]; exact bz_or (by first | (rw [if_pos (by rw [Bool.and_eq_true, decide_eq_true_eq, decide_eq_true_eq]; omega)]) | (rw [if_neg (by intro q; rw [Bool.and_eq_true, decide_eq_true_eq, decide_eq_true_eq] at q; omega)])))) (lc rfl (lc rfl (lc rfl rfl))))) ?_
            exact ih5 (i + 1) (by omega) (by omega)
          · refine mv_aloadR_n B d_Mod_has_41 rfl 2 rfl ?_
            refine gf_Mod_13 B hC.1 rfl d_Mod_has_42 ?_
            refine mv_iload B d_Mod_has_45 0 rfl ?_
            refine ia_ld B k1_1 (by omega) (by omega) (by omega) d_Mod_has_47 ?_
            have rr10 : R32 (F 1 (Int.toNat (b + (i : Nat)))) := (hC.R 1) _
            refine mv_iload_n B d_Mod_has_48 rfl 4 rfl ?_
            refine mv_icmp_ne (tgt := 56) B d_Mod_has_49 (by decide) (by omega) (by omega) (fun c11 => ?_) (fun c11 => ?_)
            · refine mv_iconst (z := 0) B d_Mod_has_56 rfl ?_
              refine mv_ior B (by first | omega | (split <;> omega)) (by omega) d_Mod_has_57 ?_
              refine mv_istore_n (lv' := [(3, .int (iI (if (if hsB F d b i = true then 1 else 0) = 1 ∨ 0 = 1 then 1 else 0))), (4, .int (iI (b + (i : Nat)))), (0, .ref r), (1, .int (iI (b))), (2, .int (iI (d)))]) B d_Mod_has_58 rfl (by decide) rfl ?_
              refine mv_iinc (lv' := [(4, .int (iI ((b + (i : Nat)) + 1))), (3, .int (iI (if (if hsB F d b i = true then 1 else 0) = 1 ∨ 0 = 1 then 1 else 0))), (0, .ref r), (1, .int (iI (b))), (2, .int (iI (d)))]) B d_Mod_has_59 1 rfl (by decide) rfl ?_
              refine mv_goto (tgt := 5) B d_Mod_has_62 (by decide) ?_
              refine mv_lv (lv' := [(4, .int (iI (b + ((i + 1) : Nat)))), (3, .int (iI (if hsB F d b (i + 1) = true then 1 else 0))), (0, .ref r), (1, .int (iI (b))), (2, .int (iI (d)))]) [0, 1, 2, 3, 4] (lc (lI (by first | rfl | omega)) (lc (lI (by rw [hsB_s]; exact bz_or (by first | (rw [if_pos (by rw [Bool.and_eq_true, decide_eq_true_eq, decide_eq_true_eq]; omega)]) | (rw [if_neg (by intro q; rw [Bool.and_eq_true, decide_eq_true_eq, decide_eq_true_eq] at q; omega)])))) (lc rfl (lc rfl (lc rfl rfl))))) ?_
              exact ih5 (i + 1) (by omega) (by omega)
            · refine mv_iconst (z := 1) B d_Mod_has_52 rfl ?_
              refine mv_goto (tgt := 57) B d_Mod_has_53 (by decide) ?_
              refine mv_ior B (by first | omega | (split <;> omega)) (by omega) d_Mod_has_57 ?_
              refine mv_istore_n (lv' := [(3, .int (iI (if (if hsB F d b i = true then 1 else 0) = 1 ∨ 1 = 1 then 1 else 0))), (4, .int (iI (b + (i : Nat)))), (0, .ref r), (1, .int (iI (b))), (2, .int (iI (d)))]) B d_Mod_has_58 rfl (by decide) rfl ?_
              refine mv_iinc (lv' := [(4, .int (iI ((b + (i : Nat)) + 1))), (3, .int (iI (if (if hsB F d b i = true then 1 else 0) = 1 ∨ 1 = 1 then 1 else 0))), (0, .ref r), (1, .int (iI (b))), (2, .int (iI (d)))]) B d_Mod_has_59 1 rfl (by decide) rfl ?_
              refine mv_goto (tgt := 5) B d_Mod_has_62 (by decide) ?_
              refine mv_lv (lv' := [(4, .int (iI (b + ((i + 1) : Nat)))), (3, .int (iI (if hsB F d b (i + 1) = true then 1 else 0))), (0, .ref r), (1, .int (iI (b))), (2, .int (iI (d)))]) [0, 1, 2, 3, 4] (lc (lI (by first | rfl | omega)) (lc (lI (by rw [hsB_s]; exact bz_or (by first | (rw [if_pos (by rw [Bool.and_eq_true, decide_eq_true_eq, decide_eq_true_eq]; omega)]) | (rw [if_neg (by intro q; rw [Bool.and_eq_true, decide_eq_true_eq, decide_eq_true_eq] at q; omega)])))) (lc rfl (lc rfl (lc rfl rfl))))) ?_
              exact ih5 (i + 1) (by omega) (by omega)
  refine mv_lv (lv' := [(4, .int (iI (b + (0 : Nat)))), (3, .int (iI (if hsB F d b 0 = true then 1 else 0))), (0, .ref r), (1, .int (iI (b))), (2, .int (iI (d)))]) [0, 1, 2, 3, 4] (lc (lI (by first | rfl | omega)) (lc (lI (by simp [hsB])) (lc rfl (lc rfl (lc rfl rfl))))) ?_
  exact L5 _ 0 (by omega) (Nat.lt_succ_self _)
set_option maxRecDepth 100000 in
set_option maxHeartbeats 4000000 in
theorem m_Mod_isPut {l : Launch} {V : mv_V} {M : mv_M} {r cap lq : Nat} {A : Nat → Nat} {F : Nat → Nat → Int} {c tn gn : Int} (hC : RefC V M r A (rN cap lq) F c tn gn) (hcap : cap ≤ 1000000) {b v : Int} {d a : Nat} (hb : 0 ≤ b) (hba : b + a + 1 ≤ cap) (ha : ∀ j, j < a → F 0 (b + (j : Nat)).toNat = 4) (ha0 : ¬ F 0 (b + (a : Nat)).toNat = 4) (hd : d < 100) (hpd : 0 ≤ F 9 d ∧ F 9 d ≤ 1000 ∧ 0 ≤ F 10 d ∧ F 10 d ≤ 1000) (hsf : (a : Int) = F 9 d + F 10 d → b + a + 1 + F 9 d ≤ cap) (hv1 : pvO F d b a v) (rv : Sm v) : Met l y_Mod_isPut ws_Mod_isPut (rM 0 0 0 0) (mv_Pre (kk V) [.ref r, .int (iI (b)), .int (iI ((d : Nat))), .int (iI (v))] M) (mv_Q (kk V) (mv_R (some (.int (iI (if isPR F d b a v = true then 1 else 0)))) M)) 0 0 V.2.2.2.2 := by
  refine mv_Met (by decide) rfl (Nat.le_of_ble_eq_true rfl) (fun X hX B => ?_)
  subst hX
  replace B : mv_B X (kk V) c_Mod_isPut ws_Mod_isPut "FamilyRulesModel" 7 (Option.some Jvm.ClassFile.FieldType.boolean) (rM 0 0 0 0) "isPut" := B
  obtain ⟨Q, hQ⟩ : ∃ Q, Q = mv_E X (kk V) (mv_R (some (.int (iI (if isPR F d b a v = true then 1 else 0)))) M) 0 0 := ⟨_, rfl⟩
  rw [← hQ]
  show mv_G X Q (kk V) 7 0 [(0, .ref r), (1, .int (iI (b))), (2, .int (iI ((d : Nat)))), (3, .int (iI (v)))] [] M 0 0
  have hR0a := hC.R 0 (b + (a : Nat)).toNat
  have hR1a := hC.R 1 (b + (a : Nat)).toNat
  have k1_0 : M (A 0) = some (iA V (cap) (F 0)) := hC.2.1 0 (by decide)
  have k1_1 : M (A 1) = some (iA V (cap) (F 1)) := hC.2.1 1 (by decide)
  have k1_3 : M (A 3) = some (iA V (cap) (F 3)) := hC.2.1 3 (by decide)
  have k1_9 : M (A 9) = some (iA V (100) (F 9)) := hC.2.1 9 (by decide)
  have k1_10 : M (A 10) = some (iA V (100) (F 10)) := hC.2.1 10 (by decide)
  refine mv_iload_n B d_Mod_isPut_0 rfl 1 rfl ?_
  refine mv_istore (lv' := [(4, .int (iI (b))), (0, .ref r), (1, .int (iI (b))), (2, .int (iI ((d : Nat)))), (3, .int (iI (v)))]) B d_Mod_isPut_1 (by decide) rfl ?_
  have L3 : ∀ (fu : Nat) (i : Nat), (i ≤ a) → (a - i) < fu → mv_G X Q (kk V) 7 3 [(4, .int (iI (b + (i : Nat)))), (0, .ref r), (1, .int (iI (b))), (2, .int (iI ((d : Nat)))), (3, .int (iI (v)))] [] M 0 0 := by
    intro fu
    induction fu with
    | zero => intro i hi hm; exact absurd hm (Nat.not_lt_zero _)
    | succ fu ih3 =>
      intro i hi hm
      have hR0 := hC.R 0 (b + (i : Nat)).toNat
      refine mv_aloadR_n B d_Mod_isPut_3 rfl 1 rfl ?_
      refine gf_Mod_7 B hC.1 rfl d_Mod_isPut_4 ?_
      refine mv_iload B d_Mod_isPut_7 0 rfl ?_
      refine ia_ld B k1_0 (by omega) (by omega) (by omega) d_Mod_isPut_9 ?_
      have rr2 : R32 (F 0 (Int.toNat (b + (i : Nat)))) := (hC.R 0) _
      refine mv_iconst (z := 4) B d_Mod_isPut_10 rfl ?_
      refine mv_icmp_ne (tgt := 20) B d_Mod_isPut_11 (by decide) (by omega) (by omega) (fun c3 => ?_) (fun c3 => ?_)
      · have e : i = a := by
          apply Classical.byContradiction
          intro q
          have := ha i (by omega)
          omega
        rw [show (b + ((i : Nat) : Int)) = b + ((a : Nat) : Int) by omega]
        refine mv_iload B d_Mod_isPut_20 0 rfl ?_
        refine mv_iload_n B d_Mod_isPut_22 rfl 2 rfl ?_
        refine mv_isub B d_Mod_isPut_23 ?_
        refine mv_aloadR_n B d_Mod_isPut_24 rfl 1 rfl ?_
        refine gf_Mod_37 B hC.1 rfl d_Mod_isPut_25 ?_
        refine mv_iload_n B d_Mod_isPut_28 rfl 3 rfl ?_
        refine ia_ld B k1_9 (by omega) (by omega) (by omega) d_Mod_isPut_29 ?_
        rw [show Int.toNat ((d : Nat)) = d from by omega]
        have rr4 : R32 (F 9 d) := (hC.R 9) _
        refine mv_aloadR_n B d_Mod_isPut_30 rfl 1 rfl ?_
        refine gf_Mod_40 B hC.1 rfl d_Mod_isPut_31 ?_
        refine mv_iload_n B d_Mod_isPut_34 rfl 3 rfl ?_
        refine ia_ld B k1_10 (by omega) (by omega) (by omega) d_Mod_isPut_35 ?_
        rw [show Int.toNat ((d : Nat)) = d from by omega]
        have rr5 : R32 (F 10 d) := (hC.R 10) _
        refine mv_iadd B d_Mod_isPut_36 ?_
        refine mv_icmp_ne (tgt := 66) B d_Mod_isPut_37 (by decide) (by omega) (by omega) (fun c6 => ?_) (fun c6 => ?_)
        · refine mv_iconst (z := 0) B d_Mod_isPut_66 rfl ?_
          refine mv_istore (lv' := [(5, .int (iI (0))), (4, .int (iI (b + (a : Nat)))), (0, .ref r), (1, .int (iI (b))), (2, .int (iI ((d : Nat)))), (3, .int (iI (v)))]) B d_Mod_isPut_67 (by decide) rfl ?_
          refine mv_iinc (lv' := [(4, .int (iI ((b + (a : Nat)) + 1))), (5, .int (iI (0))), (0, .ref r), (1, .int (iI (b))), (2, .int (iI ((d : Nat)))), (3, .int (iI (v)))]) B d_Mod_isPut_69 1 rfl (by decide) rfl ?_
          refine mv_iconst (z := 0) B d_Mod_isPut_72 rfl ?_
          refine mv_istore (lv' := [(6, .int (iI (0))), (4, .int (iI ((b + (a : Nat)) + 1))), (5, .int (iI (0))), (0, .ref r), (1, .int (iI (b))), (2, .int (iI ((d : Nat)))), (3, .int (iI (v)))]) B d_Mod_isPut_73 (by decide) rfl ?_
          have L75 : ∀ (fu : Nat) (k : Nat) (p : Int), ((k : Int) ≤ F 9 d) → (((decide ((a : Int) = F 9 d + F 10 d) && (decide (F 0 (b + a).toNat = 1) && decide (F 1 (b + a).toNat = d))) && prR F (b + (a : Nat) + 1) v k) = true → p = b + (a : Nat) + 1 + (k : Nat)) → ((F 9 d).toNat - k) < fu → mv_G X Q (kk V) 7 75 [(6, .int (iI ((k : Nat)))), (5, .int (iI (if ((decide ((a : Int) = F 9 d + F 10 d) && (decide (F 0 (b + a).toNat = 1) && decide (F 1 (b + a).toNat = d))) && prR F (b + (a : Nat) + 1) v k) = true then 1 else 0))), (4, .int (iI (p))), (0, .ref r), (1, .int (iI (b))), (2, .int (iI ((d : Nat)))), (3, .int (iI (v)))] [] M 0 0 := by
            intro fu
            induction fu with
            | zero => intro k p hk hpp hm; exact absurd hm (Nat.not_lt_zero _)
            | succ fu ih75 =>
              intro k p hk hpp hm
              have hR0 := hC.R 0 (Int.toNat (b + (a : Nat) + 1 + (k : Nat)))
              have hR1 := hC.R 1 (Int.toNat (b + (a : Nat) + 1 + (k : Nat)))
              refine mv_iload B d_Mod_isPut_75 0 rfl ?_
              refine mv_aloadR_n B d_Mod_isPut_77 rfl 3 rfl ?_
              refine gf_Mod_37 B hC.1 rfl d_Mod_isPut_78 ?_
              refine mv_iload_n B d_Mod_isPut_81 rfl 5 rfl ?_
              refine ia_ld B k1_9 (by omega) (by omega) (by omega) d_Mod_isPut_82 ?_
              rw [show Int.toNat ((d : Nat)) = d from by omega]
              have rr7 : R32 (F 9 d) := (hC.R 9) _
              refine mv_icmp_ge (tgt := 140) B d_Mod_isPut_83 (by decide) (by omega) (by omega) (fun c8 => ?_) (fun c8 => ?_)
              · refine mv_iload B d_Mod_isPut_140 1 rfl ?_
                rw [hQ]
                exact mv_zret B (by split <;> rfl) ⟨(by unfold isPR; rw [show (F 9 d).toNat = k by omega]), rfl⟩ (by omega) (by omega) d_Mod_isPut_142
              · refine mv_iload B d_Mod_isPut_86 1 rfl ?_
                refine mv_if_eq (tgt := 140) B d_Mod_isPut_88 (by decide) (by omega) (fun c9 => ?_) (fun c9 => ?_)
                · refine mv_iload B d_Mod_isPut_140 1 rfl ?_
                  rw [hQ]
                  have hgf : ((decide ((a : Int) = F 9 d + F 10 d) && (decide (F 0 (b + a).toNat = 1) && decide (F 1 (b + a).toNat = d))) && prR F (b + (a : Nat) + 1) v k) = false := by
                    apply Bool.eq_false_iff.mpr
                    intro q
                    rw [if_pos q] at c9
                    omega
                  have hif : isPR F d b a v = false := by
                    unfold isPR
                    rw [Bool.and_eq_false_iff] at hgf ⊢
                    exact hgf.imp id (fun q => prR_f q _ (by omega))
                  exact mv_zret B (by split <;> rfl) ⟨(by rw [hgf, hif]), rfl⟩ (by omega) (by omega) d_Mod_isPut_142
                · have hg : ((decide ((a : Int) = F 9 d + F 10 d) && (decide (F 0 (b + a).toNat = 1) && decide (F 1 (b + a).toNat = d))) && prR F (b + (a : Nat) + 1) v k) = true := by
                    apply Classical.byContradiction
                    intro q
                    rw [if_neg q] at c9
                    omega
                  have ep := hpp hg
                  subst ep
                  have hab : (a : Int) = F 9 d + F 10 d := by
                    rw [Bool.and_eq_true, Bool.and_eq_true, decide_eq_true_eq] at hg
                    exact hg.1.1
                  have hsf1 := hsf hab
                  refine mv_aloadR_n B d_Mod_isPut_91 rfl 3 rfl ?_
                  refine gf_Mod_7 B hC.1 rfl d_Mod_isPut_92 ?_
                  refine mv_iload B d_Mod_isPut_95 2 rfl ?_
                  refine ia_ld B k1_0 (by omega) (by omega) (by omega) d_Mod_isPut_97 ?_
                  have rr10 : R32 (F 0 (Int.toNat (b + (a : Nat) + 1 + (k : Nat)))) := (hC.R 0) _
                  refine mv_if_ne (tgt := 119) B d_Mod_isPut_98 (by decide) (by omega) (fun c11 => ?_) (fun c11 => ?_)
                  · refine mv_iconst (z := 0) B d_Mod_isPut_119 rfl ?_
                    refine mv_istore (lv' := [(5, .int (iI (0))), (6, .int (iI ((k : Nat)))), (4, .int (iI (b + (a : Nat) + 1 + (k : Nat)))), (0, .ref r), (1, .int (iI (b))), (2, .int (iI ((d : Nat)))), (3, .int (iI (v)))]) B d_Mod_isPut_120 (by decide) rfl ?_
                    refine mv_iload B d_Mod_isPut_122 2 rfl ?_
                    refine mv_aloadR_n B d_Mod_isPut_124 rfl 3 rfl ?_
                    refine gf_Mod_19 B hC.1 rfl d_Mod_isPut_125 ?_
                    refine mv_iload B d_Mod_isPut_128 2 rfl ?_
                    refine ia_ld B k1_3 (by omega) (by omega) (by omega) d_Mod_isPut_130 ?_
                    have rr12 : R32 (F 3 (Int.toNat (b + (a : Nat) + 1 + (k : Nat)))) := (hC.R 3) _
                    refine mv_iadd B d_Mod_isPut_131 ?_
                    refine mv_istore (lv' := [(4, .int (iI ((b + (a : Nat) + 1 + (k : Nat)) + (F 3 (Int.toNat (b + (a : Nat) + 1 + (k : Nat))))))), (5, .int (iI (0))), (6, .int (iI ((k : Nat)))), (0, .ref r), (1, .int (iI (b))), (2, .int (iI ((d : Nat)))), (3, .int (iI (v)))]) B d_Mod_isPut_132 (by decide) rfl ?_
                    refine mv_iinc (lv' := [(6, .int (iI ((k : Nat) + 1))), (4, .int (iI ((b + (a : Nat) + 1 + (k : Nat)) + (F 3 (Int.toNat (b + (a : Nat) + 1 + (k : Nat))))))), (5, .int (iI (0))), (0, .ref r), (1, .int (iI (b))), (2, .int (iI ((d : Nat)))), (3, .int (iI (v)))]) B d_Mod_isPut_134 2 rfl (by decide) rfl ?_
                    refine mv_goto (tgt := 75) B d_Mod_isPut_137 (by decide) ?_
                    refine mv_lv (lv' := [(6, .int (iI (((k + 1) : Nat)))), (5, .int (iI (if ((decide ((a : Int) = F 9 d + F 10 d) && (decide (F 0 (b + a).toNat = 1) && decide (F 1 (b + a).toNat = d))) && prR F (b + (a : Nat) + 1) v (k + 1)) = true then 1 else 0))), (4, .int (iI (((b + (a : Nat) + 1 + (k : Nat)) + (F 3 (Int.toNat (b + (a : Nat) + 1 + (k : Nat)))))))), (0, .ref r), (1, .int (iI (b))), (2, .int (iI ((d : Nat)))), (3, .int (iI (v)))]) [0, 2, 1, 3, 4, 5, 6] (lc (lI (by first | rfl | omega)) (lc (lI (by rw [prR_s, ← Bool.and_assoc, hg, Bool.true_and]; first | (rw [if_pos (by rw [Bool.and_eq_true, decide_eq_true_eq, decide_eq_true_eq]; omega)]; done) | (rw [if_neg (by intro q; rw [Bool.and_eq_true, decide_eq_true_eq, decide_eq_true_eq] at q; omega)]; done) | omega)) (lc (lI (by first | rfl | omega)) (lc rfl (lc rfl (lc rfl (lc rfl rfl))))))) ?_
                    exact ih75 (k + 1) ((b + (a : Nat) + 1 + (k : Nat)) + (F 3 (Int.toNat (b + (a : Nat) + 1 + (k : Nat))))) (by omega) (fun q => by rw [prR_s, ← Bool.and_assoc, hg, Bool.true_and, Bool.and_eq_true, decide_eq_true_eq, decide_eq_true_eq] at q; have := hv1 k (by omega) hg q.1; omega) (by omega)
                  · refine mv_aloadR_n B d_Mod_isPut_101 rfl 3 rfl ?_
                    refine gf_Mod_13 B hC.1 rfl d_Mod_isPut_102 ?_
                    refine mv_iload B d_Mod_isPut_105 2 rfl ?_
                    refine ia_ld B k1_1 (by omega) (by omega) (by omega) d_Mod_isPut_107 ?_
                    have rr13 : R32 (F 1 (Int.toNat (b + (a : Nat) + 1 + (k : Nat)))) := (hC.R 1) _
                    refine mv_iload_n B d_Mod_isPut_108 rfl 6 rfl ?_
                    refine mv_iload B d_Mod_isPut_109 0 rfl ?_
                    refine mv_isub B d_Mod_isPut_111 ?_
                    refine mv_icmp_ne (tgt := 119) B d_Mod_isPut_112 (by decide) (by omega) (by omega) (fun c14 => ?_) (fun c14 => ?_)
                    · refine mv_iconst (z := 0) B d_Mod_isPut_119 rfl ?_
                      refine mv_istore (lv' := [(5, .int (iI (0))), (6, .int (iI ((k : Nat)))), (4, .int (iI (b + (a : Nat) + 1 + (k : Nat)))), (0, .ref r), (1, .int (iI (b))), (2, .int (iI ((d : Nat)))), (3, .int (iI (v)))]) B d_Mod_isPut_120 (by decide) rfl ?_
                      refine mv_iload B d_Mod_isPut_122 2 rfl ?_
                      refine mv_aloadR_n B d_Mod_isPut_124 rfl 3 rfl ?_
                      refine gf_Mod_19 B hC.1 rfl d_Mod_isPut_125 ?_
                      refine mv_iload B d_Mod_isPut_128 2 rfl ?_
                      refine ia_ld B k1_3 (by omega) (by omega) (by omega) d_Mod_isPut_130 ?_
                      have rr15 : R32 (F 3 (Int.toNat (b + (a : Nat) + 1 + (k : Nat)))) := (hC.R 3) _
                      refine mv_iadd B d_Mod_isPut_131 ?_
                      refine mv_istore (lv' := [(4, .int (iI ((b + (a : Nat) + 1 + (k : Nat)) + (F 3 (Int.toNat (b + (a : Nat) + 1 + (k : Nat))))))), (5, .int (iI (0))), (6, .int (iI ((k : Nat)))), (0, .ref r), (1, .int (iI (b))), (2, .int (iI ((d : Nat)))), (3, .int (iI (v)))]) B d_Mod_isPut_132 (by decide) rfl ?_
                      refine mv_iinc (lv' := [(6, .int (iI ((k : Nat) + 1))), (4, .int (iI ((b + (a : Nat) + 1 + (k : Nat)) + (F 3 (Int.toNat (b + (a : Nat) + 1 + (k : Nat))))))), (5, .int (iI (0))), (0, .ref r), (1, .int (iI (b))), (2, .int (iI ((d : Nat)))), (3, .int (iI (v)))]) B d_Mod_isPut_134 2 rfl (by decide) rfl ?_
                      refine mv_goto (tgt := 75) B d_Mod_isPut_137 (by decide) ?_
                      refine mv_lv (lv' := [(6, .int (iI (((k + 1) : Nat)))), (5, .int (iI (if ((decide ((a : Int) = F 9 d + F 10 d) && (decide (F 0 (b + a).toNat = 1) && decide (F 1 (b + a).toNat = d))) && prR F (b + (a : Nat) + 1) v (k + 1)) = true then 1 else 0))), (4, .int (iI (((b + (a : Nat) + 1 + (k : Nat)) + (F 3 (Int.toNat (b + (a : Nat) + 1 + (k : Nat)))))))), (0, .ref r), (1, .int (iI (b))), (2, .int (iI ((d : Nat)))), (3, .int (iI (v)))]) [0, 2, 1, 3, 4, 5, 6] (lc (lI (by first | rfl | omega)) (lc (lI (by rw [prR_s, ← Bool.and_assoc, hg, Bool.true_and]; first | (rw [if_pos (by rw [Bool.and_eq_true, decide_eq_true_eq, decide_eq_true_eq]; omega)]; done) | (rw [if_neg (by intro q; rw [Bool.and_eq_true, decide_eq_true_eq, decide_eq_true_eq] at q; omega)]; done) | omega)) (lc (lI (by first | rfl | omega)) (lc rfl (lc rfl (lc rfl (lc rfl rfl))))))) ?_
                      exact ih75 (k + 1) ((b + (a : Nat) + 1 + (k : Nat)) + (F 3 (Int.toNat (b + (a : Nat) + 1 + (k : Nat))))) (by omega) (fun q => by rw [prR_s, ← Bool.and_assoc, hg, Bool.true_and, Bool.and_eq_true, decide_eq_true_eq, decide_eq_true_eq] at q; have := hv1 k (by omega) hg q.1; omega) (by omega)
                    · refine mv_iconst (z := 1) B d_Mod_isPut_115 rfl ?_
                      refine mv_goto (tgt := 120) B d_Mod_isPut_116 (by decide) ?_
                      refine mv_istore (lv' := [(5, .int (iI (1))), (6, .int (iI ((k : Nat)))), (4, .int (iI (b + (a : Nat) + 1 + (k : Nat)))), (0, .ref r), (1, .int (iI (b))), (2, .int (iI ((d : Nat)))), (3, .int (iI (v)))]) B d_Mod_isPut_120 (by decide) rfl ?_
                      refine mv_iload B d_Mod_isPut_122 2 rfl ?_
                      refine mv_aloadR_n B d_Mod_isPut_124 rfl 3 rfl ?_
                      refine gf_Mod_19 B hC.1 rfl d_Mod_isPut_125 ?_
                      refine mv_iload B d_Mod_isPut_128 2 rfl ?_
                      refine ia_ld B k1_3 (by omega) (by omega) (by omega) d_Mod_isPut_130 ?_
                      have rr16 : R32 (F 3 (Int.toNat (b + (a : Nat) + 1 + (k : Nat)))) := (hC.R 3) _
                      refine mv_iadd B d_Mod_isPut_131 ?_
                      refine mv_istore (lv' := [(4, .int (iI ((b + (a : Nat) + 1 + (k : Nat)) + (F 3 (Int.toNat (b + (a : Nat) + 1 + (k : Nat))))))), (5, .int (iI (1))), (6, .int (iI ((k : Nat)))), (0, .ref r), (1, .int (iI (b))), (2, .int (iI ((d : Nat)))), (3, .int (iI (v)))]) B d_Mod_isPut_132 (by decide) rfl ?_
                      refine mv_iinc (lv' := [(6, .int (iI ((k : Nat) + 1))), (4, .int (iI ((b + (a : Nat) + 1 + (k : Nat)) + (F 3 (Int.toNat (b + (a : Nat) + 1 + (k : Nat))))))), (5, .int (iI (1))), (0, .ref r), (1, .int (iI (b))), (2, .int (iI ((d : Nat)))), (3, .int (iI (v)))]) B d_Mod_isPut_134 2 rfl (by decide) rfl ?_
                      refine mv_goto (tgt := 75) B d_Mod_isPut_137 (by decide) ?_
                      refine mv_lv (lv' := [(6, .int (iI (((k + 1) : Nat)))), (5, .int (iI (if ((decide ((a : Int) = F 9 d + F 10 d) && (decide (F 0 (b + a).toNat = 1) && decide (F 1 (b + a).toNat = d))) && prR F (b + (a : Nat) + 1) v (k + 1)) = true then 1 else 0))), (4, .int (iI (((b + (a : Nat) + 1 + (k : Nat)) + (F 3 (Int.toNat (b + (a : Nat) + 1 + (k : Nat)))))))), (0, .ref r), (1, .int (iI (b))), (2, .int (iI ((d : Nat)))), (3, .int (iI (v)))]) [0, 2, 1, 3, 4, 5, 6] (lc (lI (by first | rfl | omega)) (lc (lI (by rw [prR_s, ← Bool.and_assoc, hg, Bool.true_and]; first | (rw [if_pos (by rw [Bool.and_eq_true, decide_eq_true_eq, decide_eq_true_eq]; omega)]; done) | (rw [if_neg (by intro q; rw [Bool.and_eq_true, decide_eq_true_eq, decide_eq_true_eq] at q; omega)]; done) | omega)) (lc (lI (by first | rfl | omega)) (lc rfl (lc rfl (lc rfl (lc rfl rfl))))))) ?_
                      exact ih75 (k + 1) ((b + (a : Nat) + 1 + (k : Nat)) + (F 3 (Int.toNat (b + (a : Nat) + 1 + (k : Nat))))) (by omega) (fun q => by rw [prR_s, ← Bool.and_assoc, hg, Bool.true_and, Bool.and_eq_true, decide_eq_true_eq, decide_eq_true_eq] at q; have := hv1 k (by omega) hg q.1; omega) (by omega)
          refine mv_lv (lv' := [(6, .int (iI ((0 : Nat)))), (5, .int (iI (if ((decide ((a : Int) = F 9 d + F 10 d) && (decide (F 0 (b + a).toNat = 1) && decide (F 1 (b + a).toNat = d))) && prR F (b + (a : Nat) + 1) v 0) = true then 1 else 0))), (4, .int (iI ((b + (a : Nat) + 1)))), (0, .ref r), (1, .int (iI (b))), (2, .int (iI ((d : Nat)))), (3, .int (iI (v)))]) [0, 2, 1, 3, 4, 5, 6] (lc (lI (by first | rfl | omega)) (lc (lI (by rw [show prR F (b + (a : Nat) + 1) v 0 = true from rfl, Bool.and_true]; first | (rw [if_pos (by simp only [Bool.and_eq_true, decide_eq_true_eq]; omega)]; done) | (rw [if_neg (by simp only [Bool.and_eq_true, decide_eq_true_eq]; omega)]; done) | omega)) (lc (lI (by first | rfl | omega)) (lc rfl (lc rfl (lc rfl (lc rfl rfl))))))) ?_
          exact L75 _ 0 (b + (a : Nat) + 1) (by omega) (fun _ => by omega) (Nat.lt_succ_self _)
        · refine mv_aloadR_n B d_Mod_isPut_40 rfl 1 rfl ?_
          refine gf_Mod_7 B hC.1 rfl d_Mod_isPut_41 ?_
          refine mv_iload B d_Mod_isPut_44 0 rfl ?_
          refine ia_ld B k1_0 (by omega) (by omega) (by omega) d_Mod_isPut_46 ?_
          have rr17 : R32 (F 0 (Int.toNat (b + (a : Nat)))) := (hC.R 0) _
          refine mv_iconst (z := 1) B d_Mod_isPut_47 rfl ?_
          refine mv_icmp_ne (tgt := 66) B d_Mod_isPut_48 (by decide) (by omega) (by omega) (fun c18 => ?_) (fun c18 => ?_)
          · refine mv_iconst (z := 0) B d_Mod_isPut_66 rfl ?_
            refine mv_istore (lv' := [(5, .int (iI (0))), (4, .int (iI (b + (a : Nat)))), (0, .ref r), (1, .int (iI (b))), (2, .int (iI ((d : Nat)))), (3, .int (iI (v)))]) B d_Mod_isPut_67 (by decide) rfl ?_
            refine mv_iinc (lv' := [(4, .int (iI ((b + (a : Nat)) + 1))), (5, .int (iI (0))), (0, .ref r), (1, .int (iI (b))), (2, .int (iI ((d : Nat)))), (3, .int (iI (v)))]) B d_Mod_isPut_69 1 rfl (by decide) rfl ?_
            refine mv_iconst (z := 0) B d_Mod_isPut_72 rfl ?_
            refine mv_istore (lv' := [(6, .int (iI (0))), (4, .int (iI ((b + (a : Nat)) + 1))), (5, .int (iI (0))), (0, .ref r), (1, .int (iI (b))), (2, .int (iI ((d : Nat)))), (3, .int (iI (v)))]) B d_Mod_isPut_73 (by decide) rfl ?_
            have L75 : ∀ (fu : Nat) (k : Nat) (p : Int), ((k : Int) ≤ F 9 d) → (((decide ((a : Int) = F 9 d + F 10 d) && (decide (F 0 (b + a).toNat = 1) && decide (F 1 (b + a).toNat = d))) && prR F (b + (a : Nat) + 1) v k) = true → p = b + (a : Nat) + 1 + (k : Nat)) → ((F 9 d).toNat - k) < fu → mv_G X Q (kk V) 7 75 [(6, .int (iI ((k : Nat)))), (5, .int (iI (if ((decide ((a : Int) = F 9 d + F 10 d) && (decide (F 0 (b + a).toNat = 1) && decide (F 1 (b + a).toNat = d))) && prR F (b + (a : Nat) + 1) v k) = true then 1 else 0))), (4, .int (iI (p))), (0, .ref r), (1, .int (iI (b))), (2, .int (iI ((d : Nat)))), (3, .int (iI (v)))] [] M 0 0 := by
              intro fu
              induction fu with
              | zero => intro k p hk hpp hm; exact absurd hm (Nat.not_lt_zero _)
              | succ fu ih75 =>
                intro k p hk hpp hm
                have hR0 := hC.R 0 (Int.toNat (b + (a : Nat) + 1 + (k : Nat)))
                have hR1 := hC.R 1 (Int.toNat (b + (a : Nat) + 1 + (k : Nat)))
                refine mv_iload B d_Mod_isPut_75 0 rfl ?_
                refine mv_aloadR_n B d_Mod_isPut_77 rfl 3 rfl ?_
                refine gf_Mod_37 B hC.1 rfl d_Mod_isPut_78 ?_
                refine mv_iload_n B d_Mod_isPut_81 rfl 5 rfl ?_
                refine ia_ld B k1_9 (by omega) (by omega) (by omega) d_Mod_isPut_82 ?_
                rw [show Int.toNat ((d : Nat)) = d from by omega]
                have rr19 : R32 (F 9 d) := (hC.R 9) _
                refine mv_icmp_ge (tgt := 140) B d_Mod_isPut_83 (by decide) (by omega) (by omega) (fun c20 => ?_) (fun c20 => ?_)
                · refine mv_iload B d_Mod_isPut_140 1 rfl ?_
                  rw [hQ]
                  exact mv_zret B (by split <;> rfl) ⟨(by unfold isPR; rw [show (F 9 d).toNat = k by omega]), rfl⟩ (by omega) (by omega) d_Mod_isPut_142
                · refine mv_iload B d_Mod_isPut_86 1 rfl ?_
                  refine mv_if_eq (tgt := 140) B d_Mod_isPut_88 (by decide) (by omega) (fun c21 => ?_) (fun c21 => ?_)
                  · refine mv_iload B d_Mod_isPut_140 1 rfl ?_
                    rw [hQ]
                    have hgf : ((decide ((a : Int) = F 9 d + F 10 d) && (decide (F 0 (b + a).toNat = 1) && decide (F 1 (b + a).toNat = d))) && prR F (b + (a : Nat) + 1) v k) = false := by
                      apply Bool.eq_false_iff.mpr
                      intro q
                      rw [if_pos q] at c21
                      omega
                    have hif : isPR F d b a v = false := by
                      unfold isPR
                      rw [Bool.and_eq_false_iff] at hgf ⊢
                      exact hgf.imp id (fun q => prR_f q _ (by omega))
                    exact mv_zret B (by split <;> rfl) ⟨(by rw [hgf, hif]), rfl⟩ (by omega) (by omega) d_Mod_isPut_142
                  · have hg : ((decide ((a : Int) = F 9 d + F 10 d) && (decide (F 0 (b + a).toNat = 1) && decide (F 1 (b + a).toNat = d))) && prR F (b + (a : Nat) + 1) v k) = true := by
                      apply Classical.byContradiction
                      intro q
                      rw [if_neg q] at c21
                      omega
                    have ep := hpp hg
                    subst ep
                    have hab : (a : Int) = F 9 d + F 10 d := by
                      rw [Bool.and_eq_true, Bool.and_eq_true, decide_eq_true_eq] at hg
                      exact hg.1.1
                    have hsf1 := hsf hab
                    refine mv_aloadR_n B d_Mod_isPut_91 rfl 3 rfl ?_
                    refine gf_Mod_7 B hC.1 rfl d_Mod_isPut_92 ?_
                    refine mv_iload B d_Mod_isPut_95 2 rfl ?_
                    refine ia_ld B k1_0 (by omega) (by omega) (by omega) d_Mod_isPut_97 ?_
                    have rr22 : R32 (F 0 (Int.toNat (b + (a : Nat) + 1 + (k : Nat)))) := (hC.R 0) _
                    refine mv_if_ne (tgt := 119) B d_Mod_isPut_98 (by decide) (by omega) (fun c23 => ?_) (fun c23 => ?_)
                    · refine mv_iconst (z := 0) B d_Mod_isPut_119 rfl ?_
                      refine mv_istore (lv' := [(5, .int (iI (0))), (6, .int (iI ((k : Nat)))), (4, .int (iI (b + (a : Nat) + 1 + (k : Nat)))), (0, .ref r), (1, .int (iI (b))), (2, .int (iI ((d : Nat)))), (3, .int (iI (v)))]) B d_Mod_isPut_120 (by decide) rfl ?_
                      refine mv_iload B d_Mod_isPut_122 2 rfl ?_
                      refine mv_aloadR_n B d_Mod_isPut_124 rfl 3 rfl ?_
                      refine gf_Mod_19 B hC.1 rfl d_Mod_isPut_125 ?_
                      refine mv_iload B d_Mod_isPut_128 2 rfl ?_
                      refine ia_ld B k1_3 (by omega) (by omega) (by omega) d_Mod_isPut_130 ?_
                      have rr24 : R32 (F 3 (Int.toNat (b + (a : Nat) + 1 + (k : Nat)))) := (hC.R 3) _
                      refine mv_iadd B d_Mod_isPut_131 ?_
                      refine mv_istore (lv' := [(4, .int (iI ((b + (a : Nat) + 1 + (k : Nat)) + (F 3 (Int.toNat (b + (a : Nat) + 1 + (k : Nat))))))), (5, .int (iI (0))), (6, .int (iI ((k : Nat)))), (0, .ref r), (1, .int (iI (b))), (2, .int (iI ((d : Nat)))), (3, .int (iI (v)))]) B d_Mod_isPut_132 (by decide) rfl ?_
                      refine mv_iinc (lv' := [(6, .int (iI ((k : Nat) + 1))), (4, .int (iI ((b + (a : Nat) + 1 + (k : Nat)) + (F 3 (Int.toNat (b + (a : Nat) + 1 + (k : Nat))))))), (5, .int (iI (0))), (0, .ref r), (1, .int (iI (b))), (2, .int (iI ((d : Nat)))), (3, .int (iI (v)))]) B d_Mod_isPut_134 2 rfl (by decide) rfl ?_
                      refine mv_goto (tgt := 75) B d_Mod_isPut_137 (by decide) ?_
                      refine mv_lv (lv' := [(6, .int (iI (((k + 1) : Nat)))), (5, .int (iI (if ((decide ((a : Int) = F 9 d + F 10 d) && (decide (F 0 (b + a).toNat = 1) && decide (F 1 (b + a).toNat = d))) && prR F (b + (a : Nat) + 1) v (k + 1)) = true then 1 else 0))), (4, .int (iI (((b + (a : Nat) + 1 + (k : Nat)) + (F 3 (Int.toNat (b + (a : Nat) + 1 + (k : Nat)))))))), (0, .ref r), (1, .int (iI (b))), (2, .int (iI ((d : Nat)))), (3, .int (iI (v)))]) [0, 2, 1, 3, 4, 5, 6] (lc (lI (by first | rfl | omega)) (lc (lI (by rw [prR_s, ← Bool.and_assoc, hg, Bool.true_and]; first | (rw [if_pos (by rw [Bool.and_eq_true, decide_eq_true_eq, decide_eq_true_eq]; omega)]; done) | (rw [if_neg (by intro q; rw [Bool.and_eq_true, decide_eq_true_eq, decide_eq_true_eq] at q; omega)]; done) | omega)) (lc (lI (by first | rfl | omega)) (lc rfl (lc rfl (lc rfl (lc rfl rfl))))))) ?_
                      exact ih75 (k + 1) ((b + (a : Nat) + 1 + (k : Nat)) + (F 3 (Int.toNat (b + (a : Nat) + 1 + (k : Nat))))) (by omega) (fun q => by rw [prR_s, ← Bool.and_assoc, hg, Bool.true_and, Bool.and_eq_true, decide_eq_true_eq, decide_eq_true_eq] at q; have := hv1 k (by omega) hg q.1; omega) (by omega)
                    · refine mv_aloadR_n B d_Mod_isPut_101 rfl 3 rfl ?_
                      refine gf_Mod_13 B hC.1 rfl d_Mod_isPut_102 ?_
                      refine mv_iload B d_Mod_isPut_105 2 rfl ?_
                      refine ia_ld B k1_1 (by omega) (by omega) (by omega) d_Mod_isPut_107 ?_
                      have rr25 : R32 (F 1 (Int.toNat (b + (a : Nat) + 1 + (k : Nat)))) := (hC.R 1) _
                      refine mv_iload_n B d_Mod_isPut_108 rfl 6 rfl ?_
                      refine mv_iload B d_Mod_isPut_109 0 rfl ?_
                      refine mv_isub B d_Mod_isPut_111 ?_
                      refine mv_icmp_ne (tgt := 119) B d_Mod_isPut_112 (by decide) (by omega) (by omega) (fun c26 => ?_) (fun c26 => ?_)
                      · refine mv_iconst (z := 0) B d_Mod_isPut_119 rfl ?_
                        refine mv_istore (lv' := [(5, .int (iI (0))), (6, .int (iI ((k : Nat)))), (4, .int (iI (b + (a : Nat) + 1 + (k : Nat)))), (0, .ref r), (1, .int (iI (b))), (2, .int (iI ((d : Nat)))), (3, .int (iI (v)))]) B d_Mod_isPut_120 (by decide) rfl ?_
                        refine mv_iload B d_Mod_isPut_122 2 rfl ?_
                        refine mv_aloadR_n B d_Mod_isPut_124 rfl 3 rfl ?_
                        refine gf_Mod_19 B hC.1 rfl d_Mod_isPut_125 ?_
                        refine mv_iload B d_Mod_isPut_128 2 rfl ?_
                        refine ia_ld B k1_3 (by omega) (by omega) (by omega) d_Mod_isPut_130 ?_
                        have rr27 : R32 (F 3 (Int.toNat (b + (a : Nat) + 1 + (k : Nat)))) := (hC.R 3) _
                        refine mv_iadd B d_Mod_isPut_131 ?_
                        refine mv_istore (lv' := [(4, .int (iI ((b + (a : Nat) + 1 + (k : Nat)) + (F 3 (Int.toNat (b + (a : Nat) + 1 + (k : Nat))))))), (5, .int (iI (0))), (6, .int (iI ((k : Nat)))), (0, .ref r), (1, .int (iI (b))), (2, .int (iI ((d : Nat)))), (3, .int (iI (v)))]) B d_Mod_isPut_132 (by decide) rfl ?_
                        refine mv_iinc (lv' := [(6, .int (iI ((k : Nat) + 1))), (4, .int (iI ((b + (a : Nat) + 1 + (k : Nat)) + (F 3 (Int.toNat (b + (a : Nat) + 1 + (k : Nat))))))), (5, .int (iI (0))), (0, .ref r), (1, .int (iI (b))), (2, .int (iI ((d : Nat)))), (3, .int (iI (v)))]) B d_Mod_isPut_134 2 rfl (by decide) rfl ?_
                        refine mv_goto (tgt := 75) B d_Mod_isPut_137 (by decide) ?_
                        refine mv_lv (lv' := [(6, .int (iI (((k + 1) : Nat)))), (5, .int (iI (if ((decide ((a : Int) = F 9 d + F 10 d) && (decide (F 0 (b + a).toNat = 1) && decide (F 1 (b + a).toNat = d))) && prR F (b + (a : Nat) + 1) v (k + 1)) = true then 1 else 0))), (4, .int (iI (((b + (a : Nat) + 1 + (k : Nat)) + (F 3 (Int.toNat (b + (a : Nat) + 1 + (k : Nat)))))))), (0, .ref r), (1, .int (iI (b))), (2, .int (iI ((d : Nat)))), (3, .int (iI (v)))]) [0, 2, 1, 3, 4, 5, 6] (lc (lI (by first | rfl | omega)) (lc (lI (by rw [prR_s, ← Bool.and_assoc, hg, Bool.true_and]; first | (rw [if_pos (by rw [Bool.and_eq_true, decide_eq_true_eq, decide_eq_true_eq]; omega)]; done) | (rw [if_neg (by intro q; rw [Bool.and_eq_true, decide_eq_true_eq, decide_eq_true_eq] at q; omega)]; done) | omega)) (lc (lI (by first | rfl | omega)) (lc rfl (lc rfl (lc rfl (lc rfl rfl))))))) ?_
                        exact ih75 (k + 1) ((b + (a : Nat) + 1 + (k : Nat)) + (F 3 (Int.toNat (b + (a : Nat) + 1 + (k : Nat))))) (by omega) (fun q => by rw [prR_s, ← Bool.and_assoc, hg, Bool.true_and, Bool.and_eq_true, decide_eq_true_eq, decide_eq_true_eq] at q; have := hv1 k (by omega) hg q.1; omega) (by omega)
                      · refine mv_iconst (z := 1) B d_Mod_isPut_115 rfl ?_
                        refine mv_goto (tgt := 120) B d_Mod_isPut_116 (by decide) ?_
                        refine mv_istore (lv' := [(5, .int (iI (1))), (6, .int (iI ((k : Nat)))), (4, .int (iI (b + (a : Nat) + 1 + (k : Nat)))), (0, .ref r), (1, .int (iI (b))), (2, .int (iI ((d : Nat)))), (3, .int (iI (v)))]) B d_Mod_isPut_120 (by decide) rfl ?_
                        refine mv_iload B d_Mod_isPut_122 2 rfl ?_
                        refine mv_aloadR_n B d_Mod_isPut_124 rfl 3 rfl ?_
                        refine gf_Mod_19 B hC.1 rfl d_Mod_isPut_125 ?_
                        refine mv_iload B d_Mod_isPut_128 2 rfl ?_
                        refine ia_ld B k1_3 (by omega) (by omega) (by omega) d_Mod_isPut_130 ?_
                        have rr28 : R32 (F 3 (Int.toNat (b + (a : Nat) + 1 + (k : Nat)))) := (hC.R 3) _
                        refine mv_iadd B d_Mod_isPut_131 ?_
                        refine mv_istore (lv' := [(4, .int (iI ((b + (a : Nat) + 1 + (k : Nat)) + (F 3 (Int.toNat (b + (a : Nat) + 1 + (k : Nat))))))), (5, .int (iI (1))), (6, .int (iI ((k : Nat)))), (0, .ref r), (1, .int (iI (b))), (2, .int (iI ((d : Nat)))), (3, .int (iI (v)))]) B d_Mod_isPut_132 (by decide) rfl ?_
                        refine mv_iinc (lv' := [(6, .int (iI ((k : Nat) + 1))), (4, .int (iI ((b + (a : Nat) + 1 + (k : Nat)) + (F 3 (Int.toNat (b + (a : Nat) + 1 + (k : Nat))))))), (5, .int (iI (1))), (0, .ref r), (1, .int (iI (b))), (2, .int (iI ((d : Nat)))), (3, .int (iI (v)))]) B d_Mod_isPut_134 2 rfl (by decide) rfl ?_
                        refine mv_goto (tgt := 75) B d_Mod_isPut_137 (by decide) ?_
                        refine mv_lv (lv' := [(6, .int (iI (((k + 1) : Nat)))), (5, .int (iI (if ((decide ((a : Int) = F 9 d + F 10 d) && (decide (F 0 (b + a).toNat = 1) && decide (F 1 (b + a).toNat = d))) && prR F (b + (a : Nat) + 1) v (k + 1)) = true then 1 else 0))), (4, .int (iI (((b + (a : Nat) + 1 + (k : Nat)) + (F 3 (Int.toNat (b + (a : Nat) + 1 + (k : Nat)))))))), (0, .ref r), (1, .int (iI (b))), (2, .int (iI ((d : Nat)))), (3, .int (iI (v)))]) [0, 2, 1, 3, 4, 5, 6] (lc (lI (by first | rfl | omega)) (lc (lI (by rw [prR_s, ← Bool.and_assoc, hg, Bool.true_and]; first | (rw [if_pos (by rw [Bool.and_eq_true, decide_eq_true_eq, decide_eq_true_eq]; omega)]; done) | (rw [if_neg (by intro q; rw [Bool.and_eq_true, decide_eq_true_eq, decide_eq_true_eq] at q; omega)]; done) | omega)) (lc (lI (by first | rfl | omega)) (lc rfl (lc rfl (lc rfl (lc rfl rfl))))))) ?_
                        exact ih75 (k + 1) ((b + (a : Nat) + 1 + (k : Nat)) + (F 3 (Int.toNat (b + (a : Nat) + 1 + (k : Nat))))) (by omega) (fun q => by rw [prR_s, ← Bool.and_assoc, hg, Bool.true_and, Bool.and_eq_true, decide_eq_true_eq, decide_eq_true_eq] at q; have := hv1 k (by omega) hg q.1; omega) (by omega)
            refine mv_lv (lv' := [(6, .int (iI ((0 : Nat)))), (5, .int (iI (if ((decide ((a : Int) = F 9 d + F 10 d) && (decide (F 0 (b + a).toNat = 1) && decide (F 1 (b + a).toNat = d))) && prR F (b + (a : Nat) + 1) v 0) = true then 1 else 0))), (4, .int (iI ((b + (a : Nat) + 1)))), (0, .ref r), (1, .int (iI (b))), (2, .int (iI ((d : Nat)))), (3, .int (iI (v)))]) [0, 2, 1, 3, 4, 5, 6] (lc (lI (by first | rfl | omega)) (lc (lI (by rw [show prR F (b + (a : Nat) + 1) v 0 = true from rfl, Bool.and_true]; first | (rw [if_pos (by simp only [Bool.and_eq_true, decide_eq_true_eq]; omega)]; done) | (rw [if_neg (by simp only [Bool.and_eq_true, decide_eq_true_eq]; omega)]; done) | omega)) (lc (lI (by first | rfl | omega)) (lc rfl (lc rfl (lc rfl (lc rfl rfl))))))) ?_
            exact L75 _ 0 (b + (a : Nat) + 1) (by omega) (fun _ => by omega) (Nat.lt_succ_self _)
          · refine mv_aloadR_n B d_Mod_isPut_51 rfl 1 rfl ?_
            refine gf_Mod_13 B hC.1 rfl d_Mod_isPut_52 ?_
            refine mv_iload B d_Mod_isPut_55 0 rfl ?_
            refine ia_ld B k1_1 (by omega) (by omega) (by omega) d_Mod_isPut_57 ?_
            have rr29 : R32 (F 1 (Int.toNat (b + (a : Nat)))) := (hC.R 1) _
            refine mv_iload_n B d_Mod_isPut_58 rfl 3 rfl ?_
            refine mv_icmp_ne (tgt := 66) B d_Mod_isPut_59 (by decide) (by omega) (by omega) (fun c30 => ?_) (fun c30 => ?_)
            · refine mv_iconst (z := 0) B d_Mod_isPut_66 rfl ?_
              refine mv_istore (lv' := [(5, .int (iI (0))), (4, .int (iI (b + (a : Nat)))), (0, .ref r), (1, .int (iI (b))), (2, .int (iI ((d : Nat)))), (3, .int (iI (v)))]) B d_Mod_isPut_67 (by decide) rfl ?_
              refine mv_iinc (lv' := [(4, .int (iI ((b + (a : Nat)) + 1))), (5, .int (iI (0))), (0, .ref r), (1, .int (iI (b))), (2, .int (iI ((d : Nat)))), (3, .int (iI (v)))]) B d_Mod_isPut_69 1 rfl (by decide) rfl ?_
              refine mv_iconst (z := 0) B d_Mod_isPut_72 rfl ?_
              refine mv_istore (lv' := [(6, .int (iI (0))), (4, .int (iI ((b + (a : Nat)) + 1))), (5, .int (iI (0))), (0, .ref r), (1, .int (iI (b))), (2, .int (iI ((d : Nat)))), (3, .int (iI (v)))]) B d_Mod_isPut_73 (by decide) rfl ?_
              have L75 : ∀ (fu : Nat) (k : Nat) (p : Int), ((k : Int) ≤ F 9 d) → (((decide ((a : Int) = F 9 d + F 10 d) && (decide (F 0 (b + a).toNat = 1) && decide (F 1 (b + a).toNat = d))) && prR F (b + (a : Nat) + 1) v k) = true → p = b + (a : Nat) + 1 + (k : Nat)) → ((F 9 d).toNat - k) < fu → mv_G X Q (kk V) 7 75 [(6, .int (iI ((k : Nat)))), (5, .int (iI (if ((decide ((a : Int) = F 9 d + F 10 d) && (decide (F 0 (b + a).toNat = 1) && decide (F 1 (b + a).toNat = d))) && prR F (b + (a : Nat) + 1) v k) = true then 1 else 0))), (4, .int (iI (p))), (0, .ref r), (1, .int (iI (b))), (2, .int (iI ((d : Nat)))), (3, .int (iI (v)))] [] M 0 0 := by
                intro fu
                induction fu with
                | zero => intro k p hk hpp hm; exact absurd hm (Nat.not_lt_zero _)
                | succ fu ih75 =>
                  intro k p hk hpp hm
                  have hR0 := hC.R 0 (Int.toNat (b + (a : Nat) + 1 + (k : Nat)))
                  have hR1 := hC.R 1 (Int.toNat (b + (a : Nat) + 1 + (k : Nat)))
                  refine mv_iload B d_Mod_isPut_75 0 rfl ?_
                  refine mv_aloadR_n B d_Mod_isPut_77 rfl 3 rfl ?_
                  refine gf_Mod_37 B hC.1 rfl d_Mod_isPut_78 ?_
                  refine mv_iload_n B d_Mod_isPut_81 rfl 5 rfl ?_
                  refine ia_ld B k1_9 (by omega) (by omega) (by omega) d_Mod_isPut_82 ?_
                  rw [show Int.toNat ((d : Nat)) = d from by omega]
                  have rr31 : R32 (F 9 d) := (hC.R 9) _
                  refine mv_icmp_ge (tgt := 140) B d_Mod_isPut_83 (by decide) (by omega) (by omega) (fun c32 => ?_) (fun c32 => ?_)
                  · refine mv_iload B d_Mod_isPut_140 1 rfl ?_
                    rw [hQ]
                    exact mv_zret B (by split <;> rfl) ⟨(by unfold isPR; rw [show (F 9 d).toNat = k by omega]), rfl⟩ (by omega) (by omega) d_Mod_isPut_142
                  · refine mv_iload B d_Mod_isPut_86 1 rfl ?_
                    refine mv_if_eq (tgt := 140) B d_Mod_isPut_88 (by decide) (by omega) (fun c33 => ?_) (fun c33 => ?_)
                    · refine mv_iload B d_Mod_isPut_140 1 rfl ?_
                      rw [hQ]
                      have hgf : ((decide ((a : Int) = F 9 d + F 10 d) && (decide (F 0 (b + a).toNat = 1) && decide (F 1 (b + a).toNat = d))) && prR F (b + (a : Nat) + 1) v k) = false := by
                        apply Bool.eq_false_iff.mpr
                        intro q
                        rw [if_pos q] at c33
                        omega
                      have hif : isPR F d b a v = false := by
                        unfold isPR
                        rw [Bool.and_eq_false_iff] at hgf ⊢
                        exact hgf.imp id (fun q => prR_f q _ (by omega))
                      exact mv_zret B (by split <;> rfl) ⟨(by rw [hgf, hif]), rfl⟩ (by omega) (by omega) d_Mod_isPut_142
                    · have hg : ((decide ((a : Int) = F 9 d + F 10 d) && (decide (F 0 (b + a).toNat = 1) && decide (F 1 (b + a).toNat = d))) && prR F (b + (a : Nat) + 1) v k) = true := by
                        apply Classical.byContradiction
                        intro q
                        rw [if_neg q] at c33
                        omega
                      have ep := hpp hg
                      subst ep
                      have hab : (a : Int) = F 9 d + F 10 d := by
                        rw [Bool.and_eq_true, Bool.and_eq_true, decide_eq_true_eq] at hg
                        exact hg.1.1
                      have hsf1 := hsf hab
                      refine mv_aloadR_n B d_Mod_isPut_91 rfl 3 rfl ?_
                      refine gf_Mod_7 B hC.1 rfl d_Mod_isPut_92 ?_
                      refine mv_iload B d_Mod_isPut_95 2 rfl ?_
                      refine ia_ld B k1_0 (by omega) (by omega) (by omega) d_Mod_isPut_97 ?_
                      have rr34 : R32 (F 0 (Int.toNat (b + (a : Nat) + 1 + (k : Nat)))) := (hC.R 0) _
                      refine mv_if_ne (tgt := 119) B d_Mod_isPut_98 (by decide) (by omega) (fun c35 => ?_) (fun c35 => ?_)
                      · refine mv_iconst (z := 0) B d_Mod_isPut_119 rfl ?_
                        refine mv_istore (lv' := [(5, .int (iI (0))), (6, .int (iI ((k : Nat)))), (4, .int (iI (b + (a : Nat) + 1 + (k : Nat)))), (0, .ref r), (1, .int (iI (b))), (2, .int (iI ((d : Nat)))), (3, .int (iI (v)))]) B d_Mod_isPut_120 (by decide) rfl ?_
                        refine mv_iload B d_Mod_isPut_122 2 rfl ?_
                        refine mv_aloadR_n B d_Mod_isPut_124 rfl 3 rfl ?_
                        refine gf_Mod_19 B hC.1 rfl d_Mod_isPut_125 ?_
                        refine mv_iload B d_Mod_isPut_128 2 rfl ?_
                        refine ia_ld B k1_3 (by omega) (by omega) (by omega) d_Mod_isPut_130 ?_
                        have rr36 : R32 (F 3 (Int.toNat (b + (a : Nat) + 1 + (k : Nat)))) := (hC.R 3) _
                        refine mv_iadd B d_Mod_isPut_131 ?_
                        refine mv_istore (lv' := [(4, .int (iI ((b + (a : Nat) + 1 + (k : Nat)) + (F 3 (Int.toNat (b + (a : Nat) + 1 + (k : Nat))))))), (5, .int (iI (0))), (6, .int (iI ((k : Nat)))), (0, .ref r), (1, .int (iI (b))), (2, .int (iI ((d : Nat)))), (3, .int (iI (v)))]) B d_Mod_isPut_132 (by decide) rfl ?_
                        refine mv_iinc (lv' := [(6, .int (iI ((k : Nat) + 1))), (4, .int (iI ((b + (a : Nat) + 1 + (k : Nat)) + (F 3 (Int.toNat (b + (a : Nat) + 1 + (k : Nat))))))), (5, .int (iI (0))), (0, .ref r), (1, .int (iI (b))), (2, .int (iI ((d : Nat)))), (3, .int (iI (v)))]) B d_Mod_isPut_134 2 rfl (by decide) rfl ?_
                        refine mv_goto (tgt := 75) B d_Mod_isPut_137 (by decide) ?_
                        refine mv_lv (lv' := [(6, .int (iI (((k + 1) : Nat)))), (5, .int (iI (if ((decide ((a : Int) = F 9 d + F 10 d) && (decide (F 0 (b + a).toNat = 1) && decide (F 1 (b + a).toNat = d))) && prR F (b + (a : Nat) + 1) v (k + 1)) = true then 1 else 0))), (4, .int (iI (((b + (a : Nat) + 1 + (k : Nat)) + (F 3 (Int.toNat (b + (a : Nat) + 1 + (k : Nat)))))))), (0, .ref r), (1, .int (iI (b))), (2, .int (iI ((d : Nat)))), (3, .int (iI (v)))]) [0, 2, 1, 3, 4, 5, 6] (lc (lI (by first | rfl | omega)) (lc (lI (by rw [prR_s, ← Bool.and_assoc, hg, Bool.true_and]; first | (rw [if_pos (by rw [Bool.and_eq_true, decide_eq_true_eq, decide_eq_true_eq]; omega)]; done) | (rw [if_neg (by intro q; rw [Bool.and_eq_true, decide_eq_true_eq, decide_eq_true_eq] at q; omega)]; done) | omega)) (lc (lI (by first | rfl | omega)) (lc rfl (lc rfl (lc rfl (lc rfl rfl))))))) ?_
                        exact ih75 (k + 1) ((b + (a : Nat) + 1 + (k : Nat)) + (F 3 (Int.toNat (b + (a : Nat) + 1 + (k : Nat))))) (by omega) (fun q => by rw [prR_s, ← Bool.and_assoc, hg, Bool.true_and, Bool.and_eq_true, decide_eq_true_eq, decide_eq_true_eq] at q; have := hv1 k (by omega) hg q.1; omega) (by omega)
                      · refine mv_aloadR_n B d_Mod_isPut_101 rfl 3 rfl ?_
                        refine gf_Mod_13 B hC.1 rfl d_Mod_isPut_102 ?_
                        refine mv_iload B d_Mod_isPut_105 2 rfl ?_
                        refine ia_ld B k1_1 (by omega) (by omega) (by omega) d_Mod_isPut_107 ?_
                        have rr37 : R32 (F 1 (Int.toNat (b + (a : Nat) + 1 + (k : Nat)))) := (hC.R 1) _
                        refine mv_iload_n B d_Mod_isPut_108 rfl 6 rfl ?_
                        refine mv_iload B d_Mod_isPut_109 0 rfl ?_
                        refine mv_isub B d_Mod_isPut_111 ?_
                        refine mv_icmp_ne (tgt := 119) B d_Mod_isPut_112 (by decide) (by omega) (by omega) (fun c38 => ?_) (fun c38 => ?_)
                        · refine mv_iconst (z := 0) B d_Mod_isPut_119 rfl ?_
                          refine mv_istore (lv' := [(5, .int (iI (0))), (6, .int (iI ((k : Nat)))), (4, .int (iI (b + (a : Nat) + 1 + (k : Nat)))), (0, .ref r), (1, .int (iI (b))), (2, .int (iI ((d : Nat)))), (3, .int (iI (v)))]) B d_Mod_isPut_120 (by decide) rfl ?_
                          refine mv_iload B d_Mod_isPut_122 2 rfl ?_
                          refine mv_aloadR_n B d_Mod_isPut_124 rfl 3 rfl ?_
                          refine gf_Mod_19 B hC.1 rfl d_Mod_isPut_125 ?_
                          refine mv_iload B d_Mod_isPut_128 2 rfl ?_
                          refine ia_ld B k1_3 (by omega) (by omega) (by omega) d_Mod_isPut_130 ?_
                          have rr39 : R32 (F 3 (Int.toNat (b + (a : Nat) + 1 + (k : Nat)))) := (hC.R 3) _
                          refine mv_iadd B d_Mod_isPut_131 ?_
                          refine mv_istore (lv' := [(4, .int (iI ((b + (a : Nat) + 1 + (k : Nat)) + (F 3 (Int.toNat (b + (a : Nat) + 1 + (k : Nat))))))), (5, .int (iI (0))), (6, .int (iI ((k : Nat)))), (0, .ref r), (1, .int (iI (b))), (2, .int (iI ((d : Nat)))), (3, .int (iI (v)))]) B d_Mod_isPut_132 (by decide) rfl ?_
                          refine mv_iinc (lv' := [(6, .int (iI ((k : Nat) + 1))), (4, .int (iI ((b + (a : Nat) + 1 + (k : Nat)) + (F 3 (Int.toNat (b + (a : Nat) + 1 + (k : Nat))))))), (5, .int (iI (0))), (0, .ref r), (1, .int (iI (b))), (2, .int (iI ((d : Nat)))), (3, .int (iI (v)))]) B d_Mod_isPut_134 2 rfl (by decide) rfl ?_
                          refine mv_goto (tgt := 75) B d_Mod_isPut_137 (by decide) ?_
                          refine mv_lv (lv' := [(6, .int (iI (((k + 1) : Nat)))), (5, .int (iI (if ((decide ((a : Int) = F 9 d + F 10 d) && (decide (F 0 (b + a).toNat = 1) && decide (F 1 (b + a).toNat = d))) && prR F (b + (a : Nat) + 1) v (k + 1)) = true then 1 else 0))), (4, .int (iI (((b + (a : Nat) + 1 + (k : Nat)) + (F 3 (Int.toNat (b + (a : Nat) + 1 + (k : Nat)))))))), (0, .ref r), (1, .int (iI (b))), (2, .int (iI ((d : Nat)))), (3, .int (iI (v)))]) [0, 2, 1, 3, 4, 5, 6] (lc (lI (by first | rfl | omega)) (lc (lI (by rw [prR_s, ← Bool.and_assoc, hg, Bool.true_and]; first | (rw [if_pos (by rw [Bool.and_eq_true, decide_eq_true_eq, decide_eq_true_eq]; omega)]; done) | (rw [if_neg (by intro q; rw [Bool.and_eq_true, decide_eq_true_eq, decide_eq_true_eq] at q; omega)]; done) | omega)) (lc (lI (by first | rfl | omega)) (lc rfl (lc rfl (lc rfl (lc rfl rfl))))))) ?_
                          exact ih75 (k + 1) ((b + (a : Nat) + 1 + (k : Nat)) + (F 3 (Int.toNat (b + (a : Nat) + 1 + (k : Nat))))) (by omega) (fun q => by rw [prR_s, ← Bool.and_assoc, hg, Bool.true_and, Bool.and_eq_true, decide_eq_true_eq, decide_eq_true_eq] at q; have := hv1 k (by omega) hg q.1; omega) (by omega)
                        · refine mv_iconst (z := 1) B d_Mod_isPut_115 rfl ?_
                          refine mv_goto (tgt := 120) B d_Mod_isPut_116 (by decide) ?_
                          refine mv_istore (lv' := [(5, .int (iI (1))), (6, .int (iI ((k : Nat)))), (4, .int (iI (b + (a : Nat) + 1 + (k : Nat)))), (0, .ref r), (1, .int (iI (b))), (2, .int (iI ((d : Nat)))), (3, .int (iI (v)))]) B d_Mod_isPut_120 (by decide) rfl ?_
                          refine mv_iload B d_Mod_isPut_122 2 rfl ?_
                          refine mv_aloadR_n B d_Mod_isPut_124 rfl 3 rfl ?_
                          refine gf_Mod_19 B hC.1 rfl d_Mod_isPut_125 ?_
                          refine mv_iload B d_Mod_isPut_128 2 rfl ?_
                          refine ia_ld B k1_3 (by omega) (by omega) (by omega) d_Mod_isPut_130 ?_
                          have rr40 : R32 (F 3 (Int.toNat (b + (a : Nat) + 1 + (k : Nat)))) := (hC.R 3) _
                          refine mv_iadd B d_Mod_isPut_131 ?_
                          refine mv_istore (lv' := [(4, .int (iI ((b + (a : Nat) + 1 + (k : Nat)) + (F 3 (Int.toNat (b + (a : Nat) + 1 + (k : Nat))))))), (5, .int (iI (1))), (6, .int (iI ((k : Nat)))), (0, .ref r), (1, .int (iI (b))), (2, .int (iI ((d : Nat)))), (3, .int (iI (v)))]) B d_Mod_isPut_132 (by decide) rfl ?_
                          refine mv_iinc (lv' := [(6, .int (iI ((k : Nat) + 1))), (4, .int (iI ((b + (a : Nat) + 1 + (k : Nat)) + (F 3 (Int.toNat (b + (a : Nat) + 1 + (k : Nat))))))), (5, .int (iI (1))), (0, .ref r), (1, .int (iI (b))), (2, .int (iI ((d : Nat)))), (3, .int (iI (v)))]) B d_Mod_isPut_134 2 rfl (by decide) rfl ?_
                          refine mv_goto (tgt := 75) B d_Mod_isPut_137 (by decide) ?_
                          refine mv_lv (lv' := [(6, .int (iI (((k + 1) : Nat)))), (5, .int (iI (if ((decide ((a : Int) = F 9 d + F 10 d) && (decide (F 0 (b + a).toNat = 1) && decide (F 1 (b + a).toNat = d))) && prR F (b + (a : Nat) + 1) v (k + 1)) = true then 1 else 0))), (4, .int (iI (((b + (a : Nat) + 1 + (k : Nat)) + (F 3 (Int.toNat (b + (a : Nat) + 1 + (k : Nat)))))))), (0, .ref r), (1, .int (iI (b))), (2, .int (iI ((d : Nat)))), (3, .int (iI (v)))]) [0, 2, 1, 3, 4, 5, 6] (lc (lI (by first | rfl | omega)) (lc (lI (by rw [prR_s, ← Bool.and_assoc, hg, Bool.true_and]; first | (rw [if_pos (by rw [Bool.and_eq_true, decide_eq_true_eq, decide_eq_true_eq]; omega)]; done) | (rw [if_neg (by intro q; rw [Bool.and_eq_true, decide_eq_true_eq, decide_eq_true_eq] at q; omega)]; done) | omega)) (lc (lI (by first | rfl | omega)) (lc rfl (lc rfl (lc rfl (lc rfl rfl))))))) ?_
                          exact ih75 (k + 1) ((b + (a : Nat) + 1 + (k : Nat)) + (F 3 (Int.toNat (b + (a : Nat) + 1 + (k : Nat))))) (by omega) (fun q => by rw [prR_s, ← Bool.and_assoc, hg, Bool.true_and, Bool.and_eq_true, decide_eq_true_eq, decide_eq_true_eq] at q; have := hv1 k (by omega) hg q.1; omega) (by omega)
              refine mv_lv (lv' := [(6, .int (iI ((0 : Nat)))), (5, .int (iI (if ((decide ((a : Int) = F 9 d + F 10 d) && (decide (F 0 (b + a).toNat = 1) && decide (F 1 (b + a).toNat = d))) && prR F (b + (a : Nat) + 1) v 0) = true then 1 else 0))), (4, .int (iI ((b + (a : Nat) + 1)))), (0, .ref r), (1, .int (iI (b))), (2, .int (iI ((d : Nat)))), (3, .int (iI (v)))]) [0, 2, 1, 3, 4, 5, 6] (lc (lI (by first | rfl | omega)) (lc (lI (by rw [show prR F (b + (a : Nat) + 1) v 0 = true from rfl, Bool.and_true]; first | (rw [if_pos (by simp only [Bool.and_eq_true, decide_eq_true_eq]; omega)]; done) | (rw [if_neg (by simp only [Bool.and_eq_true, decide_eq_true_eq]; omega)]; done) | omega)) (lc (lI (by first | rfl | omega)) (lc rfl (lc rfl (lc rfl (lc rfl rfl))))))) ?_
              exact L75 _ 0 (b + (a : Nat) + 1) (by omega) (fun _ => by omega) (Nat.lt_succ_self _)
            · refine mv_iconst (z := 1) B d_Mod_isPut_62 rfl ?_
              refine mv_goto (tgt := 67) B d_Mod_isPut_63 (by decide) ?_
              refine mv_istore (lv' := [(5, .int (iI (1))), (4, .int (iI (b + (a : Nat)))), (0, .ref r), (1, .int (iI (b))), (2, .int (iI ((d : Nat)))), (3, .int (iI (v)))]) B d_Mod_isPut_67 (by decide) rfl ?_
              refine mv_iinc (lv' := [(4, .int (iI ((b + (a : Nat)) + 1))), (5, .int (iI (1))), (0, .ref r), (1, .int (iI (b))), (2, .int (iI ((d : Nat)))), (3, .int (iI (v)))]) B d_Mod_isPut_69 1 rfl (by decide) rfl ?_
              refine mv_iconst (z := 0) B d_Mod_isPut_72 rfl ?_
              refine mv_istore (lv' := [(6, .int (iI (0))), (4, .int (iI ((b + (a : Nat)) + 1))), (5, .int (iI (1))), (0, .ref r), (1, .int (iI (b))), (2, .int (iI ((d : Nat)))), (3, .int (iI (v)))]) B d_Mod_isPut_73 (by decide) rfl ?_
              have L75 : ∀ (fu : Nat) (k : Nat) (p : Int), ((k : Int) ≤ F 9 d) → (((decide ((a : Int) = F 9 d + F 10 d) && (decide (F 0 (b + a).toNat = 1) && decide (F 1 (b + a).toNat = d))) && prR F (b + (a : Nat) + 1) v k) = true → p = b + (a : Nat) + 1 + (k : Nat)) → ((F 9 d).toNat - k) < fu → mv_G X Q (kk V) 7 75 [(6, .int (iI ((k : Nat)))), (5, .int (iI (if ((decide ((a : Int) = F 9 d + F 10 d) && (decide (F 0 (b + a).toNat = 1) && decide (F 1 (b + a).toNat = d))) && prR F (b + (a : Nat) + 1) v k) = true then 1 else 0))), (4, .int (iI (p))), (0, .ref r), (1, .int (iI (b))), (2, .int (iI ((d : Nat)))), (3, .int (iI (v)))] [] M 0 0 := by
                intro fu
                induction fu with
                | zero => intro k p hk hpp hm; exact absurd hm (Nat.not_lt_zero _)
                | succ fu ih75 =>
                  intro k p hk hpp hm
                  have hR0 := hC.R 0 (Int.toNat (b + (a : Nat) + 1 + (k : Nat)))
                  have hR1 := hC.R 1 (Int.toNat (b + (a : Nat) + 1 + (k : Nat)))
                  refine mv_iload B d_Mod_isPut_75 0 rfl ?_
                  refine mv_aloadR_n B d_Mod_isPut_77 rfl 3 rfl ?_
                  refine gf_Mod_37 B hC.1 rfl d_Mod_isPut_78 ?_
                  refine mv_iload_n B d_Mod_isPut_81 rfl 5 rfl ?_
                  refine ia_ld B k1_9 (by omega) (by omega) (by omega) d_Mod_isPut_82 ?_
                  rw [show Int.toNat ((d : Nat)) = d from by omega]
                  have rr41 : R32 (F 9 d) := (hC.R 9) _
                  refine mv_icmp_ge (tgt := 140) B d_Mod_isPut_83 (by decide) (by omega) (by omega) (fun c42 => ?_) (fun c42 => ?_)
                  · refine mv_iload B d_Mod_isPut_140 1 rfl ?_
                    rw [hQ]
                    exact mv_zret B (by split <;> rfl) ⟨(by unfold isPR; rw [show (F 9 d).toNat = k by omega]), rfl⟩ (by omega) (by omega) d_Mod_isPut_142
                  · refine mv_iload B d_Mod_isPut_86 1 rfl ?_
                    refine mv_if_eq (tgt := 140) B d_Mod_isPut_88 (by decide) (by omega) (fun c43 => ?_) (fun c43 => ?_)
                    · refine mv_iload B d_Mod_isPut_140 1 rfl ?_
                      rw [hQ]
                      have hgf : ((decide ((a : Int) = F 9 d + F 10 d) && (decide (F 0 (b + a).toNat = 1) && decide (F 1 (b + a).toNat = d))) && prR F (b + (a : Nat) + 1) v k) = false := by
                        apply Bool.eq_false_iff.mpr
                        intro q
                        rw [if_pos q] at c43
                        omega
                      have hif : isPR F d b a v = false := by
                        unfold isPR
                        rw [Bool.and_eq_false_iff] at hgf ⊢
                        exact hgf.imp id (fun q => prR_f q _ (by omega))
                      exact mv_zret B (by split <;> rfl) ⟨(by rw [hgf, hif]), rfl⟩ (by omega) (by omega) d_Mod_isPut_142
                    · have hg : ((decide ((a : Int) = F 9 d + F 10 d) && (decide (F 0 (b + a).toNat = 1) && decide (F 1 (b + a).toNat = d))) && prR F (b + (a : Nat) + 1) v k) = true := by
                        apply Classical.byContradiction
                        intro q
                        rw [if_neg q] at c43
                        omega
                      have ep := hpp hg
                      subst ep
                      have hab : (a : Int) = F 9 d + F 10 d := by
                        rw [Bool.and_eq_true, Bool.and_eq_true, decide_eq_true_eq] at hg
                        exact hg.1.1
                      have hsf1 := hsf hab
                      refine mv_aloadR_n B d_Mod_isPut_91 rfl 3 rfl ?_
                      refine gf_Mod_7 B hC.1 rfl d_Mod_isPut_92 ?_
                      refine mv_iload B d_Mod_isPut_95 2 rfl ?_
                      refine ia_ld B k1_0 (by omega) (by omega) (by omega) d_Mod_isPut_97 ?_
                      have rr44 : R32 (F 0 (Int.toNat (b + (a : Nat) + 1 + (k : Nat)))) := (hC.R 0) _
                      refine mv_if_ne (tgt := 119) B d_Mod_isPut_98 (by decide) (by omega) (fun c45 => ?_) (fun c45 => ?_)
                      · refine mv_iconst (z := 0) B d_Mod_isPut_119 rfl ?_
                        refine mv_istore (lv' := [(5, .int (iI (0))), (6, .int (iI ((k : Nat)))), (4, .int (iI (b + (a : Nat) + 1 + (k : Nat)))), (0, .ref r), (1, .int (iI (b))), (2, .int (iI ((d : Nat)))), (3, .int (iI (v)))]) B d_Mod_isPut_120 (by decide) rfl ?_
                        refine mv_iload B d_Mod_isPut_122 2 rfl ?_
                        refine mv_aloadR_n B d_Mod_isPut_124 rfl 3 rfl ?_
                        refine gf_Mod_19 B hC.1 rfl d_Mod_isPut_125 ?_
                        refine mv_iload B d_Mod_isPut_128 2 rfl ?_
                        refine ia_ld B k1_3 (by omega) (by omega) (by omega) d_Mod_isPut_130 ?_
                        have rr46 : R32 (F 3 (Int.toNat (b + (a : Nat) + 1 + (k : Nat)))) := (hC.R 3) _
                        refine mv_iadd B d_Mod_isPut_131 ?_
                        refine mv_istore (lv' := [(4, .int (iI ((b + (a : Nat) + 1 + (k : Nat)) + (F 3 (Int.toNat (b + (a : Nat) + 1 + (k : Nat))))))), (5, .int (iI (0))), (6, .int (iI ((k : Nat)))), (0, .ref r), (1, .int (iI (b))), (2, .int (iI ((d : Nat)))), (3, .int (iI (v)))]) B d_Mod_isPut_132 (by decide) rfl ?_
                        refine mv_iinc (lv' := [(6, .int (iI ((k : Nat) + 1))), (4, .int (iI ((b + (a : Nat) + 1 + (k : Nat)) + (F 3 (Int.toNat (b + (a : Nat) + 1 + (k : Nat))))))), (5, .int (iI (0))), (0, .ref r), (1, .int (iI (b))), (2, .int (iI ((d : Nat)))), (3, .int (iI (v)))]) B d_Mod_isPut_134 2 rfl (by decide) rfl ?_
                        refine mv_goto (tgt := 75) B d_Mod_isPut_137 (by decide) ?_
                        refine mv_lv (lv' := [(6, .int (iI (((k + 1) : Nat)))), (5, .int (iI (if ((decide ((a : Int) = F 9 d + F 10 d) && (decide (F 0 (b + a).toNat = 1) && decide (F 1 (b + a).toNat = d))) && prR F (b + (a : Nat) + 1) v (k + 1)) = true then 1 else 0))), (4, .int (iI (((b + (a : Nat) + 1 + (k : Nat)) + (F 3 (Int.toNat (b + (a : Nat) + 1 + (k : Nat)))))))), (0, .ref r), (1, .int (iI (b))), (2, .int (iI ((d : Nat)))), (3, .int (iI (v)))]) [0, 2, 1, 3, 4, 5, 6] (lc (lI (by first | rfl | omega)) (lc (lI (by rw [prR_s, ← Bool.and_assoc, hg, Bool.true_and]; first | (rw [if_pos (by rw [Bool.and_eq_true, decide_eq_true_eq, decide_eq_true_eq]; omega)]; done) | (rw [if_neg (by intro q; rw [Bool.and_eq_true, decide_eq_true_eq, decide_eq_true_eq] at q; omega)]; done) | omega)) (lc (lI (by first | rfl | omega)) (lc rfl (lc rfl (lc rfl (lc rfl rfl))))))) ?_
                        exact ih75 (k + 1) ((b + (a : Nat) + 1 + (k : Nat)) + (F 3 (Int.toNat (b + (a : Nat) + 1 + (k : Nat))))) (by omega) (fun q => by rw [prR_s, ← Bool.and_assoc, hg, Bool.true_and, Bool.and_eq_true, decide_eq_true_eq, decide_eq_true_eq] at q; have := hv1 k (by omega) hg q.1; omega) (by omega)
                      · refine mv_aloadR_n B d_Mod_isPut_101 rfl 3 rfl ?_
                        refine gf_Mod_13 B hC.1 rfl d_Mod_isPut_102 ?_
                        refine mv_iload B d_Mod_isPut_105 2 rfl ?_
                        refine ia_ld B k1_1 (by omega) (by omega) (by omega) d_Mod_isPut_107 ?_
                        have rr47 : R32 (F 1 (Int.toNat (b + (a : Nat) + 1 + (k : Nat)))) := (hC.R 1) _
                        refine mv_iload_n B d_Mod_isPut_108 rfl 6 rfl ?_
                        refine mv_iload B d_Mod_isPut_109 0 rfl ?_
                        refine mv_isub B d_Mod_isPut_111 ?_
                        refine mv_icmp_ne (tgt := 119) B d_Mod_isPut_112 (by decide) (by omega) (by omega) (fun c48 => ?_) (fun c48 => ?_)
                        · refine mv_iconst (z := 0) B d_Mod_isPut_119 rfl ?_
                          refine mv_istore (lv' := [(5, .int (iI (0))), (6, .int (iI ((k : Nat)))), (4, .int (iI (b + (a : Nat) + 1 + (k : Nat)))), (0, .ref r), (1, .int (iI (b))), (2, .int (iI ((d : Nat)))), (3, .int (iI (v)))]) B d_Mod_isPut_120 (by decide) rfl ?_
                          refine mv_iload B d_Mod_isPut_122 2 rfl ?_
                          refine mv_aloadR_n B d_Mod_isPut_124 rfl 3 rfl ?_
                          refine gf_Mod_19 B hC.1 rfl d_Mod_isPut_125 ?_
                          refine mv_iload B d_Mod_isPut_128 2 rfl ?_
                          refine ia_ld B k1_3 (by omega) (by omega) (by omega) d_Mod_isPut_130 ?_
                          have rr49 : R32 (F 3 (Int.toNat (b + (a : Nat) + 1 + (k : Nat)))) := (hC.R 3) _
                          refine mv_iadd B d_Mod_isPut_131 ?_
                          refine mv_istore (lv' := [(4, .int (iI ((b + (a : Nat) + 1 + (k : Nat)) + (F 3 (Int.toNat (b + (a : Nat) + 1 + (k : Nat))))))), (5, .int (iI (0))), (6, .int (iI ((k : Nat)))), (0, .ref r), (1, .int (iI (b))), (2, .int (iI ((d : Nat)))), (3, .int (iI (v)))]) B d_Mod_isPut_132 (by decide) rfl ?_
                          refine mv_iinc (lv' := [(6, .int (iI ((k : Nat) + 1))), (4, .int (iI ((b + (a : Nat) + 1 + (k : Nat)) + (F 3 (Int.toNat (b + (a : Nat) + 1 + (k : Nat))))))), (5, .int (iI (0))), (0, .ref r), (1, .int (iI (b))), (2, .int (iI ((d : Nat)))), (3, .int (iI (v)))]) B d_Mod_isPut_134 2 rfl (by decide) rfl ?_
                          refine mv_goto (tgt := 75) B d_Mod_isPut_137 (by decide) ?_
                          refine mv_lv (lv' := [(6, .int (iI (((k + 1) : Nat)))), (5, .int (iI (if ((decide ((a : Int) = F 9 d + F 10 d) && (decide (F 0 (b + a).toNat = 1) && decide (F 1 (b + a).toNat = d))) && prR F (b + (a : Nat) + 1) v (k + 1)) = true then 1 else 0))), (4, .int (iI (((b + (a : Nat) + 1 + (k : Nat)) + (F 3 (Int.toNat (b + (a : Nat) + 1 + (k : Nat)))))))), (0, .ref r), (1, .int (iI (b))), (2, .int (iI ((d : Nat)))), (3, .int (iI (v)))]) [0, 2, 1, 3, 4, 5, 6] (lc (lI (by first | rfl | omega)) (lc (lI (by rw [prR_s, ← Bool.and_assoc, hg, Bool.true_and]; first | (rw [if_pos (by rw [Bool.and_eq_true, decide_eq_true_eq, decide_eq_true_eq]; omega)]; done) | (rw [if_neg (by intro q; rw [Bool.and_eq_true, decide_eq_true_eq, decide_eq_true_eq] at q; omega)]; done) | omega)) (lc (lI (by first | rfl | omega)) (lc rfl (lc rfl (lc rfl (lc rfl rfl))))))) ?_
                          exact ih75 (k + 1) ((b + (a : Nat) + 1 + (k : Nat)) + (F 3 (Int.toNat (b + (a : Nat) + 1 + (k : Nat))))) (by omega) (fun q => by rw [prR_s, ← Bool.and_assoc, hg, Bool.true_and, Bool.and_eq_true, decide_eq_true_eq, decide_eq_true_eq] at q; have := hv1 k (by omega) hg q.1; omega) (by omega)
                        · refine mv_iconst (z := 1) B d_Mod_isPut_115 rfl ?_
                          refine mv_goto (tgt := 120) B d_Mod_isPut_116 (by decide) ?_
                          refine mv_istore (lv' := [(5, .int (iI (1))), (6, .int (iI ((k : Nat)))), (4, .int (iI (b + (a : Nat) + 1 + (k : Nat)))), (0, .ref r), (1, .int (iI (b))), (2, .int (iI ((d : Nat)))), (3, .int (iI (v)))]) B d_Mod_isPut_120 (by decide) rfl ?_
                          refine mv_iload B d_Mod_isPut_122 2 rfl ?_
                          refine mv_aloadR_n B d_Mod_isPut_124 rfl 3 rfl ?_
                          refine gf_Mod_19 B hC.1 rfl d_Mod_isPut_125 ?_
                          refine mv_iload B d_Mod_isPut_128 2 rfl ?_
                          refine ia_ld B k1_3 (by omega) (by omega) (by omega) d_Mod_isPut_130 ?_
                          have rr50 : R32 (F 3 (Int.toNat (b + (a : Nat) + 1 + (k : Nat)))) := (hC.R 3) _
                          refine mv_iadd B d_Mod_isPut_131 ?_
                          refine mv_istore (lv' := [(4, .int (iI ((b + (a : Nat) + 1 + (k : Nat)) + (F 3 (Int.toNat (b + (a : Nat) + 1 + (k : Nat))))))), (5, .int (iI (1))), (6, .int (iI ((k : Nat)))), (0, .ref r), (1, .int (iI (b))), (2, .int (iI ((d : Nat)))), (3, .int (iI (v)))]) B d_Mod_isPut_132 (by decide) rfl ?_
                          refine mv_iinc (lv' := [(6, .int (iI ((k : Nat) + 1))), (4, .int (iI ((b + (a : Nat) + 1 + (k : Nat)) + (F 3 (Int.toNat (b + (a : Nat) + 1 + (k : Nat))))))), (5, .int (iI (1))), (0, .ref r), (1, .int (iI (b))), (2, .int (iI ((d : Nat)))), (3, .int (iI (v)))]) B d_Mod_isPut_134 2 rfl (by decide) rfl ?_
                          refine mv_goto (tgt := 75) B d_Mod_isPut_137 (by decide) ?_
                          refine mv_lv (lv' := [(6, .int (iI (((k + 1) : Nat)))), (5, .int (iI (if ((decide ((a : Int) = F 9 d + F 10 d) && (decide (F 0 (b + a).toNat = 1) && decide (F 1 (b + a).toNat = d))) && prR F (b + (a : Nat) + 1) v (k + 1)) = true then 1 else 0))), (4, .int (iI (((b + (a : Nat) + 1 + (k : Nat)) + (F 3 (Int.toNat (b + (a : Nat) + 1 + (k : Nat)))))))), (0, .ref r), (1, .int (iI (b))), (2, .int (iI ((d : Nat)))), (3, .int (iI (v)))]) [0, 2, 1, 3, 4, 5, 6] (lc (lI (by first | rfl | omega)) (lc (lI (by rw [prR_s, ← Bool.and_assoc, hg, Bool.true_and]; first | (rw [if_pos (by rw [Bool.and_eq_true, decide_eq_true_eq, decide_eq_true_eq]; omega)]; done) | (rw [if_neg (by intro q; rw [Bool.and_eq_true, decide_eq_true_eq, decide_eq_true_eq] at q; omega)]; done) | omega)) (lc (lI (by first | rfl | omega)) (lc rfl (lc rfl (lc rfl (lc rfl rfl))))))) ?_
                          exact ih75 (k + 1) ((b + (a : Nat) + 1 + (k : Nat)) + (F 3 (Int.toNat (b + (a : Nat) + 1 + (k : Nat))))) (by omega) (fun q => by rw [prR_s, ← Bool.and_assoc, hg, Bool.true_and, Bool.and_eq_true, decide_eq_true_eq, decide_eq_true_eq] at q; have := hv1 k (by omega) hg q.1; omega) (by omega)
              refine mv_lv (lv' := [(6, .int (iI ((0 : Nat)))), (5, .int (iI (if ((decide ((a : Int) = F 9 d + F 10 d) && (decide (F 0 (b + a).toNat = 1) && decide (F 1 (b + a).toNat = d))) && prR F (b + (a : Nat) + 1) v 0) = true then 1 else 0))), (4, .int (iI ((b + (a : Nat) + 1)))), (0, .ref r), (1, .int (iI (b))), (2, .int (iI ((d : Nat)))), (3, .int (iI (v)))]) [0, 2, 1, 3, 4, 5, 6] (lc (lI (by first | rfl | omega)) (lc (lI (by rw [show prR F (b + (a : Nat) + 1) v 0 = true from rfl, Bool.and_true]; first | (rw [if_pos (by simp only [Bool.and_eq_true, decide_eq_true_eq]; omega)]; done) | (rw [if_neg (by simp only [Bool.and_eq_true, decide_eq_true_eq]; omega)]; done) | omega)) (lc (lI (by first | rfl | omega)) (lc rfl (lc rfl (lc rfl (lc rfl rfl))))))) ?_
              exact L75 _ 0 (b + (a : Nat) + 1) (by omega) (fun _ => by omega) (Nat.lt_succ_self _)
      · have hlt : i < a := by
          apply Classical.byContradiction
          intro q
          have e : i = a := by omega
          subst e
          omega
        refine mv_iinc (lv' := [(4, .int (iI ((b + (i : Nat)) + 1))), (0, .ref r), (1, .int (iI (b))), (2, .int (iI ((d : Nat)))), (3, .int (iI (v)))]) B d_Mod_isPut_14 0 rfl (by decide) rfl ?_
        refine mv_goto (tgt := 3) B d_Mod_isPut_17 (by decide) ?_
        refine mv_lv (lv' := [(4, .int (iI (b + ((i + 1) : Nat)))), (0, .ref r), (1, .int (iI (b))), (2, .int (iI ((d : Nat)))), (3, .int (iI (v)))]) [0, 1, 2, 3, 4] (lc (lI (by first | rfl | omega)) (lc rfl (lc rfl (lc rfl (lc rfl rfl))))) ?_
        exact ih3 (i + 1) (by omega) (by omega)
  refine mv_lv (lv' := [(4, .int (iI (b + (0 : Nat)))), (0, .ref r), (1, .int (iI (b))), (2, .int (iI ((d : Nat)))), (3, .int (iI (v)))]) [0, 1, 2, 3, 4] (lc (lI (by first | rfl | omega)) (lc rfl (lc rfl (lc rfl (lc rfl rfl))))) ?_
  exact L3 _ 0 (by omega) (Nat.lt_succ_self _)
