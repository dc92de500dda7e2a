/-! the reference: apply, binder -/
set_option maxRecDepth 100000 in
set_option maxHeartbeats 4000000 in
theorem m_Mod_apply {l : Launch} {V : mv_V} {M : mv_M} {r cap lq c : Nat} {A : Nat → Nat} {F : Nat → Nat → Int} {tn gn : Int} (hC : RefC V M r A (rN cap lq) F (c : Nat) tn gn) (hcc : c ≤ cap) (hcap0 : 1 ≤ cap) (hcap : cap ≤ 1000000) {a b : Int} {ba bb na nb : Nat} {ℓ : Nat → Nat} (ra : R32 a) (rb : R32 b) (ht : 0 ≤ tn ∧ tn ≤ 1500) (hG : 0 ≤ a ∧ a < tn ∧ 0 ≤ b ∧ b < tn → F 5 a.toNat = (ba : Nat) ∧ F 5 b.toNat = (bb : Nat) ∧ F 3 ba = (na : Nat) ∧ F 3 bb = (nb : Nat) ∧ (ba + na ≤ c ∧ ba < c) ∧ (bb + nb ≤ c ∧ bb < c) ∧ (∀ j : Nat, j ≤ (1 + na + nb) → capL cap c j ≤ 1000000) ∧ ((1 + na + nb) ≤ 1000 → WF (1 + na + nb) (fun j => (gN ((4, 0, 0) :: (sgL F ba na ++ sgL F bb nb)) j).1) ℓ)) : Met l y_Mod_apply ws_Mod_apply (rM 5 (pC (capL cap c (1 + na + nb)) lq - pC cap lq) (pS (capL cap c (1 + na + nb)) lq - pS cap lq) 170) (mv_Pre (kk V) [.ref r, .int (iI (a)), .int (iI (b))] M) (mv_Q (kk V) (fun z0 M' => z0 = some (.int (iI (if 0 ≤ a ∧ a < tn ∧ 0 ≤ b ∧ b < tn then (if (tn = 1500 ∨ 1000 < (1 + na + nb) ∨ 30000 < c + (1 + na + nb)) then -1 else tn) else -1))) ∧ ((¬ (0 ≤ a ∧ a < tn ∧ 0 ≤ b ∧ b < tn) ∧ RefC V M' r A (rN cap lq) F (c : Nat) tn gn) ∨ ((0 ≤ a ∧ a < tn ∧ 0 ≤ b ∧ b < tn) ∧ nwT V M' r (capL cap c (1 + na + nb)) lq F c ((4, 0, 0) :: (sgL F ba na ++ sgL F bb nb)) ℓ tn gn)))) (pC (capL cap c (1 + na + nb)) lq - pC cap lq) (pS (capL cap c (1 + na + nb)) lq - pS cap lq) V.2.2.2.2 := by
  refine mv_Met (by decide) rfl (Nat.le_of_ble_eq_true rfl) (fun X hX B => ?_)
  subst hX
  replace B : mv_B X (kk V) c_Mod_apply ws_Mod_apply "FamilyRulesModel" 3 (Option.some Jvm.ClassFile.FieldType.int) (rM 5 (pC (capL cap c (1 + na + nb)) lq - pC cap lq) (pS (capL cap c (1 + na + nb)) lq - pS cap lq) 170) "apply" := B
  obtain ⟨Q, hQ⟩ : ∃ Q, Q = mv_E X (kk V) (fun z0 M' => z0 = some (.int (iI (if 0 ≤ a ∧ a < tn ∧ 0 ≤ b ∧ b < tn then (if (tn = 1500 ∨ 1000 < (1 + na + nb) ∨ 30000 < c + (1 + na + nb)) then -1 else tn) else -1))) ∧ ((¬ (0 ≤ a ∧ a < tn ∧ 0 ≤ b ∧ b < tn) ∧ RefC V M' r A (rN cap lq) F (c : Nat) tn gn) ∨ ((0 ≤ a ∧ a < tn ∧ 0 ≤ b ∧ b < tn) ∧ nwT V M' r (capL cap c (1 + na + nb)) lq F c ((4, 0, 0) :: (sgL F ba na ++ sgL F bb nb)) ℓ tn gn))) (pC (capL cap c (1 + na + nb)) lq - pC cap lq) (pS (capL cap c (1 + na + nb)) lq - pS cap lq) := ⟨_, rfl⟩
  rw [← hQ]
  show mv_G X Q (kk V) 3 0 [(0, .ref r), (1, .int (iI (a))), (2, .int (iI (b)))] [] M 0 0
  have hrc : (rM 5 (pC (capL cap c (1 + na + nb)) lq - pC cap lq) (pS (capL cap c (1 + na + nb)) lq - pS cap lq) 170).cells = pC (capL cap c (1 + na + nb)) lq - pC cap lq := rfl
  have hrs : (rM 5 (pC (capL cap c (1 + na + nb)) lq - pC cap lq) (pS (capL cap c (1 + na + nb)) lq - pS cap lq) 170).slots = pS (capL cap c (1 + na + nb)) lq - pS cap lq := rfl
  refine mv_aloadR_n B d_Mod_apply_0 rfl 0 rfl ?_
  refine mv_iload_n B d_Mod_apply_1 rfl 1 rfl ?_
  refine ca_Mod_90 (mc := 0) (ms := 0) (As := [.int (iI (a))]) (rest := []) B (m_Mod_isTerm hC (by omega) (i := a) (by omega) (by omega)) rfl rfl ⟨Nat.le_of_ble_eq_true rfl, Nat.le_of_ble_eq_true rfl⟩ hC.1 rfl rfl (Nat.le_of_ble_eq_true rfl) d_Mod_apply_2 ⟨by omega, by omega⟩ (mv_x ?_)
  show mv_G X Q (kk V) 3 5 [(0, .ref r), (1, .int (iI (a))), (2, .int (iI (b)))] [.int (iI (if 0 ≤ a ∧ a < tn then 1 else 0))] M 0 0
  refine mv_if_eq (tgt := 27) B d_Mod_apply_5 (by decide) (by first | omega | (split <;> omega)) (fun c2 => ?_) (fun c2 => ?_)
  · have hno : ¬ (0 ≤ a ∧ a < tn) := by
      intro q
      rw [if_pos q] at c2
      omega
    refine mv_iconst (z := -1) B d_Mod_apply_27 rfl ?_
    rw [hQ]
    exact mv_iret B ⟨by rw [if_neg (show ¬ (0 ≤ a ∧ a < tn ∧ 0 ≤ b ∧ b < tn) by omega)], Or.inl ⟨by omega, hC⟩⟩ (by omega) (by omega) d_Mod_apply_28
  · have ht1 : 0 ≤ a ∧ a < tn := by
      apply Classical.byContradiction
      intro q
      rw [if_neg q] at c2
      omega
    refine mv_aloadR_n B d_Mod_apply_8 rfl 0 rfl ?_
    refine mv_iload_n B d_Mod_apply_9 rfl 2 rfl ?_
    refine ca_Mod_90 (mc := 0) (ms := 0) (As := [.int (iI (b))]) (rest := []) B (m_Mod_isTerm hC (by omega) (i := b) (by omega) (by omega)) rfl rfl ⟨Nat.le_of_ble_eq_true rfl, Nat.le_of_ble_eq_true rfl⟩ hC.1 rfl rfl (Nat.le_of_ble_eq_true rfl) d_Mod_apply_10 ⟨by omega, by omega⟩ (mv_x ?_)
    show mv_G X Q (kk V) 3 13 [(0, .ref r), (1, .int (iI (a))), (2, .int (iI (b)))] [.int (iI (if 0 ≤ b ∧ b < tn then 1 else 0))] M 0 0
    refine mv_if_eq (tgt := 27) B d_Mod_apply_13 (by decide) (by first | omega | (split <;> omega)) (fun c3 => ?_) (fun c3 => ?_)
    · have hno : ¬ (0 ≤ b ∧ b < tn) := by
        intro q
        rw [if_pos q] at c3
        omega
      refine mv_iconst (z := -1) B d_Mod_apply_27 rfl ?_
      rw [hQ]
      exact mv_iret B ⟨by rw [if_neg (show ¬ (0 ≤ a ∧ a < tn ∧ 0 ≤ b ∧ b < tn) by omega)], Or.inl ⟨by omega, hC⟩⟩ (by omega) (by omega) d_Mod_apply_28
    · have ht2 : 0 ≤ b ∧ b < tn := by
        apply Classical.byContradiction
        intro q
        rw [if_neg q] at c3
        omega
      rw [show iI a = iI ((a.toNat : Nat) : Int) by rw [show ((a.toNat : Nat) : Int) = a by omega]]
      rw [show iI b = iI ((b.toNat : Nat) : Int) by rw [show ((b.toNat : Nat) : Int) = b by omega]]
      refine mv_aloadR_n B d_Mod_apply_16 rfl 0 rfl ?_
      refine mv_iconst (z := 4) B d_Mod_apply_17 rfl ?_
      refine mv_iconst (z := 0) B d_Mod_apply_18 rfl ?_
      refine mv_iload_n B d_Mod_apply_19 rfl 1 rfl ?_
      refine mv_iload_n B d_Mod_apply_20 rfl 2 rfl ?_
      obtain ⟨q1, q2, q3, q4, q5, q6, q7, q8⟩ := hG (by omega)
      refine ca_Mod_94 (mc := pC (capL cap c (1 + na + nb)) lq - pC cap lq) (ms := pS (capL cap c (1 + na + nb)) lq - pS cap lq) (rm' := rM 4 (pC (capL cap c (1 + na + nb)) lq - pC cap lq) (pS (capL cap c (1 + na + nb)) lq - pS cap lq) 140) (As := [.int (iI (4)), .int (iI (0)), .int (iI ((a.toNat : Nat))), .int (iI ((b.toNat : Nat)))]) (rest := []) B (m_Mod_two hC hcc hcap0 (k := 4) (v := 0) (by omega) (by omega) (by omega) (by omega) q1 q2 q3 q4 q5 q6 (by omega) q7 q8) rfl rfl ⟨Nat.le_of_ble_eq_true rfl, Nat.le_of_ble_eq_true rfl⟩ hC.1 rfl rfl (Nat.le_of_ble_eq_true rfl) d_Mod_apply_21 ⟨by omega, by omega⟩ (fun v1 M9 ep => ?_)
      obtain ⟨e1, hP⟩ := ep
      subst e1
      refine mv_widen (c2 := pC (capL cap c (1 + na + nb)) lq - pC cap lq) (s2 := pS (capL cap c (1 + na + nb)) lq - pS cap lq) (by omega) (by omega) ?_
      show mv_G X Q (kk V) 3 24 [(0, .ref r), (1, .int (iI ((a.toNat : Nat)))), (2, .int (iI ((b.toNat : Nat))))] [.int (iI (if (tn = 1500 ∨ 1000 < (1 + na + nb) ∨ 30000 < c + (1 + na + nb)) then -1 else tn))] M9 (pC (capL cap c (1 + na + nb)) lq - pC cap lq) (pS (capL cap c (1 + na + nb)) lq - pS cap lq)
      refine mv_goto (tgt := 28) B d_Mod_apply_24 (by decide) ?_
      rw [hQ]
      exact mv_iret B ⟨by rw [if_pos (show 0 ≤ a ∧ a < tn ∧ 0 ≤ b ∧ b < tn by omega)], Or.inr ⟨by omega, hP⟩⟩ (by omega) (by omega) d_Mod_apply_28
set_option maxRecDepth 100000 in
set_option maxHeartbeats 4000000 in
theorem m_Mod_binder {l : Launch} {V : mv_V} {M : mv_M} {r cap lq c : Nat} {A : Nat → Nat} {F : Nat → Nat → Int} {tn gn : Int} (hC : RefC V M r A (rN cap lq) F (c : Nat) tn gn) (hcc : c ≤ cap) (hcap0 : 1 ≤ cap) (hcap : cap ≤ 1000000) {k v a b : Int} {ba bb na nb : Nat} {ℓ : Nat → Nat} (rk : R32 k) (rv : R32 v) (ra : R32 a) (rb : R32 b) (ht : 0 ≤ tn ∧ tn ≤ 1500) (hG : (k = 5 ∨ k = 6) ∧ -1 ≤ v ∧ v < 100 ∧ 0 ≤ a ∧ a < tn ∧ 0 ≤ b ∧ b < tn → F 5 a.toNat = (ba : Nat) ∧ F 5 b.toNat = (bb : Nat) ∧ F 3 ba = (na : Nat) ∧ F 3 bb = (nb : Nat) ∧ (ba + na ≤ c ∧ ba < c) ∧ (bb + nb ≤ c ∧ bb < c) ∧ (∀ j : Nat, j ≤ (1 + na + nb) → capL cap c j ≤ 1000000) ∧ ((1 + na + nb) ≤ 1000 → WF (1 + na + nb) (fun j => (gN ((k, v, 0) :: (sgL F ba na ++ sgL F bb nb)) j).1) ℓ)) : Met l y_Mod_binder ws_Mod_binder (rM 5 (pC (capL cap c (1 + na + nb)) lq - pC cap lq) (pS (capL cap c (1 + na + nb)) lq - pS cap lq) 170) (mv_Pre (kk V) [.ref r, .int (iI (k)), .int (iI (v)), .int (iI (a)), .int (iI (b))] M) (mv_Q (kk V) (fun z0 M' => z0 = some (.int (iI (if (k = 5 ∨ k = 6) ∧ -1 ≤ v ∧ v < 100 ∧ 0 ≤ a ∧ a < tn ∧ 0 ≤ b ∧ b < tn then (if (tn = 1500 ∨ 1000 < (1 + na + nb) ∨ 30000 < c + (1 + na + nb)) then -1 else tn) else -1))) ∧ ((¬ ((k = 5 ∨ k = 6) ∧ -1 ≤ v ∧ v < 100 ∧ 0 ≤ a ∧ a < tn ∧ 0 ≤ b ∧ b < tn) ∧ RefC V M' r A (rN cap lq) F (c : Nat) tn gn) ∨ (((k = 5 ∨ k = 6) ∧ -1 ≤ v ∧ v < 100 ∧ 0 ≤ a ∧ a < tn ∧ 0 ≤ b ∧ b < tn) ∧ nwT V M' r (capL cap c (1 + na + nb)) lq F c ((k, v, 0) :: (sgL F ba na ++ sgL F bb nb)) ℓ tn gn)))) (pC (capL cap c (1 + na + nb)) lq - pC cap lq) (pS (capL cap c (1 + na + nb)) lq - pS cap lq) V.2.2.2.2 := by
  refine mv_Met (by decide) rfl (Nat.le_of_ble_eq_true rfl) (fun X hX B => ?_)
  subst hX
  replace B : mv_B X (kk V) c_Mod_binder ws_Mod_binder "FamilyRulesModel" 5 (Option.some Jvm.ClassFile.FieldType.int) (rM 5 (pC (capL cap c (1 + na + nb)) lq - pC cap lq) (pS (capL cap c (1 + na + nb)) lq - pS cap lq) 170) "binder" := B
  obtain ⟨Q, hQ⟩ : ∃ Q, Q = mv_E X (kk V) (fun z0 M' => z0 = some (.int (iI (if (k = 5 ∨ k = 6) ∧ -1 ≤ v ∧ v < 100 ∧ 0 ≤ a ∧ a < tn ∧ 0 ≤ b ∧ b < tn then (if (tn = 1500 ∨ 1000 < (1 + na + nb) ∨ 30000 < c + (1 + na + nb)) then -1 else tn) else -1))) ∧ ((¬ ((k = 5 ∨ k = 6) ∧ -1 ≤ v ∧ v < 100 ∧ 0 ≤ a ∧ a < tn ∧ 0 ≤ b ∧ b < tn) ∧ RefC V M' r A (rN cap lq) F (c : Nat) tn gn) ∨ (((k = 5 ∨ k = 6) ∧ -1 ≤ v ∧ v < 100 ∧ 0 ≤ a ∧ a < tn ∧ 0 ≤ b ∧ b < tn) ∧ nwT V M' r (capL cap c (1 + na + nb)) lq F c ((k, v, 0) :: (sgL F ba na ++ sgL F bb nb)) ℓ tn gn))) (pC (capL cap c (1 + na + nb)) lq - pC cap lq) (pS (capL cap c (1 + na + nb)) lq - pS cap lq) := ⟨_, rfl⟩
  rw [← hQ]
  show mv_G X Q (kk V) 5 0 [(0, .ref r), (1, .int (iI (k))), (2, .int (iI (v))), (3, .int (iI (a))), (4, .int (iI (b)))] [] M 0 0
  have hrc : (rM 5 (pC (capL cap c (1 + na + nb)) lq - pC cap lq) (pS (capL cap c (1 + na + nb)) lq - pS cap lq) 170).cells = pC (capL cap c (1 + na + nb)) lq - pC cap lq := rfl
  have hrs : (rM 5 (pC (capL cap c (1 + na + nb)) lq - pC cap lq) (pS (capL cap c (1 + na + nb)) lq - pS cap lq) 170).slots = pS (capL cap c (1 + na + nb)) lq - pS cap lq := rfl
  refine mv_iload_n B d_Mod_binder_0 rfl 1 rfl ?_
  refine mv_iconst (z := 5) B d_Mod_binder_1 rfl ?_
  refine mv_icmp_eq (tgt := 11) B d_Mod_binder_2 (by decide) (by first | omega | (split <;> omega)) (by first | omega | (split <;> omega)) (fun c2 => ?_) (fun c2 => ?_)
  · refine mv_iload_n B d_Mod_binder_11 rfl 2 rfl ?_
    refine mv_iconst (z := -1) B d_Mod_binder_12 rfl ?_
    refine mv_icmp_lt (tgt := 51) B d_Mod_binder_13 (by decide) (by first | omega | (split <;> omega)) (by first | omega | (split <;> omega)) (fun c3 => ?_) (fun c3 => ?_)
    · refine mv_iconst (z := -1) B d_Mod_binder_51 rfl ?_
      rw [hQ]
      exact mv_iret B ⟨by rw [if_neg (show ¬ ((k = 5 ∨ k = 6) ∧ -1 ≤ v ∧ v < 100 ∧ 0 ≤ a ∧ a < tn ∧ 0 ≤ b ∧ b < tn) by omega)], Or.inl ⟨by omega, hC⟩⟩ (by omega) (by omega) d_Mod_binder_52
    · refine mv_iload_n B d_Mod_binder_16 rfl 2 rfl ?_
      refine mv_bipush (z := 100) B d_Mod_binder_17 (by decide) ?_
      refine mv_icmp_ge (tgt := 51) B d_Mod_binder_19 (by decide) (by first | omega | (split <;> omega)) (by first | omega | (split <;> omega)) (fun c4 => ?_) (fun c4 => ?_)
      · refine mv_iconst (z := -1) B d_Mod_binder_51 rfl ?_
        rw [hQ]
        exact mv_iret B ⟨by rw [if_neg (show ¬ ((k = 5 ∨ k = 6) ∧ -1 ≤ v ∧ v < 100 ∧ 0 ≤ a ∧ a < tn ∧ 0 ≤ b ∧ b < tn) by omega)], Or.inl ⟨by omega, hC⟩⟩ (by omega) (by omega) d_Mod_binder_52
      · refine mv_aloadR_n B d_Mod_binder_22 rfl 0 rfl ?_
        refine mv_iload_n B d_Mod_binder_23 rfl 3 rfl ?_
        refine ca_Mod_90 (mc := 0) (ms := 0) (As := [.int (iI (a))]) (rest := []) B (m_Mod_isTerm hC (by omega) (i := a) (by omega) (by omega)) rfl rfl ⟨Nat.le_of_ble_eq_true rfl, Nat.le_of_ble_eq_true rfl⟩ hC.1 rfl rfl (Nat.le_of_ble_eq_true rfl) d_Mod_binder_24 ⟨by omega, by omega⟩ (mv_x ?_)
        show mv_G X Q (kk V) 5 27 [(0, .ref r), (1, .int (iI (k))), (2, .int (iI (v))), (3, .int (iI (a))), (4, .int (iI (b)))] [.int (iI (if 0 ≤ a ∧ a < tn then 1 else 0))] M 0 0
        refine mv_if_eq (tgt := 51) B d_Mod_binder_27 (by decide) (by first | omega | (split <;> omega)) (fun c5 => ?_) (fun c5 => ?_)
        · have hno : ¬ (0 ≤ a ∧ a < tn) := by
            intro q
            rw [if_pos q] at c5
            omega
          refine mv_iconst (z := -1) B d_Mod_binder_51 rfl ?_
          rw [hQ]
          exact mv_iret B ⟨by rw [if_neg (show ¬ ((k = 5 ∨ k = 6) ∧ -1 ≤ v ∧ v < 100 ∧ 0 ≤ a ∧ a < tn ∧ 0 ≤ b ∧ b < tn) by omega)], Or.inl ⟨by omega, hC⟩⟩ (by omega) (by omega) d_Mod_binder_52
        · have ht1 : 0 ≤ a ∧ a < tn := by
            apply Classical.byContradiction
            intro q
            rw [if_neg q] at c5
            omega
          refine mv_aloadR_n B d_Mod_binder_30 rfl 0 rfl ?_
          refine mv_iload B d_Mod_binder_31 4 rfl ?_
          refine ca_Mod_90 (mc := 0) (ms := 0) (As := [.int (iI (b))]) (rest := []) B (m_Mod_isTerm hC (by omega) (i := b) (by omega) (by omega)) rfl rfl ⟨Nat.le_of_ble_eq_true rfl, Nat.le_of_ble_eq_true rfl⟩ hC.1 rfl rfl (Nat.le_of_ble_eq_true rfl) d_Mod_binder_33 ⟨by omega, by omega⟩ (mv_x ?_)
          show mv_G X Q (kk V) 5 36 [(0, .ref r), (1, .int (iI (k))), (2, .int (iI (v))), (3, .int (iI (a))), (4, .int (iI (b)))] [.int (iI (if 0 ≤ b ∧ b < tn then 1 else 0))] M 0 0
          refine mv_if_eq (tgt := 51) B d_Mod_binder_36 (by decide) (by first | omega | (split <;> omega)) (fun c6 => ?_) (fun c6 => ?_)
          · have hno : ¬ (0 ≤ b ∧ b < tn) := by
              intro q
              rw [if_pos q] at c6
              omega
            refine mv_iconst (z := -1) B d_Mod_binder_51 rfl ?_
            rw [hQ]
            exact mv_iret B ⟨by rw [if_neg (show ¬ ((k = 5 ∨ k = 6) ∧ -1 ≤ v ∧ v < 100 ∧ 0 ≤ a ∧ a < tn ∧ 0 ≤ b ∧ b < tn) by omega)], Or.inl ⟨by omega, hC⟩⟩ (by omega) (by omega) d_Mod_binder_52
          · have ht2 : 0 ≤ b ∧ b < tn := by
              apply Classical.byContradiction
              intro q
              rw [if_neg q] at c6
              omega
            rw [show iI a = iI ((a.toNat : Nat) : Int) by rw [show ((a.toNat : Nat) : Int) = a by omega]]
            rw [show iI b = iI ((b.toNat : Nat) : Int) by rw [show ((b.toNat : Nat) : Int) = b by omega]]
            refine mv_aloadR_n B d_Mod_binder_39 rfl 0 rfl ?_
            refine mv_iload_n B d_Mod_binder_40 rfl 1 rfl ?_
            refine mv_iload_n B d_Mod_binder_41 rfl 2 rfl ?_
            refine mv_iload_n B d_Mod_binder_42 rfl 3 rfl ?_
            refine mv_iload B d_Mod_binder_43 4 rfl ?_
            obtain ⟨q1, q2, q3, q4, q5, q6, q7, q8⟩ := hG (by omega)
            refine ca_Mod_94 (mc := pC (capL cap c (1 + na + nb)) lq - pC cap lq) (ms := pS (capL cap c (1 + na + nb)) lq - pS cap lq) (rm' := rM 4 (pC (capL cap c (1 + na + nb)) lq - pC cap lq) (pS (capL cap c (1 + na + nb)) lq - pS cap lq) 140) (As := [.int (iI (k)), .int (iI (v)), .int (iI ((a.toNat : Nat))), .int (iI ((b.toNat : Nat)))]) (rest := []) B (m_Mod_two hC hcc hcap0 (k := k) (v := v) (by omega) (by omega) (by omega) (by omega) q1 q2 q3 q4 q5 q6 (by omega) q7 q8) rfl rfl ⟨Nat.le_of_ble_eq_true rfl, Nat.le_of_ble_eq_true rfl⟩ hC.1 rfl rfl (Nat.le_of_ble_eq_true rfl) d_Mod_binder_45 ⟨by omega, by omega⟩ (fun v1 M9 ep => ?_)
            obtain ⟨e1, hP⟩ := ep
            subst e1
            refine mv_widen (c2 := pC (capL cap c (1 + na + nb)) lq - pC cap lq) (s2 := pS (capL cap c (1 + na + nb)) lq - pS cap lq) (by omega) (by omega) ?_
            show mv_G X Q (kk V) 5 48 [(0, .ref r), (1, .int (iI (k))), (2, .int (iI (v))), (3, .int (iI ((a.toNat : Nat)))), (4, .int (iI ((b.toNat : Nat))))] [.int (iI (if (tn = 1500 ∨ 1000 < (1 + na + nb) ∨ 30000 < c + (1 + na + nb)) then -1 else tn))] M9 (pC (capL cap c (1 + na + nb)) lq - pC cap lq) (pS (capL cap c (1 + na + nb)) lq - pS cap lq)
            refine mv_goto (tgt := 52) B d_Mod_binder_48 (by decide) ?_
            rw [hQ]
            exact mv_iret B ⟨by rw [if_pos (show (k = 5 ∨ k = 6) ∧ -1 ≤ v ∧ v < 100 ∧ 0 ≤ a ∧ a < tn ∧ 0 ≤ b ∧ b < tn by omega)], Or.inr ⟨by omega, hP⟩⟩ (by omega) (by omega) d_Mod_binder_52
  · refine mv_iload_n B d_Mod_binder_5 rfl 1 rfl ?_
    refine mv_bipush (z := 6) B d_Mod_binder_6 (by decide) ?_
    refine mv_icmp_ne (tgt := 51) B d_Mod_binder_8 (by decide) (by first | omega | (split <;> omega)) (by first | omega | (split <;> omega)) (fun c7 => ?_) (fun c7 => ?_)
    · refine mv_iconst (z := -1) B d_Mod_binder_51 rfl ?_
      rw [hQ]
      exact mv_iret B ⟨by rw [if_neg (show ¬ ((k = 5 ∨ k = 6) ∧ -1 ≤ v ∧ v < 100 ∧ 0 ≤ a ∧ a < tn ∧ 0 ≤ b ∧ b < tn) by omega)], Or.inl ⟨by omega, hC⟩⟩ (by omega) (by omega) d_Mod_binder_52
    · refine mv_iload_n B d_Mod_binder_11 rfl 2 rfl ?_
      refine mv_iconst (z := -1) B d_Mod_binder_12 rfl ?_
      refine mv_icmp_lt (tgt := 51) B d_Mod_binder_13 (by decide) (by first | omega | (split <;> omega)) (by first | omega | (split <;> omega)) (fun c8 => ?_) (fun c8 => ?_)
      · refine mv_iconst (z := -1) B d_Mod_binder_51 rfl ?_
        rw [hQ]
        exact mv_iret B ⟨by rw [if_neg (show ¬ ((k = 5 ∨ k = 6) ∧ -1 ≤ v ∧ v < 100 ∧ 0 ≤ a ∧ a < tn ∧ 0 ≤ b ∧ b < tn) by omega)], Or.inl ⟨by omega, hC⟩⟩ (by omega) (by omega) d_Mod_binder_52
      · refine mv_iload_n B d_Mod_binder_16 rfl 2 rfl ?_
        refine mv_bipush (z := 100) B d_Mod_binder_17 (by decide) ?_
        refine mv_icmp_ge (tgt := 51) B d_Mod_binder_19 (by decide) (by first | omega | (split <;> omega)) (by first | omega | (split <;> omega)) (fun c9 => ?_) (fun c9 => ?_)
        · refine mv_iconst (z := -1) B d_Mod_binder_51 rfl ?_
          rw [hQ]
          exact mv_iret B ⟨by rw [if_neg (show ¬ ((k = 5 ∨ k = 6) ∧ -1 ≤ v ∧ v < 100 ∧ 0 ≤ a ∧ a < tn ∧ 0 ≤ b ∧ b < tn) by omega)], Or.inl ⟨by omega, hC⟩⟩ (by omega) (by omega) d_Mod_binder_52
        · refine mv_aloadR_n B d_Mod_binder_22 rfl 0 rfl ?_
          refine mv_iload_n B d_Mod_binder_23 rfl 3 rfl ?_
          refine ca_Mod_90 (mc := 0) (ms := 0) (As := [.int (iI (a))]) (rest := []) B (m_Mod_isTerm hC (by omega) (i := a) (by omega) (by omega)) rfl rfl ⟨Nat.le_of_ble_eq_true rfl, Nat.le_of_ble_eq_true rfl⟩ hC.1 rfl rfl (Nat.le_of_ble_eq_true rfl) d_Mod_binder_24 ⟨by omega, by omega⟩ (mv_x ?_)
          show mv_G X Q (kk V) 5 27 [(0, .ref r), (1, .int (iI (k))), (2, .int (iI (v))), (3, .int (iI (a))), (4, .int (iI (b)))] [.int (iI (if 0 ≤ a ∧ a < tn then 1 else 0))] M 0 0
          refine mv_if_eq (tgt := 51) B d_Mod_binder_27 (by decide) (by first | omega | (split <;> omega)) (fun c10 => ?_) (fun c10 => ?_)
          · have hno : ¬ (0 ≤ a ∧ a < tn) := by
              intro q
              rw [if_pos q] at c10
              omega
            refine mv_iconst (z := -1) B d_Mod_binder_51 rfl ?_
            rw [hQ]
            exact mv_iret B ⟨by rw [if_neg (show ¬ ((k = 5 ∨ k = 6) ∧ -1 ≤ v ∧ v < 100 ∧ 0 ≤ a ∧ a < tn ∧ 0 ≤ b ∧ b < tn) by omega)], Or.inl ⟨by omega, hC⟩⟩ (by omega) (by omega) d_Mod_binder_52
          · have ht1 : 0 ≤ a ∧ a < tn := by
              apply Classical.byContradiction
              intro q
              rw [if_neg q] at c10
              omega
            refine mv_aloadR_n B d_Mod_binder_30 rfl 0 rfl ?_
            refine mv_iload B d_Mod_binder_31 4 rfl ?_
            refine ca_Mod_90 (mc := 0) (ms := 0) (As := [.int (iI (b))]) (rest := []) B (m_Mod_isTerm hC (by omega) (i := b) (by omega) (by omega)) rfl rfl ⟨Nat.le_of_ble_eq_true rfl, Nat.le_of_ble_eq_true rfl⟩ hC.1 rfl rfl (Nat.le_of_ble_eq_true rfl) d_Mod_binder_33 ⟨by omega, by omega⟩ (mv_x ?_)
            show mv_G X Q (kk V) 5 36 [(0, .ref r), (1, .int (iI (k))), (2, .int (iI (v))), (3, .int (iI (a))), (4, .int (iI (b)))] [.int (iI (if 0 ≤ b ∧ b < tn then 1 else 0))] M 0 0
            refine mv_if_eq (tgt := 51) B d_Mod_binder_36 (by decide) (by first | omega | (split <;> omega)) (fun c11 => ?_) (fun c11 => ?_)
            · have hno : ¬ (0 ≤ b ∧ b < tn) := by
                intro q
                rw [if_pos q] at c11
                omega
              refine mv_iconst (z := -1) B d_Mod_binder_51 rfl ?_
              rw [hQ]
              exact mv_iret B ⟨by rw [if_neg (show ¬ ((k = 5 ∨ k = 6) ∧ -1 ≤ v ∧ v < 100 ∧ 0 ≤ a ∧ a < tn ∧ 0 ≤ b ∧ b < tn) by omega)], Or.inl ⟨by omega, hC⟩⟩ (by omega) (by omega) d_Mod_binder_52
            · have ht2 : 0 ≤ b ∧ b < tn := by
                apply Classical.byContradiction
                intro q
                rw [if_neg q] at c11
                omega
              rw [show iI a = iI ((a.toNat : Nat) : Int) by rw [show ((a.toNat : Nat) : Int) = a by omega]]
              rw [show iI b = iI ((b.toNat : Nat) : Int) by rw [show ((b.toNat : Nat) : Int) = b by omega]]
              refine mv_aloadR_n B d_Mod_binder_39 rfl 0 rfl ?_
              refine mv_iload_n B d_Mod_binder_40 rfl 1 rfl ?_
              refine mv_iload_n B d_Mod_binder_41 rfl 2 rfl ?_
              refine mv_iload_n B d_Mod_binder_42 rfl 3 rfl ?_
              refine mv_iload B d_Mod_binder_43 4 rfl ?_
              obtain ⟨q1, q2, q3, q4, q5, q6, q7, q8⟩ := hG (by omega)
              refine ca_Mod_94 (mc := pC (capL cap c (1 + na + nb)) lq - pC cap lq) (ms := pS (capL cap c (1 + na + nb)) lq - pS cap lq) (rm' := rM 4 (pC (capL cap c (1 + na + nb)) lq - pC cap lq) (pS (capL cap c (1 + na + nb)) lq - pS cap lq) 140) (As := [.int (iI (k)), .int (iI (v)), .int (iI ((a.toNat : Nat))), .int (iI ((b.toNat : Nat)))]) (rest := []) B (m_Mod_two hC hcc hcap0 (k := k) (v := v) (by omega) (by omega) (by omega) (by omega) q1 q2 q3 q4 q5 q6 (by omega) q7 q8) rfl rfl ⟨Nat.le_of_ble_eq_true rfl, Nat.le_of_ble_eq_true rfl⟩ hC.1 rfl rfl (Nat.le_of_ble_eq_true rfl) d_Mod_binder_45 ⟨by omega, by omega⟩ (fun v1 M9 ep => ?_)
              obtain ⟨e1, hP⟩ := ep
              subst e1
              refine mv_widen (c2 := pC (capL cap c (1 + na + nb)) lq - pC cap lq) (s2 := pS (capL cap c (1 + na + nb)) lq - pS cap lq) (by omega) (by omega) ?_
              show mv_G X Q (kk V) 5 48 [(0, .ref r), (1, .int (iI (k))), (2, .int (iI (v))), (3, .int (iI ((a.toNat : Nat)))), (4, .int (iI ((b.toNat : Nat))))] [.int (iI (if (tn = 1500 ∨ 1000 < (1 + na + nb) ∨ 30000 < c + (1 + na + nb)) then -1 else tn))] M9 (pC (capL cap c (1 + na + nb)) lq - pC cap lq) (pS (capL cap c (1 + na + nb)) lq - pS cap lq)
              refine mv_goto (tgt := 52) B d_Mod_binder_48 (by decide) ?_
              rw [hQ]
              exact mv_iret B ⟨by rw [if_pos (show (k = 5 ∨ k = 6) ∧ -1 ≤ v ∧ v < 100 ∧ 0 ≤ a ∧ a < tn ∧ 0 ≤ b ∧ b < tn by omega)], Or.inr ⟨by omega, hP⟩⟩ (by omega) (by omega) d_Mod_binder_52
