/-! Maker.begin, Register finds, Global.isWholeTold -/
set_option maxRecDepth 100000 in
set_option maxHeartbeats 4000000 in
theorem m_Maker_begin {l : Launch} {V : mv_V} {M : mv_M} {mk rd : Nat} {tg src a : Option Nat} {pl P ar al pp : Int} (hm : M mk = some (.inr (5, [.ref rd, va_rf tg, .int (iI pl), va_rf src, .int (iI P), .int (iI ar), .int (iI al), .int (iI pp)]))) : Met l y_Maker_begin ws_Maker_begin (rM 0 0 0 0) (mv_Pre (kk V) [.ref mk, va_rf (a)] M) (mv_Q (kk V) (mv_R none (mv_up M mk (mkC rd a 0 src P ar al pp)))) 0 0 V.2.2.2.2 := by
  refine mv_Met (by decide) rfl (by cases a <;> exact Nat.le_of_ble_eq_true rfl) (fun X hX B => ?_)
  subst hX
  replace B : mv_B X (kk V) c_Maker_begin ws_Maker_begin "FamilyRules$Maker" 2 (Option.none : Option Jvm.ClassFile.FieldType) (rM 0 0 0 0) "begin" := B
  obtain ⟨Q, hQ⟩ : ∃ Q, Q = mv_E X (kk V) (mv_R none (mv_up M mk (mkC rd a 0 src P ar al pp))) 0 0 := ⟨_, rfl⟩
  rw [← hQ]
  show mv_G X Q (kk V) 2 0 [(0, .ref mk), (1, va_rf (a))] [] M 0 0
  refine mv_aloadR_n B d_Maker_begin_0 rfl 0 rfl ?_
  refine mv_aload_n B d_Maker_begin_1 rfl 1 rfl ?_
  refine pf_Maker_15 B hm (by cases a <;> rfl) (by cases a <;> rfl) (Nat.le_of_ble_eq_true rfl) d_Maker_begin_2 ?_
  show mv_G X Q (kk V) 2 5 [(0, .ref mk), (1, va_rf (a))] [] (mv_up M mk (.inr (5, [.ref rd, va_rf (a), .int (iI (pl)), va_rf (src), .int (iI (P)), .int (iI (ar)), .int (iI (al)), .int (iI (pp))]))) 0 0
  obtain ⟨M1, hM2⟩ : ∃ My : mv_M, My = mv_up M mk (.inr (5, [.ref rd, va_rf (a), .int (iI (pl)), va_rf (src), .int (iI (P)), .int (iI (ar)), .int (iI (al)), .int (iI (pp))])) := ⟨_, rfl⟩
  rw [← hM2]
  have hf3 : M1 mk = some (.inr (5, [.ref rd, va_rf (a), .int (iI (pl)), va_rf (src), .int (iI (P)), .int (iI (ar)), .int (iI (al)), .int (iI (pp))])) := by rw [hM2]; exact mv_us
  refine mv_aloadR_n B d_Maker_begin_5 rfl 0 rfl ?_
  refine mv_iconst (z := 0) B d_Maker_begin_6 rfl ?_
  refine pf_Maker_19 B hf3 rfl rfl (Nat.le_of_ble_eq_true rfl) d_Maker_begin_7 ?_
  show mv_G X Q (kk V) 2 10 [(0, .ref mk), (1, va_rf (a))] [] (mv_up M1 mk (.inr (5, [.ref rd, va_rf (a), .int (iI (0)), va_rf (src), .int (iI (P)), .int (iI (ar)), .int (iI (al)), .int (iI (pp))]))) 0 0
  obtain ⟨M4, hM5⟩ : ∃ My : mv_M, My = mv_up M1 mk (.inr (5, [.ref rd, va_rf (a), .int (iI (0)), va_rf (src), .int (iI (P)), .int (iI (ar)), .int (iI (al)), .int (iI (pp))])) := ⟨_, rfl⟩
  rw [← hM5]
  have hf6 : M4 mk = some (.inr (5, [.ref rd, va_rf (a), .int (iI (0)), va_rf (src), .int (iI (P)), .int (iI (ar)), .int (iI (al)), .int (iI (pp))])) := by rw [hM5]; exact mv_us
  rw [hQ]
  exact mv_vret B ⟨rfl, (by rw [hM5, hM2, mv_uu])⟩ (by omega) (by omega) d_Maker_begin_10
set_option maxRecDepth 100000 in
set_option maxHeartbeats 4000000 in
theorem m_Register_findFamily {l : Launch} {V : mv_V} {M : mv_M} {rg row : Nat} {c : Int} {f : Nat → Option Nat} (hr : M rg = some (.inr (3, [.ref row, .int (iI c)]))) (hw : M row = some (gA V 100 f)) (rc : 0 ≤ c ∧ c ≤ 100) {ga : Nat → Nat} {nu ro pa ix ra ag rg2 : Nat → Int} {fa co tl : Nat → Option Nat} (hG : ∀ j : Nat, (j : Int) < c → f j = some (ga j) ∧ M (ga j) = some (.inr (2, [.int (iI (nu j)), .int (iI (ro j)), .int (iI (pa j)), .int (iI (ix j)), .int (iI (ra j)), va_rf (fa j), va_rf (co j), va_rf (tl j), .int (iI (ag j)), .int (iI (rg2 j))])) ∧ Sm (ro j)) {i : Int} (ri : R32 i) : Met l y_Register_findFamily ws_Register_findFamily (rM 1 0 0 21) (mv_Pre (kk V) [.ref rg, .int (iI (i))] M) (mv_Q (kk V) (mv_R (some (va_rf (if 0 ≤ i ∧ i < c ∧ ro i.toNat = 3 then some (ga i.toNat) else none))) M)) 0 0 V.2.2.2.2 := by
  refine mv_Met (by decide) rfl (Nat.le_of_ble_eq_true rfl) (fun X hX B => ?_)
  subst hX
  replace B : mv_B X (kk V) c_Register_findFamily ws_Register_findFamily "FamilyRules$Register" 3 (Option.some (Jvm.ClassFile.FieldType.object "FamilyRules$Global")) (rM 1 0 0 21) "findFamily" := B
  obtain ⟨Q, hQ⟩ : ∃ Q, Q = mv_E X (kk V) (mv_R (some (va_rf (if 0 ≤ i ∧ i < c ∧ ro i.toNat = 3 then some (ga i.toNat) else none))) M) 0 0 := ⟨_, rfl⟩
  rw [← hQ]
  show mv_G X Q (kk V) 3 0 [(0, .ref rg), (1, .int (iI (i)))] [] M 0 0
  refine mv_aloadR_n B d_Register_findFamily_0 rfl 0 rfl ?_
  refine mv_iload_n B d_Register_findFamily_1 rfl 1 rfl ?_
  refine ca_Register_21 (mc := 0) (ms := 0) (As := [.int (iI (i))]) (rest := []) B (m_Register_find hr hw rc (i := i) ri) rfl rfl ⟨Nat.le_of_ble_eq_true rfl, Nat.le_of_ble_eq_true rfl⟩ hr rfl rfl (Nat.le_of_ble_eq_true rfl) d_Register_findFamily_2 ⟨by omega, by omega⟩ (mv_x ?_)
  show mv_G X Q (kk V) 3 5 [(0, .ref rg), (1, .int (iI (i)))] [va_rf (if 0 ≤ i ∧ i < c then f i.toNat else none)] M 0 0
  refine mv_astore_n (lv' := [(2, va_rf (if 0 ≤ i ∧ i < c then f i.toNat else none)), (0, .ref rg), (1, .int (iI (i)))]) B d_Register_findFamily_5 rfl (by decide) rfl ?_
  refine mv_aload_n B d_Register_findFamily_6 rfl 0 rfl ?_
  refine mv_ifnull (tgt := 22) B d_Register_findFamily_7 (by decide) (fun c1 => ?_) (fun a2 c1 => ?_)
  · have hno : ¬ (0 ≤ i ∧ i < c) := by
      intro q
      rw [if_pos q, (hG i.toNat (by omega)).1] at c1
      cases c1
    refine mv_null B d_Register_findFamily_22 ?_
    rw [hQ]
    exact mv_aret B ⟨by rw [if_neg (by omega)], rfl⟩ (by omega) (by omega) d_Register_findFamily_23
  · have hi : 0 ≤ i ∧ i < c := by
      apply Classical.byContradiction
      intro q
      rw [if_neg q] at c1
      cases c1
    have hgi := hG i.toNat (by omega)
    rw [if_pos hi, hgi.1]
    show mv_G X Q (kk V) 3 10 [(2, .ref ((ga i.toNat))), (0, .ref rg), (1, .int (iI (i)))] [] M 0 0
    have hro := hgi.2.2
    refine mv_aloadR_n B d_Register_findFamily_10 rfl 0 rfl ?_
    refine gf_Register_25 B hgi.2.1 rfl d_Register_findFamily_11 ?_
    refine mv_iconst (z := 3) B d_Register_findFamily_14 rfl ?_
    refine mv_icmp_ne (tgt := 22) B d_Register_findFamily_15 (by decide) (by omega) (by omega) (fun c3 => ?_) (fun c3 => ?_)
    · refine mv_null B d_Register_findFamily_22 ?_
      rw [hQ]
      exact mv_aret B ⟨by rw [if_neg (by omega)], rfl⟩ (by omega) (by omega) d_Register_findFamily_23
    · refine mv_aloadR_n B d_Register_findFamily_18 rfl 0 rfl ?_
      refine mv_goto (tgt := 23) B d_Register_findFamily_19 (by decide) ?_
      rw [hQ]
      exact mv_aretR B ⟨by rw [if_pos (by omega)]; rfl, rfl⟩ (by omega) (by omega) d_Register_findFamily_23
set_option maxRecDepth 100000 in
set_option maxHeartbeats 4000000 in
theorem m_Register_findConstructor {l : Launch} {V : mv_V} {M : mv_M} {rg row : Nat} {c : Int} {f : Nat → Option Nat} (hr : M rg = some (.inr (3, [.ref row, .int (iI c)]))) (hw : M row = some (gA V 100 f)) (rc : 0 ≤ c ∧ c ≤ 100) {ga : Nat → Nat} {nu ro pa ix ra ag rg2 : Nat → Int} {fa co tl : Nat → Option Nat} (hG : ∀ j : Nat, (j : Int) < c → f j = some (ga j) ∧ M (ga j) = some (.inr (2, [.int (iI (nu j)), .int (iI (ro j)), .int (iI (pa j)), .int (iI (ix j)), .int (iI (ra j)), va_rf (fa j), va_rf (co j), va_rf (tl j), .int (iI (ag j)), .int (iI (rg2 j))])) ∧ Sm (ro j)) {i : Int} (ri : R32 i) : Met l y_Register_findConstructor ws_Register_findConstructor (rM 1 0 0 21) (mv_Pre (kk V) [.ref rg, .int (iI (i))] M) (mv_Q (kk V) (mv_R (some (va_rf (if 0 ≤ i ∧ i < c ∧ ro i.toNat = 4 then some (ga i.toNat) else none))) M)) 0 0 V.2.2.2.2 := by
  refine mv_Met (by decide) rfl (Nat.le_of_ble_eq_true rfl) (fun X hX B => ?_)
  subst hX
  replace B : mv_B X (kk V) c_Register_findConstructor ws_Register_findConstructor "FamilyRules$Register" 3 (Option.some (Jvm.ClassFile.FieldType.object "FamilyRules$Global")) (rM 1 0 0 21) "findConstructor" := B
  obtain ⟨Q, hQ⟩ : ∃ Q, Q = mv_E X (kk V) (mv_R (some (va_rf (if 0 ≤ i ∧ i < c ∧ ro i.toNat = 4 then some (ga i.toNat) else none))) M) 0 0 := ⟨_, rfl⟩
  rw [← hQ]
  show mv_G X Q (kk V) 3 0 [(0, .ref rg), (1, .int (iI (i)))] [] M 0 0
  refine mv_aloadR_n B d_Register_findConstructor_0 rfl 0 rfl ?_
  refine mv_iload_n B d_Register_findConstructor_1 rfl 1 rfl ?_
  refine ca_Register_21 (mc := 0) (ms := 0) (As := [.int (iI (i))]) (rest := []) B (m_Register_find hr hw rc (i := i) ri) rfl rfl ⟨Nat.le_of_ble_eq_true rfl, Nat.le_of_ble_eq_true rfl⟩ hr rfl rfl (Nat.le_of_ble_eq_true rfl) d_Register_findConstructor_2 ⟨by omega, by omega⟩ (mv_x ?_)
  show mv_G X Q (kk V) 3 5 [(0, .ref rg), (1, .int (iI (i)))] [va_rf (if 0 ≤ i ∧ i < c then f i.toNat else none)] M 0 0
  refine mv_astore_n (lv' := [(2, va_rf (if 0 ≤ i ∧ i < c then f i.toNat else none)), (0, .ref rg), (1, .int (iI (i)))]) B d_Register_findConstructor_5 rfl (by decide) rfl ?_
  refine mv_aload_n B d_Register_findConstructor_6 rfl 0 rfl ?_
  refine mv_ifnull (tgt := 22) B d_Register_findConstructor_7 (by decide) (fun c1 => ?_) (fun a2 c1 => ?_)
  · have hno : ¬ (0 ≤ i ∧ i < c) := by
      intro q
      rw [if_pos q, (hG i.toNat (by omega)).1] at c1
      cases c1
    refine mv_null B d_Register_findConstructor_22 ?_
    rw [hQ]
    exact mv_aret B ⟨by rw [if_neg (by omega)], rfl⟩ (by omega) (by omega) d_Register_findConstructor_23
  · have hi : 0 ≤ i ∧ i < c := by
      apply Classical.byContradiction
      intro q
      rw [if_neg q] at c1
      cases c1
    have hgi := hG i.toNat (by omega)
    rw [if_pos hi, hgi.1]
    show mv_G X Q (kk V) 3 10 [(2, .ref ((ga i.toNat))), (0, .ref rg), (1, .int (iI (i)))] [] M 0 0
    have hro := hgi.2.2
    refine mv_aloadR_n B d_Register_findConstructor_10 rfl 0 rfl ?_
    refine gf_Register_25 B hgi.2.1 rfl d_Register_findConstructor_11 ?_
    refine mv_iconst (z := 4) B d_Register_findConstructor_14 rfl ?_
    refine mv_icmp_ne (tgt := 22) B d_Register_findConstructor_15 (by decide) (by omega) (by omega) (fun c3 => ?_) (fun c3 => ?_)
    · refine mv_null B d_Register_findConstructor_22 ?_
      rw [hQ]
      exact mv_aret B ⟨by rw [if_neg (by omega)], rfl⟩ (by omega) (by omega) d_Register_findConstructor_23
    · refine mv_aloadR_n B d_Register_findConstructor_18 rfl 0 rfl ?_
      refine mv_goto (tgt := 23) B d_Register_findConstructor_19 (by decide) ?_
      rw [hQ]
      exact mv_aretR B ⟨by rw [if_pos (by omega)]; rfl, rfl⟩ (by omega) (by omega) d_Register_findConstructor_23
set_option maxRecDepth 100000 in
set_option maxHeartbeats 4000000 in
theorem m_Global_isWholeTold {l : Launch} {V : mv_V} {M : mv_M} {g ca n : Nat} {nu ro pa ix ag rc : Int} {ra : Nat} {fa tl : Option Nat} {f : Nat → Option Nat} (hg : M g = some (.inr (2, [.int (iI nu), .int (iI ro), .int (iI pa), .int (iI ix), .int (iI (ra : Nat)), va_rf fa, .ref ca, va_rf tl, .int (iI ag), .int (iI rc)]))) (hca : M ca = some (gA V n f)) (hn : ra ≤ n ∧ n ≤ 100) {cc : Nat → Nat} {nc roc pac ixc rac arc rcc : Nat → Int} {fac coc tlc : Nat → Option Nat} (hc : ∀ i, i < ra → f i = some (cc i) ∧ M (cc i) = some (.inr (2, [.int (iI (nc i)), .int (iI (roc i)), .int (iI (pac i)), .int (iI (ixc i)), .int (iI (rac i)), va_rf (fac i), va_rf (coc i), va_rf (tlc i), .int (iI (arc i)), .int (iI (rcc i))]))) : Met l y_Global_isWholeTold ws_Global_isWholeTold (rM 1 0 0 21) (mv_Pre (kk V) [.ref g] M) (mv_Q (kk V) (mv_R (some (.int (iI (if (∀ j, j < ra → tlc j ≠ none) then 1 else 0)))) M)) 0 0 V.2.2.2.2 := by
  refine mv_Met (by decide) rfl (Nat.le_of_ble_eq_true rfl) (fun X hX B => ?_)
  subst hX
  replace B : mv_B X (kk V) c_Global_isWholeTold ws_Global_isWholeTold "FamilyRules$Global" 3 (Option.some Jvm.ClassFile.FieldType.boolean) (rM 1 0 0 21) "isWholeTold" := B
  obtain ⟨Q, hQ⟩ : ∃ Q, Q = mv_E X (kk V) (mv_R (some (.int (iI (if (∀ j, j < ra → tlc j ≠ none) then 1 else 0)))) M) 0 0 := ⟨_, rfl⟩
  rw [← hQ]
  show mv_G X Q (kk V) 3 0 [(0, .ref g)] [] M 0 0
  refine mv_iconst (z := 0) B d_Global_isWholeTold_0 rfl ?_
  refine mv_istore_n (lv' := [(1, .int (iI (0))), (0, .ref g)]) B d_Global_isWholeTold_1 rfl (by decide) rfl ?_
  have L2 : ∀ (fu : Nat) (i : Nat), (i ≤ ra) → (∀ j, j < i → tlc j ≠ none) → (ra - i) < fu → mv_G X Q (kk V) 3 2 [(1, .int (iI ((i : Nat)))), (0, .ref g)] [] M 0 0 := by
    intro fu
    induction fu with
    | zero => intro i hi ht hm; exact absurd hm (Nat.not_lt_zero _)
    | succ fu ih2 =>
      intro i hi ht hm
      refine mv_iload_n B d_Global_isWholeTold_2 rfl 0 rfl ?_
      refine mv_aloadR_n B d_Global_isWholeTold_3 rfl 1 rfl ?_
      refine gf_Global_27 B hg rfl d_Global_isWholeTold_4 ?_
      refine mv_icmp_ge (tgt := 35) B d_Global_isWholeTold_7 (by decide) (by omega) (by omega) (fun c1 => ?_) (fun c1 => ?_)
      · refine mv_iconst (z := 1) B d_Global_isWholeTold_35 rfl ?_
        rw [hQ]
        exact mv_zret B rfl ⟨by rw [if_pos (fun j hj => ht j (by omega))], rfl⟩ (by omega) (by omega) d_Global_isWholeTold_36
      · refine mv_aloadR_n B d_Global_isWholeTold_10 rfl 1 rfl ?_
        refine mv_iload_n B d_Global_isWholeTold_11 rfl 0 rfl ?_
        refine ca_Global_34 (mc := 0) (ms := 0) (As := [.int (iI ((i : Nat)))]) (rest := []) B (m_Global_constructorAt (fa := fa) (tl := tl) hg hca (by omega) (i := ((i : Nat) : Int)) (by omega)) rfl rfl ⟨Nat.le_of_ble_eq_true rfl, Nat.le_of_ble_eq_true rfl⟩ hg rfl rfl (Nat.le_of_ble_eq_true rfl) d_Global_isWholeTold_12 ⟨by omega, by omega⟩ (mv_x ?_)
        show mv_G X Q (kk V) 3 15 [(1, .int (iI ((i : Nat)))), (0, .ref g)] [va_rf (if 0 ≤ ((i : Nat) : Int) ∧ ((i : Nat) : Int) < n then f (Int.toNat ((i : Nat))) else none)] M 0 0
        have hci := hc i (by omega)
        rw [show (if 0 ≤ ((i : Nat) : Int) ∧ ((i : Nat) : Int) < n then f (Int.toNat ((i : Nat))) else none) = some (cc i) from by rw [if_pos (by omega)]; exact hci.1]
        show mv_G X Q (kk V) 3 15 [(1, .int (iI ((i : Nat)))), (0, .ref g)] [.ref ((cc i))] M 0 0
        refine mv_astoreR_n (lv' := [(2, .ref ((cc i))), (1, .int (iI ((i : Nat)))), (0, .ref g)]) B d_Global_isWholeTold_15 rfl (by decide) rfl ?_
        refine mv_aloadR_n B d_Global_isWholeTold_16 rfl 0 rfl ?_
        refine mv_ifnullR (tgt := 27) B d_Global_isWholeTold_17 (by decide) ?_
        refine mv_aloadR_n B d_Global_isWholeTold_20 rfl 0 rfl ?_
        refine gf_Global_38 B hci.2 rfl d_Global_isWholeTold_21 ?_
        refine mv_ifnonnull (tgt := 29) B d_Global_isWholeTold_24 (by decide) (fun a3 c2 => ?_) (fun c2 => ?_)
        · have htl := c2
          refine mv_iinc (lv' := [(1, .int (iI ((i : Nat) + 1))), (2, .ref ((cc i))), (0, .ref g)]) B d_Global_isWholeTold_29 1 rfl (by decide) rfl ?_
          refine mv_goto (tgt := 2) B d_Global_isWholeTold_32 (by decide) ?_
          refine mv_lv (lv' := [(1, .int (iI (((i + 1) : Nat)))), (0, .ref g)]) [0, 2] (lc (lI (by first | rfl | omega)) (lc rfl rfl)) ?_
          exact ih2 (i + 1) (by omega) (fun j hj => if e : j = i then (by subst e; rw [htl]; simp) else ht j (by omega)) (by omega)
        · have htl := c2
          refine mv_iconst (z := 0) B d_Global_isWholeTold_27 rfl ?_
          rw [hQ]
          exact mv_zret B rfl ⟨by rw [if_neg (fun q => q i (by omega) htl)], rfl⟩ (by omega) (by omega) d_Global_isWholeTold_28
  refine mv_lv (lv' := [(1, .int (iI ((0 : Nat)))), (0, .ref g)]) [0, 1] (lc (lI (by first | rfl | omega)) (lc rfl rfl)) ?_
  exact L2 _ 0 (by omega) (fun j hj => by omega) (Nat.lt_succ_self _)
