theorem rc_sm {S : SS} (hI : Iv S) {g : Nat} (hg : g < S.2.2.1) (h4 : (S.2.2.2 g).1 = 4) (hn : ¬ (S.2.2.2 g).2.2.2.2.2.1 = none) : (S.2.2.2 g).2.2.2.2.2.2.2 ≤ 1000 := by
  obtain ⟨t, ht⟩ := Option.ne_none_iff_exists'.mp hn
  obtain ⟨z1, z2⟩ := (con_b hI hg h4).2.2.2.2.2.1 t ht
  obtain ⟨hTo, hrc, -⟩ := z2
  have hb := hTo.b
  have e3 := Bds_le hTo.1 hb _ (Nat.le_refl _)
  have e4 := (Bds_ok hTo.1 hb _ (Nat.le_refl _)).1
  have e5 := hTo.2.1
  have := cnB_le (rcS (S.2.1 t) (((S.2.2.2 g).2.1 : Nat) : Int) (S.2.2.2 g).2.2.1 (S.2.2.2 g).2.2.2.1) (S.2.2.2 g).2.2.2.2.2.2.1
  rw [← hrc] at this
  omega
set_option maxRecDepth 100000 in
set_option maxHeartbeats 4000000 in
theorem m_Fam_size {l : Launch} {V : mv_V} {M : mv_M} {x sh rg rd mk trow grow dep : Nat} {hT : Nat → Nat} {tq : Nat → Q4} {tt : Nat → Tm} {ga ca : Nat → Nat} {f gf : Nat → Option Nat} {S : SS} (hP : ClsC V M x sh rg rd mk trow grow dep hT tq tt ga ca f gf S) (hJ : Jv S) {g : Int} (rg9 : R32 g) : Met l y_Fam_size ws_Fam_size (rM 6 0 0 220) (mv_Pre (kk V) [.ref x, .int (iI (g))] M) (mv_Q (kk V) (fun z0 M' => z0 = some (.int (iI (aSz S g))) ∧ ClsP V M' x (S))) 0 0 V.2.2.2.2 := by
  refine mv_Met (by decide) rfl (Nat.le_of_ble_eq_true rfl) (fun X hX B => ?_)
  subst hX
  replace B : mv_B X (kk V) c_Fam_size ws_Fam_size "FamilyRules" 3 (Option.some Jvm.ClassFile.FieldType.int) (rM 6 0 0 220) "size" := B
  obtain ⟨Q, hQ⟩ : ∃ Q, Q = mv_E X (kk V) (fun z0 M' => z0 = some (.int (iI (aSz S g))) ∧ ClsP V M' x (S)) 0 0 := ⟨_, rfl⟩
  rw [← hQ]
  show mv_G X Q (kk V) 3 0 [(0, .ref x), (1, .int (iI (g)))] [] M 0 0
  obtain ⟨⟨hx, hsh, htr, hrg, hgr, ⟨tm0, al0, fo0, ap0, hrd⟩, ⟨δ, hdp, hδ⟩, ⟨tg0, pl0, src0, P0, ar0, al1, pp0, hmk⟩⟩, hTm, hGl, hIn⟩ := id hP
  have hI := hJ.1
  have hb1 : S.1 ≤ 1500 := hI.1
  have hb2 : S.2.2.1 ≤ 100 := hI.2.1
  have hb3 : bs S.2.1 S.1 ≤ 30000 := hI.2.2.1
  refine mv_aloadR_n B d_Fam_size_0 rfl 0 rfl ?_
  refine gf_Fam_22 B hx rfl d_Fam_size_1 ?_
  refine mv_iload_n B d_Fam_size_4 rfl 1 rfl ?_
  refine ca_Fam_130 (mc := 0) (ms := 0) (As := [.int (iI (g))]) (rest := []) B (m_Register_findFamily hrg hgr (by omega) (ga := ga) (nu := fun j => ((j : Nat) : Int)) (ro := fun j => (S.2.2.2 j).1) (pa := fun j => (((S.2.2.2 j).2.2.1 : Nat) : Int)) (ix := fun j => (((S.2.2.2 j).2.2.2.1 : Nat) : Int)) (ra := fun j => (((S.2.2.2 j).2.2.2.2.1 : Nat) : Int)) (fa := faO S ga) (co := coO S ca) (tl := tdO S hT) (ag := agO S) (rg2 := fun j => (((S.2.2.2 j).2.2.2.2.2.2.2 : Nat) : Int)) (fun j hj => ⟨(hGl j (by omega)).1, (hGl j (by omega)).2.1, role_sm hI (by omega)⟩) (i := g) (by omega)) rfl rfl ⟨Nat.le_of_ble_eq_true rfl, Nat.le_of_ble_eq_true rfl⟩ hrg rfl rfl (Nat.le_of_ble_eq_true rfl) d_Fam_size_5 ⟨by omega, by omega⟩ (mv_x ?_)
  show mv_G X Q (kk V) 3 8 [(0, .ref x), (1, .int (iI (g)))] [va_rf (if 0 ≤ g ∧ g < ((S.2.2.1 : Nat) : Int) ∧ (S.2.2.2 (g).toNat).1 = 3 then some (ga (g).toNat) else none)] M 0 0
  refine mv_astore_n (lv' := [(2, va_rf (if 0 ≤ g ∧ g < ((S.2.2.1 : Nat) : Int) ∧ (S.2.2.2 (g).toNat).1 = 3 then some (ga (g).toNat) else none)), (0, .ref x), (1, .int (iI (g)))]) B d_Fam_size_8 rfl (by decide) rfl ?_
  refine mv_aload_n B d_Fam_size_9 rfl 0 rfl ?_
  refine mv_ifnull (tgt := 20) B d_Fam_size_10 (by decide) (fun c1 => ?_) (fun a2 c1 => ?_)
  · have hng : ¬ (0 ≤ g ∧ g < ((S.2.2.1 : Nat) : Int) ∧ (S.2.2.2 (g).toNat).1 = 3) := by
      intro q
      rw [if_pos q] at c1
      cases c1
    have hnW : ¬ okW S g := fun z => hng ⟨z.1.1, z.1.2, z.2.1⟩
    refine mv_iconst (z := -1) B d_Fam_size_20 rfl ?_
    rw [hQ]
    exact mv_iret B ⟨by unfold aSz; rw [if_neg hnW], ⟨sh, rg, rd, mk, trow, grow, dep, hT, tq, tt, ga, ca, f, gf, hP⟩⟩ (by omega) (by omega) d_Fam_size_21
  · have hig : 0 ≤ g ∧ g < ((S.2.2.1 : Nat) : Int) ∧ (S.2.2.2 (g).toNat).1 = 3 := by
      apply Classical.byContradiction
      intro q
      rw [if_neg q] at c1
      cases c1
    have hgg := hGl (g).toNat (by omega)
    rw [if_pos hig]
    show mv_G X Q (kk V) 3 13 [(2, .ref ((ga (g).toNat))), (0, .ref x), (1, .int (iI (g)))] [] M 0 0
    refine mv_aloadR_n B d_Fam_size_13 rfl 0 rfl ?_
    obtain ⟨t9, -, -, -, -, hpb, -, hfr, -⟩ := fam_b hI (g := g.toNat) (by omega) hig.2.2
    obtain ⟨-, cf, hcf, hcc⟩ := hgg.2.2 hig.2.2
    have hco : coO S ca g.toNat = some (ca g.toNat) := by unfold coO; rw [if_pos hig.2.2]
    have hwg : M (ga g.toNat) = some (.inr (2, [.int (iI ((g.toNat : Nat) : Int)), .int (iI ((S.2.2.2 g.toNat).1)), .int (iI (((S.2.2.2 g.toNat).2.2.1 : Nat) : Int)), .int (iI (((S.2.2.2 g.toNat).2.2.2.1 : Nat) : Int)), .int (iI (((S.2.2.2 g.toNat).2.2.2.2.1 : Nat) : Int)), va_rf (faO S ga g.toNat), .ref (ca g.toNat), va_rf (tdO S hT g.toNat), .int (iI (agO S g.toNat)), .int (iI (((S.2.2.2 g.toNat).2.2.2.2.2.2.2 : Nat) : Int))])) := by
      rw [hgg.2.1]
      unfold glO
      rw [hco]
      rfl
    refine ca_Fam_158 (mc := 0) (ms := 0) (As := []) (rest := []) B (m_Global_isWholeTold (fa := faO S ga g.toNat) (tl := tdO S hT g.toNat) hwg hcf ⟨Nat.le_refl _, by omega⟩ (cc := (fun i => ga (g.toNat + 1 + i))) (nc := (fun i => ((g.toNat + 1 + i : Nat) : Int))) (roc := (fun i => (S.2.2.2 (g.toNat + 1 + i)).1)) (pac := (fun i => (((S.2.2.2 (g.toNat + 1 + i)).2.2.1 : Nat) : Int))) (ixc := (fun i => (((S.2.2.2 (g.toNat + 1 + i)).2.2.2.1 : Nat) : Int))) (rac := (fun i => (((S.2.2.2 (g.toNat + 1 + i)).2.2.2.2.1 : Nat) : Int))) (fac := (fun i => faO S ga (g.toNat + 1 + i))) (coc := (fun i => coO S ca (g.toNat + 1 + i))) (tlc := (fun i => tdO S hT (g.toNat + 1 + i))) (arc := (fun i => agO S (g.toNat + 1 + i))) (rcc := (fun i => (((S.2.2.2 (g.toNat + 1 + i)).2.2.2.2.2.2.2 : Nat) : Int))) (fun i hi => ⟨hcc i hi, (hGl (g.toNat + 1 + i) (by omega)).2.1⟩)) rfl rfl ⟨Nat.le_of_ble_eq_true rfl, Nat.le_of_ble_eq_true rfl⟩ hgg.2.1 rfl rfl (Nat.le_of_ble_eq_true rfl) d_Fam_size_14 ⟨by omega, by omega⟩ (mv_x ?_)
    show mv_G X Q (kk V) 3 17 [(2, .ref ((ga (g).toNat))), (0, .ref x), (1, .int (iI (g)))] [.int (iI (if ∀ j, j < (S.2.2.2 g.toNat).2.2.2.2.1 → tdO S hT (g.toNat + 1 + j) ≠ none then 1 else 0))] M 0 0
    refine mv_if_ne (tgt := 22) B d_Fam_size_17 (by decide) (by first | omega | (split <;> omega)) (fun c3 => ?_) (fun c3 => ?_)
    · have hwt : ∀ j, j < (S.2.2.2 g.toNat).2.2.2.2.1 → tdO S hT (g.toNat + 1 + j) ≠ none := by
        apply Classical.byContradiction
        intro q
        rw [if_neg q] at c3
        omega
      have hW : okW S g := ⟨⟨hig.1, hig.2.1⟩, hig.2.2, fun i hi => by have := hwt i hi; rw [ne_eq, td_n] at this; exact Option.isSome_iff_ne_none.mpr this⟩
      have eg : ((g.toNat : Nat) : Int) = g := by omega
      have hWN : okW S ((g.toNat : Nat) : Int) := by rw [eg]; exact hW
      refine mv_aloadR_n B d_Fam_size_22 rfl 1 rfl ?_
      refine gf_Fam_35 B hx rfl d_Fam_size_23 ?_
      refine mv_null B d_Fam_size_26 ?_
      refine ca_Fam_144 (mc := 0) (ms := 0) (As := [va_rf (none)]) (rest := []) B (m_Maker_begin (a := none) hmk) rfl rfl ⟨Nat.le_of_ble_eq_true rfl, Nat.le_of_ble_eq_true rfl⟩ hmk rfl rfl (Nat.le_of_ble_eq_true rfl) d_Fam_size_27 ⟨by omega, by omega⟩ (mv_x ?_)
      show mv_G X Q (kk V) 3 30 [(2, .ref ((ga (g).toNat))), (0, .ref x), (1, .int (iI (g)))] [] (mv_up M mk (mkC rd none 0 src0 P0 ar0 al1 pp0)) 0 0
      rw [mX_0 hrd hdp (q := q00) (τ := t00)]
      obtain ⟨W1, hW1⟩ : ∃ z : mv_M, z = mX V M mk rd dep none q00 t00 [] (dC dep tm0 al0 fo0 ap0) δ src0 P0 ar0 al1 pp0 := ⟨_, rfl⟩
      rw [← hW1]
      have hP1 : ClsC V W1 x sh rg rd mk trow grow dep hT tq tt ga ca f gf S := by rw [hW1]; exact Cls_m0 hP hδ
      obtain ⟨⟨hx1, hsh1, htr1, -, -, -, -, -⟩, hTm1, hGl1, -⟩ := id hP1
      have hmk1 : W1 mk = some (mkC rd none 0 src0 P0 ar0 al1 pp0) := by rw [hW1]; exact mW_mk
      show mv_G X Q (kk V) 3 30 [(2, .ref ((ga (g).toNat))), (0, .ref x), (1, .int (iI (g)))] [] W1 (0) (0)
      refine mv_aloadR_n B d_Fam_size_30 rfl 1 rfl ?_
      refine gf_Fam_35 B hx1 rfl d_Fam_size_31 ?_
      refine mv_aloadR_n B d_Fam_size_34 rfl 0 rfl ?_
      refine mv_iconst (z := 0) B d_Fam_size_35 rfl ?_
      have hm1 := mC_recType (l := X.2.1) hP hJ hWN (tg := none) (q := q00) (τ := t00) (by show 0 ≤ 1000; omega) (HB_0 hP) (Off_0 hP) hδ (tm := tm0) (al0 := al0) (fo0 := fo0) (ap0 := ap0) (src := src0) (P := P0) (ar := ar0) (al := al1) (pp := pp0) (so := 0)
      rw [← hW1] at hm1
      refine ca_Fam_162 (mc := 0) (ms := 0) (rm' := rM 5 0 0 170) (As := [.ref ((ga (g).toNat)), .int (iI (0))]) (rest := []) B hm1 rfl rfl ⟨Nat.le_of_ble_eq_true rfl, Nat.le_of_ble_eq_true rfl⟩ hmk1 rfl rfl (Nat.le_of_ble_eq_true rfl) d_Fam_size_36 ⟨by omega, by omega⟩ (fun v1 W2 ep => ?_)
      obtain ⟨e1, tmA, alA, foA, apA, arA, alA2, ppA, δA, LA, srA, paA, hδA, hW2, hLA, -⟩ := ep
      subst e1
      have hP2 : ClsC V W2 x sh rg rd mk trow grow dep hT tq tt ga ca f gf S := by rw [hW2]; exact Cls_m0 hP hδA
      obtain ⟨⟨hx2, hsh2, htr2, -, -, -, -, -⟩, hTm2, hGl2, -⟩ := id hP2
      have hmk2 : W2 mk = some (mkC rd none ((LA.length : Nat) : Int) srA paA arA alA2 ppA) := by rw [hW2]; exact mW_mk
      have hrd2 : W2 rd = some (dC dep tmA alA foA apA) := by rw [hW2]; exact mW_rd (HB_0 hP)
      have hdp2 : W2 dep = some (iA V 1000 δA) := by rw [hW2]; exact mW_dep (HB_0 hP)
      obtain ⟨hLc, hLo, hLl⟩ := wL_g hJ hWN (s := 0) (by omega)
      show mv_G X Q (kk V) 3 39 [(2, .ref ((ga (g).toNat))), (0, .ref x), (1, .int (iI (g)))] [] W2 (0) (0)
      refine mv_aloadR_n B d_Fam_size_39 rfl 1 rfl ?_
      refine gf_Fam_35 B hx2 rfl d_Fam_size_40 ?_
      refine gf_Fam_152 B hmk2 rfl d_Fam_size_43 ?_
      rw [hQ]
      exact mv_iret B ⟨by unfold aSz; rw [if_pos hW, hLA], ⟨sh, rg, rd, mk, trow, grow, dep, hT, tq, tt, ga, ca, f, gf, hP2⟩⟩ (by omega) (by omega) d_Fam_size_46
    · have hwt : ¬ (∀ j, j < (S.2.2.2 g.toNat).2.2.2.2.1 → tdO S hT (g.toNat + 1 + j) ≠ none) := by
        intro q
        rw [if_pos q] at c3
        omega
      have hnW : ¬ okW S g := fun z => hwt (fun j hj => by have := z.2.2 j hj; rw [ne_eq, td_n]; exact Option.isSome_iff_ne_none.mp this)
      refine mv_iconst (z := -1) B d_Fam_size_20 rfl ?_
      rw [hQ]
      exact mv_iret B ⟨by unfold aSz; rw [if_neg hnW], ⟨sh, rg, rd, mk, trow, grow, dep, hT, tq, tt, ga, ca, f, gf, hP⟩⟩ (by omega) (by omega) d_Fam_size_21
set_option maxRecDepth 100000 in
set_option maxHeartbeats 4000000 in
theorem m_Fam_type {l : Launch} {V : mv_V} {M : mv_M} {x sh rg rd mk trow grow dep : Nat} {hT : Nat → Nat} {tq : Nat → Q4} {tt : Nat → Tm} {ga ca : Nat → Nat} {f gf : Nat → Option Nat} {S : SS} (hP : ClsC V M x sh rg rd mk trow grow dep hT tq tt ga ca f gf S) (hJ : Jv S) {g so : Int} (rg9 : R32 g) (rs9 : R32 so) : Met l y_Fam_type ws_Fam_type (rM 6 5 4004 220) (mv_Pre (kk V) [.ref x, .int (iI (g)), .int (iI (so))] M) (mv_Q (kk V) (fun z0 M' => z0 = some (.int (iI (aTy S g so))) ∧ ClsP V M' x (nTy S g so))) 5 4004 V.2.2.2.2 := by
  refine mv_Met (by decide) rfl (Nat.le_of_ble_eq_true rfl) (fun X hX B => ?_)
  subst hX
  replace B : mv_B X (kk V) c_Fam_type ws_Fam_type "FamilyRules" 5 (Option.some Jvm.ClassFile.FieldType.int) (rM 6 5 4004 220) "type" := B
  obtain ⟨Q, hQ⟩ : ∃ Q, Q = mv_E X (kk V) (fun z0 M' => z0 = some (.int (iI (aTy S g so))) ∧ ClsP V M' x (nTy S g so)) 5 4004 := ⟨_, rfl⟩
  rw [← hQ]
  show mv_G X Q (kk V) 5 0 [(0, .ref x), (1, .int (iI (g))), (2, .int (iI (so)))] [] M 0 0
  have hrc : (rM 6 5 4004 220).cells = 5 := rfl
  have hrs : (rM 6 5 4004 220).slots = 4004 := rfl
  obtain ⟨⟨hx, hsh, htr, hrg, hgr, ⟨tm0, al0, fo0, ap0, hrd⟩, ⟨δ, hdp, hδ⟩, ⟨tg0, pl0, src0, P0, ar0, al1, pp0, hmk⟩⟩, hTm, hGl, hIn⟩ := id hP
  have hI := hJ.1
  have hb1 : S.1 ≤ 1500 := hI.1
  have hb2 : S.2.2.1 ≤ 100 := hI.2.1
  have hb3 : bs S.2.1 S.1 ≤ 30000 := hI.2.2.1
  refine mv_aloadR_n B d_Fam_type_0 rfl 0 rfl ?_
  refine gf_Fam_22 B hx rfl d_Fam_type_1 ?_
  refine mv_iload_n B d_Fam_type_4 rfl 1 rfl ?_
  refine ca_Fam_130 (mc := 0) (ms := 0) (As := [.int (iI (g))]) (rest := []) B (m_Register_findFamily hrg hgr (by omega) (ga := ga) (nu := fun j => ((j : Nat) : Int)) (ro := fun j => (S.2.2.2 j).1) (pa := fun j => (((S.2.2.2 j).2.2.1 : Nat) : Int)) (ix := fun j => (((S.2.2.2 j).2.2.2.1 : Nat) : Int)) (ra := fun j => (((S.2.2.2 j).2.2.2.2.1 : Nat) : Int)) (fa := faO S ga) (co := coO S ca) (tl := tdO S hT) (ag := agO S) (rg2 := fun j => (((S.2.2.2 j).2.2.2.2.2.2.2 : Nat) : Int)) (fun j hj => ⟨(hGl j (by omega)).1, (hGl j (by omega)).2.1, role_sm hI (by omega)⟩) (i := g) (by omega)) rfl rfl ⟨Nat.le_of_ble_eq_true rfl, Nat.le_of_ble_eq_true rfl⟩ hrg rfl rfl (Nat.le_of_ble_eq_true rfl) d_Fam_type_5 ⟨by omega, by omega⟩ (mv_x ?_)
  show mv_G X Q (kk V) 5 8 [(0, .ref x), (1, .int (iI (g))), (2, .int (iI (so)))] [va_rf (if 0 ≤ g ∧ g < ((S.2.2.1 : Nat) : Int) ∧ (S.2.2.2 (g).toNat).1 = 3 then some (ga (g).toNat) else none)] M 0 0
  refine mv_astore_n (lv' := [(3, va_rf (if 0 ≤ g ∧ g < ((S.2.2.1 : Nat) : Int) ∧ (S.2.2.2 (g).toNat).1 = 3 then some (ga (g).toNat) else none)), (0, .ref x), (1, .int (iI (g))), (2, .int (iI (so)))]) B d_Fam_type_8 rfl (by decide) rfl ?_
  refine mv_aload_n B d_Fam_type_9 rfl 0 rfl ?_
  refine mv_ifnull (tgt := 27) B d_Fam_type_10 (by decide) (fun c1 => ?_) (fun a2 c1 => ?_)
  · have hng : ¬ (0 ≤ g ∧ g < ((S.2.2.1 : Nat) : Int) ∧ (S.2.2.2 (g).toNat).1 = 3) := by
      intro q
      rw [if_pos q] at c1
      cases c1
    have hnW : ¬ okW S g := fun z => hng ⟨z.1.1, z.1.2, z.2.1⟩
    refine mv_iconst (z := -1) B d_Fam_type_27 rfl ?_
    rw [hQ]
    have hnG : ¬ (okW S g ∧ 0 ≤ so ∧ so ≤ 100) := by first | exact hnW | exact fun z => hnW z.1
    exact mv_iret B ⟨by unfold aTy; rw [if_neg hnG], by unfold nTy; rw [if_neg hnG]; exact ⟨sh, rg, rd, mk, trow, grow, dep, hT, tq, tt, ga, ca, f, gf, hP⟩⟩ (by omega) (by omega) d_Fam_type_28
  · have hig : 0 ≤ g ∧ g < ((S.2.2.1 : Nat) : Int) ∧ (S.2.2.2 (g).toNat).1 = 3 := by
      apply Classical.byContradiction
      intro q
      rw [if_neg q] at c1
      cases c1
    have hgg := hGl (g).toNat (by omega)
    rw [if_pos hig]
    show mv_G X Q (kk V) 5 13 [(3, .ref ((ga (g).toNat))), (0, .ref x), (1, .int (iI (g))), (2, .int (iI (so)))] [] M 0 0
    refine mv_aloadR_n B d_Fam_type_13 rfl 0 rfl ?_
    obtain ⟨t9, -, -, -, -, hpb, -, hfr, -⟩ := fam_b hI (g := g.toNat) (by omega) hig.2.2
    obtain ⟨-, cf, hcf, hcc⟩ := hgg.2.2 hig.2.2
    have hco : coO S ca g.toNat = some (ca g.toNat) := by unfold coO; rw [if_pos hig.2.2]
    have hwg : M (ga g.toNat) = some (.inr (2, [.int (iI ((g.toNat : Nat) : Int)), .int (iI ((S.2.2.2 g.toNat).1)), .int (iI (((S.2.2.2 g.toNat).2.2.1 : Nat) : Int)), .int (iI (((S.2.2.2 g.toNat).2.2.2.1 : Nat) : Int)), .int (iI (((S.2.2.2 g.toNat).2.2.2.2.1 : Nat) : Int)), va_rf (faO S ga g.toNat), .ref (ca g.toNat), va_rf (tdO S hT g.toNat), .int (iI (agO S g.toNat)), .int (iI (((S.2.2.2 g.toNat).2.2.2.2.2.2.2 : Nat) : Int))])) := by
      rw [hgg.2.1]
      unfold glO
      rw [hco]
      rfl
    refine ca_Fam_158 (mc := 0) (ms := 0) (As := []) (rest := []) B (m_Global_isWholeTold (fa := faO S ga g.toNat) (tl := tdO S hT g.toNat) hwg hcf ⟨Nat.le_refl _, by omega⟩ (cc := (fun i => ga (g.toNat + 1 + i))) (nc := (fun i => ((g.toNat + 1 + i : Nat) : Int))) (roc := (fun i => (S.2.2.2 (g.toNat + 1 + i)).1)) (pac := (fun i => (((S.2.2.2 (g.toNat + 1 + i)).2.2.1 : Nat) : Int))) (ixc := (fun i => (((S.2.2.2 (g.toNat + 1 + i)).2.2.2.1 : Nat) : Int))) (rac := (fun i => (((S.2.2.2 (g.toNat + 1 + i)).2.2.2.2.1 : Nat) : Int))) (fac := (fun i => faO S ga (g.toNat + 1 + i))) (coc := (fun i => coO S ca (g.toNat + 1 + i))) (tlc := (fun i => tdO S hT (g.toNat + 1 + i))) (arc := (fun i => agO S (g.toNat + 1 + i))) (rcc := (fun i => (((S.2.2.2 (g.toNat + 1 + i)).2.2.2.2.2.2.2 : Nat) : Int))) (fun i hi => ⟨hcc i hi, (hGl (g.toNat + 1 + i) (by omega)).2.1⟩)) rfl rfl ⟨Nat.le_of_ble_eq_true rfl, Nat.le_of_ble_eq_true rfl⟩ hgg.2.1 rfl rfl (Nat.le_of_ble_eq_true rfl) d_Fam_type_14 ⟨by omega, by omega⟩ (mv_x ?_)
    show mv_G X Q (kk V) 5 17 [(3, .ref ((ga (g).toNat))), (0, .ref x), (1, .int (iI (g))), (2, .int (iI (so)))] [.int (iI (if ∀ j, j < (S.2.2.2 g.toNat).2.2.2.2.1 → tdO S hT (g.toNat + 1 + j) ≠ none then 1 else 0))] M 0 0
    refine mv_if_eq (tgt := 27) B d_Fam_type_17 (by decide) (by first | omega | (split <;> omega)) (fun c3 => ?_) (fun c3 => ?_)
    · have hwt : ¬ (∀ j, j < (S.2.2.2 g.toNat).2.2.2.2.1 → tdO S hT (g.toNat + 1 + j) ≠ none) := by
        intro q
        rw [if_pos q] at c3
        omega
      have hnW : ¬ okW S g := fun z => hwt (fun j hj => by have := z.2.2 j hj; rw [ne_eq, td_n]; exact Option.isSome_iff_ne_none.mp this)
      refine mv_iconst (z := -1) B d_Fam_type_27 rfl ?_
      rw [hQ]
      have hnG : ¬ (okW S g ∧ 0 ≤ so ∧ so ≤ 100) := by first | exact hnW | exact fun z => hnW z.1
      exact mv_iret B ⟨by unfold aTy; rw [if_neg hnG], by unfold nTy; rw [if_neg hnG]; exact ⟨sh, rg, rd, mk, trow, grow, dep, hT, tq, tt, ga, ca, f, gf, hP⟩⟩ (by omega) (by omega) d_Fam_type_28
    · have hwt : ∀ j, j < (S.2.2.2 g.toNat).2.2.2.2.1 → tdO S hT (g.toNat + 1 + j) ≠ none := by
        apply Classical.byContradiction
        intro q
        rw [if_neg q] at c3
        omega
      have hW : okW S g := ⟨⟨hig.1, hig.2.1⟩, hig.2.2, fun i hi => by have := hwt i hi; rw [ne_eq, td_n] at this; exact Option.isSome_iff_ne_none.mpr this⟩
      have eg : ((g.toNat : Nat) : Int) = g := by omega
      have hWN : okW S ((g.toNat : Nat) : Int) := by rw [eg]; exact hW
      refine mv_iload_n B d_Fam_type_20 rfl 3 rfl ?_
      refine ca_Fam_133 (mc := 0) (ms := 0) (As := [.int (iI (so))]) (rest := []) B (m_Fam_isNumber (n := so) (by omega)) rfl rfl ⟨Nat.le_of_ble_eq_true rfl, Nat.le_of_ble_eq_true rfl⟩ rfl rfl (Nat.le_of_ble_eq_true rfl) d_Fam_type_21 ⟨by omega, by omega⟩ (mv_x ?_)
      show mv_G X Q (kk V) 5 24 [(3, .ref ((ga (g).toNat))), (0, .ref x), (1, .int (iI (g))), (2, .int (iI (so)))] [.int (iI (if 0 ≤ so ∧ so ≤ 100 then 1 else 0))] M 0 0
      refine mv_if_ne (tgt := 29) B d_Fam_type_24 (by decide) (by first | omega | (split <;> omega)) (fun c4 => ?_) (fun c4 => ?_)
      · have hnn : 0 ≤ so ∧ so ≤ 100 := by
          apply Classical.byContradiction
          intro q
          rw [if_neg q] at c4
          omega
        have hG9 : okW S g ∧ 0 ≤ so ∧ so ≤ 100 := ⟨hW, hnn⟩
        refine mv_aloadR_n B d_Fam_type_29 rfl 1 rfl ?_
        refine gf_Fam_35 B hx rfl d_Fam_type_30 ?_
        refine mv_null B d_Fam_type_33 ?_
        refine ca_Fam_144 (mc := 0) (ms := 0) (As := [va_rf (none)]) (rest := []) B (m_Maker_begin (a := none) hmk) rfl rfl ⟨Nat.le_of_ble_eq_true rfl, Nat.le_of_ble_eq_true rfl⟩ hmk rfl rfl (Nat.le_of_ble_eq_true rfl) d_Fam_type_34 ⟨by omega, by omega⟩ (mv_x ?_)
        show mv_G X Q (kk V) 5 37 [(3, .ref ((ga (g).toNat))), (0, .ref x), (1, .int (iI (g))), (2, .int (iI (so)))] [] (mv_up M mk (mkC rd none 0 src0 P0 ar0 al1 pp0)) 0 0
        rw [mX_0 hrd hdp (q := q00) (τ := t00)]
        obtain ⟨W1, hW1⟩ : ∃ z : mv_M, z = mX V M mk rd dep none q00 t00 [] (dC dep tm0 al0 fo0 ap0) δ src0 P0 ar0 al1 pp0 := ⟨_, rfl⟩
        rw [← hW1]
        have hP1 : ClsC V W1 x sh rg rd mk trow grow dep hT tq tt ga ca f gf S := by rw [hW1]; exact Cls_m0 hP hδ
        obtain ⟨⟨hx1, hsh1, htr1, -, -, -, -, -⟩, hTm1, hGl1, -⟩ := id hP1
        have hmk1 : W1 mk = some (mkC rd none 0 src0 P0 ar0 al1 pp0) := by rw [hW1]; exact mW_mk
        show mv_G X Q (kk V) 5 37 [(3, .ref ((ga (g).toNat))), (0, .ref x), (1, .int (iI (g))), (2, .int (iI (so)))] [] W1 (0) (0)
        refine mv_aloadR_n B d_Fam_type_37 rfl 1 rfl ?_
        refine gf_Fam_35 B hx1 rfl d_Fam_type_38 ?_
        refine mv_aloadR_n B d_Fam_type_41 rfl 0 rfl ?_
        refine mv_iload_n B d_Fam_type_42 rfl 3 rfl ?_
        have hm1 := mC_recType (l := X.2.1) hP hJ hWN (tg := none) (q := q00) (τ := t00) (by show 0 ≤ 1000; omega) (HB_0 hP) (Off_0 hP) hδ (tm := tm0) (al0 := al0) (fo0 := fo0) (ap0 := ap0) (src := src0) (P := P0) (ar := ar0) (al := al1) (pp := pp0) (so := so)
        rw [← hW1] at hm1
        refine ca_Fam_162 (mc := 0) (ms := 0) (rm' := rM 5 0 0 170) (As := [.ref ((ga (g).toNat)), .int (iI (so))]) (rest := []) B hm1 rfl rfl ⟨Nat.le_of_ble_eq_true rfl, Nat.le_of_ble_eq_true rfl⟩ hmk1 rfl rfl (Nat.le_of_ble_eq_true rfl) d_Fam_type_43 ⟨by omega, by omega⟩ (fun v1 W2 ep => ?_)
        obtain ⟨e1, tmA, alA, foA, apA, arA, alA2, ppA, δA, LA, srA, paA, hδA, hW2, hLA, -⟩ := ep
        subst e1
        have hP2 : ClsC V W2 x sh rg rd mk trow grow dep hT tq tt ga ca f gf S := by rw [hW2]; exact Cls_m0 hP hδA
        obtain ⟨⟨hx2, hsh2, htr2, -, -, -, -, -⟩, hTm2, hGl2, -⟩ := id hP2
        have hmk2 : W2 mk = some (mkC rd none ((LA.length : Nat) : Int) srA paA arA alA2 ppA) := by rw [hW2]; exact mW_mk
        have hrd2 : W2 rd = some (dC dep tmA alA foA apA) := by rw [hW2]; exact mW_rd (HB_0 hP)
        have hdp2 : W2 dep = some (iA V 1000 δA) := by rw [hW2]; exact mW_dep (HB_0 hP)
        obtain ⟨hLc, hLo, hLl⟩ := wL_g hJ hWN (s := so) (by omega)
        show mv_G X Q (kk V) 5 46 [(3, .ref ((ga (g).toNat))), (0, .ref x), (1, .int (iI (g))), (2, .int (iI (so)))] [] W2 (0) (0)
        refine mv_aloadR_n B d_Fam_type_46 rfl 1 rfl ?_
        refine gf_Fam_13 B hx2 rfl d_Fam_type_47 ?_
        refine mv_aloadR_n B d_Fam_type_50 rfl 1 rfl ?_
        refine gf_Fam_35 B hx2 rfl d_Fam_type_51 ?_
        refine gf_Fam_152 B hmk2 rfl d_Fam_type_54 ?_
        obtain ⟨n9, hn9⟩ : ∃ n : Nat, n = (if 1 ≤ (((LA.length : Nat) : Int)) ∧ (((LA.length : Nat) : Int)) ≤ 1000 ∧ (((LA.length : Nat) : Int)) ≤ 30000 - ((bs S.2.1 S.1 : Nat) : Int) ∧ ((S.1 : Nat) : Int) < 1500 then (((LA.length : Nat) : Int)).toNat else 0) := ⟨_, rfl⟩
        have hn9b : n9 ≤ 1000 := by rw [hn9]; split <;> omega
        refine ca_Fam_43 (mc := 5) (ms := 4 * n9 + 4) (rm' := rM 2 5 (4 * n9 + 4) 62) (As := [.int (iI (((LA.length : Nat) : Int)))]) (rest := []) B (m_Shelf_blank hsh2 (by omega) (by omega) (i := (((LA.length : Nat) : Int))) (by omega) hn9) rfl rfl ⟨Nat.le_of_ble_eq_true rfl, Nat.le_of_ble_eq_true rfl⟩ hsh2 rfl rfl (Nat.le_of_ble_eq_true rfl) d_Fam_type_57 ⟨by omega, by omega⟩ (fun v1 M1 ep => ?_)
        rcases ep with ⟨hb9, hv9, hM9⟩ | ⟨hb9, p, q, hv9, hTC, hE, hL⟩
        · subst hv9
          subst hM9
          show mv_G X Q (kk V) 5 60 [(3, .ref ((ga (g).toNat))), (0, .ref x), (1, .int (iI (g))), (2, .int (iI (so)))] [va_rf (none)] M1 (0 + 5) (0 + (4 * n9 + 4))
          refine mv_astore (lv' := [(4, va_rf (none)), (3, .ref ((ga (g).toNat))), (0, .ref x), (1, .int (iI (g))), (2, .int (iI (so)))]) B d_Fam_type_60 (by decide) rfl ?_
          refine mv_aload B d_Fam_type_62 0 rfl ?_
          refine mv_ifnonnull (tgt := 69) B d_Fam_type_64 (by decide) (fun a6 c5 => by cases c5) (fun c5 => ?_)
          refine mv_iconst (z := -1) B d_Fam_type_67 rfl ?_
          rw [hQ]
          have hok : ¬ okT S (wL S g.toNat so) := by
            show ¬ ¬ (S.1 = 1500 ∨ 1000 < (wL S g.toNat so).length ∨ 30000 < bs S.2.1 S.1 + (wL S g.toNat so).length)
            have := Cpl_1 hLc
            omega
          exact mv_iret B ⟨by unfold aTy aT; rw [if_pos hG9, if_neg hok], by unfold nTy nT; rw [if_pos hG9, if_neg hok]; exact ⟨sh, rg, rd, mk, trow, grow, dep, hT, tq, tt, ga, ca, f, gf, hP2⟩⟩ (by omega) (by omega) d_Fam_type_68
        · subst hv9
          have en9 : n9 = (((LA.length : Nat) : Int)).toNat := by rw [hn9, if_pos hb9]
          have hx3 := hE _ _ hx2
          have hmk3 := hE _ _ hmk2
          show mv_G X Q (kk V) 5 60 [(3, .ref ((ga (g).toNat))), (0, .ref x), (1, .int (iI (g))), (2, .int (iI (so)))] [.ref p] M1 (0 + 5) (0 + (4 * n9 + 4))
          refine mv_astoreR (lv' := [(4, .ref p), (3, .ref ((ga (g).toNat))), (0, .ref x), (1, .int (iI (g))), (2, .int (iI (so)))]) B d_Fam_type_60 (by decide) rfl ?_
          refine mv_aloadR B d_Fam_type_62 0 rfl ?_
          refine mv_ifnonnullR (tgt := 69) B d_Fam_type_64 (by decide) ?_
          refine mv_aloadR_n B d_Fam_type_69 rfl 2 rfl ?_
          refine gf_Fam_35 B hx3 rfl d_Fam_type_70 ?_
          refine mv_aloadR B d_Fam_type_73 0 rfl ?_
          refine ca_Fam_144 (mc := 0) (ms := 0) (As := [.ref p]) (rest := []) B (m_Maker_begin (a := some p) hmk3) rfl rfl ⟨Nat.le_of_ble_eq_true rfl, Nat.le_of_ble_eq_true rfl⟩ hmk3 rfl rfl (Nat.le_of_ble_eq_true rfl) d_Fam_type_75 ⟨by omega, by omega⟩ (mv_x ?_)
          show mv_G X Q (kk V) 5 78 [(4, .ref p), (3, .ref ((ga (g).toNat))), (0, .ref x), (1, .int (iI (g))), (2, .int (iI (so)))] [] (mv_up M1 mk (mkC rd (some p) 0 srA paA arA alA2 ppA)) (0 + 5) (0 + (4 * n9 + 4))
          rw [mX_1 (hE _ _ hrd2) (hE _ _ hdp2) hTC]
          obtain ⟨W3, hW3⟩ : ∃ z : mv_M, z = mX V M1 mk rd dep (some p) q (n9, fun _ => 0, fun _ => 0, fun _ => 0, va_up (fun _ => 0) 0 1) [] (dC dep tmA alA foA apA) δA srA paA arA alA2 ppA := ⟨_, rfl⟩
          rw [← hW3]
          have h09 : ((n9, fun _ => 0, fun _ => 0, fun _ => 0, va_up (fun _ => 0) 0 1) : Tm).1 ≤ 1000 := hn9b
          obtain ⟨hHB, hOA⟩ := HB_1 hP2 hE hL hTC h09
          have hP3 : ClsC V W3 x sh rg rd mk trow grow dep hT tq tt ga ca f gf S := by rw [hW3]; exact Cls_o1 hP2 hE hL hTC h09 hδA
          obtain ⟨⟨hx3b, hsh3b, htr3b, -, -, -, -, -⟩, hTm3b, hGl3b, -⟩ := id hP3
          have hmk3b : W3 mk = some (mkC rd (some p) 0 srA paA arA alA2 ppA) := by rw [hW3]; exact mW_mk
          show mv_G X Q (kk V) 5 78 [(4, .ref p), (3, .ref ((ga (g).toNat))), (0, .ref x), (1, .int (iI (g))), (2, .int (iI (so)))] [] W3 (0 + 5) (0 + (4 * n9 + 4))
          refine mv_aloadR_n B d_Fam_type_78 rfl 2 rfl ?_
          refine gf_Fam_35 B hx3b rfl d_Fam_type_79 ?_
          refine mv_aloadR_n B d_Fam_type_82 rfl 1 rfl ?_
          refine mv_iload_n B d_Fam_type_83 rfl 4 rfl ?_
          have hm2 := mC_recType (l := X.2.1) (Cls_ext hP2 hE) hJ hWN (tg := some p) (q := q) (τ := (n9, fun _ => 0, fun _ => 0, fun _ => 0, va_up (fun _ => 0) 0 1)) h09 hHB hOA hδA (tm := tmA) (al0 := alA) (fo0 := foA) (ap0 := apA) (src := srA) (P := paA) (ar := arA) (al := alA2) (pp := ppA) (so := so)
          rw [← hW3] at hm2
          refine ca_Fam_162 (mc := 0) (ms := 0) (rm' := rM 5 0 0 170) (As := [.ref ((ga (g).toNat)), .int (iI (so))]) (rest := []) B hm2 rfl rfl ⟨Nat.le_of_ble_eq_true rfl, Nat.le_of_ble_eq_true rfl⟩ hmk3b rfl rfl (Nat.le_of_ble_eq_true rfl) d_Fam_type_84 ⟨by omega, by omega⟩ (fun v1 W4 ep => ?_)
          obtain ⟨e1, tmB, alB, foB, apB, arB, alB2, ppB, δB, LB, srB, paB, hδB, hW4, -, hLB⟩ := ep
          subst e1
          replace hLB := hLB (by simp)
          subst hLB
          obtain ⟨τ1, hτ1⟩ : ∃ z : Tm, z = wrL (n9, fun _ => 0, fun _ => 0, fun _ => 0, va_up (fun _ => 0) 0 1) 0 (wL S g.toNat so) := ⟨_, rfl⟩
          replace hW4 : W4 = mW V M1 mk rd dep (some p) q τ1 (dC dep tmB alB foB apB) δB (mkC rd (some p) (((wL S g.toNat so).length : Nat) : Int) srB paB arB alB2 ppB) := by rw [hW4, hτ1]
          obtain ⟨hO1, hF1, hO2, hS2⟩ := mk_T hLc hLo (by omega) (show n9 = (wL S g.toNat so).length by omega) hτ1
          have hC1 : TmC V W4 p q τ1 := by rw [hW4]; exact mW_tm hHB rfl
          have hP4 : ClsC V W4 x sh rg rd mk trow grow dep hT tq tt ga ca f gf S := by rw [hW4]; exact Cls_o1 hP2 hE hL hTC h09 hδB
          obtain ⟨⟨hx4, hsh4, htr4, -, -, -, -, -⟩, hTm4, hGl4, -⟩ := id hP4
          show mv_G X Q (kk V) 5 87 [(4, .ref p), (3, .ref ((ga (g).toNat))), (0, .ref x), (1, .int (iI (g))), (2, .int (iI (so)))] [] W4 (0 + 5) (0 + (4 * n9 + 4))
          refine mv_aloadR B d_Fam_type_87 0 rfl ?_
          refine ca_Fam_155 (mc := 0) (ms := 0) (As := []) (rest := []) B (m_Term_countNodes hC1 hO1 hF1) rfl rfl ⟨Nat.le_of_ble_eq_true rfl, Nat.le_of_ble_eq_true rfl⟩ hC1.1 rfl rfl (Nat.le_of_ble_eq_true rfl) d_Fam_type_89 ⟨by omega, by omega⟩ (mv_x ?_)
          show mv_G X Q (kk V) 5 92 [(4, .ref p), (3, .ref ((ga (g).toNat))), (0, .ref x), (1, .int (iI (g))), (2, .int (iI (so)))] [] (mv_up W4 q.2.2.2 (iA V τ1.1 (dnF τ1.1 (lnS (wL S g.toNat so)) τ1.2.2.2.2 τ1.1))) (0 + 5) (0 + (4 * n9 + 4))
          rw [wrTm_d hC1]
          obtain ⟨τ2, hτ2⟩ : ∃ z : Tm, z = (τ1.1, τ1.2.1, τ1.2.2.1, τ1.2.2.2.1, dnF τ1.1 (lnS (wL S g.toNat so)) τ1.2.2.2.2 τ1.1) := ⟨_, rfl⟩
          rw [← hτ2]
          rw [← hτ2] at hO2 hS2
          rw [show wrTm V W4 q τ2 = mW V M1 mk rd dep (some p) q τ2 (dC dep tmB alB foB apB) δB (mkC rd (some p) (((wL S g.toNat so).length : Nat) : Int) srB paB arB alB2 ppB) from by rw [hW4, mW_wr hHB rfl]]
          obtain ⟨W5, hW5⟩ : ∃ z : mv_M, z = mW V M1 mk rd dep (some p) q τ2 (dC dep tmB alB foB apB) δB (mkC rd (some p) (((wL S g.toNat so).length : Nat) : Int) srB paB arB alB2 ppB) := ⟨_, rfl⟩
          rw [← hW5]
          have hC5 : TmC V W5 p q τ2 := by rw [hW5]; exact mW_tm hHB rfl
          have hP5 : ClsC V W5 x sh rg rd mk trow grow dep hT tq tt ga ca f gf S := by rw [hW5]; exact Cls_o1 hP2 hE hL hTC h09 hδB
          obtain ⟨⟨hx5, hsh5, htr5, -, -, -, -, -⟩, hTm5, hGl5, -⟩ := id hP5
          show mv_G X Q (kk V) 5 92 [(4, .ref p), (3, .ref ((ga (g).toNat))), (0, .ref x), (1, .int (iI (g))), (2, .int (iI (so)))] [] W5 (0 + 5) (0 + (4 * n9 + 4))
          refine mv_aloadR_n B d_Fam_type_92 rfl 2 rfl ?_
          refine gf_Fam_13 B hx5 rfl d_Fam_type_93 ?_
          refine mv_aloadR B d_Fam_type_96 0 rfl ?_
          refine ca_Fam_53 (mc := 0) (ms := 0) (rm' := rM 1 0 0 20) (As := [.ref p]) (rest := []) B (m_Shelf_keep hsh5 htr5 (by omega) hC5.at hO2 (by omega)) rfl rfl ⟨Nat.le_of_ble_eq_true rfl, Nat.le_of_ble_eq_true rfl⟩ hsh5 rfl rfl (Nat.le_of_ble_eq_true rfl) d_Fam_type_98 ⟨by omega, by omega⟩ (fun v1 M9 ep => ?_)
          obtain ⟨e1, e2⟩ := ep
          subst e1
          show mv_G X Q (kk V) 5 101 [(4, .ref p), (3, .ref ((ga (g).toNat))), (0, .ref x), (1, .int (iI (g))), (2, .int (iI (so)))] [.int (iI ((S.1 : Nat) : Int))] M9 (0 + 5) (0 + (4 * n9 + 4))
          rw [hQ]
          have hok : okT S (wL S g.toNat so) := by
            show ¬ (S.1 = 1500 ∨ 1000 < (wL S g.toNat so).length ∨ 30000 < bs S.2.1 S.1 + (wL S g.toNat so).length)
            omega
          refine mv_iret B ⟨?_, ?_⟩ (by omega) (by omega) d_Fam_type_101
          · unfold aTy aT; rw [if_pos hG9, if_pos hok]
          · unfold nTy nT; rw [if_pos hG9, if_pos hok]
            rw [e2, hW5]
            exact Cls_made hP2 hJ hE hL hTC h09 hδB hO2 hS2
      · have hnn : ¬ (0 ≤ so ∧ so ≤ 100) := by
          intro q
          rw [if_pos q] at c4
          omega
        have hnW : ¬ (okW S g ∧ 0 ≤ so ∧ so ≤ 100) := fun z => hnn z.2
        refine mv_iconst (z := -1) B d_Fam_type_27 rfl ?_
        rw [hQ]
        have hnG : ¬ (okW S g ∧ 0 ≤ so ∧ so ≤ 100) := by first | exact hnW | exact fun z => hnW z.1
        exact mv_iret B ⟨by unfold aTy; rw [if_neg hnG], by unfold nTy; rw [if_neg hnG]; exact ⟨sh, rg, rd, mk, trow, grow, dep, hT, tq, tt, ga, ca, f, gf, hP⟩⟩ (by omega) (by omega) d_Fam_type_28
set_option maxRecDepth 100000 in
set_option maxHeartbeats 4000000 in
theorem m_Fam_brings {l : Launch} {V : mv_V} {M : mv_M} {x sh rg rd mk trow grow dep : Nat} {hT : Nat → Nat} {tq : Nat → Q4} {tt : Nat → Tm} {ga ca : Nat → Nat} {f gf : Nat → Option Nat} {S : SS} (hP : ClsC V M x sh rg rd mk trow grow dep hT tq tt ga ca f gf S) (hJ : Jv S) {g k : Int} (rg9 : R32 g) (rk9 : R32 k) : Met l y_Fam_brings ws_Fam_brings (rM 6 5 4004 220) (mv_Pre (kk V) [.ref x, .int (iI (g)), .int (iI (k))] M) (mv_Q (kk V) (fun z0 M' => z0 = some (.int (iI (aBr S g k))) ∧ ClsP V M' x (nBr S g k))) 5 4004 V.2.2.2.2 := by
  refine mv_Met (by decide) rfl (Nat.le_of_ble_eq_true rfl) (fun X hX B => ?_)
  subst hX
  replace B : mv_B X (kk V) c_Fam_brings ws_Fam_brings "FamilyRules" 5 (Option.some Jvm.ClassFile.FieldType.int) (rM 6 5 4004 220) "brings" := B
  obtain ⟨Q, hQ⟩ : ∃ Q, Q = mv_E X (kk V) (fun z0 M' => z0 = some (.int (iI (aBr S g k))) ∧ ClsP V M' x (nBr S g k)) 5 4004 := ⟨_, rfl⟩
  rw [← hQ]
  show mv_G X Q (kk V) 5 0 [(0, .ref x), (1, .int (iI (g))), (2, .int (iI (k)))] [] M 0 0
  have hrc : (rM 6 5 4004 220).cells = 5 := rfl
  have hrs : (rM 6 5 4004 220).slots = 4004 := rfl
  obtain ⟨⟨hx, hsh, htr, hrg, hgr, ⟨tm0, al0, fo0, ap0, hrd⟩, ⟨δ, hdp, hδ⟩, ⟨tg0, pl0, src0, P0, ar0, al1, pp0, hmk⟩⟩, hTm, hGl, hIn⟩ := id hP
  have hI := hJ.1
  have hb1 : S.1 ≤ 1500 := hI.1
  have hb2 : S.2.2.1 ≤ 100 := hI.2.1
  have hb3 : bs S.2.1 S.1 ≤ 30000 := hI.2.2.1
  refine mv_aloadR_n B d_Fam_brings_0 rfl 0 rfl ?_
  refine gf_Fam_22 B hx rfl d_Fam_brings_1 ?_
  refine mv_iload_n B d_Fam_brings_4 rfl 1 rfl ?_
  refine ca_Fam_91 (mc := 0) (ms := 0) (As := [.int (iI (g))]) (rest := []) B (m_Register_findConstructor hrg hgr (by omega) (ga := ga) (nu := fun j => ((j : Nat) : Int)) (ro := fun j => (S.2.2.2 j).1) (pa := fun j => (((S.2.2.2 j).2.2.1 : Nat) : Int)) (ix := fun j => (((S.2.2.2 j).2.2.2.1 : Nat) : Int)) (ra := fun j => (((S.2.2.2 j).2.2.2.2.1 : Nat) : Int)) (fa := faO S ga) (co := coO S ca) (tl := tdO S hT) (ag := agO S) (rg2 := fun j => (((S.2.2.2 j).2.2.2.2.2.2.2 : Nat) : Int)) (fun j hj => ⟨(hGl j (by omega)).1, (hGl j (by omega)).2.1, role_sm hI (by omega)⟩) (i := g) (by omega)) rfl rfl ⟨Nat.le_of_ble_eq_true rfl, Nat.le_of_ble_eq_true rfl⟩ hrg rfl rfl (Nat.le_of_ble_eq_true rfl) d_Fam_brings_5 ⟨by omega, by omega⟩ (mv_x ?_)
  show mv_G X Q (kk V) 5 8 [(0, .ref x), (1, .int (iI (g))), (2, .int (iI (k)))] [va_rf (if 0 ≤ g ∧ g < ((S.2.2.1 : Nat) : Int) ∧ (S.2.2.2 (g).toNat).1 = 4 then some (ga (g).toNat) else none)] M 0 0
  refine mv_astore_n (lv' := [(3, va_rf (if 0 ≤ g ∧ g < ((S.2.2.1 : Nat) : Int) ∧ (S.2.2.2 (g).toNat).1 = 4 then some (ga (g).toNat) else none)), (0, .ref x), (1, .int (iI (g))), (2, .int (iI (k)))]) B d_Fam_brings_8 rfl (by decide) rfl ?_
  refine mv_aload_n B d_Fam_brings_9 rfl 0 rfl ?_
  refine mv_ifnull (tgt := 32) B d_Fam_brings_10 (by decide) (fun c1 => ?_) (fun a2 c1 => ?_)
  · have hng : ¬ (0 ≤ g ∧ g < ((S.2.2.1 : Nat) : Int) ∧ (S.2.2.2 (g).toNat).1 = 4) := by
      intro q
      rw [if_pos q] at c1
      cases c1
    refine mv_iconst (z := -1) B d_Fam_brings_32 rfl ?_
    rw [hQ]
    have hnG : ¬ (okR S g k) := by intro z; obtain ⟨w1, w2, w3, w4, w5⟩ := z; first | omega | exact hng ⟨w1.1, w1.2, w2⟩ | (rw [htn] at w3; exact absurd w3 (by simp))
    exact mv_iret B ⟨by unfold aBr; rw [if_neg hnG], by unfold nBr; rw [if_neg hnG]; exact ⟨sh, rg, rd, mk, trow, grow, dep, hT, tq, tt, ga, ca, f, gf, hP⟩⟩ (by omega) (by omega) d_Fam_brings_33
  · have hig : 0 ≤ g ∧ g < ((S.2.2.1 : Nat) : Int) ∧ (S.2.2.2 (g).toNat).1 = 4 := by
      apply Classical.byContradiction
      intro q
      rw [if_neg q] at c1
      cases c1
    have hgg := hGl (g).toNat (by omega)
    rw [if_pos hig]
    show mv_G X Q (kk V) 5 13 [(3, .ref ((ga (g).toNat))), (0, .ref x), (1, .int (iI (g))), (2, .int (iI (k)))] [] M 0 0
    refine mv_aloadR_n B d_Fam_brings_13 rfl 0 rfl ?_
    refine gf_Fam_95 B hgg.2.1 rfl d_Fam_brings_14 ?_
    refine mv_ifnull (tgt := 32) B d_Fam_brings_17 (by decide) (fun c3 => ?_) (fun a4 c3 => ?_)
    · have htn : (S.2.2.2 g.toNat).2.2.2.2.2.1 = none := td_n.mp c3
      refine mv_iconst (z := -1) B d_Fam_brings_32 rfl ?_
      rw [hQ]
      have hnG : ¬ (okR S g k) := by intro z; obtain ⟨w1, w2, w3, w4, w5⟩ := z; first | omega | exact hng ⟨w1.1, w1.2, w2⟩ | (rw [htn] at w3; exact absurd w3 (by simp))
      exact mv_iret B ⟨by unfold aBr; rw [if_neg hnG], by unfold nBr; rw [if_neg hnG]; exact ⟨sh, rg, rd, mk, trow, grow, dep, hT, tq, tt, ga, ca, f, gf, hP⟩⟩ (by omega) (by omega) d_Fam_brings_33
    · have htn : ¬ (S.2.2.2 g.toNat).2.2.2.2.2.1 = none := fun z => by rw [td_n.mpr z] at c3; cases c3
      have hrb := (con_b hI (g := g.toNat) (by omega) hig.2.2).2.2.2.2.2.1
      refine mv_iload_n B d_Fam_brings_20 rfl 3 rfl ?_
      refine mv_if_lt (tgt := 32) B d_Fam_brings_21 (by decide) (by first | omega | (split <;> omega)) (fun c5 => ?_) (fun c5 => ?_)
      · refine mv_iconst (z := -1) B d_Fam_brings_32 rfl ?_
        rw [hQ]
        have hnG : ¬ (okR S g k) := by intro z; obtain ⟨w1, w2, w3, w4, w5⟩ := z; first | omega | exact hng ⟨w1.1, w1.2, w2⟩ | (rw [htn] at w3; exact absurd w3 (by simp))
        exact mv_iret B ⟨by unfold aBr; rw [if_neg hnG], by unfold nBr; rw [if_neg hnG]; exact ⟨sh, rg, rd, mk, trow, grow, dep, hT, tq, tt, ga, ca, f, gf, hP⟩⟩ (by omega) (by omega) d_Fam_brings_33
      · have hrs := rc_sm hI (g := g.toNat) (by omega) hig.2.2 htn
        refine mv_iload_n B d_Fam_brings_24 rfl 3 rfl ?_
        refine mv_aloadR_n B d_Fam_brings_25 rfl 0 rfl ?_
        refine gf_Fam_141 B hgg.2.1 rfl d_Fam_brings_26 ?_
        refine mv_icmp_lt (tgt := 34) B d_Fam_brings_29 (by decide) (by first | omega | (split <;> omega)) (by first | omega | (split <;> omega)) (fun c6 => ?_) (fun c6 => ?_)
        · have hG9 : okR S g k := ⟨⟨hig.1, hig.2.1⟩, hig.2.2, Option.isSome_iff_ne_none.mpr htn, by omega, by omega⟩
          have eg : ((g.toNat : Nat) : Int) = g := by omega
          have ek : ((k.toNat : Nat) : Int) = k := by omega
          have hR2 : okR S ((g.toNat : Nat) : Int) ((k.toNat : Nat) : Int) := by rw [eg, ek]; exact hG9
          refine mv_aloadR_n B d_Fam_brings_34 rfl 1 rfl ?_
          refine gf_Fam_35 B hx rfl d_Fam_brings_35 ?_
          refine mv_null B d_Fam_brings_38 ?_
          refine ca_Fam_144 (mc := 0) (ms := 0) (As := [va_rf (none)]) (rest := []) B (m_Maker_begin (a := none) hmk) rfl rfl ⟨Nat.le_of_ble_eq_true rfl, Nat.le_of_ble_eq_true rfl⟩ hmk rfl rfl (Nat.le_of_ble_eq_true rfl) d_Fam_brings_39 ⟨by omega, by omega⟩ (mv_x ?_)
          show mv_G X Q (kk V) 5 42 [(3, .ref ((ga (g).toNat))), (0, .ref x), (1, .int (iI (g))), (2, .int (iI (k)))] [] (mv_up M mk (mkC rd none 0 src0 P0 ar0 al1 pp0)) 0 0
          rw [mX_0 hrd hdp (q := q00) (τ := t00)]
          obtain ⟨W1, hW1⟩ : ∃ z : mv_M, z = mX V M mk rd dep none q00 t00 [] (dC dep tm0 al0 fo0 ap0) δ src0 P0 ar0 al1 pp0 := ⟨_, rfl⟩
          rw [← hW1]
          have hP1 : ClsC V W1 x sh rg rd mk trow grow dep hT tq tt ga ca f gf S := by rw [hW1]; exact Cls_m0 hP hδ
          obtain ⟨⟨hx1, hsh1, htr1, -, -, -, -, -⟩, hTm1, hGl1, -⟩ := id hP1
          have hmk1 : W1 mk = some (mkC rd none 0 src0 P0 ar0 al1 pp0) := by rw [hW1]; exact mW_mk
          show mv_G X Q (kk V) 5 42 [(3, .ref ((ga (g).toNat))), (0, .ref x), (1, .int (iI (g))), (2, .int (iI (k)))] [] W1 (0) (0)
          refine mv_aloadR_n B d_Fam_brings_42 rfl 1 rfl ?_
          refine gf_Fam_35 B hx1 rfl d_Fam_brings_43 ?_
          refine mv_aloadR_n B d_Fam_brings_46 rfl 0 rfl ?_
          refine mv_iload_n B d_Fam_brings_47 rfl 3 rfl ?_
          have hm1 := mC_brings (l := X.2.1) hP hJ hR2 (tg := none) (q := q00) (τ := t00) (by show 0 ≤ 1000; omega) (HB_0 hP) (Off_0 hP) hδ (tm := tm0) (al0 := al0) (fo0 := fo0) (ap0 := ap0) (src := src0) (P := P0) (ar := ar0) (al := al1) (pp := pp0)
          rw [ek] at hm1
          rw [← hW1] at hm1
          refine ca_Fam_148 (mc := 0) (ms := 0) (rm' := rM 4 0 0 130) (As := [.ref ((ga (g).toNat)), .int (iI (k))]) (rest := []) B hm1 rfl rfl ⟨Nat.le_of_ble_eq_true rfl, Nat.le_of_ble_eq_true rfl⟩ hmk1 rfl rfl (Nat.le_of_ble_eq_true rfl) d_Fam_brings_48 ⟨by omega, by omega⟩ (fun v1 W2 ep => ?_)
          obtain ⟨e1, tmA, alA, foA, apA, arA, alA2, ppA, δA, LA, srA, paA, hδA, hW2, hLA, -⟩ := ep
          subst e1
          have hP2 : ClsC V W2 x sh rg rd mk trow grow dep hT tq tt ga ca f gf S := by rw [hW2]; exact Cls_m0 hP hδA
          obtain ⟨⟨hx2, hsh2, htr2, -, -, -, -, -⟩, hTm2, hGl2, -⟩ := id hP2
          have hmk2 : W2 mk = some (mkC rd none ((LA.length : Nat) : Int) srA paA arA alA2 ppA) := by rw [hW2]; exact mW_mk
          have hrd2 : W2 rd = some (dC dep tmA alA foA apA) := by rw [hW2]; exact mW_rd (HB_0 hP)
          have hdp2 : W2 dep = some (iA V 1000 δA) := by rw [hW2]; exact mW_dep (HB_0 hP)
          obtain ⟨hLc, hLo, hLl⟩ := bL_g hJ hR2
          show mv_G X Q (kk V) 5 51 [(3, .ref ((ga (g).toNat))), (0, .ref x), (1, .int (iI (g))), (2, .int (iI (k)))] [] W2 (0) (0)
          refine mv_aloadR_n B d_Fam_brings_51 rfl 1 rfl ?_
          refine gf_Fam_13 B hx2 rfl d_Fam_brings_52 ?_
          refine mv_aloadR_n B d_Fam_brings_55 rfl 1 rfl ?_
          refine gf_Fam_35 B hx2 rfl d_Fam_brings_56 ?_
          refine gf_Fam_152 B hmk2 rfl d_Fam_brings_59 ?_
          obtain ⟨n9, hn9⟩ : ∃ n : Nat, n = (if 1 ≤ (((LA.length : Nat) : Int)) ∧ (((LA.length : Nat) : Int)) ≤ 1000 ∧ (((LA.length : Nat) : Int)) ≤ 30000 - ((bs S.2.1 S.1 : Nat) : Int) ∧ ((S.1 : Nat) : Int) < 1500 then (((LA.length : Nat) : Int)).toNat else 0) := ⟨_, rfl⟩
          have hn9b : n9 ≤ 1000 := by rw [hn9]; split <;> omega
          refine ca_Fam_43 (mc := 5) (ms := 4 * n9 + 4) (rm' := rM 2 5 (4 * n9 + 4) 62) (As := [.int (iI (((LA.length : Nat) : Int)))]) (rest := []) B (m_Shelf_blank hsh2 (by omega) (by omega) (i := (((LA.length : Nat) : Int))) (by omega) hn9) rfl rfl ⟨Nat.le_of_ble_eq_true rfl, Nat.le_of_ble_eq_true rfl⟩ hsh2 rfl rfl (Nat.le_of_ble_eq_true rfl) d_Fam_brings_62 ⟨by omega, by omega⟩ (fun v1 M1 ep => ?_)
          rcases ep with ⟨hb9, hv9, hM9⟩ | ⟨hb9, p, q, hv9, hTC, hE, hL⟩
          · subst hv9
            subst hM9
            show mv_G X Q (kk V) 5 65 [(3, .ref ((ga (g).toNat))), (0, .ref x), (1, .int (iI (g))), (2, .int (iI (k)))] [va_rf (none)] M1 (0 + 5) (0 + (4 * n9 + 4))
            refine mv_astore (lv' := [(4, va_rf (none)), (3, .ref ((ga (g).toNat))), (0, .ref x), (1, .int (iI (g))), (2, .int (iI (k)))]) B d_Fam_brings_65 (by decide) rfl ?_
            refine mv_aload B d_Fam_brings_67 0 rfl ?_
            refine mv_ifnonnull (tgt := 74) B d_Fam_brings_69 (by decide) (fun a8 c7 => by cases c7) (fun c7 => ?_)
            refine mv_iconst (z := -1) B d_Fam_brings_72 rfl ?_
            rw [hQ]
            have hok : ¬ okT S (bL S g.toNat k.toNat) := by
              show ¬ ¬ (S.1 = 1500 ∨ 1000 < (bL S g.toNat k.toNat).length ∨ 30000 < bs S.2.1 S.1 + (bL S g.toNat k.toNat).length)
              have := Cpl_1 hLc
              omega
            exact mv_iret B ⟨by unfold aBr aT; rw [if_pos hG9, if_neg hok], by unfold nBr nT; rw [if_pos hG9, if_neg hok]; exact ⟨sh, rg, rd, mk, trow, grow, dep, hT, tq, tt, ga, ca, f, gf, hP2⟩⟩ (by omega) (by omega) d_Fam_brings_73
          · subst hv9
            have en9 : n9 = (((LA.length : Nat) : Int)).toNat := by rw [hn9, if_pos hb9]
            have hx3 := hE _ _ hx2
            have hmk3 := hE _ _ hmk2
            show mv_G X Q (kk V) 5 65 [(3, .ref ((ga (g).toNat))), (0, .ref x), (1, .int (iI (g))), (2, .int (iI (k)))] [.ref p] M1 (0 + 5) (0 + (4 * n9 + 4))
            refine mv_astoreR (lv' := [(4, .ref p), (3, .ref ((ga (g).toNat))), (0, .ref x), (1, .int (iI (g))), (2, .int (iI (k)))]) B d_Fam_brings_65 (by decide) rfl ?_
            refine mv_aloadR B d_Fam_brings_67 0 rfl ?_
            refine mv_ifnonnullR (tgt := 74) B d_Fam_brings_69 (by decide) ?_
            refine mv_aloadR_n B d_Fam_brings_74 rfl 2 rfl ?_
            refine gf_Fam_35 B hx3 rfl d_Fam_brings_75 ?_
            refine mv_aloadR B d_Fam_brings_78 0 rfl ?_
            refine ca_Fam_144 (mc := 0) (ms := 0) (As := [.ref p]) (rest := []) B (m_Maker_begin (a := some p) hmk3) rfl rfl ⟨Nat.le_of_ble_eq_true rfl, Nat.le_of_ble_eq_true rfl⟩ hmk3 rfl rfl (Nat.le_of_ble_eq_true rfl) d_Fam_brings_80 ⟨by omega, by omega⟩ (mv_x ?_)
            show mv_G X Q (kk V) 5 83 [(4, .ref p), (3, .ref ((ga (g).toNat))), (0, .ref x), (1, .int (iI (g))), (2, .int (iI (k)))] [] (mv_up M1 mk (mkC rd (some p) 0 srA paA arA alA2 ppA)) (0 + 5) (0 + (4 * n9 + 4))
            rw [mX_1 (hE _ _ hrd2) (hE _ _ hdp2) hTC]
            obtain ⟨W3, hW3⟩ : ∃ z : mv_M, z = mX V M1 mk rd dep (some p) q (n9, fun _ => 0, fun _ => 0, fun _ => 0, va_up (fun _ => 0) 0 1) [] (dC dep tmA alA foA apA) δA srA paA arA alA2 ppA := ⟨_, rfl⟩
            rw [← hW3]
            have h09 : ((n9, fun _ => 0, fun _ => 0, fun _ => 0, va_up (fun _ => 0) 0 1) : Tm).1 ≤ 1000 := hn9b
            obtain ⟨hHB, hOA⟩ := HB_1 hP2 hE hL hTC h09
            have hP3 : ClsC V W3 x sh rg rd mk trow grow dep hT tq tt ga ca f gf S := by rw [hW3]; exact Cls_o1 hP2 hE hL hTC h09 hδA
            obtain ⟨⟨hx3b, hsh3b, htr3b, -, -, -, -, -⟩, hTm3b, hGl3b, -⟩ := id hP3
            have hmk3b : W3 mk = some (mkC rd (some p) 0 srA paA arA alA2 ppA) := by rw [hW3]; exact mW_mk
            show mv_G X Q (kk V) 5 83 [(4, .ref p), (3, .ref ((ga (g).toNat))), (0, .ref x), (1, .int (iI (g))), (2, .int (iI (k)))] [] W3 (0 + 5) (0 + (4 * n9 + 4))
            refine mv_aloadR_n B d_Fam_brings_83 rfl 2 rfl ?_
            refine gf_Fam_35 B hx3b rfl d_Fam_brings_84 ?_
            refine mv_aloadR_n B d_Fam_brings_87 rfl 1 rfl ?_
            refine mv_iload_n B d_Fam_brings_88 rfl 4 rfl ?_
            have hm2 := mC_brings (l := X.2.1) (Cls_ext hP2 hE) hJ hR2 (tg := some p) (q := q) (τ := (n9, fun _ => 0, fun _ => 0, fun _ => 0, va_up (fun _ => 0) 0 1)) h09 hHB hOA hδA (tm := tmA) (al0 := alA) (fo0 := foA) (ap0 := apA) (src := srA) (P := paA) (ar := arA) (al := alA2) (pp := ppA)
            rw [ek] at hm2
            rw [← hW3] at hm2
            refine ca_Fam_148 (mc := 0) (ms := 0) (rm' := rM 4 0 0 130) (As := [.ref ((ga (g).toNat)), .int (iI (k))]) (rest := []) B hm2 rfl rfl ⟨Nat.le_of_ble_eq_true rfl, Nat.le_of_ble_eq_true rfl⟩ hmk3b rfl rfl (Nat.le_of_ble_eq_true rfl) d_Fam_brings_89 ⟨by omega, by omega⟩ (fun v1 W4 ep => ?_)
            obtain ⟨e1, tmB, alB, foB, apB, arB, alB2, ppB, δB, LB, srB, paB, hδB, hW4, -, hLB⟩ := ep
            subst e1
            replace hLB := hLB (by simp)
            subst hLB
            obtain ⟨τ1, hτ1⟩ : ∃ z : Tm, z = wrL (n9, fun _ => 0, fun _ => 0, fun _ => 0, va_up (fun _ => 0) 0 1) 0 (bL S g.toNat k.toNat) := ⟨_, rfl⟩
            replace hW4 : W4 = mW V M1 mk rd dep (some p) q τ1 (dC dep tmB alB foB apB) δB (mkC rd (some p) (((bL S g.toNat k.toNat).length : Nat) : Int) srB paB arB alB2 ppB) := by rw [hW4, hτ1]
            obtain ⟨hO1, hF1, hO2, hS2⟩ := mk_T hLc hLo (by omega) (show n9 = (bL S g.toNat k.toNat).length by omega) hτ1
            have hC1 : TmC V W4 p q τ1 := by rw [hW4]; exact mW_tm hHB rfl
            have hP4 : ClsC V W4 x sh rg rd mk trow grow dep hT tq tt ga ca f gf S := by rw [hW4]; exact Cls_o1 hP2 hE hL hTC h09 hδB
            obtain ⟨⟨hx4, hsh4, htr4, -, -, -, -, -⟩, hTm4, hGl4, -⟩ := id hP4
            show mv_G X Q (kk V) 5 92 [(4, .ref p), (3, .ref ((ga (g).toNat))), (0, .ref x), (1, .int (iI (g))), (2, .int (iI (k)))] [] W4 (0 + 5) (0 + (4 * n9 + 4))
            refine mv_aloadR B d_Fam_brings_92 0 rfl ?_
            refine ca_Fam_155 (mc := 0) (ms := 0) (As := []) (rest := []) B (m_Term_countNodes hC1 hO1 hF1) rfl rfl ⟨Nat.le_of_ble_eq_true rfl, Nat.le_of_ble_eq_true rfl⟩ hC1.1 rfl rfl (Nat.le_of_ble_eq_true rfl) d_Fam_brings_94 ⟨by omega, by omega⟩ (mv_x ?_)
            show mv_G X Q (kk V) 5 97 [(4, .ref p), (3, .ref ((ga (g).toNat))), (0, .ref x), (1, .int (iI (g))), (2, .int (iI (k)))] [] (mv_up W4 q.2.2.2 (iA V τ1.1 (dnF τ1.1 (lnS (bL S g.toNat k.toNat)) τ1.2.2.2.2 τ1.1))) (0 + 5) (0 + (4 * n9 + 4))
            rw [wrTm_d hC1]
            obtain ⟨τ2, hτ2⟩ : ∃ z : Tm, z = (τ1.1, τ1.2.1, τ1.2.2.1, τ1.2.2.2.1, dnF τ1.1 (lnS (bL S g.toNat k.toNat)) τ1.2.2.2.2 τ1.1) := ⟨_, rfl⟩
            rw [← hτ2]
            rw [← hτ2] at hO2 hS2
            rw [show wrTm V W4 q τ2 = mW V M1 mk rd dep (some p) q τ2 (dC dep tmB alB foB apB) δB (mkC rd (some p) (((bL S g.toNat k.toNat).length : Nat) : Int) srB paB arB alB2 ppB) from by rw [hW4, mW_wr hHB rfl]]
            obtain ⟨W5, hW5⟩ : ∃ z : mv_M, z = mW V M1 mk rd dep (some p) q τ2 (dC dep tmB alB foB apB) δB (mkC rd (some p) (((bL S g.toNat k.toNat).length : Nat) : Int) srB paB arB alB2 ppB) := ⟨_, rfl⟩
            rw [← hW5]
            have hC5 : TmC V W5 p q τ2 := by rw [hW5]; exact mW_tm hHB rfl
            have hP5 : ClsC V W5 x sh rg rd mk trow grow dep hT tq tt ga ca f gf S := by rw [hW5]; exact Cls_o1 hP2 hE hL hTC h09 hδB
            obtain ⟨⟨hx5, hsh5, htr5, -, -, -, -, -⟩, hTm5, hGl5, -⟩ := id hP5
            show mv_G X Q (kk V) 5 97 [(4, .ref p), (3, .ref ((ga (g).toNat))), (0, .ref x), (1, .int (iI (g))), (2, .int (iI (k)))] [] W5 (0 + 5) (0 + (4 * n9 + 4))
            refine mv_aloadR_n B d_Fam_brings_97 rfl 2 rfl ?_
            refine gf_Fam_13 B hx5 rfl d_Fam_brings_98 ?_
            refine mv_aloadR B d_Fam_brings_101 0 rfl ?_
            refine ca_Fam_53 (mc := 0) (ms := 0) (rm' := rM 1 0 0 20) (As := [.ref p]) (rest := []) B (m_Shelf_keep hsh5 htr5 (by omega) hC5.at hO2 (by omega)) rfl rfl ⟨Nat.le_of_ble_eq_true rfl, Nat.le_of_ble_eq_true rfl⟩ hsh5 rfl rfl (Nat.le_of_ble_eq_true rfl) d_Fam_brings_103 ⟨by omega, by omega⟩ (fun v1 M9 ep => ?_)
            obtain ⟨e1, e2⟩ := ep
            subst e1
            show mv_G X Q (kk V) 5 106 [(4, .ref p), (3, .ref ((ga (g).toNat))), (0, .ref x), (1, .int (iI (g))), (2, .int (iI (k)))] [.int (iI ((S.1 : Nat) : Int))] M9 (0 + 5) (0 + (4 * n9 + 4))
            rw [hQ]
            have hok : okT S (bL S g.toNat k.toNat) := by
              show ¬ (S.1 = 1500 ∨ 1000 < (bL S g.toNat k.toNat).length ∨ 30000 < bs S.2.1 S.1 + (bL S g.toNat k.toNat).length)
              omega
            refine mv_iret B ⟨?_, ?_⟩ (by omega) (by omega) d_Fam_brings_106
            · unfold aBr aT; rw [if_pos hG9, if_pos hok]
            · unfold nBr nT; rw [if_pos hG9, if_pos hok]
              rw [e2, hW5]
              exact Cls_made hP2 hJ hE hL hTC h09 hδB hO2 hS2
        · refine mv_iconst (z := -1) B d_Fam_brings_32 rfl ?_
          rw [hQ]
          have hnG : ¬ (okR S g k) := by intro z; obtain ⟨w1, w2, w3, w4, w5⟩ := z; first | omega | exact hng ⟨w1.1, w1.2, w2⟩ | (rw [htn] at w3; exact absurd w3 (by simp))
          exact mv_iret B ⟨by unfold aBr; rw [if_neg hnG], by unfold nBr; rw [if_neg hnG]; exact ⟨sh, rg, rd, mk, trow, grow, dep, hT, tq, tt, ga, ca, f, gf, hP⟩⟩ (by omega) (by omega) d_Fam_brings_33
