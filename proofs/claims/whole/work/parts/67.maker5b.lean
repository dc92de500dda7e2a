/-! writeRecType, with the reader's cell -/
set_option maxRecDepth 100000 in
set_option maxHeartbeats 4000000 in
theorem m_Maker_writeRecTypeD {l : Launch} {V : mv_V} {M : mv_M} {mk rd dep : Nat} {tg : Option Nat} {q : Q4} {τ : Tm} {XS : List Nd} {tm : Option Nat} {al0 fo0 ap0 : Int} {δ : Nat → Int} {src : Option Nat} {P ar al pp : Int} (hB : HB V M mk rd dep tg q) (hτ : τ.1 ≤ 1000) {t : Tm} {g ca n h : Nat} {nu ro pa ix ar9 rc : Int} {ra : Nat} {fa : Option Nat} {f : Nat → Option Nat} (hS : SrcOk V M dep tg q h t) (hg : M g = some (.inr (2, [.int (iI nu), .int (iI ro), .int (iI pa), .int (iI ix), .int (iI (ra : Nat)), va_rf fa, .ref ca, .ref h, .int (iI ar9), .int (iI rc)]))) (hca : M ca = some (gA V n f)) (hn : ra ≤ n ∧ n ≤ 100) {cc hh arc : Nat → Nat} {nc roc ixc rcc : Nat → Int} {coc : Nat → Option Nat} {tt : Nat → Tm} (hc : ∀ i, i < ra → f i = some (cc i) ∧ M (cc i) = some (.inr (2, [.int (iI (nc i)), .int (iI (roc i)), .int (iI pa), .int (iI (ixc i)), .int (iI (i : Nat)), .ref g, va_rf (coc i), .ref (hh i), .int (iI (arc i : Nat)), .int (iI (rcc i))])) ∧ SrcOk V M dep tg q (hh i) (tt i) ∧ arc i ≤ 1000) (hδ : ∀ z : Int, Sm (dgt (opD tg t δ) z)) (hδ2 : ∀ z : Int, Sm (dgt (opD tg t (dsq tg tt (opD tg t δ) ra)) z)) (hδc : ∀ i, i < ra → ∀ z : Int, Sm (dgt (dsq tg tt (opD tg t δ) (i + 1)) z)) (hl : ∀ i, i < ra → ∀ j, j < arc i → isR (tt i) nu pa ix pa j = true → l0F (tt i) (rPos (tt i) pa j) pa ≤ shF (tt i) (rPos (tt i) pa j) + dAt (tt i) (shF (tt i) (rPos (tt i) pa j))) (hl0 : ∀ i, i < ra → l0F (tt i) 0 pa ≤ shF (tt i) 0 + dAt (tt i) (shF (tt i) 0)) (hbl : ∀ i, i < ra → ∀ j, j ≤ arc i → (bcL (tt i) (dsq tg tt (opD tg t δ) (i + 1)) nu pa ix pa (i : Nat) (arc i) j).length ≤ 100000000) (hcl : ∀ i, i ≤ ra → (csL tg tt (opD tg t δ) nu pa ix nc arc i).length ≤ 100000000) {so : Int} (hpa : 0 ≤ pa ∧ pa ≤ 900) (hix : 0 ≤ ix ∧ ix ≤ 1000) (rnu : Sm nu) (hra : ra ≤ 12) (hX : XS.length ≤ 1000000) : Met l y_Maker_writeRecType ws_Maker_writeRecType (rM 5 0 0 170) (mv_Pre (kk V) [.ref mk, .ref g, .int (iI (so))] (mX V M mk rd dep tg q τ XS (dC dep tm al0 fo0 ap0) δ src P ar al pp)) (mv_Q (kk V) (fun v M' => v = none ∧ ∃ (tm9 : Option Nat) (al9 fo9 ap9 ar' al' pp' : Int), M' = mX V M mk rd dep tg q τ (XS ++ rtL tg t tt (opD tg t δ) (opD tg t (dsq tg tt (opD tg t δ) ra)) nu pa ix nc arc ra so) (dC dep tm9 al9 fo9 ap9) (opD tg t (dsq tg tt (opD tg t δ) ra)) (some h) pa (ar') (al') (pp'))) 0 0 V.2.2.2.2 := by
  refine mv_Met (by decide) rfl (Nat.le_of_ble_eq_true rfl) (fun X hX B => ?_)
  subst hX
  replace B : mv_B X (kk V) c_Maker_writeRecType ws_Maker_writeRecType "FamilyRules$Maker" 7 (Option.none : Option Jvm.ClassFile.FieldType) (rM 5 0 0 170) "writeRecType" := B
  obtain ⟨Q, hQ⟩ : ∃ Q, Q = mv_E X (kk V) (fun v M' => v = none ∧ ∃ (tm9 : Option Nat) (al9 fo9 ap9 ar' al' pp' : Int), M' = mX V M mk rd dep tg q τ (XS ++ rtL tg t tt (opD tg t δ) (opD tg t (dsq tg tt (opD tg t δ) ra)) nu pa ix nc arc ra so) (dC dep tm9 al9 fo9 ap9) (opD tg t (dsq tg tt (opD tg t δ) ra)) (some h) pa (ar') (al') (pp')) 0 0 := ⟨_, rfl⟩
  rw [← hQ]
  show mv_G X Q (kk V) 7 0 [(0, .ref mk), (1, .ref g), (2, .int (iI (so)))] [] (mX V M mk rd dep tg q τ XS (dC dep tm al0 fo0 ap0) δ src P ar al pp) 0 0
  refine mv_aloadR_n B d_Maker_writeRecType_0 rfl 0 rfl ?_
  refine mv_aloadR_n B d_Maker_writeRecType_1 rfl 1 rfl ?_
  refine ca_Maker_29 (mc := 0) (ms := 0) (As := [.ref g]) (rest := []) B (m_Maker_open (fa := fa) (co := some ca) hB hτ hS hg) rfl rfl ⟨Nat.le_of_ble_eq_true rfl, Nat.le_of_ble_eq_true rfl⟩ mW_mk rfl rfl (Nat.le_of_ble_eq_true rfl) d_Maker_writeRecType_2 ⟨by omega, by omega⟩ (mv_x ?_)
  show mv_G X Q (kk V) 7 5 [(0, .ref mk), (1, .ref g), (2, .int (iI (so)))] [.int (iI (1))] (mX V M mk rd dep tg q τ XS (dC dep tm al0 fo0 ap0) (opD tg t δ) (some h) pa ar al pp) 0 0
  refine mv_if_ne (tgt := 9) B d_Maker_writeRecType_5 (by decide) (by omega) (fun c1 => ?_) (fun c1 => ?_)
  · refine mv_aloadR_n B d_Maker_writeRecType_9 rfl 1 rfl ?_
    refine gf_Maker_69 B (mW_o hB hg (by decide) (by decide)) rfl d_Maker_writeRecType_10 ?_
    refine mv_istore_n (lv' := [(3, .int (iI (ix))), (0, .ref mk), (1, .ref g), (2, .int (iI (so)))]) B d_Maker_writeRecType_13 rfl (by decide) rfl ?_
    refine mv_aloadR_n B d_Maker_writeRecType_14 rfl 2 rfl ?_
    refine gf_Maker_72 B (mW_o hB hg (by decide) (by decide)) rfl d_Maker_writeRecType_15 ?_
    refine mv_istore (lv' := [(4, .int (iI ((ra : Nat)))), (3, .int (iI (ix))), (0, .ref mk), (1, .ref g), (2, .int (iI (so)))]) B d_Maker_writeRecType_18 (by decide) rfl ?_
    refine mv_aloadR_n B d_Maker_writeRecType_20 rfl 2 rfl ?_
    refine gf_Maker_33 B mW_mk rfl d_Maker_writeRecType_21 ?_
    refine mv_aloadR_n B d_Maker_writeRecType_24 rfl 2 rfl ?_
    refine gf_Maker_36 B mW_mk rfl d_Maker_writeRecType_25 ?_
    refine ca_Maker_39 (mc := 0) (ms := 0) (As := [.int (iI (pa))]) (rest := []) B (m_Term_behindAlls (hS.at hB) hS.2.1 (n := pa) (by omega)) rfl rfl ⟨Nat.le_of_ble_eq_true rfl, Nat.le_of_ble_eq_true rfl⟩ (hS.obj hB).choose_spec rfl rfl (Nat.le_of_ble_eq_true rfl) d_Maker_writeRecType_28 ⟨by omega, by omega⟩ (mv_x ?_)
    show mv_G X Q (kk V) 7 31 [(4, .int (iI ((ra : Nat)))), (3, .int (iI (ix))), (0, .ref mk), (1, .ref g), (2, .int (iI (so)))] [.int (iI (beh t (Int.toNat (pa))))] (mX V M mk rd dep tg q τ XS (dC dep tm al0 fo0 ap0) (opD tg t δ) (some h) pa ar al pp) 0 0
    refine mv_istore (lv' := [(5, .int (iI (beh t (Int.toNat (pa))))), (4, .int (iI ((ra : Nat)))), (3, .int (iI (ix))), (0, .ref mk), (1, .ref g), (2, .int (iI (so)))]) B d_Maker_writeRecType_31 (by decide) rfl ?_
    refine mv_aloadR_n B d_Maker_writeRecType_33 rfl 3 rfl ?_
    refine mv_iconst (z := 0) B d_Maker_writeRecType_34 rfl ?_
    refine mv_aloadR_n B d_Maker_writeRecType_35 rfl 3 rfl ?_
    refine gf_Maker_36 B mW_mk rfl d_Maker_writeRecType_36 ?_
    refine mv_iconst (z := 0) B d_Maker_writeRecType_39 rfl ?_
    refine ca_Maker_75 (mc := 0) (ms := 0) (As := [.int (iI (0)), .int (iI (pa)), .int (iI (0))]) (rest := []) B (m_Maker_writeAlls hB hτ hS hδ (f := 0) (n := pa) (outer := 0) (by omega) (by omega) (by omega) (by first | omega | (simp only [List.length_append, List.length_cons, List.length_nil, apL_len, vrL_len, cpL_len, glL]; omega))) rfl rfl ⟨Nat.le_of_ble_eq_true rfl, Nat.le_of_ble_eq_true rfl⟩ mW_mk rfl rfl (Nat.le_of_ble_eq_true rfl) d_Maker_writeRecType_40 ⟨by omega, by omega⟩ (fun v1 M9 ep => ?_)
    obtain ⟨e1, y2r, y2l, y2p, e2⟩ := ep
    subst e1
    subst e2
    show mv_G X Q (kk V) 7 43 [(5, .int (iI (beh t (Int.toNat (pa))))), (4, .int (iI ((ra : Nat)))), (3, .int (iI (ix))), (0, .ref mk), (1, .ref g), (2, .int (iI (so)))] [] (mX V M mk rd dep tg q τ (XS ++ alL t (opD tg t δ) pa (0) (0) (Int.toNat (pa))) (dC dep tm al0 fo0 ap0) (opD tg t δ) (some h) pa y2r y2l y2p) 0 0
    have hl3 := alL_len hS.2.1 (opD tg t δ) pa 0 0 (Int.toNat pa)
    refine mv_aloadR_n B d_Maker_writeRecType_43 rfl 3 rfl ?_
    refine mv_bipush (z := 6) B d_Maker_writeRecType_44 (by decide) ?_
    refine mv_bipush (z := 98) B d_Maker_writeRecType_46 (by decide) ?_
    refine mv_iconst (z := 0) B d_Maker_writeRecType_48 rfl ?_
    refine ca_Maker_78 (mc := 0) (ms := 0) (As := [.int (iI (6)), .int (iI (98)), .int (iI (0))]) (rest := []) B (m_Maker_put hB hτ (by first | omega | (simp only [List.length_append, List.length_cons, List.length_nil, apL_len, vrL_len, cpL_len, glL]; omega))) rfl rfl ⟨Nat.le_of_ble_eq_true rfl, Nat.le_of_ble_eq_true rfl⟩ mW_mk rfl rfl (Nat.le_of_ble_eq_true rfl) d_Maker_writeRecType_49 ⟨by omega, by omega⟩ (mv_x ?_)
    show mv_G X Q (kk V) 7 52 [(5, .int (iI (beh t (Int.toNat (pa))))), (4, .int (iI ((ra : Nat)))), (3, .int (iI (ix))), (0, .ref mk), (1, .ref g), (2, .int (iI (so)))] [] (mX V M mk rd dep tg q τ (XS ++ alL t (opD tg t δ) pa (0) (0) (Int.toNat (pa)) ++ [(6, 98, 0)]) (dC dep tm al0 fo0 ap0) (opD tg t δ) (some h) pa y2r y2l y2p) 0 0
    have hp9 := beh_r hS.2.1 pa.toNat
    refine mv_aloadR_n B d_Maker_writeRecType_52 rfl 3 rfl ?_
    refine mv_iload B d_Maker_writeRecType_53 0 rfl ?_
    refine mv_iload_n B d_Maker_writeRecType_55 rfl 2 rfl ?_
    refine mv_iconst (z := 0) B d_Maker_writeRecType_56 rfl ?_
    refine ca_Maker_75 (mc := 0) (ms := 0) (As := [.int (iI (beh t (Int.toNat (pa)))), .int (iI (ix)), .int (iI (0))]) (rest := []) B (m_Maker_writeAlls hB hτ hS hδ (f := beh t (Int.toNat (pa))) (n := ix) (outer := 0) (by omega) (by omega) (by omega) (by first | omega | (simp only [List.length_append, List.length_cons, List.length_nil, apL_len, vrL_len, cpL_len, glL]; omega))) rfl rfl ⟨Nat.le_of_ble_eq_true rfl, Nat.le_of_ble_eq_true rfl⟩ mW_mk rfl rfl (Nat.le_of_ble_eq_true rfl) d_Maker_writeRecType_57 ⟨by omega, by omega⟩ (fun v1 M9 ep => ?_)
    obtain ⟨e1, y3r, y3l, y3p, e2⟩ := ep
    subst e1
    subst e2
    show mv_G X Q (kk V) 7 60 [(5, .int (iI (beh t (Int.toNat (pa))))), (4, .int (iI ((ra : Nat)))), (3, .int (iI (ix))), (0, .ref mk), (1, .ref g), (2, .int (iI (so)))] [] (mX V M mk rd dep tg q τ (XS ++ alL t (opD tg t δ) pa (0) (0) (Int.toNat (pa)) ++ [(6, 98, 0)] ++ alL t (opD tg t δ) pa (0) (beh t (Int.toNat (pa))) (Int.toNat (ix))) (dC dep tm al0 fo0 ap0) (opD tg t δ) (some h) pa y3r y3l y3p) 0 0
    have hl4 := alL_len hS.2.1 (opD tg t δ) pa 0 (beh t (Int.toNat pa)) (Int.toNat ix)
    refine mv_aloadR_n B d_Maker_writeRecType_60 rfl 3 rfl ?_
    refine mv_bipush (z := 6) B d_Maker_writeRecType_61 (by decide) ?_
    refine mv_iconst (z := -1) B d_Maker_writeRecType_63 rfl ?_
    refine mv_iconst (z := 0) B d_Maker_writeRecType_64 rfl ?_
    refine ca_Maker_78 (mc := 0) (ms := 0) (As := [.int (iI (6)), .int (iI (-1)), .int (iI (0))]) (rest := []) B (m_Maker_put hB hτ (by first | omega | (simp only [List.length_append, List.length_cons, List.length_nil, apL_len, vrL_len, cpL_len, glL]; omega))) rfl rfl ⟨Nat.le_of_ble_eq_true rfl, Nat.le_of_ble_eq_true rfl⟩ mW_mk rfl rfl (Nat.le_of_ble_eq_true rfl) d_Maker_writeRecType_65 ⟨by omega, by omega⟩ (mv_x ?_)
    show mv_G X Q (kk V) 7 68 [(5, .int (iI (beh t (Int.toNat (pa))))), (4, .int (iI ((ra : Nat)))), (3, .int (iI (ix))), (0, .ref mk), (1, .ref g), (2, .int (iI (so)))] [] (mX V M mk rd dep tg q τ (XS ++ alL t (opD tg t δ) pa (0) (0) (Int.toNat (pa)) ++ [(6, 98, 0)] ++ alL t (opD tg t δ) pa (0) (beh t (Int.toNat (pa))) (Int.toNat (ix)) ++ [(6, -1, 0)]) (dC dep tm al0 fo0 ap0) (opD tg t δ) (some h) pa y3r y3l y3p) 0 0
    refine mv_aloadR_n B d_Maker_writeRecType_68 rfl 3 rfl ?_
    refine mv_aloadR_n B d_Maker_writeRecType_69 rfl 4 rfl ?_
    refine mv_iload_n B d_Maker_writeRecType_70 rfl 2 rfl ?_
    refine mv_iconst (z := 0) B d_Maker_writeRecType_71 rfl ?_
    refine mv_iconst (z := 0) B d_Maker_writeRecType_72 rfl ?_
    refine ca_Maker_81 (mc := 0) (ms := 0) (As := [.ref g, .int (iI (ix)), .int (iI (0)), .int (iI (0))]) (rest := []) B (m_Maker_writeGlobal (fa := fa) (co := (some ca)) (tl := (some h)) hB hτ hg (own := ix) (btw := 0) (aft := 0) (by omega) (by omega) (by first | omega | (simp only [List.length_append, List.length_cons, List.length_nil, apL_len, vrL_len, cpL_len, glL]; omega))) rfl rfl ⟨Nat.le_of_ble_eq_true rfl, Nat.le_of_ble_eq_true rfl⟩ mW_mk rfl rfl (Nat.le_of_ble_eq_true rfl) d_Maker_writeRecType_73 ⟨by omega, by omega⟩ (mv_x ?_)
    show mv_G X Q (kk V) 7 76 [(5, .int (iI (beh t (Int.toNat (pa))))), (4, .int (iI ((ra : Nat)))), (3, .int (iI (ix))), (0, .ref mk), (1, .ref g), (2, .int (iI (so)))] [] (mX V M mk rd dep tg q τ (XS ++ alL t (opD tg t δ) pa (0) (0) (Int.toNat (pa)) ++ [(6, 98, 0)] ++ alL t (opD tg t δ) pa (0) (beh t (Int.toNat (pa))) (Int.toNat (ix)) ++ [(6, -1, 0)] ++ glL nu pa (ix) (0) (0)) (dC dep tm al0 fo0 ap0) (opD tg t δ) (some h) pa y3r y3l y3p) 0 0
    refine mv_aloadR_n B d_Maker_writeRecType_76 rfl 3 rfl ?_
    refine mv_iconst (z := 2) B d_Maker_writeRecType_77 rfl ?_
    refine mv_iload_n B d_Maker_writeRecType_78 rfl 5 rfl ?_
    refine mv_iconst (z := 0) B d_Maker_writeRecType_79 rfl ?_
    refine ca_Maker_78 (mc := 0) (ms := 0) (As := [.int (iI (2)), .int (iI (so)), .int (iI (0))]) (rest := []) B (m_Maker_put hB hτ (by first | omega | (simp only [List.length_append, List.length_cons, List.length_nil, apL_len, vrL_len, cpL_len, glL]; omega))) rfl rfl ⟨Nat.le_of_ble_eq_true rfl, Nat.le_of_ble_eq_true rfl⟩ mW_mk rfl rfl (Nat.le_of_ble_eq_true rfl) d_Maker_writeRecType_80 ⟨by omega, by omega⟩ (mv_x ?_)
    show mv_G X Q (kk V) 7 83 [(5, .int (iI (beh t (Int.toNat (pa))))), (4, .int (iI ((ra : Nat)))), (3, .int (iI (ix))), (0, .ref mk), (1, .ref g), (2, .int (iI (so)))] [] (mX V M mk rd dep tg q τ (XS ++ alL t (opD tg t δ) pa (0) (0) (Int.toNat (pa)) ++ [(6, 98, 0)] ++ alL t (opD tg t δ) pa (0) (beh t (Int.toNat (pa))) (Int.toNat (ix)) ++ [(6, -1, 0)] ++ glL nu pa (ix) (0) (0) ++ [(2, so, 0)]) (dC dep tm al0 fo0 ap0) (opD tg t δ) (some h) pa y3r y3l y3p) 0 0
    refine mv_iconst (z := 0) B d_Maker_writeRecType_83 rfl ?_
    refine mv_istore (lv' := [(6, .int (iI (0))), (5, .int (iI (beh t (Int.toNat (pa))))), (4, .int (iI ((ra : Nat)))), (3, .int (iI (ix))), (0, .ref mk), (1, .ref g), (2, .int (iI (so)))]) B d_Maker_writeRecType_84 (by decide) rfl ?_
    have L86 : ∀ (fu : Nat) (i : Nat) (sr1 : Option Nat) (tm1 : Option Nat) (al1 : Int) (fo1 : Int) (ap1 : Int) (ar1 : Int) (ag1 : Int) (pp1 : Int), (i ≤ ra) → (ra - i) < fu → mv_G X Q (kk V) 7 86 [(6, .int (iI ((i : Nat)))), (5, .int (iI (beh t (Int.toNat (pa))))), (4, .int (iI ((ra : Nat)))), (3, .int (iI (ix))), (0, .ref mk), (1, .ref g), (2, .int (iI (so)))] [] (mX V M mk rd dep tg q τ ((XS ++ alL t (opD tg t δ) pa 0 0 (Int.toNat pa) ++ [(6, 98, 0)] ++ alL t (opD tg t δ) pa 0 (beh t (Int.toNat pa)) (Int.toNat ix) ++ [(6, -1, 0)] ++ glL nu pa ix 0 0 ++ [(2, so, 0)]) ++ csL tg tt (opD tg t δ) nu pa ix nc arc i) (dC dep tm1 al1 fo1 ap1) (dsq tg tt (opD tg t δ) i) sr1 pa ar1 ag1 pp1) 0 0 := by
      intro fu
      induction fu with
      | zero => intro i sr1 tm1 al1 fo1 ap1 ar1 ag1 pp1 hi hm; exact absurd hm (Nat.not_lt_zero _)
      | succ fu ih86 =>
        intro i sr1 tm1 al1 fo1 ap1 ar1 ag1 pp1 hi hm
        have hp0 := beh_r hS.2.1 pa.toNat
        have hq1 := hcl i hi
        have hl3 := alL_len hS.2.1 (opD tg t δ) pa 0 0 (Int.toNat pa)
        have hl4 := alL_len hS.2.1 (opD tg t δ) pa 0 (beh t (Int.toNat pa)) (Int.toNat ix)
        refine mv_iload B d_Maker_writeRecType_86 0 rfl ?_
        refine mv_iload B d_Maker_writeRecType_88 2 rfl ?_
        refine mv_icmp_ge (tgt := 118) B d_Maker_writeRecType_90 (by decide) (by omega) (by omega) (fun c4 => ?_) (fun c4 => ?_)
        · have ei : i = ra := by omega
          subst ei
          have hl5 := alL_len hS.2.1 (opD tg t (dsq tg tt (opD tg t δ) i)) pa (1 + (i : Nat)) (beh t (Int.toNat pa)) (Int.toNat ix)
          refine mv_aloadR_n B d_Maker_writeRecType_118 rfl 4 rfl ?_
          refine mv_aloadR_n B d_Maker_writeRecType_119 rfl 5 rfl ?_
          refine ca_Maker_29 (mc := 0) (ms := 0) (As := [.ref g]) (rest := []) B (m_Maker_open (fa := fa) (co := some ca) hB hτ hS hg) rfl rfl ⟨Nat.le_of_ble_eq_true rfl, Nat.le_of_ble_eq_true rfl⟩ mW_mk rfl rfl (Nat.le_of_ble_eq_true rfl) d_Maker_writeRecType_120 ⟨by omega, by omega⟩ (mv_x ?_)
          show mv_G X Q (kk V) 7 123 [(6, .int (iI ((i : Nat)))), (5, .int (iI (beh t (Int.toNat (pa))))), (4, .int (iI ((i : Nat)))), (3, .int (iI (ix))), (0, .ref mk), (1, .ref g), (2, .int (iI (so)))] [.int (iI (1))] (mX V M mk rd dep tg q τ ((XS ++ alL t (opD tg t δ) pa 0 0 (Int.toNat pa) ++ [(6, 98, 0)] ++ alL t (opD tg t δ) pa 0 (beh t (Int.toNat pa)) (Int.toNat ix) ++ [(6, -1, 0)] ++ glL nu pa ix 0 0 ++ [(2, so, 0)]) ++ csL tg tt (opD tg t δ) nu pa ix nc arc i) (dC dep tm1 al1 fo1 ap1) (opD tg t (dsq tg tt (opD tg t δ) i)) (some h) pa ar1 ag1 pp1) 0 0
          refine mv_pop B d_Maker_writeRecType_123 rfl ?_
          refine mv_aloadR_n B d_Maker_writeRecType_124 rfl 4 rfl ?_
          refine mv_iload B d_Maker_writeRecType_125 1 rfl ?_
          refine mv_iload_n B d_Maker_writeRecType_127 rfl 3 rfl ?_
          refine mv_iconst (z := 1) B d_Maker_writeRecType_128 rfl ?_
          refine mv_iload B d_Maker_writeRecType_129 2 rfl ?_
          refine mv_iadd B d_Maker_writeRecType_131 ?_
          refine ca_Maker_75 (mc := 0) (ms := 0) (As := [.int (iI (beh t (Int.toNat (pa)))), .int (iI (ix)), .int (iI (1 + (i : Nat)))]) (rest := []) B (m_Maker_writeAlls hB hτ hS hδ2 (f := beh t (Int.toNat (pa))) (n := ix) (outer := 1 + (i : Nat)) (by omega) (by omega) (by omega) (by first | omega | (simp only [List.length_append, List.length_cons, List.length_nil, apL_len, vrL_len, cpL_len, glL]; omega))) rfl rfl ⟨Nat.le_of_ble_eq_true rfl, Nat.le_of_ble_eq_true rfl⟩ mW_mk rfl rfl (Nat.le_of_ble_eq_true rfl) d_Maker_writeRecType_132 ⟨by omega, by omega⟩ (fun v1 M9 ep => ?_)
          obtain ⟨e1, y5r, y5l, y5p, e2⟩ := ep
          subst e1
          subst e2
          show mv_G X Q (kk V) 7 135 [(6, .int (iI ((i : Nat)))), (5, .int (iI (beh t (Int.toNat (pa))))), (4, .int (iI ((i : Nat)))), (3, .int (iI (ix))), (0, .ref mk), (1, .ref g), (2, .int (iI (so)))] [] (mX V M mk rd dep tg q τ (((XS ++ alL t (opD tg t δ) pa 0 0 (Int.toNat pa) ++ [(6, 98, 0)] ++ alL t (opD tg t δ) pa 0 (beh t (Int.toNat pa)) (Int.toNat ix) ++ [(6, -1, 0)] ++ glL nu pa ix 0 0 ++ [(2, so, 0)]) ++ csL tg tt (opD tg t δ) nu pa ix nc arc i) ++ alL t (opD tg t (dsq tg tt (opD tg t δ) i)) pa (1 + (i : Nat)) (beh t (Int.toNat (pa))) (Int.toNat (ix))) (dC dep tm1 al1 fo1 ap1) (opD tg t (dsq tg tt (opD tg t δ) i)) (some h) pa y5r y5l y5p) 0 0
          refine mv_aloadR_n B d_Maker_writeRecType_135 rfl 4 rfl ?_
          refine mv_bipush (z := 6) B d_Maker_writeRecType_136 (by decide) ?_
          refine mv_bipush (z := 99) B d_Maker_writeRecType_138 (by decide) ?_
          refine mv_iconst (z := 0) B d_Maker_writeRecType_140 rfl ?_
          refine ca_Maker_78 (mc := 0) (ms := 0) (As := [.int (iI (6)), .int (iI (99)), .int (iI (0))]) (rest := []) B (m_Maker_put hB hτ (by first | omega | (simp only [List.length_append, List.length_cons, List.length_nil, apL_len, vrL_len, cpL_len, glL]; omega))) rfl rfl ⟨Nat.le_of_ble_eq_true rfl, Nat.le_of_ble_eq_true rfl⟩ mW_mk rfl rfl (Nat.le_of_ble_eq_true rfl) d_Maker_writeRecType_141 ⟨by omega, by omega⟩ (mv_x ?_)
          show mv_G X Q (kk V) 7 144 [(6, .int (iI ((i : Nat)))), (5, .int (iI (beh t (Int.toNat (pa))))), (4, .int (iI ((i : Nat)))), (3, .int (iI (ix))), (0, .ref mk), (1, .ref g), (2, .int (iI (so)))] [] (mX V M mk rd dep tg q τ (((XS ++ alL t (opD tg t δ) pa 0 0 (Int.toNat pa) ++ [(6, 98, 0)] ++ alL t (opD tg t δ) pa 0 (beh t (Int.toNat pa)) (Int.toNat ix) ++ [(6, -1, 0)] ++ glL nu pa ix 0 0 ++ [(2, so, 0)]) ++ csL tg tt (opD tg t δ) nu pa ix nc arc i) ++ alL t (opD tg t (dsq tg tt (opD tg t δ) i)) pa (1 + (i : Nat)) (beh t (Int.toNat (pa))) (Int.toNat (ix)) ++ [(6, 99, 0)]) (dC dep tm1 al1 fo1 ap1) (opD tg t (dsq tg tt (opD tg t δ) i)) (some h) pa y5r y5l y5p) 0 0
          refine mv_aloadR_n B d_Maker_writeRecType_144 rfl 4 rfl ?_
          refine mv_aloadR_n B d_Maker_writeRecType_145 rfl 5 rfl ?_
          refine mv_iload_n B d_Maker_writeRecType_146 rfl 3 rfl ?_
          refine mv_iconst (z := 1) B d_Maker_writeRecType_147 rfl ?_
          refine mv_iload B d_Maker_writeRecType_148 2 rfl ?_
          refine mv_iadd B d_Maker_writeRecType_150 ?_
          refine mv_iconst (z := 0) B d_Maker_writeRecType_151 rfl ?_
          refine ca_Maker_81 (mc := 0) (ms := 0) (As := [.ref g, .int (iI (ix)), .int (iI (1 + (i : Nat))), .int (iI (0))]) (rest := []) B (m_Maker_writeGlobal (fa := fa) (co := (some ca)) (tl := (some h)) hB hτ hg (own := ix) (btw := 1 + (i : Nat)) (aft := 0) (by omega) (by omega) (by first | omega | (simp only [List.length_append, List.length_cons, List.length_nil, apL_len, vrL_len, cpL_len, glL]; omega))) rfl rfl ⟨Nat.le_of_ble_eq_true rfl, Nat.le_of_ble_eq_true rfl⟩ mW_mk rfl rfl (Nat.le_of_ble_eq_true rfl) d_Maker_writeRecType_152 ⟨by omega, by omega⟩ (mv_x ?_)
          show mv_G X Q (kk V) 7 155 [(6, .int (iI ((i : Nat)))), (5, .int (iI (beh t (Int.toNat (pa))))), (4, .int (iI ((i : Nat)))), (3, .int (iI (ix))), (0, .ref mk), (1, .ref g), (2, .int (iI (so)))] [] (mX V M mk rd dep tg q τ (((XS ++ alL t (opD tg t δ) pa 0 0 (Int.toNat pa) ++ [(6, 98, 0)] ++ alL t (opD tg t δ) pa 0 (beh t (Int.toNat pa)) (Int.toNat ix) ++ [(6, -1, 0)] ++ glL nu pa ix 0 0 ++ [(2, so, 0)]) ++ csL tg tt (opD tg t δ) nu pa ix nc arc i) ++ alL t (opD tg t (dsq tg tt (opD tg t δ) i)) pa (1 + (i : Nat)) (beh t (Int.toNat (pa))) (Int.toNat (ix)) ++ [(6, 99, 0)] ++ glL nu pa (ix) (1 + (i : Nat)) (0)) (dC dep tm1 al1 fo1 ap1) (opD tg t (dsq tg tt (opD tg t δ) i)) (some h) pa y5r y5l y5p) 0 0
          refine mv_aloadR_n B d_Maker_writeRecType_155 rfl 4 rfl ?_
          refine mv_iload_n B d_Maker_writeRecType_156 rfl 3 rfl ?_
          refine mv_iconst (z := 1) B d_Maker_writeRecType_157 rfl ?_
          refine mv_iadd B d_Maker_writeRecType_158 ?_
          refine ca_Maker_93 (mc := 0) (ms := 0) (As := [.int (iI (ix + 1))]) (rest := []) B (m_Maker_putApplications hB hτ (n := ix + 1) (by omega) (by first | omega | (simp only [List.length_append, List.length_cons, List.length_nil, apL_len, vrL_len, cpL_len, glL]; omega))) rfl rfl ⟨Nat.le_of_ble_eq_true rfl, Nat.le_of_ble_eq_true rfl⟩ mW_mk rfl rfl (Nat.le_of_ble_eq_true rfl) d_Maker_writeRecType_159 ⟨by omega, by omega⟩ (mv_x ?_)
          show mv_G X Q (kk V) 7 162 [(6, .int (iI ((i : Nat)))), (5, .int (iI (beh t (Int.toNat (pa))))), (4, .int (iI ((i : Nat)))), (3, .int (iI (ix))), (0, .ref mk), (1, .ref g), (2, .int (iI (so)))] [] (mX V M mk rd dep tg q τ (((XS ++ alL t (opD tg t δ) pa 0 0 (Int.toNat pa) ++ [(6, 98, 0)] ++ alL t (opD tg t δ) pa 0 (beh t (Int.toNat pa)) (Int.toNat ix) ++ [(6, -1, 0)] ++ glL nu pa ix 0 0 ++ [(2, so, 0)]) ++ csL tg tt (opD tg t δ) nu pa ix nc arc i) ++ alL t (opD tg t (dsq tg tt (opD tg t δ) i)) pa (1 + (i : Nat)) (beh t (Int.toNat (pa))) (Int.toNat (ix)) ++ [(6, 99, 0)] ++ glL nu pa (ix) (1 + (i : Nat)) (0) ++ apL (Int.toNat (ix + 1))) (dC dep tm1 al1 fo1 ap1) (opD tg t (dsq tg tt (opD tg t δ) i)) (some h) pa y5r y5l y5p) 0 0
          refine mv_aloadR_n B d_Maker_writeRecType_162 rfl 4 rfl ?_
          refine mv_iconst (z := 0) B d_Maker_writeRecType_163 rfl ?_
          refine mv_iload B d_Maker_writeRecType_164 2 rfl ?_
          refine mv_iload_n B d_Maker_writeRecType_166 rfl 3 rfl ?_
          refine mv_iadd B d_Maker_writeRecType_167 ?_
          refine mv_iconst (z := 1) B d_Maker_writeRecType_168 rfl ?_
          refine mv_iadd B d_Maker_writeRecType_169 ?_
          refine mv_iconst (z := 0) B d_Maker_writeRecType_170 rfl ?_
          refine ca_Maker_78 (mc := 0) (ms := 0) (As := [.int (iI (0)), .int (iI (((i : Nat) + ix) + 1)), .int (iI (0))]) (rest := []) B (m_Maker_put hB hτ (by first | omega | (simp only [List.length_append, List.length_cons, List.length_nil, apL_len, vrL_len, cpL_len, glL]; omega))) rfl rfl ⟨Nat.le_of_ble_eq_true rfl, Nat.le_of_ble_eq_true rfl⟩ mW_mk rfl rfl (Nat.le_of_ble_eq_true rfl) d_Maker_writeRecType_171 ⟨by omega, by omega⟩ (mv_x ?_)
          show mv_G X Q (kk V) 7 174 [(6, .int (iI ((i : Nat)))), (5, .int (iI (beh t (Int.toNat (pa))))), (4, .int (iI ((i : Nat)))), (3, .int (iI (ix))), (0, .ref mk), (1, .ref g), (2, .int (iI (so)))] [] (mX V M mk rd dep tg q τ (((XS ++ alL t (opD tg t δ) pa 0 0 (Int.toNat pa) ++ [(6, 98, 0)] ++ alL t (opD tg t δ) pa 0 (beh t (Int.toNat pa)) (Int.toNat ix) ++ [(6, -1, 0)] ++ glL nu pa ix 0 0 ++ [(2, so, 0)]) ++ csL tg tt (opD tg t δ) nu pa ix nc arc i) ++ alL t (opD tg t (dsq tg tt (opD tg t δ) i)) pa (1 + (i : Nat)) (beh t (Int.toNat (pa))) (Int.toNat (ix)) ++ [(6, 99, 0)] ++ glL nu pa (ix) (1 + (i : Nat)) (0) ++ apL (Int.toNat (ix + 1)) ++ [(0, ((i : Nat) + ix) + 1, 0)]) (dC dep tm1 al1 fo1 ap1) (opD tg t (dsq tg tt (opD tg t δ) i)) (some h) pa y5r y5l y5p) 0 0
          refine mv_aloadR_n B d_Maker_writeRecType_174 rfl 4 rfl ?_
          refine mv_iload_n B d_Maker_writeRecType_175 rfl 3 rfl ?_
          refine mv_iload_n B d_Maker_writeRecType_176 rfl 3 rfl ?_
          refine ca_Maker_97 (mc := 0) (ms := 0) (As := [.int (iI (ix)), .int (iI (ix))]) (rest := []) B (m_Maker_putVariables hB hτ (v := ix) (n := ix) (by omega) (by first | omega | (simp only [List.length_append, List.length_cons, List.length_nil, apL_len, vrL_len, cpL_len, glL]; omega))) rfl rfl ⟨Nat.le_of_ble_eq_true rfl, Nat.le_of_ble_eq_true rfl⟩ mW_mk rfl rfl (Nat.le_of_ble_eq_true rfl) d_Maker_writeRecType_177 ⟨by omega, by omega⟩ (mv_x ?_)
          show mv_G X Q (kk V) 7 180 [(6, .int (iI ((i : Nat)))), (5, .int (iI (beh t (Int.toNat (pa))))), (4, .int (iI ((i : Nat)))), (3, .int (iI (ix))), (0, .ref mk), (1, .ref g), (2, .int (iI (so)))] [] (mX V M mk rd dep tg q τ (((XS ++ alL t (opD tg t δ) pa 0 0 (Int.toNat pa) ++ [(6, 98, 0)] ++ alL t (opD tg t δ) pa 0 (beh t (Int.toNat pa)) (Int.toNat ix) ++ [(6, -1, 0)] ++ glL nu pa ix 0 0 ++ [(2, so, 0)]) ++ csL tg tt (opD tg t δ) nu pa ix nc arc i) ++ alL t (opD tg t (dsq tg tt (opD tg t δ) i)) pa (1 + (i : Nat)) (beh t (Int.toNat (pa))) (Int.toNat (ix)) ++ [(6, 99, 0)] ++ glL nu pa (ix) (1 + (i : Nat)) (0) ++ apL (Int.toNat (ix + 1)) ++ [(0, ((i : Nat) + ix) + 1, 0)] ++ vrL (ix) (Int.toNat (ix))) (dC dep tm1 al1 fo1 ap1) (opD tg t (dsq tg tt (opD tg t δ) i)) (some h) pa y5r y5l y5p) 0 0
          refine mv_aloadR_n B d_Maker_writeRecType_180 rfl 4 rfl ?_
          refine mv_iconst (z := 0) B d_Maker_writeRecType_181 rfl ?_
          refine mv_iconst (z := 0) B d_Maker_writeRecType_182 rfl ?_
          refine mv_iconst (z := 0) B d_Maker_writeRecType_183 rfl ?_
          refine ca_Maker_78 (mc := 0) (ms := 0) (As := [.int (iI (0)), .int (iI (0)), .int (iI (0))]) (rest := []) B (m_Maker_put hB hτ (by first | omega | (simp only [List.length_append, List.length_cons, List.length_nil, apL_len, vrL_len, cpL_len, glL]; omega))) rfl rfl ⟨Nat.le_of_ble_eq_true rfl, Nat.le_of_ble_eq_true rfl⟩ mW_mk rfl rfl (Nat.le_of_ble_eq_true rfl) d_Maker_writeRecType_184 ⟨by omega, by omega⟩ (mv_x ?_)
          show mv_G X Q (kk V) 7 187 [(6, .int (iI ((i : Nat)))), (5, .int (iI (beh t (Int.toNat (pa))))), (4, .int (iI ((i : Nat)))), (3, .int (iI (ix))), (0, .ref mk), (1, .ref g), (2, .int (iI (so)))] [] (mX V M mk rd dep tg q τ (((XS ++ alL t (opD tg t δ) pa 0 0 (Int.toNat pa) ++ [(6, 98, 0)] ++ alL t (opD tg t δ) pa 0 (beh t (Int.toNat pa)) (Int.toNat ix) ++ [(6, -1, 0)] ++ glL nu pa ix 0 0 ++ [(2, so, 0)]) ++ csL tg tt (opD tg t δ) nu pa ix nc arc i) ++ alL t (opD tg t (dsq tg tt (opD tg t δ) i)) pa (1 + (i : Nat)) (beh t (Int.toNat (pa))) (Int.toNat (ix)) ++ [(6, 99, 0)] ++ glL nu pa (ix) (1 + (i : Nat)) (0) ++ apL (Int.toNat (ix + 1)) ++ [(0, ((i : Nat) + ix) + 1, 0)] ++ vrL (ix) (Int.toNat (ix)) ++ [(0, 0, 0)]) (dC dep tm1 al1 fo1 ap1) (opD tg t (dsq tg tt (opD tg t δ) i)) (some h) pa y5r y5l y5p) 0 0
          rw [hQ]
          exact mv_vret B ⟨rfl, _, _, _, _, _, _, _, by simp only [rtL, List.append_assoc]; first | done | rfl⟩ (by omega) (by omega) d_Maker_writeRecType_187
        · refine mv_aloadR_n B d_Maker_writeRecType_93 rfl 4 rfl ?_
          refine mv_bipush (z := 6) B d_Maker_writeRecType_94 (by decide) ?_
          refine mv_iconst (z := -1) B d_Maker_writeRecType_96 rfl ?_
          refine mv_iconst (z := 0) B d_Maker_writeRecType_97 rfl ?_
          refine ca_Maker_78 (mc := 0) (ms := 0) (As := [.int (iI (6)), .int (iI (-1)), .int (iI (0))]) (rest := []) B (m_Maker_put hB hτ (by first | omega | (simp only [List.length_append, List.length_cons, List.length_nil, apL_len, vrL_len, cpL_len, glL]; omega))) rfl rfl ⟨Nat.le_of_ble_eq_true rfl, Nat.le_of_ble_eq_true rfl⟩ mW_mk rfl rfl (Nat.le_of_ble_eq_true rfl) d_Maker_writeRecType_98 ⟨by omega, by omega⟩ (mv_x ?_)
          show mv_G X Q (kk V) 7 101 [(6, .int (iI ((i : Nat)))), (5, .int (iI (beh t (Int.toNat (pa))))), (4, .int (iI ((ra : Nat)))), (3, .int (iI (ix))), (0, .ref mk), (1, .ref g), (2, .int (iI (so)))] [] (mX V M mk rd dep tg q τ (((XS ++ alL t (opD tg t δ) pa 0 0 (Int.toNat pa) ++ [(6, 98, 0)] ++ alL t (opD tg t δ) pa 0 (beh t (Int.toNat pa)) (Int.toNat ix) ++ [(6, -1, 0)] ++ glL nu pa ix 0 0 ++ [(2, so, 0)]) ++ csL tg tt (opD tg t δ) nu pa ix nc arc i) ++ [(6, -1, 0)]) (dC dep tm1 al1 fo1 ap1) (dsq tg tt (opD tg t δ) i) sr1 pa ar1 ag1 pp1) 0 0
          refine mv_aloadR_n B d_Maker_writeRecType_101 rfl 4 rfl ?_
          refine mv_aloadR_n B d_Maker_writeRecType_102 rfl 5 rfl ?_
          refine mv_aloadR_n B d_Maker_writeRecType_103 rfl 5 rfl ?_
          refine mv_iload B d_Maker_writeRecType_104 0 rfl ?_
          refine ca_Maker_85 (mc := 0) (ms := 0) (As := [.int (iI ((i : Nat)))]) (rest := [.ref g, .ref mk]) B (m_Global_constructorAt (fa := fa) (tl := some h) (mW_o hB hg (by decide) (by decide)) (mW_g hB hca) (by omega) (i := (i : Nat)) (by omega)) rfl rfl ⟨Nat.le_of_ble_eq_true rfl, Nat.le_of_ble_eq_true rfl⟩ (mW_o hB hg (by decide) (by decide)) rfl rfl (Nat.le_of_ble_eq_true rfl) d_Maker_writeRecType_106 ⟨by omega, by omega⟩ (mv_x ?_)
          show mv_G X Q (kk V) 7 109 [(6, .int (iI ((i : Nat)))), (5, .int (iI (beh t (Int.toNat (pa))))), (4, .int (iI ((ra : Nat)))), (3, .int (iI (ix))), (0, .ref mk), (1, .ref g), (2, .int (iI (so)))] [va_rf (if 0 ≤ ((i : Nat) : Int) ∧ ((i : Nat) : Int) < n then f (Int.toNat ((i : Nat))) else none), .ref g, .ref mk] (mX V M mk rd dep tg q τ (((XS ++ alL t (opD tg t δ) pa 0 0 (Int.toNat pa) ++ [(6, 98, 0)] ++ alL t (opD tg t δ) pa 0 (beh t (Int.toNat pa)) (Int.toNat ix) ++ [(6, -1, 0)] ++ glL nu pa ix 0 0 ++ [(2, so, 0)]) ++ csL tg tt (opD tg t δ) nu pa ix nc arc i) ++ [(6, -1, 0)]) (dC dep tm1 al1 fo1 ap1) (dsq tg tt (opD tg t δ) i) sr1 pa ar1 ag1 pp1) 0 0
          rw [show (if 0 ≤ ((i : Nat) : Int) ∧ ((i : Nat) : Int) < n then f (Int.toNat ((i : Nat))) else none) = some (cc i) from by rw [if_pos (by omega)]; exact (hc i (by omega)).1]
          show mv_G X Q (kk V) 7 109 [(6, .int (iI ((i : Nat)))), (5, .int (iI (beh t (Int.toNat (pa))))), (4, .int (iI ((ra : Nat)))), (3, .int (iI (ix))), (0, .ref mk), (1, .ref g), (2, .int (iI (so)))] [.ref ((cc i)), .ref g, .ref mk] (mX V M mk rd dep tg q τ (((XS ++ alL t (opD tg t δ) pa 0 0 (Int.toNat pa) ++ [(6, 98, 0)] ++ alL t (opD tg t δ) pa 0 (beh t (Int.toNat pa)) (Int.toNat ix) ++ [(6, -1, 0)] ++ glL nu pa ix 0 0 ++ [(2, so, 0)]) ++ csL tg tt (opD tg t δ) nu pa ix nc arc i) ++ [(6, -1, 0)]) (dC dep tm1 al1 fo1 ap1) (dsq tg tt (opD tg t δ) i) sr1 pa ar1 ag1 pp1) 0 0
          refine ca_Maker_89 (mc := 0) (ms := 0) (As := [.ref g, .ref ((cc i))]) (rest := []) B (m_Maker_writeCase (fa := fa) (co := some ca) (tl := some h) (coc := coc i) (pac := pa) (arc := arc i) hB hτ (hc i (by omega)).2.2.1 (hδc i (by omega)) (hc i (by omega)).2.1 hg (hl i (by omega)) (hl0 i (by omega)) (hbl i (by omega)) (hc i (by omega)).2.2.2 (by omega) (by omega) (by omega) (by omega) (by omega) (by first | omega | (simp only [List.length_append, List.length_cons, List.length_nil, apL_len, vrL_len, cpL_len, glL]; omega))) rfl rfl ⟨Nat.le_of_ble_eq_true rfl, Nat.le_of_ble_eq_true rfl⟩ mW_mk rfl rfl (Nat.le_of_ble_eq_true rfl) d_Maker_writeRecType_109 ⟨by omega, by omega⟩ (mv_x ?_)
          show mv_G X Q (kk V) 7 112 [(6, .int (iI ((i : Nat)))), (5, .int (iI (beh t (Int.toNat (pa))))), (4, .int (iI ((ra : Nat)))), (3, .int (iI (ix))), (0, .ref mk), (1, .ref g), (2, .int (iI (so)))] [] (mX V M mk rd dep tg q τ (((XS ++ alL t (opD tg t δ) pa 0 0 (Int.toNat pa) ++ [(6, 98, 0)] ++ alL t (opD tg t δ) pa 0 (beh t (Int.toNat pa)) (Int.toNat ix) ++ [(6, -1, 0)] ++ glL nu pa ix 0 0 ++ [(2, so, 0)]) ++ csL tg tt (opD tg t δ) nu pa ix nc arc i) ++ [(6, -1, 0)] ++ caL (tt i) (dsq tg tt (opD tg t δ) (i + 1)) nu pa ix (nc i) pa (i : Nat) (arc i)) (dC dep (some (hh i)) ((allN (tt i) 1000 (0) : Nat)) (beR (tt i) (0) (allN (tt i) 1000 (0))) ((appN (tt i) 1000 (beR (tt i) (0) (allN (tt i) 1000 (0))) : Nat))) (dsq tg tt (opD tg t δ) (i + 1)) (some (hh i)) pa (pa + ((arc i) : Nat)) (rcN (tt i) nu pa ix pa (arc i) : Nat) ((rcN (tt i) nu pa ix pa (arc i) : Nat) + 1 + (i : Nat))) 0 0
          refine mv_iinc (lv' := [(6, .int (iI ((i : Nat) + 1))), (5, .int (iI (beh t (Int.toNat (pa))))), (4, .int (iI ((ra : Nat)))), (3, .int (iI (ix))), (0, .ref mk), (1, .ref g), (2, .int (iI (so)))]) B d_Maker_writeRecType_112 0 rfl (by decide) rfl ?_
          refine mv_goto (tgt := 86) B d_Maker_writeRecType_115 (by decide) ?_
          refine mv_lv (lv' := [(6, .int (iI (((i + 1) : Nat)))), (5, .int (iI (beh t (Int.toNat (pa))))), (4, .int (iI ((ra : Nat)))), (3, .int (iI (ix))), (0, .ref mk), (1, .ref g), (2, .int (iI (so)))]) [0, 1, 2, 3, 4, 5, 6] (lc (lI (by first | rfl | omega)) (lc rfl (lc rfl (lc rfl (lc rfl (lc rfl (lc rfl rfl))))))) ?_
          rw [show ((XS ++ alL t (opD tg t δ) pa 0 0 (Int.toNat pa) ++ [(6, 98, 0)] ++ alL t (opD tg t δ) pa 0 (beh t (Int.toNat pa)) (Int.toNat ix) ++ [(6, -1, 0)] ++ glL nu pa ix 0 0 ++ [(2, so, 0)]) ++ csL tg tt (opD tg t δ) nu pa ix nc arc i) ++ [(6, -1, 0)] ++ caL (tt i) (dsq tg tt (opD tg t δ) (i + 1)) nu pa ix (nc i) pa (i : Nat) (arc i) = ((XS ++ alL t (opD tg t δ) pa 0 0 (Int.toNat pa) ++ [(6, 98, 0)] ++ alL t (opD tg t δ) pa 0 (beh t (Int.toNat pa)) (Int.toNat ix) ++ [(6, -1, 0)] ++ glL nu pa ix 0 0 ++ [(2, so, 0)]) ++ csL tg tt (opD tg t δ) nu pa ix nc arc (i + 1)) from (by simp only [csL, List.append_assoc])]
          exact ih86 (i + 1) (some (hh i)) (some (hh i)) ((allN (tt i) 1000 (0) : Nat)) (beR (tt i) (0) (allN (tt i) 1000 (0))) ((appN (tt i) 1000 (beR (tt i) (0) (allN (tt i) 1000 (0))) : Nat)) (pa + ((arc i) : Nat)) (rcN (tt i) nu pa ix pa (arc i) : Nat) ((rcN (tt i) nu pa ix pa (arc i) : Nat) + 1 + (i : Nat)) (by omega) (by omega)
    refine mv_lv (lv' := [(6, .int (iI ((0 : Nat)))), (5, .int (iI (beh t (Int.toNat (pa))))), (4, .int (iI ((ra : Nat)))), (3, .int (iI (ix))), (0, .ref mk), (1, .ref g), (2, .int (iI (so)))]) [0, 1, 2, 3, 4, 5, 6] (lc (lI (by first | rfl | omega)) (lc rfl (lc rfl (lc rfl (lc rfl (lc rfl (lc rfl rfl))))))) ?_
    rw [show (XS ++ alL t (opD tg t δ) pa (0) (0) (Int.toNat (pa)) ++ [(6, 98, 0)] ++ alL t (opD tg t δ) pa (0) (beh t (Int.toNat (pa))) (Int.toNat (ix)) ++ [(6, -1, 0)] ++ glL nu pa (ix) (0) (0) ++ [(2, so, 0)] : List Nd) = ((XS ++ alL t (opD tg t δ) pa 0 0 (Int.toNat pa) ++ [(6, 98, 0)] ++ alL t (opD tg t δ) pa 0 (beh t (Int.toNat pa)) (Int.toNat ix) ++ [(6, -1, 0)] ++ glL nu pa ix 0 0 ++ [(2, so, 0)]) ++ csL tg tt (opD tg t δ) nu pa ix nc arc 0) from (by simp only [csL, List.append_nil])]
    exact L86 _ 0 (some h) tm al0 fo0 ap0 y3r y3l y3p (by omega) (Nat.lt_succ_self _)
  · omega
