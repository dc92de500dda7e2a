theorem Cls_ax {V : mv_V} {M : mv_M} {x sh rg rd mk trow grow dep : Nat} {hT : Nat → Nat} {tq : Nat → Q4} {tt : Nat → Tm} {ga ca : Nat → Nat} {f gf : Nat → Option Nat} {S : SS} (h : ClsC V M x sh rg rd mk trow grow dep hT tq tt ga ca f gf S) (hJ : Jv S) (hlt : S.2.2.1 < 100) {g : Nat} (hg : ∀ y e, M y = some e → y < g) : ClsP V (mv_up (mv_up (mv_up M g (.inr (2, [.int (iI ((S.2.2.1 : Nat) : Int)), .int (iI 0), .int (iI 0), .int (iI 0), .int (iI 0), va_rf none, va_rf none, va_rf none, .int (iI (-1)), .int (iI 0)]))) grow (gA V 100 (va_up gf ((S.2.2.1 : Nat) : Int).toNat (some g)))) rg (.inr (3, [.ref grow, .int (iI (((S.2.2.1 : Nat) : Int) + 1))]))) x (S.1, S.2.1, S.2.2.1 + 1, va_up S.2.2.2 S.2.2.1 (0, S.2.2.1, 0, 0, 0, none, 0, 0)) := by
  obtain ⟨⟨hx, hsh, htr, hrg, hgr, ⟨tm0, al0, fo0, ap0, hrd⟩, ⟨δ, hdp, hδ⟩, ⟨tg0, pl0, src0, P0, ar0, al1, pp0, hmk⟩⟩, hTm, hGl, hIn⟩ := id h
  have keep : ∀ y e, M y = some e → y ≠ grow → y ≠ rg → mv_up (mv_up (mv_up M g (.inr (2, [.int (iI ((S.2.2.1 : Nat) : Int)), .int (iI 0), .int (iI 0), .int (iI 0), .int (iI 0), va_rf none, va_rf none, va_rf none, .int (iI (-1)), .int (iI 0)]))) grow (gA V 100 (va_up gf ((S.2.2.1 : Nat) : Int).toNat (some g)))) rg (.inr (3, [.ref grow, .int (iI (((S.2.2.1 : Nat) : Int) + 1))])) y = some e := fun y e hy a b => by
    have := hg y e hy
    rw [mv_un b, mv_un a, mv_un (by omega)]
    exact hy
  have hgg : grow ≠ g := by have := hg _ _ hgr; omega
  have hrr : rg ≠ g := by have := hg _ _ hrg; omega
  have hgl : ∀ k, k < S.2.2.1 → ga k < g := fun k hk => hg _ _ (hGl k hk).2.1
  refine ⟨sh, rg, rd, mk, trow, grow, dep, hT, tq, tt, va_up ga S.2.2.1 g, ca, f, va_up gf S.2.2.1 (some g), ⟨keep _ _ hx (mv_ne hx hgr (by simp)) (mv_ne hx hrg (by simp)), keep _ _ hsh (mv_ne hsh hgr (by simp)) (mv_ne hsh hrg (by simp)), keep _ _ htr (mv_ne htr hgr (by simp)) (mv_ne htr hrg (by simp)), ?_, ?_, ⟨_, _, _, _, keep _ _ hrd (mv_ne hrd hgr (by simp)) (mv_ne hrd hrg (by simp))⟩, ⟨δ, keep _ _ hdp (mv_ne hdp hgr (by simp)) (mv_ne hdp hrg (by simp)), hδ⟩, ⟨_, _, _, _, _, _, _, keep _ _ hmk (mv_ne hmk hgr (by simp)) (mv_ne hmk hrg (by simp))⟩⟩, fun t ht => ?_, fun k hk => ?_, fun k k' hk hk' e => ?_⟩
  · rw [mv_us, show ((S.2.2.1 : Nat) : Int) + 1 = ((S.2.2.1 + 1 : Nat) : Int) by omega]
  · rw [mv_un (mv_ne hgr hrg (by simp)), mv_us, Int.toNat_natCast]
  · obtain ⟨a, hC, b⟩ := hTm t ht
    exact ⟨a, ⟨keep _ _ hC.1 (mv_ne hC.1 hgr (by simp)) (mv_ne hC.1 hrg (by simp)), keep _ _ hC.2.1 (mv_ne hC.2.1 hgr (by simp)) (mv_ne hC.2.1 hrg (by simp)), keep _ _ hC.2.2.1 (mv_ne hC.2.2.1 hgr (by simp)) (mv_ne hC.2.2.1 hrg (by simp)), keep _ _ hC.2.2.2.1 (mv_ne hC.2.2.2.1 hgr (by simp)) (mv_ne hC.2.2.2.1 hrg (by simp)), keep _ _ hC.2.2.2.2.1 (mv_ne hC.2.2.2.2.1 hgr (by simp)) (mv_ne hC.2.2.2.2.1 hrg (by simp)), hC.2.2.2.2.2⟩, b⟩
  · have hk2 : k < S.2.2.1 + 1 := hk
    by_cases z : k = S.2.2.1
    · subst z
      rw [va_us, va_us]
      refine ⟨rfl, ?_, fun h3 => ?_⟩
      · rw [mv_un hrr.symm, mv_un hgg.symm, mv_us]
        unfold glO faO coO tdO agO
        simp only [va_us]
        rfl
      · have h3' : (va_up S.2.2.2 S.2.2.1 (0, S.2.2.1, 0, 0, 0, none, 0, 0) S.2.2.1).1 = 3 := h3
        rw [va_us] at h3'
        exact absurd h3' (by simp)
    · rw [va_un z, va_un z]
      obtain ⟨a, hG, hc⟩ := hGl k (by omega)
      have eg : glO (S.1, S.2.1, S.2.2.1 + 1, va_up S.2.2.2 S.2.2.1 (0, S.2.2.1, 0, 0, 0, none, 0, 0)) hT (va_up ga S.2.2.1 g) ca k = glO S hT ga ca k := by
        unfold glO faO coO tdO agO otS
        simp only [va_un z]
        by_cases r4 : (S.2.2.2 k).1 = 4
        · have := (con_b hJ.1 (g := k) (by omega) r4).1
          rw [va_un (by omega)]
        · simp only [if_neg r4]
      refine ⟨a, by rw [eg]; exact keep _ _ hG (mv_ne hG hgr (by simp)) (mv_ne hG hrg (by simp)), fun h3 => ?_⟩
      have h3' : (va_up S.2.2.2 S.2.2.1 (0, S.2.2.1, 0, 0, 0, none, 0, 0) k).1 = 3 := h3
      rw [va_un z] at h3'
      obtain ⟨b, cf, hcf, kk⟩ := hc h3'
      obtain ⟨t0, -, -, -, -, -, -, rk, -⟩ := fam_b hJ.1 (g := k) (by omega) h3'
      refine ⟨b, cf, ?_, fun i hi => ?_⟩
      · show _ = some (gA V (va_up S.2.2.2 S.2.2.1 (0, S.2.2.1, 0, 0, 0, none, 0, 0) k).2.2.2.2.1 cf)
        rw [va_un z]
        exact keep _ _ hcf b (mv_ne hcf hrg (by simp))
      · have hi' : i < (va_up S.2.2.2 S.2.2.1 (0, S.2.2.1, 0, 0, 0, none, 0, 0) k).2.2.2.2.1 := hi
        rw [va_un z] at hi'
        rw [va_un (by omega)]
        exact kk i hi'
  · have hk2 : k < S.2.2.1 + 1 := hk
    have hk3 : k' < S.2.2.1 + 1 := hk'
    by_cases z : k = S.2.2.1
    · by_cases z' : k' = S.2.2.1
      · omega
      · rw [z, va_us, va_un z'] at e
        have := hgl k' (by omega)
        omega
    · by_cases z' : k' = S.2.2.1
      · rw [z', va_us, va_un z] at e
        have := hgl k (by omega)
        omega
      · rw [va_un z, va_un z'] at e
        exact hIn k k' (by omega) (by omega) e
set_option maxRecDepth 100000 in
set_option maxHeartbeats 4000000 in
theorem m_Fam_positive {l : Launch} {V : mv_V} {M : mv_M} {x sh rg rd mk trow grow dep : Nat} {hT : Nat → Nat} {tq : Nat → Q4} {tt : Nat → Tm} {ga ca : Nat → Nat} {f gf : Nat → Option Nat} {S : SS} (hP : ClsC V M x sh rg rd mk trow grow dep hT tq tt ga ca f gf S) (hJ : Jv S) {g t ar : Int} (rg9 : R32 g) (rt9 : R32 t) (ra9 : R32 ar) : Met l y_Fam_positive ws_Fam_positive (rM 4 0 0 95) (mv_Pre (kk V) [.ref x, .int (iI (g)), .int (iI (t)), .int (iI (ar))] M) (mv_Q (kk V) (fun z0 M' => z0 = some (.int (iI (aPo S g t ar))) ∧ ClsP V M' x (S))) 0 0 V.2.2.2.2 := by
  refine mv_Met (by decide) rfl (Nat.le_of_ble_eq_true rfl) (fun X hX B => ?_)
  subst hX
  replace B : mv_B X (kk V) c_Fam_positive ws_Fam_positive "FamilyRules" 6 (Option.some Jvm.ClassFile.FieldType.int) (rM 4 0 0 95) "positive" := B
  obtain ⟨Q, hQ⟩ : ∃ Q, Q = mv_E X (kk V) (fun z0 M' => z0 = some (.int (iI (aPo S g t ar))) ∧ ClsP V M' x (S)) 0 0 := ⟨_, rfl⟩
  rw [← hQ]
  show mv_G X Q (kk V) 6 0 [(0, .ref x), (1, .int (iI (g))), (2, .int (iI (t))), (3, .int (iI (ar)))] [] M 0 0
  obtain ⟨⟨hx, hsh, htr, hrg, hgr, ⟨tm0, al0, fo0, ap0, hrd⟩, ⟨δ, hdp, hδ⟩, ⟨tg0, pl0, src0, P0, ar0, al1, pp0, hmk⟩⟩, hTm, hGl, hIn⟩ := id hP
  have hI := hJ.1
  have hb1 : S.1 ≤ 1500 := hI.1
  have hb2 : S.2.2.1 ≤ 100 := hI.2.1
  have hb3 : bs S.2.1 S.1 ≤ 30000 := hI.2.2.1
  refine mv_aloadR_n B d_Fam_positive_0 rfl 0 rfl ?_
  refine gf_Fam_22 B hx rfl d_Fam_positive_1 ?_
  refine mv_iload_n B d_Fam_positive_4 rfl 1 rfl ?_
  refine ca_Fam_130 (mc := 0) (ms := 0) (As := [.int (iI (g))]) (rest := []) B (m_Register_findFamily hrg hgr (by omega) (ga := ga) (nu := fun j => ((j : Nat) : Int)) (ro := fun j => (S.2.2.2 j).1) (pa := fun j => (((S.2.2.2 j).2.2.1 : Nat) : Int)) (ix := fun j => (((S.2.2.2 j).2.2.2.1 : Nat) : Int)) (ra := fun j => (((S.2.2.2 j).2.2.2.2.1 : Nat) : Int)) (fa := faO S ga) (co := coO S ca) (tl := tdO S hT) (ag := agO S) (rg2 := fun j => (((S.2.2.2 j).2.2.2.2.2.2.2 : Nat) : Int)) (fun j hj => ⟨(hGl j (by omega)).1, (hGl j (by omega)).2.1, role_sm hI (by omega)⟩) (i := g) (by omega)) rfl rfl ⟨Nat.le_of_ble_eq_true rfl, Nat.le_of_ble_eq_true rfl⟩ hrg rfl rfl (Nat.le_of_ble_eq_true rfl) d_Fam_positive_5 ⟨by omega, by omega⟩ (mv_x ?_)
  show mv_G X Q (kk V) 6 8 [(0, .ref x), (1, .int (iI (g))), (2, .int (iI (t))), (3, .int (iI (ar)))] [va_rf (if 0 ≤ g ∧ g < ((S.2.2.1 : Nat) : Int) ∧ (S.2.2.2 (g).toNat).1 = 3 then some (ga (g).toNat) else none)] M 0 0
  refine mv_astore (lv' := [(4, va_rf (if 0 ≤ g ∧ g < ((S.2.2.1 : Nat) : Int) ∧ (S.2.2.2 (g).toNat).1 = 3 then some (ga (g).toNat) else none)), (0, .ref x), (1, .int (iI (g))), (2, .int (iI (t))), (3, .int (iI (ar)))]) B d_Fam_positive_8 (by decide) rfl ?_
  refine mv_aloadR_n B d_Fam_positive_10 rfl 1 rfl ?_
  refine gf_Fam_13 B hx rfl d_Fam_positive_11 ?_
  refine mv_iload_n B d_Fam_positive_14 rfl 3 rfl ?_
  refine ca_Fam_65 (mc := 0) (ms := 0) (As := [.int (iI (t))]) (rest := []) B (m_Shelf_find hsh htr (by omega) (i := t) (by omega)) rfl rfl ⟨Nat.le_of_ble_eq_true rfl, Nat.le_of_ble_eq_true rfl⟩ hsh rfl rfl (Nat.le_of_ble_eq_true rfl) d_Fam_positive_15 ⟨by omega, by omega⟩ (mv_x ?_)
  show mv_G X Q (kk V) 6 18 [(4, va_rf (if 0 ≤ g ∧ g < ((S.2.2.1 : Nat) : Int) ∧ (S.2.2.2 (g).toNat).1 = 3 then some (ga (g).toNat) else none)), (0, .ref x), (1, .int (iI (g))), (2, .int (iI (t))), (3, .int (iI (ar)))] [va_rf (if 0 ≤ t ∧ t < ((S.1 : Nat) : Int) then f (t).toNat else none)] M 0 0
  refine mv_astore (lv' := [(5, va_rf (if 0 ≤ t ∧ t < ((S.1 : Nat) : Int) then f (t).toNat else none)), (4, va_rf (if 0 ≤ g ∧ g < ((S.2.2.1 : Nat) : Int) ∧ (S.2.2.2 (g).toNat).1 = 3 then some (ga (g).toNat) else none)), (0, .ref x), (1, .int (iI (g))), (2, .int (iI (t))), (3, .int (iI (ar)))]) B d_Fam_positive_18 (by decide) (by unfold mv_sl; simp only [List.filter, vrf_c]; rfl) ?_
  refine mv_aload B d_Fam_positive_20 1 rfl ?_
  refine mv_ifnull (tgt := 37) B d_Fam_positive_22 (by decide) (fun c1 => ?_) (fun a2 c1 => ?_)
  · have hng : ¬ (0 ≤ g ∧ g < ((S.2.2.1 : Nat) : Int) ∧ (S.2.2.2 (g).toNat).1 = 3) := by
      intro q
      rw [if_pos q] at c1
      cases c1
    refine mv_iconst (z := -1) B d_Fam_positive_37 rfl ?_
    rw [hQ]
    exact mv_iret B ⟨by unfold aPo; rw [if_neg (show ¬ (okG S g ∧ (S.2.2.2 g.toNat).1 = 3 ∧ 0 ≤ t ∧ t < ((S.1 : Nat) : Int) ∧ 0 ≤ ar ∧ ar ≤ 100) by omega)], ⟨sh, rg, rd, mk, trow, grow, dep, hT, tq, tt, ga, ca, f, gf, hP⟩⟩ (by omega) (by omega) d_Fam_positive_38
  · have hig : 0 ≤ g ∧ g < ((S.2.2.1 : Nat) : Int) ∧ (S.2.2.2 (g).toNat).1 = 3 := by
      apply Classical.byContradiction
      intro q
      rw [if_neg q] at c1
      cases c1
    have hgg := hGl (g).toNat (by omega)
    rw [if_pos hig]
    show mv_G X Q (kk V) 6 25 [(5, va_rf (if 0 ≤ t ∧ t < ((S.1 : Nat) : Int) then f (t).toNat else none)), (4, .ref ((ga (g).toNat))), (0, .ref x), (1, .int (iI (g))), (2, .int (iI (t))), (3, .int (iI (ar)))] [] M 0 0
    refine mv_aload B d_Fam_positive_25 0 rfl ?_
    refine mv_ifnull (tgt := 37) B d_Fam_positive_27 (by decide) (fun c3 => ?_) (fun a4 c3 => ?_)
    · have hnt : ¬ (0 ≤ t ∧ t < ((S.1 : Nat) : Int)) := by
        intro q
        rw [if_pos q, (hTm (t).toNat (by omega)).1] at c3
        cases c3
      refine mv_iconst (z := -1) B d_Fam_positive_37 rfl ?_
      rw [hQ]
      exact mv_iret B ⟨by unfold aPo; rw [if_neg (show ¬ (okG S g ∧ (S.2.2.2 g.toNat).1 = 3 ∧ 0 ≤ t ∧ t < ((S.1 : Nat) : Int) ∧ 0 ≤ ar ∧ ar ≤ 100) by omega)], ⟨sh, rg, rd, mk, trow, grow, dep, hT, tq, tt, ga, ca, f, gf, hP⟩⟩ (by omega) (by omega) d_Fam_positive_38
    · have hit : 0 ≤ t ∧ t < ((S.1 : Nat) : Int) := by
        apply Classical.byContradiction
        intro q
        rw [if_neg q] at c3
        cases c3
      have htt := hTm (t).toNat (by omega)
      rw [if_pos hit, htt.1]
      show mv_G X Q (kk V) 6 30 [(5, .ref ((hT (t).toNat))), (4, .ref ((ga (g).toNat))), (0, .ref x), (1, .int (iI (g))), (2, .int (iI (t))), (3, .int (iI (ar)))] [] M 0 0
      refine mv_iload_n B d_Fam_positive_30 rfl 5 rfl ?_
      refine ca_Fam_133 (mc := 0) (ms := 0) (As := [.int (iI (ar))]) (rest := []) B (m_Fam_isNumber (n := ar) (by omega)) rfl rfl ⟨Nat.le_of_ble_eq_true rfl, Nat.le_of_ble_eq_true rfl⟩ rfl rfl (Nat.le_of_ble_eq_true rfl) d_Fam_positive_31 ⟨by omega, by omega⟩ (mv_x ?_)
      show mv_G X Q (kk V) 6 34 [(5, .ref ((hT (t).toNat))), (4, .ref ((ga (g).toNat))), (0, .ref x), (1, .int (iI (g))), (2, .int (iI (t))), (3, .int (iI (ar)))] [.int (iI (if 0 ≤ ar ∧ ar ≤ 100 then 1 else 0))] M 0 0
      refine mv_if_ne (tgt := 39) B d_Fam_positive_34 (by decide) (by first | omega | (split <;> omega)) (fun c5 => ?_) (fun c5 => ?_)
      · have han : 0 ≤ ar ∧ ar ≤ 100 := by
          apply Classical.byContradiction
          intro q
          rw [if_neg q] at c5
          omega
        refine mv_aloadR_n B d_Fam_positive_39 rfl 2 rfl ?_
        refine gf_Fam_26 B hx rfl d_Fam_positive_40 ?_
        refine mv_aloadR B d_Fam_positive_43 1 rfl ?_
        refine mv_aloadR B d_Fam_positive_45 0 rfl ?_
        refine mv_iconst (z := 0) B d_Fam_positive_47 rfl ?_
        refine mv_aloadR B d_Fam_positive_48 1 rfl ?_
        refine gf_Fam_105 B hgg.2.1 rfl d_Fam_positive_50 ?_
        refine mv_iload_n B d_Fam_positive_53 rfl 5 rfl ?_
        refine mv_iadd B d_Fam_positive_54 ?_
        obtain ⟨t0, -, -, -, -, hpb, -⟩ := fam_b hI (g := g.toNat) (by omega) hig.2.2
        refine ca_Fam_137 (mc := 0) (ms := 0) (As := [.ref ((ga (g).toNat)), .ref ((hT (t).toNat)), .int (iI (0)), .int (iI ((((S.2.2.2 (g).toNat).2.2.1 : Nat) : Int) + ar))]) (rest := []) B (m_Reader_standing hrd htt.2.1.at htt.2.2.1 (fa := faO S ga g.toNat) (co := coO S ca g.toNat) (tl := tdO S hT g.toNat) hgg.2.1 (r := 0) (ou := (((S.2.2.2 g.toNat).2.2.1 : Nat) : Int) + ar) (by omega) (by omega) (by omega) (by omega) (by omega)) rfl rfl ⟨Nat.le_of_ble_eq_true rfl, Nat.le_of_ble_eq_true rfl⟩ hrd rfl rfl (Nat.le_of_ble_eq_true rfl) d_Fam_positive_55 ⟨by omega, by omega⟩ (fun v1 M9 ep => ?_)
        obtain ⟨e1, e2⟩ := ep
        subst e1
        show mv_G X Q (kk V) 6 58 [(5, .ref ((hT (t).toNat))), (4, .ref ((ga (g).toNat))), (0, .ref x), (1, .int (iI (g))), (2, .int (iI (t))), (3, .int (iI (ar)))] [.int (iI (stdV (tt t.toNat) ((g.toNat : Nat) : Int) (((S.2.2.2 g.toNat).2.2.1 : Nat) : Int) (((S.2.2.2 g.toNat).2.2.2.1 : Nat) : Int) 0 ((((S.2.2.2 g.toNat).2.2.1 : Nat) : Int) + ar)))] M9 0 0
        rw [hQ]
        have ho := hI.2.2.2.1 t.toNat (by omega)
        have es := stdV_S htt.2.2.2.1 ho.1 ho.2.2.1 (nu := ((g.toNat : Nat) : Int)) (ar := (((S.2.2.2 g.toNat).2.2.1 : Nat) : Int) + ar) (np := (S.2.2.2 g.toNat).2.2.1) (ni := (S.2.2.2 g.toNat).2.2.2.1) (i := 0) (by have := ho.2.1; omega)
        refine mv_iret B ⟨?_, ?_⟩ (by omega) (by omega) d_Fam_positive_58
        · unfold aPo; rw [if_pos (show okG S g ∧ (S.2.2.2 g.toNat).1 = 3 ∧ 0 ≤ t ∧ t < ((S.1 : Nat) : Int) ∧ 0 ≤ ar ∧ ar ≤ 100 by omega)]; rw [← es]; rfl
        · rw [e2]; split
          · exact ⟨sh, rg, rd, mk, trow, grow, dep, hT, tq, tt, ga, ca, f, gf, hP⟩
          · exact ⟨sh, rg, rd, mk, trow, grow, dep, hT, tq, tt, ga, ca, f, gf, Cls_rd hP⟩
      · have han : ¬ (0 ≤ ar ∧ ar ≤ 100) := by
          intro q
          rw [if_pos q] at c5
          omega
        refine mv_iconst (z := -1) B d_Fam_positive_37 rfl ?_
        rw [hQ]
        exact mv_iret B ⟨by unfold aPo; rw [if_neg (show ¬ (okG S g ∧ (S.2.2.2 g.toNat).1 = 3 ∧ 0 ≤ t ∧ t < ((S.1 : Nat) : Int) ∧ 0 ≤ ar ∧ ar ≤ 100) by omega)], ⟨sh, rg, rd, mk, trow, grow, dep, hT, tq, tt, ga, ca, f, gf, hP⟩⟩ (by omega) (by omega) d_Fam_positive_38
set_option maxRecDepth 100000 in
set_option maxHeartbeats 4000000 in
theorem m_Fam_axiom {l : Launch} {V : mv_V} {M : mv_M} {x sh rg rd mk trow grow dep : Nat} {hT : Nat → Nat} {tq : Nat → Q4} {tt : Nat → Tm} {ga ca : Nat → Nat} {f gf : Nat → Option Nat} {S : SS} (hP : ClsC V M x sh rg rd mk trow grow dep hT tq tt ga ca f gf S) (hJ : Jv S)  : Met l y_Fam_axiom ws_Fam_axiom (rM 3 1 10 80) (mv_Pre (kk V) [.ref x] M) (mv_Q (kk V) (fun z0 M' => z0 = some (.int (iI (aAx S))) ∧ ClsP V M' x (nAx S))) 1 10 V.2.2.2.2 := by
  refine mv_Met (by decide) rfl (Nat.le_of_ble_eq_true rfl) (fun X hX B => ?_)
  subst hX
  replace B : mv_B X (kk V) c_Fam_axiom ws_Fam_axiom "FamilyRules" 1 (Option.some Jvm.ClassFile.FieldType.int) (rM 3 1 10 80) "axiom" := B
  obtain ⟨Q, hQ⟩ : ∃ Q, Q = mv_E X (kk V) (fun z0 M' => z0 = some (.int (iI (aAx S))) ∧ ClsP V M' x (nAx S)) 1 10 := ⟨_, rfl⟩
  rw [← hQ]
  show mv_G X Q (kk V) 1 0 [(0, .ref x)] [] M 0 0
  have hrc : (rM 3 1 10 80).cells = 1 := rfl
  have hrs : (rM 3 1 10 80).slots = 10 := rfl
  obtain ⟨⟨hx, hsh, htr, hrg, hgr, ⟨tm0, al0, fo0, ap0, hrd⟩, ⟨δ, hdp, hδ⟩, ⟨tg0, pl0, src0, P0, ar0, al1, pp0, hmk⟩⟩, hTm, hGl, hIn⟩ := id hP
  have hI := hJ.1
  have hb1 : S.1 ≤ 1500 := hI.1
  have hb2 : S.2.2.1 ≤ 100 := hI.2.1
  have hb3 : bs S.2.1 S.1 ≤ 30000 := hI.2.2.1
  refine mv_aloadR_n B d_Fam_axiom_0 rfl 0 rfl ?_
  refine gf_Fam_22 B hx rfl d_Fam_axiom_1 ?_
  refine ca_Fam_61 (mc := 1) (ms := 10) (rm' := rM 2 1 10 50) (As := []) (rest := []) B (m_Register_addAxiom hrg hgr (by omega)) rfl rfl ⟨Nat.le_of_ble_eq_true rfl, Nat.le_of_ble_eq_true rfl⟩ hrg rfl rfl (Nat.le_of_ble_eq_true rfl) d_Fam_axiom_4 ⟨by omega, by omega⟩ (fun v1 M9 ep => ?_)
  rw [hQ]
  rcases ep with ⟨h1, h2, h3⟩ | ⟨h1, h2, g9, h3, h4⟩
  · subst h2
    exact mv_iret B ⟨by unfold aAx; rw [if_pos (by omega)], by unfold nAx; rw [if_pos (by omega), h3]; exact ⟨sh, rg, rd, mk, trow, grow, dep, hT, tq, tt, ga, ca, f, gf, hP⟩⟩ (by omega) (by omega) d_Fam_axiom_7
  · subst h2
    exact mv_iret B ⟨by unfold aAx; rw [if_neg (by omega)], by unfold nAx; rw [if_neg (by omega), h4]; exact Cls_ax hP hJ (by omega) h3⟩ (by omega) (by omega) d_Fam_axiom_7
