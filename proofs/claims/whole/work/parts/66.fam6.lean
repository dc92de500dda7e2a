theorem jdS_r (xs : List Nd) (nu : Int) (np ni i : Nat) (ar : Int) : 0 ≤ jdS xs nu np ni i ar ∧ jdS xs nu np ni i ar ≤ 2 := by
  unfold jdS
  split
  · omega
  · split <;> omega
theorem td_n {S : SS} {hT : Nat → Nat} {g : Nat} : tdO S hT g = none ↔ (S.2.2.2 g).2.2.2.2.2.1 = none := by
  unfold tdO
  cases (S.2.2.2 g).2.2.2.2.2.1 <;> simp
theorem Cls_co {V : mv_V} {M : mv_M} {x sh rg rd mk trow grow dep : Nat} {hT : Nat → Nat} {tq : Nat → Q4} {tt : Nat → Tm} {ga ca : Nat → Nat} {f gf : Nat → Option Nat} {S : SS} (h : ClsC V M x sh rg rd mk trow grow dep hT tq tt ga ca f gf S) (hJ : Jv S) {g t : Int} (ok : okC S g t) : ClsP V (mv_up M (ga g.toNat) (.inr (2, [.int (iI ((g.toNat : Nat) : Int)), .int (iI ((S.2.2.2 g.toNat).1)), .int (iI (((S.2.2.2 g.toNat).2.2.1 : Nat) : Int)), .int (iI (((S.2.2.2 g.toNat).2.2.2.1 : Nat) : Int)), .int (iI (((S.2.2.2 g.toNat).2.2.2.2.1 : Nat) : Int)), va_rf (faO S ga g.toNat), va_rf (coO S ca g.toNat), .ref (hT t.toNat), .int (iI ((nA (S.2.1 t.toNat) 0 - (S.2.2.2 g.toNat).2.2.1 : Nat) : Int)), .int (iI ((cnB (rcS (S.2.1 t.toNat) (((S.2.2.2 g.toNat).2.1 : Nat) : Int) (S.2.2.2 g.toNat).2.2.1 (S.2.2.2 g.toNat).2.2.2.1) (nA (S.2.1 t.toNat) 0 - (S.2.2.2 g.toNat).2.2.1) : Nat) : Int))]))) x (S.1, S.2.1, S.2.2.1, va_up S.2.2.2 g.toNat (coG S g t)) := by
  obtain ⟨⟨hx, hsh, htr, hrg, hgr, ⟨tm0, al0, fo0, ap0, hrd⟩, ⟨δ, hdp, hδ⟩, ⟨tg0, pl0, src0, P0, ar0, al1, pp0, hmk⟩⟩, hTm, hGl, hIn⟩ := id h
  obtain ⟨o1, o2, o3, o4, o5, o6, o7, o8, o9⟩ := id ok
  have hgc := (hGl g.toNat (by omega)).2.1
  have keep : ∀ y e, M y = some e → y ≠ ga g.toNat → ∀ c, mv_up M (ga g.toNat) c y = some e := fun y e hy a c => by rw [mv_un a]; exact hy
  have f5 : ∀ y, (va_up S.2.2.2 g.toNat (coG S g t) y).1 = (S.2.2.2 y).1 ∧ (va_up S.2.2.2 g.toNat (coG S g t) y).2.1 = (S.2.2.2 y).2.1 ∧ (va_up S.2.2.2 g.toNat (coG S g t) y).2.2.1 = (S.2.2.2 y).2.2.1 ∧ (va_up S.2.2.2 g.toNat (coG S g t) y).2.2.2.1 = (S.2.2.2 y).2.2.2.1 ∧ (va_up S.2.2.2 g.toNat (coG S g t) y).2.2.2.2.1 = (S.2.2.2 y).2.2.2.2.1 := by
    intro y
    by_cases z : y = g.toNat
    · subst z; rw [va_us]; exact ⟨o3.symm, rfl, rfl, rfl, rfl⟩
    · rw [va_un z]; exact ⟨rfl, rfl, rfl, rfl, rfl⟩
  refine ⟨sh, rg, rd, mk, trow, grow, dep, hT, tq, tt, ga, ca, f, gf, ⟨keep _ _ hx (mv_ne hx hgc (by simp)) _, keep _ _ hsh (mv_ne hsh hgc (by simp)) _, keep _ _ htr (mv_ne htr hgc (by simp)) _, keep _ _ hrg (mv_ne hrg hgc (by simp)) _, keep _ _ hgr (mv_ne hgr hgc (by simp)) _, ⟨_, _, _, _, keep _ _ hrd (mv_ne hrd hgc (by simp)) _⟩, ⟨δ, keep _ _ hdp (mv_ne hdp hgc (by simp)) _, hδ⟩, ⟨_, _, _, _, _, _, _, keep _ _ hmk (mv_ne hmk hgc (by simp)) _⟩⟩, fun u hu => ?_, fun y hy => ?_, hIn⟩
  · obtain ⟨a, hC, b⟩ := hTm u hu
    exact ⟨a, ⟨keep _ _ hC.1 (mv_ne hC.1 hgc (by simp)) _, keep _ _ hC.2.1 (mv_ne hC.2.1 hgc (by simp)) _, keep _ _ hC.2.2.1 (mv_ne hC.2.2.1 hgc (by simp)) _, keep _ _ hC.2.2.2.1 (mv_ne hC.2.2.2.1 hgc (by simp)) _, keep _ _ hC.2.2.2.2.1 (mv_ne hC.2.2.2.2.1 hgc (by simp)) _, hC.2.2.2.2.2⟩, b⟩
  · have hy' : y < S.2.2.1 := hy
    obtain ⟨a, hG, hc⟩ := hGl y hy'
    obtain ⟨p1, p2, p3, p4, p5⟩ := f5 y
    refine ⟨a, ?_, fun h3 => ?_⟩
    · by_cases z : y = g.toNat
      · subst z
        rw [mv_us]
        unfold glO
        have e1 : faO (S.1, S.2.1, S.2.2.1, va_up S.2.2.2 g.toNat (coG S g t)) ga g.toNat = faO S ga g.toNat := by unfold faO; simp only [p1, p2]
        have e2 : coO (S.1, S.2.1, S.2.2.1, va_up S.2.2.2 g.toNat (coG S g t)) ca g.toNat = coO S ca g.toNat := by unfold coO; simp only [p1]
        have e3 : tdO (S.1, S.2.1, S.2.2.1, va_up S.2.2.2 g.toNat (coG S g t)) hT g.toNat = some (hT t.toNat) := by unfold tdO; simp only [va_us]; rfl
        have e4 : agO (S.1, S.2.1, S.2.2.1, va_up S.2.2.2 g.toNat (coG S g t)) g.toNat = ((nA (S.2.1 t.toNat) 0 - (S.2.2.2 g.toNat).2.2.1 : Nat) : Int) := by
          unfold agO otS
          simp only [p1, o3, if_true, va_us]
          rfl
        have e5 : (va_up S.2.2.2 g.toNat (coG S g t) g.toNat).2.2.2.2.2.2.2 = cnB (rcS (S.2.1 t.toNat) (((S.2.2.2 g.toNat).2.1 : Nat) : Int) (S.2.2.2 g.toNat).2.2.1 (S.2.2.2 g.toNat).2.2.2.1) (nA (S.2.1 t.toNat) 0 - (S.2.2.2 g.toNat).2.2.1) := by rw [va_us]; rfl
        rw [e1, e2, e3, e4]
        simp only [p1, p3, p4, p5, e5]
        rfl
      · have ne : ga y ≠ ga g.toNat := fun w => z (hIn y g.toNat hy' (by omega) w)
        rw [mv_un ne, hG]
        unfold glO faO coO tdO agO otS
        simp only [va_un z]
    · have h3' : (va_up S.2.2.2 g.toNat (coG S g t) y).1 = 3 := h3
      rw [p1] at h3'
      obtain ⟨b, cf, hcf, kk⟩ := hc h3'
      refine ⟨b, cf, ?_, fun i hi => kk i (by have hi' : i < (va_up S.2.2.2 g.toNat (coG S g t) y).2.2.2.2.1 := hi; rw [p5] at hi'; exact hi')⟩
      show _ = some (gA V (va_up S.2.2.2 g.toNat (coG S g t) y).2.2.2.2.1 cf)
      rw [p5]
      exact keep _ _ hcf (mv_ne hcf hgc (by simp)) _
set_option maxRecDepth 100000 in
set_option maxHeartbeats 4000000 in
theorem m_Fam_tell {l : Launch} {V : mv_V} {M : mv_M} {x sh rg rd mk trow grow dep : Nat} {hT : Nat → Nat} {tq : Nat → Q4} {tt : Nat → Tm} {ga ca : Nat → Nat} {f gf : Nat → Option Nat} {S : SS} (hP : ClsC V M x sh rg rd mk trow grow dep hT tq tt ga ca f gf S) (hJ : Jv S) {g t : Int} (hok : okC S g t) : Met l y_Fam_tell ws_Fam_tell (rM 4 0 0 100) (mv_Pre (kk V) [.ref x, .ref ((ga g.toNat)), .ref ((ga (S.2.2.2 g.toNat).2.1)), .ref ((hT t.toNat)), .int (iI ((((nA (S.2.1 t.toNat) 0 - (S.2.2.2 g.toNat).2.2.1) : Nat) : Int)))] M) (mv_Q (kk V) (fun z0 M' => z0 = some (.int (iI (aCo S g t))) ∧ ClsP V M' x (nCo S g t))) 0 0 V.2.2.2.2 := by
  refine mv_Met (by decide) rfl (Nat.le_of_ble_eq_true rfl) (fun X hX B => ?_)
  subst hX
  replace B : mv_B X (kk V) c_Fam_tell ws_Fam_tell "FamilyRules" 9 (Option.some Jvm.ClassFile.FieldType.int) (rM 4 0 0 100) "tell" := B
  obtain ⟨Q, hQ⟩ : ∃ Q, Q = mv_E X (kk V) (fun z0 M' => z0 = some (.int (iI (aCo S g t))) ∧ ClsP V M' x (nCo S g t)) 0 0 := ⟨_, rfl⟩
  rw [← hQ]
  show mv_G X Q (kk V) 9 0 [(0, .ref x), (1, .ref ((ga g.toNat))), (2, .ref ((ga (S.2.2.2 g.toNat).2.1))), (3, .ref ((hT t.toNat))), (4, .int (iI ((((nA (S.2.1 t.toNat) 0 - (S.2.2.2 g.toNat).2.2.1) : Nat) : Int))))] [] M 0 0
  obtain ⟨⟨hx, hsh, htr, hrg, hgr, ⟨tm0, al0, fo0, ap0, hrd⟩, ⟨δ, hdp, hδ⟩, ⟨tg0, pl0, src0, P0, ar0, al1, pp0, hmk⟩⟩, hTm, hGl, hIn⟩ := id hP
  have hI := hJ.1
  have hb1 : S.1 ≤ 1500 := hI.1
  have hb2 : S.2.2.1 ≤ 100 := hI.2.1
  have hb3 : bs S.2.1 S.1 ≤ 30000 := hI.2.2.1
  obtain ⟨o1, o2, o3, o4, o5, o6, o7, o8, o9⟩ := id hok
  have hTo := okC_T hI hok
  have ho := hI.2.2.2.1 t.toNat (by omega)
  have htt := hTm t.toNat (by omega)
  obtain ⟨c1, c2, c3, c4, c5, -, -⟩ := con_b hI (g := g.toNat) (by omega) o3
  have hgd := hGl (S.2.2.2 g.toNat).2.1 (by omega)
  obtain ⟨t0, -, -, -, -, hpb, -⟩ := fam_b hI (g := (S.2.2.2 g.toNat).2.1) (by omega) c2
  have hna := nA_ok ho.1 ho.2.2.1 (i := 0) (by have := ho.2.1; omega)
  have hln := ho.2.2.1
  have hna1 := hna.2.1
  have hna2 := hna.2.2
  refine mv_aloadR_n B d_Fam_tell_0 rfl 3 rfl ?_
  refine mv_aloadR_n B d_Fam_tell_1 rfl 2 rfl ?_
  refine gf_Fam_105 B hgd.2.1 rfl d_Fam_tell_2 ?_
  refine ca_Fam_186 (mc := 0) (ms := 0) (As := [.int (iI ((((S.2.2.2 (S.2.2.2 g.toNat).2.1).2.2.1 : Nat) : Int)))]) (rest := []) B (m_Term_behindAlls htt.2.1.at htt.2.2.1 (n := (((S.2.2.2 (S.2.2.2 g.toNat).2.1).2.2.1 : Nat) : Int)) (by omega)) rfl rfl ⟨Nat.le_of_ble_eq_true rfl, Nat.le_of_ble_eq_true rfl⟩ htt.2.1.1 rfl rfl (Nat.le_of_ble_eq_true rfl) d_Fam_tell_5 ⟨by omega, by omega⟩ (mv_x ?_)
  show mv_G X Q (kk V) 9 8 [(0, .ref x), (1, .ref ((ga g.toNat))), (2, .ref ((ga (S.2.2.2 g.toNat).2.1))), (3, .ref ((hT t.toNat))), (4, .int (iI ((((nA (S.2.1 t.toNat) 0 - (S.2.2.2 g.toNat).2.2.1) : Nat) : Int))))] [.int (iI (beh (tt t.toNat) (Int.toNat ((((S.2.2.2 (S.2.2.2 g.toNat).2.1).2.2.1 : Nat) : Int)))))] M 0 0
  rw [show beh (tt t.toNat) (Int.toNat ((((S.2.2.2 (S.2.2.2 g.toNat).2.1).2.2.1 : Nat) : Int))) = ((unS (S.2.1 t.toNat) (unS (S.2.1 t.toNat) 0 (S.2.2.2 g.toNat).2.2.1) 0 : Nat) : Int) from by rw [← c3]; exact rPos_S htt.2.2.2.1 hTo (Nat.zero_le _)]
  show mv_G X Q (kk V) 9 8 [(0, .ref x), (1, .ref ((ga g.toNat))), (2, .ref ((ga (S.2.2.2 g.toNat).2.1))), (3, .ref ((hT t.toNat))), (4, .int (iI ((((nA (S.2.1 t.toNat) 0 - (S.2.2.2 g.toNat).2.2.1) : Nat) : Int))))] [.int (iI (((unS (S.2.1 t.toNat) (unS (S.2.1 t.toNat) 0 (S.2.2.2 g.toNat).2.2.1) 0 : Nat) : Int)))] M 0 0
  refine mv_istore (lv' := [(5, .int (iI (((unS (S.2.1 t.toNat) (unS (S.2.1 t.toNat) 0 (S.2.2.2 g.toNat).2.2.1) 0 : Nat) : Int)))), (0, .ref x), (1, .ref ((ga g.toNat))), (2, .ref ((ga (S.2.2.2 g.toNat).2.1))), (3, .ref ((hT t.toNat))), (4, .int (iI ((((nA (S.2.1 t.toNat) 0 - (S.2.2.2 g.toNat).2.2.1) : Nat) : Int))))]) B d_Fam_tell_8 (by decide) rfl ?_
  refine mv_iconst (z := 0) B d_Fam_tell_10 rfl ?_
  refine mv_istore (lv' := [(6, .int (iI (0))), (5, .int (iI (((unS (S.2.1 t.toNat) (unS (S.2.1 t.toNat) 0 (S.2.2.2 g.toNat).2.2.1) 0 : Nat) : Int)))), (0, .ref x), (1, .ref ((ga g.toNat))), (2, .ref ((ga (S.2.2.2 g.toNat).2.1))), (3, .ref ((hT t.toNat))), (4, .int (iI ((((nA (S.2.1 t.toNat) 0 - (S.2.2.2 g.toNat).2.2.1) : Nat) : Int))))]) B d_Fam_tell_11 (by decide) rfl ?_
  refine mv_iconst (z := 0) B d_Fam_tell_13 rfl ?_
  refine mv_istore (lv' := [(7, .int (iI (0))), (6, .int (iI (0))), (5, .int (iI (((unS (S.2.1 t.toNat) (unS (S.2.1 t.toNat) 0 (S.2.2.2 g.toNat).2.2.1) 0 : Nat) : Int)))), (0, .ref x), (1, .ref ((ga g.toNat))), (2, .ref ((ga (S.2.2.2 g.toNat).2.1))), (3, .ref ((hT t.toNat))), (4, .int (iI ((((nA (S.2.1 t.toNat) 0 - (S.2.2.2 g.toNat).2.2.1) : Nat) : Int))))]) B d_Fam_tell_14 (by decide) rfl ?_
  have L16 : ∀ (fu : Nat) (j : Nat) (My1 : mv_M), (j ≤ (nA (S.2.1 t.toNat) 0 - (S.2.2.2 g.toNat).2.2.1)) → (∀ i, i < j → ¬ jdS (S.2.1 t.toNat) (((S.2.2.2 g.toNat).2.1 : Nat) : Int) (S.2.2.2 g.toNat).2.2.1 (S.2.2.2 g.toNat).2.2.2.1 (rtS (S.2.1 t.toNat) (S.2.2.2 g.toNat).2.2.1 i) (((S.2.2.2 g.toNat).2.2.1 + i : Nat) : Int) = 0) → (ClsC V My1 x sh rg rd mk trow grow dep hT tq tt ga ca f gf S) → ((nA (S.2.1 t.toNat) 0 - (S.2.2.2 g.toNat).2.2.1) - j) < fu → mv_G X Q (kk V) 9 16 [(7, .int (iI (((j : Nat) : Int)))), (6, .int (iI (((cnB (rcS (S.2.1 t.toNat) (((S.2.2.2 g.toNat).2.1 : Nat) : Int) (S.2.2.2 g.toNat).2.2.1 (S.2.2.2 g.toNat).2.2.2.1) j : Nat) : Int)))), (5, .int (iI (((unS (S.2.1 t.toNat) (unS (S.2.1 t.toNat) 0 (S.2.2.2 g.toNat).2.2.1) j : Nat) : Int)))), (0, .ref x), (1, .ref ((ga g.toNat))), (2, .ref ((ga (S.2.2.2 g.toNat).2.1))), (3, .ref ((hT t.toNat))), (4, .int (iI ((((nA (S.2.1 t.toNat) 0 - (S.2.2.2 g.toNat).2.2.1) : Nat) : Int))))] [] My1 0 0 := by
    intro fu
    induction fu with
    | zero => intro j My1 hj hnz hPl hm; exact absurd hm (Nat.not_lt_zero _)
    | succ fu ih16 =>
      intro j My1 hj hnz hPl hm
      obtain ⟨⟨hxl, -, -, -, -, ⟨tml, all, fol, apl, hrdl⟩, -, -⟩, hTml, hGll, -⟩ := id hPl
      have httl := hTml t.toNat (by omega)
      have hgdl := hGll (S.2.2.2 g.toNat).2.1 (by omega)
      have hgcl := hGll g.toNat (by omega)
      have hcb := cnB_le (rcS (S.2.1 t.toNat) (((S.2.2.2 g.toNat).2.1 : Nat) : Int) (S.2.2.2 g.toNat).2.2.1 (S.2.2.2 g.toNat).2.2.2.1) j
      refine mv_iload B d_Fam_tell_16 0 rfl ?_
      refine mv_iload B d_Fam_tell_18 7 rfl ?_
      refine mv_icmp_ge (tgt := 79) B d_Fam_tell_20 (by decide) (by first | omega | (split <;> omega)) (by first | omega | (split <;> omega)) (fun c1 => ?_) (fun c1 => ?_)
      · have ej : (nA (S.2.1 t.toNat) 0 - (S.2.2.2 g.toNat).2.2.1) = j := by omega
        subst ej
        refine mv_aloadR_n B d_Fam_tell_79 rfl 4 rfl ?_
        refine mv_aloadR_n B d_Fam_tell_80 rfl 6 rfl ?_
        refine pf_Fam_95 B hgcl.2.1 rfl rfl (Nat.le_of_ble_eq_true rfl) d_Fam_tell_81 ?_
        show mv_G X Q (kk V) 9 84 [(7, .int (iI ((((nA (S.2.1 t.toNat) 0 - (S.2.2.2 g.toNat).2.2.1) : Nat) : Int)))), (6, .int (iI (((cnB (rcS (S.2.1 t.toNat) (((S.2.2.2 g.toNat).2.1 : Nat) : Int) (S.2.2.2 g.toNat).2.2.1 (S.2.2.2 g.toNat).2.2.2.1) (nA (S.2.1 t.toNat) 0 - (S.2.2.2 g.toNat).2.2.1) : Nat) : Int)))), (5, .int (iI (((unS (S.2.1 t.toNat) (unS (S.2.1 t.toNat) 0 (S.2.2.2 g.toNat).2.2.1) (nA (S.2.1 t.toNat) 0 - (S.2.2.2 g.toNat).2.2.1) : Nat) : Int)))), (0, .ref x), (1, .ref ((ga g.toNat))), (2, .ref ((ga (S.2.2.2 g.toNat).2.1))), (3, .ref ((hT t.toNat))), (4, .int (iI ((((nA (S.2.1 t.toNat) 0 - (S.2.2.2 g.toNat).2.2.1) : Nat) : Int))))] [] (mv_up My1 (ga g.toNat) (.inr (2, [.int (iI (((g.toNat : Nat) : Int))), .int (iI ((S.2.2.2 g.toNat).1)), .int (iI ((((S.2.2.2 g.toNat).2.2.1 : Nat) : Int))), .int (iI ((((S.2.2.2 g.toNat).2.2.2.1 : Nat) : Int))), .int (iI ((((S.2.2.2 g.toNat).2.2.2.2.1 : Nat) : Int))), va_rf (faO S ga g.toNat), va_rf (coO S ca g.toNat), .ref ((hT t.toNat)), .int (iI (agO S g.toNat)), .int (iI ((((S.2.2.2 g.toNat).2.2.2.2.2.2.2 : Nat) : Int)))]))) 0 0
        obtain ⟨M2, hM3⟩ : ∃ My : mv_M, My = mv_up My1 (ga g.toNat) (.inr (2, [.int (iI (((g.toNat : Nat) : Int))), .int (iI ((S.2.2.2 g.toNat).1)), .int (iI ((((S.2.2.2 g.toNat).2.2.1 : Nat) : Int))), .int (iI ((((S.2.2.2 g.toNat).2.2.2.1 : Nat) : Int))), .int (iI ((((S.2.2.2 g.toNat).2.2.2.2.1 : Nat) : Int))), va_rf (faO S ga g.toNat), va_rf (coO S ca g.toNat), .ref ((hT t.toNat)), .int (iI (agO S g.toNat)), .int (iI ((((S.2.2.2 g.toNat).2.2.2.2.2.2.2 : Nat) : Int)))])) := ⟨_, rfl⟩
        rw [← hM3]
        have hf4 : M2 (ga g.toNat) = some (.inr (2, [.int (iI (((g.toNat : Nat) : Int))), .int (iI ((S.2.2.2 g.toNat).1)), .int (iI ((((S.2.2.2 g.toNat).2.2.1 : Nat) : Int))), .int (iI ((((S.2.2.2 g.toNat).2.2.2.1 : Nat) : Int))), .int (iI ((((S.2.2.2 g.toNat).2.2.2.2.1 : Nat) : Int))), va_rf (faO S ga g.toNat), va_rf (coO S ca g.toNat), .ref ((hT t.toNat)), .int (iI (agO S g.toNat)), .int (iI ((((S.2.2.2 g.toNat).2.2.2.2.2.2.2 : Nat) : Int)))])) := by rw [hM3]; exact mv_us
        refine mv_aloadR_n B d_Fam_tell_84 rfl 4 rfl ?_
        refine mv_iload B d_Fam_tell_85 7 rfl ?_
        refine pf_Fam_121 B hf4 rfl rfl (Nat.le_of_ble_eq_true rfl) d_Fam_tell_87 ?_
        show mv_G X Q (kk V) 9 90 [(7, .int (iI ((((nA (S.2.1 t.toNat) 0 - (S.2.2.2 g.toNat).2.2.1) : Nat) : Int)))), (6, .int (iI (((cnB (rcS (S.2.1 t.toNat) (((S.2.2.2 g.toNat).2.1 : Nat) : Int) (S.2.2.2 g.toNat).2.2.1 (S.2.2.2 g.toNat).2.2.2.1) (nA (S.2.1 t.toNat) 0 - (S.2.2.2 g.toNat).2.2.1) : Nat) : Int)))), (5, .int (iI (((unS (S.2.1 t.toNat) (unS (S.2.1 t.toNat) 0 (S.2.2.2 g.toNat).2.2.1) (nA (S.2.1 t.toNat) 0 - (S.2.2.2 g.toNat).2.2.1) : Nat) : Int)))), (0, .ref x), (1, .ref ((ga g.toNat))), (2, .ref ((ga (S.2.2.2 g.toNat).2.1))), (3, .ref ((hT t.toNat))), (4, .int (iI ((((nA (S.2.1 t.toNat) 0 - (S.2.2.2 g.toNat).2.2.1) : Nat) : Int))))] [] (mv_up M2 (ga g.toNat) (.inr (2, [.int (iI (((g.toNat : Nat) : Int))), .int (iI ((S.2.2.2 g.toNat).1)), .int (iI ((((S.2.2.2 g.toNat).2.2.1 : Nat) : Int))), .int (iI ((((S.2.2.2 g.toNat).2.2.2.1 : Nat) : Int))), .int (iI ((((S.2.2.2 g.toNat).2.2.2.2.1 : Nat) : Int))), va_rf (faO S ga g.toNat), va_rf (coO S ca g.toNat), .ref ((hT t.toNat)), .int (iI ((((nA (S.2.1 t.toNat) 0 - (S.2.2.2 g.toNat).2.2.1) : Nat) : Int))), .int (iI ((((S.2.2.2 g.toNat).2.2.2.2.2.2.2 : Nat) : Int)))]))) 0 0
        obtain ⟨M5, hM6⟩ : ∃ My : mv_M, My = mv_up M2 (ga g.toNat) (.inr (2, [.int (iI (((g.toNat : Nat) : Int))), .int (iI ((S.2.2.2 g.toNat).1)), .int (iI ((((S.2.2.2 g.toNat).2.2.1 : Nat) : Int))), .int (iI ((((S.2.2.2 g.toNat).2.2.2.1 : Nat) : Int))), .int (iI ((((S.2.2.2 g.toNat).2.2.2.2.1 : Nat) : Int))), va_rf (faO S ga g.toNat), va_rf (coO S ca g.toNat), .ref ((hT t.toNat)), .int (iI ((((nA (S.2.1 t.toNat) 0 - (S.2.2.2 g.toNat).2.2.1) : Nat) : Int))), .int (iI ((((S.2.2.2 g.toNat).2.2.2.2.2.2.2 : Nat) : Int)))])) := ⟨_, rfl⟩
        rw [← hM6]
        have hf7 : M5 (ga g.toNat) = some (.inr (2, [.int (iI (((g.toNat : Nat) : Int))), .int (iI ((S.2.2.2 g.toNat).1)), .int (iI ((((S.2.2.2 g.toNat).2.2.1 : Nat) : Int))), .int (iI ((((S.2.2.2 g.toNat).2.2.2.1 : Nat) : Int))), .int (iI ((((S.2.2.2 g.toNat).2.2.2.2.1 : Nat) : Int))), va_rf (faO S ga g.toNat), va_rf (coO S ca g.toNat), .ref ((hT t.toNat)), .int (iI ((((nA (S.2.1 t.toNat) 0 - (S.2.2.2 g.toNat).2.2.1) : Nat) : Int))), .int (iI ((((S.2.2.2 g.toNat).2.2.2.2.2.2.2 : Nat) : Int)))])) := by rw [hM6]; exact mv_us
        refine mv_aloadR_n B d_Fam_tell_90 rfl 4 rfl ?_
        refine mv_iload B d_Fam_tell_91 1 rfl ?_
        refine pf_Fam_141 B hf7 rfl rfl (Nat.le_of_ble_eq_true rfl) d_Fam_tell_93 ?_
        show mv_G X Q (kk V) 9 96 [(7, .int (iI ((((nA (S.2.1 t.toNat) 0 - (S.2.2.2 g.toNat).2.2.1) : Nat) : Int)))), (6, .int (iI (((cnB (rcS (S.2.1 t.toNat) (((S.2.2.2 g.toNat).2.1 : Nat) : Int) (S.2.2.2 g.toNat).2.2.1 (S.2.2.2 g.toNat).2.2.2.1) (nA (S.2.1 t.toNat) 0 - (S.2.2.2 g.toNat).2.2.1) : Nat) : Int)))), (5, .int (iI (((unS (S.2.1 t.toNat) (unS (S.2.1 t.toNat) 0 (S.2.2.2 g.toNat).2.2.1) (nA (S.2.1 t.toNat) 0 - (S.2.2.2 g.toNat).2.2.1) : Nat) : Int)))), (0, .ref x), (1, .ref ((ga g.toNat))), (2, .ref ((ga (S.2.2.2 g.toNat).2.1))), (3, .ref ((hT t.toNat))), (4, .int (iI ((((nA (S.2.1 t.toNat) 0 - (S.2.2.2 g.toNat).2.2.1) : Nat) : Int))))] [] (mv_up M5 (ga g.toNat) (.inr (2, [.int (iI (((g.toNat : Nat) : Int))), .int (iI ((S.2.2.2 g.toNat).1)), .int (iI ((((S.2.2.2 g.toNat).2.2.1 : Nat) : Int))), .int (iI ((((S.2.2.2 g.toNat).2.2.2.1 : Nat) : Int))), .int (iI ((((S.2.2.2 g.toNat).2.2.2.2.1 : Nat) : Int))), va_rf (faO S ga g.toNat), va_rf (coO S ca g.toNat), .ref ((hT t.toNat)), .int (iI ((((nA (S.2.1 t.toNat) 0 - (S.2.2.2 g.toNat).2.2.1) : Nat) : Int))), .int (iI (((cnB (rcS (S.2.1 t.toNat) (((S.2.2.2 g.toNat).2.1 : Nat) : Int) (S.2.2.2 g.toNat).2.2.1 (S.2.2.2 g.toNat).2.2.2.1) (nA (S.2.1 t.toNat) 0 - (S.2.2.2 g.toNat).2.2.1) : Nat) : Int)))]))) 0 0
        obtain ⟨M8, hM9⟩ : ∃ My : mv_M, My = mv_up M5 (ga g.toNat) (.inr (2, [.int (iI (((g.toNat : Nat) : Int))), .int (iI ((S.2.2.2 g.toNat).1)), .int (iI ((((S.2.2.2 g.toNat).2.2.1 : Nat) : Int))), .int (iI ((((S.2.2.2 g.toNat).2.2.2.1 : Nat) : Int))), .int (iI ((((S.2.2.2 g.toNat).2.2.2.2.1 : Nat) : Int))), va_rf (faO S ga g.toNat), va_rf (coO S ca g.toNat), .ref ((hT t.toNat)), .int (iI ((((nA (S.2.1 t.toNat) 0 - (S.2.2.2 g.toNat).2.2.1) : Nat) : Int))), .int (iI (((cnB (rcS (S.2.1 t.toNat) (((S.2.2.2 g.toNat).2.1 : Nat) : Int) (S.2.2.2 g.toNat).2.2.1 (S.2.2.2 g.toNat).2.2.2.1) (nA (S.2.1 t.toNat) 0 - (S.2.2.2 g.toNat).2.2.1) : Nat) : Int)))])) := ⟨_, rfl⟩
        rw [← hM9]
        have hf10 : M8 (ga g.toNat) = some (.inr (2, [.int (iI (((g.toNat : Nat) : Int))), .int (iI ((S.2.2.2 g.toNat).1)), .int (iI ((((S.2.2.2 g.toNat).2.2.1 : Nat) : Int))), .int (iI ((((S.2.2.2 g.toNat).2.2.2.1 : Nat) : Int))), .int (iI ((((S.2.2.2 g.toNat).2.2.2.2.1 : Nat) : Int))), va_rf (faO S ga g.toNat), va_rf (coO S ca g.toNat), .ref ((hT t.toNat)), .int (iI ((((nA (S.2.1 t.toNat) 0 - (S.2.2.2 g.toNat).2.2.1) : Nat) : Int))), .int (iI (((cnB (rcS (S.2.1 t.toNat) (((S.2.2.2 g.toNat).2.1 : Nat) : Int) (S.2.2.2 g.toNat).2.2.1 (S.2.2.2 g.toNat).2.2.2.1) (nA (S.2.1 t.toNat) 0 - (S.2.2.2 g.toNat).2.2.1) : Nat) : Int)))])) := by rw [hM9]; exact mv_us
        refine mv_iload B d_Fam_tell_96 1 rfl ?_
        rw [hQ]
        have hbd : bdC S g t = none := by
          unfold bdC
          exact fbN_n.mpr (fun i hi => by rw [decide_eq_false_iff_not]; exact hnz i hi)
        exact mv_iret B ⟨by unfold aCo; rw [if_pos hok, hbd]; rfl, by unfold nCo; rw [if_pos ⟨hok, hbd⟩, hM9, hM6, hM3, mv_uu, mv_uu]; exact Cls_co hPl hJ hok⟩ (by omega) (by omega) d_Fam_tell_98
      · refine mv_aloadR_n B d_Fam_tell_23 rfl 3 rfl ?_
        refine gf_Fam_26 B hxl rfl d_Fam_tell_24 ?_
        refine mv_aloadR_n B d_Fam_tell_27 rfl 5 rfl ?_
        refine mv_aloadR_n B d_Fam_tell_28 rfl 6 rfl ?_
        refine mv_iload B d_Fam_tell_29 2 rfl ?_
        refine mv_iconst (z := 1) B d_Fam_tell_31 rfl ?_
        refine mv_iadd B d_Fam_tell_32 ?_
        refine mv_aloadR_n B d_Fam_tell_33 rfl 5 rfl ?_
        refine gf_Fam_105 B hgdl.2.1 rfl d_Fam_tell_34 ?_
        refine mv_iload B d_Fam_tell_37 0 rfl ?_
        refine mv_iadd B d_Fam_tell_39 ?_
        have hrj := hTo.r (j := j) (by omega)
        have hlj := ho.2.2.1
        refine ca_Fam_137 (mc := 0) (ms := 0) (As := [.ref ((ga (S.2.2.2 g.toNat).2.1)), .ref ((hT t.toNat)), .int (iI (((unS (S.2.1 t.toNat) (unS (S.2.1 t.toNat) 0 (S.2.2.2 g.toNat).2.2.1) j : Nat) : Int) + 1)), .int (iI ((((S.2.2.2 (S.2.2.2 g.toNat).2.1).2.2.1 : Nat) : Int) + ((j : Nat) : Int)))]) (rest := []) B (m_Reader_standing hrdl httl.2.1.at httl.2.2.1 (fa := faO S ga (S.2.2.2 g.toNat).2.1) (co := coO S ca (S.2.2.2 g.toNat).2.1) (tl := tdO S hT (S.2.2.2 g.toNat).2.1) hgdl.2.1 (r := ((unS (S.2.1 t.toNat) (unS (S.2.1 t.toNat) 0 (S.2.2.2 g.toNat).2.2.1) j : Nat) : Int) + 1) (ou := (((S.2.2.2 (S.2.2.2 g.toNat).2.1).2.2.1 : Nat) : Int) + ((j : Nat) : Int)) (by have := hrj.1; unfold rtS at this; omega) (by omega) (by omega) (by omega) (by omega)) rfl rfl ⟨Nat.le_of_ble_eq_true rfl, Nat.le_of_ble_eq_true rfl⟩ hrdl rfl rfl (Nat.le_of_ble_eq_true rfl) d_Fam_tell_40 ⟨by omega, by omega⟩ (fun v1 M9 ep => ?_)
        obtain ⟨e1, e2⟩ := ep
        subst e1
        have esv : stdV (tt t.toNat) (((S.2.2.2 g.toNat).2.1 : Nat) : Int) (((S.2.2.2 (S.2.2.2 g.toNat).2.1).2.2.1 : Nat) : Int) (((S.2.2.2 (S.2.2.2 g.toNat).2.1).2.2.2.1 : Nat) : Int) (((unS (S.2.1 t.toNat) (unS (S.2.1 t.toNat) 0 (S.2.2.2 g.toNat).2.2.1) j : Nat) : Int) + 1) ((((S.2.2.2 (S.2.2.2 g.toNat).2.1).2.2.1 : Nat) : Int) + ((j : Nat) : Int)) = jdS (S.2.1 t.toNat) (((S.2.2.2 g.toNat).2.1 : Nat) : Int) (S.2.2.2 g.toNat).2.2.1 (S.2.2.2 g.toNat).2.2.2.1 (rtS (S.2.1 t.toNat) (S.2.2.2 g.toNat).2.2.1 j) (((S.2.2.2 g.toNat).2.2.1 + j : Nat) : Int) := by rw [← c3, ← c4]; exact stdV_S httl.2.2.2.1 ho.1 ho.2.2.1 (nu := (((S.2.2.2 g.toNat).2.1 : Nat) : Int)) (ar := ((((S.2.2.2 g.toNat).2.2.1 : Nat) : Int) + ((j : Nat) : Int))) (np := (S.2.2.2 g.toNat).2.2.1) (ni := (S.2.2.2 g.toNat).2.2.2.1) (i := rtS (S.2.1 t.toNat) (S.2.2.2 g.toNat).2.2.1 j) hrj.1
        rw [esv]
        have hP9 : ClsC V M9 x sh rg rd mk trow grow dep hT tq tt ga ca f gf S := by
          rw [e2]
          split
          · exact hPl
          · exact Cls_rd hPl
        obtain ⟨⟨hx9, -, -, -, -, -, -, -⟩, hTm9, hGl9, -⟩ := id hP9
        have htt9 := hTm9 t.toNat (by omega)
        have hgc9 := hGl9 g.toNat (by omega)
        have hjr := jdS_r (S.2.1 t.toNat) (((S.2.2.2 g.toNat).2.1 : Nat) : Int) (S.2.2.2 g.toNat).2.2.1 (S.2.2.2 g.toNat).2.2.2.1 (rtS (S.2.1 t.toNat) (S.2.2.2 g.toNat).2.2.1 j) (((S.2.2.2 g.toNat).2.2.1 + j : Nat) : Int)
        show mv_G X Q (kk V) 9 43 [(7, .int (iI (((j : Nat) : Int)))), (6, .int (iI (((cnB (rcS (S.2.1 t.toNat) (((S.2.2.2 g.toNat).2.1 : Nat) : Int) (S.2.2.2 g.toNat).2.2.1 (S.2.2.2 g.toNat).2.2.2.1) j : Nat) : Int)))), (5, .int (iI (((unS (S.2.1 t.toNat) (unS (S.2.1 t.toNat) 0 (S.2.2.2 g.toNat).2.2.1) j : Nat) : Int)))), (0, .ref x), (1, .ref ((ga g.toNat))), (2, .ref ((ga (S.2.2.2 g.toNat).2.1))), (3, .ref ((hT t.toNat))), (4, .int (iI ((((nA (S.2.1 t.toNat) 0 - (S.2.2.2 g.toNat).2.2.1) : Nat) : Int))))] [.int (iI (jdS (S.2.1 t.toNat) (((S.2.2.2 g.toNat).2.1 : Nat) : Int) (S.2.2.2 g.toNat).2.2.1 (S.2.2.2 g.toNat).2.2.2.1 (rtS (S.2.1 t.toNat) (S.2.2.2 g.toNat).2.2.1 j) (((S.2.2.2 g.toNat).2.2.1 + j : Nat) : Int)))] M9 0 0
        refine mv_istore (lv' := [(8, .int (iI (jdS (S.2.1 t.toNat) (((S.2.2.2 g.toNat).2.1 : Nat) : Int) (S.2.2.2 g.toNat).2.2.1 (S.2.2.2 g.toNat).2.2.2.1 (rtS (S.2.1 t.toNat) (S.2.2.2 g.toNat).2.2.1 j) (((S.2.2.2 g.toNat).2.2.1 + j : Nat) : Int)))), (7, .int (iI (((j : Nat) : Int)))), (6, .int (iI (((cnB (rcS (S.2.1 t.toNat) (((S.2.2.2 g.toNat).2.1 : Nat) : Int) (S.2.2.2 g.toNat).2.2.1 (S.2.2.2 g.toNat).2.2.2.1) j : Nat) : Int)))), (5, .int (iI (((unS (S.2.1 t.toNat) (unS (S.2.1 t.toNat) 0 (S.2.2.2 g.toNat).2.2.1) j : Nat) : Int)))), (0, .ref x), (1, .ref ((ga g.toNat))), (2, .ref ((ga (S.2.2.2 g.toNat).2.1))), (3, .ref ((hT t.toNat))), (4, .int (iI ((((nA (S.2.1 t.toNat) 0 - (S.2.2.2 g.toNat).2.2.1) : Nat) : Int))))]) B d_Fam_tell_43 (by decide) rfl ?_
        refine mv_iload B d_Fam_tell_45 0 rfl ?_
        refine mv_if_ne (tgt := 56) B d_Fam_tell_47 (by decide) (by first | omega | (split <;> omega)) (fun c11 => ?_) (fun c11 => ?_)
        · refine mv_iload B d_Fam_tell_56 0 rfl ?_
          refine mv_iconst (z := 2) B d_Fam_tell_58 rfl ?_
          refine mv_icmp_ne (tgt := 65) B d_Fam_tell_59 (by decide) (by first | omega | (split <;> omega)) (by first | omega | (split <;> omega)) (fun c12 => ?_) (fun c12 => ?_)
          · refine mv_aloadR_n B d_Fam_tell_65 rfl 7 rfl ?_
            refine mv_iload B d_Fam_tell_66 3 rfl ?_
            refine ca_Fam_189 (mc := 0) (ms := 0) (As := [.int (iI (((unS (S.2.1 t.toNat) (unS (S.2.1 t.toNat) 0 (S.2.2.2 g.toNat).2.2.1) j : Nat) : Int)))]) (rest := []) B (m_Term_secondOf htt9.2.1.at htt9.2.2.1 (i := ((unS (S.2.1 t.toNat) (unS (S.2.1 t.toNat) 0 (S.2.2.2 g.toNat).2.2.1) j : Nat) : Int)) (by have := hrj.1; unfold rtS at this; omega)) rfl rfl ⟨Nat.le_of_ble_eq_true rfl, Nat.le_of_ble_eq_true rfl⟩ htt9.2.1.1 rfl rfl (Nat.le_of_ble_eq_true rfl) d_Fam_tell_68 ⟨by omega, by omega⟩ (mv_x ?_)
            show mv_G X Q (kk V) 9 71 [(8, .int (iI (jdS (S.2.1 t.toNat) (((S.2.2.2 g.toNat).2.1 : Nat) : Int) (S.2.2.2 g.toNat).2.2.1 (S.2.2.2 g.toNat).2.2.2.1 (rtS (S.2.1 t.toNat) (S.2.2.2 g.toNat).2.2.1 j) (((S.2.2.2 g.toNat).2.2.1 + j : Nat) : Int)))), (7, .int (iI (((j : Nat) : Int)))), (6, .int (iI (((cnB (rcS (S.2.1 t.toNat) (((S.2.2.2 g.toNat).2.1 : Nat) : Int) (S.2.2.2 g.toNat).2.2.1 (S.2.2.2 g.toNat).2.2.2.1) j : Nat) : Int)))), (5, .int (iI (((unS (S.2.1 t.toNat) (unS (S.2.1 t.toNat) 0 (S.2.2.2 g.toNat).2.2.1) j : Nat) : Int)))), (0, .ref x), (1, .ref ((ga g.toNat))), (2, .ref ((ga (S.2.2.2 g.toNat).2.1))), (3, .ref ((hT t.toNat))), (4, .int (iI ((((nA (S.2.1 t.toNat) 0 - (S.2.2.2 g.toNat).2.2.1) : Nat) : Int))))] [.int (iI (scd (tt t.toNat) ((unS (S.2.1 t.toNat) (unS (S.2.1 t.toNat) 0 (S.2.2.2 g.toNat).2.2.1) j : Nat) : Int)))] M9 0 0
            refine mv_istore (lv' := [(5, .int (iI (scd (tt t.toNat) ((unS (S.2.1 t.toNat) (unS (S.2.1 t.toNat) 0 (S.2.2.2 g.toNat).2.2.1) j : Nat) : Int)))), (8, .int (iI (jdS (S.2.1 t.toNat) (((S.2.2.2 g.toNat).2.1 : Nat) : Int) (S.2.2.2 g.toNat).2.2.1 (S.2.2.2 g.toNat).2.2.2.1 (rtS (S.2.1 t.toNat) (S.2.2.2 g.toNat).2.2.1 j) (((S.2.2.2 g.toNat).2.2.1 + j : Nat) : Int)))), (7, .int (iI (((j : Nat) : Int)))), (6, .int (iI (((cnB (rcS (S.2.1 t.toNat) (((S.2.2.2 g.toNat).2.1 : Nat) : Int) (S.2.2.2 g.toNat).2.2.1 (S.2.2.2 g.toNat).2.2.2.1) j : Nat) : Int)))), (0, .ref x), (1, .ref ((ga g.toNat))), (2, .ref ((ga (S.2.2.2 g.toNat).2.1))), (3, .ref ((hT t.toNat))), (4, .int (iI ((((nA (S.2.1 t.toNat) 0 - (S.2.2.2 g.toNat).2.2.1) : Nat) : Int))))]) B d_Fam_tell_71 (by decide) rfl ?_
            refine mv_iinc (lv' := [(7, .int (iI (((j : Nat) : Int) + 1))), (5, .int (iI (scd (tt t.toNat) ((unS (S.2.1 t.toNat) (unS (S.2.1 t.toNat) 0 (S.2.2.2 g.toNat).2.2.1) j : Nat) : Int)))), (8, .int (iI (jdS (S.2.1 t.toNat) (((S.2.2.2 g.toNat).2.1 : Nat) : Int) (S.2.2.2 g.toNat).2.2.1 (S.2.2.2 g.toNat).2.2.2.1 (rtS (S.2.1 t.toNat) (S.2.2.2 g.toNat).2.2.1 j) (((S.2.2.2 g.toNat).2.2.1 + j : Nat) : Int)))), (6, .int (iI (((cnB (rcS (S.2.1 t.toNat) (((S.2.2.2 g.toNat).2.1 : Nat) : Int) (S.2.2.2 g.toNat).2.2.1 (S.2.2.2 g.toNat).2.2.2.1) j : Nat) : Int)))), (0, .ref x), (1, .ref ((ga g.toNat))), (2, .ref ((ga (S.2.2.2 g.toNat).2.1))), (3, .ref ((hT t.toNat))), (4, .int (iI ((((nA (S.2.1 t.toNat) 0 - (S.2.2.2 g.toNat).2.2.1) : Nat) : Int))))]) B d_Fam_tell_73 2 rfl (by decide) rfl ?_
            refine mv_goto (tgt := 16) B d_Fam_tell_76 (by decide) ?_
            refine mv_lv (lv' := [(7, .int (iI ((((j + 1) : Nat) : Int)))), (6, .int (iI (((cnB (rcS (S.2.1 t.toNat) (((S.2.2.2 g.toNat).2.1 : Nat) : Int) (S.2.2.2 g.toNat).2.2.1 (S.2.2.2 g.toNat).2.2.2.1) (j + 1) : Nat) : Int)))), (5, .int (iI (((unS (S.2.1 t.toNat) (unS (S.2.1 t.toNat) 0 (S.2.2.2 g.toNat).2.2.1) (j + 1) : Nat) : Int)))), (0, .ref x), (1, .ref ((ga g.toNat))), (2, .ref ((ga (S.2.2.2 g.toNat).2.1))), (3, .ref ((hT t.toNat))), (4, .int (iI ((((nA (S.2.1 t.toNat) 0 - (S.2.2.2 g.toNat).2.2.1) : Nat) : Int))))]) [0, 3, 1, 4, 5, 6, 7, 8] (lc (lI (by first | rfl | omega)) (lc (lI (by have jr := jd_rc hTo (j := j) (by omega) (by omega); simp only [cnB]; first | (rw [if_pos (jr.mp (by omega))]; omega) | (rw [if_neg (fun z => by have := jr.mpr z; omega)]; omega))) (lc (lI (by rw [scd_S htt.2.2.2.1 (by have := hrj.1; unfold rtS at this; omega)]; rfl)) (lc rfl (lc rfl (lc rfl (lc rfl (lc rfl rfl)))))))) ?_
            exact ih16 (j + 1) M9 (by omega) (fun i hi => (Nat.lt_or_ge i j).elim (fun q => hnz i q) (fun q => by rw [show i = j by omega]; omega)) hP9 (by omega)
          · refine mv_iinc (lv' := [(6, .int (iI (((cnB (rcS (S.2.1 t.toNat) (((S.2.2.2 g.toNat).2.1 : Nat) : Int) (S.2.2.2 g.toNat).2.2.1 (S.2.2.2 g.toNat).2.2.2.1) j : Nat) : Int) + 1))), (8, .int (iI (jdS (S.2.1 t.toNat) (((S.2.2.2 g.toNat).2.1 : Nat) : Int) (S.2.2.2 g.toNat).2.2.1 (S.2.2.2 g.toNat).2.2.2.1 (rtS (S.2.1 t.toNat) (S.2.2.2 g.toNat).2.2.1 j) (((S.2.2.2 g.toNat).2.2.1 + j : Nat) : Int)))), (7, .int (iI (((j : Nat) : Int)))), (5, .int (iI (((unS (S.2.1 t.toNat) (unS (S.2.1 t.toNat) 0 (S.2.2.2 g.toNat).2.2.1) j : Nat) : Int)))), (0, .ref x), (1, .ref ((ga g.toNat))), (2, .ref ((ga (S.2.2.2 g.toNat).2.1))), (3, .ref ((hT t.toNat))), (4, .int (iI ((((nA (S.2.1 t.toNat) 0 - (S.2.2.2 g.toNat).2.2.1) : Nat) : Int))))]) B d_Fam_tell_62 2 rfl (by decide) rfl ?_
            refine mv_aloadR_n B d_Fam_tell_65 rfl 7 rfl ?_
            refine mv_iload B d_Fam_tell_66 3 rfl ?_
            refine ca_Fam_189 (mc := 0) (ms := 0) (As := [.int (iI (((unS (S.2.1 t.toNat) (unS (S.2.1 t.toNat) 0 (S.2.2.2 g.toNat).2.2.1) j : Nat) : Int)))]) (rest := []) B (m_Term_secondOf htt9.2.1.at htt9.2.2.1 (i := ((unS (S.2.1 t.toNat) (unS (S.2.1 t.toNat) 0 (S.2.2.2 g.toNat).2.2.1) j : Nat) : Int)) (by have := hrj.1; unfold rtS at this; omega)) rfl rfl ⟨Nat.le_of_ble_eq_true rfl, Nat.le_of_ble_eq_true rfl⟩ htt9.2.1.1 rfl rfl (Nat.le_of_ble_eq_true rfl) d_Fam_tell_68 ⟨by omega, by omega⟩ (mv_x ?_)
            show mv_G X Q (kk V) 9 71 [(6, .int (iI (((cnB (rcS (S.2.1 t.toNat) (((S.2.2.2 g.toNat).2.1 : Nat) : Int) (S.2.2.2 g.toNat).2.2.1 (S.2.2.2 g.toNat).2.2.2.1) j : Nat) : Int) + 1))), (8, .int (iI (jdS (S.2.1 t.toNat) (((S.2.2.2 g.toNat).2.1 : Nat) : Int) (S.2.2.2 g.toNat).2.2.1 (S.2.2.2 g.toNat).2.2.2.1 (rtS (S.2.1 t.toNat) (S.2.2.2 g.toNat).2.2.1 j) (((S.2.2.2 g.toNat).2.2.1 + j : Nat) : Int)))), (7, .int (iI (((j : Nat) : Int)))), (5, .int (iI (((unS (S.2.1 t.toNat) (unS (S.2.1 t.toNat) 0 (S.2.2.2 g.toNat).2.2.1) j : Nat) : Int)))), (0, .ref x), (1, .ref ((ga g.toNat))), (2, .ref ((ga (S.2.2.2 g.toNat).2.1))), (3, .ref ((hT t.toNat))), (4, .int (iI ((((nA (S.2.1 t.toNat) 0 - (S.2.2.2 g.toNat).2.2.1) : Nat) : Int))))] [.int (iI (scd (tt t.toNat) ((unS (S.2.1 t.toNat) (unS (S.2.1 t.toNat) 0 (S.2.2.2 g.toNat).2.2.1) j : Nat) : Int)))] M9 0 0
            refine mv_istore (lv' := [(5, .int (iI (scd (tt t.toNat) ((unS (S.2.1 t.toNat) (unS (S.2.1 t.toNat) 0 (S.2.2.2 g.toNat).2.2.1) j : Nat) : Int)))), (6, .int (iI (((cnB (rcS (S.2.1 t.toNat) (((S.2.2.2 g.toNat).2.1 : Nat) : Int) (S.2.2.2 g.toNat).2.2.1 (S.2.2.2 g.toNat).2.2.2.1) j : Nat) : Int) + 1))), (8, .int (iI (jdS (S.2.1 t.toNat) (((S.2.2.2 g.toNat).2.1 : Nat) : Int) (S.2.2.2 g.toNat).2.2.1 (S.2.2.2 g.toNat).2.2.2.1 (rtS (S.2.1 t.toNat) (S.2.2.2 g.toNat).2.2.1 j) (((S.2.2.2 g.toNat).2.2.1 + j : Nat) : Int)))), (7, .int (iI (((j : Nat) : Int)))), (0, .ref x), (1, .ref ((ga g.toNat))), (2, .ref ((ga (S.2.2.2 g.toNat).2.1))), (3, .ref ((hT t.toNat))), (4, .int (iI ((((nA (S.2.1 t.toNat) 0 - (S.2.2.2 g.toNat).2.2.1) : Nat) : Int))))]) B d_Fam_tell_71 (by decide) rfl ?_
            refine mv_iinc (lv' := [(7, .int (iI (((j : Nat) : Int) + 1))), (5, .int (iI (scd (tt t.toNat) ((unS (S.2.1 t.toNat) (unS (S.2.1 t.toNat) 0 (S.2.2.2 g.toNat).2.2.1) j : Nat) : Int)))), (6, .int (iI (((cnB (rcS (S.2.1 t.toNat) (((S.2.2.2 g.toNat).2.1 : Nat) : Int) (S.2.2.2 g.toNat).2.2.1 (S.2.2.2 g.toNat).2.2.2.1) j : Nat) : Int) + 1))), (8, .int (iI (jdS (S.2.1 t.toNat) (((S.2.2.2 g.toNat).2.1 : Nat) : Int) (S.2.2.2 g.toNat).2.2.1 (S.2.2.2 g.toNat).2.2.2.1 (rtS (S.2.1 t.toNat) (S.2.2.2 g.toNat).2.2.1 j) (((S.2.2.2 g.toNat).2.2.1 + j : Nat) : Int)))), (0, .ref x), (1, .ref ((ga g.toNat))), (2, .ref ((ga (S.2.2.2 g.toNat).2.1))), (3, .ref ((hT t.toNat))), (4, .int (iI ((((nA (S.2.1 t.toNat) 0 - (S.2.2.2 g.toNat).2.2.1) : Nat) : Int))))]) B d_Fam_tell_73 3 rfl (by decide) rfl ?_
            refine mv_goto (tgt := 16) B d_Fam_tell_76 (by decide) ?_
            refine mv_lv (lv' := [(7, .int (iI ((((j + 1) : Nat) : Int)))), (6, .int (iI (((cnB (rcS (S.2.1 t.toNat) (((S.2.2.2 g.toNat).2.1 : Nat) : Int) (S.2.2.2 g.toNat).2.2.1 (S.2.2.2 g.toNat).2.2.2.1) (j + 1) : Nat) : Int)))), (5, .int (iI (((unS (S.2.1 t.toNat) (unS (S.2.1 t.toNat) 0 (S.2.2.2 g.toNat).2.2.1) (j + 1) : Nat) : Int)))), (0, .ref x), (1, .ref ((ga g.toNat))), (2, .ref ((ga (S.2.2.2 g.toNat).2.1))), (3, .ref ((hT t.toNat))), (4, .int (iI ((((nA (S.2.1 t.toNat) 0 - (S.2.2.2 g.toNat).2.2.1) : Nat) : Int))))]) [0, 2, 1, 4, 5, 6, 7, 8] (lc (lI (by first | rfl | omega)) (lc (lI (by have jr := jd_rc hTo (j := j) (by omega) (by omega); simp only [cnB]; first | (rw [if_pos (jr.mp (by omega))]; omega) | (rw [if_neg (fun z => by have := jr.mpr z; omega)]; omega))) (lc (lI (by rw [scd_S htt.2.2.2.1 (by have := hrj.1; unfold rtS at this; omega)]; rfl)) (lc rfl (lc rfl (lc rfl (lc rfl (lc rfl rfl)))))))) ?_
            exact ih16 (j + 1) M9 (by omega) (fun i hi => (Nat.lt_or_ge i j).elim (fun q => hnz i q) (fun q => by rw [show i = j by omega]; omega)) hP9 (by omega)
        · refine mv_bipush (z := -2) B d_Fam_tell_50 (by decide) ?_
          refine mv_iload B d_Fam_tell_52 1 rfl ?_
          refine mv_isub B d_Fam_tell_54 ?_
          rw [hQ]
          have hbd : bdC S g t = some j := by
            unfold bdC
            exact fbN_s (by omega) (by rw [decide_eq_true_eq]; omega) (fun i hi => by rw [decide_eq_false_iff_not]; exact hnz i hi)
          exact mv_iret B ⟨by unfold aCo; rw [if_pos hok, hbd], by unfold nCo; rw [if_neg (fun z => by rw [hbd] at z; exact absurd z.2 (by simp))]; exact ⟨sh, rg, rd, mk, trow, grow, dep, hT, tq, tt, ga, ca, f, gf, hP9⟩⟩ (by omega) (by omega) d_Fam_tell_55
  refine mv_lv (lv' := [(7, .int (iI (((0 : Nat) : Int)))), (6, .int (iI (((cnB (rcS (S.2.1 t.toNat) (((S.2.2.2 g.toNat).2.1 : Nat) : Int) (S.2.2.2 g.toNat).2.2.1 (S.2.2.2 g.toNat).2.2.2.1) 0 : Nat) : Int)))), (5, .int (iI (((unS (S.2.1 t.toNat) (unS (S.2.1 t.toNat) 0 (S.2.2.2 g.toNat).2.2.1) 0 : Nat) : Int)))), (0, .ref x), (1, .ref ((ga g.toNat))), (2, .ref ((ga (S.2.2.2 g.toNat).2.1))), (3, .ref ((hT t.toNat))), (4, .int (iI ((((nA (S.2.1 t.toNat) 0 - (S.2.2.2 g.toNat).2.2.1) : Nat) : Int))))]) [0, 1, 2, 3, 4, 5, 6, 7] (lc (lI (by first | rfl | omega)) (lc (lI (by rfl)) (lc rfl (lc rfl (lc rfl (lc rfl (lc rfl (lc rfl rfl)))))))) ?_
  exact L16 _ 0 M (by omega) (fun i hi => absurd hi (by omega)) hP (Nat.lt_succ_self _)
set_option maxRecDepth 100000 in
set_option maxHeartbeats 4000000 in
theorem m_Fam_constructor {l : Launch} {V : mv_V} {M : mv_M} {x sh rg rd mk trow grow dep : Nat} {hT : Nat → Nat} {tq : Nat → Q4} {tt : Nat → Tm} {ga ca : Nat → Nat} {f gf : Nat → Option Nat} {S : SS} (hP : ClsC V M x sh rg rd mk trow grow dep hT tq tt ga ca f gf S) (hJ : Jv S) {g t : Int} (rg9 : R32 g) (rt9 : R32 t) : Met l y_Fam_constructor ws_Fam_constructor (rM 5 0 0 130) (mv_Pre (kk V) [.ref x, .int (iI (g)), .int (iI (t))] M) (mv_Q (kk V) (fun z0 M' => z0 = some (.int (iI (aCo S g t))) ∧ ClsP V M' x (nCo S g t))) 0 0 V.2.2.2.2 := by
  refine mv_Met (by decide) rfl (Nat.le_of_ble_eq_true rfl) (fun X hX B => ?_)
  subst hX
  replace B : mv_B X (kk V) c_Fam_constructor ws_Fam_constructor "FamilyRules" 7 (Option.some Jvm.ClassFile.FieldType.int) (rM 5 0 0 130) "constructor" := B
  obtain ⟨Q, hQ⟩ : ∃ Q, Q = mv_E X (kk V) (fun z0 M' => z0 = some (.int (iI (aCo S g t))) ∧ ClsP V M' x (nCo S g t)) 0 0 := ⟨_, rfl⟩
  rw [← hQ]
  show mv_G X Q (kk V) 7 0 [(0, .ref x), (1, .int (iI (g))), (2, .int (iI (t)))] [] M 0 0
  obtain ⟨⟨hx, hsh, htr, hrg, hgr, ⟨tm0, al0, fo0, ap0, hrd⟩, ⟨δ, hdp, hδ⟩, ⟨tg0, pl0, src0, P0, ar0, al1, pp0, hmk⟩⟩, hTm, hGl, hIn⟩ := id hP
  have hI := hJ.1
  have hb1 : S.1 ≤ 1500 := hI.1
  have hb2 : S.2.2.1 ≤ 100 := hI.2.1
  have hb3 : bs S.2.1 S.1 ≤ 30000 := hI.2.2.1
  refine mv_aloadR_n B d_Fam_constructor_0 rfl 0 rfl ?_
  refine gf_Fam_22 B hx rfl d_Fam_constructor_1 ?_
  refine mv_iload_n B d_Fam_constructor_4 rfl 1 rfl ?_
  refine ca_Fam_91 (mc := 0) (ms := 0) (As := [.int (iI (g))]) (rest := []) B (m_Register_findConstructor hrg hgr (by omega) (ga := ga) (nu := fun j => ((j : Nat) : Int)) (ro := fun j => (S.2.2.2 j).1) (pa := fun j => (((S.2.2.2 j).2.2.1 : Nat) : Int)) (ix := fun j => (((S.2.2.2 j).2.2.2.1 : Nat) : Int)) (ra := fun j => (((S.2.2.2 j).2.2.2.2.1 : Nat) : Int)) (fa := faO S ga) (co := coO S ca) (tl := tdO S hT) (ag := agO S) (rg2 := fun j => (((S.2.2.2 j).2.2.2.2.2.2.2 : Nat) : Int)) (fun j hj => ⟨(hGl j (by omega)).1, (hGl j (by omega)).2.1, role_sm hI (by omega)⟩) (i := g) (by omega)) rfl rfl ⟨Nat.le_of_ble_eq_true rfl, Nat.le_of_ble_eq_true rfl⟩ hrg rfl rfl (Nat.le_of_ble_eq_true rfl) d_Fam_constructor_5 ⟨by omega, by omega⟩ (mv_x ?_)
  show mv_G X Q (kk V) 7 8 [(0, .ref x), (1, .int (iI (g))), (2, .int (iI (t)))] [va_rf (if 0 ≤ g ∧ g < ((S.2.2.1 : Nat) : Int) ∧ (S.2.2.2 (g).toNat).1 = 4 then some (ga (g).toNat) else none)] M 0 0
  refine mv_astore_n (lv' := [(3, va_rf (if 0 ≤ g ∧ g < ((S.2.2.1 : Nat) : Int) ∧ (S.2.2.2 (g).toNat).1 = 4 then some (ga (g).toNat) else none)), (0, .ref x), (1, .int (iI (g))), (2, .int (iI (t)))]) B d_Fam_constructor_8 rfl (by decide) rfl ?_
  refine mv_aloadR_n B d_Fam_constructor_9 rfl 1 rfl ?_
  refine gf_Fam_13 B hx rfl d_Fam_constructor_10 ?_
  refine mv_iload_n B d_Fam_constructor_13 rfl 3 rfl ?_
  refine ca_Fam_65 (mc := 0) (ms := 0) (As := [.int (iI (t))]) (rest := []) B (m_Shelf_find hsh htr (by omega) (i := t) (by omega)) rfl rfl ⟨Nat.le_of_ble_eq_true rfl, Nat.le_of_ble_eq_true rfl⟩ hsh rfl rfl (Nat.le_of_ble_eq_true rfl) d_Fam_constructor_14 ⟨by omega, by omega⟩ (mv_x ?_)
  show mv_G X Q (kk V) 7 17 [(3, va_rf (if 0 ≤ g ∧ g < ((S.2.2.1 : Nat) : Int) ∧ (S.2.2.2 (g).toNat).1 = 4 then some (ga (g).toNat) else none)), (0, .ref x), (1, .int (iI (g))), (2, .int (iI (t)))] [va_rf (if 0 ≤ t ∧ t < ((S.1 : Nat) : Int) then f (t).toNat else none)] M 0 0
  refine mv_astore (lv' := [(4, va_rf (if 0 ≤ t ∧ t < ((S.1 : Nat) : Int) then f (t).toNat else none)), (3, va_rf (if 0 ≤ g ∧ g < ((S.2.2.1 : Nat) : Int) ∧ (S.2.2.2 (g).toNat).1 = 4 then some (ga (g).toNat) else none)), (0, .ref x), (1, .int (iI (g))), (2, .int (iI (t)))]) B d_Fam_constructor_17 (by decide) (by unfold mv_sl; simp only [List.filter, vrf_c]; rfl) ?_
  refine mv_aload_n B d_Fam_constructor_19 rfl 1 rfl ?_
  refine mv_ifnull (tgt := 35) B d_Fam_constructor_20 (by decide) (fun c1 => ?_) (fun a2 c1 => ?_)
  · have hng : ¬ (0 ≤ g ∧ g < ((S.2.2.1 : Nat) : Int) ∧ (S.2.2.2 (g).toNat).1 = 4) := by
      intro q
      rw [if_pos q] at c1
      cases c1
    refine mv_iconst (z := -1) B d_Fam_constructor_35 rfl ?_
    rw [hQ]
    have hno : ¬ okC S g t := fun z => by
      obtain ⟨w1, w2, w3, w4, w5, w6, w7, w8, w9⟩ := z
      first | omega | exact hcl w7 | exact hpt w9 | exact htn w4 | exact hng ⟨w1, w2, w3⟩ | exact hnt ⟨w5, w6⟩
    exact mv_iret B ⟨by unfold aCo; rw [if_neg hno], by unfold nCo; rw [if_neg (fun z => hno z.1)]; exact ⟨sh, rg, rd, mk, trow, grow, dep, hT, tq, tt, ga, ca, f, gf, hP⟩⟩ (by omega) (by omega) d_Fam_constructor_36
  · have hig : 0 ≤ g ∧ g < ((S.2.2.1 : Nat) : Int) ∧ (S.2.2.2 (g).toNat).1 = 4 := by
      apply Classical.byContradiction
      intro q
      rw [if_neg q] at c1
      cases c1
    have hgg := hGl (g).toNat (by omega)
    rw [if_pos hig]
    show mv_G X Q (kk V) 7 23 [(4, va_rf (if 0 ≤ t ∧ t < ((S.1 : Nat) : Int) then f (t).toNat else none)), (3, .ref ((ga (g).toNat))), (0, .ref x), (1, .int (iI (g))), (2, .int (iI (t)))] [] M 0 0
    refine mv_aloadR_n B d_Fam_constructor_23 rfl 1 rfl ?_
    refine gf_Fam_95 B hgg.2.1 rfl d_Fam_constructor_24 ?_
    refine mv_ifnonnull (tgt := 35) B d_Fam_constructor_27 (by decide) (fun a4 c3 => ?_) (fun c3 => ?_)
    · have htn : ¬ (S.2.2.2 g.toNat).2.2.2.2.2.1 = none := fun z => by rw [td_n.mpr z] at c3; cases c3
      refine mv_iconst (z := -1) B d_Fam_constructor_35 rfl ?_
      rw [hQ]
      have hno : ¬ okC S g t := fun z => by
        obtain ⟨w1, w2, w3, w4, w5, w6, w7, w8, w9⟩ := z
        first | omega | exact hcl w7 | exact hpt w9 | exact htn w4 | exact hng ⟨w1, w2, w3⟩ | exact hnt ⟨w5, w6⟩
      exact mv_iret B ⟨by unfold aCo; rw [if_neg hno], by unfold nCo; rw [if_neg (fun z => hno z.1)]; exact ⟨sh, rg, rd, mk, trow, grow, dep, hT, tq, tt, ga, ca, f, gf, hP⟩⟩ (by omega) (by omega) d_Fam_constructor_36
    · have htn : (S.2.2.2 g.toNat).2.2.2.2.2.1 = none := td_n.mp c3
      refine mv_aload B d_Fam_constructor_30 0 rfl ?_
      refine mv_ifnonnull (tgt := 37) B d_Fam_constructor_32 (by decide) (fun a6 c5 => ?_) (fun c5 => ?_)
      · have hit : 0 ≤ t ∧ t < ((S.1 : Nat) : Int) := by
          apply Classical.byContradiction
          intro q
          rw [if_neg q] at c5
          cases c5
        have htt := hTm (t).toNat (by omega)
        rw [if_pos hit, htt.1]
        show mv_G X Q (kk V) 7 37 [(4, .ref ((hT (t).toNat))), (3, .ref ((ga (g).toNat))), (0, .ref x), (1, .int (iI (g))), (2, .int (iI (t)))] [] M 0 0
        refine mv_aloadR_n B d_Fam_constructor_37 rfl 1 rfl ?_
        refine gf_Fam_101 B hgg.2.1 rfl d_Fam_constructor_38 ?_
        have hfa : faO S ga (g).toNat = some (ga (S.2.2.2 g.toNat).2.1) := by unfold faO; rw [if_pos hig.2.2]
        rw [hfa]
        obtain ⟨c1, c2, c3, c4, c5, -, -⟩ := con_b hI (g := g.toNat) (by omega) hig.2.2
        have hgd := hGl (S.2.2.2 g.toNat).2.1 (by omega)
        obtain ⟨t0, -, -, -, -, hpb, -⟩ := fam_b hI (g := (S.2.2.2 g.toNat).2.1) (by omega) c2
        show mv_G X Q (kk V) 7 41 [(4, .ref ((hT (t).toNat))), (3, .ref ((ga (g).toNat))), (0, .ref x), (1, .int (iI (g))), (2, .int (iI (t)))] [.ref ((ga (S.2.2.2 g.toNat).2.1))] M 0 0
        refine mv_astoreR (lv' := [(5, .ref ((ga (S.2.2.2 g.toNat).2.1))), (4, .ref ((hT (t).toNat))), (3, .ref ((ga (g).toNat))), (0, .ref x), (1, .int (iI (g))), (2, .int (iI (t)))]) B d_Fam_constructor_41 (by decide) rfl ?_
        refine mv_aloadR_n B d_Fam_constructor_43 rfl 3 rfl ?_
        refine gf_Fam_26 B hx rfl d_Fam_constructor_44 ?_
        refine mv_aloadR B d_Fam_constructor_47 1 rfl ?_
        refine mv_iconst (z := 0) B d_Fam_constructor_49 rfl ?_
        refine ca_Fam_68 (mc := 0) (ms := 0) (rm' := rM 2 0 0 45) (As := [.ref ((hT (t).toNat)), .int (iI (0))]) (rest := []) B (m_Reader_readShape hrd htt.2.1.at htt.2.2.1 (r := 0) (by omega)) rfl rfl ⟨Nat.le_of_ble_eq_true rfl, Nat.le_of_ble_eq_true rfl⟩ hrd rfl rfl (Nat.le_of_ble_eq_true rfl) d_Fam_constructor_50 ⟨by omega, by omega⟩ (fun v1 M1 ep => ?_)
        obtain ⟨e1, hM1⟩ := ep
        subst e1
        have ho := hI.2.2.2.1 t.toNat (by omega)
        have hxl : 0 < (S.2.1 t.toNat).length := by have := ho.2.1; omega
        have hxl2 := ho.2.2.1
        have enA : allN (tt t.toNat) 1000 0 = nA (S.2.1 t.toNat) 0 := nA_t htt.2.2.2.1 ho.1 ho.2.2.1 hxl
        have eft : beR (tt t.toNat) 0 (allN (tt t.toNat) 1000 0) = ((ft (S.2.1 t.toNat) 0 : Nat) : Int) := ft_t htt.2.2.2.1 ho.1 ho.2.2.1 hxl
        have enP : appN (tt t.toNat) 1000 (beR (tt t.toNat) 0 (allN (tt t.toNat) 1000 0)) = nP (S.2.1 t.toNat) (ft (S.2.1 t.toNat) 0) := sA_t htt.2.2.2.1 ho.1 ho.2.2.1 hxl
        have ha9 := nA_ok ho.1 ho.2.2.1 hxl
        have hp9 := (nP_ok ho.1 ho.2.2.1 ha9.2.2).1
        have hP1 : ClsC V M1 x sh rg rd mk trow grow dep hT tq tt ga ca f gf S := by rw [hM1]; exact Cls_rd hP
        have hrd1 : M1 rd = some (dC dep (some (hT t.toNat)) ((nA (S.2.1 t.toNat) 0 : Nat) : Int) ((ft (S.2.1 t.toNat) 0 : Nat) : Int) ((nP (S.2.1 t.toNat) (ft (S.2.1 t.toNat) 0) : Nat) : Int)) := by rw [hM1, mv_us]; unfold shC; rw [enP, eft, enA]
        obtain ⟨⟨hx1, hsh1, htr1, hrg1, hgr1, -, -, -⟩, hTm1, hGl1, -⟩ := id hP1
        have hdp1 : M1 dep = some (iA V 1000 δ) := by rw [hM1, mv_un (mv_ne hdp hrd (by simp))]; exact hdp
        have htt1 := hTm1 t.toNat (by omega)
        show mv_G X Q (kk V) 7 53 [(5, .ref ((ga (S.2.2.2 g.toNat).2.1))), (4, .ref ((hT (t).toNat))), (3, .ref ((ga (g).toNat))), (0, .ref x), (1, .int (iI (g))), (2, .int (iI (t)))] [] M1 (0) (0)
        refine mv_aloadR_n B d_Fam_constructor_53 rfl 3 rfl ?_
        refine gf_Fam_26 B hx1 rfl d_Fam_constructor_54 ?_
        refine gf_Fam_72 B hrd1 rfl d_Fam_constructor_57 ?_
        refine mv_aloadR_n B d_Fam_constructor_60 rfl 2 rfl ?_
        refine gf_Fam_105 B (hGl1 g.toNat (by omega)).2.1 rfl d_Fam_constructor_61 ?_
        refine mv_isub B d_Fam_constructor_64 ?_
        refine mv_istore (lv' := [(6, .int (iI (((nA (S.2.1 t.toNat) 0 : Nat) : Int) - (((S.2.2.2 g.toNat).2.2.1 : Nat) : Int)))), (5, .ref ((ga (S.2.2.2 g.toNat).2.1))), (4, .ref ((hT (t).toNat))), (3, .ref ((ga (g).toNat))), (0, .ref x), (1, .int (iI (g))), (2, .int (iI (t)))]) B d_Fam_constructor_65 (by decide) rfl ?_
        refine mv_aloadR B d_Fam_constructor_67 1 rfl ?_
        refine mv_ifnullR (tgt := 102) B d_Fam_constructor_69 (by decide) ?_
        refine mv_iload B d_Fam_constructor_72 0 rfl ?_
        refine mv_if_lt (tgt := 102) B d_Fam_constructor_74 (by decide) (by first | omega | (split <;> omega)) (fun c7 => ?_) (fun c7 => ?_)
        · refine mv_iconst (z := -1) B d_Fam_constructor_102 rfl ?_
          rw [hQ]
          have hno : ¬ okC S g t := fun z => by
            obtain ⟨w1, w2, w3, w4, w5, w6, w7, w8, w9⟩ := z
            first | omega | exact hcl w7 | exact hpt w9 | exact htn w4 | exact hng ⟨w1, w2, w3⟩ | exact hnt ⟨w5, w6⟩
          exact mv_iret B ⟨by unfold aCo; rw [if_neg hno], by unfold nCo; rw [if_neg (fun z => hno z.1)]; exact ⟨sh, rg, rd, mk, trow, grow, dep, hT, tq, tt, ga, ca, f, gf, hP1⟩⟩ (by omega) (by omega) d_Fam_constructor_103
        · refine mv_aloadR_n B d_Fam_constructor_77 rfl 4 rfl ?_
          refine gf_Fam_26 B hx1 rfl d_Fam_constructor_78 ?_
          refine mv_aloadR B d_Fam_constructor_81 1 rfl ?_
          refine mv_iconst (z := 0) B d_Fam_constructor_83 rfl ?_
          have hgd1 := hGl1 (S.2.2.2 g.toNat).2.1 (by omega)
          refine ca_Fam_108 (mc := 0) (ms := 0) (As := [.ref ((ga (S.2.2.2 g.toNat).2.1)), .int (iI (0))]) (rest := []) B (m_Reader_isPut hrd1 htt1.2.1.at htt1.2.2.1 (fa := faO S ga (S.2.2.2 g.toNat).2.1) (co := coO S ca (S.2.2.2 g.toNat).2.1) (tl := tdO S hT (S.2.2.2 g.toNat).2.1) hgd1.2.1 (ou := 0) (by omega) (by omega) (by omega) (by omega) (by omega) (by omega) (by omega)) rfl rfl ⟨Nat.le_of_ble_eq_true rfl, Nat.le_of_ble_eq_true rfl⟩ hrd1 rfl rfl (Nat.le_of_ble_eq_true rfl) d_Fam_constructor_84 ⟨by omega, by omega⟩ (mv_x ?_)
          show mv_G X Q (kk V) 7 87 [(6, .int (iI (((nA (S.2.1 t.toNat) 0 : Nat) : Int) - (((S.2.2.2 g.toNat).2.2.1 : Nat) : Int)))), (5, .ref ((ga (S.2.2.2 g.toNat).2.1))), (4, .ref ((hT (t).toNat))), (3, .ref ((ga (g).toNat))), (0, .ref x), (1, .int (iI (g))), (2, .int (iI (t)))] [.int (iI (if isPB (tt t.toNat) (((S.2.2.2 g.toNat).2.1 : Nat) : Int) (((S.2.2.2 (S.2.2.2 g.toNat).2.1).2.2.1 : Nat) : Int) (((S.2.2.2 (S.2.2.2 g.toNat).2.1).2.2.2.1 : Nat) : Int) ((ft (S.2.1 t.toNat) 0 : Nat) : Int) (nP (S.2.1 t.toNat) (ft (S.2.1 t.toNat) 0)) (0 + ((nA (S.2.1 t.toNat) 0 : Nat) : Int) - 1) = true then 1 else 0))] M1 0 0
          rw [show isPB (tt t.toNat) (((S.2.2.2 g.toNat).2.1 : Nat) : Int) (((S.2.2.2 (S.2.2.2 g.toNat).2.1).2.2.1 : Nat) : Int) (((S.2.2.2 (S.2.2.2 g.toNat).2.1).2.2.2.1 : Nat) : Int) ((ft (S.2.1 t.toNat) 0 : Nat) : Int) (nP (S.2.1 t.toNat) (ft (S.2.1 t.toNat) 0)) (0 + ((nA (S.2.1 t.toNat) 0 : Nat) : Int) - 1) = ptB (S.2.1 t.toNat) (((S.2.2.2 g.toNat).2.1 : Nat) : Int) (S.2.2.2 g.toNat).2.2.1 (S.2.2.2 g.toNat).2.2.2.1 (ft (S.2.1 t.toNat) 0) (nP (S.2.1 t.toNat) (ft (S.2.1 t.toNat) 0)) ((nA (S.2.1 t.toNat) 0 : Nat) - 1) from by rw [← c3, ← c4, show (0 : Int) + ((nA (S.2.1 t.toNat) 0 : Nat) : Int) - 1 = ((nA (S.2.1 t.toNat) 0 : Nat) : Int) - 1 by omega]; exact isPB_S htt.2.2.2.1 ho.1 (nP_ok ho.1 ho.2.2.1 ha9.2.2)]
          show mv_G X Q (kk V) 7 87 [(6, .int (iI (((nA (S.2.1 t.toNat) 0 : Nat) : Int) - (((S.2.2.2 g.toNat).2.2.1 : Nat) : Int)))), (5, .ref ((ga (S.2.2.2 g.toNat).2.1))), (4, .ref ((hT (t).toNat))), (3, .ref ((ga (g).toNat))), (0, .ref x), (1, .int (iI (g))), (2, .int (iI (t)))] [.int (iI (if ptB (S.2.1 t.toNat) (((S.2.2.2 g.toNat).2.1 : Nat) : Int) (S.2.2.2 g.toNat).2.2.1 (S.2.2.2 g.toNat).2.2.2.1 (ft (S.2.1 t.toNat) 0) (nP (S.2.1 t.toNat) (ft (S.2.1 t.toNat) 0)) ((nA (S.2.1 t.toNat) 0 : Nat) - 1) = true then 1 else 0))] M1 0 0
          refine mv_if_eq (tgt := 102) B d_Fam_constructor_87 (by decide) (by first | omega | (split <;> omega)) (fun c8 => ?_) (fun c8 => ?_)
          · have hpt : ¬ ptB (S.2.1 t.toNat) (((S.2.2.2 g.toNat).2.1 : Nat) : Int) (S.2.2.2 g.toNat).2.2.1 (S.2.2.2 g.toNat).2.2.2.1 (ft (S.2.1 t.toNat) 0) (nP (S.2.1 t.toNat) (ft (S.2.1 t.toNat) 0)) ((nA (S.2.1 t.toNat) 0 : Nat) - 1) = true := by
              intro q
              rw [if_pos q] at c8
              omega
            refine mv_iconst (z := -1) B d_Fam_constructor_102 rfl ?_
            rw [hQ]
            have hno : ¬ okC S g t := fun z => by
              obtain ⟨w1, w2, w3, w4, w5, w6, w7, w8, w9⟩ := z
              first | omega | exact hcl w7 | exact hpt w9 | exact htn w4 | exact hng ⟨w1, w2, w3⟩ | exact hnt ⟨w5, w6⟩
            exact mv_iret B ⟨by unfold aCo; rw [if_neg hno], by unfold nCo; rw [if_neg (fun z => hno z.1)]; exact ⟨sh, rg, rd, mk, trow, grow, dep, hT, tq, tt, ga, ca, f, gf, hP1⟩⟩ (by omega) (by omega) d_Fam_constructor_103
          · have hpt : ptB (S.2.1 t.toNat) (((S.2.2.2 g.toNat).2.1 : Nat) : Int) (S.2.2.2 g.toNat).2.2.1 (S.2.2.2 g.toNat).2.2.2.1 (ft (S.2.1 t.toNat) 0) (nP (S.2.1 t.toNat) (ft (S.2.1 t.toNat) 0)) ((nA (S.2.1 t.toNat) 0 : Nat) - 1) = true := by
              apply Classical.byContradiction
              intro q
              rw [if_neg q] at c8
              omega
            refine mv_aloadR_n B d_Fam_constructor_90 rfl 4 rfl ?_
            refine gf_Fam_26 B hx1 rfl d_Fam_constructor_91 ?_
            refine mv_aloadR B d_Fam_constructor_94 2 rfl ?_
            have hdB := dpW_bd htt.2.2.2.1 ho.1 ho.2.2.1 hδ
            refine ca_Fam_83 (mc := 0) (ms := 0) (rm' := rM 3 0 0 70) (As := [.ref ((hT (t).toNat))]) (rest := []) B (m_Reader_isClosed hrd1 hdp1 htt1.2.1.at htt1.2.2.1 (TmC_D htt1.2.1 htt1.2.2.2.2) (fun i => by unfold dgt; split; have := hdB i.toNat; omega; omega)) rfl rfl ⟨Nat.le_of_ble_eq_true rfl, Nat.le_of_ble_eq_true rfl⟩ hrd1 rfl rfl (Nat.le_of_ble_eq_true rfl) d_Fam_constructor_96 ⟨by omega, by omega⟩ (fun v1 M2 ep => ?_)
            obtain ⟨e1, hM2⟩ := ep
            subst e1
            have hP2 : ClsC V M2 x sh rg rd mk trow grow dep hT tq tt ga ca f gf S := by rw [hM2]; exact Cls_dp hP1 hdB
            have ecl : (if clB (tt t.toNat) (dpW (tt t.toNat) δ (tt t.toNat).1) (tt t.toNat).1 = true then (1 : Int) else 0) = if clsB (S.2.1 t.toNat) = true then 1 else 0 := cl_eq htt.2.2.2.1 ho.1 ho.2.2.1
            obtain ⟨⟨hx2, hsh2, htr2, hrg2, hgr2, -, -, -⟩, hTm2, hGl2, -⟩ := id hP2
            have htt2 := hTm2 t.toNat (by omega)
            rw [ecl]
            show mv_G X Q (kk V) 7 99 [(6, .int (iI (((nA (S.2.1 t.toNat) 0 : Nat) : Int) - (((S.2.2.2 g.toNat).2.2.1 : Nat) : Int)))), (5, .ref ((ga (S.2.2.2 g.toNat).2.1))), (4, .ref ((hT (t).toNat))), (3, .ref ((ga (g).toNat))), (0, .ref x), (1, .int (iI (g))), (2, .int (iI (t)))] [.int (iI (if clsB (S.2.1 t.toNat) = true then 1 else 0))] M2 (0) (0)
            refine mv_if_ne (tgt := 104) B d_Fam_constructor_99 (by decide) (by first | omega | (split <;> omega)) (fun c9 => ?_) (fun c9 => ?_)
            · have hcl : clsB (S.2.1 t.toNat) = true := by
                apply Classical.byContradiction
                intro q
                rw [if_neg q] at c9
                omega
              refine mv_aloadR_n B d_Fam_constructor_104 rfl 4 rfl ?_
              refine mv_aloadR_n B d_Fam_constructor_105 rfl 3 rfl ?_
              refine mv_aloadR B d_Fam_constructor_106 1 rfl ?_
              refine mv_aloadR B d_Fam_constructor_108 2 rfl ?_
              refine mv_iload B d_Fam_constructor_110 0 rfl ?_
              have hok : okC S g t := ⟨by omega, by omega, hig.2.2, htn, by omega, by omega, hcl, by omega, hpt⟩
              rw [show ((nA (S.2.1 t.toNat) 0 : Nat) : Int) - (((S.2.2.2 g.toNat).2.2.1 : Nat) : Int) = (((nA (S.2.1 t.toNat) 0 - (S.2.2.2 g.toNat).2.2.1) : Nat) : Int) by omega]
              refine ca_Fam_112 (mc := 0) (ms := 0) (rm' := rM 4 0 0 100) (As := [.ref ((ga g.toNat)), .ref ((ga (S.2.2.2 g.toNat).2.1)), .ref ((hT t.toNat)), .int (iI ((((nA (S.2.1 t.toNat) 0 - (S.2.2.2 g.toNat).2.2.1) : Nat) : Int)))]) (rest := []) B (m_Fam_tell hP2 hJ hok) rfl rfl ⟨Nat.le_of_ble_eq_true rfl, Nat.le_of_ble_eq_true rfl⟩ hx2 rfl rfl (Nat.le_of_ble_eq_true rfl) d_Fam_constructor_112 ⟨by omega, by omega⟩ (fun v1 M8 ep => ?_)
              obtain ⟨e1, e2⟩ := ep
              subst e1
              show mv_G X Q (kk V) 7 115 [(6, .int (iI ((((nA (S.2.1 t.toNat) 0 - (S.2.2.2 g.toNat).2.2.1) : Nat) : Int)))), (5, .ref ((ga (S.2.2.2 g.toNat).2.1))), (4, .ref ((hT (t).toNat))), (3, .ref ((ga (g).toNat))), (0, .ref x), (1, .int (iI (g))), (2, .int (iI (t)))] [.int (iI (aCo S g t))] M8 0 0
              rw [hQ]
              exact mv_iret B ⟨rfl, e2⟩ (by omega) (by omega) d_Fam_constructor_115
            · have hcl : ¬ clsB (S.2.1 t.toNat) = true := by
                intro q
                rw [if_pos q] at c9
                omega
              refine mv_iconst (z := -1) B d_Fam_constructor_102 rfl ?_
              rw [hQ]
              have hno : ¬ okC S g t := fun z => by
                obtain ⟨w1, w2, w3, w4, w5, w6, w7, w8, w9⟩ := z
                first | omega | exact hcl w7 | exact hpt w9 | exact htn w4 | exact hng ⟨w1, w2, w3⟩ | exact hnt ⟨w5, w6⟩
              exact mv_iret B ⟨by unfold aCo; rw [if_neg hno], by unfold nCo; rw [if_neg (fun z => hno z.1)]; exact ⟨sh, rg, rd, mk, trow, grow, dep, hT, tq, tt, ga, ca, f, gf, hP2⟩⟩ (by omega) (by omega) d_Fam_constructor_103
      · have hnt : ¬ (0 ≤ t ∧ t < ((S.1 : Nat) : Int)) := by
          intro q
          rw [if_pos q, (hTm (t).toNat (by omega)).1] at c5
          cases c5
        refine mv_iconst (z := -1) B d_Fam_constructor_35 rfl ?_
        rw [hQ]
        have hno : ¬ okC S g t := fun z => by
          obtain ⟨w1, w2, w3, w4, w5, w6, w7, w8, w9⟩ := z
          first | omega | exact hcl w7 | exact hpt w9 | exact htn w4 | exact hng ⟨w1, w2, w3⟩ | exact hnt ⟨w5, w6⟩
        exact mv_iret B ⟨by unfold aCo; rw [if_neg hno], by unfold nCo; rw [if_neg (fun z => hno z.1)]; exact ⟨sh, rg, rd, mk, trow, grow, dep, hT, tq, tt, ga, ca, f, gf, hP⟩⟩ (by omega) (by omega) d_Fam_constructor_36
