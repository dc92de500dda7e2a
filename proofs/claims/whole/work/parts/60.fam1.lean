/-! THE CLASS OVER THE SHARED STATE -/
theorem vrf_c (r : Option Nat) : (va_rf r).category = 1 := by cases r <;> rfl
def faO (S : SS) (ga : Nat → Nat) (g : Nat) : Option Nat := if (S.2.2.2 g).1 = 4 then some (ga (S.2.2.2 g).2.1) else none
def coO (S : SS) (ca : Nat → Nat) (g : Nat) : Option Nat := if (S.2.2.2 g).1 = 3 then some (ca g) else none
def tdO (S : SS) (hT : Nat → Nat) (g : Nat) : Option Nat := ((S.2.2.2 g).2.2.2.2.2.1).map hT
def agO (S : SS) (g : Nat) : Int := if (S.2.2.2 g).1 = 4 then otS S g else -1
abbrev glO (S : SS) (hT ga ca : Nat → Nat) (g : Nat) : va_E := .inr (2, [.int (iI ((g : Nat) : Int)), .int (iI ((S.2.2.2 g).1)), .int (iI (((S.2.2.2 g).2.2.1 : Nat) : Int)), .int (iI (((S.2.2.2 g).2.2.2.1 : Nat) : Int)), .int (iI (((S.2.2.2 g).2.2.2.2.1 : Nat) : Int)), va_rf (faO S ga g), va_rf (coO S ca g), va_rf (tdO S hT g), .int (iI (agO S g)), .int (iI (((S.2.2.2 g).2.2.2.2.2.2.2 : Nat) : Int))])
def ClsC (V : mv_V) (M : mv_M) (x sh rg rd mk trow grow dep : Nat) (hT : Nat → Nat) (tq : Nat → Q4) (tt : Nat → Tm) (ga ca : Nat → Nat) (f gf : Nat → Option Nat) (S : SS) : Prop :=
  (M x = some (.inr (6, [.ref sh, .ref rg, .ref rd, .ref mk])) ∧ M sh = some (.inr (1, [.ref trow, .int (iI ((S.1 : Nat) : Int)), .int (iI ((bs S.2.1 S.1 : Nat) : Int))])) ∧ M trow = some (tA V 1500 f) ∧ M rg = some (.inr (3, [.ref grow, .int (iI ((S.2.2.1 : Nat) : Int))])) ∧ M grow = some (gA V 100 gf) ∧ (∃ tm al fo ap, M rd = some (dC dep tm al fo ap)) ∧ (∃ δ, M dep = some (iA V 1000 δ) ∧ ∀ j, 0 ≤ δ j ∧ δ j ≤ 1000) ∧ (∃ tg pl src P ar al pp, M mk = some (mkC rd tg pl src P ar al pp))) ∧
  (∀ t, t < S.1 → f t = some (hT t) ∧ TmC V M (hT t) (tq t) (tt t) ∧ Tok (tt t) ∧ TmS (tt t) (S.2.1 t) ∧ dep ≠ (tq t).1 ∧ dep ≠ (tq t).2.1 ∧ dep ≠ (tq t).2.2.1 ∧ dep ≠ (tq t).2.2.2) ∧
  (∀ g, g < S.2.2.1 → gf g = some (ga g) ∧ M (ga g) = some (glO S hT ga ca g) ∧ ((S.2.2.2 g).1 = 3 → ca g ≠ grow ∧ ∃ cf, M (ca g) = some (gA V (S.2.2.2 g).2.2.2.2.1 cf) ∧ ∀ i, i < (S.2.2.2 g).2.2.2.2.1 → cf i = some (ga (g + 1 + i)))) ∧
  (∀ g g', g < S.2.2.1 → g' < S.2.2.1 → ga g = ga g' → g = g')
def ClsP (V : mv_V) (M : mv_M) (x : Nat) (S : SS) : Prop := ∃ sh rg rd mk trow grow dep hT tq tt ga ca f gf, ClsC V M x sh rg rd mk trow grow dep hT tq tt ga ca f gf S
theorem role_sm {S : SS} (h : Iv S) {g : Nat} (hg : g < S.2.2.1) : Sm ((S.2.2.2 g).1) := by
  rcases h.2.2.2.2 g hg with z | z | z <;> have := z.1 <;> omega
set_option maxRecDepth 100000 in
set_option maxHeartbeats 4000000 in
theorem m_Fam_isNumber {l : Launch} {V : mv_V} {M : mv_M} {n : Int} (rn : R32 n) : Met l y_Fam_isNumber ws_Fam_isNumber (rM 0 0 0 0) (mv_Pre (kk V) [.int (iI (n))] M) (mv_Q (kk V) (mv_R (some (.int (iI (if 0 ≤ n ∧ n ≤ 100 then 1 else 0)))) M)) 0 0 V.2.2.2.2 := by
  refine mv_Met (by decide) rfl (Nat.le_of_ble_eq_true rfl) (fun X hX B => ?_)
  subst hX
  replace B : mv_B X (kk V) c_Fam_isNumber ws_Fam_isNumber "FamilyRules" 1 (Option.some Jvm.ClassFile.FieldType.boolean) (rM 0 0 0 0) "isNumber" := B
  obtain ⟨Q, hQ⟩ : ∃ Q, Q = mv_E X (kk V) (mv_R (some (.int (iI (if 0 ≤ n ∧ n ≤ 100 then 1 else 0)))) M) 0 0 := ⟨_, rfl⟩
  rw [← hQ]
  show mv_G X Q (kk V) 1 0 [(0, .int (iI (n)))] [] M 0 0
  refine mv_iload_n B d_Fam_isNumber_0 rfl 0 rfl ?_
  refine mv_if_lt (tgt := 14) B d_Fam_isNumber_1 (by decide) (by omega) (fun c1 => ?_) (fun c1 => ?_)
  · refine mv_iconst (z := 0) B d_Fam_isNumber_14 rfl ?_
    rw [hQ]
    exact mv_zret B rfl ⟨(by first | rfl | rw [if_pos (by omega)] | rw [if_neg (by omega)]), rfl⟩ (by omega) (by omega) d_Fam_isNumber_15
  · refine mv_iload_n B d_Fam_isNumber_4 rfl 0 rfl ?_
    refine mv_bipush (z := 100) B d_Fam_isNumber_5 (by decide) ?_
    refine mv_icmp_gt (tgt := 14) B d_Fam_isNumber_7 (by decide) (by omega) (by omega) (fun c2 => ?_) (fun c2 => ?_)
    · refine mv_iconst (z := 0) B d_Fam_isNumber_14 rfl ?_
      rw [hQ]
      exact mv_zret B rfl ⟨(by first | rfl | rw [if_pos (by omega)] | rw [if_neg (by omega)]), rfl⟩ (by omega) (by omega) d_Fam_isNumber_15
    · refine mv_iconst (z := 1) B d_Fam_isNumber_10 rfl ?_
      refine mv_goto (tgt := 15) B d_Fam_isNumber_11 (by decide) ?_
      rw [hQ]
      exact mv_zret B rfl ⟨(by first | rfl | rw [if_pos (by omega)] | rw [if_neg (by omega)]), rfl⟩ (by omega) (by omega) d_Fam_isNumber_15
set_option maxRecDepth 100000 in
set_option maxHeartbeats 4000000 in
theorem m_Fam_terms {l : Launch} {V : mv_V} {M : mv_M} {x sh rg rd mk trow grow dep : Nat} {hT : Nat → Nat} {tq : Nat → Q4} {tt : Nat → Tm} {ga ca : Nat → Nat} {f gf : Nat → Option Nat} {S : SS} (hP : ClsC V M x sh rg rd mk trow grow dep hT tq tt ga ca f gf S) (hJ : Jv S)  : Met l y_Fam_terms ws_Fam_terms (rM 0 0 0 0) (mv_Pre (kk V) [.ref x] M) (mv_Q (kk V) (mv_R (some (.int (iI (((S.1 : Nat) : Int))))) M)) 0 0 V.2.2.2.2 := by
  refine mv_Met (by decide) rfl (Nat.le_of_ble_eq_true rfl) (fun X hX B => ?_)
  subst hX
  replace B : mv_B X (kk V) c_Fam_terms ws_Fam_terms "FamilyRules" 1 (Option.some Jvm.ClassFile.FieldType.int) (rM 0 0 0 0) "terms" := B
  obtain ⟨Q, hQ⟩ : ∃ Q, Q = mv_E X (kk V) (mv_R (some (.int (iI (((S.1 : Nat) : Int))))) M) 0 0 := ⟨_, rfl⟩
  rw [← hQ]
  show mv_G X Q (kk V) 1 0 [(0, .ref x)] [] M 0 0
  obtain ⟨⟨hx, hsh, htr, hrg, hgr, ⟨tm0, al0, fo0, ap0, hrd⟩, ⟨δ, hdp, hδ⟩, ⟨tg0, pl0, src0, P0, ar0, al1, pp0, hmk⟩⟩, hTm, hGl, hIn⟩ := id hP
  have hI := hJ.1
  have hb1 : S.1 ≤ 1500 := hI.1
  have hb2 : S.2.2.1 ≤ 100 := hI.2.1
  have hb3 : bs S.2.1 S.1 ≤ 30000 := hI.2.2.1
  refine mv_aloadR_n B d_Fam_terms_0 rfl 0 rfl ?_
  refine gf_Fam_13 B hx rfl d_Fam_terms_1 ?_
  refine gf_Fam_165 B hsh rfl d_Fam_terms_4 ?_
  rw [hQ]
  exact mv_iret B ⟨(by rfl), rfl⟩ (by omega) (by omega) d_Fam_terms_7
set_option maxRecDepth 100000 in
set_option maxHeartbeats 4000000 in
theorem m_Fam_about {l : Launch} {V : mv_V} {M : mv_M} {x sh rg rd mk trow grow dep : Nat} {hT : Nat → Nat} {tq : Nat → Q4} {tt : Nat → Tm} {ga ca : Nat → Nat} {f gf : Nat → Option Nat} {S : SS} (hP : ClsC V M x sh rg rd mk trow grow dep hT tq tt ga ca f gf S) (hJ : Jv S) {g w : Int} (rg9 : R32 g) (rw9 : R32 w) : Met l y_Fam_about ws_Fam_about (rM 1 0 0 21) (mv_Pre (kk V) [.ref x, .int (iI (g)), .int (iI (w))] M) (mv_Q (kk V) (mv_R (some (.int (iI (aAb S g w)))) M)) 0 0 V.2.2.2.2 := by
  refine mv_Met (by decide) rfl (Nat.le_of_ble_eq_true rfl) (fun X hX B => ?_)
  subst hX
  replace B : mv_B X (kk V) c_Fam_about ws_Fam_about "FamilyRules" 4 (Option.some Jvm.ClassFile.FieldType.int) (rM 1 0 0 21) "about" := B
  obtain ⟨Q, hQ⟩ : ∃ Q, Q = mv_E X (kk V) (mv_R (some (.int (iI (aAb S g w)))) M) 0 0 := ⟨_, rfl⟩
  rw [← hQ]
  show mv_G X Q (kk V) 4 0 [(0, .ref x), (1, .int (iI (g))), (2, .int (iI (w)))] [] M 0 0
  obtain ⟨⟨hx, hsh, htr, hrg, hgr, ⟨tm0, al0, fo0, ap0, hrd⟩, ⟨δ, hdp, hδ⟩, ⟨tg0, pl0, src0, P0, ar0, al1, pp0, hmk⟩⟩, hTm, hGl, hIn⟩ := id hP
  have hI := hJ.1
  have hb1 : S.1 ≤ 1500 := hI.1
  have hb2 : S.2.2.1 ≤ 100 := hI.2.1
  have hb3 : bs S.2.1 S.1 ≤ 30000 := hI.2.2.1
  refine mv_aloadR_n B d_Fam_about_0 rfl 0 rfl ?_
  refine gf_Fam_22 B hx rfl d_Fam_about_1 ?_
  refine mv_iload_n B d_Fam_about_4 rfl 1 rfl ?_
  refine ca_Fam_116 (mc := 0) (ms := 0) (As := [.int (iI (g))]) (rest := []) B (m_Register_find hrg hgr (by omega) (i := g) (by omega)) rfl rfl ⟨Nat.le_of_ble_eq_true rfl, Nat.le_of_ble_eq_true rfl⟩ hrg rfl rfl (Nat.le_of_ble_eq_true rfl) d_Fam_about_5 ⟨by omega, by omega⟩ (mv_x ?_)
  show mv_G X Q (kk V) 4 8 [(0, .ref x), (1, .int (iI (g))), (2, .int (iI (w)))] [va_rf (if 0 ≤ g ∧ g < ((S.2.2.1 : Nat) : Int) then gf (g).toNat else none)] M 0 0
  refine mv_astore_n (lv' := [(3, va_rf (if 0 ≤ g ∧ g < ((S.2.2.1 : Nat) : Int) then gf (g).toNat else none)), (0, .ref x), (1, .int (iI (g))), (2, .int (iI (w)))]) B d_Fam_about_8 rfl (by decide) rfl ?_
  refine mv_aload_n B d_Fam_about_9 rfl 0 rfl ?_
  refine mv_ifnonnull (tgt := 15) B d_Fam_about_10 (by decide) (fun a2 c1 => ?_) (fun c1 => ?_)
  · have hig : 0 ≤ g ∧ g < ((S.2.2.1 : Nat) : Int) := by
      apply Classical.byContradiction
      intro q
      rw [if_neg q] at c1
      cases c1
    have hgg := hGl (g).toNat (by omega)
    have hrg := role_sm hI (g := (g).toNat) (by omega)
    rw [if_pos hig, hgg.1]
    show mv_G X Q (kk V) 4 15 [(3, .ref ((ga (g).toNat))), (0, .ref x), (1, .int (iI (g))), (2, .int (iI (w)))] [] M 0 0
    refine mv_iload_n B d_Fam_about_15 rfl 3 rfl ?_
    by_cases c3 : w = 0
    · refine mv_tab (tgt := 48) (off := 32) B d_Fam_about_16 (by omega) 0 (by omega) (by omega) rfl (by decide) ?_
      refine mv_aloadR_n B d_Fam_about_48 rfl 0 rfl ?_
      refine gf_Fam_118 B hgg.2.1 rfl d_Fam_about_49 ?_
      rw [hQ]
      have hng : ¬ ¬ (okG S g ∧ 0 ≤ w ∧ w ≤ 3) := by omega
      exact mv_iret B ⟨by unfold aAb; rw [if_neg hng]; rw [if_pos (by omega)], rfl⟩ (by omega) (by omega) d_Fam_about_52
    by_cases c4 : w = 1
    · refine mv_tab (tgt := 53) (off := 37) B d_Fam_about_16 (by omega) 1 (by omega) (by omega) rfl (by decide) ?_
      refine mv_aloadR_n B d_Fam_about_53 rfl 0 rfl ?_
      refine gf_Fam_105 B hgg.2.1 rfl d_Fam_about_54 ?_
      rw [hQ]
      have hng : ¬ ¬ (okG S g ∧ 0 ≤ w ∧ w ≤ 3) := by omega
      exact mv_iret B ⟨by unfold aAb; rw [if_neg hng]; rw [if_neg (by omega), if_pos (by omega)], rfl⟩ (by omega) (by omega) d_Fam_about_57
    by_cases c5 : w = 2
    · refine mv_tab (tgt := 58) (off := 42) B d_Fam_about_16 (by omega) 2 (by omega) (by omega) rfl (by decide) ?_
      refine mv_aloadR_n B d_Fam_about_58 rfl 0 rfl ?_
      refine gf_Fam_118 B hgg.2.1 rfl d_Fam_about_59 ?_
      refine mv_iconst (z := 4) B d_Fam_about_62 rfl ?_
      refine mv_icmp_ne (tgt := 73) B d_Fam_about_63 (by decide) (by omega) (by omega) (fun c6 => ?_) (fun c6 => ?_)
      · refine mv_aloadR_n B d_Fam_about_73 rfl 0 rfl ?_
        refine gf_Fam_124 B hgg.2.1 rfl d_Fam_about_74 ?_
        rw [hQ]
        have hng : ¬ ¬ (okG S g ∧ 0 ≤ w ∧ w ≤ 3) := by omega
        exact mv_iret B ⟨by unfold aAb; rw [if_neg hng]; rw [if_neg (by omega), if_neg (by omega), if_pos (by omega)]; unfold otS; rw [if_neg (by omega)], rfl⟩ (by omega) (by omega) d_Fam_about_77
      · refine mv_aloadR_n B d_Fam_about_66 rfl 0 rfl ?_
        refine gf_Fam_121 B hgg.2.1 rfl d_Fam_about_67 ?_
        refine mv_goto (tgt := 77) B d_Fam_about_70 (by decide) ?_
        rw [hQ]
        have hng : ¬ ¬ (okG S g ∧ 0 ≤ w ∧ w ≤ 3) := by omega
        exact mv_iret B ⟨by unfold aAb; rw [if_neg hng]; rw [if_neg (by omega), if_neg (by omega), if_pos (by omega)]; unfold agO; rw [if_pos (by omega)], rfl⟩ (by omega) (by omega) d_Fam_about_77
    by_cases c7 : w = 3
    · refine mv_tab (tgt := 78) (off := 62) B d_Fam_about_16 (by omega) 3 (by omega) (by omega) rfl (by decide) ?_
      refine mv_aloadR_n B d_Fam_about_78 rfl 0 rfl ?_
      refine gf_Fam_127 B hgg.2.1 rfl d_Fam_about_79 ?_
      rw [hQ]
      have hng : ¬ ¬ (okG S g ∧ 0 ≤ w ∧ w ≤ 3) := by omega
      exact mv_iret B ⟨by unfold aAb; rw [if_neg hng]; rw [if_neg (by omega), if_neg (by omega), if_neg (by omega)], rfl⟩ (by omega) (by omega) d_Fam_about_82
    refine mv_tabOut (tgt := 83) B d_Fam_about_16 (by omega) (by omega) (by decide) ?_
    refine mv_iconst (z := -1) B d_Fam_about_83 rfl ?_
    rw [hQ]
    exact mv_iret B ⟨by unfold aAb; rw [if_pos (by omega)], rfl⟩ (by omega) (by omega) d_Fam_about_84
  · have hng : ¬ (0 ≤ g ∧ g < ((S.2.2.1 : Nat) : Int)) := by
      intro q
      rw [if_pos q, (hGl (g).toNat (by omega)).1] at c1
      cases c1
    refine mv_iconst (z := -1) B d_Fam_about_13 rfl ?_
    rw [hQ]
    exact mv_iret B ⟨by unfold aAb; rw [if_pos (by omega)], rfl⟩ (by omega) (by omega) d_Fam_about_14
set_option maxRecDepth 100000 in
set_option maxHeartbeats 4000000 in
theorem m_Fam_part {l : Launch} {V : mv_V} {M : mv_M} {x sh rg rd mk trow grow dep : Nat} {hT : Nat → Nat} {tq : Nat → Q4} {tt : Nat → Tm} {ga ca : Nat → Nat} {f gf : Nat → Option Nat} {S : SS} (hP : ClsC V M x sh rg rd mk trow grow dep hT tq tt ga ca f gf S) (hJ : Jv S) {i j w : Int} (ri : R32 i) (rj : R32 j) (rw9 : R32 w) : Met l y_Fam_part ws_Fam_part (rM 1 0 0 21) (mv_Pre (kk V) [.ref x, .int (iI (i)), .int (iI (j)), .int (iI (w))] M) (mv_Q (kk V) (mv_R (some (.int (iI (aPt S i j w)))) M)) 0 0 V.2.2.2.2 := by
  refine mv_Met (by decide) rfl (Nat.le_of_ble_eq_true rfl) (fun X hX B => ?_)
  subst hX
  replace B : mv_B X (kk V) c_Fam_part ws_Fam_part "FamilyRules" 5 (Option.some Jvm.ClassFile.FieldType.int) (rM 1 0 0 21) "part" := B
  obtain ⟨Q, hQ⟩ : ∃ Q, Q = mv_E X (kk V) (mv_R (some (.int (iI (aPt S i j w)))) M) 0 0 := ⟨_, rfl⟩
  rw [← hQ]
  show mv_G X Q (kk V) 5 0 [(0, .ref x), (1, .int (iI (i))), (2, .int (iI (j))), (3, .int (iI (w)))] [] M 0 0
  obtain ⟨⟨hx, hsh, htr, hrg, hgr, ⟨tm0, al0, fo0, ap0, hrd⟩, ⟨δ, hdp, hδ⟩, ⟨tg0, pl0, src0, P0, ar0, al1, pp0, hmk⟩⟩, hTm, hGl, hIn⟩ := id hP
  have hI := hJ.1
  have hb1 : S.1 ≤ 1500 := hI.1
  have hb2 : S.2.2.1 ≤ 100 := hI.2.1
  have hb3 : bs S.2.1 S.1 ≤ 30000 := hI.2.2.1
  have hDr := fun (t : Nat) (z : Int) => dAt_r (t := tt t) (i := z)
  refine mv_aloadR_n B d_Fam_part_0 rfl 0 rfl ?_
  refine gf_Fam_13 B hx rfl d_Fam_part_1 ?_
  refine mv_iload_n B d_Fam_part_4 rfl 1 rfl ?_
  refine ca_Fam_65 (mc := 0) (ms := 0) (As := [.int (iI (i))]) (rest := []) B (m_Shelf_find hsh htr (by omega) (i := i) (by omega)) rfl rfl ⟨Nat.le_of_ble_eq_true rfl, Nat.le_of_ble_eq_true rfl⟩ hsh rfl rfl (Nat.le_of_ble_eq_true rfl) d_Fam_part_5 ⟨by omega, by omega⟩ (mv_x ?_)
  show mv_G X Q (kk V) 5 8 [(0, .ref x), (1, .int (iI (i))), (2, .int (iI (j))), (3, .int (iI (w)))] [va_rf (if 0 ≤ i ∧ i < ((S.1 : Nat) : Int) then f (i).toNat else none)] M 0 0
  refine mv_astore (lv' := [(4, va_rf (if 0 ≤ i ∧ i < ((S.1 : Nat) : Int) then f (i).toNat else none)), (0, .ref x), (1, .int (iI (i))), (2, .int (iI (j))), (3, .int (iI (w)))]) B d_Fam_part_8 (by decide) rfl ?_
  refine mv_aload B d_Fam_part_10 0 rfl ?_
  refine mv_ifnull (tgt := 24) B d_Fam_part_12 (by decide) (fun c1 => ?_) (fun a2 c1 => ?_)
  · have hni : ¬ (0 ≤ i ∧ i < ((S.1 : Nat) : Int)) := by
      intro q
      rw [if_pos q, (hTm (i).toNat (by omega)).1] at c1
      cases c1
    refine mv_iconst (z := -1) B d_Fam_part_24 rfl ?_
    rw [hQ]
    exact mv_iret B ⟨by unfold aPt; rw [if_pos (show ¬ (0 ≤ i ∧ i < ((S.1 : Nat) : Int) ∧ 0 ≤ j ∧ j < (((S.2.1 i.toNat).length : Nat) : Int) ∧ 0 ≤ w ∧ w ≤ 3) by omega)], rfl⟩ (by omega) (by omega) d_Fam_part_25
  · have hii : 0 ≤ i ∧ i < ((S.1 : Nat) : Int) := by
      apply Classical.byContradiction
      intro q
      rw [if_neg q] at c1
      cases c1
    have hti := hTm (i).toNat (by omega)
    rw [if_pos hii, hti.1]
    show mv_G X Q (kk V) 5 15 [(4, .ref ((hT (i).toNat))), (0, .ref x), (1, .int (iI (i))), (2, .int (iI (j))), (3, .int (iI (w)))] [] M 0 0
    refine mv_aloadR B d_Fam_part_15 0 rfl ?_
    refine mv_iload_n B d_Fam_part_17 rfl 3 rfl ?_
    refine ca_Fam_168 (mc := 0) (ms := 0) (As := [.int (iI (j))]) (rest := []) B (m_Term_has hti.2.1.at hti.2.2.1 (i := j) (by omega)) rfl rfl ⟨Nat.le_of_ble_eq_true rfl, Nat.le_of_ble_eq_true rfl⟩ hti.2.1.1 rfl rfl (Nat.le_of_ble_eq_true rfl) d_Fam_part_18 ⟨by omega, by omega⟩ (mv_x ?_)
    show mv_G X Q (kk V) 5 21 [(4, .ref ((hT (i).toNat))), (0, .ref x), (1, .int (iI (i))), (2, .int (iI (j))), (3, .int (iI (w)))] [.int (iI (if 0 ≤ j ∧ j < ((tt i.toNat).1 : Nat) then 1 else 0))] M 0 0
    refine mv_if_ne (tgt := 26) B d_Fam_part_21 (by decide) (by first | omega | (split <;> omega)) (fun c3 => ?_) (fun c3 => ?_)
    · have hj9 : 0 ≤ j ∧ j < (((tt i.toNat).1 : Nat) : Int) := by
        apply Classical.byContradiction
        intro q
        rw [if_neg q] at c3
        omega
      rw [hti.2.2.2.1.1] at hj9
      have ej : j = ((j.toNat : Nat) : Int) := by omega
      refine mv_iload_n B d_Fam_part_26 rfl 4 rfl ?_
      by_cases c4 : w = 0
      · refine mv_tab (tgt := 56) (off := 29) B d_Fam_part_27 (by first | omega | (split <;> omega)) 0 (by omega) (by omega) rfl (by decide) ?_
        refine mv_aloadR B d_Fam_part_56 0 rfl ?_
        refine mv_iload_n B d_Fam_part_58 rfl 3 rfl ?_
        refine ca_Fam_79 (mc := 0) (ms := 0) (As := [.int (iI (j))]) (rest := []) B (m_Term_kindAt hti.2.1.at hti.2.2.1 (i := j) (by omega)) rfl rfl ⟨Nat.le_of_ble_eq_true rfl, Nat.le_of_ble_eq_true rfl⟩ hti.2.1.1 rfl rfl (Nat.le_of_ble_eq_true rfl) d_Fam_part_59 ⟨by omega, by omega⟩ (mv_x ?_)
        show mv_G X Q (kk V) 5 62 [(4, .ref ((hT (i).toNat))), (0, .ref x), (1, .int (iI (i))), (2, .int (iI (j))), (3, .int (iI (w)))] [.int (iI (kAt (tt i.toNat) j))] M 0 0
        rw [hQ]
        have hng : ¬ ¬ (0 ≤ i ∧ i < ((S.1 : Nat) : Int) ∧ 0 ≤ j ∧ j < (((S.2.1 i.toNat).length : Nat) : Int) ∧ 0 ≤ w ∧ w ≤ 3) := by omega
        exact mv_iret B ⟨by rw [show kAt (tt i.toNat) j = kAt (tt i.toNat) ((j.toNat : Nat) : Int) by rw [← ej], kAt_S hti.2.2.2.1 (by omega)]; unfold aPt; rw [if_neg hng, if_pos (by omega)], rfl⟩ (by omega) (by omega) d_Fam_part_62
      by_cases c5 : w = 1
      · refine mv_tab (tgt := 63) (off := 36) B d_Fam_part_27 (by first | omega | (split <;> omega)) 1 (by omega) (by omega) rfl (by decide) ?_
        refine mv_aloadR B d_Fam_part_63 0 rfl ?_
        refine mv_iload_n B d_Fam_part_65 rfl 3 rfl ?_
        refine ca_Fam_171 (mc := 0) (ms := 0) (As := [.int (iI (j))]) (rest := []) B (m_Term_numberAt hti.2.1.at hti.2.2.1 (i := j) (by omega)) rfl rfl ⟨Nat.le_of_ble_eq_true rfl, Nat.le_of_ble_eq_true rfl⟩ hti.2.1.1 rfl rfl (Nat.le_of_ble_eq_true rfl) d_Fam_part_66 ⟨by omega, by omega⟩ (mv_x ?_)
        show mv_G X Q (kk V) 5 69 [(4, .ref ((hT (i).toNat))), (0, .ref x), (1, .int (iI (i))), (2, .int (iI (j))), (3, .int (iI (w)))] [.int (iI (uAt (tt i.toNat) j))] M 0 0
        rw [hQ]
        have hng : ¬ ¬ (0 ≤ i ∧ i < ((S.1 : Nat) : Int) ∧ 0 ≤ j ∧ j < (((S.2.1 i.toNat).length : Nat) : Int) ∧ 0 ≤ w ∧ w ≤ 3) := by omega
        exact mv_iret B ⟨by rw [show uAt (tt i.toNat) j = uAt (tt i.toNat) ((j.toNat : Nat) : Int) by rw [← ej], uAt_S hti.2.2.2.1 (by omega)]; unfold aPt; rw [if_neg hng, if_neg (by omega), if_pos (by omega)], rfl⟩ (by omega) (by omega) d_Fam_part_69
      by_cases c6 : w = 2
      · refine mv_tab (tgt := 70) (off := 43) B d_Fam_part_27 (by first | omega | (split <;> omega)) 2 (by omega) (by omega) rfl (by decide) ?_
        refine mv_aloadR B d_Fam_part_70 0 rfl ?_
        refine mv_iload_n B d_Fam_part_72 rfl 3 rfl ?_
        refine ca_Fam_174 (mc := 0) (ms := 0) (As := [.int (iI (j))]) (rest := []) B (m_Term_sortAt hti.2.1.at hti.2.2.1 (i := j) (by omega)) rfl rfl ⟨Nat.le_of_ble_eq_true rfl, Nat.le_of_ble_eq_true rfl⟩ hti.2.1.1 rfl rfl (Nat.le_of_ble_eq_true rfl) d_Fam_part_73 ⟨by omega, by omega⟩ (mv_x ?_)
        show mv_G X Q (kk V) 5 76 [(4, .ref ((hT (i).toNat))), (0, .ref x), (1, .int (iI (i))), (2, .int (iI (j))), (3, .int (iI (w)))] [.int (iI (sAt (tt i.toNat) j))] M 0 0
        rw [hQ]
        have hng : ¬ ¬ (0 ≤ i ∧ i < ((S.1 : Nat) : Int) ∧ 0 ≤ j ∧ j < (((S.2.1 i.toNat).length : Nat) : Int) ∧ 0 ≤ w ∧ w ≤ 3) := by omega
        exact mv_iret B ⟨by rw [show sAt (tt i.toNat) j = sAt (tt i.toNat) ((j.toNat : Nat) : Int) by rw [← ej], sAt_S hti.2.2.2.1 (by omega)]; unfold aPt; rw [if_neg hng, if_neg (by omega), if_neg (by omega), if_pos (by omega)], rfl⟩ (by omega) (by omega) d_Fam_part_76
      by_cases c7 : w = 3
      · refine mv_tab (tgt := 77) (off := 50) B d_Fam_part_27 (by first | omega | (split <;> omega)) 3 (by omega) (by omega) rfl (by decide) ?_
        refine mv_aloadR B d_Fam_part_77 0 rfl ?_
        refine mv_iload_n B d_Fam_part_79 rfl 3 rfl ?_
        refine ca_Fam_177 (mc := 0) (ms := 0) (As := [.int (iI (j))]) (rest := []) B (m_Term_nodesAt hti.2.1.at hti.2.2.1 (i := j) (by omega)) rfl rfl ⟨Nat.le_of_ble_eq_true rfl, Nat.le_of_ble_eq_true rfl⟩ hti.2.1.1 rfl rfl (Nat.le_of_ble_eq_true rfl) d_Fam_part_80 ⟨by omega, by omega⟩ (mv_x ?_)
        show mv_G X Q (kk V) 5 83 [(4, .ref ((hT (i).toNat))), (0, .ref x), (1, .int (iI (i))), (2, .int (iI (j))), (3, .int (iI (w)))] [.int (iI (dAt (tt i.toNat) j))] M 0 0
        rw [hQ]
        have hng : ¬ ¬ (0 ≤ i ∧ i < ((S.1 : Nat) : Int) ∧ 0 ≤ j ∧ j < (((S.2.1 i.toNat).length : Nat) : Int) ∧ 0 ≤ w ∧ w ≤ 3) := by omega
        exact mv_iret B ⟨by rw [show dAt (tt i.toNat) j = dAt (tt i.toNat) ((j.toNat : Nat) : Int) by rw [← ej], dAt_S hti.2.2.2.1 (by omega)]; unfold aPt; rw [if_neg hng, if_neg (by omega), if_neg (by omega), if_neg (by omega)], rfl⟩ (by omega) (by omega) d_Fam_part_83
      refine mv_tabOut (tgt := 84) B d_Fam_part_27 (by first | omega | (split <;> omega)) (by omega) (by decide) ?_
      refine mv_iconst (z := -1) B d_Fam_part_84 rfl ?_
      rw [hQ]
      exact mv_iret B ⟨by unfold aPt; rw [if_pos (show ¬ (0 ≤ i ∧ i < ((S.1 : Nat) : Int) ∧ 0 ≤ j ∧ j < (((S.2.1 i.toNat).length : Nat) : Int) ∧ 0 ≤ w ∧ w ≤ 3) by omega)], rfl⟩ (by omega) (by omega) d_Fam_part_85
    · have hj9 : ¬ (0 ≤ j ∧ j < (((tt i.toNat).1 : Nat) : Int)) := by
        intro q
        rw [if_pos q] at c3
        omega
      rw [hti.2.2.2.1.1] at hj9
      refine mv_iconst (z := -1) B d_Fam_part_24 rfl ?_
      rw [hQ]
      exact mv_iret B ⟨by unfold aPt; rw [if_pos (show ¬ (0 ≤ i ∧ i < ((S.1 : Nat) : Int) ∧ 0 ≤ j ∧ j < (((S.2.1 i.toNat).length : Nat) : Int) ∧ 0 ≤ w ∧ w ≤ 3) by omega)], rfl⟩ (by omega) (by omega) d_Fam_part_25
set_option maxRecDepth 100000 in
set_option maxHeartbeats 4000000 in
theorem m_Fam_isLeaf {l : Launch} {V : mv_V} {M : mv_M} {x sh rg rd mk trow grow dep : Nat} {hT : Nat → Nat} {tq : Nat → Q4} {tt : Nat → Tm} {ga ca : Nat → Nat} {f gf : Nat → Option Nat} {S : SS} (hP : ClsC V M x sh rg rd mk trow grow dep hT tq tt ga ca f gf S) (hJ : Jv S) {k a b : Int} (rk : R32 k) (ra : R32 a) (rb : R32 b) : Met l y_Fam_isLeaf ws_Fam_isLeaf (rM 2 0 0 45) (mv_Pre (kk V) [.ref x, .int (iI (k)), .int (iI (a)), .int (iI (b))] M) (mv_Q (kk V) (mv_R (some (.int (iI (if okL S k a b then 1 else 0)))) M)) 0 0 V.2.2.2.2 := by
  refine mv_Met (by decide) rfl (Nat.le_of_ble_eq_true rfl) (fun X hX B => ?_)
  subst hX
  replace B : mv_B X (kk V) c_Fam_isLeaf ws_Fam_isLeaf "FamilyRules" 4 (Option.some Jvm.ClassFile.FieldType.boolean) (rM 2 0 0 45) "isLeaf" := B
  obtain ⟨Q, hQ⟩ : ∃ Q, Q = mv_E X (kk V) (mv_R (some (.int (iI (if okL S k a b then 1 else 0)))) M) 0 0 := ⟨_, rfl⟩
  rw [← hQ]
  show mv_G X Q (kk V) 4 0 [(0, .ref x), (1, .int (iI (k))), (2, .int (iI (a))), (3, .int (iI (b)))] [] M 0 0
  obtain ⟨⟨hx, hsh, htr, hrg, hgr, ⟨tm0, al0, fo0, ap0, hrd⟩, ⟨δ, hdp, hδ⟩, ⟨tg0, pl0, src0, P0, ar0, al1, pp0, hmk⟩⟩, hTm, hGl, hIn⟩ := id hP
  have hI := hJ.1
  have hb1 : S.1 ≤ 1500 := hI.1
  have hb2 : S.2.2.1 ≤ 100 := hI.2.1
  have hb3 : bs S.2.1 S.1 ≤ 30000 := hI.2.2.1
  refine mv_iload_n B d_Fam_isLeaf_0 rfl 1 rfl ?_
  by_cases c1 : k = 0
  · refine mv_tab (tgt := 32) (off := 31) B d_Fam_isLeaf_1 (by first | omega | (split <;> omega)) 0 (by omega) (by omega) rfl (by decide) ?_
    refine mv_iload_n B d_Fam_isLeaf_32 rfl 2 rfl ?_
    refine ca_Fam_133 (mc := 0) (ms := 0) (As := [.int (iI (a))]) (rest := []) B (m_Fam_isNumber (n := a) (by omega)) rfl rfl ⟨Nat.le_of_ble_eq_true rfl, Nat.le_of_ble_eq_true rfl⟩ rfl rfl (Nat.le_of_ble_eq_true rfl) d_Fam_isLeaf_33 ⟨by omega, by omega⟩ (mv_x ?_)
    show mv_G X Q (kk V) 4 36 [(0, .ref x), (1, .int (iI (k))), (2, .int (iI (a))), (3, .int (iI (b)))] [.int (iI (if 0 ≤ a ∧ a ≤ 100 then 1 else 0))] M 0 0
    refine mv_if_eq (tgt := 47) B d_Fam_isLeaf_36 (by decide) (by first | omega | (split <;> omega)) (fun c2 => ?_) (fun c2 => ?_)
    · refine mv_iconst (z := 0) B d_Fam_isLeaf_47 rfl ?_
      rw [hQ]
      exact mv_zret B rfl ⟨by first | (rw [if_pos (by omega)]; done) | (rw [if_neg (by omega)]; done) | (have hisn := id True.intro; split at * <;> first | (rw [if_pos (by omega)]; done) | (rw [if_neg (by omega)]; done) | omega), rfl⟩ (by omega) (by omega) d_Fam_isLeaf_48
    · refine mv_iload_n B d_Fam_isLeaf_39 rfl 3 rfl ?_
      refine mv_if_ne (tgt := 47) B d_Fam_isLeaf_40 (by decide) (by first | omega | (split <;> omega)) (fun c3 => ?_) (fun c3 => ?_)
      · refine mv_iconst (z := 0) B d_Fam_isLeaf_47 rfl ?_
        rw [hQ]
        exact mv_zret B rfl ⟨by first | (rw [if_pos (by omega)]; done) | (rw [if_neg (by omega)]; done) | (have hisn := id True.intro; split at * <;> first | (rw [if_pos (by omega)]; done) | (rw [if_neg (by omega)]; done) | omega), rfl⟩ (by omega) (by omega) d_Fam_isLeaf_48
      · refine mv_iconst (z := 1) B d_Fam_isLeaf_43 rfl ?_
        refine mv_goto (tgt := 48) B d_Fam_isLeaf_44 (by decide) ?_
        rw [hQ]
        exact mv_zret B rfl ⟨by first | (rw [if_pos (by omega)]; done) | (rw [if_neg (by omega)]; done) | (have hisn := id True.intro; split at * <;> first | (rw [if_pos (by omega)]; done) | (rw [if_neg (by omega)]; done) | omega), rfl⟩ (by omega) (by omega) d_Fam_isLeaf_48
  by_cases c4 : k = 1
  · refine mv_tab (tgt := 49) (off := 48) B d_Fam_isLeaf_1 (by first | omega | (split <;> omega)) 1 (by omega) (by omega) rfl (by decide) ?_
    refine mv_aloadR_n B d_Fam_isLeaf_49 rfl 0 rfl ?_
    refine gf_Fam_22 B hx rfl d_Fam_isLeaf_50 ?_
    refine mv_iload_n B d_Fam_isLeaf_53 rfl 2 rfl ?_
    refine ca_Fam_116 (mc := 0) (ms := 0) (As := [.int (iI (a))]) (rest := []) B (m_Register_find hrg hgr (by omega) (i := a) (by omega)) rfl rfl ⟨Nat.le_of_ble_eq_true rfl, Nat.le_of_ble_eq_true rfl⟩ hrg rfl rfl (Nat.le_of_ble_eq_true rfl) d_Fam_isLeaf_54 ⟨by omega, by omega⟩ (mv_x ?_)
    show mv_G X Q (kk V) 4 57 [(0, .ref x), (1, .int (iI (k))), (2, .int (iI (a))), (3, .int (iI (b)))] [va_rf (if 0 ≤ a ∧ a < ((S.2.2.1 : Nat) : Int) then gf (a).toNat else none)] M 0 0
    refine mv_ifnull (tgt := 68) B d_Fam_isLeaf_57 (by decide) (fun c5 => ?_) (fun a6 c5 => ?_)
    · have hna : ¬ (0 ≤ a ∧ a < ((S.2.2.1 : Nat) : Int)) := by
        intro q
        rw [if_pos q, (hGl (a).toNat (by omega)).1] at c5
        cases c5
      refine mv_iconst (z := 0) B d_Fam_isLeaf_68 rfl ?_
      rw [hQ]
      exact mv_zret B rfl ⟨by first | (rw [if_pos (by omega)]; done) | (rw [if_neg (by omega)]; done) | (have hisn := id True.intro; split at * <;> first | (rw [if_pos (by omega)]; done) | (rw [if_neg (by omega)]; done) | omega), rfl⟩ (by omega) (by omega) d_Fam_isLeaf_69
    · have hia : 0 ≤ a ∧ a < ((S.2.2.1 : Nat) : Int) := by
        apply Classical.byContradiction
        intro q
        rw [if_neg q] at c5
        cases c5
      have hga := hGl (a).toNat (by omega)
      have hra := role_sm hI (g := (a).toNat) (by omega)
      refine mv_iload_n B d_Fam_isLeaf_60 rfl 3 rfl ?_
      refine mv_if_ne (tgt := 68) B d_Fam_isLeaf_61 (by decide) (by first | omega | (split <;> omega)) (fun c7 => ?_) (fun c7 => ?_)
      · refine mv_iconst (z := 0) B d_Fam_isLeaf_68 rfl ?_
        rw [hQ]
        exact mv_zret B rfl ⟨by first | (rw [if_pos (by omega)]; done) | (rw [if_neg (by omega)]; done) | (have hisn := id True.intro; split at * <;> first | (rw [if_pos (by omega)]; done) | (rw [if_neg (by omega)]; done) | omega), rfl⟩ (by omega) (by omega) d_Fam_isLeaf_69
      · refine mv_iconst (z := 1) B d_Fam_isLeaf_64 rfl ?_
        refine mv_goto (tgt := 69) B d_Fam_isLeaf_65 (by decide) ?_
        rw [hQ]
        exact mv_zret B rfl ⟨by first | (rw [if_pos (by omega)]; done) | (rw [if_neg (by omega)]; done) | (have hisn := id True.intro; split at * <;> first | (rw [if_pos (by omega)]; done) | (rw [if_neg (by omega)]; done) | omega), rfl⟩ (by omega) (by omega) d_Fam_isLeaf_69
  by_cases c8 : k = 2
  · refine mv_tab (tgt := 32) (off := 31) B d_Fam_isLeaf_1 (by first | omega | (split <;> omega)) 2 (by omega) (by omega) rfl (by decide) ?_
    refine mv_iload_n B d_Fam_isLeaf_32 rfl 2 rfl ?_
    refine ca_Fam_133 (mc := 0) (ms := 0) (As := [.int (iI (a))]) (rest := []) B (m_Fam_isNumber (n := a) (by omega)) rfl rfl ⟨Nat.le_of_ble_eq_true rfl, Nat.le_of_ble_eq_true rfl⟩ rfl rfl (Nat.le_of_ble_eq_true rfl) d_Fam_isLeaf_33 ⟨by omega, by omega⟩ (mv_x ?_)
    show mv_G X Q (kk V) 4 36 [(0, .ref x), (1, .int (iI (k))), (2, .int (iI (a))), (3, .int (iI (b)))] [.int (iI (if 0 ≤ a ∧ a ≤ 100 then 1 else 0))] M 0 0
    refine mv_if_eq (tgt := 47) B d_Fam_isLeaf_36 (by decide) (by first | omega | (split <;> omega)) (fun c9 => ?_) (fun c9 => ?_)
    · refine mv_iconst (z := 0) B d_Fam_isLeaf_47 rfl ?_
      rw [hQ]
      exact mv_zret B rfl ⟨by first | (rw [if_pos (by omega)]; done) | (rw [if_neg (by omega)]; done) | (have hisn := id True.intro; split at * <;> first | (rw [if_pos (by omega)]; done) | (rw [if_neg (by omega)]; done) | omega), rfl⟩ (by omega) (by omega) d_Fam_isLeaf_48
    · refine mv_iload_n B d_Fam_isLeaf_39 rfl 3 rfl ?_
      refine mv_if_ne (tgt := 47) B d_Fam_isLeaf_40 (by decide) (by first | omega | (split <;> omega)) (fun c10 => ?_) (fun c10 => ?_)
      · refine mv_iconst (z := 0) B d_Fam_isLeaf_47 rfl ?_
        rw [hQ]
        exact mv_zret B rfl ⟨by first | (rw [if_pos (by omega)]; done) | (rw [if_neg (by omega)]; done) | (have hisn := id True.intro; split at * <;> first | (rw [if_pos (by omega)]; done) | (rw [if_neg (by omega)]; done) | omega), rfl⟩ (by omega) (by omega) d_Fam_isLeaf_48
      · refine mv_iconst (z := 1) B d_Fam_isLeaf_43 rfl ?_
        refine mv_goto (tgt := 48) B d_Fam_isLeaf_44 (by decide) ?_
        rw [hQ]
        exact mv_zret B rfl ⟨by first | (rw [if_pos (by omega)]; done) | (rw [if_neg (by omega)]; done) | (have hisn := id True.intro; split at * <;> first | (rw [if_pos (by omega)]; done) | (rw [if_neg (by omega)]; done) | omega), rfl⟩ (by omega) (by omega) d_Fam_isLeaf_48
  by_cases c11 : k = 3
  · refine mv_tab (tgt := 70) (off := 69) B d_Fam_isLeaf_1 (by first | omega | (split <;> omega)) 3 (by omega) (by omega) rfl (by decide) ?_
    refine mv_aloadR_n B d_Fam_isLeaf_70 rfl 0 rfl ?_
    refine gf_Fam_22 B hx rfl d_Fam_isLeaf_71 ?_
    refine mv_iload_n B d_Fam_isLeaf_74 rfl 2 rfl ?_
    refine ca_Fam_130 (mc := 0) (ms := 0) (As := [.int (iI (a))]) (rest := []) B (m_Register_findFamily hrg hgr (by omega) (ga := ga) (nu := fun j => ((j : Nat) : Int)) (ro := fun j => (S.2.2.2 j).1) (pa := fun j => (((S.2.2.2 j).2.2.1 : Nat) : Int)) (ix := fun j => (((S.2.2.2 j).2.2.2.1 : Nat) : Int)) (ra := fun j => (((S.2.2.2 j).2.2.2.2.1 : Nat) : Int)) (fa := faO S ga) (co := coO S ca) (tl := tdO S hT) (ag := agO S) (rg2 := fun j => (((S.2.2.2 j).2.2.2.2.2.2.2 : Nat) : Int)) (fun j hj => ⟨(hGl j (by omega)).1, (hGl j (by omega)).2.1, role_sm hI (by omega)⟩) (i := a) (by omega)) rfl rfl ⟨Nat.le_of_ble_eq_true rfl, Nat.le_of_ble_eq_true rfl⟩ hrg rfl rfl (Nat.le_of_ble_eq_true rfl) d_Fam_isLeaf_75 ⟨by omega, by omega⟩ (mv_x ?_)
    show mv_G X Q (kk V) 4 78 [(0, .ref x), (1, .int (iI (k))), (2, .int (iI (a))), (3, .int (iI (b)))] [va_rf (if 0 ≤ a ∧ a < ((S.2.2.1 : Nat) : Int) ∧ (S.2.2.2 (a).toNat).1 = 3 then some (ga (a).toNat) else none)] M 0 0
    refine mv_ifnull (tgt := 92) B d_Fam_isLeaf_78 (by decide) (fun c12 => ?_) (fun a13 c12 => ?_)
    · have hna : ¬ (0 ≤ a ∧ a < ((S.2.2.1 : Nat) : Int) ∧ (S.2.2.2 (a).toNat).1 = 3) := by
        intro q
        rw [if_pos q] at c12
        cases c12
      refine mv_iconst (z := 0) B d_Fam_isLeaf_92 rfl ?_
      rw [hQ]
      exact mv_zret B rfl ⟨by first | (rw [if_pos (by omega)]; done) | (rw [if_neg (by omega)]; done) | (have hisn := id True.intro; split at * <;> first | (rw [if_pos (by omega)]; done) | (rw [if_neg (by omega)]; done) | omega), rfl⟩ (by omega) (by omega) d_Fam_isLeaf_93
    · have hia : 0 ≤ a ∧ a < ((S.2.2.1 : Nat) : Int) ∧ (S.2.2.2 (a).toNat).1 = 3 := by
        apply Classical.byContradiction
        intro q
        rw [if_neg q] at c12
        cases c12
      have hga := hGl (a).toNat (by omega)
      refine mv_iload_n B d_Fam_isLeaf_81 rfl 3 rfl ?_
      refine ca_Fam_133 (mc := 0) (ms := 0) (As := [.int (iI (b))]) (rest := []) B (m_Fam_isNumber (n := b) (by omega)) rfl rfl ⟨Nat.le_of_ble_eq_true rfl, Nat.le_of_ble_eq_true rfl⟩ rfl rfl (Nat.le_of_ble_eq_true rfl) d_Fam_isLeaf_82 ⟨by omega, by omega⟩ (mv_x ?_)
      show mv_G X Q (kk V) 4 85 [(0, .ref x), (1, .int (iI (k))), (2, .int (iI (a))), (3, .int (iI (b)))] [.int (iI (if 0 ≤ b ∧ b ≤ 100 then 1 else 0))] M 0 0
      refine mv_if_eq (tgt := 92) B d_Fam_isLeaf_85 (by decide) (by first | omega | (split <;> omega)) (fun c14 => ?_) (fun c14 => ?_)
      · refine mv_iconst (z := 0) B d_Fam_isLeaf_92 rfl ?_
        rw [hQ]
        exact mv_zret B rfl ⟨by first | (rw [if_pos (by omega)]; done) | (rw [if_neg (by omega)]; done) | (have hisn := id True.intro; split at * <;> first | (rw [if_pos (by omega)]; done) | (rw [if_neg (by omega)]; done) | omega), rfl⟩ (by omega) (by omega) d_Fam_isLeaf_93
      · refine mv_iconst (z := 1) B d_Fam_isLeaf_88 rfl ?_
        refine mv_goto (tgt := 93) B d_Fam_isLeaf_89 (by decide) ?_
        rw [hQ]
        exact mv_zret B rfl ⟨by first | (rw [if_pos (by omega)]; done) | (rw [if_neg (by omega)]; done) | (have hisn := id True.intro; split at * <;> first | (rw [if_pos (by omega)]; done) | (rw [if_neg (by omega)]; done) | omega), rfl⟩ (by omega) (by omega) d_Fam_isLeaf_93
  refine mv_tabOut (tgt := 94) B d_Fam_isLeaf_1 (by first | omega | (split <;> omega)) (by omega) (by decide) ?_
  refine mv_iconst (z := 0) B d_Fam_isLeaf_94 rfl ?_
  rw [hQ]
  exact mv_zret B rfl ⟨by first | (rw [if_pos (by omega)]; done) | (rw [if_neg (by omega)]; done) | (have hisn := id True.intro; split at * <;> first | (rw [if_pos (by omega)]; done) | (rw [if_neg (by omega)]; done) | omega), rfl⟩ (by omega) (by omega) d_Fam_isLeaf_95
