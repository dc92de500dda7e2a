theorem lf_T {S : SS} {k a b : Int} (h : okL S k a b) (hg : S.2.2.1 ≤ 100) {τ : Tm} (e : τ = setT (1, fun _ => 0, fun _ => 0, fun _ => 0, va_up (fun _ => 0) 0 1) 0 k a b) : Tok τ ∧ TmS τ [(k, a, b)] := by
  have e' : τ = (1, va_up (fun _ => 0) 0 k, va_up (fun _ => 0) 0 a, va_up (fun _ => 0) 0 b, va_up (fun _ => 0) 0 1) := by
    rw [e]
    unfold setT
    rw [if_pos (by decide)]
    rfl
  subst e'
  have hk : k < 4 := by omega
  refine ⟨⟨by simp, by simp, fun j => ?_, fun j => ?_, fun j => ?_, fun j => ?_⟩, rfl, fun i hi => ?_⟩
  · show 0 ≤ va_up (fun _ => 0) 0 k j ∧ va_up (fun _ => 0) 0 k j ≤ 6
    by_cases z : j = 0
    · subst z; rw [va_us]; omega
    · rw [va_un z]; exact ⟨by decide, by decide⟩
  · show -1 ≤ va_up (fun _ => 0) 0 a j ∧ va_up (fun _ => 0) 0 a j ≤ 1000000
    by_cases z : j = 0
    · subst z; rw [va_us]; omega
    · rw [va_un z]; exact ⟨by decide, by decide⟩
  · show 0 ≤ va_up (fun _ => 0) 0 b j ∧ va_up (fun _ => 0) 0 b j ≤ 100
    by_cases z : j = 0
    · subst z; rw [va_us]; omega
    · rw [va_un z]; exact ⟨by decide, by decide⟩
  · show 0 ≤ va_up (fun _ => (0 : Int)) 0 1 j ∧ va_up (fun _ => (0 : Int)) 0 1 j ≤ 1000
    by_cases z : j = 0
    · subst z; rw [va_us]; omega
    · rw [va_un z]; exact ⟨by decide, by decide⟩
  · have : i = 0 := by simp at hi; omega
    subst this
    refine ⟨rfl, rfl, rfl, ?_⟩
    rw [(lf_ok h hg).2.2]
    rfl
set_option maxRecDepth 100000 in
set_option maxHeartbeats 4000000 in
theorem m_Fam_leaf {l : Launch} {V : mv_V} {M : mv_M} {x sh rg rd mk trow grow dep : Nat} {hT : Nat → Nat} {tq : Nat → Q4} {tt : Nat → Tm} {ga ca : Nat → Nat} {f gf : Nat → Option Nat} {S : SS} (hP : ClsC V M x sh rg rd mk trow grow dep hT tq tt ga ca f gf S) (hJ : Jv S) {k a b : Int} (rk : R32 k) (ra : R32 a) (rb : R32 b) : Met l y_Fam_leaf ws_Fam_leaf (rM 4 5 4004 110) (mv_Pre (kk V) [.ref x, .int (iI (k)), .int (iI (a)), .int (iI (b))] M) (mv_Q (kk V) (fun z0 M' => z0 = some (.int (iI (aLf S k a b))) ∧ ClsP V M' x (nLf S k a b))) 5 4004 V.2.2.2.2 := by
  refine mv_Met (by decide) rfl (Nat.le_of_ble_eq_true rfl) (fun X hX B => ?_)
  subst hX
  replace B : mv_B X (kk V) c_Fam_leaf ws_Fam_leaf "FamilyRules" 5 (Option.some Jvm.ClassFile.FieldType.int) (rM 4 5 4004 110) "leaf" := B
  obtain ⟨Q, hQ⟩ : ∃ Q, Q = mv_E X (kk V) (fun z0 M' => z0 = some (.int (iI (aLf S k a b))) ∧ ClsP V M' x (nLf S k a b)) 5 4004 := ⟨_, rfl⟩
  rw [← hQ]
  show mv_G X Q (kk V) 5 0 [(0, .ref x), (1, .int (iI (k))), (2, .int (iI (a))), (3, .int (iI (b)))] [] M 0 0
  have hrc : (rM 4 5 4004 110).cells = 5 := rfl
  have hrs : (rM 4 5 4004 110).slots = 4004 := rfl
  obtain ⟨⟨hx, hsh, htr, hrg, hgr, ⟨tm0, al0, fo0, ap0, hrd⟩, ⟨δ, hdp, hδ⟩, ⟨tg0, pl0, src0, P0, ar0, al1, pp0, hmk⟩⟩, hTm, hGl, hIn⟩ := id hP
  have hI := hJ.1
  have hb1 : S.1 ≤ 1500 := hI.1
  have hb2 : S.2.2.1 ≤ 100 := hI.2.1
  have hb3 : bs S.2.1 S.1 ≤ 30000 := hI.2.2.1
  refine mv_aloadR_n B d_Fam_leaf_0 rfl 0 rfl ?_
  refine mv_iload_n B d_Fam_leaf_1 rfl 1 rfl ?_
  refine mv_iload_n B d_Fam_leaf_2 rfl 2 rfl ?_
  refine mv_iload_n B d_Fam_leaf_3 rfl 3 rfl ?_
  refine ca_Fam_39 (mc := 0) (ms := 0) (As := [.int (iI (k)), .int (iI (a)), .int (iI (b))]) (rest := []) B (m_Fam_isLeaf hP hJ rk ra rb) rfl rfl ⟨Nat.le_of_ble_eq_true rfl, Nat.le_of_ble_eq_true rfl⟩ hx rfl rfl (Nat.le_of_ble_eq_true rfl) d_Fam_leaf_4 ⟨by omega, by omega⟩ (mv_x ?_)
  show mv_G X Q (kk V) 5 7 [(0, .ref x), (1, .int (iI (k))), (2, .int (iI (a))), (3, .int (iI (b)))] [.int (iI (if okL S k a b then 1 else 0))] M 0 0
  refine mv_if_ne (tgt := 12) B d_Fam_leaf_7 (by decide) (by first | omega | (split <;> omega)) (fun c1 => ?_) (fun c1 => ?_)
  · have hlf : okL S k a b := by
      apply Classical.byContradiction
      intro q
      rw [if_neg q] at c1
      omega
    refine mv_aloadR_n B d_Fam_leaf_12 rfl 0 rfl ?_
    refine gf_Fam_13 B hx rfl d_Fam_leaf_13 ?_
    refine mv_iconst (z := 1) B d_Fam_leaf_16 rfl ?_
    obtain ⟨n9, hn9⟩ : ∃ n : Nat, n = (if 1 ≤ (1 : Int) ∧ (1 : Int) ≤ 1000 ∧ (1 : Int) ≤ 30000 - ((bs S.2.1 S.1 : Nat) : Int) ∧ ((S.1 : Nat) : Int) < 1500 then (1 : Int).toNat else 0) := ⟨_, rfl⟩
    have hn9b : n9 ≤ 1000 := by rw [hn9]; split <;> omega
    refine ca_Fam_43 (mc := 5) (ms := 4 * n9 + 4) (rm' := rM 2 5 (4 * n9 + 4) 62) (As := [.int (iI (1))]) (rest := []) B (m_Shelf_blank hsh (by omega) (by omega) (i := (1 : Int)) (by omega) hn9) rfl rfl ⟨Nat.le_of_ble_eq_true rfl, Nat.le_of_ble_eq_true rfl⟩ hsh rfl rfl (Nat.le_of_ble_eq_true rfl) d_Fam_leaf_17 ⟨by omega, by omega⟩ (fun v1 M1 ep => ?_)
    rcases ep with ⟨hb9, hv9, hM9⟩ | ⟨hb9, p, q, hv9, hTC, hE, hL⟩
    · subst hv9
      subst hM9
      show mv_G X Q (kk V) 5 20 [(0, .ref x), (1, .int (iI (k))), (2, .int (iI (a))), (3, .int (iI (b)))] [va_rf (none)] M1 (0 + 5) (0 + (4 * n9 + 4))
      refine mv_astore (lv' := [(4, va_rf (none)), (0, .ref x), (1, .int (iI (k))), (2, .int (iI (a))), (3, .int (iI (b)))]) B d_Fam_leaf_20 (by decide) rfl ?_
      refine mv_aload B d_Fam_leaf_22 0 rfl ?_
      refine mv_ifnonnull (tgt := 29) B d_Fam_leaf_24 (by decide) (fun a3 c2 => by cases c2) (fun c2 => ?_)
      refine mv_iconst (z := -1) B d_Fam_leaf_27 rfl ?_
      rw [hQ]
      have hok : ¬ okT S [(k, a, b)] := by
        show ¬ ¬ (S.1 = 1500 ∨ 1000 < 1 ∨ 30000 < bs S.2.1 S.1 + 1)
        omega
      exact mv_iret B ⟨by unfold aLf aT; rw [if_pos hlf, if_neg hok], by unfold nLf nT; rw [if_pos hlf, if_neg hok]; exact ⟨sh, rg, rd, mk, trow, grow, dep, hT, tq, tt, ga, ca, f, gf, hP⟩⟩ (by omega) (by omega) d_Fam_leaf_28
    · subst hv9
      have en9 : n9 = (1 : Int).toNat := by rw [hn9, if_pos hb9]
      have hx1 := hE _ _ hx
      have hsh1 := hE _ _ hsh
      have htr1 := hE _ _ htr
      have hrg1 := hE _ _ hrg
      have hgr1 := hE _ _ hgr
      have hrd1 := hE _ _ hrd
      have hmk1 := hE _ _ hmk
      have hdp1 := hE _ _ hdp
      have hqx := hL _ _ hx
      have hqsh := hL _ _ hsh
      have hqtrow := hL _ _ htr
      have hqrg := hL _ _ hrg
      have hqgrow := hL _ _ hgr
      have hqrd := hL _ _ hrd
      have hqmk := hL _ _ hmk
      have hqdep := hL _ _ hdp
      show mv_G X Q (kk V) 5 20 [(0, .ref x), (1, .int (iI (k))), (2, .int (iI (a))), (3, .int (iI (b)))] [.ref p] M1 (0 + 5) (0 + (4 * n9 + 4))
      refine mv_astoreR (lv' := [(4, .ref p), (0, .ref x), (1, .int (iI (k))), (2, .int (iI (a))), (3, .int (iI (b)))]) B d_Fam_leaf_20 (by decide) rfl ?_
      refine mv_aloadR B d_Fam_leaf_22 0 rfl ?_
      refine mv_ifnonnullR (tgt := 29) B d_Fam_leaf_24 (by decide) ?_
      refine mv_aloadR B d_Fam_leaf_29 0 rfl ?_
      refine mv_iconst (z := 0) B d_Fam_leaf_31 rfl ?_
      refine mv_iload_n B d_Fam_leaf_32 rfl 2 rfl ?_
      refine mv_iload_n B d_Fam_leaf_33 rfl 3 rfl ?_
      refine mv_iload_n B d_Fam_leaf_34 rfl 4 rfl ?_
      refine ca_Fam_47 (mc := 0) (ms := 0) (As := [.int (iI (0)), .int (iI (k)), .int (iI (a)), .int (iI (b))]) (rest := []) B (m_Term_set hTC (by show n9 ≤ 1000; omega) (i := 0) (kd := k) (nu := a) (so := b) (by omega)) rfl rfl ⟨Nat.le_of_ble_eq_true rfl, Nat.le_of_ble_eq_true rfl⟩ hTC.1 rfl rfl (Nat.le_of_ble_eq_true rfl) d_Fam_leaf_35 ⟨by omega, by omega⟩ (mv_x ?_)
      show mv_G X Q (kk V) 5 38 [(4, .ref p), (0, .ref x), (1, .int (iI (k))), (2, .int (iI (a))), (3, .int (iI (b)))] [] (wrTm V M1 q (setT (n9, fun _ => 0, fun _ => 0, fun _ => 0, va_up (fun _ => 0) 0 1) (0) (k) (a) (b))) (0 + 5) (0 + (4 * n9 + 4))
      obtain ⟨τ1, hτ1⟩ : ∃ z : Tm, z = setT (n9, fun _ => 0, fun _ => 0, fun _ => 0, va_up (fun _ => 0) 0 1) (0) (k) (a) (b) := ⟨_, rfl⟩
      rw [← hτ1]
      obtain ⟨N1, hN1⟩ : ∃ z : mv_M, z = wrTm V M1 q τ1 := ⟨_, rfl⟩
      rw [show wrTm V M1 q τ1 = N1 from by rw [hN1]]
      have hC1 : TmC V N1 p q τ1 := by rw [hN1]; exact wrTm_c hTC
      have hxn1 : N1 x = some (.inr (6, [.ref sh, .ref rg, .ref rd, .ref mk])) := by rw [hN1, wrTm_ne (by omega) (by omega) (by omega) (by omega)]; exact hx1
      have hshn1 : N1 sh = some (.inr (1, [.ref trow, .int (iI ((S.1 : Nat) : Int)), .int (iI ((bs S.2.1 S.1 : Nat) : Int))])) := by rw [hN1, wrTm_ne (by omega) (by omega) (by omega) (by omega)]; exact hsh1
      have htrn1 : N1 trow = some (tA V 1500 f) := by rw [hN1, wrTm_ne (by omega) (by omega) (by omega) (by omega)]; exact htr1
      have hrgn1 : N1 rg = some (.inr (3, [.ref grow, .int (iI ((S.2.2.1 : Nat) : Int))])) := by rw [hN1, wrTm_ne (by omega) (by omega) (by omega) (by omega)]; exact hrg1
      have hgrn1 : N1 grow = some (gA V 100 gf) := by rw [hN1, wrTm_ne (by omega) (by omega) (by omega) (by omega)]; exact hgr1
      have hrdn1 : N1 rd = some (dC dep tm0 al0 fo0 ap0) := by rw [hN1, wrTm_ne (by omega) (by omega) (by omega) (by omega)]; exact hrd1
      have hmkn1 : N1 mk = some (mkC rd tg0 pl0 src0 P0 ar0 al1 pp0) := by rw [hN1, wrTm_ne (by omega) (by omega) (by omega) (by omega)]; exact hmk1
      have hdpn1 : N1 dep = some (iA V 1000 δ) := by rw [hN1, wrTm_ne (by omega) (by omega) (by omega) (by omega)]; exact hdp1
      show mv_G X Q (kk V) 5 38 [(4, .ref p), (0, .ref x), (1, .int (iI (k))), (2, .int (iI (a))), (3, .int (iI (b)))] [] N1 (0 + 5) (0 + (4 * n9 + 4))
      have hTk := lf_T hlf hb2 (show τ1 = setT (1, fun _ => 0, fun _ => 0, fun _ => 0, va_up (fun _ => 0) 0 1) 0 k a b by rw [hτ1, show n9 = 1 by omega])
      refine mv_aloadR_n B d_Fam_leaf_38 rfl 1 rfl ?_
      refine gf_Fam_13 B hxn1 rfl d_Fam_leaf_39 ?_
      refine mv_aloadR B d_Fam_leaf_42 0 rfl ?_
      refine ca_Fam_53 (mc := 0) (ms := 0) (rm' := rM 1 0 0 20) (As := [.ref p]) (rest := []) B (m_Shelf_keep hshn1 htrn1 (by omega) hC1.at hTk.1 (by omega)) rfl rfl ⟨Nat.le_of_ble_eq_true rfl, Nat.le_of_ble_eq_true rfl⟩ hshn1 rfl rfl (Nat.le_of_ble_eq_true rfl) d_Fam_leaf_44 ⟨by omega, by omega⟩ (fun v1 M9 ep => ?_)
      obtain ⟨e1, e2⟩ := ep
      subst e1
      show mv_G X Q (kk V) 5 47 [(4, .ref p), (0, .ref x), (1, .int (iI (k))), (2, .int (iI (a))), (3, .int (iI (b)))] [.int (iI ((S.1 : Nat) : Int))] M9 (0 + 5) (0 + (4 * n9 + 4))
      rw [hQ]
      have hok : okT S [(k, a, b)] := by
        show ¬ (S.1 = 1500 ∨ 1000 < 1 ∨ 30000 < bs S.2.1 S.1 + 1)
        omega
      refine mv_iret B ⟨?_, ?_⟩ (by omega) (by omega) d_Fam_leaf_47
      · unfold aLf aT; rw [if_pos hlf, if_pos hok]
      · unfold nLf nT; rw [if_pos hlf, if_pos hok]
        rw [e2]
        exact ⟨sh, rg, rd, mk, trow, grow, dep, _, _, _, ga, ca, _, gf, Cls_fin hP hJ hE hL (fun y c hy _ _ _ a b c2 d2 => by rw [hN1, wrTm_ne a b c2 d2]; exact hy) ⟨_, _, _, _, hrdn1⟩ ⟨δ, hdpn1, hδ⟩ ⟨_, _, _, _, _, _, _, hmkn1⟩ hC1 hTk.1 hTk.2⟩
  · have hlf : ¬ okL S k a b := by
      intro q
      rw [if_pos q] at c1
      omega
    refine mv_iconst (z := -1) B d_Fam_leaf_10 rfl ?_
    rw [hQ]
    exact mv_iret B ⟨by unfold aLf; rw [if_neg hlf], by unfold nLf; rw [if_neg hlf]; exact ⟨sh, rg, rd, mk, trow, grow, dep, hT, tq, tt, ga, ca, f, gf, hP⟩⟩ (by omega) (by omega) d_Fam_leaf_11
