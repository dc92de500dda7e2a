theorem setT_1 {t : Tm} {i k u s : Int} : (setT t i k u s).1 = t.1 := by unfold setT; split <;> rfl
theorem TmC_wr {V : mv_V} {M M1 : mv_M} {p : Nat} {q : Q4} {τ : Tm} (hE : ∀ y c, M y = some c → M1 y = some c) (hL : ∀ y c, M y = some c → y < p ∧ y < q.1 ∧ y < q.2.1 ∧ y < q.2.2.1 ∧ y < q.2.2.2) {h' : Nat} {q' : Q4} {t' : Tm} (hC : TmC V M h' q' t') : TmC V (wrTm V M1 q τ) h' q' t' := by
  obtain ⟨c0, c1, c2, c3, c4, c5⟩ := hC
  have k : ∀ y c, M y = some c → wrTm V M1 q τ y = some c := fun y c hy => by
    obtain ⟨l0, l1, l2, l3, l4⟩ := hL y c hy
    rw [wrTm_ne (by omega) (by omega) (by omega) (by omega)]
    exact hE y c hy
  exact ⟨k _ _ c0, k _ _ c1, k _ _ c2, k _ _ c3, k _ _ c4, c5⟩
theorem TmC_dj {V : mv_V} {M : mv_M} {p : Nat} {q : Q4} (hL : ∀ y c, M y = some c → y < p ∧ y < q.1 ∧ y < q.2.1 ∧ y < q.2.2.1 ∧ y < q.2.2.2) {h' : Nat} {q' : Q4} {t' : Tm} (hC : TmC V M h' q' t') : ∀ y z, y ∈ [q'.1, q'.2.1, q'.2.2.1, q'.2.2.2] → z ∈ [q.1, q.2.1, q.2.2.1, q.2.2.2] → y ≠ z := by
  obtain ⟨c0, c1, c2, c3, c4, c5⟩ := hC
  have l1 := hL _ _ c1
  have l2 := hL _ _ c2
  have l3 := hL _ _ c3
  have l4 := hL _ _ c4
  intro y z hy hz
  simp only [List.mem_cons, List.not_mem_nil, or_false] at hy hz
  rcases hy with rfl | rfl | rfl | rfl <;> rcases hz with rfl | rfl | rfl | rfl <;> omega
theorem cpy_at {f g : Nat → Int} {p n j : Nat} : va_cpy f g 0 p n j = if p ≤ j ∧ j < p + n then f (j - p) else g j := by
  unfold va_cpy
  rw [Nat.zero_add]
theorem tw_T {S : SS} {a b : Int} {ta tb : Tm} (ha : TmS ta (S.2.1 a.toNat)) (hb : TmS tb (S.2.1 b.toNat)) (oa : Tok ta) (ob : Tok tb) {k v : Int} (hk : 4 ≤ k ∧ k ≤ 6) (hv : -1 ≤ v ∧ v < 100) {τ : Tm} (e : τ = pasT (pasT (setT (1 + ta.1 + tb.1, fun _ => 0, fun _ => 0, fun _ => 0, va_up (fun _ => 0) 0 1) 0 k v 0) ta 1) tb (1 + ta.1)) (hn : 1 + ta.1 + tb.1 ≤ 1000) : Tok τ ∧ ∀ i, i < 1 + ta.1 + tb.1 → τ.2.1 i = (gN (twL S k v a b) i).1 ∧ τ.2.2.1 i = (gN (twL S k v a b) i).2.1 ∧ τ.2.2.2.1 i = (gN (twL S k v a b) i).2.2 := by
  have e1 : setT (1 + ta.1 + tb.1, fun _ => 0, fun _ => 0, fun _ => 0, va_up (fun _ => 0) 0 1) 0 k v 0 = (1 + ta.1 + tb.1, va_up (fun _ => 0) 0 k, va_up (fun _ => 0) 0 v, va_up (fun _ => 0) 0 0, va_up (fun _ => 0) 0 1) := by
    unfold setT
    rw [if_pos (by simp only; omega)]
    rfl
  rw [e1] at e
  subst e
  unfold pasT
  simp only
  have l1 := ha.1
  have l2 := hb.1
  refine ⟨⟨by simp only; omega, hn, fun j => ?_, fun j => ?_, fun j => ?_, fun j => ?_⟩, fun i hi => ?_⟩
  · show 0 ≤ va_cpy _ _ _ _ _ j ∧ va_cpy _ _ _ _ _ j ≤ 6
    rw [cpy_at]
    split
    · exact ob.2.2.1 _
    · rw [cpy_at]
      split
      · exact oa.2.2.1 _
      · by_cases z : j = 0
        · subst z; rw [va_us]; omega
        · rw [va_un z]; exact ⟨by decide, by decide⟩
  · show -1 ≤ va_cpy _ _ _ _ _ j ∧ va_cpy _ _ _ _ _ j ≤ 1000000
    rw [cpy_at]
    split
    · exact ob.2.2.2.1 _
    · rw [cpy_at]
      split
      · exact oa.2.2.2.1 _
      · by_cases z : j = 0
        · subst z; rw [va_us]; omega
        · rw [va_un z]; exact ⟨by decide, by decide⟩
  · show 0 ≤ va_cpy _ _ _ _ _ j ∧ va_cpy _ _ _ _ _ j ≤ 100
    rw [cpy_at]
    split
    · exact ob.2.2.2.2.1 _
    · rw [cpy_at]
      split
      · exact oa.2.2.2.2.1 _
      · by_cases z : j = 0
        · subst z; rw [va_us]; exact ⟨by decide, by decide⟩
        · rw [va_un z]; exact ⟨by decide, by decide⟩
  · show 0 ≤ va_up (fun _ => (0 : Int)) 0 1 j ∧ va_up (fun _ => (0 : Int)) 0 1 j ≤ 1000
    by_cases z : j = 0
    · subst z; rw [va_us]; exact ⟨by decide, by decide⟩
    · rw [va_un z]; exact ⟨by decide, by decide⟩
  · rw [cpy_at, cpy_at, cpy_at, cpy_at, cpy_at, cpy_at]
    have eg : twL S k v a b = [(k, v, 0)] ++ (S.2.1 a.toNat ++ S.2.1 b.toNat) := rfl
    rw [eg]
    by_cases z : i = 0
    · subst z
      rw [if_neg (by omega), if_neg (by omega), if_neg (by omega), if_neg (by omega), if_neg (by omega), if_neg (by omega), va_us, va_us, va_us]
      exact ⟨rfl, rfl, rfl⟩
    · obtain ⟨m, rfl⟩ : ∃ m, i = [(k, v, (0 : Int))].length + m := ⟨i - 1, by simp only [List.length_cons, List.length_nil]; omega⟩
      rw [gN_r]
      have el : [(k, v, (0 : Int))].length = 1 := rfl
      rw [el] at hi ⊢
      by_cases z2 : m < (S.2.1 a.toNat).length
      · have c1 : ¬ (1 + ta.1 ≤ 1 + m ∧ 1 + m < 1 + ta.1 + tb.1) := by omega
        have c2 : 1 ≤ 1 + m ∧ 1 + m < 1 + ta.1 := by omega
        rw [if_neg c1, if_neg c1, if_neg c1, if_pos c2, if_pos c2, if_pos c2, gN_l z2, show 1 + m - 1 = m by omega]
        obtain ⟨q1, q2, q3, -⟩ := ha.2 m z2
        exact ⟨q1, q2, q3⟩
      · obtain ⟨r, rfl⟩ : ∃ r, m = (S.2.1 a.toNat).length + r := ⟨m - (S.2.1 a.toNat).length, by omega⟩
        rw [if_pos (by omega), if_pos (by omega), if_pos (by omega), gN_r, show 1 + ((S.2.1 a.toNat).length + r) - (1 + ta.1) = r by omega]
        obtain ⟨q1, q2, q3, -⟩ := hb.2 r (by omega)
        exact ⟨q1, q2, q3⟩
set_option maxRecDepth 100000 in
set_option maxHeartbeats 4000000 in
theorem m_Fam_join {l : Launch} {V : mv_V} {M : mv_M} {x sh rg rd mk trow grow dep : Nat} {hT : Nat → Nat} {tq : Nat → Q4} {tt : Nat → Tm} {ga ca : Nat → Nat} {f gf : Nat → Option Nat} {S : SS} (hP : ClsC V M x sh rg rd mk trow grow dep hT tq tt ga ca f gf S) (hJ : Jv S) {k v a b : Int} (hk : 4 ≤ k ∧ k ≤ 6) (hv : -1 ≤ v ∧ v < 100) (ra : R32 a) (rb : R32 b) : Met l y_Fam_join ws_Fam_join (rM 4 5 4004 110) (mv_Pre (kk V) [.ref x, .int (iI (k)), .int (iI (v)), .int (iI (a)), .int (iI (b))] M) (mv_Q (kk V) (fun z0 M' => z0 = some (.int (iI (aTw S k v a b))) ∧ ClsP V M' x (nTw S k v a b))) 5 4004 V.2.2.2.2 := by
  refine mv_Met (by decide) rfl (Nat.le_of_ble_eq_true rfl) (fun X hX B => ?_)
  subst hX
  replace B : mv_B X (kk V) c_Fam_join ws_Fam_join "FamilyRules" 8 (Option.some Jvm.ClassFile.FieldType.int) (rM 4 5 4004 110) "join" := B
  obtain ⟨Q, hQ⟩ : ∃ Q, Q = mv_E X (kk V) (fun z0 M' => z0 = some (.int (iI (aTw S k v a b))) ∧ ClsP V M' x (nTw S k v a b)) 5 4004 := ⟨_, rfl⟩
  rw [← hQ]
  show mv_G X Q (kk V) 8 0 [(0, .ref x), (1, .int (iI (k))), (2, .int (iI (v))), (3, .int (iI (a))), (4, .int (iI (b)))] [] M 0 0
  have hrc : (rM 4 5 4004 110).cells = 5 := rfl
  have hrs : (rM 4 5 4004 110).slots = 4004 := rfl
  obtain ⟨⟨hx, hsh, htr, hrg, hgr, ⟨tm0, al0, fo0, ap0, hrd⟩, ⟨δ, hdp, hδ⟩, ⟨tg0, pl0, src0, P0, ar0, al1, pp0, hmk⟩⟩, hTm, hGl, hIn⟩ := id hP
  have hI := hJ.1
  have hb1 : S.1 ≤ 1500 := hI.1
  have hb2 : S.2.2.1 ≤ 100 := hI.2.1
  have hb3 : bs S.2.1 S.1 ≤ 30000 := hI.2.2.1
  refine mv_aloadR_n B d_Fam_join_0 rfl 0 rfl ?_
  refine gf_Fam_13 B hx rfl d_Fam_join_1 ?_
  refine mv_iload_n B d_Fam_join_4 rfl 3 rfl ?_
  refine ca_Fam_65 (mc := 0) (ms := 0) (As := [.int (iI (a))]) (rest := []) B (m_Shelf_find hsh htr (by omega) (i := a) (by omega)) rfl rfl ⟨Nat.le_of_ble_eq_true rfl, Nat.le_of_ble_eq_true rfl⟩ hsh rfl rfl (Nat.le_of_ble_eq_true rfl) d_Fam_join_5 ⟨by omega, by omega⟩ (mv_x ?_)
  show mv_G X Q (kk V) 8 8 [(0, .ref x), (1, .int (iI (k))), (2, .int (iI (v))), (3, .int (iI (a))), (4, .int (iI (b)))] [va_rf (if 0 ≤ a ∧ a < ((S.1 : Nat) : Int) then f (a).toNat else none)] M 0 0
  refine mv_astore (lv' := [(5, va_rf (if 0 ≤ a ∧ a < ((S.1 : Nat) : Int) then f (a).toNat else none)), (0, .ref x), (1, .int (iI (k))), (2, .int (iI (v))), (3, .int (iI (a))), (4, .int (iI (b)))]) B d_Fam_join_8 (by decide) rfl ?_
  refine mv_aloadR_n B d_Fam_join_10 rfl 1 rfl ?_
  refine gf_Fam_13 B hx rfl d_Fam_join_11 ?_
  refine mv_iload B d_Fam_join_14 5 rfl ?_
  refine ca_Fam_65 (mc := 0) (ms := 0) (As := [.int (iI (b))]) (rest := []) B (m_Shelf_find hsh htr (by omega) (i := b) (by omega)) rfl rfl ⟨Nat.le_of_ble_eq_true rfl, Nat.le_of_ble_eq_true rfl⟩ hsh rfl rfl (Nat.le_of_ble_eq_true rfl) d_Fam_join_16 ⟨by omega, by omega⟩ (mv_x ?_)
  show mv_G X Q (kk V) 8 19 [(5, va_rf (if 0 ≤ a ∧ a < ((S.1 : Nat) : Int) then f (a).toNat else none)), (0, .ref x), (1, .int (iI (k))), (2, .int (iI (v))), (3, .int (iI (a))), (4, .int (iI (b)))] [va_rf (if 0 ≤ b ∧ b < ((S.1 : Nat) : Int) then f (b).toNat else none)] M 0 0
  refine mv_astore (lv' := [(6, va_rf (if 0 ≤ b ∧ b < ((S.1 : Nat) : Int) then f (b).toNat else none)), (5, va_rf (if 0 ≤ a ∧ a < ((S.1 : Nat) : Int) then f (a).toNat else none)), (0, .ref x), (1, .int (iI (k))), (2, .int (iI (v))), (3, .int (iI (a))), (4, .int (iI (b)))]) B d_Fam_join_19 (by decide) (by unfold mv_sl; simp only [List.filter, vrf_c]; rfl) ?_
  refine mv_aload B d_Fam_join_21 1 rfl ?_
  refine mv_ifnull (tgt := 31) B d_Fam_join_23 (by decide) (fun c1 => ?_) (fun a2 c1 => ?_)
  · have hna : ¬ (0 ≤ a ∧ a < ((S.1 : Nat) : Int)) := by
      intro q
      rw [if_pos q, (hTm (a).toNat (by omega)).1] at c1
      cases c1
    refine mv_iconst (z := -1) B d_Fam_join_31 rfl ?_
    rw [hQ]
    exact mv_iret B ⟨by unfold aTw; rw [if_neg (show ¬ okB S a b by omega)], by unfold nTw; rw [if_neg (show ¬ okB S a b by omega)]; exact ⟨sh, rg, rd, mk, trow, grow, dep, hT, tq, tt, ga, ca, f, gf, hP⟩⟩ (by omega) (by omega) d_Fam_join_32
  · have hia : 0 ≤ a ∧ a < ((S.1 : Nat) : Int) := by
      apply Classical.byContradiction
      intro q
      rw [if_neg q] at c1
      cases c1
    have hta := hTm (a).toNat (by omega)
    rw [if_pos hia, hta.1]
    show mv_G X Q (kk V) 8 26 [(6, va_rf (if 0 ≤ b ∧ b < ((S.1 : Nat) : Int) then f (b).toNat else none)), (5, .ref ((hT (a).toNat))), (0, .ref x), (1, .int (iI (k))), (2, .int (iI (v))), (3, .int (iI (a))), (4, .int (iI (b)))] [] M 0 0
    refine mv_aload B d_Fam_join_26 0 rfl ?_
    refine mv_ifnonnull (tgt := 33) B d_Fam_join_28 (by decide) (fun a4 c3 => ?_) (fun c3 => ?_)
    · have hib : 0 ≤ b ∧ b < ((S.1 : Nat) : Int) := by
        apply Classical.byContradiction
        intro q
        rw [if_neg q] at c3
        cases c3
      have htb := hTm (b).toNat (by omega)
      rw [if_pos hib, htb.1]
      show mv_G X Q (kk V) 8 33 [(6, .ref ((hT (b).toNat))), (5, .ref ((hT (a).toNat))), (0, .ref x), (1, .int (iI (k))), (2, .int (iI (v))), (3, .int (iI (a))), (4, .int (iI (b)))] [] M 0 0
      have hTa := hta.2.2.2.1
      have hTb := htb.2.2.2.1
      have htw := tw_ok hJ (k := k) (v := v) hk hv (show okB S a b by omega)
      have hla := hTa.1
      have hlb := hTb.1
      have hka := hta.2.2.1.1
      have hkb := htb.2.2.1.1
      have hka2 := hta.2.2.1.2.1
      have hkb2 := htb.2.2.1.2.1
      refine mv_aloadR_n B d_Fam_join_33 rfl 2 rfl ?_
      refine gf_Fam_13 B hx rfl d_Fam_join_34 ?_
      refine mv_iconst (z := 1) B d_Fam_join_37 rfl ?_
      refine mv_aloadR B d_Fam_join_38 1 rfl ?_
      refine ca_Fam_180 (mc := 0) (ms := 0) (As := []) (rest := [.int (iI (1)), .ref sh]) B (m_Term_length hta.2.1.at hta.2.2.1) rfl rfl ⟨Nat.le_of_ble_eq_true rfl, Nat.le_of_ble_eq_true rfl⟩ hta.2.1.1 rfl rfl (Nat.le_of_ble_eq_true rfl) d_Fam_join_40 ⟨by omega, by omega⟩ (mv_x ?_)
      show mv_G X Q (kk V) 8 43 [(6, .ref ((hT (b).toNat))), (5, .ref ((hT (a).toNat))), (0, .ref x), (1, .int (iI (k))), (2, .int (iI (v))), (3, .int (iI (a))), (4, .int (iI (b)))] [.int (iI (((tt a.toNat).1 : Nat))), .int (iI (1)), .ref sh] M 0 0
      refine mv_iadd B d_Fam_join_43 ?_
      refine mv_aloadR B d_Fam_join_44 0 rfl ?_
      refine ca_Fam_180 (mc := 0) (ms := 0) (As := []) (rest := [.int (iI (1 + ((tt a.toNat).1 : Nat))), .ref sh]) B (m_Term_length htb.2.1.at htb.2.2.1) rfl rfl ⟨Nat.le_of_ble_eq_true rfl, Nat.le_of_ble_eq_true rfl⟩ htb.2.1.1 rfl rfl (Nat.le_of_ble_eq_true rfl) d_Fam_join_46 ⟨by omega, by omega⟩ (mv_x ?_)
      show mv_G X Q (kk V) 8 49 [(6, .ref ((hT (b).toNat))), (5, .ref ((hT (a).toNat))), (0, .ref x), (1, .int (iI (k))), (2, .int (iI (v))), (3, .int (iI (a))), (4, .int (iI (b)))] [.int (iI (((tt b.toNat).1 : Nat))), .int (iI (1 + ((tt a.toNat).1 : Nat))), .ref sh] M 0 0
      refine mv_iadd B d_Fam_join_49 ?_
      obtain ⟨n9, hn9⟩ : ∃ n : Nat, n = (if 1 ≤ ((1 + ((tt a.toNat).1 : Nat)) + ((tt b.toNat).1 : Nat) : Int) ∧ ((1 + ((tt a.toNat).1 : Nat)) + ((tt b.toNat).1 : Nat) : Int) ≤ 1000 ∧ ((1 + ((tt a.toNat).1 : Nat)) + ((tt b.toNat).1 : Nat) : Int) ≤ 30000 - ((bs S.2.1 S.1 : Nat) : Int) ∧ ((S.1 : Nat) : Int) < 1500 then ((1 + ((tt a.toNat).1 : Nat)) + ((tt b.toNat).1 : Nat) : Int).toNat else 0) := ⟨_, rfl⟩
      have hn9b : n9 ≤ 1000 := by rw [hn9]; split <;> omega
      refine ca_Fam_43 (mc := 5) (ms := 4 * n9 + 4) (rm' := rM 2 5 (4 * n9 + 4) 62) (As := [.int (iI ((1 + ((tt a.toNat).1 : Nat)) + ((tt b.toNat).1 : Nat)))]) (rest := []) B (m_Shelf_blank hsh (by omega) (by omega) (i := ((1 + ((tt a.toNat).1 : Nat)) + ((tt b.toNat).1 : Nat) : Int)) (by omega) hn9) rfl rfl ⟨Nat.le_of_ble_eq_true rfl, Nat.le_of_ble_eq_true rfl⟩ hsh rfl rfl (Nat.le_of_ble_eq_true rfl) d_Fam_join_50 ⟨by omega, by omega⟩ (fun v1 M1 ep => ?_)
      rcases ep with ⟨hb9, hv9, hM9⟩ | ⟨hb9, p, q, hv9, hTC, hE, hL⟩
      · subst hv9
        subst hM9
        show mv_G X Q (kk V) 8 53 [(6, .ref ((hT (b).toNat))), (5, .ref ((hT (a).toNat))), (0, .ref x), (1, .int (iI (k))), (2, .int (iI (v))), (3, .int (iI (a))), (4, .int (iI (b)))] [va_rf (none)] M1 (0 + 5) (0 + (4 * n9 + 4))
        refine mv_astore (lv' := [(7, va_rf (none)), (6, .ref ((hT (b).toNat))), (5, .ref ((hT (a).toNat))), (0, .ref x), (1, .int (iI (k))), (2, .int (iI (v))), (3, .int (iI (a))), (4, .int (iI (b)))]) B d_Fam_join_53 (by decide) rfl ?_
        refine mv_aload B d_Fam_join_55 0 rfl ?_
        refine mv_ifnonnull (tgt := 62) B d_Fam_join_57 (by decide) (fun a6 c5 => by cases c5) (fun c5 => ?_)
        refine mv_iconst (z := -1) B d_Fam_join_60 rfl ?_
        rw [hQ]
        have hly : (twL S k v a b).length = 1 + (tt a.toNat).1 + (tt b.toNat).1 := by rw [htw.2.2.1, ← hTa.1, ← hTb.1]
        have hok : ¬ okT S (twL S k v a b) := by
          show ¬ ¬ (S.1 = 1500 ∨ 1000 < (twL S k v a b).length ∨ 30000 < bs S.2.1 S.1 + (twL S k v a b).length)
          omega
        exact mv_iret B ⟨by unfold aTw aT; rw [if_pos (show okB S a b by omega), if_neg hok], by unfold nTw nT; rw [if_pos (show okB S a b by omega), if_neg hok]; exact ⟨sh, rg, rd, mk, trow, grow, dep, hT, tq, tt, ga, ca, f, gf, hP⟩⟩ (by omega) (by omega) d_Fam_join_61
      · subst hv9
        have en9 : n9 = ((1 + ((tt a.toNat).1 : Nat)) + ((tt b.toNat).1 : Nat) : Int).toNat := by rw [hn9, if_pos hb9]
        have hx1 := hE _ _ hx
        have hsh1 := hE _ _ hsh
        have htr1 := hE _ _ htr
        have hrg1 := hE _ _ hrg
        have hgr1 := hE _ _ hgr
        have hrd1 := hE _ _ hrd
        have hmk1 := hE _ _ hmk
        have hdp1 := hE _ _ hdp
        have hqx := hL _ _ hx
        have hqsh := hL _ _ hsh
        have hqtrow := hL _ _ htr
        have hqrg := hL _ _ hrg
        have hqgrow := hL _ _ hgr
        have hqrd := hL _ _ hrd
        have hqmk := hL _ _ hmk
        have hqdep := hL _ _ hdp
        show mv_G X Q (kk V) 8 53 [(6, .ref ((hT (b).toNat))), (5, .ref ((hT (a).toNat))), (0, .ref x), (1, .int (iI (k))), (2, .int (iI (v))), (3, .int (iI (a))), (4, .int (iI (b)))] [.ref p] M1 (0 + 5) (0 + (4 * n9 + 4))
        refine mv_astoreR (lv' := [(7, .ref p), (6, .ref ((hT (b).toNat))), (5, .ref ((hT (a).toNat))), (0, .ref x), (1, .int (iI (k))), (2, .int (iI (v))), (3, .int (iI (a))), (4, .int (iI (b)))]) B d_Fam_join_53 (by decide) rfl ?_
        refine mv_aloadR B d_Fam_join_55 0 rfl ?_
        refine mv_ifnonnullR (tgt := 62) B d_Fam_join_57 (by decide) ?_
        refine mv_aloadR B d_Fam_join_62 0 rfl ?_
        refine mv_iconst (z := 0) B d_Fam_join_64 rfl ?_
        refine mv_iload_n B d_Fam_join_65 rfl 4 rfl ?_
        refine mv_iload_n B d_Fam_join_66 rfl 5 rfl ?_
        refine mv_iconst (z := 0) B d_Fam_join_67 rfl ?_
        refine ca_Fam_47 (mc := 0) (ms := 0) (As := [.int (iI (0)), .int (iI (k)), .int (iI (v)), .int (iI (0))]) (rest := []) B (m_Term_set hTC (by show n9 ≤ 1000; omega) (i := 0) (kd := k) (nu := v) (so := 0) (by omega)) rfl rfl ⟨Nat.le_of_ble_eq_true rfl, Nat.le_of_ble_eq_true rfl⟩ hTC.1 rfl rfl (Nat.le_of_ble_eq_true rfl) d_Fam_join_68 ⟨by omega, by omega⟩ (mv_x ?_)
        show mv_G X Q (kk V) 8 71 [(7, .ref p), (6, .ref ((hT (b).toNat))), (5, .ref ((hT (a).toNat))), (0, .ref x), (1, .int (iI (k))), (2, .int (iI (v))), (3, .int (iI (a))), (4, .int (iI (b)))] [] (wrTm V M1 q (setT (n9, fun _ => 0, fun _ => 0, fun _ => 0, va_up (fun _ => 0) 0 1) (0) (k) (v) (0))) (0 + 5) (0 + (4 * n9 + 4))
        obtain ⟨τ1, hτ1⟩ : ∃ z : Tm, z = setT (n9, fun _ => 0, fun _ => 0, fun _ => 0, va_up (fun _ => 0) 0 1) (0) (k) (v) (0) := ⟨_, rfl⟩
        rw [← hτ1]
        obtain ⟨N1, hN1⟩ : ∃ z : mv_M, z = wrTm V M1 q τ1 := ⟨_, rfl⟩
        rw [show wrTm V M1 q τ1 = N1 from by rw [hN1]]
        have hC1 : TmC V N1 p q τ1 := by rw [hN1]; exact wrTm_c hTC
        have hxn1 : N1 x = some (.inr (6, [.ref sh, .ref rg, .ref rd, .ref mk])) := by rw [hN1, wrTm_ne (by omega) (by omega) (by omega) (by omega)]; exact hx1
        have hshn1 : N1 sh = some (.inr (1, [.ref trow, .int (iI ((S.1 : Nat) : Int)), .int (iI ((bs S.2.1 S.1 : Nat) : Int))])) := by rw [hN1, wrTm_ne (by omega) (by omega) (by omega) (by omega)]; exact hsh1
        have htrn1 : N1 trow = some (tA V 1500 f) := by rw [hN1, wrTm_ne (by omega) (by omega) (by omega) (by omega)]; exact htr1
        have hrgn1 : N1 rg = some (.inr (3, [.ref grow, .int (iI ((S.2.2.1 : Nat) : Int))])) := by rw [hN1, wrTm_ne (by omega) (by omega) (by omega) (by omega)]; exact hrg1
        have hgrn1 : N1 grow = some (gA V 100 gf) := by rw [hN1, wrTm_ne (by omega) (by omega) (by omega) (by omega)]; exact hgr1
        have hrdn1 : N1 rd = some (dC dep tm0 al0 fo0 ap0) := by rw [hN1, wrTm_ne (by omega) (by omega) (by omega) (by omega)]; exact hrd1
        have hmkn1 : N1 mk = some (mkC rd tg0 pl0 src0 P0 ar0 al1 pp0) := by rw [hN1, wrTm_ne (by omega) (by omega) (by omega) (by omega)]; exact hmk1
        have hdpn1 : N1 dep = some (iA V 1000 δ) := by rw [hN1, wrTm_ne (by omega) (by omega) (by omega) (by omega)]; exact hdp1
        have hl1 : τ1.1 = n9 := by rw [hτ1]; exact setT_1
        have ha1 : TmC V N1 (hT a.toNat) (tq a.toNat) (tt a.toNat) := by rw [hN1]; exact TmC_wr hE hL hta.2.1
        have hb1 : TmC V N1 (hT b.toNat) (tq b.toNat) (tt b.toNat) := by rw [hN1]; exact TmC_wr hE hL htb.2.1
        show mv_G X Q (kk V) 8 71 [(7, .ref p), (6, .ref ((hT (b).toNat))), (5, .ref ((hT (a).toNat))), (0, .ref x), (1, .int (iI (k))), (2, .int (iI (v))), (3, .int (iI (a))), (4, .int (iI (b)))] [] N1 (0 + 5) (0 + (4 * n9 + 4))
        refine mv_aloadR B d_Fam_join_71 0 rfl ?_
        refine mv_aloadR B d_Fam_join_73 2 rfl ?_
        refine mv_iconst (z := 1) B d_Fam_join_75 rfl ?_
        show mv_G X Q (kk V) 8 76 [(7, .ref p), (6, .ref ((hT (b).toNat))), (5, .ref ((hT (a).toNat))), (0, .ref x), (1, .int (iI (k))), (2, .int (iI (v))), (3, .int (iI (a))), (4, .int (iI (b)))] [.int (iI (((1 : Nat) : Int))), .ref ((hT (a).toNat)), .ref p] N1 (0 + 5) (0 + (4 * n9 + 4))
        have hdj1 : ∀ y z, y ∈ [(tq a.toNat).1, (tq a.toNat).2.1, (tq a.toNat).2.2.1, (tq a.toNat).2.2.2] → z ∈ [q.1, q.2.1, q.2.2.1, q.2.2.2] → y ≠ z := TmC_dj hL hta.2.1
        refine ca_Fam_183 (mc := 0) (ms := 0) (As := [.ref ((hT (a).toNat)), .int (iI (((1 : Nat) : Int)))]) (rest := []) B (m_Term_paste hC1 (by omega) ha1 hta.2.2.1 hdj1 (i := 1) (by omega)) rfl rfl ⟨Nat.le_of_ble_eq_true rfl, Nat.le_of_ble_eq_true rfl⟩ hC1.1 rfl rfl (Nat.le_of_ble_eq_true rfl) d_Fam_join_76 ⟨by omega, by omega⟩ (mv_x ?_)
        show mv_G X Q (kk V) 8 79 [(7, .ref p), (6, .ref ((hT (b).toNat))), (5, .ref ((hT (a).toNat))), (0, .ref x), (1, .int (iI (k))), (2, .int (iI (v))), (3, .int (iI (a))), (4, .int (iI (b)))] [] (wrTm V N1 q (pasT τ1 (tt a.toNat) (1))) (0 + 5) (0 + (4 * n9 + 4))
        obtain ⟨τ2, hτ2⟩ : ∃ z : Tm, z = pasT τ1 (tt a.toNat) (1) := ⟨_, rfl⟩
        rw [← hτ2]
        obtain ⟨N2, hN2⟩ : ∃ z : mv_M, z = wrTm V M1 q τ2 := ⟨_, rfl⟩
        rw [show wrTm V N1 q τ2 = N2 from by rw [hN2, hN1, wrTm_wr]]
        have hC2 : TmC V N2 p q τ2 := by rw [hN2]; exact wrTm_c hTC
        have hxn2 : N2 x = some (.inr (6, [.ref sh, .ref rg, .ref rd, .ref mk])) := by rw [hN2, wrTm_ne (by omega) (by omega) (by omega) (by omega)]; exact hx1
        have hshn2 : N2 sh = some (.inr (1, [.ref trow, .int (iI ((S.1 : Nat) : Int)), .int (iI ((bs S.2.1 S.1 : Nat) : Int))])) := by rw [hN2, wrTm_ne (by omega) (by omega) (by omega) (by omega)]; exact hsh1
        have htrn2 : N2 trow = some (tA V 1500 f) := by rw [hN2, wrTm_ne (by omega) (by omega) (by omega) (by omega)]; exact htr1
        have hrgn2 : N2 rg = some (.inr (3, [.ref grow, .int (iI ((S.2.2.1 : Nat) : Int))])) := by rw [hN2, wrTm_ne (by omega) (by omega) (by omega) (by omega)]; exact hrg1
        have hgrn2 : N2 grow = some (gA V 100 gf) := by rw [hN2, wrTm_ne (by omega) (by omega) (by omega) (by omega)]; exact hgr1
        have hrdn2 : N2 rd = some (dC dep tm0 al0 fo0 ap0) := by rw [hN2, wrTm_ne (by omega) (by omega) (by omega) (by omega)]; exact hrd1
        have hmkn2 : N2 mk = some (mkC rd tg0 pl0 src0 P0 ar0 al1 pp0) := by rw [hN2, wrTm_ne (by omega) (by omega) (by omega) (by omega)]; exact hmk1
        have hdpn2 : N2 dep = some (iA V 1000 δ) := by rw [hN2, wrTm_ne (by omega) (by omega) (by omega) (by omega)]; exact hdp1
        have hl2 : τ2.1 = n9 := by rw [hτ2]; exact hl1
        have ha2 : TmC V N2 (hT a.toNat) (tq a.toNat) (tt a.toNat) := by rw [hN2]; exact TmC_wr hE hL hta.2.1
        have hb2 : TmC V N2 (hT b.toNat) (tq b.toNat) (tt b.toNat) := by rw [hN2]; exact TmC_wr hE hL htb.2.1
        show mv_G X Q (kk V) 8 79 [(7, .ref p), (6, .ref ((hT (b).toNat))), (5, .ref ((hT (a).toNat))), (0, .ref x), (1, .int (iI (k))), (2, .int (iI (v))), (3, .int (iI (a))), (4, .int (iI (b)))] [] N2 (0 + 5) (0 + (4 * n9 + 4))
        refine mv_aloadR B d_Fam_join_79 0 rfl ?_
        refine mv_aloadR B d_Fam_join_81 1 rfl ?_
        refine mv_iconst (z := 1) B d_Fam_join_83 rfl ?_
        refine mv_aloadR B d_Fam_join_84 2 rfl ?_
        refine ca_Fam_180 (mc := 0) (ms := 0) (As := []) (rest := [.int (iI (1)), .ref ((hT (b).toNat)), .ref p]) B (m_Term_length ha2.at hta.2.2.1) rfl rfl ⟨Nat.le_of_ble_eq_true rfl, Nat.le_of_ble_eq_true rfl⟩ ha2.1 rfl rfl (Nat.le_of_ble_eq_true rfl) d_Fam_join_86 ⟨by omega, by omega⟩ (mv_x ?_)
        show mv_G X Q (kk V) 8 89 [(7, .ref p), (6, .ref ((hT (b).toNat))), (5, .ref ((hT (a).toNat))), (0, .ref x), (1, .int (iI (k))), (2, .int (iI (v))), (3, .int (iI (a))), (4, .int (iI (b)))] [.int (iI (((tt a.toNat).1 : Nat))), .int (iI (1)), .ref ((hT (b).toNat)), .ref p] N2 (0 + 5) (0 + (4 * n9 + 4))
        refine mv_iadd B d_Fam_join_89 ?_
        rw [show (1 : Int) + ((tt a.toNat).1 : Nat) = ((1 + (tt a.toNat).1 : Nat) : Int) by omega]
        have hdj2 : ∀ y z, y ∈ [(tq b.toNat).1, (tq b.toNat).2.1, (tq b.toNat).2.2.1, (tq b.toNat).2.2.2] → z ∈ [q.1, q.2.1, q.2.2.1, q.2.2.2] → y ≠ z := TmC_dj hL htb.2.1
        refine ca_Fam_183 (mc := 0) (ms := 0) (As := [.ref ((hT (b).toNat)), .int (iI (((1 + (tt a.toNat).1 : Nat) : Int)))]) (rest := []) B (m_Term_paste hC2 (by omega) hb2 htb.2.2.1 hdj2 (i := 1 + (tt a.toNat).1) (by omega)) rfl rfl ⟨Nat.le_of_ble_eq_true rfl, Nat.le_of_ble_eq_true rfl⟩ hC2.1 rfl rfl (Nat.le_of_ble_eq_true rfl) d_Fam_join_90 ⟨by omega, by omega⟩ (mv_x ?_)
        show mv_G X Q (kk V) 8 93 [(7, .ref p), (6, .ref ((hT (b).toNat))), (5, .ref ((hT (a).toNat))), (0, .ref x), (1, .int (iI (k))), (2, .int (iI (v))), (3, .int (iI (a))), (4, .int (iI (b)))] [] (wrTm V N2 q (pasT τ2 (tt b.toNat) (1 + (tt a.toNat).1))) (0 + 5) (0 + (4 * n9 + 4))
        obtain ⟨τ3, hτ3⟩ : ∃ z : Tm, z = pasT τ2 (tt b.toNat) (1 + (tt a.toNat).1) := ⟨_, rfl⟩
        rw [← hτ3]
        obtain ⟨N3, hN3⟩ : ∃ z : mv_M, z = wrTm V M1 q τ3 := ⟨_, rfl⟩
        rw [show wrTm V N2 q τ3 = N3 from by rw [hN3, hN2, wrTm_wr]]
        have hC3 : TmC V N3 p q τ3 := by rw [hN3]; exact wrTm_c hTC
        have hxn3 : N3 x = some (.inr (6, [.ref sh, .ref rg, .ref rd, .ref mk])) := by rw [hN3, wrTm_ne (by omega) (by omega) (by omega) (by omega)]; exact hx1
        have hshn3 : N3 sh = some (.inr (1, [.ref trow, .int (iI ((S.1 : Nat) : Int)), .int (iI ((bs S.2.1 S.1 : Nat) : Int))])) := by rw [hN3, wrTm_ne (by omega) (by omega) (by omega) (by omega)]; exact hsh1
        have htrn3 : N3 trow = some (tA V 1500 f) := by rw [hN3, wrTm_ne (by omega) (by omega) (by omega) (by omega)]; exact htr1
        have hrgn3 : N3 rg = some (.inr (3, [.ref grow, .int (iI ((S.2.2.1 : Nat) : Int))])) := by rw [hN3, wrTm_ne (by omega) (by omega) (by omega) (by omega)]; exact hrg1
        have hgrn3 : N3 grow = some (gA V 100 gf) := by rw [hN3, wrTm_ne (by omega) (by omega) (by omega) (by omega)]; exact hgr1
        have hrdn3 : N3 rd = some (dC dep tm0 al0 fo0 ap0) := by rw [hN3, wrTm_ne (by omega) (by omega) (by omega) (by omega)]; exact hrd1
        have hmkn3 : N3 mk = some (mkC rd tg0 pl0 src0 P0 ar0 al1 pp0) := by rw [hN3, wrTm_ne (by omega) (by omega) (by omega) (by omega)]; exact hmk1
        have hdpn3 : N3 dep = some (iA V 1000 δ) := by rw [hN3, wrTm_ne (by omega) (by omega) (by omega) (by omega)]; exact hdp1
        have hl3 : τ3.1 = n9 := by rw [hτ3]; exact hl2
        have ha3 : TmC V N3 (hT a.toNat) (tq a.toNat) (tt a.toNat) := by rw [hN3]; exact TmC_wr hE hL hta.2.1
        have hb3 : TmC V N3 (hT b.toNat) (tq b.toNat) (tt b.toNat) := by rw [hN3]; exact TmC_wr hE hL htb.2.1
        show mv_G X Q (kk V) 8 93 [(7, .ref p), (6, .ref ((hT (b).toNat))), (5, .ref ((hT (a).toNat))), (0, .ref x), (1, .int (iI (k))), (2, .int (iI (v))), (3, .int (iI (a))), (4, .int (iI (b)))] [] N3 (0 + 5) (0 + (4 * n9 + 4))
        refine mv_aloadR B d_Fam_join_93 0 rfl ?_
        have eN9 : n9 = 1 + (tt a.toNat).1 + (tt b.toNat).1 := by omega
        obtain ⟨hO3, hk3⟩ := tw_T hTa hTb hta.2.2.1 htb.2.2.1 hk hv (show τ3 = pasT (pasT (setT (1 + (tt a.toNat).1 + (tt b.toNat).1, fun _ => 0, fun _ => 0, fun _ => 0, va_up (fun _ => 0) 0 1) 0 k v 0) (tt a.toNat) 1) (tt b.toNat) (1 + (tt a.toNat).1) by rw [hτ3, hτ2, hτ1, eN9]) (by omega)
        have hly : (twL S k v a b).length = n9 := by rw [htw.2.2.1, ← hTa.1, ← hTb.1]; omega
        have hW3 : WF τ3.1 τ3.2.1 (lnS (twL S k v a b)) := by rw [hl3, ← hly]; exact WF_cg (WF_S htw.1) (fun i hi => (hk3 i (by omega)).1)
        refine ca_Fam_155 (mc := 0) (ms := 0) (As := []) (rest := []) B (m_Term_countNodes hC3 hO3 hW3) rfl rfl ⟨Nat.le_of_ble_eq_true rfl, Nat.le_of_ble_eq_true rfl⟩ hC3.1 rfl rfl (Nat.le_of_ble_eq_true rfl) d_Fam_join_95 ⟨by omega, by omega⟩ (mv_x ?_)
        show mv_G X Q (kk V) 8 98 [(7, .ref p), (6, .ref ((hT (b).toNat))), (5, .ref ((hT (a).toNat))), (0, .ref x), (1, .int (iI (k))), (2, .int (iI (v))), (3, .int (iI (a))), (4, .int (iI (b)))] [] (mv_up N3 q.2.2.2 (iA V τ3.1 (dnF τ3.1 (lnS (twL S k v a b)) τ3.2.2.2.2 τ3.1))) (0 + 5) (0 + (4 * n9 + 4))
        rw [wrTm_d hC3]
        obtain ⟨τ4, hτ4⟩ : ∃ z : Tm, z = (τ3.1, τ3.2.1, τ3.2.2.1, τ3.2.2.2.1, dnF τ3.1 (lnS (twL S k v a b)) τ3.2.2.2.2 τ3.1) := ⟨_, rfl⟩
        rw [← hτ4]
        obtain ⟨N4, hN4⟩ : ∃ z : mv_M, z = wrTm V M1 q τ4 := ⟨_, rfl⟩
        rw [show wrTm V N3 q τ4 = N4 from by rw [hN4, hN3, wrTm_wr]]
        have hC4 : TmC V N4 p q τ4 := by rw [hN4]; exact wrTm_c hTC
        have hxn4 : N4 x = some (.inr (6, [.ref sh, .ref rg, .ref rd, .ref mk])) := by rw [hN4, wrTm_ne (by omega) (by omega) (by omega) (by omega)]; exact hx1
        have hshn4 : N4 sh = some (.inr (1, [.ref trow, .int (iI ((S.1 : Nat) : Int)), .int (iI ((bs S.2.1 S.1 : Nat) : Int))])) := by rw [hN4, wrTm_ne (by omega) (by omega) (by omega) (by omega)]; exact hsh1
        have htrn4 : N4 trow = some (tA V 1500 f) := by rw [hN4, wrTm_ne (by omega) (by omega) (by omega) (by omega)]; exact htr1
        have hrgn4 : N4 rg = some (.inr (3, [.ref grow, .int (iI ((S.2.2.1 : Nat) : Int))])) := by rw [hN4, wrTm_ne (by omega) (by omega) (by omega) (by omega)]; exact hrg1
        have hgrn4 : N4 grow = some (gA V 100 gf) := by rw [hN4, wrTm_ne (by omega) (by omega) (by omega) (by omega)]; exact hgr1
        have hrdn4 : N4 rd = some (dC dep tm0 al0 fo0 ap0) := by rw [hN4, wrTm_ne (by omega) (by omega) (by omega) (by omega)]; exact hrd1
        have hmkn4 : N4 mk = some (mkC rd tg0 pl0 src0 P0 ar0 al1 pp0) := by rw [hN4, wrTm_ne (by omega) (by omega) (by omega) (by omega)]; exact hmk1
        have hdpn4 : N4 dep = some (iA V 1000 δ) := by rw [hN4, wrTm_ne (by omega) (by omega) (by omega) (by omega)]; exact hdp1
        have hO4 : Tok τ4 := by rw [hτ4]; exact dnF_ok hO3 hW3 _
        have hS4 : TmS τ4 (twL S k v a b) := by
          rw [hτ4]
          refine ⟨by show τ3.1 = _; rw [hl3, hly], fun i hi => ⟨(hk3 i (by omega)).1, (hk3 i (by omega)).2.1, (hk3 i (by omega)).2.2, ?_⟩⟩
          show dnF τ3.1 (lnS (twL S k v a b)) τ3.2.2.2.2 τ3.1 i = _
          unfold dnF
          rw [if_pos (by omega)]
        show mv_G X Q (kk V) 8 98 [(7, .ref p), (6, .ref ((hT (b).toNat))), (5, .ref ((hT (a).toNat))), (0, .ref x), (1, .int (iI (k))), (2, .int (iI (v))), (3, .int (iI (a))), (4, .int (iI (b)))] [] N4 (0 + 5) (0 + (4 * n9 + 4))
        refine mv_aloadR_n B d_Fam_join_98 rfl 3 rfl ?_
        refine gf_Fam_13 B hxn4 rfl d_Fam_join_99 ?_
        refine mv_aloadR B d_Fam_join_102 0 rfl ?_
        refine ca_Fam_53 (mc := 0) (ms := 0) (rm' := rM 1 0 0 20) (As := [.ref p]) (rest := []) B (m_Shelf_keep hshn4 htrn4 (by omega) hC4.at hO4 (by omega)) rfl rfl ⟨Nat.le_of_ble_eq_true rfl, Nat.le_of_ble_eq_true rfl⟩ hshn4 rfl rfl (Nat.le_of_ble_eq_true rfl) d_Fam_join_104 ⟨by omega, by omega⟩ (fun v1 M9 ep => ?_)
        obtain ⟨e1, e2⟩ := ep
        subst e1
        show mv_G X Q (kk V) 8 107 [(7, .ref p), (6, .ref ((hT (b).toNat))), (5, .ref ((hT (a).toNat))), (0, .ref x), (1, .int (iI (k))), (2, .int (iI (v))), (3, .int (iI (a))), (4, .int (iI (b)))] [.int (iI ((S.1 : Nat) : Int))] M9 (0 + 5) (0 + (4 * n9 + 4))
        rw [hQ]
        have hok : okT S (twL S k v a b) := by
          show ¬ (S.1 = 1500 ∨ 1000 < (twL S k v a b).length ∨ 30000 < bs S.2.1 S.1 + (twL S k v a b).length)
          omega
        refine mv_iret B ⟨?_, ?_⟩ (by omega) (by omega) d_Fam_join_107
        · unfold aTw aT; rw [if_pos (show okB S a b by omega), if_pos hok]
        · unfold nTw nT; rw [if_pos (show okB S a b by omega), if_pos hok]
          rw [e2]
          exact ⟨sh, rg, rd, mk, trow, grow, dep, _, _, _, ga, ca, _, gf, Cls_fin hP hJ hE hL (fun y c hy _ _ _ a b c2 d2 => by rw [hN4, wrTm_ne a b c2 d2]; exact hy) ⟨_, _, _, _, hrdn4⟩ ⟨δ, hdpn4, hδ⟩ ⟨_, _, _, _, _, _, _, hmkn4⟩ hC4 hO4 hS4⟩
    · have hnb : ¬ (0 ≤ b ∧ b < ((S.1 : Nat) : Int)) := by
        intro q
        rw [if_pos q, (hTm (b).toNat (by omega)).1] at c3
        cases c3
      refine mv_iconst (z := -1) B d_Fam_join_31 rfl ?_
      rw [hQ]
      exact mv_iret B ⟨by unfold aTw; rw [if_neg (show ¬ okB S a b by omega)], by unfold nTw; rw [if_neg (show ¬ okB S a b by omega)]; exact ⟨sh, rg, rd, mk, trow, grow, dep, hT, tq, tt, ga, ca, f, gf, hP⟩⟩ (by omega) (by omega) d_Fam_join_32
set_option maxRecDepth 100000 in
set_option maxHeartbeats 4000000 in
theorem m_Fam_apply {l : Launch} {V : mv_V} {M : mv_M} {x sh rg rd mk trow grow dep : Nat} {hT : Nat → Nat} {tq : Nat → Q4} {tt : Nat → Tm} {ga ca : Nat → Nat} {f gf : Nat → Option Nat} {S : SS} (hP : ClsC V M x sh rg rd mk trow grow dep hT tq tt ga ca f gf S) (hJ : Jv S) {a b : Int} (ra : R32 a) (rb : R32 b) : Met l y_Fam_apply ws_Fam_apply (rM 5 5 4004 140) (mv_Pre (kk V) [.ref x, .int (iI (a)), .int (iI (b))] M) (mv_Q (kk V) (fun z0 M' => z0 = some (.int (iI (aTw S 4 0 a b))) ∧ ClsP V M' x (nTw S 4 0 a b))) 5 4004 V.2.2.2.2 := by
  refine mv_Met (by decide) rfl (Nat.le_of_ble_eq_true rfl) (fun X hX B => ?_)
  subst hX
  replace B : mv_B X (kk V) c_Fam_apply ws_Fam_apply "FamilyRules" 3 (Option.some Jvm.ClassFile.FieldType.int) (rM 5 5 4004 140) "apply" := B
  obtain ⟨Q, hQ⟩ : ∃ Q, Q = mv_E X (kk V) (fun z0 M' => z0 = some (.int (iI (aTw S 4 0 a b))) ∧ ClsP V M' x (nTw S 4 0 a b)) 5 4004 := ⟨_, rfl⟩
  rw [← hQ]
  show mv_G X Q (kk V) 3 0 [(0, .ref x), (1, .int (iI (a))), (2, .int (iI (b)))] [] M 0 0
  have hrc : (rM 5 5 4004 140).cells = 5 := rfl
  have hrs : (rM 5 5 4004 140).slots = 4004 := rfl
  obtain ⟨⟨hx, hsh, htr, hrg, hgr, ⟨tm0, al0, fo0, ap0, hrd⟩, ⟨δ, hdp, hδ⟩, ⟨tg0, pl0, src0, P0, ar0, al1, pp0, hmk⟩⟩, hTm, hGl, hIn⟩ := id hP
  have hI := hJ.1
  have hb1 : S.1 ≤ 1500 := hI.1
  have hb2 : S.2.2.1 ≤ 100 := hI.2.1
  have hb3 : bs S.2.1 S.1 ≤ 30000 := hI.2.2.1
  refine mv_aloadR_n B d_Fam_apply_0 rfl 0 rfl ?_
  refine mv_iconst (z := 4) B d_Fam_apply_1 rfl ?_
  refine mv_iconst (z := 0) B d_Fam_apply_2 rfl ?_
  refine mv_iload_n B d_Fam_apply_3 rfl 1 rfl ?_
  refine mv_iload_n B d_Fam_apply_4 rfl 2 rfl ?_
  refine ca_Fam_57 (mc := 5) (ms := 4004) (rm' := rM 4 5 4004 110) (As := [.int (iI (4)), .int (iI (0)), .int (iI (a)), .int (iI (b))]) (rest := []) B (m_Fam_join hP hJ (k := 4) (v := 0) (by omega) (by omega) ra rb) rfl rfl ⟨Nat.le_of_ble_eq_true rfl, Nat.le_of_ble_eq_true rfl⟩ hx rfl rfl (Nat.le_of_ble_eq_true rfl) d_Fam_apply_5 ⟨by omega, by omega⟩ (fun v1 M9 ep => ?_)
  obtain ⟨e1, e2⟩ := ep
  subst e1
  show mv_G X Q (kk V) 3 8 [(0, .ref x), (1, .int (iI (a))), (2, .int (iI (b)))] [.int (iI (aTw S (4) (0) a b))] M9 (0 + 5) (0 + 4004)
  rw [hQ]
  exact mv_iret B ⟨rfl, e2⟩ (by omega) (by omega) d_Fam_apply_8
set_option maxRecDepth 100000 in
set_option maxHeartbeats 4000000 in
theorem m_Fam_binder {l : Launch} {V : mv_V} {M : mv_M} {x sh rg rd mk trow grow dep : Nat} {hT : Nat → Nat} {tq : Nat → Q4} {tt : Nat → Tm} {ga ca : Nat → Nat} {f gf : Nat → Option Nat} {S : SS} (hP : ClsC V M x sh rg rd mk trow grow dep hT tq tt ga ca f gf S) (hJ : Jv S) {k v a b : Int} (rk : R32 k) (rv : R32 v) (ra : R32 a) (rb : R32 b) : Met l y_Fam_binder ws_Fam_binder (rM 5 5 4004 140) (mv_Pre (kk V) [.ref x, .int (iI (k)), .int (iI (v)), .int (iI (a)), .int (iI (b))] M) (mv_Q (kk V) (fun z0 M' => z0 = some (.int (iI (aBi S k v a b))) ∧ ClsP V M' x (nBi S k v a b))) 5 4004 V.2.2.2.2 := by
  refine mv_Met (by decide) rfl (Nat.le_of_ble_eq_true rfl) (fun X hX B => ?_)
  subst hX
  replace B : mv_B X (kk V) c_Fam_binder ws_Fam_binder "FamilyRules" 7 (Option.some Jvm.ClassFile.FieldType.int) (rM 5 5 4004 140) "binder" := B
  obtain ⟨Q, hQ⟩ : ∃ Q, Q = mv_E X (kk V) (fun z0 M' => z0 = some (.int (iI (aBi S k v a b))) ∧ ClsP V M' x (nBi S k v a b)) 5 4004 := ⟨_, rfl⟩
  rw [← hQ]
  show mv_G X Q (kk V) 7 0 [(0, .ref x), (1, .int (iI (k))), (2, .int (iI (v))), (3, .int (iI (a))), (4, .int (iI (b)))] [] M 0 0
  have hrc : (rM 5 5 4004 140).cells = 5 := rfl
  have hrs : (rM 5 5 4004 140).slots = 4004 := rfl
  obtain ⟨⟨hx, hsh, htr, hrg, hgr, ⟨tm0, al0, fo0, ap0, hrd⟩, ⟨δ, hdp, hδ⟩, ⟨tg0, pl0, src0, P0, ar0, al1, pp0, hmk⟩⟩, hTm, hGl, hIn⟩ := id hP
  have hI := hJ.1
  have hb1 : S.1 ≤ 1500 := hI.1
  have hb2 : S.2.2.1 ≤ 100 := hI.2.1
  have hb3 : bs S.2.1 S.1 ≤ 30000 := hI.2.2.1
  refine mv_iload_n B d_Fam_binder_0 rfl 1 rfl ?_
  refine mv_iconst (z := 5) B d_Fam_binder_1 rfl ?_
  refine mv_icmp_eq (tgt := 11) B d_Fam_binder_2 (by decide) (by omega) (by omega) (fun c1 => ?_) (fun c1 => ?_)
  · refine mv_iconst (z := 1) B d_Fam_binder_11 rfl ?_
    refine mv_goto (tgt := 16) B d_Fam_binder_12 (by decide) ?_
    refine mv_istore (lv' := [(5, .int (iI (1))), (0, .ref x), (1, .int (iI (k))), (2, .int (iI (v))), (3, .int (iI (a))), (4, .int (iI (b)))]) B d_Fam_binder_16 (by decide) rfl ?_
    refine mv_iload_n B d_Fam_binder_18 rfl 3 rfl ?_
    refine mv_iconst (z := -1) B d_Fam_binder_19 rfl ?_
    refine mv_icmp_eq (tgt := 33) B d_Fam_binder_20 (by decide) (by omega) (by omega) (fun c2 => ?_) (fun c2 => ?_)
    · refine mv_iconst (z := 1) B d_Fam_binder_33 rfl ?_
      refine mv_goto (tgt := 38) B d_Fam_binder_34 (by decide) ?_
      refine mv_istore (lv' := [(6, .int (iI (1))), (5, .int (iI (1))), (0, .ref x), (1, .int (iI (k))), (2, .int (iI (v))), (3, .int (iI (a))), (4, .int (iI (b)))]) B d_Fam_binder_38 (by decide) rfl ?_
      refine mv_iload B d_Fam_binder_40 1 rfl ?_
      refine mv_if_eq (tgt := 62) B d_Fam_binder_42 (by decide) (by omega) (fun c3 => ?_) (fun c3 => ?_)
      · omega
      · refine mv_iload B d_Fam_binder_45 0 rfl ?_
        refine mv_if_eq (tgt := 62) B d_Fam_binder_47 (by decide) (by omega) (fun c4 => ?_) (fun c4 => ?_)
        · omega
        · refine mv_aloadR_n B d_Fam_binder_50 rfl 2 rfl ?_
          refine mv_iload_n B d_Fam_binder_51 rfl 3 rfl ?_
          refine mv_iload_n B d_Fam_binder_52 rfl 4 rfl ?_
          refine mv_iload_n B d_Fam_binder_53 rfl 5 rfl ?_
          refine mv_iload B d_Fam_binder_54 6 rfl ?_
          refine ca_Fam_57 (mc := 5) (ms := 4004) (rm' := rM 4 5 4004 110) (As := [.int (iI (k)), .int (iI (v)), .int (iI (a)), .int (iI (b))]) (rest := []) B (m_Fam_join hP hJ (k := k) (v := v) (by omega) (by omega) ra rb) rfl rfl ⟨Nat.le_of_ble_eq_true rfl, Nat.le_of_ble_eq_true rfl⟩ hx rfl rfl (Nat.le_of_ble_eq_true rfl) d_Fam_binder_56 ⟨by omega, by omega⟩ (fun v1 M9 ep => ?_)
          obtain ⟨e1, e2⟩ := ep
          subst e1
          show mv_G X Q (kk V) 7 59 [(6, .int (iI (1))), (5, .int (iI (1))), (0, .ref x), (1, .int (iI (k))), (2, .int (iI (v))), (3, .int (iI (a))), (4, .int (iI (b)))] [.int (iI (aTw S (k) (v) a b))] M9 (0 + 5) (0 + 4004)
          refine mv_goto (tgt := 63) B d_Fam_binder_59 (by decide) ?_
          rw [hQ]
          exact mv_iret B ⟨by unfold aBi; rw [if_pos (show (k = 5 ∨ k = 6) ∧ -1 ≤ v ∧ v < 100 by omega)], by unfold nBi; rw [if_pos (show (k = 5 ∨ k = 6) ∧ -1 ≤ v ∧ v < 100 by omega)]; exact e2⟩ (by omega) (by omega) d_Fam_binder_63
    · refine mv_iload_n B d_Fam_binder_23 rfl 3 rfl ?_
      refine mv_if_lt (tgt := 37) B d_Fam_binder_24 (by decide) (by omega) (fun c5 => ?_) (fun c5 => ?_)
      · refine mv_iconst (z := 0) B d_Fam_binder_37 rfl ?_
        refine mv_istore (lv' := [(6, .int (iI (0))), (5, .int (iI (1))), (0, .ref x), (1, .int (iI (k))), (2, .int (iI (v))), (3, .int (iI (a))), (4, .int (iI (b)))]) B d_Fam_binder_38 (by decide) rfl ?_
        refine mv_iload B d_Fam_binder_40 1 rfl ?_
        refine mv_if_eq (tgt := 62) B d_Fam_binder_42 (by decide) (by omega) (fun c6 => ?_) (fun c6 => ?_)
        · omega
        · refine mv_iload B d_Fam_binder_45 0 rfl ?_
          refine mv_if_eq (tgt := 62) B d_Fam_binder_47 (by decide) (by omega) (fun c7 => ?_) (fun c7 => ?_)
          · refine mv_iconst (z := -1) B d_Fam_binder_62 rfl ?_
            rw [hQ]
            exact mv_iret B ⟨by unfold aBi; rw [if_neg (show ¬ ((k = 5 ∨ k = 6) ∧ -1 ≤ v ∧ v < 100) by omega)], by unfold nBi; rw [if_neg (show ¬ ((k = 5 ∨ k = 6) ∧ -1 ≤ v ∧ v < 100) by omega)]; exact ⟨sh, rg, rd, mk, trow, grow, dep, hT, tq, tt, ga, ca, f, gf, hP⟩⟩ (by omega) (by omega) d_Fam_binder_63
          · omega
      · refine mv_iload_n B d_Fam_binder_27 rfl 3 rfl ?_
        refine mv_bipush (z := 99) B d_Fam_binder_28 (by decide) ?_
        refine mv_icmp_gt (tgt := 37) B d_Fam_binder_30 (by decide) (by omega) (by omega) (fun c8 => ?_) (fun c8 => ?_)
        · refine mv_iconst (z := 0) B d_Fam_binder_37 rfl ?_
          refine mv_istore (lv' := [(6, .int (iI (0))), (5, .int (iI (1))), (0, .ref x), (1, .int (iI (k))), (2, .int (iI (v))), (3, .int (iI (a))), (4, .int (iI (b)))]) B d_Fam_binder_38 (by decide) rfl ?_
          refine mv_iload B d_Fam_binder_40 1 rfl ?_
          refine mv_if_eq (tgt := 62) B d_Fam_binder_42 (by decide) (by omega) (fun c9 => ?_) (fun c9 => ?_)
          · omega
          · refine mv_iload B d_Fam_binder_45 0 rfl ?_
            refine mv_if_eq (tgt := 62) B d_Fam_binder_47 (by decide) (by omega) (fun c10 => ?_) (fun c10 => ?_)
            · refine mv_iconst (z := -1) B d_Fam_binder_62 rfl ?_
              rw [hQ]
              exact mv_iret B ⟨by unfold aBi; rw [if_neg (show ¬ ((k = 5 ∨ k = 6) ∧ -1 ≤ v ∧ v < 100) by omega)], by unfold nBi; rw [if_neg (show ¬ ((k = 5 ∨ k = 6) ∧ -1 ≤ v ∧ v < 100) by omega)]; exact ⟨sh, rg, rd, mk, trow, grow, dep, hT, tq, tt, ga, ca, f, gf, hP⟩⟩ (by omega) (by omega) d_Fam_binder_63
            · omega
        · refine mv_iconst (z := 1) B d_Fam_binder_33 rfl ?_
          refine mv_goto (tgt := 38) B d_Fam_binder_34 (by decide) ?_
          refine mv_istore (lv' := [(6, .int (iI (1))), (5, .int (iI (1))), (0, .ref x), (1, .int (iI (k))), (2, .int (iI (v))), (3, .int (iI (a))), (4, .int (iI (b)))]) B d_Fam_binder_38 (by decide) rfl ?_
          refine mv_iload B d_Fam_binder_40 1 rfl ?_
          refine mv_if_eq (tgt := 62) B d_Fam_binder_42 (by decide) (by omega) (fun c11 => ?_) (fun c11 => ?_)
          · omega
          · refine mv_iload B d_Fam_binder_45 0 rfl ?_
            refine mv_if_eq (tgt := 62) B d_Fam_binder_47 (by decide) (by omega) (fun c12 => ?_) (fun c12 => ?_)
            · omega
            · refine mv_aloadR_n B d_Fam_binder_50 rfl 2 rfl ?_
              refine mv_iload_n B d_Fam_binder_51 rfl 3 rfl ?_
              refine mv_iload_n B d_Fam_binder_52 rfl 4 rfl ?_
              refine mv_iload_n B d_Fam_binder_53 rfl 5 rfl ?_
              refine mv_iload B d_Fam_binder_54 6 rfl ?_
              refine ca_Fam_57 (mc := 5) (ms := 4004) (rm' := rM 4 5 4004 110) (As := [.int (iI (k)), .int (iI (v)), .int (iI (a)), .int (iI (b))]) (rest := []) B (m_Fam_join hP hJ (k := k) (v := v) (by omega) (by omega) ra rb) rfl rfl ⟨Nat.le_of_ble_eq_true rfl, Nat.le_of_ble_eq_true rfl⟩ hx rfl rfl (Nat.le_of_ble_eq_true rfl) d_Fam_binder_56 ⟨by omega, by omega⟩ (fun v1 M9 ep => ?_)
              obtain ⟨e1, e2⟩ := ep
              subst e1
              show mv_G X Q (kk V) 7 59 [(6, .int (iI (1))), (5, .int (iI (1))), (0, .ref x), (1, .int (iI (k))), (2, .int (iI (v))), (3, .int (iI (a))), (4, .int (iI (b)))] [.int (iI (aTw S (k) (v) a b))] M9 (0 + 5) (0 + 4004)
              refine mv_goto (tgt := 63) B d_Fam_binder_59 (by decide) ?_
              rw [hQ]
              exact mv_iret B ⟨by unfold aBi; rw [if_pos (show (k = 5 ∨ k = 6) ∧ -1 ≤ v ∧ v < 100 by omega)], by unfold nBi; rw [if_pos (show (k = 5 ∨ k = 6) ∧ -1 ≤ v ∧ v < 100 by omega)]; exact e2⟩ (by omega) (by omega) d_Fam_binder_63
  · refine mv_iload_n B d_Fam_binder_5 rfl 1 rfl ?_
    refine mv_bipush (z := 6) B d_Fam_binder_6 (by decide) ?_
    refine mv_icmp_ne (tgt := 15) B d_Fam_binder_8 (by decide) (by omega) (by omega) (fun c13 => ?_) (fun c13 => ?_)
    · refine mv_iconst (z := 0) B d_Fam_binder_15 rfl ?_
      refine mv_istore (lv' := [(5, .int (iI (0))), (0, .ref x), (1, .int (iI (k))), (2, .int (iI (v))), (3, .int (iI (a))), (4, .int (iI (b)))]) B d_Fam_binder_16 (by decide) rfl ?_
      refine mv_iload_n B d_Fam_binder_18 rfl 3 rfl ?_
      refine mv_iconst (z := -1) B d_Fam_binder_19 rfl ?_
      refine mv_icmp_eq (tgt := 33) B d_Fam_binder_20 (by decide) (by omega) (by omega) (fun c14 => ?_) (fun c14 => ?_)
      · refine mv_iconst (z := 1) B d_Fam_binder_33 rfl ?_
        refine mv_goto (tgt := 38) B d_Fam_binder_34 (by decide) ?_
        refine mv_istore (lv' := [(6, .int (iI (1))), (5, .int (iI (0))), (0, .ref x), (1, .int (iI (k))), (2, .int (iI (v))), (3, .int (iI (a))), (4, .int (iI (b)))]) B d_Fam_binder_38 (by decide) rfl ?_
        refine mv_iload B d_Fam_binder_40 1 rfl ?_
        refine mv_if_eq (tgt := 62) B d_Fam_binder_42 (by decide) (by omega) (fun c15 => ?_) (fun c15 => ?_)
        · refine mv_iconst (z := -1) B d_Fam_binder_62 rfl ?_
          rw [hQ]
          exact mv_iret B ⟨by unfold aBi; rw [if_neg (show ¬ ((k = 5 ∨ k = 6) ∧ -1 ≤ v ∧ v < 100) by omega)], by unfold nBi; rw [if_neg (show ¬ ((k = 5 ∨ k = 6) ∧ -1 ≤ v ∧ v < 100) by omega)]; exact ⟨sh, rg, rd, mk, trow, grow, dep, hT, tq, tt, ga, ca, f, gf, hP⟩⟩ (by omega) (by omega) d_Fam_binder_63
        · omega
      · refine mv_iload_n B d_Fam_binder_23 rfl 3 rfl ?_
        refine mv_if_lt (tgt := 37) B d_Fam_binder_24 (by decide) (by omega) (fun c16 => ?_) (fun c16 => ?_)
        · refine mv_iconst (z := 0) B d_Fam_binder_37 rfl ?_
          refine mv_istore (lv' := [(6, .int (iI (0))), (5, .int (iI (0))), (0, .ref x), (1, .int (iI (k))), (2, .int (iI (v))), (3, .int (iI (a))), (4, .int (iI (b)))]) B d_Fam_binder_38 (by decide) rfl ?_
          refine mv_iload B d_Fam_binder_40 1 rfl ?_
          refine mv_if_eq (tgt := 62) B d_Fam_binder_42 (by decide) (by omega) (fun c17 => ?_) (fun c17 => ?_)
          · refine mv_iconst (z := -1) B d_Fam_binder_62 rfl ?_
            rw [hQ]
            exact mv_iret B ⟨by unfold aBi; rw [if_neg (show ¬ ((k = 5 ∨ k = 6) ∧ -1 ≤ v ∧ v < 100) by omega)], by unfold nBi; rw [if_neg (show ¬ ((k = 5 ∨ k = 6) ∧ -1 ≤ v ∧ v < 100) by omega)]; exact ⟨sh, rg, rd, mk, trow, grow, dep, hT, tq, tt, ga, ca, f, gf, hP⟩⟩ (by omega) (by omega) d_Fam_binder_63
          · omega
        · refine mv_iload_n B d_Fam_binder_27 rfl 3 rfl ?_
          refine mv_bipush (z := 99) B d_Fam_binder_28 (by decide) ?_
          refine mv_icmp_gt (tgt := 37) B d_Fam_binder_30 (by decide) (by omega) (by omega) (fun c18 => ?_) (fun c18 => ?_)
          · refine mv_iconst (z := 0) B d_Fam_binder_37 rfl ?_
            refine mv_istore (lv' := [(6, .int (iI (0))), (5, .int (iI (0))), (0, .ref x), (1, .int (iI (k))), (2, .int (iI (v))), (3, .int (iI (a))), (4, .int (iI (b)))]) B d_Fam_binder_38 (by decide) rfl ?_
            refine mv_iload B d_Fam_binder_40 1 rfl ?_
            refine mv_if_eq (tgt := 62) B d_Fam_binder_42 (by decide) (by omega) (fun c19 => ?_) (fun c19 => ?_)
            · refine mv_iconst (z := -1) B d_Fam_binder_62 rfl ?_
              rw [hQ]
              exact mv_iret B ⟨by unfold aBi; rw [if_neg (show ¬ ((k = 5 ∨ k = 6) ∧ -1 ≤ v ∧ v < 100) by omega)], by unfold nBi; rw [if_neg (show ¬ ((k = 5 ∨ k = 6) ∧ -1 ≤ v ∧ v < 100) by omega)]; exact ⟨sh, rg, rd, mk, trow, grow, dep, hT, tq, tt, ga, ca, f, gf, hP⟩⟩ (by omega) (by omega) d_Fam_binder_63
            · omega
          · refine mv_iconst (z := 1) B d_Fam_binder_33 rfl ?_
            refine mv_goto (tgt := 38) B d_Fam_binder_34 (by decide) ?_
            refine mv_istore (lv' := [(6, .int (iI (1))), (5, .int (iI (0))), (0, .ref x), (1, .int (iI (k))), (2, .int (iI (v))), (3, .int (iI (a))), (4, .int (iI (b)))]) B d_Fam_binder_38 (by decide) rfl ?_
            refine mv_iload B d_Fam_binder_40 1 rfl ?_
            refine mv_if_eq (tgt := 62) B d_Fam_binder_42 (by decide) (by omega) (fun c20 => ?_) (fun c20 => ?_)
            · refine mv_iconst (z := -1) B d_Fam_binder_62 rfl ?_
              rw [hQ]
              exact mv_iret B ⟨by unfold aBi; rw [if_neg (show ¬ ((k = 5 ∨ k = 6) ∧ -1 ≤ v ∧ v < 100) by omega)], by unfold nBi; rw [if_neg (show ¬ ((k = 5 ∨ k = 6) ∧ -1 ≤ v ∧ v < 100) by omega)]; exact ⟨sh, rg, rd, mk, trow, grow, dep, hT, tq, tt, ga, ca, f, gf, hP⟩⟩ (by omega) (by omega) d_Fam_binder_63
            · omega
    · refine mv_iconst (z := 1) B d_Fam_binder_11 rfl ?_
      refine mv_goto (tgt := 16) B d_Fam_binder_12 (by decide) ?_
      refine mv_istore (lv' := [(5, .int (iI (1))), (0, .ref x), (1, .int (iI (k))), (2, .int (iI (v))), (3, .int (iI (a))), (4, .int (iI (b)))]) B d_Fam_binder_16 (by decide) rfl ?_
      refine mv_iload_n B d_Fam_binder_18 rfl 3 rfl ?_
      refine mv_iconst (z := -1) B d_Fam_binder_19 rfl ?_
      refine mv_icmp_eq (tgt := 33) B d_Fam_binder_20 (by decide) (by omega) (by omega) (fun c21 => ?_) (fun c21 => ?_)
      · refine mv_iconst (z := 1) B d_Fam_binder_33 rfl ?_
        refine mv_goto (tgt := 38) B d_Fam_binder_34 (by decide) ?_
        refine mv_istore (lv' := [(6, .int (iI (1))), (5, .int (iI (1))), (0, .ref x), (1, .int (iI (k))), (2, .int (iI (v))), (3, .int (iI (a))), (4, .int (iI (b)))]) B d_Fam_binder_38 (by decide) rfl ?_
        refine mv_iload B d_Fam_binder_40 1 rfl ?_
        refine mv_if_eq (tgt := 62) B d_Fam_binder_42 (by decide) (by omega) (fun c22 => ?_) (fun c22 => ?_)
        · omega
        · refine mv_iload B d_Fam_binder_45 0 rfl ?_
          refine mv_if_eq (tgt := 62) B d_Fam_binder_47 (by decide) (by omega) (fun c23 => ?_) (fun c23 => ?_)
          · omega
          · refine mv_aloadR_n B d_Fam_binder_50 rfl 2 rfl ?_
            refine mv_iload_n B d_Fam_binder_51 rfl 3 rfl ?_
            refine mv_iload_n B d_Fam_binder_52 rfl 4 rfl ?_
            refine mv_iload_n B d_Fam_binder_53 rfl 5 rfl ?_
            refine mv_iload B d_Fam_binder_54 6 rfl ?_
            refine ca_Fam_57 (mc := 5) (ms := 4004) (rm' := rM 4 5 4004 110) (As := [.int (iI (k)), .int (iI (v)), .int (iI (a)), .int (iI (b))]) (rest := []) B (m_Fam_join hP hJ (k := k) (v := v) (by omega) (by omega) ra rb) rfl rfl ⟨Nat.le_of_ble_eq_true rfl, Nat.le_of_ble_eq_true rfl⟩ hx rfl rfl (Nat.le_of_ble_eq_true rfl) d_Fam_binder_56 ⟨by omega, by omega⟩ (fun v1 M9 ep => ?_)
            obtain ⟨e1, e2⟩ := ep
            subst e1
            show mv_G X Q (kk V) 7 59 [(6, .int (iI (1))), (5, .int (iI (1))), (0, .ref x), (1, .int (iI (k))), (2, .int (iI (v))), (3, .int (iI (a))), (4, .int (iI (b)))] [.int (iI (aTw S (k) (v) a b))] M9 (0 + 5) (0 + 4004)
            refine mv_goto (tgt := 63) B d_Fam_binder_59 (by decide) ?_
            rw [hQ]
            exact mv_iret B ⟨by unfold aBi; rw [if_pos (show (k = 5 ∨ k = 6) ∧ -1 ≤ v ∧ v < 100 by omega)], by unfold nBi; rw [if_pos (show (k = 5 ∨ k = 6) ∧ -1 ≤ v ∧ v < 100 by omega)]; exact e2⟩ (by omega) (by omega) d_Fam_binder_63
      · refine mv_iload_n B d_Fam_binder_23 rfl 3 rfl ?_
        refine mv_if_lt (tgt := 37) B d_Fam_binder_24 (by decide) (by omega) (fun c24 => ?_) (fun c24 => ?_)
        · refine mv_iconst (z := 0) B d_Fam_binder_37 rfl ?_
          refine mv_istore (lv' := [(6, .int (iI (0))), (5, .int (iI (1))), (0, .ref x), (1, .int (iI (k))), (2, .int (iI (v))), (3, .int (iI (a))), (4, .int (iI (b)))]) B d_Fam_binder_38 (by decide) rfl ?_
          refine mv_iload B d_Fam_binder_40 1 rfl ?_
          refine mv_if_eq (tgt := 62) B d_Fam_binder_42 (by decide) (by omega) (fun c25 => ?_) (fun c25 => ?_)
          · omega
          · refine mv_iload B d_Fam_binder_45 0 rfl ?_
            refine mv_if_eq (tgt := 62) B d_Fam_binder_47 (by decide) (by omega) (fun c26 => ?_) (fun c26 => ?_)
            · refine mv_iconst (z := -1) B d_Fam_binder_62 rfl ?_
              rw [hQ]
              exact mv_iret B ⟨by unfold aBi; rw [if_neg (show ¬ ((k = 5 ∨ k = 6) ∧ -1 ≤ v ∧ v < 100) by omega)], by unfold nBi; rw [if_neg (show ¬ ((k = 5 ∨ k = 6) ∧ -1 ≤ v ∧ v < 100) by omega)]; exact ⟨sh, rg, rd, mk, trow, grow, dep, hT, tq, tt, ga, ca, f, gf, hP⟩⟩ (by omega) (by omega) d_Fam_binder_63
            · omega
        · refine mv_iload_n B d_Fam_binder_27 rfl 3 rfl ?_
          refine mv_bipush (z := 99) B d_Fam_binder_28 (by decide) ?_
          refine mv_icmp_gt (tgt := 37) B d_Fam_binder_30 (by decide) (by omega) (by omega) (fun c27 => ?_) (fun c27 => ?_)
          · refine mv_iconst (z := 0) B d_Fam_binder_37 rfl ?_
            refine mv_istore (lv' := [(6, .int (iI (0))), (5, .int (iI (1))), (0, .ref x), (1, .int (iI (k))), (2, .int (iI (v))), (3, .int (iI (a))), (4, .int (iI (b)))]) B d_Fam_binder_38 (by decide) rfl ?_
            refine mv_iload B d_Fam_binder_40 1 rfl ?_
            refine mv_if_eq (tgt := 62) B d_Fam_binder_42 (by decide) (by omega) (fun c28 => ?_) (fun c28 => ?_)
            · omega
            · refine mv_iload B d_Fam_binder_45 0 rfl ?_
              refine mv_if_eq (tgt := 62) B d_Fam_binder_47 (by decide) (by omega) (fun c29 => ?_) (fun c29 => ?_)
              · refine mv_iconst (z := -1) B d_Fam_binder_62 rfl ?_
                rw [hQ]
                exact mv_iret B ⟨by unfold aBi; rw [if_neg (show ¬ ((k = 5 ∨ k = 6) ∧ -1 ≤ v ∧ v < 100) by omega)], by unfold nBi; rw [if_neg (show ¬ ((k = 5 ∨ k = 6) ∧ -1 ≤ v ∧ v < 100) by omega)]; exact ⟨sh, rg, rd, mk, trow, grow, dep, hT, tq, tt, ga, ca, f, gf, hP⟩⟩ (by omega) (by omega) d_Fam_binder_63
              · omega
          · refine mv_iconst (z := 1) B d_Fam_binder_33 rfl ?_
            refine mv_goto (tgt := 38) B d_Fam_binder_34 (by decide) ?_
            refine mv_istore (lv' := [(6, .int (iI (1))), (5, .int (iI (1))), (0, .ref x), (1, .int (iI (k))), (2, .int (iI (v))), (3, .int (iI (a))), (4, .int (iI (b)))]) B d_Fam_binder_38 (by decide) rfl ?_
            refine mv_iload B d_Fam_binder_40 1 rfl ?_
            refine mv_if_eq (tgt := 62) B d_Fam_binder_42 (by decide) (by omega) (fun c30 => ?_) (fun c30 => ?_)
            · omega
            · refine mv_iload B d_Fam_binder_45 0 rfl ?_
              refine mv_if_eq (tgt := 62) B d_Fam_binder_47 (by decide) (by omega) (fun c31 => ?_) (fun c31 => ?_)
              · omega
              · refine mv_aloadR_n B d_Fam_binder_50 rfl 2 rfl ?_
                refine mv_iload_n B d_Fam_binder_51 rfl 3 rfl ?_
                refine mv_iload_n B d_Fam_binder_52 rfl 4 rfl ?_
                refine mv_iload_n B d_Fam_binder_53 rfl 5 rfl ?_
                refine mv_iload B d_Fam_binder_54 6 rfl ?_
                refine ca_Fam_57 (mc := 5) (ms := 4004) (rm' := rM 4 5 4004 110) (As := [.int (iI (k)), .int (iI (v)), .int (iI (a)), .int (iI (b))]) (rest := []) B (m_Fam_join hP hJ (k := k) (v := v) (by omega) (by omega) ra rb) rfl rfl ⟨Nat.le_of_ble_eq_true rfl, Nat.le_of_ble_eq_true rfl⟩ hx rfl rfl (Nat.le_of_ble_eq_true rfl) d_Fam_binder_56 ⟨by omega, by omega⟩ (fun v1 M9 ep => ?_)
                obtain ⟨e1, e2⟩ := ep
                subst e1
                show mv_G X Q (kk V) 7 59 [(6, .int (iI (1))), (5, .int (iI (1))), (0, .ref x), (1, .int (iI (k))), (2, .int (iI (v))), (3, .int (iI (a))), (4, .int (iI (b)))] [.int (iI (aTw S (k) (v) a b))] M9 (0 + 5) (0 + 4004)
                refine mv_goto (tgt := 63) B d_Fam_binder_59 (by decide) ?_
                rw [hQ]
                exact mv_iret B ⟨by unfold aBi; rw [if_pos (show (k = 5 ∨ k = 6) ∧ -1 ≤ v ∧ v < 100 by omega)], by unfold nBi; rw [if_pos (show (k = 5 ∨ k = 6) ∧ -1 ≤ v ∧ v < 100 by omega)]; exact e2⟩ (by omega) (by omega) d_Fam_binder_63
