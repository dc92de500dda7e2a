/-! MAKER: what its methods write, as lists -/
def SrcOk (V : mv_V) (M : mv_M) (dep : Nat) (tg : Option Nat) (q : Q4) (h : Nat) (t : Tm) : Prop := TermAt V M h t ∧ Tok t ∧ (∀ a0 a1 a2 a3, M h = some (.inr (0, [.ref a0, .ref a1, .ref a2, .ref a3])) → Off dep tg q a0 ∧ Off dep tg q a1 ∧ Off dep tg q a2 ∧ Off dep tg q a3)
theorem SrcOk.at {V : mv_V} {M : mv_M} {mk rd dep : Nat} {tg : Option Nat} {q : Q4} {h : Nat} {t : Tm} (hS : SrcOk V M dep tg q h t) (hB : HB V M mk rd dep tg q) {τ : Tm} {rdc mkc : va_E} {δ : Nat → Int} : TermAt V (mW V M mk rd dep tg q τ rdc δ mkc) h t := mW_src hB hS.1 hS.2.2
theorem SrcOk.obj {V : mv_V} {M : mv_M} {mk rd dep : Nat} {tg : Option Nat} {q : Q4} {h : Nat} {t : Tm} (hS : SrcOk V M dep tg q h t) (hB : HB V M mk rd dep tg q) {τ : Tm} {rdc mkc : va_E} {δ : Nat → Int} : ∃ vs, mW V M mk rd dep tg q τ rdc δ mkc h = some (.inr (0, vs)) := by
  obtain ⟨a0, a1, a2, a3, hh, -⟩ := hS.at hB (τ := τ) (rdc := rdc) (mkc := mkc) (δ := δ)
  exact ⟨_, hh⟩
def opD (tg : Option Nat) (t : Tm) (δ : Nat → Int) : Nat → Int := match tg with
  | none => δ
  | some _ => dpW t δ t.1
/-- alls of t from b on, n of them, by a lift of outer for the parameters -/
def alL (t : Tm) (δ : Nat → Int) (P outer b : Int) : Nat → List Nd
  | 0 => []
  | n + 1 => alL t δ P outer b n ++ [(6, uAt t (beR t b n), 0)] ++ cpL t δ P (P + n) 0 outer (beR t b n + 1) (dAt t (beR t b n + 1)).toNat
theorem alL_len {t : Tm} (ho : Tok t) (δ : Nat → Int) (P outer b : Int) : ∀ n, (alL t δ P outer b n).length ≤ 1001 * n
  | 0 => by simp [alL]
  | n + 1 => by
    have h1 := alL_len ho δ P outer b n
    have h2 := dAt_r ho (beR t b n + 1)
    simp only [alL, List.length_append, List.length_cons, List.length_nil, cpL_len]
    omega
/-- binders of kind k out of the alls from b on, n of them, under one lift -/
def bnL (t : Tm) (δ : Nat → Int) (P ar al pp k b : Int) : Nat → List Nd
  | 0 => []
  | n + 1 => bnL t δ P ar al pp k b n ++ [(k, uAt t (beR t b n), 0)] ++ cpL t δ P ar al pp (beR t b n + 1) (dAt t (beR t b n + 1)).toNat
theorem bnL_len {t : Tm} (ho : Tok t) (δ : Nat → Int) (P ar al pp k b : Int) : ∀ n, (bnL t δ P ar al pp k b n).length ≤ 1001 * n
  | 0 => by simp [bnL]
  | n + 1 => by
    have h1 := bnL_len ho δ P ar al pp k b n
    have h2 := dAt_r ho (beR t b n + 1)
    simp only [bnL, List.length_append, List.length_cons, List.length_nil, cpL_len]
    omega
/-- a global put to P variables and to own ones -/
def glL (nu P own btw aft : Int) : List Nd := apL (P + own).toNat ++ [(1, nu, 0)] ++ vrL (P + btw + own + aft - 1) P.toNat ++ vrL (own + aft - 1) own.toNat
/-- what a recursive argument brings: ys binders, then Q (variable v) put to the last terms and to the argument (variable w) put to the ys -/
def brL (t : Tm) (δ : Nat → Int) (P ar al pp : Int) (k ix b v w : Int) (ys : Nat) (l0 : Int) (ln : Nat) : List Nd := bnL t δ P ar al pp k b ys ++ apL (ix + 1).toNat ++ [(0, v + ys, 0)] ++ cpL t δ P ar al pp l0 ln ++ apL ys ++ [(0, w + ys, 0)] ++ vrL ((ys : Nat) - 1) ys
theorem SrcOk_D {V : mv_V} {M : mv_M} {mk rd dep : Nat} {tg : Option Nat} {q : Q4} {h : Nat} {t : Tm} (hS : SrcOk V M dep tg q h t) (hB : HB V M mk rd dep tg q) {τ : Tm} {rdc mkc : va_E} {δ : Nat → Int} : ∀ a0 a1 a2 a3, mW V M mk rd dep tg q τ rdc δ mkc h = some (.inr (0, [.ref a0, .ref a1, .ref a2, .ref a3])) → a0 ≠ dep ∧ a1 ≠ dep ∧ a2 ≠ dep ∧ a3 ≠ dep := by
  intro a0 a1 a2 a3 e
  obtain ⟨b0, b1, b2, b3, hh, -⟩ := hS.1
  rw [mW_o hB hh (by decide) (by decide)] at e
  cases e
  obtain ⟨o0, o1, o2, o3⟩ := hS.2.2 _ _ _ _ hh
  exact ⟨o0.1, o1.1, o2.1, o3.1⟩
set_option maxRecDepth 100000 in
set_option maxHeartbeats 4000000 in
theorem m_Maker_liftedNumber {l : Launch} {V : mv_V} {M : mv_M} {mk rd dep : Nat} {tg : Option Nat} {q : Q4} {τ : Tm} {XS : List Nd} {tm : Option Nat} {al0 fo0 ap0 : Int} {δ : Nat → Int} {P ar al pp : Int} (hB : HB V M mk rd dep tg q) (hτ : τ.1 ≤ 1000) {h : Nat} {t : Tm} (hS : SrcOk V M dep tg q h t) (hδ : ∀ i : Int, Sm (dgt δ i)) {i : Int} (ri : R32 i) (rP : R32 P) (rar : R32 ar) : Met l y_Maker_liftedNumber ws_Maker_liftedNumber (rM 1 0 0 22) (mv_Pre (kk V) [.ref mk, .int (iI (i))] (mX V M mk rd dep tg q τ XS (dC dep tm al0 fo0 ap0) δ (some h) P ar al pp)) (mv_Q (kk V) (mv_R (some (.int (iI (lfN t δ P ar al pp i)))) (mX V M mk rd dep tg q τ XS (dC dep tm al0 fo0 ap0) δ (some h) P ar al pp))) 0 0 V.2.2.2.2 := by
  refine mv_Met (by decide) rfl (Nat.le_of_ble_eq_true rfl) (fun X hX B => ?_)
  subst hX
  replace B : mv_B X (kk V) c_Maker_liftedNumber ws_Maker_liftedNumber "FamilyRules$Maker" 4 (Option.some Jvm.ClassFile.FieldType.int) (rM 1 0 0 22) "liftedNumber" := B
  obtain ⟨Q, hQ⟩ : ∃ Q, Q = mv_E X (kk V) (mv_R (some (.int (iI (lfN t δ P ar al pp i)))) (mX V M mk rd dep tg q τ XS (dC dep tm al0 fo0 ap0) δ (some h) P ar al pp)) 0 0 := ⟨_, rfl⟩
  rw [← hQ]
  show mv_G X Q (kk V) 4 0 [(0, .ref mk), (1, .int (iI (i)))] [] (mX V M mk rd dep tg q τ XS (dC dep tm al0 fo0 ap0) δ (some h) P ar al pp) 0 0
  have hu := uAt_r hS.2.1 i
  have hk := kAt_r hS.2.1 i
  have hd := hδ i
  refine mv_aloadR_n B d_Maker_liftedNumber_0 rfl 0 rfl ?_
  refine gf_Maker_33 B mW_mk rfl d_Maker_liftedNumber_1 ?_
  refine mv_iload_n B d_Maker_liftedNumber_4 rfl 1 rfl ?_
  refine ca_Maker_115 (mc := 0) (ms := 0) (As := [.int (iI (i))]) (rest := []) B (m_Term_numberAt (hS.at hB) hS.2.1 (i := i) (by omega)) rfl rfl ⟨Nat.le_of_ble_eq_true rfl, Nat.le_of_ble_eq_true rfl⟩ (hS.obj hB).choose_spec rfl rfl (Nat.le_of_ble_eq_true rfl) d_Maker_liftedNumber_5 ⟨by omega, by omega⟩ (mv_x ?_)
  show mv_G X Q (kk V) 4 8 [(0, .ref mk), (1, .int (iI (i)))] [.int (iI (uAt t (i)))] (mX V M mk rd dep tg q τ XS (dC dep tm al0 fo0 ap0) δ (some h) P ar al pp) 0 0
  refine mv_istore_n (lv' := [(2, .int (iI (uAt t (i)))), (0, .ref mk), (1, .int (iI (i)))]) B d_Maker_liftedNumber_8 rfl (by decide) rfl ?_
  refine mv_aloadR_n B d_Maker_liftedNumber_9 rfl 1 rfl ?_
  refine gf_Maker_33 B mW_mk rfl d_Maker_liftedNumber_10 ?_
  refine mv_iload_n B d_Maker_liftedNumber_13 rfl 2 rfl ?_
  refine ca_Maker_138 (mc := 0) (ms := 0) (As := [.int (iI (i))]) (rest := []) B (m_Term_kindAt (hS.at hB) hS.2.1 (i := i) (by omega)) rfl rfl ⟨Nat.le_of_ble_eq_true rfl, Nat.le_of_ble_eq_true rfl⟩ (hS.obj hB).choose_spec rfl rfl (Nat.le_of_ble_eq_true rfl) d_Maker_liftedNumber_14 ⟨by omega, by omega⟩ (mv_x ?_)
  show mv_G X Q (kk V) 4 17 [(2, .int (iI (uAt t (i)))), (0, .ref mk), (1, .int (iI (i)))] [.int (iI (kAt t (i)))] (mX V M mk rd dep tg q τ XS (dC dep tm al0 fo0 ap0) δ (some h) P ar al pp) 0 0
  refine mv_if_eq (tgt := 22) B d_Maker_liftedNumber_17 (by decide) (by omega) (fun c1 => ?_) (fun c1 => ?_)
  · refine mv_aloadR_n B d_Maker_liftedNumber_22 rfl 1 rfl ?_
    refine gf_Maker_9 B mW_mk rfl d_Maker_liftedNumber_23 ?_
    refine mv_iload_n B d_Maker_liftedNumber_26 rfl 2 rfl ?_
    refine ca_Maker_147 (mc := 0) (ms := 0) (As := [.int (iI (i))]) (rest := []) B (m_Reader_depthAt (mW_rd hB) (mW_dep hB) (i := i) (by omega)) rfl rfl ⟨Nat.le_of_ble_eq_true rfl, Nat.le_of_ble_eq_true rfl⟩ (mW_rd hB) rfl rfl (Nat.le_of_ble_eq_true rfl) d_Maker_liftedNumber_27 ⟨by omega, by omega⟩ (mv_x ?_)
    show mv_G X Q (kk V) 4 30 [(2, .int (iI (uAt t (i)))), (0, .ref mk), (1, .int (iI (i)))] [.int (iI (dgt δ (i)))] (mX V M mk rd dep tg q τ XS (dC dep tm al0 fo0 ap0) δ (some h) P ar al pp) 0 0
    refine mv_iconst (z := 1) B d_Maker_liftedNumber_30 rfl ?_
    refine mv_isub B d_Maker_liftedNumber_31 ?_
    refine mv_iload_n B d_Maker_liftedNumber_32 rfl 0 rfl ?_
    refine mv_isub B d_Maker_liftedNumber_33 ?_
    refine mv_istore_n (lv' := [(3, .int (iI (((dgt δ (i)) - 1) - (uAt t (i))))), (2, .int (iI (uAt t (i)))), (0, .ref mk), (1, .int (iI (i)))]) B d_Maker_liftedNumber_34 rfl (by decide) rfl ?_
    refine mv_iload_n B d_Maker_liftedNumber_35 rfl 0 rfl ?_
    refine mv_aloadR_n B d_Maker_liftedNumber_36 rfl 2 rfl ?_
    refine gf_Maker_129 B mW_mk rfl d_Maker_liftedNumber_37 ?_
    refine mv_icmp_lt (tgt := 45) B d_Maker_liftedNumber_40 (by decide) (by omega) (by omega) (fun c2 => ?_) (fun c2 => ?_)
    · refine mv_iload_n B d_Maker_liftedNumber_45 rfl 1 rfl ?_
      refine mv_iload_n B d_Maker_liftedNumber_46 rfl 0 rfl ?_
      refine mv_aloadR_n B d_Maker_liftedNumber_47 rfl 2 rfl ?_
      refine gf_Maker_36 B mW_mk rfl d_Maker_liftedNumber_48 ?_
      refine mv_icmp_lt (tgt := 61) B d_Maker_liftedNumber_51 (by decide) (by omega) (by omega) (fun c3 => ?_) (fun c3 => ?_)
      · refine mv_aloadR_n B d_Maker_liftedNumber_61 rfl 2 rfl ?_
        refine gf_Maker_135 B mW_mk rfl d_Maker_liftedNumber_62 ?_
        refine mv_iadd B d_Maker_liftedNumber_65 ?_
        rw [hQ]
        exact mv_iret B ⟨(by unfold lfN; first | rw [if_neg (by omega)] | (rw [if_pos (by omega)]; first | rw [if_pos (by omega)] | (rw [if_neg (by omega)]; first | rw [if_pos (by omega)] | rw [if_neg (by omega)]))), rfl⟩ (by omega) (by omega) d_Maker_liftedNumber_66
      · refine mv_aloadR_n B d_Maker_liftedNumber_54 rfl 2 rfl ?_
        refine gf_Maker_132 B mW_mk rfl d_Maker_liftedNumber_55 ?_
        refine mv_goto (tgt := 65) B d_Maker_liftedNumber_58 (by decide) ?_
        refine mv_iadd B d_Maker_liftedNumber_65 ?_
        rw [hQ]
        exact mv_iret B ⟨(by unfold lfN; first | rw [if_neg (by omega)] | (rw [if_pos (by omega)]; first | rw [if_pos (by omega)] | (rw [if_neg (by omega)]; first | rw [if_pos (by omega)] | rw [if_neg (by omega)]))), rfl⟩ (by omega) (by omega) d_Maker_liftedNumber_66
    · refine mv_iload_n B d_Maker_liftedNumber_43 rfl 1 rfl ?_
      rw [hQ]
      exact mv_iret B ⟨(by unfold lfN; first | rw [if_neg (by omega)] | (rw [if_pos (by omega)]; first | rw [if_pos (by omega)] | (rw [if_neg (by omega)]; first | rw [if_pos (by omega)] | rw [if_neg (by omega)]))), rfl⟩ (by omega) (by omega) d_Maker_liftedNumber_44
  · refine mv_iload_n B d_Maker_liftedNumber_20 rfl 0 rfl ?_
    rw [hQ]
    exact mv_iret B ⟨(by unfold lfN; first | rw [if_neg (by omega)] | (rw [if_pos (by omega)]; first | rw [if_pos (by omega)] | (rw [if_neg (by omega)]; first | rw [if_pos (by omega)] | rw [if_neg (by omega)]))), rfl⟩ (by omega) (by omega) d_Maker_liftedNumber_21
set_option maxRecDepth 100000 in
set_option maxHeartbeats 4000000 in
theorem m_Maker_copy {l : Launch} {V : mv_V} {M : mv_M} {mk rd dep : Nat} {tg : Option Nat} {q : Q4} {τ : Tm} {XS : List Nd} {tm : Option Nat} {al0 fo0 ap0 : Int} {δ : Nat → Int} {P ar al pp : Int} (hB : HB V M mk rd dep tg q) (hτ : τ.1 ≤ 1000) {h : Nat} {t : Tm} (hS : SrcOk V M dep tg q h t) (hδ : ∀ i : Int, Sm (dgt δ i)) {b e : Int} (hb0 : 0 ≤ b) (hbe : b ≤ e) (he : e ≤ 10000000) (rP : R32 P ∧ R32 ar) (hX : XS.length + (e - b) ≤ 1000000000) : Met l y_Maker_copy ws_Maker_copy (rM 2 0 0 50) (mv_Pre (kk V) [.ref mk, .int (iI (b)), .int (iI (e))] (mX V M mk rd dep tg q τ XS (dC dep tm al0 fo0 ap0) δ (some h) P ar al pp)) (mv_Q (kk V) (mv_R none (mX V M mk rd dep tg q τ (XS ++ cpL t δ P ar al pp b (e - b).toNat) (dC dep tm al0 fo0 ap0) δ (some h) P ar al pp))) 0 0 V.2.2.2.2 := by
  refine mv_Met (by decide) rfl (Nat.le_of_ble_eq_true rfl) (fun X hX B => ?_)
  subst hX
  replace B : mv_B X (kk V) c_Maker_copy ws_Maker_copy "FamilyRules$Maker" 4 (Option.none : Option Jvm.ClassFile.FieldType) (rM 2 0 0 50) "copy" := B
  obtain ⟨Q, hQ⟩ : ∃ Q, Q = mv_E X (kk V) (mv_R none (mX V M mk rd dep tg q τ (XS ++ cpL t δ P ar al pp b (e - b).toNat) (dC dep tm al0 fo0 ap0) δ (some h) P ar al pp)) 0 0 := ⟨_, rfl⟩
  rw [← hQ]
  show mv_G X Q (kk V) 4 0 [(0, .ref mk), (1, .int (iI (b))), (2, .int (iI (e)))] [] (mX V M mk rd dep tg q τ XS (dC dep tm al0 fo0 ap0) δ (some h) P ar al pp) 0 0
  refine mv_aloadR_n B d_Maker_copy_0 rfl 0 rfl ?_
  refine gf_Maker_15 B mW_mk rfl d_Maker_copy_1 ?_
  refine mv_ifnonnull (tgt := 20) B d_Maker_copy_4 (by decide) (fun a2 c1 => ?_) (fun c1 => ?_)
  · refine mv_iload_n B d_Maker_copy_20 rfl 1 rfl ?_
    refine mv_istore_n (lv' := [(3, .int (iI (b))), (0, .ref mk), (1, .int (iI (b))), (2, .int (iI (e)))]) B d_Maker_copy_21 rfl (by decide) rfl ?_
    have L22 : ∀ (fu : Nat) (i : Nat), (b + (i : Nat) ≤ e) → ((e - b).toNat - i) < fu → mv_G X Q (kk V) 4 22 [(3, .int (iI (b + (i : Nat)))), (0, .ref mk), (1, .int (iI (b))), (2, .int (iI (e)))] [] (mX V M mk rd dep tg q τ (XS ++ cpL t δ P ar al pp b i) (dC dep tm al0 fo0 ap0) δ (some h) P ar al pp) 0 0 := by
      intro fu
      induction fu with
      | zero => intro i hi hm; exact absurd hm (Nat.not_lt_zero _)
      | succ fu ih22 =>
        intro i hi hm
        refine mv_iload_n B d_Maker_copy_22 rfl 0 rfl ?_
        refine mv_iload_n B d_Maker_copy_23 rfl 3 rfl ?_
        refine mv_icmp_ge (tgt := 58) B d_Maker_copy_24 (by decide) (by omega) (by omega) (fun c3 => ?_) (fun c3 => ?_)
        · rw [hQ]
          exact mv_vret B ⟨rfl, by rw [show (e - b).toNat = i by omega]⟩ (by omega) (by omega) d_Maker_copy_58
        · refine mv_aloadR_n B d_Maker_copy_27 rfl 1 rfl ?_
          refine mv_aloadR_n B d_Maker_copy_28 rfl 1 rfl ?_
          refine gf_Maker_33 B mW_mk rfl d_Maker_copy_29 ?_
          refine mv_iload_n B d_Maker_copy_32 rfl 0 rfl ?_
          refine ca_Maker_138 (mc := 0) (ms := 0) (As := [.int (iI (b + (i : Nat)))]) (rest := [.ref mk]) B (m_Term_kindAt (hS.at hB) hS.2.1 (i := b + (i : Nat)) (by omega)) rfl rfl ⟨Nat.le_of_ble_eq_true rfl, Nat.le_of_ble_eq_true rfl⟩ (hS.obj hB).choose_spec rfl rfl (Nat.le_of_ble_eq_true rfl) d_Maker_copy_33 ⟨by omega, by omega⟩ (mv_x ?_)
          show mv_G X Q (kk V) 4 36 [(3, .int (iI (b + (i : Nat)))), (0, .ref mk), (1, .int (iI (b))), (2, .int (iI (e)))] [.int (iI (kAt t (b + (i : Nat)))), .ref mk] (mX V M mk rd dep tg q τ (XS ++ cpL t δ P ar al pp b i) (dC dep tm al0 fo0 ap0) δ (some h) P ar al pp) 0 0
          refine mv_aloadR_n B d_Maker_copy_36 rfl 1 rfl ?_
          refine mv_iload_n B d_Maker_copy_37 rfl 0 rfl ?_
          refine ca_Maker_141 (mc := 0) (ms := 0) (As := [.int (iI (b + (i : Nat)))]) (rest := [.int (iI (kAt t (b + (i : Nat)))), .ref mk]) B (m_Maker_liftedNumber hB hτ hS hδ (i := b + (i : Nat)) (by omega) (by omega) (by omega)) rfl rfl ⟨Nat.le_of_ble_eq_true rfl, Nat.le_of_ble_eq_true rfl⟩ mW_mk rfl rfl (Nat.le_of_ble_eq_true rfl) d_Maker_copy_38 ⟨by omega, by omega⟩ (mv_x ?_)
          show mv_G X Q (kk V) 4 41 [(3, .int (iI (b + (i : Nat)))), (0, .ref mk), (1, .int (iI (b))), (2, .int (iI (e)))] [.int (iI (lfN t δ P ar al pp (b + (i : Nat)))), .int (iI (kAt t (b + (i : Nat)))), .ref mk] (mX V M mk rd dep tg q τ (XS ++ cpL t δ P ar al pp b i) (dC dep tm al0 fo0 ap0) δ (some h) P ar al pp) 0 0
          refine mv_aloadR_n B d_Maker_copy_41 rfl 1 rfl ?_
          refine gf_Maker_33 B mW_mk rfl d_Maker_copy_42 ?_
          refine mv_iload_n B d_Maker_copy_45 rfl 0 rfl ?_
          refine ca_Maker_144 (mc := 0) (ms := 0) (As := [.int (iI (b + (i : Nat)))]) (rest := [.int (iI (lfN t δ P ar al pp (b + (i : Nat)))), .int (iI (kAt t (b + (i : Nat)))), .ref mk]) B (m_Term_sortAt (hS.at hB) hS.2.1 (i := b + (i : Nat)) (by omega)) rfl rfl ⟨Nat.le_of_ble_eq_true rfl, Nat.le_of_ble_eq_true rfl⟩ (hS.obj hB).choose_spec rfl rfl (Nat.le_of_ble_eq_true rfl) d_Maker_copy_46 ⟨by omega, by omega⟩ (mv_x ?_)
          show mv_G X Q (kk V) 4 49 [(3, .int (iI (b + (i : Nat)))), (0, .ref mk), (1, .int (iI (b))), (2, .int (iI (e)))] [.int (iI (sAt t (b + (i : Nat)))), .int (iI (lfN t δ P ar al pp (b + (i : Nat)))), .int (iI (kAt t (b + (i : Nat)))), .ref mk] (mX V M mk rd dep tg q τ (XS ++ cpL t δ P ar al pp b i) (dC dep tm al0 fo0 ap0) δ (some h) P ar al pp) 0 0
          refine ca_Maker_78 (mc := 0) (ms := 0) (As := [.int (iI (kAt t (b + (i : Nat)))), .int (iI (lfN t δ P ar al pp (b + (i : Nat)))), .int (iI (sAt t (b + (i : Nat))))]) (rest := []) B (m_Maker_put hB hτ (by first | omega | (simp only [List.length_append, List.length_cons, List.length_nil, apL_len, vrL_len, cpL_len]; omega))) rfl rfl ⟨Nat.le_of_ble_eq_true rfl, Nat.le_of_ble_eq_true rfl⟩ mW_mk rfl rfl (Nat.le_of_ble_eq_true rfl) d_Maker_copy_49 ⟨by omega, by omega⟩ (mv_x ?_)
          show mv_G X Q (kk V) 4 52 [(3, .int (iI (b + (i : Nat)))), (0, .ref mk), (1, .int (iI (b))), (2, .int (iI (e)))] [] (mX V M mk rd dep tg q τ ((XS ++ cpL t δ P ar al pp b i) ++ [(kAt t (b + (i : Nat)), lfN t δ P ar al pp (b + (i : Nat)), sAt t (b + (i : Nat)))]) (dC dep tm al0 fo0 ap0) δ (some h) P ar al pp) 0 0
          refine mv_iinc (lv' := [(3, .int (iI ((b + (i : Nat)) + 1))), (0, .ref mk), (1, .int (iI (b))), (2, .int (iI (e)))]) B d_Maker_copy_52 0 rfl (by decide) rfl ?_
          refine mv_goto (tgt := 22) B d_Maker_copy_55 (by decide) ?_
          refine mv_lv (lv' := [(3, .int (iI (b + ((i + 1) : Nat)))), (0, .ref mk), (1, .int (iI (b))), (2, .int (iI (e)))]) [0, 1, 2, 3] (lc (lI (by first | rfl | omega)) (lc rfl (lc rfl (lc rfl rfl)))) ?_
          rw [show (XS ++ cpL t δ P ar al pp b i) ++ [(kAt t (b + (i : Nat)), lfN t δ P ar al pp (b + (i : Nat)), sAt t (b + (i : Nat)))] = (XS ++ cpL t δ P ar al pp b (i + 1)) from (by simp only [cpL, List.append_assoc])]
          exact ih22 (i + 1) (by omega) (by omega)
    refine mv_lv (lv' := [(3, .int (iI (b + (0 : Nat)))), (0, .ref mk), (1, .int (iI (b))), (2, .int (iI (e)))]) [0, 1, 2, 3] (lc (lI (by first | rfl | omega)) (lc rfl (lc rfl (lc rfl rfl)))) ?_
    rw [show (XS : List Nd) = XS ++ cpL t δ P ar al pp b 0 from (by simp [cpL])]
    exact L22 _ 0 (by omega) (Nat.lt_succ_self _)
  · refine mv_aloadR_n B d_Maker_copy_7 rfl 0 rfl ?_
    refine mv_dup B d_Maker_copy_8 rfl ?_
    refine gf_Maker_19 B mW_mk rfl d_Maker_copy_9 ?_
    refine mv_iload_n B d_Maker_copy_12 rfl 2 rfl ?_
    refine mv_iload_n B d_Maker_copy_13 rfl 1 rfl ?_
    refine mv_isub B d_Maker_copy_14 ?_
    refine mv_iadd B d_Maker_copy_15 ?_
    refine pf_Maker_19 B mW_mk rfl rfl (Nat.le_of_ble_eq_true rfl) d_Maker_copy_16 ?_
    show mv_G X Q (kk V) 4 19 [(0, .ref mk), (1, .int (iI (b))), (2, .int (iI (e)))] [] (mv_up (mX V M mk rd dep tg q τ XS (dC dep tm al0 fo0 ap0) δ (some h) P ar al pp) mk (.inr (5, [.ref rd, va_rf (tg), .int (iI ((XS.length : Nat) + (e - b))), .ref h, .int (iI (P)), .int (iI (ar)), .int (iI (al)), .int (iI (pp))]))) 0 0
    obtain ⟨M4, hM5⟩ : ∃ My : mv_M, My = mv_up (mX V M mk rd dep tg q τ XS (dC dep tm al0 fo0 ap0) δ (some h) P ar al pp) mk (.inr (5, [.ref rd, va_rf (tg), .int (iI ((XS.length : Nat) + (e - b))), .ref h, .int (iI (P)), .int (iI (ar)), .int (iI (al)), .int (iI (pp))])) := ⟨_, rfl⟩
    rw [← hM5]
    have hf6 : M4 mk = some (.inr (5, [.ref rd, va_rf (tg), .int (iI ((XS.length : Nat) + (e - b))), .ref h, .int (iI (P)), .int (iI (ar)), .int (iI (al)), .int (iI (pp))])) := by rw [hM5]; exact mv_us
    rw [hQ]
    exact mv_vret B ⟨rfl, by rw [hM5, mW_upm]; simp only [mX, List.length_append, cpL_len]; rw [show ((XS.length : Nat) + (e - b) : Int) = ((XS.length + (e - b).toNat : Nat) : Int) by omega]; subst c1; exact mW_none⟩ (by omega) (by omega) d_Maker_copy_19
set_option maxRecDepth 100000 in
set_option maxHeartbeats 4000000 in
theorem m_Maker_writeGlobal {l : Launch} {V : mv_V} {M : mv_M} {mk rd dep : Nat} {tg : Option Nat} {q : Q4} {τ : Tm} {XS : List Nd} {rdc : va_E} {δ : Nat → Int} {src : Option Nat} {P ar al pp : Int} (hB : HB V M mk rd dep tg q) (hτ : τ.1 ≤ 1000) {g : Nat} {nu ro pa ix ra ar9 rc : Int} {fa co tl : Option Nat} (hg : M g = some (.inr (2, [.int (iI nu), .int (iI ro), .int (iI pa), .int (iI ix), .int (iI ra), va_rf fa, va_rf co, va_rf tl, .int (iI ar9), .int (iI rc)]))) {own btw aft : Int} (hP : 0 ≤ P ∧ P ≤ 1000000) (hw : 0 ≤ own ∧ own ≤ 1000000) (hX : XS.length ≤ 500000000) : Met l y_Maker_writeGlobal ws_Maker_writeGlobal (rM 3 0 0 80) (mv_Pre (kk V) [.ref mk, .ref g, .int (iI (own)), .int (iI (btw)), .int (iI (aft))] (mX V M mk rd dep tg q τ XS rdc δ src P ar al pp)) (mv_Q (kk V) (mv_R none (mX V M mk rd dep tg q τ (XS ++ glL nu P own btw aft) rdc δ src P ar al pp))) 0 0 V.2.2.2.2 := by
  refine mv_Met (by decide) rfl (Nat.le_of_ble_eq_true rfl) (fun X hX B => ?_)
  subst hX
  replace B : mv_B X (kk V) c_Maker_writeGlobal ws_Maker_writeGlobal "FamilyRules$Maker" 5 (Option.none : Option Jvm.ClassFile.FieldType) (rM 3 0 0 80) "writeGlobal" := B
  obtain ⟨Q, hQ⟩ : ∃ Q, Q = mv_E X (kk V) (mv_R none (mX V M mk rd dep tg q τ (XS ++ glL nu P own btw aft) rdc δ src P ar al pp)) 0 0 := ⟨_, rfl⟩
  rw [← hQ]
  show mv_G X Q (kk V) 5 0 [(0, .ref mk), (1, .ref g), (2, .int (iI (own))), (3, .int (iI (btw))), (4, .int (iI (aft)))] [] (mX V M mk rd dep tg q τ XS rdc δ src P ar al pp) 0 0
  refine mv_aloadR_n B d_Maker_writeGlobal_0 rfl 0 rfl ?_
  refine mv_aloadR_n B d_Maker_writeGlobal_1 rfl 0 rfl ?_
  refine gf_Maker_36 B mW_mk rfl d_Maker_writeGlobal_2 ?_
  refine mv_iload_n B d_Maker_writeGlobal_5 rfl 2 rfl ?_
  refine mv_iadd B d_Maker_writeGlobal_6 ?_
  refine ca_Maker_93 (mc := 0) (ms := 0) (As := [.int (iI (P + own))]) (rest := []) B (m_Maker_putApplications hB hτ (n := P + own) (by omega) (by first | omega | (simp only [List.length_append, List.length_cons, List.length_nil, apL_len, vrL_len, cpL_len]; omega))) rfl rfl ⟨Nat.le_of_ble_eq_true rfl, Nat.le_of_ble_eq_true rfl⟩ mW_mk rfl rfl (Nat.le_of_ble_eq_true rfl) d_Maker_writeGlobal_7 ⟨by omega, by omega⟩ (mv_x ?_)
  show mv_G X Q (kk V) 5 10 [(0, .ref mk), (1, .ref g), (2, .int (iI (own))), (3, .int (iI (btw))), (4, .int (iI (aft)))] [] (mX V M mk rd dep tg q τ (XS ++ apL (Int.toNat (P + own))) rdc δ src P ar al pp) 0 0
  refine mv_aloadR_n B d_Maker_writeGlobal_10 rfl 0 rfl ?_
  refine mv_iconst (z := 1) B d_Maker_writeGlobal_11 rfl ?_
  refine mv_aloadR_n B d_Maker_writeGlobal_12 rfl 1 rfl ?_
  refine gf_Maker_118 B (mW_o hB hg (by decide) (by decide)) rfl d_Maker_writeGlobal_13 ?_
  refine mv_iconst (z := 0) B d_Maker_writeGlobal_16 rfl ?_
  refine ca_Maker_78 (mc := 0) (ms := 0) (As := [.int (iI (1)), .int (iI (nu)), .int (iI (0))]) (rest := []) B (m_Maker_put hB hτ (by first | omega | (simp only [List.length_append, List.length_cons, List.length_nil, apL_len, vrL_len, cpL_len]; omega))) rfl rfl ⟨Nat.le_of_ble_eq_true rfl, Nat.le_of_ble_eq_true rfl⟩ mW_mk rfl rfl (Nat.le_of_ble_eq_true rfl) d_Maker_writeGlobal_17 ⟨by omega, by omega⟩ (mv_x ?_)
  show mv_G X Q (kk V) 5 20 [(0, .ref mk), (1, .ref g), (2, .int (iI (own))), (3, .int (iI (btw))), (4, .int (iI (aft)))] [] (mX V M mk rd dep tg q τ (XS ++ apL (Int.toNat (P + own)) ++ [(1, nu, 0)]) rdc δ src P ar al pp) 0 0
  refine mv_aloadR_n B d_Maker_writeGlobal_20 rfl 0 rfl ?_
  refine mv_aloadR_n B d_Maker_writeGlobal_21 rfl 0 rfl ?_
  refine gf_Maker_36 B mW_mk rfl d_Maker_writeGlobal_22 ?_
  refine mv_iload_n B d_Maker_writeGlobal_25 rfl 3 rfl ?_
  refine mv_iadd B d_Maker_writeGlobal_26 ?_
  refine mv_iload_n B d_Maker_writeGlobal_27 rfl 2 rfl ?_
  refine mv_iadd B d_Maker_writeGlobal_28 ?_
  refine mv_iload B d_Maker_writeGlobal_29 4 rfl ?_
  refine mv_iadd B d_Maker_writeGlobal_31 ?_
  refine mv_iconst (z := 1) B d_Maker_writeGlobal_32 rfl ?_
  refine mv_isub B d_Maker_writeGlobal_33 ?_
  refine mv_aloadR_n B d_Maker_writeGlobal_34 rfl 0 rfl ?_
  refine gf_Maker_36 B mW_mk rfl d_Maker_writeGlobal_35 ?_
  refine ca_Maker_97 (mc := 0) (ms := 0) (As := [.int (iI ((((P + btw) + own) + aft) - 1)), .int (iI (P))]) (rest := []) B (m_Maker_putVariables hB hτ (v := (((P + btw) + own) + aft) - 1) (n := P) (by omega) (by first | omega | (simp only [List.length_append, List.length_cons, List.length_nil, apL_len, vrL_len, cpL_len]; omega))) rfl rfl ⟨Nat.le_of_ble_eq_true rfl, Nat.le_of_ble_eq_true rfl⟩ mW_mk rfl rfl (Nat.le_of_ble_eq_true rfl) d_Maker_writeGlobal_38 ⟨by omega, by omega⟩ (mv_x ?_)
  show mv_G X Q (kk V) 5 41 [(0, .ref mk), (1, .ref g), (2, .int (iI (own))), (3, .int (iI (btw))), (4, .int (iI (aft)))] [] (mX V M mk rd dep tg q τ (XS ++ apL (Int.toNat (P + own)) ++ [(1, nu, 0)] ++ vrL ((((P + btw) + own) + aft) - 1) (Int.toNat (P))) rdc δ src P ar al pp) 0 0
  refine mv_aloadR_n B d_Maker_writeGlobal_41 rfl 0 rfl ?_
  refine mv_iload_n B d_Maker_writeGlobal_42 rfl 2 rfl ?_
  refine mv_iload B d_Maker_writeGlobal_43 4 rfl ?_
  refine mv_iadd B d_Maker_writeGlobal_45 ?_
  refine mv_iconst (z := 1) B d_Maker_writeGlobal_46 rfl ?_
  refine mv_isub B d_Maker_writeGlobal_47 ?_
  refine mv_iload_n B d_Maker_writeGlobal_48 rfl 2 rfl ?_
  refine ca_Maker_97 (mc := 0) (ms := 0) (As := [.int (iI ((own + aft) - 1)), .int (iI (own))]) (rest := []) B (m_Maker_putVariables hB hτ (v := (own + aft) - 1) (n := own) (by omega) (by first | omega | (simp only [List.length_append, List.length_cons, List.length_nil, apL_len, vrL_len, cpL_len]; omega))) rfl rfl ⟨Nat.le_of_ble_eq_true rfl, Nat.le_of_ble_eq_true rfl⟩ mW_mk rfl rfl (Nat.le_of_ble_eq_true rfl) d_Maker_writeGlobal_49 ⟨by omega, by omega⟩ (mv_x ?_)
  show mv_G X Q (kk V) 5 52 [(0, .ref mk), (1, .ref g), (2, .int (iI (own))), (3, .int (iI (btw))), (4, .int (iI (aft)))] [] (mX V M mk rd dep tg q τ (XS ++ apL (Int.toNat (P + own)) ++ [(1, nu, 0)] ++ vrL ((((P + btw) + own) + aft) - 1) (Int.toNat (P)) ++ vrL ((own + aft) - 1) (Int.toNat (own))) rdc δ src P ar al pp) 0 0
  rw [hQ]
  exact mv_vret B ⟨rfl, by simp only [glL, List.append_assoc]⟩ (by omega) (by omega) d_Maker_writeGlobal_52
set_option maxRecDepth 100000 in
set_option maxHeartbeats 4000000 in
theorem m_Maker_open {l : Launch} {V : mv_V} {M : mv_M} {mk rd dep : Nat} {tg : Option Nat} {q : Q4} {τ : Tm} {XS : List Nd} {tm : Option Nat} {al0 fo0 ap0 : Int} {δ : Nat → Int} {src : Option Nat} {P ar al pp : Int} (hB : HB V M mk rd dep tg q) (hτ : τ.1 ≤ 1000) {h : Nat} {t : Tm} (hS : SrcOk V M dep tg q h t) {g : Nat} {nu ro pa ix ra ar9 rc : Int} {fa co : Option Nat} (hg : M g = some (.inr (2, [.int (iI nu), .int (iI ro), .int (iI pa), .int (iI ix), .int (iI ra), va_rf fa, va_rf co, .ref h, .int (iI ar9), .int (iI rc)]))) : Met l y_Maker_open ws_Maker_open (rM 3 0 0 80) (mv_Pre (kk V) [.ref mk, .ref g] (mX V M mk rd dep tg q τ XS (dC dep tm al0 fo0 ap0) δ src P ar al pp)) (mv_Q (kk V) (mv_R (some (.int (iI 1))) (mX V M mk rd dep tg q τ XS (dC dep tm al0 fo0 ap0) (opD tg t δ) (some h) pa ar al pp))) 0 0 V.2.2.2.2 := by
  refine mv_Met (by decide) rfl (Nat.le_of_ble_eq_true rfl) (fun X hX B => ?_)
  subst hX
  replace B : mv_B X (kk V) c_Maker_open ws_Maker_open "FamilyRules$Maker" 2 (Option.some Jvm.ClassFile.FieldType.boolean) (rM 3 0 0 80) "open" := B
  obtain ⟨Q, hQ⟩ : ∃ Q, Q = mv_E X (kk V) (mv_R (some (.int (iI 1))) (mX V M mk rd dep tg q τ XS (dC dep tm al0 fo0 ap0) (opD tg t δ) (some h) pa ar al pp)) 0 0 := ⟨_, rfl⟩
  rw [← hQ]
  show mv_G X Q (kk V) 2 0 [(0, .ref mk), (1, .ref g)] [] (mX V M mk rd dep tg q τ XS (dC dep tm al0 fo0 ap0) δ src P ar al pp) 0 0
  refine mv_aloadR_n B d_Maker_open_0 rfl 1 rfl ?_
  refine gf_Maker_121 B (mW_o hB hg (by decide) (by decide)) rfl d_Maker_open_1 ?_
  refine mv_ifnonnullR (tgt := 9) B d_Maker_open_4 (by decide) ?_
  refine mv_aloadR_n B d_Maker_open_9 rfl 0 rfl ?_
  refine mv_aloadR_n B d_Maker_open_10 rfl 1 rfl ?_
  refine gf_Maker_121 B (mW_o hB hg (by decide) (by decide)) rfl d_Maker_open_11 ?_
  refine pf_Maker_33 B mW_mk rfl rfl (Nat.le_of_ble_eq_true rfl) d_Maker_open_14 ?_
  rw [mW_upm]
  show mv_G X Q (kk V) 2 17 [(0, .ref mk), (1, .ref g)] [] (mX V M mk rd dep tg q τ XS (dC dep tm al0 fo0 ap0) δ (some h) P ar al pp) 0 0
  refine mv_aloadR_n B d_Maker_open_17 rfl 0 rfl ?_
  refine mv_aloadR_n B d_Maker_open_18 rfl 1 rfl ?_
  refine gf_Maker_124 B (mW_o hB hg (by decide) (by decide)) rfl d_Maker_open_19 ?_
  refine pf_Maker_36 B mW_mk rfl rfl (Nat.le_of_ble_eq_true rfl) d_Maker_open_22 ?_
  rw [mW_upm]
  show mv_G X Q (kk V) 2 25 [(0, .ref mk), (1, .ref g)] [] (mX V M mk rd dep tg q τ XS (dC dep tm al0 fo0 ap0) δ (some h) pa ar al pp) 0 0
  refine mv_aloadR_n B d_Maker_open_25 rfl 0 rfl ?_
  refine gf_Maker_15 B mW_mk rfl d_Maker_open_26 ?_
  refine mv_ifnull (tgt := 43) B d_Maker_open_29 (by decide) (fun c1 => ?_) (fun a2 c1 => ?_)
  · refine mv_iconst (z := 1) B d_Maker_open_43 rfl ?_
    rw [hQ]
    exact mv_zret B rfl ⟨rfl, by rw [c1]; rfl⟩ (by omega) (by omega) d_Maker_open_44
  · refine mv_aloadR_n B d_Maker_open_32 rfl 0 rfl ?_
    refine gf_Maker_9 B mW_mk rfl d_Maker_open_33 ?_
    refine mv_aloadR_n B d_Maker_open_36 rfl 0 rfl ?_
    refine gf_Maker_33 B mW_mk rfl d_Maker_open_37 ?_
    refine ca_Maker_125 (mc := 0) (ms := 0) (As := [.ref h]) (rest := []) B (m_Reader_readDepths (mW_rd hB) (mW_dep hB) (hS.at hB) hS.2.1 (SrcOk_D hS hB)) rfl rfl ⟨Nat.le_of_ble_eq_true rfl, Nat.le_of_ble_eq_true rfl⟩ (mW_rd hB) rfl rfl (Nat.le_of_ble_eq_true rfl) d_Maker_open_40 ⟨by omega, by omega⟩ (mv_x ?_)
    rw [mW_upd hB]
    show mv_G X Q (kk V) 2 43 [(0, .ref mk), (1, .ref g)] [] (mX V M mk rd dep tg q τ XS (dC dep tm al0 fo0 ap0) (dpW t δ t.1) (some h) pa ar al pp) 0 0
    refine mv_iconst (z := 1) B d_Maker_open_43 rfl ?_
    rw [hQ]
    exact mv_zret B rfl ⟨rfl, by rw [c1]; rfl⟩ (by omega) (by omega) d_Maker_open_44
set_option maxRecDepth 100000 in
set_option maxHeartbeats 4000000 in
theorem m_Maker_writeAlls {l : Launch} {V : mv_V} {M : mv_M} {mk rd dep : Nat} {tg : Option Nat} {q : Q4} {τ : Tm} {XS : List Nd} {tm : Option Nat} {al0 fo0 ap0 : Int} {δ : Nat → Int} {P ar al pp : Int} (hB : HB V M mk rd dep tg q) (hτ : τ.1 ≤ 1000) {h : Nat} {t : Tm} (hS : SrcOk V M dep tg q h t) (hδ : ∀ i : Int, Sm (dgt δ i)) {f n outer : Int} (hf : 0 ≤ f ∧ f ≤ 1000000) (hn : 0 ≤ n ∧ n ≤ 1000) (hP : 0 ≤ P ∧ P ≤ 1000000) (hX : XS.length ≤ 500000000) : Met l y_Maker_writeAlls ws_Maker_writeAlls (rM 3 0 0 80) (mv_Pre (kk V) [.ref mk, .int (iI (f)), .int (iI (n)), .int (iI (outer))] (mX V M mk rd dep tg q τ XS (dC dep tm al0 fo0 ap0) δ (some h) P ar al pp)) (mv_Q (kk V) (fun v M' => v = none ∧ ∃ ar1 al1 pp1 : Int, M' = mX V M mk rd dep tg q τ (XS ++ alL t δ P outer f n.toNat) (dC dep tm al0 fo0 ap0) δ (some h) P ar1 al1 pp1)) 0 0 V.2.2.2.2 := by
  refine mv_Met (by decide) rfl (Nat.le_of_ble_eq_true rfl) (fun X hX B => ?_)
  subst hX
  replace B : mv_B X (kk V) c_Maker_writeAlls ws_Maker_writeAlls "FamilyRules$Maker" 7 (Option.none : Option Jvm.ClassFile.FieldType) (rM 3 0 0 80) "writeAlls" := B
  obtain ⟨Q, hQ⟩ : ∃ Q, Q = mv_E X (kk V) (fun v M' => v = none ∧ ∃ ar1 al1 pp1 : Int, M' = mX V M mk rd dep tg q τ (XS ++ alL t δ P outer f n.toNat) (dC dep tm al0 fo0 ap0) δ (some h) P ar1 al1 pp1) 0 0 := ⟨_, rfl⟩
  rw [← hQ]
  show mv_G X Q (kk V) 7 0 [(0, .ref mk), (1, .int (iI (f))), (2, .int (iI (n))), (3, .int (iI (outer)))] [] (mX V M mk rd dep tg q τ XS (dC dep tm al0 fo0 ap0) δ (some h) P ar al pp) 0 0
  refine mv_iload_n B d_Maker_writeAlls_0 rfl 1 rfl ?_
  refine mv_istore (lv' := [(4, .int (iI (f))), (0, .ref mk), (1, .int (iI (f))), (2, .int (iI (n))), (3, .int (iI (outer)))]) B d_Maker_writeAlls_1 (by decide) rfl ?_
  refine mv_iconst (z := 0) B d_Maker_writeAlls_3 rfl ?_
  refine mv_istore (lv' := [(5, .int (iI (0))), (4, .int (iI (f))), (0, .ref mk), (1, .int (iI (f))), (2, .int (iI (n))), (3, .int (iI (outer)))]) B d_Maker_writeAlls_4 (by decide) rfl ?_
  have L6 : ∀ (fu : Nat) (i : Nat) (ar1 : Int) (al1 : Int) (pp1 : Int), ((i : Int) ≤ n) → (n.toNat - i) < fu → mv_G X Q (kk V) 7 6 [(5, .int (iI ((i : Nat)))), (4, .int (iI (beR t f i))), (0, .ref mk), (1, .int (iI (f))), (2, .int (iI (n))), (3, .int (iI (outer)))] [] (mX V M mk rd dep tg q τ (XS ++ alL t δ P outer f i) (dC dep tm al0 fo0 ap0) δ (some h) P ar1 al1 pp1) 0 0 := by
    intro fu
    induction fu with
    | zero => intro i ar1 al1 pp1 hi hm; exact absurd hm (Nat.not_lt_zero _)
    | succ fu ih6 =>
      intro i ar1 al1 pp1 hi hm
      have hb1 := beR_r hS.2.1 f i
      have hd1 := dAt_r hS.2.1 (beR t f i + 1)
      have hl1 := alL_len hS.2.1 δ P outer f i
      have hs1 : scd t (beR t f i) = beR t f i + 1 + dAt t (beR t f i + 1) := rfl
      refine mv_iload B d_Maker_writeAlls_6 0 rfl ?_
      refine mv_iload_n B d_Maker_writeAlls_8 rfl 4 rfl ?_
      refine mv_icmp_ge (tgt := 72) B d_Maker_writeAlls_9 (by decide) (by omega) (by omega) (fun c1 => ?_) (fun c1 => ?_)
      · rw [hQ]
        exact mv_vret B ⟨rfl, ar1, al1, pp1, by rw [show n.toNat = i by omega]⟩ (by omega) (by omega) d_Maker_writeAlls_72
      · refine mv_aloadR_n B d_Maker_writeAlls_12 rfl 2 rfl ?_
        refine mv_bipush (z := 6) B d_Maker_writeAlls_13 (by decide) ?_
        refine mv_aloadR_n B d_Maker_writeAlls_15 rfl 2 rfl ?_
        refine gf_Maker_33 B mW_mk rfl d_Maker_writeAlls_16 ?_
        refine mv_iload B d_Maker_writeAlls_19 1 rfl ?_
        refine ca_Maker_115 (mc := 0) (ms := 0) (As := [.int (iI (beR t f i))]) (rest := [.int (iI (6)), .ref mk]) B (m_Term_numberAt (hS.at hB) hS.2.1 (i := beR t f i) (by omega)) rfl rfl ⟨Nat.le_of_ble_eq_true rfl, Nat.le_of_ble_eq_true rfl⟩ (hS.obj hB).choose_spec rfl rfl (Nat.le_of_ble_eq_true rfl) d_Maker_writeAlls_21 ⟨by omega, by omega⟩ (mv_x ?_)
        show mv_G X Q (kk V) 7 24 [(5, .int (iI ((i : Nat)))), (4, .int (iI (beR t f i))), (0, .ref mk), (1, .int (iI (f))), (2, .int (iI (n))), (3, .int (iI (outer)))] [.int (iI (uAt t (beR t f i))), .int (iI (6)), .ref mk] (mX V M mk rd dep tg q τ (XS ++ alL t δ P outer f i) (dC dep tm al0 fo0 ap0) δ (some h) P ar1 al1 pp1) 0 0
        refine mv_iconst (z := 0) B d_Maker_writeAlls_24 rfl ?_
        refine ca_Maker_78 (mc := 0) (ms := 0) (As := [.int (iI (6)), .int (iI (uAt t (beR t f i))), .int (iI (0))]) (rest := []) B (m_Maker_put hB hτ (by first | omega | (simp only [List.length_append, List.length_cons, List.length_nil, apL_len, vrL_len, cpL_len]; omega))) rfl rfl ⟨Nat.le_of_ble_eq_true rfl, Nat.le_of_ble_eq_true rfl⟩ mW_mk rfl rfl (Nat.le_of_ble_eq_true rfl) d_Maker_writeAlls_25 ⟨by omega, by omega⟩ (mv_x ?_)
        show mv_G X Q (kk V) 7 28 [(5, .int (iI ((i : Nat)))), (4, .int (iI (beR t f i))), (0, .ref mk), (1, .int (iI (f))), (2, .int (iI (n))), (3, .int (iI (outer)))] [] (mX V M mk rd dep tg q τ ((XS ++ alL t δ P outer f i) ++ [(6, uAt t (beR t f i), 0)]) (dC dep tm al0 fo0 ap0) δ (some h) P ar1 al1 pp1) 0 0
        refine mv_aloadR_n B d_Maker_writeAlls_28 rfl 2 rfl ?_
        refine gf_Maker_33 B mW_mk rfl d_Maker_writeAlls_29 ?_
        refine mv_iload B d_Maker_writeAlls_32 1 rfl ?_
        refine ca_Maker_66 (mc := 0) (ms := 0) (As := [.int (iI (beR t f i))]) (rest := []) B (m_Term_secondOf (hS.at hB) hS.2.1 (i := beR t f i) (by omega)) rfl rfl ⟨Nat.le_of_ble_eq_true rfl, Nat.le_of_ble_eq_true rfl⟩ (hS.obj hB).choose_spec rfl rfl (Nat.le_of_ble_eq_true rfl) d_Maker_writeAlls_34 ⟨by omega, by omega⟩ (mv_x ?_)
        show mv_G X Q (kk V) 7 37 [(5, .int (iI ((i : Nat)))), (4, .int (iI (beR t f i))), (0, .ref mk), (1, .int (iI (f))), (2, .int (iI (n))), (3, .int (iI (outer)))] [.int (iI (scd t (beR t f i)))] (mX V M mk rd dep tg q τ ((XS ++ alL t δ P outer f i) ++ [(6, uAt t (beR t f i), 0)]) (dC dep tm al0 fo0 ap0) δ (some h) P ar1 al1 pp1) 0 0
        refine mv_istore (lv' := [(6, .int (iI (scd t (beR t f i)))), (5, .int (iI ((i : Nat)))), (4, .int (iI (beR t f i))), (0, .ref mk), (1, .int (iI (f))), (2, .int (iI (n))), (3, .int (iI (outer)))]) B d_Maker_writeAlls_37 (by decide) rfl ?_
        refine mv_aloadR_n B d_Maker_writeAlls_39 rfl 3 rfl ?_
        refine mv_aloadR_n B d_Maker_writeAlls_40 rfl 3 rfl ?_
        refine gf_Maker_36 B mW_mk rfl d_Maker_writeAlls_41 ?_
        refine mv_iload B d_Maker_writeAlls_44 1 rfl ?_
        refine mv_iadd B d_Maker_writeAlls_46 ?_
        refine mv_iconst (z := 0) B d_Maker_writeAlls_47 rfl ?_
        refine mv_iload_n B d_Maker_writeAlls_48 rfl 6 rfl ?_
        refine ca_Maker_58 (mc := 0) (ms := 0) (As := [.int (iI (P + (i : Nat))), .int (iI (0)), .int (iI (outer))]) (rest := []) B (m_Maker_lift hB hτ) rfl rfl ⟨Nat.le_of_ble_eq_true rfl, Nat.le_of_ble_eq_true rfl⟩ mW_mk rfl rfl (Nat.le_of_ble_eq_true rfl) d_Maker_writeAlls_49 ⟨by omega, by omega⟩ (mv_x ?_)
        show mv_G X Q (kk V) 7 52 [(6, .int (iI (scd t (beR t f i)))), (5, .int (iI ((i : Nat)))), (4, .int (iI (beR t f i))), (0, .ref mk), (1, .int (iI (f))), (2, .int (iI (n))), (3, .int (iI (outer)))] [] (mX V M mk rd dep tg q τ ((XS ++ alL t δ P outer f i) ++ [(6, uAt t (beR t f i), 0)]) (dC dep tm al0 fo0 ap0) δ (some h) P (P + (i : Nat)) 0 outer) 0 0
        refine mv_aloadR_n B d_Maker_writeAlls_52 rfl 3 rfl ?_
        refine mv_iload B d_Maker_writeAlls_53 2 rfl ?_
        refine mv_iconst (z := 1) B d_Maker_writeAlls_55 rfl ?_
        refine mv_iadd B d_Maker_writeAlls_56 ?_
        refine mv_iload B d_Maker_writeAlls_57 0 rfl ?_
        refine ca_Maker_109 (mc := 0) (ms := 0) (As := [.int (iI ((beR t f i) + 1)), .int (iI (scd t (beR t f i)))]) (rest := []) B (m_Maker_copy hB hτ hS hδ (b := (beR t f i) + 1) (e := scd t (beR t f i)) (by omega) (by omega) (by omega) (by omega) (by first | omega | (simp only [List.length_append, List.length_cons, List.length_nil, apL_len, vrL_len, cpL_len]; omega))) rfl rfl ⟨Nat.le_of_ble_eq_true rfl, Nat.le_of_ble_eq_true rfl⟩ mW_mk rfl rfl (Nat.le_of_ble_eq_true rfl) d_Maker_writeAlls_59 ⟨by omega, by omega⟩ (mv_x ?_)
        show mv_G X Q (kk V) 7 62 [(6, .int (iI (scd t (beR t f i)))), (5, .int (iI ((i : Nat)))), (4, .int (iI (beR t f i))), (0, .ref mk), (1, .int (iI (f))), (2, .int (iI (n))), (3, .int (iI (outer)))] [] (mX V M mk rd dep tg q τ ((XS ++ alL t δ P outer f i) ++ [(6, uAt t (beR t f i), 0)] ++ cpL t δ P (P + (i : Nat)) 0 outer ((beR t f i) + 1) (Int.toNat (scd t (beR t f i) - ((beR t f i) + 1)))) (dC dep tm al0 fo0 ap0) δ (some h) P (P + (i : Nat)) 0 outer) 0 0
        refine mv_iload B d_Maker_writeAlls_62 0 rfl ?_
        refine mv_istore (lv' := [(4, .int (iI (scd t (beR t f i)))), (6, .int (iI (scd t (beR t f i)))), (5, .int (iI ((i : Nat)))), (0, .ref mk), (1, .int (iI (f))), (2, .int (iI (n))), (3, .int (iI (outer)))]) B d_Maker_writeAlls_64 (by decide) rfl ?_
        refine mv_iinc (lv' := [(5, .int (iI ((i : Nat) + 1))), (4, .int (iI (scd t (beR t f i)))), (6, .int (iI (scd t (beR t f i)))), (0, .ref mk), (1, .int (iI (f))), (2, .int (iI (n))), (3, .int (iI (outer)))]) B d_Maker_writeAlls_66 2 rfl (by decide) rfl ?_
        refine mv_goto (tgt := 6) B d_Maker_writeAlls_69 (by decide) ?_
        refine mv_lv (lv' := [(5, .int (iI (((i + 1) : Nat)))), (4, .int (iI (beR t f (i + 1)))), (0, .ref mk), (1, .int (iI (f))), (2, .int (iI (n))), (3, .int (iI (outer)))]) [0, 1, 3, 4, 5, 6] (lc (lI (by first | rfl | omega)) (lc (lI (by first | rfl | omega)) (lc rfl (lc rfl (lc rfl (lc rfl rfl)))))) ?_
        rw [show (XS ++ alL t δ P outer f i) ++ [(6, uAt t (beR t f i), 0)] ++ cpL t δ P (P + (i : Nat)) 0 outer ((beR t f i) + 1) (Int.toNat (scd t (beR t f i) - ((beR t f i) + 1))) = (XS ++ alL t δ P outer f (i + 1)) from (by simp only [alL, List.append_assoc]; rw [show (scd t (beR t f i) - (beR t f i + 1)) = dAt t (beR t f i + 1) by omega])]
        exact ih6 (i + 1) (P + (i : Nat)) 0 outer (by omega) (by omega)
  refine mv_lv (lv' := [(5, .int (iI ((0 : Nat)))), (4, .int (iI (beR t f 0))), (0, .ref mk), (1, .int (iI (f))), (2, .int (iI (n))), (3, .int (iI (outer)))]) [0, 1, 2, 3, 4, 5] (lc (lI (by first | rfl | omega)) (lc (lI (by first | rfl | omega)) (lc rfl (lc rfl (lc rfl (lc rfl rfl)))))) ?_
  rw [show (XS : List Nd) = XS ++ alL t δ P outer f 0 from (by simp [alL])]
  exact L6 _ 0 ar al pp (by omega) (Nat.lt_succ_self _)
