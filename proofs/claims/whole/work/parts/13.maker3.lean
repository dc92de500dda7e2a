/-! which arguments are recursive, by the reader's eyes; P and pa are the constructor's and the family's parameters -/
def rPos (t : Tm) (P : Int) (j : Nat) : Int := beR t (beh t P.toNat) j + 1
def isR (t : Tm) (nu pa ix P : Int) (j : Nat) : Bool := isPB t nu pa ix (beR t (rPos t P j) (allN t 1000 (rPos t P j))) (appN t 1000 (beR t (rPos t P j) (allN t 1000 (rPos t P j)))) (P + (j : Nat) + (allN t 1000 (rPos t P j) : Nat) - 1)
def rcN (t : Tm) (nu pa ix P : Int) : Nat → Nat
  | 0 => 0
  | j + 1 => rcN t nu pa ix P j + (if isR t nu pa ix P j = true then 1 else 0)
theorem rcN_mono (t : Tm) (nu pa ix P : Int) {a b : Nat} (h : a ≤ b) : rcN t nu pa ix P a ≤ rcN t nu pa ix P b := by
  induction b with
  | zero => rw [show a = 0 by omega]; exact Nat.le_refl _
  | succ b ih =>
    by_cases e : a = b + 1
    · rw [e]; exact Nat.le_refl _
    · have := ih (by omega)
      simp only [rcN]
      omega
theorem rcN_le (t : Tm) (nu pa ix P : Int) : ∀ j, rcN t nu pa ix P j ≤ j
  | 0 => Nat.le_refl _
  | j + 1 => by
    have := rcN_le t nu pa ix P j
    simp only [rcN]
    split <;> omega
theorem rPos_r {t : Tm} (ho : Tok t) {P : Int} (hP : 0 ≤ P ∧ P ≤ 1000) {j : Nat} (hj : j ≤ 1000) : 0 ≤ rPos t P j ∧ rPos t P j ≤ 2003000 := by
  have h1 := beh_r ho P.toNat
  have h2 := beR_r ho (beh t P.toNat) j
  unfold rPos
  omega
/-! Maker: what an argument brings, the type of a rec -/
set_option maxRecDepth 100000 in
set_option maxHeartbeats 4000000 in
theorem m_Maker_writeBrought {l : Launch} {V : mv_V} {M : mv_M} {mk rd dep : Nat} {tg : Option Nat} {q : Q4} {τ : Tm} {XS : List Nd} {ys ap : Nat} {fo0 : Int} {δ : Nat → Int} {P ar al pp : Int} (hB : HB V M mk rd dep tg q) (hτ : τ.1 ≤ 1000) {h : Nat} {t : Tm} (hS : SrcOk V M dep tg q h t) (hδ : ∀ i : Int, Sm (dgt δ i)) {g : Nat} {nu ro pa ix ra ar9 rc : Int} {fa co tl : Option Nat} (hg : M g = some (.inr (2, [.int (iI nu), .int (iI ro), .int (iI pa), .int (iI ix), .int (iI ra), va_rf fa, va_rf co, va_rf tl, .int (iI ar9), .int (iI rc)]))) {k b v u : Int} (hys : ys ≤ 1000) (hap : ap ≤ 1000) (hfo : 0 ≤ fo0 ∧ fo0 ≤ 9000000) (hpa : 0 ≤ pa ∧ pa ≤ 1000) (hix : 0 ≤ ix ∧ ix ≤ 1000) (hb : 0 ≤ b ∧ b ≤ 5000000) (rP : R32 P ∧ R32 ar) (hl : (fo0 + (ap : Nat) + 1 + pa) ≤ fo0 + dAt t fo0) (hX : XS.length ≤ 400000000) : Met l y_Maker_writeBrought ws_Maker_writeBrought (rM 3 0 0 90) (mv_Pre (kk V) [.ref mk, .ref g, .int (iI (k)), .int (iI (b)), .int (iI (v)), .int (iI (u))] (mX V M mk rd dep tg q τ XS (dC dep (some h) (ys : Nat) fo0 (ap : Nat)) δ (some h) P ar al pp)) (mv_Q (kk V) (mv_R none (mX V M mk rd dep tg q τ (XS ++ brL t δ P ar al pp k ix b v u ys (fo0 + (ap : Nat) + 1 + pa) (Int.toNat (fo0 + dAt t fo0 - (fo0 + (ap : Nat) + 1 + pa)))) (dC dep (some h) (ys : Nat) fo0 (ap : Nat)) δ (some h) P ar al pp))) 0 0 V.2.2.2.2 := by
  refine mv_Met (by decide) rfl (Nat.le_of_ble_eq_true rfl) (fun X hX B => ?_)
  subst hX
  replace B : mv_B X (kk V) c_Maker_writeBrought ws_Maker_writeBrought "FamilyRules$Maker" 10 (Option.none : Option Jvm.ClassFile.FieldType) (rM 3 0 0 90) "writeBrought" := B
  obtain ⟨Q, hQ⟩ : ∃ Q, Q = mv_E X (kk V) (mv_R none (mX V M mk rd dep tg q τ (XS ++ brL t δ P ar al pp k ix b v u ys (fo0 + (ap : Nat) + 1 + pa) (Int.toNat (fo0 + dAt t fo0 - (fo0 + (ap : Nat) + 1 + pa)))) (dC dep (some h) (ys : Nat) fo0 (ap : Nat)) δ (some h) P ar al pp)) 0 0 := ⟨_, rfl⟩
  rw [← hQ]
  show mv_G X Q (kk V) 10 0 [(0, .ref mk), (1, .ref g), (2, .int (iI (k))), (3, .int (iI (b))), (4, .int (iI (v))), (5, .int (iI (u)))] [] (mX V M mk rd dep tg q τ XS (dC dep (some h) (ys : Nat) fo0 (ap : Nat)) δ (some h) P ar al pp) 0 0
  have hdf := dAt_r hS.2.1 fo0
  refine mv_aloadR_n B d_Maker_writeBrought_0 rfl 0 rfl ?_
  refine gf_Maker_9 B mW_mk rfl d_Maker_writeBrought_1 ?_
  refine gf_Maker_112 B (mW_rd hB) rfl d_Maker_writeBrought_4 ?_
  refine mv_istore (lv' := [(6, .int (iI ((ys : Nat)))), (0, .ref mk), (1, .ref g), (2, .int (iI (k))), (3, .int (iI (b))), (4, .int (iI (v))), (5, .int (iI (u)))]) B d_Maker_writeBrought_7 (by decide) rfl ?_
  refine mv_iload_n B d_Maker_writeBrought_9 rfl 4 rfl ?_
  refine mv_istore (lv' := [(7, .int (iI (b))), (6, .int (iI ((ys : Nat)))), (0, .ref mk), (1, .ref g), (2, .int (iI (k))), (3, .int (iI (b))), (4, .int (iI (v))), (5, .int (iI (u)))]) B d_Maker_writeBrought_10 (by decide) rfl ?_
  refine mv_iconst (z := 0) B d_Maker_writeBrought_12 rfl ?_
  refine mv_istore (lv' := [(8, .int (iI (0))), (7, .int (iI (b))), (6, .int (iI ((ys : Nat)))), (0, .ref mk), (1, .ref g), (2, .int (iI (k))), (3, .int (iI (b))), (4, .int (iI (v))), (5, .int (iI (u)))]) B d_Maker_writeBrought_13 (by decide) rfl ?_
  have L15 : ∀ (fu : Nat) (i : Nat), (i ≤ ys) → (ys - i) < fu → mv_G X Q (kk V) 10 15 [(8, .int (iI ((i : Nat)))), (7, .int (iI (beR t b i))), (6, .int (iI ((ys : Nat)))), (0, .ref mk), (1, .ref g), (2, .int (iI (k))), (3, .int (iI (b))), (4, .int (iI (v))), (5, .int (iI (u)))] [] (mX V M mk rd dep tg q τ (XS ++ bnL t δ P ar al pp k b i) (dC dep (some h) (ys : Nat) fo0 (ap : Nat)) δ (some h) P ar al pp) 0 0 := by
    intro fu
    induction fu with
    | zero => intro i hi hm; exact absurd hm (Nat.not_lt_zero _)
    | succ fu ih15 =>
      intro i hi hm
      have hb1 := beR_r hS.2.1 b i
      have hd1 := dAt_r hS.2.1 (beR t b i + 1)
      have hl1 := bnL_len hS.2.1 δ P ar al pp k b i
      have hs1 : scd t (beR t b i) = beR t b i + 1 + dAt t (beR t b i + 1) := rfl
      refine mv_iload B d_Maker_writeBrought_15 0 rfl ?_
      refine mv_iload B d_Maker_writeBrought_17 2 rfl ?_
      refine mv_icmp_ge (tgt := 68) B d_Maker_writeBrought_19 (by decide) (by omega) (by omega) (fun c1 => ?_) (fun c1 => ?_)
      · refine mv_aloadR_n B d_Maker_writeBrought_68 rfl 3 rfl ?_
        refine mv_aloadR_n B d_Maker_writeBrought_69 rfl 4 rfl ?_
        refine gf_Maker_69 B (mW_o hB hg (by decide) (by decide)) rfl d_Maker_writeBrought_70 ?_
        refine mv_iconst (z := 1) B d_Maker_writeBrought_73 rfl ?_
        refine mv_iadd B d_Maker_writeBrought_74 ?_
        refine ca_Maker_93 (mc := 0) (ms := 0) (As := [.int (iI (ix + 1))]) (rest := []) B (m_Maker_putApplications hB hτ (n := ix + 1) (by omega) (by first | omega | (simp only [List.length_append, List.length_cons, List.length_nil, apL_len, vrL_len, cpL_len]; omega))) rfl rfl ⟨Nat.le_of_ble_eq_true rfl, Nat.le_of_ble_eq_true rfl⟩ mW_mk rfl rfl (Nat.le_of_ble_eq_true rfl) d_Maker_writeBrought_75 ⟨by omega, by omega⟩ (mv_x ?_)
        show mv_G X Q (kk V) 10 78 [(8, .int (iI ((i : Nat)))), (7, .int (iI (beR t b i))), (6, .int (iI ((ys : Nat)))), (0, .ref mk), (1, .ref g), (2, .int (iI (k))), (3, .int (iI (b))), (4, .int (iI (v))), (5, .int (iI (u)))] [] (mX V M mk rd dep tg q τ ((XS ++ bnL t δ P ar al pp k b i) ++ apL (Int.toNat (ix + 1))) (dC dep (some h) (ys : Nat) fo0 (ap : Nat)) δ (some h) P ar al pp) 0 0
        refine mv_aloadR_n B d_Maker_writeBrought_78 rfl 3 rfl ?_
        refine mv_iconst (z := 0) B d_Maker_writeBrought_79 rfl ?_
        refine mv_iload B d_Maker_writeBrought_80 7 rfl ?_
        refine mv_iload B d_Maker_writeBrought_82 2 rfl ?_
        refine mv_iadd B d_Maker_writeBrought_84 ?_
        refine mv_iconst (z := 0) B d_Maker_writeBrought_85 rfl ?_
        refine ca_Maker_78 (mc := 0) (ms := 0) (As := [.int (iI (0)), .int (iI (v + (ys : Nat))), .int (iI (0))]) (rest := []) B (m_Maker_put hB hτ (by first | omega | (simp only [List.length_append, List.length_cons, List.length_nil, apL_len, vrL_len, cpL_len]; omega))) rfl rfl ⟨Nat.le_of_ble_eq_true rfl, Nat.le_of_ble_eq_true rfl⟩ mW_mk rfl rfl (Nat.le_of_ble_eq_true rfl) d_Maker_writeBrought_86 ⟨by omega, by omega⟩ (mv_x ?_)
        show mv_G X Q (kk V) 10 89 [(8, .int (iI ((i : Nat)))), (7, .int (iI (beR t b i))), (6, .int (iI ((ys : Nat)))), (0, .ref mk), (1, .ref g), (2, .int (iI (k))), (3, .int (iI (b))), (4, .int (iI (v))), (5, .int (iI (u)))] [] (mX V M mk rd dep tg q τ ((XS ++ bnL t δ P ar al pp k b i) ++ apL (Int.toNat (ix + 1)) ++ [(0, v + (ys : Nat), 0)]) (dC dep (some h) (ys : Nat) fo0 (ap : Nat)) δ (some h) P ar al pp) 0 0
        refine mv_aloadR_n B d_Maker_writeBrought_89 rfl 3 rfl ?_
        refine mv_aloadR_n B d_Maker_writeBrought_90 rfl 3 rfl ?_
        refine gf_Maker_9 B mW_mk rfl d_Maker_writeBrought_91 ?_
        refine mv_aloadR_n B d_Maker_writeBrought_94 rfl 4 rfl ?_
        refine ca_Maker_101 (mc := 0) (ms := 0) (As := [.ref g]) (rest := [.ref mk]) B (m_Reader_lastTerms (fa := fa) (co := co) (tl := tl) (mW_rd hB) (mW_o hB hg (by decide) (by decide))) rfl rfl ⟨Nat.le_of_ble_eq_true rfl, Nat.le_of_ble_eq_true rfl⟩ (mW_rd hB) rfl rfl (Nat.le_of_ble_eq_true rfl) d_Maker_writeBrought_95 ⟨by omega, by omega⟩ (mv_x ?_)
        show mv_G X Q (kk V) 10 98 [(8, .int (iI ((i : Nat)))), (7, .int (iI (beR t b i))), (6, .int (iI ((ys : Nat)))), (0, .ref mk), (1, .ref g), (2, .int (iI (k))), (3, .int (iI (b))), (4, .int (iI (v))), (5, .int (iI (u)))] [.int (iI (fo0 + (ap : Nat) + 1 + pa)), .ref mk] (mX V M mk rd dep tg q τ ((XS ++ bnL t δ P ar al pp k b i) ++ apL (Int.toNat (ix + 1)) ++ [(0, v + (ys : Nat), 0)]) (dC dep (some h) (ys : Nat) fo0 (ap : Nat)) δ (some h) P ar al pp) 0 0
        refine mv_aloadR_n B d_Maker_writeBrought_98 rfl 3 rfl ?_
        refine gf_Maker_9 B mW_mk rfl d_Maker_writeBrought_99 ?_
        refine ca_Maker_105 (mc := 0) (ms := 0) (As := []) (rest := [.int (iI (fo0 + (ap : Nat) + 1 + pa)), .ref mk]) B (m_Reader_end (mW_rd hB) (hS.at hB) hS.2.1 (by omega)) rfl rfl ⟨Nat.le_of_ble_eq_true rfl, Nat.le_of_ble_eq_true rfl⟩ (mW_rd hB) rfl rfl (Nat.le_of_ble_eq_true rfl) d_Maker_writeBrought_102 ⟨by omega, by omega⟩ (mv_x ?_)
        show mv_G X Q (kk V) 10 105 [(8, .int (iI ((i : Nat)))), (7, .int (iI (beR t b i))), (6, .int (iI ((ys : Nat)))), (0, .ref mk), (1, .ref g), (2, .int (iI (k))), (3, .int (iI (b))), (4, .int (iI (v))), (5, .int (iI (u)))] [.int (iI (fo0 + dAt t fo0)), .int (iI (fo0 + (ap : Nat) + 1 + pa)), .ref mk] (mX V M mk rd dep tg q τ ((XS ++ bnL t δ P ar al pp k b i) ++ apL (Int.toNat (ix + 1)) ++ [(0, v + (ys : Nat), 0)]) (dC dep (some h) (ys : Nat) fo0 (ap : Nat)) δ (some h) P ar al pp) 0 0
        refine ca_Maker_109 (mc := 0) (ms := 0) (As := [.int (iI (fo0 + (ap : Nat) + 1 + pa)), .int (iI (fo0 + dAt t fo0))]) (rest := []) B (m_Maker_copy hB hτ hS hδ (b := fo0 + (ap : Nat) + 1 + pa) (e := fo0 + dAt t fo0) (by omega) (by omega) (by omega) (by omega) (by first | omega | (simp only [List.length_append, List.length_cons, List.length_nil, apL_len, vrL_len, cpL_len]; omega))) rfl rfl ⟨Nat.le_of_ble_eq_true rfl, Nat.le_of_ble_eq_true rfl⟩ mW_mk rfl rfl (Nat.le_of_ble_eq_true rfl) d_Maker_writeBrought_105 ⟨by omega, by omega⟩ (mv_x ?_)
        show mv_G X Q (kk V) 10 108 [(8, .int (iI ((i : Nat)))), (7, .int (iI (beR t b i))), (6, .int (iI ((ys : Nat)))), (0, .ref mk), (1, .ref g), (2, .int (iI (k))), (3, .int (iI (b))), (4, .int (iI (v))), (5, .int (iI (u)))] [] (mX V M mk rd dep tg q τ ((XS ++ bnL t δ P ar al pp k b i) ++ apL (Int.toNat (ix + 1)) ++ [(0, v + (ys : Nat), 0)] ++ cpL t δ P ar al pp (fo0 + (ap : Nat) + 1 + pa) (Int.toNat (fo0 + dAt t fo0 - (fo0 + (ap : Nat) + 1 + pa)))) (dC dep (some h) (ys : Nat) fo0 (ap : Nat)) δ (some h) P ar al pp) 0 0
        refine mv_aloadR_n B d_Maker_writeBrought_108 rfl 3 rfl ?_
        refine mv_iload B d_Maker_writeBrought_109 2 rfl ?_
        refine ca_Maker_93 (mc := 0) (ms := 0) (As := [.int (iI ((ys : Nat)))]) (rest := []) B (m_Maker_putApplications hB hτ (n := (ys : Nat)) (by omega) (by first | omega | (simp only [List.length_append, List.length_cons, List.length_nil, apL_len, vrL_len, cpL_len]; omega))) rfl rfl ⟨Nat.le_of_ble_eq_true rfl, Nat.le_of_ble_eq_true rfl⟩ mW_mk rfl rfl (Nat.le_of_ble_eq_true rfl) d_Maker_writeBrought_111 ⟨by omega, by omega⟩ (mv_x ?_)
        show mv_G X Q (kk V) 10 114 [(8, .int (iI ((i : Nat)))), (7, .int (iI (beR t b i))), (6, .int (iI ((ys : Nat)))), (0, .ref mk), (1, .ref g), (2, .int (iI (k))), (3, .int (iI (b))), (4, .int (iI (v))), (5, .int (iI (u)))] [] (mX V M mk rd dep tg q τ ((XS ++ bnL t δ P ar al pp k b i) ++ apL (Int.toNat (ix + 1)) ++ [(0, v + (ys : Nat), 0)] ++ cpL t δ P ar al pp (fo0 + (ap : Nat) + 1 + pa) (Int.toNat (fo0 + dAt t fo0 - (fo0 + (ap : Nat) + 1 + pa))) ++ apL (Int.toNat ((ys : Nat)))) (dC dep (some h) (ys : Nat) fo0 (ap : Nat)) δ (some h) P ar al pp) 0 0
        refine mv_aloadR_n B d_Maker_writeBrought_114 rfl 3 rfl ?_
        refine mv_iconst (z := 0) B d_Maker_writeBrought_115 rfl ?_
        refine mv_iload B d_Maker_writeBrought_116 8 rfl ?_
        refine mv_iload B d_Maker_writeBrought_118 2 rfl ?_
        refine mv_iadd B d_Maker_writeBrought_120 ?_
        refine mv_iconst (z := 0) B d_Maker_writeBrought_121 rfl ?_
        refine ca_Maker_78 (mc := 0) (ms := 0) (As := [.int (iI (0)), .int (iI (u + (ys : Nat))), .int (iI (0))]) (rest := []) B (m_Maker_put hB hτ (by first | omega | (simp only [List.length_append, List.length_cons, List.length_nil, apL_len, vrL_len, cpL_len]; omega))) rfl rfl ⟨Nat.le_of_ble_eq_true rfl, Nat.le_of_ble_eq_true rfl⟩ mW_mk rfl rfl (Nat.le_of_ble_eq_true rfl) d_Maker_writeBrought_122 ⟨by omega, by omega⟩ (mv_x ?_)
        show mv_G X Q (kk V) 10 125 [(8, .int (iI ((i : Nat)))), (7, .int (iI (beR t b i))), (6, .int (iI ((ys : Nat)))), (0, .ref mk), (1, .ref g), (2, .int (iI (k))), (3, .int (iI (b))), (4, .int (iI (v))), (5, .int (iI (u)))] [] (mX V M mk rd dep tg q τ ((XS ++ bnL t δ P ar al pp k b i) ++ apL (Int.toNat (ix + 1)) ++ [(0, v + (ys : Nat), 0)] ++ cpL t δ P ar al pp (fo0 + (ap : Nat) + 1 + pa) (Int.toNat (fo0 + dAt t fo0 - (fo0 + (ap : Nat) + 1 + pa))) ++ apL (Int.toNat ((ys : Nat))) ++ [(0, u + (ys : Nat), 0)]) (dC dep (some h) (ys : Nat) fo0 (ap : Nat)) δ (some h) P ar al pp) 0 0
        refine mv_aloadR_n B d_Maker_writeBrought_125 rfl 3 rfl ?_
        refine mv_iload B d_Maker_writeBrought_126 2 rfl ?_
        refine mv_iconst (z := 1) B d_Maker_writeBrought_128 rfl ?_
        refine mv_isub B d_Maker_writeBrought_129 ?_
        refine mv_iload B d_Maker_writeBrought_130 2 rfl ?_
        refine ca_Maker_97 (mc := 0) (ms := 0) (As := [.int (iI ((ys : Nat) - 1)), .int (iI ((ys : Nat)))]) (rest := []) B (m_Maker_putVariables hB hτ (v := (ys : Nat) - 1) (n := (ys : Nat)) (by omega) (by first | omega | (simp only [List.length_append, List.length_cons, List.length_nil, apL_len, vrL_len, cpL_len]; omega))) rfl rfl ⟨Nat.le_of_ble_eq_true rfl, Nat.le_of_ble_eq_true rfl⟩ mW_mk rfl rfl (Nat.le_of_ble_eq_true rfl) d_Maker_writeBrought_132 ⟨by omega, by omega⟩ (mv_x ?_)
        show mv_G X Q (kk V) 10 135 [(8, .int (iI ((i : Nat)))), (7, .int (iI (beR t b i))), (6, .int (iI ((ys : Nat)))), (0, .ref mk), (1, .ref g), (2, .int (iI (k))), (3, .int (iI (b))), (4, .int (iI (v))), (5, .int (iI (u)))] [] (mX V M mk rd dep tg q τ ((XS ++ bnL t δ P ar al pp k b i) ++ apL (Int.toNat (ix + 1)) ++ [(0, v + (ys : Nat), 0)] ++ cpL t δ P ar al pp (fo0 + (ap : Nat) + 1 + pa) (Int.toNat (fo0 + dAt t fo0 - (fo0 + (ap : Nat) + 1 + pa))) ++ apL (Int.toNat ((ys : Nat))) ++ [(0, u + (ys : Nat), 0)] ++ vrL ((ys : Nat) - 1) (Int.toNat ((ys : Nat)))) (dC dep (some h) (ys : Nat) fo0 (ap : Nat)) δ (some h) P ar al pp) 0 0
        rw [hQ]
        have ei : i = ys := by omega
        subst ei
        exact mv_vret B ⟨rfl, by simp only [brL, List.append_assoc, Int.toNat_natCast]⟩ (by omega) (by omega) d_Maker_writeBrought_135
      · refine mv_aloadR_n B d_Maker_writeBrought_22 rfl 3 rfl ?_
        refine mv_iload_n B d_Maker_writeBrought_23 rfl 5 rfl ?_
        refine mv_aloadR_n B d_Maker_writeBrought_24 rfl 3 rfl ?_
        refine gf_Maker_33 B mW_mk rfl d_Maker_writeBrought_25 ?_
        refine mv_iload B d_Maker_writeBrought_28 1 rfl ?_
        refine ca_Maker_115 (mc := 0) (ms := 0) (As := [.int (iI (beR t b i))]) (rest := [.int (iI (k)), .ref mk]) B (m_Term_numberAt (hS.at hB) hS.2.1 (i := beR t b i) (by omega)) rfl rfl ⟨Nat.le_of_ble_eq_true rfl, Nat.le_of_ble_eq_true rfl⟩ (hS.obj hB).choose_spec rfl rfl (Nat.le_of_ble_eq_true rfl) d_Maker_writeBrought_30 ⟨by omega, by omega⟩ (mv_x ?_)
        show mv_G X Q (kk V) 10 33 [(8, .int (iI ((i : Nat)))), (7, .int (iI (beR t b i))), (6, .int (iI ((ys : Nat)))), (0, .ref mk), (1, .ref g), (2, .int (iI (k))), (3, .int (iI (b))), (4, .int (iI (v))), (5, .int (iI (u)))] [.int (iI (uAt t (beR t b i))), .int (iI (k)), .ref mk] (mX V M mk rd dep tg q τ (XS ++ bnL t δ P ar al pp k b i) (dC dep (some h) (ys : Nat) fo0 (ap : Nat)) δ (some h) P ar al pp) 0 0
        refine mv_iconst (z := 0) B d_Maker_writeBrought_33 rfl ?_
        refine ca_Maker_78 (mc := 0) (ms := 0) (As := [.int (iI (k)), .int (iI (uAt t (beR t b i))), .int (iI (0))]) (rest := []) B (m_Maker_put hB hτ (by first | omega | (simp only [List.length_append, List.length_cons, List.length_nil, apL_len, vrL_len, cpL_len]; omega))) rfl rfl ⟨Nat.le_of_ble_eq_true rfl, Nat.le_of_ble_eq_true rfl⟩ mW_mk rfl rfl (Nat.le_of_ble_eq_true rfl) d_Maker_writeBrought_34 ⟨by omega, by omega⟩ (mv_x ?_)
        show mv_G X Q (kk V) 10 37 [(8, .int (iI ((i : Nat)))), (7, .int (iI (beR t b i))), (6, .int (iI ((ys : Nat)))), (0, .ref mk), (1, .ref g), (2, .int (iI (k))), (3, .int (iI (b))), (4, .int (iI (v))), (5, .int (iI (u)))] [] (mX V M mk rd dep tg q τ ((XS ++ bnL t δ P ar al pp k b i) ++ [(k, uAt t (beR t b i), 0)]) (dC dep (some h) (ys : Nat) fo0 (ap : Nat)) δ (some h) P ar al pp) 0 0
        refine mv_aloadR_n B d_Maker_writeBrought_37 rfl 3 rfl ?_
        refine gf_Maker_33 B mW_mk rfl d_Maker_writeBrought_38 ?_
        refine mv_iload B d_Maker_writeBrought_41 1 rfl ?_
        refine ca_Maker_66 (mc := 0) (ms := 0) (As := [.int (iI (beR t b i))]) (rest := []) B (m_Term_secondOf (hS.at hB) hS.2.1 (i := beR t b i) (by omega)) rfl rfl ⟨Nat.le_of_ble_eq_true rfl, Nat.le_of_ble_eq_true rfl⟩ (hS.obj hB).choose_spec rfl rfl (Nat.le_of_ble_eq_true rfl) d_Maker_writeBrought_43 ⟨by omega, by omega⟩ (mv_x ?_)
        show mv_G X Q (kk V) 10 46 [(8, .int (iI ((i : Nat)))), (7, .int (iI (beR t b i))), (6, .int (iI ((ys : Nat)))), (0, .ref mk), (1, .ref g), (2, .int (iI (k))), (3, .int (iI (b))), (4, .int (iI (v))), (5, .int (iI (u)))] [.int (iI (scd t (beR t b i)))] (mX V M mk rd dep tg q τ ((XS ++ bnL t δ P ar al pp k b i) ++ [(k, uAt t (beR t b i), 0)]) (dC dep (some h) (ys : Nat) fo0 (ap : Nat)) δ (some h) P ar al pp) 0 0
        refine mv_istore (lv' := [(9, .int (iI (scd t (beR t b i)))), (8, .int (iI ((i : Nat)))), (7, .int (iI (beR t b i))), (6, .int (iI ((ys : Nat)))), (0, .ref mk), (1, .ref g), (2, .int (iI (k))), (3, .int (iI (b))), (4, .int (iI (v))), (5, .int (iI (u)))]) B d_Maker_writeBrought_46 (by decide) rfl ?_
        refine mv_aloadR_n B d_Maker_writeBrought_48 rfl 4 rfl ?_
        refine mv_iload B d_Maker_writeBrought_49 2 rfl ?_
        refine mv_iconst (z := 1) B d_Maker_writeBrought_51 rfl ?_
        refine mv_iadd B d_Maker_writeBrought_52 ?_
        refine mv_iload B d_Maker_writeBrought_53 0 rfl ?_
        refine ca_Maker_109 (mc := 0) (ms := 0) (As := [.int (iI ((beR t b i) + 1)), .int (iI (scd t (beR t b i)))]) (rest := []) B (m_Maker_copy hB hτ hS hδ (b := (beR t b i) + 1) (e := scd t (beR t b i)) (by omega) (by omega) (by omega) (by omega) (by first | omega | (simp only [List.length_append, List.length_cons, List.length_nil, apL_len, vrL_len, cpL_len]; omega))) rfl rfl ⟨Nat.le_of_ble_eq_true rfl, Nat.le_of_ble_eq_true rfl⟩ mW_mk rfl rfl (Nat.le_of_ble_eq_true rfl) d_Maker_writeBrought_55 ⟨by omega, by omega⟩ (mv_x ?_)
        show mv_G X Q (kk V) 10 58 [(9, .int (iI (scd t (beR t b i)))), (8, .int (iI ((i : Nat)))), (7, .int (iI (beR t b i))), (6, .int (iI ((ys : Nat)))), (0, .ref mk), (1, .ref g), (2, .int (iI (k))), (3, .int (iI (b))), (4, .int (iI (v))), (5, .int (iI (u)))] [] (mX V M mk rd dep tg q τ ((XS ++ bnL t δ P ar al pp k b i) ++ [(k, uAt t (beR t b i), 0)] ++ cpL t δ P ar al pp ((beR t b i) + 1) (Int.toNat (scd t (beR t b i) - ((beR t b i) + 1)))) (dC dep (some h) (ys : Nat) fo0 (ap : Nat)) δ (some h) P ar al pp) 0 0
        refine mv_iload B d_Maker_writeBrought_58 0 rfl ?_
        refine mv_istore (lv' := [(7, .int (iI (scd t (beR t b i)))), (9, .int (iI (scd t (beR t b i)))), (8, .int (iI ((i : Nat)))), (6, .int (iI ((ys : Nat)))), (0, .ref mk), (1, .ref g), (2, .int (iI (k))), (3, .int (iI (b))), (4, .int (iI (v))), (5, .int (iI (u)))]) B d_Maker_writeBrought_60 (by decide) rfl ?_
        refine mv_iinc (lv' := [(8, .int (iI ((i : Nat) + 1))), (7, .int (iI (scd t (beR t b i)))), (9, .int (iI (scd t (beR t b i)))), (6, .int (iI ((ys : Nat)))), (0, .ref mk), (1, .ref g), (2, .int (iI (k))), (3, .int (iI (b))), (4, .int (iI (v))), (5, .int (iI (u)))]) B d_Maker_writeBrought_62 2 rfl (by decide) rfl ?_
        refine mv_goto (tgt := 15) B d_Maker_writeBrought_65 (by decide) ?_
        refine mv_lv (lv' := [(8, .int (iI (((i + 1) : Nat)))), (7, .int (iI (beR t b (i + 1)))), (6, .int (iI ((ys : Nat)))), (0, .ref mk), (1, .ref g), (2, .int (iI (k))), (3, .int (iI (b))), (4, .int (iI (v))), (5, .int (iI (u)))]) [0, 1, 3, 4, 5, 6, 7, 8, 9] (lc (lI (by first | rfl | omega)) (lc (lI (by first | rfl | omega)) (lc rfl (lc rfl (lc rfl (lc rfl (lc rfl (lc rfl (lc rfl rfl))))))))) ?_
        rw [show (XS ++ bnL t δ P ar al pp k b i) ++ [(k, uAt t (beR t b i), 0)] ++ cpL t δ P ar al pp ((beR t b i) + 1) (Int.toNat (scd t (beR t b i) - ((beR t b i) + 1))) = (XS ++ bnL t δ P ar al pp k b (i + 1)) from (by simp only [bnL, List.append_assoc]; rw [show (scd t (beR t b i) - (beR t b i + 1)) = dAt t (beR t b i + 1) by omega])]
        exact ih15 (i + 1) (by omega) (by omega)
  refine mv_lv (lv' := [(8, .int (iI ((0 : Nat)))), (7, .int (iI (beR t b 0))), (6, .int (iI ((ys : Nat)))), (0, .ref mk), (1, .ref g), (2, .int (iI (k))), (3, .int (iI (b))), (4, .int (iI (v))), (5, .int (iI (u)))]) [0, 1, 2, 3, 4, 5, 6, 7, 8] (lc (lI (by first | rfl | omega)) (lc (lI (by first | rfl | omega)) (lc rfl (lc rfl (lc rfl (lc rfl (lc rfl (lc rfl (lc rfl rfl))))))))) ?_
  rw [show (XS : List Nd) = (XS ++ bnL t δ P ar al pp k b 0) from (by simp [bnL])]
  exact L15 _ 0 (by omega) (Nat.lt_succ_self _)
set_option maxRecDepth 100000 in
set_option maxHeartbeats 4000000 in
theorem m_Maker_writeBrings {l : Launch} {V : mv_V} {M : mv_M} {mk rd dep : Nat} {tg : Option Nat} {q : Q4} {τ : Tm} {XS : List Nd} {tm : Option Nat} {al0 fo0 ap0 : Int} {δ : Nat → Int} {src : Option Nat} {P ar al pp : Int} (hB : HB V M mk rd dep tg q) (hτ : τ.1 ≤ 1000) {h : Nat} {t : Tm} (hS : SrcOk V M dep tg q h t) (hδ : ∀ i : Int, Sm (dgt (opD tg t δ) i)) {c fm : Nat} {nc roc pac ixc rac rcc : Int} {arc : Nat} {coc : Option Nat} (hc : M c = some (.inr (2, [.int (iI nc), .int (iI roc), .int (iI pac), .int (iI ixc), .int (iI rac), .ref fm, va_rf coc, .ref h, .int (iI (arc : Nat)), .int (iI rcc)])))  {nu ro pa ix ra ar9 rc : Int} {fa co tl : Option Nat} (hg : M fm = some (.inr (2, [.int (iI nu), .int (iI ro), .int (iI pa), .int (iI ix), .int (iI ra), va_rf fa, va_rf co, va_rf tl, .int (iI ar9), .int (iI rc)]))) {k j0 : Nat} (hj0 : j0 < arc) (hr0 : isR t nu pa ix pac j0 = true) (hk0 : rcN t nu pa ix pac j0 = k) (harc : arc ≤ 1000) (hpac : 0 ≤ pac ∧ pac ≤ 1000) (rnu : Sm nu) (hpa : 0 ≤ pa ∧ pa ≤ 1000) (hix : 0 ≤ ix ∧ ix ≤ 1000) (hl : (beR t (beR t (beh t (Int.toNat (pac))) j0 + 1) (allN t 1000 (beR t (beh t (Int.toNat (pac))) j0 + 1)) + ((appN t 1000 (beR t (beR t (beh t (Int.toNat (pac))) j0 + 1) (allN t 1000 (beR t (beh t (Int.toNat (pac))) j0 + 1))) : Nat)) + 1 + pa) ≤ (beR t (beR t (beh t (Int.toNat (pac))) j0 + 1) (allN t 1000 (beR t (beh t (Int.toNat (pac))) j0 + 1))) + dAt t (beR t (beR t (beh t (Int.toNat (pac))) j0 + 1) (allN t 1000 (beR t (beh t (Int.toNat (pac))) j0 + 1)))) (hX : XS.length ≤ 400000000) : Met l y_Maker_writeBrings ws_Maker_writeBrings (rM 4 0 0 130) (mv_Pre (kk V) [.ref mk, .ref c, .int (iI ((k : Nat)))] (mX V M mk rd dep tg q τ XS (dC dep tm al0 fo0 ap0) δ src P ar al pp)) (mv_Q (kk V) (mv_R none (mX V M mk rd dep tg q τ (XS ++ brL t (opD tg t δ) pac (pac + (j0 : Nat)) 1 1 5 ix (beR t (beh t (Int.toNat (pac))) j0 + 1) (pac + (j0 : Nat) + 1) 0 (allN t 1000 (beR t (beh t (Int.toNat (pac))) j0 + 1)) (beR t (beR t (beh t (Int.toNat (pac))) j0 + 1) (allN t 1000 (beR t (beh t (Int.toNat (pac))) j0 + 1)) + ((appN t 1000 (beR t (beR t (beh t (Int.toNat (pac))) j0 + 1) (allN t 1000 (beR t (beh t (Int.toNat (pac))) j0 + 1))) : Nat)) + 1 + pa) (Int.toNat ((beR t (beR t (beh t (Int.toNat (pac))) j0 + 1) (allN t 1000 (beR t (beh t (Int.toNat (pac))) j0 + 1))) + dAt t (beR t (beR t (beh t (Int.toNat (pac))) j0 + 1) (allN t 1000 (beR t (beh t (Int.toNat (pac))) j0 + 1))) - (beR t (beR t (beh t (Int.toNat (pac))) j0 + 1) (allN t 1000 (beR t (beh t (Int.toNat (pac))) j0 + 1)) + ((appN t 1000 (beR t (beR t (beh t (Int.toNat (pac))) j0 + 1) (allN t 1000 (beR t (beh t (Int.toNat (pac))) j0 + 1))) : Nat)) + 1 + pa)))) (dC dep (some h) ((allN t 1000 (beR t (beh t (Int.toNat (pac))) j0 + 1) : Nat)) (beR t (beR t (beh t (Int.toNat (pac))) j0 + 1) (allN t 1000 (beR t (beh t (Int.toNat (pac))) j0 + 1))) ((appN t 1000 (beR t (beR t (beh t (Int.toNat (pac))) j0 + 1) (allN t 1000 (beR t (beh t (Int.toNat (pac))) j0 + 1))) : Nat))) (opD tg t δ) (some h) pac (pac + (j0 : Nat)) 1 1))) 0 0 V.2.2.2.2 := by
  refine mv_Met (by decide) rfl (Nat.le_of_ble_eq_true rfl) (fun X hX B => ?_)
  subst hX
  replace B : mv_B X (kk V) c_Maker_writeBrings ws_Maker_writeBrings "FamilyRules$Maker" 7 (Option.none : Option Jvm.ClassFile.FieldType) (rM 4 0 0 130) "writeBrings" := B
  obtain ⟨Q, hQ⟩ : ∃ Q, Q = mv_E X (kk V) (mv_R none (mX V M mk rd dep tg q τ (XS ++ brL t (opD tg t δ) pac (pac + (j0 : Nat)) 1 1 5 ix (beR t (beh t (Int.toNat (pac))) j0 + 1) (pac + (j0 : Nat) + 1) 0 (allN t 1000 (beR t (beh t (Int.toNat (pac))) j0 + 1)) (beR t (beR t (beh t (Int.toNat (pac))) j0 + 1) (allN t 1000 (beR t (beh t (Int.toNat (pac))) j0 + 1)) + ((appN t 1000 (beR t (beR t (beh t (Int.toNat (pac))) j0 + 1) (allN t 1000 (beR t (beh t (Int.toNat (pac))) j0 + 1))) : Nat)) + 1 + pa) (Int.toNat ((beR t (beR t (beh t (Int.toNat (pac))) j0 + 1) (allN t 1000 (beR t (beh t (Int.toNat (pac))) j0 + 1))) + dAt t (beR t (beR t (beh t (Int.toNat (pac))) j0 + 1) (allN t 1000 (beR t (beh t (Int.toNat (pac))) j0 + 1))) - (beR t (beR t (beh t (Int.toNat (pac))) j0 + 1) (allN t 1000 (beR t (beh t (Int.toNat (pac))) j0 + 1)) + ((appN t 1000 (beR t (beR t (beh t (Int.toNat (pac))) j0 + 1) (allN t 1000 (beR t (beh t (Int.toNat (pac))) j0 + 1))) : Nat)) + 1 + pa)))) (dC dep (some h) ((allN t 1000 (beR t (beh t (Int.toNat (pac))) j0 + 1) : Nat)) (beR t (beR t (beh t (Int.toNat (pac))) j0 + 1) (allN t 1000 (beR t (beh t (Int.toNat (pac))) j0 + 1))) ((appN t 1000 (beR t (beR t (beh t (Int.toNat (pac))) j0 + 1) (allN t 1000 (beR t (beh t (Int.toNat (pac))) j0 + 1))) : Nat))) (opD tg t δ) (some h) pac (pac + (j0 : Nat)) 1 1)) 0 0 := ⟨_, rfl⟩
  rw [← hQ]
  show mv_G X Q (kk V) 7 0 [(0, .ref mk), (1, .ref c), (2, .int (iI ((k : Nat))))] [] (mX V M mk rd dep tg q τ XS (dC dep tm al0 fo0 ap0) δ src P ar al pp) 0 0
  refine mv_aloadR_n B d_Maker_writeBrings_0 rfl 1 rfl ?_
  refine gf_Maker_23 B (mW_o hB hc (by decide) (by decide)) rfl d_Maker_writeBrings_1 ?_
  refine mv_astoreR_n (lv' := [(3, .ref fm), (0, .ref mk), (1, .ref c), (2, .int (iI ((k : Nat))))]) B d_Maker_writeBrings_4 rfl (by decide) rfl ?_
  refine mv_aloadR_n B d_Maker_writeBrings_5 rfl 1 rfl ?_
  refine mv_aloadR_n B d_Maker_writeBrings_6 rfl 2 rfl ?_
  refine ca_Maker_29 (mc := 0) (ms := 0) (As := [.ref c]) (rest := []) B (m_Maker_open (fa := (some fm)) (co := coc) hB hτ hS hc) rfl rfl ⟨Nat.le_of_ble_eq_true rfl, Nat.le_of_ble_eq_true rfl⟩ mW_mk rfl rfl (Nat.le_of_ble_eq_true rfl) d_Maker_writeBrings_7 ⟨by omega, by omega⟩ (mv_x ?_)
  show mv_G X Q (kk V) 7 10 [(3, .ref fm), (0, .ref mk), (1, .ref c), (2, .int (iI ((k : Nat))))] [.int (iI (1))] (mX V M mk rd dep tg q τ XS (dC dep tm al0 fo0 ap0) (opD tg t δ) (some h) pac ar al pp) 0 0
  refine mv_if_eq (tgt := 17) B d_Maker_writeBrings_10 (by decide) (by omega) (fun c1 => ?_) (fun c1 => ?_)
  · omega
  · refine mv_aloadR_n B d_Maker_writeBrings_13 rfl 0 rfl ?_
    refine mv_ifnonnullR (tgt := 18) B d_Maker_writeBrings_14 (by decide) ?_
    refine mv_aloadR_n B d_Maker_writeBrings_18 rfl 1 rfl ?_
    refine gf_Maker_33 B mW_mk rfl d_Maker_writeBrings_19 ?_
    refine mv_aloadR_n B d_Maker_writeBrings_22 rfl 1 rfl ?_
    refine gf_Maker_36 B mW_mk rfl d_Maker_writeBrings_23 ?_
    refine ca_Maker_39 (mc := 0) (ms := 0) (As := [.int (iI (pac))]) (rest := []) B (m_Term_behindAlls (hS.at hB) hS.2.1 (n := pac) (by omega)) rfl rfl ⟨Nat.le_of_ble_eq_true rfl, Nat.le_of_ble_eq_true rfl⟩ (hS.obj hB).choose_spec rfl rfl (Nat.le_of_ble_eq_true rfl) d_Maker_writeBrings_26 ⟨by omega, by omega⟩ (mv_x ?_)
    show mv_G X Q (kk V) 7 29 [(3, .ref fm), (0, .ref mk), (1, .ref c), (2, .int (iI ((k : Nat))))] [.int (iI (beh t (Int.toNat (pac))))] (mX V M mk rd dep tg q τ XS (dC dep tm al0 fo0 ap0) (opD tg t δ) (some h) pac ar al pp) 0 0
    refine mv_istore (lv' := [(4, .int (iI (beh t (Int.toNat (pac))))), (3, .ref fm), (0, .ref mk), (1, .ref c), (2, .int (iI ((k : Nat))))]) B d_Maker_writeBrings_29 (by decide) rfl ?_
    refine mv_iconst (z := 0) B d_Maker_writeBrings_31 rfl ?_
    refine mv_istore (lv' := [(5, .int (iI (0))), (4, .int (iI (beh t (Int.toNat (pac))))), (3, .ref fm), (0, .ref mk), (1, .ref c), (2, .int (iI ((k : Nat))))]) B d_Maker_writeBrings_32 (by decide) rfl ?_
    refine mv_iconst (z := 0) B d_Maker_writeBrings_34 rfl ?_
    refine mv_istore (lv' := [(6, .int (iI (0))), (5, .int (iI (0))), (4, .int (iI (beh t (Int.toNat (pac))))), (3, .ref fm), (0, .ref mk), (1, .ref c), (2, .int (iI ((k : Nat))))]) B d_Maker_writeBrings_35 (by decide) rfl ?_
    have L37 : ∀ (fu : Nat) (j : Nat) (tm1 : Option Nat) (al1 : Int) (fo1 : Int) (ap1 : Int), (j ≤ j0) → (j0 - j) < fu → mv_G X Q (kk V) 7 37 [(6, .int (iI ((j : Nat)))), (5, .int (iI ((rcN t nu pa ix pac j : Nat)))), (4, .int (iI (beR t (beh t (Int.toNat (pac))) j))), (3, .ref fm), (0, .ref mk), (1, .ref c), (2, .int (iI ((k : Nat))))] [] (mX V M mk rd dep tg q τ XS (dC dep tm1 al1 fo1 ap1) (opD tg t δ) (some h) pac ar al pp) 0 0 := by
      intro fu
      induction fu with
      | zero => intro j tm1 al1 fo1 ap1 hj hm; exact absurd hm (Nat.not_lt_zero _)
      | succ fu ih37 =>
        intro j tm1 al1 fo1 ap1 hj hm
        have hp0 := beh_r hS.2.1 pac.toNat
        have hb1 := beR_r hS.2.1 (beh t (Int.toNat (pac))) j
        have e5 := allN_le (t := t) 1000 (beR t (beh t (Int.toNat (pac))) j + 1)
        have e4 := beR_r hS.2.1 (beR t (beh t (Int.toNat (pac))) j + 1) (allN t 1000 (beR t (beh t (Int.toNat (pac))) j + 1))
        have e6 := appN_le (t := t) 1000 (beR t (beR t (beh t (Int.toNat (pac))) j + 1) (allN t 1000 (beR t (beh t (Int.toNat (pac))) j + 1)))
        have hm1 := rcN_mono t nu pa ix pac hj
        have hq1 := rcN_le t nu pa ix pac j
        have hq2 := rcN_le t nu pa ix pac j0
        refine mv_iload B d_Maker_writeBrings_37 0 rfl ?_
        refine mv_aloadR_n B d_Maker_writeBrings_39 rfl 5 rfl ?_
        refine gf_Maker_45 B (mW_o hB hc (by decide) (by decide)) rfl d_Maker_writeBrings_40 ?_
        refine mv_icmp_ge (tgt := 139) B d_Maker_writeBrings_43 (by decide) (by omega) (by omega) (fun c2 => ?_) (fun c2 => ?_)
        · omega
        · refine mv_aloadR_n B d_Maker_writeBrings_46 rfl 4 rfl ?_
          refine gf_Maker_9 B mW_mk rfl d_Maker_writeBrings_47 ?_
          refine mv_aloadR_n B d_Maker_writeBrings_50 rfl 4 rfl ?_
          refine gf_Maker_33 B mW_mk rfl d_Maker_writeBrings_51 ?_
          refine mv_iload B d_Maker_writeBrings_54 2 rfl ?_
          refine mv_iconst (z := 1) B d_Maker_writeBrings_56 rfl ?_
          refine mv_iadd B d_Maker_writeBrings_57 ?_
          refine ca_Maker_48 (mc := 0) (ms := 0) (As := [.ref h, .int (iI ((beR t (beh t (Int.toNat (pac))) j) + 1))]) (rest := []) B (m_Reader_readShape (mW_rd hB) (hS.at hB) hS.2.1 (r := (beR t (beh t (Int.toNat (pac))) j) + 1) (by omega)) rfl rfl ⟨Nat.le_of_ble_eq_true rfl, Nat.le_of_ble_eq_true rfl⟩ (mW_rd hB) rfl rfl (Nat.le_of_ble_eq_true rfl) d_Maker_writeBrings_58 ⟨by omega, by omega⟩ (mv_x ?_)
          rw [mW_upr hB]
          show mv_G X Q (kk V) 7 61 [(6, .int (iI ((j : Nat)))), (5, .int (iI ((rcN t nu pa ix pac j : Nat)))), (4, .int (iI (beR t (beh t (Int.toNat (pac))) j))), (3, .ref fm), (0, .ref mk), (1, .ref c), (2, .int (iI ((k : Nat))))] [] (mX V M mk rd dep tg q τ XS (dC dep (some h) ((allN t 1000 ((beR t (beh t (Int.toNat (pac))) j) + 1) : Nat)) (beR t ((beR t (beh t (Int.toNat (pac))) j) + 1) (allN t 1000 ((beR t (beh t (Int.toNat (pac))) j) + 1))) ((appN t 1000 (beR t ((beR t (beh t (Int.toNat (pac))) j) + 1) (allN t 1000 ((beR t (beh t (Int.toNat (pac))) j) + 1))) : Nat))) (opD tg t δ) (some h) pac ar al pp) 0 0
          refine mv_aloadR_n B d_Maker_writeBrings_61 rfl 4 rfl ?_
          refine gf_Maker_9 B mW_mk rfl d_Maker_writeBrings_62 ?_
          refine mv_aloadR_n B d_Maker_writeBrings_65 rfl 3 rfl ?_
          refine mv_aloadR_n B d_Maker_writeBrings_66 rfl 4 rfl ?_
          refine gf_Maker_36 B mW_mk rfl d_Maker_writeBrings_67 ?_
          refine mv_iload B d_Maker_writeBrings_70 0 rfl ?_
          refine mv_iadd B d_Maker_writeBrings_72 ?_
          refine ca_Maker_54 (mc := 0) (ms := 0) (As := [.ref fm, .int (iI (pac + (j : Nat)))]) (rest := []) B (m_Reader_isPut (fa := fa) (co := co) (tl := tl) (mW_rd hB) (hS.at hB) hS.2.1 (mW_o hB hg (by decide) (by decide)) (ou := pac + (j : Nat)) (by omega) (by omega) (by omega) (by omega) (by omega) (by omega) (by omega)) rfl rfl ⟨Nat.le_of_ble_eq_true rfl, Nat.le_of_ble_eq_true rfl⟩ (mW_rd hB) rfl rfl (Nat.le_of_ble_eq_true rfl) d_Maker_writeBrings_73 ⟨by omega, by omega⟩ (mv_x ?_)
          show mv_G X Q (kk V) 7 76 [(6, .int (iI ((j : Nat)))), (5, .int (iI ((rcN t nu pa ix pac j : Nat)))), (4, .int (iI (beR t (beh t (Int.toNat (pac))) j))), (3, .ref fm), (0, .ref mk), (1, .ref c), (2, .int (iI ((k : Nat))))] [.int (iI (if isPB t nu pa ix (beR t ((beR t (beh t (Int.toNat (pac))) j) + 1) (allN t 1000 ((beR t (beh t (Int.toNat (pac))) j) + 1))) (appN t 1000 (beR t ((beR t (beh t (Int.toNat (pac))) j) + 1) (allN t 1000 ((beR t (beh t (Int.toNat (pac))) j) + 1)))) (pac + (j : Nat) + ((allN t 1000 ((beR t (beh t (Int.toNat (pac))) j) + 1) : Nat)) - 1) = true then 1 else 0))] (mX V M mk rd dep tg q τ XS (dC dep (some h) ((allN t 1000 ((beR t (beh t (Int.toNat (pac))) j) + 1) : Nat)) (beR t ((beR t (beh t (Int.toNat (pac))) j) + 1) (allN t 1000 ((beR t (beh t (Int.toNat (pac))) j) + 1))) ((appN t 1000 (beR t ((beR t (beh t (Int.toNat (pac))) j) + 1) (allN t 1000 ((beR t (beh t (Int.toNat (pac))) j) + 1))) : Nat))) (opD tg t δ) (some h) pac ar al pp) 0 0
          refine mv_if_eq (tgt := 122) B d_Maker_writeBrings_76 (by decide) (by omega) (fun c3 => ?_) (fun c3 => ?_)
          · have hr1 : isR t nu pa ix pac j = false := by
              apply Bool.eq_false_iff.mpr
              intro q
              have q2 : (isPB t nu pa ix (beR t ((beR t (beh t (Int.toNat (pac))) j) + 1) (allN t 1000 ((beR t (beh t (Int.toNat (pac))) j) + 1))) (appN t 1000 (beR t ((beR t (beh t (Int.toNat (pac))) j) + 1) (allN t 1000 ((beR t (beh t (Int.toNat (pac))) j) + 1)))) (pac + (j : Nat) + ((allN t 1000 ((beR t (beh t (Int.toNat (pac))) j) + 1) : Nat)) - 1)) = true := q
              rw [if_pos q2] at c3
              omega
            have hne : j ≠ j0 := by
              intro q
              subst q
              rw [hr1] at hr0
              cases hr0
            refine mv_aloadR_n B d_Maker_writeBrings_122 rfl 4 rfl ?_
            refine gf_Maker_33 B mW_mk rfl d_Maker_writeBrings_123 ?_
            refine mv_iload B d_Maker_writeBrings_126 2 rfl ?_
            refine ca_Maker_66 (mc := 0) (ms := 0) (As := [.int (iI (beR t (beh t (Int.toNat (pac))) j))]) (rest := []) B (m_Term_secondOf (hS.at hB) hS.2.1 (i := beR t (beh t (Int.toNat (pac))) j) (by omega)) rfl rfl ⟨Nat.le_of_ble_eq_true rfl, Nat.le_of_ble_eq_true rfl⟩ (hS.obj hB).choose_spec rfl rfl (Nat.le_of_ble_eq_true rfl) d_Maker_writeBrings_128 ⟨by omega, by omega⟩ (mv_x ?_)
            show mv_G X Q (kk V) 7 131 [(6, .int (iI ((j : Nat)))), (5, .int (iI ((rcN t nu pa ix pac j : Nat)))), (4, .int (iI (beR t (beh t (Int.toNat (pac))) j))), (3, .ref fm), (0, .ref mk), (1, .ref c), (2, .int (iI ((k : Nat))))] [.int (iI (scd t (beR t (beh t (Int.toNat (pac))) j)))] (mX V M mk rd dep tg q τ XS (dC dep (some h) ((allN t 1000 ((beR t (beh t (Int.toNat (pac))) j) + 1) : Nat)) (beR t ((beR t (beh t (Int.toNat (pac))) j) + 1) (allN t 1000 ((beR t (beh t (Int.toNat (pac))) j) + 1))) ((appN t 1000 (beR t ((beR t (beh t (Int.toNat (pac))) j) + 1) (allN t 1000 ((beR t (beh t (Int.toNat (pac))) j) + 1))) : Nat))) (opD tg t δ) (some h) pac ar al pp) 0 0
            refine mv_istore (lv' := [(4, .int (iI (scd t (beR t (beh t (Int.toNat (pac))) j)))), (6, .int (iI ((j : Nat)))), (5, .int (iI ((rcN t nu pa ix pac j : Nat)))), (3, .ref fm), (0, .ref mk), (1, .ref c), (2, .int (iI ((k : Nat))))]) B d_Maker_writeBrings_131 (by decide) rfl ?_
            refine mv_iinc (lv' := [(6, .int (iI ((j : Nat) + 1))), (4, .int (iI (scd t (beR t (beh t (Int.toNat (pac))) j)))), (5, .int (iI ((rcN t nu pa ix pac j : Nat)))), (3, .ref fm), (0, .ref mk), (1, .ref c), (2, .int (iI ((k : Nat))))]) B d_Maker_writeBrings_133 1 rfl (by decide) rfl ?_
            refine mv_goto (tgt := 37) B d_Maker_writeBrings_136 (by decide) ?_
            refine mv_lv (lv' := [(6, .int (iI (((j + 1) : Nat)))), (5, .int (iI ((rcN t nu pa ix pac (j + 1) : Nat)))), (4, .int (iI (beR t (beh t (Int.toNat (pac))) (j + 1)))), (3, .ref fm), (0, .ref mk), (1, .ref c), (2, .int (iI ((k : Nat))))]) [0, 2, 1, 3, 4, 5, 6] (lc (lI (by first | rfl | omega)) (lc (lI (by simp only [rcN]; first | (rw [if_pos hr1]; omega) | (rw [if_neg (by rw [hr1]; simp)]; omega))) (lc (lI (by first | rfl | omega)) (lc rfl (lc rfl (lc rfl (lc rfl rfl))))))) ?_
            exact ih37 (j + 1) (some h) ((allN t 1000 ((beR t (beh t (Int.toNat (pac))) j) + 1) : Nat)) (beR t ((beR t (beh t (Int.toNat (pac))) j) + 1) (allN t 1000 ((beR t (beh t (Int.toNat (pac))) j) + 1))) ((appN t 1000 (beR t ((beR t (beh t (Int.toNat (pac))) j) + 1) (allN t 1000 ((beR t (beh t (Int.toNat (pac))) j) + 1))) : Nat)) (by omega) (by omega)
          · have hr1 : isR t nu pa ix pac j = true := by
              apply Classical.byContradiction
              intro q
              have q2 : ¬ (isPB t nu pa ix (beR t ((beR t (beh t (Int.toNat (pac))) j) + 1) (allN t 1000 ((beR t (beh t (Int.toNat (pac))) j) + 1))) (appN t 1000 (beR t ((beR t (beh t (Int.toNat (pac))) j) + 1) (allN t 1000 ((beR t (beh t (Int.toNat (pac))) j) + 1)))) (pac + (j : Nat) + ((allN t 1000 ((beR t (beh t (Int.toNat (pac))) j) + 1) : Nat)) - 1)) = true := q
              rw [if_neg q2] at c3
              omega
            refine mv_iload B d_Maker_writeBrings_79 1 rfl ?_
            refine mv_iload_n B d_Maker_writeBrings_81 rfl 6 rfl ?_
            refine mv_icmp_ne (tgt := 119) B d_Maker_writeBrings_82 (by decide) (by omega) (by omega) (fun c4 => ?_) (fun c4 => ?_)
            · have hne : j ≠ j0 := by
                intro q
                subst q
                omega
              refine mv_iinc (lv' := [(5, .int (iI ((rcN t nu pa ix pac j : Nat) + 1))), (6, .int (iI ((j : Nat)))), (4, .int (iI (beR t (beh t (Int.toNat (pac))) j))), (3, .ref fm), (0, .ref mk), (1, .ref c), (2, .int (iI ((k : Nat))))]) B d_Maker_writeBrings_119 1 rfl (by decide) rfl ?_
              refine mv_aloadR_n B d_Maker_writeBrings_122 rfl 4 rfl ?_
              refine gf_Maker_33 B mW_mk rfl d_Maker_writeBrings_123 ?_
              refine mv_iload B d_Maker_writeBrings_126 2 rfl ?_
              refine ca_Maker_66 (mc := 0) (ms := 0) (As := [.int (iI (beR t (beh t (Int.toNat (pac))) j))]) (rest := []) B (m_Term_secondOf (hS.at hB) hS.2.1 (i := beR t (beh t (Int.toNat (pac))) j) (by omega)) rfl rfl ⟨Nat.le_of_ble_eq_true rfl, Nat.le_of_ble_eq_true rfl⟩ (hS.obj hB).choose_spec rfl rfl (Nat.le_of_ble_eq_true rfl) d_Maker_writeBrings_128 ⟨by omega, by omega⟩ (mv_x ?_)
              show mv_G X Q (kk V) 7 131 [(5, .int (iI ((rcN t nu pa ix pac j : Nat) + 1))), (6, .int (iI ((j : Nat)))), (4, .int (iI (beR t (beh t (Int.toNat (pac))) j))), (3, .ref fm), (0, .ref mk), (1, .ref c), (2, .int (iI ((k : Nat))))] [.int (iI (scd t (beR t (beh t (Int.toNat (pac))) j)))] (mX V M mk rd dep tg q τ XS (dC dep (some h) ((allN t 1000 ((beR t (beh t (Int.toNat (pac))) j) + 1) : Nat)) (beR t ((beR t (beh t (Int.toNat (pac))) j) + 1) (allN t 1000 ((beR t (beh t (Int.toNat (pac))) j) + 1))) ((appN t 1000 (beR t ((beR t (beh t (Int.toNat (pac))) j) + 1) (allN t 1000 ((beR t (beh t (Int.toNat (pac))) j) + 1))) : Nat))) (opD tg t δ) (some h) pac ar al pp) 0 0
              refine mv_istore (lv' := [(4, .int (iI (scd t (beR t (beh t (Int.toNat (pac))) j)))), (5, .int (iI ((rcN t nu pa ix pac j : Nat) + 1))), (6, .int (iI ((j : Nat)))), (3, .ref fm), (0, .ref mk), (1, .ref c), (2, .int (iI ((k : Nat))))]) B d_Maker_writeBrings_131 (by decide) rfl ?_
              refine mv_iinc (lv' := [(6, .int (iI ((j : Nat) + 1))), (4, .int (iI (scd t (beR t (beh t (Int.toNat (pac))) j)))), (5, .int (iI ((rcN t nu pa ix pac j : Nat) + 1))), (3, .ref fm), (0, .ref mk), (1, .ref c), (2, .int (iI ((k : Nat))))]) B d_Maker_writeBrings_133 2 rfl (by decide) rfl ?_
              refine mv_goto (tgt := 37) B d_Maker_writeBrings_136 (by decide) ?_
              refine mv_lv (lv' := [(6, .int (iI (((j + 1) : Nat)))), (5, .int (iI ((rcN t nu pa ix pac (j + 1) : Nat)))), (4, .int (iI (beR t (beh t (Int.toNat (pac))) (j + 1)))), (3, .ref fm), (0, .ref mk), (1, .ref c), (2, .int (iI ((k : Nat))))]) [0, 2, 1, 3, 4, 5, 6] (lc (lI (by first | rfl | omega)) (lc (lI (by simp only [rcN]; first | (rw [if_pos hr1]; omega) | (rw [if_neg (by rw [hr1]; simp)]; omega))) (lc (lI (by first | rfl | omega)) (lc rfl (lc rfl (lc rfl (lc rfl rfl))))))) ?_
              exact ih37 (j + 1) (some h) ((allN t 1000 ((beR t (beh t (Int.toNat (pac))) j) + 1) : Nat)) (beR t ((beR t (beh t (Int.toNat (pac))) j) + 1) (allN t 1000 ((beR t (beh t (Int.toNat (pac))) j) + 1))) ((appN t 1000 (beR t ((beR t (beh t (Int.toNat (pac))) j) + 1) (allN t 1000 ((beR t (beh t (Int.toNat (pac))) j) + 1))) : Nat)) (by omega) (by omega)
            · have ej : j = j0 := by
                apply Classical.byContradiction
                intro q
                have hm2 := rcN_mono t nu pa ix pac (show j + 1 ≤ j0 by omega)
                simp only [rcN] at hm2
                rw [if_pos hr1] at hm2
                omega
              subst ej
              refine mv_aloadR_n B d_Maker_writeBrings_85 rfl 4 rfl ?_
              refine mv_aloadR_n B d_Maker_writeBrings_86 rfl 4 rfl ?_
              refine gf_Maker_36 B mW_mk rfl d_Maker_writeBrings_87 ?_
              refine mv_iload B d_Maker_writeBrings_90 0 rfl ?_
              refine mv_iadd B d_Maker_writeBrings_92 ?_
              refine mv_iconst (z := 1) B d_Maker_writeBrings_93 rfl ?_
              refine mv_iconst (z := 1) B d_Maker_writeBrings_94 rfl ?_
              refine ca_Maker_58 (mc := 0) (ms := 0) (As := [.int (iI (pac + (j : Nat))), .int (iI (1)), .int (iI (1))]) (rest := []) B (m_Maker_lift hB hτ) rfl rfl ⟨Nat.le_of_ble_eq_true rfl, Nat.le_of_ble_eq_true rfl⟩ mW_mk rfl rfl (Nat.le_of_ble_eq_true rfl) d_Maker_writeBrings_95 ⟨by omega, by omega⟩ (mv_x ?_)
              show mv_G X Q (kk V) 7 98 [(6, .int (iI ((j : Nat)))), (5, .int (iI ((rcN t nu pa ix pac j : Nat)))), (4, .int (iI (beR t (beh t (Int.toNat (pac))) j))), (3, .ref fm), (0, .ref mk), (1, .ref c), (2, .int (iI ((k : Nat))))] [] (mX V M mk rd dep tg q τ XS (dC dep (some h) ((allN t 1000 ((beR t (beh t (Int.toNat (pac))) j) + 1) : Nat)) (beR t ((beR t (beh t (Int.toNat (pac))) j) + 1) (allN t 1000 ((beR t (beh t (Int.toNat (pac))) j) + 1))) ((appN t 1000 (beR t ((beR t (beh t (Int.toNat (pac))) j) + 1) (allN t 1000 ((beR t (beh t (Int.toNat (pac))) j) + 1))) : Nat))) (opD tg t δ) (some h) pac (pac + (j : Nat)) 1 1) 0 0
              refine mv_aloadR_n B d_Maker_writeBrings_98 rfl 4 rfl ?_
              refine mv_aloadR_n B d_Maker_writeBrings_99 rfl 3 rfl ?_
              refine mv_iconst (z := 5) B d_Maker_writeBrings_100 rfl ?_
              refine mv_iload B d_Maker_writeBrings_101 2 rfl ?_
              refine mv_iconst (z := 1) B d_Maker_writeBrings_103 rfl ?_
              refine mv_iadd B d_Maker_writeBrings_104 ?_
              refine mv_aloadR_n B d_Maker_writeBrings_105 rfl 4 rfl ?_
              refine gf_Maker_36 B mW_mk rfl d_Maker_writeBrings_106 ?_
              refine mv_iload B d_Maker_writeBrings_109 0 rfl ?_
              refine mv_iadd B d_Maker_writeBrings_111 ?_
              refine mv_iconst (z := 1) B d_Maker_writeBrings_112 rfl ?_
              refine mv_iadd B d_Maker_writeBrings_113 ?_
              refine mv_iconst (z := 0) B d_Maker_writeBrings_114 rfl ?_
              refine ca_Maker_62 (mc := 0) (ms := 0) (As := [.ref fm, .int (iI (5)), .int (iI ((beR t (beh t (Int.toNat (pac))) j) + 1)), .int (iI ((pac + (j : Nat)) + 1)), .int (iI (0))]) (rest := []) B (m_Maker_writeBrought (fa := fa) (co := co) (tl := tl) hB hτ hS hδ hg (by omega) (by omega) (by omega) (by omega) (by omega) (by omega) (by omega) hl (by omega)) rfl rfl ⟨Nat.le_of_ble_eq_true rfl, Nat.le_of_ble_eq_true rfl⟩ mW_mk rfl rfl (Nat.le_of_ble_eq_true rfl) d_Maker_writeBrings_115 ⟨by omega, by omega⟩ (mv_x ?_)
              show mv_G X Q (kk V) 7 118 [(6, .int (iI ((j : Nat)))), (5, .int (iI ((rcN t nu pa ix pac j : Nat)))), (4, .int (iI (beR t (beh t (Int.toNat (pac))) j))), (3, .ref fm), (0, .ref mk), (1, .ref c), (2, .int (iI ((k : Nat))))] [] (mX V M mk rd dep tg q τ (XS ++ brL t (opD tg t δ) pac (pac + (j : Nat)) 1 1 (5) ix ((beR t (beh t (Int.toNat (pac))) j) + 1) ((pac + (j : Nat)) + 1) (0) (allN t 1000 ((beR t (beh t (Int.toNat (pac))) j) + 1)) ((beR t ((beR t (beh t (Int.toNat (pac))) j) + 1) (allN t 1000 ((beR t (beh t (Int.toNat (pac))) j) + 1))) + ((appN t 1000 (beR t ((beR t (beh t (Int.toNat (pac))) j) + 1) (allN t 1000 ((beR t (beh t (Int.toNat (pac))) j) + 1))) : Nat)) + 1 + pa) (Int.toNat ((beR t ((beR t (beh t (Int.toNat (pac))) j) + 1) (allN t 1000 ((beR t (beh t (Int.toNat (pac))) j) + 1))) + dAt t (beR t ((beR t (beh t (Int.toNat (pac))) j) + 1) (allN t 1000 ((beR t (beh t (Int.toNat (pac))) j) + 1))) - ((beR t ((beR t (beh t (Int.toNat (pac))) j) + 1) (allN t 1000 ((beR t (beh t (Int.toNat (pac))) j) + 1))) + ((appN t 1000 (beR t ((beR t (beh t (Int.toNat (pac))) j) + 1) (allN t 1000 ((beR t (beh t (Int.toNat (pac))) j) + 1))) : Nat)) + 1 + pa)))) (dC dep (some h) ((allN t 1000 ((beR t (beh t (Int.toNat (pac))) j) + 1) : Nat)) (beR t ((beR t (beh t (Int.toNat (pac))) j) + 1) (allN t 1000 ((beR t (beh t (Int.toNat (pac))) j) + 1))) ((appN t 1000 (beR t ((beR t (beh t (Int.toNat (pac))) j) + 1) (allN t 1000 ((beR t (beh t (Int.toNat (pac))) j) + 1))) : Nat))) (opD tg t δ) (some h) pac (pac + (j : Nat)) 1 1) 0 0
              rw [hQ]
              exact mv_vret B ⟨rfl, rfl⟩ (by omega) (by omega) d_Maker_writeBrings_118
    refine mv_lv (lv' := [(6, .int (iI ((0 : Nat)))), (5, .int (iI ((rcN t nu pa ix pac 0 : Nat)))), (4, .int (iI (beR t (beh t (Int.toNat (pac))) 0))), (3, .ref fm), (0, .ref mk), (1, .ref c), (2, .int (iI ((k : Nat))))]) [0, 1, 2, 3, 4, 5, 6] (lc (lI (by first | rfl | omega)) (lc (lI (by first | rfl | omega)) (lc (lI (by first | rfl | omega)) (lc rfl (lc rfl (lc rfl (lc rfl rfl))))))) ?_
    exact L37 _ 0 tm al0 fo0 ap0 (by omega) (Nat.lt_succ_self _)
