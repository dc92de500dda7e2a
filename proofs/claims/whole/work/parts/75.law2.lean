/-! THE LAW'S CASES. Of the room no number is used but that it is at least this: the rows stand at any larger one -/
theorem rm_c : 8000 ≤ room_1.cells := Nat.le_of_ble_eq_true rfl
theorem rm_s : 6080000 ≤ room_1.slots := Nat.le_of_ble_eq_true rfl
theorem lC {l : Launch} {y : MethodName} {ws : List Cond} {rm : Room} {V : mv_V} {av : List Value} {M1 M2 : mv_M} {mc ms x : Nat} {ans : Int} {S' : SS} (h : Met l y ws rm (mv_Pre (kk (vF V M2)) av M1) (mv_Q (kk (vF V M2)) (fun z0 M' => z0 = some (.int (iI ans)) ∧ ClsP (vF V M2) M' x S')) mc ms (vF V M2).2.2.2.2) (hd : mv_dj M1 M2) : Met l y ws rm (mv_Pre (kk V) av (mv_or M1 M2)) (mv_Q (kk V) (fun z0 M' => z0 = some (.int (iI ans)) ∧ ∃ M1', ClsP V M1' x S' ∧ mv_dj M1' M2 ∧ M' = mv_or M1' M2)) mc ms V.2.2.2.2 :=
  mv_post (mv_fr h hd) (fun v M' ⟨M1', ⟨a, b⟩, c, d⟩ => ⟨a, M1', b, c, d⟩)
theorem lR {l : Launch} {y : MethodName} {ws : List Cond} {V : mv_V} {av : List Value} {M1 M2 : mv_M} {r cap lq fr lo : Nat} {ans : Int} {S' : SS} (h : RCall l (vF V M1) M2 r cap lq y ws fr lo av ans S') (hd : mv_dj M1 M2) : ∃ cap' lq', cap ≤ cap' ∧ lq ≤ lq' ∧ RefK cap' lq' S' ∧ Met l y ws (rM fr (pC cap' lq' - pC cap lq) (pS cap' lq' - pS cap lq) lo) (mv_Pre (kk V) av (mv_or M1 M2)) (mv_Q (kk V) (fun z0 M' => z0 = some (.int (iI ans)) ∧ ∃ M2', RefP V M2' r cap' lq' S' ∧ mv_dj M1 M2' ∧ M' = mv_or M1 M2')) (pC cap' lq' - pC cap lq) (pS cap' lq' - pS cap lq) V.2.2.2.2 := by
  obtain ⟨cap', lq', h1, h2, h3, h4⟩ := h
  refine ⟨cap', lq', h1, h2, h3, ?_⟩
  rw [mv_or_c hd]
  exact mv_post (mv_fr h4 (mv_dj_s hd)) (fun v M' ⟨M2', ⟨a, b⟩, c, d⟩ => ⟨a, M2', b, mv_dj_s c, by rw [d, mv_or_c c]⟩)
theorem pC_bd {cap lq : Nat} {S : SS} (h : RefK cap lq S) : pC cap lq ≤ 110 ∧ pS cap lq ≤ 4008000 := by
  have k := pC_le h.2.2.1 h.2.2.2.2.1
  have e1 : pC 400000 4000 ≤ 110 := by decide +kernel
  have e2 : pS 400000 4000 ≤ 4008000 := by decide +kernel
  omega
theorem mv_eqs {X : mv_X} {Q : State → Prop} {K : mv_K} {nL pc : Nat} {lv : List (Nat × Value)} {st : List Value} {M : mv_M} {cells slots : Nat} {cc : ByteArray} {Ts : List Cond} {own nm : String} {ret : Option FieldType} {rm : Room} (B : mv_B X K cc Ts own nL ret rm nm) {v : Int32} {off : Int} {tgt : Nat} (hdg : decode cc pc = .ok (.if_icmp .eq off, 3)) (ht : (pc : Int) + off = (tgt : Int)) (k : mv_G X Q K nL tgt lv st M cells slots) : mv_G X Q K nL pc lv (.int v :: .int v :: st) M cells slots := by
  obtain ⟨p, l, e, R, s, m, args, below, meth, c⟩ := X
  obtain ⟨hx, hb, -⟩ := B
  intro H locs ls hH hS hl
  exact lv_icmp_eq hx hb hdg ht (fun _ => k H locs ls hH hS hl) (fun z => absurd rfl z)
set_option maxRecDepth 100000 in
set_option maxHeartbeats 4000000 in
theorem lw_k0 {X : mv_X} {Q : State → Prop} {V : mv_V} {v0 : Cond} {nm : String} (B : mv_B X (kk V) code (v0 :: mw) "FamilyRulesLaw" 4 ret room_1 nm) {b L : Nat} {xs : Nat → Int32} (hX : va_X b L xs X.2.2.2.2.1 X.2.2.2.2.1.heap) (hbl : b < X.2.2.2.2.1.heap.size) (hbA : ¬ V.2.2.2.2 b) (hL : L ≤ 2560) {i x r cap lq : Nat} {M1 M2 : mv_M} {S : SS} (hi : i + 5 ≤ L) (hP : ClsP V M1 x S) (hR : RefP V M2 r cap lq S) (hK : RefK cap lq S) (hd : mv_dj M1 M2) (k : ∀ (M1' M2' : mv_M) (S' : SS) (cap' lq' : Nat), ClsP V M1' x S' → RefP V M2' r cap' lq' S' → RefK cap' lq' S' → mv_dj M1' M2' → mv_G X Q (kk V) 4 539 [(3, .int (iI (((i : Nat) : Int)))), (0, .ref b), (1, .ref x), (2, .ref r)] [] (mv_or M1' M2') (pC cap' lq' + 3 * i + 44) (pS cap' lq' + 801 * i + 14004)) : mv_G X Q (kk V) 4 100 [(3, .int (iI (((i : Nat) : Int)))), (0, .ref b), (1, .ref x), (2, .ref r)] [] (mv_or M1 M2) (pC cap lq + 3 * i + 30) (pS cap lq + 801 * i + 10000) := by
  obtain ⟨sh, rg, rd, mk, trow, grow, dep, hT, tq, tt, ga, ca, f, gf, hPc⟩ : ClsP (vF V M2) M1 x S := hP
  obtain ⟨A, F, hRC, -⟩ := id hR
  have hJ : Jv S := hK.2.2.2.2.2
  have hrc := rm_c
  have hrs := rm_s
  have hpb0 := pC_bd hK
  refine mv_aloadR_n B d_Law_law_100 rfl 2 rfl ?_
  refine mv_aloadR_n B d_Law_law_101 rfl 1 rfl ?_
  refine mv_iload_n B d_Law_law_102 rfl 0 rfl ?_
  refine mv_iconst (z := 1) B d_Law_law_103 rfl ?_
  refine mv_iadd B d_Law_law_104 ?_
  refine mv_sld B hX hbl hbA (by omega) (by omega) (by omega) d_Law_law_105 ?_
  refine mv_aloadR_n B d_Law_law_106 rfl 1 rfl ?_
  refine mv_iload_n B d_Law_law_107 rfl 0 rfl ?_
  refine mv_iconst (z := 2) B d_Law_law_108 rfl ?_
  refine mv_iadd B d_Law_law_109 ?_
  refine mv_sld B hX hbl hbA (by omega) (by omega) (by omega) d_Law_law_110 ?_
  refine mv_aloadR_n B d_Law_law_111 rfl 1 rfl ?_
  refine mv_iload_n B d_Law_law_112 rfl 0 rfl ?_
  refine mv_iconst (z := 3) B d_Law_law_113 rfl ?_
  refine mv_iadd B d_Law_law_114 ?_
  refine mv_sld B hX hbl hbA (by omega) (by omega) (by omega) d_Law_law_115 ?_
  have hmc := lC (m_Fam_leaf (l := X.2.1) (V := vF V M2) (M := M1) hPc hJ (iI_r (xs (Int.toNat (((i : Nat) : Int) + 1)))) (iI_r (xs (Int.toNat (((i : Nat) : Int) + 2)))) (iI_r (xs (Int.toNat (((i : Nat) : Int) + 3))))) hd
  refine ca_Law_13 (mc := 5) (ms := 4004) (rm' := rM 4 5 4004 110) (As := [.int (iI ((xs (Int.toNat (((i : Nat) : Int) + 1))).toInt)), .int (iI ((xs (Int.toNat (((i : Nat) : Int) + 2))).toInt)), .int (iI ((xs (Int.toNat (((i : Nat) : Int) + 3))).toInt))]) (rest := []) B hmc rfl rfl ⟨Nat.le_of_ble_eq_true rfl, Nat.le_of_ble_eq_true rfl⟩ (mv_or_l hPc.1.1) rfl rfl (Nat.le_of_ble_eq_true rfl) d_Law_law_116 ⟨by omega, by omega⟩ (fun v1 Mz ep => ?_)
  obtain ⟨e1, M1', hP', hd', eM⟩ := ep
  subst e1
  subst eM
  show mv_G X Q (kk V) 4 119 [(3, .int (iI (((i : Nat) : Int)))), (0, .ref b), (1, .ref x), (2, .ref r)] [.int (iI (aLf S ((xs (Int.toNat (((i : Nat) : Int) + 1))).toInt) ((xs (Int.toNat (((i : Nat) : Int) + 2))).toInt) ((xs (Int.toNat (((i : Nat) : Int) + 3))).toInt)))] (mv_or M1' M2) ((pC cap lq + 3 * i + 30) + 5) ((pS cap lq + 801 * i + 10000) + 4004)
  refine mv_aloadR_n B d_Law_law_119 rfl 3 rfl ?_
  refine mv_aloadR_n B d_Law_law_120 rfl 1 rfl ?_
  refine mv_iload_n B d_Law_law_121 rfl 0 rfl ?_
  refine mv_iconst (z := 1) B d_Law_law_122 rfl ?_
  refine mv_iadd B d_Law_law_123 ?_
  refine mv_sld B hX hbl hbA (by omega) (by omega) (by omega) d_Law_law_124 ?_
  refine mv_aloadR_n B d_Law_law_125 rfl 1 rfl ?_
  refine mv_iload_n B d_Law_law_126 rfl 0 rfl ?_
  refine mv_iconst (z := 2) B d_Law_law_127 rfl ?_
  refine mv_iadd B d_Law_law_128 ?_
  refine mv_sld B hX hbl hbA (by omega) (by omega) (by omega) d_Law_law_129 ?_
  refine mv_aloadR_n B d_Law_law_130 rfl 1 rfl ?_
  refine mv_iload_n B d_Law_law_131 rfl 0 rfl ?_
  refine mv_iconst (z := 3) B d_Law_law_132 rfl ?_
  refine mv_iadd B d_Law_law_133 ?_
  refine mv_sld B hX hbl hbA (by omega) (by omega) (by omega) d_Law_law_134 ?_
  obtain ⟨cap', lq', hc', hl', hK', hmr⟩ := lR (mR_leaf (l := X.2.1) (V := vF V M1') (M := M2) hR hK (iI_r (xs (Int.toNat (((i : Nat) : Int) + 1)))) (iI_r (xs (Int.toNat (((i : Nat) : Int) + 2)))) (iI_r (xs (Int.toNat (((i : Nat) : Int) + 3))))) hd'
  have hpl := pC_le hc' hl'
  have hpb := pC_bd hK'
  refine ca_Law_17 (mc := pC cap' lq' - pC cap lq) (ms := pS cap' lq' - pS cap lq) (rm' := rM 3 (pC cap' lq' - pC cap lq) (pS cap' lq' - pS cap lq) 110) (As := [.int (iI ((xs (Int.toNat (((i : Nat) : Int) + 1))).toInt)), .int (iI ((xs (Int.toNat (((i : Nat) : Int) + 2))).toInt)), .int (iI ((xs (Int.toNat (((i : Nat) : Int) + 3))).toInt))]) (rest := [.int (iI (aLf S ((xs (Int.toNat (((i : Nat) : Int) + 1))).toInt) ((xs (Int.toNat (((i : Nat) : Int) + 2))).toInt) ((xs (Int.toNat (((i : Nat) : Int) + 3))).toInt)))]) B hmr rfl rfl ⟨Nat.le_of_ble_eq_true rfl, Nat.le_of_ble_eq_true rfl⟩ (mv_or_r hd' hRC.1) rfl rfl (Nat.le_of_ble_eq_true rfl) d_Law_law_135 ⟨by omega, by omega⟩ (fun v2 Mz ep => ?_)
  obtain ⟨e2, M2', hR', hd2, eM⟩ := ep
  subst e2
  subst eM
  show mv_G X Q (kk V) 4 138 [(3, .int (iI (((i : Nat) : Int)))), (0, .ref b), (1, .ref x), (2, .ref r)] [.int (iI (aLf S ((xs (Int.toNat (((i : Nat) : Int) + 1))).toInt) ((xs (Int.toNat (((i : Nat) : Int) + 2))).toInt) ((xs (Int.toNat (((i : Nat) : Int) + 3))).toInt))), .int (iI (aLf S ((xs (Int.toNat (((i : Nat) : Int) + 1))).toInt) ((xs (Int.toNat (((i : Nat) : Int) + 2))).toInt) ((xs (Int.toNat (((i : Nat) : Int) + 3))).toInt)))] (mv_or M1' M2') (((pC cap lq + 3 * i + 30) + 5) + (pC cap' lq' - pC cap lq)) (((pS cap lq + 801 * i + 10000) + 4004) + (pS cap' lq' - pS cap lq))
  refine mv_eqs (tgt := 539) B d_Law_law_138 (by decide) ?_
  exact mv_widen (by omega) (by omega) (k M1' M2' (nLf S ((xs (Int.toNat (((i : Nat) : Int) + 1))).toInt) ((xs (Int.toNat (((i : Nat) : Int) + 2))).toInt) ((xs (Int.toNat (((i : Nat) : Int) + 3))).toInt)) cap' lq' hP' hR' hK' hd2)
set_option maxRecDepth 100000 in
set_option maxHeartbeats 4000000 in
theorem lw_k1 {X : mv_X} {Q : State → Prop} {V : mv_V} {v0 : Cond} {nm : String} (B : mv_B X (kk V) code (v0 :: mw) "FamilyRulesLaw" 4 ret room_1 nm) {b L : Nat} {xs : Nat → Int32} (hX : va_X b L xs X.2.2.2.2.1 X.2.2.2.2.1.heap) (hbl : b < X.2.2.2.2.1.heap.size) (hbA : ¬ V.2.2.2.2 b) (hL : L ≤ 2560) {i x r cap lq : Nat} {M1 M2 : mv_M} {S : SS} (hi : i + 5 ≤ L) (hP : ClsP V M1 x S) (hR : RefP V M2 r cap lq S) (hK : RefK cap lq S) (hd : mv_dj M1 M2) (k : ∀ (M1' M2' : mv_M) (S' : SS) (cap' lq' : Nat), ClsP V M1' x S' → RefP V M2' r cap' lq' S' → RefK cap' lq' S' → mv_dj M1' M2' → mv_G X Q (kk V) 4 539 [(3, .int (iI (((i : Nat) : Int)))), (0, .ref b), (1, .ref x), (2, .ref r)] [] (mv_or M1' M2') (pC cap' lq' + 3 * i + 44) (pS cap' lq' + 801 * i + 14004)) : mv_G X Q (kk V) 4 143 [(3, .int (iI (((i : Nat) : Int)))), (0, .ref b), (1, .ref x), (2, .ref r)] [] (mv_or M1 M2) (pC cap lq + 3 * i + 30) (pS cap lq + 801 * i + 10000) := by
  obtain ⟨sh, rg, rd, mk, trow, grow, dep, hT, tq, tt, ga, ca, f, gf, hPc⟩ : ClsP (vF V M2) M1 x S := hP
  obtain ⟨A, F, hRC, -⟩ := id hR
  have hJ : Jv S := hK.2.2.2.2.2
  have hrc := rm_c
  have hrs := rm_s
  have hpb0 := pC_bd hK
  refine mv_aloadR_n B d_Law_law_143 rfl 2 rfl ?_
  refine mv_aloadR_n B d_Law_law_144 rfl 1 rfl ?_
  refine mv_iload_n B d_Law_law_145 rfl 0 rfl ?_
  refine mv_iconst (z := 1) B d_Law_law_146 rfl ?_
  refine mv_iadd B d_Law_law_147 ?_
  refine mv_sld B hX hbl hbA (by omega) (by omega) (by omega) d_Law_law_148 ?_
  refine mv_aloadR_n B d_Law_law_149 rfl 1 rfl ?_
  refine mv_iload_n B d_Law_law_150 rfl 0 rfl ?_
  refine mv_iconst (z := 2) B d_Law_law_151 rfl ?_
  refine mv_iadd B d_Law_law_152 ?_
  refine mv_sld B hX hbl hbA (by omega) (by omega) (by omega) d_Law_law_153 ?_
  have hmc := lC (m_Fam_apply (l := X.2.1) (V := vF V M2) (M := M1) hPc hJ (iI_r (xs (Int.toNat (((i : Nat) : Int) + 1)))) (iI_r (xs (Int.toNat (((i : Nat) : Int) + 2))))) hd
  refine ca_Law_18 (mc := 5) (ms := 4004) (rm' := rM 5 5 4004 140) (As := [.int (iI ((xs (Int.toNat (((i : Nat) : Int) + 1))).toInt)), .int (iI ((xs (Int.toNat (((i : Nat) : Int) + 2))).toInt))]) (rest := []) B hmc rfl rfl ⟨Nat.le_of_ble_eq_true rfl, Nat.le_of_ble_eq_true rfl⟩ (mv_or_l hPc.1.1) rfl rfl (Nat.le_of_ble_eq_true rfl) d_Law_law_154 ⟨by omega, by omega⟩ (fun v1 Mz ep => ?_)
  obtain ⟨e1, M1', hP', hd', eM⟩ := ep
  subst e1
  subst eM
  show mv_G X Q (kk V) 4 157 [(3, .int (iI (((i : Nat) : Int)))), (0, .ref b), (1, .ref x), (2, .ref r)] [.int (iI (aTw S 4 0 ((xs (Int.toNat (((i : Nat) : Int) + 1))).toInt) ((xs (Int.toNat (((i : Nat) : Int) + 2))).toInt)))] (mv_or M1' M2) ((pC cap lq + 3 * i + 30) + 5) ((pS cap lq + 801 * i + 10000) + 4004)
  refine mv_aloadR_n B d_Law_law_157 rfl 3 rfl ?_
  refine mv_aloadR_n B d_Law_law_158 rfl 1 rfl ?_
  refine mv_iload_n B d_Law_law_159 rfl 0 rfl ?_
  refine mv_iconst (z := 1) B d_Law_law_160 rfl ?_
  refine mv_iadd B d_Law_law_161 ?_
  refine mv_sld B hX hbl hbA (by omega) (by omega) (by omega) d_Law_law_162 ?_
  refine mv_aloadR_n B d_Law_law_163 rfl 1 rfl ?_
  refine mv_iload_n B d_Law_law_164 rfl 0 rfl ?_
  refine mv_iconst (z := 2) B d_Law_law_165 rfl ?_
  refine mv_iadd B d_Law_law_166 ?_
  refine mv_sld B hX hbl hbA (by omega) (by omega) (by omega) d_Law_law_167 ?_
  obtain ⟨cap', lq', hc', hl', hK', hmr⟩ := lR (mR_apply (l := X.2.1) (V := vF V M1') (M := M2) hR hK (iI_r (xs (Int.toNat (((i : Nat) : Int) + 1)))) (iI_r (xs (Int.toNat (((i : Nat) : Int) + 2))))) hd'
  have hpl := pC_le hc' hl'
  have hpb := pC_bd hK'
  refine ca_Law_22 (mc := pC cap' lq' - pC cap lq) (ms := pS cap' lq' - pS cap lq) (rm' := rM 5 (pC cap' lq' - pC cap lq) (pS cap' lq' - pS cap lq) 170) (As := [.int (iI ((xs (Int.toNat (((i : Nat) : Int) + 1))).toInt)), .int (iI ((xs (Int.toNat (((i : Nat) : Int) + 2))).toInt))]) (rest := [.int (iI (aTw S 4 0 ((xs (Int.toNat (((i : Nat) : Int) + 1))).toInt) ((xs (Int.toNat (((i : Nat) : Int) + 2))).toInt)))]) B hmr rfl rfl ⟨Nat.le_of_ble_eq_true rfl, Nat.le_of_ble_eq_true rfl⟩ (mv_or_r hd' hRC.1) rfl rfl (Nat.le_of_ble_eq_true rfl) d_Law_law_168 ⟨by omega, by omega⟩ (fun v2 Mz ep => ?_)
  obtain ⟨e2, M2', hR', hd2, eM⟩ := ep
  subst e2
  subst eM
  show mv_G X Q (kk V) 4 171 [(3, .int (iI (((i : Nat) : Int)))), (0, .ref b), (1, .ref x), (2, .ref r)] [.int (iI (aTw S 4 0 ((xs (Int.toNat (((i : Nat) : Int) + 1))).toInt) ((xs (Int.toNat (((i : Nat) : Int) + 2))).toInt))), .int (iI (aTw S 4 0 ((xs (Int.toNat (((i : Nat) : Int) + 1))).toInt) ((xs (Int.toNat (((i : Nat) : Int) + 2))).toInt)))] (mv_or M1' M2') (((pC cap lq + 3 * i + 30) + 5) + (pC cap' lq' - pC cap lq)) (((pS cap lq + 801 * i + 10000) + 4004) + (pS cap' lq' - pS cap lq))
  refine mv_eqs (tgt := 539) B d_Law_law_171 (by decide) ?_
  exact mv_widen (by omega) (by omega) (k M1' M2' (nTw S 4 0 ((xs (Int.toNat (((i : Nat) : Int) + 1))).toInt) ((xs (Int.toNat (((i : Nat) : Int) + 2))).toInt)) cap' lq' hP' hR' hK' hd2)
set_option maxRecDepth 100000 in
set_option maxHeartbeats 4000000 in
theorem lw_k2 {X : mv_X} {Q : State → Prop} {V : mv_V} {v0 : Cond} {nm : String} (B : mv_B X (kk V) code (v0 :: mw) "FamilyRulesLaw" 4 ret room_1 nm) {b L : Nat} {xs : Nat → Int32} (hX : va_X b L xs X.2.2.2.2.1 X.2.2.2.2.1.heap) (hbl : b < X.2.2.2.2.1.heap.size) (hbA : ¬ V.2.2.2.2 b) (hL : L ≤ 2560) {i x r cap lq : Nat} {M1 M2 : mv_M} {S : SS} (hi : i + 5 ≤ L) (hP : ClsP V M1 x S) (hR : RefP V M2 r cap lq S) (hK : RefK cap lq S) (hd : mv_dj M1 M2) (k : ∀ (M1' M2' : mv_M) (S' : SS) (cap' lq' : Nat), ClsP V M1' x S' → RefP V M2' r cap' lq' S' → RefK cap' lq' S' → mv_dj M1' M2' → mv_G X Q (kk V) 4 539 [(3, .int (iI (((i : Nat) : Int)))), (0, .ref b), (1, .ref x), (2, .ref r)] [] (mv_or M1' M2') (pC cap' lq' + 3 * i + 44) (pS cap' lq' + 801 * i + 14004)) : mv_G X Q (kk V) 4 176 [(3, .int (iI (((i : Nat) : Int)))), (0, .ref b), (1, .ref x), (2, .ref r)] [] (mv_or M1 M2) (pC cap lq + 3 * i + 30) (pS cap lq + 801 * i + 10000) := by
  obtain ⟨sh, rg, rd, mk, trow, grow, dep, hT, tq, tt, ga, ca, f, gf, hPc⟩ : ClsP (vF V M2) M1 x S := hP
  obtain ⟨A, F, hRC, -⟩ := id hR
  have hJ : Jv S := hK.2.2.2.2.2
  have hrc := rm_c
  have hrs := rm_s
  have hpb0 := pC_bd hK
  refine mv_aloadR_n B d_Law_law_176 rfl 2 rfl ?_
  refine mv_aloadR_n B d_Law_law_177 rfl 1 rfl ?_
  refine mv_iload_n B d_Law_law_178 rfl 0 rfl ?_
  refine mv_iconst (z := 1) B d_Law_law_179 rfl ?_
  refine mv_iadd B d_Law_law_180 ?_
  refine mv_sld B hX hbl hbA (by omega) (by omega) (by omega) d_Law_law_181 ?_
  refine mv_aloadR_n B d_Law_law_182 rfl 1 rfl ?_
  refine mv_iload_n B d_Law_law_183 rfl 0 rfl ?_
  refine mv_iconst (z := 2) B d_Law_law_184 rfl ?_
  refine mv_iadd B d_Law_law_185 ?_
  refine mv_sld B hX hbl hbA (by omega) (by omega) (by omega) d_Law_law_186 ?_
  refine mv_aloadR_n B d_Law_law_187 rfl 1 rfl ?_
  refine mv_iload_n B d_Law_law_188 rfl 0 rfl ?_
  refine mv_iconst (z := 3) B d_Law_law_189 rfl ?_
  refine mv_iadd B d_Law_law_190 ?_
  refine mv_sld B hX hbl hbA (by omega) (by omega) (by omega) d_Law_law_191 ?_
  refine mv_aloadR_n B d_Law_law_192 rfl 1 rfl ?_
  refine mv_iload_n B d_Law_law_193 rfl 0 rfl ?_
  refine mv_iconst (z := 4) B d_Law_law_194 rfl ?_
  refine mv_iadd B d_Law_law_195 ?_
  refine mv_sld B hX hbl hbA (by omega) (by omega) (by omega) d_Law_law_196 ?_
  have hmc := lC (m_Fam_binder (l := X.2.1) (V := vF V M2) (M := M1) hPc hJ (iI_r (xs (Int.toNat (((i : Nat) : Int) + 1)))) (iI_r (xs (Int.toNat (((i : Nat) : Int) + 2)))) (iI_r (xs (Int.toNat (((i : Nat) : Int) + 3)))) (iI_r (xs (Int.toNat (((i : Nat) : Int) + 4))))) hd
  refine ca_Law_23 (mc := 5) (ms := 4004) (rm' := rM 5 5 4004 140) (As := [.int (iI ((xs (Int.toNat (((i : Nat) : Int) + 1))).toInt)), .int (iI ((xs (Int.toNat (((i : Nat) : Int) + 2))).toInt)), .int (iI ((xs (Int.toNat (((i : Nat) : Int) + 3))).toInt)), .int (iI ((xs (Int.toNat (((i : Nat) : Int) + 4))).toInt))]) (rest := []) B hmc rfl rfl ⟨Nat.le_of_ble_eq_true rfl, Nat.le_of_ble_eq_true rfl⟩ (mv_or_l hPc.1.1) rfl rfl (Nat.le_of_ble_eq_true rfl) d_Law_law_197 ⟨by omega, by omega⟩ (fun v1 Mz ep => ?_)
  obtain ⟨e1, M1', hP', hd', eM⟩ := ep
  subst e1
  subst eM
  show mv_G X Q (kk V) 4 200 [(3, .int (iI (((i : Nat) : Int)))), (0, .ref b), (1, .ref x), (2, .ref r)] [.int (iI (aBi S ((xs (Int.toNat (((i : Nat) : Int) + 1))).toInt) ((xs (Int.toNat (((i : Nat) : Int) + 2))).toInt) ((xs (Int.toNat (((i : Nat) : Int) + 3))).toInt) ((xs (Int.toNat (((i : Nat) : Int) + 4))).toInt)))] (mv_or M1' M2) ((pC cap lq + 3 * i + 30) + 5) ((pS cap lq + 801 * i + 10000) + 4004)
  refine mv_aloadR_n B d_Law_law_200 rfl 3 rfl ?_
  refine mv_aloadR_n B d_Law_law_201 rfl 1 rfl ?_
  refine mv_iload_n B d_Law_law_202 rfl 0 rfl ?_
  refine mv_iconst (z := 1) B d_Law_law_203 rfl ?_
  refine mv_iadd B d_Law_law_204 ?_
  refine mv_sld B hX hbl hbA (by omega) (by omega) (by omega) d_Law_law_205 ?_
  refine mv_aloadR_n B d_Law_law_206 rfl 1 rfl ?_
  refine mv_iload_n B d_Law_law_207 rfl 0 rfl ?_
  refine mv_iconst (z := 2) B d_Law_law_208 rfl ?_
  refine mv_iadd B d_Law_law_209 ?_
  refine mv_sld B hX hbl hbA (by omega) (by omega) (by omega) d_Law_law_210 ?_
  refine mv_aloadR_n B d_Law_law_211 rfl 1 rfl ?_
  refine mv_iload_n B d_Law_law_212 rfl 0 rfl ?_
  refine mv_iconst (z := 3) B d_Law_law_213 rfl ?_
  refine mv_iadd B d_Law_law_214 ?_
  refine mv_sld B hX hbl hbA (by omega) (by omega) (by omega) d_Law_law_215 ?_
  refine mv_aloadR_n B d_Law_law_216 rfl 1 rfl ?_
  refine mv_iload_n B d_Law_law_217 rfl 0 rfl ?_
  refine mv_iconst (z := 4) B d_Law_law_218 rfl ?_
  refine mv_iadd B d_Law_law_219 ?_
  refine mv_sld B hX hbl hbA (by omega) (by omega) (by omega) d_Law_law_220 ?_
  obtain ⟨cap', lq', hc', hl', hK', hmr⟩ := lR (mR_binder (l := X.2.1) (V := vF V M1') (M := M2) hR hK (iI_r (xs (Int.toNat (((i : Nat) : Int) + 1)))) (iI_r (xs (Int.toNat (((i : Nat) : Int) + 2)))) (iI_r (xs (Int.toNat (((i : Nat) : Int) + 3)))) (iI_r (xs (Int.toNat (((i : Nat) : Int) + 4))))) hd'
  have hpl := pC_le hc' hl'
  have hpb := pC_bd hK'
  refine ca_Law_27 (mc := pC cap' lq' - pC cap lq) (ms := pS cap' lq' - pS cap lq) (rm' := rM 5 (pC cap' lq' - pC cap lq) (pS cap' lq' - pS cap lq) 170) (As := [.int (iI ((xs (Int.toNat (((i : Nat) : Int) + 1))).toInt)), .int (iI ((xs (Int.toNat (((i : Nat) : Int) + 2))).toInt)), .int (iI ((xs (Int.toNat (((i : Nat) : Int) + 3))).toInt)), .int (iI ((xs (Int.toNat (((i : Nat) : Int) + 4))).toInt))]) (rest := [.int (iI (aBi S ((xs (Int.toNat (((i : Nat) : Int) + 1))).toInt) ((xs (Int.toNat (((i : Nat) : Int) + 2))).toInt) ((xs (Int.toNat (((i : Nat) : Int) + 3))).toInt) ((xs (Int.toNat (((i : Nat) : Int) + 4))).toInt)))]) B hmr rfl rfl ⟨Nat.le_of_ble_eq_true rfl, Nat.le_of_ble_eq_true rfl⟩ (mv_or_r hd' hRC.1) rfl rfl (Nat.le_of_ble_eq_true rfl) d_Law_law_221 ⟨by omega, by omega⟩ (fun v2 Mz ep => ?_)
  obtain ⟨e2, M2', hR', hd2, eM⟩ := ep
  subst e2
  subst eM
  show mv_G X Q (kk V) 4 224 [(3, .int (iI (((i : Nat) : Int)))), (0, .ref b), (1, .ref x), (2, .ref r)] [.int (iI (aBi S ((xs (Int.toNat (((i : Nat) : Int) + 1))).toInt) ((xs (Int.toNat (((i : Nat) : Int) + 2))).toInt) ((xs (Int.toNat (((i : Nat) : Int) + 3))).toInt) ((xs (Int.toNat (((i : Nat) : Int) + 4))).toInt))), .int (iI (aBi S ((xs (Int.toNat (((i : Nat) : Int) + 1))).toInt) ((xs (Int.toNat (((i : Nat) : Int) + 2))).toInt) ((xs (Int.toNat (((i : Nat) : Int) + 3))).toInt) ((xs (Int.toNat (((i : Nat) : Int) + 4))).toInt)))] (mv_or M1' M2') (((pC cap lq + 3 * i + 30) + 5) + (pC cap' lq' - pC cap lq)) (((pS cap lq + 801 * i + 10000) + 4004) + (pS cap' lq' - pS cap lq))
  refine mv_eqs (tgt := 539) B d_Law_law_224 (by decide) ?_
  exact mv_widen (by omega) (by omega) (k M1' M2' (nBi S ((xs (Int.toNat (((i : Nat) : Int) + 1))).toInt) ((xs (Int.toNat (((i : Nat) : Int) + 2))).toInt) ((xs (Int.toNat (((i : Nat) : Int) + 3))).toInt) ((xs (Int.toNat (((i : Nat) : Int) + 4))).toInt)) cap' lq' hP' hR' hK' hd2)
set_option maxRecDepth 100000 in
set_option maxHeartbeats 4000000 in
theorem lw_k3 {X : mv_X} {Q : State → Prop} {V : mv_V} {v0 : Cond} {nm : String} (B : mv_B X (kk V) code (v0 :: mw) "FamilyRulesLaw" 4 ret room_1 nm) {b L : Nat} {xs : Nat → Int32} (hX : va_X b L xs X.2.2.2.2.1 X.2.2.2.2.1.heap) (hbl : b < X.2.2.2.2.1.heap.size) (hbA : ¬ V.2.2.2.2 b) (hL : L ≤ 2560) {i x r cap lq : Nat} {M1 M2 : mv_M} {S : SS} (hi : i + 5 ≤ L) (hP : ClsP V M1 x S) (hR : RefP V M2 r cap lq S) (hK : RefK cap lq S) (hd : mv_dj M1 M2) (k : ∀ (M1' M2' : mv_M) (S' : SS) (cap' lq' : Nat), ClsP V M1' x S' → RefP V M2' r cap' lq' S' → RefK cap' lq' S' → mv_dj M1' M2' → mv_G X Q (kk V) 4 539 [(3, .int (iI (((i : Nat) : Int)))), (0, .ref b), (1, .ref x), (2, .ref r)] [] (mv_or M1' M2') (pC cap' lq' + 3 * i + 44) (pS cap' lq' + 801 * i + 14004)) : mv_G X Q (kk V) 4 229 [(3, .int (iI (((i : Nat) : Int)))), (0, .ref b), (1, .ref x), (2, .ref r)] [] (mv_or M1 M2) (pC cap lq + 3 * i + 30) (pS cap lq + 801 * i + 10000) := by
  obtain ⟨sh, rg, rd, mk, trow, grow, dep, hT, tq, tt, ga, ca, f, gf, hPc⟩ : ClsP (vF V M2) M1 x S := hP
  obtain ⟨A, F, hRC, -⟩ := id hR
  have hJ : Jv S := hK.2.2.2.2.2
  have hrc := rm_c
  have hrs := rm_s
  have hpb0 := pC_bd hK
  refine mv_aloadR_n B d_Law_law_229 rfl 2 rfl ?_
  have hmc := lC (m_Fam_axiom (l := X.2.1) (V := vF V M2) (M := M1) hPc hJ ) hd
  refine ca_Law_28 (mc := 1) (ms := 10) (rm' := rM 3 1 10 80) (As := []) (rest := []) B hmc rfl rfl ⟨Nat.le_of_ble_eq_true rfl, Nat.le_of_ble_eq_true rfl⟩ (mv_or_l hPc.1.1) rfl rfl (Nat.le_of_ble_eq_true rfl) d_Law_law_230 ⟨by omega, by omega⟩ (fun v1 Mz ep => ?_)
  obtain ⟨e1, M1', hP', hd', eM⟩ := ep
  subst e1
  subst eM
  show mv_G X Q (kk V) 4 233 [(3, .int (iI (((i : Nat) : Int)))), (0, .ref b), (1, .ref x), (2, .ref r)] [.int (iI (aAx S))] (mv_or M1' M2) ((pC cap lq + 3 * i + 30) + 1) ((pS cap lq + 801 * i + 10000) + 10)
  refine mv_aloadR_n B d_Law_law_233 rfl 3 rfl ?_
  obtain ⟨cap', lq', hc', hl', hK', hmr⟩ := lR (mR_axiom (l := X.2.1) (V := vF V M1') (M := M2) hR hK ) hd'
  have hpl := pC_le hc' hl'
  have hpb := pC_bd hK'
  refine ca_Law_32 (mc := pC cap' lq' - pC cap lq) (ms := pS cap' lq' - pS cap lq) (rm' := rM 1 (pC cap' lq' - pC cap lq) (pS cap' lq' - pS cap lq) 30) (As := []) (rest := [.int (iI (aAx S))]) B hmr rfl rfl ⟨Nat.le_of_ble_eq_true rfl, Nat.le_of_ble_eq_true rfl⟩ (mv_or_r hd' hRC.1) rfl rfl (Nat.le_of_ble_eq_true rfl) d_Law_law_234 ⟨by omega, by omega⟩ (fun v2 Mz ep => ?_)
  obtain ⟨e2, M2', hR', hd2, eM⟩ := ep
  subst e2
  subst eM
  show mv_G X Q (kk V) 4 237 [(3, .int (iI (((i : Nat) : Int)))), (0, .ref b), (1, .ref x), (2, .ref r)] [.int (iI (aAx S)), .int (iI (aAx S))] (mv_or M1' M2') (((pC cap lq + 3 * i + 30) + 1) + (pC cap' lq' - pC cap lq)) (((pS cap lq + 801 * i + 10000) + 10) + (pS cap' lq' - pS cap lq))
  refine mv_eqs (tgt := 539) B d_Law_law_237 (by decide) ?_
  exact mv_widen (by omega) (by omega) (k M1' M2' (nAx S) cap' lq' hP' hR' hK' hd2)
set_option maxRecDepth 100000 in
set_option maxHeartbeats 4000000 in
theorem lw_k4 {X : mv_X} {Q : State → Prop} {V : mv_V} {v0 : Cond} {nm : String} (B : mv_B X (kk V) code (v0 :: mw) "FamilyRulesLaw" 4 ret room_1 nm) {b L : Nat} {xs : Nat → Int32} (hX : va_X b L xs X.2.2.2.2.1 X.2.2.2.2.1.heap) (hbl : b < X.2.2.2.2.1.heap.size) (hbA : ¬ V.2.2.2.2 b) (hL : L ≤ 2560) {i x r cap lq : Nat} {M1 M2 : mv_M} {S : SS} (hi : i + 5 ≤ L) (hP : ClsP V M1 x S) (hR : RefP V M2 r cap lq S) (hK : RefK cap lq S) (hd : mv_dj M1 M2) (k : ∀ (M1' M2' : mv_M) (S' : SS) (cap' lq' : Nat), ClsP V M1' x S' → RefP V M2' r cap' lq' S' → RefK cap' lq' S' → mv_dj M1' M2' → mv_G X Q (kk V) 4 539 [(3, .int (iI (((i : Nat) : Int)))), (0, .ref b), (1, .ref x), (2, .ref r)] [] (mv_or M1' M2') (pC cap' lq' + 3 * i + 44) (pS cap' lq' + 801 * i + 14004)) : mv_G X Q (kk V) 4 242 [(3, .int (iI (((i : Nat) : Int)))), (0, .ref b), (1, .ref x), (2, .ref r)] [] (mv_or M1 M2) (pC cap lq + 3 * i + 30) (pS cap lq + 801 * i + 10000) := by
  obtain ⟨sh, rg, rd, mk, trow, grow, dep, hT, tq, tt, ga, ca, f, gf, hPc⟩ : ClsP (vF V M2) M1 x S := hP
  obtain ⟨A, F, hRC, -⟩ := id hR
  have hJ : Jv S := hK.2.2.2.2.2
  have hrc := rm_c
  have hrs := rm_s
  have hpb0 := pC_bd hK
  refine mv_aloadR_n B d_Law_law_242 rfl 2 rfl ?_
  refine mv_aloadR_n B d_Law_law_243 rfl 1 rfl ?_
  refine mv_iload_n B d_Law_law_244 rfl 0 rfl ?_
  refine mv_iconst (z := 1) B d_Law_law_245 rfl ?_
  refine mv_iadd B d_Law_law_246 ?_
  refine mv_sld B hX hbl hbA (by omega) (by omega) (by omega) d_Law_law_247 ?_
  refine mv_aloadR_n B d_Law_law_248 rfl 1 rfl ?_
  refine mv_iload_n B d_Law_law_249 rfl 0 rfl ?_
  refine mv_iconst (z := 2) B d_Law_law_250 rfl ?_
  refine mv_iadd B d_Law_law_251 ?_
  refine mv_sld B hX hbl hbA (by omega) (by omega) (by omega) d_Law_law_252 ?_
  refine mv_aloadR_n B d_Law_law_253 rfl 1 rfl ?_
  refine mv_iload_n B d_Law_law_254 rfl 0 rfl ?_
  refine mv_iconst (z := 3) B d_Law_law_255 rfl ?_
  refine mv_iadd B d_Law_law_256 ?_
  refine mv_sld B hX hbl hbA (by omega) (by omega) (by omega) d_Law_law_257 ?_
  have hmc := lC (m_Fam_family (l := X.2.1) (V := vF V M2) (M := M1) hPc hJ (iI_r (xs (Int.toNat (((i : Nat) : Int) + 1)))) (iI_r (xs (Int.toNat (((i : Nat) : Int) + 2)))) (iI_r (xs (Int.toNat (((i : Nat) : Int) + 3))))) hd
  refine ca_Law_33 (mc := 14) (ms := 142) (rm' := rM 4 14 142 110) (As := [.int (iI ((xs (Int.toNat (((i : Nat) : Int) + 1))).toInt)), .int (iI ((xs (Int.toNat (((i : Nat) : Int) + 2))).toInt)), .int (iI ((xs (Int.toNat (((i : Nat) : Int) + 3))).toInt))]) (rest := []) B hmc rfl rfl ⟨Nat.le_of_ble_eq_true rfl, Nat.le_of_ble_eq_true rfl⟩ (mv_or_l hPc.1.1) rfl rfl (Nat.le_of_ble_eq_true rfl) d_Law_law_258 ⟨by omega, by omega⟩ (fun v1 Mz ep => ?_)
  obtain ⟨e1, M1', hP', hd', eM⟩ := ep
  subst e1
  subst eM
  show mv_G X Q (kk V) 4 261 [(3, .int (iI (((i : Nat) : Int)))), (0, .ref b), (1, .ref x), (2, .ref r)] [.int (iI (aFm S ((xs (Int.toNat (((i : Nat) : Int) + 1))).toInt) ((xs (Int.toNat (((i : Nat) : Int) + 2))).toInt) ((xs (Int.toNat (((i : Nat) : Int) + 3))).toInt)))] (mv_or M1' M2) ((pC cap lq + 3 * i + 30) + 14) ((pS cap lq + 801 * i + 10000) + 142)
  refine mv_aloadR_n B d_Law_law_261 rfl 3 rfl ?_
  refine mv_aloadR_n B d_Law_law_262 rfl 1 rfl ?_
  refine mv_iload_n B d_Law_law_263 rfl 0 rfl ?_
  refine mv_iconst (z := 1) B d_Law_law_264 rfl ?_
  refine mv_iadd B d_Law_law_265 ?_
  refine mv_sld B hX hbl hbA (by omega) (by omega) (by omega) d_Law_law_266 ?_
  refine mv_aloadR_n B d_Law_law_267 rfl 1 rfl ?_
  refine mv_iload_n B d_Law_law_268 rfl 0 rfl ?_
  refine mv_iconst (z := 2) B d_Law_law_269 rfl ?_
  refine mv_iadd B d_Law_law_270 ?_
  refine mv_sld B hX hbl hbA (by omega) (by omega) (by omega) d_Law_law_271 ?_
  refine mv_aloadR_n B d_Law_law_272 rfl 1 rfl ?_
  refine mv_iload_n B d_Law_law_273 rfl 0 rfl ?_
  refine mv_iconst (z := 3) B d_Law_law_274 rfl ?_
  refine mv_iadd B d_Law_law_275 ?_
  refine mv_sld B hX hbl hbA (by omega) (by omega) (by omega) d_Law_law_276 ?_
  obtain ⟨cap', lq', hc', hl', hK', hmr⟩ := lR (mR_family (l := X.2.1) (V := vF V M1') (M := M2) hR hK (iI_r (xs (Int.toNat (((i : Nat) : Int) + 1)))) (iI_r (xs (Int.toNat (((i : Nat) : Int) + 2)))) (iI_r (xs (Int.toNat (((i : Nat) : Int) + 3))))) hd'
  have hpl := pC_le hc' hl'
  have hpb := pC_bd hK'
  refine ca_Law_36 (mc := pC cap' lq' - pC cap lq) (ms := pS cap' lq' - pS cap lq) (rm' := rM 3 (pC cap' lq' - pC cap lq) (pS cap' lq' - pS cap lq) 80) (As := [.int (iI ((xs (Int.toNat (((i : Nat) : Int) + 1))).toInt)), .int (iI ((xs (Int.toNat (((i : Nat) : Int) + 2))).toInt)), .int (iI ((xs (Int.toNat (((i : Nat) : Int) + 3))).toInt))]) (rest := [.int (iI (aFm S ((xs (Int.toNat (((i : Nat) : Int) + 1))).toInt) ((xs (Int.toNat (((i : Nat) : Int) + 2))).toInt) ((xs (Int.toNat (((i : Nat) : Int) + 3))).toInt)))]) B hmr rfl rfl ⟨Nat.le_of_ble_eq_true rfl, Nat.le_of_ble_eq_true rfl⟩ (mv_or_r hd' hRC.1) rfl rfl (Nat.le_of_ble_eq_true rfl) d_Law_law_277 ⟨by omega, by omega⟩ (fun v2 Mz ep => ?_)
  obtain ⟨e2, M2', hR', hd2, eM⟩ := ep
  subst e2
  subst eM
  show mv_G X Q (kk V) 4 280 [(3, .int (iI (((i : Nat) : Int)))), (0, .ref b), (1, .ref x), (2, .ref r)] [.int (iI (aFm S ((xs (Int.toNat (((i : Nat) : Int) + 1))).toInt) ((xs (Int.toNat (((i : Nat) : Int) + 2))).toInt) ((xs (Int.toNat (((i : Nat) : Int) + 3))).toInt))), .int (iI (aFm S ((xs (Int.toNat (((i : Nat) : Int) + 1))).toInt) ((xs (Int.toNat (((i : Nat) : Int) + 2))).toInt) ((xs (Int.toNat (((i : Nat) : Int) + 3))).toInt)))] (mv_or M1' M2') (((pC cap lq + 3 * i + 30) + 14) + (pC cap' lq' - pC cap lq)) (((pS cap lq + 801 * i + 10000) + 142) + (pS cap' lq' - pS cap lq))
  refine mv_eqs (tgt := 539) B d_Law_law_280 (by decide) ?_
  exact mv_widen (by omega) (by omega) (k M1' M2' (nFm S ((xs (Int.toNat (((i : Nat) : Int) + 1))).toInt) ((xs (Int.toNat (((i : Nat) : Int) + 2))).toInt) ((xs (Int.toNat (((i : Nat) : Int) + 3))).toInt)) cap' lq' hP' hR' hK' hd2)
set_option maxRecDepth 100000 in
set_option maxHeartbeats 4000000 in
theorem lw_k5 {X : mv_X} {Q : State → Prop} {V : mv_V} {v0 : Cond} {nm : String} (B : mv_B X (kk V) code (v0 :: mw) "FamilyRulesLaw" 4 ret room_1 nm) {b L : Nat} {xs : Nat → Int32} (hX : va_X b L xs X.2.2.2.2.1 X.2.2.2.2.1.heap) (hbl : b < X.2.2.2.2.1.heap.size) (hbA : ¬ V.2.2.2.2 b) (hL : L ≤ 2560) {i x r cap lq : Nat} {M1 M2 : mv_M} {S : SS} (hi : i + 5 ≤ L) (hP : ClsP V M1 x S) (hR : RefP V M2 r cap lq S) (hK : RefK cap lq S) (hd : mv_dj M1 M2) (k : ∀ (M1' M2' : mv_M) (S' : SS) (cap' lq' : Nat), ClsP V M1' x S' → RefP V M2' r cap' lq' S' → RefK cap' lq' S' → mv_dj M1' M2' → mv_G X Q (kk V) 4 539 [(3, .int (iI (((i : Nat) : Int)))), (0, .ref b), (1, .ref x), (2, .ref r)] [] (mv_or M1' M2') (pC cap' lq' + 3 * i + 44) (pS cap' lq' + 801 * i + 14004)) : mv_G X Q (kk V) 4 285 [(3, .int (iI (((i : Nat) : Int)))), (0, .ref b), (1, .ref x), (2, .ref r)] [] (mv_or M1 M2) (pC cap lq + 3 * i + 30) (pS cap lq + 801 * i + 10000) := by
  obtain ⟨sh, rg, rd, mk, trow, grow, dep, hT, tq, tt, ga, ca, f, gf, hPc⟩ : ClsP (vF V M2) M1 x S := hP
  obtain ⟨A, F, hRC, -⟩ := id hR
  have hJ : Jv S := hK.2.2.2.2.2
  have hrc := rm_c
  have hrs := rm_s
  have hpb0 := pC_bd hK
  refine mv_aloadR_n B d_Law_law_285 rfl 2 rfl ?_
  refine mv_aloadR_n B d_Law_law_286 rfl 1 rfl ?_
  refine mv_iload_n B d_Law_law_287 rfl 0 rfl ?_
  refine mv_iconst (z := 1) B d_Law_law_288 rfl ?_
  refine mv_iadd B d_Law_law_289 ?_
  refine mv_sld B hX hbl hbA (by omega) (by omega) (by omega) d_Law_law_290 ?_
  refine mv_aloadR_n B d_Law_law_291 rfl 1 rfl ?_
  refine mv_iload_n B d_Law_law_292 rfl 0 rfl ?_
  refine mv_iconst (z := 2) B d_Law_law_293 rfl ?_
  refine mv_iadd B d_Law_law_294 ?_
  refine mv_sld B hX hbl hbA (by omega) (by omega) (by omega) d_Law_law_295 ?_
  have hmc := lC (m_Fam_constructor (l := X.2.1) (V := vF V M2) (M := M1) hPc hJ (iI_r (xs (Int.toNat (((i : Nat) : Int) + 1)))) (iI_r (xs (Int.toNat (((i : Nat) : Int) + 2))))) hd
  refine ca_Law_37 (mc := 0) (ms := 0) (rm' := rM 5 0 0 130) (As := [.int (iI ((xs (Int.toNat (((i : Nat) : Int) + 1))).toInt)), .int (iI ((xs (Int.toNat (((i : Nat) : Int) + 2))).toInt))]) (rest := []) B hmc rfl rfl ⟨Nat.le_of_ble_eq_true rfl, Nat.le_of_ble_eq_true rfl⟩ (mv_or_l hPc.1.1) rfl rfl (Nat.le_of_ble_eq_true rfl) d_Law_law_296 ⟨by omega, by omega⟩ (fun v1 Mz ep => ?_)
  obtain ⟨e1, M1', hP', hd', eM⟩ := ep
  subst e1
  subst eM
  show mv_G X Q (kk V) 4 299 [(3, .int (iI (((i : Nat) : Int)))), (0, .ref b), (1, .ref x), (2, .ref r)] [.int (iI (aCo S ((xs (Int.toNat (((i : Nat) : Int) + 1))).toInt) ((xs (Int.toNat (((i : Nat) : Int) + 2))).toInt)))] (mv_or M1' M2) ((pC cap lq + 3 * i + 30) + 0) ((pS cap lq + 801 * i + 10000) + 0)
  refine mv_aloadR_n B d_Law_law_299 rfl 3 rfl ?_
  refine mv_aloadR_n B d_Law_law_300 rfl 1 rfl ?_
  refine mv_iload_n B d_Law_law_301 rfl 0 rfl ?_
  refine mv_iconst (z := 1) B d_Law_law_302 rfl ?_
  refine mv_iadd B d_Law_law_303 ?_
  refine mv_sld B hX hbl hbA (by omega) (by omega) (by omega) d_Law_law_304 ?_
  refine mv_aloadR_n B d_Law_law_305 rfl 1 rfl ?_
  refine mv_iload_n B d_Law_law_306 rfl 0 rfl ?_
  refine mv_iconst (z := 2) B d_Law_law_307 rfl ?_
  refine mv_iadd B d_Law_law_308 ?_
  refine mv_sld B hX hbl hbA (by omega) (by omega) (by omega) d_Law_law_309 ?_
  obtain ⟨cap', lq', hc', hl', hK', hmr⟩ := lR (mR_constructor (l := X.2.1) (V := vF V M1') (M := M2) hR hK (iI_r (xs (Int.toNat (((i : Nat) : Int) + 1)))) (iI_r (xs (Int.toNat (((i : Nat) : Int) + 2))))) hd'
  have hpl := pC_le hc' hl'
  have hpb := pC_bd hK'
  refine ca_Law_40 (mc := pC cap' lq' - pC cap lq) (ms := pS cap' lq' - pS cap lq) (rm' := rM 3 (pC cap' lq' - pC cap lq) (pS cap' lq' - pS cap lq) 90) (As := [.int (iI ((xs (Int.toNat (((i : Nat) : Int) + 1))).toInt)), .int (iI ((xs (Int.toNat (((i : Nat) : Int) + 2))).toInt))]) (rest := [.int (iI (aCo S ((xs (Int.toNat (((i : Nat) : Int) + 1))).toInt) ((xs (Int.toNat (((i : Nat) : Int) + 2))).toInt)))]) B hmr rfl rfl ⟨Nat.le_of_ble_eq_true rfl, Nat.le_of_ble_eq_true rfl⟩ (mv_or_r hd' hRC.1) rfl rfl (Nat.le_of_ble_eq_true rfl) d_Law_law_310 ⟨by omega, by omega⟩ (fun v2 Mz ep => ?_)
  obtain ⟨e2, M2', hR', hd2, eM⟩ := ep
  subst e2
  subst eM
  show mv_G X Q (kk V) 4 313 [(3, .int (iI (((i : Nat) : Int)))), (0, .ref b), (1, .ref x), (2, .ref r)] [.int (iI (aCo S ((xs (Int.toNat (((i : Nat) : Int) + 1))).toInt) ((xs (Int.toNat (((i : Nat) : Int) + 2))).toInt))), .int (iI (aCo S ((xs (Int.toNat (((i : Nat) : Int) + 1))).toInt) ((xs (Int.toNat (((i : Nat) : Int) + 2))).toInt)))] (mv_or M1' M2') (((pC cap lq + 3 * i + 30) + 0) + (pC cap' lq' - pC cap lq)) (((pS cap lq + 801 * i + 10000) + 0) + (pS cap' lq' - pS cap lq))
  refine mv_eqs (tgt := 539) B d_Law_law_313 (by decide) ?_
  exact mv_widen (by omega) (by omega) (k M1' M2' (nCo S ((xs (Int.toNat (((i : Nat) : Int) + 1))).toInt) ((xs (Int.toNat (((i : Nat) : Int) + 2))).toInt)) cap' lq' hP' hR' hK' hd2)
set_option maxRecDepth 100000 in
set_option maxHeartbeats 4000000 in
theorem lw_k6 {X : mv_X} {Q : State → Prop} {V : mv_V} {v0 : Cond} {nm : String} (B : mv_B X (kk V) code (v0 :: mw) "FamilyRulesLaw" 4 ret room_1 nm) {b L : Nat} {xs : Nat → Int32} (hX : va_X b L xs X.2.2.2.2.1 X.2.2.2.2.1.heap) (hbl : b < X.2.2.2.2.1.heap.size) (hbA : ¬ V.2.2.2.2 b) (hL : L ≤ 2560) {i x r cap lq : Nat} {M1 M2 : mv_M} {S : SS} (hi : i + 5 ≤ L) (hP : ClsP V M1 x S) (hR : RefP V M2 r cap lq S) (hK : RefK cap lq S) (hd : mv_dj M1 M2) (k : ∀ (M1' M2' : mv_M) (S' : SS) (cap' lq' : Nat), ClsP V M1' x S' → RefP V M2' r cap' lq' S' → RefK cap' lq' S' → mv_dj M1' M2' → mv_G X Q (kk V) 4 539 [(3, .int (iI (((i : Nat) : Int)))), (0, .ref b), (1, .ref x), (2, .ref r)] [] (mv_or M1' M2') (pC cap' lq' + 3 * i + 44) (pS cap' lq' + 801 * i + 14004)) : mv_G X Q (kk V) 4 318 [(3, .int (iI (((i : Nat) : Int)))), (0, .ref b), (1, .ref x), (2, .ref r)] [] (mv_or M1 M2) (pC cap lq + 3 * i + 30) (pS cap lq + 801 * i + 10000) := by
  obtain ⟨sh, rg, rd, mk, trow, grow, dep, hT, tq, tt, ga, ca, f, gf, hPc⟩ : ClsP (vF V M2) M1 x S := hP
  obtain ⟨A, F, hRC, -⟩ := id hR
  have hJ : Jv S := hK.2.2.2.2.2
  have hrc := rm_c
  have hrs := rm_s
  have hpb0 := pC_bd hK
  refine mv_aloadR_n B d_Law_law_318 rfl 2 rfl ?_
  refine mv_aloadR_n B d_Law_law_319 rfl 1 rfl ?_
  refine mv_iload_n B d_Law_law_320 rfl 0 rfl ?_
  refine mv_iconst (z := 1) B d_Law_law_321 rfl ?_
  refine mv_iadd B d_Law_law_322 ?_
  refine mv_sld B hX hbl hbA (by omega) (by omega) (by omega) d_Law_law_323 ?_
  refine mv_aloadR_n B d_Law_law_324 rfl 1 rfl ?_
  refine mv_iload_n B d_Law_law_325 rfl 0 rfl ?_
  refine mv_iconst (z := 2) B d_Law_law_326 rfl ?_
  refine mv_iadd B d_Law_law_327 ?_
  refine mv_sld B hX hbl hbA (by omega) (by omega) (by omega) d_Law_law_328 ?_
  have hmc := lC (mv_post (m_Fam_about (l := X.2.1) (V := vF V M2) (M := M1) hPc hJ (iI_r (xs (Int.toNat (((i : Nat) : Int) + 1)))) (iI_r (xs (Int.toNat (((i : Nat) : Int) + 2))))) (q := fun z0 M' => z0 = some (.int (iI (aAb S ((xs (Int.toNat (((i : Nat) : Int) + 1))).toInt) ((xs (Int.toNat (((i : Nat) : Int) + 2))).toInt)))) ∧ ClsP (vF V M2) M' x S) (fun v M' e => ⟨e.1, by rw [e.2]; exact ⟨_, _, _, _, _, _, _, _, _, _, _, _, _, _, hPc⟩⟩)) hd
  refine ca_Law_41 (mc := 0) (ms := 0) (rm' := rM 1 0 0 21) (As := [.int (iI ((xs (Int.toNat (((i : Nat) : Int) + 1))).toInt)), .int (iI ((xs (Int.toNat (((i : Nat) : Int) + 2))).toInt))]) (rest := []) B hmc rfl rfl ⟨Nat.le_of_ble_eq_true rfl, Nat.le_of_ble_eq_true rfl⟩ (mv_or_l hPc.1.1) rfl rfl (Nat.le_of_ble_eq_true rfl) d_Law_law_329 ⟨by omega, by omega⟩ (fun v1 Mz ep => ?_)
  obtain ⟨e1, M1', hP', hd', eM⟩ := ep
  subst e1
  subst eM
  show mv_G X Q (kk V) 4 332 [(3, .int (iI (((i : Nat) : Int)))), (0, .ref b), (1, .ref x), (2, .ref r)] [.int (iI (aAb S ((xs (Int.toNat (((i : Nat) : Int) + 1))).toInt) ((xs (Int.toNat (((i : Nat) : Int) + 2))).toInt)))] (mv_or M1' M2) ((pC cap lq + 3 * i + 30) + 0) ((pS cap lq + 801 * i + 10000) + 0)
  refine mv_aloadR_n B d_Law_law_332 rfl 3 rfl ?_
  refine mv_aloadR_n B d_Law_law_333 rfl 1 rfl ?_
  refine mv_iload_n B d_Law_law_334 rfl 0 rfl ?_
  refine mv_iconst (z := 1) B d_Law_law_335 rfl ?_
  refine mv_iadd B d_Law_law_336 ?_
  refine mv_sld B hX hbl hbA (by omega) (by omega) (by omega) d_Law_law_337 ?_
  refine mv_aloadR_n B d_Law_law_338 rfl 1 rfl ?_
  refine mv_iload_n B d_Law_law_339 rfl 0 rfl ?_
  refine mv_iconst (z := 2) B d_Law_law_340 rfl ?_
  refine mv_iadd B d_Law_law_341 ?_
  refine mv_sld B hX hbl hbA (by omega) (by omega) (by omega) d_Law_law_342 ?_
  obtain ⟨cap', lq', hc', hl', hK', hmr⟩ := lR (mR_about (l := X.2.1) (V := vF V M1') (M := M2) hR hK (iI_r (xs (Int.toNat (((i : Nat) : Int) + 1)))) (iI_r (xs (Int.toNat (((i : Nat) : Int) + 2))))) hd'
  have hpl := pC_le hc' hl'
  have hpb := pC_bd hK'
  refine ca_Law_44 (mc := pC cap' lq' - pC cap lq) (ms := pS cap' lq' - pS cap lq) (rm' := rM 0 (pC cap' lq' - pC cap lq) (pS cap' lq' - pS cap lq) 0) (As := [.int (iI ((xs (Int.toNat (((i : Nat) : Int) + 1))).toInt)), .int (iI ((xs (Int.toNat (((i : Nat) : Int) + 2))).toInt))]) (rest := [.int (iI (aAb S ((xs (Int.toNat (((i : Nat) : Int) + 1))).toInt) ((xs (Int.toNat (((i : Nat) : Int) + 2))).toInt)))]) B hmr rfl rfl ⟨Nat.le_of_ble_eq_true rfl, Nat.le_of_ble_eq_true rfl⟩ (mv_or_r hd' hRC.1) rfl rfl (Nat.le_of_ble_eq_true rfl) d_Law_law_343 ⟨by omega, by omega⟩ (fun v2 Mz ep => ?_)
  obtain ⟨e2, M2', hR', hd2, eM⟩ := ep
  subst e2
  subst eM
  show mv_G X Q (kk V) 4 346 [(3, .int (iI (((i : Nat) : Int)))), (0, .ref b), (1, .ref x), (2, .ref r)] [.int (iI (aAb S ((xs (Int.toNat (((i : Nat) : Int) + 1))).toInt) ((xs (Int.toNat (((i : Nat) : Int) + 2))).toInt))), .int (iI (aAb S ((xs (Int.toNat (((i : Nat) : Int) + 1))).toInt) ((xs (Int.toNat (((i : Nat) : Int) + 2))).toInt)))] (mv_or M1' M2') (((pC cap lq + 3 * i + 30) + 0) + (pC cap' lq' - pC cap lq)) (((pS cap lq + 801 * i + 10000) + 0) + (pS cap' lq' - pS cap lq))
  refine mv_eqs (tgt := 539) B d_Law_law_346 (by decide) ?_
  exact mv_widen (by omega) (by omega) (k M1' M2' (S) cap' lq' hP' hR' hK' hd2)
set_option maxRecDepth 100000 in
set_option maxHeartbeats 4000000 in
theorem lw_k7 {X : mv_X} {Q : State → Prop} {V : mv_V} {v0 : Cond} {nm : String} (B : mv_B X (kk V) code (v0 :: mw) "FamilyRulesLaw" 4 ret room_1 nm) {b L : Nat} {xs : Nat → Int32} (hX : va_X b L xs X.2.2.2.2.1 X.2.2.2.2.1.heap) (hbl : b < X.2.2.2.2.1.heap.size) (hbA : ¬ V.2.2.2.2 b) (hL : L ≤ 2560) {i x r cap lq : Nat} {M1 M2 : mv_M} {S : SS} (hi : i + 5 ≤ L) (hP : ClsP V M1 x S) (hR : RefP V M2 r cap lq S) (hK : RefK cap lq S) (hd : mv_dj M1 M2) (k : ∀ (M1' M2' : mv_M) (S' : SS) (cap' lq' : Nat), ClsP V M1' x S' → RefP V M2' r cap' lq' S' → RefK cap' lq' S' → mv_dj M1' M2' → mv_G X Q (kk V) 4 539 [(3, .int (iI (((i : Nat) : Int)))), (0, .ref b), (1, .ref x), (2, .ref r)] [] (mv_or M1' M2') (pC cap' lq' + 3 * i + 44) (pS cap' lq' + 801 * i + 14004)) : mv_G X Q (kk V) 4 351 [(3, .int (iI (((i : Nat) : Int)))), (0, .ref b), (1, .ref x), (2, .ref r)] [] (mv_or M1 M2) (pC cap lq + 3 * i + 30) (pS cap lq + 801 * i + 10000) := by
  obtain ⟨sh, rg, rd, mk, trow, grow, dep, hT, tq, tt, ga, ca, f, gf, hPc⟩ : ClsP (vF V M2) M1 x S := hP
  obtain ⟨A, F, hRC, -⟩ := id hR
  have hJ : Jv S := hK.2.2.2.2.2
  have hrc := rm_c
  have hrs := rm_s
  have hpb0 := pC_bd hK
  refine mv_aloadR_n B d_Law_law_351 rfl 2 rfl ?_
  refine mv_aloadR_n B d_Law_law_352 rfl 1 rfl ?_
  refine mv_iload_n B d_Law_law_353 rfl 0 rfl ?_
  refine mv_iconst (z := 1) B d_Law_law_354 rfl ?_
  refine mv_iadd B d_Law_law_355 ?_
  refine mv_sld B hX hbl hbA (by omega) (by omega) (by omega) d_Law_law_356 ?_
  refine mv_aloadR_n B d_Law_law_357 rfl 1 rfl ?_
  refine mv_iload_n B d_Law_law_358 rfl 0 rfl ?_
  refine mv_iconst (z := 2) B d_Law_law_359 rfl ?_
  refine mv_iadd B d_Law_law_360 ?_
  refine mv_sld B hX hbl hbA (by omega) (by omega) (by omega) d_Law_law_361 ?_
  refine mv_aloadR_n B d_Law_law_362 rfl 1 rfl ?_
  refine mv_iload_n B d_Law_law_363 rfl 0 rfl ?_
  refine mv_iconst (z := 3) B d_Law_law_364 rfl ?_
  refine mv_iadd B d_Law_law_365 ?_
  refine mv_sld B hX hbl hbA (by omega) (by omega) (by omega) d_Law_law_366 ?_
  have hmc := lC (m_Fam_positive (l := X.2.1) (V := vF V M2) (M := M1) hPc hJ (iI_r (xs (Int.toNat (((i : Nat) : Int) + 1)))) (iI_r (xs (Int.toNat (((i : Nat) : Int) + 2)))) (iI_r (xs (Int.toNat (((i : Nat) : Int) + 3))))) hd
  refine ca_Law_45 (mc := 0) (ms := 0) (rm' := rM 4 0 0 95) (As := [.int (iI ((xs (Int.toNat (((i : Nat) : Int) + 1))).toInt)), .int (iI ((xs (Int.toNat (((i : Nat) : Int) + 2))).toInt)), .int (iI ((xs (Int.toNat (((i : Nat) : Int) + 3))).toInt))]) (rest := []) B hmc rfl rfl ⟨Nat.le_of_ble_eq_true rfl, Nat.le_of_ble_eq_true rfl⟩ (mv_or_l hPc.1.1) rfl rfl (Nat.le_of_ble_eq_true rfl) d_Law_law_367 ⟨by omega, by omega⟩ (fun v1 Mz ep => ?_)
  obtain ⟨e1, M1', hP', hd', eM⟩ := ep
  subst e1
  subst eM
  show mv_G X Q (kk V) 4 370 [(3, .int (iI (((i : Nat) : Int)))), (0, .ref b), (1, .ref x), (2, .ref r)] [.int (iI (aPo S ((xs (Int.toNat (((i : Nat) : Int) + 1))).toInt) ((xs (Int.toNat (((i : Nat) : Int) + 2))).toInt) ((xs (Int.toNat (((i : Nat) : Int) + 3))).toInt)))] (mv_or M1' M2) ((pC cap lq + 3 * i + 30) + 0) ((pS cap lq + 801 * i + 10000) + 0)
  refine mv_aloadR_n B d_Law_law_370 rfl 3 rfl ?_
  refine mv_aloadR_n B d_Law_law_371 rfl 1 rfl ?_
  refine mv_iload_n B d_Law_law_372 rfl 0 rfl ?_
  refine mv_iconst (z := 1) B d_Law_law_373 rfl ?_
  refine mv_iadd B d_Law_law_374 ?_
  refine mv_sld B hX hbl hbA (by omega) (by omega) (by omega) d_Law_law_375 ?_
  refine mv_aloadR_n B d_Law_law_376 rfl 1 rfl ?_
  refine mv_iload_n B d_Law_law_377 rfl 0 rfl ?_
  refine mv_iconst (z := 2) B d_Law_law_378 rfl ?_
  refine mv_iadd B d_Law_law_379 ?_
  refine mv_sld B hX hbl hbA (by omega) (by omega) (by omega) d_Law_law_380 ?_
  refine mv_aloadR_n B d_Law_law_381 rfl 1 rfl ?_
  refine mv_iload_n B d_Law_law_382 rfl 0 rfl ?_
  refine mv_iconst (z := 3) B d_Law_law_383 rfl ?_
  refine mv_iadd B d_Law_law_384 ?_
  refine mv_sld B hX hbl hbA (by omega) (by omega) (by omega) d_Law_law_385 ?_
  obtain ⟨cap', lq', hc', hl', hK', hmr⟩ := lR (mR_positive (l := X.2.1) (V := vF V M1') (M := M2) hR hK (iI_r (xs (Int.toNat (((i : Nat) : Int) + 1)))) (iI_r (xs (Int.toNat (((i : Nat) : Int) + 2)))) (iI_r (xs (Int.toNat (((i : Nat) : Int) + 3))))) hd'
  have hpl := pC_le hc' hl'
  have hpb := pC_bd hK'
  refine ca_Law_48 (mc := pC cap' lq' - pC cap lq) (ms := pS cap' lq' - pS cap lq) (rm' := rM 3 (pC cap' lq' - pC cap lq) (pS cap' lq' - pS cap lq) 90) (As := [.int (iI ((xs (Int.toNat (((i : Nat) : Int) + 1))).toInt)), .int (iI ((xs (Int.toNat (((i : Nat) : Int) + 2))).toInt)), .int (iI ((xs (Int.toNat (((i : Nat) : Int) + 3))).toInt))]) (rest := [.int (iI (aPo S ((xs (Int.toNat (((i : Nat) : Int) + 1))).toInt) ((xs (Int.toNat (((i : Nat) : Int) + 2))).toInt) ((xs (Int.toNat (((i : Nat) : Int) + 3))).toInt)))]) B hmr rfl rfl ⟨Nat.le_of_ble_eq_true rfl, Nat.le_of_ble_eq_true rfl⟩ (mv_or_r hd' hRC.1) rfl rfl (Nat.le_of_ble_eq_true rfl) d_Law_law_386 ⟨by omega, by omega⟩ (fun v2 Mz ep => ?_)
  obtain ⟨e2, M2', hR', hd2, eM⟩ := ep
  subst e2
  subst eM
  show mv_G X Q (kk V) 4 389 [(3, .int (iI (((i : Nat) : Int)))), (0, .ref b), (1, .ref x), (2, .ref r)] [.int (iI (aPo S ((xs (Int.toNat (((i : Nat) : Int) + 1))).toInt) ((xs (Int.toNat (((i : Nat) : Int) + 2))).toInt) ((xs (Int.toNat (((i : Nat) : Int) + 3))).toInt))), .int (iI (aPo S ((xs (Int.toNat (((i : Nat) : Int) + 1))).toInt) ((xs (Int.toNat (((i : Nat) : Int) + 2))).toInt) ((xs (Int.toNat (((i : Nat) : Int) + 3))).toInt)))] (mv_or M1' M2') (((pC cap lq + 3 * i + 30) + 0) + (pC cap' lq' - pC cap lq)) (((pS cap lq + 801 * i + 10000) + 0) + (pS cap' lq' - pS cap lq))
  refine mv_eqs (tgt := 539) B d_Law_law_389 (by decide) ?_
  exact mv_widen (by omega) (by omega) (k M1' M2' (S) cap' lq' hP' hR' hK' hd2)
set_option maxRecDepth 100000 in
set_option maxHeartbeats 4000000 in
theorem lw_k8 {X : mv_X} {Q : State → Prop} {V : mv_V} {v0 : Cond} {nm : String} (B : mv_B X (kk V) code (v0 :: mw) "FamilyRulesLaw" 4 ret room_1 nm) {b L : Nat} {xs : Nat → Int32} (hX : va_X b L xs X.2.2.2.2.1 X.2.2.2.2.1.heap) (hbl : b < X.2.2.2.2.1.heap.size) (hbA : ¬ V.2.2.2.2 b) (hL : L ≤ 2560) {i x r cap lq : Nat} {M1 M2 : mv_M} {S : SS} (hi : i + 5 ≤ L) (hP : ClsP V M1 x S) (hR : RefP V M2 r cap lq S) (hK : RefK cap lq S) (hd : mv_dj M1 M2) (k : ∀ (M1' M2' : mv_M) (S' : SS) (cap' lq' : Nat), ClsP V M1' x S' → RefP V M2' r cap' lq' S' → RefK cap' lq' S' → mv_dj M1' M2' → mv_G X Q (kk V) 4 539 [(3, .int (iI (((i : Nat) : Int)))), (0, .ref b), (1, .ref x), (2, .ref r)] [] (mv_or M1' M2') (pC cap' lq' + 3 * i + 44) (pS cap' lq' + 801 * i + 14004)) : mv_G X Q (kk V) 4 394 [(3, .int (iI (((i : Nat) : Int)))), (0, .ref b), (1, .ref x), (2, .ref r)] [] (mv_or M1 M2) (pC cap lq + 3 * i + 30) (pS cap lq + 801 * i + 10000) := by
  obtain ⟨sh, rg, rd, mk, trow, grow, dep, hT, tq, tt, ga, ca, f, gf, hPc⟩ : ClsP (vF V M2) M1 x S := hP
  obtain ⟨A, F, hRC, -⟩ := id hR
  have hJ : Jv S := hK.2.2.2.2.2
  have hrc := rm_c
  have hrs := rm_s
  have hpb0 := pC_bd hK
  refine mv_aloadR_n B d_Law_law_394 rfl 2 rfl ?_
  refine mv_aloadR_n B d_Law_law_395 rfl 1 rfl ?_
  refine mv_iload_n B d_Law_law_396 rfl 0 rfl ?_
  refine mv_iconst (z := 1) B d_Law_law_397 rfl ?_
  refine mv_iadd B d_Law_law_398 ?_
  refine mv_sld B hX hbl hbA (by omega) (by omega) (by omega) d_Law_law_399 ?_
  refine mv_aloadR_n B d_Law_law_400 rfl 1 rfl ?_
  refine mv_iload_n B d_Law_law_401 rfl 0 rfl ?_
  refine mv_iconst (z := 2) B d_Law_law_402 rfl ?_
  refine mv_iadd B d_Law_law_403 ?_
  refine mv_sld B hX hbl hbA (by omega) (by omega) (by omega) d_Law_law_404 ?_
  have hmc := lC (m_Fam_brings (l := X.2.1) (V := vF V M2) (M := M1) hPc hJ (iI_r (xs (Int.toNat (((i : Nat) : Int) + 1)))) (iI_r (xs (Int.toNat (((i : Nat) : Int) + 2))))) hd
  refine ca_Law_49 (mc := 5) (ms := 4004) (rm' := rM 6 5 4004 220) (As := [.int (iI ((xs (Int.toNat (((i : Nat) : Int) + 1))).toInt)), .int (iI ((xs (Int.toNat (((i : Nat) : Int) + 2))).toInt))]) (rest := []) B hmc rfl rfl ⟨Nat.le_of_ble_eq_true rfl, Nat.le_of_ble_eq_true rfl⟩ (mv_or_l hPc.1.1) rfl rfl (Nat.le_of_ble_eq_true rfl) d_Law_law_405 ⟨by omega, by omega⟩ (fun v1 Mz ep => ?_)
  obtain ⟨e1, M1', hP', hd', eM⟩ := ep
  subst e1
  subst eM
  show mv_G X Q (kk V) 4 408 [(3, .int (iI (((i : Nat) : Int)))), (0, .ref b), (1, .ref x), (2, .ref r)] [.int (iI (aBr S ((xs (Int.toNat (((i : Nat) : Int) + 1))).toInt) ((xs (Int.toNat (((i : Nat) : Int) + 2))).toInt)))] (mv_or M1' M2) ((pC cap lq + 3 * i + 30) + 5) ((pS cap lq + 801 * i + 10000) + 4004)
  refine mv_aloadR_n B d_Law_law_408 rfl 3 rfl ?_
  refine mv_aloadR_n B d_Law_law_409 rfl 1 rfl ?_
  refine mv_iload_n B d_Law_law_410 rfl 0 rfl ?_
  refine mv_iconst (z := 1) B d_Law_law_411 rfl ?_
  refine mv_iadd B d_Law_law_412 ?_
  refine mv_sld B hX hbl hbA (by omega) (by omega) (by omega) d_Law_law_413 ?_
  refine mv_aloadR_n B d_Law_law_414 rfl 1 rfl ?_
  refine mv_iload_n B d_Law_law_415 rfl 0 rfl ?_
  refine mv_iconst (z := 2) B d_Law_law_416 rfl ?_
  refine mv_iadd B d_Law_law_417 ?_
  refine mv_sld B hX hbl hbA (by omega) (by omega) (by omega) d_Law_law_418 ?_
  obtain ⟨cap', lq', hc', hl', hK', hmr⟩ := lR (mR_brings (l := X.2.1) (V := vF V M1') (M := M2) hR hK (iI_r (xs (Int.toNat (((i : Nat) : Int) + 1)))) (iI_r (xs (Int.toNat (((i : Nat) : Int) + 2))))) hd'
  have hpl := pC_le hc' hl'
  have hpb := pC_bd hK'
  refine ca_Law_52 (mc := pC cap' lq' - pC cap lq) (ms := pS cap' lq' - pS cap lq) (rm' := rM 7 (pC cap' lq' - pC cap lq) (pS cap' lq' - pS cap lq) 240) (As := [.int (iI ((xs (Int.toNat (((i : Nat) : Int) + 1))).toInt)), .int (iI ((xs (Int.toNat (((i : Nat) : Int) + 2))).toInt))]) (rest := [.int (iI (aBr S ((xs (Int.toNat (((i : Nat) : Int) + 1))).toInt) ((xs (Int.toNat (((i : Nat) : Int) + 2))).toInt)))]) B hmr rfl rfl ⟨Nat.le_of_ble_eq_true rfl, Nat.le_of_ble_eq_true rfl⟩ (mv_or_r hd' hRC.1) rfl rfl (Nat.le_of_ble_eq_true rfl) d_Law_law_419 ⟨by omega, by omega⟩ (fun v2 Mz ep => ?_)
  obtain ⟨e2, M2', hR', hd2, eM⟩ := ep
  subst e2
  subst eM
  show mv_G X Q (kk V) 4 422 [(3, .int (iI (((i : Nat) : Int)))), (0, .ref b), (1, .ref x), (2, .ref r)] [.int (iI (aBr S ((xs (Int.toNat (((i : Nat) : Int) + 1))).toInt) ((xs (Int.toNat (((i : Nat) : Int) + 2))).toInt))), .int (iI (aBr S ((xs (Int.toNat (((i : Nat) : Int) + 1))).toInt) ((xs (Int.toNat (((i : Nat) : Int) + 2))).toInt)))] (mv_or M1' M2') (((pC cap lq + 3 * i + 30) + 5) + (pC cap' lq' - pC cap lq)) (((pS cap lq + 801 * i + 10000) + 4004) + (pS cap' lq' - pS cap lq))
  refine mv_eqs (tgt := 539) B d_Law_law_422 (by decide) ?_
  exact mv_widen (by omega) (by omega) (k M1' M2' (nBr S ((xs (Int.toNat (((i : Nat) : Int) + 1))).toInt) ((xs (Int.toNat (((i : Nat) : Int) + 2))).toInt)) cap' lq' hP' hR' hK' hd2)
set_option maxRecDepth 100000 in
set_option maxHeartbeats 4000000 in
theorem lw_k9 {X : mv_X} {Q : State → Prop} {V : mv_V} {v0 : Cond} {nm : String} (B : mv_B X (kk V) code (v0 :: mw) "FamilyRulesLaw" 4 ret room_1 nm) {b L : Nat} {xs : Nat → Int32} (hX : va_X b L xs X.2.2.2.2.1 X.2.2.2.2.1.heap) (hbl : b < X.2.2.2.2.1.heap.size) (hbA : ¬ V.2.2.2.2 b) (hL : L ≤ 2560) {i x r cap lq : Nat} {M1 M2 : mv_M} {S : SS} (hi : i + 5 ≤ L) (hP : ClsP V M1 x S) (hR : RefP V M2 r cap lq S) (hK : RefK cap lq S) (hd : mv_dj M1 M2) (k : ∀ (M1' M2' : mv_M) (S' : SS) (cap' lq' : Nat), ClsP V M1' x S' → RefP V M2' r cap' lq' S' → RefK cap' lq' S' → mv_dj M1' M2' → mv_G X Q (kk V) 4 539 [(3, .int (iI (((i : Nat) : Int)))), (0, .ref b), (1, .ref x), (2, .ref r)] [] (mv_or M1' M2') (pC cap' lq' + 3 * i + 44) (pS cap' lq' + 801 * i + 14004)) : mv_G X Q (kk V) 4 427 [(3, .int (iI (((i : Nat) : Int)))), (0, .ref b), (1, .ref x), (2, .ref r)] [] (mv_or M1 M2) (pC cap lq + 3 * i + 30) (pS cap lq + 801 * i + 10000) := by
  obtain ⟨sh, rg, rd, mk, trow, grow, dep, hT, tq, tt, ga, ca, f, gf, hPc⟩ : ClsP (vF V M2) M1 x S := hP
  obtain ⟨A, F, hRC, -⟩ := id hR
  have hJ : Jv S := hK.2.2.2.2.2
  have hrc := rm_c
  have hrs := rm_s
  have hpb0 := pC_bd hK
  refine mv_aloadR_n B d_Law_law_427 rfl 2 rfl ?_
  refine mv_aloadR_n B d_Law_law_428 rfl 1 rfl ?_
  refine mv_iload_n B d_Law_law_429 rfl 0 rfl ?_
  refine mv_iconst (z := 1) B d_Law_law_430 rfl ?_
  refine mv_iadd B d_Law_law_431 ?_
  refine mv_sld B hX hbl hbA (by omega) (by omega) (by omega) d_Law_law_432 ?_
  have hmc := lC (m_Fam_size (l := X.2.1) (V := vF V M2) (M := M1) hPc hJ (iI_r (xs (Int.toNat (((i : Nat) : Int) + 1))))) hd
  refine ca_Law_53 (mc := 0) (ms := 0) (rm' := rM 6 0 0 220) (As := [.int (iI ((xs (Int.toNat (((i : Nat) : Int) + 1))).toInt))]) (rest := []) B hmc rfl rfl ⟨Nat.le_of_ble_eq_true rfl, Nat.le_of_ble_eq_true rfl⟩ (mv_or_l hPc.1.1) rfl rfl (Nat.le_of_ble_eq_true rfl) d_Law_law_433 ⟨by omega, by omega⟩ (fun v1 Mz ep => ?_)
  obtain ⟨e1, M1', hP', hd', eM⟩ := ep
  subst e1
  subst eM
  show mv_G X Q (kk V) 4 436 [(3, .int (iI (((i : Nat) : Int)))), (0, .ref b), (1, .ref x), (2, .ref r)] [.int (iI (aSz S ((xs (Int.toNat (((i : Nat) : Int) + 1))).toInt)))] (mv_or M1' M2) ((pC cap lq + 3 * i + 30) + 0) ((pS cap lq + 801 * i + 10000) + 0)
  refine mv_aloadR_n B d_Law_law_436 rfl 3 rfl ?_
  refine mv_aloadR_n B d_Law_law_437 rfl 1 rfl ?_
  refine mv_iload_n B d_Law_law_438 rfl 0 rfl ?_
  refine mv_iconst (z := 1) B d_Law_law_439 rfl ?_
  refine mv_iadd B d_Law_law_440 ?_
  refine mv_sld B hX hbl hbA (by omega) (by omega) (by omega) d_Law_law_441 ?_
  obtain ⟨cap', lq', hc', hl', hK', hmr⟩ := lR (mR_size (l := X.2.1) (V := vF V M1') (M := M2) hR hK (iI_r (xs (Int.toNat (((i : Nat) : Int) + 1))))) hd'
  have hpl := pC_le hc' hl'
  have hpb := pC_bd hK'
  refine ca_Law_57 (mc := pC cap' lq' - pC cap lq) (ms := pS cap' lq' - pS cap lq) (rm' := rM 9 (pC cap' lq' - pC cap lq) (pS cap' lq' - pS cap lq) 320) (As := [.int (iI ((xs (Int.toNat (((i : Nat) : Int) + 1))).toInt))]) (rest := [.int (iI (aSz S ((xs (Int.toNat (((i : Nat) : Int) + 1))).toInt)))]) B hmr rfl rfl ⟨Nat.le_of_ble_eq_true rfl, Nat.le_of_ble_eq_true rfl⟩ (mv_or_r hd' hRC.1) rfl rfl (Nat.le_of_ble_eq_true rfl) d_Law_law_442 ⟨by omega, by omega⟩ (fun v2 Mz ep => ?_)
  obtain ⟨e2, M2', hR', hd2, eM⟩ := ep
  subst e2
  subst eM
  show mv_G X Q (kk V) 4 445 [(3, .int (iI (((i : Nat) : Int)))), (0, .ref b), (1, .ref x), (2, .ref r)] [.int (iI (aSz S ((xs (Int.toNat (((i : Nat) : Int) + 1))).toInt))), .int (iI (aSz S ((xs (Int.toNat (((i : Nat) : Int) + 1))).toInt)))] (mv_or M1' M2') (((pC cap lq + 3 * i + 30) + 0) + (pC cap' lq' - pC cap lq)) (((pS cap lq + 801 * i + 10000) + 0) + (pS cap' lq' - pS cap lq))
  refine mv_eqs (tgt := 539) B d_Law_law_445 (by decide) ?_
  exact mv_widen (by omega) (by omega) (k M1' M2' (S) cap' lq' hP' hR' hK' hd2)
set_option maxRecDepth 100000 in
set_option maxHeartbeats 4000000 in
theorem lw_k10 {X : mv_X} {Q : State → Prop} {V : mv_V} {v0 : Cond} {nm : String} (B : mv_B X (kk V) code (v0 :: mw) "FamilyRulesLaw" 4 ret room_1 nm) {b L : Nat} {xs : Nat → Int32} (hX : va_X b L xs X.2.2.2.2.1 X.2.2.2.2.1.heap) (hbl : b < X.2.2.2.2.1.heap.size) (hbA : ¬ V.2.2.2.2 b) (hL : L ≤ 2560) {i x r cap lq : Nat} {M1 M2 : mv_M} {S : SS} (hi : i + 5 ≤ L) (hP : ClsP V M1 x S) (hR : RefP V M2 r cap lq S) (hK : RefK cap lq S) (hd : mv_dj M1 M2) (k : ∀ (M1' M2' : mv_M) (S' : SS) (cap' lq' : Nat), ClsP V M1' x S' → RefP V M2' r cap' lq' S' → RefK cap' lq' S' → mv_dj M1' M2' → mv_G X Q (kk V) 4 539 [(3, .int (iI (((i : Nat) : Int)))), (0, .ref b), (1, .ref x), (2, .ref r)] [] (mv_or M1' M2') (pC cap' lq' + 3 * i + 44) (pS cap' lq' + 801 * i + 14004)) : mv_G X Q (kk V) 4 450 [(3, .int (iI (((i : Nat) : Int)))), (0, .ref b), (1, .ref x), (2, .ref r)] [] (mv_or M1 M2) (pC cap lq + 3 * i + 30) (pS cap lq + 801 * i + 10000) := by
  obtain ⟨sh, rg, rd, mk, trow, grow, dep, hT, tq, tt, ga, ca, f, gf, hPc⟩ : ClsP (vF V M2) M1 x S := hP
  obtain ⟨A, F, hRC, -⟩ := id hR
  have hJ : Jv S := hK.2.2.2.2.2
  have hrc := rm_c
  have hrs := rm_s
  have hpb0 := pC_bd hK
  refine mv_aloadR_n B d_Law_law_450 rfl 2 rfl ?_
  refine mv_aloadR_n B d_Law_law_451 rfl 1 rfl ?_
  refine mv_iload_n B d_Law_law_452 rfl 0 rfl ?_
  refine mv_iconst (z := 1) B d_Law_law_453 rfl ?_
  refine mv_iadd B d_Law_law_454 ?_
  refine mv_sld B hX hbl hbA (by omega) (by omega) (by omega) d_Law_law_455 ?_
  refine mv_aloadR_n B d_Law_law_456 rfl 1 rfl ?_
  refine mv_iload_n B d_Law_law_457 rfl 0 rfl ?_
  refine mv_iconst (z := 2) B d_Law_law_458 rfl ?_
  refine mv_iadd B d_Law_law_459 ?_
  refine mv_sld B hX hbl hbA (by omega) (by omega) (by omega) d_Law_law_460 ?_
  have hmc := lC (m_Fam_type (l := X.2.1) (V := vF V M2) (M := M1) hPc hJ (iI_r (xs (Int.toNat (((i : Nat) : Int) + 1)))) (iI_r (xs (Int.toNat (((i : Nat) : Int) + 2))))) hd
  refine ca_Law_58 (mc := 5) (ms := 4004) (rm' := rM 6 5 4004 220) (As := [.int (iI ((xs (Int.toNat (((i : Nat) : Int) + 1))).toInt)), .int (iI ((xs (Int.toNat (((i : Nat) : Int) + 2))).toInt))]) (rest := []) B hmc rfl rfl ⟨Nat.le_of_ble_eq_true rfl, Nat.le_of_ble_eq_true rfl⟩ (mv_or_l hPc.1.1) rfl rfl (Nat.le_of_ble_eq_true rfl) d_Law_law_461 ⟨by omega, by omega⟩ (fun v1 Mz ep => ?_)
  obtain ⟨e1, M1', hP', hd', eM⟩ := ep
  subst e1
  subst eM
  show mv_G X Q (kk V) 4 464 [(3, .int (iI (((i : Nat) : Int)))), (0, .ref b), (1, .ref x), (2, .ref r)] [.int (iI (aTy S ((xs (Int.toNat (((i : Nat) : Int) + 1))).toInt) ((xs (Int.toNat (((i : Nat) : Int) + 2))).toInt)))] (mv_or M1' M2) ((pC cap lq + 3 * i + 30) + 5) ((pS cap lq + 801 * i + 10000) + 4004)
  refine mv_aloadR_n B d_Law_law_464 rfl 3 rfl ?_
  refine mv_aloadR_n B d_Law_law_465 rfl 1 rfl ?_
  refine mv_iload_n B d_Law_law_466 rfl 0 rfl ?_
  refine mv_iconst (z := 1) B d_Law_law_467 rfl ?_
  refine mv_iadd B d_Law_law_468 ?_
  refine mv_sld B hX hbl hbA (by omega) (by omega) (by omega) d_Law_law_469 ?_
  refine mv_aloadR_n B d_Law_law_470 rfl 1 rfl ?_
  refine mv_iload_n B d_Law_law_471 rfl 0 rfl ?_
  refine mv_iconst (z := 2) B d_Law_law_472 rfl ?_
  refine mv_iadd B d_Law_law_473 ?_
  refine mv_sld B hX hbl hbA (by omega) (by omega) (by omega) d_Law_law_474 ?_
  obtain ⟨cap', lq', hc', hl', hK', hmr⟩ := lR (mR_type (l := X.2.1) (V := vF V M1') (M := M2) hR hK (iI_r (xs (Int.toNat (((i : Nat) : Int) + 1)))) (iI_r (xs (Int.toNat (((i : Nat) : Int) + 2))))) hd'
  have hpl := pC_le hc' hl'
  have hpb := pC_bd hK'
  refine ca_Law_61 (mc := pC cap' lq' - pC cap lq) (ms := pS cap' lq' - pS cap lq) (rm' := rM 9 (pC cap' lq' - pC cap lq) (pS cap' lq' - pS cap lq) 320) (As := [.int (iI ((xs (Int.toNat (((i : Nat) : Int) + 1))).toInt)), .int (iI ((xs (Int.toNat (((i : Nat) : Int) + 2))).toInt))]) (rest := [.int (iI (aTy S ((xs (Int.toNat (((i : Nat) : Int) + 1))).toInt) ((xs (Int.toNat (((i : Nat) : Int) + 2))).toInt)))]) B hmr rfl rfl ⟨Nat.le_of_ble_eq_true rfl, Nat.le_of_ble_eq_true rfl⟩ (mv_or_r hd' hRC.1) rfl rfl (Nat.le_of_ble_eq_true rfl) d_Law_law_475 ⟨by omega, by omega⟩ (fun v2 Mz ep => ?_)
  obtain ⟨e2, M2', hR', hd2, eM⟩ := ep
  subst e2
  subst eM
  show mv_G X Q (kk V) 4 478 [(3, .int (iI (((i : Nat) : Int)))), (0, .ref b), (1, .ref x), (2, .ref r)] [.int (iI (aTy S ((xs (Int.toNat (((i : Nat) : Int) + 1))).toInt) ((xs (Int.toNat (((i : Nat) : Int) + 2))).toInt))), .int (iI (aTy S ((xs (Int.toNat (((i : Nat) : Int) + 1))).toInt) ((xs (Int.toNat (((i : Nat) : Int) + 2))).toInt)))] (mv_or M1' M2') (((pC cap lq + 3 * i + 30) + 5) + (pC cap' lq' - pC cap lq)) (((pS cap lq + 801 * i + 10000) + 4004) + (pS cap' lq' - pS cap lq))
  refine mv_eqs (tgt := 539) B d_Law_law_478 (by decide) ?_
  exact mv_widen (by omega) (by omega) (k M1' M2' (nTy S ((xs (Int.toNat (((i : Nat) : Int) + 1))).toInt) ((xs (Int.toNat (((i : Nat) : Int) + 2))).toInt)) cap' lq' hP' hR' hK' hd2)
set_option maxRecDepth 100000 in
set_option maxHeartbeats 4000000 in
theorem lw_k11 {X : mv_X} {Q : State → Prop} {V : mv_V} {v0 : Cond} {nm : String} (B : mv_B X (kk V) code (v0 :: mw) "FamilyRulesLaw" 4 ret room_1 nm) {b L : Nat} {xs : Nat → Int32} (hX : va_X b L xs X.2.2.2.2.1 X.2.2.2.2.1.heap) (hbl : b < X.2.2.2.2.1.heap.size) (hbA : ¬ V.2.2.2.2 b) (hL : L ≤ 2560) {i x r cap lq : Nat} {M1 M2 : mv_M} {S : SS} (hi : i + 5 ≤ L) (hP : ClsP V M1 x S) (hR : RefP V M2 r cap lq S) (hK : RefK cap lq S) (hd : mv_dj M1 M2) (k : ∀ (M1' M2' : mv_M) (S' : SS) (cap' lq' : Nat), ClsP V M1' x S' → RefP V M2' r cap' lq' S' → RefK cap' lq' S' → mv_dj M1' M2' → mv_G X Q (kk V) 4 539 [(3, .int (iI (((i : Nat) : Int)))), (0, .ref b), (1, .ref x), (2, .ref r)] [] (mv_or M1' M2') (pC cap' lq' + 3 * i + 44) (pS cap' lq' + 801 * i + 14004)) : mv_G X Q (kk V) 4 483 [(3, .int (iI (((i : Nat) : Int)))), (0, .ref b), (1, .ref x), (2, .ref r)] [] (mv_or M1 M2) (pC cap lq + 3 * i + 30) (pS cap lq + 801 * i + 10000) := by
  obtain ⟨sh, rg, rd, mk, trow, grow, dep, hT, tq, tt, ga, ca, f, gf, hPc⟩ : ClsP (vF V M2) M1 x S := hP
  obtain ⟨A, F, hRC, -⟩ := id hR
  have hJ : Jv S := hK.2.2.2.2.2
  have hrc := rm_c
  have hrs := rm_s
  have hpb0 := pC_bd hK
  refine mv_aloadR_n B d_Law_law_483 rfl 2 rfl ?_
  have hmc := lC (mv_post (m_Fam_terms (l := X.2.1) (V := vF V M2) (M := M1) hPc hJ ) (q := fun z0 M' => z0 = some (.int (iI (((S.1 : Nat) : Int)))) ∧ ClsP (vF V M2) M' x S) (fun v M' e => ⟨e.1, by rw [e.2]; exact ⟨_, _, _, _, _, _, _, _, _, _, _, _, _, _, hPc⟩⟩)) hd
  refine ca_Law_62 (mc := 0) (ms := 0) (rm' := rM 0 0 0 0) (As := []) (rest := []) B hmc rfl rfl ⟨Nat.le_of_ble_eq_true rfl, Nat.le_of_ble_eq_true rfl⟩ (mv_or_l hPc.1.1) rfl rfl (Nat.le_of_ble_eq_true rfl) d_Law_law_484 ⟨by omega, by omega⟩ (fun v1 Mz ep => ?_)
  obtain ⟨e1, M1', hP', hd', eM⟩ := ep
  subst e1
  subst eM
  show mv_G X Q (kk V) 4 487 [(3, .int (iI (((i : Nat) : Int)))), (0, .ref b), (1, .ref x), (2, .ref r)] [.int (iI (((S.1 : Nat) : Int)))] (mv_or M1' M2) ((pC cap lq + 3 * i + 30) + 0) ((pS cap lq + 801 * i + 10000) + 0)
  refine mv_aloadR_n B d_Law_law_487 rfl 3 rfl ?_
  obtain ⟨cap', lq', hc', hl', hK', hmr⟩ := lR (mR_terms (l := X.2.1) (V := vF V M1') (M := M2) hR hK ) hd'
  have hpl := pC_le hc' hl'
  have hpb := pC_bd hK'
  refine ca_Law_65 (mc := pC cap' lq' - pC cap lq) (ms := pS cap' lq' - pS cap lq) (rm' := rM 0 (pC cap' lq' - pC cap lq) (pS cap' lq' - pS cap lq) 0) (As := []) (rest := [.int (iI (((S.1 : Nat) : Int)))]) B hmr rfl rfl ⟨Nat.le_of_ble_eq_true rfl, Nat.le_of_ble_eq_true rfl⟩ (mv_or_r hd' hRC.1) rfl rfl (Nat.le_of_ble_eq_true rfl) d_Law_law_488 ⟨by omega, by omega⟩ (fun v2 Mz ep => ?_)
  obtain ⟨e2, M2', hR', hd2, eM⟩ := ep
  subst e2
  subst eM
  show mv_G X Q (kk V) 4 491 [(3, .int (iI (((i : Nat) : Int)))), (0, .ref b), (1, .ref x), (2, .ref r)] [.int (iI (((S.1 : Nat) : Int))), .int (iI (((S.1 : Nat) : Int)))] (mv_or M1' M2') (((pC cap lq + 3 * i + 30) + 0) + (pC cap' lq' - pC cap lq)) (((pS cap lq + 801 * i + 10000) + 0) + (pS cap' lq' - pS cap lq))
  refine mv_eqs (tgt := 539) B d_Law_law_491 (by decide) ?_
  exact mv_widen (by omega) (by omega) (k M1' M2' (S) cap' lq' hP' hR' hK' hd2)
set_option maxRecDepth 100000 in
set_option maxHeartbeats 4000000 in
theorem lw_k12 {X : mv_X} {Q : State → Prop} {V : mv_V} {v0 : Cond} {nm : String} (B : mv_B X (kk V) code (v0 :: mw) "FamilyRulesLaw" 4 ret room_1 nm) {b L : Nat} {xs : Nat → Int32} (hX : va_X b L xs X.2.2.2.2.1 X.2.2.2.2.1.heap) (hbl : b < X.2.2.2.2.1.heap.size) (hbA : ¬ V.2.2.2.2 b) (hL : L ≤ 2560) {i x r cap lq : Nat} {M1 M2 : mv_M} {S : SS} (hi : i + 5 ≤ L) (hP : ClsP V M1 x S) (hR : RefP V M2 r cap lq S) (hK : RefK cap lq S) (hd : mv_dj M1 M2) (k : ∀ (M1' M2' : mv_M) (S' : SS) (cap' lq' : Nat), ClsP V M1' x S' → RefP V M2' r cap' lq' S' → RefK cap' lq' S' → mv_dj M1' M2' → mv_G X Q (kk V) 4 539 [(3, .int (iI (((i : Nat) : Int)))), (0, .ref b), (1, .ref x), (2, .ref r)] [] (mv_or M1' M2') (pC cap' lq' + 3 * i + 44) (pS cap' lq' + 801 * i + 14004)) : mv_G X Q (kk V) 4 496 [(3, .int (iI (((i : Nat) : Int)))), (0, .ref b), (1, .ref x), (2, .ref r)] [] (mv_or M1 M2) (pC cap lq + 3 * i + 30) (pS cap lq + 801 * i + 10000) := by
  obtain ⟨sh, rg, rd, mk, trow, grow, dep, hT, tq, tt, ga, ca, f, gf, hPc⟩ : ClsP (vF V M2) M1 x S := hP
  obtain ⟨A, F, hRC, -⟩ := id hR
  have hJ : Jv S := hK.2.2.2.2.2
  have hrc := rm_c
  have hrs := rm_s
  have hpb0 := pC_bd hK
  refine mv_aloadR_n B d_Law_law_496 rfl 2 rfl ?_
  refine mv_aloadR_n B d_Law_law_497 rfl 1 rfl ?_
  refine mv_iload_n B d_Law_law_498 rfl 0 rfl ?_
  refine mv_iconst (z := 1) B d_Law_law_499 rfl ?_
  refine mv_iadd B d_Law_law_500 ?_
  refine mv_sld B hX hbl hbA (by omega) (by omega) (by omega) d_Law_law_501 ?_
  refine mv_aloadR_n B d_Law_law_502 rfl 1 rfl ?_
  refine mv_iload_n B d_Law_law_503 rfl 0 rfl ?_
  refine mv_iconst (z := 2) B d_Law_law_504 rfl ?_
  refine mv_iadd B d_Law_law_505 ?_
  refine mv_sld B hX hbl hbA (by omega) (by omega) (by omega) d_Law_law_506 ?_
  refine mv_aloadR_n B d_Law_law_507 rfl 1 rfl ?_
  refine mv_iload_n B d_Law_law_508 rfl 0 rfl ?_
  refine mv_iconst (z := 3) B d_Law_law_509 rfl ?_
  refine mv_iadd B d_Law_law_510 ?_
  refine mv_sld B hX hbl hbA (by omega) (by omega) (by omega) d_Law_law_511 ?_
  have hmc := lC (mv_post (m_Fam_part (l := X.2.1) (V := vF V M2) (M := M1) hPc hJ (iI_r (xs (Int.toNat (((i : Nat) : Int) + 1)))) (iI_r (xs (Int.toNat (((i : Nat) : Int) + 2)))) (iI_r (xs (Int.toNat (((i : Nat) : Int) + 3))))) (q := fun z0 M' => z0 = some (.int (iI (aPt S ((xs (Int.toNat (((i : Nat) : Int) + 1))).toInt) ((xs (Int.toNat (((i : Nat) : Int) + 2))).toInt) ((xs (Int.toNat (((i : Nat) : Int) + 3))).toInt)))) ∧ ClsP (vF V M2) M' x S) (fun v M' e => ⟨e.1, by rw [e.2]; exact ⟨_, _, _, _, _, _, _, _, _, _, _, _, _, _, hPc⟩⟩)) hd
  refine ca_Law_66 (mc := 0) (ms := 0) (rm' := rM 1 0 0 21) (As := [.int (iI ((xs (Int.toNat (((i : Nat) : Int) + 1))).toInt)), .int (iI ((xs (Int.toNat (((i : Nat) : Int) + 2))).toInt)), .int (iI ((xs (Int.toNat (((i : Nat) : Int) + 3))).toInt))]) (rest := []) B hmc rfl rfl ⟨Nat.le_of_ble_eq_true rfl, Nat.le_of_ble_eq_true rfl⟩ (mv_or_l hPc.1.1) rfl rfl (Nat.le_of_ble_eq_true rfl) d_Law_law_512 ⟨by omega, by omega⟩ (fun v1 Mz ep => ?_)
  obtain ⟨e1, M1', hP', hd', eM⟩ := ep
  subst e1
  subst eM
  show mv_G X Q (kk V) 4 515 [(3, .int (iI (((i : Nat) : Int)))), (0, .ref b), (1, .ref x), (2, .ref r)] [.int (iI (aPt S ((xs (Int.toNat (((i : Nat) : Int) + 1))).toInt) ((xs (Int.toNat (((i : Nat) : Int) + 2))).toInt) ((xs (Int.toNat (((i : Nat) : Int) + 3))).toInt)))] (mv_or M1' M2) ((pC cap lq + 3 * i + 30) + 0) ((pS cap lq + 801 * i + 10000) + 0)
  refine mv_aloadR_n B d_Law_law_515 rfl 3 rfl ?_
  refine mv_aloadR_n B d_Law_law_516 rfl 1 rfl ?_
  refine mv_iload_n B d_Law_law_517 rfl 0 rfl ?_
  refine mv_iconst (z := 1) B d_Law_law_518 rfl ?_
  refine mv_iadd B d_Law_law_519 ?_
  refine mv_sld B hX hbl hbA (by omega) (by omega) (by omega) d_Law_law_520 ?_
  refine mv_aloadR_n B d_Law_law_521 rfl 1 rfl ?_
  refine mv_iload_n B d_Law_law_522 rfl 0 rfl ?_
  refine mv_iconst (z := 2) B d_Law_law_523 rfl ?_
  refine mv_iadd B d_Law_law_524 ?_
  refine mv_sld B hX hbl hbA (by omega) (by omega) (by omega) d_Law_law_525 ?_
  refine mv_aloadR_n B d_Law_law_526 rfl 1 rfl ?_
  refine mv_iload_n B d_Law_law_527 rfl 0 rfl ?_
  refine mv_iconst (z := 3) B d_Law_law_528 rfl ?_
  refine mv_iadd B d_Law_law_529 ?_
  refine mv_sld B hX hbl hbA (by omega) (by omega) (by omega) d_Law_law_530 ?_
  obtain ⟨cap', lq', hc', hl', hK', hmr⟩ := lR (mR_part (l := X.2.1) (V := vF V M1') (M := M2) hR hK (iI_r (xs (Int.toNat (((i : Nat) : Int) + 1)))) (iI_r (xs (Int.toNat (((i : Nat) : Int) + 2)))) (iI_r (xs (Int.toNat (((i : Nat) : Int) + 3))))) hd'
  have hpl := pC_le hc' hl'
  have hpb := pC_bd hK'
  refine ca_Law_69 (mc := pC cap' lq' - pC cap lq) (ms := pS cap' lq' - pS cap lq) (rm' := rM 1 (pC cap' lq' - pC cap lq) (pS cap' lq' - pS cap lq) 21) (As := [.int (iI ((xs (Int.toNat (((i : Nat) : Int) + 1))).toInt)), .int (iI ((xs (Int.toNat (((i : Nat) : Int) + 2))).toInt)), .int (iI ((xs (Int.toNat (((i : Nat) : Int) + 3))).toInt))]) (rest := [.int (iI (aPt S ((xs (Int.toNat (((i : Nat) : Int) + 1))).toInt) ((xs (Int.toNat (((i : Nat) : Int) + 2))).toInt) ((xs (Int.toNat (((i : Nat) : Int) + 3))).toInt)))]) B hmr rfl rfl ⟨Nat.le_of_ble_eq_true rfl, Nat.le_of_ble_eq_true rfl⟩ (mv_or_r hd' hRC.1) rfl rfl (Nat.le_of_ble_eq_true rfl) d_Law_law_531 ⟨by omega, by omega⟩ (fun v2 Mz ep => ?_)
  obtain ⟨e2, M2', hR', hd2, eM⟩ := ep
  subst e2
  subst eM
  show mv_G X Q (kk V) 4 534 [(3, .int (iI (((i : Nat) : Int)))), (0, .ref b), (1, .ref x), (2, .ref r)] [.int (iI (aPt S ((xs (Int.toNat (((i : Nat) : Int) + 1))).toInt) ((xs (Int.toNat (((i : Nat) : Int) + 2))).toInt) ((xs (Int.toNat (((i : Nat) : Int) + 3))).toInt))), .int (iI (aPt S ((xs (Int.toNat (((i : Nat) : Int) + 1))).toInt) ((xs (Int.toNat (((i : Nat) : Int) + 2))).toInt) ((xs (Int.toNat (((i : Nat) : Int) + 3))).toInt)))] (mv_or M1' M2') (((pC cap lq + 3 * i + 30) + 0) + (pC cap' lq' - pC cap lq)) (((pS cap lq + 801 * i + 10000) + 0) + (pS cap' lq' - pS cap lq))
  refine mv_eqs (tgt := 539) B d_Law_law_534 (by decide) ?_
  exact mv_widen (by omega) (by omega) (k M1' M2' (S) cap' lq' hP' hR' hK' hd2)
