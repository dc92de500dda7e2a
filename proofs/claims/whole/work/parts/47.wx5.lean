theorem cnB_m (rc : Nat → Bool) {i j : Nat} (h : i ≤ j) : cnB rc i ≤ cnB rc j := by
  obtain ⟨k, rfl⟩ : ∃ k, j = i + k := ⟨j - i, by omega⟩
  induction k with
  | zero => exact Nat.le_refl _
  | succ k ih =>
    refine Nat.le_trans (ih (by omega)) ?_
    rw [← Nat.add_assoc]
    simp only [cnB]
    omega
theorem cnB_u (rc : Nat → Bool) {i j : Nat} (hi : rc i = true) (hj : rc j = true) (h : cnB rc i = cnB rc j) : i = j := by
  rcases Nat.lt_trichotomy i j with q | q | q
  · have := cnB_m rc (show i + 1 ≤ j by omega)
    simp only [cnB] at this
    rw [if_pos hi] at this
    omega
  · exact q
  · have := cnB_m rc (show j + 1 ≤ i by omega)
    simp only [cnB] at this
    rw [if_pos hj] at this
    omega
/-- the levels of brings: below i -/
def lvD (Λ : Nat → Int) (m i : Nat) : Nat → Int := fun x => if x < i then -1 - ((m : Int) - x) else Λ x
theorem lvD_0 (Λ : Nat → Int) (m : Nat) : lvD Λ m 0 = Λ := by
  funext x
  unfold lvD
  rw [if_neg (by omega)]
theorem lvD_s (Λ : Nat → Int) (m i : Nat) : va_up (lvD Λ m i) i (-1 - ((m : Int) - i)) = lvD Λ m (i + 1) := by
  funext x
  unfold lvD va_up
  by_cases h : x = i
  · rw [if_pos h, if_pos (by omega), h]
  · rw [if_neg h]
    dsimp only
    by_cases q : x < i
    · rw [if_pos q, if_pos (by omega)]
    · rw [if_neg q, if_neg (by omega)]
set_option maxRecDepth 100000 in
set_option maxHeartbeats 4000000 in
theorem mV_type {l : Launch} {V : mv_V} {M : mv_M} {r cap lq c : Nat} {A : Nat → Nat} {F : Nat → Nat → Int} {tn gn : Int} (hC : RefC V M r A (rN cap lq) F (c : Nat) tn gn) (hcc : c ≤ cap) (hcap0 : 1 ≤ cap) (hcap : cap ≤ 1000000) {xs : List Nd} {b : Nat} (hs : seF F b xs) (hl : b + xs.length ≤ c) {d np ni ra i0 : Nat} {cd : Nat → CD} {bf pf : Nat → Nat} {s : Int} (hFa : FaO xs np ni i0) (hCs : CsO F c d np ni ra cd bf pf) (hra : ra ≤ 12) (hd : d < 100) (hdr : d + ra < 100) (h7 : F 7 d = ((b : Nat) : Int)) (h9 : F 9 d = ((np : Nat) : Int)) (h10 : F 10 d = ((ni : Nat) : Int)) (h11 : F 11 d = ((ra : Nat) : Int)) (rs : 0 ≤ s ∧ s ≤ 100) (hlq : 1 ≤ lq ∧ lq ≤ 4000) (hgn : 0 ≤ gn ∧ gn ≤ 100) (hwh : whR F gn ((d : Nat) : Int)) (hco : ∀ k : Nat, (k : Int) < gn → F 6 k = 3 → 0 ≤ F 11 k ∧ (k : Int) + 1 + F 11 k ≤ gn) (htn : 0 ≤ tn ∧ tn ≤ 1500) {zs : List Nd} (hTR : TR [0] (wtR xs cd (F 12) np ni ra ((d : Nat) : Int) s (fun k => ((d + 1 + k : Nat) : Int))) [] zs) (hoz : AOk zs) (h1z : 1 ≤ (wtR xs cd (F 12) np ni ra ((d : Nat) : Int) s (fun k => ((d + 1 + k : Nat) : Int))).length) (hnb : c + (wtR xs cd (F 12) np ni ra ((d : Nat) : Int) s (fun k => ((d + 1 + k : Nat) : Int))).length ≤ 500000) : Met l y_Mod_type ws_Mod_type (rM 9 (pC (capL cap c (wtR xs cd (F 12) np ni ra ((d : Nat) : Int) s (fun k => ((d + 1 + k : Nat) : Int))).length) (wtQ cd lq np ni ra) - pC cap lq) (pS (capL cap c (wtR xs cd (F 12) np ni ra ((d : Nat) : Int) s (fun k => ((d + 1 + k : Nat) : Int))).length) (wtQ cd lq np ni ra) - pS cap lq) 320) (mv_Pre (kk V) [.ref r, .int (iI ((d : Nat))), .int (iI (s))] M) (mv_Q (kk V) (fun z0 M' => z0 = some (.int (iI (if (tn = 1500 ∨ 1000 < zs.length ∨ 30000 < c + zs.length) then -1 else tn))) ∧ nwT V M' r (capL cap c (wtR xs cd (F 12) np ni ra ((d : Nat) : Int) s (fun k => ((d + 1 + k : Nat) : Int))).length) (wtQ cd lq np ni ra) F c zs (lnS zs) tn gn)) (pC (capL cap c (wtR xs cd (F 12) np ni ra ((d : Nat) : Int) s (fun k => ((d + 1 + k : Nat) : Int))).length) (wtQ cd lq np ni ra) - pC cap lq) (pS (capL cap c (wtR xs cd (F 12) np ni ra ((d : Nat) : Int) s (fun k => ((d + 1 + k : Nat) : Int))).length) (wtQ cd lq np ni ra) - pS cap lq) V.2.2.2.2 := by
  refine mv_Met (by decide) rfl (Nat.le_of_ble_eq_true rfl) (fun X hX B => ?_)
  subst hX
  replace B : mv_B X (kk V) c_Mod_type ws_Mod_type "FamilyRulesModel" 4 (Option.some Jvm.ClassFile.FieldType.int) (rM 9 (pC (capL cap c (wtR xs cd (F 12) np ni ra ((d : Nat) : Int) s (fun k => ((d + 1 + k : Nat) : Int))).length) (wtQ cd lq np ni ra) - pC cap lq) (pS (capL cap c (wtR xs cd (F 12) np ni ra ((d : Nat) : Int) s (fun k => ((d + 1 + k : Nat) : Int))).length) (wtQ cd lq np ni ra) - pS cap lq) 320) "type" := B
  obtain ⟨Q, hQ⟩ : ∃ Q, Q = mv_E X (kk V) (fun z0 M' => z0 = some (.int (iI (if (tn = 1500 ∨ 1000 < zs.length ∨ 30000 < c + zs.length) then -1 else tn))) ∧ nwT V M' r (capL cap c (wtR xs cd (F 12) np ni ra ((d : Nat) : Int) s (fun k => ((d + 1 + k : Nat) : Int))).length) (wtQ cd lq np ni ra) F c zs (lnS zs) tn gn) (pC (capL cap c (wtR xs cd (F 12) np ni ra ((d : Nat) : Int) s (fun k => ((d + 1 + k : Nat) : Int))).length) (wtQ cd lq np ni ra) - pC cap lq) (pS (capL cap c (wtR xs cd (F 12) np ni ra ((d : Nat) : Int) s (fun k => ((d + 1 + k : Nat) : Int))).length) (wtQ cd lq np ni ra) - pS cap lq) := ⟨_, rfl⟩
  rw [← hQ]
  show mv_G X Q (kk V) 4 0 [(0, .ref r), (1, .int (iI ((d : Nat)))), (2, .int (iI (s)))] [] M 0 0
  have hrc : (rM 9 (pC (capL cap c (wtR xs cd (F 12) np ni ra ((d : Nat) : Int) s (fun k => ((d + 1 + k : Nat) : Int))).length) (wtQ cd lq np ni ra) - pC cap lq) (pS (capL cap c (wtR xs cd (F 12) np ni ra ((d : Nat) : Int) s (fun k => ((d + 1 + k : Nat) : Int))).length) (wtQ cd lq np ni ra) - pS cap lq) 320).cells = pC (capL cap c (wtR xs cd (F 12) np ni ra ((d : Nat) : Int) s (fun k => ((d + 1 + k : Nat) : Int))).length) (wtQ cd lq np ni ra) - pC cap lq := rfl
  have hrs : (rM 9 (pC (capL cap c (wtR xs cd (F 12) np ni ra ((d : Nat) : Int) s (fun k => ((d + 1 + k : Nat) : Int))).length) (wtQ cd lq np ni ra) - pC cap lq) (pS (capL cap c (wtR xs cd (F 12) np ni ra ((d : Nat) : Int) s (fun k => ((d + 1 + k : Nat) : Int))).length) (wtQ cd lq np ni ra) - pS cap lq) 320).slots = pS (capL cap c (wtR xs cd (F 12) np ni ra ((d : Nat) : Int) s (fun k => ((d + 1 + k : Nat) : Int))).length) (wtQ cd lq np ni ra) - pS cap lq := rfl
  clear hrc hrs
  obtain ⟨Y0, hY0⟩ : ∃ Y : List Nd, Y = [] := ⟨_, rfl⟩
  have hl0 : Y0.length = 0 := by rw [hY0]; rfl
  have hC0 : RefC V M r A (rN (capL cap c Y0.length) lq) F ((c + Y0.length : Nat) : Int) tn gn := by rw [hl0]; exact hC
  have hW0 : WR F F c Y0 := by rw [hY0]; exact WR_nil
  obtain ⟨N9, hN9⟩ : ∃ nz9 : Nat, nz9 = (wtR xs cd (F 12) np ni ra ((d : Nat) : Int) s (fun k => ((d + 1 + k : Nat) : Int))).length := ⟨_, rfl⟩
  obtain ⟨Q9, hQ9⟩ : ∃ nz9 : Nat, nz9 = wtQ cd lq np ni ra := ⟨_, rfl⟩
  rw [← hN9] at hnb
  have hQl : lq ≤ Q9 := by rw [hQ9]; exact (wtQ_ok (by omega)).1
  rw [← hN9] at h1z
  have hb0 : Y0.length ≤ N9 := by omega
  have ck0 : CK cap c Y0.length := CK_of hcc hcap0 hcap (by omega)
  have hq0 : lq ≤ lq ∧ lq ≤ Q9 := by omega
  have pl0 : PL cap lq (capL cap c Y0.length) (lq) := PL_le (capL_ge cap c Y0.length) hq0.1
  refine mv_widen (c2 := pC (capL cap c Y0.length) (lq) - pC cap lq) (s2 := pS (capL cap c Y0.length) (lq) - pS cap lq) (Nat.zero_le _) (Nat.zero_le _) ?_
  refine mv_aloadR_n B d_Mod_type_0 rfl 0 rfl ?_
  refine mv_iload_n B d_Mod_type_1 rfl 1 rfl ?_
  refine ca_Mod_162 (mc := 0) (ms := 0) (As := [.int (iI ((d : Nat)))]) (rest := []) B (m_Mod_isWhole hC0 ck0.2.2 (g := ((d : Nat) : Int)) (by omega) hgn hco) rfl rfl ⟨Nat.le_of_ble_eq_true rfl, Nat.le_of_ble_eq_true rfl⟩ hC0.1 rfl rfl (Nat.le_of_ble_eq_true rfl) d_Mod_type_2 ⟨PL_0c (PL_le (capL_mono cap c (hN9 ▸ (show Y0.length ≤ N9 by omega))) (hQ9 ▸ hq0.2)), PL_0s (PL_le (capL_mono cap c (hN9 ▸ (show Y0.length ≤ N9 by omega))) (hQ9 ▸ hq0.2))⟩ (mv_x ?_)
  show mv_G X Q (kk V) 4 5 [(0, .ref r), (1, .int (iI ((d : Nat)))), (2, .int (iI (s)))] [.int (iI (if whR F gn ((d : Nat) : Int) then 1 else 0))] M (pC (capL cap c Y0.length) (lq) - pC cap lq) (pS (capL cap c Y0.length) (lq) - pS cap lq)
  rw [if_pos hwh]
  refine mv_if_eq (tgt := 18) B d_Mod_type_5 (by decide) (by omega) (fun c2 => ?_) (fun c2 => ?_)
  · omega
  · refine mv_iload_n B d_Mod_type_8 rfl 2 rfl ?_
    refine mv_if_lt (tgt := 18) B d_Mod_type_9 (by decide) (by omega) (fun c3 => ?_) (fun c3 => ?_)
    · omega
    · refine mv_iload_n B d_Mod_type_12 rfl 2 rfl ?_
      refine mv_bipush (z := 100) B d_Mod_type_13 (by decide) ?_
      refine mv_icmp_le (tgt := 20) B d_Mod_type_15 (by decide) (by omega) (by omega) (fun c4 => ?_) (fun c4 => ?_)
      · refine mv_aloadR_n B d_Mod_type_20 rfl 0 rfl ?_
        refine gf_Mod_55 B hC0.1 rfl d_Mod_type_21 ?_
        rw [show ((c + Y0.length : Nat) : Int) = ((c : Nat) : Int) by omega]
        refine mv_istore_n (lv' := [(3, .int (iI ((c : Nat)))), (0, .ref r), (1, .int (iI ((d : Nat)))), (2, .int (iI (s)))]) B d_Mod_type_24 rfl (by decide) rfl ?_
        refine mv_aloadR_n B d_Mod_type_25 rfl 1 rfl ?_
        refine mv_iload_n B d_Mod_type_26 rfl 2 rfl ?_
        refine mv_iload_n B d_Mod_type_27 rfl 3 rfl ?_
        have w5z : (wtR xs cd (F 12) np ni ra ((d : Nat) : Int) s (fun k => ((d + 1 + k : Nat) : Int))).length = N9 := hN9.symm
        have w5q : lq ≤ wtQ cd lq np ni ra ∧ wtQ cd lq np ni ra ≤ Q9 := by rw [hQ9]; exact ⟨(wtQ_ok (by omega)).1, Nat.le_refl _⟩
        have w5n : Y0.length + (wtR xs cd (F 12) np ni ra ((d : Nat) : Int) s (fun k => ((d + 1 + k : Nat) : Int))).length ≤ N9 := by omega
        have w5e : capL (capL cap c Y0.length) (c + Y0.length) (wtR xs cd (F 12) np ni ra ((d : Nat) : Int) s (fun k => ((d + 1 + k : Nat) : Int))).length = capL cap c (Y0.length + (wtR xs cd (F 12) np ni ra ((d : Nat) : Int) s (fun k => ((d + 1 + k : Nat) : Int))).length) := (capL_add cap c Y0.length (wtR xs cd (F 12) np ni ra ((d : Nat) : Int) s (fun k => ((d + 1 + k : Nat) : Int))).length).symm
        have w5m : PL (capL cap c Y0.length) (lq) (capL cap c (Y0.length + (wtR xs cd (F 12) np ni ra ((d : Nat) : Int) s (fun k => ((d + 1 + k : Nat) : Int))).length)) (wtQ cd lq np ni ra) := PL_le (capL_mono cap c (Nat.le_add_right _ _)) w5q.1
        have w5t : PL (capL cap c (Y0.length + (wtR xs cd (F 12) np ni ra ((d : Nat) : Int) s (fun k => ((d + 1 + k : Nat) : Int))).length)) (wtQ cd lq np ni ra) (capL cap c (wtR xs cd (F 12) np ni ra ((d : Nat) : Int) s (fun k => ((d + 1 + k : Nat) : Int))).length) (wtQ cd lq np ni ra) := PL_le (capL_mono cap c (hN9 ▸ w5n)) (hQ9 ▸ w5q.2)
        refine ca_Mod_165 (mc := pC (capL (capL cap c Y0.length) (c + Y0.length) (wtR xs cd (F 12) np ni ra ((d : Nat) : Int) s (fun k => ((d + 1 + k : Nat) : Int))).length) (wtQ cd lq np ni ra) - pC (capL cap c Y0.length) (lq)) (ms := pS (capL (capL cap c Y0.length) (c + Y0.length) (wtR xs cd (F 12) np ni ra ((d : Nat) : Int) s (fun k => ((d + 1 + k : Nat) : Int))).length) (wtQ cd lq np ni ra) - pS (capL cap c Y0.length) (lq)) (rm' := rM 8 (pC (capL (capL cap c Y0.length) (c + Y0.length) (wtR xs cd (F 12) np ni ra ((d : Nat) : Int) s (fun k => ((d + 1 + k : Nat) : Int))).length) (wtQ cd lq np ni ra) - pC (capL cap c Y0.length) (lq)) (pS (capL (capL cap c Y0.length) (c + Y0.length) (wtR xs cd (F 12) np ni ra ((d : Nat) : Int) s (fun k => ((d + 1 + k : Nat) : Int))).length) (wtQ cd lq np ni ra) - pS (capL cap c Y0.length) (lq)) 280) (As := [.int (iI ((d : Nat))), .int (iI (s))]) (rest := []) B (mW_write hC0 ck0.1 ck0.2.1 ck0.2.2 rfl (seF_ag hW0.1 hl hs) (by omega) hFa (by rw [hl0, Nat.add_zero]; exact hCs) hra hd hdr h7 h9 h10 h11 (s := s) (by omega) hlq (by omega)) rfl rfl ⟨Nat.le_of_ble_eq_true rfl, Nat.le_of_ble_eq_true rfl⟩ hC0.1 rfl rfl (Nat.le_of_ble_eq_true rfl) d_Mod_type_28 ⟨by rw [w5e]; exact PL_c pl0 w5m w5t, by rw [w5e]; exact PL_s pl0 w5m w5t⟩ (fun v1 w5M ep => ?_)
        obtain ⟨e1, w5U⟩ := ep
        subst e1
        have w5U := wrP_app (lq := lq) hW0 w5U
        obtain ⟨w5Y, w5h⟩ : ∃ Y : List Nd, Y = Y0 ++ (wtR xs cd (F 12) np ni ra ((d : Nat) : Int) s (fun k => ((d + 1 + k : Nat) : Int))) := ⟨_, rfl⟩
        rw [← w5h] at w5U
        have w5l : w5Y.length = Y0.length + (wtR xs cd (F 12) np ni ra ((d : Nat) : Int) s (fun k => ((d + 1 + k : Nat) : Int))).length := by rw [w5h, List.length_append]
        obtain ⟨w5A, w5F, w5W, w5L, w5C⟩ := w5U
        rw [← w5l] at w5e w5m w5t
        have w5b : CK cap c w5Y.length := CK_of hcc hcap0 hcap (by omega)
        have w5p := pl0.tr w5m
        refine mv_widen (c2 := pC (capL cap c w5Y.length) (wtQ cd lq np ni ra) - pC cap lq) (s2 := pS (capL cap c w5Y.length) (wtQ cd lq np ni ra) - pS cap lq) (by rw [w5e]; exact PL_c2 pl0 w5m) (by rw [w5e]; exact PL_s2 pl0 w5m) ?_
        clear w5e w5m w5t w5n
        show mv_G X Q (kk V) 4 31 [(3, .int (iI ((c : Nat)))), (0, .ref r), (1, .int (iI ((d : Nat)))), (2, .int (iI (s)))] [] w5M (pC (capL cap c w5Y.length) (wtQ cd lq np ni ra) - pC cap lq) (pS (capL cap c w5Y.length) (wtQ cd lq np ni ra) - pS cap lq)
        refine mv_aloadR_n B d_Mod_type_31 rfl 1 rfl ?_
        refine mv_iload_n B d_Mod_type_32 rfl 0 rfl ?_
        have eZ : w5Y = wtR xs cd (F 12) np ni ra ((d : Nat) : Int) s (fun k => ((d + 1 + k : Nat) : Int)) := by rw [w5h, hY0]; simp only [List.append_nil, List.nil_append, List.append_assoc]
        have hTZ : TR [0] w5Y [] zs := by rw [eZ]; exact hTR
        have hlz : zs.length = w5Y.length := (TR_end hTZ).2.2.1
        have hck9 := w5b.1
        have hnY : w5Y.length = N9 := by rw [hN9, eZ]
        refine ca_Mod_147 (mc := 0) (ms := 0) (rm' := rM 2 0 0 60) (As := [.int (iI ((c : Nat)))]) (rest := []) B (mW_settle w5C w5b.2.2 w5W hTZ hoz (by omega) (by omega) (by omega)) rfl rfl ⟨Nat.le_of_ble_eq_true rfl, Nat.le_of_ble_eq_true rfl⟩ w5C.1 rfl rfl (Nat.le_of_ble_eq_true rfl) d_Mod_type_33 ⟨PL_0c (PL_le (capL_mono cap c (hN9 ▸ (show w5Y.length ≤ N9 by omega))) (hQ9 ▸ w5q.2)), PL_0s (PL_le (capL_mono cap c (hN9 ▸ (show w5Y.length ≤ N9 by omega))) (hQ9 ▸ w5q.2))⟩ (fun v1 M8 ep => ?_)
        obtain ⟨e1, F8, hW8, hC8⟩ := ep
        subst e1
        show mv_G X Q (kk V) 4 36 [(3, .int (iI ((c : Nat)))), (0, .ref r), (1, .int (iI ((d : Nat)))), (2, .int (iI (s)))] [] M8 (pC (capL cap c w5Y.length) (wtQ cd lq np ni ra) - pC cap lq) (pS (capL cap c w5Y.length) (wtQ cd lq np ni ra) - pS cap lq)
        refine mv_aloadR_n B d_Mod_type_36 rfl 1 rfl ?_
        refine mv_iload_n B d_Mod_type_37 rfl 0 rfl ?_
        refine ca_Mod_84 (mc := 0) (ms := 0) (rm' := rM 1 0 0 30) (As := [.int (iI ((c : Nat)))]) (rest := []) B (m_Mod_term hC8 w5b.2.2 (b := c) (n := w5Y.length) (ℓ := lnS zs) (by omega) (by omega) htn (fun _ => by rw [← hlz]; exact WF_cg (WF_S (TR_end hTZ).2.1) (fun i hi => (hW8.2.2 i hi).1))) rfl rfl ⟨Nat.le_of_ble_eq_true rfl, Nat.le_of_ble_eq_true rfl⟩ hC8.1 rfl rfl (Nat.le_of_ble_eq_true rfl) d_Mod_type_38 ⟨PL_0c (PL_le (capL_mono cap c (hN9 ▸ (show w5Y.length ≤ N9 by omega))) (hQ9 ▸ w5q.2)), PL_0s (PL_le (capL_mono cap c (hN9 ▸ (show w5Y.length ≤ N9 by omega))) (hQ9 ▸ w5q.2))⟩ (fun v1 M9 ep => ?_)
        obtain ⟨e1, hT9⟩ := tm_v ep
        subst e1
        rw [← hlz] at hT9 ⊢
        show mv_G X Q (kk V) 4 41 [(3, .int (iI ((c : Nat)))), (0, .ref r), (1, .int (iI ((d : Nat)))), (2, .int (iI (s)))] [.int (iI (if (tn = 1500 ∨ 1000 < zs.length ∨ 30000 < c + zs.length) then -1 else tn))] M9 (pC (capL cap c zs.length) (wtQ cd lq np ni ra) - pC cap lq) (pS (capL cap c zs.length) (wtQ cd lq np ni ra) - pS cap lq)
        rw [hQ]
        have hl9 : zs.length = (wtR xs cd (F 12) np ni ra ((d : Nat) : Int) s (fun k => ((d + 1 + k : Nat) : Int))).length := by rw [hlz, eZ]
        exact mv_iret B ⟨rfl, by rw [← hl9]; exact nwT_of rfl hW8 hT9⟩ (by rw [hl9]; exact Nat.le_refl _) (by rw [hl9]; exact Nat.le_refl _) d_Mod_type_41
      · omega
set_option maxRecDepth 100000 in
set_option maxHeartbeats 4000000 in
theorem mV_size {l : Launch} {V : mv_V} {M : mv_M} {r cap lq c : Nat} {A : Nat → Nat} {F : Nat → Nat → Int} {tn gn : Int} (hC : RefC V M r A (rN cap lq) F (c : Nat) tn gn) (hcc : c ≤ cap) (hcap0 : 1 ≤ cap) (hcap : cap ≤ 1000000) {xs : List Nd} {b : Nat} (hs : seF F b xs) (hl : b + xs.length ≤ c) {d np ni ra i0 : Nat} {cd : Nat → CD} {bf pf : Nat → Nat} (hFa : FaO xs np ni i0) (hCs : CsO F c d np ni ra cd bf pf) (hra : ra ≤ 12) (hd : d < 100) (hdr : d + ra < 100) (h7 : F 7 d = ((b : Nat) : Int)) (h9 : F 9 d = ((np : Nat) : Int)) (h10 : F 10 d = ((ni : Nat) : Int)) (h11 : F 11 d = ((ra : Nat) : Int)) (hlq : 1 ≤ lq ∧ lq ≤ 4000) (hgn : 0 ≤ gn ∧ gn ≤ 100) (hwh : whR F gn ((d : Nat) : Int)) (hco : ∀ k : Nat, (k : Int) < gn → F 6 k = 3 → 0 ≤ F 11 k ∧ (k : Int) + 1 + F 11 k ≤ gn) (hnb : c + (wtR xs cd (F 12) np ni ra ((d : Nat) : Int) 0 (fun k => ((d + 1 + k : Nat) : Int))).length ≤ 500000) : Met l y_Mod_size ws_Mod_size (rM 9 (pC (capL cap c (wtR xs cd (F 12) np ni ra ((d : Nat) : Int) 0 (fun k => ((d + 1 + k : Nat) : Int))).length) (wtQ cd lq np ni ra) - pC cap lq) (pS (capL cap c (wtR xs cd (F 12) np ni ra ((d : Nat) : Int) 0 (fun k => ((d + 1 + k : Nat) : Int))).length) (wtQ cd lq np ni ra) - pS cap lq) 320) (mv_Pre (kk V) [.ref r, .int (iI ((d : Nat)))] M) (mv_Q (kk V) (fun z0 M' => z0 = some (.int (iI (((wtR xs cd (F 12) np ni ra ((d : Nat) : Int) 0 (fun k => ((d + 1 + k : Nat) : Int))).length : Nat) : Int))) ∧ ∃ A' F', (∀ j x, j < 4 → x < c → F' j x = F j x) ∧ (∀ j, 5 ≤ j → j < 12 → F' j = F j) ∧ RefC V M' r A' (rN (capL cap c (wtR xs cd (F 12) np ni ra ((d : Nat) : Int) 0 (fun k => ((d + 1 + k : Nat) : Int))).length) (wtQ cd lq np ni ra)) F' ((c : Nat) : Int) tn gn)) (pC (capL cap c (wtR xs cd (F 12) np ni ra ((d : Nat) : Int) 0 (fun k => ((d + 1 + k : Nat) : Int))).length) (wtQ cd lq np ni ra) - pC cap lq) (pS (capL cap c (wtR xs cd (F 12) np ni ra ((d : Nat) : Int) 0 (fun k => ((d + 1 + k : Nat) : Int))).length) (wtQ cd lq np ni ra) - pS cap lq) V.2.2.2.2 := by
  refine mv_Met (by decide) rfl (Nat.le_of_ble_eq_true rfl) (fun X hX B => ?_)
  subst hX
  replace B : mv_B X (kk V) c_Mod_size ws_Mod_size "FamilyRulesModel" 4 (Option.some Jvm.ClassFile.FieldType.int) (rM 9 (pC (capL cap c (wtR xs cd (F 12) np ni ra ((d : Nat) : Int) 0 (fun k => ((d + 1 + k : Nat) : Int))).length) (wtQ cd lq np ni ra) - pC cap lq) (pS (capL cap c (wtR xs cd (F 12) np ni ra ((d : Nat) : Int) 0 (fun k => ((d + 1 + k : Nat) : Int))).length) (wtQ cd lq np ni ra) - pS cap lq) 320) "size" := B
  obtain ⟨Q, hQ⟩ : ∃ Q, Q = mv_E X (kk V) (fun z0 M' => z0 = some (.int (iI (((wtR xs cd (F 12) np ni ra ((d : Nat) : Int) 0 (fun k => ((d + 1 + k : Nat) : Int))).length : Nat) : Int))) ∧ ∃ A' F', (∀ j x, j < 4 → x < c → F' j x = F j x) ∧ (∀ j, 5 ≤ j → j < 12 → F' j = F j) ∧ RefC V M' r A' (rN (capL cap c (wtR xs cd (F 12) np ni ra ((d : Nat) : Int) 0 (fun k => ((d + 1 + k : Nat) : Int))).length) (wtQ cd lq np ni ra)) F' ((c : Nat) : Int) tn gn) (pC (capL cap c (wtR xs cd (F 12) np ni ra ((d : Nat) : Int) 0 (fun k => ((d + 1 + k : Nat) : Int))).length) (wtQ cd lq np ni ra) - pC cap lq) (pS (capL cap c (wtR xs cd (F 12) np ni ra ((d : Nat) : Int) 0 (fun k => ((d + 1 + k : Nat) : Int))).length) (wtQ cd lq np ni ra) - pS cap lq) := ⟨_, rfl⟩
  rw [← hQ]
  show mv_G X Q (kk V) 4 0 [(0, .ref r), (1, .int (iI ((d : Nat))))] [] M 0 0
  have hrc : (rM 9 (pC (capL cap c (wtR xs cd (F 12) np ni ra ((d : Nat) : Int) 0 (fun k => ((d + 1 + k : Nat) : Int))).length) (wtQ cd lq np ni ra) - pC cap lq) (pS (capL cap c (wtR xs cd (F 12) np ni ra ((d : Nat) : Int) 0 (fun k => ((d + 1 + k : Nat) : Int))).length) (wtQ cd lq np ni ra) - pS cap lq) 320).cells = pC (capL cap c (wtR xs cd (F 12) np ni ra ((d : Nat) : Int) 0 (fun k => ((d + 1 + k : Nat) : Int))).length) (wtQ cd lq np ni ra) - pC cap lq := rfl
  have hrs : (rM 9 (pC (capL cap c (wtR xs cd (F 12) np ni ra ((d : Nat) : Int) 0 (fun k => ((d + 1 + k : Nat) : Int))).length) (wtQ cd lq np ni ra) - pC cap lq) (pS (capL cap c (wtR xs cd (F 12) np ni ra ((d : Nat) : Int) 0 (fun k => ((d + 1 + k : Nat) : Int))).length) (wtQ cd lq np ni ra) - pS cap lq) 320).slots = pS (capL cap c (wtR xs cd (F 12) np ni ra ((d : Nat) : Int) 0 (fun k => ((d + 1 + k : Nat) : Int))).length) (wtQ cd lq np ni ra) - pS cap lq := rfl
  clear hrc hrs
  obtain ⟨Y0, hY0⟩ : ∃ Y : List Nd, Y = [] := ⟨_, rfl⟩
  have hl0 : Y0.length = 0 := by rw [hY0]; rfl
  have hC0 : RefC V M r A (rN (capL cap c Y0.length) lq) F ((c + Y0.length : Nat) : Int) tn gn := by rw [hl0]; exact hC
  have hW0 : WR F F c Y0 := by rw [hY0]; exact WR_nil
  obtain ⟨N9, hN9⟩ : ∃ nz9 : Nat, nz9 = (wtR xs cd (F 12) np ni ra ((d : Nat) : Int) 0 (fun k => ((d + 1 + k : Nat) : Int))).length := ⟨_, rfl⟩
  obtain ⟨Q9, hQ9⟩ : ∃ nz9 : Nat, nz9 = wtQ cd lq np ni ra := ⟨_, rfl⟩
  rw [← hN9] at hnb
  have hQl : lq ≤ Q9 := by rw [hQ9]; exact (wtQ_ok (by omega)).1
  have hb0 : Y0.length ≤ N9 := by omega
  have ck0 : CK cap c Y0.length := CK_of hcc hcap0 hcap (by omega)
  have hq0 : lq ≤ lq ∧ lq ≤ Q9 := by omega
  have pl0 : PL cap lq (capL cap c Y0.length) (lq) := PL_le (capL_ge cap c Y0.length) hq0.1
  refine mv_widen (c2 := pC (capL cap c Y0.length) (lq) - pC cap lq) (s2 := pS (capL cap c Y0.length) (lq) - pS cap lq) (Nat.zero_le _) (Nat.zero_le _) ?_
  refine mv_aloadR_n B d_Mod_size_0 rfl 0 rfl ?_
  refine mv_iload_n B d_Mod_size_1 rfl 1 rfl ?_
  refine ca_Mod_162 (mc := 0) (ms := 0) (As := [.int (iI ((d : Nat)))]) (rest := []) B (m_Mod_isWhole hC0 ck0.2.2 (g := ((d : Nat) : Int)) (by omega) hgn hco) rfl rfl ⟨Nat.le_of_ble_eq_true rfl, Nat.le_of_ble_eq_true rfl⟩ hC0.1 rfl rfl (Nat.le_of_ble_eq_true rfl) d_Mod_size_2 ⟨PL_0c (PL_le (capL_mono cap c (hN9 ▸ (show Y0.length ≤ N9 by omega))) (hQ9 ▸ hq0.2)), PL_0s (PL_le (capL_mono cap c (hN9 ▸ (show Y0.length ≤ N9 by omega))) (hQ9 ▸ hq0.2))⟩ (mv_x ?_)
  show mv_G X Q (kk V) 4 5 [(0, .ref r), (1, .int (iI ((d : Nat))))] [.int (iI (if whR F gn ((d : Nat) : Int) then 1 else 0))] M (pC (capL cap c Y0.length) (lq) - pC cap lq) (pS (capL cap c Y0.length) (lq) - pS cap lq)
  rw [if_pos hwh]
  refine mv_if_ne (tgt := 10) B d_Mod_size_5 (by decide) (by omega) (fun c2 => ?_) (fun c2 => ?_)
  · refine mv_aloadR_n B d_Mod_size_10 rfl 0 rfl ?_
    refine gf_Mod_55 B hC0.1 rfl d_Mod_size_11 ?_
    rw [show ((c + Y0.length : Nat) : Int) = ((c : Nat) : Int) by omega]
    refine mv_istore_n (lv' := [(2, .int (iI ((c : Nat)))), (0, .ref r), (1, .int (iI ((d : Nat))))]) B d_Mod_size_14 rfl (by decide) rfl ?_
    refine mv_aloadR_n B d_Mod_size_15 rfl 1 rfl ?_
    refine mv_iload_n B d_Mod_size_16 rfl 2 rfl ?_
    refine mv_iconst (z := 0) B d_Mod_size_17 rfl ?_
    have w3z : (wtR xs cd (F 12) np ni ra ((d : Nat) : Int) 0 (fun k => ((d + 1 + k : Nat) : Int))).length = N9 := hN9.symm
    have w3q : lq ≤ wtQ cd lq np ni ra ∧ wtQ cd lq np ni ra ≤ Q9 := by rw [hQ9]; exact ⟨(wtQ_ok (by omega)).1, Nat.le_refl _⟩
    have w3n : Y0.length + (wtR xs cd (F 12) np ni ra ((d : Nat) : Int) 0 (fun k => ((d + 1 + k : Nat) : Int))).length ≤ N9 := by omega
    have w3e : capL (capL cap c Y0.length) (c + Y0.length) (wtR xs cd (F 12) np ni ra ((d : Nat) : Int) 0 (fun k => ((d + 1 + k : Nat) : Int))).length = capL cap c (Y0.length + (wtR xs cd (F 12) np ni ra ((d : Nat) : Int) 0 (fun k => ((d + 1 + k : Nat) : Int))).length) := (capL_add cap c Y0.length (wtR xs cd (F 12) np ni ra ((d : Nat) : Int) 0 (fun k => ((d + 1 + k : Nat) : Int))).length).symm
    have w3m : PL (capL cap c Y0.length) (lq) (capL cap c (Y0.length + (wtR xs cd (F 12) np ni ra ((d : Nat) : Int) 0 (fun k => ((d + 1 + k : Nat) : Int))).length)) (wtQ cd lq np ni ra) := PL_le (capL_mono cap c (Nat.le_add_right _ _)) w3q.1
    have w3t : PL (capL cap c (Y0.length + (wtR xs cd (F 12) np ni ra ((d : Nat) : Int) 0 (fun k => ((d + 1 + k : Nat) : Int))).length)) (wtQ cd lq np ni ra) (capL cap c (wtR xs cd (F 12) np ni ra ((d : Nat) : Int) 0 (fun k => ((d + 1 + k : Nat) : Int))).length) (wtQ cd lq np ni ra) := PL_le (capL_mono cap c (hN9 ▸ w3n)) (hQ9 ▸ w3q.2)
    refine ca_Mod_165 (mc := pC (capL (capL cap c Y0.length) (c + Y0.length) (wtR xs cd (F 12) np ni ra ((d : Nat) : Int) 0 (fun k => ((d + 1 + k : Nat) : Int))).length) (wtQ cd lq np ni ra) - pC (capL cap c Y0.length) (lq)) (ms := pS (capL (capL cap c Y0.length) (c + Y0.length) (wtR xs cd (F 12) np ni ra ((d : Nat) : Int) 0 (fun k => ((d + 1 + k : Nat) : Int))).length) (wtQ cd lq np ni ra) - pS (capL cap c Y0.length) (lq)) (rm' := rM 8 (pC (capL (capL cap c Y0.length) (c + Y0.length) (wtR xs cd (F 12) np ni ra ((d : Nat) : Int) 0 (fun k => ((d + 1 + k : Nat) : Int))).length) (wtQ cd lq np ni ra) - pC (capL cap c Y0.length) (lq)) (pS (capL (capL cap c Y0.length) (c + Y0.length) (wtR xs cd (F 12) np ni ra ((d : Nat) : Int) 0 (fun k => ((d + 1 + k : Nat) : Int))).length) (wtQ cd lq np ni ra) - pS (capL cap c Y0.length) (lq)) 280) (As := [.int (iI ((d : Nat))), .int (iI (0))]) (rest := []) B (mW_write hC0 ck0.1 ck0.2.1 ck0.2.2 rfl (seF_ag hW0.1 hl hs) (by omega) hFa (by rw [hl0, Nat.add_zero]; exact hCs) hra hd hdr h7 h9 h10 h11 (s := 0) (by omega) hlq (by omega)) rfl rfl ⟨Nat.le_of_ble_eq_true rfl, Nat.le_of_ble_eq_true rfl⟩ hC0.1 rfl rfl (Nat.le_of_ble_eq_true rfl) d_Mod_size_18 ⟨by rw [w3e]; exact PL_c pl0 w3m w3t, by rw [w3e]; exact PL_s pl0 w3m w3t⟩ (fun v1 w3M ep => ?_)
    obtain ⟨e1, w3U⟩ := ep
    subst e1
    have w3U := wrP_app (lq := lq) hW0 w3U
    obtain ⟨w3Y, w3h⟩ : ∃ Y : List Nd, Y = Y0 ++ (wtR xs cd (F 12) np ni ra ((d : Nat) : Int) 0 (fun k => ((d + 1 + k : Nat) : Int))) := ⟨_, rfl⟩
    rw [← w3h] at w3U
    have w3l : w3Y.length = Y0.length + (wtR xs cd (F 12) np ni ra ((d : Nat) : Int) 0 (fun k => ((d + 1 + k : Nat) : Int))).length := by rw [w3h, List.length_append]
    obtain ⟨w3A, w3F, w3W, w3L, w3C⟩ := w3U
    rw [← w3l] at w3e w3m w3t
    have w3b : CK cap c w3Y.length := CK_of hcc hcap0 hcap (by omega)
    have w3p := pl0.tr w3m
    refine mv_widen (c2 := pC (capL cap c w3Y.length) (wtQ cd lq np ni ra) - pC cap lq) (s2 := pS (capL cap c w3Y.length) (wtQ cd lq np ni ra) - pS cap lq) (by rw [w3e]; exact PL_c2 pl0 w3m) (by rw [w3e]; exact PL_s2 pl0 w3m) ?_
    clear w3e w3m w3t w3n
    show mv_G X Q (kk V) 4 21 [(2, .int (iI ((c : Nat)))), (0, .ref r), (1, .int (iI ((d : Nat))))] [] w3M (pC (capL cap c w3Y.length) (wtQ cd lq np ni ra) - pC cap lq) (pS (capL cap c w3Y.length) (wtQ cd lq np ni ra) - pS cap lq)
    refine mv_aloadR_n B d_Mod_size_21 rfl 1 rfl ?_
    refine gf_Mod_55 B w3C.1 rfl d_Mod_size_22 ?_
    refine mv_iload_n B d_Mod_size_25 rfl 0 rfl ?_
    refine mv_isub B d_Mod_size_26 ?_
    have eZ : w3Y = wtR xs cd (F 12) np ni ra ((d : Nat) : Int) 0 (fun k => ((d + 1 + k : Nat) : Int)) := by rw [w3h, hY0]; simp only [List.append_nil, List.nil_append, List.append_assoc]
    rw [show ((c + w3Y.length : Nat) : Int) - ((c : Nat) : Int) = (((wtR xs cd (F 12) np ni ra ((d : Nat) : Int) 0 (fun k => ((d + 1 + k : Nat) : Int))).length : Nat) : Int) by rw [eZ]; omega]
    refine mv_istore_n (lv' := [(3, .int (iI (((wtR xs cd (F 12) np ni ra ((d : Nat) : Int) 0 (fun k => ((d + 1 + k : Nat) : Int))).length : Nat)))), (2, .int (iI ((c : Nat)))), (0, .ref r), (1, .int (iI ((d : Nat))))]) B d_Mod_size_27 rfl (by decide) rfl ?_
    refine mv_aloadR_n B d_Mod_size_28 rfl 2 rfl ?_
    refine mv_iload_n B d_Mod_size_29 rfl 1 rfl ?_
    refine pf_Mod_55 B w3C.1 rfl rfl (Nat.le_of_ble_eq_true rfl) d_Mod_size_30 ?_
    show mv_G X Q (kk V) 4 33 [(3, .int (iI (((wtR xs cd (F 12) np ni ra ((d : Nat) : Int) 0 (fun k => ((d + 1 + k : Nat) : Int))).length : Nat)))), (2, .int (iI ((c : Nat)))), (0, .ref r), (1, .int (iI ((d : Nat))))] [] (mv_up w3M r (.inr (7, [.ref ((w3A 0)), .ref ((w3A 1)), .ref ((w3A 2)), .ref ((w3A 3)), .ref ((w3A 4)), .int (iI ((c : Nat))), .ref ((w3A 5)), .int (iI (tn)), .ref ((w3A 6)), .ref ((w3A 7)), .ref ((w3A 8)), .ref ((w3A 9)), .ref ((w3A 10)), .ref ((w3A 11)), .int (iI (gn)), .ref ((w3A 12))]))) (pC (capL cap c w3Y.length) (wtQ cd lq np ni ra) - pC cap lq) (pS (capL cap c w3Y.length) (wtQ cd lq np ni ra) - pS cap lq)
    obtain ⟨M5, hM6⟩ : ∃ My : mv_M, My = mv_up w3M r (.inr (7, [.ref ((w3A 0)), .ref ((w3A 1)), .ref ((w3A 2)), .ref ((w3A 3)), .ref ((w3A 4)), .int (iI ((c : Nat))), .ref ((w3A 5)), .int (iI (tn)), .ref ((w3A 6)), .ref ((w3A 7)), .ref ((w3A 8)), .ref ((w3A 9)), .ref ((w3A 10)), .ref ((w3A 11)), .int (iI (gn)), .ref ((w3A 12))])) := ⟨_, rfl⟩
    rw [← hM6]
    have hC7 : RefC V M5 r w3A (rN (capL cap c w3Y.length) (wtQ cd lq np ni ra)) w3F ((c : Nat)) (tn) (gn) := by rw [hM6]; exact RefC_f w3C _ _ _
    refine mv_iload_n B d_Mod_size_33 rfl 0 rfl ?_
    rw [hQ]
    exact mv_iret B ⟨rfl, w3A, w3F, w3W.1, w3W.2.1, by rw [← eZ]; exact hC7⟩ (by rw [eZ]; exact Nat.le_refl _) (by rw [eZ]; exact Nat.le_refl _) d_Mod_size_34
  · omega
set_option maxRecDepth 100000 in
set_option maxHeartbeats 4000000 in
theorem mV_brings {l : Launch} {V : mv_V} {M : mv_M} {r cap lq c : Nat} {A : Nat → Nat} {F : Nat → Nat → Int} {tn gn : Int} (hC : RefC V M r A (rN cap lq) F (c : Nat) tn gn) (hcc : c ≤ cap) (hcap0 : 1 ≤ cap) (hcap : cap ≤ 1000000) {xs : List Nd} {b : Nat} (hs : seF F b xs) (hl : b + xs.length ≤ c) {g d np ni n jx k i ys p x0 : Nat} (hT : Told xs (d : Nat) np ni n) (hnz : ∀ j, j < n → jdS xs (d : Nat) np ni (rtS xs np j) ((np + j : Nat) : Int) ≠ 0) (hBr : BrO xs d np ni jx i ys p x0) (ho : AOk xs) (hj : jx < n) (hrj : rcS xs (d : Nat) np ni jx = true) (hkj : cnB (rcS xs (d : Nat) np ni) jx = k) (hg : g < 100) (hd : d < 100) (hgn : 0 ≤ gn ∧ gn ≤ 100) (hggn : (g : Int) < gn) (h6 : F 6 g = 4) (h7 : F 7 g = ((b : Nat) : Int)) (h8 : F 8 g = ((d : Nat) : Int)) (h9g : F 9 g = ((np : Nat) : Int)) (h9 : F 9 d = ((np : Nat) : Int)) (h10 : F 10 d = ((ni : Nat) : Int)) (h10g : F 10 g = ((n : Nat) : Int)) (hlq : 1 ≤ lq ∧ lq ≤ 4000) (hpn : np ≤ 1000 ∧ ni ≤ 1000 ∧ n ≤ 1000 ∧ np + jx ≤ 1000) (htn : 0 ≤ tn ∧ tn ≤ 1500) {zs : List Nd} (hTR : TR [0] (brR xs (lvD (F 12) (np + jx) (np + jx)) 5 (np + jx) 0 (-1) (-2 - ((np : Nat) : Int) - ((jx : Nat) : Int)) i ys ni x0) [] zs) (hoz : AOk zs) (h1z : 1 ≤ (brR xs (lvD (F 12) (np + jx) (np + jx)) 5 (np + jx) 0 (-1) (-2 - ((np : Nat) : Int) - ((jx : Nat) : Int)) i ys ni x0).length) (hnb : c + (brR xs (lvD (F 12) (np + jx) (np + jx)) 5 (np + jx) 0 (-1) (-2 - ((np : Nat) : Int) - ((jx : Nat) : Int)) i ys ni x0).length ≤ 500000) : Met l y_Mod_brings ws_Mod_brings (rM 7 (pC (capL cap c (brR xs (lvD (F 12) (np + jx) (np + jx)) 5 (np + jx) 0 (-1) (-2 - ((np : Nat) : Int) - ((jx : Nat) : Int)) i ys ni x0).length) (lvS (lvS lq 0 (np + jx)) (np + jx) ys) - pC cap lq) (pS (capL cap c (brR xs (lvD (F 12) (np + jx) (np + jx)) 5 (np + jx) 0 (-1) (-2 - ((np : Nat) : Int) - ((jx : Nat) : Int)) i ys ni x0).length) (lvS (lvS lq 0 (np + jx)) (np + jx) ys) - pS cap lq) 240) (mv_Pre (kk V) [.ref r, .int (iI ((g : Nat))), .int (iI ((k : Nat)))] M) (mv_Q (kk V) (fun z0 M' => z0 = some (.int (iI (if (tn = 1500 ∨ 1000 < zs.length ∨ 30000 < c + zs.length) then -1 else tn))) ∧ nwT V M' r (capL cap c (brR xs (lvD (F 12) (np + jx) (np + jx)) 5 (np + jx) 0 (-1) (-2 - ((np : Nat) : Int) - ((jx : Nat) : Int)) i ys ni x0).length) (lvS (lvS lq 0 (np + jx)) (np + jx) ys) F c zs (lnS zs) tn gn)) (pC (capL cap c (brR xs (lvD (F 12) (np + jx) (np + jx)) 5 (np + jx) 0 (-1) (-2 - ((np : Nat) : Int) - ((jx : Nat) : Int)) i ys ni x0).length) (lvS (lvS lq 0 (np + jx)) (np + jx) ys) - pC cap lq) (pS (capL cap c (brR xs (lvD (F 12) (np + jx) (np + jx)) 5 (np + jx) 0 (-1) (-2 - ((np : Nat) : Int) - ((jx : Nat) : Int)) i ys ni x0).length) (lvS (lvS lq 0 (np + jx)) (np + jx) ys) - pS cap lq) V.2.2.2.2 := by
  refine mv_Met (by decide) rfl (Nat.le_of_ble_eq_true rfl) (fun X hX B => ?_)
  subst hX
  replace B : mv_B X (kk V) c_Mod_brings ws_Mod_brings "FamilyRulesModel" 7 (Option.some Jvm.ClassFile.FieldType.int) (rM 7 (pC (capL cap c (brR xs (lvD (F 12) (np + jx) (np + jx)) 5 (np + jx) 0 (-1) (-2 - ((np : Nat) : Int) - ((jx : Nat) : Int)) i ys ni x0).length) (lvS (lvS lq 0 (np + jx)) (np + jx) ys) - pC cap lq) (pS (capL cap c (brR xs (lvD (F 12) (np + jx) (np + jx)) 5 (np + jx) 0 (-1) (-2 - ((np : Nat) : Int) - ((jx : Nat) : Int)) i ys ni x0).length) (lvS (lvS lq 0 (np + jx)) (np + jx) ys) - pS cap lq) 240) "brings" := B
  obtain ⟨Q, hQ⟩ : ∃ Q, Q = mv_E X (kk V) (fun z0 M' => z0 = some (.int (iI (if (tn = 1500 ∨ 1000 < zs.length ∨ 30000 < c + zs.length) then -1 else tn))) ∧ nwT V M' r (capL cap c (brR xs (lvD (F 12) (np + jx) (np + jx)) 5 (np + jx) 0 (-1) (-2 - ((np : Nat) : Int) - ((jx : Nat) : Int)) i ys ni x0).length) (lvS (lvS lq 0 (np + jx)) (np + jx) ys) F c zs (lnS zs) tn gn) (pC (capL cap c (brR xs (lvD (F 12) (np + jx) (np + jx)) 5 (np + jx) 0 (-1) (-2 - ((np : Nat) : Int) - ((jx : Nat) : Int)) i ys ni x0).length) (lvS (lvS lq 0 (np + jx)) (np + jx) ys) - pC cap lq) (pS (capL cap c (brR xs (lvD (F 12) (np + jx) (np + jx)) 5 (np + jx) 0 (-1) (-2 - ((np : Nat) : Int) - ((jx : Nat) : Int)) i ys ni x0).length) (lvS (lvS lq 0 (np + jx)) (np + jx) ys) - pS cap lq) := ⟨_, rfl⟩
  rw [← hQ]
  show mv_G X Q (kk V) 7 0 [(0, .ref r), (1, .int (iI ((g : Nat)))), (2, .int (iI ((k : Nat))))] [] M 0 0
  have hrc : (rM 7 (pC (capL cap c (brR xs (lvD (F 12) (np + jx) (np + jx)) 5 (np + jx) 0 (-1) (-2 - ((np : Nat) : Int) - ((jx : Nat) : Int)) i ys ni x0).length) (lvS (lvS lq 0 (np + jx)) (np + jx) ys) - pC cap lq) (pS (capL cap c (brR xs (lvD (F 12) (np + jx) (np + jx)) 5 (np + jx) 0 (-1) (-2 - ((np : Nat) : Int) - ((jx : Nat) : Int)) i ys ni x0).length) (lvS (lvS lq 0 (np + jx)) (np + jx) ys) - pS cap lq) 240).cells = pC (capL cap c (brR xs (lvD (F 12) (np + jx) (np + jx)) 5 (np + jx) 0 (-1) (-2 - ((np : Nat) : Int) - ((jx : Nat) : Int)) i ys ni x0).length) (lvS (lvS lq 0 (np + jx)) (np + jx) ys) - pC cap lq := rfl
  have hrs : (rM 7 (pC (capL cap c (brR xs (lvD (F 12) (np + jx) (np + jx)) 5 (np + jx) 0 (-1) (-2 - ((np : Nat) : Int) - ((jx : Nat) : Int)) i ys ni x0).length) (lvS (lvS lq 0 (np + jx)) (np + jx) ys) - pC cap lq) (pS (capL cap c (brR xs (lvD (F 12) (np + jx) (np + jx)) 5 (np + jx) 0 (-1) (-2 - ((np : Nat) : Int) - ((jx : Nat) : Int)) i ys ni x0).length) (lvS (lvS lq 0 (np + jx)) (np + jx) ys) - pS cap lq) 240).slots = pS (capL cap c (brR xs (lvD (F 12) (np + jx) (np + jx)) 5 (np + jx) 0 (-1) (-2 - ((np : Nat) : Int) - ((jx : Nat) : Int)) i ys ni x0).length) (lvS (lvS lq 0 (np + jx)) (np + jx) ys) - pS cap lq := rfl
  clear hrc hrs
  obtain ⟨Y0, hY0⟩ : ∃ Y : List Nd, Y = [] := ⟨_, rfl⟩
  have hl0 : Y0.length = 0 := by rw [hY0]; rfl
  have hC0 : RefC V M r A (rN (capL cap c Y0.length) lq) F ((c + Y0.length : Nat) : Int) tn gn := by rw [hl0]; exact hC
  have hW0 : WR F F c Y0 := by rw [hY0]; exact WR_nil
  obtain ⟨N9, hN9⟩ : ∃ nz9 : Nat, nz9 = (brR xs (lvD (F 12) (np + jx) (np + jx)) 5 (np + jx) 0 (-1) (-2 - ((np : Nat) : Int) - ((jx : Nat) : Int)) i ys ni x0).length := ⟨_, rfl⟩
  obtain ⟨Q9, hQ9⟩ : ∃ nz9 : Nat, nz9 = lvS (lvS lq 0 (np + jx)) (np + jx) ys := ⟨_, rfl⟩
  rw [← hN9] at hnb
  have hkb := cnB_le (rcS xs ((d : Nat) : Int) np ni) jx
  have hQ1 := (lvS_ok (lq := lq) (v := 0) (by omega) (by omega) (np + jx)).1
  have hQ2 := (lvS_ok (lq := lq) (v := 0) (by omega) (by omega) (np + jx)).2.1
  have hQ3 := (lvS_ok (lq := lq) (v := 0) (by omega) (by omega) (np + jx)).2.2 (by omega) (by omega)
  have hT1 : lvS lq 0 (np + jx) ≤ Q9 := by rw [hQ9]; exact lvS_ge _ _ _
  have hQl : lq ≤ Q9 := Nat.le_trans hQ2 hT1
  rw [← hN9] at h1z
  have hLd : ∀ l : Nat, l < np + jx → -1000000 ≤ (lvD (F 12) (np + jx) (np + jx)) l ∧ (lvD (F 12) (np + jx) (np + jx)) l ≤ 1000000 := fun l h => by unfold lvD; rw [if_pos h]; omega
  have hb0 : Y0.length ≤ N9 := by omega
  have ck0 : CK cap c Y0.length := CK_of hcc hcap0 hcap (by omega)
  have hq0 : lq ≤ lq ∧ lq ≤ Q9 := by omega
  have pl0 : PL cap lq (capL cap c Y0.length) (lq) := PL_le (capL_ge cap c Y0.length) hq0.1
  refine mv_widen (c2 := pC (capL cap c Y0.length) (lq) - pC cap lq) (s2 := pS (capL cap c Y0.length) (lq) - pS cap lq) (Nat.zero_le _) (Nat.zero_le _) ?_
  have k1_6 : M (A 6) = some (iA V (100) (F 6)) := hC0.2.1 6 (by decide)
  have k1_7 : M (A 7) = some (iA V (100) (F 7)) := hC0.2.1 7 (by decide)
  have k1_9 : M (A 9) = some (iA V (100) (F 9)) := hC0.2.1 9 (by decide)
  have k1_10 : M (A 10) = some (iA V (100) (F 10)) := hC0.2.1 10 (by decide)
  refine mv_iload_n B d_Mod_brings_0 rfl 1 rfl ?_
  refine mv_if_lt (tgt := 36) B d_Mod_brings_1 (by decide) (by first | omega | (split <;> omega)) (fun c2 => ?_) (fun c2 => ?_)
  · omega
  · refine mv_iload_n B d_Mod_brings_4 rfl 1 rfl ?_
    refine mv_aloadR_n B d_Mod_brings_5 rfl 0 rfl ?_
    refine gf_Mod_81 B hC0.1 rfl d_Mod_brings_6 ?_
    refine mv_icmp_ge (tgt := 36) B d_Mod_brings_9 (by decide) (by first | omega | (split <;> omega)) (by first | omega | (split <;> omega)) (fun c3 => ?_) (fun c3 => ?_)
    · omega
    · refine mv_aloadR_n B d_Mod_brings_12 rfl 0 rfl ?_
      refine gf_Mod_28 B hC0.1 rfl d_Mod_brings_13 ?_
      refine mv_iload_n B d_Mod_brings_16 rfl 1 rfl ?_
      refine ia_ld B k1_6 (by first | omega | (split <;> omega)) (by omega) (by omega) d_Mod_brings_17 ?_
      rw [show Int.toNat ((g : Nat)) = g from by omega]
      have rr4 : R32 (F 6 g) := (hC0.R 6) _
      rw [show F 6 g = 4 from h6]
      refine mv_iconst (z := 4) B d_Mod_brings_18 rfl ?_
      refine mv_icmp_ne (tgt := 36) B d_Mod_brings_19 (by decide) (by first | omega | (split <;> omega)) (by first | omega | (split <;> omega)) (fun c5 => ?_) (fun c5 => ?_)
      · omega
      · refine mv_aloadR_n B d_Mod_brings_22 rfl 0 rfl ?_
        refine gf_Mod_31 B hC0.1 rfl d_Mod_brings_23 ?_
        refine mv_iload_n B d_Mod_brings_26 rfl 1 rfl ?_
        refine ia_ld B k1_7 (by first | omega | (split <;> omega)) (by omega) (by omega) d_Mod_brings_27 ?_
        rw [show Int.toNat ((g : Nat)) = g from by omega]
        have rr6 : R32 (F 7 g) := (hC0.R 7) _
        rw [show F 7 g = ((b : Nat) : Int) from h7]
        refine mv_iconst (z := -1) B d_Mod_brings_28 rfl ?_
        refine mv_icmp_eq (tgt := 36) B d_Mod_brings_29 (by decide) (by first | omega | (split <;> omega)) (by first | omega | (split <;> omega)) (fun c7 => ?_) (fun c7 => ?_)
        · omega
        · refine mv_iload_n B d_Mod_brings_32 rfl 2 rfl ?_
          refine mv_if_ge (tgt := 38) B d_Mod_brings_33 (by decide) (by first | omega | (split <;> omega)) (fun c8 => ?_) (fun c8 => ?_)
          · refine mv_iconst (z := -1) B d_Mod_brings_38 rfl ?_
            refine mv_istore_n (lv' := [(3, .int (iI (-1))), (0, .ref r), (1, .int (iI ((g : Nat)))), (2, .int (iI ((k : Nat))))]) B d_Mod_brings_39 rfl (by decide) rfl ?_
            refine mv_iload_n B d_Mod_brings_40 rfl 3 rfl ?_
            refine mv_istore (lv' := [(4, .int (iI ((k : Nat)))), (3, .int (iI (-1))), (0, .ref r), (1, .int (iI ((g : Nat)))), (2, .int (iI ((k : Nat))))]) B d_Mod_brings_41 (by decide) rfl ?_
            refine mv_iconst (z := 0) B d_Mod_brings_43 rfl ?_
            refine mv_istore (lv' := [(5, .int (iI (0))), (4, .int (iI ((k : Nat)))), (3, .int (iI (-1))), (0, .ref r), (1, .int (iI ((g : Nat)))), (2, .int (iI ((k : Nat))))]) B d_Mod_brings_44 (by decide) rfl ?_
            have L46 : ∀ (fu : Nat) (z : Nat), (z ≤ n) → (cnB (rcS xs ((d : Nat) : Int) np ni) z ≤ k) → (n - z) < fu → mv_G X Q (kk V) 7 46 [(5, .int (iI ((z : Nat)))), (4, .int (iI ((k : Nat) - ((cnB (rcS xs ((d : Nat) : Int) np ni) z : Nat) : Int)))), (3, .int (iI (-1))), (0, .ref r), (1, .int (iI ((g : Nat)))), (2, .int (iI ((k : Nat))))] [] M (pC (capL cap c Y0.length) (lq) - pC cap lq) (pS (capL cap c Y0.length) (lq) - pS cap lq) := by
              intro fu
              induction fu with
              | zero => intro z hz hzc hm; exact absurd hm (Nat.not_lt_zero _)
              | succ fu ih46 =>
                intro z hz hzc hm
                refine mv_iload B d_Mod_brings_46 0 rfl ?_
                refine mv_aloadR_n B d_Mod_brings_48 rfl 3 rfl ?_
                refine gf_Mod_40 B hC0.1 rfl d_Mod_brings_49 ?_
                refine mv_iload_n B d_Mod_brings_52 rfl 4 rfl ?_
                refine ia_ld B k1_10 (by first | omega | (split <;> omega)) (by omega) (by omega) d_Mod_brings_53 ?_
                rw [show Int.toNat ((g : Nat)) = g from by omega]
                have rr9 : R32 (F 10 g) := (hC0.R 10) _
                rw [show F 10 g = ((n : Nat) : Int) from h10g]
                refine mv_icmp_ge (tgt := 92) B d_Mod_brings_54 (by decide) (by first | omega | (split <;> omega)) (by first | omega | (split <;> omega)) (fun c10 => ?_) (fun c10 => ?_)
                · exfalso
                  have ez9 : z = n := by omega
                  rw [ez9] at hzc
                  have hm9 := cnB_m (rcS xs ((d : Nat) : Int) np ni) (show jx + 1 ≤ n by omega)
                  simp only [cnB] at hm9
                  rw [if_pos hrj] at hm9
                  omega
                · refine mv_iload_n B d_Mod_brings_57 rfl 2 rfl ?_
                  refine mv_if_ge (tgt := 92) B d_Mod_brings_58 (by decide) (by first | omega | (split <;> omega)) (fun c11 => ?_) (fun c11 => ?_)
                  · omega
                  · refine mv_aloadR_n B d_Mod_brings_61 rfl 3 rfl ?_
                    refine mv_iload_n B d_Mod_brings_62 rfl 4 rfl ?_
                    refine mv_iload B d_Mod_brings_63 0 rfl ?_
                    refine ca_Mod_140 (mc := 0) (ms := 0) (As := [.int (iI ((g : Nat))), .int (iI ((z : Nat)))]) (rest := []) B (mW_isRec hC0 ck0.2.2 (seF_ag hW0.1 hl hs) (by have := ck0.1; omega) hT hnz (by omega) hd h7 h8 h9g h9 h10 (by omega) (jx := z) (by omega)) rfl rfl ⟨Nat.le_of_ble_eq_true rfl, Nat.le_of_ble_eq_true rfl⟩ hC0.1 rfl rfl (Nat.le_of_ble_eq_true rfl) d_Mod_brings_65 ⟨PL_0c (PL_le (capL_mono cap c (hN9 ▸ (show Y0.length ≤ N9 by omega))) (hQ9 ▸ hq0.2)), PL_0s (PL_le (capL_mono cap c (hN9 ▸ (show Y0.length ≤ N9 by omega))) (hQ9 ▸ hq0.2))⟩ (mv_x ?_)
                    show mv_G X Q (kk V) 7 68 [(5, .int (iI ((z : Nat)))), (4, .int (iI ((k : Nat) - ((cnB (rcS xs ((d : Nat) : Int) np ni) z : Nat) : Int)))), (3, .int (iI (-1))), (0, .ref r), (1, .int (iI ((g : Nat)))), (2, .int (iI ((k : Nat))))] [.int (iI (if rcS xs ((d : Nat) : Int) np ni z = true then 1 else 0))] M (pC (capL cap c Y0.length) (lq) - pC cap lq) (pS (capL cap c Y0.length) (lq) - pS cap lq)
                    refine mv_if_eq (tgt := 86) B d_Mod_brings_68 (by decide) (by first | omega | (split <;> omega)) (fun c12 => ?_) (fun c12 => ?_)
                    · have hr : rcS xs ((d : Nat) : Int) np ni z = false := by
                        apply Bool.eq_false_iff.mpr
                        intro q
                        rw [if_pos q] at c12
                        omega
                      refine mv_iinc (lv' := [(5, .int (iI ((z : Nat) + 1))), (4, .int (iI ((k : Nat) - ((cnB (rcS xs ((d : Nat) : Int) np ni) z : Nat) : Int)))), (3, .int (iI (-1))), (0, .ref r), (1, .int (iI ((g : Nat)))), (2, .int (iI ((k : Nat))))]) B d_Mod_brings_86 0 rfl (by decide) rfl ?_
                      refine mv_goto (tgt := 46) B d_Mod_brings_89 (by decide) ?_
                      refine mv_lv (lv' := [(5, .int (iI (((z + 1) : Nat)))), (4, .int (iI ((k : Nat) - ((cnB (rcS xs ((d : Nat) : Int) np ni) (z + 1) : Nat) : Int)))), (3, .int (iI (-1))), (0, .ref r), (1, .int (iI ((g : Nat)))), (2, .int (iI ((k : Nat))))]) [0, 1, 2, 3, 4, 5] (lc (lI (by first | rfl | omega)) (lc (lI (by simp only [cnB]; first | (rw [if_pos hr]; omega) | (rw [if_neg (by rw [hr]; simp)]; omega))) (lc rfl (lc rfl (lc rfl (lc rfl rfl)))))) ?_
                      exact ih46 (z + 1) (by omega) (by simp only [cnB]; first | (rw [if_pos hr]; omega) | (rw [if_neg (by rw [hr]; simp)]; omega)) (by omega)
                    · have hr : rcS xs ((d : Nat) : Int) np ni z = true := by
                        apply Classical.byContradiction
                        intro q
                        rw [if_neg q] at c12
                        omega
                      refine mv_iload B d_Mod_brings_71 1 rfl ?_
                      refine mv_if_ne (tgt := 81) B d_Mod_brings_73 (by decide) (by first | omega | (split <;> omega)) (fun c13 => ?_) (fun c13 => ?_)
                      · refine mv_iconst (z := -1) B d_Mod_brings_81 rfl ?_
                        refine mv_istore_n (lv' := [(3, .int (iI (-1))), (5, .int (iI ((z : Nat)))), (4, .int (iI ((k : Nat) - ((cnB (rcS xs ((d : Nat) : Int) np ni) z : Nat) : Int)))), (0, .ref r), (1, .int (iI ((g : Nat)))), (2, .int (iI ((k : Nat))))]) B d_Mod_brings_82 rfl (by decide) rfl ?_
                        refine mv_iinc (lv' := [(4, .int (iI (((k : Nat) - ((cnB (rcS xs ((d : Nat) : Int) np ni) z : Nat) : Int)) + (-1)))), (3, .int (iI (-1))), (5, .int (iI ((z : Nat)))), (0, .ref r), (1, .int (iI ((g : Nat)))), (2, .int (iI ((k : Nat))))]) B d_Mod_brings_83 2 rfl (by decide) rfl ?_
                        refine mv_iinc (lv' := [(5, .int (iI ((z : Nat) + 1))), (4, .int (iI (((k : Nat) - ((cnB (rcS xs ((d : Nat) : Int) np ni) z : Nat) : Int)) + (-1)))), (3, .int (iI (-1))), (0, .ref r), (1, .int (iI ((g : Nat)))), (2, .int (iI ((k : Nat))))]) B d_Mod_brings_86 2 rfl (by decide) rfl ?_
                        refine mv_goto (tgt := 46) B d_Mod_brings_89 (by decide) ?_
                        refine mv_lv (lv' := [(5, .int (iI (((z + 1) : Nat)))), (4, .int (iI ((k : Nat) - ((cnB (rcS xs ((d : Nat) : Int) np ni) (z + 1) : Nat) : Int)))), (3, .int (iI (-1))), (0, .ref r), (1, .int (iI ((g : Nat)))), (2, .int (iI ((k : Nat))))]) [0, 1, 2, 3, 4, 5] (lc (lI (by first | rfl | omega)) (lc (lI (by simp only [cnB]; first | (rw [if_pos hr]; omega) | (rw [if_neg (by rw [hr]; simp)]; omega))) (lc rfl (lc rfl (lc rfl (lc rfl rfl)))))) ?_
                        exact ih46 (z + 1) (by omega) (by simp only [cnB]; first | (rw [if_pos hr]; omega) | (rw [if_neg (by rw [hr]; simp)]; omega)) (by omega)
                      · have hzj : jx = z := cnB_u (rcS xs ((d : Nat) : Int) np ni) hrj hr (by omega)
                        refine mv_iload B d_Mod_brings_76 0 rfl ?_
                        refine mv_goto (tgt := 82) B d_Mod_brings_78 (by decide) ?_
                        refine mv_istore_n (lv' := [(3, .int (iI ((z : Nat)))), (5, .int (iI ((z : Nat)))), (4, .int (iI ((k : Nat) - ((cnB (rcS xs ((d : Nat) : Int) np ni) z : Nat) : Int)))), (0, .ref r), (1, .int (iI ((g : Nat)))), (2, .int (iI ((k : Nat))))]) B d_Mod_brings_82 rfl (by decide) rfl ?_
                        refine mv_iinc (lv' := [(4, .int (iI (((k : Nat) - ((cnB (rcS xs ((d : Nat) : Int) np ni) z : Nat) : Int)) + (-1)))), (3, .int (iI ((z : Nat)))), (5, .int (iI ((z : Nat)))), (0, .ref r), (1, .int (iI ((g : Nat)))), (2, .int (iI ((k : Nat))))]) B d_Mod_brings_83 2 rfl (by decide) rfl ?_
                        refine mv_iinc (lv' := [(5, .int (iI ((z : Nat) + 1))), (4, .int (iI (((k : Nat) - ((cnB (rcS xs ((d : Nat) : Int) np ni) z : Nat) : Int)) + (-1)))), (3, .int (iI ((z : Nat)))), (0, .ref r), (1, .int (iI ((g : Nat)))), (2, .int (iI ((k : Nat))))]) B d_Mod_brings_86 2 rfl (by decide) rfl ?_
                        refine mv_goto (tgt := 46) B d_Mod_brings_89 (by decide) ?_
                        refine mv_iload B d_Mod_brings_46 0 rfl ?_
                        refine mv_aloadR_n B d_Mod_brings_48 rfl 3 rfl ?_
                        refine gf_Mod_40 B hC0.1 rfl d_Mod_brings_49 ?_
                        refine mv_iload_n B d_Mod_brings_52 rfl 4 rfl ?_
                        refine ia_ld B k1_10 (by first | omega | (split <;> omega)) (by omega) (by omega) d_Mod_brings_53 ?_
                        rw [show Int.toNat ((g : Nat)) = g from by omega]
                        have rr14 : R32 (F 10 g) := (hC0.R 10) _
                        rw [show F 10 g = ((n : Nat) : Int) from h10g]
                        refine mv_icmp_ge (tgt := 92) B d_Mod_brings_54 (by decide) (by first | omega | (split <;> omega)) (by first | omega | (split <;> omega)) (fun c15 => ?_) (fun c15 => ?_)
                        · refine mv_iload_n B d_Mod_brings_92 rfl 2 rfl ?_
                          refine mv_if_ge (tgt := 98) B d_Mod_brings_93 (by decide) (by first | omega | (split <;> omega)) (fun c16 => ?_) (fun c16 => ?_)
                          · subst hzj
                            refine mv_aloadR_n B d_Mod_brings_98 rfl 3 rfl ?_
                            refine gf_Mod_37 B hC0.1 rfl d_Mod_brings_99 ?_
                            refine mv_iload_n B d_Mod_brings_102 rfl 4 rfl ?_
                            refine ia_ld B k1_9 (by first | omega | (split <;> omega)) (by omega) (by omega) d_Mod_brings_103 ?_
                            rw [show Int.toNat ((g : Nat)) = g from by omega]
                            have rr17 : R32 (F 9 g) := (hC0.R 9) _
                            rw [show F 9 g = (np : Nat) from (congrFun (hW0.2.1 9 (by omega) (by omega)) g).trans h9g]
                            refine mv_istore (lv' := [(5, .int (iI ((np : Nat)))), (4, .int (iI (((k : Nat) - ((cnB (rcS xs ((d : Nat) : Int) np ni) jx : Nat) : Int)) + (-1)))), (3, .int (iI ((jx : Nat)))), (0, .ref r), (1, .int (iI ((g : Nat)))), (2, .int (iI ((k : Nat))))]) B d_Mod_brings_104 (by decide) rfl ?_
                            refine mv_iconst (z := 0) B d_Mod_brings_106 rfl ?_
                            refine mv_istore (lv' := [(6, .int (iI (0))), (5, .int (iI ((np : Nat)))), (4, .int (iI (((k : Nat) - ((cnB (rcS xs ((d : Nat) : Int) np ni) jx : Nat) : Int)) + (-1)))), (3, .int (iI ((jx : Nat)))), (0, .ref r), (1, .int (iI ((g : Nat)))), (2, .int (iI ((k : Nat))))]) B d_Mod_brings_107 (by decide) rfl ?_
                            have L109 : ∀ (fu : Nat) (y : Nat) (My1 : mv_M) (Ay1 : Nat → Nat) (Fy1 : Nat → Nat → Int), (y ≤ np + jx) → (WR F Fy1 c (Y0 ++ ([] : List Nd))) → (Fy1 12 = lvD (F 12) (np + jx) y) → (RefC V My1 r Ay1 (rN (capL cap c (Y0 ++ ([] : List Nd)).length) (lvS lq 0 y)) Fy1 ((c + (Y0 ++ ([] : List Nd)).length : Nat) : Int) tn gn) → (np + jx - y) < fu → mv_G X Q (kk V) 7 109 [(6, .int (iI ((y : Nat)))), (5, .int (iI ((np : Nat)))), (4, .int (iI ((k : Nat) - ((cnB (rcS xs ((d : Nat) : Int) np ni) jx : Nat) : Int) + (-1)))), (3, .int (iI ((jx : Nat)))), (0, .ref r), (1, .int (iI ((g : Nat)))), (2, .int (iI ((k : Nat))))] [] My1 (pC (capL cap c (Y0 ++ ([] : List Nd)).length) (lvS lq 0 y) - pC cap lq) (pS (capL cap c (Y0 ++ ([] : List Nd)).length) (lvS lq 0 y) - pS cap lq) := by
                              intro fu
                              induction fu with
                              | zero => intro y My1 Ay1 Fy1 hy hWl hLl hCl hm; exact absurd hm (Nat.not_lt_zero _)
                              | succ fu ih109 =>
                                intro y My1 Ay1 Fy1 hy hWl hLl hCl hm
                                obtain ⟨Yl109, hYl109⟩ : ∃ Y : List Nd, Y = (Y0 ++ ([] : List Nd)) := ⟨_, rfl⟩
                                rw [← hYl109] at hWl hCl
                                rw [← hYl109]
                                have lYl109 : Yl109.length = Y0.length + (([] : List Nd)).length := by rw [hYl109, List.length_append]
                                have lz109 : ([] : List Nd).length = 0 := rfl
                                have hlay := (lvS_ok (lq := lq) (v := 0) (by omega) (by omega) y).1
                                have hlby := (lvS_ok (lq := lq) (v := 0) (by omega) (by omega) y).2.1
                                have hlcy := (lvS_ok (lq := lq) (v := 0) (by omega) (by omega) y).2.2 (by omega) (by omega)
                                have hldy : lvS lq 0 y ≤ Q9 := Nat.le_trans (lvS_m hy) hT1
                                have hbL109 : Yl109.length ≤ N9 := by omega
                                have ckL109 : CK cap c Yl109.length := CK_of hcc hcap0 hcap (by omega)
                                have hqL109 : lq ≤ lvS lq 0 y ∧ lvS lq 0 y ≤ Q9 := by omega
                                have plL109 : PL cap lq (capL cap c Yl109.length) (lvS lq 0 y) := PL_le (capL_ge cap c Yl109.length) hqL109.1
                                have k19_6 : My1 (Ay1 6) = some (iA V (100) (Fy1 6)) := hCl.2.1 6 (by decide)
                                have k19_7 : My1 (Ay1 7) = some (iA V (100) (Fy1 7)) := hCl.2.1 7 (by decide)
                                have k19_9 : My1 (Ay1 9) = some (iA V (100) (Fy1 9)) := hCl.2.1 9 (by decide)
                                have k19_10 : My1 (Ay1 10) = some (iA V (100) (Fy1 10)) := hCl.2.1 10 (by decide)
                                refine mv_iload B d_Mod_brings_109 0 rfl ?_
                                refine mv_iload B d_Mod_brings_111 1 rfl ?_
                                refine mv_iload_n B d_Mod_brings_113 rfl 3 rfl ?_
                                refine mv_iadd B d_Mod_brings_114 ?_
                                refine mv_icmp_ge (tgt := 139) B d_Mod_brings_115 (by decide) (by first | omega | (split <;> omega)) (by first | omega | (split <;> omega)) (fun c20 => ?_) (fun c20 => ?_)
                                · have ey : (np + jx) = y := by omega
                                  subst ey
                                  clear ih109 hm
                                  refine mv_aloadR_n B d_Mod_brings_139 rfl 4 rfl ?_
                                  refine gf_Mod_55 B hCl.1 rfl d_Mod_brings_140 ?_
                                  rw [show ((c + Yl109.length : Nat) : Int) = ((c : Nat) : Int) by omega]
                                  refine mv_istore (lv' := [(6, .int (iI ((c : Nat)))), (5, .int (iI ((np : Nat)))), (4, .int (iI ((k : Nat) - ((cnB (rcS xs ((d : Nat) : Int) np ni) jx : Nat) : Int) + (-1)))), (3, .int (iI ((jx : Nat)))), (0, .ref r), (1, .int (iI ((g : Nat)))), (2, .int (iI ((k : Nat))))]) B d_Mod_brings_143 (by decide) rfl ?_
                                  refine mv_aloadR_n B d_Mod_brings_145 rfl 4 rfl ?_
                                  refine mv_iload_n B d_Mod_brings_146 rfl 5 rfl ?_
                                  refine mv_iload_n B d_Mod_brings_147 rfl 3 rfl ?_
                                  refine mv_iconst (z := 5) B d_Mod_brings_148 rfl ?_
                                  refine mv_iconst (z := 0) B d_Mod_brings_149 rfl ?_
                                  refine mv_iconst (z := -1) B d_Mod_brings_150 rfl ?_
                                  refine mv_bipush (z := -2) B d_Mod_brings_151 (by decide) ?_
                                  refine mv_iload B d_Mod_brings_153 1 rfl ?_
                                  refine mv_isub B d_Mod_brings_155 ?_
                                  refine mv_iload_n B d_Mod_brings_156 rfl 3 rfl ?_
                                  refine mv_isub B d_Mod_brings_157 ?_
                                  have w21z : (brR xs (lvD (F 12) (np + jx) (np + jx)) 5 (np + jx) 0 (-1) (-2 - ((np : Nat) : Int) - ((jx : Nat) : Int)) i ys ni x0).length = N9 := hN9.symm
                                  have w21q : lvS lq 0 (np + jx) ≤ lvS (lvS lq 0 (np + jx)) (np + jx) ys ∧ lvS (lvS lq 0 (np + jx)) (np + jx) ys ≤ Q9 := by rw [hQ9]; exact ⟨lvS_ge _ _ _, Nat.le_refl _⟩
                                  have w21n : Yl109.length + (brR xs (lvD (F 12) (np + jx) (np + jx)) 5 (np + jx) 0 (-1) (-2 - ((np : Nat) : Int) - ((jx : Nat) : Int)) i ys ni x0).length ≤ N9 := by omega
                                  have w21e : capL (capL cap c Yl109.length) (c + Yl109.length) (brR xs (lvD (F 12) (np + jx) (np + jx)) 5 (np + jx) 0 (-1) (-2 - ((np : Nat) : Int) - ((jx : Nat) : Int)) i ys ni x0).length = capL cap c (Yl109.length + (brR xs (lvD (F 12) (np + jx) (np + jx)) 5 (np + jx) 0 (-1) (-2 - ((np : Nat) : Int) - ((jx : Nat) : Int)) i ys ni x0).length) := (capL_add cap c Yl109.length (brR xs (lvD (F 12) (np + jx) (np + jx)) 5 (np + jx) 0 (-1) (-2 - ((np : Nat) : Int) - ((jx : Nat) : Int)) i ys ni x0).length).symm
                                  have w21m : PL (capL cap c Yl109.length) (lvS lq 0 (np + jx)) (capL cap c (Yl109.length + (brR xs (lvD (F 12) (np + jx) (np + jx)) 5 (np + jx) 0 (-1) (-2 - ((np : Nat) : Int) - ((jx : Nat) : Int)) i ys ni x0).length)) (lvS (lvS lq 0 (np + jx)) (np + jx) ys) := PL_le (capL_mono cap c (Nat.le_add_right _ _)) w21q.1
                                  have w21t : PL (capL cap c (Yl109.length + (brR xs (lvD (F 12) (np + jx) (np + jx)) 5 (np + jx) 0 (-1) (-2 - ((np : Nat) : Int) - ((jx : Nat) : Int)) i ys ni x0).length)) (lvS (lvS lq 0 (np + jx)) (np + jx) ys) (capL cap c (brR xs (lvD (F 12) (np + jx) (np + jx)) 5 (np + jx) 0 (-1) (-2 - ((np : Nat) : Int) - ((jx : Nat) : Int)) i ys ni x0).length) (lvS (lvS lq 0 (np + jx)) (np + jx) ys) := PL_le (capL_mono cap c (hN9 ▸ w21n)) (hQ9 ▸ w21q.2)
                                  refine ca_Mod_143 (mc := pC (capL (capL cap c Yl109.length) (c + Yl109.length) (brR xs (lvD (F 12) (np + jx) (np + jx)) 5 (np + jx) 0 (-1) (-2 - ((np : Nat) : Int) - ((jx : Nat) : Int)) i ys ni x0).length) (lvS (lvS lq 0 (np + jx)) (np + jx) ys) - pC (capL cap c Yl109.length) (lvS lq 0 (np + jx))) (ms := pS (capL (capL cap c Yl109.length) (c + Yl109.length) (brR xs (lvD (F 12) (np + jx) (np + jx)) 5 (np + jx) 0 (-1) (-2 - ((np : Nat) : Int) - ((jx : Nat) : Int)) i ys ni x0).length) (lvS (lvS lq 0 (np + jx)) (np + jx) ys) - pS (capL cap c Yl109.length) (lvS lq 0 (np + jx))) (rm' := rM 6 (pC (capL (capL cap c Yl109.length) (c + Yl109.length) (brR xs (lvD (F 12) (np + jx) (np + jx)) 5 (np + jx) 0 (-1) (-2 - ((np : Nat) : Int) - ((jx : Nat) : Int)) i ys ni x0).length) (lvS (lvS lq 0 (np + jx)) (np + jx) ys) - pC (capL cap c Yl109.length) (lvS lq 0 (np + jx))) (pS (capL (capL cap c Yl109.length) (c + Yl109.length) (brR xs (lvD (F 12) (np + jx) (np + jx)) 5 (np + jx) 0 (-1) (-2 - ((np : Nat) : Int) - ((jx : Nat) : Int)) i ys ni x0).length) (lvS (lvS lq 0 (np + jx)) (np + jx) ys) - pS (capL cap c Yl109.length) (lvS lq 0 (np + jx))) 200) (As := [.int (iI ((g : Nat))), .int (iI ((jx : Nat))), .int (iI (5)), .int (iI (0)), .int (iI (-1)), .int (iI (((-2) - (np : Nat)) - (jx : Nat)))]) (rest := []) B (mW_brought hCl ckL109.1 ckL109.2.1 ckL109.2.2 hLl (seF_ag hWl.1 hl hs) (by omega) hBr ho hg hd ((congrFun (hWl.2.1 7 (by omega) (by omega)) g).trans h7) ((congrFun (hWl.2.1 8 (by omega) (by omega)) g).trans h8) ((congrFun (hWl.2.1 9 (by omega) (by omega)) g).trans h9g) ((congrFun (hWl.2.1 9 (by omega) (by omega)) d).trans h9) ((congrFun (hWl.2.1 10 (by omega) (by omega)) d).trans h10) (k := 5) (first := 0) (own := -1) (head := -2 - ((np : Nat) : Int) - ((jx : Nat) : Int)) (by omega) (by omega) (by omega) (by omega) (by omega) hLd (by omega) (by omega)) rfl rfl ⟨Nat.le_of_ble_eq_true rfl, Nat.le_of_ble_eq_true rfl⟩ hCl.1 rfl rfl (Nat.le_of_ble_eq_true rfl) d_Mod_brings_158 ⟨by rw [w21e]; exact PL_c plL109 w21m w21t, by rw [w21e]; exact PL_s plL109 w21m w21t⟩ (fun v1 w21M ep => ?_)
                                  obtain ⟨e1, w21U⟩ := ep
                                  subst e1
                                  have w21U := wrP_app (lq := lq) hWl w21U
                                  obtain ⟨w21Y, w21h⟩ : ∃ Y : List Nd, Y = Yl109 ++ (brR xs (lvD (F 12) (np + jx) (np + jx)) 5 (np + jx) 0 (-1) (-2 - ((np : Nat) : Int) - ((jx : Nat) : Int)) i ys ni x0) := ⟨_, rfl⟩
                                  rw [← w21h] at w21U
                                  have w21l : w21Y.length = Yl109.length + (brR xs (lvD (F 12) (np + jx) (np + jx)) 5 (np + jx) 0 (-1) (-2 - ((np : Nat) : Int) - ((jx : Nat) : Int)) i ys ni x0).length := by rw [w21h, List.length_append]
                                  obtain ⟨w21A, w21F, w21W, w21L, w21C⟩ := w21U
                                  rw [← w21l] at w21e w21m w21t
                                  have w21b : CK cap c w21Y.length := CK_of hcc hcap0 hcap (by omega)
                                  have w21p := plL109.tr w21m
                                  refine mv_widen (c2 := pC (capL cap c w21Y.length) (lvS (lvS lq 0 (np + jx)) (np + jx) ys) - pC cap lq) (s2 := pS (capL cap c w21Y.length) (lvS (lvS lq 0 (np + jx)) (np + jx) ys) - pS cap lq) (by rw [w21e]; exact PL_c2 plL109 w21m) (by rw [w21e]; exact PL_s2 plL109 w21m) ?_
                                  clear w21e w21m w21t w21n
                                  show mv_G X Q (kk V) 7 161 [(6, .int (iI ((c : Nat)))), (5, .int (iI ((np : Nat)))), (4, .int (iI ((k : Nat) - ((cnB (rcS xs ((d : Nat) : Int) np ni) jx : Nat) : Int) + (-1)))), (3, .int (iI ((jx : Nat)))), (0, .ref r), (1, .int (iI ((g : Nat)))), (2, .int (iI ((k : Nat))))] [] w21M (pC (capL cap c w21Y.length) (lvS (lvS lq 0 (np + jx)) (np + jx) ys) - pC cap lq) (pS (capL cap c w21Y.length) (lvS (lvS lq 0 (np + jx)) (np + jx) ys) - pS cap lq)
                                  have k22_6 : w21M (w21A 6) = some (iA V (100) (w21F 6)) := w21C.2.1 6 (by decide)
                                  have k22_7 : w21M (w21A 7) = some (iA V (100) (w21F 7)) := w21C.2.1 7 (by decide)
                                  have k22_9 : w21M (w21A 9) = some (iA V (100) (w21F 9)) := w21C.2.1 9 (by decide)
                                  have k22_10 : w21M (w21A 10) = some (iA V (100) (w21F 10)) := w21C.2.1 10 (by decide)
                                  refine mv_aloadR_n B d_Mod_brings_161 rfl 4 rfl ?_
                                  refine mv_iload B d_Mod_brings_162 0 rfl ?_
                                  have eZ : w21Y = brR xs (lvD (F 12) (np + jx) (np + jx)) 5 (np + jx) 0 (-1) (-2 - ((np : Nat) : Int) - ((jx : Nat) : Int)) i ys ni x0 := by rw [w21h, hYl109, hY0]; simp only [List.append_nil, List.nil_append, List.append_assoc]
                                  have hTZ : TR [0] w21Y [] zs := by rw [eZ]; exact hTR
                                  have hlz : zs.length = w21Y.length := (TR_end hTZ).2.2.1
                                  have hck9 := w21b.1
                                  have hnY : w21Y.length = N9 := by rw [hN9, eZ]
                                  refine ca_Mod_147 (mc := 0) (ms := 0) (rm' := rM 2 0 0 60) (As := [.int (iI ((c : Nat)))]) (rest := []) B (mW_settle w21C w21b.2.2 w21W hTZ hoz (by omega) (by omega) (by omega)) rfl rfl ⟨Nat.le_of_ble_eq_true rfl, Nat.le_of_ble_eq_true rfl⟩ w21C.1 rfl rfl (Nat.le_of_ble_eq_true rfl) d_Mod_brings_164 ⟨PL_0c (PL_le (capL_mono cap c (hN9 ▸ (show w21Y.length ≤ N9 by omega))) (hQ9 ▸ w21q.2)), PL_0s (PL_le (capL_mono cap c (hN9 ▸ (show w21Y.length ≤ N9 by omega))) (hQ9 ▸ w21q.2))⟩ (fun v1 M8 ep => ?_)
                                  obtain ⟨e1, F8, hW8, hC8⟩ := ep
                                  subst e1
                                  show mv_G X Q (kk V) 7 167 [(6, .int (iI ((c : Nat)))), (5, .int (iI ((np : Nat)))), (4, .int (iI ((k : Nat) - ((cnB (rcS xs ((d : Nat) : Int) np ni) jx : Nat) : Int) + (-1)))), (3, .int (iI ((jx : Nat)))), (0, .ref r), (1, .int (iI ((g : Nat)))), (2, .int (iI ((k : Nat))))] [] M8 (pC (capL cap c w21Y.length) (lvS (lvS lq 0 (np + jx)) (np + jx) ys) - pC cap lq) (pS (capL cap c w21Y.length) (lvS (lvS lq 0 (np + jx)) (np + jx) ys) - pS cap lq)
                                  have k23_6 : M8 (w21A 6) = some (iA V (100) (F8 6)) := hC8.2.1 6 (by decide)
                                  have k23_7 : M8 (w21A 7) = some (iA V (100) (F8 7)) := hC8.2.1 7 (by decide)
                                  have k23_9 : M8 (w21A 9) = some (iA V (100) (F8 9)) := hC8.2.1 9 (by decide)
                                  have k23_10 : M8 (w21A 10) = some (iA V (100) (F8 10)) := hC8.2.1 10 (by decide)
                                  refine mv_aloadR_n B d_Mod_brings_167 rfl 4 rfl ?_
                                  refine mv_iload B d_Mod_brings_168 0 rfl ?_
                                  refine ca_Mod_84 (mc := 0) (ms := 0) (rm' := rM 1 0 0 30) (As := [.int (iI ((c : Nat)))]) (rest := []) B (m_Mod_term hC8 w21b.2.2 (b := c) (n := w21Y.length) (ℓ := lnS zs) (by omega) (by omega) htn (fun _ => by rw [← hlz]; exact WF_cg (WF_S (TR_end hTZ).2.1) (fun i hi => (hW8.2.2 i hi).1))) rfl rfl ⟨Nat.le_of_ble_eq_true rfl, Nat.le_of_ble_eq_true rfl⟩ hC8.1 rfl rfl (Nat.le_of_ble_eq_true rfl) d_Mod_brings_170 ⟨PL_0c (PL_le (capL_mono cap c (hN9 ▸ (show w21Y.length ≤ N9 by omega))) (hQ9 ▸ w21q.2)), PL_0s (PL_le (capL_mono cap c (hN9 ▸ (show w21Y.length ≤ N9 by omega))) (hQ9 ▸ w21q.2))⟩ (fun v1 M9 ep => ?_)
                                  obtain ⟨e1, hT9⟩ := tm_v ep
                                  subst e1
                                  rw [← hlz] at hT9 ⊢
                                  show mv_G X Q (kk V) 7 173 [(6, .int (iI ((c : Nat)))), (5, .int (iI ((np : Nat)))), (4, .int (iI ((k : Nat) - ((cnB (rcS xs ((d : Nat) : Int) np ni) jx : Nat) : Int) + (-1)))), (3, .int (iI ((jx : Nat)))), (0, .ref r), (1, .int (iI ((g : Nat)))), (2, .int (iI ((k : Nat))))] [.int (iI (if (tn = 1500 ∨ 1000 < zs.length ∨ 30000 < c + zs.length) then -1 else tn))] M9 (pC (capL cap c zs.length) (lvS (lvS lq 0 (np + jx)) (np + jx) ys) - pC cap lq) (pS (capL cap c zs.length) (lvS (lvS lq 0 (np + jx)) (np + jx) ys) - pS cap lq)
                                  rw [hQ]
                                  have hl9 : zs.length = (brR xs (lvD (F 12) (np + jx) (np + jx)) 5 (np + jx) 0 (-1) (-2 - ((np : Nat) : Int) - ((jx : Nat) : Int)) i ys ni x0).length := by rw [hlz, eZ]
                                  exact mv_iret B ⟨rfl, by rw [← hl9]; exact nwT_of rfl hW8 hT9⟩ (by rw [hl9]; exact Nat.le_refl _) (by rw [hl9]; exact Nat.le_refl _) d_Mod_brings_173
                                · refine mv_aloadR_n B d_Mod_brings_118 rfl 4 rfl ?_
                                  refine mv_iload B d_Mod_brings_119 0 rfl ?_
                                  refine mv_iconst (z := -1) B d_Mod_brings_121 rfl ?_
                                  refine mv_iload B d_Mod_brings_122 1 rfl ?_
                                  refine mv_iload_n B d_Mod_brings_124 rfl 3 rfl ?_
                                  refine mv_iadd B d_Mod_brings_125 ?_
                                  refine mv_iload B d_Mod_brings_126 0 rfl ?_
                                  refine mv_isub B d_Mod_brings_128 ?_
                                  refine mv_isub B d_Mod_brings_129 ?_
                                  have w24z : ([] : List Nd).length = 0 := rfl
                                  have w24q : lvS lq 0 y ≤ lvN (lvS lq 0 y) (0 + y) ∧ lvN (lvS lq 0 y) (0 + y) ≤ Q9 := by have h1 := (lvN_ok (lq := lvS lq 0 y) (v := 0 + y) (by omega) (by omega)).2.1; have h2 : lvN (lvS lq 0 y) (0 + y) ≤ lvS lq 0 (np + jx) := lvS_m (m := y + 1) (by omega); have h3 : lvS lq 0 (np + jx) ≤ Q9 := hT1; omega
                                  have w24n : Yl109.length + (([] : List Nd)).length ≤ N9 := by omega
                                  have w24e : capL (capL cap c Yl109.length) (c + Yl109.length) (([] : List Nd)).length = capL cap c (Yl109.length + (([] : List Nd)).length) := (capL_add cap c Yl109.length (([] : List Nd)).length).symm
                                  have w24m : PL (capL cap c Yl109.length) (lvS lq 0 y) (capL cap c (Yl109.length + (([] : List Nd)).length)) (lvN (lvS lq 0 y) (0 + y)) := PL_le (capL_mono cap c (Nat.le_add_right _ _)) w24q.1
                                  have w24t : PL (capL cap c (Yl109.length + (([] : List Nd)).length)) (lvN (lvS lq 0 y) (0 + y)) (capL cap c (brR xs (lvD (F 12) (np + jx) (np + jx)) 5 (np + jx) 0 (-1) (-2 - ((np : Nat) : Int) - ((jx : Nat) : Int)) i ys ni x0).length) (lvS (lvS lq 0 (np + jx)) (np + jx) ys) := PL_le (capL_mono cap c (hN9 ▸ w24n)) (hQ9 ▸ w24q.2)
                                  refine ca_Mod_133 (mc := pC (capL (capL cap c Yl109.length) (c + Yl109.length) (([] : List Nd)).length) (lvN (lvS lq 0 y) (0 + y)) - pC (capL cap c Yl109.length) (lvS lq 0 y)) (ms := pS (capL (capL cap c Yl109.length) (c + Yl109.length) (([] : List Nd)).length) (lvN (lvS lq 0 y) (0 + y)) - pS (capL cap c Yl109.length) (lvS lq 0 y)) (rm' := rM 2 (pC (capL (capL cap c Yl109.length) (c + Yl109.length) (([] : List Nd)).length) (lvN (lvS lq 0 y) (0 + y)) - pC (capL cap c Yl109.length) (lvS lq 0 y)) (pS (capL (capL cap c Yl109.length) (c + Yl109.length) (([] : List Nd)).length) (lvN (lvS lq 0 y) (0 + y)) - pS (capL cap c Yl109.length) (lvS lq 0 y)) 70) (As := [.int (iI ((y : Nat))), .int (iI ((-1) - (((np : Nat) + (jx : Nat)) - (y : Nat))))]) (rest := []) B (mW_level hCl ckL109.1 ckL109.2.1 ckL109.2.2 (v := 0 + y) (z := (y : Nat)) (x := (-1) - (((np : Nat) + (jx : Nat)) - (y : Nat))) (by omega) (by omega) (by omega) (by omega) hLl) rfl rfl ⟨Nat.le_of_ble_eq_true rfl, Nat.le_of_ble_eq_true rfl⟩ hCl.1 rfl rfl (Nat.le_of_ble_eq_true rfl) d_Mod_brings_130 ⟨by rw [w24e]; exact PL_c plL109 w24m w24t, by rw [w24e]; exact PL_s plL109 w24m w24t⟩ (fun v1 w24M ep => ?_)
                                  obtain ⟨e1, w24U⟩ := ep
                                  subst e1
                                  have w24U := wrP_app (lq := lq) hWl w24U
                                  obtain ⟨w24Y, w24h⟩ : ∃ Y : List Nd, Y = Yl109 ++ (([] : List Nd)) := ⟨_, rfl⟩
                                  rw [← w24h] at w24U
                                  have w24l : w24Y.length = Yl109.length + (([] : List Nd)).length := by rw [w24h, List.length_append]
                                  obtain ⟨w24A, w24F, w24W, w24L, w24C⟩ := w24U
                                  rw [← w24l] at w24e w24m w24t
                                  have w24b : CK cap c w24Y.length := CK_of hcc hcap0 hcap (by omega)
                                  have w24p := plL109.tr w24m
                                  refine mv_widen (c2 := pC (capL cap c w24Y.length) (lvN (lvS lq 0 y) (0 + y)) - pC cap lq) (s2 := pS (capL cap c w24Y.length) (lvN (lvS lq 0 y) (0 + y)) - pS cap lq) (by rw [w24e]; exact PL_c2 plL109 w24m) (by rw [w24e]; exact PL_s2 plL109 w24m) ?_
                                  clear w24e w24m w24t w24n
                                  show mv_G X Q (kk V) 7 133 [(6, .int (iI ((y : Nat)))), (5, .int (iI ((np : Nat)))), (4, .int (iI ((k : Nat) - ((cnB (rcS xs ((d : Nat) : Int) np ni) jx : Nat) : Int) + (-1)))), (3, .int (iI ((jx : Nat)))), (0, .ref r), (1, .int (iI ((g : Nat)))), (2, .int (iI ((k : Nat))))] [] w24M (pC (capL cap c w24Y.length) (lvN (lvS lq 0 y) (0 + y)) - pC cap lq) (pS (capL cap c w24Y.length) (lvN (lvS lq 0 y) (0 + y)) - pS cap lq)
                                  have k25_6 : w24M (w24A 6) = some (iA V (100) (w24F 6)) := w24C.2.1 6 (by decide)
                                  have k25_7 : w24M (w24A 7) = some (iA V (100) (w24F 7)) := w24C.2.1 7 (by decide)
                                  have k25_9 : w24M (w24A 9) = some (iA V (100) (w24F 9)) := w24C.2.1 9 (by decide)
                                  have k25_10 : w24M (w24A 10) = some (iA V (100) (w24F 10)) := w24C.2.1 10 (by decide)
                                  refine mv_iinc (lv' := [(6, .int (iI ((y : Nat) + 1))), (5, .int (iI ((np : Nat)))), (4, .int (iI ((k : Nat) - ((cnB (rcS xs ((d : Nat) : Int) np ni) jx : Nat) : Int) + (-1)))), (3, .int (iI ((jx : Nat)))), (0, .ref r), (1, .int (iI ((g : Nat)))), (2, .int (iI ((k : Nat))))]) B d_Mod_brings_133 0 rfl (by decide) rfl ?_
                                  refine mv_goto (tgt := 109) B d_Mod_brings_136 (by decide) ?_
                                  have y26 : w24Y = (Y0 ++ ([] : List Nd)) := by rw [w24h, hYl109]; simp only [List.append_nil]
                                  rw [y26]
                                  refine mv_lv (lv' := [(6, .int (iI (((y + 1) : Nat)))), (5, .int (iI ((np : Nat)))), (4, .int (iI ((k : Nat) - ((cnB (rcS xs ((d : Nat) : Int) np ni) jx : Nat) : Int) + (-1)))), (3, .int (iI ((jx : Nat)))), (0, .ref r), (1, .int (iI ((g : Nat)))), (2, .int (iI ((k : Nat))))]) [0, 1, 2, 3, 4, 5, 6] (lc (lI (by first | rfl | omega)) (lc rfl (lc rfl (lc rfl (lc rfl (lc rfl (lc rfl rfl))))))) ?_
                                  exact ih109 (y + 1) w24M w24A w24F (by omega) (by rw [← y26]; exact w24W) (w24L.trans (by rw [← lvD_s, Nat.zero_add]; congr 1)) (by rw [← y26]; exact w24C) (by omega)
                            refine mv_lv (lv' := [(6, .int (iI ((0 : Nat)))), (5, .int (iI ((np : Nat)))), (4, .int (iI ((k : Nat) - ((cnB (rcS xs ((d : Nat) : Int) np ni) jx : Nat) : Int) + (-1)))), (3, .int (iI ((jx : Nat)))), (0, .ref r), (1, .int (iI ((g : Nat)))), (2, .int (iI ((k : Nat))))]) [0, 1, 2, 3, 4, 5, 6] (lc (lI (by first | rfl | omega)) (lc rfl (lc (lI (by first | rfl | omega)) (lc rfl (lc rfl (lc rfl (lc rfl rfl))))))) ?_
                            have y18 : Y0 = (Y0 ++ ([] : List Nd)) := (List.append_nil _).symm
                            rw [y18]
                            exact L109 _ 0 M A F (by omega) (by rw [← y18]; exact hW0) ((lvD_0 _ _).symm) (by rw [← y18]; exact hC0) (Nat.lt_succ_self _)
                          · omega
                        · refine mv_iload_n B d_Mod_brings_57 rfl 2 rfl ?_
                          refine mv_if_ge (tgt := 92) B d_Mod_brings_58 (by decide) (by first | omega | (split <;> omega)) (fun c27 => ?_) (fun c27 => ?_)
                          · refine mv_iload_n B d_Mod_brings_92 rfl 2 rfl ?_
                            refine mv_if_ge (tgt := 98) B d_Mod_brings_93 (by decide) (by first | omega | (split <;> omega)) (fun c28 => ?_) (fun c28 => ?_)
                            · subst hzj
                              refine mv_aloadR_n B d_Mod_brings_98 rfl 3 rfl ?_
                              refine gf_Mod_37 B hC0.1 rfl d_Mod_brings_99 ?_
                              refine mv_iload_n B d_Mod_brings_102 rfl 4 rfl ?_
                              refine ia_ld B k1_9 (by first | omega | (split <;> omega)) (by omega) (by omega) d_Mod_brings_103 ?_
                              rw [show Int.toNat ((g : Nat)) = g from by omega]
                              have rr29 : R32 (F 9 g) := (hC0.R 9) _
                              rw [show F 9 g = (np : Nat) from (congrFun (hW0.2.1 9 (by omega) (by omega)) g).trans h9g]
                              refine mv_istore (lv' := [(5, .int (iI ((np : Nat)))), (4, .int (iI (((k : Nat) - ((cnB (rcS xs ((d : Nat) : Int) np ni) jx : Nat) : Int)) + (-1)))), (3, .int (iI ((jx : Nat)))), (0, .ref r), (1, .int (iI ((g : Nat)))), (2, .int (iI ((k : Nat))))]) B d_Mod_brings_104 (by decide) rfl ?_
                              refine mv_iconst (z := 0) B d_Mod_brings_106 rfl ?_
                              refine mv_istore (lv' := [(6, .int (iI (0))), (5, .int (iI ((np : Nat)))), (4, .int (iI (((k : Nat) - ((cnB (rcS xs ((d : Nat) : Int) np ni) jx : Nat) : Int)) + (-1)))), (3, .int (iI ((jx : Nat)))), (0, .ref r), (1, .int (iI ((g : Nat)))), (2, .int (iI ((k : Nat))))]) B d_Mod_brings_107 (by decide) rfl ?_
                              have L109 : ∀ (fu : Nat) (y : Nat) (My1 : mv_M) (Ay1 : Nat → Nat) (Fy1 : Nat → Nat → Int), (y ≤ np + jx) → (WR F Fy1 c (Y0 ++ ([] : List Nd))) → (Fy1 12 = lvD (F 12) (np + jx) y) → (RefC V My1 r Ay1 (rN (capL cap c (Y0 ++ ([] : List Nd)).length) (lvS lq 0 y)) Fy1 ((c + (Y0 ++ ([] : List Nd)).length : Nat) : Int) tn gn) → (np + jx - y) < fu → mv_G X Q (kk V) 7 109 [(6, .int (iI ((y : Nat)))), (5, .int (iI ((np : Nat)))), (4, .int (iI ((k : Nat) - ((cnB (rcS xs ((d : Nat) : Int) np ni) jx : Nat) : Int) + (-1)))), (3, .int (iI ((jx : Nat)))), (0, .ref r), (1, .int (iI ((g : Nat)))), (2, .int (iI ((k : Nat))))] [] My1 (pC (capL cap c (Y0 ++ ([] : List Nd)).length) (lvS lq 0 y) - pC cap lq) (pS (capL cap c (Y0 ++ ([] : List Nd)).length) (lvS lq 0 y) - pS cap lq) := by
                                intro fu
                                induction fu with
                                | zero => intro y My1 Ay1 Fy1 hy hWl hLl hCl hm; exact absurd hm (Nat.not_lt_zero _)
                                | succ fu ih109 =>
                                  intro y My1 Ay1 Fy1 hy hWl hLl hCl hm
                                  obtain ⟨Yl109, hYl109⟩ : ∃ Y : List Nd, Y = (Y0 ++ ([] : List Nd)) := ⟨_, rfl⟩
                                  rw [← hYl109] at hWl hCl
                                  rw [← hYl109]
                                  have lYl109 : Yl109.length = Y0.length + (([] : List Nd)).length := by rw [hYl109, List.length_append]
                                  have lz109 : ([] : List Nd).length = 0 := rfl
                                  have hlay := (lvS_ok (lq := lq) (v := 0) (by omega) (by omega) y).1
                                  have hlby := (lvS_ok (lq := lq) (v := 0) (by omega) (by omega) y).2.1
                                  have hlcy := (lvS_ok (lq := lq) (v := 0) (by omega) (by omega) y).2.2 (by omega) (by omega)
                                  have hldy : lvS lq 0 y ≤ Q9 := Nat.le_trans (lvS_m hy) hT1
                                  have hbL109 : Yl109.length ≤ N9 := by omega
                                  have ckL109 : CK cap c Yl109.length := CK_of hcc hcap0 hcap (by omega)
                                  have hqL109 : lq ≤ lvS lq 0 y ∧ lvS lq 0 y ≤ Q9 := by omega
                                  have plL109 : PL cap lq (capL cap c Yl109.length) (lvS lq 0 y) := PL_le (capL_ge cap c Yl109.length) hqL109.1
                                  have k31_6 : My1 (Ay1 6) = some (iA V (100) (Fy1 6)) := hCl.2.1 6 (by decide)
                                  have k31_7 : My1 (Ay1 7) = some (iA V (100) (Fy1 7)) := hCl.2.1 7 (by decide)
                                  have k31_9 : My1 (Ay1 9) = some (iA V (100) (Fy1 9)) := hCl.2.1 9 (by decide)
                                  have k31_10 : My1 (Ay1 10) = some (iA V (100) (Fy1 10)) := hCl.2.1 10 (by decide)
                                  refine mv_iload B d_Mod_brings_109 0 rfl ?_
                                  refine mv_iload B d_Mod_brings_111 1 rfl ?_
                                  refine mv_iload_n B d_Mod_brings_113 rfl 3 rfl ?_
                                  refine mv_iadd B d_Mod_brings_114 ?_
                                  refine mv_icmp_ge (tgt := 139) B d_Mod_brings_115 (by decide) (by first | omega | (split <;> omega)) (by first | omega | (split <;> omega)) (fun c32 => ?_) (fun c32 => ?_)
                                  · have ey : (np + jx) = y := by omega
                                    subst ey
                                    clear ih109 hm
                                    refine mv_aloadR_n B d_Mod_brings_139 rfl 4 rfl ?_
                                    refine gf_Mod_55 B hCl.1 rfl d_Mod_brings_140 ?_
                                    rw [show ((c + Yl109.length : Nat) : Int) = ((c : Nat) : Int) by omega]
                                    refine mv_istore (lv' := [(6, .int (iI ((c : Nat)))), (5, .int (iI ((np : Nat)))), (4, .int (iI ((k : Nat) - ((cnB (rcS xs ((d : Nat) : Int) np ni) jx : Nat) : Int) + (-1)))), (3, .int (iI ((jx : Nat)))), (0, .ref r), (1, .int (iI ((g : Nat)))), (2, .int (iI ((k : Nat))))]) B d_Mod_brings_143 (by decide) rfl ?_
                                    refine mv_aloadR_n B d_Mod_brings_145 rfl 4 rfl ?_
                                    refine mv_iload_n B d_Mod_brings_146 rfl 5 rfl ?_
                                    refine mv_iload_n B d_Mod_brings_147 rfl 3 rfl ?_
                                    refine mv_iconst (z := 5) B d_Mod_brings_148 rfl ?_
                                    refine mv_iconst (z := 0) B d_Mod_brings_149 rfl ?_
                                    refine mv_iconst (z := -1) B d_Mod_brings_150 rfl ?_
                                    refine mv_bipush (z := -2) B d_Mod_brings_151 (by decide) ?_
                                    refine mv_iload B d_Mod_brings_153 1 rfl ?_
                                    refine mv_isub B d_Mod_brings_155 ?_
                                    refine mv_iload_n B d_Mod_brings_156 rfl 3 rfl ?_
                                    refine mv_isub B d_Mod_brings_157 ?_
                                    have w33z : (brR xs (lvD (F 12) (np + jx) (np + jx)) 5 (np + jx) 0 (-1) (-2 - ((np : Nat) : Int) - ((jx : Nat) : Int)) i ys ni x0).length = N9 := hN9.symm
                                    have w33q : lvS lq 0 (np + jx) ≤ lvS (lvS lq 0 (np + jx)) (np + jx) ys ∧ lvS (lvS lq 0 (np + jx)) (np + jx) ys ≤ Q9 := by rw [hQ9]; exact ⟨lvS_ge _ _ _, Nat.le_refl _⟩
                                    have w33n : Yl109.length + (brR xs (lvD (F 12) (np + jx) (np + jx)) 5 (np + jx) 0 (-1) (-2 - ((np : Nat) : Int) - ((jx : Nat) : Int)) i ys ni x0).length ≤ N9 := by omega
                                    have w33e : capL (capL cap c Yl109.length) (c + Yl109.length) (brR xs (lvD (F 12) (np + jx) (np + jx)) 5 (np + jx) 0 (-1) (-2 - ((np : Nat) : Int) - ((jx : Nat) : Int)) i ys ni x0).length = capL cap c (Yl109.length + (brR xs (lvD (F 12) (np + jx) (np + jx)) 5 (np + jx) 0 (-1) (-2 - ((np : Nat) : Int) - ((jx : Nat) : Int)) i ys ni x0).length) := (capL_add cap c Yl109.length (brR xs (lvD (F 12) (np + jx) (np + jx)) 5 (np + jx) 0 (-1) (-2 - ((np : Nat) : Int) - ((jx : Nat) : Int)) i ys ni x0).length).symm
                                    have w33m : PL (capL cap c Yl109.length) (lvS lq 0 (np + jx)) (capL cap c (Yl109.length + (brR xs (lvD (F 12) (np + jx) (np + jx)) 5 (np + jx) 0 (-1) (-2 - ((np : Nat) : Int) - ((jx : Nat) : Int)) i ys ni x0).length)) (lvS (lvS lq 0 (np + jx)) (np + jx) ys) := PL_le (capL_mono cap c (Nat.le_add_right _ _)) w33q.1
                                    have w33t : PL (capL cap c (Yl109.length + (brR xs (lvD (F 12) (np + jx) (np + jx)) 5 (np + jx) 0 (-1) (-2 - ((np : Nat) : Int) - ((jx : Nat) : Int)) i ys ni x0).length)) (lvS (lvS lq 0 (np + jx)) (np + jx) ys) (capL cap c (brR xs (lvD (F 12) (np + jx) (np + jx)) 5 (np + jx) 0 (-1) (-2 - ((np : Nat) : Int) - ((jx : Nat) : Int)) i ys ni x0).length) (lvS (lvS lq 0 (np + jx)) (np + jx) ys) := PL_le (capL_mono cap c (hN9 ▸ w33n)) (hQ9 ▸ w33q.2)
                                    refine ca_Mod_143 (mc := pC (capL (capL cap c Yl109.length) (c + Yl109.length) (brR xs (lvD (F 12) (np + jx) (np + jx)) 5 (np + jx) 0 (-1) (-2 - ((np : Nat) : Int) - ((jx : Nat) : Int)) i ys ni x0).length) (lvS (lvS lq 0 (np + jx)) (np + jx) ys) - pC (capL cap c Yl109.length) (lvS lq 0 (np + jx))) (ms := pS (capL (capL cap c Yl109.length) (c + Yl109.length) (brR xs (lvD (F 12) (np + jx) (np + jx)) 5 (np + jx) 0 (-1) (-2 - ((np : Nat) : Int) - ((jx : Nat) : Int)) i ys ni x0).length) (lvS (lvS lq 0 (np + jx)) (np + jx) ys) - pS (capL cap c Yl109.length) (lvS lq 0 (np + jx))) (rm' := rM 6 (pC (capL (capL cap c Yl109.length) (c + Yl109.length) (brR xs (lvD (F 12) (np + jx) (np + jx)) 5 (np + jx) 0 (-1) (-2 - ((np : Nat) : Int) - ((jx : Nat) : Int)) i ys ni x0).length) (lvS (lvS lq 0 (np + jx)) (np + jx) ys) - pC (capL cap c Yl109.length) (lvS lq 0 (np + jx))) (pS (capL (capL cap c Yl109.length) (c + Yl109.length) (brR xs (lvD (F 12) (np + jx) (np + jx)) 5 (np + jx) 0 (-1) (-2 - ((np : Nat) : Int) - ((jx : Nat) : Int)) i ys ni x0).length) (lvS (lvS lq 0 (np + jx)) (np + jx) ys) - pS (capL cap c Yl109.length) (lvS lq 0 (np + jx))) 200) (As := [.int (iI ((g : Nat))), .int (iI ((jx : Nat))), .int (iI (5)), .int (iI (0)), .int (iI (-1)), .int (iI (((-2) - (np : Nat)) - (jx : Nat)))]) (rest := []) B (mW_brought hCl ckL109.1 ckL109.2.1 ckL109.2.2 hLl (seF_ag hWl.1 hl hs) (by omega) hBr ho hg hd ((congrFun (hWl.2.1 7 (by omega) (by omega)) g).trans h7) ((congrFun (hWl.2.1 8 (by omega) (by omega)) g).trans h8) ((congrFun (hWl.2.1 9 (by omega) (by omega)) g).trans h9g) ((congrFun (hWl.2.1 9 (by omega) (by omega)) d).trans h9) ((congrFun (hWl.2.1 10 (by omega) (by omega)) d).trans h10) (k := 5) (first := 0) (own := -1) (head := -2 - ((np : Nat) : Int) - ((jx : Nat) : Int)) (by omega) (by omega) (by omega) (by omega) (by omega) hLd (by omega) (by omega)) rfl rfl ⟨Nat.le_of_ble_eq_true rfl, Nat.le_of_ble_eq_true rfl⟩ hCl.1 rfl rfl (Nat.le_of_ble_eq_true rfl) d_Mod_brings_158 ⟨by rw [w33e]; exact PL_c plL109 w33m w33t, by rw [w33e]; exact PL_s plL109 w33m w33t⟩ (fun v1 w33M ep => ?_)
                                    obtain ⟨e1, w33U⟩ := ep
                                    subst e1
                                    have w33U := wrP_app (lq := lq) hWl w33U
                                    obtain ⟨w33Y, w33h⟩ : ∃ Y : List Nd, Y = Yl109 ++ (brR xs (lvD (F 12) (np + jx) (np + jx)) 5 (np + jx) 0 (-1) (-2 - ((np : Nat) : Int) - ((jx : Nat) : Int)) i ys ni x0) := ⟨_, rfl⟩
                                    rw [← w33h] at w33U
                                    have w33l : w33Y.length = Yl109.length + (brR xs (lvD (F 12) (np + jx) (np + jx)) 5 (np + jx) 0 (-1) (-2 - ((np : Nat) : Int) - ((jx : Nat) : Int)) i ys ni x0).length := by rw [w33h, List.length_append]
                                    obtain ⟨w33A, w33F, w33W, w33L, w33C⟩ := w33U
                                    rw [← w33l] at w33e w33m w33t
                                    have w33b : CK cap c w33Y.length := CK_of hcc hcap0 hcap (by omega)
                                    have w33p := plL109.tr w33m
                                    refine mv_widen (c2 := pC (capL cap c w33Y.length) (lvS (lvS lq 0 (np + jx)) (np + jx) ys) - pC cap lq) (s2 := pS (capL cap c w33Y.length) (lvS (lvS lq 0 (np + jx)) (np + jx) ys) - pS cap lq) (by rw [w33e]; exact PL_c2 plL109 w33m) (by rw [w33e]; exact PL_s2 plL109 w33m) ?_
                                    clear w33e w33m w33t w33n
                                    show mv_G X Q (kk V) 7 161 [(6, .int (iI ((c : Nat)))), (5, .int (iI ((np : Nat)))), (4, .int (iI ((k : Nat) - ((cnB (rcS xs ((d : Nat) : Int) np ni) jx : Nat) : Int) + (-1)))), (3, .int (iI ((jx : Nat)))), (0, .ref r), (1, .int (iI ((g : Nat)))), (2, .int (iI ((k : Nat))))] [] w33M (pC (capL cap c w33Y.length) (lvS (lvS lq 0 (np + jx)) (np + jx) ys) - pC cap lq) (pS (capL cap c w33Y.length) (lvS (lvS lq 0 (np + jx)) (np + jx) ys) - pS cap lq)
                                    have k34_6 : w33M (w33A 6) = some (iA V (100) (w33F 6)) := w33C.2.1 6 (by decide)
                                    have k34_7 : w33M (w33A 7) = some (iA V (100) (w33F 7)) := w33C.2.1 7 (by decide)
                                    have k34_9 : w33M (w33A 9) = some (iA V (100) (w33F 9)) := w33C.2.1 9 (by decide)
                                    have k34_10 : w33M (w33A 10) = some (iA V (100) (w33F 10)) := w33C.2.1 10 (by decide)
                                    refine mv_aloadR_n B d_Mod_brings_161 rfl 4 rfl ?_
                                    refine mv_iload B d_Mod_brings_162 0 rfl ?_
                                    have eZ : w33Y = brR xs (lvD (F 12) (np + jx) (np + jx)) 5 (np + jx) 0 (-1) (-2 - ((np : Nat) : Int) - ((jx : Nat) : Int)) i ys ni x0 := by rw [w33h, hYl109, hY0]; simp only [List.append_nil, List.nil_append, List.append_assoc]
                                    have hTZ : TR [0] w33Y [] zs := by rw [eZ]; exact hTR
                                    have hlz : zs.length = w33Y.length := (TR_end hTZ).2.2.1
                                    have hck9 := w33b.1
                                    have hnY : w33Y.length = N9 := by rw [hN9, eZ]
                                    refine ca_Mod_147 (mc := 0) (ms := 0) (rm' := rM 2 0 0 60) (As := [.int (iI ((c : Nat)))]) (rest := []) B (mW_settle w33C w33b.2.2 w33W hTZ hoz (by omega) (by omega) (by omega)) rfl rfl ⟨Nat.le_of_ble_eq_true rfl, Nat.le_of_ble_eq_true rfl⟩ w33C.1 rfl rfl (Nat.le_of_ble_eq_true rfl) d_Mod_brings_164 ⟨PL_0c (PL_le (capL_mono cap c (hN9 ▸ (show w33Y.length ≤ N9 by omega))) (hQ9 ▸ w33q.2)), PL_0s (PL_le (capL_mono cap c (hN9 ▸ (show w33Y.length ≤ N9 by omega))) (hQ9 ▸ w33q.2))⟩ (fun v1 M8 ep => ?_)
                                    obtain ⟨e1, F8, hW8, hC8⟩ := ep
                                    subst e1
                                    show mv_G X Q (kk V) 7 167 [(6, .int (iI ((c : Nat)))), (5, .int (iI ((np : Nat)))), (4, .int (iI ((k : Nat) - ((cnB (rcS xs ((d : Nat) : Int) np ni) jx : Nat) : Int) + (-1)))), (3, .int (iI ((jx : Nat)))), (0, .ref r), (1, .int (iI ((g : Nat)))), (2, .int (iI ((k : Nat))))] [] M8 (pC (capL cap c w33Y.length) (lvS (lvS lq 0 (np + jx)) (np + jx) ys) - pC cap lq) (pS (capL cap c w33Y.length) (lvS (lvS lq 0 (np + jx)) (np + jx) ys) - pS cap lq)
                                    have k35_6 : M8 (w33A 6) = some (iA V (100) (F8 6)) := hC8.2.1 6 (by decide)
                                    have k35_7 : M8 (w33A 7) = some (iA V (100) (F8 7)) := hC8.2.1 7 (by decide)
                                    have k35_9 : M8 (w33A 9) = some (iA V (100) (F8 9)) := hC8.2.1 9 (by decide)
                                    have k35_10 : M8 (w33A 10) = some (iA V (100) (F8 10)) := hC8.2.1 10 (by decide)
                                    refine mv_aloadR_n B d_Mod_brings_167 rfl 4 rfl ?_
                                    refine mv_iload B d_Mod_brings_168 0 rfl ?_
                                    refine ca_Mod_84 (mc := 0) (ms := 0) (rm' := rM 1 0 0 30) (As := [.int (iI ((c : Nat)))]) (rest := []) B (m_Mod_term hC8 w33b.2.2 (b := c) (n := w33Y.length) (ℓ := lnS zs) (by omega) (by omega) htn (fun _ => by rw [← hlz]; exact WF_cg (WF_S (TR_end hTZ).2.1) (fun i hi => (hW8.2.2 i hi).1))) rfl rfl ⟨Nat.le_of_ble_eq_true rfl, Nat.le_of_ble_eq_true rfl⟩ hC8.1 rfl rfl (Nat.le_of_ble_eq_true rfl) d_Mod_brings_170 ⟨PL_0c (PL_le (capL_mono cap c (hN9 ▸ (show w33Y.length ≤ N9 by omega))) (hQ9 ▸ w33q.2)), PL_0s (PL_le (capL_mono cap c (hN9 ▸ (show w33Y.length ≤ N9 by omega))) (hQ9 ▸ w33q.2))⟩ (fun v1 M9 ep => ?_)
                                    obtain ⟨e1, hT9⟩ := tm_v ep
                                    subst e1
                                    rw [← hlz] at hT9 ⊢
                                    show mv_G X Q (kk V) 7 173 [(6, .int (iI ((c : Nat)))), (5, .int (iI ((np : Nat)))), (4, .int (iI ((k : Nat) - ((cnB (rcS xs ((d : Nat) : Int) np ni) jx : Nat) : Int) + (-1)))), (3, .int (iI ((jx : Nat)))), (0, .ref r), (1, .int (iI ((g : Nat)))), (2, .int (iI ((k : Nat))))] [.int (iI (if (tn = 1500 ∨ 1000 < zs.length ∨ 30000 < c + zs.length) then -1 else tn))] M9 (pC (capL cap c zs.length) (lvS (lvS lq 0 (np + jx)) (np + jx) ys) - pC cap lq) (pS (capL cap c zs.length) (lvS (lvS lq 0 (np + jx)) (np + jx) ys) - pS cap lq)
                                    rw [hQ]
                                    have hl9 : zs.length = (brR xs (lvD (F 12) (np + jx) (np + jx)) 5 (np + jx) 0 (-1) (-2 - ((np : Nat) : Int) - ((jx : Nat) : Int)) i ys ni x0).length := by rw [hlz, eZ]
                                    exact mv_iret B ⟨rfl, by rw [← hl9]; exact nwT_of rfl hW8 hT9⟩ (by rw [hl9]; exact Nat.le_refl _) (by rw [hl9]; exact Nat.le_refl _) d_Mod_brings_173
                                  · refine mv_aloadR_n B d_Mod_brings_118 rfl 4 rfl ?_
                                    refine mv_iload B d_Mod_brings_119 0 rfl ?_
                                    refine mv_iconst (z := -1) B d_Mod_brings_121 rfl ?_
                                    refine mv_iload B d_Mod_brings_122 1 rfl ?_
                                    refine mv_iload_n B d_Mod_brings_124 rfl 3 rfl ?_
                                    refine mv_iadd B d_Mod_brings_125 ?_
                                    refine mv_iload B d_Mod_brings_126 0 rfl ?_
                                    refine mv_isub B d_Mod_brings_128 ?_
                                    refine mv_isub B d_Mod_brings_129 ?_
                                    have w36z : ([] : List Nd).length = 0 := rfl
                                    have w36q : lvS lq 0 y ≤ lvN (lvS lq 0 y) (0 + y) ∧ lvN (lvS lq 0 y) (0 + y) ≤ Q9 := by have h1 := (lvN_ok (lq := lvS lq 0 y) (v := 0 + y) (by omega) (by omega)).2.1; have h2 : lvN (lvS lq 0 y) (0 + y) ≤ lvS lq 0 (np + jx) := lvS_m (m := y + 1) (by omega); have h3 : lvS lq 0 (np + jx) ≤ Q9 := hT1; omega
                                    have w36n : Yl109.length + (([] : List Nd)).length ≤ N9 := by omega
                                    have w36e : capL (capL cap c Yl109.length) (c + Yl109.length) (([] : List Nd)).length = capL cap c (Yl109.length + (([] : List Nd)).length) := (capL_add cap c Yl109.length (([] : List Nd)).length).symm
                                    have w36m : PL (capL cap c Yl109.length) (lvS lq 0 y) (capL cap c (Yl109.length + (([] : List Nd)).length)) (lvN (lvS lq 0 y) (0 + y)) := PL_le (capL_mono cap c (Nat.le_add_right _ _)) w36q.1
                                    have w36t : PL (capL cap c (Yl109.length + (([] : List Nd)).length)) (lvN (lvS lq 0 y) (0 + y)) (capL cap c (brR xs (lvD (F 12) (np + jx) (np + jx)) 5 (np + jx) 0 (-1) (-2 - ((np : Nat) : Int) - ((jx : Nat) : Int)) i ys ni x0).length) (lvS (lvS lq 0 (np + jx)) (np + jx) ys) := PL_le (capL_mono cap c (hN9 ▸ w36n)) (hQ9 ▸ w36q.2)
                                    refine ca_Mod_133 (mc := pC (capL (capL cap c Yl109.length) (c + Yl109.length) (([] : List Nd)).length) (lvN (lvS lq 0 y) (0 + y)) - pC (capL cap c Yl109.length) (lvS lq 0 y)) (ms := pS (capL (capL cap c Yl109.length) (c + Yl109.length) (([] : List Nd)).length) (lvN (lvS lq 0 y) (0 + y)) - pS (capL cap c Yl109.length) (lvS lq 0 y)) (rm' := rM 2 (pC (capL (capL cap c Yl109.length) (c + Yl109.length) (([] : List Nd)).length) (lvN (lvS lq 0 y) (0 + y)) - pC (capL cap c Yl109.length) (lvS lq 0 y)) (pS (capL (capL cap c Yl109.length) (c + Yl109.length) (([] : List Nd)).length) (lvN (lvS lq 0 y) (0 + y)) - pS (capL cap c Yl109.length) (lvS lq 0 y)) 70) (As := [.int (iI ((y : Nat))), .int (iI ((-1) - (((np : Nat) + (jx : Nat)) - (y : Nat))))]) (rest := []) B (mW_level hCl ckL109.1 ckL109.2.1 ckL109.2.2 (v := 0 + y) (z := (y : Nat)) (x := (-1) - (((np : Nat) + (jx : Nat)) - (y : Nat))) (by omega) (by omega) (by omega) (by omega) hLl) rfl rfl ⟨Nat.le_of_ble_eq_true rfl, Nat.le_of_ble_eq_true rfl⟩ hCl.1 rfl rfl (Nat.le_of_ble_eq_true rfl) d_Mod_brings_130 ⟨by rw [w36e]; exact PL_c plL109 w36m w36t, by rw [w36e]; exact PL_s plL109 w36m w36t⟩ (fun v1 w36M ep => ?_)
                                    obtain ⟨e1, w36U⟩ := ep
                                    subst e1
                                    have w36U := wrP_app (lq := lq) hWl w36U
                                    obtain ⟨w36Y, w36h⟩ : ∃ Y : List Nd, Y = Yl109 ++ (([] : List Nd)) := ⟨_, rfl⟩
                                    rw [← w36h] at w36U
                                    have w36l : w36Y.length = Yl109.length + (([] : List Nd)).length := by rw [w36h, List.length_append]
                                    obtain ⟨w36A, w36F, w36W, w36L, w36C⟩ := w36U
                                    rw [← w36l] at w36e w36m w36t
                                    have w36b : CK cap c w36Y.length := CK_of hcc hcap0 hcap (by omega)
                                    have w36p := plL109.tr w36m
                                    refine mv_widen (c2 := pC (capL cap c w36Y.length) (lvN (lvS lq 0 y) (0 + y)) - pC cap lq) (s2 := pS (capL cap c w36Y.length) (lvN (lvS lq 0 y) (0 + y)) - pS cap lq) (by rw [w36e]; exact PL_c2 plL109 w36m) (by rw [w36e]; exact PL_s2 plL109 w36m) ?_
                                    clear w36e w36m w36t w36n
                                    show mv_G X Q (kk V) 7 133 [(6, .int (iI ((y : Nat)))), (5, .int (iI ((np : Nat)))), (4, .int (iI ((k : Nat) - ((cnB (rcS xs ((d : Nat) : Int) np ni) jx : Nat) : Int) + (-1)))), (3, .int (iI ((jx : Nat)))), (0, .ref r), (1, .int (iI ((g : Nat)))), (2, .int (iI ((k : Nat))))] [] w36M (pC (capL cap c w36Y.length) (lvN (lvS lq 0 y) (0 + y)) - pC cap lq) (pS (capL cap c w36Y.length) (lvN (lvS lq 0 y) (0 + y)) - pS cap lq)
                                    have k37_6 : w36M (w36A 6) = some (iA V (100) (w36F 6)) := w36C.2.1 6 (by decide)
                                    have k37_7 : w36M (w36A 7) = some (iA V (100) (w36F 7)) := w36C.2.1 7 (by decide)
                                    have k37_9 : w36M (w36A 9) = some (iA V (100) (w36F 9)) := w36C.2.1 9 (by decide)
                                    have k37_10 : w36M (w36A 10) = some (iA V (100) (w36F 10)) := w36C.2.1 10 (by decide)
                                    refine mv_iinc (lv' := [(6, .int (iI ((y : Nat) + 1))), (5, .int (iI ((np : Nat)))), (4, .int (iI ((k : Nat) - ((cnB (rcS xs ((d : Nat) : Int) np ni) jx : Nat) : Int) + (-1)))), (3, .int (iI ((jx : Nat)))), (0, .ref r), (1, .int (iI ((g : Nat)))), (2, .int (iI ((k : Nat))))]) B d_Mod_brings_133 0 rfl (by decide) rfl ?_
                                    refine mv_goto (tgt := 109) B d_Mod_brings_136 (by decide) ?_
                                    have y38 : w36Y = (Y0 ++ ([] : List Nd)) := by rw [w36h, hYl109]; simp only [List.append_nil]
                                    rw [y38]
                                    refine mv_lv (lv' := [(6, .int (iI (((y + 1) : Nat)))), (5, .int (iI ((np : Nat)))), (4, .int (iI ((k : Nat) - ((cnB (rcS xs ((d : Nat) : Int) np ni) jx : Nat) : Int) + (-1)))), (3, .int (iI ((jx : Nat)))), (0, .ref r), (1, .int (iI ((g : Nat)))), (2, .int (iI ((k : Nat))))]) [0, 1, 2, 3, 4, 5, 6] (lc (lI (by first | rfl | omega)) (lc rfl (lc rfl (lc rfl (lc rfl (lc rfl (lc rfl rfl))))))) ?_
                                    exact ih109 (y + 1) w36M w36A w36F (by omega) (by rw [← y38]; exact w36W) (w36L.trans (by rw [← lvD_s, Nat.zero_add]; congr 1)) (by rw [← y38]; exact w36C) (by omega)
                              refine mv_lv (lv' := [(6, .int (iI ((0 : Nat)))), (5, .int (iI ((np : Nat)))), (4, .int (iI ((k : Nat) - ((cnB (rcS xs ((d : Nat) : Int) np ni) jx : Nat) : Int) + (-1)))), (3, .int (iI ((jx : Nat)))), (0, .ref r), (1, .int (iI ((g : Nat)))), (2, .int (iI ((k : Nat))))]) [0, 1, 2, 3, 4, 5, 6] (lc (lI (by first | rfl | omega)) (lc rfl (lc (lI (by first | rfl | omega)) (lc rfl (lc rfl (lc rfl (lc rfl rfl))))))) ?_
                              have y30 : Y0 = (Y0 ++ ([] : List Nd)) := (List.append_nil _).symm
                              rw [y30]
                              exact L109 _ 0 M A F (by omega) (by rw [← y30]; exact hW0) ((lvD_0 _ _).symm) (by rw [← y30]; exact hC0) (Nat.lt_succ_self _)
                            · omega
                          · exfalso
                            omega
            refine mv_lv (lv' := [(5, .int (iI ((0 : Nat)))), (4, .int (iI ((k : Nat) - ((cnB (rcS xs ((d : Nat) : Int) np ni) 0 : Nat) : Int)))), (3, .int (iI (-1))), (0, .ref r), (1, .int (iI ((g : Nat)))), (2, .int (iI ((k : Nat))))]) [0, 1, 2, 3, 4, 5] (lc (lI (by first | rfl | omega)) (lc (lI (by simp [cnB])) (lc rfl (lc rfl (lc rfl (lc rfl rfl)))))) ?_
            exact L46 _ 0 (by omega) (by simp [cnB]) (Nat.lt_succ_self _)
          · omega
