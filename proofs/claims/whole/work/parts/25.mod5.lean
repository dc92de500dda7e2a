/-! the reference: walk and measure -/
def wkR (F : Nat → Nat → Int) (b : Nat) (D : Nat → Int) : Nat → Nat → Int
  | 0 => va_up D b 0
  | i + 1 => if 4 ≤ F 0 (b + i) then va_up (va_up (wkR F b D i) (b + i + 1) (wkR F b D i (b + i))) (scR F (b + i)).toNat (if F 0 (b + i) = 4 then wkR F b D i (b + i) else wkR F b D i (b + i) + 1) else wkR F b D i
set_option maxRecDepth 100000 in
set_option maxHeartbeats 4000000 in
theorem m_Mod_walk {l : Launch} {V : mv_V} {M : mv_M} {r cap lq : Nat} {A : Nat → Nat} {F : Nat → Nat → Int} {c tn gn : Int} (hC : RefC V M r A (rN cap lq) F c tn gn) (hcap : cap ≤ 1000000) {b : Nat} (hb : 0 ≤ F 3 b ∧ (b : Int) + F 3 b ≤ cap ∧ b < cap) (hin : ∀ i : Nat, (i : Int) < F 3 b → 4 ≤ F 0 (b + i) → (b : Int) + i + 1 < cap ∧ 0 ≤ scR F (b + i) ∧ scR F (b + i) < cap) (hsm : ∀ i : Nat, (i : Int) < F 3 b → Sm (wkR F b (F 4) i (b + i) + 1)) : Met l y_Mod_walk ws_Mod_walk (rM 1 0 0 21) (mv_Pre (kk V) [.ref r, .int (iI ((b : Nat)))] M) (mv_Q (kk V) (fun v M' => v = none ∧ RefC V M' r A (rN cap lq) (va_up F 4 (wkR F b (F 4) (F 3 b).toNat)) c tn gn)) 0 0 V.2.2.2.2 := by
  refine mv_Met (by decide) rfl (Nat.le_of_ble_eq_true rfl) (fun X hX B => ?_)
  subst hX
  replace B : mv_B X (kk V) c_Mod_walk ws_Mod_walk "FamilyRulesModel" 3 (Option.none : Option Jvm.ClassFile.FieldType) (rM 1 0 0 21) "walk" := B
  obtain ⟨Q, hQ⟩ : ∃ Q, Q = mv_E X (kk V) (fun v M' => v = none ∧ RefC V M' r A (rN cap lq) (va_up F 4 (wkR F b (F 4) (F 3 b).toNat)) c tn gn) 0 0 := ⟨_, rfl⟩
  rw [← hQ]
  show mv_G X Q (kk V) 3 0 [(0, .ref r), (1, .int (iI ((b : Nat))))] [] M 0 0
  have k1_0 : M (A 0) = some (iA V (cap) (F 0)) := hC.2.1 0 (by decide)
  have k1_3 : M (A 3) = some (iA V (cap) (F 3)) := hC.2.1 3 (by decide)
  have k1_4 : M (A 4) = some (iA V (cap) (F 4)) := hC.2.1 4 (by decide)
  refine mv_aloadR_n B d_Mod_walk_0 rfl 0 rfl ?_
  refine gf_Mod_22 B hC.1 rfl d_Mod_walk_1 ?_
  refine mv_iload_n B d_Mod_walk_4 rfl 1 rfl ?_
  refine mv_iconst (z := 0) B d_Mod_walk_5 rfl ?_
  refine ia_st B k1_4 (by omega) (by omega) (by omega) d_Mod_walk_6 ?_
  rw [show Int.toNat ((b : Nat)) = b from by omega]
  obtain ⟨M2, hM3⟩ : ∃ My : mv_M, My = mv_up M (A 4) (iA V (cap) (va_up (F 4) b (0))) := ⟨_, rfl⟩
  rw [← hM3]
  have hC4 : RefC V M2 r A (rN cap lq) (va_up F 4 (va_up (F 4) b (0))) (c) (tn) (gn) := by rw [hM3]; exact RefC_w (i := 4) (k := b) (x := 0) hC (by decide) (by show b < cap; omega) (by omega)
  have k5_0 : M2 (A 0) = some (iA V (cap) (F 0)) := hC4.2.1 0 (by decide)
  have k5_3 : M2 (A 3) = some (iA V (cap) (F 3)) := hC4.2.1 3 (by decide)
  have k5_4 : M2 (A 4) = some (iA V (cap) (va_up (F 4) b (0))) := hC4.2.1 4 (by decide)
  refine mv_iload_n B d_Mod_walk_7 rfl 1 rfl ?_
  refine mv_istore_n (lv' := [(2, .int (iI ((b : Nat)))), (0, .ref r), (1, .int (iI ((b : Nat))))]) B d_Mod_walk_8 rfl (by decide) rfl ?_
  have L9 : ∀ (fu : Nat) (i : Nat) (My1 : mv_M), ((i : Int) ≤ F 3 b) → (RefC V My1 r A (rN cap lq) (va_up F 4 (wkR F b (F 4) i)) (c) (tn) (gn)) → ((F 3 b).toNat - i) < fu → mv_G X Q (kk V) 3 9 [(2, .int (iI ((b : Nat) + (i : Nat)))), (0, .ref r), (1, .int (iI ((b : Nat))))] [] My1 0 0 := by
    intro fu
    induction fu with
    | zero => intro i My1 hi hCl hm; exact absurd hm (Nat.not_lt_zero _)
    | succ fu ih9 =>
      intro i My1 hi hCl hm
      have k6_0 : My1 (A 0) = some (iA V (cap) (F 0)) := hCl.2.1 0 (by decide)
      have k6_3 : My1 (A 3) = some (iA V (cap) (F 3)) := hCl.2.1 3 (by decide)
      have k6_4 : My1 (A 4) = some (iA V (cap) (wkR F b (F 4) i)) := hCl.2.1 4 (by decide)
      refine mv_iload_n B d_Mod_walk_9 rfl 0 rfl ?_
      refine mv_iload_n B d_Mod_walk_10 rfl 2 rfl ?_
      refine mv_aloadR_n B d_Mod_walk_11 rfl 1 rfl ?_
      refine gf_Mod_19 B hCl.1 rfl d_Mod_walk_12 ?_
      refine mv_iload_n B d_Mod_walk_15 rfl 2 rfl ?_
      refine ia_ld B k6_3 (by omega) (by omega) (by omega) d_Mod_walk_16 ?_
      rw [show Int.toNat ((b : Nat)) = b from by omega]
      have rr7 : R32 (F 3 b) := (hCl.R 3) _
      refine mv_iadd B d_Mod_walk_17 ?_
      refine mv_icmp_ge (tgt := 88) B d_Mod_walk_18 (by decide) (by omega) (by omega) (fun c8 => ?_) (fun c8 => ?_)
      · rw [hQ]
        have ei : (F 3 b).toNat = i := by omega
        exact mv_vret B ⟨rfl, by rw [ei]; exact hCl⟩ (by omega) (by omega) d_Mod_walk_88
      · refine mv_aloadR_n B d_Mod_walk_21 rfl 1 rfl ?_
        refine gf_Mod_7 B hCl.1 rfl d_Mod_walk_22 ?_
        refine mv_iload_n B d_Mod_walk_25 rfl 0 rfl ?_
        refine ia_ld B k6_0 (by omega) (by omega) (by omega) d_Mod_walk_26 ?_
        rw [show Int.toNat ((b : Nat) + (i : Nat)) = b + i from by omega]
        have rr9 : R32 (F 0 (b + i)) := (hCl.R 0) _
        refine mv_iconst (z := 4) B d_Mod_walk_27 rfl ?_
        refine mv_icmp_lt (tgt := 82) B d_Mod_walk_28 (by decide) (by omega) (by omega) (fun c10 => ?_) (fun c10 => ?_)
        · refine mv_iinc (lv' := [(2, .int (iI (((b : Nat) + (i : Nat)) + 1))), (0, .ref r), (1, .int (iI ((b : Nat))))]) B d_Mod_walk_82 0 rfl (by decide) rfl ?_
          refine mv_goto (tgt := 9) B d_Mod_walk_85 (by decide) ?_
          refine mv_lv (lv' := [(2, .int (iI ((b : Nat) + ((i + 1) : Nat)))), (0, .ref r), (1, .int (iI ((b : Nat))))]) [0, 1, 2] (lc (lI (by first | rfl | omega)) (lc rfl (lc rfl rfl))) ?_
          exact ih9 (i + 1) My1 (by omega) (by rw [show (va_up F 4 (wkR F b (F 4) (i + 1))) = (va_up F 4 (wkR F b (F 4) i)) from (by simp only [wkR, bx_uu]; rw [if_neg (by omega)])]; exact hCl) (by omega)
        · have hin1 := hin i (by omega) (by omega)
          have hs0 := hsm i (by omega)
          have hs9 : Sm (wkR F b (F 4) i (b + i)) := hCl.2.2.2.2.1 4 (b + i)
          refine mv_aloadR_n B d_Mod_walk_31 rfl 1 rfl ?_
          refine gf_Mod_22 B hCl.1 rfl d_Mod_walk_32 ?_
          refine mv_iload_n B d_Mod_walk_35 rfl 0 rfl ?_
          refine mv_iconst (z := 1) B d_Mod_walk_36 rfl ?_
          refine mv_iadd B d_Mod_walk_37 ?_
          refine mv_aloadR_n B d_Mod_walk_38 rfl 1 rfl ?_
          refine gf_Mod_22 B hCl.1 rfl d_Mod_walk_39 ?_
          refine mv_iload_n B d_Mod_walk_42 rfl 0 rfl ?_
          refine ia_ld B k6_4 (by omega) (by omega) (by omega) d_Mod_walk_43 ?_
          rw [show Int.toNat ((b : Nat) + (i : Nat)) = b + i from by omega]
          have rr11 : R32 ((wkR F b (F 4) i) (b + i)) := (hCl.R 4) _
          refine ia_st B k6_4 (by omega) (by omega) (by omega) d_Mod_walk_44 ?_
          rw [show Int.toNat (((b : Nat) + (i : Nat)) + 1) = b + i + 1 from by omega]
          obtain ⟨M12, hM13⟩ : ∃ My : mv_M, My = mv_up My1 (A 4) (iA V (cap) (va_up (wkR F b (F 4) i) (b + i + 1) ((wkR F b (F 4) i) (b + i)))) := ⟨_, rfl⟩
          rw [← hM13]
          have hC14 : RefC V M12 r A (rN cap lq) (va_up (va_up F 4 (wkR F b (F 4) i)) 4 (va_up (wkR F b (F 4) i) (b + i + 1) ((wkR F b (F 4) i) (b + i)))) (c) (tn) (gn) := by rw [hM13]; exact RefC_w (i := 4) (k := (b + i + 1)) (x := (wkR F b (F 4) i) (b + i)) hCl (by decide) (by show (b + i + 1) < cap; omega) (by omega)
          have k15_0 : M12 (A 0) = some (iA V (cap) (F 0)) := hC14.2.1 0 (by decide)
          have k15_3 : M12 (A 3) = some (iA V (cap) (F 3)) := hC14.2.1 3 (by decide)
          have k15_4 : M12 (A 4) = some (iA V (cap) (va_up (wkR F b (F 4) i) (b + i + 1) ((wkR F b (F 4) i) (b + i)))) := hC14.2.1 4 (by decide)
          refine mv_aloadR_n B d_Mod_walk_45 rfl 1 rfl ?_
          refine gf_Mod_22 B hC14.1 rfl d_Mod_walk_46 ?_
          refine mv_aloadR_n B d_Mod_walk_49 rfl 1 rfl ?_
          refine mv_iload_n B d_Mod_walk_50 rfl 0 rfl ?_
          refine ca_Mod_67 (mc := 0) (ms := 0) (As := [.int (iI ((b : Nat) + (i : Nat)))]) (rest := [.ref ((A 4))]) B (m_Mod_second hC14 hcap (k := (b : Nat) + (i : Nat)) (by omega)) rfl rfl ⟨Nat.le_of_ble_eq_true rfl, Nat.le_of_ble_eq_true rfl⟩ hC14.1 rfl rfl (Nat.le_of_ble_eq_true rfl) d_Mod_walk_51 ⟨by omega, by omega⟩ (mv_x ?_)
          show mv_G X Q (kk V) 3 54 [(2, .int (iI ((b : Nat) + (i : Nat)))), (0, .ref r), (1, .int (iI ((b : Nat))))] [.int (iI (scR F ((b : Nat) + (i : Nat)))), .ref ((A 4))] M12 0 0
          refine mv_aloadR_n B d_Mod_walk_54 rfl 1 rfl ?_
          refine gf_Mod_7 B hC14.1 rfl d_Mod_walk_55 ?_
          refine mv_iload_n B d_Mod_walk_58 rfl 0 rfl ?_
          refine ia_ld B k15_0 (by omega) (by omega) (by omega) d_Mod_walk_59 ?_
          rw [show Int.toNat ((b : Nat) + (i : Nat)) = b + i from by omega]
          have rr16 : R32 (F 0 (b + i)) := (hC14.R 0) _
          refine mv_iconst (z := 4) B d_Mod_walk_60 rfl ?_
          refine mv_icmp_ne (tgt := 73) B d_Mod_walk_61 (by decide) (by omega) (by omega) (fun c17 => ?_) (fun c17 => ?_)
          · refine mv_aloadR_n B d_Mod_walk_73 rfl 1 rfl ?_
            refine gf_Mod_22 B hC14.1 rfl d_Mod_walk_74 ?_
            refine mv_iload_n B d_Mod_walk_77 rfl 0 rfl ?_
            refine ia_ld B k15_4 (by omega) (by omega) (by omega) d_Mod_walk_78 ?_
            rw [show Int.toNat ((b : Nat) + (i : Nat)) = b + i from by omega]
            have rr18 : R32 ((va_up (wkR F b (F 4) i) (b + i + 1) ((wkR F b (F 4) i) (b + i))) (b + i)) := (hC14.R 4) _
            rw [va_un (show b + i ≠ b + i + 1 by omega)]
            refine mv_iconst (z := 1) B d_Mod_walk_79 rfl ?_
            refine mv_iadd B d_Mod_walk_80 ?_
            refine ia_st B k15_4 (by omega) (by omega) (by omega) d_Mod_walk_81 ?_
            obtain ⟨M19, hM20⟩ : ∃ My : mv_M, My = mv_up M12 (A 4) (iA V (cap) (va_up (va_up (wkR F b (F 4) i) (b + i + 1) ((wkR F b (F 4) i) (b + i))) (Int.toNat (scR F ((b : Nat) + (i : Nat)))) ((wkR F b (F 4) i (b + i)) + 1))) := ⟨_, rfl⟩
            rw [← hM20]
            have hC21 : RefC V M19 r A (rN cap lq) (va_up (va_up (va_up F 4 (wkR F b (F 4) i)) 4 (va_up (wkR F b (F 4) i) (b + i + 1) ((wkR F b (F 4) i) (b + i)))) 4 (va_up (va_up (wkR F b (F 4) i) (b + i + 1) ((wkR F b (F 4) i) (b + i))) (Int.toNat (scR F ((b : Nat) + (i : Nat)))) ((wkR F b (F 4) i (b + i)) + 1))) (c) (tn) (gn) := by rw [hM20]; exact RefC_w (i := 4) (k := (Int.toNat (scR F ((b : Nat) + (i : Nat))))) (x := (wkR F b (F 4) i (b + i)) + 1) hC14 (by decide) (by show (Int.toNat (scR F ((b : Nat) + (i : Nat)))) < cap; omega) (by omega)
            have k22_0 : M19 (A 0) = some (iA V (cap) (F 0)) := hC21.2.1 0 (by decide)
            have k22_3 : M19 (A 3) = some (iA V (cap) (F 3)) := hC21.2.1 3 (by decide)
            have k22_4 : M19 (A 4) = some (iA V (cap) (va_up (va_up (wkR F b (F 4) i) (b + i + 1) ((wkR F b (F 4) i) (b + i))) (Int.toNat (scR F ((b : Nat) + (i : Nat)))) ((wkR F b (F 4) i (b + i)) + 1))) := hC21.2.1 4 (by decide)
            refine mv_iinc (lv' := [(2, .int (iI (((b : Nat) + (i : Nat)) + 1))), (0, .ref r), (1, .int (iI ((b : Nat))))]) B d_Mod_walk_82 0 rfl (by decide) rfl ?_
            refine mv_goto (tgt := 9) B d_Mod_walk_85 (by decide) ?_
            refine mv_lv (lv' := [(2, .int (iI ((b : Nat) + ((i + 1) : Nat)))), (0, .ref r), (1, .int (iI ((b : Nat))))]) [0, 1, 2] (lc (lI (by first | rfl | omega)) (lc rfl (lc rfl rfl))) ?_
            exact ih9 (i + 1) M19 (by omega) (by rw [show (va_up F 4 (wkR F b (F 4) (i + 1))) = (va_up (va_up (va_up F 4 (wkR F b (F 4) i)) 4 (va_up (wkR F b (F 4) i) (b + i + 1) ((wkR F b (F 4) i) (b + i)))) 4 (va_up (va_up (wkR F b (F 4) i) (b + i + 1) ((wkR F b (F 4) i) (b + i))) (Int.toNat (scR F ((b : Nat) + (i : Nat)))) ((wkR F b (F 4) i (b + i)) + 1))) from (by simp only [wkR, bx_uu]; rw [if_pos (by omega)]; first | (rw [if_pos (by omega)]; done) | (rw [if_neg (by omega)]; done) | (rw [if_pos (by omega)]; rfl) | (rw [if_neg (by omega)]; rfl))]; exact hC21) (by omega)
          · refine mv_aloadR_n B d_Mod_walk_64 rfl 1 rfl ?_
            refine gf_Mod_22 B hC14.1 rfl d_Mod_walk_65 ?_
            refine mv_iload_n B d_Mod_walk_68 rfl 0 rfl ?_
            refine ia_ld B k15_4 (by omega) (by omega) (by omega) d_Mod_walk_69 ?_
            rw [show Int.toNat ((b : Nat) + (i : Nat)) = b + i from by omega]
            have rr23 : R32 ((va_up (wkR F b (F 4) i) (b + i + 1) ((wkR F b (F 4) i) (b + i))) (b + i)) := (hC14.R 4) _
            rw [va_un (show b + i ≠ b + i + 1 by omega)]
            refine mv_goto (tgt := 81) B d_Mod_walk_70 (by decide) ?_
            refine ia_st B k15_4 (by omega) (by omega) (by omega) d_Mod_walk_81 ?_
            obtain ⟨M24, hM25⟩ : ∃ My : mv_M, My = mv_up M12 (A 4) (iA V (cap) (va_up (va_up (wkR F b (F 4) i) (b + i + 1) ((wkR F b (F 4) i) (b + i))) (Int.toNat (scR F ((b : Nat) + (i : Nat)))) (wkR F b (F 4) i (b + i)))) := ⟨_, rfl⟩
            rw [← hM25]
            have hC26 : RefC V M24 r A (rN cap lq) (va_up (va_up (va_up F 4 (wkR F b (F 4) i)) 4 (va_up (wkR F b (F 4) i) (b + i + 1) ((wkR F b (F 4) i) (b + i)))) 4 (va_up (va_up (wkR F b (F 4) i) (b + i + 1) ((wkR F b (F 4) i) (b + i))) (Int.toNat (scR F ((b : Nat) + (i : Nat)))) (wkR F b (F 4) i (b + i)))) (c) (tn) (gn) := by rw [hM25]; exact RefC_w (i := 4) (k := (Int.toNat (scR F ((b : Nat) + (i : Nat))))) (x := wkR F b (F 4) i (b + i)) hC14 (by decide) (by show (Int.toNat (scR F ((b : Nat) + (i : Nat)))) < cap; omega) (by omega)
            have k27_0 : M24 (A 0) = some (iA V (cap) (F 0)) := hC26.2.1 0 (by decide)
            have k27_3 : M24 (A 3) = some (iA V (cap) (F 3)) := hC26.2.1 3 (by decide)
            have k27_4 : M24 (A 4) = some (iA V (cap) (va_up (va_up (wkR F b (F 4) i) (b + i + 1) ((wkR F b (F 4) i) (b + i))) (Int.toNat (scR F ((b : Nat) + (i : Nat)))) (wkR F b (F 4) i (b + i)))) := hC26.2.1 4 (by decide)
            refine mv_iinc (lv' := [(2, .int (iI (((b : Nat) + (i : Nat)) + 1))), (0, .ref r), (1, .int (iI ((b : Nat))))]) B d_Mod_walk_82 0 rfl (by decide) rfl ?_
            refine mv_goto (tgt := 9) B d_Mod_walk_85 (by decide) ?_
            refine mv_lv (lv' := [(2, .int (iI ((b : Nat) + ((i + 1) : Nat)))), (0, .ref r), (1, .int (iI ((b : Nat))))]) [0, 1, 2] (lc (lI (by first | rfl | omega)) (lc rfl (lc rfl rfl))) ?_
            exact ih9 (i + 1) M24 (by omega) (by rw [show (va_up F 4 (wkR F b (F 4) (i + 1))) = (va_up (va_up (va_up F 4 (wkR F b (F 4) i)) 4 (va_up (wkR F b (F 4) i) (b + i + 1) ((wkR F b (F 4) i) (b + i)))) 4 (va_up (va_up (wkR F b (F 4) i) (b + i + 1) ((wkR F b (F 4) i) (b + i))) (Int.toNat (scR F ((b : Nat) + (i : Nat)))) (wkR F b (F 4) i (b + i)))) from (by simp only [wkR, bx_uu]; rw [if_pos (by omega)]; first | (rw [if_pos (by omega)]; done) | (rw [if_neg (by omega)]; done) | (rw [if_pos (by omega)]; rfl) | (rw [if_neg (by omega)]; rfl))]; exact hC26) (by omega)
  refine mv_lv (lv' := [(2, .int (iI ((b : Nat) + (0 : Nat)))), (0, .ref r), (1, .int (iI ((b : Nat))))]) [0, 1, 2] (lc (lI (by first | rfl | omega)) (lc rfl (lc rfl rfl))) ?_
  exact L9 _ 0 M2 (by omega) (by rw [show (va_up F 4 (wkR F b (F 4) 0)) = (va_up F 4 (va_up (F 4) b (0))) from (by simp [wkR])]; exact hC4) (Nat.lt_succ_self _)
