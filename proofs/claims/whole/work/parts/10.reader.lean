/-! READER: what it reads -/
abbrev dC (dep : Nat) (tm : Option Nat) (al fo ap : Int) : va_E := .inr (4, [.ref dep, va_rf tm, .int (iI al), .int (iI fo), .int (iI ap)])
def beR (t : Tm) (r : Int) : Nat → Int
  | 0 => r
  | n + 1 => scd t (beR t r n)
theorem beR_r {t : Tm} (h : Tok t) (r : Int) : ∀ n : Nat, r + n ≤ beR t r n ∧ beR t r n ≤ r + 1001 * n
  | 0 => by simp [beR]
  | n + 1 => by
    have h1 := beR_r h r n
    have h2 := scd_r h (beR t r n)
    simp only [beR]
    omega
/-- alls from p on, at most f; applications from p on, at most f -/
def allN (t : Tm) : Nat → Int → Nat
  | 0, _ => 0
  | f + 1, p => if kAt t p = 6 then allN t f (scd t p) + 1 else 0
def appN (t : Tm) : Nat → Int → Nat
  | 0, _ => 0
  | f + 1, p => if kAt t p = 4 then appN t f (p + 1) + 1 else 0
theorem allN_s {t : Tm} {f : Nat} {p : Int} (hf : 0 < f) (h : kAt t p = 6) : allN t f p = 1 + allN t (f - 1) (scd t p) := by
  obtain ⟨g, rfl⟩ : ∃ g, f = g + 1 := ⟨f - 1, by omega⟩
  simp only [allN]
  rw [if_pos h]
  simp
  omega
theorem allN_n {t : Tm} {f : Nat} {p : Int} (h : ¬ kAt t p = 6) : allN t f p = 0 := by
  cases f with
  | zero => rfl
  | succ g => simp only [allN]; rw [if_neg h]
theorem appN_s {t : Tm} {f : Nat} {p : Int} (hf : 0 < f) (h : kAt t p = 4) : appN t f p = 1 + appN t (f - 1) (p + 1) := by
  obtain ⟨g, rfl⟩ : ∃ g, f = g + 1 := ⟨f - 1, by omega⟩
  simp only [appN]
  rw [if_pos h]
  simp
  omega
theorem appN_n {t : Tm} {f : Nat} {p : Int} (h : ¬ kAt t p = 4) : appN t f p = 0 := by
  cases f with
  | zero => rfl
  | succ g => simp only [appN]; rw [if_neg h]
theorem allN_le {t : Tm} : ∀ (f : Nat) (p : Int), allN t f p ≤ f
  | 0, _ => by simp [allN]
  | f + 1, p => by
    have := allN_le (t := t) f (scd t p)
    simp only [allN]
    split <;> omega
theorem appN_le {t : Tm} : ∀ (f : Nat) (p : Int), appN t f p ≤ f
  | 0, _ => by simp [appN]
  | f + 1, p => by
    have := appN_le (t := t) f (p + 1)
    simp only [appN]
    split <;> omega
/-- n variables v, v - 1, .. from p on -/
def prmB (t : Tm) (p v : Int) : Nat → Bool
  | 0 => true
  | n + 1 => prmB t p v n && (decide (kAt t (p + n) = 0) && decide (uAt t (p + n) = v - n))
theorem prmB_f {t : Tm} {p v : Int} {k : Nat} (h : prmB t p v (k + 1) = false) : ∀ n, k + 1 ≤ n → prmB t p v n = false
  | 0, hn => by omega
  | n + 1, hn => by
    by_cases e : n = k
    · subst e; exact h
    · have := prmB_f h n (by omega)
      simp only [prmB]
      rw [this]
      rfl
theorem prmB_s {t : Tm} {p v : Int} {k : Nat} (h : prmB t p v k = true) (h1 : kAt t (p + k) = 0) (h2 : uAt t (p + k) = v - k) : prmB t p v (k + 1) = true := by
  simp only [prmB]
  rw [h, h1, h2]
  simp
theorem prmB_n {t : Tm} {p v : Int} {k : Nat} (h : ¬ (kAt t (p + k) = 0 ∧ uAt t (p + k) = v - k)) : prmB t p v (k + 1) = false := by
  simp only [prmB]
  by_cases h1 : kAt t (p + k) = 0
  · by_cases h2 : uAt t (p + k) = v - k
    · exact absurd ⟨h1, h2⟩ h
    · simp [h2]
  · simp [h1]
/-- the family nu put to its parameters, which are v, v - 1, .., and ix more terms, at p with a applications -/
def isPB (t : Tm) (nu pa ix : Int) (p : Int) (a : Nat) (v : Int) : Bool := decide ((a : Int) = pa + ix) && (decide (kAt t (p + a) = 1) && (decide (uAt t (p + a) = nu) && prmB t (p + a + 1) v pa.toNat))
def dset (δ : Nat → Int) (i x : Int) : Nat → Int := if 0 ≤ i ∧ i < 1000 then va_up δ i.toNat x else δ
def dgt (δ : Nat → Int) (i : Int) : Int := if 0 ≤ i ∧ i < 1000 then δ i.toNat else 0
/-- the depths behind i places of the walk -/
def dpW (t : Tm) (δ : Nat → Int) : Nat → Nat → Int
  | 0 => dset δ 0 0
  | i + 1 => if 4 ≤ kAt t i then dset (dset (dpW t δ i) (i + 1) (dgt (dpW t δ i) i)) (scd t i) (if kAt t i = 4 then dgt (dpW t δ i) i else dgt (dpW t δ i) i + 1) else dpW t δ i
def clB (t : Tm) (δ : Nat → Int) : Nat → Bool
  | 0 => true
  | i + 1 => clB t δ i && !(decide (kAt t i = 0) && decide (dgt δ i ≤ uAt t i))
theorem clB_f {t : Tm} {δ : Nat → Int} {k : Nat} (h : clB t δ (k + 1) = false) : ∀ n, k + 1 ≤ n → clB t δ n = false
  | 0, hn => by omega
  | n + 1, hn => by
    by_cases e : n = k
    · subst e; exact h
    · have := clB_f h n (by omega)
      simp only [clB]
      rw [this]
      rfl
/-- 1 without the family, 2 recursive and positive, 0 otherwise -/
def stdV (t : Tm) (nu pa ix : Int) (r ou : Int) : Int := if cntF t nu r (dAt t r).toNat = 0 then 1 else if cntF t nu r (dAt t r).toNat = 1 ∧ isPB t nu pa ix (beR t r (allN t 1000 r)) (appN t 1000 (beR t r (allN t 1000 r))) (ou + (allN t 1000 r : Nat) - 1) = true then 2 else 0
abbrev shC (t : Tm) (r : Int) (dep h : Nat) : va_E := dC dep (some h) (allN t 1000 r : Nat) (beR t r (allN t 1000 r)) (appN t 1000 (beR t r (allN t 1000 r)) : Nat)
theorem TermAt_dep {V : mv_V} {M : mv_M} {h dep : Nat} {t : Tm} {δ : Nat → Int} (hT : TermAt V M h t) (hd : M dep = some (iA V 1000 δ)) (hD : ∀ a0 a1 a2 a3, M h = some (.inr (0, [.ref a0, .ref a1, .ref a2, .ref a3])) → a0 ≠ dep ∧ a1 ≠ dep ∧ a2 ≠ dep ∧ a3 ≠ dep) (δ' : Nat → Int) : TermAt V (mv_up M dep (iA V 1000 δ')) h t := by
  obtain ⟨a0, a1, a2, a3, hh, h0, h1, h2, h3⟩ := hT
  obtain ⟨n0, n1, n2, n3⟩ := hD a0 a1 a2 a3 hh
  exact ⟨a0, a1, a2, a3, by rw [mv_un (mv_ne hh hd (by simp))]; exact hh, by rw [mv_un n0]; exact h0, by rw [mv_un n1]; exact h1, by rw [mv_un n2]; exact h2, by rw [mv_un n3]; exact h3⟩
set_option maxRecDepth 100000 in
set_option maxHeartbeats 4000000 in
theorem m_Reader_depthAt {l : Launch} {V : mv_V} {M : mv_M} {rd dep : Nat} {tm : Option Nat} {al fo ap : Int} (hr : M rd = some (dC dep tm al fo ap)) {δ : Nat → Int} (hd : M dep = some (iA V 1000 δ)) {i : Int} (ri : R32 i) : Met l y_Reader_depthAt ws_Reader_depthAt (rM 0 0 0 0) (mv_Pre (kk V) [.ref rd, .int (iI (i))] M) (mv_Q (kk V) (mv_R (some (.int (iI (dgt δ i)))) M)) 0 0 V.2.2.2.2 := by
  refine mv_Met (by decide) rfl (Nat.le_of_ble_eq_true rfl) (fun X hX B => ?_)
  subst hX
  replace B : mv_B X (kk V) c_Reader_depthAt ws_Reader_depthAt "FamilyRules$Reader" 2 (Option.some Jvm.ClassFile.FieldType.int) (rM 0 0 0 0) "depthAt" := B
  obtain ⟨Q, hQ⟩ : ∃ Q, Q = mv_E X (kk V) (mv_R (some (.int (iI (dgt δ i)))) M) 0 0 := ⟨_, rfl⟩
  rw [← hQ]
  show mv_G X Q (kk V) 2 0 [(0, .ref rd), (1, .int (iI (i)))] [] M 0 0
  refine mv_iload_n B d_Reader_depthAt_0 rfl 1 rfl ?_
  refine mv_if_lt (tgt := 22) B d_Reader_depthAt_1 (by decide) (by omega) (fun c1 => ?_) (fun c1 => ?_)
  · refine mv_iconst (z := 0) B d_Reader_depthAt_22 rfl ?_
    rw [hQ]
    exact mv_iret B ⟨(by simp only [dgt]; first | rw [if_pos (by omega)] | rw [if_neg (by omega)]), rfl⟩ (by omega) (by omega) d_Reader_depthAt_23
  · refine mv_iload_n B d_Reader_depthAt_4 rfl 1 rfl ?_
    refine mv_aloadR_n B d_Reader_depthAt_5 rfl 0 rfl ?_
    refine gf_Reader_9 B hr rfl d_Reader_depthAt_6 ?_
    refine ia_len B hd d_Reader_depthAt_9 ?_
    refine mv_icmp_ge (tgt := 22) B d_Reader_depthAt_10 (by decide) (by omega) (by omega) (fun c2 => ?_) (fun c2 => ?_)
    · refine mv_iconst (z := 0) B d_Reader_depthAt_22 rfl ?_
      rw [hQ]
      exact mv_iret B ⟨(by simp only [dgt]; first | rw [if_pos (by omega)] | rw [if_neg (by omega)]), rfl⟩ (by omega) (by omega) d_Reader_depthAt_23
    · refine mv_aloadR_n B d_Reader_depthAt_13 rfl 0 rfl ?_
      refine gf_Reader_9 B hr rfl d_Reader_depthAt_14 ?_
      refine mv_iload_n B d_Reader_depthAt_17 rfl 1 rfl ?_
      refine ia_ld B hd (by omega) (by omega) (by omega) d_Reader_depthAt_18 ?_
      refine mv_goto (tgt := 23) B d_Reader_depthAt_19 (by decide) ?_
      rw [hQ]
      exact mv_iret B ⟨(by simp only [dgt]; first | rw [if_pos (by omega)] | rw [if_neg (by omega)]), rfl⟩ (by omega) (by omega) d_Reader_depthAt_23
set_option maxRecDepth 100000 in
set_option maxHeartbeats 4000000 in
theorem m_Reader_setDepth {l : Launch} {V : mv_V} {M : mv_M} {rd dep : Nat} {tm : Option Nat} {al fo ap : Int} (hr : M rd = some (dC dep tm al fo ap)) {δ : Nat → Int} (hd : M dep = some (iA V 1000 δ)) {i x : Int} (ri : R32 i) : Met l y_Reader_setDepth ws_Reader_setDepth (rM 0 0 0 0) (mv_Pre (kk V) [.ref rd, .int (iI (i)), .int (iI (x))] M) (mv_Q (kk V) (mv_R none (mv_up M dep (iA V 1000 (dset δ i x))))) 0 0 V.2.2.2.2 := by
  refine mv_Met (by decide) rfl (Nat.le_of_ble_eq_true rfl) (fun X hX B => ?_)
  subst hX
  replace B : mv_B X (kk V) c_Reader_setDepth ws_Reader_setDepth "FamilyRules$Reader" 3 (Option.none : Option Jvm.ClassFile.FieldType) (rM 0 0 0 0) "setDepth" := B
  obtain ⟨Q, hQ⟩ : ∃ Q, Q = mv_E X (kk V) (mv_R none (mv_up M dep (iA V 1000 (dset δ i x)))) 0 0 := ⟨_, rfl⟩
  rw [← hQ]
  show mv_G X Q (kk V) 3 0 [(0, .ref rd), (1, .int (iI (i))), (2, .int (iI (x)))] [] M 0 0
  refine mv_iload_n B d_Reader_setDepth_0 rfl 1 rfl ?_
  refine mv_if_lt (tgt := 20) B d_Reader_setDepth_1 (by decide) (by omega) (fun c1 => ?_) (fun c1 => ?_)
  · rw [hQ]
    exact mv_vret B ⟨rfl, (by unfold dset; rw [if_neg (by omega)]; exact (mv_self hd).symm)⟩ (by omega) (by omega) d_Reader_setDepth_20
  · refine mv_iload_n B d_Reader_setDepth_4 rfl 1 rfl ?_
    refine mv_aloadR_n B d_Reader_setDepth_5 rfl 0 rfl ?_
    refine gf_Reader_9 B hr rfl d_Reader_setDepth_6 ?_
    refine ia_len B hd d_Reader_setDepth_9 ?_
    refine mv_icmp_ge (tgt := 20) B d_Reader_setDepth_10 (by decide) (by omega) (by omega) (fun c2 => ?_) (fun c2 => ?_)
    · rw [hQ]
      exact mv_vret B ⟨rfl, (by unfold dset; rw [if_neg (by omega)]; exact (mv_self hd).symm)⟩ (by omega) (by omega) d_Reader_setDepth_20
    · refine mv_aloadR_n B d_Reader_setDepth_13 rfl 0 rfl ?_
      refine gf_Reader_9 B hr rfl d_Reader_setDepth_14 ?_
      refine mv_iload_n B d_Reader_setDepth_17 rfl 1 rfl ?_
      refine mv_iload_n B d_Reader_setDepth_18 rfl 2 rfl ?_
      refine ia_st B hd (by omega) (by omega) (by omega) d_Reader_setDepth_19 ?_
      obtain ⟨M3, hM4⟩ : ∃ My : mv_M, My = mv_up M dep (iA V 1000 (va_up δ (Int.toNat (i)) (x))) := ⟨_, rfl⟩
      rw [← hM4]
      have hf5 : M3 rd = some (.inr (4, [.ref dep, va_rf (tm), .int (iI (al)), .int (iI (fo)), .int (iI (ap))])) := by rw [hM4, mv_un (mv_ne hr hd (by simp))]; exact hr
      have hf6 : M3 dep = some (iA V 1000 (va_up δ (Int.toNat (i)) (x))) := by rw [hM4]; exact mv_us
      rw [hQ]
      exact mv_vret B ⟨rfl, (by rw [hM4]; unfold dset; rw [if_pos (by omega)])⟩ (by omega) (by omega) d_Reader_setDepth_20
set_option maxRecDepth 100000 in
set_option maxHeartbeats 4000000 in
theorem m_Reader_readShape {l : Launch} {V : mv_V} {M : mv_M} {rd dep : Nat} {tm : Option Nat} {al fo ap : Int} (hr : M rd = some (dC dep tm al fo ap)) {h : Nat} {t : Tm} (hT : TermAt V M h t) (ho : Tok t) {r : Int} (rr : 0 ≤ r ∧ r ≤ 5000000) : Met l y_Reader_readShape ws_Reader_readShape (rM 2 0 0 45) (mv_Pre (kk V) [.ref rd, .ref h, .int (iI (r))] M) (mv_Q (kk V) (mv_R none (mv_up M rd (shC t r dep h)))) 0 0 V.2.2.2.2 := by
  refine mv_Met (by decide) rfl (Nat.le_of_ble_eq_true rfl) (fun X hX B => ?_)
  subst hX
  replace B : mv_B X (kk V) c_Reader_readShape ws_Reader_readShape "FamilyRules$Reader" 3 (Option.none : Option Jvm.ClassFile.FieldType) (rM 2 0 0 45) "readShape" := B
  obtain ⟨Q, hQ⟩ : ∃ Q, Q = mv_E X (kk V) (mv_R none (mv_up M rd (shC t r dep h))) 0 0 := ⟨_, rfl⟩
  rw [← hQ]
  show mv_G X Q (kk V) 3 0 [(0, .ref rd), (1, .ref h), (2, .int (iI (r)))] [] M 0 0
  refine mv_aloadR_n B d_Reader_readShape_0 rfl 0 rfl ?_
  refine mv_aloadR_n B d_Reader_readShape_1 rfl 1 rfl ?_
  refine pf_Reader_15 B hr rfl rfl (Nat.le_of_ble_eq_true rfl) d_Reader_readShape_2 ?_
  show mv_G X Q (kk V) 3 5 [(0, .ref rd), (1, .ref h), (2, .int (iI (r)))] [] (mv_up M rd (.inr (4, [.ref dep, .ref h, .int (iI (al)), .int (iI (fo)), .int (iI (ap))]))) 0 0
  obtain ⟨M1, hM2⟩ : ∃ My : mv_M, My = mv_up M rd (.inr (4, [.ref dep, .ref h, .int (iI (al)), .int (iI (fo)), .int (iI (ap))])) := ⟨_, rfl⟩
  rw [← hM2]
  have hf3 : M1 rd = some (.inr (4, [.ref dep, .ref h, .int (iI (al)), .int (iI (fo)), .int (iI (ap))])) := by rw [hM2]; exact mv_us
  refine mv_aloadR_n B d_Reader_readShape_5 rfl 0 rfl ?_
  refine mv_iconst (z := 0) B d_Reader_readShape_6 rfl ?_
  refine pf_Reader_19 B hf3 rfl rfl (Nat.le_of_ble_eq_true rfl) d_Reader_readShape_7 ?_
  show mv_G X Q (kk V) 3 10 [(0, .ref rd), (1, .ref h), (2, .int (iI (r)))] [] (mv_up M1 rd (.inr (4, [.ref dep, .ref h, .int (iI (0)), .int (iI (fo)), .int (iI (ap))]))) 0 0
  obtain ⟨M4, hM5⟩ : ∃ My : mv_M, My = mv_up M1 rd (.inr (4, [.ref dep, .ref h, .int (iI (0)), .int (iI (fo)), .int (iI (ap))])) := ⟨_, rfl⟩
  rw [← hM5]
  have hf6 : M4 rd = some (.inr (4, [.ref dep, .ref h, .int (iI (0)), .int (iI (fo)), .int (iI (ap))])) := by rw [hM5]; exact mv_us
  refine mv_aloadR_n B d_Reader_readShape_10 rfl 0 rfl ?_
  refine mv_iload_n B d_Reader_readShape_11 rfl 2 rfl ?_
  refine pf_Reader_23 B hf6 rfl rfl (Nat.le_of_ble_eq_true rfl) d_Reader_readShape_12 ?_
  show mv_G X Q (kk V) 3 15 [(0, .ref rd), (1, .ref h), (2, .int (iI (r)))] [] (mv_up M4 rd (.inr (4, [.ref dep, .ref h, .int (iI (0)), .int (iI (r)), .int (iI (ap))]))) 0 0
  obtain ⟨M7, hM8⟩ : ∃ My : mv_M, My = mv_up M4 rd (.inr (4, [.ref dep, .ref h, .int (iI (0)), .int (iI (r)), .int (iI (ap))])) := ⟨_, rfl⟩
  rw [← hM8]
  have hf9 : M7 rd = some (.inr (4, [.ref dep, .ref h, .int (iI (0)), .int (iI (r)), .int (iI (ap))])) := by rw [hM8]; exact mv_us
  have L15 : ∀ (fu : Nat) (a : Nat), (a ≤ 1000) → (allN t 1000 r = a + allN t (1000 - a) (beR t r a)) → (1000 - a) < fu → mv_G X Q (kk V) 3 15 [(0, .ref rd), (1, .ref h), (2, .int (iI (r)))] [] (mv_up M rd (dC dep (some h) (a : Nat) (beR t r a) ap)) 0 0 := by
    intro fu
    induction fu with
    | zero => intro a ha hia hm; exact absurd hm (Nat.not_lt_zero _)
    | succ fu ih15 =>
      intro a ha hia hm
      have f1 : (mv_up M rd (dC dep (some h) (a : Nat) (beR t r a) ap)) rd = some (dC dep (some h) (a : Nat) (beR t r a) ap) := mv_us
      have hT1 := TermAt_kept hT rd (dC dep (some h) (a : Nat) (beR t r a) ap) hr (by simp) rfl
      obtain ⟨b0, b1, b2, b3, bh, -⟩ := id hT1
      have hb1 := beR_r ho r a
      have hk1 := kAt_r ho (beR t r a)
      refine mv_aloadR_n B d_Reader_readShape_15 rfl 0 rfl ?_
      refine gf_Reader_19 B f1 rfl d_Reader_readShape_16 ?_
      refine mv_sipush (z := 1000) B d_Reader_readShape_19 (by decide) ?_
      refine mv_icmp_ge (tgt := 63) B d_Reader_readShape_22 (by decide) (by omega) (by omega) (fun c10 => ?_) (fun c10 => ?_)
      · have ea : a = allN t 1000 r := by
          rw [hia]
          first
          | (have e0 : 1000 - a = 0 := by omega
             rw [e0]; simp [allN])
          | (rw [allN_n (by omega)]; omega)
        refine mv_aloadR_n B d_Reader_readShape_63 rfl 0 rfl ?_
        refine mv_iconst (z := 0) B d_Reader_readShape_64 rfl ?_
        refine pf_Reader_35 B f1 rfl rfl (Nat.le_of_ble_eq_true rfl) d_Reader_readShape_65 ?_
        show mv_G X Q (kk V) 3 68 [(0, .ref rd), (1, .ref h), (2, .int (iI (r)))] [] (mv_up (mv_up M rd (dC dep (some h) (a : Nat) (beR t r a) ap)) rd (.inr (4, [.ref dep, .ref h, .int (iI ((a : Nat))), .int (iI (beR t r a)), .int (iI (0))]))) 0 0
        obtain ⟨M11, hM12⟩ : ∃ My : mv_M, My = mv_up (mv_up M rd (dC dep (some h) (a : Nat) (beR t r a) ap)) rd (.inr (4, [.ref dep, .ref h, .int (iI ((a : Nat))), .int (iI (beR t r a)), .int (iI (0))])) := ⟨_, rfl⟩
        rw [← hM12]
        have hf13 : M11 rd = some (.inr (4, [.ref dep, .ref h, .int (iI ((a : Nat))), .int (iI (beR t r a)), .int (iI (0))])) := by rw [hM12]; exact mv_us
        have hf14 : M11 h = some (.inr (0, [.ref b0, .ref b1, .ref b2, .ref b3])) := by rw [hM12, mv_un (mv_ne bh f1 (by simp))]; exact bh
        have L68 : ∀ (fu : Nat) (b : Nat), (b ≤ 1000) → (appN t 1000 (beR t r a) = b + appN t (1000 - b) (beR t r a + b)) → (1000 - b) < fu → mv_G X Q (kk V) 3 68 [(0, .ref rd), (1, .ref h), (2, .int (iI (r)))] [] (mv_up M rd (dC dep (some h) (a : Nat) (beR t r a) (b : Nat))) 0 0 := by
          intro fu
          induction fu with
          | zero => intro b hb hib hm; exact absurd hm (Nat.not_lt_zero _)
          | succ fu ih68 =>
            intro b hb hib hm
            have g1 : (mv_up M rd (dC dep (some h) (a : Nat) (beR t r a) (b : Nat))) rd = some (dC dep (some h) (a : Nat) (beR t r a) (b : Nat)) := mv_us
            have hT2 := TermAt_kept hT rd (dC dep (some h) (a : Nat) (beR t r a) (b : Nat)) hr (by simp) rfl
            obtain ⟨c0, c1, c2, c3, ch, -⟩ := id hT2
            have hk2 := kAt_r ho (beR t r a + (b : Nat))
            refine mv_aloadR_n B d_Reader_readShape_68 rfl 0 rfl ?_
            refine gf_Reader_35 B g1 rfl d_Reader_readShape_69 ?_
            refine mv_sipush (z := 1000) B d_Reader_readShape_72 (by decide) ?_
            refine mv_icmp_ge (tgt := 108) B d_Reader_readShape_75 (by decide) (by omega) (by omega) (fun c15 => ?_) (fun c15 => ?_)
            · rw [hQ]
              have eb : b = appN t 1000 (beR t r a) := by
                rw [hib]
                first
                | (have e0 : 1000 - b = 0 := by omega
                   rw [e0]; simp [appN])
                | (rw [appN_n (by omega)]; omega)
              exact mv_vret B ⟨rfl, by unfold shC; rw [← ea, ← eb]⟩ (by omega) (by omega) d_Reader_readShape_108
            · refine mv_aloadR_n B d_Reader_readShape_78 rfl 1 rfl ?_
              refine mv_aloadR_n B d_Reader_readShape_79 rfl 0 rfl ?_
              refine gf_Reader_23 B g1 rfl d_Reader_readShape_80 ?_
              refine mv_aloadR_n B d_Reader_readShape_83 rfl 0 rfl ?_
              refine gf_Reader_35 B g1 rfl d_Reader_readShape_84 ?_
              refine mv_iadd B d_Reader_readShape_87 ?_
              refine ca_Reader_26 (mc := 0) (ms := 0) (As := [.int (iI ((beR t r a) + (b : Nat)))]) (rest := []) B (m_Term_kindAt hT2 ho (i := (beR t r a) + (b : Nat)) (by omega)) rfl rfl ⟨Nat.le_of_ble_eq_true rfl, Nat.le_of_ble_eq_true rfl⟩ ch rfl rfl (Nat.le_of_ble_eq_true rfl) d_Reader_readShape_88 ⟨by omega, by omega⟩ (mv_x ?_)
              show mv_G X Q (kk V) 3 91 [(0, .ref rd), (1, .ref h), (2, .int (iI (r)))] [.int (iI (kAt t ((beR t r a) + (b : Nat))))] (mv_up M rd (dC dep (some h) (a : Nat) (beR t r a) (b : Nat))) 0 0
              refine mv_iconst (z := 4) B d_Reader_readShape_91 rfl ?_
              refine mv_icmp_ne (tgt := 108) B d_Reader_readShape_92 (by decide) (by omega) (by omega) (fun c16 => ?_) (fun c16 => ?_)
              · rw [hQ]
                have eb : b = appN t 1000 (beR t r a) := by
                  rw [hib]
                  first
                  | (have e0 : 1000 - b = 0 := by omega
                     rw [e0]; simp [appN])
                  | (rw [appN_n (by omega)]; omega)
                exact mv_vret B ⟨rfl, by unfold shC; rw [← ea, ← eb]⟩ (by omega) (by omega) d_Reader_readShape_108
              · refine mv_aloadR_n B d_Reader_readShape_95 rfl 0 rfl ?_
                refine mv_dup B d_Reader_readShape_96 rfl ?_
                refine gf_Reader_35 B g1 rfl d_Reader_readShape_97 ?_
                refine mv_iconst (z := 1) B d_Reader_readShape_100 rfl ?_
                refine mv_iadd B d_Reader_readShape_101 ?_
                refine pf_Reader_35 B g1 rfl rfl (Nat.le_of_ble_eq_true rfl) d_Reader_readShape_102 ?_
                show mv_G X Q (kk V) 3 105 [(0, .ref rd), (1, .ref h), (2, .int (iI (r)))] [] (mv_up (mv_up M rd (dC dep (some h) (a : Nat) (beR t r a) (b : Nat))) rd (.inr (4, [.ref dep, .ref h, .int (iI ((a : Nat))), .int (iI (beR t r a)), .int (iI ((b : Nat) + 1))]))) 0 0
                obtain ⟨M17, hM18⟩ : ∃ My : mv_M, My = mv_up (mv_up M rd (dC dep (some h) (a : Nat) (beR t r a) (b : Nat))) rd (.inr (4, [.ref dep, .ref h, .int (iI ((a : Nat))), .int (iI (beR t r a)), .int (iI ((b : Nat) + 1))])) := ⟨_, rfl⟩
                rw [← hM18]
                have hf19 : M17 rd = some (.inr (4, [.ref dep, .ref h, .int (iI ((a : Nat))), .int (iI (beR t r a)), .int (iI ((b : Nat) + 1))])) := by rw [hM18]; exact mv_us
                have hf20 : M17 h = some (.inr (0, [.ref c0, .ref c1, .ref c2, .ref c3])) := by rw [hM18, mv_un (mv_ne ch g1 (by simp))]; exact ch
                refine mv_goto (tgt := 68) B d_Reader_readShape_105 (by decide) ?_
                refine mv_lv (lv' := [(0, .ref rd), (1, .ref h), (2, .int (iI (r)))]) [0, 1, 2] (lc rfl (lc rfl (lc rfl rfl))) ?_
                rw [show M17 = mv_up M rd (dC dep (some h) (a : Nat) (beR t r a) ((b + 1) : Nat)) from (by rw [hM18]; simp only [mv_uu]; first | done | rfl)]
                exact ih68 (b + 1) (by omega) (by rw [hib, appN_s (by omega) (by omega), Nat.sub_sub, show beR t r a + (b : Nat) + 1 = beR t r a + ((b + 1 : Nat) : Int) by omega]; omega) (by omega)
        refine mv_lv (lv' := [(0, .ref rd), (1, .ref h), (2, .int (iI (r)))]) [0, 1, 2] (lc rfl (lc rfl (lc rfl rfl))) ?_
        rw [show M11 = mv_up M rd (dC dep (some h) (a : Nat) (beR t r a) (0 : Nat)) from (by rw [hM12]; simp only [mv_uu]; first | done | rfl)]
        exact L68 _ 0 (by omega) (by simp) (Nat.lt_succ_self _)
      · refine mv_aloadR_n B d_Reader_readShape_25 rfl 1 rfl ?_
        refine mv_aloadR_n B d_Reader_readShape_26 rfl 0 rfl ?_
        refine gf_Reader_23 B f1 rfl d_Reader_readShape_27 ?_
        refine ca_Reader_26 (mc := 0) (ms := 0) (As := [.int (iI (beR t r a))]) (rest := []) B (m_Term_kindAt hT1 ho (i := beR t r a) (by omega)) rfl rfl ⟨Nat.le_of_ble_eq_true rfl, Nat.le_of_ble_eq_true rfl⟩ bh rfl rfl (Nat.le_of_ble_eq_true rfl) d_Reader_readShape_30 ⟨by omega, by omega⟩ (mv_x ?_)
        show mv_G X Q (kk V) 3 33 [(0, .ref rd), (1, .ref h), (2, .int (iI (r)))] [.int (iI (kAt t (beR t r a)))] (mv_up M rd (dC dep (some h) (a : Nat) (beR t r a) ap)) 0 0
        refine mv_bipush (z := 6) B d_Reader_readShape_33 (by decide) ?_
        refine mv_icmp_ne (tgt := 63) B d_Reader_readShape_35 (by decide) (by omega) (by omega) (fun c21 => ?_) (fun c21 => ?_)
        · have ea : a = allN t 1000 r := by
            rw [hia]
            first
            | (have e0 : 1000 - a = 0 := by omega
               rw [e0]; simp [allN])
            | (rw [allN_n (by omega)]; omega)
          refine mv_aloadR_n B d_Reader_readShape_63 rfl 0 rfl ?_
          refine mv_iconst (z := 0) B d_Reader_readShape_64 rfl ?_
          refine pf_Reader_35 B f1 rfl rfl (Nat.le_of_ble_eq_true rfl) d_Reader_readShape_65 ?_
          show mv_G X Q (kk V) 3 68 [(0, .ref rd), (1, .ref h), (2, .int (iI (r)))] [] (mv_up (mv_up M rd (dC dep (some h) (a : Nat) (beR t r a) ap)) rd (.inr (4, [.ref dep, .ref h, .int (iI ((a : Nat))), .int (iI (beR t r a)), .int (iI (0))]))) 0 0
          obtain ⟨M22, hM23⟩ : ∃ My : mv_M, My = mv_up (mv_up M rd (dC dep (some h) (a : Nat) (beR t r a) ap)) rd (.inr (4, [.ref dep, .ref h, .int (iI ((a : Nat))), .int (iI (beR t r a)), .int (iI (0))])) := ⟨_, rfl⟩
          rw [← hM23]
          have hf24 : M22 rd = some (.inr (4, [.ref dep, .ref h, .int (iI ((a : Nat))), .int (iI (beR t r a)), .int (iI (0))])) := by rw [hM23]; exact mv_us
          have hf25 : M22 h = some (.inr (0, [.ref b0, .ref b1, .ref b2, .ref b3])) := by rw [hM23, mv_un (mv_ne bh f1 (by simp))]; exact bh
          have L68 : ∀ (fu : Nat) (b : Nat), (b ≤ 1000) → (appN t 1000 (beR t r a) = b + appN t (1000 - b) (beR t r a + b)) → (1000 - b) < fu → mv_G X Q (kk V) 3 68 [(0, .ref rd), (1, .ref h), (2, .int (iI (r)))] [] (mv_up M rd (dC dep (some h) (a : Nat) (beR t r a) (b : Nat))) 0 0 := by
            intro fu
            induction fu with
            | zero => intro b hb hib hm; exact absurd hm (Nat.not_lt_zero _)
            | succ fu ih68 =>
              intro b hb hib hm
              have g1 : (mv_up M rd (dC dep (some h) (a : Nat) (beR t r a) (b : Nat))) rd = some (dC dep (some h) (a : Nat) (beR t r a) (b : Nat)) := mv_us
              have hT2 := TermAt_kept hT rd (dC dep (some h) (a : Nat) (beR t r a) (b : Nat)) hr (by simp) rfl
              obtain ⟨c0, c1, c2, c3, ch, -⟩ := id hT2
              have hk2 := kAt_r ho (beR t r a + (b : Nat))
              refine mv_aloadR_n B d_Reader_readShape_68 rfl 0 rfl ?_
              refine gf_Reader_35 B g1 rfl d_Reader_readShape_69 ?_
              refine mv_sipush (z := 1000) B d_Reader_readShape_72 (by decide) ?_
              refine mv_icmp_ge (tgt := 108) B d_Reader_readShape_75 (by decide) (by omega) (by omega) (fun c26 => ?_) (fun c26 => ?_)
              · rw [hQ]
                have eb : b = appN t 1000 (beR t r a) := by
                  rw [hib]
                  first
                  | (have e0 : 1000 - b = 0 := by omega
                     rw [e0]; simp [appN])
                  | (rw [appN_n (by omega)]; omega)
                exact mv_vret B ⟨rfl, by unfold shC; rw [← ea, ← eb]⟩ (by omega) (by omega) d_Reader_readShape_108
              · refine mv_aloadR_n B d_Reader_readShape_78 rfl 1 rfl ?_
                refine mv_aloadR_n B d_Reader_readShape_79 rfl 0 rfl ?_
                refine gf_Reader_23 B g1 rfl d_Reader_readShape_80 ?_
                refine mv_aloadR_n B d_Reader_readShape_83 rfl 0 rfl ?_
                refine gf_Reader_35 B g1 rfl d_Reader_readShape_84 ?_
                refine mv_iadd B d_Reader_readShape_87 ?_
                refine ca_Reader_26 (mc := 0) (ms := 0) (As := [.int (iI ((beR t r a) + (b : Nat)))]) (rest := []) B (m_Term_kindAt hT2 ho (i := (beR t r a) + (b : Nat)) (by omega)) rfl rfl ⟨Nat.le_of_ble_eq_true rfl, Nat.le_of_ble_eq_true rfl⟩ ch rfl rfl (Nat.le_of_ble_eq_true rfl) d_Reader_readShape_88 ⟨by omega, by omega⟩ (mv_x ?_)
                show mv_G X Q (kk V) 3 91 [(0, .ref rd), (1, .ref h), (2, .int (iI (r)))] [.int (iI (kAt t ((beR t r a) + (b : Nat))))] (mv_up M rd (dC dep (some h) (a : Nat) (beR t r a) (b : Nat))) 0 0
                refine mv_iconst (z := 4) B d_Reader_readShape_91 rfl ?_
                refine mv_icmp_ne (tgt := 108) B d_Reader_readShape_92 (by decide) (by omega) (by omega) (fun c27 => ?_) (fun c27 => ?_)
                · rw [hQ]
                  have eb : b = appN t 1000 (beR t r a) := by
                    rw [hib]
                    first
                    | (have e0 : 1000 - b = 0 := by omega
                       rw [e0]; simp [appN])
                    | (rw [appN_n (by omega)]; omega)
                  exact mv_vret B ⟨rfl, by unfold shC; rw [← ea, ← eb]⟩ (by omega) (by omega) d_Reader_readShape_108
                · refine mv_aloadR_n B d_Reader_readShape_95 rfl 0 rfl ?_
                  refine mv_dup B d_Reader_readShape_96 rfl ?_
                  refine gf_Reader_35 B g1 rfl d_Reader_readShape_97 ?_
                  refine mv_iconst (z := 1) B d_Reader_readShape_100 rfl ?_
                  refine mv_iadd B d_Reader_readShape_101 ?_
                  refine pf_Reader_35 B g1 rfl rfl (Nat.le_of_ble_eq_true rfl) d_Reader_readShape_102 ?_
                  show mv_G X Q (kk V) 3 105 [(0, .ref rd), (1, .ref h), (2, .int (iI (r)))] [] (mv_up (mv_up M rd (dC dep (some h) (a : Nat) (beR t r a) (b : Nat))) rd (.inr (4, [.ref dep, .ref h, .int (iI ((a : Nat))), .int (iI (beR t r a)), .int (iI ((b : Nat) + 1))]))) 0 0
                  obtain ⟨M28, hM29⟩ : ∃ My : mv_M, My = mv_up (mv_up M rd (dC dep (some h) (a : Nat) (beR t r a) (b : Nat))) rd (.inr (4, [.ref dep, .ref h, .int (iI ((a : Nat))), .int (iI (beR t r a)), .int (iI ((b : Nat) + 1))])) := ⟨_, rfl⟩
                  rw [← hM29]
                  have hf30 : M28 rd = some (.inr (4, [.ref dep, .ref h, .int (iI ((a : Nat))), .int (iI (beR t r a)), .int (iI ((b : Nat) + 1))])) := by rw [hM29]; exact mv_us
                  have hf31 : M28 h = some (.inr (0, [.ref c0, .ref c1, .ref c2, .ref c3])) := by rw [hM29, mv_un (mv_ne ch g1 (by simp))]; exact ch
                  refine mv_goto (tgt := 68) B d_Reader_readShape_105 (by decide) ?_
                  refine mv_lv (lv' := [(0, .ref rd), (1, .ref h), (2, .int (iI (r)))]) [0, 1, 2] (lc rfl (lc rfl (lc rfl rfl))) ?_
                  rw [show M28 = mv_up M rd (dC dep (some h) (a : Nat) (beR t r a) ((b + 1) : Nat)) from (by rw [hM29]; simp only [mv_uu]; first | done | rfl)]
                  exact ih68 (b + 1) (by omega) (by rw [hib, appN_s (by omega) (by omega), Nat.sub_sub, show beR t r a + (b : Nat) + 1 = beR t r a + ((b + 1 : Nat) : Int) by omega]; omega) (by omega)
          refine mv_lv (lv' := [(0, .ref rd), (1, .ref h), (2, .int (iI (r)))]) [0, 1, 2] (lc rfl (lc rfl (lc rfl rfl))) ?_
          rw [show M22 = mv_up M rd (dC dep (some h) (a : Nat) (beR t r a) (0 : Nat)) from (by rw [hM23]; simp only [mv_uu]; first | done | rfl)]
          exact L68 _ 0 (by omega) (by simp) (Nat.lt_succ_self _)
        · refine mv_aloadR_n B d_Reader_readShape_38 rfl 0 rfl ?_
          refine mv_aloadR_n B d_Reader_readShape_39 rfl 1 rfl ?_
          refine mv_aloadR_n B d_Reader_readShape_40 rfl 0 rfl ?_
          refine gf_Reader_23 B f1 rfl d_Reader_readShape_41 ?_
          refine ca_Reader_32 (mc := 0) (ms := 0) (As := [.int (iI (beR t r a))]) (rest := [.ref rd]) B (m_Term_secondOf hT1 ho (i := beR t r a) (by omega)) rfl rfl ⟨Nat.le_of_ble_eq_true rfl, Nat.le_of_ble_eq_true rfl⟩ bh rfl rfl (Nat.le_of_ble_eq_true rfl) d_Reader_readShape_44 ⟨by omega, by omega⟩ (mv_x ?_)
          show mv_G X Q (kk V) 3 47 [(0, .ref rd), (1, .ref h), (2, .int (iI (r)))] [.int (iI (scd t (beR t r a))), .ref rd] (mv_up M rd (dC dep (some h) (a : Nat) (beR t r a) ap)) 0 0
          refine pf_Reader_23 B f1 rfl rfl (Nat.le_of_ble_eq_true rfl) d_Reader_readShape_47 ?_
          show mv_G X Q (kk V) 3 50 [(0, .ref rd), (1, .ref h), (2, .int (iI (r)))] [] (mv_up (mv_up M rd (dC dep (some h) (a : Nat) (beR t r a) ap)) rd (.inr (4, [.ref dep, .ref h, .int (iI ((a : Nat))), .int (iI (scd t (beR t r a))), .int (iI (ap))]))) 0 0
          obtain ⟨M32, hM33⟩ : ∃ My : mv_M, My = mv_up (mv_up M rd (dC dep (some h) (a : Nat) (beR t r a) ap)) rd (.inr (4, [.ref dep, .ref h, .int (iI ((a : Nat))), .int (iI (scd t (beR t r a))), .int (iI (ap))])) := ⟨_, rfl⟩
          rw [← hM33]
          have hf34 : M32 rd = some (.inr (4, [.ref dep, .ref h, .int (iI ((a : Nat))), .int (iI (scd t (beR t r a))), .int (iI (ap))])) := by rw [hM33]; exact mv_us
          have hf35 : M32 h = some (.inr (0, [.ref b0, .ref b1, .ref b2, .ref b3])) := by rw [hM33, mv_un (mv_ne bh f1 (by simp))]; exact bh
          refine mv_aloadR_n B d_Reader_readShape_50 rfl 0 rfl ?_
          refine mv_dup B d_Reader_readShape_51 rfl ?_
          refine gf_Reader_19 B hf34 rfl d_Reader_readShape_52 ?_
          refine mv_iconst (z := 1) B d_Reader_readShape_55 rfl ?_
          refine mv_iadd B d_Reader_readShape_56 ?_
          refine pf_Reader_19 B hf34 rfl rfl (Nat.le_of_ble_eq_true rfl) d_Reader_readShape_57 ?_
          show mv_G X Q (kk V) 3 60 [(0, .ref rd), (1, .ref h), (2, .int (iI (r)))] [] (mv_up M32 rd (.inr (4, [.ref dep, .ref h, .int (iI ((a : Nat) + 1)), .int (iI (scd t (beR t r a))), .int (iI (ap))]))) 0 0
          obtain ⟨M36, hM37⟩ : ∃ My : mv_M, My = mv_up M32 rd (.inr (4, [.ref dep, .ref h, .int (iI ((a : Nat) + 1)), .int (iI (scd t (beR t r a))), .int (iI (ap))])) := ⟨_, rfl⟩
          rw [← hM37]
          have hf38 : M36 rd = some (.inr (4, [.ref dep, .ref h, .int (iI ((a : Nat) + 1)), .int (iI (scd t (beR t r a))), .int (iI (ap))])) := by rw [hM37]; exact mv_us
          have hf39 : M36 h = some (.inr (0, [.ref b0, .ref b1, .ref b2, .ref b3])) := by rw [hM37, mv_un (mv_ne hf35 hf34 (by simp))]; exact hf35
          refine mv_goto (tgt := 15) B d_Reader_readShape_60 (by decide) ?_
          refine mv_lv (lv' := [(0, .ref rd), (1, .ref h), (2, .int (iI (r)))]) [0, 1, 2] (lc rfl (lc rfl (lc rfl rfl))) ?_
          rw [show M36 = mv_up M rd (dC dep (some h) ((a + 1) : Nat) (beR t r (a + 1)) ap) from (by rw [hM37, hM33]; simp only [mv_uu]; first | done | rfl)]
          exact ih15 (a + 1) (by omega) (by rw [hia, allN_s (by omega) (by omega), Nat.sub_sub]; simp only [beR]; omega) (by omega)
  refine mv_lv (lv' := [(0, .ref rd), (1, .ref h), (2, .int (iI (r)))]) [0, 1, 2] (lc rfl (lc rfl (lc rfl rfl))) ?_
  rw [show M7 = mv_up M rd (dC dep (some h) (0 : Nat) (beR t r 0) ap) from (by rw [hM8, hM5, hM2]; simp only [mv_uu]; first | done | rfl)]
  exact L15 _ 0 (by omega) (by simp [beR]) (Nat.lt_succ_self _)
set_option maxRecDepth 100000 in
set_option maxHeartbeats 4000000 in
theorem m_Reader_lastTerms {l : Launch} {V : mv_V} {M : mv_M} {rd dep : Nat} {tm : Option Nat} {al fo ap : Int} (hr : M rd = some (dC dep tm al fo ap)) {g : Nat} {nu ro pa ix ra ar rc : Int} {fa co tl : Option Nat} (hg : M g = some (.inr (2, [.int (iI nu), .int (iI ro), .int (iI pa), .int (iI ix), .int (iI ra), va_rf fa, va_rf co, va_rf tl, .int (iI ar), .int (iI rc)]))) : Met l y_Reader_lastTerms ws_Reader_lastTerms (rM 0 0 0 0) (mv_Pre (kk V) [.ref rd, .ref g] M) (mv_Q (kk V) (mv_R (some (.int (iI (fo + ap + 1 + pa)))) M)) 0 0 V.2.2.2.2 := by
  refine mv_Met (by decide) rfl (Nat.le_of_ble_eq_true rfl) (fun X hX B => ?_)
  subst hX
  replace B : mv_B X (kk V) c_Reader_lastTerms ws_Reader_lastTerms "FamilyRules$Reader" 2 (Option.some Jvm.ClassFile.FieldType.int) (rM 0 0 0 0) "lastTerms" := B
  obtain ⟨Q, hQ⟩ : ∃ Q, Q = mv_E X (kk V) (mv_R (some (.int (iI (fo + ap + 1 + pa)))) M) 0 0 := ⟨_, rfl⟩
  rw [← hQ]
  show mv_G X Q (kk V) 2 0 [(0, .ref rd), (1, .ref g)] [] M 0 0
  refine mv_aloadR_n B d_Reader_lastTerms_0 rfl 0 rfl ?_
  refine gf_Reader_23 B hr rfl d_Reader_lastTerms_1 ?_
  refine mv_aloadR_n B d_Reader_lastTerms_4 rfl 0 rfl ?_
  refine gf_Reader_35 B hr rfl d_Reader_lastTerms_5 ?_
  refine mv_iadd B d_Reader_lastTerms_8 ?_
  refine mv_iconst (z := 1) B d_Reader_lastTerms_9 rfl ?_
  refine mv_iadd B d_Reader_lastTerms_10 ?_
  refine mv_aloadR_n B d_Reader_lastTerms_11 rfl 1 rfl ?_
  refine gf_Reader_38 B hg rfl d_Reader_lastTerms_12 ?_
  refine mv_iadd B d_Reader_lastTerms_15 ?_
  rw [hQ]
  exact mv_iret B ⟨(by rfl), rfl⟩ (by omega) (by omega) d_Reader_lastTerms_16
set_option maxRecDepth 100000 in
set_option maxHeartbeats 4000000 in
theorem m_Reader_end {l : Launch} {V : mv_V} {M : mv_M} {rd dep h : Nat} {al fo ap : Int} (hr : M rd = some (dC dep (some h) al fo ap)) {t : Tm} (hT : TermAt V M h t) (ho : Tok t) (rf : Sm fo) : Met l y_Reader_end ws_Reader_end (rM 1 0 0 21) (mv_Pre (kk V) [.ref rd] M) (mv_Q (kk V) (mv_R (some (.int (iI (fo + dAt t fo)))) M)) 0 0 V.2.2.2.2 := by
  refine mv_Met (by decide) rfl (Nat.le_of_ble_eq_true rfl) (fun X hX B => ?_)
  subst hX
  replace B : mv_B X (kk V) c_Reader_end ws_Reader_end "FamilyRules$Reader" 1 (Option.some Jvm.ClassFile.FieldType.int) (rM 1 0 0 21) "end" := B
  obtain ⟨Q, hQ⟩ : ∃ Q, Q = mv_E X (kk V) (mv_R (some (.int (iI (fo + dAt t fo)))) M) 0 0 := ⟨_, rfl⟩
  rw [← hQ]
  show mv_G X Q (kk V) 1 0 [(0, .ref rd)] [] M 0 0
  obtain ⟨a0, a1, a2, a3, hh, h0, h1, h2, h3⟩ := id hT
  refine mv_aloadR_n B d_Reader_end_0 rfl 0 rfl ?_
  refine gf_Reader_15 B hr rfl d_Reader_end_1 ?_
  refine mv_ifnonnullR (tgt := 14) B d_Reader_end_4 (by decide) ?_
  refine mv_aloadR_n B d_Reader_end_14 rfl 0 rfl ?_
  refine gf_Reader_23 B hr rfl d_Reader_end_15 ?_
  refine mv_aloadR_n B d_Reader_end_18 rfl 0 rfl ?_
  refine gf_Reader_15 B hr rfl d_Reader_end_19 ?_
  refine mv_aloadR_n B d_Reader_end_22 rfl 0 rfl ?_
  refine gf_Reader_23 B hr rfl d_Reader_end_23 ?_
  refine ca_Reader_52 (mc := 0) (ms := 0) (As := [.int (iI (fo))]) (rest := [.int (iI (fo))]) B (m_Term_nodesAt hT ho (i := fo) (by omega)) rfl rfl ⟨Nat.le_of_ble_eq_true rfl, Nat.le_of_ble_eq_true rfl⟩ hh rfl rfl (Nat.le_of_ble_eq_true rfl) d_Reader_end_26 ⟨by omega, by omega⟩ (mv_x ?_)
  show mv_G X Q (kk V) 1 29 [(0, .ref rd)] [.int (iI (dAt t (fo))), .int (iI (fo))] M 0 0
  refine mv_iadd B d_Reader_end_29 ?_
  rw [hQ]
  exact mv_iret B ⟨(by rfl), rfl⟩ (by omega) (by omega) d_Reader_end_30
set_option maxRecDepth 100000 in
set_option maxHeartbeats 4000000 in
theorem m_Reader_isPut {l : Launch} {V : mv_V} {M : mv_M} {rd dep h ap : Nat} {al fo : Int} (hr : M rd = some (dC dep (some h) al fo (ap : Nat))) {t : Tm} (hT : TermAt V M h t) (ho : Tok t) {g : Nat} {nu ro pa ix ra ar rc : Int} {fa co tl : Option Nat} (hg : M g = some (.inr (2, [.int (iI nu), .int (iI ro), .int (iI pa), .int (iI ix), .int (iI ra), va_rf fa, va_rf co, va_rf tl, .int (iI ar), .int (iI rc)]))) {ou : Int} (rf : 0 ≤ fo ∧ fo ≤ 10000000) (rap : ap ≤ 1000) (rnu : Sm nu) (rpa : 0 ≤ pa ∧ pa ≤ 100000) (rix : 0 ≤ ix ∧ ix ≤ 100000) (rou : Sm ou) (ral : 0 ≤ al ∧ al ≤ 1000) : Met l y_Reader_isPut ws_Reader_isPut (rM 1 0 0 21) (mv_Pre (kk V) [.ref rd, .ref g, .int (iI (ou))] M) (mv_Q (kk V) (mv_R (some (.int (iI (if isPB t nu pa ix fo ap (ou + al - 1) = true then 1 else 0)))) M)) 0 0 V.2.2.2.2 := by
  refine mv_Met (by decide) rfl (Nat.le_of_ble_eq_true rfl) (fun X hX B => ?_)
  subst hX
  replace B : mv_B X (kk V) c_Reader_isPut ws_Reader_isPut "FamilyRules$Reader" 6 (Option.some Jvm.ClassFile.FieldType.boolean) (rM 1 0 0 21) "isPut" := B
  obtain ⟨Q, hQ⟩ : ∃ Q, Q = mv_E X (kk V) (mv_R (some (.int (iI (if isPB t nu pa ix fo ap (ou + al - 1) = true then 1 else 0)))) M) 0 0 := ⟨_, rfl⟩
  rw [← hQ]
  show mv_G X Q (kk V) 6 0 [(0, .ref rd), (1, .ref g), (2, .int (iI (ou)))] [] M 0 0
  obtain ⟨a0, a1, a2, a3, hh, h0, h1, h2, h3⟩ := id hT
  have hkh := kAt_r ho (fo + (ap : Nat))
  have huh := uAt_r ho (fo + (ap : Nat))
  refine mv_aloadR_n B d_Reader_isPut_0 rfl 0 rfl ?_
  refine gf_Reader_23 B hr rfl d_Reader_isPut_1 ?_
  refine mv_aloadR_n B d_Reader_isPut_4 rfl 0 rfl ?_
  refine gf_Reader_35 B hr rfl d_Reader_isPut_5 ?_
  refine mv_iadd B d_Reader_isPut_8 ?_
  refine mv_istore_n (lv' := [(3, .int (iI (fo + (ap : Nat)))), (0, .ref rd), (1, .ref g), (2, .int (iI (ou)))]) B d_Reader_isPut_9 rfl (by decide) rfl ?_
  refine mv_aloadR_n B d_Reader_isPut_10 rfl 1 rfl ?_
  refine gf_Reader_15 B hr rfl d_Reader_isPut_11 ?_
  refine mv_ifnullR (tgt := 60) B d_Reader_isPut_14 (by decide) ?_
  refine mv_aloadR_n B d_Reader_isPut_17 rfl 1 rfl ?_
  refine gf_Reader_35 B hr rfl d_Reader_isPut_18 ?_
  refine mv_aloadR_n B d_Reader_isPut_21 rfl 2 rfl ?_
  refine gf_Reader_38 B hg rfl d_Reader_isPut_22 ?_
  refine mv_aloadR_n B d_Reader_isPut_25 rfl 2 rfl ?_
  refine gf_Reader_43 B hg rfl d_Reader_isPut_26 ?_
  refine mv_iadd B d_Reader_isPut_29 ?_
  refine mv_icmp_ne (tgt := 60) B d_Reader_isPut_30 (by decide) (by omega) (by omega) (fun c1 => ?_) (fun c1 => ?_)
  · refine mv_iconst (z := 0) B d_Reader_isPut_60 rfl ?_
    rw [hQ]
    exact mv_zret B rfl ⟨(by rw [if_neg (by unfold isPB; simp; omega)]), rfl⟩ (by omega) (by omega) d_Reader_isPut_61
  · refine mv_aloadR_n B d_Reader_isPut_33 rfl 1 rfl ?_
    refine gf_Reader_15 B hr rfl d_Reader_isPut_34 ?_
    refine mv_iload_n B d_Reader_isPut_37 rfl 0 rfl ?_
    refine ca_Reader_26 (mc := 0) (ms := 0) (As := [.int (iI (fo + (ap : Nat)))]) (rest := []) B (m_Term_kindAt hT ho (i := fo + (ap : Nat)) (by omega)) rfl rfl ⟨Nat.le_of_ble_eq_true rfl, Nat.le_of_ble_eq_true rfl⟩ hh rfl rfl (Nat.le_of_ble_eq_true rfl) d_Reader_isPut_38 ⟨by omega, by omega⟩ (mv_x ?_)
    show mv_G X Q (kk V) 6 41 [(3, .int (iI (fo + (ap : Nat)))), (0, .ref rd), (1, .ref g), (2, .int (iI (ou)))] [.int (iI (kAt t (fo + (ap : Nat))))] M 0 0
    refine mv_iconst (z := 1) B d_Reader_isPut_41 rfl ?_
    refine mv_icmp_ne (tgt := 60) B d_Reader_isPut_42 (by decide) (by omega) (by omega) (fun c2 => ?_) (fun c2 => ?_)
    · refine mv_iconst (z := 0) B d_Reader_isPut_60 rfl ?_
      rw [hQ]
      exact mv_zret B rfl ⟨(by rw [if_neg (by unfold isPB; simp; omega)]), rfl⟩ (by omega) (by omega) d_Reader_isPut_61
    · refine mv_aloadR_n B d_Reader_isPut_45 rfl 1 rfl ?_
      refine gf_Reader_15 B hr rfl d_Reader_isPut_46 ?_
      refine mv_iload_n B d_Reader_isPut_49 rfl 0 rfl ?_
      refine ca_Reader_46 (mc := 0) (ms := 0) (As := [.int (iI (fo + (ap : Nat)))]) (rest := []) B (m_Term_numberAt hT ho (i := fo + (ap : Nat)) (by omega)) rfl rfl ⟨Nat.le_of_ble_eq_true rfl, Nat.le_of_ble_eq_true rfl⟩ hh rfl rfl (Nat.le_of_ble_eq_true rfl) d_Reader_isPut_50 ⟨by omega, by omega⟩ (mv_x ?_)
      show mv_G X Q (kk V) 6 53 [(3, .int (iI (fo + (ap : Nat)))), (0, .ref rd), (1, .ref g), (2, .int (iI (ou)))] [.int (iI (uAt t (fo + (ap : Nat))))] M 0 0
      refine mv_aloadR_n B d_Reader_isPut_53 rfl 2 rfl ?_
      refine gf_Reader_49 B hg rfl d_Reader_isPut_54 ?_
      refine mv_icmp_eq (tgt := 62) B d_Reader_isPut_57 (by decide) (by omega) (by omega) (fun c3 => ?_) (fun c3 => ?_)
      · refine mv_iconst (z := 0) B d_Reader_isPut_62 rfl ?_
        refine mv_istore (lv' := [(4, .int (iI (0))), (3, .int (iI (fo + (ap : Nat)))), (0, .ref rd), (1, .ref g), (2, .int (iI (ou)))]) B d_Reader_isPut_63 (by decide) rfl ?_
        have L65 : ∀ (fu : Nat) (k : Nat), ((k : Int) ≤ pa) → (prmB t (fo + (ap : Nat) + 1) (ou + al - 1) k = true) → (pa.toNat - k) < fu → mv_G X Q (kk V) 6 65 [(4, .int (iI ((k : Nat)))), (3, .int (iI (fo + (ap : Nat)))), (0, .ref rd), (1, .ref g), (2, .int (iI (ou)))] [] M 0 0 := by
          intro fu
          induction fu with
          | zero => intro k hk hp hm; exact absurd hm (Nat.not_lt_zero _)
          | succ fu ih65 =>
            intro k hk hp hm
            have hk1 := kAt_r ho (fo + (ap : Nat) + 1 + (k : Nat))
            have hu1 := uAt_r ho (fo + (ap : Nat) + 1 + (k : Nat))
            refine mv_iload B d_Reader_isPut_65 0 rfl ?_
            refine mv_aloadR_n B d_Reader_isPut_67 rfl 3 rfl ?_
            refine gf_Reader_38 B hg rfl d_Reader_isPut_68 ?_
            refine mv_icmp_ge (tgt := 125) B d_Reader_isPut_71 (by decide) (by omega) (by omega) (fun c4 => ?_) (fun c4 => ?_)
            · refine mv_iconst (z := 1) B d_Reader_isPut_125 rfl ?_
              rw [hQ]
              have ek : pa.toNat = k := by omega
              exact mv_zret B rfl ⟨(by rw [if_pos (by unfold isPB; rw [ek, hp]; simp; omega)]), rfl⟩ (by omega) (by omega) d_Reader_isPut_126
            · refine mv_iload_n B d_Reader_isPut_74 rfl 1 rfl ?_
              refine mv_iconst (z := 1) B d_Reader_isPut_75 rfl ?_
              refine mv_iadd B d_Reader_isPut_76 ?_
              refine mv_iload B d_Reader_isPut_77 0 rfl ?_
              refine mv_iadd B d_Reader_isPut_79 ?_
              refine mv_istore (lv' := [(5, .int (iI (((fo + (ap : Nat)) + 1) + (k : Nat)))), (4, .int (iI ((k : Nat)))), (3, .int (iI (fo + (ap : Nat)))), (0, .ref rd), (1, .ref g), (2, .int (iI (ou)))]) B d_Reader_isPut_80 (by decide) rfl ?_
              refine mv_aloadR_n B d_Reader_isPut_82 rfl 3 rfl ?_
              refine gf_Reader_15 B hr rfl d_Reader_isPut_83 ?_
              refine mv_iload B d_Reader_isPut_86 0 rfl ?_
              refine ca_Reader_26 (mc := 0) (ms := 0) (As := [.int (iI (((fo + (ap : Nat)) + 1) + (k : Nat)))]) (rest := []) B (m_Term_kindAt hT ho (i := ((fo + (ap : Nat)) + 1) + (k : Nat)) (by omega)) rfl rfl ⟨Nat.le_of_ble_eq_true rfl, Nat.le_of_ble_eq_true rfl⟩ hh rfl rfl (Nat.le_of_ble_eq_true rfl) d_Reader_isPut_88 ⟨by omega, by omega⟩ (mv_x ?_)
              show mv_G X Q (kk V) 6 91 [(5, .int (iI (((fo + (ap : Nat)) + 1) + (k : Nat)))), (4, .int (iI ((k : Nat)))), (3, .int (iI (fo + (ap : Nat)))), (0, .ref rd), (1, .ref g), (2, .int (iI (ou)))] [.int (iI (kAt t (((fo + (ap : Nat)) + 1) + (k : Nat))))] M 0 0
              refine mv_if_ne (tgt := 117) B d_Reader_isPut_91 (by decide) (by omega) (fun c5 => ?_) (fun c5 => ?_)
              · refine mv_iconst (z := 0) B d_Reader_isPut_117 rfl ?_
                rw [hQ]
                have pf := prmB_f (t := t) (p := fo + (ap : Nat) + 1) (v := ou + al - 1) (k := k) (prmB_n (by omega)) pa.toNat (by omega)
                exact mv_zret B rfl ⟨(by rw [if_neg (by unfold isPB; rw [pf]; simp)]), rfl⟩ (by omega) (by omega) d_Reader_isPut_118
              · refine mv_aloadR_n B d_Reader_isPut_94 rfl 3 rfl ?_
                refine gf_Reader_15 B hr rfl d_Reader_isPut_95 ?_
                refine mv_iload B d_Reader_isPut_98 0 rfl ?_
                refine ca_Reader_46 (mc := 0) (ms := 0) (As := [.int (iI (((fo + (ap : Nat)) + 1) + (k : Nat)))]) (rest := []) B (m_Term_numberAt hT ho (i := ((fo + (ap : Nat)) + 1) + (k : Nat)) (by omega)) rfl rfl ⟨Nat.le_of_ble_eq_true rfl, Nat.le_of_ble_eq_true rfl⟩ hh rfl rfl (Nat.le_of_ble_eq_true rfl) d_Reader_isPut_100 ⟨by omega, by omega⟩ (mv_x ?_)
                show mv_G X Q (kk V) 6 103 [(5, .int (iI (((fo + (ap : Nat)) + 1) + (k : Nat)))), (4, .int (iI ((k : Nat)))), (3, .int (iI (fo + (ap : Nat)))), (0, .ref rd), (1, .ref g), (2, .int (iI (ou)))] [.int (iI (uAt t (((fo + (ap : Nat)) + 1) + (k : Nat))))] M 0 0
                refine mv_iload_n B d_Reader_isPut_103 rfl 5 rfl ?_
                refine mv_aloadR_n B d_Reader_isPut_104 rfl 3 rfl ?_
                refine gf_Reader_19 B hr rfl d_Reader_isPut_105 ?_
                refine mv_iadd B d_Reader_isPut_108 ?_
                refine mv_iconst (z := 1) B d_Reader_isPut_109 rfl ?_
                refine mv_isub B d_Reader_isPut_110 ?_
                refine mv_iload B d_Reader_isPut_111 1 rfl ?_
                refine mv_isub B d_Reader_isPut_113 ?_
                refine mv_icmp_eq (tgt := 119) B d_Reader_isPut_114 (by decide) (by omega) (by omega) (fun c6 => ?_) (fun c6 => ?_)
                · refine mv_iinc (lv' := [(4, .int (iI ((k : Nat) + 1))), (5, .int (iI (((fo + (ap : Nat)) + 1) + (k : Nat)))), (3, .int (iI (fo + (ap : Nat)))), (0, .ref rd), (1, .ref g), (2, .int (iI (ou)))]) B d_Reader_isPut_119 1 rfl (by decide) rfl ?_
                  refine mv_goto (tgt := 65) B d_Reader_isPut_122 (by decide) ?_
                  refine mv_lv (lv' := [(4, .int (iI (((k + 1) : Nat)))), (3, .int (iI (fo + (ap : Nat)))), (0, .ref rd), (1, .ref g), (2, .int (iI (ou)))]) [0, 2, 3, 4, 5] (lc (lI (by first | rfl | omega)) (lc rfl (lc rfl (lc rfl (lc rfl rfl))))) ?_
                  exact ih65 (k + 1) (by omega) (prmB_s hp (by omega) (by omega)) (by omega)
                · refine mv_iconst (z := 0) B d_Reader_isPut_117 rfl ?_
                  rw [hQ]
                  have pf := prmB_f (t := t) (p := fo + (ap : Nat) + 1) (v := ou + al - 1) (k := k) (prmB_n (by omega)) pa.toNat (by omega)
                  exact mv_zret B rfl ⟨(by rw [if_neg (by unfold isPB; rw [pf]; simp)]), rfl⟩ (by omega) (by omega) d_Reader_isPut_118
        refine mv_lv (lv' := [(4, .int (iI ((0 : Nat)))), (3, .int (iI (fo + (ap : Nat)))), (0, .ref rd), (1, .ref g), (2, .int (iI (ou)))]) [0, 1, 2, 3, 4] (lc (lI (by first | rfl | omega)) (lc rfl (lc rfl (lc rfl (lc rfl rfl))))) ?_
        exact L65 _ 0 (by omega) rfl (Nat.lt_succ_self _)
      · refine mv_iconst (z := 0) B d_Reader_isPut_60 rfl ?_
        rw [hQ]
        exact mv_zret B rfl ⟨(by rw [if_neg (by unfold isPB; simp; omega)]), rfl⟩ (by omega) (by omega) d_Reader_isPut_61
set_option maxRecDepth 100000 in
set_option maxHeartbeats 4000000 in
theorem m_Reader_standing {l : Launch} {V : mv_V} {M : mv_M} {rd dep : Nat} {tm : Option Nat} {al fo ap : Int} (hr : M rd = some (dC dep tm al fo ap)) {h : Nat} {t : Tm} (hT : TermAt V M h t) (ho : Tok t) {g : Nat} {nu ro pa ix ra ar rc : Int} {fa co tl : Option Nat} (hg : M g = some (.inr (2, [.int (iI nu), .int (iI ro), .int (iI pa), .int (iI ix), .int (iI ra), va_rf fa, va_rf co, va_rf tl, .int (iI ar), .int (iI rc)]))) {r ou : Int} (rr : 0 ≤ r ∧ r ≤ 5000000) (rnu : Sm nu) (rpa : 0 ≤ pa ∧ pa ≤ 100000) (rix : 0 ≤ ix ∧ ix ≤ 100000) (rou : Sm ou) : Met l y_Reader_standing ws_Reader_standing (rM 3 0 0 70) (mv_Pre (kk V) [.ref rd, .ref g, .ref h, .int (iI (r)), .int (iI (ou))] M) (mv_Q (kk V) (mv_R (some (.int (iI (stdV t nu pa ix r ou)))) (if cntF t nu r (dAt t r).toNat = 0 then M else mv_up M rd (shC t r dep h)))) 0 0 V.2.2.2.2 := by
  refine mv_Met (by decide) rfl (Nat.le_of_ble_eq_true rfl) (fun X hX B => ?_)
  subst hX
  replace B : mv_B X (kk V) c_Reader_standing ws_Reader_standing "FamilyRules$Reader" 6 (Option.some Jvm.ClassFile.FieldType.int) (rM 3 0 0 70) "standing" := B
  obtain ⟨Q, hQ⟩ : ∃ Q, Q = mv_E X (kk V) (mv_R (some (.int (iI (stdV t nu pa ix r ou)))) (if cntF t nu r (dAt t r).toNat = 0 then M else mv_up M rd (shC t r dep h))) 0 0 := ⟨_, rfl⟩
  rw [← hQ]
  show mv_G X Q (kk V) 6 0 [(0, .ref rd), (1, .ref g), (2, .ref h), (3, .int (iI (r))), (4, .int (iI (ou)))] [] M 0 0
  obtain ⟨a0, a1, a2, a3, hh, h0, h1, h2, h3⟩ := id hT
  refine mv_aloadR_n B d_Reader_standing_0 rfl 2 rfl ?_
  refine mv_aloadR_n B d_Reader_standing_1 rfl 1 rfl ?_
  refine gf_Reader_49 B hg rfl d_Reader_standing_2 ?_
  refine mv_iload_n B d_Reader_standing_5 rfl 3 rfl ?_
  refine mv_iload_n B d_Reader_standing_6 rfl 3 rfl ?_
  refine mv_aloadR_n B d_Reader_standing_7 rfl 2 rfl ?_
  refine mv_iload_n B d_Reader_standing_8 rfl 3 rfl ?_
  refine ca_Reader_52 (mc := 0) (ms := 0) (As := [.int (iI (r))]) (rest := [.int (iI (r)), .int (iI (r)), .int (iI (nu)), .ref h]) B (m_Term_nodesAt hT ho (i := r) (by omega)) rfl rfl ⟨Nat.le_of_ble_eq_true rfl, Nat.le_of_ble_eq_true rfl⟩ hh rfl rfl (Nat.le_of_ble_eq_true rfl) d_Reader_standing_9 ⟨by omega, by omega⟩ (mv_x ?_)
  show mv_G X Q (kk V) 6 12 [(0, .ref rd), (1, .ref g), (2, .ref h), (3, .int (iI (r))), (4, .int (iI (ou)))] [.int (iI (dAt t (r))), .int (iI (r)), .int (iI (r)), .int (iI (nu)), .ref h] M 0 0
  have hd1 := dAt_r ho r
  refine mv_iadd B d_Reader_standing_12 ?_
  refine ca_Reader_55 (mc := 0) (ms := 0) (As := [.int (iI (nu)), .int (iI (r)), .int (iI (r + (dAt t (r))))]) (rest := []) B (m_Term_countFamily hT ho rnu (by omega) (by omega)) rfl rfl ⟨Nat.le_of_ble_eq_true rfl, Nat.le_of_ble_eq_true rfl⟩ hh rfl rfl (Nat.le_of_ble_eq_true rfl) d_Reader_standing_13 ⟨by omega, by omega⟩ (mv_x ?_)
  show mv_G X Q (kk V) 6 16 [(0, .ref rd), (1, .ref g), (2, .ref h), (3, .int (iI (r))), (4, .int (iI (ou)))] [.int (iI (cntF t nu r (r + dAt t r - r).toNat))] M 0 0
  rw [show (r + dAt t r - r).toNat = (dAt t r).toNat by congr 1; omega]
  refine mv_istore (lv' := [(5, .int (iI (cntF t nu r (dAt t r).toNat))), (0, .ref rd), (1, .ref g), (2, .ref h), (3, .int (iI (r))), (4, .int (iI (ou)))]) B d_Reader_standing_16 (by decide) rfl ?_
  have hc1 := cntF_r t nu r (dAt t r).toNat
  refine mv_iload B d_Reader_standing_18 0 rfl ?_
  refine mv_if_ne (tgt := 25) B d_Reader_standing_20 (by decide) (by omega) (fun c1 => ?_) (fun c1 => ?_)
  · refine mv_aloadR_n B d_Reader_standing_25 rfl 1 rfl ?_
    refine mv_aloadR_n B d_Reader_standing_26 rfl 3 rfl ?_
    refine mv_iload_n B d_Reader_standing_27 rfl 4 rfl ?_
    refine ca_Reader_59 (mc := 0) (ms := 0) (As := [.ref h, .int (iI (r))]) (rest := []) B (m_Reader_readShape hr hT ho rr) rfl rfl ⟨Nat.le_of_ble_eq_true rfl, Nat.le_of_ble_eq_true rfl⟩ hr rfl rfl (Nat.le_of_ble_eq_true rfl) d_Reader_standing_28 ⟨by omega, by omega⟩ (mv_x ?_)
    show mv_G X Q (kk V) 6 31 [(5, .int (iI (cntF t nu r (dAt t r).toNat))), (0, .ref rd), (1, .ref g), (2, .ref h), (3, .int (iI (r))), (4, .int (iI (ou)))] [] (mv_up M rd (shC t r dep h)) 0 0
    have e1 : (mv_up M rd (shC t r dep h)) rd = some (shC t r dep h) := mv_us
    have e2 := TermAt_kept hT rd (shC t r dep h) hr (by simp) rfl
    have e3 : (mv_up M rd (shC t r dep h)) g = some (.inr (2, [.int (iI (nu)), .int (iI (ro)), .int (iI (pa)), .int (iI (ix)), .int (iI (ra)), va_rf (fa), va_rf (co), va_rf (tl), .int (iI (ar)), .int (iI (rc))])) := by rw [mv_un (mv_ne hg hr (by simp))]; exact hg
    have e4 := beR_r ho r (allN t 1000 r)
    have e5 := allN_le (t := t) 1000 r
    have e6 := appN_le (t := t) 1000 (beR t r (allN t 1000 r))
    refine mv_iload B d_Reader_standing_31 0 rfl ?_
    refine mv_iconst (z := 1) B d_Reader_standing_33 rfl ?_
    refine mv_icmp_ne (tgt := 51) B d_Reader_standing_34 (by decide) (by omega) (by omega) (fun c2 => ?_) (fun c2 => ?_)
    · refine mv_iconst (z := 0) B d_Reader_standing_51 rfl ?_
      rw [hQ]
      exact mv_iret B ⟨(by unfold stdV; first | rw [if_pos (by omega)] | (rw [if_neg (by omega), if_pos ⟨by omega, by assumption⟩]) | (rw [if_neg (by omega), if_neg (by intro q; omega)]) | (rw [if_neg (by omega), if_neg (by intro q; exact absurd q.2 (by assumption))])), by first | rw [if_pos (by omega)] | rw [if_neg (by omega)]⟩ (by omega) (by omega) d_Reader_standing_52
    · refine mv_aloadR_n B d_Reader_standing_37 rfl 1 rfl ?_
      refine mv_aloadR_n B d_Reader_standing_38 rfl 2 rfl ?_
      refine mv_iload B d_Reader_standing_39 5 rfl ?_
      refine ca_Reader_63 (mc := 0) (ms := 0) (As := [.ref g, .int (iI (ou))]) (rest := []) B (m_Reader_isPut e1 e2 ho e3 (by omega) (by omega) rnu rpa rix rou (by omega)) rfl rfl ⟨Nat.le_of_ble_eq_true rfl, Nat.le_of_ble_eq_true rfl⟩ e1 rfl rfl (Nat.le_of_ble_eq_true rfl) d_Reader_standing_41 ⟨by omega, by omega⟩ (mv_x ?_)
      show mv_G X Q (kk V) 6 44 [(5, .int (iI (cntF t nu r (dAt t r).toNat))), (0, .ref rd), (1, .ref g), (2, .ref h), (3, .int (iI (r))), (4, .int (iI (ou)))] [.int (iI (if isPB t nu pa ix (beR t r (allN t 1000 r)) (appN t 1000 (beR t r (allN t 1000 r))) (ou + (allN t 1000 r : Nat) - 1) = true then 1 else 0))] (mv_up M rd (shC t r dep h)) 0 0
      refine mv_if_eq (tgt := 51) B d_Reader_standing_44 (by decide) (by omega) (fun c3 => ?_) (fun c3 => ?_)
      · have hp : ¬ isPB t nu pa ix (beR t r (allN t 1000 r)) (appN t 1000 (beR t r (allN t 1000 r))) (ou + (allN t 1000 r : Nat) - 1) = true := by
          intro q
          rw [if_pos q] at c3
          omega
        refine mv_iconst (z := 0) B d_Reader_standing_51 rfl ?_
        rw [hQ]
        exact mv_iret B ⟨(by unfold stdV; first | rw [if_pos (by omega)] | (rw [if_neg (by omega), if_pos ⟨by omega, by assumption⟩]) | (rw [if_neg (by omega), if_neg (by intro q; omega)]) | (rw [if_neg (by omega), if_neg (by intro q; exact absurd q.2 (by assumption))])), by first | rw [if_pos (by omega)] | rw [if_neg (by omega)]⟩ (by omega) (by omega) d_Reader_standing_52
      · have hp : isPB t nu pa ix (beR t r (allN t 1000 r)) (appN t 1000 (beR t r (allN t 1000 r))) (ou + (allN t 1000 r : Nat) - 1) = true := by
          apply Classical.byContradiction
          intro q
          rw [if_neg q] at c3
          omega
        refine mv_iconst (z := 2) B d_Reader_standing_47 rfl ?_
        refine mv_goto (tgt := 52) B d_Reader_standing_48 (by decide) ?_
        rw [hQ]
        exact mv_iret B ⟨(by unfold stdV; first | rw [if_pos (by omega)] | (rw [if_neg (by omega), if_pos ⟨by omega, by assumption⟩]) | (rw [if_neg (by omega), if_neg (by intro q; omega)]) | (rw [if_neg (by omega), if_neg (by intro q; exact absurd q.2 (by assumption))])), by first | rw [if_pos (by omega)] | rw [if_neg (by omega)]⟩ (by omega) (by omega) d_Reader_standing_52
  · refine mv_iconst (z := 1) B d_Reader_standing_23 rfl ?_
    rw [hQ]
    exact mv_iret B ⟨(by unfold stdV; first | rw [if_pos (by omega)] | (rw [if_neg (by omega), if_pos ⟨by omega, by assumption⟩]) | (rw [if_neg (by omega), if_neg (by intro q; omega)]) | (rw [if_neg (by omega), if_neg (by intro q; exact absurd q.2 (by assumption))])), by first | rw [if_pos (by omega)] | rw [if_neg (by omega)]⟩ (by omega) (by omega) d_Reader_standing_24
set_option maxRecDepth 100000 in
set_option maxHeartbeats 4000000 in
theorem m_Reader_readDepths {l : Launch} {V : mv_V} {M : mv_M} {rd dep : Nat} {tm : Option Nat} {al fo ap : Int} (hr : M rd = some (dC dep tm al fo ap)) {δ : Nat → Int} (hd : M dep = some (iA V 1000 δ)) {h : Nat} {t : Tm} (hT : TermAt V M h t) (ho : Tok t) (hD : ∀ a0 a1 a2 a3, M h = some (.inr (0, [.ref a0, .ref a1, .ref a2, .ref a3])) → a0 ≠ dep ∧ a1 ≠ dep ∧ a2 ≠ dep ∧ a3 ≠ dep) : Met l y_Reader_readDepths ws_Reader_readDepths (rM 2 0 0 45) (mv_Pre (kk V) [.ref rd, .ref h] M) (mv_Q (kk V) (mv_R none (mv_up M dep (iA V 1000 (dpW t δ t.1))))) 0 0 V.2.2.2.2 := by
  refine mv_Met (by decide) rfl (Nat.le_of_ble_eq_true rfl) (fun X hX B => ?_)
  subst hX
  replace B : mv_B X (kk V) c_Reader_readDepths ws_Reader_readDepths "FamilyRules$Reader" 5 (Option.none : Option Jvm.ClassFile.FieldType) (rM 2 0 0 45) "readDepths" := B
  obtain ⟨Q, hQ⟩ : ∃ Q, Q = mv_E X (kk V) (mv_R none (mv_up M dep (iA V 1000 (dpW t δ t.1)))) 0 0 := ⟨_, rfl⟩
  rw [← hQ]
  show mv_G X Q (kk V) 5 0 [(0, .ref rd), (1, .ref h)] [] M 0 0
  obtain ⟨a0, a1, a2, a3, hh, h0, h1, h2, h3⟩ := id hT
  have hn1 := ho.2.1
  refine mv_aloadR_n B d_Reader_readDepths_0 rfl 0 rfl ?_
  refine mv_iconst (z := 0) B d_Reader_readDepths_1 rfl ?_
  refine mv_iconst (z := 0) B d_Reader_readDepths_2 rfl ?_
  refine ca_Reader_67 (mc := 0) (ms := 0) (As := [.int (iI (0)), .int (iI (0))]) (rest := []) B (m_Reader_setDepth hr hd (by omega)) rfl rfl ⟨Nat.le_of_ble_eq_true rfl, Nat.le_of_ble_eq_true rfl⟩ hr rfl rfl (Nat.le_of_ble_eq_true rfl) d_Reader_readDepths_3 ⟨by omega, by omega⟩ (mv_x ?_)
  show mv_G X Q (kk V) 5 6 [(0, .ref rd), (1, .ref h)] [] (mv_up M dep (iA V 1000 (dset δ (0) (0)))) 0 0
  have z12 : (mv_up M dep (iA V 1000 (dset δ (0) (0)))) dep = some (iA V 1000 (dset δ (0) (0))) := mv_us
  have z11 : (mv_up M dep (iA V 1000 (dset δ (0) (0)))) rd = some (dC dep tm al fo ap) := by rw [mv_un (mv_ne hr hd (by simp))]; exact hr
  have z1T := TermAt_dep hT hd hD (dset δ (0) (0))
  obtain ⟨z1b0, z1b1, z1b2, z1b3, z1h, -⟩ := id z1T
  refine mv_iconst (z := 0) B d_Reader_readDepths_6 rfl ?_
  refine mv_istore_n (lv' := [(2, .int (iI (0))), (0, .ref rd), (1, .ref h)]) B d_Reader_readDepths_7 rfl (by decide) rfl ?_
  have L8 : ∀ (fu : Nat) (i : Nat), (i ≤ t.1) → (t.1 - i) < fu → mv_G X Q (kk V) 5 8 [(2, .int (iI ((i : Nat)))), (0, .ref rd), (1, .ref h)] [] (mv_up M dep (iA V 1000 (dpW t δ i))) 0 0 := by
    intro fu
    induction fu with
    | zero => intro i hi hm; exact absurd hm (Nat.not_lt_zero _)
    | succ fu ih8 =>
      intro i hi hm
      have f2 : (mv_up M dep (iA V 1000 (dpW t δ i))) dep = some (iA V 1000 (dpW t δ i)) := mv_us
      have f1 : (mv_up M dep (iA V 1000 (dpW t δ i))) rd = some (dC dep tm al fo ap) := by rw [mv_un (mv_ne hr hd (by simp))]; exact hr
      have hT1 := TermAt_dep hT hd hD (dpW t δ i)
      obtain ⟨b0, b1, b2, b3, bh, -⟩ := id hT1
      have hk1 := kAt_r ho (i : Nat)
      have hs1 := scd_r ho (i : Nat)
      refine mv_iload_n B d_Reader_readDepths_8 rfl 0 rfl ?_
      refine mv_aloadR_n B d_Reader_readDepths_9 rfl 2 rfl ?_
      refine ca_Reader_71 (mc := 0) (ms := 0) (As := []) (rest := [.int (iI ((i : Nat)))]) B (m_Term_length hT1 ho) rfl rfl ⟨Nat.le_of_ble_eq_true rfl, Nat.le_of_ble_eq_true rfl⟩ bh rfl rfl (Nat.le_of_ble_eq_true rfl) d_Reader_readDepths_10 ⟨by omega, by omega⟩ (mv_x ?_)
      show mv_G X Q (kk V) 5 13 [(2, .int (iI ((i : Nat)))), (0, .ref rd), (1, .ref h)] [.int (iI ((t.1 : Nat))), .int (iI ((i : Nat)))] (mv_up M dep (iA V 1000 (dpW t δ i))) 0 0
      refine mv_icmp_ge (tgt := 72) B d_Reader_readDepths_13 (by decide) (by omega) (by omega) (fun c2 => ?_) (fun c2 => ?_)
      · rw [hQ]
        exact mv_vret B ⟨rfl, (by rw [show i = t.1 by omega])⟩ (by omega) (by omega) d_Reader_readDepths_72
      · refine mv_aloadR_n B d_Reader_readDepths_16 rfl 2 rfl ?_
        refine mv_iload_n B d_Reader_readDepths_17 rfl 0 rfl ?_
        refine ca_Reader_26 (mc := 0) (ms := 0) (As := [.int (iI ((i : Nat)))]) (rest := []) B (m_Term_kindAt hT1 ho (i := (i : Nat)) (by omega)) rfl rfl ⟨Nat.le_of_ble_eq_true rfl, Nat.le_of_ble_eq_true rfl⟩ bh rfl rfl (Nat.le_of_ble_eq_true rfl) d_Reader_readDepths_18 ⟨by omega, by omega⟩ (mv_x ?_)
        show mv_G X Q (kk V) 5 21 [(2, .int (iI ((i : Nat)))), (0, .ref rd), (1, .ref h)] [.int (iI (kAt t ((i : Nat))))] (mv_up M dep (iA V 1000 (dpW t δ i))) 0 0
        refine mv_istore_n (lv' := [(3, .int (iI (kAt t ((i : Nat))))), (2, .int (iI ((i : Nat)))), (0, .ref rd), (1, .ref h)]) B d_Reader_readDepths_21 rfl (by decide) rfl ?_
        refine mv_iload_n B d_Reader_readDepths_22 rfl 0 rfl ?_
        refine mv_iconst (z := 4) B d_Reader_readDepths_23 rfl ?_
        refine mv_icmp_lt (tgt := 66) B d_Reader_readDepths_24 (by decide) (by omega) (by omega) (fun c3 => ?_) (fun c3 => ?_)
        · refine mv_iinc (lv' := [(2, .int (iI ((i : Nat) + 1))), (3, .int (iI (kAt t ((i : Nat))))), (0, .ref rd), (1, .ref h)]) B d_Reader_readDepths_66 1 rfl (by decide) rfl ?_
          refine mv_goto (tgt := 8) B d_Reader_readDepths_69 (by decide) ?_
          refine mv_lv (lv' := [(2, .int (iI (((i + 1) : Nat)))), (0, .ref rd), (1, .ref h)]) [0, 2, 3] (lc (lI (by first | rfl | omega)) (lc rfl (lc rfl rfl))) ?_
          rw [show (mv_up M dep (iA V 1000 (dpW t δ i))) = mv_up M dep (iA V 1000 (dpW t δ (i + 1))) from (by simp only [dpW]; rw [if_neg (by omega)])]
          exact ih8 (i + 1) (by omega) (by omega)
        · refine mv_aloadR_n B d_Reader_readDepths_27 rfl 2 rfl ?_
          refine mv_iload_n B d_Reader_readDepths_28 rfl 1 rfl ?_
          refine ca_Reader_75 (mc := 0) (ms := 0) (As := [.int (iI ((i : Nat)))]) (rest := []) B (m_Reader_depthAt f1 f2 (i := (i : Nat)) (by omega)) rfl rfl ⟨Nat.le_of_ble_eq_true rfl, Nat.le_of_ble_eq_true rfl⟩ f1 rfl rfl (Nat.le_of_ble_eq_true rfl) d_Reader_readDepths_29 ⟨by omega, by omega⟩ (mv_x ?_)
          show mv_G X Q (kk V) 5 32 [(3, .int (iI (kAt t ((i : Nat))))), (2, .int (iI ((i : Nat)))), (0, .ref rd), (1, .ref h)] [.int (iI (dgt (dpW t δ i) ((i : Nat))))] (mv_up M dep (iA V 1000 (dpW t δ i))) 0 0
          refine mv_istore (lv' := [(4, .int (iI (dgt (dpW t δ i) ((i : Nat))))), (3, .int (iI (kAt t ((i : Nat))))), (2, .int (iI ((i : Nat)))), (0, .ref rd), (1, .ref h)]) B d_Reader_readDepths_32 (by decide) rfl ?_
          refine mv_aloadR_n B d_Reader_readDepths_34 rfl 3 rfl ?_
          refine mv_iload_n B d_Reader_readDepths_35 rfl 2 rfl ?_
          refine mv_iconst (z := 1) B d_Reader_readDepths_36 rfl ?_
          refine mv_iadd B d_Reader_readDepths_37 ?_
          refine mv_iload B d_Reader_readDepths_38 0 rfl ?_
          refine ca_Reader_67 (mc := 0) (ms := 0) (As := [.int (iI ((i : Nat) + 1)), .int (iI (dgt (dpW t δ i) ((i : Nat))))]) (rest := []) B (m_Reader_setDepth f1 f2 (by omega)) rfl rfl ⟨Nat.le_of_ble_eq_true rfl, Nat.le_of_ble_eq_true rfl⟩ f1 rfl rfl (Nat.le_of_ble_eq_true rfl) d_Reader_readDepths_40 ⟨by omega, by omega⟩ (mv_x ?_)
          rw [mv_uu]
          show mv_G X Q (kk V) 5 43 [(4, .int (iI (dgt (dpW t δ i) ((i : Nat))))), (3, .int (iI (kAt t ((i : Nat))))), (2, .int (iI ((i : Nat)))), (0, .ref rd), (1, .ref h)] [] (mv_up M dep (iA V 1000 (dset (dpW t δ i) ((i : Nat) + 1) (dgt (dpW t δ i) ((i : Nat)))))) 0 0
          have z42 : (mv_up M dep (iA V 1000 (dset (dpW t δ i) ((i : Nat) + 1) (dgt (dpW t δ i) ((i : Nat)))))) dep = some (iA V 1000 (dset (dpW t δ i) ((i : Nat) + 1) (dgt (dpW t δ i) ((i : Nat))))) := mv_us
          have z41 : (mv_up M dep (iA V 1000 (dset (dpW t δ i) ((i : Nat) + 1) (dgt (dpW t δ i) ((i : Nat)))))) rd = some (dC dep tm al fo ap) := by rw [mv_un (mv_ne hr hd (by simp))]; exact hr
          have z4T := TermAt_dep hT hd hD (dset (dpW t δ i) ((i : Nat) + 1) (dgt (dpW t δ i) ((i : Nat))))
          obtain ⟨z4b0, z4b1, z4b2, z4b3, z4h, -⟩ := id z4T
          refine mv_aloadR_n B d_Reader_readDepths_43 rfl 3 rfl ?_
          refine mv_aloadR_n B d_Reader_readDepths_44 rfl 4 rfl ?_
          refine mv_iload_n B d_Reader_readDepths_45 rfl 2 rfl ?_
          refine ca_Reader_32 (mc := 0) (ms := 0) (As := [.int (iI ((i : Nat)))]) (rest := [.ref rd]) B (m_Term_secondOf z4T ho (i := (i : Nat)) (by omega)) rfl rfl ⟨Nat.le_of_ble_eq_true rfl, Nat.le_of_ble_eq_true rfl⟩ z4h rfl rfl (Nat.le_of_ble_eq_true rfl) d_Reader_readDepths_46 ⟨by omega, by omega⟩ (mv_x ?_)
          show mv_G X Q (kk V) 5 49 [(4, .int (iI (dgt (dpW t δ i) ((i : Nat))))), (3, .int (iI (kAt t ((i : Nat))))), (2, .int (iI ((i : Nat)))), (0, .ref rd), (1, .ref h)] [.int (iI (scd t ((i : Nat)))), .ref rd] (mv_up M dep (iA V 1000 (dset (dpW t δ i) ((i : Nat) + 1) (dgt (dpW t δ i) ((i : Nat)))))) 0 0
          refine mv_iload_n B d_Reader_readDepths_49 rfl 1 rfl ?_
          refine mv_iconst (z := 4) B d_Reader_readDepths_50 rfl ?_
          refine mv_icmp_ne (tgt := 59) B d_Reader_readDepths_51 (by decide) (by omega) (by omega) (fun c5 => ?_) (fun c5 => ?_)
          · refine mv_iload B d_Reader_readDepths_59 0 rfl ?_
            refine mv_iconst (z := 1) B d_Reader_readDepths_61 rfl ?_
            refine mv_iadd B d_Reader_readDepths_62 ?_
            refine ca_Reader_67 (mc := 0) (ms := 0) (As := [.int (iI (scd t ((i : Nat)))), .int (iI ((dgt (dpW t δ i) ((i : Nat))) + 1))]) (rest := []) B (m_Reader_setDepth z41 z42 (by omega)) rfl rfl ⟨Nat.le_of_ble_eq_true rfl, Nat.le_of_ble_eq_true rfl⟩ z41 rfl rfl (Nat.le_of_ble_eq_true rfl) d_Reader_readDepths_63 ⟨by omega, by omega⟩ (mv_x ?_)
            rw [mv_uu]
            show mv_G X Q (kk V) 5 66 [(4, .int (iI (dgt (dpW t δ i) ((i : Nat))))), (3, .int (iI (kAt t ((i : Nat))))), (2, .int (iI ((i : Nat)))), (0, .ref rd), (1, .ref h)] [] (mv_up M dep (iA V 1000 (dset (dset (dpW t δ i) ((i : Nat) + 1) (dgt (dpW t δ i) ((i : Nat)))) (scd t ((i : Nat))) ((dgt (dpW t δ i) ((i : Nat))) + 1)))) 0 0
            have z62 : (mv_up M dep (iA V 1000 (dset (dset (dpW t δ i) ((i : Nat) + 1) (dgt (dpW t δ i) ((i : Nat)))) (scd t ((i : Nat))) ((dgt (dpW t δ i) ((i : Nat))) + 1)))) dep = some (iA V 1000 (dset (dset (dpW t δ i) ((i : Nat) + 1) (dgt (dpW t δ i) ((i : Nat)))) (scd t ((i : Nat))) ((dgt (dpW t δ i) ((i : Nat))) + 1))) := mv_us
            have z61 : (mv_up M dep (iA V 1000 (dset (dset (dpW t δ i) ((i : Nat) + 1) (dgt (dpW t δ i) ((i : Nat)))) (scd t ((i : Nat))) ((dgt (dpW t δ i) ((i : Nat))) + 1)))) rd = some (dC dep tm al fo ap) := by rw [mv_un (mv_ne hr hd (by simp))]; exact hr
            have z6T := TermAt_dep hT hd hD (dset (dset (dpW t δ i) ((i : Nat) + 1) (dgt (dpW t δ i) ((i : Nat)))) (scd t ((i : Nat))) ((dgt (dpW t δ i) ((i : Nat))) + 1))
            obtain ⟨z6b0, z6b1, z6b2, z6b3, z6h, -⟩ := id z6T
            refine mv_iinc (lv' := [(2, .int (iI ((i : Nat) + 1))), (4, .int (iI (dgt (dpW t δ i) ((i : Nat))))), (3, .int (iI (kAt t ((i : Nat))))), (0, .ref rd), (1, .ref h)]) B d_Reader_readDepths_66 2 rfl (by decide) rfl ?_
            refine mv_goto (tgt := 8) B d_Reader_readDepths_69 (by decide) ?_
            refine mv_lv (lv' := [(2, .int (iI (((i + 1) : Nat)))), (0, .ref rd), (1, .ref h)]) [0, 3, 4] (lc (lI (by first | rfl | omega)) (lc rfl (lc rfl rfl))) ?_
            rw [show (mv_up M dep (iA V 1000 (dset (dset (dpW t δ i) ((i : Nat) + 1) (dgt (dpW t δ i) ((i : Nat)))) (scd t ((i : Nat))) ((dgt (dpW t δ i) ((i : Nat))) + 1)))) = mv_up M dep (iA V 1000 (dpW t δ (i + 1))) from (by simp only [dpW]; rw [if_pos (by omega)]; first | rw [if_pos (by omega)] | rw [if_neg (by omega)])]
            exact ih8 (i + 1) (by omega) (by omega)
          · refine mv_iload B d_Reader_readDepths_54 0 rfl ?_
            refine mv_goto (tgt := 63) B d_Reader_readDepths_56 (by decide) ?_
            refine ca_Reader_67 (mc := 0) (ms := 0) (As := [.int (iI (scd t ((i : Nat)))), .int (iI (dgt (dpW t δ i) ((i : Nat))))]) (rest := []) B (m_Reader_setDepth z41 z42 (by omega)) rfl rfl ⟨Nat.le_of_ble_eq_true rfl, Nat.le_of_ble_eq_true rfl⟩ z41 rfl rfl (Nat.le_of_ble_eq_true rfl) d_Reader_readDepths_63 ⟨by omega, by omega⟩ (mv_x ?_)
            rw [mv_uu]
            show mv_G X Q (kk V) 5 66 [(4, .int (iI (dgt (dpW t δ i) ((i : Nat))))), (3, .int (iI (kAt t ((i : Nat))))), (2, .int (iI ((i : Nat)))), (0, .ref rd), (1, .ref h)] [] (mv_up M dep (iA V 1000 (dset (dset (dpW t δ i) ((i : Nat) + 1) (dgt (dpW t δ i) ((i : Nat)))) (scd t ((i : Nat))) (dgt (dpW t δ i) ((i : Nat)))))) 0 0
            have z72 : (mv_up M dep (iA V 1000 (dset (dset (dpW t δ i) ((i : Nat) + 1) (dgt (dpW t δ i) ((i : Nat)))) (scd t ((i : Nat))) (dgt (dpW t δ i) ((i : Nat)))))) dep = some (iA V 1000 (dset (dset (dpW t δ i) ((i : Nat) + 1) (dgt (dpW t δ i) ((i : Nat)))) (scd t ((i : Nat))) (dgt (dpW t δ i) ((i : Nat))))) := mv_us
            have z71 : (mv_up M dep (iA V 1000 (dset (dset (dpW t δ i) ((i : Nat) + 1) (dgt (dpW t δ i) ((i : Nat)))) (scd t ((i : Nat))) (dgt (dpW t δ i) ((i : Nat)))))) rd = some (dC dep tm al fo ap) := by rw [mv_un (mv_ne hr hd (by simp))]; exact hr
            have z7T := TermAt_dep hT hd hD (dset (dset (dpW t δ i) ((i : Nat) + 1) (dgt (dpW t δ i) ((i : Nat)))) (scd t ((i : Nat))) (dgt (dpW t δ i) ((i : Nat))))
            obtain ⟨z7b0, z7b1, z7b2, z7b3, z7h, -⟩ := id z7T
            refine mv_iinc (lv' := [(2, .int (iI ((i : Nat) + 1))), (4, .int (iI (dgt (dpW t δ i) ((i : Nat))))), (3, .int (iI (kAt t ((i : Nat))))), (0, .ref rd), (1, .ref h)]) B d_Reader_readDepths_66 2 rfl (by decide) rfl ?_
            refine mv_goto (tgt := 8) B d_Reader_readDepths_69 (by decide) ?_
            refine mv_lv (lv' := [(2, .int (iI (((i + 1) : Nat)))), (0, .ref rd), (1, .ref h)]) [0, 3, 4] (lc (lI (by first | rfl | omega)) (lc rfl (lc rfl rfl))) ?_
            rw [show (mv_up M dep (iA V 1000 (dset (dset (dpW t δ i) ((i : Nat) + 1) (dgt (dpW t δ i) ((i : Nat)))) (scd t ((i : Nat))) (dgt (dpW t δ i) ((i : Nat)))))) = mv_up M dep (iA V 1000 (dpW t δ (i + 1))) from (by simp only [dpW]; rw [if_pos (by omega)]; first | rw [if_pos (by omega)] | rw [if_neg (by omega)])]
            exact ih8 (i + 1) (by omega) (by omega)
  refine mv_lv (lv' := [(2, .int (iI ((0 : Nat)))), (0, .ref rd), (1, .ref h)]) [0, 1, 2] (lc (lI (by first | rfl | omega)) (lc rfl (lc rfl rfl))) ?_
  rw [show (mv_up M dep (iA V 1000 (dset δ (0) (0)))) = mv_up M dep (iA V 1000 (dpW t δ 0)) from (by simp only [dpW])]
  exact L8 _ 0 (by omega) (Nat.lt_succ_self _)
set_option maxRecDepth 100000 in
set_option maxHeartbeats 4000000 in
theorem m_Reader_isClosed {l : Launch} {V : mv_V} {M : mv_M} {rd dep : Nat} {tm : Option Nat} {al fo ap : Int} (hr : M rd = some (dC dep tm al fo ap)) {δ : Nat → Int} (hd : M dep = some (iA V 1000 δ)) {h : Nat} {t : Tm} (hT : TermAt V M h t) (ho : Tok t) (hD : ∀ a0 a1 a2 a3, M h = some (.inr (0, [.ref a0, .ref a1, .ref a2, .ref a3])) → a0 ≠ dep ∧ a1 ≠ dep ∧ a2 ≠ dep ∧ a3 ≠ dep) (hb : ∀ i : Int, R32 (dgt (dpW t δ t.1) i)) : Met l y_Reader_isClosed ws_Reader_isClosed (rM 3 0 0 70) (mv_Pre (kk V) [.ref rd, .ref h] M) (mv_Q (kk V) (mv_R (some (.int (iI (if clB t (dpW t δ t.1) t.1 = true then 1 else 0)))) (mv_up M dep (iA V 1000 (dpW t δ t.1))))) 0 0 V.2.2.2.2 := by
  refine mv_Met (by decide) rfl (Nat.le_of_ble_eq_true rfl) (fun X hX B => ?_)
  subst hX
  replace B : mv_B X (kk V) c_Reader_isClosed ws_Reader_isClosed "FamilyRules$Reader" 3 (Option.some Jvm.ClassFile.FieldType.boolean) (rM 3 0 0 70) "isClosed" := B
  obtain ⟨Q, hQ⟩ : ∃ Q, Q = mv_E X (kk V) (mv_R (some (.int (iI (if clB t (dpW t δ t.1) t.1 = true then 1 else 0)))) (mv_up M dep (iA V 1000 (dpW t δ t.1)))) 0 0 := ⟨_, rfl⟩
  rw [← hQ]
  show mv_G X Q (kk V) 3 0 [(0, .ref rd), (1, .ref h)] [] M 0 0
  obtain ⟨a0, a1, a2, a3, hh, h0, h1, h2, h3⟩ := id hT
  have hn1 := ho.2.1
  refine mv_aloadR_n B d_Reader_isClosed_0 rfl 0 rfl ?_
  refine mv_aloadR_n B d_Reader_isClosed_1 rfl 1 rfl ?_
  refine ca_Reader_78 (mc := 0) (ms := 0) (As := [.ref h]) (rest := []) B (m_Reader_readDepths hr hd hT ho hD) rfl rfl ⟨Nat.le_of_ble_eq_true rfl, Nat.le_of_ble_eq_true rfl⟩ hr rfl rfl (Nat.le_of_ble_eq_true rfl) d_Reader_isClosed_2 ⟨by omega, by omega⟩ (mv_x ?_)
  show mv_G X Q (kk V) 3 5 [(0, .ref rd), (1, .ref h)] [] (mv_up M dep (iA V 1000 (dpW t δ t.1))) 0 0
  have f2 : (mv_up M dep (iA V 1000 (dpW t δ t.1))) dep = some (iA V 1000 (dpW t δ t.1)) := mv_us
  have f1 : (mv_up M dep (iA V 1000 (dpW t δ t.1))) rd = some (dC dep tm al fo ap) := by rw [mv_un (mv_ne hr hd (by simp))]; exact hr
  have hT1 := TermAt_dep hT hd hD (dpW t δ t.1)
  obtain ⟨b0, b1, b2, b3, bh, -⟩ := id hT1
  refine mv_iconst (z := 0) B d_Reader_isClosed_5 rfl ?_
  refine mv_istore_n (lv' := [(2, .int (iI (0))), (0, .ref rd), (1, .ref h)]) B d_Reader_isClosed_6 rfl (by decide) rfl ?_
  have L7 : ∀ (fu : Nat) (i : Nat), (i ≤ t.1) → (clB t (dpW t δ t.1) i = true) → (t.1 - i) < fu → mv_G X Q (kk V) 3 7 [(2, .int (iI ((i : Nat)))), (0, .ref rd), (1, .ref h)] [] (mv_up M dep (iA V 1000 (dpW t δ t.1))) 0 0 := by
    intro fu
    induction fu with
    | zero => intro i hi hc hm; exact absurd hm (Nat.not_lt_zero _)
    | succ fu ih7 =>
      intro i hi hc hm
      have hk1 := kAt_r ho (i : Nat)
      have hu1 := uAt_r ho (i : Nat)
      have hg1 := hb (i : Nat)
      refine mv_iload_n B d_Reader_isClosed_7 rfl 0 rfl ?_
      refine mv_aloadR_n B d_Reader_isClosed_8 rfl 2 rfl ?_
      refine ca_Reader_71 (mc := 0) (ms := 0) (As := []) (rest := [.int (iI ((i : Nat)))]) B (m_Term_length hT1 ho) rfl rfl ⟨Nat.le_of_ble_eq_true rfl, Nat.le_of_ble_eq_true rfl⟩ bh rfl rfl (Nat.le_of_ble_eq_true rfl) d_Reader_isClosed_9 ⟨by omega, by omega⟩ (mv_x ?_)
      show mv_G X Q (kk V) 3 12 [(2, .int (iI ((i : Nat)))), (0, .ref rd), (1, .ref h)] [.int (iI ((t.1 : Nat))), .int (iI ((i : Nat)))] (mv_up M dep (iA V 1000 (dpW t δ t.1))) 0 0
      refine mv_icmp_ge (tgt := 44) B d_Reader_isClosed_12 (by decide) (by omega) (by omega) (fun c1 => ?_) (fun c1 => ?_)
      · refine mv_iconst (z := 1) B d_Reader_isClosed_44 rfl ?_
        rw [hQ]
        have ei : i = t.1 := by omega
        rw [ei] at hc
        exact mv_zret B rfl ⟨(by rw [if_pos hc]), rfl⟩ (by omega) (by omega) d_Reader_isClosed_45
      · refine mv_aloadR_n B d_Reader_isClosed_15 rfl 2 rfl ?_
        refine mv_iload_n B d_Reader_isClosed_16 rfl 0 rfl ?_
        refine ca_Reader_26 (mc := 0) (ms := 0) (As := [.int (iI ((i : Nat)))]) (rest := []) B (m_Term_kindAt hT1 ho (i := (i : Nat)) (by omega)) rfl rfl ⟨Nat.le_of_ble_eq_true rfl, Nat.le_of_ble_eq_true rfl⟩ bh rfl rfl (Nat.le_of_ble_eq_true rfl) d_Reader_isClosed_17 ⟨by omega, by omega⟩ (mv_x ?_)
        show mv_G X Q (kk V) 3 20 [(2, .int (iI ((i : Nat)))), (0, .ref rd), (1, .ref h)] [.int (iI (kAt t ((i : Nat))))] (mv_up M dep (iA V 1000 (dpW t δ t.1))) 0 0
        refine mv_if_ne (tgt := 38) B d_Reader_isClosed_20 (by decide) (by omega) (fun c2 => ?_) (fun c2 => ?_)
        · refine mv_iinc (lv' := [(2, .int (iI ((i : Nat) + 1))), (0, .ref rd), (1, .ref h)]) B d_Reader_isClosed_38 0 rfl (by decide) rfl ?_
          refine mv_goto (tgt := 7) B d_Reader_isClosed_41 (by decide) ?_
          refine mv_lv (lv' := [(2, .int (iI (((i + 1) : Nat)))), (0, .ref rd), (1, .ref h)]) [0, 1, 2] (lc (lI (by first | rfl | omega)) (lc rfl (lc rfl rfl))) ?_
          exact ih7 (i + 1) (by omega) (by simp only [clB]; rw [hc]; simp; omega) (by omega)
        · refine mv_aloadR_n B d_Reader_isClosed_23 rfl 2 rfl ?_
          refine mv_iload_n B d_Reader_isClosed_24 rfl 0 rfl ?_
          refine ca_Reader_46 (mc := 0) (ms := 0) (As := [.int (iI ((i : Nat)))]) (rest := []) B (m_Term_numberAt hT1 ho (i := (i : Nat)) (by omega)) rfl rfl ⟨Nat.le_of_ble_eq_true rfl, Nat.le_of_ble_eq_true rfl⟩ bh rfl rfl (Nat.le_of_ble_eq_true rfl) d_Reader_isClosed_25 ⟨by omega, by omega⟩ (mv_x ?_)
          show mv_G X Q (kk V) 3 28 [(2, .int (iI ((i : Nat)))), (0, .ref rd), (1, .ref h)] [.int (iI (uAt t ((i : Nat))))] (mv_up M dep (iA V 1000 (dpW t δ t.1))) 0 0
          refine mv_aloadR_n B d_Reader_isClosed_28 rfl 1 rfl ?_
          refine mv_iload_n B d_Reader_isClosed_29 rfl 0 rfl ?_
          refine ca_Reader_75 (mc := 0) (ms := 0) (As := [.int (iI ((i : Nat)))]) (rest := [.int (iI (uAt t ((i : Nat))))]) B (m_Reader_depthAt f1 f2 (i := (i : Nat)) (by omega)) rfl rfl ⟨Nat.le_of_ble_eq_true rfl, Nat.le_of_ble_eq_true rfl⟩ f1 rfl rfl (Nat.le_of_ble_eq_true rfl) d_Reader_isClosed_30 ⟨by omega, by omega⟩ (mv_x ?_)
          show mv_G X Q (kk V) 3 33 [(2, .int (iI ((i : Nat)))), (0, .ref rd), (1, .ref h)] [.int (iI (dgt (dpW t δ t.1) ((i : Nat)))), .int (iI (uAt t ((i : Nat))))] (mv_up M dep (iA V 1000 (dpW t δ t.1))) 0 0
          refine mv_icmp_lt (tgt := 38) B d_Reader_isClosed_33 (by decide) (by omega) (by omega) (fun c3 => ?_) (fun c3 => ?_)
          · refine mv_iinc (lv' := [(2, .int (iI ((i : Nat) + 1))), (0, .ref rd), (1, .ref h)]) B d_Reader_isClosed_38 0 rfl (by decide) rfl ?_
            refine mv_goto (tgt := 7) B d_Reader_isClosed_41 (by decide) ?_
            refine mv_lv (lv' := [(2, .int (iI (((i + 1) : Nat)))), (0, .ref rd), (1, .ref h)]) [0, 1, 2] (lc (lI (by first | rfl | omega)) (lc rfl (lc rfl rfl))) ?_
            exact ih7 (i + 1) (by omega) (by simp only [clB]; rw [hc]; simp; omega) (by omega)
          · refine mv_iconst (z := 0) B d_Reader_isClosed_36 rfl ?_
            rw [hQ]
            have hf : clB t (dpW t δ t.1) (i + 1) = false := by simp only [clB]; rw [hc]; simp; omega
            have hf := clB_f hf t.1 (by omega)
            exact mv_zret B rfl ⟨(by rw [if_neg (by rw [hf]; simp)]), rfl⟩ (by omega) (by omega) d_Reader_isClosed_37
  refine mv_lv (lv' := [(2, .int (iI ((0 : Nat)))), (0, .ref rd), (1, .ref h)]) [0, 1, 2] (lc (lI (by first | rfl | omega)) (lc rfl (lc rfl rfl))) ?_
  exact L7 _ 0 (by omega) rfl (Nat.lt_succ_self _)
