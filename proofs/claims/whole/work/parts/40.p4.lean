/-! the cases and the type, as the class writes them; counting alone -/
section CST
variable {nu : Int} {np ni : Nat} {tt : Nat → Tm} {xf : Nat → List Nd} {arc : Nat → Nat} {nc : Nat → Int}
theorem csL_T {h : Nat} {ra : Nat} (H : ∀ i, i < ra → TmS (tt i) (xf i) ∧ Told (xf i) nu np ni (arc i)) {δ : Nat → Int} : ∀ i, i ≤ ra → csL (some h) tt δ nu (np : Nat) (ni : Nat) nc arc i = csC (fun i => cdS (xf i) nu np ni (arc i)) np ni nc i
  | 0, _ => rfl
  | i + 1, hi => by
    obtain ⟨h1, h2⟩ := H i (by omega)
    simp only [csL, csC]
    rw [csL_T H i (by omega)]
    have e : ∀ j : Nat, j < (xf i).length → dgt (dsq (some h) tt δ (i + 1)) (j : Nat) = dpS (xf i) j := dpW_dp h1 h2.1 h2.2.1
    rw [caL_T h1 h2 e]
    rfl
theorem rtL_T {h : Nat} {ra : Nat} (H : ∀ i, i < ra → TmS (tt i) (xf i) ∧ Told (xf i) nu np ni (arc i)) {t : Tm} {xs : List Nd} (h1 : TmS t xs) (hc : Cpl xs) (hb : Bds xs 0 (np + ni)) {δ δ' δ2 : Nat → Int} (hδ : ∀ j : Nat, j < xs.length → dgt δ (j : Nat) = dpS xs j) (hδ2 : ∀ j : Nat, j < xs.length → dgt δ2 (j : Nat) = dpS xs j) {so : Int} (e' : δ' = δ) : rtL (some h) t tt δ' δ2 nu (np : Nat) (ni : Nat) nc arc ra so = wtC xs (fun i => cdS (xf i) nu np ni (arc i)) np ni ra nu so nc := by
  subst e'
  have hB := Bds_sub hc hb
  unfold rtL wtC
  have e0 : beh t ((np : Nat) : Int).toNat = ((unS xs 0 np : Nat) : Int) := by rw [Int.toNat_natCast, beh_R]; exact beR_S h1 hc hb np (by omega)
  have e1 : alL t δ' (np : Nat) 0 0 ((np : Nat) : Int).toNat = bnC xs (np : Nat) (fun m => (np : Int) + m) 0 0 6 0 np := by rw [Int.toNat_natCast]; exact alL_S h1 hc hδ hB.1 np (Nat.le_refl _)
  rw [e0, e1, Int.toNat_natCast, alL_S h1 hc hδ hB.2 ni (Nat.le_refl _), csL_T H ra (Nat.le_refl _), alL_S h1 hc hδ2 hB.2 ni (Nat.le_refl _), glL_S, glL_S, show ((ni : Int) + 1).toNat = ni + 1 by omega]
  simp only [vrL, List.append_assoc]
  rw [show (ni : Int) - (ni : Int) = 0 by omega]
end CST
theorem alL_ln (t : Tm) (δ δ' : Nat → Int) (P o b : Int) : ∀ n, (alL t δ P o b n).length = (alL t δ' P o b n).length
  | 0 => rfl
  | n + 1 => by simp only [alL, List.length_append, cpL_len]; rw [alL_ln t δ δ' P o b n]
theorem bnL_ln (t : Tm) (δ δ' : Nat → Int) (P ar al pp k b : Int) : ∀ n, (bnL t δ P ar al pp k b n).length = (bnL t δ' P ar al pp k b n).length
  | 0 => rfl
  | n + 1 => by simp only [bnL, List.length_append, cpL_len]; rw [bnL_ln t δ δ' P ar al pp k b n]
theorem brL_ln (t : Tm) (δ δ' : Nat → Int) (P ar al pp k ix b v w : Int) (ys : Nat) (l0 : Int) (ln : Nat) : (brL t δ P ar al pp k ix b v w ys l0 ln).length = (brL t δ' P ar al pp k ix b v w ys l0 ln).length := by
  unfold brL
  simp only [List.length_append, cpL_len]
  rw [bnL_ln t δ δ']
theorem bcL_ln (t : Tm) (δ δ' : Nat → Int) (nu pa ix P rank : Int) (arc : Nat) : ∀ j, (bcL t δ nu pa ix P rank arc j).length = (bcL t δ' nu pa ix P rank arc j).length
  | 0 => rfl
  | j + 1 => by
    simp only [bcL, List.length_append]
    rw [bcL_ln t δ δ' nu pa ix P rank arc j]
    congr 1
    split
    · simp only [List.length_append]; rw [brL_ln t δ δ']
    · rfl
theorem caL_ln (t : Tm) (δ δ' : Nat → Int) (nu pa ix nc P rank : Int) (arc : Nat) : (caL t δ nu pa ix nc P rank arc).length = (caL t δ' nu pa ix nc P rank arc).length := by
  unfold caL
  simp only [List.length_append, cpL_len]
  rw [alL_ln t δ δ', bcL_ln t δ δ']
theorem csL_ln (tg tg' : Option Nat) (tt : Nat → Tm) (δ δ' : Nat → Int) (nu pa ix : Int) (nc : Nat → Int) (arc : Nat → Nat) : ∀ i, (csL tg tt δ nu pa ix nc arc i).length = (csL tg' tt δ' nu pa ix nc arc i).length
  | 0 => rfl
  | i + 1 => by
    simp only [csL, List.length_append]
    rw [csL_ln tg tg' tt δ δ' nu pa ix nc arc i, caL_ln (tt i) (dsq tg tt δ (i + 1)) (dsq tg' tt δ' (i + 1))]
theorem rtL_ln (tg tg' : Option Nat) (t : Tm) (tt : Nat → Tm) (δ δ2 δ' δ2' : Nat → Int) (nu pa ix : Int) (nc : Nat → Int) (arc : Nat → Nat) (ra : Nat) (so so' : Int) : (rtL tg t tt δ δ2 nu pa ix nc arc ra so).length = (rtL tg' t tt δ' δ2' nu pa ix nc arc ra so').length := by
  unfold rtL
  simp only [List.length_append]
  rw [alL_ln t δ δ', alL_ln t δ2 δ2', csL_ln tg tg' tt δ δ', alL_ln t δ δ' pa 0 (beh t pa.toNat)]
  simp
/-! HOW OFTEN A FAMILY STANDS in a run of places; what judging comes to -/
def cnS (xs : List Nd) (nu : Int) (b : Nat) : Nat → Nat
  | 0 => 0
  | n + 1 => cnS xs nu b n + (if ((gN xs (b + n)).1 = 1 ∨ (gN xs (b + n)).1 = 3) ∧ (gN xs (b + n)).2.1 = nu then 1 else 0)
theorem cnS_add (xs : List Nd) (nu : Int) (b m : Nat) : ∀ n, cnS xs nu b (m + n) = cnS xs nu b m + cnS xs nu (b + m) n
  | 0 => rfl
  | n + 1 => by
    rw [← Nat.add_assoc]
    simp only [cnS]
    rw [cnS_add xs nu b m n, Nat.add_assoc b m n]
    omega
theorem cnS_z {xs : List Nd} {nu : Int} {b : Nat} : ∀ {n : Nat}, (∀ j, j < n → ¬ ((gN xs (b + j)).1 = 1 ∨ (gN xs (b + j)).1 = 3)) → cnS xs nu b n = 0
  | 0, _ => rfl
  | n + 1, h => by
    simp only [cnS]
    rw [cnS_z (fun j hj => h j (by omega)), if_neg (fun q => h n (by omega) q.1)]
/-- what stands in the domains of n alls; in n terms behind each other -/
def sA (xs : List Nd) (nu : Int) (i : Nat) : Nat → Nat
  | 0 => 0
  | n + 1 => sA xs nu i n + cnS xs nu (unS xs i n + 1) (lnS xs (unS xs i n + 1))
def sI (xs : List Nd) (nu : Int) (i : Nat) : Nat → Nat
  | 0 => 0
  | n + 1 => sI xs nu i n + cnS xs nu (ixS xs i n) (lnS xs (ixS xs i n))
theorem unS_le (xs : List Nd) (i : Nat) : ∀ n, i ≤ unS xs i n
  | 0 => Nat.le_refl _
  | n + 1 => by have := unS_le xs i n; simp only [unS]; omega
theorem sA_eq {xs : List Nd} {nu : Int} {i n : Nat} (h : Bds xs i n) : ∀ y, y ≤ n → cnS xs nu i (unS xs i y - i) = sA xs nu i y
  | 0, _ => by simp [unS, sA, cnS]
  | y + 1, hy => by
    have ih := sA_eq (nu := nu) h y (by omega)
    have hle := unS_le xs i y
    have hk := h.2 y (by omega)
    simp only [unS, sA]
    rw [show unS xs i y + 1 + lnS xs (unS xs i y + 1) - i = (unS xs i y - i) + (1 + lnS xs (unS xs i y + 1)) by omega, cnS_add, cnS_add, ih, show i + (unS xs i y - i) = unS xs i y by omega, cnS_z (n := 1) (fun j hj => by rw [show unS xs i y + j = unS xs i y by omega]; omega)]
    omega
theorem sI_eq (xs : List Nd) (nu : Int) (i : Nat) : ∀ n, cnS xs nu i (ixS xs i n - i) = sI xs nu i n
  | 0 => by simp [ixS, sI, cnS]
  | n + 1 => by
    have ih := sI_eq xs nu i n
    have hle := ixS_le xs i n
    simp only [ixS, sI]
    rw [show ixS xs i n + lnS xs (ixS xs i n) - i = (ixS xs i n - i) + lnS xs (ixS xs i n) by omega, cnS_add, ih, show i + (ixS xs i n - i) = ixS xs i n by omega]
/-- a recursive argument: the family stands at the head, in the domains and in the last terms -/
theorem cnS_rec {xs : List Nd} (hc : Cpl xs) {nu v : Int} {np ni i n a : Nat} (ha : AlS xs i n) (hp : ApS xs (unS xs i n) a) (h : ptB xs nu np ni (unS xs i n) a v = true) : cnS xs nu i (lnS xs i) = sA xs nu i n + 1 + sI xs nu (unS xs i n + (np + ni) + 1 + np) ni := by
  obtain ⟨s1, s2, s3⟩ := ptB_spn hc hp h
  have he := Bds_end hc n i ha.1
  have hle := unS_le xs i n
  have hx := s1.2.2
  unfold ptB at h
  simp only [Bool.and_eq_true, decide_eq_true_eq] at h
  obtain ⟨e, hk, hu, hv⟩ := h
  rw [show lnS xs i = (unS xs i n - i) + (a + (1 + (np + (ixS xs (unS xs i n + (np + ni) + 1 + np) ni - (unS xs i n + (np + ni) + 1 + np))))) by omega]
  rw [cnS_add, cnS_add, cnS_add, cnS_add, sA_eq ha.1 n (Nat.le_refl _), show i + (unS xs i n - i) = unS xs i n by omega]
  rw [cnS_z (n := a) (fun j hj => by rw [hp.2.1 j hj]; omega)]
  rw [cnS_z (n := np) (fun j hj => by rw [(pvB_le hv j hj).1]; omega)]
  rw [show unS xs i n + a + 1 + np = unS xs i n + (np + ni) + 1 + np by omega, sI_eq]
  have : cnS xs nu (unS xs i n + a) 1 = 1 := by
    simp only [cnS]
    rw [if_pos ⟨Or.inl (by rw [Nat.add_zero]; exact hk), by rw [Nat.add_zero]; exact hu⟩]
  omega
/-- judging, by the list: 1 without the family, 2 recursive, 0 otherwise -/
def jdS (xs : List Nd) (nu : Int) (np ni i : Nat) (ar : Int) : Int := if cnS xs nu i (lnS xs i) = 0 then 1 else if cnS xs nu i (lnS xs i) = 1 ∧ ptB xs nu np ni (ft xs i) (nP xs (ft xs i)) (ar + (nA xs i : Nat) - 1) = true then 2 else 0
theorem cntF_S {t : Tm} {xs : List Nd} (h : TmS t xs) {nu : Int} {i : Nat} : ∀ n, i + n ≤ xs.length → cntF t nu (i : Nat) n = (cnS xs nu i n : Nat)
  | 0, _ => rfl
  | n + 1, hn => by
    simp only [cntF, cnS]
    rw [cntF_S h n (by omega), show ((i : Nat) : Int) + (n : Int) = ((i + n : Nat) : Int) by omega, kAt_S h (by omega), uAt_S h (by omega)]
    split <;> omega
theorem stdV_S {t : Tm} {xs : List Nd} (h : TmS t xs) (hc : Cpl xs) (hn : xs.length ≤ 1000) {nu ar : Int} {np ni i : Nat} (hi : i < xs.length) : stdV t nu (np : Nat) (ni : Nat) (i : Nat) ar = jdS xs nu np ni i ar := by
  have a1 := nA_ok hc hn hi
  have l1 := lnS_ok hc hi
  unfold stdV jdS
  rw [dAt_S h hi, Int.toNat_natCast, cntF_S h _ l1.2.1, nA_t h hc hn hi, show beR t ((i : Nat) : Int) (nA xs i) = (ft xs i : Nat) from beR_S h hc a1.1.1 _ (Nat.le_refl _), nP_t h hc hn a1.2.2, isPB_S h hc (nP_ok hc hn a1.2.2)]
  by_cases q : cnS xs nu i (lnS xs i) = 0
  · rw [if_pos (by omega), if_pos q]
  · rw [if_neg (by omega), if_neg q]
    by_cases q2 : cnS xs nu i (lnS xs i) = 1 ∧ ptB xs nu np ni (ft xs i) (nP xs (ft xs i)) (ar + (nA xs i : Nat) - 1) = true
    · rw [if_pos ⟨by omega, q2.2⟩, if_pos q2]
    · rw [if_neg (fun g => q2 ⟨by omega, g.2⟩), if_neg q2]
/-! THE REFERENCE'S READS of a told list -/
/-- the list xs lies in F at b -/
def seF (F : Nat → Nat → Int) (b : Nat) (xs : List Nd) : Prop := ∀ i, i < xs.length → F 0 (b + i) = (gN xs i).1 ∧ F 1 (b + i) = (gN xs i).2.1 ∧ F 2 (b + i) = (gN xs i).2.2 ∧ F 3 (b + i) = lnS xs i
section SEF
variable {F : Nat → Nat → Int} {b : Nat} {xs : List Nd}
theorem seF.ly (h : seF F b xs) : lyF F b xs := fun i hi => ⟨(h i hi).1, (h i hi).2.2.2⟩
theorem seF.k (h : seF F b xs) {i : Nat} (hi : i < xs.length) : F 0 ((b + i : Nat) : Int).toNat = (gN xs i).1 := by rw [Int.toNat_natCast]; exact (h i hi).1
theorem seF.u (h : seF F b xs) {i : Nat} (hi : i < xs.length) : F 1 ((b + i : Nat) : Int).toNat = (gN xs i).2.1 := by rw [Int.toNat_natCast]; exact (h i hi).2.1
theorem seF.l (h : seF F b xs) {i : Nat} (hi : i < xs.length) : F 3 ((b + i : Nat) : Int).toNat = (lnS xs i : Nat) := by rw [Int.toNat_natCast]; exact (h i hi).2.2.2
theorem seF.sc (h : seF F b xs) {i : Nat} (hi : i + 1 < xs.length) : scR F ((b + i : Nat) : Int) = ((b + (i + 1 + lnS xs (i + 1)) : Nat) : Int) := by
  unfold scR
  rw [show ((b + i : Nat) : Int) + 1 = ((b + (i + 1) : Nat) : Int) by omega, h.l hi]
  omega
theorem unR_S (h : seF F b xs) (hc : Cpl xs) {i n : Nat} (hb : Bds xs i n) : ∀ y, y ≤ n → unR F ((b + i : Nat) : Int) y = ((b + unS xs i y : Nat) : Int)
  | 0, _ => rfl
  | y + 1, hy => by
    have hB := (Bds_ok hc hb y (by omega)).2.2 (by omega)
    simp only [unR, unS]
    rw [unR_S h hc hb y (by omega), h.sc hB.1]
theorem ixR_S (h : seF F b xs) {i m : Nat} (hi : ∀ j, j < m → ixS xs i j < xs.length) : ∀ j, j ≤ m → ixR F ((b + i : Nat) : Int) j = ((b + ixS xs i j : Nat) : Int)
  | 0, _ => rfl
  | j + 1, hj => by
    simp only [ixR, ixS]
    rw [ixR_S h hi j (by omega), h.l (hi j (by omega))]
    omega
theorem hsB_S (h : seF F b xs) {d : Nat} {i : Nat} : ∀ n, i + n ≤ xs.length → (hsB F (d : Nat) ((b + i : Nat) : Int) n = false ↔ cnS xs (d : Nat) i n = 0)
  | 0, _ => by simp [hsB, cnS]
  | n + 1, hn => by
    have ih := hsB_S h (d := d) (i := i) n (by omega)
    simp only [hsB, cnS]
    rw [show ((b + i : Nat) : Int) + (n : Int) = ((b + (i + n) : Nat) : Int) by omega, h.k (by omega), h.u (by omega), Bool.or_eq_false_iff, ih]
    by_cases q : ((gN xs (i + n)).1 = 1 ∨ (gN xs (i + n)).1 = 3) ∧ (gN xs (i + n)).2.1 = (d : Nat)
    · rw [if_pos q]
      constructor
      · intro g
        have := g.2
        rw [decide_eq_true q.1, decide_eq_true q.2] at this
        exact absurd this (by simp)
      · intro g; omega
    · rw [if_neg q]
      constructor
      · intro g; rw [g.1]
      · intro g
        refine ⟨by omega, ?_⟩
        by_cases q1 : (gN xs (i + n)).1 = 1 ∨ (gN xs (i + n)).1 = 3
        · rw [decide_eq_false (fun e => q ⟨q1, e⟩), Bool.and_false]
        · rw [decide_eq_false q1, Bool.false_and]
theorem isPR_S (h : seF F b xs) (hc : Cpl xs) {v : Int} {d np ni p a : Nat} (h9 : F 9 d = (np : Nat)) (h10 : F 10 d = (ni : Nat)) (ha : ApS xs p a) : isPR F d ((b + p : Nat) : Int) a v = ptB xs (d : Nat) np ni p a v := by
  have hl := ha.1
  unfold isPR ptB
  rw [h9, h10, show ((b + p : Nat) : Int) + (a : Int) = ((b + (p + a) : Nat) : Int) by omega, h.k hl, h.u hl, Int.toNat_natCast, Bool.and_assoc, Bool.and_assoc]
  by_cases e : a = np + ni
  · rw [show decide ((a : Int) = (np : Int) + (ni : Int)) = decide (a = np + ni) from by simp only [decide_eq_decide]; omega]
    by_cases hk : (gN xs (p + a)).1 = 1
    · congr 3
      rw [show ((b + (p + a) : Nat) : Int) + 1 = ((b + (p + a + 1) : Nat) : Int) by omega]
      have key : ∀ n, n ≤ np → prR F ((b + (p + a + 1) : Nat) : Int) v n = pvB xs (p + a + 1) v n := by
        intro n
        induction n with
        | zero => intro _; rfl
        | succ n ih =>
          intro hn
          simp only [prR, pvB]
          rw [ih (by omega)]
          cases hb : pvB xs (p + a + 1) v n with
          | false => rfl
          | true =>
            have hin := ptB_in hc ha hk e n (by omega) (fun j hj => (pvB_le hb j hj).1) (by omega)
            rw [show ((b + (p + a + 1) : Nat) : Int) + (n : Int) = ((b + (p + a + 1 + n) : Nat) : Int) by omega, h.k hin, h.u hin]
      exact key np (Nat.le_refl _)
    · simp [hk]
  · rw [show decide ((a : Int) = (np : Int) + (ni : Int)) = false from by simp only [decide_eq_false_iff_not]; omega, show decide (a = np + ni) = false from by simp only [decide_eq_false_iff_not]; omega]
    rfl
theorem prR_S (h : seF F b xs) (hc : Cpl xs) {v : Int} {np ni p a : Nat} (ha : ApS xs p a) (hk : (gN xs (p + a)).1 = 1) (e : a = np + ni) : ∀ n, n ≤ np → prR F ((b + p : Nat) + (a : Nat) + 1) v n = true → pvB xs (p + a + 1) v n = true
  | 0, _, _ => rfl
  | n + 1, hn, g => by
    simp only [prR, Bool.and_eq_true, decide_eq_true_eq] at g
    have ih := prR_S h hc ha hk e n (by omega) g.1
    have hin := ptB_in hc ha hk e n (by omega) (fun j hj => (pvB_le ih j hj).1) (by omega)
    rw [show ((b + p : Nat) : Int) + (a : Int) + 1 + (n : Int) = ((b + (p + a + 1 + n) : Nat) : Int) by omega, h.k hin, h.u hin] at g
    simp only [pvB, Bool.and_eq_true, decide_eq_true_eq]
    exact ⟨ih, g.2⟩
theorem pvO_S (h : seF F b xs) (hc : Cpl xs) {v : Int} {d np ni p a : Nat} (h9 : F 9 d = (np : Nat)) (h10 : F 10 d = (ni : Nat)) (ha : ApS xs p a) : pvO F d ((b + p : Nat) : Int) a v := by
  intro k hk hg h0
  rw [h9] at hk
  simp only [Bool.and_eq_true, decide_eq_true_eq] at hg
  obtain ⟨⟨g1, g2, g3⟩, g4⟩ := hg
  rw [h9, h10] at g1
  have hk1 : (gN xs (p + a)).1 = 1 := by
    rw [show ((b + p : Nat) : Int) + (a : Int) = ((b + (p + a) : Nat) : Int) by omega, h.k ha.1] at g2
    exact g2
  have g5 := prR_S h hc ha hk1 (show a = np + ni by omega) k (by omega) g4
  have hin := ptB_in hc ha hk1 (show a = np + ni by omega) k (by omega) (fun j hj => (pvB_le g5 j hj).1) (by omega)
  rw [show ((b + p : Nat) : Int) + (a : Int) + 1 + (k : Int) = ((b + (p + a + 1 + k) : Nat) : Int) by omega] at h0 ⊢
  rw [h.k hin] at h0
  rw [h.l hin, (WF_S hc _ hin).2.2.1 (by show (gN xs _).1 < 4; omega)]
  rfl
theorem ayB_S (h : seF F b xs) (hc : Cpl xs) {d i n : Nat} (hb : Bds xs i n) : ∀ y, y ≤ n → (ayB F ((b + i : Nat) : Int) d y = true ↔ sA xs (d : Nat) i y = 0)
  | 0, _ => by simp [ayB, sA]
  | y + 1, hy => by
    have ih := ayB_S h hc (d := d) hb y (by omega)
    have hB := (Bds_ok hc hb y (by omega)).2.2 (by omega)
    have l1 := lnS_ok hc hB.1
    simp only [ayB, sA, Bool.and_eq_true, Bool.not_eq_true']
    rw [ih, unR_S h hc hb y (by omega), show ((b + unS xs i y : Nat) : Int) + 1 = ((b + (unS xs i y + 1) : Nat) : Int) by omega, h.l hB.1, Int.toNat_natCast, hsB_S h _ (by omega)]
    omega
theorem ijB_S (h : seF F b xs) (hc : Cpl xs) {v : Int} {d np ni p a : Nat} (h9 : F 9 d = (np : Nat)) (h10 : F 10 d = (ni : Nat)) (ha : ApS xs p a) (hp : ptB xs (d : Nat) np ni p a v = true) : (∀ j, j ≤ np + ni → ixR F (((b + p : Nat) : Int) + F 9 d + F 10 d + 1) j = ((b + ixS xs (p + (np + ni) + 1) j : Nat) : Int)) ∧ (∀ j, j < np + ni → ixS xs (p + (np + ni) + 1) j < xs.length) ∧ (∀ k, k ≤ ni → ixS xs (p + (np + ni) + 1) (np + k) = ixS xs (p + (np + ni) + 1 + np) k) ∧ (∀ k, k ≤ ni → (ijB F ((b + p : Nat) : Int) d k = true ↔ sI xs (d : Nat) (p + (np + ni) + 1 + np) k = 0)) := by
  obtain ⟨s1, s2, s3⟩ := ptB_spn hc ha hp
  have hp' := hp
  unfold ptB at hp'
  simp only [Bool.and_eq_true, decide_eq_true_eq] at hp'
  obtain ⟨e, hk, hu, hv⟩ := hp'
  subst e
  obtain ⟨ρ, g1, g2⟩ := hd_sk hc ha (by omega)
  have a2 : ∀ j, j < np + ni → ixS xs (p + (np + ni) + 1) j < xs.length := fun j hj => ((ix_sk hc (g2 (by omega)) g1 j (by omega)).2 hj).1
  have a1 : ∀ j, j ≤ np + ni → ixR F (((b + p : Nat) : Int) + F 9 d + F 10 d + 1) j = ((b + ixS xs (p + (np + ni) + 1) j : Nat) : Int) := by
    intro j hj
    rw [h9, h10, show ((b + p : Nat) : Int) + (np : Int) + (ni : Int) + 1 = ((b + (p + (np + ni) + 1) : Nat) : Int) by omega]
    exact ixR_S h a2 j hj
  have a3 : ∀ k, k ≤ ni → ixS xs (p + (np + ni) + 1) (np + k) = ixS xs (p + (np + ni) + 1 + np) k := by
    intro k hk'
    by_cases z : np + ni = 0
    · obtain ⟨rfl, rfl⟩ : np = 0 ∧ ni = 0 := by omega
      rw [show 0 + k = k by omega]
    · rw [ixS_add, (pv_in hc (g2 (by omega)) g1 np (by omega) (fun j hj => (pvB_le hv j hj).1)).1]
  refine ⟨a1, a2, a3, ?_⟩
  intro k
  induction k with
  | zero => intro _; simp [ijB, sI]
  | succ k ih =>
    intro hk'
    have hin := (s1.2.1 k (by omega)).1
    have l1 := lnS_ok hc hin
    simp only [ijB, sI, Bool.and_eq_true, Bool.not_eq_true']
    rw [ih (by omega), show (F 9 d + ((k : Nat) : Int)).toNat = np + k by rw [h9]; omega, a1 _ (by omega), a3 k (by omega), h.l hin, Int.toNat_natCast, hsB_S h _ (by omega)]
    omega
theorem jdR_S (h : seF F b xs) (hc : Cpl xs) (hn : xs.length ≤ 1000) {ar : Int} {d np ni i : Nat} (hi : i < xs.length) (h9 : F 9 d = (np : Nat)) (h10 : F 10 d = (ni : Nat)) : jdR F ((b + i : Nat) : Int) d ar (nA xs i) (nP xs (ft xs i)) = jdS xs (d : Nat) np ni i ar := by
  obtain ⟨a1, a2, a3⟩ := nA_ok hc hn hi
  have ap := nP_ok hc hn a3
  have l1 := lnS_ok hc hi
  have hf : unR F ((b + i : Nat) : Int) (nA xs i) = ((b + ft xs i : Nat) : Int) := unR_S h hc a1.1 _ (Nat.le_refl _)
  unfold jdR jdS
  rw [h.l hi, Int.toNat_natCast, hf, isPR_S h hc h9 h10 ap]
  have e1 := hsB_S h (d := d) (i := i) (lnS xs i) l1.2.1
  by_cases q : cnS xs (d : Nat) i (lnS xs i) = 0
  · rw [if_pos (e1.mpr q), if_pos q]
  · rw [if_neg (fun g => q (e1.mp g)), if_neg q]
    by_cases q2 : ptB xs (d : Nat) np ni (ft xs i) (nP xs (ft xs i)) (ar + (nA xs i : Nat) - 1) = true
    · rw [if_neg (by rw [q2]; simp)]
      obtain ⟨b1, b2, b3, b4⟩ := ijB_S h hc h9 h10 ap q2
      have e2 := ayB_S h hc (d := d) a1.1 _ (Nat.le_refl _)
      have e3 := b4 ni (Nat.le_refl _)
      have e4 := cnS_rec hc a1 ap q2
      rw [h10, Int.toNat_natCast]
      by_cases q3 : cnS xs (d : Nat) i (lnS xs i) = 1
      · have hx : (ayB F ((b + i : Nat) : Int) d (nA xs i) && ijB F ((b + ft xs i : Nat) : Int) d ni) = true := by
          rw [Bool.and_eq_true, e2, e3]
          unfold ft
          omega
        rw [if_pos hx, if_pos ⟨q3, q2⟩]
      · have hx : ¬ (ayB F ((b + i : Nat) : Int) d (nA xs i) && ijB F ((b + ft xs i : Nat) : Int) d ni) = true := by
          rw [Bool.and_eq_true, e2, e3]
          unfold ft
          omega
        rw [if_neg hx, if_neg (fun g => q3 g.1)]
    · rw [if_pos (by rw [Bool.not_eq_true] at q2; exact q2), if_neg (fun g => q2 g.2)]
theorem JOK_S (h : seF F b xs) (hc : Cpl xs) (hn : xs.length ≤ 1000) {cap : Nat} (hcap : b + xs.length ≤ cap) {ar : Int} (har : 0 ≤ ar ∧ ar ≤ 1000000) {d np ni i : Nat} (hi : i < xs.length) (hd : d < 100) (h9 : F 9 d = (np : Nat)) (h10 : F 10 d = (ni : Nat)) (hpn : np ≤ 1000 ∧ ni ≤ 1000) : JOK F cap ((b + i : Nat) : Int) ar d (nA xs i) (nP xs (ft xs i)) := by
  obtain ⟨a1, a2, a3⟩ := nA_ok hc hn hi
  have ap := nP_ok hc hn a3
  have l1 := lnS_ok hc hi
  have hU : ∀ y, y ≤ nA xs i → unR F ((b + i : Nat) : Int) y = ((b + unS xs i y : Nat) : Int) := unR_S h hc a1.1
  have hf : unR F ((b + i : Nat) : Int) (nA xs i) = ((b + ft xs i : Nat) : Int) := hU _ (Nat.le_refl _)
  have hsp := spine hc (nP xs (ft xs i)) (ft xs i) ap.1 ap.2.1
  have l2 := lnS_ok hc a3
  have apl := ap.1
  have gro : ∀ j, j ≤ nP xs (ft xs i) + 1 → ft xs i + nP xs (ft xs i) + j ≤ ixS xs (ft xs i + nP xs (ft xs i)) j := by
    intro j
    induction j with
    | zero => intro _; exact Nat.le_refl _
    | succ j ih =>
      intro hj
      have i1 := ih (by omega)
      have i2 : 1 ≤ lnS xs (ixS xs (ft xs i + nP xs (ft xs i)) j) := by
        obtain ⟨dd, σ, e1, e2, e3, e4⟩ := sk_ok hc a3
        have k1 := ap_sk hc e2 _ ap.1 ap.2.1
        exact (lnS_ok hc ((ix_sk hc ap.1 k1 j (by omega)).2 (by omega)).1).1
      simp only [ixS]
      omega
  have g1 := gro _ (Nat.le_refl _)
  refine ⟨⟨by omega, by rw [h.l hi]; omega, by rw [h.l hi]; omega, by omega⟩, by omega, fun j hj => ?_, ?_, fun j hj => ?_, by rw [hf]; omega, fun j hj => ?_, ?_, hd, by rw [h9, h10]; omega, fun e => ?_, ?_, har, fun k hk => ?_, fun hp => ?_⟩
  · rw [hU j (by omega), h.k (Bds_ok hc a1.1 j (by omega)).1]
    exact a1.1.2 j hj
  · rw [hf, h.k a3]; exact a1.2
  · have hB := Bds_ok hc a1.1 j hj
    have hB1 := hB.1
    rw [hU j hj]
    refine ⟨by omega, by omega, fun q => ?_⟩
    have hB2 := (hB.2.2 q).1
    omega
  · rw [hf, show ((b + ft xs i : Nat) : Int) + (j : Int) = ((b + (ft xs i + j) : Nat) : Int) by omega, h.k (by omega)]
    exact ap.2.1 j hj
  · rw [hf, show ((b + ft xs i : Nat) : Int) + ((nP xs (ft xs i) : Nat) : Int) = ((b + (ft xs i + nP xs (ft xs i)) : Nat) : Int) by omega, h.k ap.1]
    exact ap.2.2
  · rw [h9, h10] at e
    rw [hf, h9]
    omega
  · rw [hf]
    exact pvO_S h hc h9 h10 ap
  · have hB := (Bds_ok hc a1.1 k (by omega)).2.2 hk
    have l3 := lnS_ok hc hB.1
    rw [hU k (by omega), show ((b + unS xs i k : Nat) : Int) + 1 = ((b + (unS xs i k + 1) : Nat) : Int) by omega, h.l hB.1]
    omega
  · rw [hf, isPR_S h hc h9 h10 ap] at hp
    obtain ⟨b1, b2, b3, b4⟩ := ijB_S h hc h9 h10 ap hp
    obtain ⟨s1, s2, s3⟩ := ptB_spn hc ap hp
    rw [hf]
    refine ⟨fun j hj => ?_, fun k hk => ?_⟩
    · rw [h9, h10] at hj
      rw [b1 j (by omega)]
      have := b2 j (by omega)
      omega
    · rw [h10] at hk
      have hin := (s1.2.1 k (by omega)).1
      have l3 := lnS_ok hc hin
      rw [show (F 9 d + ((k : Nat) : Int)).toNat = np + k by rw [h9]; omega, b1 _ (by omega), b3 k (by omega), h.l hin]
      omega
end SEF
