/-! WHAT A RECURSIVE ARGUMENT BRINGS, A CASE, THE TYPE: raw and settled -/
/-- at p the head is put to np variables and ni more terms, of which the first is at x0 -/
def Spn (xs : List Nd) (p np ni x0 : Nat) : Prop := x0 = p + (np + ni) + 1 + np ∧ (∀ j, j < ni → ixS xs x0 j < xs.length ∧ dpS xs (ixS xs x0 j) = dpS xs p) ∧ ixS xs x0 ni = p + lnS xs p
def brR (xs : List Nd) (Λ : Nat → Int) (k : Int) (ar : Nat) (first own head : Int) (i ys ni x0 : Nat) : List Nd := bnR xs Λ k ar first i ys ++ apL (ni + 1) ++ [(0, 1000000 + head, 0)] ++ idR xs (upL Λ ar first ys) ((ar + ys : Nat) : Int) x0 ni ++ apL ys ++ [(0, 1000000 + own, 0)] ++ mdL first ys
def brC (xs : List Nd) (P arC al pp k v w : Int) (i ys ni x0 : Nat) : List Nd := bnC xs P (fun _ => arC) al pp k i ys ++ apL (ni + 1) ++ [(0, v + ys, 0)] ++ cqS xs P arC al pp x0 (ixS xs x0 ni - x0) ++ apL ys ++ [(0, w + ys, 0)] ++ vrL ((ys : Int) - 1) ys
theorem lft_ge {P ar al pp l : Int} (h : ar ≤ l) : lft P ar al pp l = 0 := by unfold lft; rw [if_pos h]
theorem TR_br {xs : List Nd} (hc : Cpl xs) (hg : Gd xs) (hcl : Cls xs) {Λ : Nat → Int} {k : Int} (hk : k = 5 ∨ k = 6) {P al pp d own head v w : Int} {σ : List Int} {i ar ys np ni x0 : Nat} (hb : Bds xs i ys) (ha : dpS xs i = ar) (hs : Spn xs (unS xs i ys) np ni x0) (hd : 0 ≤ d)
    (hL : ∀ l : Nat, l < ar → -400000 ≤ Λ l ∧ Λ l = l + d - ar - lft P ar al pp l) (h1 : -400000 ≤ own) (h2 : -400000 ≤ head) (hv : v = d - 1 - head) (hw : w = d - 1 - own) :
    TR (d :: σ) (brR xs Λ k ar d own head i ys ni x0) σ (brC xs P ar al pp k v w i ys ni x0) := by
  have hB := Bds_ok hc hb ys (Nat.le_refl _)
  have t1 := TR_bn hc hg hcl (Λ := Λ) hk (P := P) (al := al) (pp := pp) (d := d) (arf := fun _ => (ar : Int)) (σ := σ) hb ha (fun y _ l q => lft_ge (by omega)) hd (fun l h => ⟨(hL l h).1, fun y _ => (hL l h).2⟩) (fun y _ l q1 q2 => lft_ge (by omega)) ys (Nat.le_refl _)
  have t2 := TR_ap (d := d + ys) (σ := σ) (ni + 1)
  have t3 := TR_md (d := d + ys) (σ := rp (ni + 1) (d + ys) σ) h2
  rw [show d + ys - 1 - head = v + ys by omega] at t3
  have t4 := TR_id hc hg hcl (Λ := upL Λ ar d ys) (P := P) (arC := ar) (al := al) (pp := pp) (d := d + ys) (i := x0) (ar := ((ar + ys : Nat) : Int)) (n := ni) (fun j hj => ⟨(hs.2.1 j hj).1, by rw [(hs.2.1 j hj).2, hB.2.1, ha]; omega⟩) (fun l q => lft_ge (by omega)) (fun l h => by
    by_cases q : l < ar
    · rw [upL_lt q]
      have := hL l q
      exact ⟨this.1, by omega⟩
    · rw [upL_in (by omega), lft_ge (by omega)]
      exact ⟨by omega, by omega⟩) ni (Nat.le_refl _) ((d + ys) :: σ)
  have t5 := TR_ap (d := d + ys) (σ := σ) ys
  have t6 := TR_md (d := d + ys) (σ := rp ys (d + ys) σ) h1
  rw [show d + ys - 1 - own = w + ys by omega] at t6
  have t7 := TR_mds (d := d + ys) (σ := σ) (lv := d) (by omega) ys
  rw [show d + ys - 1 - d = (ys : Int) - 1 by omega] at t7
  rw [show rp (ni + 1) (d + ys) σ = rp ni (d + ys) ((d + ys) :: σ) from by rw [← rp_a ni 1]; rfl] at t3
  have t2' : TR ((d + ys) :: σ) (apL (ni + 1)) ((d + ys) :: rp ni (d + ys) ((d + ys) :: σ)) (apL (ni + 1)) := by
    have e : rp (ni + 1 + 1) (d + ys) σ = (d + ys) :: rp ni (d + ys) ((d + ys) :: σ) := by rw [rp_s, ← rp_a ni 1]; rfl
    rw [e] at t2
    exact t2
  exact TR_app (TR_app (TR_app (TR_app (TR_app (TR_app t1 t2') t3) t4) t5) t6) t7
/-- levels and count behind j arguments of a case -/
def cnB (rc : Nat → Bool) : Nat → Nat
  | 0 => 0
  | j + 1 => cnB rc j + (if rc j = true then 1 else 0)
def lvB (Λ : Nat → Int) (rc : Nat → Bool) (yf : Nat → Nat) (np : Nat) (level : Int) (n : Nat) : Nat → Nat → Int
  | 0 => Λ
  | j + 1 => if rc j = true then upL (upL (lvB Λ rc yf np level n j) (np + j) (level + n + cnB rc j) (yf j)) np level n else lvB Λ rc yf np level n j
def bcR (xs : List Nd) (Λ : Nat → Int) (rc : Nat → Bool) (yf xf : Nat → Nat) (np ni : Nat) (level : Int) (n i0 : Nat) : Nat → List Nd
  | 0 => []
  | j + 1 => bcR xs Λ rc yf xf np ni level n i0 j ++ (if rc j = true then [(6, -1, 0)] ++ brR xs (lvB Λ rc yf np level n j) 6 (np + j) (level + n + cnB rc j) (level + j) np (unS xs i0 j + 1) (yf j) ni (xf j) else [])
def bcC (xs : List Nd) (rc : Nat → Bool) (yf xf : Nat → Nat) (np ni : Nat) (rank : Int) (n i0 : Nat) : Nat → List Nd
  | 0 => []
  | j + 1 => bcC xs rc yf xf np ni rank n i0 j ++ (if rc j = true then [(6, -1, 0)] ++ brC xs np ((np + j : Nat) : Int) ((n : Int) - j + cnB rc j) ((n : Int) - j + cnB rc j + 1 + rank) 6 (rank + n + cnB rc j) ((n : Int) - j + cnB rc j - 1) (unS xs i0 j + 1) (yf j) ni (xf j) else [])
theorem lvB_ok {Λ : Nat → Int} {rc : Nat → Bool} {yf : Nat → Nat} {np : Nat} {level : Int} {n : Nat} (h0 : ∀ l : Nat, l < np → Λ l = l) (h1 : ∀ l : Nat, np ≤ l → l < np + n → Λ l = level + ((l : Int) - np)) : ∀ j, (∀ l : Nat, l < np → lvB Λ rc yf np level n j l = l) ∧ (∀ l : Nat, np ≤ l → l < np + n → lvB Λ rc yf np level n j l = level + ((l : Int) - np))
  | 0 => ⟨h0, h1⟩
  | j + 1 => by
    obtain ⟨a, b⟩ := lvB_ok (rc := rc) (yf := yf) h0 h1 j
    simp only [lvB]
    split
    · refine ⟨fun l h => ?_, fun l h h2 => ?_⟩
      · rw [upL_lt h, upL_lt (by omega)]; exact a l h
      · rw [upL_in ⟨h, h2⟩]
    · exact ⟨a, b⟩
/-- the arguments of a told constructor: i0 the place under the parameters; what is recursive is put -/
def Arg (xs : List Nd) (rc : Nat → Bool) (yf xf : Nat → Nat) (np ni n i0 : Nat) : Prop := Bds xs i0 n ∧ dpS xs i0 = np ∧ ∀ j, j < n → rc j = true → Bds xs (unS xs i0 j + 1) (yf j) ∧ Spn xs (unS xs (unS xs i0 j + 1) (yf j)) np ni (xf j)
theorem lft_c {P ar al pp l : Int} (h : l < ar) : lft P ar al pp l = if P ≤ l then al else pp := by unfold lft; rw [if_neg (by omega)]
theorem TR_bc {xs : List Nd} (hc : Cpl xs) (hg : Gd xs) (hcl : Cls xs) {Λ : Nat → Int} {rc : Nat → Bool} {yf xf : Nat → Nat} {np ni n i0 : Nat} {level rank : Int} {σ : List Int} (hA : Arg xs rc yf xf np ni n i0) (hr : 0 ≤ rank) (hlv : level = np + 1 + rank)
    (h0 : ∀ l : Nat, l < np → Λ l = l) (h1 : ∀ l : Nat, np ≤ l → l < np + n → Λ l = level + ((l : Int) - np)) :
    ∀ j, j ≤ n → TR ((level + n) :: σ) (bcR xs Λ rc yf xf np ni level n i0 j) ((level + n + cnB rc j) :: σ) (bcC xs rc yf xf np ni rank n i0 j) := by
  intro j
  induction j with
  | zero => intro _; rw [show level + (n : Int) + ((cnB rc 0 : Nat) : Int) = level + n by simp [cnB]]; exact TR_nil
  | succ j ih =>
    intro hj
    have t := ih (by omega)
    obtain ⟨b1, b2, b3⟩ := Bds_ok hc hA.1 j (by omega)
    obtain ⟨c1, c2⟩ := b3 (by omega)
    obtain ⟨a1, a2⟩ := lvB_ok (rc := rc) (yf := yf) h0 h1 j
    simp only [bcR, bcC, cnB]
    by_cases q : rc j = true
    · rw [if_pos q, if_pos q, if_pos q]
      obtain ⟨p1, p2⟩ := hA.2.2 j (by omega) q
      refine TR_app t ?_
      rw [show level + (n : Int) + ((cnB rc j + 1 : Nat) : Int) = level + n + cnB rc j + 1 by omega]
      refine TR_app (TR_bd (Or.inr rfl)) ?_
      refine TR_br hc hg hcl (Or.inr rfl) p1 (by rw [c2, hA.2.1]; omega) p2 (by omega) (fun l hl => ?_) (by omega) (by omega) (by omega) (by omega)
      rw [lft_c (by omega)]
      by_cases g : l < np
      · rw [a1 l g, if_neg (by omega)]; exact ⟨by omega, by omega⟩
      · rw [a2 l (by omega) (by omega), if_pos (by omega)]; exact ⟨by omega, by omega⟩
    · rw [if_neg q, if_neg q, if_neg q, List.append_nil, List.append_nil]
      exact t
/-- what part writes, its levels behind it; what writeCase writes -/
def paL (Λ : Nat → Int) (rc : Nat → Bool) (yf : Nat → Nat) (np : Nat) (level : Int) (n : Nat) : Nat → Int := lvB (upL (upL Λ 0 0 np) np level n) rc yf np level n n
def paR (xs : List Nd) (Λ : Nat → Int) (rc : Nat → Bool) (yf xf : Nat → Nat) (np ni : Nat) (level : Int) (n i0 x0 : Nat) (nc : Int) : List Nd := bnR xs (upL Λ 0 0 np) 6 np level i0 n ++ bcR xs (upL (upL Λ 0 0 np) np level n) rc yf xf np ni level n i0 n ++ apL (ni + 1) ++ [(0, 1000000 + (np : Int), 0)] ++ idR xs (paL Λ rc yf np level n) ((np + n : Nat) : Int) x0 ni ++ apL (np + n) ++ [(1, nc, 0)] ++ mdL 0 np ++ mdL level n
def glC (nu : Int) (np own : Nat) (btw aft : Int) : List Nd := apL (np + own) ++ [(1, nu, 0)] ++ vrL (np + btw + own + aft - 1) np ++ vrL (own + aft - 1) own
def paC (xs : List Nd) (rc : Nat → Bool) (yf xf : Nat → Nat) (np ni : Nat) (rank : Int) (n i0 x0 : Nat) (nc : Int) : List Nd := bnC xs np (fun m => (np : Int) + m) 0 (1 + rank) 6 i0 n ++ bcC xs rc yf xf np ni rank n i0 n ++ apL (ni + 1) ++ [(0, rank + n + cnB rc n, 0)] ++ cqS xs np ((np + n : Nat) : Int) (cnB rc n) ((cnB rc n : Int) + 1 + rank) x0 (ixS xs x0 ni - x0) ++ glC nc np n (1 + rank) (cnB rc n)
theorem TR_gl {d : Int} {σ : List Int} {nu btw aft level : Int} {np own : Nat} (h : d = np + btw + own + aft) (h2 : level = d - own - aft) (h3 : 0 ≤ level) : TR (d :: σ) (apL (np + own) ++ [(1, nu, 0)] ++ mdL 0 np ++ mdL level own) σ (glC nu np own btw aft) := by
  have t1 := TR_ap (d := d) (σ := σ) (np + own)
  have t2 := TR_lf (d := d) (σ := rp (np + own) d σ) (k := 1) (u := nu) (s := 0) (by omega) (by omega)
  rw [rp_s] at t1
  have t3 := TR_mds (d := d) (σ := rp own d σ) (lv := 0) (by omega) np
  rw [rp_a] at t3
  have t4 := TR_mds (d := d) (σ := σ) (lv := level) (by omega) own
  rw [show d - 1 - 0 = np + btw + own + aft - 1 by omega] at t3
  rw [show d - 1 - level = own + aft - 1 by omega] at t4
  exact TR_app (TR_app (TR_app t1 t2) t3) t4
theorem upL_id {Λ : Nat → Int} {np : Nat} {l : Nat} (h : l < np) : upL Λ 0 0 np l = l := by rw [upL_in (by omega)]; omega
theorem TR_pa {xs : List Nd} (hc : Cpl xs) (hg : Gd xs) (hcl : Cls xs) {Λ : Nat → Int} {rc : Nat → Bool} {yf xf : Nat → Nat} {np ni n i0 x0 : Nat} {level rank nc : Int} {σ : List Int} (hA : Arg xs rc yf xf np ni n i0) (hs : Spn xs (unS xs i0 n) np ni x0) (hr : 0 ≤ rank) (hlv : level = np + 1 + rank) :
    TR (level :: σ) (paR xs Λ rc yf xf np ni level n i0 x0 nc) σ (paC xs rc yf xf np ni rank n i0 x0 nc) := by
  have hB := Bds_ok hc hA.1 n (Nat.le_refl _)
  have e0 : ∀ l : Nat, l < np → upL (upL Λ 0 0 np) np level n l = l := fun l h => by rw [upL_lt h]; exact upL_id h
  have e1 : ∀ l : Nat, np ≤ l → l < np + n → upL (upL Λ 0 0 np) np level n l = level + ((l : Int) - np) := fun l h h2 => upL_in ⟨h, h2⟩
  obtain ⟨f0, f1⟩ := lvB_ok (rc := rc) (yf := yf) e0 e1 n
  have t1 := TR_bn hc hg hcl (Λ := upL Λ 0 0 np) (Or.inr rfl : (6 : Int) = 5 ∨ (6 : Int) = 6) (P := np) (al := 0) (pp := 1 + rank) (d := level) (arf := fun m => (np : Int) + m) (σ := σ) hA.1 hA.2.1 (fun y _ l q => lft_ge (by omega)) (by omega) (fun l h => by
    rw [upL_id h]
    refine ⟨by omega, fun y _ => ?_⟩
    rw [lft_c (by omega), if_neg (by omega)]
    omega) (fun y _ l q1 q2 => by rw [lft_c (by omega), if_pos (by omega)]) n (Nat.le_refl _)
  have t2 := TR_bc hc hg hcl (σ := σ) hA hr hlv e0 e1 n (Nat.le_refl _)
  obtain ⟨e, he⟩ : ∃ e : Int, e = level + n + cnB rc n := ⟨_, rfl⟩
  rw [← he] at t2
  have t3 := TR_ap (d := e) (σ := σ) (ni + 1)
  have t4 := TR_md (d := e) (σ := rp (ni + 1) e σ) (lv := (np : Int)) (by omega)
  rw [rp_s] at t3
  rw [show e - 1 - (np : Int) = rank + n + cnB rc n by omega] at t4
  have t5 := TR_id hc hg hcl (Λ := paL Λ rc yf np level n) (P := np) (arC := ((np + n : Nat) : Int)) (al := cnB rc n) (pp := (cnB rc n : Int) + 1 + rank) (d := e) (i := x0) (ar := ((np + n : Nat) : Int)) (n := ni) (fun j hj => ⟨(hs.2.1 j hj).1, by rw [(hs.2.1 j hj).2, hB.2.1, hA.2.1]; omega⟩) (fun l q => lft_ge (by omega)) (fun l h => by
    rw [lft_c (by omega)]
    by_cases q : l < np
    · rw [show paL Λ rc yf np level n l = l from f0 l q, if_neg (by omega)]
      exact ⟨by omega, by omega⟩
    · rw [show paL Λ rc yf np level n l = level + ((l : Int) - np) from f1 l (by omega) (by omega), if_pos (by omega)]
      exact ⟨by omega, by omega⟩) ni (Nat.le_refl _) (e :: σ)
  have t6 := TR_gl (d := e) (σ := σ) (nu := nc) (np := np) (own := n) (btw := 1 + rank) (aft := cnB rc n) (level := level) (by omega) (by omega) (by omega)
  rw [show rp (ni + 1) e σ = rp ni e (e :: σ) from by rw [← rp_a ni 1]; rfl] at t3 t4
  have t := TR_app (TR_app (TR_app (TR_app (TR_app t1 t2) t3) t4) t5) t6
  unfold paR paC
  simp only [List.append_assoc] at t ⊢
  exact t
/-! the cases, the type -/
abbrev CD : Type := List Nd × Nat × (Nat → Bool) × (Nat → Nat) × (Nat → Nat) × Nat × Nat
def csLv (cd : Nat → CD) (Λ : Nat → Int) (np : Nat) : Nat → Nat → Int
  | 0 => Λ
  | c + 1 => paL (csLv cd Λ np c) (cd c).2.2.1 (cd c).2.2.2.1 np ((np : Int) + 1 + c) (cd c).2.1
def csR (cd : Nat → CD) (Λ : Nat → Int) (np ni : Nat) (nc : Nat → Int) : Nat → List Nd
  | 0 => []
  | c + 1 => csR cd Λ np ni nc c ++ [(6, -1, 0)] ++ paR (cd c).1 (csLv cd Λ np c) (cd c).2.2.1 (cd c).2.2.2.1 (cd c).2.2.2.2.1 np ni ((np : Int) + 1 + c) (cd c).2.1 (cd c).2.2.2.2.2.1 (cd c).2.2.2.2.2.2 (nc c)
def csC (cd : Nat → CD) (np ni : Nat) (nc : Nat → Int) : Nat → List Nd
  | 0 => []
  | c + 1 => csC cd np ni nc c ++ [(6, -1, 0)] ++ paC (cd c).1 (cd c).2.2.1 (cd c).2.2.2.1 (cd c).2.2.2.2.1 np ni (c : Int) (cd c).2.1 (cd c).2.2.2.2.2.1 (cd c).2.2.2.2.2.2 (nc c)
def CDok (np ni : Nat) (x : CD) : Prop := Cpl x.1 ∧ Gd x.1 ∧ Cls x.1 ∧ Arg x.1 x.2.2.1 x.2.2.2.1 x.2.2.2.2.1 np ni x.2.1 x.2.2.2.2.2.1 ∧ Spn x.1 (unS x.1 x.2.2.2.2.2.1 x.2.1) np ni x.2.2.2.2.2.2
theorem TR_cs {cd : Nat → CD} {Λ : Nat → Int} {np ni : Nat} {nc : Nat → Int} {σ : List Int} {ra : Nat} (h : ∀ c, c < ra → CDok np ni (cd c)) : ∀ c, c ≤ ra → TR (((np : Int) + 1) :: σ) (csR cd Λ np ni nc c) (((np : Int) + 1 + c) :: σ) (csC cd np ni nc c) := by
  intro c
  induction c with
  | zero => intro _; rw [show (np : Int) + 1 + ((0 : Nat) : Int) = np + 1 by omega]; exact TR_nil
  | succ c ih =>
    intro hc
    obtain ⟨h1, h2, h3, h4, h5⟩ := h c (by omega)
    simp only [csR, csC]
    refine TR_app (TR_app (ih (by omega)) (TR_bd (Or.inr rfl))) ?_
    rw [show (np : Int) + 1 + ((c + 1 : Nat) : Int) = np + 1 + c + 1 by omega]
    exact TR_pa h1 h2 h3 h4 h5 (by omega) rfl
theorem csLv_ok {cd : Nat → CD} {Λ : Nat → Int} {np : Nat} (h : ∀ l : Nat, l < np → Λ l = l) : ∀ c, ∀ l : Nat, l < np → csLv cd Λ np c l = l
  | 0 => h
  | c + 1 => fun l hl => by
    simp only [csLv]
    unfold paL
    exact (lvB_ok (fun l h => by rw [upL_lt h]; exact upL_id h) (fun l h h2 => upL_in ⟨h, h2⟩) _).1 l hl
def wtLv (cd : Nat → CD) (Λ : Nat → Int) (np ni ra : Nat) : Nat → Int := csLv cd (upL (upL Λ 0 0 np) np np ni) np ra
def wtR (xs : List Nd) (cd : Nat → CD) (Λ : Nat → Int) (np ni ra : Nat) (nu s : Int) (nc : Nat → Int) : List Nd := bnR xs Λ 6 0 0 0 np ++ [(6, 98, 0)] ++ bnR xs (upL Λ 0 0 np) 6 np np (unS xs 0 np) ni ++ [(6, -1, 0)] ++ (apL (np + ni) ++ [(1, nu, 0)] ++ mdL 0 np ++ mdL np ni) ++ [(2, s, 0)] ++ csR cd (upL (upL Λ 0 0 np) np np ni) np ni nc ra ++ bnR xs (wtLv cd Λ np ni ra) 6 np ((np : Int) + 1 + ra) (unS xs 0 np) ni ++ [(6, 99, 0)] ++ (apL (np + ni) ++ [(1, nu, 0)] ++ mdL 0 np ++ mdL ((np : Int) + 1 + ra) ni) ++ apL (ni + 1) ++ [(0, 1000000 + (np : Int), 0)] ++ mdL ((np : Int) + 1 + ra) (ni + 1)
def wtC (xs : List Nd) (cd : Nat → CD) (np ni ra : Nat) (nu s : Int) (nc : Nat → Int) : List Nd := bnC xs np (fun m => (np : Int) + m) 0 0 6 0 np ++ [(6, 98, 0)] ++ bnC xs np (fun m => (np : Int) + m) 0 0 6 (unS xs 0 np) ni ++ [(6, -1, 0)] ++ glC nu np ni 0 0 ++ [(2, s, 0)] ++ csC cd np ni nc ra ++ bnC xs np (fun m => (np : Int) + m) 0 (1 + ra) 6 (unS xs 0 np) ni ++ [(6, 99, 0)] ++ glC nu np ni (1 + ra) 0 ++ apL (ni + 1) ++ [(0, (ra : Int) + ni + 1, 0)] ++ vrL ni (ni + 1)
theorem lft_z {P ar l : Int} : lft P ar 0 0 l = 0 := by
  unfold lft
  split
  · rfl
  · split <;> rfl
theorem unS_add (xs : List Nd) (i m : Nat) : ∀ n, unS xs i (m + n) = unS xs (unS xs i m) n
  | 0 => rfl
  | n + 1 => by rw [← Nat.add_assoc]; simp only [unS]; rw [unS_add xs i m n]
theorem TR_wt {xs : List Nd} (hc : Cpl xs) (hg : Gd xs) (hcl : Cls xs) {cd : Nat → CD} {Λ : Nat → Int} {np ni ra : Nat} {nu s : Int} {nc : Nat → Int} (hb : Bds xs 0 (np + ni)) (h : ∀ c, c < ra → CDok np ni (cd c)) :
    TR [0] (wtR xs cd Λ np ni ra nu s nc) [] (wtC xs cd np ni ra nu s nc) := by
  have hz : dpS xs 0 = 0 := by unfold dpS sk; simp [rn]
  have hb0 : Bds xs 0 np := ⟨hb.1, fun y hy => hb.2 y (by omega)⟩
  have hB := Bds_ok hc hb np (by omega)
  have hb1 : Bds xs (unS xs 0 np) ni := ⟨hB.1, fun y hy => by rw [← unS_add]; exact hb.2 _ (by omega)⟩
  have hd1 : dpS xs (unS xs 0 np) = np := by rw [hB.2.1, hz]; omega
  have t1 := TR_bn hc hg hcl (Λ := Λ) (Or.inr rfl : (6 : Int) = 5 ∨ (6 : Int) = 6) (P := np) (al := 0) (pp := 0) (d := 0) (arf := fun m => (np : Int) + m) (σ := []) (ar := 0) hb0 (by rw [hz]; rfl) (fun y _ l q => lft_z) (by omega) (fun l hl => absurd hl (by omega)) (fun y _ l q1 q2 => lft_z) np (Nat.le_refl _)
  rw [show (0 : Int) + (np : Int) = np by omega] at t1
  have t2 := TR_bd (d := (np : Int)) (σ := []) (k := 6) (u := 98) (Or.inr rfl)
  have t3 := TR_bn hc hg hcl (Λ := upL Λ 0 0 np) (Or.inr rfl : (6 : Int) = 5 ∨ (6 : Int) = 6) (P := np) (al := 0) (pp := 0) (d := np) (arf := fun m => (np : Int) + m) (σ := [(np : Int) + 1]) (ar := np) hb1 hd1 (fun y _ l q => lft_z) (by omega) (fun l hl => by rw [upL_id hl]; exact ⟨by omega, fun y _ => by rw [lft_z]; omega⟩) (fun y _ l q1 q2 => lft_z) ni (Nat.le_refl _)
  have t4 := TR_bd (d := (np : Int) + ni) (σ := [(np : Int) + 1]) (k := 6) (u := -1) (Or.inr rfl)
  have t5 := TR_gl (d := (np : Int) + ni) (σ := [(np : Int) + ni + 1, (np : Int) + 1]) (nu := nu) (np := np) (own := ni) (btw := 0) (aft := 0) (level := np) (by omega) (by omega) (by omega)
  have t6 := TR_lf (d := (np : Int) + ni + 1) (σ := [(np : Int) + 1]) (k := 2) (u := s) (s := 0) (by omega) (by omega)
  have t7 := TR_cs (Λ := upL (upL Λ 0 0 np) np np ni) (nc := nc) (σ := []) h ra (Nat.le_refl _)
  have t8 := TR_bn hc hg hcl (Λ := wtLv cd Λ np ni ra) (Or.inr rfl : (6 : Int) = 5 ∨ (6 : Int) = 6) (P := np) (al := 0) (pp := 1 + ra) (d := (np : Int) + 1 + ra) (arf := fun m => (np : Int) + m) (σ := []) (ar := np) hb1 hd1 (fun y _ l q => lft_ge (by omega)) (by omega) (fun l hl => by
    rw [show wtLv cd Λ np ni ra l = l from csLv_ok (fun l h => by rw [upL_lt h]; exact upL_id h) ra l hl]
    refine ⟨by omega, fun y _ => ?_⟩
    rw [lft_c (by omega), if_neg (by omega)]
    omega) (fun y _ l q1 q2 => by rw [lft_c (by omega), if_pos (by omega)]) ni (Nat.le_refl _)
  have t9 := TR_bd (d := (np : Int) + 1 + ra + ni) (σ := []) (k := 6) (u := 99) (Or.inr rfl)
  have t10 := TR_gl (d := (np : Int) + 1 + ra + ni) (σ := [(np : Int) + 1 + ra + ni + 1]) (nu := nu) (np := np) (own := ni) (btw := 1 + ra) (aft := 0) (level := (np : Int) + 1 + ra) (by omega) (by omega) (by omega)
  obtain ⟨e, he⟩ : ∃ e : Int, e = (np : Int) + 1 + ra + ni + 1 := ⟨_, rfl⟩
  rw [← he] at t9 t10
  have t11 := TR_ap (d := e) (σ := []) (ni + 1)
  rw [rp_s] at t11
  have t12 := TR_md (d := e) (σ := rp (ni + 1) e []) (lv := (np : Int)) (by omega)
  rw [show e - 1 - (np : Int) = (ra : Int) + ni + 1 by omega] at t12
  have t13 := TR_mds (d := e) (σ := []) (lv := (np : Int) + 1 + ra) (by omega) (ni + 1)
  rw [show e - 1 - ((np : Int) + 1 + ra) = ni by omega] at t13
  exact TR_app (TR_app (TR_app (TR_app (TR_app (TR_app (TR_app (TR_app (TR_app (TR_app (TR_app (TR_app t1 t2) t3) t4) t5) t6) t7) t8) t9) t10) t11) t12) t13
/-- what brings writes -/
theorem TR_bg {xs : List Nd} (hc : Cpl xs) (hg : Gd xs) (hcl : Cls xs) {Λ : Nat → Int} {i ar ys np ni x0 : Nat} (hb : Bds xs i ys) (ha : dpS xs i = ar) (hs : Spn xs (unS xs i ys) np ni x0) (har : ar ≤ 100000) (hL : ∀ l : Nat, l < ar → Λ l = -1 - ((ar : Int) - l)) (P : Int) :
    TR [0] (brR xs Λ 5 ar 0 (-1) (-2 - (ar : Int)) i ys ni x0) [] (brC xs P ar 1 1 5 ((ar : Int) + 1) 0 i ys ni x0) := by
  refine TR_br hc hg hcl (Or.inl rfl) hb ha hs (by omega) (fun l hl => ?_) (by omega) (by omega) (by omega) (by omega)
  rw [hL l hl, lft_c (by omega)]
  refine ⟨by omega, ?_⟩
  split <;> omega
