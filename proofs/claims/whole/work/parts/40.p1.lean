/-! LISTS OF NODES: the stack of depths that wait (the top is the next node's), the settled list, the first term's length -/
def stp (k : Int) : List Int → Option (List Int)
  | [] => none
  | d :: σ => some (if k < 4 then σ else d :: (if k = 4 then d else d + 1) :: σ)
def rn : List Int → List Nd → Option (List Int)
  | σ, [] => some σ
  | σ, x :: xs => (stp x.1 σ).bind (fun τ => rn τ xs)
def sx (d : Int) (x : Nd) : Nd := if x.1 = 0 ∧ 500000 < x.2.1 then (x.1, d - 1 - (x.2.1 - 1000000), x.2.2) else x
def stl : List Int → List Nd → List Nd
  | _, [] => []
  | σ, x :: xs => sx (σ.headD 0) x :: stl ((stp x.1 σ).getD []) xs
theorem rn_app (xs ys : List Nd) : ∀ σ, rn σ (xs ++ ys) = (rn σ xs).bind (fun τ => rn τ ys) := by
  induction xs with
  | nil => intro σ; rfl
  | cons x xs ih =>
    intro σ
    show (stp x.1 σ).bind (fun τ => rn τ (xs ++ ys)) = ((stp x.1 σ).bind (fun τ => rn τ xs)).bind (fun τ => rn τ ys)
    cases h : stp x.1 σ with
    | none => rfl
    | some τ => exact ih τ
theorem rn_a {xs ys : List Nd} {σ τ υ : List Int} (h : rn σ xs = some τ) (k : rn τ ys = some υ) : rn σ (xs ++ ys) = some υ := by
  rw [rn_app, h]; exact k
theorem rn_b {xs ys : List Nd} {σ τ υ : List Int} (h : rn σ xs = some τ) (k : rn σ (xs ++ ys) = some υ) : rn τ ys = some υ := by
  rw [rn_app, h] at k; exact k
theorem rn_c {xs ys : List Nd} {σ υ : List Int} (k : rn σ (xs ++ ys) = some υ) : ∃ τ, rn σ xs = some τ ∧ rn τ ys = some υ := by
  rw [rn_app] at k
  cases h : rn σ xs with
  | none => rw [h] at k; exact absurd k (by simp)
  | some τ => rw [h] at k; exact ⟨τ, rfl, k⟩
theorem rn_1 {d : Int} {σ : List Int} {x : Nd} : rn (d :: σ) [x] = some (if x.1 < 4 then σ else d :: (if x.1 = 4 then d else d + 1) :: σ) := rfl
theorem rn_s {σ : List Int} {x : Nd} {xs : List Nd} {τ : List Int} (h : rn σ (x :: xs) = some τ) : ∃ d σ', σ = d :: σ' ∧ rn (if x.1 < 4 then σ' else d :: (if x.1 = 4 then d else d + 1) :: σ') xs = some τ := by
  cases σ with
  | nil => exact absurd h (by simp [rn, stp])
  | cons d σ' => exact ⟨d, σ', rfl, h⟩
theorem stl_app (xs ys : List Nd) : ∀ σ τ, rn σ xs = some τ → stl σ (xs ++ ys) = stl σ xs ++ stl τ ys := by
  induction xs with
  | nil => intro σ τ h; rw [show σ = τ from Option.some.inj h]; rfl
  | cons x xs ih =>
    intro σ τ h
    obtain ⟨d, σ', rfl, h'⟩ := rn_s h
    show sx d x :: stl _ (xs ++ ys) = (sx d x :: stl _ xs) ++ stl τ ys
    rw [List.cons_append]
    congr 1
    exact ih _ _ h'
theorem stl_len (xs : List Nd) : ∀ σ, (stl σ xs).length = xs.length := by
  induction xs with
  | nil => intro σ; rfl
  | cons x xs ih => intro σ; simp [stl, ih]
/-- from the stack σ the list ys brings to τ and settles as zs -/
def TR (σ : List Int) (ys : List Nd) (τ : List Int) (zs : List Nd) : Prop := rn σ ys = some τ ∧ stl σ ys = zs
theorem TR_nil {σ : List Int} : TR σ [] σ [] := ⟨rfl, rfl⟩
theorem TR_app {σ τ υ : List Int} {a b za zb : List Nd} (h : TR σ a τ za) (k : TR τ b υ zb) : TR σ (a ++ b) υ (za ++ zb) := ⟨rn_a h.1 k.1, by rw [stl_app _ _ _ _ h.1, h.2, k.2]⟩
theorem TR_bd {d : Int} {σ : List Int} {k u : Int} (h : k = 5 ∨ k = 6) : TR (d :: σ) [(k, u, 0)] (d :: (d + 1) :: σ) [(k, u, 0)] := by
  constructor
  · rw [rn_1]
    simp only
    rw [if_neg (by omega), if_neg (by omega)]
  · show [sx d (k, u, 0)] = _
    unfold sx
    rw [if_neg (by simp only; omega)]
theorem TR_lf {d : Int} {σ : List Int} {k u s : Int} (h : k < 4) (h0 : k ≠ 0) : TR (d :: σ) [(k, u, s)] σ [(k, u, s)] := by
  constructor
  · rw [rn_1]
    simp only
    rw [if_pos h]
  · show [sx d (k, u, s)] = _
    unfold sx
    rw [if_neg (by simp only; omega)]
theorem TR_md {d : Int} {σ : List Int} {lv : Int} (h : -400000 ≤ lv) : TR (d :: σ) [(0, 1000000 + lv, 0)] σ [(0, d - 1 - lv, 0)] := by
  constructor
  · rw [rn_1]
    simp only
    rw [if_pos (by omega)]
  · show [sx d (0, 1000000 + lv, 0)] = _
    unfold sx
    rw [if_pos ⟨rfl, by simp only; omega⟩]
    simp only
    rw [show 1000000 + lv - 1000000 = lv by omega]
theorem TR_vr {d : Int} {σ : List Int} {k u s : Int} (h : k < 4) (h0 : u ≤ 500000) : TR (d :: σ) [(k, u, s)] σ [(k, u, s)] := by
  constructor
  · rw [rn_1]
    simp only
    rw [if_pos h]
  · show [sx d (k, u, s)] = _
    unfold sx
    rw [if_neg (by simp only; omega)]
theorem TR_nd {d : Int} {σ : List Int} {k u s : Int} (h : 4 ≤ k) : TR (d :: σ) [(k, u, s)] (d :: (if k = 4 then d else d + 1) :: σ) [(k, u, s)] := by
  constructor
  · rw [rn_1]
    simp only
    rw [if_neg (by omega)]
  · show [sx d (k, u, s)] = _
    unfold sx
    rw [if_neg (by simp only; omega)]
/-- the length of the first term -/
def fs : Nat → List Nd → Nat
  | 0, _ => 0
  | _ + 1, [] => 0
  | f + 1, x :: xs => if x.1 < 4 then 1 else 1 + fs f xs + fs f (xs.drop (fs f xs))
theorem fs_f : ∀ (f g : Nat) (xs : List Nd), xs.length ≤ f → xs.length ≤ g → fs f xs = fs g xs := by
  intro f
  induction f with
  | zero =>
    intro g xs h _
    have : xs = [] := List.length_eq_zero_iff.mp (by omega)
    subst this
    cases g <;> rfl
  | succ f ih =>
    intro g xs h k
    cases xs with
    | nil => cases g <;> rfl
    | cons x xs =>
      cases g with
      | zero => simp at k
      | succ g =>
        simp only [List.length_cons] at h k
        simp only [fs]
        rw [ih g xs (by omega) (by omega), ih g (xs.drop (fs g xs)) (by rw [List.length_drop]; omega) (by rw [List.length_drop]; omega)]
theorem fs_A : ∀ (f : Nat) (xs : List Nd) (d : Int) (σ τ : List Int), xs.length ≤ f → rn (d :: σ) xs = some τ → τ.length ≤ σ.length → 1 ≤ fs f xs ∧ fs f xs ≤ xs.length ∧ ∀ d' σ', rn (d' :: σ') (xs.take (fs f xs)) = some σ' := by
  intro f
  induction f with
  | zero =>
    intro xs d σ τ h h1 h2
    have : xs = [] := List.length_eq_zero_iff.mp (by omega)
    subst this
    have := Option.some.inj h1
    subst this
    simp at h2
    omega
  | succ f ih =>
    intro xs d σ τ h h1 h2
    cases xs with
    | nil =>
      have := Option.some.inj h1
      subst this
      simp at h2
      omega
    | cons x xs =>
      simp only [List.length_cons] at h
      obtain ⟨d0, σ0, e, h'⟩ := rn_s h1
      obtain ⟨rfl, rfl⟩ := List.cons.inj e
      by_cases hx : x.1 < 4
      · simp only [fs]
        rw [if_pos hx]
        refine ⟨Nat.le_refl _, by simp, fun d' σ' => ?_⟩
        show rn (d' :: σ') [x] = _
        rw [rn_1, if_pos hx]
      · rw [if_neg hx] at h'
        obtain ⟨a1, a2, a3⟩ := ih xs d _ τ (by omega) h' (by simp; omega)
        have hd : rn ((if x.1 = 4 then d else d + 1) :: σ) (xs.drop (fs f xs)) = some τ := by
          rw [← List.take_append_drop (fs f xs) xs] at h'
          exact rn_b (a3 _ _) h'
        obtain ⟨b1, b2, b3⟩ := ih _ _ _ τ (by rw [List.length_drop]; omega) hd h2
        rw [List.length_drop] at b2
        simp only [fs]
        rw [if_neg hx]
        refine ⟨by omega, by simp; omega, fun d' σ' => ?_⟩
        rw [show 1 + fs f xs + fs f (xs.drop (fs f xs)) = (fs f xs + fs f (xs.drop (fs f xs))) + 1 by omega, List.take_succ_cons, List.take_add]
        show rn (if x.1 < 4 then σ' else d' :: (if x.1 = 4 then d' else d' + 1) :: σ') _ = some σ'
        rw [if_neg hx]
        exact rn_a (a3 _ _) (b3 _ _)
/-- the lengths of a list's places -/
def lnS (xs : List Nd) (i : Nat) : Nat := fs xs.length (xs.drop i)
/-- the stack at a place, the depth there -/
def sk (xs : List Nd) (i : Nat) : List Int := (rn [0] (xs.take i)).getD []
def dpS (xs : List Nd) (i : Nat) : Int := (sk xs i).headD 0
abbrev Cpl (xs : List Nd) : Prop := rn [0] xs = some []
theorem gN_drop {xs : List Nd} {i : Nat} (h : i < xs.length) : xs.drop i = gN xs i :: xs.drop (i + 1) := by
  rw [List.drop_eq_getElem_cons h]
  unfold gN
  rw [List.getD_eq_getElem?_getD, List.getElem?_eq_getElem h]
  rfl
theorem sk_ok {xs : List Nd} (hc : Cpl xs) {i : Nat} (h : i < xs.length) : ∃ d σ, rn [0] (xs.take i) = some (d :: σ) ∧ sk xs i = d :: σ ∧ dpS xs i = d ∧ rn (d :: σ) (xs.drop i) = some [] := by
  have h1 : rn [0] (xs.take i ++ xs.drop i) = some [] := by rw [List.take_append_drop]; exact hc
  obtain ⟨τ, e1, e2⟩ := rn_c h1
  rw [gN_drop h] at e2
  obtain ⟨d, σ, rfl, e3⟩ := rn_s e2
  refine ⟨d, σ, e1, by unfold sk; rw [e1]; rfl, by unfold dpS sk; rw [e1]; rfl, ?_⟩
  rw [gN_drop h]
  exact e2
theorem sk_s {xs : List Nd} (hc : Cpl xs) {i : Nat} (h : i < xs.length) {d : Int} {σ : List Int} (e : sk xs i = d :: σ) : sk xs (i + 1) = if (gN xs i).1 < 4 then σ else d :: (if (gN xs i).1 = 4 then d else d + 1) :: σ := by
  obtain ⟨d', σ', e1, e2, e3, e4⟩ := sk_ok hc h
  rw [e] at e2
  obtain ⟨rfl, rfl⟩ := List.cons.inj e2
  unfold sk
  rw [show xs.take (i + 1) = xs.take i ++ [gN xs i] from by
    rw [List.take_succ_eq_append_getElem h]
    unfold gN
    rw [List.getD_eq_getElem?_getD, List.getElem?_eq_getElem h]
    rfl, rn_a e1 rn_1]
  rfl
theorem lnS_d {xs : List Nd} {i f : Nat} (hf : xs.length - i ≤ f) : fs f (xs.drop i) = lnS xs i := fs_f _ _ _ (by rw [List.length_drop]; exact hf) (by rw [List.length_drop]; omega)
theorem lnS_ok {xs : List Nd} (hc : Cpl xs) {i : Nat} (h : i < xs.length) : 1 ≤ lnS xs i ∧ i + lnS xs i ≤ xs.length ∧ ∀ d σ, rn (d :: σ) ((xs.drop i).take (lnS xs i)) = some σ := by
  obtain ⟨d, σ, e1, e2, e3, e4⟩ := sk_ok hc h
  obtain ⟨a, b, c⟩ := fs_A xs.length (xs.drop i) d σ [] (by rw [List.length_drop]; omega) e4 (by simp)
  rw [List.length_drop] at b
  exact ⟨a, by unfold lnS; omega, c⟩
theorem sk_j {xs : List Nd} (hc : Cpl xs) {i : Nat} (h : i < xs.length) {d : Int} {σ : List Int} (e : sk xs i = d :: σ) : sk xs (i + lnS xs i) = σ := by
  obtain ⟨d', σ', e1, e2, e3, e4⟩ := sk_ok hc h
  have k := (lnS_ok hc h).2.2 d σ
  rw [e] at e2
  obtain ⟨rfl, rfl⟩ := List.cons.inj e2
  unfold sk
  rw [List.take_add, rn_a e1 k]
  rfl
theorem sk_end {xs : List Nd} (hc : Cpl xs) : sk xs xs.length = [] := by
  unfold sk
  rw [List.take_length, hc]
  rfl
theorem WF_S {xs : List Nd} (hc : Cpl xs) : WF xs.length (fun i => (gN xs i).1) (lnS xs) := by
  intro i h
  obtain ⟨d, σ, e1, e2, e3, e4⟩ := sk_ok hc h
  obtain ⟨a, b, c⟩ := lnS_ok hc h
  have hs := sk_s hc h e2
  have hd : lnS xs i = if (gN xs i).1 < 4 then 1 else 1 + lnS xs (i + 1) + lnS xs (i + 1 + lnS xs (i + 1)) := by
    show fs xs.length (xs.drop i) = _
    rw [gN_drop h]
    obtain ⟨f, hf⟩ : ∃ f, xs.length = f + 1 := ⟨xs.length - 1, by omega⟩
    rw [hf]
    simp only [fs]
    rw [List.drop_drop, lnS_d (by omega), lnS_d (by omega)]
  refine ⟨a, b, fun q => by rw [hd, if_pos q], fun q => ?_⟩
  have hn : ¬ (gN xs i).1 < 4 := by have q' : 4 ≤ (gN xs i).1 := q; omega
  rw [if_neg hn] at hs hd
  have h1 : i + 1 < xs.length := by
    apply Classical.byContradiction
    intro q2
    rw [show i + 1 = xs.length by omega, sk_end hc] at hs
    exact absurd hs (by simp)
  have h2 := sk_j hc h1 hs
  have l1 := lnS_ok hc h1
  have h3 : i + 1 + lnS xs (i + 1) < xs.length := by
    apply Classical.byContradiction
    intro q2
    rw [show i + 1 + lnS xs (i + 1) = xs.length by omega, sk_end hc] at h2
    exact absurd h2 (by simp)
  exact ⟨h1, h3, hd⟩

theorem fs_tk : ∀ (f : Nat) (xs : List Nd) (m : Nat), fs f xs ≤ m → fs f (xs.take m) = fs f xs := by
  intro f
  induction f with
  | zero => intro xs m _; rfl
  | succ f ih =>
    intro xs m h
    cases xs with
    | nil => simp
    | cons x xs =>
      cases m with
      | zero =>
        simp only [fs] at h
        split at h <;> omega
      | succ m =>
        rw [List.take_succ_cons]
        simp only [fs] at h ⊢
        by_cases q : x.1 < 4
        · rw [if_pos q, if_pos q]
        · rw [if_neg q] at h
          rw [if_neg q, if_neg q, ih xs m (by omega), List.drop_take, ih (xs.drop (fs f xs)) (m - fs f xs) (by omega)]
theorem WF_in {n : Nat} {k : Nat → Int} {ℓ : Nat → Nat} (h : WF n k ℓ) : ∀ (q i j : Nat), ℓ i ≤ q → i < n → i ≤ j → j < i + ℓ i → j + ℓ j ≤ i + ℓ i := by
  intro q
  induction q with
  | zero => intro i j hq hi; have := (h i hi).1; omega
  | succ q ih =>
    intro i j hq hi hj hj2
    obtain ⟨a1, a2, a3, a4⟩ := h i hi
    by_cases e : j = i
    · subst e; exact Nat.le_refl _
    · by_cases hk : k i < 4
      · have := a3 hk; omega
      · obtain ⟨b1, b2, b3⟩ := a4 (by omega)
        obtain ⟨c1, c2, -, -⟩ := h _ b1
        obtain ⟨d1, d2, -, -⟩ := h _ b2
        by_cases g : j < i + 1 + ℓ (i + 1)
        · have := ih (i + 1) j (by omega) b1 (by omega) (by omega)
          omega
        · have := ih (i + 1 + ℓ (i + 1)) j (by omega) b2 (by omega) (by omega)
          omega
/-! the walk's depths are the stack's -/
/-- the waiting depths of σ stand in δ at p and at the places behind it -/
def PD (n : Nat) (ℓ : Nat → Nat) (b : Nat) (δ : Nat → Int) : Nat → List Int → Prop
  | p, [] => p = n
  | p, d :: σ => p < n ∧ δ (b + p) = d ∧ PD n ℓ b δ (p + ℓ p) σ
theorem PD_cg {n : Nat} {ℓ : Nat → Nat} {b : Nat} {δ δ' : Nat → Int} : ∀ (σ : List Int) (p : Nat), (∀ x, p ≤ x → δ' (b + x) = δ (b + x)) → PD n ℓ b δ p σ → PD n ℓ b δ' p σ
  | [], p, _, h => h
  | d :: σ, p, e, h => ⟨h.1, by rw [e p (Nat.le_refl p)]; exact h.2.1, PD_cg σ _ (fun x hx => e x (by omega)) h.2.2⟩
/-- the list xs lies in F at b, kinds and lengths -/
def lyF (F : Nat → Nat → Int) (b : Nat) (xs : List Nd) : Prop := ∀ i, i < xs.length → F 0 (b + i) = (gN xs i).1 ∧ F 3 (b + i) = lnS xs i
theorem wkR_S {F : Nat → Nat → Int} {b : Nat} {xs : List Nd} (hc : Cpl xs) (hl : lyF F b xs) (D : Nat → Int) : ∀ m, m ≤ xs.length → 1 ≤ xs.length → PD xs.length (lnS xs) b (wkR F b D m) m (sk xs m) ∧ ∀ j, j < m → wkR F b D m (b + j) = dpS xs j := by
  intro m
  induction m with
  | zero =>
    intro _ h1
    refine ⟨?_, fun j hj => absurd hj (by omega)⟩
    have : sk xs 0 = [0] := by unfold sk; simp [rn]
    rw [this]
    refine ⟨h1, va_us, ?_⟩
    have e : sk xs 0 = 0 :: [] := this
    have k := sk_j hc (i := 0) (by omega) e
    have l := lnS_ok hc (i := 0) (by omega)
    show 0 + lnS xs 0 = xs.length
    apply Classical.byContradiction
    intro q
    obtain ⟨d, σ, -, e2, -, -⟩ := sk_ok hc (i := 0 + lnS xs 0) (by omega)
    rw [k] at e2
    exact absurd e2 (by simp)
  | succ m ih =>
    intro hm h1
    obtain ⟨hp, hj⟩ := ih (by omega) h1
    have hm' : m < xs.length := by omega
    obtain ⟨d, σ, e1, e2, e3, e4⟩ := sk_ok hc hm'
    have hs := sk_s hc hm' e2
    rw [e2] at hp
    obtain ⟨p1, p2, p3⟩ := hp
    obtain ⟨k0, k3⟩ := hl m hm'
    obtain ⟨w1, w2, w3, w4⟩ := WF_S hc m hm'
    have kk : (fun i => (gN xs i).1) m = (gN xs m).1 := rfl
    simp only [wkR]
    by_cases hk : 4 ≤ (gN xs m).1
    · obtain ⟨w5, w6, w7⟩ := w4 hk
      have g1 := (WF_S hc (m + 1) w5).1
      have g2 := (WF_S hc (m + 1 + lnS xs (m + 1)) w6).1
      have k3' := (hl (m + 1) w5).2
      have es : (scR F ((b + m : Nat) : Int)).toNat = b + (m + 1 + lnS xs (m + 1)) := by
        unfold scR
        rw [show (((b + m : Nat) : Int) + 1).toNat = b + (m + 1) by omega, k3']
        omega
      rw [if_pos (by rw [k0]; exact hk), show ((b : Int) + (m : Int)) = ((b + m : Nat) : Int) by omega, es, p2, k0]
      rw [if_neg (by omega)] at hs
      rw [hs]
      refine ⟨⟨w5, ?_, w6, ?_, ?_⟩, fun j hj' => ?_⟩
      · rw [va_un (by omega), show b + (m + 1) = b + m + 1 by omega, va_us]
      · rw [va_us]
      · rw [show m + 1 + lnS xs (m + 1) + lnS xs (m + 1 + lnS xs (m + 1)) = m + lnS xs m by omega]
        refine PD_cg σ _ (fun x hx => ?_) p3
        rw [va_un (by omega), va_un (by omega)]
      · rw [va_un (by omega), va_un (by omega)]
        by_cases q : j = m
        · subst q; rw [p2, e3]
        · exact hj j (by omega)
    · have l1 := w3 (by omega)
      rw [if_neg (by rw [k0]; exact hk)]
      rw [if_pos (by omega)] at hs
      rw [hs]
      rw [l1] at p3
      refine ⟨p3, fun j hj' => ?_⟩
      by_cases q : j = m
      · subst q; rw [p2, e3]
      · exact hj j (by omega)
theorem wkR_at {F : Nat → Nat → Int} {b : Nat} {xs : List Nd} (hc : Cpl xs) (hl : lyF F b xs) (D : Nat → Int) {m : Nat} (hm : m < xs.length) : wkR F b D m (b + m) = dpS xs m := by
  obtain ⟨d, σ, e1, e2, e3, e4⟩ := sk_ok hc hm
  have h := (wkR_S hc hl D m (by omega) (by omega)).1
  rw [e2] at h
  rw [h.2.1, e3]
theorem wkR_end {F : Nat → Nat → Int} {b : Nat} {xs : List Nd} (hc : Cpl xs) (hl : lyF F b xs) (D : Nat → Int) {j : Nat} (hj : j < xs.length) : wkR F b D xs.length (b + j) = dpS xs j := (wkR_S hc hl D xs.length (Nat.le_refl _) (by omega)).2 j hj
/-! a run of places that is a term: its own list, its lengths and depths -/
def sub (xs : List Nd) (i : Nat) : List Nd := (xs.drop i).take (lnS xs i)
/-- all depths more by a -/
def shf (a : Int) (σ : List Int) : List Int := σ.map (· + a)
theorem rn_shf (a : Int) : ∀ (xs : List Nd) (σ τ : List Int), rn σ xs = some τ → rn (shf a σ) xs = some (shf a τ) := by
  intro xs
  induction xs with
  | nil => intro σ τ h; rw [show σ = τ from Option.some.inj h]; rfl
  | cons x xs ih =>
    intro σ τ h
    obtain ⟨d, σ', rfl, h'⟩ := rn_s h
    have := ih _ _ h'
    show rn (if x.1 < 4 then shf a σ' else (d + a) :: (if x.1 = 4 then d + a else d + a + 1) :: shf a σ') xs = _
    rw [← this]
    congr 1
    by_cases q : x.1 < 4
    · rw [if_pos q, if_pos q]
    · rw [if_neg q, if_neg q]
      show _ = (d + a) :: ((if x.1 = 4 then d else d + 1) + a) :: shf a σ'
      by_cases q2 : x.1 = 4
      · rw [if_pos q2, if_pos q2]
      · rw [if_neg q2, if_neg q2]; congr 2; omega
/-- a deeper stack below changes nothing -/
theorem rn_low (ρ : List Int) : ∀ (xs : List Nd) (σ τ : List Int), rn σ xs = some τ → rn (σ ++ ρ) xs = some (τ ++ ρ) := by
  intro xs
  induction xs with
  | nil => intro σ τ h; rw [show σ = τ from Option.some.inj h]; rfl
  | cons x xs ih =>
    intro σ τ h
    obtain ⟨d, σ', rfl, h'⟩ := rn_s h
    have := ih _ _ h'
    show rn (if x.1 < 4 then σ' ++ ρ else d :: (if x.1 = 4 then d else d + 1) :: (σ' ++ ρ)) xs = _
    rw [← this]
    congr 1
    by_cases q : x.1 < 4
    · rw [if_pos q, if_pos q]
    · rw [if_neg q, if_neg q]; rfl
theorem sub_len {xs : List Nd} (hc : Cpl xs) {i : Nat} (h : i < xs.length) : (sub xs i).length = lnS xs i := by
  have := lnS_ok hc h
  unfold sub
  rw [List.length_take, List.length_drop]
  omega
theorem sub_c {xs : List Nd} (hc : Cpl xs) {i : Nat} (h : i < xs.length) : Cpl (sub xs i) := (lnS_ok hc h).2.2 0 []
theorem sub_at {xs : List Nd} {i j : Nat} (hj : j < lnS xs i) : gN (sub xs i) j = gN xs (i + j) := by
  unfold sub gN
  rw [List.getD_eq_getElem?_getD, List.getD_eq_getElem?_getD, List.getElem?_take, if_pos hj, List.getElem?_drop]
theorem sub_ln {xs : List Nd} (hc : Cpl xs) {i j : Nat} (h : i < xs.length) (hj : j < lnS xs i) : lnS (sub xs i) j = lnS xs (i + j) := by
  have hn := WF_in (WF_S hc) _ i (i + j) (Nat.le_refl _) h (by omega) (by omega)
  have ho := lnS_ok hc h
  unfold lnS
  rw [sub_len hc h]
  show fs (lnS xs i) (List.drop j (List.take (lnS xs i) (List.drop i xs))) = lnS xs (i + j)
  rw [List.drop_take, List.drop_drop]
  have e : fs xs.length (xs.drop (i + j)) = lnS xs (i + j) := rfl
  have e2 := fs_tk xs.length (xs.drop (i + j)) (lnS xs i - j) (by rw [e]; omega)
  rw [e] at e2
  rw [← e2]
  exact fs_f _ _ _ (by rw [List.length_take]; omega) (by rw [List.length_take]; omega)
theorem sub_sk {xs : List Nd} (hc : Cpl xs) {i j : Nat} (h : i < xs.length) (hj : j < lnS xs i) {σ : List Int} : ∃ e υ, rn (dpS xs i :: σ) ((sub xs i).take j) = some (e :: (υ ++ σ)) ∧ e = dpS xs i + dpS (sub xs i) j ∧ sk xs i = dpS xs i :: (sk xs i).tail := by
  obtain ⟨d, ρ, e1, e2, e3, e4⟩ := sk_ok hc h
  have hs := sub_c hc h
  obtain ⟨f, υ, f1, f2, f3, f4⟩ := sk_ok hs (i := j) (by rw [sub_len hc h]; exact hj)
  have g1 := rn_low σ _ _ _ (rn_shf d _ _ _ f1)
  refine ⟨f + d, shf d υ, ?_, by rw [f3, e3]; omega, by rw [e2, e3]; rfl⟩
  rw [e3]
  have g2 : rn ((0 + d) :: σ) ((sub xs i).take j) = some ((f + d) :: (shf d υ ++ σ)) := g1
  rw [show (0 : Int) + d = d by omega] at g2
  exact g2
theorem sub_dp {xs : List Nd} (hc : Cpl xs) {i j : Nat} (h : i < xs.length) (hj : j < lnS xs i) : dpS xs (i + j) = dpS xs i + dpS (sub xs i) j := by
  obtain ⟨d, ρ, e1, e2, e3, e4⟩ := sk_ok hc h
  obtain ⟨e, υ, g1, g2, g3⟩ := sub_sk hc h hj (σ := ρ)
  have : rn [0] (xs.take (i + j)) = some (e :: (υ ++ ρ)) := by
    rw [List.take_add]
    refine rn_a e1 ?_
    rw [e3] at g1
    rw [← g1]
    unfold sub
    rw [List.take_take, Nat.min_eq_left (by omega)]
  show ((rn [0] (xs.take (i + j))).getD []).headD 0 = _
  rw [this]
  exact g2
/-! kinds alone drive the stack; a settled place -/
theorem rn_k : ∀ (xs ys : List Nd) (σ : List Int), xs.map (·.1) = ys.map (·.1) → rn σ xs = rn σ ys := by
  intro xs
  induction xs with
  | nil =>
    intro ys σ h
    cases ys with
    | nil => rfl
    | cons y ys => simp at h
  | cons x xs ih =>
    intro ys σ h
    cases ys with
    | nil => simp at h
    | cons y ys =>
      simp only [List.map_cons, List.cons.injEq] at h
      show (stp x.1 σ).bind (fun τ => rn τ xs) = (stp y.1 σ).bind (fun τ => rn τ ys)
      rw [h.1]
      cases stp y.1 σ with
      | none => rfl
      | some τ => exact ih ys τ h.2
theorem gN_ext {xs ys : List Nd} (hl : xs.length = ys.length) (h : ∀ i, i < xs.length → gN xs i = gN ys i) : xs = ys := by
  refine List.ext_getElem hl (fun i h1 h2 => ?_)
  have := h i h1
  unfold gN at this
  rw [List.getD_eq_getElem?_getD, List.getD_eq_getElem?_getD, List.getElem?_eq_getElem h1, List.getElem?_eq_getElem h2] at this
  exact this
theorem map_ext {xs ys : List Nd} (hl : xs.length = ys.length) (h : ∀ i, i < xs.length → (gN xs i).1 = (gN ys i).1) : xs.map (·.1) = ys.map (·.1) := by
  refine List.ext_getElem (by simp [hl]) (fun i h1 h2 => ?_)
  rw [List.length_map] at h1 h2
  have := h i h1
  unfold gN at this
  rw [List.getD_eq_getElem?_getD, List.getD_eq_getElem?_getD, List.getElem?_eq_getElem h1, List.getElem?_eq_getElem h2] at this
  simpa using this
theorem stl_at : ∀ (ys : List Nd) (σ : List Int) (j : Nat) (e : Int) (υ : List Int), j < ys.length → rn σ (ys.take j) = some (e :: υ) → gN (stl σ ys) j = sx e (gN ys j) := by
  intro ys
  induction ys with
  | nil => intro σ j e υ h; exact absurd h (by simp)
  | cons y ys ih =>
    intro σ j e υ h k
    cases j with
    | zero =>
      have := Option.some.inj k
      subst this
      rfl
    | succ j =>
      rw [List.take_succ_cons] at k
      obtain ⟨d, σ', rfl, k'⟩ := rn_s k
      exact ih _ j e υ (by simpa using h) k'
/-! A PIECE: what the reference writes of a term's run of places, and what the class writes of it -/
/-- the reference's node: levels Λ, around ar, depth d in the source -/
def pq (Λ : Nat → Int) (ar d : Int) (x : Nd) : Nd := if x.1 = 0 ∧ d - 1 - x.2.1 < ar then (0, 1000000 + Λ (d - 1 - x.2.1).toNat, 0) else x
/-- the class's node -/
def cq (P ar al pp d : Int) (x : Nd) : Nd := if x.1 = 0 then (x.1, if ar ≤ d - 1 - x.2.1 then x.2.1 else x.2.1 + (if P ≤ d - 1 - x.2.1 then al else pp), x.2.2) else x
def pqS (xs : List Nd) (Λ : Nat → Int) (ar : Int) (i : Nat) : Nat → List Nd
  | 0 => []
  | n + 1 => pqS xs Λ ar i n ++ [pq Λ ar (dpS xs (i + n)) (gN xs (i + n))]
def cqS (xs : List Nd) (P ar al pp : Int) (i : Nat) : Nat → List Nd
  | 0 => []
  | n + 1 => cqS xs P ar al pp i n ++ [cq P ar al pp (dpS xs (i + n)) (gN xs (i + n))]
theorem pqS_len (xs : List Nd) (Λ : Nat → Int) (ar : Int) (i : Nat) : ∀ n, (pqS xs Λ ar i n).length = n
  | 0 => rfl
  | n + 1 => by simp [pqS, pqS_len xs Λ ar i n]
theorem cqS_len (xs : List Nd) (P ar al pp : Int) (i : Nat) : ∀ n, (cqS xs P ar al pp i n).length = n
  | 0 => rfl
  | n + 1 => by simp [cqS, cqS_len xs P ar al pp i n]
theorem gN_1 (x : Nd) : gN [x] 0 = x := rfl
theorem pqS_at {xs : List Nd} {Λ : Nat → Int} {ar : Int} {i : Nat} : ∀ {n j : Nat}, j < n → gN (pqS xs Λ ar i n) j = pq Λ ar (dpS xs (i + j)) (gN xs (i + j))
  | 0, j, h => absurd h (by omega)
  | n + 1, j, h => by
    simp only [pqS]
    by_cases q : j < n
    · rw [gN_l (by rw [pqS_len]; exact q)]; exact pqS_at q
    · have := pqS_len xs Λ ar i n
      rw [show j = (pqS xs Λ ar i n).length + 0 by omega, gN_r, gN_1, this]
      rfl
theorem cqS_at {xs : List Nd} {P ar al pp : Int} {i : Nat} : ∀ {n j : Nat}, j < n → gN (cqS xs P ar al pp i n) j = cq P ar al pp (dpS xs (i + j)) (gN xs (i + j))
  | 0, j, h => absurd h (by omega)
  | n + 1, j, h => by
    simp only [cqS]
    by_cases q : j < n
    · rw [gN_l (by rw [cqS_len]; exact q)]; exact cqS_at q
    · have := cqS_len xs P ar al pp i n
      rw [show j = (cqS xs P ar al pp i n).length + 0 by omega, gN_r, gN_1, this]
      rfl
theorem cqS_add (xs : List Nd) (P ar al pp : Int) (i m : Nat) : ∀ n, cqS xs P ar al pp i (m + n) = cqS xs P ar al pp i m ++ cqS xs P ar al pp (i + m) n
  | 0 => by simp [cqS]
  | n + 1 => by
    rw [← Nat.add_assoc]
    simp only [cqS]
    rw [cqS_add xs P ar al pp i m n, List.append_assoc, Nat.add_assoc i m n]
theorem gN_take {xs : List Nd} {i m : Nat} (h : i < m) : gN (xs.take m) i = gN xs i := by
  unfold gN
  rw [List.getD_eq_getElem?_getD, List.getD_eq_getElem?_getD, List.getElem?_take, if_pos h]
/-- the source's places are good: a variable has no sort and a small number -/
def Gd (xs : List Nd) : Prop := ∀ i, i < xs.length → (gN xs i).1 = 0 → (gN xs i).2.2 = 0 ∧ 0 ≤ (gN xs i).2.1 ∧ (gN xs i).2.1 ≤ 500000
def lft (P ar al pp l : Int) : Int := if ar ≤ l then 0 else if P ≤ l then al else pp
theorem TR_pc {xs : List Nd} (hc : Cpl xs) (hg : Gd xs) {Λ : Nat → Int} {P arC al pp d : Int} {σ : List Int} {i : Nat} (h : i < xs.length) (ha : ∀ l, dpS xs i ≤ l → lft P arC al pp l = 0) (hcl : ∀ j, j < xs.length → (gN xs j).1 = 0 → (gN xs j).2.1 < dpS xs j)
    (hL : ∀ l : Int, 0 ≤ l → l < dpS xs i → -400000 ≤ Λ l.toNat ∧ Λ l.toNat = l + d - dpS xs i - lft P arC al pp l) :
    TR (d :: σ) (pqS xs Λ (dpS xs i) i (lnS xs i)) σ (cqS xs P arC al pp i (lnS xs i)) := by
  have hk : ∀ j, j < lnS xs i → (gN (pqS xs Λ (dpS xs i) i (lnS xs i)) j).1 = (gN (sub xs i) j).1 := by
    intro j hj
    rw [pqS_at hj, sub_at hj]
    unfold pq
    split
    · rename_i q; exact q.1.symm
    · rfl
  have hkk : ∀ (τ : List Int) m, m ≤ lnS xs i → rn τ ((pqS xs Λ (dpS xs i) i (lnS xs i)).take m) = rn τ ((sub xs i).take m) := by
    intro τ m hm
    apply rn_k
    apply map_ext
    · rw [List.length_take, List.length_take, pqS_len, sub_len hc h]
    · intro j hj
      rw [List.length_take, pqS_len] at hj
      rw [gN_take (by omega), gN_take (by omega)]
      exact hk j (by omega)
  have hsh : ∀ m υ, m ≤ lnS xs i → rn [0] ((sub xs i).take m) = some υ → rn (d :: σ) ((pqS xs Λ (dpS xs i) i (lnS xs i)).take m) = some (shf d υ ++ σ) := by
    intro m υ hm e
    rw [hkk _ m hm]
    have g1 := rn_low σ _ _ _ (rn_shf d _ _ _ e)
    have g2 : rn ((0 + d) :: σ) ((sub xs i).take m) = some (shf d υ ++ σ) := g1
    rw [show (0 : Int) + d = d by omega] at g2
    exact g2
  constructor
  · have := hsh (lnS xs i) [] (Nat.le_refl _) (by rw [List.take_of_length_le (by rw [sub_len hc h]; exact Nat.le_refl _)]; exact sub_c hc h)
    rw [List.take_of_length_le (by rw [pqS_len]; exact Nat.le_refl _)] at this
    exact this
  · apply gN_ext
    · rw [stl_len, pqS_len, cqS_len]
    · intro j hj
      rw [stl_len, pqS_len] at hj
      have hs := sub_c hc h
      obtain ⟨f, υ, f1, f2, f3, f4⟩ := sk_ok hs (i := j) (by rw [sub_len hc h]; exact hj)
      have e1 := hsh j _ (by omega) f1
      have e2 := stl_at _ _ j (f + d) _ (by rw [pqS_len]; exact hj) e1
      have e3 := sub_dp hc h hj
      have hin : i + j < xs.length := by have := lnS_ok hc h; omega
      rw [e2, pqS_at hj, cqS_at hj]
      have hg' := hg (i + j) hin
      have hc' := hcl (i + j) hin
      generalize gN xs (i + j) = x at hg' hc'
      rw [f3] at e3
      rw [e3] at hc' ⊢
      generalize dpS xs i = a at ha hL hc' ⊢
      obtain ⟨k, u, s⟩ := x
      simp only at hg' hc'
      by_cases hk0 : k = 0
      · subst hk0
        obtain ⟨g1, g2, g3⟩ := hg' rfl
        have hc2 := hc' rfl
        subst g1
        by_cases hl : a + f - 1 - u < a
        · have hq : pq Λ a (a + f) (0, u, 0) = (0, 1000000 + Λ (a + f - 1 - u).toNat, 0) := by
            unfold pq
            rw [if_pos ⟨rfl, hl⟩]
          obtain ⟨l1, l2⟩ := hL (a + f - 1 - u) (by omega) hl
          rw [hq]
          unfold sx cq
          simp only
          rw [if_pos ⟨trivial, by omega⟩, if_pos trivial, l2]
          unfold lft
          congr 2
          by_cases q1 : arC ≤ a + f - 1 - u
          · rw [if_pos q1, if_pos q1]; omega
          · rw [if_neg q1, if_neg q1]
            by_cases q2 : P ≤ a + f - 1 - u
            · rw [if_pos q2]; omega
            · rw [if_neg q2]; omega
        · have hq : pq Λ a (a + f) (0, u, 0) = (0, u, 0) := by
            unfold pq
            rw [if_neg (by simp only; omega)]
          rw [hq]
          have hz := ha (a + f - 1 - u) (by omega)
          unfold lft at hz
          unfold sx cq
          simp only
          rw [if_neg (by omega), if_pos trivial]
          congr 2
          by_cases q1 : arC ≤ a + f - 1 - u
          · rw [if_pos q1]
          · rw [if_neg q1] at hz
            rw [if_neg q1, hz]; omega
      · have hq : pq Λ a (a + f) (k, u, s) = (k, u, s) := by
          unfold pq
          rw [if_neg (by simp only; omega)]
        rw [hq]
        unfold sx cq
        simp only
        rw [if_neg (by omega), if_neg hk0]
/-! THE RAW LISTS of the reference, and how they settle -/
def mdL (lv : Int) : Nat → List Nd
  | 0 => []
  | n + 1 => mdL lv n ++ [(0, 1000000 + (lv + n), 0)]
theorem mdL_len (lv : Int) : ∀ n, (mdL lv n).length = n
  | 0 => rfl
  | n + 1 => by simp [mdL, mdL_len lv n]
def rp (n : Nat) (d : Int) (σ : List Int) : List Int := List.replicate n d ++ σ
theorem rp_s (n : Nat) (d : Int) (σ : List Int) : rp (n + 1) d σ = d :: rp n d σ := rfl
theorem rp_a (m n : Nat) (d : Int) (σ : List Int) : rp m d (rp n d σ) = rp (m + n) d σ := by
  unfold rp
  rw [← List.append_assoc, List.replicate_append_replicate]
theorem TR_ap {d : Int} {σ : List Int} : ∀ n, TR (d :: σ) (apL n) (rp (n + 1) d σ) (apL n)
  | 0 => TR_nil
  | n + 1 => by
    rw [apL_s]
    refine TR_app (TR_ap n) ?_
    have := TR_nd (d := d) (σ := rp n d σ) (k := 4) (u := 0) (s := 0) (by omega)
    exact this
theorem TR_mds {d : Int} {σ : List Int} {lv : Int} (h : -400000 ≤ lv) : ∀ n, TR (rp n d σ) (mdL lv n) σ (vrL (d - 1 - lv) n) := by
  intro n
  induction n generalizing σ with
  | zero => exact TR_nil
  | succ n ih =>
    simp only [mdL, vrL]
    rw [show n + 1 = n + 1 from rfl, ← rp_a n 1]
    refine TR_app ih ?_
    have := TR_md (d := d) (σ := σ) (lv := lv + n) (by omega)
    rw [show d - 1 - (lv + n) = d - 1 - lv - n by omega] at this
    exact this
/-- the levels behind y steps from place v on, levels lv, lv + 1, .. -/
def upL (Λ : Nat → Int) (v : Nat) (lv : Int) (y : Nat) : Nat → Int := fun x => if v ≤ x ∧ x < v + y then lv + ((x : Int) - v) else Λ x
theorem upL_0 (Λ : Nat → Int) (v : Nat) (lv : Int) : upL Λ v lv 0 = Λ := by
  funext x
  unfold upL
  rw [if_neg (by omega)]
theorem upL_s (Λ : Nat → Int) (v : Nat) (lv : Int) (y : Nat) : va_up (upL Λ v lv y) (v + y) (lv + y) = upL Λ v lv (y + 1) := by
  funext x
  unfold upL va_up
  by_cases h : x = v + y
  · rw [if_pos h, if_pos (by omega)]; omega
  · rw [if_neg h]
    dsimp only
    by_cases q : v ≤ x ∧ x < v + y
    · rw [if_pos q, if_pos (by omega)]
    · rw [if_neg q, if_neg (by omega)]
theorem upL_lt {Λ : Nat → Int} {v : Nat} {lv : Int} {y x : Nat} (h : x < v) : upL Λ v lv y x = Λ x := by
  unfold upL
  rw [if_neg (by omega)]
theorem upL_in {Λ : Nat → Int} {v : Nat} {lv : Int} {y x : Nat} (h : v ≤ x ∧ x < v + y) : upL Λ v lv y x = lv + ((x : Int) - v) := by
  unfold upL
  rw [if_pos h]
/-- the place under n binders; behind n terms -/
def unS (xs : List Nd) (i : Nat) : Nat → Nat
  | 0 => i
  | n + 1 => unS xs i n + 1 + lnS xs (unS xs i n + 1)
def ixS (xs : List Nd) (i : Nat) : Nat → Nat
  | 0 => i
  | n + 1 => ixS xs i n + lnS xs (ixS xs i n)
/-- n binders of the source copied: the reference's raw list, the class's list -/
def bnR (xs : List Nd) (Λ : Nat → Int) (k : Int) (ar : Nat) (lv : Int) (i : Nat) : Nat → List Nd
  | 0 => []
  | n + 1 => bnR xs Λ k ar lv i n ++ [(k, (gN xs (unS xs i n)).2.1, 0)] ++ pqS xs (upL Λ ar lv n) ((ar + n : Nat) : Int) (unS xs i n + 1) (lnS xs (unS xs i n + 1))
def bnC (xs : List Nd) (P : Int) (arf : Nat → Int) (al pp k : Int) (i : Nat) : Nat → List Nd
  | 0 => []
  | n + 1 => bnC xs P arf al pp k i n ++ [(k, (gN xs (unS xs i n)).2.1, 0)] ++ cqS xs P (arf n) al pp (unS xs i n + 1) (lnS xs (unS xs i n + 1))
/-- at the places under fewer than n binders of i there are binders -/
def Bds (xs : List Nd) (i n : Nat) : Prop := i < xs.length ∧ ∀ y, y < n → (gN xs (unS xs i y)).1 = 6
def Cls (xs : List Nd) : Prop := ∀ j, j < xs.length → (gN xs j).1 = 0 → (gN xs j).2.1 < dpS xs j
theorem Bds_ok {xs : List Nd} (hc : Cpl xs) {i n : Nat} (h : Bds xs i n) : ∀ y, y ≤ n → unS xs i y < xs.length ∧ dpS xs (unS xs i y) = dpS xs i + y ∧ (y < n → unS xs i y + 1 < xs.length ∧ dpS xs (unS xs i y + 1) = dpS xs i + y) := by
  intro y
  induction y with
  | zero =>
    intro _
    have h0 : unS xs i 0 = i := rfl
    refine ⟨h.1, by rw [h0]; omega, fun q => ?_⟩
    have hk := h.2 0 q
    rw [h0] at hk ⊢
    obtain ⟨d, σ, e1, e2, e3, e4⟩ := sk_ok hc h.1
    have hs := sk_s hc h.1 e2
    rw [if_neg (by omega)] at hs
    have w := (WF_S hc i h.1).2.2.2 (by show 4 ≤ (gN xs i).1; omega)
    refine ⟨w.1, ?_⟩
    unfold dpS at e3 ⊢
    rw [hs, e2]
    simp
  | succ y ih =>
    intro hy
    obtain ⟨a1, a2, a3⟩ := ih (by omega)
    obtain ⟨b1, b2⟩ := a3 (by omega)
    have hk := h.2 y (by omega)
    obtain ⟨d, σ, e1, e2, e3, e4⟩ := sk_ok hc a1
    have hs := sk_s hc a1 e2
    rw [if_neg (by omega), if_neg (by omega)] at hs
    have w := (WF_S hc _ a1).2.2.2 (by show 4 ≤ (gN xs (unS xs i y)).1; omega)
    have hj := sk_j hc b1 hs
    have hu : unS xs i (y + 1) = unS xs i y + 1 + lnS xs (unS xs i y + 1) := rfl
    have hin : unS xs i (y + 1) < xs.length := by rw [hu]; exact w.2.1
    have hd : dpS xs (unS xs i (y + 1)) = dpS xs i + (y + 1 : Nat) := by
      rw [hu]
      show (sk xs _).headD 0 = _
      rw [hj]
      show d + 1 = _
      omega
    refine ⟨hin, hd, fun q => ?_⟩
    have hk2 := h.2 (y + 1) q
    obtain ⟨d', σ', f1, f2, f3, f4⟩ := sk_ok hc hin
    have hs2 := sk_s hc hin f2
    rw [if_neg (by omega)] at hs2
    have w2 := (WF_S hc _ hin).2.2.2 (by show 4 ≤ (gN xs (unS xs i (y + 1))).1; omega)
    refine ⟨w2.1, ?_⟩
    show (sk xs _).headD 0 = _
    rw [hs2]
    show d' = _
    omega
theorem TR_bn {xs : List Nd} (hc : Cpl xs) (hg : Gd xs) (hcl : Cls xs) {Λ : Nat → Int} {k : Int} (hk : k = 5 ∨ k = 6) {P al pp d : Int} {arf : Nat → Int} {σ : List Int} {i ar : Nat} {n : Nat} (hb : Bds xs i n) (ha : dpS xs i = ar) (hf : ∀ y, y < n → ∀ l, ((ar + y : Nat) : Int) ≤ l → lft P (arf y) al pp l = 0) (hd : 0 ≤ d)
    (hL : ∀ l : Nat, l < ar → -400000 ≤ Λ l ∧ ∀ y, y < n → Λ l = l + d - ar - lft P (arf y) al pp l)
    (hz : ∀ y, y < n → ∀ l : Nat, ar ≤ l → l < ar + y → lft P (arf y) al pp l = 0) :
    ∀ m, m ≤ n → TR (d :: σ) (bnR xs Λ k ar d i m) ((d + m) :: σ) (bnC xs P arf al pp k i m) := by
  intro m
  induction m with
  | zero => intro _; rw [show d + ((0 : Nat) : Int) = d by omega]; exact TR_nil
  | succ m ih =>
    intro hm
    obtain ⟨b1, b2, b3⟩ := Bds_ok hc hb m (by omega)
    obtain ⟨c1, c2⟩ := b3 (by omega)
    simp only [bnR, bnC]
    refine TR_app (TR_app (ih (by omega)) (TR_bd (d := d + m) (σ := σ) hk)) ?_
    rw [show d + ((m + 1 : Nat) : Int) = d + m + 1 by omega, show ((ar + m : Nat) : Int) = dpS xs (unS xs i m + 1) by omega]
    refine TR_pc hc hg c1 (fun l hl => by rw [c2, ha] at hl; exact hf m (by omega) l (by omega)) hcl (fun l h0 h1 => ?_)
    rw [c2, ha] at h1 ⊢
    show _ ∧ _ = _ - lft P (arf m) al pp l
    by_cases q : l < ar
    · rw [upL_lt (by omega)]
      obtain ⟨g1, g2⟩ := hL l.toNat (by omega)
      have g3 := g2 m (by omega)
      rw [show ((l.toNat : Nat) : Int) = l by omega] at g3
      exact ⟨g1, by omega⟩
    · rw [upL_in (by omega)]
      have g1 := hz m (by omega) l.toNat (by omega) (by omega)
      rw [show ((l.toNat : Nat) : Int) = l by omega] at g1 ⊢
      exact ⟨by omega, by omega⟩
/-- n terms behind each other copied -/
def idR (xs : List Nd) (Λ : Nat → Int) (ar : Int) (i : Nat) : Nat → List Nd
  | 0 => []
  | n + 1 => idR xs Λ ar i n ++ pqS xs Λ ar (ixS xs i n) (lnS xs (ixS xs i n))
theorem ixS_le (xs : List Nd) (i : Nat) : ∀ n, i ≤ ixS xs i n
  | 0 => Nat.le_refl _
  | n + 1 => by have := ixS_le xs i n; simp only [ixS]; omega
theorem TR_id {xs : List Nd} (hc : Cpl xs) (hg : Gd xs) (hcl : Cls xs) {Λ : Nat → Int} {P arC al pp d : Int} {i : Nat} {ar : Int} {n : Nat} (hi : ∀ j, j < n → ixS xs i j < xs.length ∧ dpS xs (ixS xs i j) = ar) (hf : ∀ l, ar ≤ l → lft P arC al pp l = 0)
    (hL : ∀ l : Nat, l < ar → -400000 ≤ Λ l ∧ Λ l = l + d - ar - lft P arC al pp l) :
    ∀ m, m ≤ n → ∀ σ, TR (rp m d σ) (idR xs Λ ar i m) σ (cqS xs P arC al pp i (ixS xs i m - i)) := by
  intro m
  induction m with
  | zero => intro _ σ; rw [show ixS xs i 0 - i = 0 by simp [ixS]]; exact TR_nil
  | succ m ih =>
    intro hm σ
    obtain ⟨h1, h2⟩ := hi m (by omega)
    have hle := ixS_le xs i m
    simp only [idR, ixS]
    rw [show ixS xs i m + lnS xs (ixS xs i m) - i = (ixS xs i m - i) + lnS xs (ixS xs i m) by omega, cqS_add, show i + (ixS xs i m - i) = ixS xs i m by omega, ← rp_a m 1]
    refine TR_app (ih (by omega) _) ?_
    show TR (d :: σ) _ _ _
    subst h2
    refine TR_pc hc hg h1 hf hcl (fun l h0 h1 => ?_)
    obtain ⟨g1, g2⟩ := hL l.toNat (by omega)
    rw [show ((l.toNat : Nat) : Int) = l by omega] at g2
    exact ⟨g1, g2⟩
