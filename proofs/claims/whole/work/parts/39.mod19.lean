/-! the reference: what judge reads -/
def agJ (F G : Nat → Nat → Int) : Prop := G 0 = F 0 ∧ G 1 = F 1 ∧ G 3 = F 3 ∧ G 9 = F 9 ∧ G 10 = F 10
section AGJ
variable {F G : Nat → Nat → Int}
theorem agJ_un (h : agJ F G) : unR G = unR F := by
  funext b n
  exact unR_cg h.2.2.1 n
theorem agJ_ix (h : agJ F G) : ixR G = ixR F := by
  funext b n
  induction n with
  | zero => rfl
  | succ n ih => simp only [ixR]; rw [ih, h.2.2.1]
theorem agJ_hs (h : agJ F G) : hsB G = hsB F := by
  funext d b n
  induction n with
  | zero => rfl
  | succ n ih => simp only [hsB]; rw [ih, h.1, h.2.1]
theorem agJ_pr (h : agJ F G) : prR G = prR F := by
  funext p v n
  induction n with
  | zero => rfl
  | succ n ih => simp only [prR]; rw [ih, h.1, h.2.1]
theorem agJ_ip (h : agJ F G) : isPR G = isPR F := by
  funext d p a v
  unfold isPR
  rw [agJ_pr h, h.1, h.2.1, h.2.2.2.1, h.2.2.2.2]
theorem agJ_ay (h : agJ F G) : ayB G = ayB F := by
  funext b d n
  induction n with
  | zero => rfl
  | succ n ih => simp only [ayB]; rw [ih, agJ_un h, agJ_hs h, h.2.2.1]
theorem agJ_ij (h : agJ F G) : ijB G = ijB F := by
  funext p d n
  induction n with
  | zero => rfl
  | succ n ih => simp only [ijB]; rw [ih, agJ_ix h, agJ_hs h, h.2.2.1, h.2.2.2.1, h.2.2.2.2]
theorem agJ_jd (h : agJ F G) : jdR G = jdR F := by
  funext b d ar n a
  unfold jdR
  rw [agJ_un h, agJ_hs h, agJ_ip h, agJ_ay h, agJ_ij h, h.2.2.1, h.2.2.2.2]
theorem agJ_ok (h : agJ F G) {cap : Nat} {b ar : Int} {d n a : Nat} (k : JOK F cap b ar d n a) : JOK G cap b ar d n a := by
  unfold JOK at k ⊢
  rw [agJ_un h, agJ_ix h, agJ_ip h, h.1, h.2.2.1, h.2.2.2.1, h.2.2.2.2]
  exact k
end AGJ
theorem agJ_4 (F : Nat → Nat → Int) (D : Nat → Int) : agJ F (va_up F 4 D) := ⟨rfl, rfl, rfl, rfl, rfl⟩
