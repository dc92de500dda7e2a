/-! MAKER: the world that it writes in: the target's arrays, the depths, the reader, the maker; XS is what it wrote -/
abbrev Nd : Type := Int × Int × Int
def wrL (τ : Tm) (p : Int) : List Nd → Tm
  | [] => τ
  | x :: xs => wrL (setT τ p x.1 x.2.1 x.2.2) (p + 1) xs
theorem wrL_app (τ : Tm) (p : Int) : ∀ (xs ys : List Nd), wrL τ p (xs ++ ys) = wrL (wrL τ p xs) (p + (xs.length : Nat)) ys := by
  intro xs
  induction xs generalizing τ p with
  | nil => intro ys; simp [wrL]
  | cons x xs ih =>
    intro ys
    simp only [List.cons_append, wrL, ih, List.length_cons]
    congr 1
    omega
theorem setT_n (t : Tm) (i k u s : Int) : (setT t i k u s).1 = t.1 := by
  unfold setT
  split <;> rfl
theorem wrL_n (τ : Tm) (p : Int) : ∀ xs : List Nd, (wrL τ p xs).1 = τ.1 := by
  intro xs
  induction xs generalizing τ p with
  | nil => rfl
  | cons x xs ih => simp only [wrL]; rw [ih, setT_n]
abbrev mkC (rd : Nat) (tg : Option Nat) (pl : Int) (src : Option Nat) (P ar al pp : Int) : va_E := .inr (5, [.ref rd, va_rf tg, .int (iI pl), va_rf src, .int (iI P), .int (iI ar), .int (iI al), .int (iI pp)])
def tW (V : mv_V) (M : mv_M) (tg : Option Nat) (q : Q4) (τ : Tm) : mv_M := match tg with
  | none => M
  | some _ => wrTm V M q τ
def mW (V : mv_V) (M : mv_M) (mk rd dep : Nat) (tg : Option Nat) (q : Q4) (τ : Tm) (rdc : va_E) (δ : Nat → Int) (mkc : va_E) : mv_M := mv_up (mv_up (mv_up (tW V M tg q τ) dep (iA V 1000 δ)) rd rdc) mk mkc
/-- what holds of the map below: maker, reader, depths and target lie in it, apart -/
def HB (V : mv_V) (M : mv_M) (mk rd dep : Nat) (tg : Option Nat) (q : Q4) : Prop := (∃ vs, M mk = some (.inr (5, vs))) ∧ (∃ vs, M rd = some (.inr (4, vs))) ∧ (∃ f, M dep = some (iA V 1000 f)) ∧ (∀ h, tg = some h → ∃ τ, TmC V M h q τ ∧ τ.1 ≤ 1000) ∧ (∀ h, tg = some h → dep ≠ q.1 ∧ dep ≠ q.2.1 ∧ dep ≠ q.2.2.1 ∧ dep ≠ q.2.2.2)
/-- a place that is none of the arrays written in -/
def Off (dep : Nat) (tg : Option Nat) (q : Q4) (x : Nat) : Prop := x ≠ dep ∧ (tg ≠ none → x ≠ q.1 ∧ x ≠ q.2.1 ∧ x ≠ q.2.2.1 ∧ x ≠ q.2.2.2)
section MKR
variable {V : mv_V} {M : mv_M} {mk rd dep : Nat} {tg : Option Nat} {q : Q4} {τ : Tm} {rdc mkc : va_E} {δ : Nat → Int}
theorem tW_ne {x : Nat} (h : tg ≠ none → x ≠ q.1 ∧ x ≠ q.2.1 ∧ x ≠ q.2.2.1 ∧ x ≠ q.2.2.2) : tW V M tg q τ x = M x := by
  cases tg with
  | none => rfl
  | some a =>
    obtain ⟨h0, h1, h2, h3⟩ := h (by simp)
    exact wrTm_ne h0 h1 h2 h3
theorem HB.obj (hB : HB V M mk rd dep tg q) {x ci : Nat} {vs : List Value} (hx : M x = some (.inr (ci, vs))) : Off dep tg q x := by
  obtain ⟨-, -, ⟨f, hd⟩, ht, -⟩ := hB
  refine ⟨mv_ne hx hd (by simp), fun hn => ?_⟩
  obtain ⟨h, rfl⟩ := Option.ne_none_iff_exists'.mp hn
  obtain ⟨τ0, ⟨-, h0, h1, h2, h3, -⟩, -⟩ := ht h rfl
  exact ⟨mv_ne hx h0 (by simp), mv_ne hx h1 (by simp), mv_ne hx h2 (by simp), mv_ne hx h3 (by simp)⟩
theorem mW_mk : mW V M mk rd dep tg q τ rdc δ mkc mk = some mkc := mv_us
theorem mW_rd (hB : HB V M mk rd dep tg q) : mW V M mk rd dep tg q τ rdc δ mkc rd = some rdc := by
  obtain ⟨⟨v5, h5⟩, ⟨v4, h4⟩, -⟩ := hB
  unfold mW
  rw [mv_un (mv_ne h4 h5 (by simp))]
  exact mv_us
theorem mW_dep (hB : HB V M mk rd dep tg q) : mW V M mk rd dep tg q τ rdc δ mkc dep = some (iA V 1000 δ) := by
  obtain ⟨⟨v5, h5⟩, ⟨v4, h4⟩, ⟨f, hd⟩, -⟩ := hB
  unfold mW
  rw [mv_un (mv_ne hd h5 (by simp)), mv_un (mv_ne hd h4 (by simp))]
  exact mv_us
theorem mW_off {x : Nat} (h1 : x ≠ mk) (h2 : x ≠ rd) (ho : Off dep tg q x) : mW V M mk rd dep tg q τ rdc δ mkc x = M x := by
  unfold mW
  rw [mv_un h1, mv_un h2, mv_un ho.1, tW_ne ho.2]
theorem mW_o (hB : HB V M mk rd dep tg q) {x ci : Nat} {vs : List Value} (hx : M x = some (.inr (ci, vs))) (h4 : ci ≠ 4) (h5 : ci ≠ 5) : mW V M mk rd dep tg q τ rdc δ mkc x = some (.inr (ci, vs)) := by
  have ho := hB.obj hx
  obtain ⟨⟨v5, e5⟩, ⟨v4, e4⟩, -⟩ := hB
  rw [mW_off (mv_ne hx e5 (fun e => by cases e; exact h5 rfl)) (mv_ne hx e4 (fun e => by cases e; exact h4 rfl)) ho]
  exact hx
theorem mW_tm (hB : HB V M mk rd dep tg q) {h : Nat} (ht : tg = some h) : TmC V (mW V M mk rd dep tg q τ rdc δ mkc) h q τ := by
  have hB' := hB
  obtain ⟨⟨v5, e5⟩, ⟨v4, e4⟩, ⟨f, hd⟩, hT, hA⟩ := hB
  subst ht
  obtain ⟨τ0, hC, -⟩ := hT h rfl
  obtain ⟨d0, d1, d2, d3⟩ := hA h rfl
  have hC1 : TmC V (wrTm V M q τ) h q τ := wrTm_c hC
  obtain ⟨hh, h0, h1, h2, h3, -⟩ := hC
  obtain ⟨gh, g0, g1, g2, g3, gn⟩ := hC1
  refine ⟨mW_o hB' hh (by decide) (by decide), ?_, ?_, ?_, ?_, gn⟩
  · unfold mW; rw [mv_un (mv_ne h0 e5 (by simp)), mv_un (mv_ne h0 e4 (by simp)), mv_un d0.symm]; exact g0
  · unfold mW; rw [mv_un (mv_ne h1 e5 (by simp)), mv_un (mv_ne h1 e4 (by simp)), mv_un d1.symm]; exact g1
  · unfold mW; rw [mv_un (mv_ne h2 e5 (by simp)), mv_un (mv_ne h2 e4 (by simp)), mv_un d2.symm]; exact g2
  · unfold mW; rw [mv_un (mv_ne h3 e5 (by simp)), mv_un (mv_ne h3 e4 (by simp)), mv_un d3.symm]; exact g3
theorem mW_upm {c : va_E} : mv_up (mW V M mk rd dep tg q τ rdc δ mkc) mk c = mW V M mk rd dep tg q τ rdc δ c := mv_uu
theorem mW_upr (hB : HB V M mk rd dep tg q) {c : va_E} : mv_up (mW V M mk rd dep tg q τ rdc δ mkc) rd c = mW V M mk rd dep tg q τ c δ mkc := by
  obtain ⟨⟨v5, e5⟩, ⟨v4, e4⟩, -⟩ := hB
  unfold mW
  rw [mv_comm (mv_ne e5 e4 (by simp)), mv_uu]
theorem mW_upd (hB : HB V M mk rd dep tg q) {δ' : Nat → Int} : mv_up (mW V M mk rd dep tg q τ rdc δ mkc) dep (iA V 1000 δ') = mW V M mk rd dep tg q τ rdc δ' mkc := by
  obtain ⟨⟨v5, e5⟩, ⟨v4, e4⟩, ⟨f, hd⟩, -⟩ := hB
  unfold mW
  rw [mv_comm (mv_ne e5 hd (by simp)), mv_comm (mv_ne e4 hd (by simp)), mv_uu]
theorem mW_wr (hB : HB V M mk rd dep tg q) {h : Nat} (ht : tg = some h) {τ' : Tm} : wrTm V (mW V M mk rd dep tg q τ rdc δ mkc) q τ' = mW V M mk rd dep tg q τ' rdc δ mkc := by
  obtain ⟨⟨v5, e5⟩, ⟨v4, e4⟩, ⟨f, hd⟩, hT, hA⟩ := hB
  subst ht
  obtain ⟨τ0, ⟨hh, h0, h1, h2, h3, -⟩, -⟩ := hT h rfl
  obtain ⟨d0, d1, d2, d3⟩ := hA h rfl
  have n0 := mv_ne h0 e5 (by simp)
  have n1 := mv_ne h1 e5 (by simp)
  have n2 := mv_ne h2 e5 (by simp)
  have n3 := mv_ne h3 e5 (by simp)
  have m0 := mv_ne h0 e4 (by simp)
  have m1 := mv_ne h1 e4 (by simp)
  have m2 := mv_ne h2 e4 (by simp)
  have m3 := mv_ne h3 e4 (by simp)
  funext x
  by_cases x5 : x = mk
  · subst x5
    rw [wrTm_ne n0.symm n1.symm n2.symm n3.symm]
    unfold mW
    rw [mv_us, mv_us]
  · by_cases x4 : x = rd
    · subst x4
      rw [wrTm_ne m0.symm m1.symm m2.symm m3.symm]
      unfold mW
      rw [mv_un x5, mv_us, mv_un x5, mv_us]
    · by_cases xd : x = dep
      · subst xd
        rw [wrTm_ne d0 d1 d2 d3]
        unfold mW
        rw [mv_un x5, mv_un x4, mv_us, mv_un x5, mv_un x4, mv_us]
      · unfold mW
        rw [mv_un x5, mv_un x4, mv_un xd]
        show wrTm V _ q τ' x = wrTm V M q τ' x
        unfold wrTm
        split
        · rfl
        · split
          · rfl
          · split
            · rfl
            · split
              · rfl
              · rename_i a0 a1 a2 a3
                rw [mv_un x5, mv_un x4, mv_un xd]
                show wrTm V M q τ x = M x
                exact wrTm_ne a0 a1 a2 a3
theorem mW_none {τ' : Tm} : mW V M mk rd dep none q τ rdc δ mkc = mW V M mk rd dep none q τ' rdc δ mkc := rfl
theorem mW_src (hB : HB V M mk rd dep tg q) {h : Nat} {t : Tm} (hT : TermAt V M h t) (hO : ∀ a0 a1 a2 a3, M h = some (.inr (0, [.ref a0, .ref a1, .ref a2, .ref a3])) → Off dep tg q a0 ∧ Off dep tg q a1 ∧ Off dep tg q a2 ∧ Off dep tg q a3) : TermAt V (mW V M mk rd dep tg q τ rdc δ mkc) h t := by
  have hB' := hB
  obtain ⟨⟨v5, e5⟩, ⟨v4, e4⟩, -⟩ := hB
  obtain ⟨a0, a1, a2, a3, hh, h0, h1, h2, h3⟩ := hT
  obtain ⟨o0, o1, o2, o3⟩ := hO a0 a1 a2 a3 hh
  refine ⟨a0, a1, a2, a3, mW_o hB' hh (by decide) (by decide), ?_, ?_, ?_, ?_⟩
  · rw [mW_off (mv_ne h0 e5 (by simp)) (mv_ne h0 e4 (by simp)) o0]; exact h0
  · rw [mW_off (mv_ne h1 e5 (by simp)) (mv_ne h1 e4 (by simp)) o1]; exact h1
  · rw [mW_off (mv_ne h2 e5 (by simp)) (mv_ne h2 e4 (by simp)) o2]; exact h2
  · rw [mW_off (mv_ne h3 e5 (by simp)) (mv_ne h3 e4 (by simp)) o3]; exact h3
end MKR
/-- the maker's world when it wrote XS from place 0 on into τ -/
abbrev mX (V : mv_V) (M : mv_M) (mk rd dep : Nat) (tg : Option Nat) (q : Q4) (τ : Tm) (XS : List Nd) (rdc : va_E) (δ : Nat → Int) (src : Option Nat) (P ar al pp : Int) : mv_M := mW V M mk rd dep tg q (wrL τ 0 XS) rdc δ (mkC rd tg (XS.length : Nat) src P ar al pp)
theorem wrL_put (τ : Tm) (XS : List Nd) (k u s : Int) : setT (wrL τ 0 XS) (XS.length : Nat) k u s = wrL τ 0 (XS ++ [(k, u, s)]) := by
  rw [wrL_app]
  simp [wrL]
def lfN (t : Tm) (δ : Nat → Int) (P ar al pp i : Int) : Int := if kAt t i = 0 then (if ar ≤ dgt δ i - 1 - uAt t i then uAt t i else uAt t i + (if P ≤ dgt δ i - 1 - uAt t i then al else pp)) else uAt t i
/-- what a copy of n places from b on writes -/
def cpL (t : Tm) (δ : Nat → Int) (P ar al pp b : Int) : Nat → List Nd
  | 0 => []
  | n + 1 => cpL t δ P ar al pp b n ++ [(kAt t (b + n), lfN t δ P ar al pp (b + n), sAt t (b + n))]
theorem cpL_len (t : Tm) (δ : Nat → Int) (P ar al pp b : Int) : ∀ n, (cpL t δ P ar al pp b n).length = n
  | 0 => rfl
  | n + 1 => by simp [cpL, cpL_len]
def apL (n : Nat) : List Nd := List.replicate n (4, 0, 0)
theorem apL_s (n : Nat) : apL (n + 1) = apL n ++ [(4, 0, 0)] := List.replicate_succ'
theorem apL_len (n : Nat) : (apL n).length = n := List.length_replicate
def vrL (v : Int) : Nat → List Nd
  | 0 => []
  | n + 1 => vrL v n ++ [(0, v - n, 0)]
theorem vrL_len (v : Int) : ∀ n, (vrL v n).length = n
  | 0 => rfl
  | n + 1 => by simp [vrL, vrL_len]
set_option maxRecDepth 100000 in
set_option maxHeartbeats 4000000 in
theorem m_Maker_put {l : Launch} {V : mv_V} {M : mv_M} {mk rd dep : Nat} {tg : Option Nat} {q : Q4} {τ : Tm} {XS : List Nd} {rdc : va_E} {δ : Nat → Int} {src : Option Nat} {P ar al pp : Int} (hB : HB V M mk rd dep tg q) (hτ : τ.1 ≤ 1000) {k u s : Int} (hX : XS.length ≤ 1000000000) : Met l y_Maker_put ws_Maker_put (rM 1 0 0 24) (mv_Pre (kk V) [.ref mk, .int (iI (k)), .int (iI (u)), .int (iI (s))] (mX V M mk rd dep tg q τ XS rdc δ src P ar al pp)) (mv_Q (kk V) (mv_R none (mX V M mk rd dep tg q τ (XS ++ [(k, u, s)]) rdc δ src P ar al pp))) 0 0 V.2.2.2.2 := by
  refine mv_Met (by decide) rfl (Nat.le_of_ble_eq_true rfl) (fun X hX B => ?_)
  subst hX
  replace B : mv_B X (kk V) c_Maker_put ws_Maker_put "FamilyRules$Maker" 4 (Option.none : Option Jvm.ClassFile.FieldType) (rM 1 0 0 24) "put" := B
  obtain ⟨Q, hQ⟩ : ∃ Q, Q = mv_E X (kk V) (mv_R none (mX V M mk rd dep tg q τ (XS ++ [(k, u, s)]) rdc δ src P ar al pp)) 0 0 := ⟨_, rfl⟩
  rw [← hQ]
  show mv_G X Q (kk V) 4 0 [(0, .ref mk), (1, .int (iI (k))), (2, .int (iI (u))), (3, .int (iI (s)))] [] (mX V M mk rd dep tg q τ XS rdc δ src P ar al pp) 0 0
  refine mv_aloadR_n B d_Maker_put_0 rfl 0 rfl ?_
  refine gf_Maker_15 B mW_mk rfl d_Maker_put_1 ?_
  refine mv_ifnull (tgt := 21) B d_Maker_put_4 (by decide) (fun c1 => ?_) (fun a2 c1 => ?_)
  · subst c1
    refine mv_aloadR_n B d_Maker_put_21 rfl 0 rfl ?_
    refine mv_dup B d_Maker_put_22 rfl ?_
    refine gf_Maker_19 B mW_mk rfl d_Maker_put_23 ?_
    refine mv_iconst (z := 1) B d_Maker_put_26 rfl ?_
    refine mv_iadd B d_Maker_put_27 ?_
    refine pf_Maker_19 B mW_mk rfl rfl (Nat.le_of_ble_eq_true rfl) d_Maker_put_28 ?_
    show mv_G X Q (kk V) 4 31 [(0, .ref mk), (1, .int (iI (k))), (2, .int (iI (u))), (3, .int (iI (s)))] [] (mv_up (mX V M mk rd dep none q τ XS rdc δ src P ar al pp) mk (.inr (5, [.ref rd, va_rf (none), .int (iI ((XS.length : Nat) + 1)), va_rf (src), .int (iI (P)), .int (iI (ar)), .int (iI (al)), .int (iI (pp))]))) 0 0
    obtain ⟨M3, hM4⟩ : ∃ My : mv_M, My = mv_up (mX V M mk rd dep none q τ XS rdc δ src P ar al pp) mk (.inr (5, [.ref rd, va_rf (none), .int (iI ((XS.length : Nat) + 1)), va_rf (src), .int (iI (P)), .int (iI (ar)), .int (iI (al)), .int (iI (pp))])) := ⟨_, rfl⟩
    rw [← hM4]
    have hf5 : M3 mk = some (.inr (5, [.ref rd, va_rf (none), .int (iI ((XS.length : Nat) + 1)), va_rf (src), .int (iI (P)), .int (iI (ar)), .int (iI (al)), .int (iI (pp))])) := by rw [hM4]; exact mv_us
    rw [hQ]
    exact mv_vret B ⟨rfl, by rw [hM4, mW_upm]; simp only [mX, List.length_append, List.length_cons, List.length_nil]; first | rfl | (rw [mW_none]; rfl)⟩ (by omega) (by omega) d_Maker_put_31
  · obtain ⟨h, rfl⟩ : ∃ h, tg = some h := ⟨_, c1⟩
    refine mv_aloadR_n B d_Maker_put_7 rfl 0 rfl ?_
    refine gf_Maker_15 B mW_mk rfl d_Maker_put_8 ?_
    refine mv_aloadR_n B d_Maker_put_11 rfl 0 rfl ?_
    refine gf_Maker_19 B mW_mk rfl d_Maker_put_12 ?_
    refine mv_iload_n B d_Maker_put_15 rfl 1 rfl ?_
    refine mv_iload_n B d_Maker_put_16 rfl 2 rfl ?_
    refine mv_iload_n B d_Maker_put_17 rfl 3 rfl ?_
    refine ca_Maker_150 (mc := 0) (ms := 0) (As := [.int (iI ((XS.length : Nat))), .int (iI (k)), .int (iI (u)), .int (iI (s))]) (rest := []) B (m_Term_set (mW_tm hB rfl) (by rw [wrL_n]; exact hτ) (by omega)) rfl rfl ⟨Nat.le_of_ble_eq_true rfl, Nat.le_of_ble_eq_true rfl⟩ (mW_tm hB rfl).1 rfl rfl (Nat.le_of_ble_eq_true rfl) d_Maker_put_18 ⟨by omega, by omega⟩ (mv_x ?_)
    rw [mW_wr hB rfl, wrL_put]
    show mv_G X Q (kk V) 4 21 [(0, .ref mk), (1, .int (iI (k))), (2, .int (iI (u))), (3, .int (iI (s)))] [] (mW V M mk rd dep (some h) q (wrL τ 0 (XS ++ [(k, u, s)])) rdc δ (mkC rd (some h) (XS.length : Nat) src P ar al pp)) 0 0
    refine mv_aloadR_n B d_Maker_put_21 rfl 0 rfl ?_
    refine mv_dup B d_Maker_put_22 rfl ?_
    refine gf_Maker_19 B mW_mk rfl d_Maker_put_23 ?_
    refine mv_iconst (z := 1) B d_Maker_put_26 rfl ?_
    refine mv_iadd B d_Maker_put_27 ?_
    refine pf_Maker_19 B mW_mk rfl rfl (Nat.le_of_ble_eq_true rfl) d_Maker_put_28 ?_
    show mv_G X Q (kk V) 4 31 [(0, .ref mk), (1, .int (iI (k))), (2, .int (iI (u))), (3, .int (iI (s)))] [] (mv_up (mW V M mk rd dep (some h) q (wrL τ 0 (XS ++ [(k, u, s)])) rdc δ (mkC rd (some h) (XS.length : Nat) src P ar al pp)) mk (.inr (5, [.ref rd, .ref h, .int (iI ((XS.length : Nat) + 1)), va_rf (src), .int (iI (P)), .int (iI (ar)), .int (iI (al)), .int (iI (pp))]))) 0 0
    obtain ⟨M6, hM7⟩ : ∃ My : mv_M, My = mv_up (mW V M mk rd dep (some h) q (wrL τ 0 (XS ++ [(k, u, s)])) rdc δ (mkC rd (some h) (XS.length : Nat) src P ar al pp)) mk (.inr (5, [.ref rd, .ref h, .int (iI ((XS.length : Nat) + 1)), va_rf (src), .int (iI (P)), .int (iI (ar)), .int (iI (al)), .int (iI (pp))])) := ⟨_, rfl⟩
    rw [← hM7]
    have hf8 : M6 mk = some (.inr (5, [.ref rd, .ref h, .int (iI ((XS.length : Nat) + 1)), va_rf (src), .int (iI (P)), .int (iI (ar)), .int (iI (al)), .int (iI (pp))])) := by rw [hM7]; exact mv_us
    rw [hQ]
    exact mv_vret B ⟨rfl, by rw [hM7, mW_upm]; simp only [mX, List.length_append, List.length_cons, List.length_nil]; first | rfl | (rw [mW_none]; rfl)⟩ (by omega) (by omega) d_Maker_put_31
set_option maxRecDepth 100000 in
set_option maxHeartbeats 4000000 in
theorem m_Maker_lift {l : Launch} {V : mv_V} {M : mv_M} {mk rd dep : Nat} {tg : Option Nat} {q : Q4} {τ : Tm} {XS : List Nd} {rdc : va_E} {δ : Nat → Int} {src : Option Nat} {P ar al pp : Int} (hB : HB V M mk rd dep tg q) (hτ : τ.1 ≤ 1000) {a b c : Int} : Met l y_Maker_lift ws_Maker_lift (rM 0 0 0 0) (mv_Pre (kk V) [.ref mk, .int (iI (a)), .int (iI (b)), .int (iI (c))] (mX V M mk rd dep tg q τ XS rdc δ src P ar al pp)) (mv_Q (kk V) (mv_R none (mX V M mk rd dep tg q τ XS rdc δ src P a b c))) 0 0 V.2.2.2.2 := by
  refine mv_Met (by decide) rfl (Nat.le_of_ble_eq_true rfl) (fun X hX B => ?_)
  subst hX
  replace B : mv_B X (kk V) c_Maker_lift ws_Maker_lift "FamilyRules$Maker" 4 (Option.none : Option Jvm.ClassFile.FieldType) (rM 0 0 0 0) "lift" := B
  obtain ⟨Q, hQ⟩ : ∃ Q, Q = mv_E X (kk V) (mv_R none (mX V M mk rd dep tg q τ XS rdc δ src P a b c)) 0 0 := ⟨_, rfl⟩
  rw [← hQ]
  show mv_G X Q (kk V) 4 0 [(0, .ref mk), (1, .int (iI (a))), (2, .int (iI (b))), (3, .int (iI (c)))] [] (mX V M mk rd dep tg q τ XS rdc δ src P ar al pp) 0 0
  refine mv_aloadR_n B d_Maker_lift_0 rfl 0 rfl ?_
  refine mv_iload_n B d_Maker_lift_1 rfl 1 rfl ?_
  refine pf_Maker_129 B mW_mk rfl rfl (Nat.le_of_ble_eq_true rfl) d_Maker_lift_2 ?_
  show mv_G X Q (kk V) 4 5 [(0, .ref mk), (1, .int (iI (a))), (2, .int (iI (b))), (3, .int (iI (c)))] [] (mv_up (mX V M mk rd dep tg q τ XS rdc δ src P ar al pp) mk (.inr (5, [.ref rd, va_rf (tg), .int (iI ((XS.length : Nat))), va_rf (src), .int (iI (P)), .int (iI (a)), .int (iI (al)), .int (iI (pp))]))) 0 0
  obtain ⟨M1, hM2⟩ : ∃ My : mv_M, My = mv_up (mX V M mk rd dep tg q τ XS rdc δ src P ar al pp) mk (.inr (5, [.ref rd, va_rf (tg), .int (iI ((XS.length : Nat))), va_rf (src), .int (iI (P)), .int (iI (a)), .int (iI (al)), .int (iI (pp))])) := ⟨_, rfl⟩
  rw [← hM2]
  have hf3 : M1 mk = some (.inr (5, [.ref rd, va_rf (tg), .int (iI ((XS.length : Nat))), va_rf (src), .int (iI (P)), .int (iI (a)), .int (iI (al)), .int (iI (pp))])) := by rw [hM2]; exact mv_us
  refine mv_aloadR_n B d_Maker_lift_5 rfl 0 rfl ?_
  refine mv_iload_n B d_Maker_lift_6 rfl 2 rfl ?_
  refine pf_Maker_132 B hf3 rfl rfl (Nat.le_of_ble_eq_true rfl) d_Maker_lift_7 ?_
  show mv_G X Q (kk V) 4 10 [(0, .ref mk), (1, .int (iI (a))), (2, .int (iI (b))), (3, .int (iI (c)))] [] (mv_up M1 mk (.inr (5, [.ref rd, va_rf (tg), .int (iI ((XS.length : Nat))), va_rf (src), .int (iI (P)), .int (iI (a)), .int (iI (b)), .int (iI (pp))]))) 0 0
  obtain ⟨M4, hM5⟩ : ∃ My : mv_M, My = mv_up M1 mk (.inr (5, [.ref rd, va_rf (tg), .int (iI ((XS.length : Nat))), va_rf (src), .int (iI (P)), .int (iI (a)), .int (iI (b)), .int (iI (pp))])) := ⟨_, rfl⟩
  rw [← hM5]
  have hf6 : M4 mk = some (.inr (5, [.ref rd, va_rf (tg), .int (iI ((XS.length : Nat))), va_rf (src), .int (iI (P)), .int (iI (a)), .int (iI (b)), .int (iI (pp))])) := by rw [hM5]; exact mv_us
  refine mv_aloadR_n B d_Maker_lift_10 rfl 0 rfl ?_
  refine mv_iload_n B d_Maker_lift_11 rfl 3 rfl ?_
  refine pf_Maker_135 B hf6 rfl rfl (Nat.le_of_ble_eq_true rfl) d_Maker_lift_12 ?_
  show mv_G X Q (kk V) 4 15 [(0, .ref mk), (1, .int (iI (a))), (2, .int (iI (b))), (3, .int (iI (c)))] [] (mv_up M4 mk (.inr (5, [.ref rd, va_rf (tg), .int (iI ((XS.length : Nat))), va_rf (src), .int (iI (P)), .int (iI (a)), .int (iI (b)), .int (iI (c))]))) 0 0
  obtain ⟨M7, hM8⟩ : ∃ My : mv_M, My = mv_up M4 mk (.inr (5, [.ref rd, va_rf (tg), .int (iI ((XS.length : Nat))), va_rf (src), .int (iI (P)), .int (iI (a)), .int (iI (b)), .int (iI (c))])) := ⟨_, rfl⟩
  rw [← hM8]
  have hf9 : M7 mk = some (.inr (5, [.ref rd, va_rf (tg), .int (iI ((XS.length : Nat))), va_rf (src), .int (iI (P)), .int (iI (a)), .int (iI (b)), .int (iI (c))])) := by rw [hM8]; exact mv_us
  rw [hQ]
  exact mv_vret B ⟨rfl, by rw [hM8, hM5, hM2, mW_upm, mW_upm, mW_upm]⟩ (by omega) (by omega) d_Maker_lift_15
set_option maxRecDepth 100000 in
set_option maxHeartbeats 4000000 in
theorem m_Maker_putApplications {l : Launch} {V : mv_V} {M : mv_M} {mk rd dep : Nat} {tg : Option Nat} {q : Q4} {τ : Tm} {XS : List Nd} {rdc : va_E} {δ : Nat → Int} {src : Option Nat} {P ar al pp : Int} (hB : HB V M mk rd dep tg q) (hτ : τ.1 ≤ 1000) {n : Int} (hn : 0 ≤ n) (hX : XS.length + n ≤ 1000000000) : Met l y_Maker_putApplications ws_Maker_putApplications (rM 2 0 0 50) (mv_Pre (kk V) [.ref mk, .int (iI (n))] (mX V M mk rd dep tg q τ XS rdc δ src P ar al pp)) (mv_Q (kk V) (mv_R none (mX V M mk rd dep tg q τ (XS ++ apL n.toNat) rdc δ src P ar al pp))) 0 0 V.2.2.2.2 := by
  refine mv_Met (by decide) rfl (Nat.le_of_ble_eq_true rfl) (fun X hX B => ?_)
  subst hX
  replace B : mv_B X (kk V) c_Maker_putApplications ws_Maker_putApplications "FamilyRules$Maker" 3 (Option.none : Option Jvm.ClassFile.FieldType) (rM 2 0 0 50) "putApplications" := B
  obtain ⟨Q, hQ⟩ : ∃ Q, Q = mv_E X (kk V) (mv_R none (mX V M mk rd dep tg q τ (XS ++ apL n.toNat) rdc δ src P ar al pp)) 0 0 := ⟨_, rfl⟩
  rw [← hQ]
  show mv_G X Q (kk V) 3 0 [(0, .ref mk), (1, .int (iI (n)))] [] (mX V M mk rd dep tg q τ XS rdc δ src P ar al pp) 0 0
  refine mv_iconst (z := 0) B d_Maker_putApplications_0 rfl ?_
  refine mv_istore_n (lv' := [(2, .int (iI (0))), (0, .ref mk), (1, .int (iI (n)))]) B d_Maker_putApplications_1 rfl (by decide) rfl ?_
  have L2 : ∀ (fu : Nat) (i : Nat), ((i : Int) ≤ n) → (n.toNat - i) < fu → mv_G X Q (kk V) 3 2 [(2, .int (iI ((i : Nat)))), (0, .ref mk), (1, .int (iI (n)))] [] (mX V M mk rd dep tg q τ (XS ++ apL i) rdc δ src P ar al pp) 0 0 := by
    intro fu
    induction fu with
    | zero => intro i hi hm; exact absurd hm (Nat.not_lt_zero _)
    | succ fu ih2 =>
      intro i hi hm
      refine mv_iload_n B d_Maker_putApplications_2 rfl 0 rfl ?_
      refine mv_iload_n B d_Maker_putApplications_3 rfl 2 rfl ?_
      refine mv_icmp_ge (tgt := 20) B d_Maker_putApplications_4 (by decide) (by omega) (by omega) (fun c1 => ?_) (fun c1 => ?_)
      · rw [hQ]
        exact mv_vret B ⟨rfl, by rw [show n.toNat = i by omega]⟩ (by omega) (by omega) d_Maker_putApplications_20
      · refine mv_aloadR_n B d_Maker_putApplications_7 rfl 1 rfl ?_
        refine mv_iconst (z := 4) B d_Maker_putApplications_8 rfl ?_
        refine mv_iconst (z := 0) B d_Maker_putApplications_9 rfl ?_
        refine mv_iconst (z := 0) B d_Maker_putApplications_10 rfl ?_
        refine ca_Maker_78 (mc := 0) (ms := 0) (As := [.int (iI (4)), .int (iI (0)), .int (iI (0))]) (rest := []) B (m_Maker_put hB hτ (by simp only [List.length_append, apL_len, vrL_len]; omega)) rfl rfl ⟨Nat.le_of_ble_eq_true rfl, Nat.le_of_ble_eq_true rfl⟩ mW_mk rfl rfl (Nat.le_of_ble_eq_true rfl) d_Maker_putApplications_11 ⟨by omega, by omega⟩ (mv_x ?_)
        show mv_G X Q (kk V) 3 14 [(2, .int (iI ((i : Nat)))), (0, .ref mk), (1, .int (iI (n)))] [] (mX V M mk rd dep tg q τ ((XS ++ apL i) ++ [(4, 0, 0)]) rdc δ src P ar al pp) 0 0
        refine mv_iinc (lv' := [(2, .int (iI ((i : Nat) + 1))), (0, .ref mk), (1, .int (iI (n)))]) B d_Maker_putApplications_14 0 rfl (by decide) rfl ?_
        refine mv_goto (tgt := 2) B d_Maker_putApplications_17 (by decide) ?_
        refine mv_lv (lv' := [(2, .int (iI (((i + 1) : Nat)))), (0, .ref mk), (1, .int (iI (n)))]) [0, 1, 2] (lc (lI (by first | rfl | omega)) (lc rfl (lc rfl rfl))) ?_
        rw [show ((XS ++ apL i) ++ [(4, 0, 0)]) = (XS ++ apL (i + 1)) from (by rw [apL_s, List.append_assoc])]
        exact ih2 (i + 1) (by omega) (by omega)
  refine mv_lv (lv' := [(2, .int (iI ((0 : Nat)))), (0, .ref mk), (1, .int (iI (n)))]) [0, 1, 2] (lc (lI (by first | rfl | omega)) (lc rfl (lc rfl rfl))) ?_
  rw [show XS = (XS ++ apL 0) from (by simp [apL, vrL])]
  exact L2 _ 0 hn (Nat.lt_succ_self _)
set_option maxRecDepth 100000 in
set_option maxHeartbeats 4000000 in
theorem m_Maker_putVariables {l : Launch} {V : mv_V} {M : mv_M} {mk rd dep : Nat} {tg : Option Nat} {q : Q4} {τ : Tm} {XS : List Nd} {rdc : va_E} {δ : Nat → Int} {src : Option Nat} {P ar al pp : Int} (hB : HB V M mk rd dep tg q) (hτ : τ.1 ≤ 1000) {v n : Int} (hn : 0 ≤ n) (hX : XS.length + n ≤ 1000000000) : Met l y_Maker_putVariables ws_Maker_putVariables (rM 2 0 0 50) (mv_Pre (kk V) [.ref mk, .int (iI (v)), .int (iI (n))] (mX V M mk rd dep tg q τ XS rdc δ src P ar al pp)) (mv_Q (kk V) (mv_R none (mX V M mk rd dep tg q τ (XS ++ vrL v n.toNat) rdc δ src P ar al pp))) 0 0 V.2.2.2.2 := by
  refine mv_Met (by decide) rfl (Nat.le_of_ble_eq_true rfl) (fun X hX B => ?_)
  subst hX
  replace B : mv_B X (kk V) c_Maker_putVariables ws_Maker_putVariables "FamilyRules$Maker" 4 (Option.none : Option Jvm.ClassFile.FieldType) (rM 2 0 0 50) "putVariables" := B
  obtain ⟨Q, hQ⟩ : ∃ Q, Q = mv_E X (kk V) (mv_R none (mX V M mk rd dep tg q τ (XS ++ vrL v n.toNat) rdc δ src P ar al pp)) 0 0 := ⟨_, rfl⟩
  rw [← hQ]
  show mv_G X Q (kk V) 4 0 [(0, .ref mk), (1, .int (iI (v))), (2, .int (iI (n)))] [] (mX V M mk rd dep tg q τ XS rdc δ src P ar al pp) 0 0
  refine mv_iconst (z := 0) B d_Maker_putVariables_0 rfl ?_
  refine mv_istore_n (lv' := [(3, .int (iI (0))), (0, .ref mk), (1, .int (iI (v))), (2, .int (iI (n)))]) B d_Maker_putVariables_1 rfl (by decide) rfl ?_
  have L2 : ∀ (fu : Nat) (i : Nat), ((i : Int) ≤ n) → (n.toNat - i) < fu → mv_G X Q (kk V) 4 2 [(3, .int (iI ((i : Nat)))), (0, .ref mk), (1, .int (iI (v))), (2, .int (iI (n)))] [] (mX V M mk rd dep tg q τ (XS ++ vrL v i) rdc δ src P ar al pp) 0 0 := by
    intro fu
    induction fu with
    | zero => intro i hi hm; exact absurd hm (Nat.not_lt_zero _)
    | succ fu ih2 =>
      intro i hi hm
      refine mv_iload_n B d_Maker_putVariables_2 rfl 0 rfl ?_
      refine mv_iload_n B d_Maker_putVariables_3 rfl 3 rfl ?_
      refine mv_icmp_ge (tgt := 22) B d_Maker_putVariables_4 (by decide) (by omega) (by omega) (fun c1 => ?_) (fun c1 => ?_)
      · rw [hQ]
        exact mv_vret B ⟨rfl, by rw [show n.toNat = i by omega]⟩ (by omega) (by omega) d_Maker_putVariables_22
      · refine mv_aloadR_n B d_Maker_putVariables_7 rfl 1 rfl ?_
        refine mv_iconst (z := 0) B d_Maker_putVariables_8 rfl ?_
        refine mv_iload_n B d_Maker_putVariables_9 rfl 2 rfl ?_
        refine mv_iload_n B d_Maker_putVariables_10 rfl 0 rfl ?_
        refine mv_isub B d_Maker_putVariables_11 ?_
        refine mv_iconst (z := 0) B d_Maker_putVariables_12 rfl ?_
        refine ca_Maker_78 (mc := 0) (ms := 0) (As := [.int (iI (0)), .int (iI (v - (i : Nat))), .int (iI (0))]) (rest := []) B (m_Maker_put hB hτ (by simp only [List.length_append, apL_len, vrL_len]; omega)) rfl rfl ⟨Nat.le_of_ble_eq_true rfl, Nat.le_of_ble_eq_true rfl⟩ mW_mk rfl rfl (Nat.le_of_ble_eq_true rfl) d_Maker_putVariables_13 ⟨by omega, by omega⟩ (mv_x ?_)
        show mv_G X Q (kk V) 4 16 [(3, .int (iI ((i : Nat)))), (0, .ref mk), (1, .int (iI (v))), (2, .int (iI (n)))] [] (mX V M mk rd dep tg q τ ((XS ++ vrL v i) ++ [(0, v - (i : Nat), 0)]) rdc δ src P ar al pp) 0 0
        refine mv_iinc (lv' := [(3, .int (iI ((i : Nat) + 1))), (0, .ref mk), (1, .int (iI (v))), (2, .int (iI (n)))]) B d_Maker_putVariables_16 0 rfl (by decide) rfl ?_
        refine mv_goto (tgt := 2) B d_Maker_putVariables_19 (by decide) ?_
        refine mv_lv (lv' := [(3, .int (iI (((i + 1) : Nat)))), (0, .ref mk), (1, .int (iI (v))), (2, .int (iI (n)))]) [0, 1, 2, 3] (lc (lI (by first | rfl | omega)) (lc rfl (lc rfl (lc rfl rfl)))) ?_
        rw [show ((XS ++ vrL v i) ++ [(0, v - (i : Nat), 0)]) = (XS ++ vrL v (i + 1)) from (by simp only [vrL, List.append_assoc])]
        exact ih2 (i + 1) (by omega) (by omega)
  refine mv_lv (lv' := [(3, .int (iI ((0 : Nat)))), (0, .ref mk), (1, .int (iI (v))), (2, .int (iI (n)))]) [0, 1, 2, 3] (lc (lI (by first | rfl | omega)) (lc rfl (lc rfl (lc rfl rfl)))) ?_
  rw [show XS = (XS ++ vrL v 0) from (by simp [apL, vrL])]
  exact L2 _ 0 hn (Nat.lt_succ_self _)
