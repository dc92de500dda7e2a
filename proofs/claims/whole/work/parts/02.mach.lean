/-! THE MACHINE OVER A MAP: K = (class numbers and slots, classes, array classes, link words, which addresses may change); X = the machine's standing data; mv_G = 'from here it goes to Q' -/
abbrev mv_K : Type := va_G × List vw_C × List (ClassId × FieldType) × List Cond × (Nat → Prop)
abbrev mv_X : Type := Program × Launch × Env × Room × State × MethodId × Array Value × List Frame × Method × Code
def mv_H (K : mv_K) (M : mv_M) (H : Heap) : Prop := (∀ q : Nat, H.size ≤ q → K.2.2.2.2 q) ∧ ∀ (a : Nat) (e : va_E), M a = some e → K.2.2.2.2 a ∧ va_at K.1 K.2.1 (a, e) H
def mv_nk (w : Cond) : Bool := match w with
  | .fieldLinkNest _ _ _ _ _ _ => true
  | .methodLinkNest _ _ _ _ => true
  | .arrayOver (.object _) => true
  | _ => false
theorem mv_nk_warm {w : Cond} {s U : State} (hk : mv_nk w = true) (hW : s.WarmedH U.vm) (h : va_Nw w s) : va_Nw w U := by
  unfold mv_nk at hk
  split at hk
  · exact va_Nw.warmF hW h
  · exact va_Nw.warmM hW h
  · exact va_AO.moved hW.alike h
  · cases hk
theorem mv_nk_same {w : Cond} {s U : State} (hk : mv_nk w = true) (hW : s.vm = U.vm) (h : va_Nw w s) : va_Nw w U := by
  unfold mv_nk at hk
  split at hk
  · exact va_Nw.same rfl hW h
  · exact va_Nw.same rfl hW h
  · exact va_AO.moved (by rw [hW]; exact Vm.Alike.refl _) h
  · cases hk
def mv_T (K : mv_K) (U : State) : Prop := va_K K.1 K.2.1 K.2.2.1 U ∧ ∀ w ∈ K.2.2.2.1, mv_nk w = true ∧ va_Nw w U
theorem mv_T.warm {K : mv_K} {s U : State} (hW : s.WarmedH U.vm) (h : mv_T K s) : mv_T K U := ⟨va_K.moved hW.alike h.1, fun w hw => ⟨(h.2 w hw).1, mv_nk_warm (h.2 w hw).1 hW (h.2 w hw).2⟩⟩
def mv_Pre (K : mv_K) (av : List Value) (M : mv_M) : Array Value → State → Prop := fun v U => v = av.toArray ∧ mv_H K M U.heap ∧ mv_T K U
theorem mv_Pre.blind {K : mv_K} {av : List Value} {M : mv_M} : FrameBlind (mv_Pre K av M) := fun a U g mk h => ⟨h.1, h.2.1, va_K.moved (u := U) (U := U.calling g mk a) (Vm.Alike.refl U.vm) h.2.2.1, fun w hw => ⟨(h.2.2.2 w hw).1, mv_nk_same (s := U) (U := U.calling g mk a) (h.2.2.2 w hw).1 rfl (h.2.2.2 w hw).2⟩⟩
def mv_Q (K : mv_K) (post : Option Value → mv_M → Prop) : Array Value → State → Outcome → State → Prop := fun _ st oc t => ∃ (v : Option Value) (M : mv_M), oc = .returned v ∧ post v M ∧ mv_H K M t.heap ∧ va_F K.2.2.2.2 st t
def mv_B (X : mv_X) (K : mv_K) (cc : ByteArray) (Ts : List Cond) (own : String) (nL : Nat) (ret : Option FieldType) (rm : Room) (nm : String) : Prop := match X with
  | (p, _, _, R, s, m, args, _, meth, c) => p.tables.exec = Jvm.exec ∧ c.code = cc ∧ c.maxLocals = nL ∧ s.vm.findClass own = some m.cls ∧ (∀ w ∈ Ts, w.before args s = true) ∧ mv_T K s ∧ (∀ q : Nat, s.heap.size ≤ q → K.2.2.2.2 q) ∧ meth.sig.returnType = ret ∧ R = rm ∧ meth.locks = false ∧ meth.name = nm
def mv_G (X : mv_X) (Q : State → Prop) (K : mv_K) (nL pc : Nat) (lv : List (Nat × Value)) (st : List Value) (M : mv_M) (cells slots : Nat) : Prop := match X with
  | (p, l, e, R, s, m, args, below, meth, c) => ∀ (H : Heap) (locs : List Loc) (ls : Array Slot), mv_H K M H → va_S K.2.2.2.2 s.heap H locs → lv_has ls nL lv → W p l e R s m args below meth c H locs cells slots Q (F0 m pc ls st)

section MVG
variable {X : mv_X} {Q : State → Prop} {K : mv_K} {nL pc : Nat} {lv lv' : List (Nat × Value)} {st rest : List Value} {M : mv_M} {cells slots : Nat}
variable {cc : ByteArray} {Ts : List Cond} {own nm : String} {ret : Option FieldType} {rm : Room}
theorem mv_H.P1 {H : Heap} {a : Nat} {e : va_E} (h : mv_H K M H) (ha : M a = some e) : va_P K.1 K.2.1 [(a, e)] H := fun k q hk => by
  match k, hk with
  | 0, hk => cases hk; exact (h.2 a e ha).2
theorem mv_H.lt {H : Heap} {a : Nat} {e : va_E} (h : mv_H K M H) (ha : M a = some e) : a < H.size := (h.2 a e ha).2.lt
theorem mv_H.set {H H1 : Heap} {a : Nat} {e0 e : va_E} (h : mv_H K M H) (ha : M a = some e0) (he : va_at K.1 K.2.1 (a, e) H1) (z : H1.size = H.size) (oq : ∀ q : Nat, q ≠ a → H1[q]? = H[q]?) : mv_H K (mv_up M a e) H1 := by
  refine ⟨fun q hq => h.1 q (by rw [← z]; exact hq), fun b f hb => ?_⟩
  by_cases hq : b = a
  · subst hq
    rw [mv_us] at hb
    cases hb
    exact ⟨(h.2 b e0 ha).1, he⟩
  · rw [mv_un hq] at hb
    exact ⟨(h.2 b f hb).1, (h.2 b f hb).2.kept (oq b hq)⟩
theorem mv_H.born {H H1 : Heap} {e : va_E} (h : mv_H K M H) (he : va_at K.1 K.2.1 (H.size, e) H1) (z : H1.size = H.size + 1) (oq : ∀ q : Nat, q < H.size → H1[q]? = H[q]?) : mv_H K (mv_up M H.size e) H1 := by
  refine ⟨fun q hq => h.1 q (by omega), fun b f hb => ?_⟩
  by_cases hq : b = H.size
  · subst hq
    rw [mv_us] at hb
    cases hb
    exact ⟨h.1 _ (Nat.le_refl _), he⟩
  · rw [mv_un hq] at hb
    exact ⟨(h.2 b f hb).1, (h.2 b f hb).2.kept (oq b (h.lt hb))⟩
theorem mv_iconst (B : mv_B X K cc Ts own nL ret rm nm) {n z : Int} (hdg : decode cc pc = .ok (.iconst n, 1)) (hz : Int32.ofInt n = iI z) (k : mv_G X Q K nL (pc + 1) lv (.int (iI z) :: st) M cells slots) : mv_G X Q K nL pc lv st M cells slots := by
  obtain ⟨p, l, e, R, s, m, args, below, meth, c⟩ := X
  obtain ⟨hx, hb, -⟩ := B
  intro H locs ls hH hS hl
  exact lv_iconst hx hb hdg hz (k H locs ls hH hS hl)
theorem mv_bipush (B : mv_B X K cc Ts own nL ret rm nm) {n z : Int} (hdg : decode cc pc = .ok (.bipush n, 2)) (hz : (Int8.ofInt n).toInt32 = iI z) (k : mv_G X Q K nL (pc + 2) lv (.int (iI z) :: st) M cells slots) : mv_G X Q K nL pc lv st M cells slots := by
  obtain ⟨p, l, e, R, s, m, args, below, meth, c⟩ := X
  obtain ⟨hx, hb, -⟩ := B
  intro H locs ls hH hS hl
  exact lv_bipush hx hb hdg hz (k H locs ls hH hS hl)
theorem mv_sipush (B : mv_B X K cc Ts own nL ret rm nm) {n z : Int} (hdg : decode cc pc = .ok (.sipush n, 3)) (hz : (Int16.ofInt n).toInt32 = iI z) (k : mv_G X Q K nL (pc + 3) lv (.int (iI z) :: st) M cells slots) : mv_G X Q K nL pc lv st M cells slots := by
  obtain ⟨p, l, e, R, s, m, args, below, meth, c⟩ := X
  obtain ⟨hx, hb, -⟩ := B
  intro H locs ls hH hS hl
  exact lv_sipush hx hb hdg hz (k H locs ls hH hS hl)
theorem mv_ldc (B : mv_B X K cc Ts own nL ret rm nm) {index : Nat} {z : Int} (hc : Cond.constant own index (iI z) ∈ Ts) (hdg : decode cc pc = .ok (.ldc index, 2)) (k : mv_G X Q K nL (pc + 2) lv (.int (iI z) :: st) M cells slots) : mv_G X Q K nL pc lv st M cells slots := by
  obtain ⟨p, l, e, R, s, m, args, below, meth, c⟩ := X
  obtain ⟨hx, hb, -, hown, hts, -⟩ := B
  intro H locs ls hH hS hl
  exact lv_ldc hx hb hown (hts _ hc) hdg (k H locs ls hH hS hl)
theorem mv_null (B : mv_B X K cc Ts own nL ret rm nm) (hdg : decode cc pc = .ok (.aconst_null, 1)) (k : mv_G X Q K nL (pc + 1) lv (va_rf none :: st) M cells slots) : mv_G X Q K nL pc lv st M cells slots := by
  obtain ⟨p, l, e, R, s, m, args, below, meth, c⟩ := X
  obtain ⟨hx, hb, -⟩ := B
  intro H locs ls hH hS hl
  exact lv_null hx hb hdg (k H locs ls hH hS hl)
theorem mv_iload_n (B : mv_B X K cc Ts own nL ret rm nm) {j : Fin 4} {i : Nat} {x : Int32} (hdg : decode cc pc = .ok (.iload_n j, 1)) (hi : (j : Nat) = i) (t : Nat) (hv : lv[t]? = some (i, .int x)) (k : mv_G X Q K nL (pc + 1) lv (.int x :: st) M cells slots) : mv_G X Q K nL pc lv st M cells slots := by
  obtain ⟨p, l, e, R, s, m, args, below, meth, c⟩ := X
  obtain ⟨hx, hb, -⟩ := B
  intro H locs ls hH hS hl
  exact lv_iload_n hx hb hdg hi (lv_at hl t hv) (k H locs ls hH hS hl)
theorem mv_iload (B : mv_B X K cc Ts own nL ret rm nm) {i : Nat} {x : Int32} (hdg : decode cc pc = .ok (.iload i, 2)) (t : Nat) (hv : lv[t]? = some (i, .int x)) (k : mv_G X Q K nL (pc + 2) lv (.int x :: st) M cells slots) : mv_G X Q K nL pc lv st M cells slots := by
  obtain ⟨p, l, e, R, s, m, args, below, meth, c⟩ := X
  obtain ⟨hx, hb, -⟩ := B
  intro H locs ls hH hS hl
  exact lv_iload hx hb hdg (lv_at hl t hv) (k H locs ls hH hS hl)
theorem mv_aload_n (B : mv_B X K cc Ts own nL ret rm nm) {j : Fin 4} {i : Nat} {r : Option Nat} (hdg : decode cc pc = .ok (.aload_n j, 1)) (hi : (j : Nat) = i) (t : Nat) (hv : lv[t]? = some (i, va_rf r)) (k : mv_G X Q K nL (pc + 1) lv (va_rf r :: st) M cells slots) : mv_G X Q K nL pc lv st M cells slots := by
  obtain ⟨p, l, e, R, s, m, args, below, meth, c⟩ := X
  obtain ⟨hx, hb, -⟩ := B
  intro H locs ls hH hS hl
  cases r with
  | none => exact lv_aload_nN hx hb hdg hi (lv_at hl t hv) (k H locs ls hH hS hl)
  | some a => exact lv_aload_n hx hb hdg hi (lv_at hl t hv) (k H locs ls hH hS hl)
theorem mv_aload (B : mv_B X K cc Ts own nL ret rm nm) {i : Nat} {r : Option Nat} (hdg : decode cc pc = .ok (.aload i, 2)) (t : Nat) (hv : lv[t]? = some (i, va_rf r)) (k : mv_G X Q K nL (pc + 2) lv (va_rf r :: st) M cells slots) : mv_G X Q K nL pc lv st M cells slots := by
  obtain ⟨p, l, e, R, s, m, args, below, meth, c⟩ := X
  obtain ⟨hx, hb, -⟩ := B
  intro H locs ls hH hS hl
  cases r with
  | none => exact lv_aloadN hx hb hdg (lv_at hl t hv) (k H locs ls hH hS hl)
  | some a => exact lv_aload hx hb hdg (lv_at hl t hv) (k H locs ls hH hS hl)
def mv_sl (lv : List (Nat × Value)) (i : Nat) (v : Value) : List (Nat × Value) := (i, v) :: lv.filter (fun q => !(q.1 == i) && !(q.1 + 1 == i && q.2.category == 2))
theorem mv_istore_n (B : mv_B X K cc Ts own nL ret rm nm) {j : Fin 4} {i : Nat} {x : Int32} (hdg : decode cc pc = .ok (.istore_n j, 1)) (hi : (j : Nat) = i) (hn : i < nL) (hl' : mv_sl lv i (.int x) = lv') (k : mv_G X Q K nL (pc + 1) lv' st M cells slots) : mv_G X Q K nL pc lv (.int x :: st) M cells slots := by
  obtain ⟨p, l, e, R, s, m, args, below, meth, c⟩ := X
  obtain ⟨hx, hb, -⟩ := B
  intro H locs ls hH hS hl
  exact lv_istore_n hx hb hdg hi hl hn hl' (fun ls' h => k H locs ls' hH hS h)
theorem mv_istore (B : mv_B X K cc Ts own nL ret rm nm) {i : Nat} {x : Int32} (hdg : decode cc pc = .ok (.istore i, 2)) (hn : i < nL) (hl' : mv_sl lv i (.int x) = lv') (k : mv_G X Q K nL (pc + 2) lv' st M cells slots) : mv_G X Q K nL pc lv (.int x :: st) M cells slots := by
  obtain ⟨p, l, e, R, s, m, args, below, meth, c⟩ := X
  obtain ⟨hx, hb, -⟩ := B
  intro H locs ls hH hS hl
  exact lv_istore hx hb hdg hl hn hl' (fun ls' h => k H locs ls' hH hS h)
theorem mv_astore_n (B : mv_B X K cc Ts own nL ret rm nm) {j : Fin 4} {i : Nat} {r : Option Nat} (hdg : decode cc pc = .ok (.astore_n j, 1)) (hi : (j : Nat) = i) (hn : i < nL) (hl' : mv_sl lv i (va_rf r) = lv') (k : mv_G X Q K nL (pc + 1) lv' st M cells slots) : mv_G X Q K nL pc lv (va_rf r :: st) M cells slots := by
  obtain ⟨p, l, e, R, s, m, args, below, meth, c⟩ := X
  obtain ⟨hx, hb, -⟩ := B
  intro H locs ls hH hS hl
  cases r with
  | none => exact lv_astore_nN hx hb hdg hi hl hn hl' (fun ls' h => k H locs ls' hH hS h)
  | some a => exact lv_astore_n hx hb hdg hi hl hn hl' (fun ls' h => k H locs ls' hH hS h)
theorem mv_astore (B : mv_B X K cc Ts own nL ret rm nm) {i : Nat} {r : Option Nat} (hdg : decode cc pc = .ok (.astore i, 2)) (hn : i < nL) (hl' : mv_sl lv i (va_rf r) = lv') (k : mv_G X Q K nL (pc + 2) lv' st M cells slots) : mv_G X Q K nL pc lv (va_rf r :: st) M cells slots := by
  obtain ⟨p, l, e, R, s, m, args, below, meth, c⟩ := X
  obtain ⟨hx, hb, -⟩ := B
  intro H locs ls hH hS hl
  cases r with
  | none => exact lv_astoreN hx hb hdg hl hn hl' (fun ls' h => k H locs ls' hH hS h)
  | some a => exact lv_astore hx hb hdg hl hn hl' (fun ls' h => k H locs ls' hH hS h)
theorem mv_iinc (B : mv_B X K cc Ts own nL ret rm nm) {i : Nat} {n z : Int} (hdg : decode cc pc = .ok (.iinc i n, 3)) (t : Nat) (hv : lv[t]? = some (i, .int (iI z))) (hn : i < nL) (hl' : mv_sl lv i (.int (iI (z + n))) = lv') (k : mv_G X Q K nL (pc + 3) lv' st M cells slots) : mv_G X Q K nL pc lv st M cells slots := by
  obtain ⟨p, l, e, R, s, m, args, below, meth, c⟩ := X
  obtain ⟨hx, hb, -⟩ := B
  intro H locs ls hH hS hl
  exact lv_iinc (v := iI (z + n)) hx hb hdg hl hv (iI_add z n) hn hl' (fun ls' h => k H locs ls' hH hS h)
theorem mv_iadd (B : mv_B X K cc Ts own nL ret rm nm) {x y : Int} (hdg : decode cc pc = .ok (.iadd, 1)) (k : mv_G X Q K nL (pc + 1) lv (.int (iI (x + y)) :: st) M cells slots) : mv_G X Q K nL pc lv (.int (iI y) :: .int (iI x) :: st) M cells slots := by
  obtain ⟨p, l, e, R, s, m, args, below, meth, c⟩ := X
  obtain ⟨hx, hb, -⟩ := B
  intro H locs ls hH hS hl
  refine lv_iadd hx hb hdg ?_
  rw [iI_add]
  exact k H locs ls hH hS hl
theorem mv_isub (B : mv_B X K cc Ts own nL ret rm nm) {x y : Int} (hdg : decode cc pc = .ok (.isub, 1)) (k : mv_G X Q K nL (pc + 1) lv (.int (iI (x - y)) :: st) M cells slots) : mv_G X Q K nL pc lv (.int (iI y) :: .int (iI x) :: st) M cells slots := by
  obtain ⟨p, l, e, R, s, m, args, below, meth, c⟩ := X
  obtain ⟨hx, hb, -⟩ := B
  intro H locs ls hH hS hl
  refine lv_isub hx hb hdg ?_
  rw [iI_sub]
  exact k H locs ls hH hS hl
theorem mv_imul (B : mv_B X K cc Ts own nL ret rm nm) {x y : Int} (hdg : decode cc pc = .ok (.imul, 1)) (k : mv_G X Q K nL (pc + 1) lv (.int (iI (x * y)) :: st) M cells slots) : mv_G X Q K nL pc lv (.int (iI y) :: .int (iI x) :: st) M cells slots := by
  obtain ⟨p, l, e, R, s, m, args, below, meth, c⟩ := X
  obtain ⟨hx, hb, -⟩ := B
  intro H locs ls hH hS hl
  refine lv_imul hx hb hdg ?_
  rw [iI_mul]
  exact k H locs ls hH hS hl
theorem mv_dup (B : mv_B X K cc Ts own nL ret rm nm) {v : Value} (hdg : decode cc pc = .ok (.dup, 1)) (hv : v.category = 1) (k : mv_G X Q K nL (pc + 1) lv (v :: v :: st) M cells slots) : mv_G X Q K nL pc lv (v :: st) M cells slots := by
  obtain ⟨p, l, e, R, s, m, args, below, meth, c⟩ := X
  obtain ⟨hx, hb, -⟩ := B
  intro H locs ls hH hS hl
  exact lv_dup hx hb hdg hv (k H locs ls hH hS hl)
theorem mv_pop (B : mv_B X K cc Ts own nL ret rm nm) {v : Value} (hdg : decode cc pc = .ok (.pop, 1)) (hv : v.category = 1) (k : mv_G X Q K nL (pc + 1) lv st M cells slots) : mv_G X Q K nL pc lv (v :: st) M cells slots := by
  obtain ⟨p, l, e, R, s, m, args, below, meth, c⟩ := X
  obtain ⟨hx, hb, -⟩ := B
  intro H locs ls hH hS hl
  exact lv_pop hx hb hdg hv (k H locs ls hH hS hl)
theorem mv_dup_x1 (B : mv_B X K cc Ts own nL ret rm nm) {v w : Value} (hdg : decode cc pc = .ok (.dup_x1, 1)) (hv : v.category = 1) (hw : w.category = 1) (k : mv_G X Q K nL (pc + 1) lv (v :: w :: v :: st) M cells slots) : mv_G X Q K nL pc lv (v :: w :: st) M cells slots := by
  obtain ⟨p, l, e, R, s, m, args, below, meth, c⟩ := X
  obtain ⟨hx, hb, -⟩ := B
  intro H locs ls hH hS hl
  exact lv_dup_x1 hx hb hdg hv hw (k H locs ls hH hS hl)
theorem mv_goto (B : mv_B X K cc Ts own nL ret rm nm) {off : Int} {tgt : Nat} (hdg : decode cc pc = .ok (.goto off, 3)) (ht : (pc : Int) + off = (tgt : Int)) (k : mv_G X Q K nL tgt lv st M cells slots) : mv_G X Q K nL pc lv st M cells slots := by
  obtain ⟨p, l, e, R, s, m, args, below, meth, c⟩ := X
  obtain ⟨hx, hb, -⟩ := B
  intro H locs ls hH hS hl
  exact lv_goto hx hb hdg ht (k H locs ls hH hS hl)
theorem mv_icmp_eq (B : mv_B X K cc Ts own nL ret rm nm) {x y : Int} {off : Int} {tgt : Nat} (hdg : decode cc pc = .ok (.if_icmp .eq off, 3)) (ht : (pc : Int) + off = (tgt : Int)) (rx : R32 x) (ry : R32 y) (kt : x = y → mv_G X Q K nL tgt lv st M cells slots) (kf : ¬ (x = y) → mv_G X Q K nL (pc + 3) lv st M cells slots) : mv_G X Q K nL pc lv (.int (iI y) :: .int (iI x) :: st) M cells slots := by
  obtain ⟨p, l, e, R, s, m, args, below, meth, c⟩ := X
  obtain ⟨hx, hb, -⟩ := B
  intro H locs ls hH hS hl
  exact lv_icmp_eq hx hb hdg ht (fun h => kt ((iI_eq rx ry).mp h) H locs ls hH hS hl) (fun h => kf (fun q => h ((iI_eq rx ry).mpr q)) H locs ls hH hS hl)
theorem mv_if_eq (B : mv_B X K cc Ts own nL ret rm nm) {x : Int} {off : Int} {tgt : Nat} (hdg : decode cc pc = .ok (.ifCond .eq off, 3)) (ht : (pc : Int) + off = (tgt : Int)) (rx : R32 x) (kt : x = 0 → mv_G X Q K nL tgt lv st M cells slots) (kf : ¬ (x = 0) → mv_G X Q K nL (pc + 3) lv st M cells slots) : mv_G X Q K nL pc lv (.int (iI x) :: st) M cells slots := by
  obtain ⟨p, l, e, R, s, m, args, below, meth, c⟩ := X
  obtain ⟨hx, hb, -⟩ := B
  intro H locs ls hH hS hl
  exact lv_if_eq hx hb hdg ht (fun h => kt ((iI_eq rx (⟨by decide, by decide⟩ : R32 0)).mp h) H locs ls hH hS hl) (fun h => kf (fun q => h ((iI_eq rx (⟨by decide, by decide⟩ : R32 0)).mpr q)) H locs ls hH hS hl)
theorem mv_icmp_ne (B : mv_B X K cc Ts own nL ret rm nm) {x y : Int} {off : Int} {tgt : Nat} (hdg : decode cc pc = .ok (.if_icmp .ne off, 3)) (ht : (pc : Int) + off = (tgt : Int)) (rx : R32 x) (ry : R32 y) (kt : ¬ x = y → mv_G X Q K nL tgt lv st M cells slots) (kf : x = y → mv_G X Q K nL (pc + 3) lv st M cells slots) : mv_G X Q K nL pc lv (.int (iI y) :: .int (iI x) :: st) M cells slots := by
  obtain ⟨p, l, e, R, s, m, args, below, meth, c⟩ := X
  obtain ⟨hx, hb, -⟩ := B
  intro H locs ls hH hS hl
  exact lv_icmp_ne hx hb hdg ht (fun h => kt ((not_congr (iI_eq rx ry)).mp h) H locs ls hH hS hl) (fun h => kf ((iI_eq rx ry).mp h) H locs ls hH hS hl)
theorem mv_if_ne (B : mv_B X K cc Ts own nL ret rm nm) {x : Int} {off : Int} {tgt : Nat} (hdg : decode cc pc = .ok (.ifCond .ne off, 3)) (ht : (pc : Int) + off = (tgt : Int)) (rx : R32 x) (kt : ¬ x = 0 → mv_G X Q K nL tgt lv st M cells slots) (kf : x = 0 → mv_G X Q K nL (pc + 3) lv st M cells slots) : mv_G X Q K nL pc lv (.int (iI x) :: st) M cells slots := by
  obtain ⟨p, l, e, R, s, m, args, below, meth, c⟩ := X
  obtain ⟨hx, hb, -⟩ := B
  intro H locs ls hH hS hl
  exact lv_if_ne hx hb hdg ht (fun h => kt ((not_congr (iI_eq rx (⟨by decide, by decide⟩ : R32 0))).mp h) H locs ls hH hS hl) (fun h => kf ((iI_eq rx (⟨by decide, by decide⟩ : R32 0)).mp h) H locs ls hH hS hl)
theorem mv_icmp_lt (B : mv_B X K cc Ts own nL ret rm nm) {x y : Int} {off : Int} {tgt : Nat} (hdg : decode cc pc = .ok (.if_icmp .lt off, 3)) (ht : (pc : Int) + off = (tgt : Int)) (rx : R32 x) (ry : R32 y) (kt : x < y → mv_G X Q K nL tgt lv st M cells slots) (kf : ¬ (x < y) → mv_G X Q K nL (pc + 3) lv st M cells slots) : mv_G X Q K nL pc lv (.int (iI y) :: .int (iI x) :: st) M cells slots := by
  obtain ⟨p, l, e, R, s, m, args, below, meth, c⟩ := X
  obtain ⟨hx, hb, -⟩ := B
  intro H locs ls hH hS hl
  exact lv_icmp_lt hx hb hdg ht (fun h => kt ((iI_lt rx ry).mp h) H locs ls hH hS hl) (fun h => kf (fun q => h ((iI_lt rx ry).mpr q)) H locs ls hH hS hl)
theorem mv_if_lt (B : mv_B X K cc Ts own nL ret rm nm) {x : Int} {off : Int} {tgt : Nat} (hdg : decode cc pc = .ok (.ifCond .lt off, 3)) (ht : (pc : Int) + off = (tgt : Int)) (rx : R32 x) (kt : x < 0 → mv_G X Q K nL tgt lv st M cells slots) (kf : ¬ (x < 0) → mv_G X Q K nL (pc + 3) lv st M cells slots) : mv_G X Q K nL pc lv (.int (iI x) :: st) M cells slots := by
  obtain ⟨p, l, e, R, s, m, args, below, meth, c⟩ := X
  obtain ⟨hx, hb, -⟩ := B
  intro H locs ls hH hS hl
  exact lv_if_lt hx hb hdg ht (fun h => kt ((iI_lt rx (⟨by decide, by decide⟩ : R32 0)).mp h) H locs ls hH hS hl) (fun h => kf (fun q => h ((iI_lt rx (⟨by decide, by decide⟩ : R32 0)).mpr q)) H locs ls hH hS hl)
theorem mv_icmp_ge (B : mv_B X K cc Ts own nL ret rm nm) {x y : Int} {off : Int} {tgt : Nat} (hdg : decode cc pc = .ok (.if_icmp .ge off, 3)) (ht : (pc : Int) + off = (tgt : Int)) (rx : R32 x) (ry : R32 y) (kt : y ≤ x → mv_G X Q K nL tgt lv st M cells slots) (kf : ¬ (y ≤ x) → mv_G X Q K nL (pc + 3) lv st M cells slots) : mv_G X Q K nL pc lv (.int (iI y) :: .int (iI x) :: st) M cells slots := by
  obtain ⟨p, l, e, R, s, m, args, below, meth, c⟩ := X
  obtain ⟨hx, hb, -⟩ := B
  intro H locs ls hH hS hl
  exact lv_icmp_ge hx hb hdg ht (fun h => kt ((iI_le ry rx).mp h) H locs ls hH hS hl) (fun h => kf (fun q => h ((iI_le ry rx).mpr q)) H locs ls hH hS hl)
theorem mv_if_ge (B : mv_B X K cc Ts own nL ret rm nm) {x : Int} {off : Int} {tgt : Nat} (hdg : decode cc pc = .ok (.ifCond .ge off, 3)) (ht : (pc : Int) + off = (tgt : Int)) (rx : R32 x) (kt : 0 ≤ x → mv_G X Q K nL tgt lv st M cells slots) (kf : ¬ (0 ≤ x) → mv_G X Q K nL (pc + 3) lv st M cells slots) : mv_G X Q K nL pc lv (.int (iI x) :: st) M cells slots := by
  obtain ⟨p, l, e, R, s, m, args, below, meth, c⟩ := X
  obtain ⟨hx, hb, -⟩ := B
  intro H locs ls hH hS hl
  exact lv_if_ge hx hb hdg ht (fun h => kt ((iI_le (⟨by decide, by decide⟩ : R32 0) rx).mp h) H locs ls hH hS hl) (fun h => kf (fun q => h ((iI_le (⟨by decide, by decide⟩ : R32 0) rx).mpr q)) H locs ls hH hS hl)
theorem mv_icmp_gt (B : mv_B X K cc Ts own nL ret rm nm) {x y : Int} {off : Int} {tgt : Nat} (hdg : decode cc pc = .ok (.if_icmp .gt off, 3)) (ht : (pc : Int) + off = (tgt : Int)) (rx : R32 x) (ry : R32 y) (kt : y < x → mv_G X Q K nL tgt lv st M cells slots) (kf : ¬ (y < x) → mv_G X Q K nL (pc + 3) lv st M cells slots) : mv_G X Q K nL pc lv (.int (iI y) :: .int (iI x) :: st) M cells slots := by
  obtain ⟨p, l, e, R, s, m, args, below, meth, c⟩ := X
  obtain ⟨hx, hb, -⟩ := B
  intro H locs ls hH hS hl
  exact lv_icmp_gt hx hb hdg ht (fun h => kt ((iI_lt ry rx).mp h) H locs ls hH hS hl) (fun h => kf (fun q => h ((iI_lt ry rx).mpr q)) H locs ls hH hS hl)
theorem mv_if_gt (B : mv_B X K cc Ts own nL ret rm nm) {x : Int} {off : Int} {tgt : Nat} (hdg : decode cc pc = .ok (.ifCond .gt off, 3)) (ht : (pc : Int) + off = (tgt : Int)) (rx : R32 x) (kt : 0 < x → mv_G X Q K nL tgt lv st M cells slots) (kf : ¬ (0 < x) → mv_G X Q K nL (pc + 3) lv st M cells slots) : mv_G X Q K nL pc lv (.int (iI x) :: st) M cells slots := by
  obtain ⟨p, l, e, R, s, m, args, below, meth, c⟩ := X
  obtain ⟨hx, hb, -⟩ := B
  intro H locs ls hH hS hl
  exact lv_if_gt hx hb hdg ht (fun h => kt ((iI_lt (⟨by decide, by decide⟩ : R32 0) rx).mp h) H locs ls hH hS hl) (fun h => kf (fun q => h ((iI_lt (⟨by decide, by decide⟩ : R32 0) rx).mpr q)) H locs ls hH hS hl)
theorem mv_icmp_le (B : mv_B X K cc Ts own nL ret rm nm) {x y : Int} {off : Int} {tgt : Nat} (hdg : decode cc pc = .ok (.if_icmp .le off, 3)) (ht : (pc : Int) + off = (tgt : Int)) (rx : R32 x) (ry : R32 y) (kt : x ≤ y → mv_G X Q K nL tgt lv st M cells slots) (kf : ¬ (x ≤ y) → mv_G X Q K nL (pc + 3) lv st M cells slots) : mv_G X Q K nL pc lv (.int (iI y) :: .int (iI x) :: st) M cells slots := by
  obtain ⟨p, l, e, R, s, m, args, below, meth, c⟩ := X
  obtain ⟨hx, hb, -⟩ := B
  intro H locs ls hH hS hl
  exact lv_icmp_le hx hb hdg ht (fun h => kt ((iI_le rx ry).mp h) H locs ls hH hS hl) (fun h => kf (fun q => h ((iI_le rx ry).mpr q)) H locs ls hH hS hl)
theorem mv_if_le (B : mv_B X K cc Ts own nL ret rm nm) {x : Int} {off : Int} {tgt : Nat} (hdg : decode cc pc = .ok (.ifCond .le off, 3)) (ht : (pc : Int) + off = (tgt : Int)) (rx : R32 x) (kt : x ≤ 0 → mv_G X Q K nL tgt lv st M cells slots) (kf : ¬ (x ≤ 0) → mv_G X Q K nL (pc + 3) lv st M cells slots) : mv_G X Q K nL pc lv (.int (iI x) :: st) M cells slots := by
  obtain ⟨p, l, e, R, s, m, args, below, meth, c⟩ := X
  obtain ⟨hx, hb, -⟩ := B
  intro H locs ls hH hS hl
  exact lv_if_le hx hb hdg ht (fun h => kt ((iI_le rx (⟨by decide, by decide⟩ : R32 0)).mp h) H locs ls hH hS hl) (fun h => kf (fun q => h ((iI_le rx (⟨by decide, by decide⟩ : R32 0)).mpr q)) H locs ls hH hS hl)
theorem mv_ifnull (B : mv_B X K cc Ts own nL ret rm nm) {r : Option Nat} {off : Int} {tgt : Nat} (hdg : decode cc pc = .ok (.ifnull off, 3)) (ht : (pc : Int) + off = (tgt : Int)) (kt : r = none → mv_G X Q K nL tgt lv st M cells slots) (kf : ∀ a, r = some a → mv_G X Q K nL (pc + 3) lv st M cells slots) : mv_G X Q K nL pc lv (va_rf r :: st) M cells slots := by
  obtain ⟨p, l, e, R, s, m, args, below, meth, c⟩ := X
  obtain ⟨hx, hb, -⟩ := B
  intro H locs ls hH hS hl
  cases r with
  | none => exact lv_ifnullN hx hb hdg ht (kt rfl H locs ls hH hS hl)
  | some a => exact lv_ifnull hx hb hdg (kf a rfl H locs ls hH hS hl)
theorem mv_ifnonnull (B : mv_B X K cc Ts own nL ret rm nm) {r : Option Nat} {off : Int} {tgt : Nat} (hdg : decode cc pc = .ok (.ifnonnull off, 3)) (ht : (pc : Int) + off = (tgt : Int)) (kt : ∀ a, r = some a → mv_G X Q K nL tgt lv st M cells slots) (kf : r = none → mv_G X Q K nL (pc + 3) lv st M cells slots) : mv_G X Q K nL pc lv (va_rf r :: st) M cells slots := by
  obtain ⟨p, l, e, R, s, m, args, below, meth, c⟩ := X
  obtain ⟨hx, hb, -⟩ := B
  intro H locs ls hH hS hl
  cases r with
  | none => exact lv_ifnonnullN hx hb hdg (kf rfl H locs ls hH hS hl)
  | some a => exact lv_ifnonnull hx hb hdg ht (kt a rfl H locs ls hH hS hl)
theorem mv_acmp_eq (B : mv_B X K cc Ts own nL ret rm nm) {rx ry : Option Nat} {off : Int} {tgt : Nat} (hdg : decode cc pc = .ok (.if_acmp .eq off, 3)) (ht : (pc : Int) + off = (tgt : Int)) (kt : rx = ry → mv_G X Q K nL tgt lv st M cells slots) (kf : ¬ rx = ry → mv_G X Q K nL (pc + 3) lv st M cells slots) : mv_G X Q K nL pc lv (va_rf ry :: va_rf rx :: st) M cells slots := by
  obtain ⟨p, l, e, R, s, m, args, below, meth, c⟩ := X
  obtain ⟨hx, hb, -⟩ := B
  intro H locs ls hH hS hl
  exact lv_acmp_eq hx hb hdg ht (fun h => kt h H locs ls hH hS hl) (fun h => kf h H locs ls hH hS hl)
theorem mv_acmp_ne (B : mv_B X K cc Ts own nL ret rm nm) {rx ry : Option Nat} {off : Int} {tgt : Nat} (hdg : decode cc pc = .ok (.if_acmp .ne off, 3)) (ht : (pc : Int) + off = (tgt : Int)) (kt : ¬ rx = ry → mv_G X Q K nL tgt lv st M cells slots) (kf : rx = ry → mv_G X Q K nL (pc + 3) lv st M cells slots) : mv_G X Q K nL pc lv (va_rf ry :: va_rf rx :: st) M cells slots := by
  obtain ⟨p, l, e, R, s, m, args, below, meth, c⟩ := X
  obtain ⟨hx, hb, -⟩ := B
  intro H locs ls hH hS hl
  exact lv_acmp_ne hx hb hdg ht (fun h => kt h H locs ls hH hS hl) (fun h => kf h H locs ls hH hS hl)
/-- fields: 'hin' the class's slots among the words, 'hlink' the link word -/
theorem mv_get (B : mv_B X K cc Ts own nL ret rm nm) {C : String} {T : u_T} {N ci index a : Nat} (hin : ∀ w ∈ u_ws C T N, w ∈ Ts) (hc : K.2.1[ci]? = some (C, T, N)) {fs : List Value} (he : M a = some (.inr (ci, fs))) (k : Nat) (hk : k < N) (hlink : Cond.fieldLink own index (T k).1 (T k).2.1 (T k).2.2.1 ∈ Ts) {v : Value} (hv : fs[k]? = some v) (hdg : decode cc pc = .ok (.getfield index, 3)) (kk : mv_G X Q K nL (pc + 3) lv (v :: st) M cells slots) : mv_G X Q K nL pc lv (.ref a :: st) M cells slots := by
  obtain ⟨p, l, e, R, s, m, args, below, meth, c⟩ := X
  obtain ⟨hx, hb, -, hown, hts, hT, -⟩ := B
  intro H locs ls hH hS hl
  exact va_get hx hb hts hin hown hT.1 (hH.P1 he) 0 rfl hc k hk (hts _ hlink) (fun _ h => h) hv hdg (kk H locs ls hH hS hl)
theorem mv_getN (B : mv_B X K cc Ts own nL ret rm nm) {C host : String} {T : u_T} {N ci index a : Nat} (hin : ∀ w ∈ u_ws C T N, w ∈ Ts) (hc : K.2.1[ci]? = some (C, T, N)) {fs : List Value} (he : M a = some (.inr (ci, fs))) (k : Nat) (hk : k < N) (hlink : Cond.fieldLinkNest own index (T k).1 (T k).2.1 (T k).2.2.1 host ∈ K.2.2.2.1) {v : Value} (hv : fs[k]? = some v) (hdg : decode cc pc = .ok (.getfield index, 3)) (kk : mv_G X Q K nL (pc + 3) lv (v :: st) M cells slots) : mv_G X Q K nL pc lv (.ref a :: st) M cells slots := by
  obtain ⟨p, l, e, R, s, m, args, below, meth, c⟩ := X
  obtain ⟨hx, hb, -, hown, hts, hT, -⟩ := B
  intro H locs ls hH hS hl
  exact va_getN hx hb hts hin hown hT.1 (hH.P1 he) 0 rfl hc k hk (va_Nw.use rfl (hT.2 _ hlink).2) (fun _ h => h) hv hdg (kk H locs ls hH hS hl)
theorem mv_putAt {p : Program} {l : Launch} {e : Env} {R : Room} {s : State} {m : MethodId} {args : Array Value} {below : List Frame} {meth : Method} {c : Code} {C : String} {T : u_T} {N ci a : Nat} {fs : List Value} {v : Value} {H H1 : Heap} {locs : List Loc} {k : Nat} (hts : ∀ w ∈ Ts, w.before args s = true) (hin : ∀ w ∈ u_ws C T N, w ∈ Ts) (ty0 : Nat → FieldType) (hty : ∀ k, k < N → parseFieldDescriptor (T k).2.2.1 = some (ty0 k)) (hnm : ∀ a, a < N → ∀ b, b < N → a ≠ b → (T a).2.1 ≠ (T b).2.1) (hT : mv_T K s) (hc : K.2.1[ci]? = some (C, T, N)) (he : M a = some (.inr (ci, fs))) (hk : k < N) (hl : k < fs.length) (hH : mv_H K M H) {cell : Cell} (q2 : cell.cls = K.1.1 ci) (q3 : cell.vm = .none) (q4 : ∀ j, j < N → cell.slots[K.1.2 ci j]? = some (vp_V fs j)) (e1 : H1[a]? = some (cell.setSlot (K.1.2 ci k) v)) (e2 : H1.size = H.size) (e3 : ∀ q, q ≠ a → H1[q]? = H[q]?) : mv_H K (mv_up M a (.inr (ci, fs.set k v))) H1 := by
  have hap := va_apart (own := "") hts hin ty0 hty hnm hT.1 hc
  exact hH.set he ⟨_, hc, t_OB.to (V := updV (vp_V fs) k v) ⟨_, e1, q2, q3, t_set q4 hap hk v⟩ (fun j _ => vp_updV_set hl v j)⟩ e2 e3
theorem mv_put (B : mv_B X K cc Ts own nL ret rm nm) {C : String} {T : u_T} {N ci index a : Nat} (hin : ∀ w ∈ u_ws C T N, w ∈ Ts) (ty0 : Nat → FieldType) (hty : ∀ k, k < N → parseFieldDescriptor (T k).2.2.1 = some (ty0 k)) (hnm : ∀ a, a < N → ∀ b, b < N → a ≠ b → (T a).2.1 ≠ (T b).2.1) (hc : K.2.1[ci]? = some (C, T, N)) {fs : List Value} (he : M a = some (.inr (ci, fs))) (k : Nat) (hk : k < N) (hlink : Cond.fieldLink own index (T k).1 (T k).2.1 (T k).2.2.1 ∈ Ts) (hfin : (T k).2.2.2 = false) {v : Value} (hn : narrow (ty0 k) v = v) (hfit : fits (ty0 k) v = true) (hlen : k < fs.length) (hdg : decode cc pc = .ok (.putfield index, 3)) (kk : mv_G X Q K nL (pc + 3) lv st (mv_up M a (.inr (ci, fs.set k v))) cells slots) : mv_G X Q K nL pc lv (v :: .ref a :: st) M cells slots := by
  obtain ⟨p, l, e, R, s, m, args, below, meth, c⟩ := X
  obtain ⟨hx, hb, -, hown, hts, hT, -⟩ := B
  intro H locs ls hH hS hl
  obtain ⟨r, h1, cell, q1, q2, q3, q4⟩ := (hH.2 a _ he).2
  have hr : r = (C, T, N) := Option.some.inj (h1.symm.trans hc)
  subst hr
  obtain ⟨hSl, hfc, kC, hkC, hkind⟩ := hT.1.1 ci _ hc
  obtain ⟨cf, kf, fi, f, hi, hsl⟩ := hSl k hk
  have hlay := hts _ (hin _ (u_in_lay hk))
  unfold u_lay at hlay
  rw [if_neg (by rw [hfin]; decide)] at hlay
  have hst := (u_facts hfc hkC (u_lays hts hin hk) hi).1
  have h6 := u_store hfc hkC hkind hlay hi (hty k hk) hn hfit
  refine W.putK hx hb (f := f) ⟨hown, hts _ hlink, ⟨_, _, _, hi⟩, hst⟩ (by rw [q2]; exact h6) q1 q3 (by rw [hsl]; exact k2_hasslot (q4 k hk)) rfl rfl hdg fun H' e1 e2 e3 => ?_
  rw [hsl] at e1
  exact kk H' _ ls (mv_putAt (p := p) (l := l) (e := e) (R := R) (m := m) (below := below) (meth := meth) (c := c) (locs := locs) hts hin ty0 hty hnm hT hc he hk hlen hH q2 q3 q4 e1 e2 e3) (hS.put e2 e3 (hH.2 a _ he).1) hl
theorem mv_putN (B : mv_B X K cc Ts own nL ret rm nm) {C host : String} {T : u_T} {N ci index a : Nat} (hin : ∀ w ∈ u_ws C T N, w ∈ Ts) (ty0 : Nat → FieldType) (hty : ∀ k, k < N → parseFieldDescriptor (T k).2.2.1 = some (ty0 k)) (hnm : ∀ a, a < N → ∀ b, b < N → a ≠ b → (T a).2.1 ≠ (T b).2.1) (hc : K.2.1[ci]? = some (C, T, N)) {fs : List Value} (he : M a = some (.inr (ci, fs))) (k : Nat) (hk : k < N) (hlink : Cond.fieldLinkNest own index (T k).1 (T k).2.1 (T k).2.2.1 host ∈ K.2.2.2.1) (hfin : (T k).2.2.2 = false) {v : Value} (hn : narrow (ty0 k) v = v) (hfit : fits (ty0 k) v = true) (hlen : k < fs.length) (hdg : decode cc pc = .ok (.putfield index, 3)) (kk : mv_G X Q K nL (pc + 3) lv st (mv_up M a (.inr (ci, fs.set k v))) cells slots) : mv_G X Q K nL pc lv (v :: .ref a :: st) M cells slots := by
  obtain ⟨p, l, e, R, s, m, args, below, meth, c⟩ := X
  obtain ⟨hx, hb, -, hown, hts, hT, -⟩ := B
  intro H locs ls hH hS hl
  obtain ⟨r, h1, cell, q1, q2, q3, q4⟩ := (hH.2 a _ he).2
  have hr : r = (C, T, N) := Option.some.inj (h1.symm.trans hc)
  subst hr
  obtain ⟨hSl, hfc, kC, hkC, hkind⟩ := hT.1.1 ci _ hc
  obtain ⟨cf, kf, fi, f, hi, hsl⟩ := hSl k hk
  have hlay := hts _ (hin _ (u_in_lay hk))
  unfold u_lay at hlay
  rw [if_neg (by rw [hfin]; decide)] at hlay
  have hst := (u_facts hfc hkC (u_lays hts hin hk) hi).1
  have h6 := u_store hfc hkC hkind hlay hi (hty k hk) hn hfit
  refine va_WputK hx hb (f := f) hown (va_Nw.use rfl (hT.2 _ hlink).2) hi hst (by rw [q2]; exact h6) q1 q3 (by rw [hsl]; exact k2_hasslot (q4 k hk)) rfl rfl hdg fun H' e1 e2 e3 => ?_
  rw [hsl] at e1
  exact kk H' _ ls (mv_putAt (p := p) (l := l) (e := e) (R := R) (m := m) (below := below) (meth := meth) (c := c) (locs := locs) hts hin ty0 hty hnm hT hc he hk hlen hH q2 q3 q4 e1 e2 e3) (hS.put e2 e3 (hH.2 a _ he).1) hl
theorem mv_putF (B : mv_B X K cc Ts own nL ret rm "<init>") {C : String} {T : u_T} {N ci index a : Nat} (hin : ∀ w ∈ u_ws C T N, w ∈ Ts) (ty0 : Nat → FieldType) (hty : ∀ k, k < N → parseFieldDescriptor (T k).2.2.1 = some (ty0 k)) (hnm : ∀ a, a < N → ∀ b, b < N → a ≠ b → (T a).2.1 ≠ (T b).2.1) (hc : K.2.1[ci]? = some (C, T, N)) {fs : List Value} (he : M a = some (.inr (ci, fs))) (k : Nat) (hk : k < N) (hlink : Cond.fieldLink own index (T k).1 (T k).2.1 (T k).2.2.1 ∈ Ts) (hfin : (T k).2.2.2 = true) (hdecl : (T k).1 = own) {v : Value} (hn : narrow (ty0 k) v = v) (hfit : fits (ty0 k) v = true) (hlen : k < fs.length) (hdg : decode cc pc = .ok (.putfield index, 3)) (kk : mv_G X Q K nL (pc + 3) lv st (mv_up M a (.inr (ci, fs.set k v))) cells slots) : mv_G X Q K nL pc lv (v :: .ref a :: st) M cells slots := by
  obtain ⟨p, l, e, R, s, m, args, below, meth, c⟩ := X
  obtain ⟨hx, hb, -, hown, hts, hT, -, -, -, -, hin2⟩ := B
  intro H locs ls hH hS hl
  obtain ⟨r, h1, cell, q1, q2, q3, q4⟩ := (hH.2 a _ he).2
  have hr : r = (C, T, N) := Option.some.inj (h1.symm.trans hc)
  subst hr
  obtain ⟨hSl, hfc, kC, hkC, hkind⟩ := hT.1.1 ci _ hc
  obtain ⟨cf, kf, fi, f, hi, hsl⟩ := hSl k hk
  have hlay := hts _ (hin _ (u_in_lay hk))
  unfold u_lay at hlay
  rw [if_pos hfin] at hlay
  have hst := (u_facts hfc hkC (u_lays hts hin hk) hi).1
  have hcf : m.cls = cf := by
    obtain ⟨_, _, c', _, _, _, -, -, hf', -, -, -, hown2, -⟩ := Cond.laysFinal_spec hlay
    have e1 : c' = cf := by have := hi.symm.trans hf'; simp at this; exact this.1.symm
    rw [hdecl] at hown2
    rw [← e1]; exact Option.some.inj (hown.symm.trans hown2)
  have h6 := u_fits hfc hkC hkind (Or.inr hlay) hi (hty k hk) hn hfit
  refine W.putFinK hx hb hown (hts _ hlink) hi hst hcf hin2 (by rw [q2]; exact h6) q1 q3 (by rw [hsl]; exact k2_hasslot (q4 k hk)) rfl rfl hdg fun H' e1 e2 e3 => ?_
  rw [hsl] at e1
  exact kk H' _ ls (mv_putAt (p := p) (l := l) (e := e) (R := R) (m := m) (below := below) (meth := meth) (c := c) (locs := locs) hts hin ty0 hty hnm hT hc he hk hlen hH q2 q3 q4 e1 e2 e3) (hS.put e2 e3 (hH.2 a _ he).1) hl
/-- arrays of ints and of references: t0 their class's place in tys -/
theorem mv_iald (B : mv_B X K cc Ts own nL ret rm nm) {a n : Nat} {f : Nat → Int32} {cA : ClassId} (t0 : Nat) (ht : K.2.2.1[t0]? = some (cA, .int)) (ha : M a = some (.inl (cA, n, .inl f))) {z : Int} (rz : R32 z) (h0 : 0 ≤ z) (h1 : z < n) (hdg : decode cc pc = .ok (.iaload, 1)) (kk : mv_G X Q K nL (pc + 1) lv (.int (f z.toNat) :: st) M cells slots) : mv_G X Q K nL pc lv (.int (iI z) :: .ref a :: st) M cells slots := by
  obtain ⟨p, l, e, R, s, m, args, below, meth, c⟩ := X
  obtain ⟨hx, hb, -, hown, hts, hT, -⟩ := B
  intro H locs ls hH hS hl
  refine va_iald hx hb hT.1 (hH.P1 ha) 0 t0 rfl ht (iI_in rz h0 h1) hdg ?_
  rw [iI_c rz]
  exact kk H locs ls hH hS hl
theorem mv_aald (B : mv_B X K cc Ts own nL ret rm nm) {a n : Nat} {f : Nat → Option Nat} {cA : ClassId} {C : String} (t0 : Nat) (ht : K.2.2.1[t0]? = some (cA, .object C)) (ha : M a = some (.inl (cA, n, .inr (.inr (.inr (.inr f)))))) {z : Int} (rz : R32 z) (h0 : 0 ≤ z) (h1 : z < n) (hdg : decode cc pc = .ok (.aaload, 1)) (kk : mv_G X Q K nL (pc + 1) lv (va_rf (f z.toNat) :: st) M cells slots) : mv_G X Q K nL pc lv (.int (iI z) :: .ref a :: st) M cells slots := by
  obtain ⟨p, l, e, R, s, m, args, below, meth, c⟩ := X
  obtain ⟨hx, hb, -, hown, hts, hT, -⟩ := B
  intro H locs ls hH hS hl
  refine va_aldq hx hb hT.1 (hH.P1 ha) 0 t0 rfl ht (iI_in rz h0 h1) hdg ?_
  rw [iI_c rz]
  exact kk H locs ls hH hS hl
theorem mv_alen (B : mv_B X K cc Ts own nL ret rm nm) {a : Nat} {x : vp_A} {cA : ClassId} {ty : FieldType} (t0 : Nat) (ht : K.2.2.1[t0]? = some (cA, ty)) (ha : M a = some (.inl (cA, x))) (hdg : decode cc pc = .ok (.arraylength, 1)) (kk : mv_G X Q K nL (pc + 1) lv (.int (iI (x.1 : Nat)) :: st) M cells slots) : mv_G X Q K nL pc lv (.ref a :: st) M cells slots := by
  obtain ⟨p, l, e, R, s, m, args, below, meth, c⟩ := X
  obtain ⟨hx, hb, -, hown, hts, hT, -⟩ := B
  intro H locs ls hH hS hl
  exact va_alen hx hb hT.1 (hH.P1 ha) 0 t0 rfl ht (v := iI (x.1 : Nat)) Int32.ofInt_eq_ofNat.symm hdg (kk H locs ls hH hS hl)
theorem mv_iast (B : mv_B X K cc Ts own nL ret rm nm) {a n : Nat} {f : Nat → Int32} {cA : ClassId} (t0 : Nat) (ht : K.2.2.1[t0]? = some (cA, .int)) (ha : M a = some (.inl (cA, n, .inl f))) {z : Int} {x : Int32} (rz : R32 z) (h0 : 0 ≤ z) (h1 : z < n) (hdg : decode cc pc = .ok (.iastore, 1)) (kk : mv_G X Q K nL (pc + 1) lv st (mv_up M a (.inl (cA, n, .inl (upd f z.toNat x)))) cells slots) : mv_G X Q K nL pc lv (.int x :: .int (iI z) :: .ref a :: st) M cells slots := by
  obtain ⟨p, l, e, R, s, m, args, below, meth, c⟩ := X
  obtain ⟨hx, hb, -, hown, hts, hT, -⟩ := B
  intro H locs ls hH hS hl
  have hin := iI_in rz h0 h1
  refine W.iast hx hb (hH.2 a _ ha).2 ((hT.1.2 t0 _ ht).1 n (fun j => .int (f j))) (fun q => by cases q) (by show ¬ (iI z < 0 ∨ (arrV _ _ _).slots.size ≤ _); rw [arrV_size]; exact hin) rfl rfl hdg fun H1 e z1 oq => ?_
  refine kk H1 _ ls (hH.set ha ?_ z1 oq) (hS.put z1 oq (hH.2 a _ ha).1) hl
  show H1[a]? = some (vp_cell _ _)
  rw [e, iI_c rz, vp_cell_i, vp_cell_i, arrV_store]
  congr 2
  funext q
  by_cases hq : q = z.toNat
  · subst hq
    simp [updV, upd]
  · simp [updV, upd, hq]
theorem mv_aast (B : mv_B X K cc Ts own nL ret rm nm) {a n v ci : Nat} {f : Nat → Option Nat} {cA : ClassId} {r : vw_C} {vs : List Value} (t0 : Nat) (ht : K.2.2.1[t0]? = some (cA, .object r.1)) (ha : M a = some (.inl (cA, n, .inr (.inr (.inr (.inr f)))))) (hv : M v = some (.inr (ci, vs))) (hc : K.2.1[ci]? = some r) {z : Int} (rz : R32 z) (h0 : 0 ≤ z) (h1 : z < n) (hdg : decode cc pc = .ok (.aastore, 1)) (kk : mv_G X Q K nL (pc + 1) lv st (mv_up M a (.inl (cA, n, .inr (.inr (.inr (.inr (va_up f z.toNat (some v)))))))) cells slots) : mv_G X Q K nL pc lv (.ref v :: .int (iI z) :: .ref a :: st) M cells slots := by
  obtain ⟨p, l, e, R, s, m, args, below, meth, c⟩ := X
  obtain ⟨hx, hb, -, hown, hts, hT, -⟩ := B
  intro H locs ls hH hS hl
  have hin := iI_in rz h0 h1
  have hlt : (iI z).toNatClampNeg < n := Nat.not_le.mp fun q => hin (Or.inr q)
  have hz0 : ¬ iI z < 0 := fun q => hin (Or.inl q)
  obtain ⟨r', hr', cellV, g1, g2, g3, -⟩ := (hH.2 v _ hv).2
  have hcls := (hT.1.1 ci r hc).2
  obtain ⟨kA, comp, k1, k2, k3, -⟩ := (hT.1.2 t0 _ ht).2
  have hcomp : comp = K.1.1 ci := Option.some.inj (k3.symm.trans hcls.1)
  subst hcomp
  obtain ⟨kC, hkC, -⟩ := hcls.2
  refine W.aast hx hb (hH.2 a _ ha).2 (fun q h => by cases h) (fun h => by cases h) k1 k2 rfl hkC ⟨hz0, by show _ < (arrV _ _ _).slots.size; rw [arrV_size]; exact hlt⟩ g1 (fun q h => by rw [g3] at h; cases h) (by rw [g2]; exact hkC) (by rw [g2]; exact va_assign hcls) rfl rfl hdg fun H1 e z1 oq => ?_
  refine kk H1 _ ls (hH.set ha ?_ z1 oq) (hS.put z1 oq (hH.2 a _ ha).1) hl
  show H1[a]? = some (vp_cell _ _)
  rw [e, iI_c rz, vp_cell_q, vp_cell_q, arrV_store]
  congr 2
  funext q
  by_cases hq : q = z.toNat
  · subst hq
    simp [updV, va_up, va_rf]
  · simp [updV, va_up, hq]
theorem mv_newi (B : mv_B X K cc Ts own nL ret rm nm) {cA : ClassId} (t0 : Nat) (ht : K.2.2.1[t0]? = some (cA, .int)) (harr : Cond.arrayClass .int ∈ Ts) {z : Int} {n : Nat} (rz : R32 z) (hz : z = n) (hn : n ≤ 100000000) (hcells : cells + 1 ≤ rm.cells) (hslots : slots + n ≤ rm.slots) (hdg : decode cc pc = .ok (.newarray .int, 2))
    (kk : ∀ q : Nat, (∀ a e, M a = some e → a < q) → mv_G X Q K nL (pc + 2) lv (.ref q :: st) (mv_up M q (.inl (cA, n, .inl (fun _ => 0)))) (cells + 1) (slots + n)) : mv_G X Q K nL pc lv (.int (iI z) :: st) M cells slots := by
  obtain ⟨p, l, e, R, s, m, args, below, meth, c⟩ := X
  obtain ⟨hx, hb, -, hown, hts, hT, -, -, hR, -⟩ := B
  intro H locs ls hH hS hl
  subst hR
  subst hz
  have hz0 : ¬ iI (n : Int) < 0 := fun q => by
    rw [Int32.lt_iff_toInt_lt, iI_t rz] at q
    have : (0 : Int32).toInt = 0 := rfl
    omega
  have hcl : (iI (n : Int)).toNatClampNeg = n := by rw [iI_c rz]; rfl
  refine va_newaK (atype := .int) hx hb (hts _ harr) rfl hdg rfl hz0 hcl (by show n * 4 ≤ _; omega) hcells hslots rfl fun H1 cA' e1 z1 o1 hAr hNm => ?_
  have hcA : cA' = cA := Option.some.inj (hNm.symm.trans (hT.1.2 t0 _ ht).2)
  subst hcA
  exact kk H.size (fun a e h => hH.lt h) H1 locs ls (hH.born (by show H1[H.size]? = some (vp_cell _ _); rw [vp_cell_i]; exact e1) z1 o1) ⟨Nat.le_trans hS.1 (by omega), fun x h1 h2 => (o1 x (Nat.lt_of_lt_of_le h1 hS.1)).trans (hS.2.1 x h1 h2), hS.2.2⟩ hl
theorem mv_newq (B : mv_B X K cc Ts own nL ret rm nm) {cA : ClassId} {C : String} {index : Nat} (t0 : Nat) (ht : K.2.2.1[t0]? = some (cA, .object C)) (hclink : Cond.classLink own index C ∈ Ts) (hover : Cond.arrayOver (.object C) ∈ K.2.2.2.1) {z : Int} {n : Nat} (rz : R32 z) (hz : z = n) (hn : n ≤ 100000000) (hcells : cells + 1 ≤ rm.cells) (hslots : slots + n ≤ rm.slots) (hdg : decode cc pc = .ok (.anewarray index, 3))
    (kk : ∀ q : Nat, (∀ a e, M a = some e → a < q) → mv_G X Q K nL (pc + 3) lv (.ref q :: st) (mv_up M q (.inl (cA, n, .inr (.inr (.inr (.inr (fun _ => none))))))) (cells + 1) (slots + n)) : mv_G X Q K nL pc lv (.int (iI z) :: st) M cells slots := by
  obtain ⟨p, l, e, R, s, m, args, below, meth, c⟩ := X
  obtain ⟨hx, hb, -, hown, hts, hT, -, -, hR, -⟩ := B
  intro H locs ls hH hS hl
  subst hR
  subst hz
  have hz0 : ¬ iI (n : Int) < 0 := fun q => by
    rw [Int32.lt_iff_toInt_lt, iI_t rz] at q
    have : (0 : Int32).toInt = 0 := rfl
    omega
  have hcl : (iI (n : Int)).toNatClampNeg = n := by rw [iI_c rz]; rfl
  refine W.anew hx hb hown (hts _ hclink) (va_AO.use (hT.2 _ hover).2) rfl hdg rfl hz0 (by rw [hcl]; omega) hcells (by rw [hcl]; exact hslots) fun cA' kA comp f1 f2 f3 f4 => ?_
  rw [hcl]
  obtain ⟨-, -, -, -, -, hNm⟩ := (hT.1.2 t0 _ ht).2
  have hcA : cA' = cA := Option.some.inj (f1.symm.trans hNm)
  subst hcA
  generalize hH1 : H.push ({ cls := cA', slots := Array.replicate n .null, vm := .none } : Cell) = H1
  have z1 : H1.size = H.size + 1 := by rw [← hH1, Array.size_push]
  have e1 : H1[H.size]? = some (arrV cA' n (fun _ => .null)) := by rw [← hH1, Array.getElem?_push_size, ← arrV_new]
  have o1 : ∀ q : Nat, q < H.size → H1[q]? = H[q]? := fun q hq => by rw [← hH1, Array.getElem?_push, if_neg (Nat.ne_of_lt hq)]
  exact kk H.size (fun a e h => hH.lt h) H1 locs ls (hH.born (by show H1[H.size]? = some (vp_cell _ _); rw [vp_cell_q]; exact e1) z1 o1) ⟨Nat.le_trans hS.1 (by omega), fun x h1 h2 => (o1 x (Nat.lt_of_lt_of_le h1 hS.1)).trans (hS.2.1 x h1 h2), hS.2.2⟩ hl
theorem mv_new (B : mv_B X K cc Ts own nL ret rm nm) {C : String} {T : u_T} {N ci index : Nat} (hin : ∀ w ∈ u_ws C T N, w ∈ Ts) (ty : Nat → FieldType) (hty : ∀ k, k < N → parseFieldDescriptor (T k).2.2.1 = some (ty k)) (hcl : Cond.classLink own index C ∈ Ts) (hinst : Cond.instantiable C N ∈ Ts) (hini : Cond.initialized C ∈ Ts) (hc : K.2.1[ci]? = some (C, T, N)) {fs : List Value} (hfs : ∀ j, j < N → defaultValue (ty j) = vp_V fs j) (hcells : cells + 1 ≤ rm.cells) (hslots : slots + N ≤ rm.slots) (hdg : decode cc pc = .ok (.new index, 3))
    (kk : ∀ q : Nat, (∀ a e, M a = some e → a < q) → mv_G X Q K nL (pc + 3) lv (.ref q :: st) (mv_up M q (.inr (ci, fs))) (cells + 1) (slots + N)) : mv_G X Q K nL pc lv st M cells slots := by
  obtain ⟨p, l, e, R, s, m, args, below, meth, c⟩ := X
  obtain ⟨hx, hb, -, hown, hts, hT, -, -, hR, -⟩ := B
  intro H locs ls hH hS hl
  subst hR
  have hKn := hT.1.1 ci _ hc
  refine W.newcK hx hb hown (hts _ hcl) (hts _ hinst) (hts _ hini) rfl hdg hcells hslots hKn.2.1 rfl fun H1 kC hkC e1 z1 o1 => ?_
  exact kk H.size (fun a e h => hH.lt h) H1 locs ls (hH.born ⟨_, hc, (u_born ty hts hin hKn hkC e1 hty).to hfs⟩ z1 o1) ⟨Nat.le_trans hS.1 (by omega), fun x h1 h2 => (o1 x (Nat.lt_of_lt_of_le h1 hS.1)).trans (hS.2.1 x h1 h2), hS.2.2⟩ hl
theorem mv_objInit (B : mv_B X K cc Ts own nL ret rm nm) {idx a : Nat} (hlink : Cond.methodLink own idx objectInit ∈ Ts) (hinst : Cond.instanceMethod objectInit ∈ Ts) (hcode : Cond.code objectInit ⟨#[0xb1]⟩ 1 none ∈ Ts) (hdg : decode cc pc = .ok (.invokespecial idx, 3)) (hf : 1 ≤ rm.frames) (hlo : 12 + (st.map fun v => v.category).sum ≤ rm.locals) (kk : mv_G X Q K nL (pc + 3) lv st M cells slots) : mv_G X Q K nL pc lv (.ref a :: st) M cells slots := by
  obtain ⟨p, l, e, R, s, m, args, below, meth, c⟩ := X
  obtain ⟨hx, hb, hml, hown, hts, hT, -, -, hR, -⟩ := B
  intro H locs ls hH hS hl
  subst hR
  refine W.objInit hx hb hown (hts _ hlink) (hts _ hinst) (hts _ hcode) rfl (by rw [hml]; exact hl.1) rfl hdg hf ?_ (kk H locs ls hH hS hl)
  show 2 * 0 + _ + _ ≤ _
  omega
end MVG
theorem mv_callW {p : Program} {l : Launch} {e : Env} {R : Room} {s : State} {m : MethodId} {args : Array Value} {below : List Frame} {meth : Method} {c : Code} {H : Heap} {locs : List Loc} {cells slots : Nat} {Q : State → Prop} {pc : Nat} {ls : Array Slot} {rest st0 : List Value} {a : Array Value} {mc ms : Nat} {K : mv_K} {post : Option Value → mv_M → Prop} (hr : va_Run p l e R s m args below meth c H locs cells slots mc ms (F0 m pc ls st0) rest (mv_Q K post a) K.2.2.2.2) (hS : va_S K.2.2.2.2 s.heap H locs)
    (kk : ∀ (v : Option Value) (M1 : mv_M) (H1 : Heap) (locs1 : List Loc), post v M1 → mv_H K M1 H1 → va_S K.2.2.2.2 s.heap H1 locs1 → W p l e R s m args below meth c H1 locs1 (cells + mc) (slots + ms) Q (F0 m (pc + 3) ls (v.toList ++ rest))) : W p l e R s m args below meth c H locs cells slots Q (F0 m pc ls st0) := by
  intro T hT X
  obtain ⟨v, st₀, t, T', L, h0, X', hL, e1, e2, ⟨v', M1, hv, hp, hH1, hz, hk⟩, st⟩ := hr T hT X
  cases hv
  rw [h0] at hz hk
  obtain ⟨t2, a1, b1⟩ := kk v M1 T'.heap (locs ++ L) hp (by rw [e1]; exact hH1)
    ⟨Nat.le_trans hS.1 (by rw [e1]; exact hz), fun q h1 h2 => by rw [e1, hk q (Nat.lt_of_lt_of_le h1 hS.1) h2]; exact hS.2.1 q h1 h2, fun q hq => by
      rcases List.mem_append.mp hq with h | h
      · exact hS.2.2 q h
      · exact hL q h⟩ T' rfl X'
  exact ⟨t2, st t2 a1, b1⟩
section MVC
variable {X : mv_X} {Q : State → Prop} {K : mv_K} {nL pc : Nat} {lv : List (Nat × Value)} {st rest As : List Value} {M : mv_M} {cells slots : Nat}
variable {cc bytes : ByteArray} {Ts ws ws' : List Cond} {own nm C host : String} {ret ret' : Option FieldType} {rm rm' : Room} {y : MethodName} {post : Option Value → mv_M → Prop} {mc ms n maxL index b ci : Nat} {fs : List Value} {T : u_T} {N : Nat}
/-- calls: the callee's contract at the map M, its words among the caller's, its room within the caller's -/
theorem mv_cVN (B : mv_B X K cc Ts own nL ret rm nm) (hM : Met X.2.1 y ws rm' (mv_Pre K (.ref b :: As) M) (mv_Q K post) mc ms K.2.2.2.2) (hG : GoodIn Ts ws) (hw : ws = Cond.code y bytes maxL ret' :: ws') (hrc : rm'.cells = mc) (hrs : rm'.slots = ms) (hl : Cond.methodLinkNest own index y host ∈ K.2.2.2.1) (hini : Cond.initialized y.cls ∈ Ts) (hd : y.cls ≠ "java/lang/invoke/MethodHandle" ∧ y.cls ≠ "java/lang/invoke/VarHandle" ∧ (parseMethodDescriptor y.desc).map (fun d => d.parameters.length) = some n) (hR : rm'.frames + 1 ≤ rm.frames ∧ 8 + (maxL + 11) + rm'.locals ≤ rm.locals) (hi : Cond.instanceMethod y ∈ Ts) (hsel : Cond.selects C y y ∈ Ts) (hc : K.2.1[ci]? = some (C, T, N)) (hb : M b = some (.inr (ci, fs))) (hn : As.length = n) (hstk : st = As.reverse ++ .ref b :: rest) (hcat : (rest.map fun v => v.category).sum ≤ 8) (hdg : decode cc pc = .ok (.invokevirtual index, 3)) (hf : cells + mc ≤ rm.cells ∧ slots + ms ≤ rm.slots)
    (kk : ∀ (v : Option Value) (M1 : mv_M), post v M1 → mv_G X Q K nL (pc + 3) lv (v.toList ++ rest) M1 (cells + mc) (slots + ms)) : mv_G X Q K nL pc lv st M cells slots := by
  obtain ⟨p, l, e, R, s, m, args, below, meth, c⟩ := X
  obtain ⟨hx, hbb, hml, hown, hts, hT, -, -, hRR, -⟩ := B
  intro H locs ls hH hS hlv
  subst hRR
  refine mv_callW (va_runVN (As := As) (rest := rest) ⟨hx, hbb, hml, hown, hts⟩ hM ⟨va_cnB n hts hG hw hrc hrs (hT.2 _ hl).2 (hts _ hini) hd hR, hts _ hi, hts _ hsel⟩ ⟨mv_Pre.blind, va_recv hT.1 (hH.P1 hb) hc (q0 := 0) rfl, fun U hU hW => ⟨rfl, by rw [hU]; exact hH, hT.warm hW⟩⟩ rfl hn hlv.1 hstk (lv_room hcat) hdg hf) hS (fun v M1 H1 locs1 hp h1 h2 => kk v M1 hp H1 locs1 ls h1 h2 hlv)
theorem mv_cV (B : mv_B X K cc Ts own nL ret rm nm) (hM : Met X.2.1 y ws rm' (mv_Pre K (.ref b :: As) M) (mv_Q K post) mc ms K.2.2.2.2) (hG : GoodIn Ts (wsV own index C y ws)) (hw : ws = Cond.code y bytes maxL ret' :: ws') (hrc : rm'.cells = mc) (hrs : rm'.slots = ms) (hd : y.cls = C ∧ y.cls ≠ "java/lang/invoke/MethodHandle" ∧ y.cls ≠ "java/lang/invoke/VarHandle" ∧ (parseMethodDescriptor y.desc).map (fun d => d.parameters.length) = some n) (hR : rm'.frames + 1 ≤ rm.frames ∧ 8 + (maxL + 11) + rm'.locals ≤ rm.locals) (hc : K.2.1[ci]? = some (C, T, N)) (hb : M b = some (.inr (ci, fs))) (hn : As.length = n) (hstk : st = As.reverse ++ .ref b :: rest) (hcat : (rest.map fun v => v.category).sum ≤ 8) (hdg : decode cc pc = .ok (.invokevirtual index, 3)) (hf : cells + mc ≤ rm.cells ∧ slots + ms ≤ rm.slots)
    (kk : ∀ (v : Option Value) (M1 : mv_M), post v M1 → mv_G X Q K nL (pc + 3) lv (v.toList ++ rest) M1 (cells + mc) (slots + ms)) : mv_G X Q K nL pc lv st M cells slots := by
  obtain ⟨p, l, e, R, s, m, args, below, meth, c⟩ := X
  obtain ⟨hx, hbb, hml, hown, hts, hT, -, -, hRR, -⟩ := B
  intro H locs ls hH hS hlv
  subst hRR
  refine mv_callW (va_runV (As := As) (rest := rest) ⟨hx, hbb, hml, hown, hts⟩ hM (cwV n hts hG hw hrc hrs hd hR) ⟨mv_Pre.blind, va_recv hT.1 (hH.P1 hb) hc (q0 := 0) rfl, fun U hU hW => ⟨rfl, by rw [hU]; exact hH, hT.warm hW⟩⟩ rfl hn hlv.1 hstk (lv_room hcat) hdg hf) hS (fun v M1 H1 locs1 hp h1 h2 => kk v M1 hp H1 locs1 ls h1 h2 hlv)
theorem mv_cS (B : mv_B X K cc Ts own nL ret rm nm) (hM : Met X.2.1 y ws rm' (mv_Pre K As M) (mv_Q K post) mc ms K.2.2.2.2) (hG : GoodIn Ts (wsS own index y ws)) (hw : ws = Cond.code y bytes maxL ret' :: ws') (hrc : rm'.cells = mc) (hrs : rm'.slots = ms) (hd : y.cls = own ∧ y.cls ≠ "java/lang/invoke/MethodHandle" ∧ y.cls ≠ "java/lang/invoke/VarHandle" ∧ (parseMethodDescriptor y.desc).map (fun d => d.parameters.length) = some n) (hR : rm'.frames + 1 ≤ rm.frames ∧ 8 + (maxL + 11) + rm'.locals ≤ rm.locals) (hn : As.length = n) (hstk : st = As.reverse ++ rest) (hcat : (rest.map fun v => v.category).sum ≤ 8) (hdg : decode cc pc = .ok (.invokestatic index, 3)) (hf : cells + mc ≤ rm.cells ∧ slots + ms ≤ rm.slots)
    (kk : ∀ (v : Option Value) (M1 : mv_M), post v M1 → mv_G X Q K nL (pc + 3) lv (v.toList ++ rest) M1 (cells + mc) (slots + ms)) : mv_G X Q K nL pc lv st M cells slots := by
  obtain ⟨p, l, e, R, s, m, args, below, meth, c⟩ := X
  obtain ⟨hx, hbb, hml, hown, hts, hT, -, -, hRR, -⟩ := B
  intro H locs ls hH hS hlv
  subst hRR
  refine mv_callW (va_runS (As := As) (rest := rest) ⟨hx, hbb, hml, hown, hts⟩ hM (cwS n hts hG hw hrc hrs hd hR) ⟨mv_Pre.blind, fun U hU hW => ⟨rfl, by rw [hU]; exact hH, hT.warm hW⟩⟩ rfl hn hlv.1 hstk (lv_room hcat) hdg hf) hS (fun v M1 H1 locs1 hp h1 h2 => kk v M1 hp H1 locs1 ls h1 h2 hlv)
theorem mv_cSN (B : mv_B X K cc Ts own nL ret rm nm) (hM : Met X.2.1 y ws rm' (mv_Pre K As M) (mv_Q K post) mc ms K.2.2.2.2) (hG : GoodIn Ts ws) (hw : ws = Cond.code y bytes maxL ret' :: ws') (hrc : rm'.cells = mc) (hrs : rm'.slots = ms) (hl : Cond.methodLinkNest own index y host ∈ K.2.2.2.1) (hini : Cond.initialized y.cls ∈ Ts) (hd : y.cls ≠ "java/lang/invoke/MethodHandle" ∧ y.cls ≠ "java/lang/invoke/VarHandle" ∧ (parseMethodDescriptor y.desc).map (fun d => d.parameters.length) = some n) (hR : rm'.frames + 1 ≤ rm.frames ∧ 8 + (maxL + 11) + rm'.locals ≤ rm.locals) (hi : Cond.static y ∈ Ts) (hn : As.length = n) (hstk : st = As.reverse ++ rest) (hcat : (rest.map fun v => v.category).sum ≤ 8) (hdg : decode cc pc = .ok (.invokestatic index, 3)) (hf : cells + mc ≤ rm.cells ∧ slots + ms ≤ rm.slots)
    (kk : ∀ (v : Option Value) (M1 : mv_M), post v M1 → mv_G X Q K nL (pc + 3) lv (v.toList ++ rest) M1 (cells + mc) (slots + ms)) : mv_G X Q K nL pc lv st M cells slots := by
  obtain ⟨p, l, e, R, s, m, args, below, meth, c⟩ := X
  obtain ⟨hx, hbb, hml, hown, hts, hT, -, -, hRR, -⟩ := B
  intro H locs ls hH hS hlv
  subst hRR
  refine mv_callW (va_runSN (As := As) (rest := rest) ⟨hx, hbb, hml, hown, hts⟩ hM ⟨va_cnB n hts hG hw hrc hrs (hT.2 _ hl).2 (hts _ hini) hd hR, hts _ hi, trivial⟩ ⟨mv_Pre.blind, fun U hU hW => ⟨rfl, by rw [hU]; exact hH, hT.warm hW⟩⟩ rfl hn hlv.1 hstk (lv_room hcat) hdg hf) hS (fun v M1 H1 locs1 hp h1 h2 => kk v M1 hp H1 locs1 ls h1 h2 hlv)
theorem mv_cIN (B : mv_B X K cc Ts own nL ret rm nm) (hM : Met X.2.1 y ws rm' (mv_Pre K (.ref b :: As) M) (mv_Q K post) mc ms K.2.2.2.2) (hG : GoodIn Ts ws) (hw : ws = Cond.code y bytes maxL none :: ws') (hrc : rm'.cells = mc) (hrs : rm'.slots = ms) (hl : Cond.methodLinkNest own index y host ∈ K.2.2.2.1) (hini : Cond.initialized y.cls ∈ Ts) (hd : y.cls ≠ "java/lang/invoke/MethodHandle" ∧ y.cls ≠ "java/lang/invoke/VarHandle" ∧ (parseMethodDescriptor y.desc).map (fun d => d.parameters.length) = some n) (hR : rm'.frames + 1 ≤ rm.frames ∧ 8 + (maxL + 11) + rm'.locals ≤ rm.locals) (hnm : y.name = "<init>") (hi : Cond.instanceMethod y ∈ Ts) (hn : As.length = n) (hstk : st = As.reverse ++ .ref b :: rest) (hcat : (rest.map fun v => v.category).sum ≤ 8) (hdg : decode cc pc = .ok (.invokespecial index, 3)) (hf : cells + mc ≤ rm.cells ∧ slots + ms ≤ rm.slots)
    (kk : ∀ (v : Option Value) (M1 : mv_M), post v M1 → mv_G X Q K nL (pc + 3) lv (v.toList ++ rest) M1 (cells + mc) (slots + ms)) : mv_G X Q K nL pc lv st M cells slots := by
  obtain ⟨p, l, e, R, s, m, args, below, meth, c⟩ := X
  obtain ⟨hx, hbb, hml, hown, hts, hT, -, -, hRR, -⟩ := B
  intro H locs ls hH hS hlv
  subst hRR
  refine mv_callW (va_runIN (As := As) (rest := rest) ⟨hx, hbb, hml, hown, hts⟩ hM ⟨va_cnB n hts hG hw hrc hrs (hT.2 _ hl).2 (hts _ hini) hd hR, hnm, hts _ hi⟩ ⟨mv_Pre.blind, fun U hU hW => ⟨rfl, by rw [hU]; exact hH, hT.warm hW⟩⟩ rfl hn hlv.1 hstk (lv_room hcat) hdg hf) hS (fun v M1 H1 locs1 hp h1 h2 => kk v M1 hp H1 locs1 ls h1 h2 hlv)
theorem mv_cI (B : mv_B X K cc Ts own nL ret rm nm) (hM : Met X.2.1 y ws rm' (mv_Pre K (.ref b :: As) M) (mv_Q K post) mc ms K.2.2.2.2) (hG : GoodIn Ts ws) (hw : ws = Cond.code y bytes maxL none :: ws') (hrc : rm'.cells = mc) (hrs : rm'.slots = ms) (hini : Cond.initialized y.cls ∈ Ts) (hl : Cond.methodLink own index y ∈ Ts) (hi : Cond.instanceMethod y ∈ Ts) (hnm : y.name = "<init>") (hd : y.cls ≠ "java/lang/invoke/MethodHandle" ∧ y.cls ≠ "java/lang/invoke/VarHandle" ∧ (parseMethodDescriptor y.desc).map (fun d => d.parameters.length) = some n) (hR : rm'.frames + 1 ≤ rm.frames ∧ 8 + (maxL + 11) + rm'.locals ≤ rm.locals) (hn : As.length = n) (hstk : st = As.reverse ++ .ref b :: rest) (hcat : (rest.map fun v => v.category).sum ≤ 8) (hdg : decode cc pc = .ok (.invokespecial index, 3)) (hf : cells + mc ≤ rm.cells ∧ slots + ms ≤ rm.slots)
    (kk : ∀ (v : Option Value) (M1 : mv_M), post v M1 → mv_G X Q K nL (pc + 3) lv (v.toList ++ rest) M1 (cells + mc) (slots + ms)) : mv_G X Q K nL pc lv st M cells slots := by
  obtain ⟨p, l, e, R, s, m, args, below, meth, c⟩ := X
  obtain ⟨hx, hbb, hml, hown, hts, hT, -, -, hRR, -⟩ := B
  intro H locs ls hH hS hlv
  subst hRR
  refine mv_callW (va_runI (As := As) (rest := rest) ⟨hx, hbb, hml, hown, hts⟩ hM (cwI n hts hG hw hrc hrs (hts _ hini) (hts _ hl) (hts _ hi) hnm hd hR) ⟨mv_Pre.blind, fun U hU hW => ⟨rfl, by rw [hU]; exact hH, hT.warm hW⟩⟩ rfl hn hlv.1 hstk (lv_room hcat) hdg hf) hS (fun v M1 H1 locs1 hp h1 h2 => kk v M1 hp H1 locs1 ls h1 h2 hlv)
/-- a method's end -/
def mv_E (X : mv_X) (K : mv_K) (post : Option Value → mv_M → Prop) (mc ms : Nat) : State → Prop := match X with
  | (_, _, _, _, s, _, args, below, _, _) => MQ below (mv_Q K post) args s mc ms K.2.2.2.2
theorem mv_iret (B : mv_B X K cc Ts own nL (some .int) rm nm) {v : Int32} (hp : post (some (.int v)) M) (hc : cells ≤ mc) (hs : slots ≤ ms) (hdg : decode cc pc = .ok (.ireturn, 1)) : mv_G X (mv_E X K post mc ms) K nL pc lv [.int v] M cells slots := by
  obtain ⟨p, l, e, R, s, m, args, below, meth, c⟩ := X
  obtain ⟨hx, hbb, hml, hown, hts, hT, -, hr, hRR, hlk, -⟩ := B
  intro H locs ls hH hS hlv
  exact W.widen hc hs (W.iret hx hbb hr (fun t ht hW => ⟨_, M, rfl, hp, by rw [ht]; exact hH, hS.F ht⟩) hS.2.2 hdg hlk)
theorem mv_zret {ty : FieldType} (B : mv_B X K cc Ts own nL (some ty) rm nm) {v : Int32} (hn : narrow ty (.int v) = .int v) (hp : post (some (.int v)) M) (hc : cells ≤ mc) (hs : slots ≤ ms) (hdg : decode cc pc = .ok (.ireturn, 1)) : mv_G X (mv_E X K post mc ms) K nL pc lv [.int v] M cells slots := by
  obtain ⟨p, l, e, R, s, m, args, below, meth, c⟩ := X
  obtain ⟨hx, hbb, hml, hown, hts, hT, -, hr, hRR, hlk, -⟩ := B
  intro H locs ls hH hS hlv
  exact W.widen hc hs (W.zret hx hbb hr hn (fun t ht hW => ⟨_, M, rfl, hp, by rw [ht]; exact hH, hS.F ht⟩) hS.2.2 hdg hlk)
theorem mv_vret (B : mv_B X K cc Ts own nL none rm nm) (hp : post none M) (hc : cells ≤ mc) (hs : slots ≤ ms) (hdg : decode cc pc = .ok (.return_, 1)) : mv_G X (mv_E X K post mc ms) K nL pc lv [] M cells slots := by
  obtain ⟨p, l, e, R, s, m, args, below, meth, c⟩ := X
  obtain ⟨hx, hbb, hml, hown, hts, hT, -, hr, hRR, hlk, -⟩ := B
  intro H locs ls hH hS hlv
  exact W.widen hc hs (W.vret hx hbb hr (fun t ht hW => ⟨_, M, rfl, hp, by rw [ht]; exact hH, hS.F ht⟩) hS.2.2 hdg hlk)
theorem mv_aret {C' : String} (B : mv_B X K cc Ts own nL (some (.object C')) rm nm) {r : Option Nat} (hp : post (some (va_rf r)) M) (hc : cells ≤ mc) (hs : slots ≤ ms) (hdg : decode cc pc = .ok (.areturn, 1)) : mv_G X (mv_E X K post mc ms) K nL pc lv [va_rf r] M cells slots := by
  obtain ⟨p, l, e, R, s, m, args, below, meth, c⟩ := X
  obtain ⟨hx, hbb, hml, hown, hts, hT, -, hr, hRR, hlk, -⟩ := B
  intro H locs ls hH hS hlv
  refine W.widen hc hs (W.aret hx hbb hr (Or.inl ⟨_, rfl⟩) (by cases r with | none => exact Or.inl rfl | some a => exact Or.inr ⟨a, rfl⟩) (fun t ht hW => ⟨_, M, rfl, hp, by rw [ht]; exact hH, hS.F ht⟩) hS.2.2 hdg hlk)
theorem mv_widen {c2 s2 : Nat} (h1 : cells ≤ c2) (h2 : slots ≤ s2) (k : mv_G X Q K nL pc lv st M c2 s2) : mv_G X Q K nL pc lv st M cells slots := by
  obtain ⟨p, l, e, R, s, m, args, below, meth, c⟩ := X
  exact fun H locs ls hH hS hlv => W.widen h1 h2 (k H locs ls hH hS hlv)
theorem mv_lv {lv' : List (Nat × Value)} (ks : List Nat) (h : lv_pick lv ks = lv') (k : mv_G X Q K nL pc lv' st M cells slots) : mv_G X Q K nL pc lv st M cells slots := by
  obtain ⟨p, l, e, R, s, m, args, below, meth, c⟩ := X
  exact fun H locs ls hH hS hlv => k H locs ls hH hS (lv_sub hlv ks h)
/-- a contract out of a walk from the entry -/
theorem mv_Met {l : Launch} {av : List Value} (hy : plainName y.cls = true) (hw : ws = Cond.code y cc maxL ret :: ws') (hav : (lg_sl av).length ≤ maxL)
    (body : ∀ X : mv_X, X.2.1 = l → mv_B X K cc ws y.cls maxL ret rm y.name → mv_G X (mv_E X K post mc ms) K maxL 0 (lv_args 0 av) [] M 0 0) : Met l y ws rm (mv_Pre K av M) (mv_Q K post) mc ms K.2.2.2.2 := by
  refine Met.ofW (cc := cc) (maxL := maxL) (ret := ret) hy hw ?_
  intro p e s m args below meth c s₁ B hml hv
  obtain ⟨rfl, hH, hT⟩ := hv
  have hl := lv_entry av (n := maxL) hav
  rw [lg_entry_eq]
  exact body (p, l, e, (headSpec ws rm).room, s, m, av.toArray, below, meth, c) rfl ⟨B.exec, B.bytes, hml, findClass_of_methodNamed B.named, atoms_spec (ws := ws) B.pre, hT, hH.1, B.returns, rfl, B.notSynchronized, (name_of_methodNamed B.named B.method).1⟩ s.heap [] _ hH va_S.rf hl
end MVC
section MVT
variable {X : mv_X} {Q : State → Prop} {K : mv_K} {nL pc : Nat} {lv lv' : List (Nat × Value)} {st rest : List Value} {M : mv_M} {cells slots : Nat}
variable {cc : ByteArray} {Ts : List Cond} {own nm : String} {ret : Option FieldType} {rm : Room}
theorem mv_tab (B : mv_B X K cc Ts own nL ret rm nm) {dflt lo hi : Int} {offs : Array Int} {len : Nat} {z off : Int} {tgt : Nat} (hdg : decode cc pc = .ok (.tableswitch dflt lo hi offs, len)) (rz : R32 z) (j : Nat) (hz : z = lo + j) (hh : z ≤ hi) (ho : offs[j]? = some off) (ht : (pc : Int) + off = (tgt : Int)) (k : mv_G X Q K nL tgt lv st M cells slots) : mv_G X Q K nL pc lv (.int (iI z) :: st) M cells slots := by
  obtain ⟨p, l, e, R, s, m, args, below, meth, c⟩ := X
  obtain ⟨hx, hb, -⟩ := B
  intro H locs ls hH hS hl
  refine lv_tableIn hx hb hdg (by rw [iI_t rz]; omega) (by rw [iI_t rz]; omega) (off := off) ?_ ht (k H locs ls hH hS hl)
  rw [iI_t rz, show (z - lo).toNat = j by omega]
  exact ho
theorem mv_tabOut (B : mv_B X K cc Ts own nL ret rm nm) {dflt lo hi : Int} {offs : Array Int} {len : Nat} {z : Int} {tgt : Nat} (hdg : decode cc pc = .ok (.tableswitch dflt lo hi offs, len)) (rz : R32 z) (hz : z < lo ∨ hi < z) (ht : (pc : Int) + dflt = (tgt : Int)) (k : mv_G X Q K nL tgt lv st M cells slots) : mv_G X Q K nL pc lv (.int (iI z) :: st) M cells slots := by
  obtain ⟨p, l, e, R, s, m, args, below, meth, c⟩ := X
  obtain ⟨hx, hb, -⟩ := B
  intro H locs ls hH hS hl
  exact lv_tableOut hx hb hdg (by rw [iI_t rz]; exact hz) ht (k H locs ls hH hS hl)
theorem mv_max (B : mv_B X K cc Ts own nL ret rm nm) {index : Nat} {x y : Int} (rx : R32 x) (ry : R32 y) (hlink : Cond.methodLink own index Lib.Math.max.name ∈ Ts) (hstat : Cond.static Lib.Math.max.name ∈ Ts) (hini : Cond.initialized "java/lang/Math" ∈ Ts) (hcode : Cond.code Lib.Math.max.name Lib.Math.max.code 2 (some .int) ∈ Ts) (hf : 1 ≤ rm.frames) (hlo : (st.map fun v => v.category).sum + 13 ≤ rm.locals) (hc : cells ≤ rm.cells) (hs : slots ≤ rm.slots) (hdg : decode cc pc = .ok (.invokestatic index, 3)) (k : mv_G X Q K nL (pc + 3) lv (.int (iI (if x < y then y else x)) :: st) M cells slots) : mv_G X Q K nL pc lv (.int (iI y) :: .int (iI x) :: st) M cells slots := by
  obtain ⟨p, l, e, R, s, m, args, below, meth, c⟩ := X
  obtain ⟨hx, hb, hml, hown, hts, hT, -, -, hR, -⟩ := B
  intro H locs ls hH hS hl
  subst hR
  refine va_mmax hx hb (hml.trans hl.1.symm) hown (hts _ hlink) (hts _ hstat) (hts _ hini) (hts _ hcode) hf hlo hc hs hdg ?_
  have e : (if iI x < iI y then iI y else iI x) = iI (if x < y then y else x) := by
    by_cases h : x < y
    · rw [if_pos h, if_pos ((iI_lt rx ry).mpr h)]
    · rw [if_neg h, if_neg (fun q => h ((iI_lt rx ry).mp q))]
  rw [e]
  exact k H locs ls hH hS hl
theorem mv_copyi (B : mv_B X K cc Ts own nL ret rm nm) {index a a0 n0 n1 : Nat} {cA : ClassId} {f g : Nat → Int32} (t0 : Nat) (ht : K.2.2.1[t0]? = some (cA, .int)) (hlink : Cond.methodLink own index arraycopyName ∈ Ts) (hnat : Cond.native arraycopyName ∈ Ts) (hstat : Cond.static arraycopyName ∈ Ts) (hini : Cond.initialized "java/lang/System" ∈ Ts)
    (ha0 : M a0 = some (.inl (cA, n0, .inl f))) (ha1 : M a = some (.inl (cA, n1, .inl g))) {sp dp n : Int} (rs : R32 sp) (rd : R32 dp) (rn : R32 n) (h1 : 0 ≤ sp) (h2 : 0 ≤ dp) (h3 : 0 ≤ n) (h4 : sp + n ≤ n0) (h5 : dp + n ≤ n1)
    (hf : 1 ≤ rm.frames) (hlo : (st.map fun v => v.category).sum + (nativeFrameWords "java/lang/System" "arraycopy" 5 + 11) ≤ rm.locals) (hdg : decode cc pc = .ok (.invokestatic index, 3))
    (kk : mv_G X Q K nL (pc + 3) lv st (mv_up M a (.inl (cA, n1, .inl (va_cpy f g sp.toNat dp.toNat n.toNat)))) cells slots) : mv_G X Q K nL pc lv (.int (iI n) :: .int (iI dp) :: .ref a :: .int (iI sp) :: .ref a0 :: st) M cells slots := by
  obtain ⟨p, l, e, R, s, m, args, below, meth, c⟩ := X
  obtain ⟨hx, hb, hml, hown, hts, hT, -, -, hR, -⟩ := B
  intro H locs ls hH hS hl
  subst hR
  have h0 : ∀ z : Int, R32 z → 0 ≤ z → ¬ iI z < 0 := fun z r h q => by
    rw [Int32.lt_iff_toInt_lt, iI_t r] at q
    have : (0 : Int32).toInt = 0 := rfl
    omega
  intro T hTT X
  have hc0 : H[a0]? = some (vp_cell cA (n0, .inl f)) := (hH.2 a0 _ ha0).2
  have hc1 : H[a]? = some (vp_cell cA (n1, .inl g)) := (hH.2 a _ ha1).2
  obtain ⟨-, k0, hk0, cm0, hkk0⟩ := (hT.1.2 t0 _ ht).1 n0 (fun j => .int (f j))
  obtain ⟨vm', X', step⟩ := X.arraycopy hx hown (hts _ hlink) (hts _ hnat) (hts _ hstat) (hts _ hini) (src := a0) (dst := a) (cs := vp_cell cA (n0, .inl f)) (cd := vp_cell cA (n1, .inl g)) (srcPos := iI sp) (destPos := iI dp) (n := iI n) (by rw [hTT]; exact hc0) (by rw [hTT]; exact hc1)
    (fun _ h => by cases h) (fun _ h => by cases h) (fun h => by cases h) (fun h => by cases h) hk0 hk0 hkk0 hkk0 (by simp [refKind]) (h0 _ rs h1) (h0 _ rd h2) (h0 _ rn h3)
    (by rw [iI_t rs, iI_t rn]; show ¬ _ > ((arrV cA n0 (fun j => .int (f j))).slots.size : Int); rw [arrV_size]; omega)
    (by rw [iI_t rd, iI_t rn]; show ¬ _ > ((arrV cA n1 (fun j => .int (g j))).slots.size : Int); rw [arrV_size]; omega)
    (fun vm₁ _ i hi => by
      have e : (vp_cell cA (n0, .inl f)).slots.getD ((iI sp).toNatClampNeg + i) .null = .int (f ((iI sp).toNatClampNeg + i)) := by
        show (arrV cA n0 (fun j => .int (f j))).slots.getD _ _ = _
        rw [Array.getD_eq_getD_getElem?, arrV_read _ _ (by rw [iI_c rs]; rw [iI_c rn] at hi; omega)]
        rfl
      refine ⟨?_, ?_⟩
      · rw [e]; rfl
      · rw [e]
        exact trivial)
    (g := F0 m pc ls (.int (iI n) :: .int (iI dp) :: .ref a :: .int (iI sp) :: .ref a0 :: st)) rfl (by rw [hml]; exact hl.1) (rest := st) rfl (by rw [hb]; exact hdg) hf (by show 2 * 0 + _ + _ ≤ _; omega)
  have h4' : (iI sp).toNatClampNeg + (iI n).toNatClampNeg ≤ n0 := by rw [iI_c rs, iI_c rn]; omega
  have e1 : copied (vp_cell cA (n0, .inl f)) (vp_cell cA (n1, .inl g)) (iI sp) (iI dp) (iI n) = vp_cell cA (n1, .inl (va_cpy f g (iI sp).toNatClampNeg (iI dp).toNatClampNeg (iI n).toNatClampNeg)) := va_copied (fun z => .int z) cA cA f g h4'
  rw [iI_c rs, iI_c rd, iI_c rn] at e1
  rw [e1] at X' step
  have hlt : a < H.size := (Array.getElem?_eq_some_iff.mp hc1).1
  have hheap : ((T.setVm vm').setCell a (vp_cell cA (n1, .inl (va_cpy f g sp.toNat dp.toNat n.toNat)))).heap = H.setIfInBounds a (vp_cell cA (n1, .inl (va_cpy f g sp.toNat dp.toNat n.toNat))) := by rw [← hTT]; rfl
  have oq : ∀ q : Nat, q ≠ a → (H.setIfInBounds a (vp_cell cA (n1, .inl (va_cpy f g sp.toNat dp.toNat n.toNat))))[q]? = H[q]? := fun q hq => by simp [Array.getElem?_setIfInBounds, Ne.symm hq]
  obtain ⟨t, a1, b1⟩ := kk (H.setIfInBounds a (vp_cell cA (n1, .inl (va_cpy f g sp.toNat dp.toNat n.toNat)))) _ ls (hH.set ha1 (show (H.setIfInBounds a _)[a]? = some _ by simp [Array.getElem?_setIfInBounds, hlt]) (by simp) oq) ⟨by simp; exact hS.1, fun q g1 g2 => by
      rw [oq q (fun e => g2 (by rw [e]; exact (hH.2 a _ ha1).1))]
      exact hS.2.1 q g1 g2, fun q hq => by
      rcases List.mem_append.mp hq with h | h
      · exact hS.2.2 q h
      · obtain ⟨z, -, hz⟩ := List.mem_map.mp h
        rw [← hz]
        exact (hH.2 a _ ha1).1⟩ hl _ hheap X'
  exact ⟨t, step t a1, b1⟩
end MVT
