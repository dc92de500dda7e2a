/-! THE LAW, from the kit: its words; then its loop -/
/-! THE CLAIM OUT OF ONE WALK OF THE LAW'S BODY. Your part is whole_start (and what it stands on); all else here is the same for every law, but numbers. -/
def R_law : String := "FamilyRulesLaw"
def lw_P (b : Addr) (xs : List Int32) (args : Array Value) (s : State) : Prop := args = #[.ref b] ∧ s.IntsAt b xs ∧ xs.length ≤ 2560 ∧ (Jvm.Cond.and given_1 narrow_1).before args s = true
def lw_Q (_ : Array Value) (s : State) (o : Outcome) (t : State) : Prop := o = .returned (some (.int 1)) ∧ Framed s o t [] room_1.cells room_1.slots
def lw_Z (below : List Frame) (a : Array Value) (s : State) : State → Prop := fun t => ∃ o, t.status = .running ∧ Ended t below o ∧ lw_Q a s o t
/-- the law's own end, with 1 on the stack, nothing written that was there before, its room as the claim has it -/
theorem lw_ret {p : Program} {l : Launch} {e : Env} {s : State} {m : MethodId} {below : List Frame} {meth : Method} {c : Code} {b : Nat} (hx : p.tables.exec = Jvm.exec) (hb : c.code = code) (hr : meth.sig.returnType = ret) (hlocks : meth.locks = false) {pc : Nat} {H : Heap} {ls : Array Slot} (hdg : decode code pc = .ok (.ireturn, 1)) : W p l e room_1 s m #[Value.ref b] below meth c H [] room_1.cells room_1.slots (lw_Z below #[Value.ref b] s) (F0 m pc ls [.int 1]) := by
  intro T hT X
  obtain ⟨fs, hret, hrun, hended, hW, hframe⟩ := X.leave (v := some (.int 1)) (hlocks := hlocks) (fun h => by rw [hr] at h; cases h)
  have hmeth' : T.vm.method? m = some meth := X.method'
  refine ⟨T.setFrames fs, ?_, .returned (some (.int 1)), hrun, hended, rfl, ⟨_, rfl⟩, hW, hframe⟩
  jvm_step X.here [X.here.top, hx, hb, hdg, hmeth', hr, ret, narrow_b1]
  (try refine ⟨rfl, ?_⟩); (try refine ⟨rfl, ?_⟩)
  first | (intro acts; rw [hret _ acts rfl rfl rfl]) | rw [hret _ _ rfl rfl rfl]
  exact Steps.refl _
/-- what holds at the law's entry: the machine, the code, the tables' words (any of lw_tbl by 'hts w (by decide +kernel)'), the script of L ints xs at the cell b, what the Statement gives of the start (any of its parts by flat_of_before) -/
def lw_At (p : Program) (s : State) (m : MethodId) (meth : Method) (c : Code) (b L : Nat) (xs : Nat → Int32) : Prop :=
  p.tables.exec = Jvm.exec ∧ c.code = code ∧ meth.sig.returnType = ret ∧ c.maxLocals = 4 ∧ s.vm.findClass R_law = some m.cls ∧ (∀ w ∈ lw_tbl, w.before #[Value.ref b] s = true) ∧ va_X b L xs s s.heap ∧ b < s.heap.size ∧ meth.locks = false ∧ (Jvm.Cond.and given_1 narrow_1).before #[Value.ref b] s = true
set_option maxRecDepth 100000 in
set_option maxHeartbeats 4000000 in
theorem law_loop {X : mv_X} {Q : State → Prop} {V : mv_V} {v0 : Cond} {nm : String} (B : mv_B X (kk V) code (v0 :: mw) "FamilyRulesLaw" 4 ret room_1 nm) {b L : Nat} {xs : Nat → Int32} (hX : va_X b L xs X.2.2.2.2.1 X.2.2.2.2.1.heap) (hbl : b < X.2.2.2.2.1.heap.size) (hbA : ¬ V.2.2.2.2 b) (hL : L ≤ 2560) (hend : ∀ (lv : List (Nat × Value)) (M : mv_M) (cells slots : Nat), cells ≤ room_1.cells → slots ≤ room_1.slots → mv_G X Q (kk V) 4 545 lv [] M cells slots) : ∀ (n i x r : Nat) (M1 M2 : mv_M) (S : SS) (cap lq : Nat), L + 1 ≤ i + n → i ≤ L → ClsP V M1 x S → RefP V M2 r cap lq S → RefK cap lq S → mv_dj M1 M2 → mv_G X Q (kk V) 4 18 [(3, .int (iI (((i : Nat) : Int)))), (0, .ref b), (1, .ref x), (2, .ref r)] [] (mv_or M1 M2) (pC cap lq + 3 * i + 30) (pS cap lq + 801 * i + 10000) := by
  intro n
  induction n with
  | zero => intro i x r M1 M2 S cap lq h1 h2; exact absurd h1 (by omega)
  | succ n ih =>
    intro i x r M1 M2 S cap lq hn hi hP hR hK hd
    have hpb := pC_bd hK
    have hrc := rm_c
    have hrs := rm_s
    refine mv_iload_n B d_Law_law_18 rfl 0 rfl ?_
    refine mv_aloadR_n B d_Law_law_19 rfl 1 rfl ?_
    refine mv_slen B hX hbl hbA d_Law_law_20 ?_
    refine mv_iconst (z := 5) B d_Law_law_21 rfl ?_
    refine mv_isub B d_Law_law_22 ?_
    refine mv_icmp_gt (tgt := 545) B d_Law_law_23 (by decide) (by omega) (by omega) (fun c => ?_) (fun c => ?_)
    · exact hend _ _ _ _ (by omega) (by omega)
    · have hi5 : i + 5 ≤ L := by omega
      have k : ∀ (M1' M2' : mv_M) (S' : SS) (cap' lq' : Nat), ClsP V M1' x S' → RefP V M2' r cap' lq' S' → RefK cap' lq' S' → mv_dj M1' M2' → mv_G X Q (kk V) 4 539 [(3, .int (iI (((i : Nat) : Int)))), (0, .ref b), (1, .ref x), (2, .ref r)] [] (mv_or M1' M2') (pC cap' lq' + 3 * i + 44) (pS cap' lq' + 801 * i + 14004) := by
        intro M1' M2' S' cap' lq' hP' hR' hK' hd'
        refine mv_iinc (lv' := [(3, .int (iI (((i : Nat) : Int) + 5))), (0, .ref b), (1, .ref x), (2, .ref r)]) B d_Law_law_539 0 rfl (by decide) rfl ?_
        refine mv_goto (tgt := 18) B d_Law_law_542 (by decide) ?_
        rw [show ((i : Nat) : Int) + 5 = ((i + 5 : Nat) : Int) by omega]
        refine mv_widen (c2 := pC cap' lq' + 3 * (i + 5) + 30) (s2 := pS cap' lq' + 801 * (i + 5) + 10000) (by omega) (by omega) ?_
        exact ih (i + 5) x r M1' M2' S' cap' lq' (by omega) hi5 hP' hR' hK' hd'
      refine mv_aloadR_n B d_Law_law_26 rfl 1 rfl ?_
      refine mv_iload_n B d_Law_law_27 rfl 0 rfl ?_
      refine mv_sld B hX hbl hbA (by omega) (by omega) (by omega) d_Law_law_28 ?_
      refine mv_bipush (z := 15) B d_Law_law_29 (by decide) ?_
      refine mv_and15 B d_Law_law_31 (fun w w0 w1 => ?_)
      by_cases c0 : w = 0
      · refine mv_tab (tgt := 100) (off := 68) B d_Law_law_32 (by omega) 0 (by omega) (by omega) rfl (by decide) ?_
        exact lw_k0 B hX hbl hbA hL hi5 hP hR hK hd k
      by_cases c1 : w = 1
      · refine mv_tab (tgt := 143) (off := 111) B d_Law_law_32 (by omega) 1 (by omega) (by omega) rfl (by decide) ?_
        exact lw_k1 B hX hbl hbA hL hi5 hP hR hK hd k
      by_cases c2 : w = 2
      · refine mv_tab (tgt := 176) (off := 144) B d_Law_law_32 (by omega) 2 (by omega) (by omega) rfl (by decide) ?_
        exact lw_k2 B hX hbl hbA hL hi5 hP hR hK hd k
      by_cases c3 : w = 3
      · refine mv_tab (tgt := 229) (off := 197) B d_Law_law_32 (by omega) 3 (by omega) (by omega) rfl (by decide) ?_
        exact lw_k3 B hX hbl hbA hL hi5 hP hR hK hd k
      by_cases c4 : w = 4
      · refine mv_tab (tgt := 242) (off := 210) B d_Law_law_32 (by omega) 4 (by omega) (by omega) rfl (by decide) ?_
        exact lw_k4 B hX hbl hbA hL hi5 hP hR hK hd k
      by_cases c5 : w = 5
      · refine mv_tab (tgt := 285) (off := 253) B d_Law_law_32 (by omega) 5 (by omega) (by omega) rfl (by decide) ?_
        exact lw_k5 B hX hbl hbA hL hi5 hP hR hK hd k
      by_cases c6 : w = 6
      · refine mv_tab (tgt := 318) (off := 286) B d_Law_law_32 (by omega) 6 (by omega) (by omega) rfl (by decide) ?_
        exact lw_k6 B hX hbl hbA hL hi5 hP hR hK hd k
      by_cases c7 : w = 7
      · refine mv_tab (tgt := 351) (off := 319) B d_Law_law_32 (by omega) 7 (by omega) (by omega) rfl (by decide) ?_
        exact lw_k7 B hX hbl hbA hL hi5 hP hR hK hd k
      by_cases c8 : w = 8
      · refine mv_tab (tgt := 394) (off := 362) B d_Law_law_32 (by omega) 8 (by omega) (by omega) rfl (by decide) ?_
        exact lw_k8 B hX hbl hbA hL hi5 hP hR hK hd k
      by_cases c9 : w = 9
      · refine mv_tab (tgt := 427) (off := 395) B d_Law_law_32 (by omega) 9 (by omega) (by omega) rfl (by decide) ?_
        exact lw_k9 B hX hbl hbA hL hi5 hP hR hK hd k
      by_cases c10 : w = 10
      · refine mv_tab (tgt := 450) (off := 418) B d_Law_law_32 (by omega) 10 (by omega) (by omega) rfl (by decide) ?_
        exact lw_k10 B hX hbl hbA hL hi5 hP hR hK hd k
      by_cases c11 : w = 11
      · refine mv_tab (tgt := 483) (off := 451) B d_Law_law_32 (by omega) 11 (by omega) (by omega) rfl (by decide) ?_
        exact lw_k11 B hX hbl hbA hL hi5 hP hR hK hd k
      by_cases c12 : w = 12
      · refine mv_tab (tgt := 496) (off := 464) B d_Law_law_32 (by omega) 12 (by omega) (by omega) rfl (by decide) ?_
        exact lw_k12 B hX hbl hbA hL hi5 hP hR hK hd k
      refine mv_tabOut (tgt := 539) B d_Law_law_32 (by omega) (by omega) (by decide) ?_
      exact mv_widen (by omega) (by omega) (k M1 M2 S cap lq hP hR hK hd)
