theorem mv_up_or {M1 : mv_M} {r : Nat} {c : va_E} (h : M1 r = none) : mv_up M1 r c = mv_or M1 (mv_up (fun _ => none) r c) := by
  funext q
  by_cases z : q = r
  · subst z; rw [mv_us, mv_or_n h, mv_us]
  · rw [mv_un z]
    cases hm : M1 q with
    | some e => rw [mv_or_l hm]
    | none => rw [mv_or_n hm, mv_un z]
set_option maxRecDepth 100000 in
set_option maxHeartbeats 4000000 in
theorem whole_start {p : Program} {e : Env} {s : State} {m : MethodId} {below : List Frame} {meth : Method} {c : Code} (l : Launch) {b L : Nat} {xs : Nat → Int32} (hL : L ≤ 2560) (C0 : lw_At p s m meth c b L xs) : W p l e room_1 s m #[Value.ref b] below meth c s.heap [] 0 0 (lw_Z below #[Value.ref b] s) (entryFrame m ([Value.ref b] : List Value).toArray 4) := by
  obtain ⟨hx, hb, hr, hml, hown, hts, hX, hbl, hlocks, hgv⟩ := id C0
  have hts2 : ∀ w ∈ (Cond.initialized "FamilyRulesLaw" :: mw), w.before #[Value.ref b] s = true := fun w hw => by
    rcases List.mem_cons.mp hw with e | h
    · rw [e]; exact hts _ (List.mem_append_right _ (List.mem_of_getElem? (i := 0) (by decide +kernel)))
    · exact hts w (List.mem_filter.mp h).1
  obtain ⟨c0, i0, k0⟩ := u_known (C := "FamilyRules$Term") (T := T_Term) (N := 4) (n := 4) hts2 in_Term (hts2 (.instantiable "FamilyRules$Term" 4) (mwc (mw_t 148 (by decide +kernel) (by decide +kernel))))
  obtain ⟨c1, i1, k1⟩ := u_known (C := "FamilyRules$Shelf") (T := T_Shelf) (N := 3) (n := 3) hts2 in_Shelf (hts2 (.instantiable "FamilyRules$Shelf" 3) (mwc (mw_t 46 (by decide +kernel) (by decide +kernel))))
  obtain ⟨c2, i2, k2⟩ := u_known (C := "FamilyRules$Global") (T := T_Global) (N := 10) (n := 10) hts2 in_Global (hts2 (.instantiable "FamilyRules$Global" 10) (mwc (mw_t 222 (by decide +kernel) (by decide +kernel))))
  obtain ⟨c3, i3, k3⟩ := u_known (C := "FamilyRules$Register") (T := T_Register) (N := 2) (n := 2) hts2 in_Register (hts2 (.instantiable "FamilyRules$Register" 2) (mwc (mw_t 65 (by decide +kernel) (by decide +kernel))))
  obtain ⟨c4, i4, k4⟩ := u_known (C := "FamilyRules$Reader") (T := T_Reader) (N := 5) (n := 5) hts2 in_Reader (hts2 (.instantiable "FamilyRules$Reader" 5) (mwc (mw_t 20 (by decide +kernel) (by decide +kernel))))
  obtain ⟨c5, i5, k5⟩ := u_known (C := "FamilyRules$Maker") (T := T_Maker) (N := 8) (n := 8) hts2 in_Maker (hts2 (.instantiable "FamilyRules$Maker" 8) (mwc (mw_t 80 (by decide +kernel) (by decide +kernel))))
  obtain ⟨c6, i6, k6⟩ := u_known (C := "FamilyRules") (T := T_Fam) (N := 4) (n := 4) hts2 in_Fam (hts2 (.instantiable "FamilyRules" 4) (mwc (mw_t 12 (by decide +kernel) (by decide +kernel))))
  obtain ⟨c7, i7, k7⟩ := u_known (C := "FamilyRulesModel") (T := T_Mod) (N := 16) (n := 16) hts2 in_Mod (hts2 (.instantiable "FamilyRulesModel" 16) (mwc (mw_t 481 (by decide +kernel) (by decide +kernel))))
  obtain ⟨dC, dI, hKc⟩ : ∃ (dC : Nat → ClassId) (dI : Nat → Nat → Nat), ∀ (k : Nat) (q : vw_C), clsL[k]? = some q → u_Kn s q.1 q.2.1 q.2.2 (dC k) (dI k) := by
    refine ⟨(fun k => if k = 0 then c0 else if k = 1 then c1 else if k = 2 then c2 else if k = 3 then c3 else if k = 4 then c4 else if k = 5 then c5 else if k = 6 then c6 else c7), (fun k => if k = 0 then i0 else if k = 1 then i1 else if k = 2 then i2 else if k = 3 then i3 else if k = 4 then i4 else if k = 5 then i5 else if k = 6 then i6 else i7), ?_⟩
    intro k q hq
    match k, hq with
    | 0, hq => cases hq; exact k0
    | 1, hq => cases hq; exact k1
    | 2, hq => cases hq; exact k2
    | 3, hq => cases hq; exact k3
    | 4, hq => cases hq; exact k4
    | 5, hq => cases hq; exact k5
    | 6, hq => cases hq; exact k6
    | 7, hq => cases hq; exact k7
    | k + 8, hq => simp [clsL] at hq
  obtain ⟨cI, kI, oI, a1, a2, a3⟩ := Cond.arrayClass_spec (hts2 (.arrayClass .int) (mwc (mw_t 44 (by decide +kernel) (by decide +kernel))))
  obtain ⟨oT, cT, kT, t1, t2, t3, t4, t5⟩ := Cond.arrayOver_spec (hts (.arrayOver (.object "FamilyRules$Term")) (List.mem_append_right _ (List.mem_of_getElem? (i := 52) (by decide +kernel))))
  obtain ⟨oG, cG, kG, g1, g2, g3, g4, g5⟩ := Cond.arrayOver_spec (hts (.arrayOver (.object "FamilyRules$Global")) (List.mem_append_right _ (List.mem_of_getElem? (i := 71) (by decide +kernel))))
  obtain ⟨V, hV⟩ : ∃ V : mv_V, V = ((dC, dI), cI, cT, cG, fun q : Nat => s.heap.size ≤ q) := ⟨_, rfl⟩
  have hVf : V.2.2.2.2 = fun q : Nat => s.heap.size ≤ q := by rw [hV]
  have hT : mv_T (kk V) s := by
    rw [hV]
    refine ⟨⟨hKc, fun k q hq => ?_⟩, fun w hw => ?_⟩
    · match k, hq with
      | 0, hq => cases hq; exact ⟨fun n z => ⟨(fun k h => by cases h), kI, a2, oI, a3⟩, a1⟩
      | 1, hq => cases hq; exact ⟨fun n z => ⟨(fun k h => by cases h), kT, t3, oT, t4⟩, kT, oT, t3, t4, t1, t5⟩
      | 2, hq => cases hq; exact ⟨fun n z => ⟨(fun k h => by cases h), kG, g3, oG, g4⟩, kG, oG, g3, g4, g1, g5⟩
      | k + 3, hq => simp at hq
    · have h1 := (List.mem_filter.mp hw).2
      have h2 := hts w (List.mem_append_right _ (List.mem_filter.mp hw).1)
      refine ⟨h1, ?_⟩
      unfold mv_nk at h1
      split at h1
      · exact va_Nw.of rfl h2
      · exact va_Nw.of rfl h2
      · exact h2
      · cases h1
  obtain ⟨X, eX⟩ : ∃ X : mv_X, X = (p, l, e, room_1, s, m, #[Value.ref b], below, meth, c) := ⟨_, rfl⟩
  have B : mv_B X (kk V) code (Cond.initialized "FamilyRulesLaw" :: mw) "FamilyRulesLaw" 4 ret room_1 meth.name := by
    rw [eX]
    exact ⟨hx, hb, hml, hown, hts2, hT, fun q h => by show V.2.2.2.2 q; rw [hVf]; exact h, hr, rfl, hlocks, rfl⟩
  have hbA : ¬ V.2.2.2.2 b := by rw [hVf]; exact Nat.not_le.mpr hbl
  have hX' : va_X b L xs X.2.2.2.2.1 X.2.2.2.2.1.heap := by rw [eX]; exact hX
  have hbl' : b < X.2.2.2.2.1.heap.size := by rw [eX]; exact hbl
  obtain ⟨Q, hQ⟩ : ∃ Q : State → Prop, Q = lw_Z below #[Value.ref b] s := ⟨_, rfl⟩
  have hend : ∀ (lv : List (Nat × Value)) (M : mv_M) (cells slots : Nat), cells ≤ room_1.cells → slots ≤ room_1.slots → mv_G X Q (kk V) 4 545 lv [] M cells slots := by
    intro lv M cells slots h1 h2
    refine mv_iconst (z := 1) B d_Law_law_545 rfl ?_
    rw [eX, hQ]
    intro H locs ls hH hS hl
    refine va_forget (fun q hq => by have := hS.2.2 q hq; rw [show (kk V).2.2.2.2 = V.2.2.2.2 from rfl, hVf] at this; exact this) ?_
    refine W.widen h1 h2 ?_
    exact lw_ret hx hb hr hlocks d_Law_law_546
  have G : mv_G X Q (kk V) 4 0 [(0, .ref b)] [] (fun _ => none) 0 0 := by
    have hrc := rm_c
    have hrs := rm_s
    refine nc_Law_7 B (by omega) (by omega) d_Law_law_0 (fun x hxq => ?_)
    refine mv_dup B d_Law_law_3 rfl ?_
    refine ca_Law_9 (mc := 7) (ms := 2618) (rm' := rM 2 7 2618 50) (As := []) (rest := [.ref x]) B (m_Fam_init mv_us) rfl rfl ⟨Nat.le_of_ble_eq_true rfl, Nat.le_of_ble_eq_true rfl⟩ rfl rfl (Nat.le_of_ble_eq_true rfl) d_Law_law_4 ⟨by omega, by omega⟩ (fun v1 M1 ep => ?_)
    obtain ⟨e1, hP⟩ := ep
    subst e1
    show mv_G X Q (kk V) 4 7 [(0, .ref b)] [.ref x] M1 (0 + 1 + 7) (0 + 4 + 2618)
    refine mv_astoreR_n (lv' := [(1, .ref x), (0, .ref b)]) B d_Law_law_7 rfl (by decide) rfl ?_
    refine nc_Law_10 B (by omega) (by omega) d_Law_law_8 (fun r hrq => ?_)
    refine mv_dup B d_Law_law_11 rfl ?_
    have hnr : M1 r = none := by
      cases h : M1 r with
      | none => rfl
      | some c => have := hrq r c h; omega
    rw [mv_up_or hnr]
    have hd0 : mv_dj M1 (mv_up (fun _ => none) r (.inr (7, [va_rf none, va_rf none, va_rf none, va_rf none, va_rf none, .int (iI 0), va_rf none, .int (iI 0), va_rf none, va_rf none, va_rf none, va_rf none, va_rf none, va_rf none, .int (iI 0), va_rf none]) : va_E)) := fun a e ha => by have := hrq a e ha; exact mv_un (by omega)
    have hmr := mv_fr (V := V) (M2 := M1) (m_Mod_init (l := X.2.1) (V := vF V M1) (M := mv_up (fun _ => none) r (.inr (7, [va_rf none, va_rf none, va_rf none, va_rf none, va_rf none, .int (iI 0), va_rf none, .int (iI 0), va_rf none, va_rf none, va_rf none, va_rf none, va_rf none, va_rf none, .int (iI 0), va_rf none]) : va_E)) mv_us) (mv_dj_s hd0)
    rw [← mv_or_c hd0] at hmr
    refine ca_Law_12 (mc := 13) (ms := 7284) (rm' := rM 1 13 7284 20) (As := []) (rest := [.ref r]) B hmr rfl rfl ⟨Nat.le_of_ble_eq_true rfl, Nat.le_of_ble_eq_true rfl⟩ rfl rfl (Nat.le_of_ble_eq_true rfl) d_Law_law_12 ⟨by omega, by omega⟩ (fun v2 Mz ep => ?_)
    obtain ⟨M2, ⟨e2, A, hRC⟩, hd2, eM⟩ := ep
    subst e2
    subst eM
    rw [mv_or_c hd2]
    show mv_G X Q (kk V) 4 15 [(1, .ref x), (0, .ref b)] [.ref r] (mv_or M1 M2) (0 + 1 + 7 + 1 + 13) (0 + 4 + 2618 + 16 + 7284)
    refine mv_astoreR_n (lv' := [(2, .ref r), (1, .ref x), (0, .ref b)]) B d_Law_law_15 rfl (by decide) rfl ?_
    refine mv_iconst (z := ((0 : Nat) : Int)) B d_Law_law_16 rfl ?_
    refine mv_istore_n (lv' := [(3, .int (iI ((0 : Nat) : Int))), (2, .ref r), (1, .ref x), (0, .ref b)]) B d_Law_law_17 rfl (by decide) rfl ?_
    refine mv_lv (lv' := [(3, .int (iI ((0 : Nat) : Int))), (0, .ref b), (1, .ref x), (2, .ref r)]) [0, 3, 2, 1] rfl ?_
    refine mv_widen (c2 := pC 1024 64 + 3 * 0 + 30) (s2 := pS 1024 64 + 801 * 0 + 10000) (by omega) (by omega) ?_
    exact law_loop B hX' hbl' hbA hL hend (L + 1) 0 x r M1 M2 s00 1024 64 (by omega) (by omega) hP (RefP_00 hRC) RefK_00 (mv_dj_s hd2)
  have hl := lv_entry ([.ref b]) (n := 4) (Nat.le_of_ble_eq_true rfl)
  rw [lg_entry_eq]
  rw [eX, hQ] at G
  exact G s.heap [] _ ⟨fun q h => by show V.2.2.2.2 q; rw [hVf]; exact h, fun a e h => by cases h⟩ va_S.rf hl
set_option maxHeartbeats 4000000 in
theorem lw_walk (l : Launch) (b : Addr) (xs : List Int32) : MetFree l x (headSpec (Jvm.Cond.code x code maxLocals ret :: tables_1) room_1) (lw_P b xs) (fun _ _ _ _ _ => True) lw_Q := by
  refine MetFree.of_bodyS (code := code) (maxLocals := maxLocals) (ret := ret) (by decide) ?_ ?_
  · intro args s m h hn
    obtain ⟨meth, c, h1, h2, h3, h4, h5, h6, -, -⟩ := Cond.code_spec hn (atoms_spec (ws := Jvm.Cond.code x code maxLocals ret :: tables_1) h _ List.mem_cons_self)
    exact ⟨meth, c, h1, h2, h3, h4, h5, h6⟩
  · intro p e s m args below meth c s₁ B hml0 hP _
    obtain ⟨rfl, hx, hbd, hgv⟩ := hP
    obtain ⟨scr, harrAt, hlist, hof, hsmall⟩ := hx
    obtain ⟨hcb, hkn, -, -⟩ := State.arrayAt?_spec harrAt
    have hown : s.vm.findClass R_law = some m.cls := findClass_of_methodNamed B.named
    have hts0 : ∀ c ∈ (Jvm.Cond.code x code maxLocals ret :: tables_1), c.before #[Value.ref b] s = true := atoms_spec (ws := Jvm.Cond.code x code maxLocals ret :: tables_1) B.pre
    have hts : ∀ w ∈ lw_tbl, w.before #[Value.ref b] s = true := k2_hts_sels lw_privs (fun w hw => hts0 w (List.mem_cons_of_mem _ hw)) lw_privs_ok
    have hml : c.maxLocals = 4 := B.maxLocals_eq (hts0 _ List.mem_cons_self)
    have X₀ : Stand p l e room_1 s m #[Value.ref b] below meth c s₁ [] 0 0 := Stand.of_body B
    have hh0 : s₁.heap = s.heap := by rw [B.state]; rfl
    have hsz : scr.slots.size = xs.length := by rw [← Array.length_toList, hlist, List.length_map]
    have hval : ∀ j : Nat, j < xs.length → scr.slots[j]? = some (.int (xs.getD j 0)) := fun j hj => by
      rw [← Array.getElem?_toList, hlist]
      simp [hj]
    have hbl : b < s.heap.size := (Array.getElem?_eq_some_iff.mp hcb).1
    have hX : va_X b xs.length (fun j => xs.getD j 0) s s.heap := ⟨scr, hcb, hof, hkn, hsz, hval⟩
    have K : W p l e room_1 s m #[Value.ref b] below meth c s₁.heap [] 0 0 (lw_Z below #[Value.ref b] s) (entryFrame m ([Value.ref b] : List Value).toArray 4) := by
      rw [hh0]
      exact whole_start l hbd ⟨B.exec, B.bytes, B.returns, hml, hown, hts, hX, hbl, B.notSynchronized, hgv⟩
    obtain ⟨t, a1, o, b1, b2, b3⟩ := K s₁ rfl X₀
    exact ⟨t, o, a1, b1, b2, b3⟩
theorem lw_pre_spec {args : Array Value} {s : State} (h : (Jvm.Cond.and given_1 narrow_1).before args s = true) (hr : rest_1_c.before args s = true) : ∃ (b : Addr) (xs : List Int32), lw_P b xs args s := by
  have hs := flat_of_before _ h
  have hq := flat_of_before _ hr
  have hc : (Cond.count 1).before args s = true := hs _ (by decide +kernel)
  have harr : (Cond.arrayOf (.arg 0) .int).before args s = true := hs _ (by decide +kernel)
  have hle : (Cond.le (.length (.arg 0)) (.int 2560)).before args s = true := hs _ (by decide +kernel)
  have hlen : (Cond.isInt (.length (.arg 0))).before args s = true := hq _ (by decide +kernel)
  have hall : (Cond.all (.arg 0) (.isInt (.elem (.arg 0) (.index 0)))).before args s = true := hq _ (by decide +kernel)
  obtain ⟨b, xs, hb, hx⟩ := State.ints_of_pre rfl harr hlen hall
  have hsm : xs.length < 2 ^ 31 := hx.choose_spec.2.2.2
  have hev : (Term.length (.arg 0)).eval args s none [] s = some (.int xs.length.toInt32) := hx.length_eval hb
  have hv := Cond.le_ints hev (show (Term.int 2560).eval args s none [] s = some (.int 2560) from rfl)
  have hd : xs.length.toInt32 ≤ 2560 := by
    simpa [Cond.before, Cond.holds, hv] using hle
  have hN : xs.length ≤ 2560 := (Int32.ofNat_le_ofNat hsm (by decide)).mp (show Int32.ofNat xs.length ≤ Int32.ofNat 2560 from hd)
  exact ⟨b, xs, Cond.one_arg hc (show args[0]? = some (.ref b) from hb), hx, hN, h⟩
theorem lw_comes (l : Launch) : Comes l x (Jvm.Cond.code x code maxLocals ret :: tables_1) room_1 (fun tb e args s => Calls_1 tb e args s ∧ rest_1 tb e args s ∧ Pre_1 tb e args s)
    (fun _ _ args s o t => lw_Q args s o t) := by
  intro p e ha hc hk s m args below hf hfit hheap happ hpre
  obtain ⟨b, xs, hP⟩ := lw_pre_spec hpre.2.2 hpre.2.1
  obtain ⟨k, o, h1, h2, h3, hQ⟩ := lw_walk l b xs p e ha hc hk s m args below hf ((Spec.applies_iff_loose hf).mp happ).1 hP trivial
  exact ⟨k, o, h1, h2, h3, hQ⟩
theorem lw_frame {s t : State} {o : Outcome} {args : Array Value} (h : Framed s o t [] room_1.cells room_1.slots) :
    Framed s o t (fieldLocs frame_1_writes args s ++ arrayLocs frame_1_arrays args s ++ staticLocs frame_1_statics s) room_1.cells room_1.slots := h
theorem lw_limb (L : Cond) (hL : ∀ (args : Array Value) (s t : State), L.after args s (.returned (some (.int 1))) t = true) :
    ArmFor flags0 classFile x code maxLocals ret World_1 tables_1 room_1 Calls_1 rest_1 Pre_1
      (fun tb e a s o t => postC L tb e a s o t ∧ Framed s o t (fieldLocs frame_1_writes a s ++ arrayLocs frame_1_arrays a s ++ staticLocs frame_1_statics s) room_1.cells room_1.slots) := by
  intro l _ _ _ p e ha hc hk s m args below hf hfit hheap happ hpre
  obtain ⟨k, o, h1, h2, h3, rfl, hF⟩ := lw_comes l p e ha hc hk s m args below hf hfit hheap happ hpre
  exact ⟨k, _, h1, h2, h3, hL args s _, lw_frame hF⟩
theorem i_vc : Claimed_1_1 ∧ Claimed_1_2 := ⟨lw_limb limb_1_1 (fun args s t => by simp [limb_1_1, Cond.after, Cond.holds, Cond.value]), lw_limb limb_1_2 (fun args s t => Cond.after_iff.mpr (by
  first | (rw [show limb_1_2 = Cond.eq .result (.int 1) from rfl, Cond.eq_ints (x := 1) (y := 1) rfl rfl]; simp; done) | (simp [limb_1_2, Cond.value, Term.eval]; done)))⟩
