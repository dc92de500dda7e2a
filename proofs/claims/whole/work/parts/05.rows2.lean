/-! new objects and arrays of the classes; arraycopy by values -/
theorem df_Term : ∀ j, j < 4 → defaultValue (ty_Term j) = vp_V [va_rf none, va_rf none, va_rf none, va_rf none] j := fun j hj => by
  match j, hj with
  | 0, _ => rfl
  | 1, _ => rfl
  | 2, _ => rfl
  | 3, _ => rfl
theorem df_Shelf : ∀ j, j < 3 → defaultValue (ty_Shelf j) = vp_V [va_rf none, .int (iI 0), .int (iI 0)] j := fun j hj => by
  match j, hj with
  | 0, _ => rfl
  | 1, _ => rfl
  | 2, _ => rfl
theorem df_Global : ∀ j, j < 10 → defaultValue (ty_Global j) = vp_V [.int (iI 0), .int (iI 0), .int (iI 0), .int (iI 0), .int (iI 0), va_rf none, va_rf none, va_rf none, .int (iI 0), .int (iI 0)] j := fun j hj => by
  match j, hj with
  | 0, _ => rfl
  | 1, _ => rfl
  | 2, _ => rfl
  | 3, _ => rfl
  | 4, _ => rfl
  | 5, _ => rfl
  | 6, _ => rfl
  | 7, _ => rfl
  | 8, _ => rfl
  | 9, _ => rfl
theorem df_Register : ∀ j, j < 2 → defaultValue (ty_Register j) = vp_V [va_rf none, .int (iI 0)] j := fun j hj => by
  match j, hj with
  | 0, _ => rfl
  | 1, _ => rfl
theorem df_Reader : ∀ j, j < 5 → defaultValue (ty_Reader j) = vp_V [va_rf none, va_rf none, .int (iI 0), .int (iI 0), .int (iI 0)] j := fun j hj => by
  match j, hj with
  | 0, _ => rfl
  | 1, _ => rfl
  | 2, _ => rfl
  | 3, _ => rfl
  | 4, _ => rfl
theorem df_Maker : ∀ j, j < 8 → defaultValue (ty_Maker j) = vp_V [va_rf none, va_rf none, .int (iI 0), va_rf none, .int (iI 0), .int (iI 0), .int (iI 0), .int (iI 0)] j := fun j hj => by
  match j, hj with
  | 0, _ => rfl
  | 1, _ => rfl
  | 2, _ => rfl
  | 3, _ => rfl
  | 4, _ => rfl
  | 5, _ => rfl
  | 6, _ => rfl
  | 7, _ => rfl
theorem df_Fam : ∀ j, j < 4 → defaultValue (ty_Fam j) = vp_V [va_rf none, va_rf none, va_rf none, va_rf none] j := fun j hj => by
  match j, hj with
  | 0, _ => rfl
  | 1, _ => rfl
  | 2, _ => rfl
  | 3, _ => rfl
theorem df_Mod : ∀ j, j < 16 → defaultValue (ty_Mod j) = vp_V [va_rf none, va_rf none, va_rf none, va_rf none, va_rf none, .int (iI 0), va_rf none, .int (iI 0), va_rf none, va_rf none, va_rf none, va_rf none, va_rf none, va_rf none, .int (iI 0), va_rf none] j := fun j hj => by
  match j, hj with
  | 0, _ => rfl
  | 1, _ => rfl
  | 2, _ => rfl
  | 3, _ => rfl
  | 4, _ => rfl
  | 5, _ => rfl
  | 6, _ => rfl
  | 7, _ => rfl
  | 8, _ => rfl
  | 9, _ => rfl
  | 10, _ => rfl
  | 11, _ => rfl
  | 12, _ => rfl
  | 13, _ => rfl
  | 14, _ => rfl
  | 15, _ => rfl
  | k + 16, h => exact absurd h (by omega)
theorem R32_cpy {f g : Nat → Int} {a b n : Nat} (hf : ∀ j, R32 (f j)) (hg : ∀ j, R32 (g j)) : ∀ j, R32 (va_cpy f g a b n j) := fun j => by
  unfold va_cpy
  split
  · exact hf _
  · exact hg _
section RW6
variable {X : mv_X} {Q : State → Prop} {V : mv_V} {nL pc : Nat} {lv : List (Nat × Value)} {st : List Value} {M : mv_M} {cells slots : Nat}
variable {cc : ByteArray} {v0 : Cond} {own nm : String} {ret : Option FieldType} {rm : Room} {a a0 n n0 n1 index : Nat}
theorem ia_cpy (B : mv_B X (kk V) cc (v0 :: mw) own nL ret rm nm) {f g : Nat → Int} (hlink : Cond.methodLink own index arraycopyName ∈ v0 :: mw) (hnat : Cond.native arraycopyName ∈ v0 :: mw) (hstat : Cond.static arraycopyName ∈ v0 :: mw) (hini : Cond.initialized "java/lang/System" ∈ v0 :: mw) (ha0 : M a0 = some (iA V n0 f)) (ha1 : M a = some (iA V n1 g)) {sp dp z : Int} (rs : R32 sp) (rd : R32 dp) (rn : R32 z) (h1 : 0 ≤ sp) (h2 : 0 ≤ dp) (h3 : 0 ≤ z) (h4 : sp + z ≤ n0) (h5 : dp + z ≤ n1) (hf : 1 ≤ rm.frames) (hlo : (st.map fun v => v.category).sum + (nativeFrameWords "java/lang/System" "arraycopy" 5 + 11) ≤ rm.locals) (hdg : decode cc pc = .ok (.invokestatic index, 3)) (k : mv_G X Q (kk V) nL (pc + 3) lv st (mv_up M a (iA V n1 (va_cpy f g sp.toNat dp.toNat z.toNat))) cells slots) : mv_G X Q (kk V) nL pc lv (.int (iI z) :: .int (iI dp) :: .ref a :: .int (iI sp) :: .ref a0 :: st) M cells slots := mv_copyi B 0 rfl hlink hnat hstat hini ha0 ha1 rs rd rn h1 h2 h3 h4 h5 hf hlo hdg (by rw [iI_cpy]; exact k)
theorem nc_Fam_7 (B : mv_B X (kk V) cc (v0 :: mw) "FamilyRules" nL ret rm nm) (hc : cells + 1 ≤ rm.cells) (hs : slots + 5 ≤ rm.slots) (hdg : decode cc pc = .ok (.new 7, 3)) (k : ∀ q : Nat, (∀ a e, M a = some e → a < q) → mv_G X Q (kk V) nL (pc + 3) lv (.ref q :: st) (mv_up M q (.inr (4, [va_rf none, va_rf none, .int (iI 0), .int (iI 0), .int (iI 0)]))) (cells + 1) (slots + 5)) : mv_G X Q (kk V) nL pc lv st M cells slots := mv_new B in_Reader ty_Reader tyo_Reader (mwc (mw_t 19 (by decide +kernel) (by decide +kernel))) (mwc (mw_t 20 (by decide +kernel) (by decide +kernel))) (mwc (mw_t 2 (by decide +kernel) (by decide +kernel))) rfl df_Reader hc hs hdg k
theorem nc_Fam_10 (B : mv_B X (kk V) cc (v0 :: mw) "FamilyRules" nL ret rm nm) (hc : cells + 1 ≤ rm.cells) (hs : slots + 3 ≤ rm.slots) (hdg : decode cc pc = .ok (.new 10, 3)) (k : ∀ q : Nat, (∀ a e, M a = some e → a < q) → mv_G X Q (kk V) nL (pc + 3) lv (.ref q :: st) (mv_up M q (.inr (1, [va_rf none, .int (iI 0), .int (iI 0)]))) (cells + 1) (slots + 3)) : mv_G X Q (kk V) nL pc lv st M cells slots := mv_new B in_Shelf ty_Shelf tyo_Shelf (mwc (mw_t 45 (by decide +kernel) (by decide +kernel))) (mwc (mw_t 46 (by decide +kernel) (by decide +kernel))) (mwc (mw_t 3 (by decide +kernel) (by decide +kernel))) rfl df_Shelf hc hs hdg k
theorem nc_Fam_19 (B : mv_B X (kk V) cc (v0 :: mw) "FamilyRules" nL ret rm nm) (hc : cells + 1 ≤ rm.cells) (hs : slots + 2 ≤ rm.slots) (hdg : decode cc pc = .ok (.new 19, 3)) (k : ∀ q : Nat, (∀ a e, M a = some e → a < q) → mv_G X Q (kk V) nL (pc + 3) lv (.ref q :: st) (mv_up M q (.inr (3, [va_rf none, .int (iI 0)]))) (cells + 1) (slots + 2)) : mv_G X Q (kk V) nL pc lv st M cells slots := mv_new B in_Register ty_Register tyo_Register (mwc (mw_t 64 (by decide +kernel) (by decide +kernel))) (mwc (mw_t 65 (by decide +kernel) (by decide +kernel))) (mwc (mw_t 4 (by decide +kernel) (by decide +kernel))) rfl df_Register hc hs hdg k
theorem nc_Fam_30 (B : mv_B X (kk V) cc (v0 :: mw) "FamilyRules" nL ret rm nm) (hc : cells + 1 ≤ rm.cells) (hs : slots + 8 ≤ rm.slots) (hdg : decode cc pc = .ok (.new 30, 3)) (k : ∀ q : Nat, (∀ a e, M a = some e → a < q) → mv_G X Q (kk V) nL (pc + 3) lv (.ref q :: st) (mv_up M q (.inr (5, [va_rf none, va_rf none, .int (iI 0), va_rf none, .int (iI 0), .int (iI 0), .int (iI 0), .int (iI 0)]))) (cells + 1) (slots + 8)) : mv_G X Q (kk V) nL pc lv st M cells slots := mv_new B in_Maker ty_Maker tyo_Maker (mwc (mw_t 79 (by decide +kernel) (by decide +kernel))) (mwc (mw_t 80 (by decide +kernel) (by decide +kernel))) (mwc (mw_t 5 (by decide +kernel) (by decide +kernel))) rfl df_Maker hc hs hdg k
theorem ga_new_Register_9 (B : mv_B X (kk V) cc (v0 :: mw) "FamilyRules$Register" nL ret rm nm) {z : Int} (hz : z = (n : Int)) (hn : n ≤ 100000000) (hc : cells + 1 ≤ rm.cells) (hs : slots + n ≤ rm.slots) (hdg : decode cc pc = .ok (.anewarray 9, 3)) (k : ∀ q : Nat, (∀ a e, M a = some e → a < q) → mv_G X Q (kk V) nL (pc + 3) lv (.ref q :: st) (mv_up M q (gA V n (fun _ => none))) (cells + 1) (slots + n)) : mv_G X Q (kk V) nL pc lv (.int (iI z) :: st) M cells slots := mv_newq B 2 rfl (mwc (mw_t 70 (by decide +kernel) (by decide +kernel))) (nw_t 71 (by decide +kernel) (by decide +kernel)) (by omega) hz hn hc hs hdg k
theorem nc_Register_9 (B : mv_B X (kk V) cc (v0 :: mw) "FamilyRules$Register" nL ret rm nm) (hc : cells + 1 ≤ rm.cells) (hs : slots + 10 ≤ rm.slots) (hdg : decode cc pc = .ok (.new 9, 3)) (k : ∀ q : Nat, (∀ a e, M a = some e → a < q) → mv_G X Q (kk V) nL (pc + 3) lv (.ref q :: st) (mv_up M q (.inr (2, [.int (iI 0), .int (iI 0), .int (iI 0), .int (iI 0), .int (iI 0), va_rf none, va_rf none, va_rf none, .int (iI 0), .int (iI 0)]))) (cells + 1) (slots + 10)) : mv_G X Q (kk V) nL pc lv st M cells slots := mv_new B in_Global ty_Global tyo_Global (mwc (mw_t 70 (by decide +kernel) (by decide +kernel))) (mwc (mw_t 222 (by decide +kernel) (by decide +kernel))) (mwc (mw_t 10 (by decide +kernel) (by decide +kernel))) rfl df_Global hc hs hdg k
theorem ta_new_Shelf_9 (B : mv_B X (kk V) cc (v0 :: mw) "FamilyRules$Shelf" nL ret rm nm) {z : Int} (hz : z = (n : Int)) (hn : n ≤ 100000000) (hc : cells + 1 ≤ rm.cells) (hs : slots + n ≤ rm.slots) (hdg : decode cc pc = .ok (.anewarray 9, 3)) (k : ∀ q : Nat, (∀ a e, M a = some e → a < q) → mv_G X Q (kk V) nL (pc + 3) lv (.ref q :: st) (mv_up M q (tA V n (fun _ => none))) (cells + 1) (slots + n)) : mv_G X Q (kk V) nL pc lv (.int (iI z) :: st) M cells slots := mv_newq B 1 rfl (mwc (mw_t 51 (by decide +kernel) (by decide +kernel))) (nw_t 52 (by decide +kernel) (by decide +kernel)) (by omega) hz hn hc hs hdg k
theorem nc_Shelf_9 (B : mv_B X (kk V) cc (v0 :: mw) "FamilyRules$Shelf" nL ret rm nm) (hc : cells + 1 ≤ rm.cells) (hs : slots + 4 ≤ rm.slots) (hdg : decode cc pc = .ok (.new 9, 3)) (k : ∀ q : Nat, (∀ a e, M a = some e → a < q) → mv_G X Q (kk V) nL (pc + 3) lv (.ref q :: st) (mv_up M q (.inr (0, [va_rf none, va_rf none, va_rf none, va_rf none]))) (cells + 1) (slots + 4)) : mv_G X Q (kk V) nL pc lv st M cells slots := mv_new B in_Term ty_Term tyo_Term (mwc (mw_t 51 (by decide +kernel) (by decide +kernel))) (mwc (mw_t 148 (by decide +kernel) (by decide +kernel))) (mwc (mw_t 7 (by decide +kernel) (by decide +kernel))) rfl df_Term hc hs hdg k
end RW6
