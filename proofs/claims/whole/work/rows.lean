section
-- ===== PART A: goes FIRST, ahead of the names: the tables' words, and 'selects' of the private methods out of them =====
/-- a private method of a class that the tables say can be made, by its rows of tables_1 -/
def lw_okq (q : MethodName × Nat) : Prop := (q.1.cls ≠ "java/lang/invoke/MethodHandle" ∧ q.1.cls ≠ "java/lang/invoke/VarHandle") ∧ Cond.instantiable q.1.cls q.2 ∈ tables_1 ∧ Cond.privateMethod q.1 ∈ tables_1 ∧ Cond.instanceMethod q.1 ∈ tables_1
theorem lw_p0 : lw_okq (⟨"FamilyRules", "isLeaf", "(III)Z"⟩, 4) := ⟨⟨by decide +kernel, by decide +kernel⟩, List.mem_of_getElem? (i := 12) (by decide +kernel), List.mem_of_getElem? (i := 129) (by decide +kernel), List.mem_of_getElem? (i := 130) (by decide +kernel)⟩
theorem lw_p1 : lw_okq (⟨"FamilyRules$Register", "find", "(I)LFamilyRules$Global;"⟩, 2) := ⟨⟨by decide +kernel, by decide +kernel⟩, List.mem_of_getElem? (i := 65) (by decide +kernel), List.mem_of_getElem? (i := 136) (by decide +kernel), List.mem_of_getElem? (i := 137) (by decide +kernel)⟩
theorem lw_p2 : lw_okq (⟨"FamilyRules$Register", "findFamily", "(I)LFamilyRules$Global;"⟩, 2) := ⟨⟨by decide +kernel, by decide +kernel⟩, List.mem_of_getElem? (i := 65) (by decide +kernel), List.mem_of_getElem? (i := 140) (by decide +kernel), List.mem_of_getElem? (i := 141) (by decide +kernel)⟩
theorem lw_p3 : lw_okq (⟨"FamilyRules$Shelf", "blank", "(I)LFamilyRules$Term;"⟩, 3) := ⟨⟨by decide +kernel, by decide +kernel⟩, List.mem_of_getElem? (i := 46) (by decide +kernel), List.mem_of_getElem? (i := 145) (by decide +kernel), List.mem_of_getElem? (i := 146) (by decide +kernel)⟩
theorem lw_p4 : lw_okq (⟨"FamilyRules$Term", "set", "(IIII)V"⟩, 4) := ⟨⟨by decide +kernel, by decide +kernel⟩, List.mem_of_getElem? (i := 148) (by decide +kernel), List.mem_of_getElem? (i := 170) (by decide +kernel), List.mem_of_getElem? (i := 171) (by decide +kernel)⟩
theorem lw_p5 : lw_okq (⟨"FamilyRules$Shelf", "keep", "(LFamilyRules$Term;)I"⟩, 3) := ⟨⟨by decide +kernel, by decide +kernel⟩, List.mem_of_getElem? (i := 46) (by decide +kernel), List.mem_of_getElem? (i := 174) (by decide +kernel), List.mem_of_getElem? (i := 175) (by decide +kernel)⟩
theorem lw_p6 : lw_okq (⟨"FamilyRules$Term", "length", "()I"⟩, 4) := ⟨⟨by decide +kernel, by decide +kernel⟩, List.mem_of_getElem? (i := 148) (by decide +kernel), List.mem_of_getElem? (i := 178) (by decide +kernel), List.mem_of_getElem? (i := 179) (by decide +kernel)⟩
theorem lw_p7 : lw_okq (⟨"FamilyRules", "join", "(IIII)I"⟩, 4) := ⟨⟨by decide +kernel, by decide +kernel⟩, List.mem_of_getElem? (i := 12) (by decide +kernel), List.mem_of_getElem? (i := 186) (by decide +kernel), List.mem_of_getElem? (i := 187) (by decide +kernel)⟩
theorem lw_p8 : lw_okq (⟨"FamilyRules$Shelf", "find", "(I)LFamilyRules$Term;"⟩, 3) := ⟨⟨by decide +kernel, by decide +kernel⟩, List.mem_of_getElem? (i := 46) (by decide +kernel), List.mem_of_getElem? (i := 190) (by decide +kernel), List.mem_of_getElem? (i := 191) (by decide +kernel)⟩
theorem lw_p9 : lw_okq (⟨"FamilyRules$Term", "paste", "(LFamilyRules$Term;I)V"⟩, 4) := ⟨⟨by decide +kernel, by decide +kernel⟩, List.mem_of_getElem? (i := 148) (by decide +kernel), List.mem_of_getElem? (i := 195) (by decide +kernel), List.mem_of_getElem? (i := 196) (by decide +kernel)⟩
theorem lw_p10 : lw_okq (⟨"FamilyRules$Term", "countNodes", "()V"⟩, 4) := ⟨⟨by decide +kernel, by decide +kernel⟩, List.mem_of_getElem? (i := 148) (by decide +kernel), List.mem_of_getElem? (i := 203) (by decide +kernel), List.mem_of_getElem? (i := 204) (by decide +kernel)⟩
theorem lw_p11 : lw_okq (⟨"FamilyRules$Term", "nodesAt", "(I)I"⟩, 4) := ⟨⟨by decide +kernel, by decide +kernel⟩, List.mem_of_getElem? (i := 148) (by decide +kernel), List.mem_of_getElem? (i := 207) (by decide +kernel), List.mem_of_getElem? (i := 208) (by decide +kernel)⟩
theorem lw_p12 : lw_okq (⟨"FamilyRules$Register", "addAxiom", "()I"⟩, 2) := ⟨⟨by decide +kernel, by decide +kernel⟩, List.mem_of_getElem? (i := 65) (by decide +kernel), List.mem_of_getElem? (i := 219) (by decide +kernel), List.mem_of_getElem? (i := 220) (by decide +kernel)⟩
theorem lw_p13 : lw_okq (⟨"FamilyRules$Register", "enter", "(LFamilyRules$Global;)I"⟩, 2) := ⟨⟨by decide +kernel, by decide +kernel⟩, List.mem_of_getElem? (i := 65) (by decide +kernel), List.mem_of_getElem? (i := 279) (by decide +kernel), List.mem_of_getElem? (i := 280) (by decide +kernel)⟩
theorem lw_p14 : lw_okq (⟨"FamilyRules$Reader", "readShape", "(LFamilyRules$Term;I)V"⟩, 5) := ⟨⟨by decide +kernel, by decide +kernel⟩, List.mem_of_getElem? (i := 20) (by decide +kernel), List.mem_of_getElem? (i := 287) (by decide +kernel), List.mem_of_getElem? (i := 288) (by decide +kernel)⟩
theorem lw_p15 : lw_okq (⟨"FamilyRules$Term", "kindAt", "(I)I"⟩, 4) := ⟨⟨by decide +kernel, by decide +kernel⟩, List.mem_of_getElem? (i := 148) (by decide +kernel), List.mem_of_getElem? (i := 291) (by decide +kernel), List.mem_of_getElem? (i := 292) (by decide +kernel)⟩
def lw_privs_1 : List (MethodName × Nat) := [(⟨"FamilyRules", "isLeaf", "(III)Z"⟩, 4), (⟨"FamilyRules$Register", "find", "(I)LFamilyRules$Global;"⟩, 2), (⟨"FamilyRules$Register", "findFamily", "(I)LFamilyRules$Global;"⟩, 2), (⟨"FamilyRules$Shelf", "blank", "(I)LFamilyRules$Term;"⟩, 3), (⟨"FamilyRules$Term", "set", "(IIII)V"⟩, 4), (⟨"FamilyRules$Shelf", "keep", "(LFamilyRules$Term;)I"⟩, 3), (⟨"FamilyRules$Term", "length", "()I"⟩, 4), (⟨"FamilyRules", "join", "(IIII)I"⟩, 4), (⟨"FamilyRules$Shelf", "find", "(I)LFamilyRules$Term;"⟩, 3), (⟨"FamilyRules$Term", "paste", "(LFamilyRules$Term;I)V"⟩, 4), (⟨"FamilyRules$Term", "countNodes", "()V"⟩, 4), (⟨"FamilyRules$Term", "nodesAt", "(I)I"⟩, 4), (⟨"FamilyRules$Register", "addAxiom", "()I"⟩, 2), (⟨"FamilyRules$Register", "enter", "(LFamilyRules$Global;)I"⟩, 2), (⟨"FamilyRules$Reader", "readShape", "(LFamilyRules$Term;I)V"⟩, 5), (⟨"FamilyRules$Term", "kindAt", "(I)I"⟩, 4)]
theorem lw_r1 : ∀ q ∈ lw_privs_1, lw_okq q := List.forall_mem_cons.mpr ⟨lw_p0, List.forall_mem_cons.mpr ⟨lw_p1, List.forall_mem_cons.mpr ⟨lw_p2, List.forall_mem_cons.mpr ⟨lw_p3, List.forall_mem_cons.mpr ⟨lw_p4, List.forall_mem_cons.mpr ⟨lw_p5, List.forall_mem_cons.mpr ⟨lw_p6, List.forall_mem_cons.mpr ⟨lw_p7, List.forall_mem_cons.mpr ⟨lw_p8, List.forall_mem_cons.mpr ⟨lw_p9, List.forall_mem_cons.mpr ⟨lw_p10, List.forall_mem_cons.mpr ⟨lw_p11, List.forall_mem_cons.mpr ⟨lw_p12, List.forall_mem_cons.mpr ⟨lw_p13, List.forall_mem_cons.mpr ⟨lw_p14, List.forall_mem_cons.mpr ⟨lw_p15, fun _ h => absurd h List.not_mem_nil⟩⟩⟩⟩⟩⟩⟩⟩⟩⟩⟩⟩⟩⟩⟩⟩
theorem lw_p16 : lw_okq (⟨"FamilyRules$Term", "secondOf", "(I)I"⟩, 4) := ⟨⟨by decide +kernel, by decide +kernel⟩, List.mem_of_getElem? (i := 148) (by decide +kernel), List.mem_of_getElem? (i := 295) (by decide +kernel), List.mem_of_getElem? (i := 296) (by decide +kernel)⟩
theorem lw_p17 : lw_okq (⟨"FamilyRules$Reader", "isClosed", "(LFamilyRules$Term;)Z"⟩, 5) := ⟨⟨by decide +kernel, by decide +kernel⟩, List.mem_of_getElem? (i := 20) (by decide +kernel), List.mem_of_getElem? (i := 300) (by decide +kernel), List.mem_of_getElem? (i := 301) (by decide +kernel)⟩
theorem lw_p18 : lw_okq (⟨"FamilyRules$Reader", "readDepths", "(LFamilyRules$Term;)V"⟩, 5) := ⟨⟨by decide +kernel, by decide +kernel⟩, List.mem_of_getElem? (i := 20) (by decide +kernel), List.mem_of_getElem? (i := 304) (by decide +kernel), List.mem_of_getElem? (i := 305) (by decide +kernel)⟩
theorem lw_p19 : lw_okq (⟨"FamilyRules$Reader", "setDepth", "(II)V"⟩, 5) := ⟨⟨by decide +kernel, by decide +kernel⟩, List.mem_of_getElem? (i := 20) (by decide +kernel), List.mem_of_getElem? (i := 308) (by decide +kernel), List.mem_of_getElem? (i := 309) (by decide +kernel)⟩
theorem lw_p20 : lw_okq (⟨"FamilyRules$Reader", "depthAt", "(I)I"⟩, 5) := ⟨⟨by decide +kernel, by decide +kernel⟩, List.mem_of_getElem? (i := 20) (by decide +kernel), List.mem_of_getElem? (i := 313) (by decide +kernel), List.mem_of_getElem? (i := 314) (by decide +kernel)⟩
theorem lw_p21 : lw_okq (⟨"FamilyRules$Term", "numberAt", "(I)I"⟩, 4) := ⟨⟨by decide +kernel, by decide +kernel⟩, List.mem_of_getElem? (i := 148) (by decide +kernel), List.mem_of_getElem? (i := 317) (by decide +kernel), List.mem_of_getElem? (i := 318) (by decide +kernel)⟩
theorem lw_p22 : lw_okq (⟨"FamilyRules$Register", "addFamily", "(LFamilyRules$Term;III)I"⟩, 2) := ⟨⟨by decide +kernel, by decide +kernel⟩, List.mem_of_getElem? (i := 65) (by decide +kernel), List.mem_of_getElem? (i := 321) (by decide +kernel), List.mem_of_getElem? (i := 322) (by decide +kernel)⟩
theorem lw_p23 : lw_okq (⟨"FamilyRules$Register", "findConstructor", "(I)LFamilyRules$Global;"⟩, 2) := ⟨⟨by decide +kernel, by decide +kernel⟩, List.mem_of_getElem? (i := 65) (by decide +kernel), List.mem_of_getElem? (i := 329) (by decide +kernel), List.mem_of_getElem? (i := 330) (by decide +kernel)⟩
theorem lw_p24 : lw_okq (⟨"FamilyRules$Reader", "isPut", "(LFamilyRules$Global;I)Z"⟩, 5) := ⟨⟨by decide +kernel, by decide +kernel⟩, List.mem_of_getElem? (i := 20) (by decide +kernel), List.mem_of_getElem? (i := 333) (by decide +kernel), List.mem_of_getElem? (i := 334) (by decide +kernel)⟩
theorem lw_p25 : lw_okq (⟨"FamilyRules", "tell", "(LFamilyRules$Global;LFamilyRules$Global;LFamilyRules$Term;I)I"⟩, 4) := ⟨⟨by decide +kernel, by decide +kernel⟩, List.mem_of_getElem? (i := 12) (by decide +kernel), List.mem_of_getElem? (i := 337) (by decide +kernel), List.mem_of_getElem? (i := 338) (by decide +kernel)⟩
theorem lw_p26 : lw_okq (⟨"FamilyRules$Term", "behindAlls", "(I)I"⟩, 4) := ⟨⟨by decide +kernel, by decide +kernel⟩, List.mem_of_getElem? (i := 148) (by decide +kernel), List.mem_of_getElem? (i := 341) (by decide +kernel), List.mem_of_getElem? (i := 342) (by decide +kernel)⟩
theorem lw_p27 : lw_okq (⟨"FamilyRules$Reader", "standing", "(LFamilyRules$Global;LFamilyRules$Term;II)I"⟩, 5) := ⟨⟨by decide +kernel, by decide +kernel⟩, List.mem_of_getElem? (i := 20) (by decide +kernel), List.mem_of_getElem? (i := 346) (by decide +kernel), List.mem_of_getElem? (i := 347) (by decide +kernel)⟩
theorem lw_p28 : lw_okq (⟨"FamilyRules$Term", "countFamily", "(III)I"⟩, 4) := ⟨⟨by decide +kernel, by decide +kernel⟩, List.mem_of_getElem? (i := 148) (by decide +kernel), List.mem_of_getElem? (i := 351) (by decide +kernel), List.mem_of_getElem? (i := 352) (by decide +kernel)⟩
theorem lw_p29 : lw_okq (⟨"FamilyRules$Maker", "begin", "(LFamilyRules$Term;)V"⟩, 8) := ⟨⟨by decide +kernel, by decide +kernel⟩, List.mem_of_getElem? (i := 80) (by decide +kernel), List.mem_of_getElem? (i := 372) (by decide +kernel), List.mem_of_getElem? (i := 373) (by decide +kernel)⟩
theorem lw_p30 : lw_okq (⟨"FamilyRules$Maker", "writeBrings", "(LFamilyRules$Global;I)V"⟩, 8) := ⟨⟨by decide +kernel, by decide +kernel⟩, List.mem_of_getElem? (i := 80) (by decide +kernel), List.mem_of_getElem? (i := 376) (by decide +kernel), List.mem_of_getElem? (i := 377) (by decide +kernel)⟩
theorem lw_p31 : lw_okq (⟨"FamilyRules$Maker", "open", "(LFamilyRules$Global;)Z"⟩, 8) := ⟨⟨by decide +kernel, by decide +kernel⟩, List.mem_of_getElem? (i := 80) (by decide +kernel), List.mem_of_getElem? (i := 380) (by decide +kernel), List.mem_of_getElem? (i := 381) (by decide +kernel)⟩
def lw_privs_2 : List (MethodName × Nat) := [(⟨"FamilyRules$Term", "secondOf", "(I)I"⟩, 4), (⟨"FamilyRules$Reader", "isClosed", "(LFamilyRules$Term;)Z"⟩, 5), (⟨"FamilyRules$Reader", "readDepths", "(LFamilyRules$Term;)V"⟩, 5), (⟨"FamilyRules$Reader", "setDepth", "(II)V"⟩, 5), (⟨"FamilyRules$Reader", "depthAt", "(I)I"⟩, 5), (⟨"FamilyRules$Term", "numberAt", "(I)I"⟩, 4), (⟨"FamilyRules$Register", "addFamily", "(LFamilyRules$Term;III)I"⟩, 2), (⟨"FamilyRules$Register", "findConstructor", "(I)LFamilyRules$Global;"⟩, 2), (⟨"FamilyRules$Reader", "isPut", "(LFamilyRules$Global;I)Z"⟩, 5), (⟨"FamilyRules", "tell", "(LFamilyRules$Global;LFamilyRules$Global;LFamilyRules$Term;I)I"⟩, 4), (⟨"FamilyRules$Term", "behindAlls", "(I)I"⟩, 4), (⟨"FamilyRules$Reader", "standing", "(LFamilyRules$Global;LFamilyRules$Term;II)I"⟩, 5), (⟨"FamilyRules$Term", "countFamily", "(III)I"⟩, 4), (⟨"FamilyRules$Maker", "begin", "(LFamilyRules$Term;)V"⟩, 8), (⟨"FamilyRules$Maker", "writeBrings", "(LFamilyRules$Global;I)V"⟩, 8), (⟨"FamilyRules$Maker", "open", "(LFamilyRules$Global;)Z"⟩, 8)]
theorem lw_r2 : ∀ q ∈ lw_privs_2, lw_okq q := List.forall_mem_cons.mpr ⟨lw_p16, List.forall_mem_cons.mpr ⟨lw_p17, List.forall_mem_cons.mpr ⟨lw_p18, List.forall_mem_cons.mpr ⟨lw_p19, List.forall_mem_cons.mpr ⟨lw_p20, List.forall_mem_cons.mpr ⟨lw_p21, List.forall_mem_cons.mpr ⟨lw_p22, List.forall_mem_cons.mpr ⟨lw_p23, List.forall_mem_cons.mpr ⟨lw_p24, List.forall_mem_cons.mpr ⟨lw_p25, List.forall_mem_cons.mpr ⟨lw_p26, List.forall_mem_cons.mpr ⟨lw_p27, List.forall_mem_cons.mpr ⟨lw_p28, List.forall_mem_cons.mpr ⟨lw_p29, List.forall_mem_cons.mpr ⟨lw_p30, List.forall_mem_cons.mpr ⟨lw_p31, fun _ h => absurd h List.not_mem_nil⟩⟩⟩⟩⟩⟩⟩⟩⟩⟩⟩⟩⟩⟩⟩⟩
theorem lw_p32 : lw_okq (⟨"FamilyRules$Maker", "lift", "(III)V"⟩, 8) := ⟨⟨by decide +kernel, by decide +kernel⟩, List.mem_of_getElem? (i := 80) (by decide +kernel), List.mem_of_getElem? (i := 388) (by decide +kernel), List.mem_of_getElem? (i := 389) (by decide +kernel)⟩
theorem lw_p33 : lw_okq (⟨"FamilyRules$Maker", "writeBrought", "(LFamilyRules$Global;IIII)V"⟩, 8) := ⟨⟨by decide +kernel, by decide +kernel⟩, List.mem_of_getElem? (i := 80) (by decide +kernel), List.mem_of_getElem? (i := 392) (by decide +kernel), List.mem_of_getElem? (i := 393) (by decide +kernel)⟩
theorem lw_p34 : lw_okq (⟨"FamilyRules$Maker", "put", "(III)V"⟩, 8) := ⟨⟨by decide +kernel, by decide +kernel⟩, List.mem_of_getElem? (i := 80) (by decide +kernel), List.mem_of_getElem? (i := 397) (by decide +kernel), List.mem_of_getElem? (i := 398) (by decide +kernel)⟩
theorem lw_p35 : lw_okq (⟨"FamilyRules$Maker", "copy", "(II)V"⟩, 8) := ⟨⟨by decide +kernel, by decide +kernel⟩, List.mem_of_getElem? (i := 80) (by decide +kernel), List.mem_of_getElem? (i := 403) (by decide +kernel), List.mem_of_getElem? (i := 404) (by decide +kernel)⟩
theorem lw_p36 : lw_okq (⟨"FamilyRules$Maker", "liftedNumber", "(I)I"⟩, 8) := ⟨⟨by decide +kernel, by decide +kernel⟩, List.mem_of_getElem? (i := 80) (by decide +kernel), List.mem_of_getElem? (i := 408) (by decide +kernel), List.mem_of_getElem? (i := 409) (by decide +kernel)⟩
theorem lw_p37 : lw_okq (⟨"FamilyRules$Term", "sortAt", "(I)I"⟩, 4) := ⟨⟨by decide +kernel, by decide +kernel⟩, List.mem_of_getElem? (i := 148) (by decide +kernel), List.mem_of_getElem? (i := 413) (by decide +kernel), List.mem_of_getElem? (i := 414) (by decide +kernel)⟩
theorem lw_p38 : lw_okq (⟨"FamilyRules$Maker", "putApplications", "(I)V"⟩, 8) := ⟨⟨by decide +kernel, by decide +kernel⟩, List.mem_of_getElem? (i := 80) (by decide +kernel), List.mem_of_getElem? (i := 417) (by decide +kernel), List.mem_of_getElem? (i := 418) (by decide +kernel)⟩
theorem lw_p39 : lw_okq (⟨"FamilyRules$Reader", "lastTerms", "(LFamilyRules$Global;)I"⟩, 5) := ⟨⟨by decide +kernel, by decide +kernel⟩, List.mem_of_getElem? (i := 20) (by decide +kernel), List.mem_of_getElem? (i := 421) (by decide +kernel), List.mem_of_getElem? (i := 422) (by decide +kernel)⟩
theorem lw_p40 : lw_okq (⟨"FamilyRules$Reader", "end", "()I"⟩, 5) := ⟨⟨by decide +kernel, by decide +kernel⟩, List.mem_of_getElem? (i := 20) (by decide +kernel), List.mem_of_getElem? (i := 425) (by decide +kernel), List.mem_of_getElem? (i := 426) (by decide +kernel)⟩
theorem lw_p41 : lw_okq (⟨"FamilyRules$Maker", "putVariables", "(II)V"⟩, 8) := ⟨⟨by decide +kernel, by decide +kernel⟩, List.mem_of_getElem? (i := 80) (by decide +kernel), List.mem_of_getElem? (i := 429) (by decide +kernel), List.mem_of_getElem? (i := 430) (by decide +kernel)⟩
theorem lw_p42 : lw_okq (⟨"FamilyRules$Global", "isWholeTold", "()Z"⟩, 10) := ⟨⟨by decide +kernel, by decide +kernel⟩, List.mem_of_getElem? (i := 222) (by decide +kernel), List.mem_of_getElem? (i := 437) (by decide +kernel), List.mem_of_getElem? (i := 438) (by decide +kernel)⟩
theorem lw_p43 : lw_okq (⟨"FamilyRules$Global", "constructorAt", "(I)LFamilyRules$Global;"⟩, 10) := ⟨⟨by decide +kernel, by decide +kernel⟩, List.mem_of_getElem? (i := 222) (by decide +kernel), List.mem_of_getElem? (i := 441) (by decide +kernel), List.mem_of_getElem? (i := 442) (by decide +kernel)⟩
theorem lw_p44 : lw_okq (⟨"FamilyRules$Maker", "writeRecType", "(LFamilyRules$Global;I)V"⟩, 8) := ⟨⟨by decide +kernel, by decide +kernel⟩, List.mem_of_getElem? (i := 80) (by decide +kernel), List.mem_of_getElem? (i := 445) (by decide +kernel), List.mem_of_getElem? (i := 446) (by decide +kernel)⟩
theorem lw_p45 : lw_okq (⟨"FamilyRules$Maker", "writeAlls", "(III)V"⟩, 8) := ⟨⟨by decide +kernel, by decide +kernel⟩, List.mem_of_getElem? (i := 80) (by decide +kernel), List.mem_of_getElem? (i := 449) (by decide +kernel), List.mem_of_getElem? (i := 450) (by decide +kernel)⟩
theorem lw_p46 : lw_okq (⟨"FamilyRules$Maker", "writeGlobal", "(LFamilyRules$Global;III)V"⟩, 8) := ⟨⟨by decide +kernel, by decide +kernel⟩, List.mem_of_getElem? (i := 80) (by decide +kernel), List.mem_of_getElem? (i := 453) (by decide +kernel), List.mem_of_getElem? (i := 454) (by decide +kernel)⟩
theorem lw_p47 : lw_okq (⟨"FamilyRules$Maker", "writeCase", "(LFamilyRules$Global;LFamilyRules$Global;)V"⟩, 8) := ⟨⟨by decide +kernel, by decide +kernel⟩, List.mem_of_getElem? (i := 80) (by decide +kernel), List.mem_of_getElem? (i := 458) (by decide +kernel), List.mem_of_getElem? (i := 459) (by decide +kernel)⟩
def lw_privs_3 : List (MethodName × Nat) := [(⟨"FamilyRules$Maker", "lift", "(III)V"⟩, 8), (⟨"FamilyRules$Maker", "writeBrought", "(LFamilyRules$Global;IIII)V"⟩, 8), (⟨"FamilyRules$Maker", "put", "(III)V"⟩, 8), (⟨"FamilyRules$Maker", "copy", "(II)V"⟩, 8), (⟨"FamilyRules$Maker", "liftedNumber", "(I)I"⟩, 8), (⟨"FamilyRules$Term", "sortAt", "(I)I"⟩, 4), (⟨"FamilyRules$Maker", "putApplications", "(I)V"⟩, 8), (⟨"FamilyRules$Reader", "lastTerms", "(LFamilyRules$Global;)I"⟩, 5), (⟨"FamilyRules$Reader", "end", "()I"⟩, 5), (⟨"FamilyRules$Maker", "putVariables", "(II)V"⟩, 8), (⟨"FamilyRules$Global", "isWholeTold", "()Z"⟩, 10), (⟨"FamilyRules$Global", "constructorAt", "(I)LFamilyRules$Global;"⟩, 10), (⟨"FamilyRules$Maker", "writeRecType", "(LFamilyRules$Global;I)V"⟩, 8), (⟨"FamilyRules$Maker", "writeAlls", "(III)V"⟩, 8), (⟨"FamilyRules$Maker", "writeGlobal", "(LFamilyRules$Global;III)V"⟩, 8), (⟨"FamilyRules$Maker", "writeCase", "(LFamilyRules$Global;LFamilyRules$Global;)V"⟩, 8)]
theorem lw_r3 : ∀ q ∈ lw_privs_3, lw_okq q := List.forall_mem_cons.mpr ⟨lw_p32, List.forall_mem_cons.mpr ⟨lw_p33, List.forall_mem_cons.mpr ⟨lw_p34, List.forall_mem_cons.mpr ⟨lw_p35, List.forall_mem_cons.mpr ⟨lw_p36, List.forall_mem_cons.mpr ⟨lw_p37, List.forall_mem_cons.mpr ⟨lw_p38, List.forall_mem_cons.mpr ⟨lw_p39, List.forall_mem_cons.mpr ⟨lw_p40, List.forall_mem_cons.mpr ⟨lw_p41, List.forall_mem_cons.mpr ⟨lw_p42, List.forall_mem_cons.mpr ⟨lw_p43, List.forall_mem_cons.mpr ⟨lw_p44, List.forall_mem_cons.mpr ⟨lw_p45, List.forall_mem_cons.mpr ⟨lw_p46, List.forall_mem_cons.mpr ⟨lw_p47, fun _ h => absurd h List.not_mem_nil⟩⟩⟩⟩⟩⟩⟩⟩⟩⟩⟩⟩⟩⟩⟩⟩
theorem lw_p48 : lw_okq (⟨"FamilyRules$Term", "has", "(I)Z"⟩, 4) := ⟨⟨by decide +kernel, by decide +kernel⟩, List.mem_of_getElem? (i := 148) (by decide +kernel), List.mem_of_getElem? (i := 474) (by decide +kernel), List.mem_of_getElem? (i := 475) (by decide +kernel)⟩
theorem lw_p49 : lw_okq (⟨"FamilyRulesModel", "add", "(III)I"⟩, 16) := ⟨⟨by decide +kernel, by decide +kernel⟩, List.mem_of_getElem? (i := 481) (by decide +kernel), List.mem_of_getElem? (i := 540) (by decide +kernel), List.mem_of_getElem? (i := 541) (by decide +kernel)⟩
theorem lw_p50 : lw_okq (⟨"FamilyRulesModel", "term", "(I)I"⟩, 16) := ⟨⟨by decide +kernel, by decide +kernel⟩, List.mem_of_getElem? (i := 481) (by decide +kernel), List.mem_of_getElem? (i := 548) (by decide +kernel), List.mem_of_getElem? (i := 549) (by decide +kernel)⟩
theorem lw_p51 : lw_okq (⟨"FamilyRulesModel", "measure", "(I)V"⟩, 16) := ⟨⟨by decide +kernel, by decide +kernel⟩, List.mem_of_getElem? (i := 481) (by decide +kernel), List.mem_of_getElem? (i := 552) (by decide +kernel), List.mem_of_getElem? (i := 553) (by decide +kernel)⟩
theorem lw_p52 : lw_okq (⟨"FamilyRulesModel", "isTerm", "(I)Z"⟩, 16) := ⟨⟨by decide +kernel, by decide +kernel⟩, List.mem_of_getElem? (i := 481) (by decide +kernel), List.mem_of_getElem? (i := 560) (by decide +kernel), List.mem_of_getElem? (i := 561) (by decide +kernel)⟩
theorem lw_p53 : lw_okq (⟨"FamilyRulesModel", "two", "(IIII)I"⟩, 16) := ⟨⟨by decide +kernel, by decide +kernel⟩, List.mem_of_getElem? (i := 481) (by decide +kernel), List.mem_of_getElem? (i := 564) (by decide +kernel), List.mem_of_getElem? (i := 565) (by decide +kernel)⟩
theorem lw_p54 : lw_okq (⟨"FamilyRulesModel", "copy", "(I)V"⟩, 16) := ⟨⟨by decide +kernel, by decide +kernel⟩, List.mem_of_getElem? (i := 481) (by decide +kernel), List.mem_of_getElem? (i := 568) (by decide +kernel), List.mem_of_getElem? (i := 569) (by decide +kernel)⟩
theorem lw_p55 : lw_okq (⟨"FamilyRulesModel", "global", "(III)I"⟩, 16) := ⟨⟨by decide +kernel, by decide +kernel⟩, List.mem_of_getElem? (i := 481) (by decide +kernel), List.mem_of_getElem? (i := 588) (by decide +kernel), List.mem_of_getElem? (i := 589) (by decide +kernel)⟩
theorem lw_p56 : lw_okq (⟨"FamilyRulesModel", "isClosed", "(I)Z"⟩, 16) := ⟨⟨by decide +kernel, by decide +kernel⟩, List.mem_of_getElem? (i := 481) (by decide +kernel), List.mem_of_getElem? (i := 596) (by decide +kernel), List.mem_of_getElem? (i := 597) (by decide +kernel)⟩
theorem lw_p57 : lw_okq (⟨"FamilyRulesModel", "walk", "(I)V"⟩, 16) := ⟨⟨by decide +kernel, by decide +kernel⟩, List.mem_of_getElem? (i := 481) (by decide +kernel), List.mem_of_getElem? (i := 600) (by decide +kernel), List.mem_of_getElem? (i := 601) (by decide +kernel)⟩
theorem lw_p58 : lw_okq (⟨"FamilyRulesModel", "second", "(I)I"⟩, 16) := ⟨⟨by decide +kernel, by decide +kernel⟩, List.mem_of_getElem? (i := 481) (by decide +kernel), List.mem_of_getElem? (i := 604) (by decide +kernel), List.mem_of_getElem? (i := 605) (by decide +kernel)⟩
theorem lw_p59 : lw_okq (⟨"FamilyRulesModel", "alls", "(I)I"⟩, 16) := ⟨⟨by decide +kernel, by decide +kernel⟩, List.mem_of_getElem? (i := 481) (by decide +kernel), List.mem_of_getElem? (i := 608) (by decide +kernel), List.mem_of_getElem? (i := 609) (by decide +kernel)⟩
theorem lw_p60 : lw_okq (⟨"FamilyRulesModel", "under", "(II)I"⟩, 16) := ⟨⟨by decide +kernel, by decide +kernel⟩, List.mem_of_getElem? (i := 481) (by decide +kernel), List.mem_of_getElem? (i := 612) (by decide +kernel), List.mem_of_getElem? (i := 613) (by decide +kernel)⟩
theorem lw_p61 : lw_okq (⟨"FamilyRulesModel", "judge", "(III)I"⟩, 16) := ⟨⟨by decide +kernel, by decide +kernel⟩, List.mem_of_getElem? (i := 481) (by decide +kernel), List.mem_of_getElem? (i := 620) (by decide +kernel), List.mem_of_getElem? (i := 621) (by decide +kernel)⟩
theorem lw_p62 : lw_okq (⟨"FamilyRulesModel", "has", "(II)Z"⟩, 16) := ⟨⟨by decide +kernel, by decide +kernel⟩, List.mem_of_getElem? (i := 481) (by decide +kernel), List.mem_of_getElem? (i := 624) (by decide +kernel), List.mem_of_getElem? (i := 625) (by decide +kernel)⟩
theorem lw_p63 : lw_okq (⟨"FamilyRulesModel", "isPut", "(III)Z"⟩, 16) := ⟨⟨by decide +kernel, by decide +kernel⟩, List.mem_of_getElem? (i := 481) (by decide +kernel), List.mem_of_getElem? (i := 628) (by decide +kernel), List.mem_of_getElem? (i := 629) (by decide +kernel)⟩
def lw_privs_4 : List (MethodName × Nat) := [(⟨"FamilyRules$Term", "has", "(I)Z"⟩, 4), (⟨"FamilyRulesModel", "add", "(III)I"⟩, 16), (⟨"FamilyRulesModel", "term", "(I)I"⟩, 16), (⟨"FamilyRulesModel", "measure", "(I)V"⟩, 16), (⟨"FamilyRulesModel", "isTerm", "(I)Z"⟩, 16), (⟨"FamilyRulesModel", "two", "(IIII)I"⟩, 16), (⟨"FamilyRulesModel", "copy", "(I)V"⟩, 16), (⟨"FamilyRulesModel", "global", "(III)I"⟩, 16), (⟨"FamilyRulesModel", "isClosed", "(I)Z"⟩, 16), (⟨"FamilyRulesModel", "walk", "(I)V"⟩, 16), (⟨"FamilyRulesModel", "second", "(I)I"⟩, 16), (⟨"FamilyRulesModel", "alls", "(I)I"⟩, 16), (⟨"FamilyRulesModel", "under", "(II)I"⟩, 16), (⟨"FamilyRulesModel", "judge", "(III)I"⟩, 16), (⟨"FamilyRulesModel", "has", "(II)Z"⟩, 16), (⟨"FamilyRulesModel", "isPut", "(III)Z"⟩, 16)]
theorem lw_r4 : ∀ q ∈ lw_privs_4, lw_okq q := List.forall_mem_cons.mpr ⟨lw_p48, List.forall_mem_cons.mpr ⟨lw_p49, List.forall_mem_cons.mpr ⟨lw_p50, List.forall_mem_cons.mpr ⟨lw_p51, List.forall_mem_cons.mpr ⟨lw_p52, List.forall_mem_cons.mpr ⟨lw_p53, List.forall_mem_cons.mpr ⟨lw_p54, List.forall_mem_cons.mpr ⟨lw_p55, List.forall_mem_cons.mpr ⟨lw_p56, List.forall_mem_cons.mpr ⟨lw_p57, List.forall_mem_cons.mpr ⟨lw_p58, List.forall_mem_cons.mpr ⟨lw_p59, List.forall_mem_cons.mpr ⟨lw_p60, List.forall_mem_cons.mpr ⟨lw_p61, List.forall_mem_cons.mpr ⟨lw_p62, List.forall_mem_cons.mpr ⟨lw_p63, fun _ h => absurd h List.not_mem_nil⟩⟩⟩⟩⟩⟩⟩⟩⟩⟩⟩⟩⟩⟩⟩⟩
theorem lw_p64 : lw_okq (⟨"FamilyRulesModel", "index", "(III)I"⟩, 16) := ⟨⟨by decide +kernel, by decide +kernel⟩, List.mem_of_getElem? (i := 481) (by decide +kernel), List.mem_of_getElem? (i := 632) (by decide +kernel), List.mem_of_getElem? (i := 633) (by decide +kernel)⟩
theorem lw_p65 : lw_okq (⟨"FamilyRulesModel", "isRecursive", "(II)Z"⟩, 16) := ⟨⟨by decide +kernel, by decide +kernel⟩, List.mem_of_getElem? (i := 481) (by decide +kernel), List.mem_of_getElem? (i := 648) (by decide +kernel), List.mem_of_getElem? (i := 649) (by decide +kernel)⟩
theorem lw_p66 : lw_okq (⟨"FamilyRulesModel", "argument", "(II)I"⟩, 16) := ⟨⟨by decide +kernel, by decide +kernel⟩, List.mem_of_getElem? (i := 481) (by decide +kernel), List.mem_of_getElem? (i := 652) (by decide +kernel), List.mem_of_getElem? (i := 653) (by decide +kernel)⟩
theorem lw_p67 : lw_okq (⟨"FamilyRulesModel", "level", "(II)V"⟩, 16) := ⟨⟨by decide +kernel, by decide +kernel⟩, List.mem_of_getElem? (i := 481) (by decide +kernel), List.mem_of_getElem? (i := 656) (by decide +kernel), List.mem_of_getElem? (i := 657) (by decide +kernel)⟩
theorem lw_p68 : lw_okq (⟨"FamilyRulesModel", "brought", "(IIIIII)V"⟩, 16) := ⟨⟨by decide +kernel, by decide +kernel⟩, List.mem_of_getElem? (i := 481) (by decide +kernel), List.mem_of_getElem? (i := 660) (by decide +kernel), List.mem_of_getElem? (i := 661) (by decide +kernel)⟩
theorem lw_p69 : lw_okq (⟨"FamilyRulesModel", "binderOf", "(IIII)I"⟩, 16) := ⟨⟨by decide +kernel, by decide +kernel⟩, List.mem_of_getElem? (i := 481) (by decide +kernel), List.mem_of_getElem? (i := 664) (by decide +kernel), List.mem_of_getElem? (i := 665) (by decide +kernel)⟩
theorem lw_p70 : lw_okq (⟨"FamilyRulesModel", "piece", "(II)V"⟩, 16) := ⟨⟨by decide +kernel, by decide +kernel⟩, List.mem_of_getElem? (i := 481) (by decide +kernel), List.mem_of_getElem? (i := 668) (by decide +kernel), List.mem_of_getElem? (i := 669) (by decide +kernel)⟩
theorem lw_p71 : lw_okq (⟨"FamilyRulesModel", "made", "(I)V"⟩, 16) := ⟨⟨by decide +kernel, by decide +kernel⟩, List.mem_of_getElem? (i := 481) (by decide +kernel), List.mem_of_getElem? (i := 672) (by decide +kernel), List.mem_of_getElem? (i := 673) (by decide +kernel)⟩
theorem lw_p72 : lw_okq (⟨"FamilyRulesModel", "applications", "(I)V"⟩, 16) := ⟨⟨by decide +kernel, by decide +kernel⟩, List.mem_of_getElem? (i := 481) (by decide +kernel), List.mem_of_getElem? (i := 677) (by decide +kernel), List.mem_of_getElem? (i := 678) (by decide +kernel)⟩
theorem lw_p73 : lw_okq (⟨"FamilyRulesModel", "settle", "(I)V"⟩, 16) := ⟨⟨by decide +kernel, by decide +kernel⟩, List.mem_of_getElem? (i := 481) (by decide +kernel), List.mem_of_getElem? (i := 681) (by decide +kernel), List.mem_of_getElem? (i := 682) (by decide +kernel)⟩
theorem lw_p74 : lw_okq (⟨"FamilyRulesModel", "isWhole", "(I)Z"⟩, 16) := ⟨⟨by decide +kernel, by decide +kernel⟩, List.mem_of_getElem? (i := 481) (by decide +kernel), List.mem_of_getElem? (i := 690) (by decide +kernel), List.mem_of_getElem? (i := 691) (by decide +kernel)⟩
theorem lw_p75 : lw_okq (⟨"FamilyRulesModel", "write", "(II)V"⟩, 16) := ⟨⟨by decide +kernel, by decide +kernel⟩, List.mem_of_getElem? (i := 481) (by decide +kernel), List.mem_of_getElem? (i := 694) (by decide +kernel), List.mem_of_getElem? (i := 695) (by decide +kernel)⟩
theorem lw_p76 : lw_okq (⟨"FamilyRulesModel", "put", "(II)V"⟩, 16) := ⟨⟨by decide +kernel, by decide +kernel⟩, List.mem_of_getElem? (i := 481) (by decide +kernel), List.mem_of_getElem? (i := 698) (by decide +kernel), List.mem_of_getElem? (i := 699) (by decide +kernel)⟩
theorem lw_p77 : lw_okq (⟨"FamilyRulesModel", "part", "(II)V"⟩, 16) := ⟨⟨by decide +kernel, by decide +kernel⟩, List.mem_of_getElem? (i := 481) (by decide +kernel), List.mem_of_getElem? (i := 702) (by decide +kernel), List.mem_of_getElem? (i := 703) (by decide +kernel)⟩
def lw_privs_5 : List (MethodName × Nat) := [(⟨"FamilyRulesModel", "index", "(III)I"⟩, 16), (⟨"FamilyRulesModel", "isRecursive", "(II)Z"⟩, 16), (⟨"FamilyRulesModel", "argument", "(II)I"⟩, 16), (⟨"FamilyRulesModel", "level", "(II)V"⟩, 16), (⟨"FamilyRulesModel", "brought", "(IIIIII)V"⟩, 16), (⟨"FamilyRulesModel", "binderOf", "(IIII)I"⟩, 16), (⟨"FamilyRulesModel", "piece", "(II)V"⟩, 16), (⟨"FamilyRulesModel", "made", "(I)V"⟩, 16), (⟨"FamilyRulesModel", "applications", "(I)V"⟩, 16), (⟨"FamilyRulesModel", "settle", "(I)V"⟩, 16), (⟨"FamilyRulesModel", "isWhole", "(I)Z"⟩, 16), (⟨"FamilyRulesModel", "write", "(II)V"⟩, 16), (⟨"FamilyRulesModel", "put", "(II)V"⟩, 16), (⟨"FamilyRulesModel", "part", "(II)V"⟩, 16)]
theorem lw_r5 : ∀ q ∈ lw_privs_5, lw_okq q := List.forall_mem_cons.mpr ⟨lw_p64, List.forall_mem_cons.mpr ⟨lw_p65, List.forall_mem_cons.mpr ⟨lw_p66, List.forall_mem_cons.mpr ⟨lw_p67, List.forall_mem_cons.mpr ⟨lw_p68, List.forall_mem_cons.mpr ⟨lw_p69, List.forall_mem_cons.mpr ⟨lw_p70, List.forall_mem_cons.mpr ⟨lw_p71, List.forall_mem_cons.mpr ⟨lw_p72, List.forall_mem_cons.mpr ⟨lw_p73, List.forall_mem_cons.mpr ⟨lw_p74, List.forall_mem_cons.mpr ⟨lw_p75, List.forall_mem_cons.mpr ⟨lw_p76, List.forall_mem_cons.mpr ⟨lw_p77, fun _ h => absurd h List.not_mem_nil⟩⟩⟩⟩⟩⟩⟩⟩⟩⟩⟩⟩⟩⟩
def lw_privs : List (MethodName × Nat) := lw_privs_1 ++ (lw_privs_2 ++ (lw_privs_3 ++ (lw_privs_4 ++ (lw_privs_5))))
def lw_tbl : List Cond := k2_sels lw_privs ++ tables_1
theorem lw_privs_ok : ∀ q ∈ lw_privs, lw_okq q := by
  show ∀ q ∈ lw_privs_1 ++ (lw_privs_2 ++ (lw_privs_3 ++ (lw_privs_4 ++ (lw_privs_5)))), lw_okq q
  exact List.forall_mem_append.mpr ⟨lw_r1, List.forall_mem_append.mpr ⟨lw_r2, List.forall_mem_append.mpr ⟨lw_r3, List.forall_mem_append.mpr ⟨lw_r4, lw_r5⟩⟩⟩⟩
end
section
/-! INTS BY THEIR VALUES, AND THE WORLD AS A MAP from addresses to cells -/
def iI (z : Int) : Int32 := Int32.ofInt z
abbrev R32 (z : Int) : Prop := -2147483648 ≤ z ∧ z < 2147483648
theorem iI_t {z : Int} (h : R32 z) : (iI z).toInt = z := Int32.toInt_ofInt_of_le (by omega) (by omega)
theorem iI_x (x : Int32) : iI x.toInt = x := Int32.ofInt_toInt x
theorem iI_r (x : Int32) : R32 x.toInt := ⟨by have := Int32.le_toInt x; omega, by have := Int32.toInt_lt x; omega⟩
theorem iI_add (a b : Int) : iI a + iI b = iI (a + b) := (Int32.ofInt_add a b).symm
theorem iI_sub (a b : Int) : iI a - iI b = iI (a - b) := (Int32.ofInt_sub a b).symm
theorem iI_mul (a b : Int) : iI a * iI b = iI (a * b) := (Int32.ofInt_mul a b).symm
theorem iI_neg (a : Int) : -iI a = iI (-a) := (Int32.ofInt_neg a).symm
theorem iI_lt {a b : Int} (ha : R32 a) (hb : R32 b) : iI a < iI b ↔ a < b := by rw [Int32.lt_iff_toInt_lt, iI_t ha, iI_t hb]
theorem iI_le {a b : Int} (ha : R32 a) (hb : R32 b) : iI a ≤ iI b ↔ a ≤ b := by rw [Int32.le_iff_toInt_le, iI_t ha, iI_t hb]
theorem iI_eq {a b : Int} (ha : R32 a) (hb : R32 b) : iI a = iI b ↔ a = b := by rw [← Int32.toInt_inj, iI_t ha, iI_t hb]
theorem iI_0 : iI 0 = 0 := rfl
theorem iI_n (n : Nat) : nI n = iI n := Int32.ofInt_eq_ofNat.symm
theorem iI_c {z : Int} (h : R32 z) : (iI z).toNatClampNeg = z.toNat := by rw [← Int32.toNat_toInt, iI_t h]
theorem iI_in {z : Int} {n : Nat} (h : R32 z) (h0 : 0 ≤ z) (h1 : z < n) : vp_in (iI z) n := by
  rw [vp_in_iff, iI_t h]
  exact ⟨h0, h1⟩
abbrev mv_M : Type := Nat → Option va_E
def mv_up (M : mv_M) (a : Nat) (e : va_E) : mv_M := fun q => if q = a then some e else M q
theorem mv_us {M : mv_M} {a : Nat} {e : va_E} : mv_up M a e a = some e := by simp [mv_up]
theorem mv_un {M : mv_M} {a q : Nat} {e : va_E} (h : q ≠ a) : mv_up M a e q = M q := by simp [mv_up, h]
theorem mv_uu {M : mv_M} {a : Nat} {e e' : va_E} : mv_up (mv_up M a e) a e' = mv_up M a e' := by
  funext q
  by_cases h : q = a <;> simp [mv_up, h]
theorem mv_self {M : mv_M} {a : Nat} {e : va_E} (h : M a = some e) : mv_up M a e = M := by
  funext q
  by_cases hq : q = a
  · subst hq; rw [mv_us, h]
  · rw [mv_un hq]
theorem mv_ne {M : mv_M} {a b : Nat} {e e' : va_E} (h1 : M a = some e) (h2 : M b = some e') (h : e ≠ e') : a ≠ b := fun q => by
  subst q
  exact h (Option.some.inj (h1.symm.trans h2))
theorem mv_comm {M : mv_M} {a b : Nat} {e e' : va_E} (h : a ≠ b) : mv_up (mv_up M a e) b e' = mv_up (mv_up M b e') a e := by
  funext q
  by_cases h1 : q = a
  · subst h1; rw [mv_un h, mv_us, mv_us]
  · by_cases h2 : q = b
    · subst h2; rw [mv_us, mv_un (Ne.symm h), mv_us]
    · rw [mv_un h2, mv_un h1, mv_un h1, mv_un h2]
end
section
/-! THE MACHINE OVER A MAP: K = (class numbers and slots, classes, array classes, link words, which addresses may change); X = the machine's standing data; mv_G = 'from here it goes to Q' -/
abbrev mv_K : Type := va_G × List vw_C × List (ClassId × FieldType) × List Cond × (Nat → Prop)
abbrev mv_X : Type := Program × Launch × Env × Room × State × MethodId × Array Value × List Frame × Method × Code
def mv_H (K : mv_K) (M : mv_M) (H : Heap) : Prop := (∀ q : Nat, H.size ≤ q → K.2.2.2.2 q) ∧ ∀ (a : Nat) (e : va_E), M a = some e → K.2.2.2.2 a ∧ va_at K.1 K.2.1 (a, e) H
def mv_nk (w : Cond) : Bool := match w with
  | .fieldLinkNest _ _ _ _ _ _ => true
  | .methodLinkNest _ _ _ _ => true
  | .arrayOver (.object _) => true
  | _ => false
theorem mv_nk_warm {w : Cond} {s U : State} (hk : mv_nk w = true) (hW : s.WarmedH U.vm) (h : va_Nw w s) : va_Nw w U := by
  unfold mv_nk at hk
  split at hk
  · exact va_Nw.warmF hW h
  · exact va_Nw.warmM hW h
  · exact va_AO.moved hW.alike h
  · cases hk
theorem mv_nk_same {w : Cond} {s U : State} (hk : mv_nk w = true) (hW : s.vm = U.vm) (h : va_Nw w s) : va_Nw w U := by
  unfold mv_nk at hk
  split at hk
  · exact va_Nw.same rfl hW h
  · exact va_Nw.same rfl hW h
  · exact va_AO.moved (by rw [hW]; exact Vm.Alike.refl _) h
  · cases hk
def mv_T (K : mv_K) (U : State) : Prop := va_K K.1 K.2.1 K.2.2.1 U ∧ ∀ w ∈ K.2.2.2.1, mv_nk w = true ∧ va_Nw w U
theorem mv_T.warm {K : mv_K} {s U : State} (hW : s.WarmedH U.vm) (h : mv_T K s) : mv_T K U := ⟨va_K.moved hW.alike h.1, fun w hw => ⟨(h.2 w hw).1, mv_nk_warm (h.2 w hw).1 hW (h.2 w hw).2⟩⟩
def mv_Pre (K : mv_K) (av : List Value) (M : mv_M) : Array Value → State → Prop := fun v U => v = av.toArray ∧ mv_H K M U.heap ∧ mv_T K U
theorem mv_Pre.blind {K : mv_K} {av : List Value} {M : mv_M} : FrameBlind (mv_Pre K av M) := fun a U g mk h => ⟨h.1, h.2.1, va_K.moved (u := U) (U := U.calling g mk a) (Vm.Alike.refl U.vm) h.2.2.1, fun w hw => ⟨(h.2.2.2 w hw).1, mv_nk_same (s := U) (U := U.calling g mk a) (h.2.2.2 w hw).1 rfl (h.2.2.2 w hw).2⟩⟩
def mv_Q (K : mv_K) (post : Option Value → mv_M → Prop) : Array Value → State → Outcome → State → Prop := fun _ st oc t => ∃ (v : Option Value) (M : mv_M), oc = .returned v ∧ post v M ∧ mv_H K M t.heap ∧ va_F K.2.2.2.2 st t
def mv_B (X : mv_X) (K : mv_K) (cc : ByteArray) (Ts : List Cond) (own : String) (nL : Nat) (ret : Option FieldType) (rm : Room) (nm : String) : Prop := match X with
  | (p, _, _, R, s, m, args, _, meth, c) => p.tables.exec = Jvm.exec ∧ c.code = cc ∧ c.maxLocals = nL ∧ s.vm.findClass own = some m.cls ∧ (∀ w ∈ Ts, w.before args s = true) ∧ mv_T K s ∧ (∀ q : Nat, s.heap.size ≤ q → K.2.2.2.2 q) ∧ meth.sig.returnType = ret ∧ R = rm ∧ meth.locks = false ∧ meth.name = nm
def mv_G (X : mv_X) (Q : State → Prop) (K : mv_K) (nL pc : Nat) (lv : List (Nat × Value)) (st : List Value) (M : mv_M) (cells slots : Nat) : Prop := match X with
  | (p, l, e, R, s, m, args, below, meth, c) => ∀ (H : Heap) (locs : List Loc) (ls : Array Slot), mv_H K M H → va_S K.2.2.2.2 s.heap H locs → lv_has ls nL lv → W p l e R s m args below meth c H locs cells slots Q (F0 m pc ls st)

section MVG
variable {X : mv_X} {Q : State → Prop} {K : mv_K} {nL pc : Nat} {lv lv' : List (Nat × Value)} {st rest : List Value} {M : mv_M} {cells slots : Nat}
variable {cc : ByteArray} {Ts : List Cond} {own nm : String} {ret : Option FieldType} {rm : Room}
theorem mv_H.P1 {H : Heap} {a : Nat} {e : va_E} (h : mv_H K M H) (ha : M a = some e) : va_P K.1 K.2.1 [(a, e)] H := fun k q hk => by
  match k, hk with
  | 0, hk => cases hk; exact (h.2 a e ha).2
theorem mv_H.lt {H : Heap} {a : Nat} {e : va_E} (h : mv_H K M H) (ha : M a = some e) : a < H.size := (h.2 a e ha).2.lt
theorem mv_H.set {H H1 : Heap} {a : Nat} {e0 e : va_E} (h : mv_H K M H) (ha : M a = some e0) (he : va_at K.1 K.2.1 (a, e) H1) (z : H1.size = H.size) (oq : ∀ q : Nat, q ≠ a → H1[q]? = H[q]?) : mv_H K (mv_up M a e) H1 := by
  refine ⟨fun q hq => h.1 q (by rw [← z]; exact hq), fun b f hb => ?_⟩
  by_cases hq : b = a
  · subst hq
    rw [mv_us] at hb
    cases hb
    exact ⟨(h.2 b e0 ha).1, he⟩
  · rw [mv_un hq] at hb
    exact ⟨(h.2 b f hb).1, (h.2 b f hb).2.kept (oq b hq)⟩
theorem mv_H.born {H H1 : Heap} {e : va_E} (h : mv_H K M H) (he : va_at K.1 K.2.1 (H.size, e) H1) (z : H1.size = H.size + 1) (oq : ∀ q : Nat, q < H.size → H1[q]? = H[q]?) : mv_H K (mv_up M H.size e) H1 := by
  refine ⟨fun q hq => h.1 q (by omega), fun b f hb => ?_⟩
  by_cases hq : b = H.size
  · subst hq
    rw [mv_us] at hb
    cases hb
    exact ⟨h.1 _ (Nat.le_refl _), he⟩
  · rw [mv_un hq] at hb
    exact ⟨(h.2 b f hb).1, (h.2 b f hb).2.kept (oq b (h.lt hb))⟩
theorem mv_iconst (B : mv_B X K cc Ts own nL ret rm nm) {n z : Int} (hdg : decode cc pc = .ok (.iconst n, 1)) (hz : Int32.ofInt n = iI z) (k : mv_G X Q K nL (pc + 1) lv (.int (iI z) :: st) M cells slots) : mv_G X Q K nL pc lv st M cells slots := by
  obtain ⟨p, l, e, R, s, m, args, below, meth, c⟩ := X
  obtain ⟨hx, hb, -⟩ := B
  intro H locs ls hH hS hl
  exact lv_iconst hx hb hdg hz (k H locs ls hH hS hl)
theorem mv_bipush (B : mv_B X K cc Ts own nL ret rm nm) {n z : Int} (hdg : decode cc pc = .ok (.bipush n, 2)) (hz : (Int8.ofInt n).toInt32 = iI z) (k : mv_G X Q K nL (pc + 2) lv (.int (iI z) :: st) M cells slots) : mv_G X Q K nL pc lv st M cells slots := by
  obtain ⟨p, l, e, R, s, m, args, below, meth, c⟩ := X
  obtain ⟨hx, hb, -⟩ := B
  intro H locs ls hH hS hl
  exact lv_bipush hx hb hdg hz (k H locs ls hH hS hl)
theorem mv_sipush (B : mv_B X K cc Ts own nL ret rm nm) {n z : Int} (hdg : decode cc pc = .ok (.sipush n, 3)) (hz : (Int16.ofInt n).toInt32 = iI z) (k : mv_G X Q K nL (pc + 3) lv (.int (iI z) :: st) M cells slots) : mv_G X Q K nL pc lv st M cells slots := by
  obtain ⟨p, l, e, R, s, m, args, below, meth, c⟩ := X
  obtain ⟨hx, hb, -⟩ := B
  intro H locs ls hH hS hl
  exact lv_sipush hx hb hdg hz (k H locs ls hH hS hl)
theorem mv_ldc (B : mv_B X K cc Ts own nL ret rm nm) {index : Nat} {z : Int} (hc : Cond.constant own index (iI z) ∈ Ts) (hdg : decode cc pc = .ok (.ldc index, 2)) (k : mv_G X Q K nL (pc + 2) lv (.int (iI z) :: st) M cells slots) : mv_G X Q K nL pc lv st M cells slots := by
  obtain ⟨p, l, e, R, s, m, args, below, meth, c⟩ := X
  obtain ⟨hx, hb, -, hown, hts, -⟩ := B
  intro H locs ls hH hS hl
  exact lv_ldc hx hb hown (hts _ hc) hdg (k H locs ls hH hS hl)
theorem mv_null (B : mv_B X K cc Ts own nL ret rm nm) (hdg : decode cc pc = .ok (.aconst_null, 1)) (k : mv_G X Q K nL (pc + 1) lv (va_rf none :: st) M cells slots) : mv_G X Q K nL pc lv st M cells slots := by
  obtain ⟨p, l, e, R, s, m, args, below, meth, c⟩ := X
  obtain ⟨hx, hb, -⟩ := B
  intro H locs ls hH hS hl
  exact lv_null hx hb hdg (k H locs ls hH hS hl)
theorem mv_iload_n (B : mv_B X K cc Ts own nL ret rm nm) {j : Fin 4} {i : Nat} {x : Int32} (hdg : decode cc pc = .ok (.iload_n j, 1)) (hi : (j : Nat) = i) (t : Nat) (hv : lv[t]? = some (i, .int x)) (k : mv_G X Q K nL (pc + 1) lv (.int x :: st) M cells slots) : mv_G X Q K nL pc lv st M cells slots := by
  obtain ⟨p, l, e, R, s, m, args, below, meth, c⟩ := X
  obtain ⟨hx, hb, -⟩ := B
  intro H locs ls hH hS hl
  exact lv_iload_n hx hb hdg hi (lv_at hl t hv) (k H locs ls hH hS hl)
theorem mv_iload (B : mv_B X K cc Ts own nL ret rm nm) {i : Nat} {x : Int32} (hdg : decode cc pc = .ok (.iload i, 2)) (t : Nat) (hv : lv[t]? = some (i, .int x)) (k : mv_G X Q K nL (pc + 2) lv (.int x :: st) M cells slots) : mv_G X Q K nL pc lv st M cells slots := by
  obtain ⟨p, l, e, R, s, m, args, below, meth, c⟩ := X
  obtain ⟨hx, hb, -⟩ := B
  intro H locs ls hH hS hl
  exact lv_iload hx hb hdg (lv_at hl t hv) (k H locs ls hH hS hl)
theorem mv_aload_n (B : mv_B X K cc Ts own nL ret rm nm) {j : Fin 4} {i : Nat} {r : Option Nat} (hdg : decode cc pc = .ok (.aload_n j, 1)) (hi : (j : Nat) = i) (t : Nat) (hv : lv[t]? = some (i, va_rf r)) (k : mv_G X Q K nL (pc + 1) lv (va_rf r :: st) M cells slots) : mv_G X Q K nL pc lv st M cells slots := by
  obtain ⟨p, l, e, R, s, m, args, below, meth, c⟩ := X
  obtain ⟨hx, hb, -⟩ := B
  intro H locs ls hH hS hl
  cases r with
  | none => exact lv_aload_nN hx hb hdg hi (lv_at hl t hv) (k H locs ls hH hS hl)
  | some a => exact lv_aload_n hx hb hdg hi (lv_at hl t hv) (k H locs ls hH hS hl)
theorem mv_aload (B : mv_B X K cc Ts own nL ret rm nm) {i : Nat} {r : Option Nat} (hdg : decode cc pc = .ok (.aload i, 2)) (t : Nat) (hv : lv[t]? = some (i, va_rf r)) (k : mv_G X Q K nL (pc + 2) lv (va_rf r :: st) M cells slots) : mv_G X Q K nL pc lv st M cells slots := by
  obtain ⟨p, l, e, R, s, m, args, below, meth, c⟩ := X
  obtain ⟨hx, hb, -⟩ := B
  intro H locs ls hH hS hl
  cases r with
  | none => exact lv_aloadN hx hb hdg (lv_at hl t hv) (k H locs ls hH hS hl)
  | some a => exact lv_aload hx hb hdg (lv_at hl t hv) (k H locs ls hH hS hl)
def mv_sl (lv : List (Nat × Value)) (i : Nat) (v : Value) : List (Nat × Value) := (i, v) :: lv.filter (fun q => !(q.1 == i) && !(q.1 + 1 == i && q.2.category == 2))
theorem mv_istore_n (B : mv_B X K cc Ts own nL ret rm nm) {j : Fin 4} {i : Nat} {x : Int32} (hdg : decode cc pc = .ok (.istore_n j, 1)) (hi : (j : Nat) = i) (hn : i < nL) (hl' : mv_sl lv i (.int x) = lv') (k : mv_G X Q K nL (pc + 1) lv' st M cells slots) : mv_G X Q K nL pc lv (.int x :: st) M cells slots := by
  obtain ⟨p, l, e, R, s, m, args, below, meth, c⟩ := X
  obtain ⟨hx, hb, -⟩ := B
  intro H locs ls hH hS hl
  exact lv_istore_n hx hb hdg hi hl hn hl' (fun ls' h => k H locs ls' hH hS h)
theorem mv_istore (B : mv_B X K cc Ts own nL ret rm nm) {i : Nat} {x : Int32} (hdg : decode cc pc = .ok (.istore i, 2)) (hn : i < nL) (hl' : mv_sl lv i (.int x) = lv') (k : mv_G X Q K nL (pc + 2) lv' st M cells slots) : mv_G X Q K nL pc lv (.int x :: st) M cells slots := by
  obtain ⟨p, l, e, R, s, m, args, below, meth, c⟩ := X
  obtain ⟨hx, hb, -⟩ := B
  intro H locs ls hH hS hl
  exact lv_istore hx hb hdg hl hn hl' (fun ls' h => k H locs ls' hH hS h)
theorem mv_astore_n (B : mv_B X K cc Ts own nL ret rm nm) {j : Fin 4} {i : Nat} {r : Option Nat} (hdg : decode cc pc = .ok (.astore_n j, 1)) (hi : (j : Nat) = i) (hn : i < nL) (hl' : mv_sl lv i (va_rf r) = lv') (k : mv_G X Q K nL (pc + 1) lv' st M cells slots) : mv_G X Q K nL pc lv (va_rf r :: st) M cells slots := by
  obtain ⟨p, l, e, R, s, m, args, below, meth, c⟩ := X
  obtain ⟨hx, hb, -⟩ := B
  intro H locs ls hH hS hl
  cases r with
  | none => exact lv_astore_nN hx hb hdg hi hl hn hl' (fun ls' h => k H locs ls' hH hS h)
  | some a => exact lv_astore_n hx hb hdg hi hl hn hl' (fun ls' h => k H locs ls' hH hS h)
theorem mv_astore (B : mv_B X K cc Ts own nL ret rm nm) {i : Nat} {r : Option Nat} (hdg : decode cc pc = .ok (.astore i, 2)) (hn : i < nL) (hl' : mv_sl lv i (va_rf r) = lv') (k : mv_G X Q K nL (pc + 2) lv' st M cells slots) : mv_G X Q K nL pc lv (va_rf r :: st) M cells slots := by
  obtain ⟨p, l, e, R, s, m, args, below, meth, c⟩ := X
  obtain ⟨hx, hb, -⟩ := B
  intro H locs ls hH hS hl
  cases r with
  | none => exact lv_astoreN hx hb hdg hl hn hl' (fun ls' h => k H locs ls' hH hS h)
  | some a => exact lv_astore hx hb hdg hl hn hl' (fun ls' h => k H locs ls' hH hS h)
theorem mv_iinc (B : mv_B X K cc Ts own nL ret rm nm) {i : Nat} {n z : Int} (hdg : decode cc pc = .ok (.iinc i n, 3)) (t : Nat) (hv : lv[t]? = some (i, .int (iI z))) (hn : i < nL) (hl' : mv_sl lv i (.int (iI (z + n))) = lv') (k : mv_G X Q K nL (pc + 3) lv' st M cells slots) : mv_G X Q K nL pc lv st M cells slots := by
  obtain ⟨p, l, e, R, s, m, args, below, meth, c⟩ := X
  obtain ⟨hx, hb, -⟩ := B
  intro H locs ls hH hS hl
  exact lv_iinc (v := iI (z + n)) hx hb hdg hl hv (iI_add z n) hn hl' (fun ls' h => k H locs ls' hH hS h)
theorem mv_iadd (B : mv_B X K cc Ts own nL ret rm nm) {x y : Int} (hdg : decode cc pc = .ok (.iadd, 1)) (k : mv_G X Q K nL (pc + 1) lv (.int (iI (x + y)) :: st) M cells slots) : mv_G X Q K nL pc lv (.int (iI y) :: .int (iI x) :: st) M cells slots := by
  obtain ⟨p, l, e, R, s, m, args, below, meth, c⟩ := X
  obtain ⟨hx, hb, -⟩ := B
  intro H locs ls hH hS hl
  refine lv_iadd hx hb hdg ?_
  rw [iI_add]
  exact k H locs ls hH hS hl
theorem mv_isub (B : mv_B X K cc Ts own nL ret rm nm) {x y : Int} (hdg : decode cc pc = .ok (.isub, 1)) (k : mv_G X Q K nL (pc + 1) lv (.int (iI (x - y)) :: st) M cells slots) : mv_G X Q K nL pc lv (.int (iI y) :: .int (iI x) :: st) M cells slots := by
  obtain ⟨p, l, e, R, s, m, args, below, meth, c⟩ := X
  obtain ⟨hx, hb, -⟩ := B
  intro H locs ls hH hS hl
  refine lv_isub hx hb hdg ?_
  rw [iI_sub]
  exact k H locs ls hH hS hl
theorem mv_imul (B : mv_B X K cc Ts own nL ret rm nm) {x y : Int} (hdg : decode cc pc = .ok (.imul, 1)) (k : mv_G X Q K nL (pc + 1) lv (.int (iI (x * y)) :: st) M cells slots) : mv_G X Q K nL pc lv (.int (iI y) :: .int (iI x) :: st) M cells slots := by
  obtain ⟨p, l, e, R, s, m, args, below, meth, c⟩ := X
  obtain ⟨hx, hb, -⟩ := B
  intro H locs ls hH hS hl
  refine lv_imul hx hb hdg ?_
  rw [iI_mul]
  exact k H locs ls hH hS hl
theorem mv_dup (B : mv_B X K cc Ts own nL ret rm nm) {v : Value} (hdg : decode cc pc = .ok (.dup, 1)) (hv : v.category = 1) (k : mv_G X Q K nL (pc + 1) lv (v :: v :: st) M cells slots) : mv_G X Q K nL pc lv (v :: st) M cells slots := by
  obtain ⟨p, l, e, R, s, m, args, below, meth, c⟩ := X
  obtain ⟨hx, hb, -⟩ := B
  intro H locs ls hH hS hl
  exact lv_dup hx hb hdg hv (k H locs ls hH hS hl)
theorem mv_pop (B : mv_B X K cc Ts own nL ret rm nm) {v : Value} (hdg : decode cc pc = .ok (.pop, 1)) (hv : v.category = 1) (k : mv_G X Q K nL (pc + 1) lv st M cells slots) : mv_G X Q K nL pc lv (v :: st) M cells slots := by
  obtain ⟨p, l, e, R, s, m, args, below, meth, c⟩ := X
  obtain ⟨hx, hb, -⟩ := B
  intro H locs ls hH hS hl
  exact lv_pop hx hb hdg hv (k H locs ls hH hS hl)
theorem mv_dup_x1 (B : mv_B X K cc Ts own nL ret rm nm) {v w : Value} (hdg : decode cc pc = .ok (.dup_x1, 1)) (hv : v.category = 1) (hw : w.category = 1) (k : mv_G X Q K nL (pc + 1) lv (v :: w :: v :: st) M cells slots) : mv_G X Q K nL pc lv (v :: w :: st) M cells slots := by
  obtain ⟨p, l, e, R, s, m, args, below, meth, c⟩ := X
  obtain ⟨hx, hb, -⟩ := B
  intro H locs ls hH hS hl
  exact lv_dup_x1 hx hb hdg hv hw (k H locs ls hH hS hl)
theorem mv_goto (B : mv_B X K cc Ts own nL ret rm nm) {off : Int} {tgt : Nat} (hdg : decode cc pc = .ok (.goto off, 3)) (ht : (pc : Int) + off = (tgt : Int)) (k : mv_G X Q K nL tgt lv st M cells slots) : mv_G X Q K nL pc lv st M cells slots := by
  obtain ⟨p, l, e, R, s, m, args, below, meth, c⟩ := X
  obtain ⟨hx, hb, -⟩ := B
  intro H locs ls hH hS hl
  exact lv_goto hx hb hdg ht (k H locs ls hH hS hl)
theorem mv_icmp_eq (B : mv_B X K cc Ts own nL ret rm nm) {x y : Int} {off : Int} {tgt : Nat} (hdg : decode cc pc = .ok (.if_icmp .eq off, 3)) (ht : (pc : Int) + off = (tgt : Int)) (rx : R32 x) (ry : R32 y) (kt : x = y → mv_G X Q K nL tgt lv st M cells slots) (kf : ¬ (x = y) → mv_G X Q K nL (pc + 3) lv st M cells slots) : mv_G X Q K nL pc lv (.int (iI y) :: .int (iI x) :: st) M cells slots := by
  obtain ⟨p, l, e, R, s, m, args, below, meth, c⟩ := X
  obtain ⟨hx, hb, -⟩ := B
  intro H locs ls hH hS hl
  exact lv_icmp_eq hx hb hdg ht (fun h => kt ((iI_eq rx ry).mp h) H locs ls hH hS hl) (fun h => kf (fun q => h ((iI_eq rx ry).mpr q)) H locs ls hH hS hl)
theorem mv_if_eq (B : mv_B X K cc Ts own nL ret rm nm) {x : Int} {off : Int} {tgt : Nat} (hdg : decode cc pc = .ok (.ifCond .eq off, 3)) (ht : (pc : Int) + off = (tgt : Int)) (rx : R32 x) (kt : x = 0 → mv_G X Q K nL tgt lv st M cells slots) (kf : ¬ (x = 0) → mv_G X Q K nL (pc + 3) lv st M cells slots) : mv_G X Q K nL pc lv (.int (iI x) :: st) M cells slots := by
  obtain ⟨p, l, e, R, s, m, args, below, meth, c⟩ := X
  obtain ⟨hx, hb, -⟩ := B
  intro H locs ls hH hS hl
  exact lv_if_eq hx hb hdg ht (fun h => kt ((iI_eq rx (⟨by decide, by decide⟩ : R32 0)).mp h) H locs ls hH hS hl) (fun h => kf (fun q => h ((iI_eq rx (⟨by decide, by decide⟩ : R32 0)).mpr q)) H locs ls hH hS hl)
theorem mv_icmp_ne (B : mv_B X K cc Ts own nL ret rm nm) {x y : Int} {off : Int} {tgt : Nat} (hdg : decode cc pc = .ok (.if_icmp .ne off, 3)) (ht : (pc : Int) + off = (tgt : Int)) (rx : R32 x) (ry : R32 y) (kt : ¬ x = y → mv_G X Q K nL tgt lv st M cells slots) (kf : x = y → mv_G X Q K nL (pc + 3) lv st M cells slots) : mv_G X Q K nL pc lv (.int (iI y) :: .int (iI x) :: st) M cells slots := by
  obtain ⟨p, l, e, R, s, m, args, below, meth, c⟩ := X
  obtain ⟨hx, hb, -⟩ := B
  intro H locs ls hH hS hl
  exact lv_icmp_ne hx hb hdg ht (fun h => kt ((not_congr (iI_eq rx ry)).mp h) H locs ls hH hS hl) (fun h => kf ((iI_eq rx ry).mp h) H locs ls hH hS hl)
theorem mv_if_ne (B : mv_B X K cc Ts own nL ret rm nm) {x : Int} {off : Int} {tgt : Nat} (hdg : decode cc pc = .ok (.ifCond .ne off, 3)) (ht : (pc : Int) + off = (tgt : Int)) (rx : R32 x) (kt : ¬ x = 0 → mv_G X Q K nL tgt lv st M cells slots) (kf : x = 0 → mv_G X Q K nL (pc + 3) lv st M cells slots) : mv_G X Q K nL pc lv (.int (iI x) :: st) M cells slots := by
  obtain ⟨p, l, e, R, s, m, args, below, meth, c⟩ := X
  obtain ⟨hx, hb, -⟩ := B
  intro H locs ls hH hS hl
  exact lv_if_ne hx hb hdg ht (fun h => kt ((not_congr (iI_eq rx (⟨by decide, by decide⟩ : R32 0))).mp h) H locs ls hH hS hl) (fun h => kf ((iI_eq rx (⟨by decide, by decide⟩ : R32 0)).mp h) H locs ls hH hS hl)
theorem mv_icmp_lt (B : mv_B X K cc Ts own nL ret rm nm) {x y : Int} {off : Int} {tgt : Nat} (hdg : decode cc pc = .ok (.if_icmp .lt off, 3)) (ht : (pc : Int) + off = (tgt : Int)) (rx : R32 x) (ry : R32 y) (kt : x < y → mv_G X Q K nL tgt lv st M cells slots) (kf : ¬ (x < y) → mv_G X Q K nL (pc + 3) lv st M cells slots) : mv_G X Q K nL pc lv (.int (iI y) :: .int (iI x) :: st) M cells slots := by
  obtain ⟨p, l, e, R, s, m, args, below, meth, c⟩ := X
  obtain ⟨hx, hb, -⟩ := B
  intro H locs ls hH hS hl
  exact lv_icmp_lt hx hb hdg ht (fun h => kt ((iI_lt rx ry).mp h) H locs ls hH hS hl) (fun h => kf (fun q => h ((iI_lt rx ry).mpr q)) H locs ls hH hS hl)
theorem mv_if_lt (B : mv_B X K cc Ts own nL ret rm nm) {x : Int} {off : Int} {tgt : Nat} (hdg : decode cc pc = .ok (.ifCond .lt off, 3)) (ht : (pc : Int) + off = (tgt : Int)) (rx : R32 x) (kt : x < 0 → mv_G X Q K nL tgt lv st M cells slots) (kf : ¬ (x < 0) → mv_G X Q K nL (pc + 3) lv st M cells slots) : mv_G X Q K nL pc lv (.int (iI x) :: st) M cells slots := by
  obtain ⟨p, l, e, R, s, m, args, below, meth, c⟩ := X
  obtain ⟨hx, hb, -⟩ := B
  intro H locs ls hH hS hl
  exact lv_if_lt hx hb hdg ht (fun h => kt ((iI_lt rx (⟨by decide, by decide⟩ : R32 0)).mp h) H locs ls hH hS hl) (fun h => kf (fun q => h ((iI_lt rx (⟨by decide, by decide⟩ : R32 0)).mpr q)) H locs ls hH hS hl)
theorem mv_icmp_ge (B : mv_B X K cc Ts own nL ret rm nm) {x y : Int} {off : Int} {tgt : Nat} (hdg : decode cc pc = .ok (.if_icmp .ge off, 3)) (ht : (pc : Int) + off = (tgt : Int)) (rx : R32 x) (ry : R32 y) (kt : y ≤ x → mv_G X Q K nL tgt lv st M cells slots) (kf : ¬ (y ≤ x) → mv_G X Q K nL (pc + 3) lv st M cells slots) : mv_G X Q K nL pc lv (.int (iI y) :: .int (iI x) :: st) M cells slots := by
  obtain ⟨p, l, e, R, s, m, args, below, meth, c⟩ := X
  obtain ⟨hx, hb, -⟩ := B
  intro H locs ls hH hS hl
  exact lv_icmp_ge hx hb hdg ht (fun h => kt ((iI_le ry rx).mp h) H locs ls hH hS hl) (fun h => kf (fun q => h ((iI_le ry rx).mpr q)) H locs ls hH hS hl)
theorem mv_if_ge (B : mv_B X K cc Ts own nL ret rm nm) {x : Int} {off : Int} {tgt : Nat} (hdg : decode cc pc = .ok (.ifCond .ge off, 3)) (ht : (pc : Int) + off = (tgt : Int)) (rx : R32 x) (kt : 0 ≤ x → mv_G X Q K nL tgt lv st M cells slots) (kf : ¬ (0 ≤ x) → mv_G X Q K nL (pc + 3) lv st M cells slots) : mv_G X Q K nL pc lv (.int (iI x) :: st) M cells slots := by
  obtain ⟨p, l, e, R, s, m, args, below, meth, c⟩ := X
  obtain ⟨hx, hb, -⟩ := B
  intro H locs ls hH hS hl
  exact lv_if_ge hx hb hdg ht (fun h => kt ((iI_le (⟨by decide, by decide⟩ : R32 0) rx).mp h) H locs ls hH hS hl) (fun h => kf (fun q => h ((iI_le (⟨by decide, by decide⟩ : R32 0) rx).mpr q)) H locs ls hH hS hl)
theorem mv_icmp_gt (B : mv_B X K cc Ts own nL ret rm nm) {x y : Int} {off : Int} {tgt : Nat} (hdg : decode cc pc = .ok (.if_icmp .gt off, 3)) (ht : (pc : Int) + off = (tgt : Int)) (rx : R32 x) (ry : R32 y) (kt : y < x → mv_G X Q K nL tgt lv st M cells slots) (kf : ¬ (y < x) → mv_G X Q K nL (pc + 3) lv st M cells slots) : mv_G X Q K nL pc lv (.int (iI y) :: .int (iI x) :: st) M cells slots := by
  obtain ⟨p, l, e, R, s, m, args, below, meth, c⟩ := X
  obtain ⟨hx, hb, -⟩ := B
  intro H locs ls hH hS hl
  exact lv_icmp_gt hx hb hdg ht (fun h => kt ((iI_lt ry rx).mp h) H locs ls hH hS hl) (fun h => kf (fun q => h ((iI_lt ry rx).mpr q)) H locs ls hH hS hl)
theorem mv_if_gt (B : mv_B X K cc Ts own nL ret rm nm) {x : Int} {off : Int} {tgt : Nat} (hdg : decode cc pc = .ok (.ifCond .gt off, 3)) (ht : (pc : Int) + off = (tgt : Int)) (rx : R32 x) (kt : 0 < x → mv_G X Q K nL tgt lv st M cells slots) (kf : ¬ (0 < x) → mv_G X Q K nL (pc + 3) lv st M cells slots) : mv_G X Q K nL pc lv (.int (iI x) :: st) M cells slots := by
  obtain ⟨p, l, e, R, s, m, args, below, meth, c⟩ := X
  obtain ⟨hx, hb, -⟩ := B
  intro H locs ls hH hS hl
  exact lv_if_gt hx hb hdg ht (fun h => kt ((iI_lt (⟨by decide, by decide⟩ : R32 0) rx).mp h) H locs ls hH hS hl) (fun h => kf (fun q => h ((iI_lt (⟨by decide, by decide⟩ : R32 0) rx).mpr q)) H locs ls hH hS hl)
theorem mv_icmp_le (B : mv_B X K cc Ts own nL ret rm nm) {x y : Int} {off : Int} {tgt : Nat} (hdg : decode cc pc = .ok (.if_icmp .le off, 3)) (ht : (pc : Int) + off = (tgt : Int)) (rx : R32 x) (ry : R32 y) (kt : x ≤ y → mv_G X Q K nL tgt lv st M cells slots) (kf : ¬ (x ≤ y) → mv_G X Q K nL (pc + 3) lv st M cells slots) : mv_G X Q K nL pc lv (.int (iI y) :: .int (iI x) :: st) M cells slots := by
  obtain ⟨p, l, e, R, s, m, args, below, meth, c⟩ := X
  obtain ⟨hx, hb, -⟩ := B
  intro H locs ls hH hS hl
  exact lv_icmp_le hx hb hdg ht (fun h => kt ((iI_le rx ry).mp h) H locs ls hH hS hl) (fun h => kf (fun q => h ((iI_le rx ry).mpr q)) H locs ls hH hS hl)
theorem mv_if_le (B : mv_B X K cc Ts own nL ret rm nm) {x : Int} {off : Int} {tgt : Nat} (hdg : decode cc pc = .ok (.ifCond .le off, 3)) (ht : (pc : Int) + off = (tgt : Int)) (rx : R32 x) (kt : x ≤ 0 → mv_G X Q K nL tgt lv st M cells slots) (kf : ¬ (x ≤ 0) → mv_G X Q K nL (pc + 3) lv st M cells slots) : mv_G X Q K nL pc lv (.int (iI x) :: st) M cells slots := by
  obtain ⟨p, l, e, R, s, m, args, below, meth, c⟩ := X
  obtain ⟨hx, hb, -⟩ := B
  intro H locs ls hH hS hl
  exact lv_if_le hx hb hdg ht (fun h => kt ((iI_le rx (⟨by decide, by decide⟩ : R32 0)).mp h) H locs ls hH hS hl) (fun h => kf (fun q => h ((iI_le rx (⟨by decide, by decide⟩ : R32 0)).mpr q)) H locs ls hH hS hl)
theorem mv_ifnull (B : mv_B X K cc Ts own nL ret rm nm) {r : Option Nat} {off : Int} {tgt : Nat} (hdg : decode cc pc = .ok (.ifnull off, 3)) (ht : (pc : Int) + off = (tgt : Int)) (kt : r = none → mv_G X Q K nL tgt lv st M cells slots) (kf : ∀ a, r = some a → mv_G X Q K nL (pc + 3) lv st M cells slots) : mv_G X Q K nL pc lv (va_rf r :: st) M cells slots := by
  obtain ⟨p, l, e, R, s, m, args, below, meth, c⟩ := X
  obtain ⟨hx, hb, -⟩ := B
  intro H locs ls hH hS hl
  cases r with
  | none => exact lv_ifnullN hx hb hdg ht (kt rfl H locs ls hH hS hl)
  | some a => exact lv_ifnull hx hb hdg (kf a rfl H locs ls hH hS hl)
theorem mv_ifnonnull (B : mv_B X K cc Ts own nL ret rm nm) {r : Option Nat} {off : Int} {tgt : Nat} (hdg : decode cc pc = .ok (.ifnonnull off, 3)) (ht : (pc : Int) + off = (tgt : Int)) (kt : ∀ a, r = some a → mv_G X Q K nL tgt lv st M cells slots) (kf : r = none → mv_G X Q K nL (pc + 3) lv st M cells slots) : mv_G X Q K nL pc lv (va_rf r :: st) M cells slots := by
  obtain ⟨p, l, e, R, s, m, args, below, meth, c⟩ := X
  obtain ⟨hx, hb, -⟩ := B
  intro H locs ls hH hS hl
  cases r with
  | none => exact lv_ifnonnullN hx hb hdg (kf rfl H locs ls hH hS hl)
  | some a => exact lv_ifnonnull hx hb hdg ht (kt a rfl H locs ls hH hS hl)
theorem mv_acmp_eq (B : mv_B X K cc Ts own nL ret rm nm) {rx ry : Option Nat} {off : Int} {tgt : Nat} (hdg : decode cc pc = .ok (.if_acmp .eq off, 3)) (ht : (pc : Int) + off = (tgt : Int)) (kt : rx = ry → mv_G X Q K nL tgt lv st M cells slots) (kf : ¬ rx = ry → mv_G X Q K nL (pc + 3) lv st M cells slots) : mv_G X Q K nL pc lv (va_rf ry :: va_rf rx :: st) M cells slots := by
  obtain ⟨p, l, e, R, s, m, args, below, meth, c⟩ := X
  obtain ⟨hx, hb, -⟩ := B
  intro H locs ls hH hS hl
  exact lv_acmp_eq hx hb hdg ht (fun h => kt h H locs ls hH hS hl) (fun h => kf h H locs ls hH hS hl)
theorem mv_acmp_ne (B : mv_B X K cc Ts own nL ret rm nm) {rx ry : Option Nat} {off : Int} {tgt : Nat} (hdg : decode cc pc = .ok (.if_acmp .ne off, 3)) (ht : (pc : Int) + off = (tgt : Int)) (kt : ¬ rx = ry → mv_G X Q K nL tgt lv st M cells slots) (kf : rx = ry → mv_G X Q K nL (pc + 3) lv st M cells slots) : mv_G X Q K nL pc lv (va_rf ry :: va_rf rx :: st) M cells slots := by
  obtain ⟨p, l, e, R, s, m, args, below, meth, c⟩ := X
  obtain ⟨hx, hb, -⟩ := B
  intro H locs ls hH hS hl
  exact lv_acmp_ne hx hb hdg ht (fun h => kt h H locs ls hH hS hl) (fun h => kf h H locs ls hH hS hl)
/-- fields: 'hin' the class's slots among the words, 'hlink' the link word -/
theorem mv_get (B : mv_B X K cc Ts own nL ret rm nm) {C : String} {T : u_T} {N ci index a : Nat} (hin : ∀ w ∈ u_ws C T N, w ∈ Ts) (hc : K.2.1[ci]? = some (C, T, N)) {fs : List Value} (he : M a = some (.inr (ci, fs))) (k : Nat) (hk : k < N) (hlink : Cond.fieldLink own index (T k).1 (T k).2.1 (T k).2.2.1 ∈ Ts) {v : Value} (hv : fs[k]? = some v) (hdg : decode cc pc = .ok (.getfield index, 3)) (kk : mv_G X Q K nL (pc + 3) lv (v :: st) M cells slots) : mv_G X Q K nL pc lv (.ref a :: st) M cells slots := by
  obtain ⟨p, l, e, R, s, m, args, below, meth, c⟩ := X
  obtain ⟨hx, hb, -, hown, hts, hT, -⟩ := B
  intro H locs ls hH hS hl
  exact va_get hx hb hts hin hown hT.1 (hH.P1 he) 0 rfl hc k hk (hts _ hlink) (fun _ h => h) hv hdg (kk H locs ls hH hS hl)
theorem mv_getN (B : mv_B X K cc Ts own nL ret rm nm) {C host : String} {T : u_T} {N ci index a : Nat} (hin : ∀ w ∈ u_ws C T N, w ∈ Ts) (hc : K.2.1[ci]? = some (C, T, N)) {fs : List Value} (he : M a = some (.inr (ci, fs))) (k : Nat) (hk : k < N) (hlink : Cond.fieldLinkNest own index (T k).1 (T k).2.1 (T k).2.2.1 host ∈ K.2.2.2.1) {v : Value} (hv : fs[k]? = some v) (hdg : decode cc pc = .ok (.getfield index, 3)) (kk : mv_G X Q K nL (pc + 3) lv (v :: st) M cells slots) : mv_G X Q K nL pc lv (.ref a :: st) M cells slots := by
  obtain ⟨p, l, e, R, s, m, args, below, meth, c⟩ := X
  obtain ⟨hx, hb, -, hown, hts, hT, -⟩ := B
  intro H locs ls hH hS hl
  exact va_getN hx hb hts hin hown hT.1 (hH.P1 he) 0 rfl hc k hk (va_Nw.use rfl (hT.2 _ hlink).2) (fun _ h => h) hv hdg (kk H locs ls hH hS hl)
theorem mv_putAt {p : Program} {l : Launch} {e : Env} {R : Room} {s : State} {m : MethodId} {args : Array Value} {below : List Frame} {meth : Method} {c : Code} {C : String} {T : u_T} {N ci a : Nat} {fs : List Value} {v : Value} {H H1 : Heap} {locs : List Loc} {k : Nat} (hts : ∀ w ∈ Ts, w.before args s = true) (hin : ∀ w ∈ u_ws C T N, w ∈ Ts) (ty0 : Nat → FieldType) (hty : ∀ k, k < N → parseFieldDescriptor (T k).2.2.1 = some (ty0 k)) (hnm : ∀ a, a < N → ∀ b, b < N → a ≠ b → (T a).2.1 ≠ (T b).2.1) (hT : mv_T K s) (hc : K.2.1[ci]? = some (C, T, N)) (he : M a = some (.inr (ci, fs))) (hk : k < N) (hl : k < fs.length) (hH : mv_H K M H) {cell : Cell} (q2 : cell.cls = K.1.1 ci) (q3 : cell.vm = .none) (q4 : ∀ j, j < N → cell.slots[K.1.2 ci j]? = some (vp_V fs j)) (e1 : H1[a]? = some (cell.setSlot (K.1.2 ci k) v)) (e2 : H1.size = H.size) (e3 : ∀ q, q ≠ a → H1[q]? = H[q]?) : mv_H K (mv_up M a (.inr (ci, fs.set k v))) H1 := by
  have hap := va_apart (own := "") hts hin ty0 hty hnm hT.1 hc
  exact hH.set he ⟨_, hc, t_OB.to (V := updV (vp_V fs) k v) ⟨_, e1, q2, q3, t_set q4 hap hk v⟩ (fun j _ => vp_updV_set hl v j)⟩ e2 e3
theorem mv_put (B : mv_B X K cc Ts own nL ret rm nm) {C : String} {T : u_T} {N ci index a : Nat} (hin : ∀ w ∈ u_ws C T N, w ∈ Ts) (ty0 : Nat → FieldType) (hty : ∀ k, k < N → parseFieldDescriptor (T k).2.2.1 = some (ty0 k)) (hnm : ∀ a, a < N → ∀ b, b < N → a ≠ b → (T a).2.1 ≠ (T b).2.1) (hc : K.2.1[ci]? = some (C, T, N)) {fs : List Value} (he : M a = some (.inr (ci, fs))) (k : Nat) (hk : k < N) (hlink : Cond.fieldLink own index (T k).1 (T k).2.1 (T k).2.2.1 ∈ Ts) (hfin : (T k).2.2.2 = false) {v : Value} (hn : narrow (ty0 k) v = v) (hfit : fits (ty0 k) v = true) (hlen : k < fs.length) (hdg : decode cc pc = .ok (.putfield index, 3)) (kk : mv_G X Q K nL (pc + 3) lv st (mv_up M a (.inr (ci, fs.set k v))) cells slots) : mv_G X Q K nL pc lv (v :: .ref a :: st) M cells slots := by
  obtain ⟨p, l, e, R, s, m, args, below, meth, c⟩ := X
  obtain ⟨hx, hb, -, hown, hts, hT, -⟩ := B
  intro H locs ls hH hS hl
  obtain ⟨r, h1, cell, q1, q2, q3, q4⟩ := (hH.2 a _ he).2
  have hr : r = (C, T, N) := Option.some.inj (h1.symm.trans hc)
  subst hr
  obtain ⟨hSl, hfc, kC, hkC, hkind⟩ := hT.1.1 ci _ hc
  obtain ⟨cf, kf, fi, f, hi, hsl⟩ := hSl k hk
  have hlay := hts _ (hin _ (u_in_lay hk))
  unfold u_lay at hlay
  rw [if_neg (by rw [hfin]; decide)] at hlay
  have hst := (u_facts hfc hkC (u_lays hts hin hk) hi).1
  have h6 := u_store hfc hkC hkind hlay hi (hty k hk) hn hfit
  refine W.putK hx hb (f := f) ⟨hown, hts _ hlink, ⟨_, _, _, hi⟩, hst⟩ (by rw [q2]; exact h6) q1 q3 (by rw [hsl]; exact k2_hasslot (q4 k hk)) rfl rfl hdg fun H' e1 e2 e3 => ?_
  rw [hsl] at e1
  exact kk H' _ ls (mv_putAt (p := p) (l := l) (e := e) (R := R) (m := m) (below := below) (meth := meth) (c := c) (locs := locs) hts hin ty0 hty hnm hT hc he hk hlen hH q2 q3 q4 e1 e2 e3) (hS.put e2 e3 (hH.2 a _ he).1) hl
theorem mv_putN (B : mv_B X K cc Ts own nL ret rm nm) {C host : String} {T : u_T} {N ci index a : Nat} (hin : ∀ w ∈ u_ws C T N, w ∈ Ts) (ty0 : Nat → FieldType) (hty : ∀ k, k < N → parseFieldDescriptor (T k).2.2.1 = some (ty0 k)) (hnm : ∀ a, a < N → ∀ b, b < N → a ≠ b → (T a).2.1 ≠ (T b).2.1) (hc : K.2.1[ci]? = some (C, T, N)) {fs : List Value} (he : M a = some (.inr (ci, fs))) (k : Nat) (hk : k < N) (hlink : Cond.fieldLinkNest own index (T k).1 (T k).2.1 (T k).2.2.1 host ∈ K.2.2.2.1) (hfin : (T k).2.2.2 = false) {v : Value} (hn : narrow (ty0 k) v = v) (hfit : fits (ty0 k) v = true) (hlen : k < fs.length) (hdg : decode cc pc = .ok (.putfield index, 3)) (kk : mv_G X Q K nL (pc + 3) lv st (mv_up M a (.inr (ci, fs.set k v))) cells slots) : mv_G X Q K nL pc lv (v :: .ref a :: st) M cells slots := by
  obtain ⟨p, l, e, R, s, m, args, below, meth, c⟩ := X
  obtain ⟨hx, hb, -, hown, hts, hT, -⟩ := B
  intro H locs ls hH hS hl
  obtain ⟨r, h1, cell, q1, q2, q3, q4⟩ := (hH.2 a _ he).2
  have hr : r = (C, T, N) := Option.some.inj (h1.symm.trans hc)
  subst hr
  obtain ⟨hSl, hfc, kC, hkC, hkind⟩ := hT.1.1 ci _ hc
  obtain ⟨cf, kf, fi, f, hi, hsl⟩ := hSl k hk
  have hlay := hts _ (hin _ (u_in_lay hk))
  unfold u_lay at hlay
  rw [if_neg (by rw [hfin]; decide)] at hlay
  have hst := (u_facts hfc hkC (u_lays hts hin hk) hi).1
  have h6 := u_store hfc hkC hkind hlay hi (hty k hk) hn hfit
  refine va_WputK hx hb (f := f) hown (va_Nw.use rfl (hT.2 _ hlink).2) hi hst (by rw [q2]; exact h6) q1 q3 (by rw [hsl]; exact k2_hasslot (q4 k hk)) rfl rfl hdg fun H' e1 e2 e3 => ?_
  rw [hsl] at e1
  exact kk H' _ ls (mv_putAt (p := p) (l := l) (e := e) (R := R) (m := m) (below := below) (meth := meth) (c := c) (locs := locs) hts hin ty0 hty hnm hT hc he hk hlen hH q2 q3 q4 e1 e2 e3) (hS.put e2 e3 (hH.2 a _ he).1) hl
theorem mv_putF (B : mv_B X K cc Ts own nL ret rm "<init>") {C : String} {T : u_T} {N ci index a : Nat} (hin : ∀ w ∈ u_ws C T N, w ∈ Ts) (ty0 : Nat → FieldType) (hty : ∀ k, k < N → parseFieldDescriptor (T k).2.2.1 = some (ty0 k)) (hnm : ∀ a, a < N → ∀ b, b < N → a ≠ b → (T a).2.1 ≠ (T b).2.1) (hc : K.2.1[ci]? = some (C, T, N)) {fs : List Value} (he : M a = some (.inr (ci, fs))) (k : Nat) (hk : k < N) (hlink : Cond.fieldLink own index (T k).1 (T k).2.1 (T k).2.2.1 ∈ Ts) (hfin : (T k).2.2.2 = true) (hdecl : (T k).1 = own) {v : Value} (hn : narrow (ty0 k) v = v) (hfit : fits (ty0 k) v = true) (hlen : k < fs.length) (hdg : decode cc pc = .ok (.putfield index, 3)) (kk : mv_G X Q K nL (pc + 3) lv st (mv_up M a (.inr (ci, fs.set k v))) cells slots) : mv_G X Q K nL pc lv (v :: .ref a :: st) M cells slots := by
  obtain ⟨p, l, e, R, s, m, args, below, meth, c⟩ := X
  obtain ⟨hx, hb, -, hown, hts, hT, -, -, -, -, hin2⟩ := B
  intro H locs ls hH hS hl
  obtain ⟨r, h1, cell, q1, q2, q3, q4⟩ := (hH.2 a _ he).2
  have hr : r = (C, T, N) := Option.some.inj (h1.symm.trans hc)
  subst hr
  obtain ⟨hSl, hfc, kC, hkC, hkind⟩ := hT.1.1 ci _ hc
  obtain ⟨cf, kf, fi, f, hi, hsl⟩ := hSl k hk
  have hlay := hts _ (hin _ (u_in_lay hk))
  unfold u_lay at hlay
  rw [if_pos hfin] at hlay
  have hst := (u_facts hfc hkC (u_lays hts hin hk) hi).1
  have hcf : m.cls = cf := by
    obtain ⟨_, _, c', _, _, _, -, -, hf', -, -, -, hown2, -⟩ := Cond.laysFinal_spec hlay
    have e1 : c' = cf := by have := hi.symm.trans hf'; simp at this; exact this.1.symm
    rw [hdecl] at hown2
    rw [← e1]; exact Option.some.inj (hown.symm.trans hown2)
  have h6 := u_fits hfc hkC hkind (Or.inr hlay) hi (hty k hk) hn hfit
  refine W.putFinK hx hb hown (hts _ hlink) hi hst hcf hin2 (by rw [q2]; exact h6) q1 q3 (by rw [hsl]; exact k2_hasslot (q4 k hk)) rfl rfl hdg fun H' e1 e2 e3 => ?_
  rw [hsl] at e1
  exact kk H' _ ls (mv_putAt (p := p) (l := l) (e := e) (R := R) (m := m) (below := below) (meth := meth) (c := c) (locs := locs) hts hin ty0 hty hnm hT hc he hk hlen hH q2 q3 q4 e1 e2 e3) (hS.put e2 e3 (hH.2 a _ he).1) hl
/-- arrays of ints and of references: t0 their class's place in tys -/
theorem mv_iald (B : mv_B X K cc Ts own nL ret rm nm) {a n : Nat} {f : Nat → Int32} {cA : ClassId} (t0 : Nat) (ht : K.2.2.1[t0]? = some (cA, .int)) (ha : M a = some (.inl (cA, n, .inl f))) {z : Int} (rz : R32 z) (h0 : 0 ≤ z) (h1 : z < n) (hdg : decode cc pc = .ok (.iaload, 1)) (kk : mv_G X Q K nL (pc + 1) lv (.int (f z.toNat) :: st) M cells slots) : mv_G X Q K nL pc lv (.int (iI z) :: .ref a :: st) M cells slots := by
  obtain ⟨p, l, e, R, s, m, args, below, meth, c⟩ := X
  obtain ⟨hx, hb, -, hown, hts, hT, -⟩ := B
  intro H locs ls hH hS hl
  refine va_iald hx hb hT.1 (hH.P1 ha) 0 t0 rfl ht (iI_in rz h0 h1) hdg ?_
  rw [iI_c rz]
  exact kk H locs ls hH hS hl
theorem mv_aald (B : mv_B X K cc Ts own nL ret rm nm) {a n : Nat} {f : Nat → Option Nat} {cA : ClassId} {C : String} (t0 : Nat) (ht : K.2.2.1[t0]? = some (cA, .object C)) (ha : M a = some (.inl (cA, n, .inr (.inr (.inr (.inr f)))))) {z : Int} (rz : R32 z) (h0 : 0 ≤ z) (h1 : z < n) (hdg : decode cc pc = .ok (.aaload, 1)) (kk : mv_G X Q K nL (pc + 1) lv (va_rf (f z.toNat) :: st) M cells slots) : mv_G X Q K nL pc lv (.int (iI z) :: .ref a :: st) M cells slots := by
  obtain ⟨p, l, e, R, s, m, args, below, meth, c⟩ := X
  obtain ⟨hx, hb, -, hown, hts, hT, -⟩ := B
  intro H locs ls hH hS hl
  refine va_aldq hx hb hT.1 (hH.P1 ha) 0 t0 rfl ht (iI_in rz h0 h1) hdg ?_
  rw [iI_c rz]
  exact kk H locs ls hH hS hl
theorem mv_alen (B : mv_B X K cc Ts own nL ret rm nm) {a : Nat} {x : vp_A} {cA : ClassId} {ty : FieldType} (t0 : Nat) (ht : K.2.2.1[t0]? = some (cA, ty)) (ha : M a = some (.inl (cA, x))) (hdg : decode cc pc = .ok (.arraylength, 1)) (kk : mv_G X Q K nL (pc + 1) lv (.int (iI (x.1 : Nat)) :: st) M cells slots) : mv_G X Q K nL pc lv (.ref a :: st) M cells slots := by
  obtain ⟨p, l, e, R, s, m, args, below, meth, c⟩ := X
  obtain ⟨hx, hb, -, hown, hts, hT, -⟩ := B
  intro H locs ls hH hS hl
  exact va_alen hx hb hT.1 (hH.P1 ha) 0 t0 rfl ht (v := iI (x.1 : Nat)) Int32.ofInt_eq_ofNat.symm hdg (kk H locs ls hH hS hl)
theorem mv_iast (B : mv_B X K cc Ts own nL ret rm nm) {a n : Nat} {f : Nat → Int32} {cA : ClassId} (t0 : Nat) (ht : K.2.2.1[t0]? = some (cA, .int)) (ha : M a = some (.inl (cA, n, .inl f))) {z : Int} {x : Int32} (rz : R32 z) (h0 : 0 ≤ z) (h1 : z < n) (hdg : decode cc pc = .ok (.iastore, 1)) (kk : mv_G X Q K nL (pc + 1) lv st (mv_up M a (.inl (cA, n, .inl (upd f z.toNat x)))) cells slots) : mv_G X Q K nL pc lv (.int x :: .int (iI z) :: .ref a :: st) M cells slots := by
  obtain ⟨p, l, e, R, s, m, args, below, meth, c⟩ := X
  obtain ⟨hx, hb, -, hown, hts, hT, -⟩ := B
  intro H locs ls hH hS hl
  have hin := iI_in rz h0 h1
  refine W.iast hx hb (hH.2 a _ ha).2 ((hT.1.2 t0 _ ht).1 n (fun j => .int (f j))) (fun q => by cases q) (by show ¬ (iI z < 0 ∨ (arrV _ _ _).slots.size ≤ _); rw [arrV_size]; exact hin) rfl rfl hdg fun H1 e z1 oq => ?_
  refine kk H1 _ ls (hH.set ha ?_ z1 oq) (hS.put z1 oq (hH.2 a _ ha).1) hl
  show H1[a]? = some (vp_cell _ _)
  rw [e, iI_c rz, vp_cell_i, vp_cell_i, arrV_store]
  congr 2
  funext q
  by_cases hq : q = z.toNat
  · subst hq
    simp [updV, upd]
  · simp [updV, upd, hq]
theorem mv_aast (B : mv_B X K cc Ts own nL ret rm nm) {a n v ci : Nat} {f : Nat → Option Nat} {cA : ClassId} {r : vw_C} {vs : List Value} (t0 : Nat) (ht : K.2.2.1[t0]? = some (cA, .object r.1)) (ha : M a = some (.inl (cA, n, .inr (.inr (.inr (.inr f)))))) (hv : M v = some (.inr (ci, vs))) (hc : K.2.1[ci]? = some r) {z : Int} (rz : R32 z) (h0 : 0 ≤ z) (h1 : z < n) (hdg : decode cc pc = .ok (.aastore, 1)) (kk : mv_G X Q K nL (pc + 1) lv st (mv_up M a (.inl (cA, n, .inr (.inr (.inr (.inr (va_up f z.toNat (some v)))))))) cells slots) : mv_G X Q K nL pc lv (.ref v :: .int (iI z) :: .ref a :: st) M cells slots := by
  obtain ⟨p, l, e, R, s, m, args, below, meth, c⟩ := X
  obtain ⟨hx, hb, -, hown, hts, hT, -⟩ := B
  intro H locs ls hH hS hl
  have hin := iI_in rz h0 h1
  have hlt : (iI z).toNatClampNeg < n := Nat.not_le.mp fun q => hin (Or.inr q)
  have hz0 : ¬ iI z < 0 := fun q => hin (Or.inl q)
  obtain ⟨r', hr', cellV, g1, g2, g3, -⟩ := (hH.2 v _ hv).2
  have hcls := (hT.1.1 ci r hc).2
  obtain ⟨kA, comp, k1, k2, k3, -⟩ := (hT.1.2 t0 _ ht).2
  have hcomp : comp = K.1.1 ci := Option.some.inj (k3.symm.trans hcls.1)
  subst hcomp
  obtain ⟨kC, hkC, -⟩ := hcls.2
  refine W.aast hx hb (hH.2 a _ ha).2 (fun q h => by cases h) (fun h => by cases h) k1 k2 rfl hkC ⟨hz0, by show _ < (arrV _ _ _).slots.size; rw [arrV_size]; exact hlt⟩ g1 (fun q h => by rw [g3] at h; cases h) (by rw [g2]; exact hkC) (by rw [g2]; exact va_assign hcls) rfl rfl hdg fun H1 e z1 oq => ?_
  refine kk H1 _ ls (hH.set ha ?_ z1 oq) (hS.put z1 oq (hH.2 a _ ha).1) hl
  show H1[a]? = some (vp_cell _ _)
  rw [e, iI_c rz, vp_cell_q, vp_cell_q, arrV_store]
  congr 2
  funext q
  by_cases hq : q = z.toNat
  · subst hq
    simp [updV, va_up, va_rf]
  · simp [updV, va_up, hq]
theorem mv_newi (B : mv_B X K cc Ts own nL ret rm nm) {cA : ClassId} (t0 : Nat) (ht : K.2.2.1[t0]? = some (cA, .int)) (harr : Cond.arrayClass .int ∈ Ts) {z : Int} {n : Nat} (rz : R32 z) (hz : z = n) (hn : n ≤ 100000000) (hcells : cells + 1 ≤ rm.cells) (hslots : slots + n ≤ rm.slots) (hdg : decode cc pc = .ok (.newarray .int, 2))
    (kk : ∀ q : Nat, (∀ a e, M a = some e → a < q) → mv_G X Q K nL (pc + 2) lv (.ref q :: st) (mv_up M q (.inl (cA, n, .inl (fun _ => 0)))) (cells + 1) (slots + n)) : mv_G X Q K nL pc lv (.int (iI z) :: st) M cells slots := by
  obtain ⟨p, l, e, R, s, m, args, below, meth, c⟩ := X
  obtain ⟨hx, hb, -, hown, hts, hT, -, -, hR, -⟩ := B
  intro H locs ls hH hS hl
  subst hR
  subst hz
  have hz0 : ¬ iI (n : Int) < 0 := fun q => by
    rw [Int32.lt_iff_toInt_lt, iI_t rz] at q
    have : (0 : Int32).toInt = 0 := rfl
    omega
  have hcl : (iI (n : Int)).toNatClampNeg = n := by rw [iI_c rz]; rfl
  refine va_newaK (atype := .int) hx hb (hts _ harr) rfl hdg rfl hz0 hcl (by show n * 4 ≤ _; omega) hcells hslots rfl fun H1 cA' e1 z1 o1 hAr hNm => ?_
  have hcA : cA' = cA := Option.some.inj (hNm.symm.trans (hT.1.2 t0 _ ht).2)
  subst hcA
  exact kk H.size (fun a e h => hH.lt h) H1 locs ls (hH.born (by show H1[H.size]? = some (vp_cell _ _); rw [vp_cell_i]; exact e1) z1 o1) ⟨Nat.le_trans hS.1 (by omega), fun x h1 h2 => (o1 x (Nat.lt_of_lt_of_le h1 hS.1)).trans (hS.2.1 x h1 h2), hS.2.2⟩ hl
theorem mv_newq (B : mv_B X K cc Ts own nL ret rm nm) {cA : ClassId} {C : String} {index : Nat} (t0 : Nat) (ht : K.2.2.1[t0]? = some (cA, .object C)) (hclink : Cond.classLink own index C ∈ Ts) (hover : Cond.arrayOver (.object C) ∈ K.2.2.2.1) {z : Int} {n : Nat} (rz : R32 z) (hz : z = n) (hn : n ≤ 100000000) (hcells : cells + 1 ≤ rm.cells) (hslots : slots + n ≤ rm.slots) (hdg : decode cc pc = .ok (.anewarray index, 3))
    (kk : ∀ q : Nat, (∀ a e, M a = some e → a < q) → mv_G X Q K nL (pc + 3) lv (.ref q :: st) (mv_up M q (.inl (cA, n, .inr (.inr (.inr (.inr (fun _ => none))))))) (cells + 1) (slots + n)) : mv_G X Q K nL pc lv (.int (iI z) :: st) M cells slots := by
  obtain ⟨p, l, e, R, s, m, args, below, meth, c⟩ := X
  obtain ⟨hx, hb, -, hown, hts, hT, -, -, hR, -⟩ := B
  intro H locs ls hH hS hl
  subst hR
  subst hz
  have hz0 : ¬ iI (n : Int) < 0 := fun q => by
    rw [Int32.lt_iff_toInt_lt, iI_t rz] at q
    have : (0 : Int32).toInt = 0 := rfl
    omega
  have hcl : (iI (n : Int)).toNatClampNeg = n := by rw [iI_c rz]; rfl
  refine W.anew hx hb hown (hts _ hclink) (va_AO.use (hT.2 _ hover).2) rfl hdg rfl hz0 (by rw [hcl]; omega) hcells (by rw [hcl]; exact hslots) fun cA' kA comp f1 f2 f3 f4 => ?_
  rw [hcl]
  obtain ⟨-, -, -, -, -, hNm⟩ := (hT.1.2 t0 _ ht).2
  have hcA : cA' = cA := Option.some.inj (f1.symm.trans hNm)
  subst hcA
  generalize hH1 : H.push ({ cls := cA', slots := Array.replicate n .null, vm := .none } : Cell) = H1
  have z1 : H1.size = H.size + 1 := by rw [← hH1, Array.size_push]
  have e1 : H1[H.size]? = some (arrV cA' n (fun _ => .null)) := by rw [← hH1, Array.getElem?_push_size, ← arrV_new]
  have o1 : ∀ q : Nat, q < H.size → H1[q]? = H[q]? := fun q hq => by rw [← hH1, Array.getElem?_push, if_neg (Nat.ne_of_lt hq)]
  exact kk H.size (fun a e h => hH.lt h) H1 locs ls (hH.born (by show H1[H.size]? = some (vp_cell _ _); rw [vp_cell_q]; exact e1) z1 o1) ⟨Nat.le_trans hS.1 (by omega), fun x h1 h2 => (o1 x (Nat.lt_of_lt_of_le h1 hS.1)).trans (hS.2.1 x h1 h2), hS.2.2⟩ hl
theorem mv_new (B : mv_B X K cc Ts own nL ret rm nm) {C : String} {T : u_T} {N ci index : Nat} (hin : ∀ w ∈ u_ws C T N, w ∈ Ts) (ty : Nat → FieldType) (hty : ∀ k, k < N → parseFieldDescriptor (T k).2.2.1 = some (ty k)) (hcl : Cond.classLink own index C ∈ Ts) (hinst : Cond.instantiable C N ∈ Ts) (hini : Cond.initialized C ∈ Ts) (hc : K.2.1[ci]? = some (C, T, N)) {fs : List Value} (hfs : ∀ j, j < N → defaultValue (ty j) = vp_V fs j) (hcells : cells + 1 ≤ rm.cells) (hslots : slots + N ≤ rm.slots) (hdg : decode cc pc = .ok (.new index, 3))
    (kk : ∀ q : Nat, (∀ a e, M a = some e → a < q) → mv_G X Q K nL (pc + 3) lv (.ref q :: st) (mv_up M q (.inr (ci, fs))) (cells + 1) (slots + N)) : mv_G X Q K nL pc lv st M cells slots := by
  obtain ⟨p, l, e, R, s, m, args, below, meth, c⟩ := X
  obtain ⟨hx, hb, -, hown, hts, hT, -, -, hR, -⟩ := B
  intro H locs ls hH hS hl
  subst hR
  have hKn := hT.1.1 ci _ hc
  refine W.newcK hx hb hown (hts _ hcl) (hts _ hinst) (hts _ hini) rfl hdg hcells hslots hKn.2.1 rfl fun H1 kC hkC e1 z1 o1 => ?_
  exact kk H.size (fun a e h => hH.lt h) H1 locs ls (hH.born ⟨_, hc, (u_born ty hts hin hKn hkC e1 hty).to hfs⟩ z1 o1) ⟨Nat.le_trans hS.1 (by omega), fun x h1 h2 => (o1 x (Nat.lt_of_lt_of_le h1 hS.1)).trans (hS.2.1 x h1 h2), hS.2.2⟩ hl
theorem mv_objInit (B : mv_B X K cc Ts own nL ret rm nm) {idx a : Nat} (hlink : Cond.methodLink own idx objectInit ∈ Ts) (hinst : Cond.instanceMethod objectInit ∈ Ts) (hcode : Cond.code objectInit ⟨#[0xb1]⟩ 1 none ∈ Ts) (hdg : decode cc pc = .ok (.invokespecial idx, 3)) (hf : 1 ≤ rm.frames) (hlo : 12 + (st.map fun v => v.category).sum ≤ rm.locals) (kk : mv_G X Q K nL (pc + 3) lv st M cells slots) : mv_G X Q K nL pc lv (.ref a :: st) M cells slots := by
  obtain ⟨p, l, e, R, s, m, args, below, meth, c⟩ := X
  obtain ⟨hx, hb, hml, hown, hts, hT, -, -, hR, -⟩ := B
  intro H locs ls hH hS hl
  subst hR
  refine W.objInit hx hb hown (hts _ hlink) (hts _ hinst) (hts _ hcode) rfl (by rw [hml]; exact hl.1) rfl hdg hf ?_ (kk H locs ls hH hS hl)
  show 2 * 0 + _ + _ ≤ _
  omega
end MVG
theorem mv_callW {p : Program} {l : Launch} {e : Env} {R : Room} {s : State} {m : MethodId} {args : Array Value} {below : List Frame} {meth : Method} {c : Code} {H : Heap} {locs : List Loc} {cells slots : Nat} {Q : State → Prop} {pc : Nat} {ls : Array Slot} {rest st0 : List Value} {a : Array Value} {mc ms : Nat} {K : mv_K} {post : Option Value → mv_M → Prop} (hr : va_Run p l e R s m args below meth c H locs cells slots mc ms (F0 m pc ls st0) rest (mv_Q K post a) K.2.2.2.2) (hS : va_S K.2.2.2.2 s.heap H locs)
    (kk : ∀ (v : Option Value) (M1 : mv_M) (H1 : Heap) (locs1 : List Loc), post v M1 → mv_H K M1 H1 → va_S K.2.2.2.2 s.heap H1 locs1 → W p l e R s m args below meth c H1 locs1 (cells + mc) (slots + ms) Q (F0 m (pc + 3) ls (v.toList ++ rest))) : W p l e R s m args below meth c H locs cells slots Q (F0 m pc ls st0) := by
  intro T hT X
  obtain ⟨v, st₀, t, T', L, h0, X', hL, e1, e2, ⟨v', M1, hv, hp, hH1, hz, hk⟩, st⟩ := hr T hT X
  cases hv
  rw [h0] at hz hk
  obtain ⟨t2, a1, b1⟩ := kk v M1 T'.heap (locs ++ L) hp (by rw [e1]; exact hH1)
    ⟨Nat.le_trans hS.1 (by rw [e1]; exact hz), fun q h1 h2 => by rw [e1, hk q (Nat.lt_of_lt_of_le h1 hS.1) h2]; exact hS.2.1 q h1 h2, fun q hq => by
      rcases List.mem_append.mp hq with h | h
      · exact hS.2.2 q h
      · exact hL q h⟩ T' rfl X'
  exact ⟨t2, st t2 a1, b1⟩
section MVC
variable {X : mv_X} {Q : State → Prop} {K : mv_K} {nL pc : Nat} {lv : List (Nat × Value)} {st rest As : List Value} {M : mv_M} {cells slots : Nat}
variable {cc bytes : ByteArray} {Ts ws ws' : List Cond} {own nm C host : String} {ret ret' : Option FieldType} {rm rm' : Room} {y : MethodName} {post : Option Value → mv_M → Prop} {mc ms n maxL index b ci : Nat} {fs : List Value} {T : u_T} {N : Nat}
/-- calls: the callee's contract at the map M, its words among the caller's, its room within the caller's -/
theorem mv_cVN (B : mv_B X K cc Ts own nL ret rm nm) (hM : Met X.2.1 y ws rm' (mv_Pre K (.ref b :: As) M) (mv_Q K post) mc ms K.2.2.2.2) (hG : GoodIn Ts ws) (hw : ws = Cond.code y bytes maxL ret' :: ws') (hrc : rm'.cells = mc) (hrs : rm'.slots = ms) (hl : Cond.methodLinkNest own index y host ∈ K.2.2.2.1) (hini : Cond.initialized y.cls ∈ Ts) (hd : y.cls ≠ "java/lang/invoke/MethodHandle" ∧ y.cls ≠ "java/lang/invoke/VarHandle" ∧ (parseMethodDescriptor y.desc).map (fun d => d.parameters.length) = some n) (hR : rm'.frames + 1 ≤ rm.frames ∧ 8 + (maxL + 11) + rm'.locals ≤ rm.locals) (hi : Cond.instanceMethod y ∈ Ts) (hsel : Cond.selects C y y ∈ Ts) (hc : K.2.1[ci]? = some (C, T, N)) (hb : M b = some (.inr (ci, fs))) (hn : As.length = n) (hstk : st = As.reverse ++ .ref b :: rest) (hcat : (rest.map fun v => v.category).sum ≤ 8) (hdg : decode cc pc = .ok (.invokevirtual index, 3)) (hf : cells + mc ≤ rm.cells ∧ slots + ms ≤ rm.slots)
    (kk : ∀ (v : Option Value) (M1 : mv_M), post v M1 → mv_G X Q K nL (pc + 3) lv (v.toList ++ rest) M1 (cells + mc) (slots + ms)) : mv_G X Q K nL pc lv st M cells slots := by
  obtain ⟨p, l, e, R, s, m, args, below, meth, c⟩ := X
  obtain ⟨hx, hbb, hml, hown, hts, hT, -, -, hRR, -⟩ := B
  intro H locs ls hH hS hlv
  subst hRR
  refine mv_callW (va_runVN (As := As) (rest := rest) ⟨hx, hbb, hml, hown, hts⟩ hM ⟨va_cnB n hts hG hw hrc hrs (hT.2 _ hl).2 (hts _ hini) hd hR, hts _ hi, hts _ hsel⟩ ⟨mv_Pre.blind, va_recv hT.1 (hH.P1 hb) hc (q0 := 0) rfl, fun U hU hW => ⟨rfl, by rw [hU]; exact hH, hT.warm hW⟩⟩ rfl hn hlv.1 hstk (lv_room hcat) hdg hf) hS (fun v M1 H1 locs1 hp h1 h2 => kk v M1 hp H1 locs1 ls h1 h2 hlv)
theorem mv_cV (B : mv_B X K cc Ts own nL ret rm nm) (hM : Met X.2.1 y ws rm' (mv_Pre K (.ref b :: As) M) (mv_Q K post) mc ms K.2.2.2.2) (hG : GoodIn Ts (wsV own index C y ws)) (hw : ws = Cond.code y bytes maxL ret' :: ws') (hrc : rm'.cells = mc) (hrs : rm'.slots = ms) (hd : y.cls = C ∧ y.cls ≠ "java/lang/invoke/MethodHandle" ∧ y.cls ≠ "java/lang/invoke/VarHandle" ∧ (parseMethodDescriptor y.desc).map (fun d => d.parameters.length) = some n) (hR : rm'.frames + 1 ≤ rm.frames ∧ 8 + (maxL + 11) + rm'.locals ≤ rm.locals) (hc : K.2.1[ci]? = some (C, T, N)) (hb : M b = some (.inr (ci, fs))) (hn : As.length = n) (hstk : st = As.reverse ++ .ref b :: rest) (hcat : (rest.map fun v => v.category).sum ≤ 8) (hdg : decode cc pc = .ok (.invokevirtual index, 3)) (hf : cells + mc ≤ rm.cells ∧ slots + ms ≤ rm.slots)
    (kk : ∀ (v : Option Value) (M1 : mv_M), post v M1 → mv_G X Q K nL (pc + 3) lv (v.toList ++ rest) M1 (cells + mc) (slots + ms)) : mv_G X Q K nL pc lv st M cells slots := by
  obtain ⟨p, l, e, R, s, m, args, below, meth, c⟩ := X
  obtain ⟨hx, hbb, hml, hown, hts, hT, -, -, hRR, -⟩ := B
  intro H locs ls hH hS hlv
  subst hRR
  refine mv_callW (va_runV (As := As) (rest := rest) ⟨hx, hbb, hml, hown, hts⟩ hM (cwV n hts hG hw hrc hrs hd hR) ⟨mv_Pre.blind, va_recv hT.1 (hH.P1 hb) hc (q0 := 0) rfl, fun U hU hW => ⟨rfl, by rw [hU]; exact hH, hT.warm hW⟩⟩ rfl hn hlv.1 hstk (lv_room hcat) hdg hf) hS (fun v M1 H1 locs1 hp h1 h2 => kk v M1 hp H1 locs1 ls h1 h2 hlv)
theorem mv_cS (B : mv_B X K cc Ts own nL ret rm nm) (hM : Met X.2.1 y ws rm' (mv_Pre K As M) (mv_Q K post) mc ms K.2.2.2.2) (hG : GoodIn Ts (wsS own index y ws)) (hw : ws = Cond.code y bytes maxL ret' :: ws') (hrc : rm'.cells = mc) (hrs : rm'.slots = ms) (hd : y.cls = own ∧ y.cls ≠ "java/lang/invoke/MethodHandle" ∧ y.cls ≠ "java/lang/invoke/VarHandle" ∧ (parseMethodDescriptor y.desc).map (fun d => d.parameters.length) = some n) (hR : rm'.frames + 1 ≤ rm.frames ∧ 8 + (maxL + 11) + rm'.locals ≤ rm.locals) (hn : As.length = n) (hstk : st = As.reverse ++ rest) (hcat : (rest.map fun v => v.category).sum ≤ 8) (hdg : decode cc pc = .ok (.invokestatic index, 3)) (hf : cells + mc ≤ rm.cells ∧ slots + ms ≤ rm.slots)
    (kk : ∀ (v : Option Value) (M1 : mv_M), post v M1 → mv_G X Q K nL (pc + 3) lv (v.toList ++ rest) M1 (cells + mc) (slots + ms)) : mv_G X Q K nL pc lv st M cells slots := by
  obtain ⟨p, l, e, R, s, m, args, below, meth, c⟩ := X
  obtain ⟨hx, hbb, hml, hown, hts, hT, -, -, hRR, -⟩ := B
  intro H locs ls hH hS hlv
  subst hRR
  refine mv_callW (va_runS (As := As) (rest := rest) ⟨hx, hbb, hml, hown, hts⟩ hM (cwS n hts hG hw hrc hrs hd hR) ⟨mv_Pre.blind, fun U hU hW => ⟨rfl, by rw [hU]; exact hH, hT.warm hW⟩⟩ rfl hn hlv.1 hstk (lv_room hcat) hdg hf) hS (fun v M1 H1 locs1 hp h1 h2 => kk v M1 hp H1 locs1 ls h1 h2 hlv)
theorem mv_cSN (B : mv_B X K cc Ts own nL ret rm nm) (hM : Met X.2.1 y ws rm' (mv_Pre K As M) (mv_Q K post) mc ms K.2.2.2.2) (hG : GoodIn Ts ws) (hw : ws = Cond.code y bytes maxL ret' :: ws') (hrc : rm'.cells = mc) (hrs : rm'.slots = ms) (hl : Cond.methodLinkNest own index y host ∈ K.2.2.2.1) (hini : Cond.initialized y.cls ∈ Ts) (hd : y.cls ≠ "java/lang/invoke/MethodHandle" ∧ y.cls ≠ "java/lang/invoke/VarHandle" ∧ (parseMethodDescriptor y.desc).map (fun d => d.parameters.length) = some n) (hR : rm'.frames + 1 ≤ rm.frames ∧ 8 + (maxL + 11) + rm'.locals ≤ rm.locals) (hi : Cond.static y ∈ Ts) (hn : As.length = n) (hstk : st = As.reverse ++ rest) (hcat : (rest.map fun v => v.category).sum ≤ 8) (hdg : decode cc pc = .ok (.invokestatic index, 3)) (hf : cells + mc ≤ rm.cells ∧ slots + ms ≤ rm.slots)
    (kk : ∀ (v : Option Value) (M1 : mv_M), post v M1 → mv_G X Q K nL (pc + 3) lv (v.toList ++ rest) M1 (cells + mc) (slots + ms)) : mv_G X Q K nL pc lv st M cells slots := by
  obtain ⟨p, l, e, R, s, m, args, below, meth, c⟩ := X
  obtain ⟨hx, hbb, hml, hown, hts, hT, -, -, hRR, -⟩ := B
  intro H locs ls hH hS hlv
  subst hRR
  refine mv_callW (va_runSN (As := As) (rest := rest) ⟨hx, hbb, hml, hown, hts⟩ hM ⟨va_cnB n hts hG hw hrc hrs (hT.2 _ hl).2 (hts _ hini) hd hR, hts _ hi, trivial⟩ ⟨mv_Pre.blind, fun U hU hW => ⟨rfl, by rw [hU]; exact hH, hT.warm hW⟩⟩ rfl hn hlv.1 hstk (lv_room hcat) hdg hf) hS (fun v M1 H1 locs1 hp h1 h2 => kk v M1 hp H1 locs1 ls h1 h2 hlv)
theorem mv_cIN (B : mv_B X K cc Ts own nL ret rm nm) (hM : Met X.2.1 y ws rm' (mv_Pre K (.ref b :: As) M) (mv_Q K post) mc ms K.2.2.2.2) (hG : GoodIn Ts ws) (hw : ws = Cond.code y bytes maxL none :: ws') (hrc : rm'.cells = mc) (hrs : rm'.slots = ms) (hl : Cond.methodLinkNest own index y host ∈ K.2.2.2.1) (hini : Cond.initialized y.cls ∈ Ts) (hd : y.cls ≠ "java/lang/invoke/MethodHandle" ∧ y.cls ≠ "java/lang/invoke/VarHandle" ∧ (parseMethodDescriptor y.desc).map (fun d => d.parameters.length) = some n) (hR : rm'.frames + 1 ≤ rm.frames ∧ 8 + (maxL + 11) + rm'.locals ≤ rm.locals) (hnm : y.name = "<init>") (hi : Cond.instanceMethod y ∈ Ts) (hn : As.length = n) (hstk : st = As.reverse ++ .ref b :: rest) (hcat : (rest.map fun v => v.category).sum ≤ 8) (hdg : decode cc pc = .ok (.invokespecial index, 3)) (hf : cells + mc ≤ rm.cells ∧ slots + ms ≤ rm.slots)
    (kk : ∀ (v : Option Value) (M1 : mv_M), post v M1 → mv_G X Q K nL (pc + 3) lv (v.toList ++ rest) M1 (cells + mc) (slots + ms)) : mv_G X Q K nL pc lv st M cells slots := by
  obtain ⟨p, l, e, R, s, m, args, below, meth, c⟩ := X
  obtain ⟨hx, hbb, hml, hown, hts, hT, -, -, hRR, -⟩ := B
  intro H locs ls hH hS hlv
  subst hRR
  refine mv_callW (va_runIN (As := As) (rest := rest) ⟨hx, hbb, hml, hown, hts⟩ hM ⟨va_cnB n hts hG hw hrc hrs (hT.2 _ hl).2 (hts _ hini) hd hR, hnm, hts _ hi⟩ ⟨mv_Pre.blind, fun U hU hW => ⟨rfl, by rw [hU]; exact hH, hT.warm hW⟩⟩ rfl hn hlv.1 hstk (lv_room hcat) hdg hf) hS (fun v M1 H1 locs1 hp h1 h2 => kk v M1 hp H1 locs1 ls h1 h2 hlv)
theorem mv_cI (B : mv_B X K cc Ts own nL ret rm nm) (hM : Met X.2.1 y ws rm' (mv_Pre K (.ref b :: As) M) (mv_Q K post) mc ms K.2.2.2.2) (hG : GoodIn Ts ws) (hw : ws = Cond.code y bytes maxL none :: ws') (hrc : rm'.cells = mc) (hrs : rm'.slots = ms) (hini : Cond.initialized y.cls ∈ Ts) (hl : Cond.methodLink own index y ∈ Ts) (hi : Cond.instanceMethod y ∈ Ts) (hnm : y.name = "<init>") (hd : y.cls ≠ "java/lang/invoke/MethodHandle" ∧ y.cls ≠ "java/lang/invoke/VarHandle" ∧ (parseMethodDescriptor y.desc).map (fun d => d.parameters.length) = some n) (hR : rm'.frames + 1 ≤ rm.frames ∧ 8 + (maxL + 11) + rm'.locals ≤ rm.locals) (hn : As.length = n) (hstk : st = As.reverse ++ .ref b :: rest) (hcat : (rest.map fun v => v.category).sum ≤ 8) (hdg : decode cc pc = .ok (.invokespecial index, 3)) (hf : cells + mc ≤ rm.cells ∧ slots + ms ≤ rm.slots)
    (kk : ∀ (v : Option Value) (M1 : mv_M), post v M1 → mv_G X Q K nL (pc + 3) lv (v.toList ++ rest) M1 (cells + mc) (slots + ms)) : mv_G X Q K nL pc lv st M cells slots := by
  obtain ⟨p, l, e, R, s, m, args, below, meth, c⟩ := X
  obtain ⟨hx, hbb, hml, hown, hts, hT, -, -, hRR, -⟩ := B
  intro H locs ls hH hS hlv
  subst hRR
  refine mv_callW (va_runI (As := As) (rest := rest) ⟨hx, hbb, hml, hown, hts⟩ hM (cwI n hts hG hw hrc hrs (hts _ hini) (hts _ hl) (hts _ hi) hnm hd hR) ⟨mv_Pre.blind, fun U hU hW => ⟨rfl, by rw [hU]; exact hH, hT.warm hW⟩⟩ rfl hn hlv.1 hstk (lv_room hcat) hdg hf) hS (fun v M1 H1 locs1 hp h1 h2 => kk v M1 hp H1 locs1 ls h1 h2 hlv)
/-- a method's end -/
def mv_E (X : mv_X) (K : mv_K) (post : Option Value → mv_M → Prop) (mc ms : Nat) : State → Prop := match X with
  | (_, _, _, _, s, _, args, below, _, _) => MQ below (mv_Q K post) args s mc ms K.2.2.2.2
theorem mv_iret (B : mv_B X K cc Ts own nL (some .int) rm nm) {v : Int32} (hp : post (some (.int v)) M) (hc : cells ≤ mc) (hs : slots ≤ ms) (hdg : decode cc pc = .ok (.ireturn, 1)) : mv_G X (mv_E X K post mc ms) K nL pc lv [.int v] M cells slots := by
  obtain ⟨p, l, e, R, s, m, args, below, meth, c⟩ := X
  obtain ⟨hx, hbb, hml, hown, hts, hT, -, hr, hRR, hlk, -⟩ := B
  intro H locs ls hH hS hlv
  exact W.widen hc hs (W.iret hx hbb hr (fun t ht hW => ⟨_, M, rfl, hp, by rw [ht]; exact hH, hS.F ht⟩) hS.2.2 hdg hlk)
theorem mv_zret {ty : FieldType} (B : mv_B X K cc Ts own nL (some ty) rm nm) {v : Int32} (hn : narrow ty (.int v) = .int v) (hp : post (some (.int v)) M) (hc : cells ≤ mc) (hs : slots ≤ ms) (hdg : decode cc pc = .ok (.ireturn, 1)) : mv_G X (mv_E X K post mc ms) K nL pc lv [.int v] M cells slots := by
  obtain ⟨p, l, e, R, s, m, args, below, meth, c⟩ := X
  obtain ⟨hx, hbb, hml, hown, hts, hT, -, hr, hRR, hlk, -⟩ := B
  intro H locs ls hH hS hlv
  exact W.widen hc hs (W.zret hx hbb hr hn (fun t ht hW => ⟨_, M, rfl, hp, by rw [ht]; exact hH, hS.F ht⟩) hS.2.2 hdg hlk)
theorem mv_vret (B : mv_B X K cc Ts own nL none rm nm) (hp : post none M) (hc : cells ≤ mc) (hs : slots ≤ ms) (hdg : decode cc pc = .ok (.return_, 1)) : mv_G X (mv_E X K post mc ms) K nL pc lv [] M cells slots := by
  obtain ⟨p, l, e, R, s, m, args, below, meth, c⟩ := X
  obtain ⟨hx, hbb, hml, hown, hts, hT, -, hr, hRR, hlk, -⟩ := B
  intro H locs ls hH hS hlv
  exact W.widen hc hs (W.vret hx hbb hr (fun t ht hW => ⟨_, M, rfl, hp, by rw [ht]; exact hH, hS.F ht⟩) hS.2.2 hdg hlk)
theorem mv_aret {C' : String} (B : mv_B X K cc Ts own nL (some (.object C')) rm nm) {r : Option Nat} (hp : post (some (va_rf r)) M) (hc : cells ≤ mc) (hs : slots ≤ ms) (hdg : decode cc pc = .ok (.areturn, 1)) : mv_G X (mv_E X K post mc ms) K nL pc lv [va_rf r] M cells slots := by
  obtain ⟨p, l, e, R, s, m, args, below, meth, c⟩ := X
  obtain ⟨hx, hbb, hml, hown, hts, hT, -, hr, hRR, hlk, -⟩ := B
  intro H locs ls hH hS hlv
  refine W.widen hc hs (W.aret hx hbb hr (Or.inl ⟨_, rfl⟩) (by cases r with | none => exact Or.inl rfl | some a => exact Or.inr ⟨a, rfl⟩) (fun t ht hW => ⟨_, M, rfl, hp, by rw [ht]; exact hH, hS.F ht⟩) hS.2.2 hdg hlk)
theorem mv_widen {c2 s2 : Nat} (h1 : cells ≤ c2) (h2 : slots ≤ s2) (k : mv_G X Q K nL pc lv st M c2 s2) : mv_G X Q K nL pc lv st M cells slots := by
  obtain ⟨p, l, e, R, s, m, args, below, meth, c⟩ := X
  exact fun H locs ls hH hS hlv => W.widen h1 h2 (k H locs ls hH hS hlv)
theorem mv_lv {lv' : List (Nat × Value)} (ks : List Nat) (h : lv_pick lv ks = lv') (k : mv_G X Q K nL pc lv' st M cells slots) : mv_G X Q K nL pc lv st M cells slots := by
  obtain ⟨p, l, e, R, s, m, args, below, meth, c⟩ := X
  exact fun H locs ls hH hS hlv => k H locs ls hH hS (lv_sub hlv ks h)
/-- a contract out of a walk from the entry -/
theorem mv_Met {l : Launch} {av : List Value} (hy : plainName y.cls = true) (hw : ws = Cond.code y cc maxL ret :: ws') (hav : (lg_sl av).length ≤ maxL)
    (body : ∀ X : mv_X, X.2.1 = l → mv_B X K cc ws y.cls maxL ret rm y.name → mv_G X (mv_E X K post mc ms) K maxL 0 (lv_args 0 av) [] M 0 0) : Met l y ws rm (mv_Pre K av M) (mv_Q K post) mc ms K.2.2.2.2 := by
  refine Met.ofW (cc := cc) (maxL := maxL) (ret := ret) hy hw ?_
  intro p e s m args below meth c s₁ B hml hv
  obtain ⟨rfl, hH, hT⟩ := hv
  have hl := lv_entry av (n := maxL) hav
  rw [lg_entry_eq]
  exact body (p, l, e, (headSpec ws rm).room, s, m, av.toArray, below, meth, c) rfl ⟨B.exec, B.bytes, hml, findClass_of_methodNamed B.named, atoms_spec (ws := ws) B.pre, hT, hH.1, B.returns, rfl, B.notSynchronized, (name_of_methodNamed B.named B.method).1⟩ s.heap [] _ hH va_S.rf hl
end MVC
section MVT
variable {X : mv_X} {Q : State → Prop} {K : mv_K} {nL pc : Nat} {lv lv' : List (Nat × Value)} {st rest : List Value} {M : mv_M} {cells slots : Nat}
variable {cc : ByteArray} {Ts : List Cond} {own nm : String} {ret : Option FieldType} {rm : Room}
theorem mv_tab (B : mv_B X K cc Ts own nL ret rm nm) {dflt lo hi : Int} {offs : Array Int} {len : Nat} {z off : Int} {tgt : Nat} (hdg : decode cc pc = .ok (.tableswitch dflt lo hi offs, len)) (rz : R32 z) (j : Nat) (hz : z = lo + j) (hh : z ≤ hi) (ho : offs[j]? = some off) (ht : (pc : Int) + off = (tgt : Int)) (k : mv_G X Q K nL tgt lv st M cells slots) : mv_G X Q K nL pc lv (.int (iI z) :: st) M cells slots := by
  obtain ⟨p, l, e, R, s, m, args, below, meth, c⟩ := X
  obtain ⟨hx, hb, -⟩ := B
  intro H locs ls hH hS hl
  refine lv_tableIn hx hb hdg (by rw [iI_t rz]; omega) (by rw [iI_t rz]; omega) (off := off) ?_ ht (k H locs ls hH hS hl)
  rw [iI_t rz, show (z - lo).toNat = j by omega]
  exact ho
theorem mv_tabOut (B : mv_B X K cc Ts own nL ret rm nm) {dflt lo hi : Int} {offs : Array Int} {len : Nat} {z : Int} {tgt : Nat} (hdg : decode cc pc = .ok (.tableswitch dflt lo hi offs, len)) (rz : R32 z) (hz : z < lo ∨ hi < z) (ht : (pc : Int) + dflt = (tgt : Int)) (k : mv_G X Q K nL tgt lv st M cells slots) : mv_G X Q K nL pc lv (.int (iI z) :: st) M cells slots := by
  obtain ⟨p, l, e, R, s, m, args, below, meth, c⟩ := X
  obtain ⟨hx, hb, -⟩ := B
  intro H locs ls hH hS hl
  exact lv_tableOut hx hb hdg (by rw [iI_t rz]; exact hz) ht (k H locs ls hH hS hl)
theorem mv_max (B : mv_B X K cc Ts own nL ret rm nm) {index : Nat} {x y : Int} (rx : R32 x) (ry : R32 y) (hlink : Cond.methodLink own index Lib.Math.max.name ∈ Ts) (hstat : Cond.static Lib.Math.max.name ∈ Ts) (hini : Cond.initialized "java/lang/Math" ∈ Ts) (hcode : Cond.code Lib.Math.max.name Lib.Math.max.code 2 (some .int) ∈ Ts) (hf : 1 ≤ rm.frames) (hlo : (st.map fun v => v.category).sum + 13 ≤ rm.locals) (hc : cells ≤ rm.cells) (hs : slots ≤ rm.slots) (hdg : decode cc pc = .ok (.invokestatic index, 3)) (k : mv_G X Q K nL (pc + 3) lv (.int (iI (if x < y then y else x)) :: st) M cells slots) : mv_G X Q K nL pc lv (.int (iI y) :: .int (iI x) :: st) M cells slots := by
  obtain ⟨p, l, e, R, s, m, args, below, meth, c⟩ := X
  obtain ⟨hx, hb, hml, hown, hts, hT, -, -, hR, -⟩ := B
  intro H locs ls hH hS hl
  subst hR
  refine va_mmax hx hb (hml.trans hl.1.symm) hown (hts _ hlink) (hts _ hstat) (hts _ hini) (hts _ hcode) hf hlo hc hs hdg ?_
  have e : (if iI x < iI y then iI y else iI x) = iI (if x < y then y else x) := by
    by_cases h : x < y
    · rw [if_pos h, if_pos ((iI_lt rx ry).mpr h)]
    · rw [if_neg h, if_neg (fun q => h ((iI_lt rx ry).mp q))]
  rw [e]
  exact k H locs ls hH hS hl
theorem mv_copyi (B : mv_B X K cc Ts own nL ret rm nm) {index a a0 n0 n1 : Nat} {cA : ClassId} {f g : Nat → Int32} (t0 : Nat) (ht : K.2.2.1[t0]? = some (cA, .int)) (hlink : Cond.methodLink own index arraycopyName ∈ Ts) (hnat : Cond.native arraycopyName ∈ Ts) (hstat : Cond.static arraycopyName ∈ Ts) (hini : Cond.initialized "java/lang/System" ∈ Ts)
    (ha0 : M a0 = some (.inl (cA, n0, .inl f))) (ha1 : M a = some (.inl (cA, n1, .inl g))) {sp dp n : Int} (rs : R32 sp) (rd : R32 dp) (rn : R32 n) (h1 : 0 ≤ sp) (h2 : 0 ≤ dp) (h3 : 0 ≤ n) (h4 : sp + n ≤ n0) (h5 : dp + n ≤ n1)
    (hf : 1 ≤ rm.frames) (hlo : (st.map fun v => v.category).sum + (nativeFrameWords "java/lang/System" "arraycopy" 5 + 11) ≤ rm.locals) (hdg : decode cc pc = .ok (.invokestatic index, 3))
    (kk : mv_G X Q K nL (pc + 3) lv st (mv_up M a (.inl (cA, n1, .inl (va_cpy f g sp.toNat dp.toNat n.toNat)))) cells slots) : mv_G X Q K nL pc lv (.int (iI n) :: .int (iI dp) :: .ref a :: .int (iI sp) :: .ref a0 :: st) M cells slots := by
  obtain ⟨p, l, e, R, s, m, args, below, meth, c⟩ := X
  obtain ⟨hx, hb, hml, hown, hts, hT, -, -, hR, -⟩ := B
  intro H locs ls hH hS hl
  subst hR
  have h0 : ∀ z : Int, R32 z → 0 ≤ z → ¬ iI z < 0 := fun z r h q => by
    rw [Int32.lt_iff_toInt_lt, iI_t r] at q
    have : (0 : Int32).toInt = 0 := rfl
    omega
  intro T hTT X
  have hc0 : H[a0]? = some (vp_cell cA (n0, .inl f)) := (hH.2 a0 _ ha0).2
  have hc1 : H[a]? = some (vp_cell cA (n1, .inl g)) := (hH.2 a _ ha1).2
  obtain ⟨-, k0, hk0, cm0, hkk0⟩ := (hT.1.2 t0 _ ht).1 n0 (fun j => .int (f j))
  obtain ⟨vm', X', step⟩ := X.arraycopy hx hown (hts _ hlink) (hts _ hnat) (hts _ hstat) (hts _ hini) (src := a0) (dst := a) (cs := vp_cell cA (n0, .inl f)) (cd := vp_cell cA (n1, .inl g)) (srcPos := iI sp) (destPos := iI dp) (n := iI n) (by rw [hTT]; exact hc0) (by rw [hTT]; exact hc1)
    (fun _ h => by cases h) (fun _ h => by cases h) (fun h => by cases h) (fun h => by cases h) hk0 hk0 hkk0 hkk0 (by simp [refKind]) (h0 _ rs h1) (h0 _ rd h2) (h0 _ rn h3)
    (by rw [iI_t rs, iI_t rn]; show ¬ _ > ((arrV cA n0 (fun j => .int (f j))).slots.size : Int); rw [arrV_size]; omega)
    (by rw [iI_t rd, iI_t rn]; show ¬ _ > ((arrV cA n1 (fun j => .int (g j))).slots.size : Int); rw [arrV_size]; omega)
    (fun vm₁ _ i hi => by
      have e : (vp_cell cA (n0, .inl f)).slots.getD ((iI sp).toNatClampNeg + i) .null = .int (f ((iI sp).toNatClampNeg + i)) := by
        show (arrV cA n0 (fun j => .int (f j))).slots.getD _ _ = _
        rw [Array.getD_eq_getD_getElem?, arrV_read _ _ (by rw [iI_c rs]; rw [iI_c rn] at hi; omega)]
        rfl
      refine ⟨?_, ?_⟩
      · rw [e]; rfl
      · rw [e]
        exact trivial)
    (g := F0 m pc ls (.int (iI n) :: .int (iI dp) :: .ref a :: .int (iI sp) :: .ref a0 :: st)) rfl (by rw [hml]; exact hl.1) (rest := st) rfl (by rw [hb]; exact hdg) hf (by show 2 * 0 + _ + _ ≤ _; omega)
  have h4' : (iI sp).toNatClampNeg + (iI n).toNatClampNeg ≤ n0 := by rw [iI_c rs, iI_c rn]; omega
  have e1 : copied (vp_cell cA (n0, .inl f)) (vp_cell cA (n1, .inl g)) (iI sp) (iI dp) (iI n) = vp_cell cA (n1, .inl (va_cpy f g (iI sp).toNatClampNeg (iI dp).toNatClampNeg (iI n).toNatClampNeg)) := va_copied (fun z => .int z) cA cA f g h4'
  rw [iI_c rs, iI_c rd, iI_c rn] at e1
  rw [e1] at X' step
  have hlt : a < H.size := (Array.getElem?_eq_some_iff.mp hc1).1
  have hheap : ((T.setVm vm').setCell a (vp_cell cA (n1, .inl (va_cpy f g sp.toNat dp.toNat n.toNat)))).heap = H.setIfInBounds a (vp_cell cA (n1, .inl (va_cpy f g sp.toNat dp.toNat n.toNat))) := by rw [← hTT]; rfl
  have oq : ∀ q : Nat, q ≠ a → (H.setIfInBounds a (vp_cell cA (n1, .inl (va_cpy f g sp.toNat dp.toNat n.toNat))))[q]? = H[q]? := fun q hq => by simp [Array.getElem?_setIfInBounds, Ne.symm hq]
  obtain ⟨t, a1, b1⟩ := kk (H.setIfInBounds a (vp_cell cA (n1, .inl (va_cpy f g sp.toNat dp.toNat n.toNat)))) _ ls (hH.set ha1 (show (H.setIfInBounds a _)[a]? = some _ by simp [Array.getElem?_setIfInBounds, hlt]) (by simp) oq) ⟨by simp; exact hS.1, fun q g1 g2 => by
      rw [oq q (fun e => g2 (by rw [e]; exact (hH.2 a _ ha1).1))]
      exact hS.2.1 q g1 g2, fun q hq => by
      rcases List.mem_append.mp hq with h | h
      · exact hS.2.2 q h
      · obtain ⟨z, -, hz⟩ := List.mem_map.mp h
        rw [← hz]
        exact (hH.2 a _ ha1).1⟩ hl _ hheap X'
  exact ⟨t, step t a1, b1⟩
end MVT
end
section
/-! NAMES: classes and their fields, the words that every method may use, fields and calls by their links -/
def T_Term : u_T := fun k => match k with
  | 0 => ("FamilyRules$Term", "kinds", "[I", true)
  | 1 => ("FamilyRules$Term", "numbers", "[I", true)
  | 2 => ("FamilyRules$Term", "sorts", "[I", true)
  | _ => ("FamilyRules$Term", "nodes", "[I", true)
def ty_Term : Nat → FieldType := fun k => match k with
  | 0 => .array .int
  | 1 => .array .int
  | 2 => .array .int
  | _ => .array .int
theorem nm_Term : ∀ a, a < 4 → ∀ b, b < 4 → a ≠ b → (T_Term a).2.1 ≠ (T_Term b).2.1 := by decide +kernel
theorem tyo_Term : ∀ k, k < 4 → parseFieldDescriptor (T_Term k).2.2.1 = some (ty_Term k) := by decide +kernel
def T_Shelf : u_T := fun k => match k with
  | 0 => ("FamilyRules$Shelf", "row", "[LFamilyRules$Term;", true)
  | 1 => ("FamilyRules$Shelf", "count", "I", false)
  | _ => ("FamilyRules$Shelf", "nodesInAll", "I", false)
def ty_Shelf : Nat → FieldType := fun k => match k with
  | 0 => .array (.object "FamilyRules$Term")
  | 1 => .int
  | _ => .int
theorem nm_Shelf : ∀ a, a < 3 → ∀ b, b < 3 → a ≠ b → (T_Shelf a).2.1 ≠ (T_Shelf b).2.1 := by decide +kernel
theorem tyo_Shelf : ∀ k, k < 3 → parseFieldDescriptor (T_Shelf k).2.2.1 = some (ty_Shelf k) := by decide +kernel
def T_Global : u_T := fun k => match k with
  | 0 => ("FamilyRules$Global", "number", "I", true)
  | 1 => ("FamilyRules$Global", "role", "I", true)
  | 2 => ("FamilyRules$Global", "parameters", "I", true)
  | 3 => ("FamilyRules$Global", "indices", "I", true)
  | 4 => ("FamilyRules$Global", "rank", "I", true)
  | 5 => ("FamilyRules$Global", "family", "LFamilyRules$Global;", false)
  | 6 => ("FamilyRules$Global", "constructors", "[LFamilyRules$Global;", false)
  | 7 => ("FamilyRules$Global", "told", "LFamilyRules$Term;", false)
  | 8 => ("FamilyRules$Global", "arguments", "I", false)
  | _ => ("FamilyRules$Global", "recursive", "I", false)
def ty_Global : Nat → FieldType := fun k => match k with
  | 0 => .int
  | 1 => .int
  | 2 => .int
  | 3 => .int
  | 4 => .int
  | 5 => .object "FamilyRules$Global"
  | 6 => .array (.object "FamilyRules$Global")
  | 7 => .object "FamilyRules$Term"
  | 8 => .int
  | _ => .int
theorem nm_Global : ∀ a, a < 10 → ∀ b, b < 10 → a ≠ b → (T_Global a).2.1 ≠ (T_Global b).2.1 := by decide +kernel
theorem tyo_Global : ∀ k, k < 10 → parseFieldDescriptor (T_Global k).2.2.1 = some (ty_Global k) := by decide +kernel
def T_Register : u_T := fun k => match k with
  | 0 => ("FamilyRules$Register", "row", "[LFamilyRules$Global;", true)
  | _ => ("FamilyRules$Register", "count", "I", false)
def ty_Register : Nat → FieldType := fun k => match k with
  | 0 => .array (.object "FamilyRules$Global")
  | _ => .int
theorem nm_Register : ∀ a, a < 2 → ∀ b, b < 2 → a ≠ b → (T_Register a).2.1 ≠ (T_Register b).2.1 := by decide +kernel
theorem tyo_Register : ∀ k, k < 2 → parseFieldDescriptor (T_Register k).2.2.1 = some (ty_Register k) := by decide +kernel
def T_Reader : u_T := fun k => match k with
  | 0 => ("FamilyRules$Reader", "depths", "[I", true)
  | 1 => ("FamilyRules$Reader", "term", "LFamilyRules$Term;", false)
  | 2 => ("FamilyRules$Reader", "alls", "I", false)
  | 3 => ("FamilyRules$Reader", "foot", "I", false)
  | _ => ("FamilyRules$Reader", "applications", "I", false)
def ty_Reader : Nat → FieldType := fun k => match k with
  | 0 => .array .int
  | 1 => .object "FamilyRules$Term"
  | 2 => .int
  | 3 => .int
  | _ => .int
theorem nm_Reader : ∀ a, a < 5 → ∀ b, b < 5 → a ≠ b → (T_Reader a).2.1 ≠ (T_Reader b).2.1 := by decide +kernel
theorem tyo_Reader : ∀ k, k < 5 → parseFieldDescriptor (T_Reader k).2.2.1 = some (ty_Reader k) := by decide +kernel
def T_Maker : u_T := fun k => match k with
  | 0 => ("FamilyRules$Maker", "reader", "LFamilyRules$Reader;", true)
  | 1 => ("FamilyRules$Maker", "target", "LFamilyRules$Term;", false)
  | 2 => ("FamilyRules$Maker", "place", "I", false)
  | 3 => ("FamilyRules$Maker", "source", "LFamilyRules$Term;", false)
  | 4 => ("FamilyRules$Maker", "parameters", "I", false)
  | 5 => ("FamilyRules$Maker", "around", "I", false)
  | 6 => ("FamilyRules$Maker", "argumentLift", "I", false)
  | _ => ("FamilyRules$Maker", "parameterLift", "I", false)
def ty_Maker : Nat → FieldType := fun k => match k with
  | 0 => .object "FamilyRules$Reader"
  | 1 => .object "FamilyRules$Term"
  | 2 => .int
  | 3 => .object "FamilyRules$Term"
  | 4 => .int
  | 5 => .int
  | 6 => .int
  | _ => .int
theorem nm_Maker : ∀ a, a < 8 → ∀ b, b < 8 → a ≠ b → (T_Maker a).2.1 ≠ (T_Maker b).2.1 := by decide +kernel
theorem tyo_Maker : ∀ k, k < 8 → parseFieldDescriptor (T_Maker k).2.2.1 = some (ty_Maker k) := by decide +kernel
def T_Fam : u_T := fun k => match k with
  | 0 => ("FamilyRules", "shelf", "LFamilyRules$Shelf;", true)
  | 1 => ("FamilyRules", "register", "LFamilyRules$Register;", true)
  | 2 => ("FamilyRules", "reader", "LFamilyRules$Reader;", true)
  | _ => ("FamilyRules", "maker", "LFamilyRules$Maker;", true)
def ty_Fam : Nat → FieldType := fun k => match k with
  | 0 => .object "FamilyRules$Shelf"
  | 1 => .object "FamilyRules$Register"
  | 2 => .object "FamilyRules$Reader"
  | _ => .object "FamilyRules$Maker"
theorem nm_Fam : ∀ a, a < 4 → ∀ b, b < 4 → a ≠ b → (T_Fam a).2.1 ≠ (T_Fam b).2.1 := by decide +kernel
theorem tyo_Fam : ∀ k, k < 4 → parseFieldDescriptor (T_Fam k).2.2.1 = some (ty_Fam k) := by decide +kernel
def T_Mod : u_T := fun k => match k with
  | 0 => ("FamilyRulesModel", "kind", "[I", false)
  | 1 => ("FamilyRulesModel", "value", "[I", false)
  | 2 => ("FamilyRulesModel", "sort", "[I", false)
  | 3 => ("FamilyRulesModel", "length", "[I", false)
  | 4 => ("FamilyRulesModel", "depth", "[I", false)
  | 5 => ("FamilyRulesModel", "count", "I", false)
  | 6 => ("FamilyRulesModel", "begin", "[I", true)
  | 7 => ("FamilyRulesModel", "terms", "I", false)
  | 8 => ("FamilyRulesModel", "sorts", "[I", true)
  | 9 => ("FamilyRulesModel", "types", "[I", true)
  | 10 => ("FamilyRulesModel", "families", "[I", true)
  | 11 => ("FamilyRulesModel", "parameters", "[I", true)
  | 12 => ("FamilyRulesModel", "others", "[I", true)
  | 13 => ("FamilyRulesModel", "constructors", "[I", true)
  | 14 => ("FamilyRulesModel", "globals", "I", false)
  | _ => ("FamilyRulesModel", "levels", "[I", false)
def ty_Mod : Nat → FieldType := fun k => match k with
  | 0 => .array .int
  | 1 => .array .int
  | 2 => .array .int
  | 3 => .array .int
  | 4 => .array .int
  | 5 => .int
  | 6 => .array .int
  | 7 => .int
  | 8 => .array .int
  | 9 => .array .int
  | 10 => .array .int
  | 11 => .array .int
  | 12 => .array .int
  | 13 => .array .int
  | 14 => .int
  | _ => .array .int
theorem nm_Mod : ∀ a, a < 16 → ∀ b, b < 16 → a ≠ b → (T_Mod a).2.1 ≠ (T_Mod b).2.1 := by decide +kernel
theorem tyo_Mod : ∀ k, k < 16 → parseFieldDescriptor (T_Mod k).2.2.1 = some (ty_Mod k) := by decide +kernel
abbrev clsL : List vw_C := [("FamilyRules$Term", T_Term, 4), ("FamilyRules$Shelf", T_Shelf, 3), ("FamilyRules$Global", T_Global, 10), ("FamilyRules$Register", T_Register, 2), ("FamilyRules$Reader", T_Reader, 5), ("FamilyRules$Maker", T_Maker, 8), ("FamilyRules", T_Fam, 4), ("FamilyRulesModel", T_Mod, 16)]
def mw : List Cond := lw_tbl.filter goodWord
def nw : List Cond := tables_1.filter mv_nk
theorem mw_t {w : Cond} (i : Nat) (h : tables_1[i]? = some w) (hg : goodWord w = true) : w ∈ mw := List.mem_filter.mpr ⟨List.mem_append_right _ (List.mem_of_getElem? h), hg⟩
theorem mw_s {w : Cond} (i : Nat) (h : (k2_sels lw_privs)[i]? = some w) (hg : goodWord w = true) : w ∈ mw := List.mem_filter.mpr ⟨List.mem_append_left _ (List.mem_of_getElem? h), hg⟩
theorem nw_t {w : Cond} (i : Nat) (h : tables_1[i]? = some w) (hg : mv_nk w = true) : w ∈ nw := List.mem_filter.mpr ⟨List.mem_of_getElem? h, hg⟩
theorem mw_good : ∀ w ∈ mw, goodWord w = true := fun _ h => (List.mem_filter.mp h).2
theorem mwc {v w : Cond} (h : w ∈ mw) : w ∈ v :: mw := List.mem_cons_of_mem _ h
theorem gi {v w : Cond} (h : w ∈ mw) : GoodIn (v :: mw) (w :: mw) := fun x hx => by
  rcases List.mem_cons.mp hx with rfl | hx
  · exact ⟨mwc h, good_of_word (mw_good _ h)⟩
  · exact ⟨mwc hx, good_of_word (mw_good _ hx)⟩
theorem giV {v w : Cond} {own C : String} {idx : Nat} {y : MethodName} (h : w ∈ mw) (h1 : Cond.methodLink own idx y ∈ mw) (h2 : Cond.instanceMethod y ∈ mw) (h3 : Cond.selects C y y ∈ mw) (h4 : Cond.initialized C ∈ mw) : GoodIn (v :: mw) (wsV own idx C y (w :: mw)) := fun x hx => by
  rcases List.mem_append.mp hx with hx | hx
  · simp only [List.mem_cons, List.not_mem_nil, or_false] at hx
    rcases hx with rfl | rfl | rfl | rfl
    · exact ⟨mwc h1, good_of_word (mw_good _ h1)⟩
    · exact ⟨mwc h2, good_of_word (mw_good _ h2)⟩
    · exact ⟨mwc h3, good_of_word (mw_good _ h3)⟩
    · exact ⟨mwc h4, good_of_word (mw_good _ h4)⟩
  · exact gi h x hx
theorem giS {v w : Cond} {own : String} {idx : Nat} {y : MethodName} (h : w ∈ mw) (h1 : Cond.methodLink own idx y ∈ mw) (h2 : Cond.static y ∈ mw) (h4 : Cond.initialized own ∈ mw) : GoodIn (v :: mw) (wsS own idx y (w :: mw)) := fun x hx => by
  rcases List.mem_append.mp hx with hx | hx
  · simp only [List.mem_cons, List.not_mem_nil, or_false] at hx
    rcases hx with rfl | rfl | rfl
    · exact ⟨mwc h1, good_of_word (mw_good _ h1)⟩
    · exact ⟨mwc h2, good_of_word (mw_good _ h2)⟩
    · exact ⟨mwc h4, good_of_word (mw_good _ h4)⟩
  · exact gi h x hx
abbrev mv_V : Type := va_G × ClassId × ClassId × ClassId × (Nat → Prop)
abbrev kk (V : mv_V) : mv_K := (V.1, clsL, [(V.2.1, .int), (V.2.2.1, .object "FamilyRules$Term"), (V.2.2.2.1, .object "FamilyRules$Global")], nw, V.2.2.2.2)
abbrev iA (V : mv_V) (n : Nat) (f : Nat → Int) : va_E := .inl (V.2.1, n, .inl (fun j => iI (f j)))
abbrev tA (V : mv_V) (n : Nat) (f : Nat → Option Nat) : va_E := .inl (V.2.2.1, n, .inr (.inr (.inr (.inr f))))
abbrev gA (V : mv_V) (n : Nat) (f : Nat → Option Nat) : va_E := .inl (V.2.2.2.1, n, .inr (.inr (.inr (.inr f))))
theorem w_160 : (Jvm.Cond.laysFinal "FamilyRules$Term" "FamilyRules$Term" "kinds" "[I") ∈ mw := mw_t 160 (by decide +kernel) (by decide +kernel)
theorem w_162 : (Jvm.Cond.laysFinal "FamilyRules$Term" "FamilyRules$Term" "numbers" "[I") ∈ mw := mw_t 162 (by decide +kernel) (by decide +kernel)
theorem w_164 : (Jvm.Cond.laysFinal "FamilyRules$Term" "FamilyRules$Term" "sorts" "[I") ∈ mw := mw_t 164 (by decide +kernel) (by decide +kernel)
theorem w_166 : (Jvm.Cond.laysFinal "FamilyRules$Term" "FamilyRules$Term" "nodes" "[I") ∈ mw := mw_t 166 (by decide +kernel) (by decide +kernel)
theorem in_Term {v : Cond} : ∀ w ∈ u_ws "FamilyRules$Term" T_Term 4, w ∈ v :: mw := by
  intro w hw
  apply mwc
  unfold u_ws at hw
  obtain ⟨k, hk, rfl⟩ := List.mem_map.mp hw
  have hk := List.mem_range.mp hk
  match k, hk with
  | 0, _ => exact w_160
  | 1, _ => exact w_162
  | 2, _ => exact w_164
  | 3, _ => exact w_166
theorem w_57 : (Jvm.Cond.laysFinal "FamilyRules$Shelf" "FamilyRules$Shelf" "row" "[LFamilyRules$Term;") ∈ mw := mw_t 57 (by decide +kernel) (by decide +kernel)
theorem w_59 : (Jvm.Cond.lays "FamilyRules$Shelf" "FamilyRules$Shelf" "count" "I") ∈ mw := mw_t 59 (by decide +kernel) (by decide +kernel)
theorem w_61 : (Jvm.Cond.lays "FamilyRules$Shelf" "FamilyRules$Shelf" "nodesInAll" "I") ∈ mw := mw_t 61 (by decide +kernel) (by decide +kernel)
theorem in_Shelf {v : Cond} : ∀ w ∈ u_ws "FamilyRules$Shelf" T_Shelf 3, w ∈ v :: mw := by
  intro w hw
  apply mwc
  unfold u_ws at hw
  obtain ⟨k, hk, rfl⟩ := List.mem_map.mp hw
  have hk := List.mem_range.mp hk
  match k, hk with
  | 0, _ => exact w_57
  | 1, _ => exact w_59
  | 2, _ => exact w_61
theorem w_257 : (Jvm.Cond.laysFinal "FamilyRules$Global" "FamilyRules$Global" "number" "I") ∈ mw := mw_t 257 (by decide +kernel) (by decide +kernel)
theorem w_259 : (Jvm.Cond.laysFinal "FamilyRules$Global" "FamilyRules$Global" "role" "I") ∈ mw := mw_t 259 (by decide +kernel) (by decide +kernel)
theorem w_261 : (Jvm.Cond.laysFinal "FamilyRules$Global" "FamilyRules$Global" "parameters" "I") ∈ mw := mw_t 261 (by decide +kernel) (by decide +kernel)
theorem w_263 : (Jvm.Cond.laysFinal "FamilyRules$Global" "FamilyRules$Global" "indices" "I") ∈ mw := mw_t 263 (by decide +kernel) (by decide +kernel)
theorem w_265 : (Jvm.Cond.laysFinal "FamilyRules$Global" "FamilyRules$Global" "rank" "I") ∈ mw := mw_t 265 (by decide +kernel) (by decide +kernel)
theorem w_267 : (Jvm.Cond.lays "FamilyRules$Global" "FamilyRules$Global" "family" "LFamilyRules$Global;") ∈ mw := mw_t 267 (by decide +kernel) (by decide +kernel)
theorem w_269 : (Jvm.Cond.lays "FamilyRules$Global" "FamilyRules$Global" "constructors" "[LFamilyRules$Global;") ∈ mw := mw_t 269 (by decide +kernel) (by decide +kernel)
theorem w_271 : (Jvm.Cond.lays "FamilyRules$Global" "FamilyRules$Global" "told" "LFamilyRules$Term;") ∈ mw := mw_t 271 (by decide +kernel) (by decide +kernel)
theorem w_273 : (Jvm.Cond.lays "FamilyRules$Global" "FamilyRules$Global" "arguments" "I") ∈ mw := mw_t 273 (by decide +kernel) (by decide +kernel)
theorem w_275 : (Jvm.Cond.lays "FamilyRules$Global" "FamilyRules$Global" "recursive" "I") ∈ mw := mw_t 275 (by decide +kernel) (by decide +kernel)
theorem in_Global {v : Cond} : ∀ w ∈ u_ws "FamilyRules$Global" T_Global 10, w ∈ v :: mw := by
  intro w hw
  apply mwc
  unfold u_ws at hw
  obtain ⟨k, hk, rfl⟩ := List.mem_map.mp hw
  have hk := List.mem_range.mp hk
  match k, hk with
  | 0, _ => exact w_257
  | 1, _ => exact w_259
  | 2, _ => exact w_261
  | 3, _ => exact w_263
  | 4, _ => exact w_265
  | 5, _ => exact w_267
  | 6, _ => exact w_269
  | 7, _ => exact w_271
  | 8, _ => exact w_273
  | 9, _ => exact w_275
theorem w_74 : (Jvm.Cond.laysFinal "FamilyRules$Register" "FamilyRules$Register" "row" "[LFamilyRules$Global;") ∈ mw := mw_t 74 (by decide +kernel) (by decide +kernel)
theorem w_76 : (Jvm.Cond.lays "FamilyRules$Register" "FamilyRules$Register" "count" "I") ∈ mw := mw_t 76 (by decide +kernel) (by decide +kernel)
theorem in_Register {v : Cond} : ∀ w ∈ u_ws "FamilyRules$Register" T_Register 2, w ∈ v :: mw := by
  intro w hw
  apply mwc
  unfold u_ws at hw
  obtain ⟨k, hk, rfl⟩ := List.mem_map.mp hw
  have hk := List.mem_range.mp hk
  match k, hk with
  | 0, _ => exact w_74
  | 1, _ => exact w_76
theorem w_33 : (Jvm.Cond.laysFinal "FamilyRules$Reader" "FamilyRules$Reader" "depths" "[I") ∈ mw := mw_t 33 (by decide +kernel) (by decide +kernel)
theorem w_35 : (Jvm.Cond.lays "FamilyRules$Reader" "FamilyRules$Reader" "term" "LFamilyRules$Term;") ∈ mw := mw_t 35 (by decide +kernel) (by decide +kernel)
theorem w_37 : (Jvm.Cond.lays "FamilyRules$Reader" "FamilyRules$Reader" "alls" "I") ∈ mw := mw_t 37 (by decide +kernel) (by decide +kernel)
theorem w_39 : (Jvm.Cond.lays "FamilyRules$Reader" "FamilyRules$Reader" "foot" "I") ∈ mw := mw_t 39 (by decide +kernel) (by decide +kernel)
theorem w_41 : (Jvm.Cond.lays "FamilyRules$Reader" "FamilyRules$Reader" "applications" "I") ∈ mw := mw_t 41 (by decide +kernel) (by decide +kernel)
theorem in_Reader {v : Cond} : ∀ w ∈ u_ws "FamilyRules$Reader" T_Reader 5, w ∈ v :: mw := by
  intro w hw
  apply mwc
  unfold u_ws at hw
  obtain ⟨k, hk, rfl⟩ := List.mem_map.mp hw
  have hk := List.mem_range.mp hk
  match k, hk with
  | 0, _ => exact w_33
  | 1, _ => exact w_35
  | 2, _ => exact w_37
  | 3, _ => exact w_39
  | 4, _ => exact w_41
theorem w_94 : (Jvm.Cond.laysFinal "FamilyRules$Maker" "FamilyRules$Maker" "reader" "LFamilyRules$Reader;") ∈ mw := mw_t 94 (by decide +kernel) (by decide +kernel)
theorem w_96 : (Jvm.Cond.lays "FamilyRules$Maker" "FamilyRules$Maker" "target" "LFamilyRules$Term;") ∈ mw := mw_t 96 (by decide +kernel) (by decide +kernel)
theorem w_98 : (Jvm.Cond.lays "FamilyRules$Maker" "FamilyRules$Maker" "place" "I") ∈ mw := mw_t 98 (by decide +kernel) (by decide +kernel)
theorem w_100 : (Jvm.Cond.lays "FamilyRules$Maker" "FamilyRules$Maker" "source" "LFamilyRules$Term;") ∈ mw := mw_t 100 (by decide +kernel) (by decide +kernel)
theorem w_102 : (Jvm.Cond.lays "FamilyRules$Maker" "FamilyRules$Maker" "parameters" "I") ∈ mw := mw_t 102 (by decide +kernel) (by decide +kernel)
theorem w_104 : (Jvm.Cond.lays "FamilyRules$Maker" "FamilyRules$Maker" "around" "I") ∈ mw := mw_t 104 (by decide +kernel) (by decide +kernel)
theorem w_106 : (Jvm.Cond.lays "FamilyRules$Maker" "FamilyRules$Maker" "argumentLift" "I") ∈ mw := mw_t 106 (by decide +kernel) (by decide +kernel)
theorem w_108 : (Jvm.Cond.lays "FamilyRules$Maker" "FamilyRules$Maker" "parameterLift" "I") ∈ mw := mw_t 108 (by decide +kernel) (by decide +kernel)
theorem in_Maker {v : Cond} : ∀ w ∈ u_ws "FamilyRules$Maker" T_Maker 8, w ∈ v :: mw := by
  intro w hw
  apply mwc
  unfold u_ws at hw
  obtain ⟨k, hk, rfl⟩ := List.mem_map.mp hw
  have hk := List.mem_range.mp hk
  match k, hk with
  | 0, _ => exact w_94
  | 1, _ => exact w_96
  | 2, _ => exact w_98
  | 3, _ => exact w_100
  | 4, _ => exact w_102
  | 5, _ => exact w_104
  | 6, _ => exact w_106
  | 7, _ => exact w_108
theorem w_115 : (Jvm.Cond.laysFinal "FamilyRules" "FamilyRules" "shelf" "LFamilyRules$Shelf;") ∈ mw := mw_t 115 (by decide +kernel) (by decide +kernel)
theorem w_117 : (Jvm.Cond.laysFinal "FamilyRules" "FamilyRules" "register" "LFamilyRules$Register;") ∈ mw := mw_t 117 (by decide +kernel) (by decide +kernel)
theorem w_119 : (Jvm.Cond.laysFinal "FamilyRules" "FamilyRules" "reader" "LFamilyRules$Reader;") ∈ mw := mw_t 119 (by decide +kernel) (by decide +kernel)
theorem w_121 : (Jvm.Cond.laysFinal "FamilyRules" "FamilyRules" "maker" "LFamilyRules$Maker;") ∈ mw := mw_t 121 (by decide +kernel) (by decide +kernel)
theorem in_Fam {v : Cond} : ∀ w ∈ u_ws "FamilyRules" T_Fam 4, w ∈ v :: mw := by
  intro w hw
  apply mwc
  unfold u_ws at hw
  obtain ⟨k, hk, rfl⟩ := List.mem_map.mp hw
  have hk := List.mem_range.mp hk
  match k, hk with
  | 0, _ => exact w_115
  | 1, _ => exact w_117
  | 2, _ => exact w_119
  | 3, _ => exact w_121
theorem w_502 : (Jvm.Cond.lays "FamilyRulesModel" "FamilyRulesModel" "kind" "[I") ∈ mw := mw_t 502 (by decide +kernel) (by decide +kernel)
theorem w_504 : (Jvm.Cond.lays "FamilyRulesModel" "FamilyRulesModel" "value" "[I") ∈ mw := mw_t 504 (by decide +kernel) (by decide +kernel)
theorem w_506 : (Jvm.Cond.lays "FamilyRulesModel" "FamilyRulesModel" "sort" "[I") ∈ mw := mw_t 506 (by decide +kernel) (by decide +kernel)
theorem w_508 : (Jvm.Cond.lays "FamilyRulesModel" "FamilyRulesModel" "length" "[I") ∈ mw := mw_t 508 (by decide +kernel) (by decide +kernel)
theorem w_510 : (Jvm.Cond.lays "FamilyRulesModel" "FamilyRulesModel" "depth" "[I") ∈ mw := mw_t 510 (by decide +kernel) (by decide +kernel)
theorem w_512 : (Jvm.Cond.lays "FamilyRulesModel" "FamilyRulesModel" "count" "I") ∈ mw := mw_t 512 (by decide +kernel) (by decide +kernel)
theorem w_514 : (Jvm.Cond.laysFinal "FamilyRulesModel" "FamilyRulesModel" "begin" "[I") ∈ mw := mw_t 514 (by decide +kernel) (by decide +kernel)
theorem w_516 : (Jvm.Cond.lays "FamilyRulesModel" "FamilyRulesModel" "terms" "I") ∈ mw := mw_t 516 (by decide +kernel) (by decide +kernel)
theorem w_518 : (Jvm.Cond.laysFinal "FamilyRulesModel" "FamilyRulesModel" "sorts" "[I") ∈ mw := mw_t 518 (by decide +kernel) (by decide +kernel)
theorem w_520 : (Jvm.Cond.laysFinal "FamilyRulesModel" "FamilyRulesModel" "types" "[I") ∈ mw := mw_t 520 (by decide +kernel) (by decide +kernel)
theorem w_522 : (Jvm.Cond.laysFinal "FamilyRulesModel" "FamilyRulesModel" "families" "[I") ∈ mw := mw_t 522 (by decide +kernel) (by decide +kernel)
theorem w_524 : (Jvm.Cond.laysFinal "FamilyRulesModel" "FamilyRulesModel" "parameters" "[I") ∈ mw := mw_t 524 (by decide +kernel) (by decide +kernel)
theorem w_526 : (Jvm.Cond.laysFinal "FamilyRulesModel" "FamilyRulesModel" "others" "[I") ∈ mw := mw_t 526 (by decide +kernel) (by decide +kernel)
theorem w_528 : (Jvm.Cond.laysFinal "FamilyRulesModel" "FamilyRulesModel" "constructors" "[I") ∈ mw := mw_t 528 (by decide +kernel) (by decide +kernel)
theorem w_530 : (Jvm.Cond.lays "FamilyRulesModel" "FamilyRulesModel" "globals" "I") ∈ mw := mw_t 530 (by decide +kernel) (by decide +kernel)
theorem w_532 : (Jvm.Cond.lays "FamilyRulesModel" "FamilyRulesModel" "levels" "[I") ∈ mw := mw_t 532 (by decide +kernel) (by decide +kernel)
theorem in_Mod {v : Cond} : ∀ w ∈ u_ws "FamilyRulesModel" T_Mod 16, w ∈ v :: mw := by
  intro w hw
  apply mwc
  unfold u_ws at hw
  obtain ⟨k, hk, rfl⟩ := List.mem_map.mp hw
  have hk := List.mem_range.mp hk
  match k, hk with
  | 0, _ => exact w_502
  | 1, _ => exact w_504
  | 2, _ => exact w_506
  | 3, _ => exact w_508
  | 4, _ => exact w_510
  | 5, _ => exact w_512
  | 6, _ => exact w_514
  | 7, _ => exact w_516
  | 8, _ => exact w_518
  | 9, _ => exact w_520
  | 10, _ => exact w_522
  | 11, _ => exact w_524
  | 12, _ => exact w_526
  | 13, _ => exact w_528
  | 14, _ => exact w_530
  | 15, _ => exact w_532
  | k + 16, h => exact absurd h (by omega)
abbrev y_Fam_init : MethodName := ⟨"FamilyRules", "<init>", "()V"⟩
abbrev c_Fam_init : ByteArray := prog_1_method_1_code
abbrev ws_Fam_init : List Cond := .code y_Fam_init prog_1_method_1_code 2 (Option.none : Option Jvm.ClassFile.FieldType) :: mw
theorem w_15 : (Jvm.Cond.code ({ cls := "FamilyRules", name := "<init>", desc := "()V" } : Jvm.MethodName) prog_1_method_1_code (2 : Nat) (Option.none : Option Jvm.ClassFile.FieldType)) ∈ mw := mw_t 15 (by decide +kernel) (by decide +kernel)
abbrev y_Fam_leaf : MethodName := ⟨"FamilyRules", "leaf", "(III)I"⟩
abbrev c_Fam_leaf : ByteArray := prog_1_method_2_code
abbrev ws_Fam_leaf : List Cond := .code y_Fam_leaf prog_1_method_2_code 5 (Option.some Jvm.ClassFile.FieldType.int) :: mw
theorem w_127 : (Jvm.Cond.code ({ cls := "FamilyRules", name := "leaf", desc := "(III)I" } : Jvm.MethodName) prog_1_method_2_code (5 : Nat) (Option.some Jvm.ClassFile.FieldType.int)) ∈ mw := mw_t 127 (by decide +kernel) (by decide +kernel)
abbrev y_Fam_apply : MethodName := ⟨"FamilyRules", "apply", "(II)I"⟩
abbrev c_Fam_apply : ByteArray := prog_1_method_3_code
abbrev ws_Fam_apply : List Cond := .code y_Fam_apply prog_1_method_3_code 3 (Option.some Jvm.ClassFile.FieldType.int) :: mw
theorem w_184 : (Jvm.Cond.code ({ cls := "FamilyRules", name := "apply", desc := "(II)I" } : Jvm.MethodName) prog_1_method_3_code (3 : Nat) (Option.some Jvm.ClassFile.FieldType.int)) ∈ mw := mw_t 184 (by decide +kernel) (by decide +kernel)
abbrev y_Fam_binder : MethodName := ⟨"FamilyRules", "binder", "(IIII)I"⟩
abbrev c_Fam_binder : ByteArray := prog_1_method_4_code
abbrev ws_Fam_binder : List Cond := .code y_Fam_binder prog_1_method_4_code 7 (Option.some Jvm.ClassFile.FieldType.int) :: mw
theorem w_213 : (Jvm.Cond.code ({ cls := "FamilyRules", name := "binder", desc := "(IIII)I" } : Jvm.MethodName) prog_1_method_4_code (7 : Nat) (Option.some Jvm.ClassFile.FieldType.int)) ∈ mw := mw_t 213 (by decide +kernel) (by decide +kernel)
abbrev y_Fam_axiom : MethodName := ⟨"FamilyRules", "axiom", "()I"⟩
abbrev c_Fam_axiom : ByteArray := prog_1_method_5_code
abbrev ws_Fam_axiom : List Cond := .code y_Fam_axiom prog_1_method_5_code 1 (Option.some Jvm.ClassFile.FieldType.int) :: mw
theorem w_217 : (Jvm.Cond.code ({ cls := "FamilyRules", name := "axiom", desc := "()I" } : Jvm.MethodName) prog_1_method_5_code (1 : Nat) (Option.some Jvm.ClassFile.FieldType.int)) ∈ mw := mw_t 217 (by decide +kernel) (by decide +kernel)
abbrev y_Fam_family : MethodName := ⟨"FamilyRules", "family", "(III)I"⟩
abbrev c_Fam_family : ByteArray := prog_1_method_6_code
abbrev ws_Fam_family : List Cond := .code y_Fam_family prog_1_method_6_code 6 (Option.some Jvm.ClassFile.FieldType.int) :: mw
theorem w_285 : (Jvm.Cond.code ({ cls := "FamilyRules", name := "family", desc := "(III)I" } : Jvm.MethodName) prog_1_method_6_code (6 : Nat) (Option.some Jvm.ClassFile.FieldType.int)) ∈ mw := mw_t 285 (by decide +kernel) (by decide +kernel)
abbrev y_Fam_constructor : MethodName := ⟨"FamilyRules", "constructor", "(II)I"⟩
abbrev c_Fam_constructor : ByteArray := prog_1_method_7_code
abbrev ws_Fam_constructor : List Cond := .code y_Fam_constructor prog_1_method_7_code 7 (Option.some Jvm.ClassFile.FieldType.int) :: mw
theorem w_327 : (Jvm.Cond.code ({ cls := "FamilyRules", name := "constructor", desc := "(II)I" } : Jvm.MethodName) prog_1_method_7_code (7 : Nat) (Option.some Jvm.ClassFile.FieldType.int)) ∈ mw := mw_t 327 (by decide +kernel) (by decide +kernel)
abbrev y_Fam_about : MethodName := ⟨"FamilyRules", "about", "(II)I"⟩
abbrev c_Fam_about : ByteArray := prog_1_method_8_code
abbrev ws_Fam_about : List Cond := .code y_Fam_about prog_1_method_8_code 4 (Option.some Jvm.ClassFile.FieldType.int) :: mw
theorem w_362 : (Jvm.Cond.code ({ cls := "FamilyRules", name := "about", desc := "(II)I" } : Jvm.MethodName) prog_1_method_8_code (4 : Nat) (Option.some Jvm.ClassFile.FieldType.int)) ∈ mw := mw_t 362 (by decide +kernel) (by decide +kernel)
abbrev y_Fam_positive : MethodName := ⟨"FamilyRules", "positive", "(III)I"⟩
abbrev c_Fam_positive : ByteArray := prog_1_method_9_code
abbrev ws_Fam_positive : List Cond := .code y_Fam_positive prog_1_method_9_code 6 (Option.some Jvm.ClassFile.FieldType.int) :: mw
theorem w_366 : (Jvm.Cond.code ({ cls := "FamilyRules", name := "positive", desc := "(III)I" } : Jvm.MethodName) prog_1_method_9_code (6 : Nat) (Option.some Jvm.ClassFile.FieldType.int)) ∈ mw := mw_t 366 (by decide +kernel) (by decide +kernel)
abbrev y_Fam_brings : MethodName := ⟨"FamilyRules", "brings", "(II)I"⟩
abbrev c_Fam_brings : ByteArray := prog_1_method_10_code
abbrev ws_Fam_brings : List Cond := .code y_Fam_brings prog_1_method_10_code 5 (Option.some Jvm.ClassFile.FieldType.int) :: mw
theorem w_370 : (Jvm.Cond.code ({ cls := "FamilyRules", name := "brings", desc := "(II)I" } : Jvm.MethodName) prog_1_method_10_code (5 : Nat) (Option.some Jvm.ClassFile.FieldType.int)) ∈ mw := mw_t 370 (by decide +kernel) (by decide +kernel)
abbrev y_Fam_size : MethodName := ⟨"FamilyRules", "size", "(I)I"⟩
abbrev c_Fam_size : ByteArray := prog_1_method_11_code
abbrev ws_Fam_size : List Cond := .code y_Fam_size prog_1_method_11_code 3 (Option.some Jvm.ClassFile.FieldType.int) :: mw
theorem w_435 : (Jvm.Cond.code ({ cls := "FamilyRules", name := "size", desc := "(I)I" } : Jvm.MethodName) prog_1_method_11_code (3 : Nat) (Option.some Jvm.ClassFile.FieldType.int)) ∈ mw := mw_t 435 (by decide +kernel) (by decide +kernel)
abbrev y_Fam_type : MethodName := ⟨"FamilyRules", "type", "(II)I"⟩
abbrev c_Fam_type : ByteArray := prog_1_method_12_code
abbrev ws_Fam_type : List Cond := .code y_Fam_type prog_1_method_12_code 5 (Option.some Jvm.ClassFile.FieldType.int) :: mw
theorem w_464 : (Jvm.Cond.code ({ cls := "FamilyRules", name := "type", desc := "(II)I" } : Jvm.MethodName) prog_1_method_12_code (5 : Nat) (Option.some Jvm.ClassFile.FieldType.int)) ∈ mw := mw_t 464 (by decide +kernel) (by decide +kernel)
abbrev y_Fam_terms : MethodName := ⟨"FamilyRules", "terms", "()I"⟩
abbrev c_Fam_terms : ByteArray := prog_1_method_13_code
abbrev ws_Fam_terms : List Cond := .code y_Fam_terms prog_1_method_13_code 1 (Option.some Jvm.ClassFile.FieldType.int) :: mw
theorem w_468 : (Jvm.Cond.code ({ cls := "FamilyRules", name := "terms", desc := "()I" } : Jvm.MethodName) prog_1_method_13_code (1 : Nat) (Option.some Jvm.ClassFile.FieldType.int)) ∈ mw := mw_t 468 (by decide +kernel) (by decide +kernel)
abbrev y_Fam_part : MethodName := ⟨"FamilyRules", "part", "(III)I"⟩
abbrev c_Fam_part : ByteArray := prog_1_method_14_code
abbrev ws_Fam_part : List Cond := .code y_Fam_part prog_1_method_14_code 5 (Option.some Jvm.ClassFile.FieldType.int) :: mw
theorem w_472 : (Jvm.Cond.code ({ cls := "FamilyRules", name := "part", desc := "(III)I" } : Jvm.MethodName) prog_1_method_14_code (5 : Nat) (Option.some Jvm.ClassFile.FieldType.int)) ∈ mw := mw_t 472 (by decide +kernel) (by decide +kernel)
abbrev y_Fam_isNumber : MethodName := ⟨"FamilyRules", "isNumber", "(I)Z"⟩
abbrev c_Fam_isNumber : ByteArray := prog_1_method_15_code
abbrev ws_Fam_isNumber : List Cond := .code y_Fam_isNumber prog_1_method_15_code 1 (Option.some Jvm.ClassFile.FieldType.boolean) :: mw
theorem w_134 : (Jvm.Cond.code ({ cls := "FamilyRules", name := "isNumber", desc := "(I)Z" } : Jvm.MethodName) prog_1_method_15_code (1 : Nat) (Option.some Jvm.ClassFile.FieldType.boolean)) ∈ mw := mw_t 134 (by decide +kernel) (by decide +kernel)
abbrev y_Fam_isLeaf : MethodName := ⟨"FamilyRules", "isLeaf", "(III)Z"⟩
abbrev c_Fam_isLeaf : ByteArray := prog_1_method_16_code
abbrev ws_Fam_isLeaf : List Cond := .code y_Fam_isLeaf prog_1_method_16_code 4 (Option.some Jvm.ClassFile.FieldType.boolean) :: mw
theorem w_131 : (Jvm.Cond.code ({ cls := "FamilyRules", name := "isLeaf", desc := "(III)Z" } : Jvm.MethodName) prog_1_method_16_code (4 : Nat) (Option.some Jvm.ClassFile.FieldType.boolean)) ∈ mw := mw_t 131 (by decide +kernel) (by decide +kernel)
abbrev y_Fam_join : MethodName := ⟨"FamilyRules", "join", "(IIII)I"⟩
abbrev c_Fam_join : ByteArray := prog_1_method_17_code
abbrev ws_Fam_join : List Cond := .code y_Fam_join prog_1_method_17_code 8 (Option.some Jvm.ClassFile.FieldType.int) :: mw
theorem w_188 : (Jvm.Cond.code ({ cls := "FamilyRules", name := "join", desc := "(IIII)I" } : Jvm.MethodName) prog_1_method_17_code (8 : Nat) (Option.some Jvm.ClassFile.FieldType.int)) ∈ mw := mw_t 188 (by decide +kernel) (by decide +kernel)
abbrev y_Fam_tell : MethodName := ⟨"FamilyRules", "tell", "(LFamilyRules$Global;LFamilyRules$Global;LFamilyRules$Term;I)I"⟩
abbrev c_Fam_tell : ByteArray := prog_1_method_18_code
abbrev ws_Fam_tell : List Cond := .code y_Fam_tell prog_1_method_18_code 9 (Option.some Jvm.ClassFile.FieldType.int) :: mw
theorem w_339 : (Jvm.Cond.code ({ cls := "FamilyRules", name := "tell", desc := "(LFamilyRules$Global;LFamilyRules$Global;LFamilyRules$Term;I)I" } : Jvm.MethodName) prog_1_method_18_code (9 : Nat) (Option.some Jvm.ClassFile.FieldType.int)) ∈ mw := mw_t 339 (by decide +kernel) (by decide +kernel)
abbrev y_Mod_init : MethodName := ⟨"FamilyRulesModel", "<init>", "()V"⟩
abbrev c_Mod_init : ByteArray := prog_9_method_1_code
abbrev ws_Mod_init : List Cond := .code y_Mod_init prog_9_method_1_code 1 (Option.none : Option Jvm.ClassFile.FieldType) :: mw
theorem w_484 : (Jvm.Cond.code ({ cls := "FamilyRulesModel", name := "<init>", desc := "()V" } : Jvm.MethodName) prog_9_method_1_code (1 : Nat) (Option.none : Option Jvm.ClassFile.FieldType)) ∈ mw := mw_t 484 (by decide +kernel) (by decide +kernel)
abbrev y_Mod_wide : MethodName := ⟨"FamilyRulesModel", "wide", "([I)[I"⟩
abbrev c_Mod_wide : ByteArray := prog_9_method_2_code
abbrev ws_Mod_wide : List Cond := .code y_Mod_wide prog_9_method_2_code 2 (Option.some (Jvm.ClassFile.FieldType.array Jvm.ClassFile.FieldType.int)) :: mw
theorem w_545 : (Jvm.Cond.code ({ cls := "FamilyRulesModel", name := "wide", desc := "([I)[I" } : Jvm.MethodName) prog_9_method_2_code (2 : Nat) (Option.some (Jvm.ClassFile.FieldType.array Jvm.ClassFile.FieldType.int))) ∈ mw := mw_t 545 (by decide +kernel) (by decide +kernel)
abbrev y_Mod_add : MethodName := ⟨"FamilyRulesModel", "add", "(III)I"⟩
abbrev c_Mod_add : ByteArray := prog_9_method_3_code
abbrev ws_Mod_add : List Cond := .code y_Mod_add prog_9_method_3_code 4 (Option.some Jvm.ClassFile.FieldType.int) :: mw
theorem w_542 : (Jvm.Cond.code ({ cls := "FamilyRulesModel", name := "add", desc := "(III)I" } : Jvm.MethodName) prog_9_method_3_code (4 : Nat) (Option.some Jvm.ClassFile.FieldType.int)) ∈ mw := mw_t 542 (by decide +kernel) (by decide +kernel)
abbrev y_Mod_second : MethodName := ⟨"FamilyRulesModel", "second", "(I)I"⟩
abbrev c_Mod_second : ByteArray := prog_9_method_4_code
abbrev ws_Mod_second : List Cond := .code y_Mod_second prog_9_method_4_code 2 (Option.some Jvm.ClassFile.FieldType.int) :: mw
theorem w_606 : (Jvm.Cond.code ({ cls := "FamilyRulesModel", name := "second", desc := "(I)I" } : Jvm.MethodName) prog_9_method_4_code (2 : Nat) (Option.some Jvm.ClassFile.FieldType.int)) ∈ mw := mw_t 606 (by decide +kernel) (by decide +kernel)
abbrev y_Mod_copy : MethodName := ⟨"FamilyRulesModel", "copy", "(I)V"⟩
abbrev c_Mod_copy : ByteArray := prog_9_method_5_code
abbrev ws_Mod_copy : List Cond := .code y_Mod_copy prog_9_method_5_code 5 (Option.none : Option Jvm.ClassFile.FieldType) :: mw
theorem w_570 : (Jvm.Cond.code ({ cls := "FamilyRulesModel", name := "copy", desc := "(I)V" } : Jvm.MethodName) prog_9_method_5_code (5 : Nat) (Option.none : Option Jvm.ClassFile.FieldType)) ∈ mw := mw_t 570 (by decide +kernel) (by decide +kernel)
abbrev y_Mod_measure : MethodName := ⟨"FamilyRulesModel", "measure", "(I)V"⟩
abbrev c_Mod_measure : ByteArray := prog_9_method_6_code
abbrev ws_Mod_measure : List Cond := .code y_Mod_measure prog_9_method_6_code 4 (Option.none : Option Jvm.ClassFile.FieldType) :: mw
theorem w_554 : (Jvm.Cond.code ({ cls := "FamilyRulesModel", name := "measure", desc := "(I)V" } : Jvm.MethodName) prog_9_method_6_code (4 : Nat) (Option.none : Option Jvm.ClassFile.FieldType)) ∈ mw := mw_t 554 (by decide +kernel) (by decide +kernel)
abbrev y_Mod_walk : MethodName := ⟨"FamilyRulesModel", "walk", "(I)V"⟩
abbrev c_Mod_walk : ByteArray := prog_9_method_7_code
abbrev ws_Mod_walk : List Cond := .code y_Mod_walk prog_9_method_7_code 3 (Option.none : Option Jvm.ClassFile.FieldType) :: mw
theorem w_602 : (Jvm.Cond.code ({ cls := "FamilyRulesModel", name := "walk", desc := "(I)V" } : Jvm.MethodName) prog_9_method_7_code (3 : Nat) (Option.none : Option Jvm.ClassFile.FieldType)) ∈ mw := mw_t 602 (by decide +kernel) (by decide +kernel)
abbrev y_Mod_isClosed : MethodName := ⟨"FamilyRulesModel", "isClosed", "(I)Z"⟩
abbrev c_Mod_isClosed : ByteArray := prog_9_method_8_code
abbrev ws_Mod_isClosed : List Cond := .code y_Mod_isClosed prog_9_method_8_code 4 (Option.some Jvm.ClassFile.FieldType.boolean) :: mw
theorem w_598 : (Jvm.Cond.code ({ cls := "FamilyRulesModel", name := "isClosed", desc := "(I)Z" } : Jvm.MethodName) prog_9_method_8_code (4 : Nat) (Option.some Jvm.ClassFile.FieldType.boolean)) ∈ mw := mw_t 598 (by decide +kernel) (by decide +kernel)
abbrev y_Mod_isTerm : MethodName := ⟨"FamilyRulesModel", "isTerm", "(I)Z"⟩
abbrev c_Mod_isTerm : ByteArray := prog_9_method_9_code
abbrev ws_Mod_isTerm : List Cond := .code y_Mod_isTerm prog_9_method_9_code 2 (Option.some Jvm.ClassFile.FieldType.boolean) :: mw
theorem w_562 : (Jvm.Cond.code ({ cls := "FamilyRulesModel", name := "isTerm", desc := "(I)Z" } : Jvm.MethodName) prog_9_method_9_code (2 : Nat) (Option.some Jvm.ClassFile.FieldType.boolean)) ∈ mw := mw_t 562 (by decide +kernel) (by decide +kernel)
abbrev y_Mod_term : MethodName := ⟨"FamilyRulesModel", "term", "(I)I"⟩
abbrev c_Mod_term : ByteArray := prog_9_method_10_code
abbrev ws_Mod_term : List Cond := .code y_Mod_term prog_9_method_10_code 2 (Option.some Jvm.ClassFile.FieldType.int) :: mw
theorem w_550 : (Jvm.Cond.code ({ cls := "FamilyRulesModel", name := "term", desc := "(I)I" } : Jvm.MethodName) prog_9_method_10_code (2 : Nat) (Option.some Jvm.ClassFile.FieldType.int)) ∈ mw := mw_t 550 (by decide +kernel) (by decide +kernel)
abbrev y_Mod_leaf : MethodName := ⟨"FamilyRulesModel", "leaf", "(III)I"⟩
abbrev c_Mod_leaf : ByteArray := prog_9_method_11_code
abbrev ws_Mod_leaf : List Cond := .code y_Mod_leaf prog_9_method_11_code 6 (Option.some Jvm.ClassFile.FieldType.int) :: mw
theorem w_538 : (Jvm.Cond.code ({ cls := "FamilyRulesModel", name := "leaf", desc := "(III)I" } : Jvm.MethodName) prog_9_method_11_code (6 : Nat) (Option.some Jvm.ClassFile.FieldType.int)) ∈ mw := mw_t 538 (by decide +kernel) (by decide +kernel)
abbrev y_Mod_two : MethodName := ⟨"FamilyRulesModel", "two", "(IIII)I"⟩
abbrev c_Mod_two : ByteArray := prog_9_method_12_code
abbrev ws_Mod_two : List Cond := .code y_Mod_two prog_9_method_12_code 6 (Option.some Jvm.ClassFile.FieldType.int) :: mw
theorem w_566 : (Jvm.Cond.code ({ cls := "FamilyRulesModel", name := "two", desc := "(IIII)I" } : Jvm.MethodName) prog_9_method_12_code (6 : Nat) (Option.some Jvm.ClassFile.FieldType.int)) ∈ mw := mw_t 566 (by decide +kernel) (by decide +kernel)
abbrev y_Mod_apply : MethodName := ⟨"FamilyRulesModel", "apply", "(II)I"⟩
abbrev c_Mod_apply : ByteArray := prog_9_method_13_code
abbrev ws_Mod_apply : List Cond := .code y_Mod_apply prog_9_method_13_code 3 (Option.some Jvm.ClassFile.FieldType.int) :: mw
theorem w_558 : (Jvm.Cond.code ({ cls := "FamilyRulesModel", name := "apply", desc := "(II)I" } : Jvm.MethodName) prog_9_method_13_code (3 : Nat) (Option.some Jvm.ClassFile.FieldType.int)) ∈ mw := mw_t 558 (by decide +kernel) (by decide +kernel)
abbrev y_Mod_binder : MethodName := ⟨"FamilyRulesModel", "binder", "(IIII)I"⟩
abbrev c_Mod_binder : ByteArray := prog_9_method_14_code
abbrev ws_Mod_binder : List Cond := .code y_Mod_binder prog_9_method_14_code 5 (Option.some Jvm.ClassFile.FieldType.int) :: mw
theorem w_574 : (Jvm.Cond.code ({ cls := "FamilyRulesModel", name := "binder", desc := "(IIII)I" } : Jvm.MethodName) prog_9_method_14_code (5 : Nat) (Option.some Jvm.ClassFile.FieldType.int)) ∈ mw := mw_t 574 (by decide +kernel) (by decide +kernel)
abbrev y_Mod_terms : MethodName := ⟨"FamilyRulesModel", "terms", "()I"⟩
abbrev c_Mod_terms : ByteArray := prog_9_method_15_code
abbrev ws_Mod_terms : List Cond := .code y_Mod_terms prog_9_method_15_code 1 (Option.some Jvm.ClassFile.FieldType.int) :: mw
theorem w_578 : (Jvm.Cond.code ({ cls := "FamilyRulesModel", name := "terms", desc := "()I" } : Jvm.MethodName) prog_9_method_15_code (1 : Nat) (Option.some Jvm.ClassFile.FieldType.int)) ∈ mw := mw_t 578 (by decide +kernel) (by decide +kernel)
abbrev y_Mod_part3 : MethodName := ⟨"FamilyRulesModel", "part", "(III)I"⟩
abbrev c_Mod_part3 : ByteArray := prog_9_method_16_code
abbrev ws_Mod_part3 : List Cond := .code y_Mod_part3 prog_9_method_16_code 5 (Option.some Jvm.ClassFile.FieldType.int) :: mw
theorem w_582 : (Jvm.Cond.code ({ cls := "FamilyRulesModel", name := "part", desc := "(III)I" } : Jvm.MethodName) prog_9_method_16_code (5 : Nat) (Option.some Jvm.ClassFile.FieldType.int)) ∈ mw := mw_t 582 (by decide +kernel) (by decide +kernel)
abbrev y_Mod_global : MethodName := ⟨"FamilyRulesModel", "global", "(III)I"⟩
abbrev c_Mod_global : ByteArray := prog_9_method_17_code
abbrev ws_Mod_global : List Cond := .code y_Mod_global prog_9_method_17_code 4 (Option.some Jvm.ClassFile.FieldType.int) :: mw
theorem w_590 : (Jvm.Cond.code ({ cls := "FamilyRulesModel", name := "global", desc := "(III)I" } : Jvm.MethodName) prog_9_method_17_code (4 : Nat) (Option.some Jvm.ClassFile.FieldType.int)) ∈ mw := mw_t 590 (by decide +kernel) (by decide +kernel)
abbrev y_Mod_axiom : MethodName := ⟨"FamilyRulesModel", "axiom", "()I"⟩
abbrev c_Mod_axiom : ByteArray := prog_9_method_18_code
abbrev ws_Mod_axiom : List Cond := .code y_Mod_axiom prog_9_method_18_code 1 (Option.some Jvm.ClassFile.FieldType.int) :: mw
theorem w_586 : (Jvm.Cond.code ({ cls := "FamilyRulesModel", name := "axiom", desc := "()I" } : Jvm.MethodName) prog_9_method_18_code (1 : Nat) (Option.some Jvm.ClassFile.FieldType.int)) ∈ mw := mw_t 586 (by decide +kernel) (by decide +kernel)
abbrev y_Mod_alls : MethodName := ⟨"FamilyRulesModel", "alls", "(I)I"⟩
abbrev c_Mod_alls : ByteArray := prog_9_method_19_code
abbrev ws_Mod_alls : List Cond := .code y_Mod_alls prog_9_method_19_code 4 (Option.some Jvm.ClassFile.FieldType.int) :: mw
theorem w_610 : (Jvm.Cond.code ({ cls := "FamilyRulesModel", name := "alls", desc := "(I)I" } : Jvm.MethodName) prog_9_method_19_code (4 : Nat) (Option.some Jvm.ClassFile.FieldType.int)) ∈ mw := mw_t 610 (by decide +kernel) (by decide +kernel)
abbrev y_Mod_under : MethodName := ⟨"FamilyRulesModel", "under", "(II)I"⟩
abbrev c_Mod_under : ByteArray := prog_9_method_20_code
abbrev ws_Mod_under : List Cond := .code y_Mod_under prog_9_method_20_code 5 (Option.some Jvm.ClassFile.FieldType.int) :: mw
theorem w_614 : (Jvm.Cond.code ({ cls := "FamilyRulesModel", name := "under", desc := "(II)I" } : Jvm.MethodName) prog_9_method_20_code (5 : Nat) (Option.some Jvm.ClassFile.FieldType.int)) ∈ mw := mw_t 614 (by decide +kernel) (by decide +kernel)
abbrev y_Mod_family : MethodName := ⟨"FamilyRulesModel", "family", "(III)I"⟩
abbrev c_Mod_family : ByteArray := prog_9_method_21_code
abbrev ws_Mod_family : List Cond := .code y_Mod_family prog_9_method_21_code 7 (Option.some Jvm.ClassFile.FieldType.int) :: mw
theorem w_594 : (Jvm.Cond.code ({ cls := "FamilyRulesModel", name := "family", desc := "(III)I" } : Jvm.MethodName) prog_9_method_21_code (7 : Nat) (Option.some Jvm.ClassFile.FieldType.int)) ∈ mw := mw_t 594 (by decide +kernel) (by decide +kernel)
abbrev y_Mod_isPut : MethodName := ⟨"FamilyRulesModel", "isPut", "(III)Z"⟩
abbrev c_Mod_isPut : ByteArray := prog_9_method_22_code
abbrev ws_Mod_isPut : List Cond := .code y_Mod_isPut prog_9_method_22_code 7 (Option.some Jvm.ClassFile.FieldType.boolean) :: mw
theorem w_630 : (Jvm.Cond.code ({ cls := "FamilyRulesModel", name := "isPut", desc := "(III)Z" } : Jvm.MethodName) prog_9_method_22_code (7 : Nat) (Option.some Jvm.ClassFile.FieldType.boolean)) ∈ mw := mw_t 630 (by decide +kernel) (by decide +kernel)
abbrev y_Mod_has : MethodName := ⟨"FamilyRulesModel", "has", "(II)Z"⟩
abbrev c_Mod_has : ByteArray := prog_9_method_23_code
abbrev ws_Mod_has : List Cond := .code y_Mod_has prog_9_method_23_code 5 (Option.some Jvm.ClassFile.FieldType.boolean) :: mw
theorem w_626 : (Jvm.Cond.code ({ cls := "FamilyRulesModel", name := "has", desc := "(II)Z" } : Jvm.MethodName) prog_9_method_23_code (5 : Nat) (Option.some Jvm.ClassFile.FieldType.boolean)) ∈ mw := mw_t 626 (by decide +kernel) (by decide +kernel)
abbrev y_Mod_judge : MethodName := ⟨"FamilyRulesModel", "judge", "(III)I"⟩
abbrev c_Mod_judge : ByteArray := prog_9_method_24_code
abbrev ws_Mod_judge : List Cond := .code y_Mod_judge prog_9_method_24_code 8 (Option.some Jvm.ClassFile.FieldType.int) :: mw
theorem w_622 : (Jvm.Cond.code ({ cls := "FamilyRulesModel", name := "judge", desc := "(III)I" } : Jvm.MethodName) prog_9_method_24_code (8 : Nat) (Option.some Jvm.ClassFile.FieldType.int)) ∈ mw := mw_t 622 (by decide +kernel) (by decide +kernel)
abbrev y_Mod_index : MethodName := ⟨"FamilyRulesModel", "index", "(III)I"⟩
abbrev c_Mod_index : ByteArray := prog_9_method_25_code
abbrev ws_Mod_index : List Cond := .code y_Mod_index prog_9_method_25_code 6 (Option.some Jvm.ClassFile.FieldType.int) :: mw
theorem w_634 : (Jvm.Cond.code ({ cls := "FamilyRulesModel", name := "index", desc := "(III)I" } : Jvm.MethodName) prog_9_method_25_code (6 : Nat) (Option.some Jvm.ClassFile.FieldType.int)) ∈ mw := mw_t 634 (by decide +kernel) (by decide +kernel)
abbrev y_Mod_positive : MethodName := ⟨"FamilyRulesModel", "positive", "(III)I"⟩
abbrev c_Mod_positive : ByteArray := prog_9_method_26_code
abbrev ws_Mod_positive : List Cond := .code y_Mod_positive prog_9_method_26_code 4 (Option.some Jvm.ClassFile.FieldType.int) :: mw
theorem w_618 : (Jvm.Cond.code ({ cls := "FamilyRulesModel", name := "positive", desc := "(III)I" } : Jvm.MethodName) prog_9_method_26_code (4 : Nat) (Option.some Jvm.ClassFile.FieldType.int)) ∈ mw := mw_t 618 (by decide +kernel) (by decide +kernel)
abbrev y_Mod_constructor : MethodName := ⟨"FamilyRulesModel", "constructor", "(II)I"⟩
abbrev c_Mod_constructor : ByteArray := prog_9_method_27_code
abbrev ws_Mod_constructor : List Cond := .code y_Mod_constructor prog_9_method_27_code 8 (Option.some Jvm.ClassFile.FieldType.int) :: mw
theorem w_638 : (Jvm.Cond.code ({ cls := "FamilyRulesModel", name := "constructor", desc := "(II)I" } : Jvm.MethodName) prog_9_method_27_code (8 : Nat) (Option.some Jvm.ClassFile.FieldType.int)) ∈ mw := mw_t 638 (by decide +kernel) (by decide +kernel)
abbrev y_Mod_about : MethodName := ⟨"FamilyRulesModel", "about", "(II)I"⟩
abbrev c_Mod_about : ByteArray := prog_9_method_28_code
abbrev ws_Mod_about : List Cond := .code y_Mod_about prog_9_method_28_code 3 (Option.some Jvm.ClassFile.FieldType.int) :: mw
theorem w_642 : (Jvm.Cond.code ({ cls := "FamilyRulesModel", name := "about", desc := "(II)I" } : Jvm.MethodName) prog_9_method_28_code (3 : Nat) (Option.some Jvm.ClassFile.FieldType.int)) ∈ mw := mw_t 642 (by decide +kernel) (by decide +kernel)
abbrev y_Mod_made : MethodName := ⟨"FamilyRulesModel", "made", "(I)V"⟩
abbrev c_Mod_made : ByteArray := prog_9_method_29_code
abbrev ws_Mod_made : List Cond := .code y_Mod_made prog_9_method_29_code 2 (Option.none : Option Jvm.ClassFile.FieldType) :: mw
theorem w_674 : (Jvm.Cond.code ({ cls := "FamilyRulesModel", name := "made", desc := "(I)V" } : Jvm.MethodName) prog_9_method_29_code (2 : Nat) (Option.none : Option Jvm.ClassFile.FieldType)) ∈ mw := mw_t 674 (by decide +kernel) (by decide +kernel)
abbrev y_Mod_applications : MethodName := ⟨"FamilyRulesModel", "applications", "(I)V"⟩
abbrev c_Mod_applications : ByteArray := prog_9_method_30_code
abbrev ws_Mod_applications : List Cond := .code y_Mod_applications prog_9_method_30_code 3 (Option.none : Option Jvm.ClassFile.FieldType) :: mw
theorem w_679 : (Jvm.Cond.code ({ cls := "FamilyRulesModel", name := "applications", desc := "(I)V" } : Jvm.MethodName) prog_9_method_30_code (3 : Nat) (Option.none : Option Jvm.ClassFile.FieldType)) ∈ mw := mw_t 679 (by decide +kernel) (by decide +kernel)
abbrev y_Mod_level : MethodName := ⟨"FamilyRulesModel", "level", "(II)V"⟩
abbrev c_Mod_level : ByteArray := prog_9_method_31_code
abbrev ws_Mod_level : List Cond := .code y_Mod_level prog_9_method_31_code 3 (Option.none : Option Jvm.ClassFile.FieldType) :: mw
theorem w_658 : (Jvm.Cond.code ({ cls := "FamilyRulesModel", name := "level", desc := "(II)V" } : Jvm.MethodName) prog_9_method_31_code (3 : Nat) (Option.none : Option Jvm.ClassFile.FieldType)) ∈ mw := mw_t 658 (by decide +kernel) (by decide +kernel)
abbrev y_Mod_piece : MethodName := ⟨"FamilyRulesModel", "piece", "(II)V"⟩
abbrev c_Mod_piece : ByteArray := prog_9_method_32_code
abbrev ws_Mod_piece : List Cond := .code y_Mod_piece prog_9_method_32_code 6 (Option.none : Option Jvm.ClassFile.FieldType) :: mw
theorem w_670 : (Jvm.Cond.code ({ cls := "FamilyRulesModel", name := "piece", desc := "(II)V" } : Jvm.MethodName) prog_9_method_32_code (6 : Nat) (Option.none : Option Jvm.ClassFile.FieldType)) ∈ mw := mw_t 670 (by decide +kernel) (by decide +kernel)
abbrev y_Mod_binderOf : MethodName := ⟨"FamilyRulesModel", "binderOf", "(IIII)I"⟩
abbrev c_Mod_binderOf : ByteArray := prog_9_method_33_code
abbrev ws_Mod_binderOf : List Cond := .code y_Mod_binderOf prog_9_method_33_code 5 (Option.some Jvm.ClassFile.FieldType.int) :: mw
theorem w_666 : (Jvm.Cond.code ({ cls := "FamilyRulesModel", name := "binderOf", desc := "(IIII)I" } : Jvm.MethodName) prog_9_method_33_code (5 : Nat) (Option.some Jvm.ClassFile.FieldType.int)) ∈ mw := mw_t 666 (by decide +kernel) (by decide +kernel)
abbrev y_Mod_settle : MethodName := ⟨"FamilyRulesModel", "settle", "(I)V"⟩
abbrev c_Mod_settle : ByteArray := prog_9_method_34_code
abbrev ws_Mod_settle : List Cond := .code y_Mod_settle prog_9_method_34_code 3 (Option.none : Option Jvm.ClassFile.FieldType) :: mw
theorem w_683 : (Jvm.Cond.code ({ cls := "FamilyRulesModel", name := "settle", desc := "(I)V" } : Jvm.MethodName) prog_9_method_34_code (3 : Nat) (Option.none : Option Jvm.ClassFile.FieldType)) ∈ mw := mw_t 683 (by decide +kernel) (by decide +kernel)
abbrev y_Mod_argument : MethodName := ⟨"FamilyRulesModel", "argument", "(II)I"⟩
abbrev c_Mod_argument : ByteArray := prog_9_method_35_code
abbrev ws_Mod_argument : List Cond := .code y_Mod_argument prog_9_method_35_code 3 (Option.some Jvm.ClassFile.FieldType.int) :: mw
theorem w_654 : (Jvm.Cond.code ({ cls := "FamilyRulesModel", name := "argument", desc := "(II)I" } : Jvm.MethodName) prog_9_method_35_code (3 : Nat) (Option.some Jvm.ClassFile.FieldType.int)) ∈ mw := mw_t 654 (by decide +kernel) (by decide +kernel)
abbrev y_Mod_isRecursive : MethodName := ⟨"FamilyRulesModel", "isRecursive", "(II)Z"⟩
abbrev c_Mod_isRecursive : ByteArray := prog_9_method_36_code
abbrev ws_Mod_isRecursive : List Cond := .code y_Mod_isRecursive prog_9_method_36_code 3 (Option.some Jvm.ClassFile.FieldType.boolean) :: mw
theorem w_650 : (Jvm.Cond.code ({ cls := "FamilyRulesModel", name := "isRecursive", desc := "(II)Z" } : Jvm.MethodName) prog_9_method_36_code (3 : Nat) (Option.some Jvm.ClassFile.FieldType.boolean)) ∈ mw := mw_t 650 (by decide +kernel) (by decide +kernel)
abbrev y_Mod_brings : MethodName := ⟨"FamilyRulesModel", "brings", "(II)I"⟩
abbrev c_Mod_brings : ByteArray := prog_9_method_37_code
abbrev ws_Mod_brings : List Cond := .code y_Mod_brings prog_9_method_37_code 7 (Option.some Jvm.ClassFile.FieldType.int) :: mw
theorem w_646 : (Jvm.Cond.code ({ cls := "FamilyRulesModel", name := "brings", desc := "(II)I" } : Jvm.MethodName) prog_9_method_37_code (7 : Nat) (Option.some Jvm.ClassFile.FieldType.int)) ∈ mw := mw_t 646 (by decide +kernel) (by decide +kernel)
abbrev y_Mod_brought : MethodName := ⟨"FamilyRulesModel", "brought", "(IIIIII)V"⟩
abbrev c_Mod_brought : ByteArray := prog_9_method_38_code
abbrev ws_Mod_brought : List Cond := .code y_Mod_brought prog_9_method_38_code 12 (Option.none : Option Jvm.ClassFile.FieldType) :: mw
theorem w_662 : (Jvm.Cond.code ({ cls := "FamilyRulesModel", name := "brought", desc := "(IIIIII)V" } : Jvm.MethodName) prog_9_method_38_code (12 : Nat) (Option.none : Option Jvm.ClassFile.FieldType)) ∈ mw := mw_t 662 (by decide +kernel) (by decide +kernel)
abbrev y_Mod_isWhole : MethodName := ⟨"FamilyRulesModel", "isWhole", "(I)Z"⟩
abbrev c_Mod_isWhole : ByteArray := prog_9_method_39_code
abbrev ws_Mod_isWhole : List Cond := .code y_Mod_isWhole prog_9_method_39_code 4 (Option.some Jvm.ClassFile.FieldType.boolean) :: mw
theorem w_692 : (Jvm.Cond.code ({ cls := "FamilyRulesModel", name := "isWhole", desc := "(I)Z" } : Jvm.MethodName) prog_9_method_39_code (4 : Nat) (Option.some Jvm.ClassFile.FieldType.boolean)) ∈ mw := mw_t 692 (by decide +kernel) (by decide +kernel)
abbrev y_Mod_put : MethodName := ⟨"FamilyRulesModel", "put", "(II)V"⟩
abbrev c_Mod_put : ByteArray := prog_9_method_40_code
abbrev ws_Mod_put : List Cond := .code y_Mod_put prog_9_method_40_code 4 (Option.none : Option Jvm.ClassFile.FieldType) :: mw
theorem w_700 : (Jvm.Cond.code ({ cls := "FamilyRulesModel", name := "put", desc := "(II)V" } : Jvm.MethodName) prog_9_method_40_code (4 : Nat) (Option.none : Option Jvm.ClassFile.FieldType)) ∈ mw := mw_t 700 (by decide +kernel) (by decide +kernel)
abbrev y_Mod_write : MethodName := ⟨"FamilyRulesModel", "write", "(II)V"⟩
abbrev c_Mod_write : ByteArray := prog_9_method_41_code
abbrev ws_Mod_write : List Cond := .code y_Mod_write prog_9_method_41_code 9 (Option.none : Option Jvm.ClassFile.FieldType) :: mw
theorem w_696 : (Jvm.Cond.code ({ cls := "FamilyRulesModel", name := "write", desc := "(II)V" } : Jvm.MethodName) prog_9_method_41_code (9 : Nat) (Option.none : Option Jvm.ClassFile.FieldType)) ∈ mw := mw_t 696 (by decide +kernel) (by decide +kernel)
abbrev y_Mod_part2 : MethodName := ⟨"FamilyRulesModel", "part", "(II)V"⟩
abbrev c_Mod_part2 : ByteArray := prog_9_method_42_code
abbrev ws_Mod_part2 : List Cond := .code y_Mod_part2 prog_9_method_42_code 10 (Option.none : Option Jvm.ClassFile.FieldType) :: mw
theorem w_704 : (Jvm.Cond.code ({ cls := "FamilyRulesModel", name := "part", desc := "(II)V" } : Jvm.MethodName) prog_9_method_42_code (10 : Nat) (Option.none : Option Jvm.ClassFile.FieldType)) ∈ mw := mw_t 704 (by decide +kernel) (by decide +kernel)
abbrev y_Mod_size : MethodName := ⟨"FamilyRulesModel", "size", "(I)I"⟩
abbrev c_Mod_size : ByteArray := prog_9_method_43_code
abbrev ws_Mod_size : List Cond := .code y_Mod_size prog_9_method_43_code 4 (Option.some Jvm.ClassFile.FieldType.int) :: mw
theorem w_688 : (Jvm.Cond.code ({ cls := "FamilyRulesModel", name := "size", desc := "(I)I" } : Jvm.MethodName) prog_9_method_43_code (4 : Nat) (Option.some Jvm.ClassFile.FieldType.int)) ∈ mw := mw_t 688 (by decide +kernel) (by decide +kernel)
abbrev y_Mod_type : MethodName := ⟨"FamilyRulesModel", "type", "(II)I"⟩
abbrev c_Mod_type : ByteArray := prog_9_method_44_code
abbrev ws_Mod_type : List Cond := .code y_Mod_type prog_9_method_44_code 4 (Option.some Jvm.ClassFile.FieldType.int) :: mw
theorem w_708 : (Jvm.Cond.code ({ cls := "FamilyRulesModel", name := "type", desc := "(II)I" } : Jvm.MethodName) prog_9_method_44_code (4 : Nat) (Option.some Jvm.ClassFile.FieldType.int)) ∈ mw := mw_t 708 (by decide +kernel) (by decide +kernel)
abbrev y_Global_init : MethodName := ⟨"FamilyRules$Global", "<init>", "(IIIII)V"⟩
abbrev c_Global_init : ByteArray := prog_2_method_1_code
abbrev ws_Global_init : List Cond := .code y_Global_init prog_2_method_1_code 6 (Option.none : Option Jvm.ClassFile.FieldType) :: mw
theorem w_225 : (Jvm.Cond.code ({ cls := "FamilyRules$Global", name := "<init>", desc := "(IIIII)V" } : Jvm.MethodName) prog_2_method_1_code (6 : Nat) (Option.none : Option Jvm.ClassFile.FieldType)) ∈ mw := mw_t 225 (by decide +kernel) (by decide +kernel)
abbrev y_Global_constructorAt : MethodName := ⟨"FamilyRules$Global", "constructorAt", "(I)LFamilyRules$Global;"⟩
abbrev c_Global_constructorAt : ByteArray := prog_2_method_2_code
abbrev ws_Global_constructorAt : List Cond := .code y_Global_constructorAt prog_2_method_2_code 2 (Option.some (Jvm.ClassFile.FieldType.object "FamilyRules$Global")) :: mw
theorem w_443 : (Jvm.Cond.code ({ cls := "FamilyRules$Global", name := "constructorAt", desc := "(I)LFamilyRules$Global;" } : Jvm.MethodName) prog_2_method_2_code (2 : Nat) (Option.some (Jvm.ClassFile.FieldType.object "FamilyRules$Global"))) ∈ mw := mw_t 443 (by decide +kernel) (by decide +kernel)
abbrev y_Global_isWholeTold : MethodName := ⟨"FamilyRules$Global", "isWholeTold", "()Z"⟩
abbrev c_Global_isWholeTold : ByteArray := prog_2_method_3_code
abbrev ws_Global_isWholeTold : List Cond := .code y_Global_isWholeTold prog_2_method_3_code 3 (Option.some Jvm.ClassFile.FieldType.boolean) :: mw
theorem w_439 : (Jvm.Cond.code ({ cls := "FamilyRules$Global", name := "isWholeTold", desc := "()Z" } : Jvm.MethodName) prog_2_method_3_code (3 : Nat) (Option.some Jvm.ClassFile.FieldType.boolean)) ∈ mw := mw_t 439 (by decide +kernel) (by decide +kernel)
abbrev y_Maker_init : MethodName := ⟨"FamilyRules$Maker", "<init>", "(LFamilyRules$Reader;)V"⟩
abbrev c_Maker_init : ByteArray := prog_3_method_1_code
abbrev ws_Maker_init : List Cond := .code y_Maker_init prog_3_method_1_code 2 (Option.none : Option Jvm.ClassFile.FieldType) :: mw
theorem w_83 : (Jvm.Cond.code ({ cls := "FamilyRules$Maker", name := "<init>", desc := "(LFamilyRules$Reader;)V" } : Jvm.MethodName) prog_3_method_1_code (2 : Nat) (Option.none : Option Jvm.ClassFile.FieldType)) ∈ mw := mw_t 83 (by decide +kernel) (by decide +kernel)
abbrev y_Maker_begin : MethodName := ⟨"FamilyRules$Maker", "begin", "(LFamilyRules$Term;)V"⟩
abbrev c_Maker_begin : ByteArray := prog_3_method_2_code
abbrev ws_Maker_begin : List Cond := .code y_Maker_begin prog_3_method_2_code 2 (Option.none : Option Jvm.ClassFile.FieldType) :: mw
theorem w_374 : (Jvm.Cond.code ({ cls := "FamilyRules$Maker", name := "begin", desc := "(LFamilyRules$Term;)V" } : Jvm.MethodName) prog_3_method_2_code (2 : Nat) (Option.none : Option Jvm.ClassFile.FieldType)) ∈ mw := mw_t 374 (by decide +kernel) (by decide +kernel)
abbrev y_Maker_writeBrings : MethodName := ⟨"FamilyRules$Maker", "writeBrings", "(LFamilyRules$Global;I)V"⟩
abbrev c_Maker_writeBrings : ByteArray := prog_3_method_3_code
abbrev ws_Maker_writeBrings : List Cond := .code y_Maker_writeBrings prog_3_method_3_code 7 (Option.none : Option Jvm.ClassFile.FieldType) :: mw
theorem w_378 : (Jvm.Cond.code ({ cls := "FamilyRules$Maker", name := "writeBrings", desc := "(LFamilyRules$Global;I)V" } : Jvm.MethodName) prog_3_method_3_code (7 : Nat) (Option.none : Option Jvm.ClassFile.FieldType)) ∈ mw := mw_t 378 (by decide +kernel) (by decide +kernel)
abbrev y_Maker_writeRecType : MethodName := ⟨"FamilyRules$Maker", "writeRecType", "(LFamilyRules$Global;I)V"⟩
abbrev c_Maker_writeRecType : ByteArray := prog_3_method_4_code
abbrev ws_Maker_writeRecType : List Cond := .code y_Maker_writeRecType prog_3_method_4_code 7 (Option.none : Option Jvm.ClassFile.FieldType) :: mw
theorem w_447 : (Jvm.Cond.code ({ cls := "FamilyRules$Maker", name := "writeRecType", desc := "(LFamilyRules$Global;I)V" } : Jvm.MethodName) prog_3_method_4_code (7 : Nat) (Option.none : Option Jvm.ClassFile.FieldType)) ∈ mw := mw_t 447 (by decide +kernel) (by decide +kernel)
abbrev y_Maker_writeCase : MethodName := ⟨"FamilyRules$Maker", "writeCase", "(LFamilyRules$Global;LFamilyRules$Global;)V"⟩
abbrev c_Maker_writeCase : ByteArray := prog_3_method_5_code
abbrev ws_Maker_writeCase : List Cond := .code y_Maker_writeCase prog_3_method_5_code 9 (Option.none : Option Jvm.ClassFile.FieldType) :: mw
theorem w_460 : (Jvm.Cond.code ({ cls := "FamilyRules$Maker", name := "writeCase", desc := "(LFamilyRules$Global;LFamilyRules$Global;)V" } : Jvm.MethodName) prog_3_method_5_code (9 : Nat) (Option.none : Option Jvm.ClassFile.FieldType)) ∈ mw := mw_t 460 (by decide +kernel) (by decide +kernel)
abbrev y_Maker_writeBrought : MethodName := ⟨"FamilyRules$Maker", "writeBrought", "(LFamilyRules$Global;IIII)V"⟩
abbrev c_Maker_writeBrought : ByteArray := prog_3_method_6_code
abbrev ws_Maker_writeBrought : List Cond := .code y_Maker_writeBrought prog_3_method_6_code 10 (Option.none : Option Jvm.ClassFile.FieldType) :: mw
theorem w_394 : (Jvm.Cond.code ({ cls := "FamilyRules$Maker", name := "writeBrought", desc := "(LFamilyRules$Global;IIII)V" } : Jvm.MethodName) prog_3_method_6_code (10 : Nat) (Option.none : Option Jvm.ClassFile.FieldType)) ∈ mw := mw_t 394 (by decide +kernel) (by decide +kernel)
abbrev y_Maker_writeAlls : MethodName := ⟨"FamilyRules$Maker", "writeAlls", "(III)V"⟩
abbrev c_Maker_writeAlls : ByteArray := prog_3_method_7_code
abbrev ws_Maker_writeAlls : List Cond := .code y_Maker_writeAlls prog_3_method_7_code 7 (Option.none : Option Jvm.ClassFile.FieldType) :: mw
theorem w_451 : (Jvm.Cond.code ({ cls := "FamilyRules$Maker", name := "writeAlls", desc := "(III)V" } : Jvm.MethodName) prog_3_method_7_code (7 : Nat) (Option.none : Option Jvm.ClassFile.FieldType)) ∈ mw := mw_t 451 (by decide +kernel) (by decide +kernel)
abbrev y_Maker_writeGlobal : MethodName := ⟨"FamilyRules$Maker", "writeGlobal", "(LFamilyRules$Global;III)V"⟩
abbrev c_Maker_writeGlobal : ByteArray := prog_3_method_8_code
abbrev ws_Maker_writeGlobal : List Cond := .code y_Maker_writeGlobal prog_3_method_8_code 5 (Option.none : Option Jvm.ClassFile.FieldType) :: mw
theorem w_455 : (Jvm.Cond.code ({ cls := "FamilyRules$Maker", name := "writeGlobal", desc := "(LFamilyRules$Global;III)V" } : Jvm.MethodName) prog_3_method_8_code (5 : Nat) (Option.none : Option Jvm.ClassFile.FieldType)) ∈ mw := mw_t 455 (by decide +kernel) (by decide +kernel)
abbrev y_Maker_open : MethodName := ⟨"FamilyRules$Maker", "open", "(LFamilyRules$Global;)Z"⟩
abbrev c_Maker_open : ByteArray := prog_3_method_9_code
abbrev ws_Maker_open : List Cond := .code y_Maker_open prog_3_method_9_code 2 (Option.some Jvm.ClassFile.FieldType.boolean) :: mw
theorem w_382 : (Jvm.Cond.code ({ cls := "FamilyRules$Maker", name := "open", desc := "(LFamilyRules$Global;)Z" } : Jvm.MethodName) prog_3_method_9_code (2 : Nat) (Option.some Jvm.ClassFile.FieldType.boolean)) ∈ mw := mw_t 382 (by decide +kernel) (by decide +kernel)
abbrev y_Maker_lift : MethodName := ⟨"FamilyRules$Maker", "lift", "(III)V"⟩
abbrev c_Maker_lift : ByteArray := prog_3_method_10_code
abbrev ws_Maker_lift : List Cond := .code y_Maker_lift prog_3_method_10_code 4 (Option.none : Option Jvm.ClassFile.FieldType) :: mw
theorem w_390 : (Jvm.Cond.code ({ cls := "FamilyRules$Maker", name := "lift", desc := "(III)V" } : Jvm.MethodName) prog_3_method_10_code (4 : Nat) (Option.none : Option Jvm.ClassFile.FieldType)) ∈ mw := mw_t 390 (by decide +kernel) (by decide +kernel)
abbrev y_Maker_copy : MethodName := ⟨"FamilyRules$Maker", "copy", "(II)V"⟩
abbrev c_Maker_copy : ByteArray := prog_3_method_11_code
abbrev ws_Maker_copy : List Cond := .code y_Maker_copy prog_3_method_11_code 4 (Option.none : Option Jvm.ClassFile.FieldType) :: mw
theorem w_405 : (Jvm.Cond.code ({ cls := "FamilyRules$Maker", name := "copy", desc := "(II)V" } : Jvm.MethodName) prog_3_method_11_code (4 : Nat) (Option.none : Option Jvm.ClassFile.FieldType)) ∈ mw := mw_t 405 (by decide +kernel) (by decide +kernel)
abbrev y_Maker_liftedNumber : MethodName := ⟨"FamilyRules$Maker", "liftedNumber", "(I)I"⟩
abbrev c_Maker_liftedNumber : ByteArray := prog_3_method_12_code
abbrev ws_Maker_liftedNumber : List Cond := .code y_Maker_liftedNumber prog_3_method_12_code 4 (Option.some Jvm.ClassFile.FieldType.int) :: mw
theorem w_410 : (Jvm.Cond.code ({ cls := "FamilyRules$Maker", name := "liftedNumber", desc := "(I)I" } : Jvm.MethodName) prog_3_method_12_code (4 : Nat) (Option.some Jvm.ClassFile.FieldType.int)) ∈ mw := mw_t 410 (by decide +kernel) (by decide +kernel)
abbrev y_Maker_put : MethodName := ⟨"FamilyRules$Maker", "put", "(III)V"⟩
abbrev c_Maker_put : ByteArray := prog_3_method_13_code
abbrev ws_Maker_put : List Cond := .code y_Maker_put prog_3_method_13_code 4 (Option.none : Option Jvm.ClassFile.FieldType) :: mw
theorem w_399 : (Jvm.Cond.code ({ cls := "FamilyRules$Maker", name := "put", desc := "(III)V" } : Jvm.MethodName) prog_3_method_13_code (4 : Nat) (Option.none : Option Jvm.ClassFile.FieldType)) ∈ mw := mw_t 399 (by decide +kernel) (by decide +kernel)
abbrev y_Maker_putApplications : MethodName := ⟨"FamilyRules$Maker", "putApplications", "(I)V"⟩
abbrev c_Maker_putApplications : ByteArray := prog_3_method_14_code
abbrev ws_Maker_putApplications : List Cond := .code y_Maker_putApplications prog_3_method_14_code 3 (Option.none : Option Jvm.ClassFile.FieldType) :: mw
theorem w_419 : (Jvm.Cond.code ({ cls := "FamilyRules$Maker", name := "putApplications", desc := "(I)V" } : Jvm.MethodName) prog_3_method_14_code (3 : Nat) (Option.none : Option Jvm.ClassFile.FieldType)) ∈ mw := mw_t 419 (by decide +kernel) (by decide +kernel)
abbrev y_Maker_putVariables : MethodName := ⟨"FamilyRules$Maker", "putVariables", "(II)V"⟩
abbrev c_Maker_putVariables : ByteArray := prog_3_method_15_code
abbrev ws_Maker_putVariables : List Cond := .code y_Maker_putVariables prog_3_method_15_code 4 (Option.none : Option Jvm.ClassFile.FieldType) :: mw
theorem w_431 : (Jvm.Cond.code ({ cls := "FamilyRules$Maker", name := "putVariables", desc := "(II)V" } : Jvm.MethodName) prog_3_method_15_code (4 : Nat) (Option.none : Option Jvm.ClassFile.FieldType)) ∈ mw := mw_t 431 (by decide +kernel) (by decide +kernel)
abbrev y_Reader_init : MethodName := ⟨"FamilyRules$Reader", "<init>", "()V"⟩
abbrev c_Reader_init : ByteArray := prog_4_method_1_code
abbrev ws_Reader_init : List Cond := .code y_Reader_init prog_4_method_1_code 1 (Option.none : Option Jvm.ClassFile.FieldType) :: mw
theorem w_23 : (Jvm.Cond.code ({ cls := "FamilyRules$Reader", name := "<init>", desc := "()V" } : Jvm.MethodName) prog_4_method_1_code (1 : Nat) (Option.none : Option Jvm.ClassFile.FieldType)) ∈ mw := mw_t 23 (by decide +kernel) (by decide +kernel)
abbrev y_Reader_readShape : MethodName := ⟨"FamilyRules$Reader", "readShape", "(LFamilyRules$Term;I)V"⟩
abbrev c_Reader_readShape : ByteArray := prog_4_method_2_code
abbrev ws_Reader_readShape : List Cond := .code y_Reader_readShape prog_4_method_2_code 3 (Option.none : Option Jvm.ClassFile.FieldType) :: mw
theorem w_289 : (Jvm.Cond.code ({ cls := "FamilyRules$Reader", name := "readShape", desc := "(LFamilyRules$Term;I)V" } : Jvm.MethodName) prog_4_method_2_code (3 : Nat) (Option.none : Option Jvm.ClassFile.FieldType)) ∈ mw := mw_t 289 (by decide +kernel) (by decide +kernel)
abbrev y_Reader_isPut : MethodName := ⟨"FamilyRules$Reader", "isPut", "(LFamilyRules$Global;I)Z"⟩
abbrev c_Reader_isPut : ByteArray := prog_4_method_3_code
abbrev ws_Reader_isPut : List Cond := .code y_Reader_isPut prog_4_method_3_code 6 (Option.some Jvm.ClassFile.FieldType.boolean) :: mw
theorem w_335 : (Jvm.Cond.code ({ cls := "FamilyRules$Reader", name := "isPut", desc := "(LFamilyRules$Global;I)Z" } : Jvm.MethodName) prog_4_method_3_code (6 : Nat) (Option.some Jvm.ClassFile.FieldType.boolean)) ∈ mw := mw_t 335 (by decide +kernel) (by decide +kernel)
abbrev y_Reader_lastTerms : MethodName := ⟨"FamilyRules$Reader", "lastTerms", "(LFamilyRules$Global;)I"⟩
abbrev c_Reader_lastTerms : ByteArray := prog_4_method_4_code
abbrev ws_Reader_lastTerms : List Cond := .code y_Reader_lastTerms prog_4_method_4_code 2 (Option.some Jvm.ClassFile.FieldType.int) :: mw
theorem w_423 : (Jvm.Cond.code ({ cls := "FamilyRules$Reader", name := "lastTerms", desc := "(LFamilyRules$Global;)I" } : Jvm.MethodName) prog_4_method_4_code (2 : Nat) (Option.some Jvm.ClassFile.FieldType.int)) ∈ mw := mw_t 423 (by decide +kernel) (by decide +kernel)
abbrev y_Reader_end : MethodName := ⟨"FamilyRules$Reader", "end", "()I"⟩
abbrev c_Reader_end : ByteArray := prog_4_method_5_code
abbrev ws_Reader_end : List Cond := .code y_Reader_end prog_4_method_5_code 1 (Option.some Jvm.ClassFile.FieldType.int) :: mw
theorem w_427 : (Jvm.Cond.code ({ cls := "FamilyRules$Reader", name := "end", desc := "()I" } : Jvm.MethodName) prog_4_method_5_code (1 : Nat) (Option.some Jvm.ClassFile.FieldType.int)) ∈ mw := mw_t 427 (by decide +kernel) (by decide +kernel)
abbrev y_Reader_standing : MethodName := ⟨"FamilyRules$Reader", "standing", "(LFamilyRules$Global;LFamilyRules$Term;II)I"⟩
abbrev c_Reader_standing : ByteArray := prog_4_method_6_code
abbrev ws_Reader_standing : List Cond := .code y_Reader_standing prog_4_method_6_code 6 (Option.some Jvm.ClassFile.FieldType.int) :: mw
theorem w_348 : (Jvm.Cond.code ({ cls := "FamilyRules$Reader", name := "standing", desc := "(LFamilyRules$Global;LFamilyRules$Term;II)I" } : Jvm.MethodName) prog_4_method_6_code (6 : Nat) (Option.some Jvm.ClassFile.FieldType.int)) ∈ mw := mw_t 348 (by decide +kernel) (by decide +kernel)
abbrev y_Reader_readDepths : MethodName := ⟨"FamilyRules$Reader", "readDepths", "(LFamilyRules$Term;)V"⟩
abbrev c_Reader_readDepths : ByteArray := prog_4_method_7_code
abbrev ws_Reader_readDepths : List Cond := .code y_Reader_readDepths prog_4_method_7_code 5 (Option.none : Option Jvm.ClassFile.FieldType) :: mw
theorem w_306 : (Jvm.Cond.code ({ cls := "FamilyRules$Reader", name := "readDepths", desc := "(LFamilyRules$Term;)V" } : Jvm.MethodName) prog_4_method_7_code (5 : Nat) (Option.none : Option Jvm.ClassFile.FieldType)) ∈ mw := mw_t 306 (by decide +kernel) (by decide +kernel)
abbrev y_Reader_depthAt : MethodName := ⟨"FamilyRules$Reader", "depthAt", "(I)I"⟩
abbrev c_Reader_depthAt : ByteArray := prog_4_method_8_code
abbrev ws_Reader_depthAt : List Cond := .code y_Reader_depthAt prog_4_method_8_code 2 (Option.some Jvm.ClassFile.FieldType.int) :: mw
theorem w_315 : (Jvm.Cond.code ({ cls := "FamilyRules$Reader", name := "depthAt", desc := "(I)I" } : Jvm.MethodName) prog_4_method_8_code (2 : Nat) (Option.some Jvm.ClassFile.FieldType.int)) ∈ mw := mw_t 315 (by decide +kernel) (by decide +kernel)
abbrev y_Reader_setDepth : MethodName := ⟨"FamilyRules$Reader", "setDepth", "(II)V"⟩
abbrev c_Reader_setDepth : ByteArray := prog_4_method_9_code
abbrev ws_Reader_setDepth : List Cond := .code y_Reader_setDepth prog_4_method_9_code 3 (Option.none : Option Jvm.ClassFile.FieldType) :: mw
theorem w_310 : (Jvm.Cond.code ({ cls := "FamilyRules$Reader", name := "setDepth", desc := "(II)V" } : Jvm.MethodName) prog_4_method_9_code (3 : Nat) (Option.none : Option Jvm.ClassFile.FieldType)) ∈ mw := mw_t 310 (by decide +kernel) (by decide +kernel)
abbrev y_Reader_isClosed : MethodName := ⟨"FamilyRules$Reader", "isClosed", "(LFamilyRules$Term;)Z"⟩
abbrev c_Reader_isClosed : ByteArray := prog_4_method_10_code
abbrev ws_Reader_isClosed : List Cond := .code y_Reader_isClosed prog_4_method_10_code 3 (Option.some Jvm.ClassFile.FieldType.boolean) :: mw
theorem w_302 : (Jvm.Cond.code ({ cls := "FamilyRules$Reader", name := "isClosed", desc := "(LFamilyRules$Term;)Z" } : Jvm.MethodName) prog_4_method_10_code (3 : Nat) (Option.some Jvm.ClassFile.FieldType.boolean)) ∈ mw := mw_t 302 (by decide +kernel) (by decide +kernel)
abbrev y_Register_init : MethodName := ⟨"FamilyRules$Register", "<init>", "()V"⟩
abbrev c_Register_init : ByteArray := prog_5_method_1_code
abbrev ws_Register_init : List Cond := .code y_Register_init prog_5_method_1_code 1 (Option.none : Option Jvm.ClassFile.FieldType) :: mw
theorem w_68 : (Jvm.Cond.code ({ cls := "FamilyRules$Register", name := "<init>", desc := "()V" } : Jvm.MethodName) prog_5_method_1_code (1 : Nat) (Option.none : Option Jvm.ClassFile.FieldType)) ∈ mw := mw_t 68 (by decide +kernel) (by decide +kernel)
abbrev y_Register_find : MethodName := ⟨"FamilyRules$Register", "find", "(I)LFamilyRules$Global;"⟩
abbrev c_Register_find : ByteArray := prog_5_method_2_code
abbrev ws_Register_find : List Cond := .code y_Register_find prog_5_method_2_code 2 (Option.some (Jvm.ClassFile.FieldType.object "FamilyRules$Global")) :: mw
theorem w_138 : (Jvm.Cond.code ({ cls := "FamilyRules$Register", name := "find", desc := "(I)LFamilyRules$Global;" } : Jvm.MethodName) prog_5_method_2_code (2 : Nat) (Option.some (Jvm.ClassFile.FieldType.object "FamilyRules$Global"))) ∈ mw := mw_t 138 (by decide +kernel) (by decide +kernel)
abbrev y_Register_findFamily : MethodName := ⟨"FamilyRules$Register", "findFamily", "(I)LFamilyRules$Global;"⟩
abbrev c_Register_findFamily : ByteArray := prog_5_method_3_code
abbrev ws_Register_findFamily : List Cond := .code y_Register_findFamily prog_5_method_3_code 3 (Option.some (Jvm.ClassFile.FieldType.object "FamilyRules$Global")) :: mw
theorem w_142 : (Jvm.Cond.code ({ cls := "FamilyRules$Register", name := "findFamily", desc := "(I)LFamilyRules$Global;" } : Jvm.MethodName) prog_5_method_3_code (3 : Nat) (Option.some (Jvm.ClassFile.FieldType.object "FamilyRules$Global"))) ∈ mw := mw_t 142 (by decide +kernel) (by decide +kernel)
abbrev y_Register_findConstructor : MethodName := ⟨"FamilyRules$Register", "findConstructor", "(I)LFamilyRules$Global;"⟩
abbrev c_Register_findConstructor : ByteArray := prog_5_method_4_code
abbrev ws_Register_findConstructor : List Cond := .code y_Register_findConstructor prog_5_method_4_code 3 (Option.some (Jvm.ClassFile.FieldType.object "FamilyRules$Global")) :: mw
theorem w_331 : (Jvm.Cond.code ({ cls := "FamilyRules$Register", name := "findConstructor", desc := "(I)LFamilyRules$Global;" } : Jvm.MethodName) prog_5_method_4_code (3 : Nat) (Option.some (Jvm.ClassFile.FieldType.object "FamilyRules$Global"))) ∈ mw := mw_t 331 (by decide +kernel) (by decide +kernel)
abbrev y_Register_addAxiom : MethodName := ⟨"FamilyRules$Register", "addAxiom", "()I"⟩
abbrev c_Register_addAxiom : ByteArray := prog_5_method_5_code
abbrev ws_Register_addAxiom : List Cond := .code y_Register_addAxiom prog_5_method_5_code 1 (Option.some Jvm.ClassFile.FieldType.int) :: mw
theorem w_221 : (Jvm.Cond.code ({ cls := "FamilyRules$Register", name := "addAxiom", desc := "()I" } : Jvm.MethodName) prog_5_method_5_code (1 : Nat) (Option.some Jvm.ClassFile.FieldType.int)) ∈ mw := mw_t 221 (by decide +kernel) (by decide +kernel)
abbrev y_Register_addFamily : MethodName := ⟨"FamilyRules$Register", "addFamily", "(LFamilyRules$Term;III)I"⟩
abbrev c_Register_addFamily : ByteArray := prog_5_method_6_code
abbrev ws_Register_addFamily : List Cond := .code y_Register_addFamily prog_5_method_6_code 9 (Option.some Jvm.ClassFile.FieldType.int) :: mw
theorem w_323 : (Jvm.Cond.code ({ cls := "FamilyRules$Register", name := "addFamily", desc := "(LFamilyRules$Term;III)I" } : Jvm.MethodName) prog_5_method_6_code (9 : Nat) (Option.some Jvm.ClassFile.FieldType.int)) ∈ mw := mw_t 323 (by decide +kernel) (by decide +kernel)
abbrev y_Register_enter : MethodName := ⟨"FamilyRules$Register", "enter", "(LFamilyRules$Global;)I"⟩
abbrev c_Register_enter : ByteArray := prog_5_method_7_code
abbrev ws_Register_enter : List Cond := .code y_Register_enter prog_5_method_7_code 2 (Option.some Jvm.ClassFile.FieldType.int) :: mw
theorem w_281 : (Jvm.Cond.code ({ cls := "FamilyRules$Register", name := "enter", desc := "(LFamilyRules$Global;)I" } : Jvm.MethodName) prog_5_method_7_code (2 : Nat) (Option.some Jvm.ClassFile.FieldType.int)) ∈ mw := mw_t 281 (by decide +kernel) (by decide +kernel)
abbrev y_Shelf_init : MethodName := ⟨"FamilyRules$Shelf", "<init>", "()V"⟩
abbrev c_Shelf_init : ByteArray := prog_6_method_1_code
abbrev ws_Shelf_init : List Cond := .code y_Shelf_init prog_6_method_1_code 1 (Option.none : Option Jvm.ClassFile.FieldType) :: mw
theorem w_49 : (Jvm.Cond.code ({ cls := "FamilyRules$Shelf", name := "<init>", desc := "()V" } : Jvm.MethodName) prog_6_method_1_code (1 : Nat) (Option.none : Option Jvm.ClassFile.FieldType)) ∈ mw := mw_t 49 (by decide +kernel) (by decide +kernel)
abbrev y_Shelf_find : MethodName := ⟨"FamilyRules$Shelf", "find", "(I)LFamilyRules$Term;"⟩
abbrev c_Shelf_find : ByteArray := prog_6_method_2_code
abbrev ws_Shelf_find : List Cond := .code y_Shelf_find prog_6_method_2_code 2 (Option.some (Jvm.ClassFile.FieldType.object "FamilyRules$Term")) :: mw
theorem w_192 : (Jvm.Cond.code ({ cls := "FamilyRules$Shelf", name := "find", desc := "(I)LFamilyRules$Term;" } : Jvm.MethodName) prog_6_method_2_code (2 : Nat) (Option.some (Jvm.ClassFile.FieldType.object "FamilyRules$Term"))) ∈ mw := mw_t 192 (by decide +kernel) (by decide +kernel)
abbrev y_Shelf_blank : MethodName := ⟨"FamilyRules$Shelf", "blank", "(I)LFamilyRules$Term;"⟩
abbrev c_Shelf_blank : ByteArray := prog_6_method_3_code
abbrev ws_Shelf_blank : List Cond := .code y_Shelf_blank prog_6_method_3_code 3 (Option.some (Jvm.ClassFile.FieldType.object "FamilyRules$Term")) :: mw
theorem w_147 : (Jvm.Cond.code ({ cls := "FamilyRules$Shelf", name := "blank", desc := "(I)LFamilyRules$Term;" } : Jvm.MethodName) prog_6_method_3_code (3 : Nat) (Option.some (Jvm.ClassFile.FieldType.object "FamilyRules$Term"))) ∈ mw := mw_t 147 (by decide +kernel) (by decide +kernel)
abbrev y_Shelf_keep : MethodName := ⟨"FamilyRules$Shelf", "keep", "(LFamilyRules$Term;)I"⟩
abbrev c_Shelf_keep : ByteArray := prog_6_method_4_code
abbrev ws_Shelf_keep : List Cond := .code y_Shelf_keep prog_6_method_4_code 2 (Option.some Jvm.ClassFile.FieldType.int) :: mw
theorem w_176 : (Jvm.Cond.code ({ cls := "FamilyRules$Shelf", name := "keep", desc := "(LFamilyRules$Term;)I" } : Jvm.MethodName) prog_6_method_4_code (2 : Nat) (Option.some Jvm.ClassFile.FieldType.int)) ∈ mw := mw_t 176 (by decide +kernel) (by decide +kernel)
abbrev y_Term_init : MethodName := ⟨"FamilyRules$Term", "<init>", "(I)V"⟩
abbrev c_Term_init : ByteArray := prog_7_method_1_code
abbrev ws_Term_init : List Cond := .code y_Term_init prog_7_method_1_code 3 (Option.none : Option Jvm.ClassFile.FieldType) :: mw
theorem w_151 : (Jvm.Cond.code ({ cls := "FamilyRules$Term", name := "<init>", desc := "(I)V" } : Jvm.MethodName) prog_7_method_1_code (3 : Nat) (Option.none : Option Jvm.ClassFile.FieldType)) ∈ mw := mw_t 151 (by decide +kernel) (by decide +kernel)
abbrev y_Term_length : MethodName := ⟨"FamilyRules$Term", "length", "()I"⟩
abbrev c_Term_length : ByteArray := prog_7_method_2_code
abbrev ws_Term_length : List Cond := .code y_Term_length prog_7_method_2_code 1 (Option.some Jvm.ClassFile.FieldType.int) :: mw
theorem w_180 : (Jvm.Cond.code ({ cls := "FamilyRules$Term", name := "length", desc := "()I" } : Jvm.MethodName) prog_7_method_2_code (1 : Nat) (Option.some Jvm.ClassFile.FieldType.int)) ∈ mw := mw_t 180 (by decide +kernel) (by decide +kernel)
abbrev y_Term_has : MethodName := ⟨"FamilyRules$Term", "has", "(I)Z"⟩
abbrev c_Term_has : ByteArray := prog_7_method_3_code
abbrev ws_Term_has : List Cond := .code y_Term_has prog_7_method_3_code 2 (Option.some Jvm.ClassFile.FieldType.boolean) :: mw
theorem w_476 : (Jvm.Cond.code ({ cls := "FamilyRules$Term", name := "has", desc := "(I)Z" } : Jvm.MethodName) prog_7_method_3_code (2 : Nat) (Option.some Jvm.ClassFile.FieldType.boolean)) ∈ mw := mw_t 476 (by decide +kernel) (by decide +kernel)
abbrev y_Term_kindAt : MethodName := ⟨"FamilyRules$Term", "kindAt", "(I)I"⟩
abbrev c_Term_kindAt : ByteArray := prog_7_method_4_code
abbrev ws_Term_kindAt : List Cond := .code y_Term_kindAt prog_7_method_4_code 2 (Option.some Jvm.ClassFile.FieldType.int) :: mw
theorem w_293 : (Jvm.Cond.code ({ cls := "FamilyRules$Term", name := "kindAt", desc := "(I)I" } : Jvm.MethodName) prog_7_method_4_code (2 : Nat) (Option.some Jvm.ClassFile.FieldType.int)) ∈ mw := mw_t 293 (by decide +kernel) (by decide +kernel)
abbrev y_Term_numberAt : MethodName := ⟨"FamilyRules$Term", "numberAt", "(I)I"⟩
abbrev c_Term_numberAt : ByteArray := prog_7_method_5_code
abbrev ws_Term_numberAt : List Cond := .code y_Term_numberAt prog_7_method_5_code 2 (Option.some Jvm.ClassFile.FieldType.int) :: mw
theorem w_319 : (Jvm.Cond.code ({ cls := "FamilyRules$Term", name := "numberAt", desc := "(I)I" } : Jvm.MethodName) prog_7_method_5_code (2 : Nat) (Option.some Jvm.ClassFile.FieldType.int)) ∈ mw := mw_t 319 (by decide +kernel) (by decide +kernel)
abbrev y_Term_sortAt : MethodName := ⟨"FamilyRules$Term", "sortAt", "(I)I"⟩
abbrev c_Term_sortAt : ByteArray := prog_7_method_6_code
abbrev ws_Term_sortAt : List Cond := .code y_Term_sortAt prog_7_method_6_code 2 (Option.some Jvm.ClassFile.FieldType.int) :: mw
theorem w_415 : (Jvm.Cond.code ({ cls := "FamilyRules$Term", name := "sortAt", desc := "(I)I" } : Jvm.MethodName) prog_7_method_6_code (2 : Nat) (Option.some Jvm.ClassFile.FieldType.int)) ∈ mw := mw_t 415 (by decide +kernel) (by decide +kernel)
abbrev y_Term_nodesAt : MethodName := ⟨"FamilyRules$Term", "nodesAt", "(I)I"⟩
abbrev c_Term_nodesAt : ByteArray := prog_7_method_7_code
abbrev ws_Term_nodesAt : List Cond := .code y_Term_nodesAt prog_7_method_7_code 2 (Option.some Jvm.ClassFile.FieldType.int) :: mw
theorem w_209 : (Jvm.Cond.code ({ cls := "FamilyRules$Term", name := "nodesAt", desc := "(I)I" } : Jvm.MethodName) prog_7_method_7_code (2 : Nat) (Option.some Jvm.ClassFile.FieldType.int)) ∈ mw := mw_t 209 (by decide +kernel) (by decide +kernel)
abbrev y_Term_secondOf : MethodName := ⟨"FamilyRules$Term", "secondOf", "(I)I"⟩
abbrev c_Term_secondOf : ByteArray := prog_7_method_8_code
abbrev ws_Term_secondOf : List Cond := .code y_Term_secondOf prog_7_method_8_code 2 (Option.some Jvm.ClassFile.FieldType.int) :: mw
theorem w_297 : (Jvm.Cond.code ({ cls := "FamilyRules$Term", name := "secondOf", desc := "(I)I" } : Jvm.MethodName) prog_7_method_8_code (2 : Nat) (Option.some Jvm.ClassFile.FieldType.int)) ∈ mw := mw_t 297 (by decide +kernel) (by decide +kernel)
abbrev y_Term_behindAlls : MethodName := ⟨"FamilyRules$Term", "behindAlls", "(I)I"⟩
abbrev c_Term_behindAlls : ByteArray := prog_7_method_9_code
abbrev ws_Term_behindAlls : List Cond := .code y_Term_behindAlls prog_7_method_9_code 4 (Option.some Jvm.ClassFile.FieldType.int) :: mw
theorem w_343 : (Jvm.Cond.code ({ cls := "FamilyRules$Term", name := "behindAlls", desc := "(I)I" } : Jvm.MethodName) prog_7_method_9_code (4 : Nat) (Option.some Jvm.ClassFile.FieldType.int)) ∈ mw := mw_t 343 (by decide +kernel) (by decide +kernel)
abbrev y_Term_set : MethodName := ⟨"FamilyRules$Term", "set", "(IIII)V"⟩
abbrev c_Term_set : ByteArray := prog_7_method_10_code
abbrev ws_Term_set : List Cond := .code y_Term_set prog_7_method_10_code 5 (Option.none : Option Jvm.ClassFile.FieldType) :: mw
theorem w_172 : (Jvm.Cond.code ({ cls := "FamilyRules$Term", name := "set", desc := "(IIII)V" } : Jvm.MethodName) prog_7_method_10_code (5 : Nat) (Option.none : Option Jvm.ClassFile.FieldType)) ∈ mw := mw_t 172 (by decide +kernel) (by decide +kernel)
abbrev y_Term_paste : MethodName := ⟨"FamilyRules$Term", "paste", "(LFamilyRules$Term;I)V"⟩
abbrev c_Term_paste : ByteArray := prog_7_method_11_code
abbrev ws_Term_paste : List Cond := .code y_Term_paste prog_7_method_11_code 4 (Option.none : Option Jvm.ClassFile.FieldType) :: mw
theorem w_197 : (Jvm.Cond.code ({ cls := "FamilyRules$Term", name := "paste", desc := "(LFamilyRules$Term;I)V" } : Jvm.MethodName) prog_7_method_11_code (4 : Nat) (Option.none : Option Jvm.ClassFile.FieldType)) ∈ mw := mw_t 197 (by decide +kernel) (by decide +kernel)
abbrev y_Term_countNodes : MethodName := ⟨"FamilyRules$Term", "countNodes", "()V"⟩
abbrev c_Term_countNodes : ByteArray := prog_7_method_12_code
abbrev ws_Term_countNodes : List Cond := .code y_Term_countNodes prog_7_method_12_code 4 (Option.none : Option Jvm.ClassFile.FieldType) :: mw
theorem w_205 : (Jvm.Cond.code ({ cls := "FamilyRules$Term", name := "countNodes", desc := "()V" } : Jvm.MethodName) prog_7_method_12_code (4 : Nat) (Option.none : Option Jvm.ClassFile.FieldType)) ∈ mw := mw_t 205 (by decide +kernel) (by decide +kernel)
abbrev y_Term_countFamily : MethodName := ⟨"FamilyRules$Term", "countFamily", "(III)I"⟩
abbrev c_Term_countFamily : ByteArray := prog_7_method_13_code
abbrev ws_Term_countFamily : List Cond := .code y_Term_countFamily prog_7_method_13_code 7 (Option.some Jvm.ClassFile.FieldType.int) :: mw
theorem w_353 : (Jvm.Cond.code ({ cls := "FamilyRules$Term", name := "countFamily", desc := "(III)I" } : Jvm.MethodName) prog_7_method_13_code (7 : Nat) (Option.some Jvm.ClassFile.FieldType.int)) ∈ mw := mw_t 353 (by decide +kernel) (by decide +kernel)
section NM
variable {X : mv_X} {Q : State → Prop} {V : mv_V} {nL pc : Nat} {lv : List (Nat × Value)} {st rest As : List Value} {M : mv_M} {cells slots : Nat}
variable {cc : ByteArray} {v0 : Cond} {nm : String} {ret : Option FieldType} {rm rm' : Room} {post : Option Value → mv_M → Prop} {mc ms a b : Nat} {fs : List Value}
theorem w_111 : (Jvm.Cond.fieldLink "FamilyRules" (13 : Nat) "FamilyRules" "shelf" "LFamilyRules$Shelf;") ∈ mw := mw_t 111 (by decide +kernel) (by decide +kernel)
theorem gf_Fam_13 (B : mv_B X (kk V) cc (v0 :: mw) "FamilyRules" nL ret rm nm) (he : M a = some (.inr (6, fs))) {v : Value} (hv : fs[0]? = some v) (hdg : decode cc pc = .ok (.getfield 13, 3)) (k : mv_G X Q (kk V) nL (pc + 3) lv (v :: st) M cells slots) : mv_G X Q (kk V) nL pc lv (.ref a :: st) M cells slots := mv_get B in_Fam rfl he 0 (by decide) (mwc w_111) hv hdg k
theorem w_112 : (Jvm.Cond.fieldLink "FamilyRules" (22 : Nat) "FamilyRules" "register" "LFamilyRules$Register;") ∈ mw := mw_t 112 (by decide +kernel) (by decide +kernel)
theorem gf_Fam_22 (B : mv_B X (kk V) cc (v0 :: mw) "FamilyRules" nL ret rm nm) (he : M a = some (.inr (6, fs))) {v : Value} (hv : fs[1]? = some v) (hdg : decode cc pc = .ok (.getfield 22, 3)) (k : mv_G X Q (kk V) nL (pc + 3) lv (v :: st) M cells slots) : mv_G X Q (kk V) nL pc lv (.ref a :: st) M cells slots := mv_get B in_Fam rfl he 1 (by decide) (mwc w_112) hv hdg k
theorem w_113 : (Jvm.Cond.fieldLink "FamilyRules" (26 : Nat) "FamilyRules" "reader" "LFamilyRules$Reader;") ∈ mw := mw_t 113 (by decide +kernel) (by decide +kernel)
theorem gf_Fam_26 (B : mv_B X (kk V) cc (v0 :: mw) "FamilyRules" nL ret rm nm) (he : M a = some (.inr (6, fs))) {v : Value} (hv : fs[2]? = some v) (hdg : decode cc pc = .ok (.getfield 26, 3)) (k : mv_G X Q (kk V) nL (pc + 3) lv (v :: st) M cells slots) : mv_G X Q (kk V) nL pc lv (.ref a :: st) M cells slots := mv_get B in_Fam rfl he 2 (by decide) (mwc w_113) hv hdg k
theorem w_114 : (Jvm.Cond.fieldLink "FamilyRules" (35 : Nat) "FamilyRules" "maker" "LFamilyRules$Maker;") ∈ mw := mw_t 114 (by decide +kernel) (by decide +kernel)
theorem gf_Fam_35 (B : mv_B X (kk V) cc (v0 :: mw) "FamilyRules" nL ret rm nm) (he : M a = some (.inr (6, fs))) {v : Value} (hv : fs[3]? = some v) (hdg : decode cc pc = .ok (.getfield 35, 3)) (k : mv_G X Q (kk V) nL (pc + 3) lv (v :: st) M cells slots) : mv_G X Q (kk V) nL pc lv (.ref a :: st) M cells slots := mv_get B in_Fam rfl he 3 (by decide) (mwc w_114) hv hdg k
theorem w_29 : (Jvm.Cond.fieldLinkNest "FamilyRules" (72 : Nat) "FamilyRules$Reader" "alls" "I" "FamilyRules") ∈ nw := nw_t 29 (by decide +kernel) (by decide +kernel)
theorem gf_Fam_72 (B : mv_B X (kk V) cc (v0 :: mw) "FamilyRules" nL ret rm nm) (he : M a = some (.inr (4, fs))) {v : Value} (hv : fs[2]? = some v) (hdg : decode cc pc = .ok (.getfield 72, 3)) (k : mv_G X Q (kk V) nL (pc + 3) lv (v :: st) M cells slots) : mv_G X Q (kk V) nL pc lv (.ref a :: st) M cells slots := mv_getN B in_Reader rfl he 2 (by decide) w_29 hv hdg k
theorem w_31 : (Jvm.Cond.fieldLinkNest "FamilyRules" (76 : Nat) "FamilyRules$Reader" "foot" "I" "FamilyRules") ∈ nw := nw_t 31 (by decide +kernel) (by decide +kernel)
theorem gf_Fam_76 (B : mv_B X (kk V) cc (v0 :: mw) "FamilyRules" nL ret rm nm) (he : M a = some (.inr (4, fs))) {v : Value} (hv : fs[3]? = some v) (hdg : decode cc pc = .ok (.getfield 76, 3)) (k : mv_G X Q (kk V) nL (pc + 3) lv (v :: st) M cells slots) : mv_G X Q (kk V) nL pc lv (.ref a :: st) M cells slots := mv_getN B in_Reader rfl he 3 (by decide) w_31 hv hdg k
theorem w_251 : (Jvm.Cond.fieldLinkNest "FamilyRules" (95 : Nat) "FamilyRules$Global" "told" "LFamilyRules$Term;" "FamilyRules") ∈ nw := nw_t 251 (by decide +kernel) (by decide +kernel)
theorem gf_Fam_95 (B : mv_B X (kk V) cc (v0 :: mw) "FamilyRules" nL ret rm nm) (he : M a = some (.inr (2, fs))) {v : Value} (hv : fs[7]? = some v) (hdg : decode cc pc = .ok (.getfield 95, 3)) (k : mv_G X Q (kk V) nL (pc + 3) lv (v :: st) M cells slots) : mv_G X Q (kk V) nL pc lv (.ref a :: st) M cells slots := mv_getN B in_Global rfl he 7 (by decide) w_251 hv hdg k
theorem w_246 : (Jvm.Cond.fieldLinkNest "FamilyRules" (101 : Nat) "FamilyRules$Global" "family" "LFamilyRules$Global;" "FamilyRules") ∈ nw := nw_t 246 (by decide +kernel) (by decide +kernel)
theorem gf_Fam_101 (B : mv_B X (kk V) cc (v0 :: mw) "FamilyRules" nL ret rm nm) (he : M a = some (.inr (2, fs))) {v : Value} (hv : fs[5]? = some v) (hdg : decode cc pc = .ok (.getfield 101, 3)) (k : mv_G X Q (kk V) nL (pc + 3) lv (v :: st) M cells slots) : mv_G X Q (kk V) nL pc lv (.ref a :: st) M cells slots := mv_getN B in_Global rfl he 5 (by decide) w_246 hv hdg k
theorem w_235 : (Jvm.Cond.fieldLinkNest "FamilyRules" (105 : Nat) "FamilyRules$Global" "parameters" "I" "FamilyRules") ∈ nw := nw_t 235 (by decide +kernel) (by decide +kernel)
theorem gf_Fam_105 (B : mv_B X (kk V) cc (v0 :: mw) "FamilyRules" nL ret rm nm) (he : M a = some (.inr (2, fs))) {v : Value} (hv : fs[2]? = some v) (hdg : decode cc pc = .ok (.getfield 105, 3)) (k : mv_G X Q (kk V) nL (pc + 3) lv (v :: st) M cells slots) : mv_G X Q (kk V) nL pc lv (.ref a :: st) M cells slots := mv_getN B in_Global rfl he 2 (by decide) w_235 hv hdg k
theorem w_232 : (Jvm.Cond.fieldLinkNest "FamilyRules" (118 : Nat) "FamilyRules$Global" "role" "I" "FamilyRules") ∈ nw := nw_t 232 (by decide +kernel) (by decide +kernel)
theorem gf_Fam_118 (B : mv_B X (kk V) cc (v0 :: mw) "FamilyRules" nL ret rm nm) (he : M a = some (.inr (2, fs))) {v : Value} (hv : fs[1]? = some v) (hdg : decode cc pc = .ok (.getfield 118, 3)) (k : mv_G X Q (kk V) nL (pc + 3) lv (v :: st) M cells slots) : mv_G X Q (kk V) nL pc lv (.ref a :: st) M cells slots := mv_getN B in_Global rfl he 1 (by decide) w_232 hv hdg k
theorem w_255 : (Jvm.Cond.fieldLinkNest "FamilyRules" (121 : Nat) "FamilyRules$Global" "arguments" "I" "FamilyRules") ∈ nw := nw_t 255 (by decide +kernel) (by decide +kernel)
theorem gf_Fam_121 (B : mv_B X (kk V) cc (v0 :: mw) "FamilyRules" nL ret rm nm) (he : M a = some (.inr (2, fs))) {v : Value} (hv : fs[8]? = some v) (hdg : decode cc pc = .ok (.getfield 121, 3)) (k : mv_G X Q (kk V) nL (pc + 3) lv (v :: st) M cells slots) : mv_G X Q (kk V) nL pc lv (.ref a :: st) M cells slots := mv_getN B in_Global rfl he 8 (by decide) w_255 hv hdg k
theorem w_240 : (Jvm.Cond.fieldLinkNest "FamilyRules" (124 : Nat) "FamilyRules$Global" "indices" "I" "FamilyRules") ∈ nw := nw_t 240 (by decide +kernel) (by decide +kernel)
theorem gf_Fam_124 (B : mv_B X (kk V) cc (v0 :: mw) "FamilyRules" nL ret rm nm) (he : M a = some (.inr (2, fs))) {v : Value} (hv : fs[3]? = some v) (hdg : decode cc pc = .ok (.getfield 124, 3)) (k : mv_G X Q (kk V) nL (pc + 3) lv (v :: st) M cells slots) : mv_G X Q (kk V) nL pc lv (.ref a :: st) M cells slots := mv_getN B in_Global rfl he 3 (by decide) w_240 hv hdg k
theorem w_243 : (Jvm.Cond.fieldLinkNest "FamilyRules" (127 : Nat) "FamilyRules$Global" "rank" "I" "FamilyRules") ∈ nw := nw_t 243 (by decide +kernel) (by decide +kernel)
theorem gf_Fam_127 (B : mv_B X (kk V) cc (v0 :: mw) "FamilyRules" nL ret rm nm) (he : M a = some (.inr (2, fs))) {v : Value} (hv : fs[4]? = some v) (hdg : decode cc pc = .ok (.getfield 127, 3)) (k : mv_G X Q (kk V) nL (pc + 3) lv (v :: st) M cells slots) : mv_G X Q (kk V) nL pc lv (.ref a :: st) M cells slots := mv_getN B in_Global rfl he 4 (by decide) w_243 hv hdg k
theorem w_256 : (Jvm.Cond.fieldLinkNest "FamilyRules" (141 : Nat) "FamilyRules$Global" "recursive" "I" "FamilyRules") ∈ nw := nw_t 256 (by decide +kernel) (by decide +kernel)
theorem gf_Fam_141 (B : mv_B X (kk V) cc (v0 :: mw) "FamilyRules" nL ret rm nm) (he : M a = some (.inr (2, fs))) {v : Value} (hv : fs[9]? = some v) (hdg : decode cc pc = .ok (.getfield 141, 3)) (k : mv_G X Q (kk V) nL (pc + 3) lv (v :: st) M cells slots) : mv_G X Q (kk V) nL pc lv (.ref a :: st) M cells slots := mv_getN B in_Global rfl he 9 (by decide) w_256 hv hdg k
theorem w_88 : (Jvm.Cond.fieldLinkNest "FamilyRules" (152 : Nat) "FamilyRules$Maker" "place" "I" "FamilyRules") ∈ nw := nw_t 88 (by decide +kernel) (by decide +kernel)
theorem gf_Fam_152 (B : mv_B X (kk V) cc (v0 :: mw) "FamilyRules" nL ret rm nm) (he : M a = some (.inr (5, fs))) {v : Value} (hv : fs[2]? = some v) (hdg : decode cc pc = .ok (.getfield 152, 3)) (k : mv_G X Q (kk V) nL (pc + 3) lv (v :: st) M cells slots) : mv_G X Q (kk V) nL pc lv (.ref a :: st) M cells slots := mv_getN B in_Maker rfl he 2 (by decide) w_88 hv hdg k
theorem w_55 : (Jvm.Cond.fieldLinkNest "FamilyRules" (165 : Nat) "FamilyRules$Shelf" "count" "I" "FamilyRules") ∈ nw := nw_t 55 (by decide +kernel) (by decide +kernel)
theorem gf_Fam_165 (B : mv_B X (kk V) cc (v0 :: mw) "FamilyRules" nL ret rm nm) (he : M a = some (.inr (1, fs))) {v : Value} (hv : fs[1]? = some v) (hdg : decode cc pc = .ok (.getfield 165, 3)) (k : mv_G X Q (kk V) nL (pc + 3) lv (v :: st) M cells slots) : mv_G X Q (kk V) nL pc lv (.ref a :: st) M cells slots := mv_getN B in_Shelf rfl he 1 (by decide) w_55 hv hdg k
theorem w_241 : (Jvm.Cond.fieldLink "FamilyRules$Global" (27 : Nat) "FamilyRules$Global" "rank" "I") ∈ mw := mw_t 241 (by decide +kernel) (by decide +kernel)
theorem gf_Global_27 (B : mv_B X (kk V) cc (v0 :: mw) "FamilyRules$Global" nL ret rm nm) (he : M a = some (.inr (2, fs))) {v : Value} (hv : fs[4]? = some v) (hdg : decode cc pc = .ok (.getfield 27, 3)) (k : mv_G X Q (kk V) nL (pc + 3) lv (v :: st) M cells slots) : mv_G X Q (kk V) nL pc lv (.ref a :: st) M cells slots := mv_get B in_Global rfl he 4 (by decide) (mwc w_241) hv hdg k
theorem w_247 : (Jvm.Cond.fieldLink "FamilyRules$Global" (30 : Nat) "FamilyRules$Global" "constructors" "[LFamilyRules$Global;") ∈ mw := mw_t 247 (by decide +kernel) (by decide +kernel)
theorem gf_Global_30 (B : mv_B X (kk V) cc (v0 :: mw) "FamilyRules$Global" nL ret rm nm) (he : M a = some (.inr (2, fs))) {v : Value} (hv : fs[6]? = some v) (hdg : decode cc pc = .ok (.getfield 30, 3)) (k : mv_G X Q (kk V) nL (pc + 3) lv (v :: st) M cells slots) : mv_G X Q (kk V) nL pc lv (.ref a :: st) M cells slots := mv_get B in_Global rfl he 6 (by decide) (mwc w_247) hv hdg k
theorem w_249 : (Jvm.Cond.fieldLink "FamilyRules$Global" (38 : Nat) "FamilyRules$Global" "told" "LFamilyRules$Term;") ∈ mw := mw_t 249 (by decide +kernel) (by decide +kernel)
theorem gf_Global_38 (B : mv_B X (kk V) cc (v0 :: mw) "FamilyRules$Global" nL ret rm nm) (he : M a = some (.inr (2, fs))) {v : Value} (hv : fs[7]? = some v) (hdg : decode cc pc = .ok (.getfield 38, 3)) (k : mv_G X Q (kk V) nL (pc + 3) lv (v :: st) M cells slots) : mv_G X Q (kk V) nL pc lv (.ref a :: st) M cells slots := mv_get B in_Global rfl he 7 (by decide) (mwc w_249) hv hdg k
theorem w_85 : (Jvm.Cond.fieldLink "FamilyRules$Maker" (9 : Nat) "FamilyRules$Maker" "reader" "LFamilyRules$Reader;") ∈ mw := mw_t 85 (by decide +kernel) (by decide +kernel)
theorem gf_Maker_9 (B : mv_B X (kk V) cc (v0 :: mw) "FamilyRules$Maker" nL ret rm nm) (he : M a = some (.inr (5, fs))) {v : Value} (hv : fs[0]? = some v) (hdg : decode cc pc = .ok (.getfield 9, 3)) (k : mv_G X Q (kk V) nL (pc + 3) lv (v :: st) M cells slots) : mv_G X Q (kk V) nL pc lv (.ref a :: st) M cells slots := mv_get B in_Maker rfl he 0 (by decide) (mwc w_85) hv hdg k
theorem w_86 : (Jvm.Cond.fieldLink "FamilyRules$Maker" (15 : Nat) "FamilyRules$Maker" "target" "LFamilyRules$Term;") ∈ mw := mw_t 86 (by decide +kernel) (by decide +kernel)
theorem gf_Maker_15 (B : mv_B X (kk V) cc (v0 :: mw) "FamilyRules$Maker" nL ret rm nm) (he : M a = some (.inr (5, fs))) {v : Value} (hv : fs[1]? = some v) (hdg : decode cc pc = .ok (.getfield 15, 3)) (k : mv_G X Q (kk V) nL (pc + 3) lv (v :: st) M cells slots) : mv_G X Q (kk V) nL pc lv (.ref a :: st) M cells slots := mv_get B in_Maker rfl he 1 (by decide) (mwc w_86) hv hdg k
theorem w_87 : (Jvm.Cond.fieldLink "FamilyRules$Maker" (19 : Nat) "FamilyRules$Maker" "place" "I") ∈ mw := mw_t 87 (by decide +kernel) (by decide +kernel)
theorem gf_Maker_19 (B : mv_B X (kk V) cc (v0 :: mw) "FamilyRules$Maker" nL ret rm nm) (he : M a = some (.inr (5, fs))) {v : Value} (hv : fs[2]? = some v) (hdg : decode cc pc = .ok (.getfield 19, 3)) (k : mv_G X Q (kk V) nL (pc + 3) lv (v :: st) M cells slots) : mv_G X Q (kk V) nL pc lv (.ref a :: st) M cells slots := mv_get B in_Maker rfl he 2 (by decide) (mwc w_87) hv hdg k
theorem w_244 : (Jvm.Cond.fieldLinkNest "FamilyRules$Maker" (23 : Nat) "FamilyRules$Global" "family" "LFamilyRules$Global;" "FamilyRules") ∈ nw := nw_t 244 (by decide +kernel) (by decide +kernel)
theorem gf_Maker_23 (B : mv_B X (kk V) cc (v0 :: mw) "FamilyRules$Maker" nL ret rm nm) (he : M a = some (.inr (2, fs))) {v : Value} (hv : fs[5]? = some v) (hdg : decode cc pc = .ok (.getfield 23, 3)) (k : mv_G X Q (kk V) nL (pc + 3) lv (v :: st) M cells slots) : mv_G X Q (kk V) nL pc lv (.ref a :: st) M cells slots := mv_getN B in_Global rfl he 5 (by decide) w_244 hv hdg k
theorem w_89 : (Jvm.Cond.fieldLink "FamilyRules$Maker" (33 : Nat) "FamilyRules$Maker" "source" "LFamilyRules$Term;") ∈ mw := mw_t 89 (by decide +kernel) (by decide +kernel)
theorem gf_Maker_33 (B : mv_B X (kk V) cc (v0 :: mw) "FamilyRules$Maker" nL ret rm nm) (he : M a = some (.inr (5, fs))) {v : Value} (hv : fs[3]? = some v) (hdg : decode cc pc = .ok (.getfield 33, 3)) (k : mv_G X Q (kk V) nL (pc + 3) lv (v :: st) M cells slots) : mv_G X Q (kk V) nL pc lv (.ref a :: st) M cells slots := mv_get B in_Maker rfl he 3 (by decide) (mwc w_89) hv hdg k
theorem w_90 : (Jvm.Cond.fieldLink "FamilyRules$Maker" (36 : Nat) "FamilyRules$Maker" "parameters" "I") ∈ mw := mw_t 90 (by decide +kernel) (by decide +kernel)
theorem gf_Maker_36 (B : mv_B X (kk V) cc (v0 :: mw) "FamilyRules$Maker" nL ret rm nm) (he : M a = some (.inr (5, fs))) {v : Value} (hv : fs[4]? = some v) (hdg : decode cc pc = .ok (.getfield 36, 3)) (k : mv_G X Q (kk V) nL (pc + 3) lv (v :: st) M cells slots) : mv_G X Q (kk V) nL pc lv (.ref a :: st) M cells slots := mv_get B in_Maker rfl he 4 (by decide) (mwc w_90) hv hdg k
theorem w_254 : (Jvm.Cond.fieldLinkNest "FamilyRules$Maker" (45 : Nat) "FamilyRules$Global" "arguments" "I" "FamilyRules") ∈ nw := nw_t 254 (by decide +kernel) (by decide +kernel)
theorem gf_Maker_45 (B : mv_B X (kk V) cc (v0 :: mw) "FamilyRules$Maker" nL ret rm nm) (he : M a = some (.inr (2, fs))) {v : Value} (hv : fs[8]? = some v) (hdg : decode cc pc = .ok (.getfield 45, 3)) (k : mv_G X Q (kk V) nL (pc + 3) lv (v :: st) M cells slots) : mv_G X Q (kk V) nL pc lv (.ref a :: st) M cells slots := mv_getN B in_Global rfl he 8 (by decide) w_254 hv hdg k
theorem w_239 : (Jvm.Cond.fieldLinkNest "FamilyRules$Maker" (69 : Nat) "FamilyRules$Global" "indices" "I" "FamilyRules") ∈ nw := nw_t 239 (by decide +kernel) (by decide +kernel)
theorem gf_Maker_69 (B : mv_B X (kk V) cc (v0 :: mw) "FamilyRules$Maker" nL ret rm nm) (he : M a = some (.inr (2, fs))) {v : Value} (hv : fs[3]? = some v) (hdg : decode cc pc = .ok (.getfield 69, 3)) (k : mv_G X Q (kk V) nL (pc + 3) lv (v :: st) M cells slots) : mv_G X Q (kk V) nL pc lv (.ref a :: st) M cells slots := mv_getN B in_Global rfl he 3 (by decide) w_239 hv hdg k
theorem w_242 : (Jvm.Cond.fieldLinkNest "FamilyRules$Maker" (72 : Nat) "FamilyRules$Global" "rank" "I" "FamilyRules") ∈ nw := nw_t 242 (by decide +kernel) (by decide +kernel)
theorem gf_Maker_72 (B : mv_B X (kk V) cc (v0 :: mw) "FamilyRules$Maker" nL ret rm nm) (he : M a = some (.inr (2, fs))) {v : Value} (hv : fs[4]? = some v) (hdg : decode cc pc = .ok (.getfield 72, 3)) (k : mv_G X Q (kk V) nL (pc + 3) lv (v :: st) M cells slots) : mv_G X Q (kk V) nL pc lv (.ref a :: st) M cells slots := mv_getN B in_Global rfl he 4 (by decide) w_242 hv hdg k
theorem w_28 : (Jvm.Cond.fieldLinkNest "FamilyRules$Maker" (112 : Nat) "FamilyRules$Reader" "alls" "I" "FamilyRules") ∈ nw := nw_t 28 (by decide +kernel) (by decide +kernel)
theorem gf_Maker_112 (B : mv_B X (kk V) cc (v0 :: mw) "FamilyRules$Maker" nL ret rm nm) (he : M a = some (.inr (4, fs))) {v : Value} (hv : fs[2]? = some v) (hdg : decode cc pc = .ok (.getfield 112, 3)) (k : mv_G X Q (kk V) nL (pc + 3) lv (v :: st) M cells slots) : mv_G X Q (kk V) nL pc lv (.ref a :: st) M cells slots := mv_getN B in_Reader rfl he 2 (by decide) w_28 hv hdg k
theorem w_229 : (Jvm.Cond.fieldLinkNest "FamilyRules$Maker" (118 : Nat) "FamilyRules$Global" "number" "I" "FamilyRules") ∈ nw := nw_t 229 (by decide +kernel) (by decide +kernel)
theorem gf_Maker_118 (B : mv_B X (kk V) cc (v0 :: mw) "FamilyRules$Maker" nL ret rm nm) (he : M a = some (.inr (2, fs))) {v : Value} (hv : fs[0]? = some v) (hdg : decode cc pc = .ok (.getfield 118, 3)) (k : mv_G X Q (kk V) nL (pc + 3) lv (v :: st) M cells slots) : mv_G X Q (kk V) nL pc lv (.ref a :: st) M cells slots := mv_getN B in_Global rfl he 0 (by decide) w_229 hv hdg k
theorem w_252 : (Jvm.Cond.fieldLinkNest "FamilyRules$Maker" (121 : Nat) "FamilyRules$Global" "told" "LFamilyRules$Term;" "FamilyRules") ∈ nw := nw_t 252 (by decide +kernel) (by decide +kernel)
theorem gf_Maker_121 (B : mv_B X (kk V) cc (v0 :: mw) "FamilyRules$Maker" nL ret rm nm) (he : M a = some (.inr (2, fs))) {v : Value} (hv : fs[7]? = some v) (hdg : decode cc pc = .ok (.getfield 121, 3)) (k : mv_G X Q (kk V) nL (pc + 3) lv (v :: st) M cells slots) : mv_G X Q (kk V) nL pc lv (.ref a :: st) M cells slots := mv_getN B in_Global rfl he 7 (by decide) w_252 hv hdg k
theorem w_236 : (Jvm.Cond.fieldLinkNest "FamilyRules$Maker" (124 : Nat) "FamilyRules$Global" "parameters" "I" "FamilyRules") ∈ nw := nw_t 236 (by decide +kernel) (by decide +kernel)
theorem gf_Maker_124 (B : mv_B X (kk V) cc (v0 :: mw) "FamilyRules$Maker" nL ret rm nm) (he : M a = some (.inr (2, fs))) {v : Value} (hv : fs[2]? = some v) (hdg : decode cc pc = .ok (.getfield 124, 3)) (k : mv_G X Q (kk V) nL (pc + 3) lv (v :: st) M cells slots) : mv_G X Q (kk V) nL pc lv (.ref a :: st) M cells slots := mv_getN B in_Global rfl he 2 (by decide) w_236 hv hdg k
theorem w_91 : (Jvm.Cond.fieldLink "FamilyRules$Maker" (129 : Nat) "FamilyRules$Maker" "around" "I") ∈ mw := mw_t 91 (by decide +kernel) (by decide +kernel)
theorem gf_Maker_129 (B : mv_B X (kk V) cc (v0 :: mw) "FamilyRules$Maker" nL ret rm nm) (he : M a = some (.inr (5, fs))) {v : Value} (hv : fs[5]? = some v) (hdg : decode cc pc = .ok (.getfield 129, 3)) (k : mv_G X Q (kk V) nL (pc + 3) lv (v :: st) M cells slots) : mv_G X Q (kk V) nL pc lv (.ref a :: st) M cells slots := mv_get B in_Maker rfl he 5 (by decide) (mwc w_91) hv hdg k
theorem w_92 : (Jvm.Cond.fieldLink "FamilyRules$Maker" (132 : Nat) "FamilyRules$Maker" "argumentLift" "I") ∈ mw := mw_t 92 (by decide +kernel) (by decide +kernel)
theorem gf_Maker_132 (B : mv_B X (kk V) cc (v0 :: mw) "FamilyRules$Maker" nL ret rm nm) (he : M a = some (.inr (5, fs))) {v : Value} (hv : fs[6]? = some v) (hdg : decode cc pc = .ok (.getfield 132, 3)) (k : mv_G X Q (kk V) nL (pc + 3) lv (v :: st) M cells slots) : mv_G X Q (kk V) nL pc lv (.ref a :: st) M cells slots := mv_get B in_Maker rfl he 6 (by decide) (mwc w_92) hv hdg k
theorem w_93 : (Jvm.Cond.fieldLink "FamilyRules$Maker" (135 : Nat) "FamilyRules$Maker" "parameterLift" "I") ∈ mw := mw_t 93 (by decide +kernel) (by decide +kernel)
theorem gf_Maker_135 (B : mv_B X (kk V) cc (v0 :: mw) "FamilyRules$Maker" nL ret rm nm) (he : M a = some (.inr (5, fs))) {v : Value} (hv : fs[7]? = some v) (hdg : decode cc pc = .ok (.getfield 135, 3)) (k : mv_G X Q (kk V) nL (pc + 3) lv (v :: st) M cells slots) : mv_G X Q (kk V) nL pc lv (.ref a :: st) M cells slots := mv_get B in_Maker rfl he 7 (by decide) (mwc w_93) hv hdg k
theorem w_25 : (Jvm.Cond.fieldLink "FamilyRules$Reader" (9 : Nat) "FamilyRules$Reader" "depths" "[I") ∈ mw := mw_t 25 (by decide +kernel) (by decide +kernel)
theorem gf_Reader_9 (B : mv_B X (kk V) cc (v0 :: mw) "FamilyRules$Reader" nL ret rm nm) (he : M a = some (.inr (4, fs))) {v : Value} (hv : fs[0]? = some v) (hdg : decode cc pc = .ok (.getfield 9, 3)) (k : mv_G X Q (kk V) nL (pc + 3) lv (v :: st) M cells slots) : mv_G X Q (kk V) nL pc lv (.ref a :: st) M cells slots := mv_get B in_Reader rfl he 0 (by decide) (mwc w_25) hv hdg k
theorem w_26 : (Jvm.Cond.fieldLink "FamilyRules$Reader" (15 : Nat) "FamilyRules$Reader" "term" "LFamilyRules$Term;") ∈ mw := mw_t 26 (by decide +kernel) (by decide +kernel)
theorem gf_Reader_15 (B : mv_B X (kk V) cc (v0 :: mw) "FamilyRules$Reader" nL ret rm nm) (he : M a = some (.inr (4, fs))) {v : Value} (hv : fs[1]? = some v) (hdg : decode cc pc = .ok (.getfield 15, 3)) (k : mv_G X Q (kk V) nL (pc + 3) lv (v :: st) M cells slots) : mv_G X Q (kk V) nL pc lv (.ref a :: st) M cells slots := mv_get B in_Reader rfl he 1 (by decide) (mwc w_26) hv hdg k
theorem w_27 : (Jvm.Cond.fieldLink "FamilyRules$Reader" (19 : Nat) "FamilyRules$Reader" "alls" "I") ∈ mw := mw_t 27 (by decide +kernel) (by decide +kernel)
theorem gf_Reader_19 (B : mv_B X (kk V) cc (v0 :: mw) "FamilyRules$Reader" nL ret rm nm) (he : M a = some (.inr (4, fs))) {v : Value} (hv : fs[2]? = some v) (hdg : decode cc pc = .ok (.getfield 19, 3)) (k : mv_G X Q (kk V) nL (pc + 3) lv (v :: st) M cells slots) : mv_G X Q (kk V) nL pc lv (.ref a :: st) M cells slots := mv_get B in_Reader rfl he 2 (by decide) (mwc w_27) hv hdg k
theorem w_30 : (Jvm.Cond.fieldLink "FamilyRules$Reader" (23 : Nat) "FamilyRules$Reader" "foot" "I") ∈ mw := mw_t 30 (by decide +kernel) (by decide +kernel)
theorem gf_Reader_23 (B : mv_B X (kk V) cc (v0 :: mw) "FamilyRules$Reader" nL ret rm nm) (he : M a = some (.inr (4, fs))) {v : Value} (hv : fs[3]? = some v) (hdg : decode cc pc = .ok (.getfield 23, 3)) (k : mv_G X Q (kk V) nL (pc + 3) lv (v :: st) M cells slots) : mv_G X Q (kk V) nL pc lv (.ref a :: st) M cells slots := mv_get B in_Reader rfl he 3 (by decide) (mwc w_30) hv hdg k
theorem w_32 : (Jvm.Cond.fieldLink "FamilyRules$Reader" (35 : Nat) "FamilyRules$Reader" "applications" "I") ∈ mw := mw_t 32 (by decide +kernel) (by decide +kernel)
theorem gf_Reader_35 (B : mv_B X (kk V) cc (v0 :: mw) "FamilyRules$Reader" nL ret rm nm) (he : M a = some (.inr (4, fs))) {v : Value} (hv : fs[4]? = some v) (hdg : decode cc pc = .ok (.getfield 35, 3)) (k : mv_G X Q (kk V) nL (pc + 3) lv (v :: st) M cells slots) : mv_G X Q (kk V) nL pc lv (.ref a :: st) M cells slots := mv_get B in_Reader rfl he 4 (by decide) (mwc w_32) hv hdg k
theorem w_234 : (Jvm.Cond.fieldLinkNest "FamilyRules$Reader" (38 : Nat) "FamilyRules$Global" "parameters" "I" "FamilyRules") ∈ nw := nw_t 234 (by decide +kernel) (by decide +kernel)
theorem gf_Reader_38 (B : mv_B X (kk V) cc (v0 :: mw) "FamilyRules$Reader" nL ret rm nm) (he : M a = some (.inr (2, fs))) {v : Value} (hv : fs[2]? = some v) (hdg : decode cc pc = .ok (.getfield 38, 3)) (k : mv_G X Q (kk V) nL (pc + 3) lv (v :: st) M cells slots) : mv_G X Q (kk V) nL pc lv (.ref a :: st) M cells slots := mv_getN B in_Global rfl he 2 (by decide) w_234 hv hdg k
theorem w_238 : (Jvm.Cond.fieldLinkNest "FamilyRules$Reader" (43 : Nat) "FamilyRules$Global" "indices" "I" "FamilyRules") ∈ nw := nw_t 238 (by decide +kernel) (by decide +kernel)
theorem gf_Reader_43 (B : mv_B X (kk V) cc (v0 :: mw) "FamilyRules$Reader" nL ret rm nm) (he : M a = some (.inr (2, fs))) {v : Value} (hv : fs[3]? = some v) (hdg : decode cc pc = .ok (.getfield 43, 3)) (k : mv_G X Q (kk V) nL (pc + 3) lv (v :: st) M cells slots) : mv_G X Q (kk V) nL pc lv (.ref a :: st) M cells slots := mv_getN B in_Global rfl he 3 (by decide) w_238 hv hdg k
theorem w_228 : (Jvm.Cond.fieldLinkNest "FamilyRules$Reader" (49 : Nat) "FamilyRules$Global" "number" "I" "FamilyRules") ∈ nw := nw_t 228 (by decide +kernel) (by decide +kernel)
theorem gf_Reader_49 (B : mv_B X (kk V) cc (v0 :: mw) "FamilyRules$Reader" nL ret rm nm) (he : M a = some (.inr (2, fs))) {v : Value} (hv : fs[0]? = some v) (hdg : decode cc pc = .ok (.getfield 49, 3)) (k : mv_G X Q (kk V) nL (pc + 3) lv (v :: st) M cells slots) : mv_G X Q (kk V) nL pc lv (.ref a :: st) M cells slots := mv_getN B in_Global rfl he 0 (by decide) w_228 hv hdg k
theorem w_72 : (Jvm.Cond.fieldLink "FamilyRules$Register" (11 : Nat) "FamilyRules$Register" "row" "[LFamilyRules$Global;") ∈ mw := mw_t 72 (by decide +kernel) (by decide +kernel)
theorem gf_Register_11 (B : mv_B X (kk V) cc (v0 :: mw) "FamilyRules$Register" nL ret rm nm) (he : M a = some (.inr (3, fs))) {v : Value} (hv : fs[0]? = some v) (hdg : decode cc pc = .ok (.getfield 11, 3)) (k : mv_G X Q (kk V) nL (pc + 3) lv (v :: st) M cells slots) : mv_G X Q (kk V) nL pc lv (.ref a :: st) M cells slots := mv_get B in_Register rfl he 0 (by decide) (mwc w_72) hv hdg k
theorem w_73 : (Jvm.Cond.fieldLink "FamilyRules$Register" (17 : Nat) "FamilyRules$Register" "count" "I") ∈ mw := mw_t 73 (by decide +kernel) (by decide +kernel)
theorem gf_Register_17 (B : mv_B X (kk V) cc (v0 :: mw) "FamilyRules$Register" nL ret rm nm) (he : M a = some (.inr (3, fs))) {v : Value} (hv : fs[1]? = some v) (hdg : decode cc pc = .ok (.getfield 17, 3)) (k : mv_G X Q (kk V) nL (pc + 3) lv (v :: st) M cells slots) : mv_G X Q (kk V) nL pc lv (.ref a :: st) M cells slots := mv_get B in_Register rfl he 1 (by decide) (mwc w_73) hv hdg k
theorem w_231 : (Jvm.Cond.fieldLinkNest "FamilyRules$Register" (25 : Nat) "FamilyRules$Global" "role" "I" "FamilyRules") ∈ nw := nw_t 231 (by decide +kernel) (by decide +kernel)
theorem gf_Register_25 (B : mv_B X (kk V) cc (v0 :: mw) "FamilyRules$Register" nL ret rm nm) (he : M a = some (.inr (2, fs))) {v : Value} (hv : fs[1]? = some v) (hdg : decode cc pc = .ok (.getfield 25, 3)) (k : mv_G X Q (kk V) nL (pc + 3) lv (v :: st) M cells slots) : mv_G X Q (kk V) nL pc lv (.ref a :: st) M cells slots := mv_getN B in_Global rfl he 1 (by decide) w_231 hv hdg k
theorem w_248 : (Jvm.Cond.fieldLinkNest "FamilyRules$Register" (39 : Nat) "FamilyRules$Global" "constructors" "[LFamilyRules$Global;" "FamilyRules") ∈ nw := nw_t 248 (by decide +kernel) (by decide +kernel)
theorem gf_Register_39 (B : mv_B X (kk V) cc (v0 :: mw) "FamilyRules$Register" nL ret rm nm) (he : M a = some (.inr (2, fs))) {v : Value} (hv : fs[6]? = some v) (hdg : decode cc pc = .ok (.getfield 39, 3)) (k : mv_G X Q (kk V) nL (pc + 3) lv (v :: st) M cells slots) : mv_G X Q (kk V) nL pc lv (.ref a :: st) M cells slots := mv_getN B in_Global rfl he 6 (by decide) w_248 hv hdg k
theorem w_53 : (Jvm.Cond.fieldLink "FamilyRules$Shelf" (11 : Nat) "FamilyRules$Shelf" "row" "[LFamilyRules$Term;") ∈ mw := mw_t 53 (by decide +kernel) (by decide +kernel)
theorem gf_Shelf_11 (B : mv_B X (kk V) cc (v0 :: mw) "FamilyRules$Shelf" nL ret rm nm) (he : M a = some (.inr (1, fs))) {v : Value} (hv : fs[0]? = some v) (hdg : decode cc pc = .ok (.getfield 11, 3)) (k : mv_G X Q (kk V) nL (pc + 3) lv (v :: st) M cells slots) : mv_G X Q (kk V) nL pc lv (.ref a :: st) M cells slots := mv_get B in_Shelf rfl he 0 (by decide) (mwc w_53) hv hdg k
theorem w_54 : (Jvm.Cond.fieldLink "FamilyRules$Shelf" (17 : Nat) "FamilyRules$Shelf" "count" "I") ∈ mw := mw_t 54 (by decide +kernel) (by decide +kernel)
theorem gf_Shelf_17 (B : mv_B X (kk V) cc (v0 :: mw) "FamilyRules$Shelf" nL ret rm nm) (he : M a = some (.inr (1, fs))) {v : Value} (hv : fs[1]? = some v) (hdg : decode cc pc = .ok (.getfield 17, 3)) (k : mv_G X Q (kk V) nL (pc + 3) lv (v :: st) M cells slots) : mv_G X Q (kk V) nL pc lv (.ref a :: st) M cells slots := mv_get B in_Shelf rfl he 1 (by decide) (mwc w_54) hv hdg k
theorem w_56 : (Jvm.Cond.fieldLink "FamilyRules$Shelf" (21 : Nat) "FamilyRules$Shelf" "nodesInAll" "I") ∈ mw := mw_t 56 (by decide +kernel) (by decide +kernel)
theorem gf_Shelf_21 (B : mv_B X (kk V) cc (v0 :: mw) "FamilyRules$Shelf" nL ret rm nm) (he : M a = some (.inr (1, fs))) {v : Value} (hv : fs[2]? = some v) (hdg : decode cc pc = .ok (.getfield 21, 3)) (k : mv_G X Q (kk V) nL (pc + 3) lv (v :: st) M cells slots) : mv_G X Q (kk V) nL pc lv (.ref a :: st) M cells slots := mv_get B in_Shelf rfl he 2 (by decide) (mwc w_56) hv hdg k
theorem w_156 : (Jvm.Cond.fieldLink "FamilyRules$Term" (15 : Nat) "FamilyRules$Term" "kinds" "[I") ∈ mw := mw_t 156 (by decide +kernel) (by decide +kernel)
theorem gf_Term_15 (B : mv_B X (kk V) cc (v0 :: mw) "FamilyRules$Term" nL ret rm nm) (he : M a = some (.inr (0, fs))) {v : Value} (hv : fs[0]? = some v) (hdg : decode cc pc = .ok (.getfield 15, 3)) (k : mv_G X Q (kk V) nL (pc + 3) lv (v :: st) M cells slots) : mv_G X Q (kk V) nL pc lv (.ref a :: st) M cells slots := mv_get B in_Term rfl he 0 (by decide) (mwc w_156) hv hdg k
theorem w_157 : (Jvm.Cond.fieldLink "FamilyRules$Term" (21 : Nat) "FamilyRules$Term" "numbers" "[I") ∈ mw := mw_t 157 (by decide +kernel) (by decide +kernel)
theorem gf_Term_21 (B : mv_B X (kk V) cc (v0 :: mw) "FamilyRules$Term" nL ret rm nm) (he : M a = some (.inr (0, fs))) {v : Value} (hv : fs[1]? = some v) (hdg : decode cc pc = .ok (.getfield 21, 3)) (k : mv_G X Q (kk V) nL (pc + 3) lv (v :: st) M cells slots) : mv_G X Q (kk V) nL pc lv (.ref a :: st) M cells slots := mv_get B in_Term rfl he 1 (by decide) (mwc w_157) hv hdg k
theorem w_158 : (Jvm.Cond.fieldLink "FamilyRules$Term" (24 : Nat) "FamilyRules$Term" "sorts" "[I") ∈ mw := mw_t 158 (by decide +kernel) (by decide +kernel)
theorem gf_Term_24 (B : mv_B X (kk V) cc (v0 :: mw) "FamilyRules$Term" nL ret rm nm) (he : M a = some (.inr (0, fs))) {v : Value} (hv : fs[2]? = some v) (hdg : decode cc pc = .ok (.getfield 24, 3)) (k : mv_G X Q (kk V) nL (pc + 3) lv (v :: st) M cells slots) : mv_G X Q (kk V) nL pc lv (.ref a :: st) M cells slots := mv_get B in_Term rfl he 2 (by decide) (mwc w_158) hv hdg k
theorem w_159 : (Jvm.Cond.fieldLink "FamilyRules$Term" (27 : Nat) "FamilyRules$Term" "nodes" "[I") ∈ mw := mw_t 159 (by decide +kernel) (by decide +kernel)
theorem gf_Term_27 (B : mv_B X (kk V) cc (v0 :: mw) "FamilyRules$Term" nL ret rm nm) (he : M a = some (.inr (0, fs))) {v : Value} (hv : fs[3]? = some v) (hdg : decode cc pc = .ok (.getfield 27, 3)) (k : mv_G X Q (kk V) nL (pc + 3) lv (v :: st) M cells slots) : mv_G X Q (kk V) nL pc lv (.ref a :: st) M cells slots := mv_get B in_Term rfl he 3 (by decide) (mwc w_159) hv hdg k
theorem w_486 : (Jvm.Cond.fieldLink "FamilyRulesModel" (7 : Nat) "FamilyRulesModel" "kind" "[I") ∈ mw := mw_t 486 (by decide +kernel) (by decide +kernel)
theorem gf_Mod_7 (B : mv_B X (kk V) cc (v0 :: mw) "FamilyRulesModel" nL ret rm nm) (he : M a = some (.inr (7, fs))) {v : Value} (hv : fs[0]? = some v) (hdg : decode cc pc = .ok (.getfield 7, 3)) (k : mv_G X Q (kk V) nL (pc + 3) lv (v :: st) M cells slots) : mv_G X Q (kk V) nL pc lv (.ref a :: st) M cells slots := mv_get B in_Mod rfl he 0 (by decide) (mwc w_486) hv hdg k
theorem w_487 : (Jvm.Cond.fieldLink "FamilyRulesModel" (13 : Nat) "FamilyRulesModel" "value" "[I") ∈ mw := mw_t 487 (by decide +kernel) (by decide +kernel)
theorem gf_Mod_13 (B : mv_B X (kk V) cc (v0 :: mw) "FamilyRulesModel" nL ret rm nm) (he : M a = some (.inr (7, fs))) {v : Value} (hv : fs[1]? = some v) (hdg : decode cc pc = .ok (.getfield 13, 3)) (k : mv_G X Q (kk V) nL (pc + 3) lv (v :: st) M cells slots) : mv_G X Q (kk V) nL pc lv (.ref a :: st) M cells slots := mv_get B in_Mod rfl he 1 (by decide) (mwc w_487) hv hdg k
theorem w_488 : (Jvm.Cond.fieldLink "FamilyRulesModel" (16 : Nat) "FamilyRulesModel" "sort" "[I") ∈ mw := mw_t 488 (by decide +kernel) (by decide +kernel)
theorem gf_Mod_16 (B : mv_B X (kk V) cc (v0 :: mw) "FamilyRulesModel" nL ret rm nm) (he : M a = some (.inr (7, fs))) {v : Value} (hv : fs[2]? = some v) (hdg : decode cc pc = .ok (.getfield 16, 3)) (k : mv_G X Q (kk V) nL (pc + 3) lv (v :: st) M cells slots) : mv_G X Q (kk V) nL pc lv (.ref a :: st) M cells slots := mv_get B in_Mod rfl he 2 (by decide) (mwc w_488) hv hdg k
theorem w_489 : (Jvm.Cond.fieldLink "FamilyRulesModel" (19 : Nat) "FamilyRulesModel" "length" "[I") ∈ mw := mw_t 489 (by decide +kernel) (by decide +kernel)
theorem gf_Mod_19 (B : mv_B X (kk V) cc (v0 :: mw) "FamilyRulesModel" nL ret rm nm) (he : M a = some (.inr (7, fs))) {v : Value} (hv : fs[3]? = some v) (hdg : decode cc pc = .ok (.getfield 19, 3)) (k : mv_G X Q (kk V) nL (pc + 3) lv (v :: st) M cells slots) : mv_G X Q (kk V) nL pc lv (.ref a :: st) M cells slots := mv_get B in_Mod rfl he 3 (by decide) (mwc w_489) hv hdg k
theorem w_490 : (Jvm.Cond.fieldLink "FamilyRulesModel" (22 : Nat) "FamilyRulesModel" "depth" "[I") ∈ mw := mw_t 490 (by decide +kernel) (by decide +kernel)
theorem gf_Mod_22 (B : mv_B X (kk V) cc (v0 :: mw) "FamilyRulesModel" nL ret rm nm) (he : M a = some (.inr (7, fs))) {v : Value} (hv : fs[4]? = some v) (hdg : decode cc pc = .ok (.getfield 22, 3)) (k : mv_G X Q (kk V) nL (pc + 3) lv (v :: st) M cells slots) : mv_G X Q (kk V) nL pc lv (.ref a :: st) M cells slots := mv_get B in_Mod rfl he 4 (by decide) (mwc w_490) hv hdg k
theorem w_492 : (Jvm.Cond.fieldLink "FamilyRulesModel" (25 : Nat) "FamilyRulesModel" "begin" "[I") ∈ mw := mw_t 492 (by decide +kernel) (by decide +kernel)
theorem gf_Mod_25 (B : mv_B X (kk V) cc (v0 :: mw) "FamilyRulesModel" nL ret rm nm) (he : M a = some (.inr (7, fs))) {v : Value} (hv : fs[6]? = some v) (hdg : decode cc pc = .ok (.getfield 25, 3)) (k : mv_G X Q (kk V) nL (pc + 3) lv (v :: st) M cells slots) : mv_G X Q (kk V) nL pc lv (.ref a :: st) M cells slots := mv_get B in_Mod rfl he 6 (by decide) (mwc w_492) hv hdg k
theorem w_494 : (Jvm.Cond.fieldLink "FamilyRulesModel" (28 : Nat) "FamilyRulesModel" "sorts" "[I") ∈ mw := mw_t 494 (by decide +kernel) (by decide +kernel)
theorem gf_Mod_28 (B : mv_B X (kk V) cc (v0 :: mw) "FamilyRulesModel" nL ret rm nm) (he : M a = some (.inr (7, fs))) {v : Value} (hv : fs[8]? = some v) (hdg : decode cc pc = .ok (.getfield 28, 3)) (k : mv_G X Q (kk V) nL (pc + 3) lv (v :: st) M cells slots) : mv_G X Q (kk V) nL pc lv (.ref a :: st) M cells slots := mv_get B in_Mod rfl he 8 (by decide) (mwc w_494) hv hdg k
theorem w_495 : (Jvm.Cond.fieldLink "FamilyRulesModel" (31 : Nat) "FamilyRulesModel" "types" "[I") ∈ mw := mw_t 495 (by decide +kernel) (by decide +kernel)
theorem gf_Mod_31 (B : mv_B X (kk V) cc (v0 :: mw) "FamilyRulesModel" nL ret rm nm) (he : M a = some (.inr (7, fs))) {v : Value} (hv : fs[9]? = some v) (hdg : decode cc pc = .ok (.getfield 31, 3)) (k : mv_G X Q (kk V) nL (pc + 3) lv (v :: st) M cells slots) : mv_G X Q (kk V) nL pc lv (.ref a :: st) M cells slots := mv_get B in_Mod rfl he 9 (by decide) (mwc w_495) hv hdg k
theorem w_496 : (Jvm.Cond.fieldLink "FamilyRulesModel" (34 : Nat) "FamilyRulesModel" "families" "[I") ∈ mw := mw_t 496 (by decide +kernel) (by decide +kernel)
theorem gf_Mod_34 (B : mv_B X (kk V) cc (v0 :: mw) "FamilyRulesModel" nL ret rm nm) (he : M a = some (.inr (7, fs))) {v : Value} (hv : fs[10]? = some v) (hdg : decode cc pc = .ok (.getfield 34, 3)) (k : mv_G X Q (kk V) nL (pc + 3) lv (v :: st) M cells slots) : mv_G X Q (kk V) nL pc lv (.ref a :: st) M cells slots := mv_get B in_Mod rfl he 10 (by decide) (mwc w_496) hv hdg k
theorem w_497 : (Jvm.Cond.fieldLink "FamilyRulesModel" (37 : Nat) "FamilyRulesModel" "parameters" "[I") ∈ mw := mw_t 497 (by decide +kernel) (by decide +kernel)
theorem gf_Mod_37 (B : mv_B X (kk V) cc (v0 :: mw) "FamilyRulesModel" nL ret rm nm) (he : M a = some (.inr (7, fs))) {v : Value} (hv : fs[11]? = some v) (hdg : decode cc pc = .ok (.getfield 37, 3)) (k : mv_G X Q (kk V) nL (pc + 3) lv (v :: st) M cells slots) : mv_G X Q (kk V) nL pc lv (.ref a :: st) M cells slots := mv_get B in_Mod rfl he 11 (by decide) (mwc w_497) hv hdg k
theorem w_498 : (Jvm.Cond.fieldLink "FamilyRulesModel" (40 : Nat) "FamilyRulesModel" "others" "[I") ∈ mw := mw_t 498 (by decide +kernel) (by decide +kernel)
theorem gf_Mod_40 (B : mv_B X (kk V) cc (v0 :: mw) "FamilyRulesModel" nL ret rm nm) (he : M a = some (.inr (7, fs))) {v : Value} (hv : fs[12]? = some v) (hdg : decode cc pc = .ok (.getfield 40, 3)) (k : mv_G X Q (kk V) nL (pc + 3) lv (v :: st) M cells slots) : mv_G X Q (kk V) nL pc lv (.ref a :: st) M cells slots := mv_get B in_Mod rfl he 12 (by decide) (mwc w_498) hv hdg k
theorem w_499 : (Jvm.Cond.fieldLink "FamilyRulesModel" (43 : Nat) "FamilyRulesModel" "constructors" "[I") ∈ mw := mw_t 499 (by decide +kernel) (by decide +kernel)
theorem gf_Mod_43 (B : mv_B X (kk V) cc (v0 :: mw) "FamilyRulesModel" nL ret rm nm) (he : M a = some (.inr (7, fs))) {v : Value} (hv : fs[13]? = some v) (hdg : decode cc pc = .ok (.getfield 43, 3)) (k : mv_G X Q (kk V) nL (pc + 3) lv (v :: st) M cells slots) : mv_G X Q (kk V) nL pc lv (.ref a :: st) M cells slots := mv_get B in_Mod rfl he 13 (by decide) (mwc w_499) hv hdg k
theorem w_501 : (Jvm.Cond.fieldLink "FamilyRulesModel" (46 : Nat) "FamilyRulesModel" "levels" "[I") ∈ mw := mw_t 501 (by decide +kernel) (by decide +kernel)
theorem gf_Mod_46 (B : mv_B X (kk V) cc (v0 :: mw) "FamilyRulesModel" nL ret rm nm) (he : M a = some (.inr (7, fs))) {v : Value} (hv : fs[15]? = some v) (hdg : decode cc pc = .ok (.getfield 46, 3)) (k : mv_G X Q (kk V) nL (pc + 3) lv (v :: st) M cells slots) : mv_G X Q (kk V) nL pc lv (.ref a :: st) M cells slots := mv_get B in_Mod rfl he 15 (by decide) (mwc w_501) hv hdg k
theorem w_491 : (Jvm.Cond.fieldLink "FamilyRulesModel" (55 : Nat) "FamilyRulesModel" "count" "I") ∈ mw := mw_t 491 (by decide +kernel) (by decide +kernel)
theorem gf_Mod_55 (B : mv_B X (kk V) cc (v0 :: mw) "FamilyRulesModel" nL ret rm nm) (he : M a = some (.inr (7, fs))) {v : Value} (hv : fs[5]? = some v) (hdg : decode cc pc = .ok (.getfield 55, 3)) (k : mv_G X Q (kk V) nL (pc + 3) lv (v :: st) M cells slots) : mv_G X Q (kk V) nL pc lv (.ref a :: st) M cells slots := mv_get B in_Mod rfl he 5 (by decide) (mwc w_491) hv hdg k
theorem w_493 : (Jvm.Cond.fieldLink "FamilyRulesModel" (75 : Nat) "FamilyRulesModel" "terms" "I") ∈ mw := mw_t 493 (by decide +kernel) (by decide +kernel)
theorem gf_Mod_75 (B : mv_B X (kk V) cc (v0 :: mw) "FamilyRulesModel" nL ret rm nm) (he : M a = some (.inr (7, fs))) {v : Value} (hv : fs[7]? = some v) (hdg : decode cc pc = .ok (.getfield 75, 3)) (k : mv_G X Q (kk V) nL (pc + 3) lv (v :: st) M cells slots) : mv_G X Q (kk V) nL pc lv (.ref a :: st) M cells slots := mv_get B in_Mod rfl he 7 (by decide) (mwc w_493) hv hdg k
theorem w_500 : (Jvm.Cond.fieldLink "FamilyRulesModel" (81 : Nat) "FamilyRulesModel" "globals" "I") ∈ mw := mw_t 500 (by decide +kernel) (by decide +kernel)
theorem gf_Mod_81 (B : mv_B X (kk V) cc (v0 :: mw) "FamilyRulesModel" nL ret rm nm) (he : M a = some (.inr (7, fs))) {v : Value} (hv : fs[14]? = some v) (hdg : decode cc pc = .ok (.getfield 81, 3)) (k : mv_G X Q (kk V) nL (pc + 3) lv (v :: st) M cells slots) : mv_G X Q (kk V) nL pc lv (.ref a :: st) M cells slots := mv_get B in_Mod rfl he 14 (by decide) (mwc w_500) hv hdg k
theorem pF_Fam_13 (B : mv_B X (kk V) cc (v0 :: mw) "FamilyRules" nL ret rm "<init>") (he : M a = some (.inr (6, fs))) {v : Value} (hn : narrow (ty_Fam 0) v = v) (hfit : fits (ty_Fam 0) v = true) (hlen : 0 < fs.length) (hdg : decode cc pc = .ok (.putfield 13, 3)) (k : mv_G X Q (kk V) nL (pc + 3) lv st (mv_up M a (.inr (6, fs.set 0 v))) cells slots) : mv_G X Q (kk V) nL pc lv (v :: .ref a :: st) M cells slots := mv_putF B in_Fam ty_Fam tyo_Fam nm_Fam rfl he 0 (by decide) (mwc w_111) rfl rfl hn hfit hlen hdg k
theorem pF_Fam_22 (B : mv_B X (kk V) cc (v0 :: mw) "FamilyRules" nL ret rm "<init>") (he : M a = some (.inr (6, fs))) {v : Value} (hn : narrow (ty_Fam 1) v = v) (hfit : fits (ty_Fam 1) v = true) (hlen : 1 < fs.length) (hdg : decode cc pc = .ok (.putfield 22, 3)) (k : mv_G X Q (kk V) nL (pc + 3) lv st (mv_up M a (.inr (6, fs.set 1 v))) cells slots) : mv_G X Q (kk V) nL pc lv (v :: .ref a :: st) M cells slots := mv_putF B in_Fam ty_Fam tyo_Fam nm_Fam rfl he 1 (by decide) (mwc w_112) rfl rfl hn hfit hlen hdg k
theorem pF_Fam_26 (B : mv_B X (kk V) cc (v0 :: mw) "FamilyRules" nL ret rm "<init>") (he : M a = some (.inr (6, fs))) {v : Value} (hn : narrow (ty_Fam 2) v = v) (hfit : fits (ty_Fam 2) v = true) (hlen : 2 < fs.length) (hdg : decode cc pc = .ok (.putfield 26, 3)) (k : mv_G X Q (kk V) nL (pc + 3) lv st (mv_up M a (.inr (6, fs.set 2 v))) cells slots) : mv_G X Q (kk V) nL pc lv (v :: .ref a :: st) M cells slots := mv_putF B in_Fam ty_Fam tyo_Fam nm_Fam rfl he 2 (by decide) (mwc w_113) rfl rfl hn hfit hlen hdg k
theorem pF_Fam_35 (B : mv_B X (kk V) cc (v0 :: mw) "FamilyRules" nL ret rm "<init>") (he : M a = some (.inr (6, fs))) {v : Value} (hn : narrow (ty_Fam 3) v = v) (hfit : fits (ty_Fam 3) v = true) (hlen : 3 < fs.length) (hdg : decode cc pc = .ok (.putfield 35, 3)) (k : mv_G X Q (kk V) nL (pc + 3) lv st (mv_up M a (.inr (6, fs.set 3 v))) cells slots) : mv_G X Q (kk V) nL pc lv (v :: .ref a :: st) M cells slots := mv_putF B in_Fam ty_Fam tyo_Fam nm_Fam rfl he 3 (by decide) (mwc w_114) rfl rfl hn hfit hlen hdg k
theorem pf_Fam_95 (B : mv_B X (kk V) cc (v0 :: mw) "FamilyRules" nL ret rm nm) (he : M a = some (.inr (2, fs))) {v : Value} (hn : narrow (ty_Global 7) v = v) (hfit : fits (ty_Global 7) v = true) (hlen : 7 < fs.length) (hdg : decode cc pc = .ok (.putfield 95, 3)) (k : mv_G X Q (kk V) nL (pc + 3) lv st (mv_up M a (.inr (2, fs.set 7 v))) cells slots) : mv_G X Q (kk V) nL pc lv (v :: .ref a :: st) M cells slots := mv_putN B in_Global ty_Global tyo_Global nm_Global rfl he 7 (by decide) w_251 rfl hn hfit hlen hdg k
theorem pf_Fam_121 (B : mv_B X (kk V) cc (v0 :: mw) "FamilyRules" nL ret rm nm) (he : M a = some (.inr (2, fs))) {v : Value} (hn : narrow (ty_Global 8) v = v) (hfit : fits (ty_Global 8) v = true) (hlen : 8 < fs.length) (hdg : decode cc pc = .ok (.putfield 121, 3)) (k : mv_G X Q (kk V) nL (pc + 3) lv st (mv_up M a (.inr (2, fs.set 8 v))) cells slots) : mv_G X Q (kk V) nL pc lv (v :: .ref a :: st) M cells slots := mv_putN B in_Global ty_Global tyo_Global nm_Global rfl he 8 (by decide) w_255 rfl hn hfit hlen hdg k
theorem pf_Fam_141 (B : mv_B X (kk V) cc (v0 :: mw) "FamilyRules" nL ret rm nm) (he : M a = some (.inr (2, fs))) {v : Value} (hn : narrow (ty_Global 9) v = v) (hfit : fits (ty_Global 9) v = true) (hlen : 9 < fs.length) (hdg : decode cc pc = .ok (.putfield 141, 3)) (k : mv_G X Q (kk V) nL (pc + 3) lv st (mv_up M a (.inr (2, fs.set 9 v))) cells slots) : mv_G X Q (kk V) nL pc lv (v :: .ref a :: st) M cells slots := mv_putN B in_Global ty_Global tyo_Global nm_Global rfl he 9 (by decide) w_256 rfl hn hfit hlen hdg k
theorem w_253 : (Jvm.Cond.fieldLink "FamilyRules$Global" (9 : Nat) "FamilyRules$Global" "arguments" "I") ∈ mw := mw_t 253 (by decide +kernel) (by decide +kernel)
theorem pf_Global_9 (B : mv_B X (kk V) cc (v0 :: mw) "FamilyRules$Global" nL ret rm nm) (he : M a = some (.inr (2, fs))) {v : Value} (hn : narrow (ty_Global 8) v = v) (hfit : fits (ty_Global 8) v = true) (hlen : 8 < fs.length) (hdg : decode cc pc = .ok (.putfield 9, 3)) (k : mv_G X Q (kk V) nL (pc + 3) lv st (mv_up M a (.inr (2, fs.set 8 v))) cells slots) : mv_G X Q (kk V) nL pc lv (v :: .ref a :: st) M cells slots := mv_put B in_Global ty_Global tyo_Global nm_Global rfl he 8 (by decide) (mwc w_253) rfl hn hfit hlen hdg k
theorem w_227 : (Jvm.Cond.fieldLink "FamilyRules$Global" (15 : Nat) "FamilyRules$Global" "number" "I") ∈ mw := mw_t 227 (by decide +kernel) (by decide +kernel)
theorem pF_Global_15 (B : mv_B X (kk V) cc (v0 :: mw) "FamilyRules$Global" nL ret rm "<init>") (he : M a = some (.inr (2, fs))) {v : Value} (hn : narrow (ty_Global 0) v = v) (hfit : fits (ty_Global 0) v = true) (hlen : 0 < fs.length) (hdg : decode cc pc = .ok (.putfield 15, 3)) (k : mv_G X Q (kk V) nL (pc + 3) lv st (mv_up M a (.inr (2, fs.set 0 v))) cells slots) : mv_G X Q (kk V) nL pc lv (v :: .ref a :: st) M cells slots := mv_putF B in_Global ty_Global tyo_Global nm_Global rfl he 0 (by decide) (mwc w_227) rfl rfl hn hfit hlen hdg k
theorem w_230 : (Jvm.Cond.fieldLink "FamilyRules$Global" (18 : Nat) "FamilyRules$Global" "role" "I") ∈ mw := mw_t 230 (by decide +kernel) (by decide +kernel)
theorem pF_Global_18 (B : mv_B X (kk V) cc (v0 :: mw) "FamilyRules$Global" nL ret rm "<init>") (he : M a = some (.inr (2, fs))) {v : Value} (hn : narrow (ty_Global 1) v = v) (hfit : fits (ty_Global 1) v = true) (hlen : 1 < fs.length) (hdg : decode cc pc = .ok (.putfield 18, 3)) (k : mv_G X Q (kk V) nL (pc + 3) lv st (mv_up M a (.inr (2, fs.set 1 v))) cells slots) : mv_G X Q (kk V) nL pc lv (v :: .ref a :: st) M cells slots := mv_putF B in_Global ty_Global tyo_Global nm_Global rfl he 1 (by decide) (mwc w_230) rfl rfl hn hfit hlen hdg k
theorem w_233 : (Jvm.Cond.fieldLink "FamilyRules$Global" (21 : Nat) "FamilyRules$Global" "parameters" "I") ∈ mw := mw_t 233 (by decide +kernel) (by decide +kernel)
theorem pF_Global_21 (B : mv_B X (kk V) cc (v0 :: mw) "FamilyRules$Global" nL ret rm "<init>") (he : M a = some (.inr (2, fs))) {v : Value} (hn : narrow (ty_Global 2) v = v) (hfit : fits (ty_Global 2) v = true) (hlen : 2 < fs.length) (hdg : decode cc pc = .ok (.putfield 21, 3)) (k : mv_G X Q (kk V) nL (pc + 3) lv st (mv_up M a (.inr (2, fs.set 2 v))) cells slots) : mv_G X Q (kk V) nL pc lv (v :: .ref a :: st) M cells slots := mv_putF B in_Global ty_Global tyo_Global nm_Global rfl he 2 (by decide) (mwc w_233) rfl rfl hn hfit hlen hdg k
theorem w_237 : (Jvm.Cond.fieldLink "FamilyRules$Global" (24 : Nat) "FamilyRules$Global" "indices" "I") ∈ mw := mw_t 237 (by decide +kernel) (by decide +kernel)
theorem pF_Global_24 (B : mv_B X (kk V) cc (v0 :: mw) "FamilyRules$Global" nL ret rm "<init>") (he : M a = some (.inr (2, fs))) {v : Value} (hn : narrow (ty_Global 3) v = v) (hfit : fits (ty_Global 3) v = true) (hlen : 3 < fs.length) (hdg : decode cc pc = .ok (.putfield 24, 3)) (k : mv_G X Q (kk V) nL (pc + 3) lv st (mv_up M a (.inr (2, fs.set 3 v))) cells slots) : mv_G X Q (kk V) nL pc lv (v :: .ref a :: st) M cells slots := mv_putF B in_Global ty_Global tyo_Global nm_Global rfl he 3 (by decide) (mwc w_237) rfl rfl hn hfit hlen hdg k
theorem pF_Global_27 (B : mv_B X (kk V) cc (v0 :: mw) "FamilyRules$Global" nL ret rm "<init>") (he : M a = some (.inr (2, fs))) {v : Value} (hn : narrow (ty_Global 4) v = v) (hfit : fits (ty_Global 4) v = true) (hlen : 4 < fs.length) (hdg : decode cc pc = .ok (.putfield 27, 3)) (k : mv_G X Q (kk V) nL (pc + 3) lv st (mv_up M a (.inr (2, fs.set 4 v))) cells slots) : mv_G X Q (kk V) nL pc lv (v :: .ref a :: st) M cells slots := mv_putF B in_Global ty_Global tyo_Global nm_Global rfl he 4 (by decide) (mwc w_241) rfl rfl hn hfit hlen hdg k
theorem pF_Maker_9 (B : mv_B X (kk V) cc (v0 :: mw) "FamilyRules$Maker" nL ret rm "<init>") (he : M a = some (.inr (5, fs))) {v : Value} (hn : narrow (ty_Maker 0) v = v) (hfit : fits (ty_Maker 0) v = true) (hlen : 0 < fs.length) (hdg : decode cc pc = .ok (.putfield 9, 3)) (k : mv_G X Q (kk V) nL (pc + 3) lv st (mv_up M a (.inr (5, fs.set 0 v))) cells slots) : mv_G X Q (kk V) nL pc lv (v :: .ref a :: st) M cells slots := mv_putF B in_Maker ty_Maker tyo_Maker nm_Maker rfl he 0 (by decide) (mwc w_85) rfl rfl hn hfit hlen hdg k
theorem pf_Maker_15 (B : mv_B X (kk V) cc (v0 :: mw) "FamilyRules$Maker" nL ret rm nm) (he : M a = some (.inr (5, fs))) {v : Value} (hn : narrow (ty_Maker 1) v = v) (hfit : fits (ty_Maker 1) v = true) (hlen : 1 < fs.length) (hdg : decode cc pc = .ok (.putfield 15, 3)) (k : mv_G X Q (kk V) nL (pc + 3) lv st (mv_up M a (.inr (5, fs.set 1 v))) cells slots) : mv_G X Q (kk V) nL pc lv (v :: .ref a :: st) M cells slots := mv_put B in_Maker ty_Maker tyo_Maker nm_Maker rfl he 1 (by decide) (mwc w_86) rfl hn hfit hlen hdg k
theorem pf_Maker_19 (B : mv_B X (kk V) cc (v0 :: mw) "FamilyRules$Maker" nL ret rm nm) (he : M a = some (.inr (5, fs))) {v : Value} (hn : narrow (ty_Maker 2) v = v) (hfit : fits (ty_Maker 2) v = true) (hlen : 2 < fs.length) (hdg : decode cc pc = .ok (.putfield 19, 3)) (k : mv_G X Q (kk V) nL (pc + 3) lv st (mv_up M a (.inr (5, fs.set 2 v))) cells slots) : mv_G X Q (kk V) nL pc lv (v :: .ref a :: st) M cells slots := mv_put B in_Maker ty_Maker tyo_Maker nm_Maker rfl he 2 (by decide) (mwc w_87) rfl hn hfit hlen hdg k
theorem pf_Maker_33 (B : mv_B X (kk V) cc (v0 :: mw) "FamilyRules$Maker" nL ret rm nm) (he : M a = some (.inr (5, fs))) {v : Value} (hn : narrow (ty_Maker 3) v = v) (hfit : fits (ty_Maker 3) v = true) (hlen : 3 < fs.length) (hdg : decode cc pc = .ok (.putfield 33, 3)) (k : mv_G X Q (kk V) nL (pc + 3) lv st (mv_up M a (.inr (5, fs.set 3 v))) cells slots) : mv_G X Q (kk V) nL pc lv (v :: .ref a :: st) M cells slots := mv_put B in_Maker ty_Maker tyo_Maker nm_Maker rfl he 3 (by decide) (mwc w_89) rfl hn hfit hlen hdg k
theorem pf_Maker_36 (B : mv_B X (kk V) cc (v0 :: mw) "FamilyRules$Maker" nL ret rm nm) (he : M a = some (.inr (5, fs))) {v : Value} (hn : narrow (ty_Maker 4) v = v) (hfit : fits (ty_Maker 4) v = true) (hlen : 4 < fs.length) (hdg : decode cc pc = .ok (.putfield 36, 3)) (k : mv_G X Q (kk V) nL (pc + 3) lv st (mv_up M a (.inr (5, fs.set 4 v))) cells slots) : mv_G X Q (kk V) nL pc lv (v :: .ref a :: st) M cells slots := mv_put B in_Maker ty_Maker tyo_Maker nm_Maker rfl he 4 (by decide) (mwc w_90) rfl hn hfit hlen hdg k
theorem pf_Maker_129 (B : mv_B X (kk V) cc (v0 :: mw) "FamilyRules$Maker" nL ret rm nm) (he : M a = some (.inr (5, fs))) {v : Value} (hn : narrow (ty_Maker 5) v = v) (hfit : fits (ty_Maker 5) v = true) (hlen : 5 < fs.length) (hdg : decode cc pc = .ok (.putfield 129, 3)) (k : mv_G X Q (kk V) nL (pc + 3) lv st (mv_up M a (.inr (5, fs.set 5 v))) cells slots) : mv_G X Q (kk V) nL pc lv (v :: .ref a :: st) M cells slots := mv_put B in_Maker ty_Maker tyo_Maker nm_Maker rfl he 5 (by decide) (mwc w_91) rfl hn hfit hlen hdg k
theorem pf_Maker_132 (B : mv_B X (kk V) cc (v0 :: mw) "FamilyRules$Maker" nL ret rm nm) (he : M a = some (.inr (5, fs))) {v : Value} (hn : narrow (ty_Maker 6) v = v) (hfit : fits (ty_Maker 6) v = true) (hlen : 6 < fs.length) (hdg : decode cc pc = .ok (.putfield 132, 3)) (k : mv_G X Q (kk V) nL (pc + 3) lv st (mv_up M a (.inr (5, fs.set 6 v))) cells slots) : mv_G X Q (kk V) nL pc lv (v :: .ref a :: st) M cells slots := mv_put B in_Maker ty_Maker tyo_Maker nm_Maker rfl he 6 (by decide) (mwc w_92) rfl hn hfit hlen hdg k
theorem pf_Maker_135 (B : mv_B X (kk V) cc (v0 :: mw) "FamilyRules$Maker" nL ret rm nm) (he : M a = some (.inr (5, fs))) {v : Value} (hn : narrow (ty_Maker 7) v = v) (hfit : fits (ty_Maker 7) v = true) (hlen : 7 < fs.length) (hdg : decode cc pc = .ok (.putfield 135, 3)) (k : mv_G X Q (kk V) nL (pc + 3) lv st (mv_up M a (.inr (5, fs.set 7 v))) cells slots) : mv_G X Q (kk V) nL pc lv (v :: .ref a :: st) M cells slots := mv_put B in_Maker ty_Maker tyo_Maker nm_Maker rfl he 7 (by decide) (mwc w_93) rfl hn hfit hlen hdg k
theorem pF_Reader_9 (B : mv_B X (kk V) cc (v0 :: mw) "FamilyRules$Reader" nL ret rm "<init>") (he : M a = some (.inr (4, fs))) {v : Value} (hn : narrow (ty_Reader 0) v = v) (hfit : fits (ty_Reader 0) v = true) (hlen : 0 < fs.length) (hdg : decode cc pc = .ok (.putfield 9, 3)) (k : mv_G X Q (kk V) nL (pc + 3) lv st (mv_up M a (.inr (4, fs.set 0 v))) cells slots) : mv_G X Q (kk V) nL pc lv (v :: .ref a :: st) M cells slots := mv_putF B in_Reader ty_Reader tyo_Reader nm_Reader rfl he 0 (by decide) (mwc w_25) rfl rfl hn hfit hlen hdg k
theorem pf_Reader_15 (B : mv_B X (kk V) cc (v0 :: mw) "FamilyRules$Reader" nL ret rm nm) (he : M a = some (.inr (4, fs))) {v : Value} (hn : narrow (ty_Reader 1) v = v) (hfit : fits (ty_Reader 1) v = true) (hlen : 1 < fs.length) (hdg : decode cc pc = .ok (.putfield 15, 3)) (k : mv_G X Q (kk V) nL (pc + 3) lv st (mv_up M a (.inr (4, fs.set 1 v))) cells slots) : mv_G X Q (kk V) nL pc lv (v :: .ref a :: st) M cells slots := mv_put B in_Reader ty_Reader tyo_Reader nm_Reader rfl he 1 (by decide) (mwc w_26) rfl hn hfit hlen hdg k
theorem pf_Reader_19 (B : mv_B X (kk V) cc (v0 :: mw) "FamilyRules$Reader" nL ret rm nm) (he : M a = some (.inr (4, fs))) {v : Value} (hn : narrow (ty_Reader 2) v = v) (hfit : fits (ty_Reader 2) v = true) (hlen : 2 < fs.length) (hdg : decode cc pc = .ok (.putfield 19, 3)) (k : mv_G X Q (kk V) nL (pc + 3) lv st (mv_up M a (.inr (4, fs.set 2 v))) cells slots) : mv_G X Q (kk V) nL pc lv (v :: .ref a :: st) M cells slots := mv_put B in_Reader ty_Reader tyo_Reader nm_Reader rfl he 2 (by decide) (mwc w_27) rfl hn hfit hlen hdg k
theorem pf_Reader_23 (B : mv_B X (kk V) cc (v0 :: mw) "FamilyRules$Reader" nL ret rm nm) (he : M a = some (.inr (4, fs))) {v : Value} (hn : narrow (ty_Reader 3) v = v) (hfit : fits (ty_Reader 3) v = true) (hlen : 3 < fs.length) (hdg : decode cc pc = .ok (.putfield 23, 3)) (k : mv_G X Q (kk V) nL (pc + 3) lv st (mv_up M a (.inr (4, fs.set 3 v))) cells slots) : mv_G X Q (kk V) nL pc lv (v :: .ref a :: st) M cells slots := mv_put B in_Reader ty_Reader tyo_Reader nm_Reader rfl he 3 (by decide) (mwc w_30) rfl hn hfit hlen hdg k
theorem pf_Reader_35 (B : mv_B X (kk V) cc (v0 :: mw) "FamilyRules$Reader" nL ret rm nm) (he : M a = some (.inr (4, fs))) {v : Value} (hn : narrow (ty_Reader 4) v = v) (hfit : fits (ty_Reader 4) v = true) (hlen : 4 < fs.length) (hdg : decode cc pc = .ok (.putfield 35, 3)) (k : mv_G X Q (kk V) nL (pc + 3) lv st (mv_up M a (.inr (4, fs.set 4 v))) cells slots) : mv_G X Q (kk V) nL pc lv (v :: .ref a :: st) M cells slots := mv_put B in_Reader ty_Reader tyo_Reader nm_Reader rfl he 4 (by decide) (mwc w_32) rfl hn hfit hlen hdg k
theorem pF_Register_11 (B : mv_B X (kk V) cc (v0 :: mw) "FamilyRules$Register" nL ret rm "<init>") (he : M a = some (.inr (3, fs))) {v : Value} (hn : narrow (ty_Register 0) v = v) (hfit : fits (ty_Register 0) v = true) (hlen : 0 < fs.length) (hdg : decode cc pc = .ok (.putfield 11, 3)) (k : mv_G X Q (kk V) nL (pc + 3) lv st (mv_up M a (.inr (3, fs.set 0 v))) cells slots) : mv_G X Q (kk V) nL pc lv (v :: .ref a :: st) M cells slots := mv_putF B in_Register ty_Register tyo_Register nm_Register rfl he 0 (by decide) (mwc w_72) rfl rfl hn hfit hlen hdg k
theorem pf_Register_17 (B : mv_B X (kk V) cc (v0 :: mw) "FamilyRules$Register" nL ret rm nm) (he : M a = some (.inr (3, fs))) {v : Value} (hn : narrow (ty_Register 1) v = v) (hfit : fits (ty_Register 1) v = true) (hlen : 1 < fs.length) (hdg : decode cc pc = .ok (.putfield 17, 3)) (k : mv_G X Q (kk V) nL (pc + 3) lv st (mv_up M a (.inr (3, fs.set 1 v))) cells slots) : mv_G X Q (kk V) nL pc lv (v :: .ref a :: st) M cells slots := mv_put B in_Register ty_Register tyo_Register nm_Register rfl he 1 (by decide) (mwc w_73) rfl hn hfit hlen hdg k
theorem w_250 : (Jvm.Cond.fieldLinkNest "FamilyRules$Register" (35 : Nat) "FamilyRules$Global" "told" "LFamilyRules$Term;" "FamilyRules") ∈ nw := nw_t 250 (by decide +kernel) (by decide +kernel)
theorem pf_Register_35 (B : mv_B X (kk V) cc (v0 :: mw) "FamilyRules$Register" nL ret rm nm) (he : M a = some (.inr (2, fs))) {v : Value} (hn : narrow (ty_Global 7) v = v) (hfit : fits (ty_Global 7) v = true) (hlen : 7 < fs.length) (hdg : decode cc pc = .ok (.putfield 35, 3)) (k : mv_G X Q (kk V) nL (pc + 3) lv st (mv_up M a (.inr (2, fs.set 7 v))) cells slots) : mv_G X Q (kk V) nL pc lv (v :: .ref a :: st) M cells slots := mv_putN B in_Global ty_Global tyo_Global nm_Global rfl he 7 (by decide) w_250 rfl hn hfit hlen hdg k
theorem pf_Register_39 (B : mv_B X (kk V) cc (v0 :: mw) "FamilyRules$Register" nL ret rm nm) (he : M a = some (.inr (2, fs))) {v : Value} (hn : narrow (ty_Global 6) v = v) (hfit : fits (ty_Global 6) v = true) (hlen : 6 < fs.length) (hdg : decode cc pc = .ok (.putfield 39, 3)) (k : mv_G X Q (kk V) nL (pc + 3) lv st (mv_up M a (.inr (2, fs.set 6 v))) cells slots) : mv_G X Q (kk V) nL pc lv (v :: .ref a :: st) M cells slots := mv_putN B in_Global ty_Global tyo_Global nm_Global rfl he 6 (by decide) w_248 rfl hn hfit hlen hdg k
theorem w_245 : (Jvm.Cond.fieldLinkNest "FamilyRules$Register" (42 : Nat) "FamilyRules$Global" "family" "LFamilyRules$Global;" "FamilyRules") ∈ nw := nw_t 245 (by decide +kernel) (by decide +kernel)
theorem pf_Register_42 (B : mv_B X (kk V) cc (v0 :: mw) "FamilyRules$Register" nL ret rm nm) (he : M a = some (.inr (2, fs))) {v : Value} (hn : narrow (ty_Global 5) v = v) (hfit : fits (ty_Global 5) v = true) (hlen : 5 < fs.length) (hdg : decode cc pc = .ok (.putfield 42, 3)) (k : mv_G X Q (kk V) nL (pc + 3) lv st (mv_up M a (.inr (2, fs.set 5 v))) cells slots) : mv_G X Q (kk V) nL pc lv (v :: .ref a :: st) M cells slots := mv_putN B in_Global ty_Global tyo_Global nm_Global rfl he 5 (by decide) w_245 rfl hn hfit hlen hdg k
theorem pF_Shelf_11 (B : mv_B X (kk V) cc (v0 :: mw) "FamilyRules$Shelf" nL ret rm "<init>") (he : M a = some (.inr (1, fs))) {v : Value} (hn : narrow (ty_Shelf 0) v = v) (hfit : fits (ty_Shelf 0) v = true) (hlen : 0 < fs.length) (hdg : decode cc pc = .ok (.putfield 11, 3)) (k : mv_G X Q (kk V) nL (pc + 3) lv st (mv_up M a (.inr (1, fs.set 0 v))) cells slots) : mv_G X Q (kk V) nL pc lv (v :: .ref a :: st) M cells slots := mv_putF B in_Shelf ty_Shelf tyo_Shelf nm_Shelf rfl he 0 (by decide) (mwc w_53) rfl rfl hn hfit hlen hdg k
theorem pf_Shelf_17 (B : mv_B X (kk V) cc (v0 :: mw) "FamilyRules$Shelf" nL ret rm nm) (he : M a = some (.inr (1, fs))) {v : Value} (hn : narrow (ty_Shelf 1) v = v) (hfit : fits (ty_Shelf 1) v = true) (hlen : 1 < fs.length) (hdg : decode cc pc = .ok (.putfield 17, 3)) (k : mv_G X Q (kk V) nL (pc + 3) lv st (mv_up M a (.inr (1, fs.set 1 v))) cells slots) : mv_G X Q (kk V) nL pc lv (v :: .ref a :: st) M cells slots := mv_put B in_Shelf ty_Shelf tyo_Shelf nm_Shelf rfl he 1 (by decide) (mwc w_54) rfl hn hfit hlen hdg k
theorem pf_Shelf_21 (B : mv_B X (kk V) cc (v0 :: mw) "FamilyRules$Shelf" nL ret rm nm) (he : M a = some (.inr (1, fs))) {v : Value} (hn : narrow (ty_Shelf 2) v = v) (hfit : fits (ty_Shelf 2) v = true) (hlen : 2 < fs.length) (hdg : decode cc pc = .ok (.putfield 21, 3)) (k : mv_G X Q (kk V) nL (pc + 3) lv st (mv_up M a (.inr (1, fs.set 2 v))) cells slots) : mv_G X Q (kk V) nL pc lv (v :: .ref a :: st) M cells slots := mv_put B in_Shelf ty_Shelf tyo_Shelf nm_Shelf rfl he 2 (by decide) (mwc w_56) rfl hn hfit hlen hdg k
theorem pF_Term_15 (B : mv_B X (kk V) cc (v0 :: mw) "FamilyRules$Term" nL ret rm "<init>") (he : M a = some (.inr (0, fs))) {v : Value} (hn : narrow (ty_Term 0) v = v) (hfit : fits (ty_Term 0) v = true) (hlen : 0 < fs.length) (hdg : decode cc pc = .ok (.putfield 15, 3)) (k : mv_G X Q (kk V) nL (pc + 3) lv st (mv_up M a (.inr (0, fs.set 0 v))) cells slots) : mv_G X Q (kk V) nL pc lv (v :: .ref a :: st) M cells slots := mv_putF B in_Term ty_Term tyo_Term nm_Term rfl he 0 (by decide) (mwc w_156) rfl rfl hn hfit hlen hdg k
theorem pF_Term_21 (B : mv_B X (kk V) cc (v0 :: mw) "FamilyRules$Term" nL ret rm "<init>") (he : M a = some (.inr (0, fs))) {v : Value} (hn : narrow (ty_Term 1) v = v) (hfit : fits (ty_Term 1) v = true) (hlen : 1 < fs.length) (hdg : decode cc pc = .ok (.putfield 21, 3)) (k : mv_G X Q (kk V) nL (pc + 3) lv st (mv_up M a (.inr (0, fs.set 1 v))) cells slots) : mv_G X Q (kk V) nL pc lv (v :: .ref a :: st) M cells slots := mv_putF B in_Term ty_Term tyo_Term nm_Term rfl he 1 (by decide) (mwc w_157) rfl rfl hn hfit hlen hdg k
theorem pF_Term_24 (B : mv_B X (kk V) cc (v0 :: mw) "FamilyRules$Term" nL ret rm "<init>") (he : M a = some (.inr (0, fs))) {v : Value} (hn : narrow (ty_Term 2) v = v) (hfit : fits (ty_Term 2) v = true) (hlen : 2 < fs.length) (hdg : decode cc pc = .ok (.putfield 24, 3)) (k : mv_G X Q (kk V) nL (pc + 3) lv st (mv_up M a (.inr (0, fs.set 2 v))) cells slots) : mv_G X Q (kk V) nL pc lv (v :: .ref a :: st) M cells slots := mv_putF B in_Term ty_Term tyo_Term nm_Term rfl he 2 (by decide) (mwc w_158) rfl rfl hn hfit hlen hdg k
theorem pF_Term_27 (B : mv_B X (kk V) cc (v0 :: mw) "FamilyRules$Term" nL ret rm "<init>") (he : M a = some (.inr (0, fs))) {v : Value} (hn : narrow (ty_Term 3) v = v) (hfit : fits (ty_Term 3) v = true) (hlen : 3 < fs.length) (hdg : decode cc pc = .ok (.putfield 27, 3)) (k : mv_G X Q (kk V) nL (pc + 3) lv st (mv_up M a (.inr (0, fs.set 3 v))) cells slots) : mv_G X Q (kk V) nL pc lv (v :: .ref a :: st) M cells slots := mv_putF B in_Term ty_Term tyo_Term nm_Term rfl he 3 (by decide) (mwc w_159) rfl rfl hn hfit hlen hdg k
theorem pf_Mod_7 (B : mv_B X (kk V) cc (v0 :: mw) "FamilyRulesModel" nL ret rm nm) (he : M a = some (.inr (7, fs))) {v : Value} (hn : narrow (ty_Mod 0) v = v) (hfit : fits (ty_Mod 0) v = true) (hlen : 0 < fs.length) (hdg : decode cc pc = .ok (.putfield 7, 3)) (k : mv_G X Q (kk V) nL (pc + 3) lv st (mv_up M a (.inr (7, fs.set 0 v))) cells slots) : mv_G X Q (kk V) nL pc lv (v :: .ref a :: st) M cells slots := mv_put B in_Mod ty_Mod tyo_Mod nm_Mod rfl he 0 (by decide) (mwc w_486) rfl hn hfit hlen hdg k
theorem pf_Mod_13 (B : mv_B X (kk V) cc (v0 :: mw) "FamilyRulesModel" nL ret rm nm) (he : M a = some (.inr (7, fs))) {v : Value} (hn : narrow (ty_Mod 1) v = v) (hfit : fits (ty_Mod 1) v = true) (hlen : 1 < fs.length) (hdg : decode cc pc = .ok (.putfield 13, 3)) (k : mv_G X Q (kk V) nL (pc + 3) lv st (mv_up M a (.inr (7, fs.set 1 v))) cells slots) : mv_G X Q (kk V) nL pc lv (v :: .ref a :: st) M cells slots := mv_put B in_Mod ty_Mod tyo_Mod nm_Mod rfl he 1 (by decide) (mwc w_487) rfl hn hfit hlen hdg k
theorem pf_Mod_16 (B : mv_B X (kk V) cc (v0 :: mw) "FamilyRulesModel" nL ret rm nm) (he : M a = some (.inr (7, fs))) {v : Value} (hn : narrow (ty_Mod 2) v = v) (hfit : fits (ty_Mod 2) v = true) (hlen : 2 < fs.length) (hdg : decode cc pc = .ok (.putfield 16, 3)) (k : mv_G X Q (kk V) nL (pc + 3) lv st (mv_up M a (.inr (7, fs.set 2 v))) cells slots) : mv_G X Q (kk V) nL pc lv (v :: .ref a :: st) M cells slots := mv_put B in_Mod ty_Mod tyo_Mod nm_Mod rfl he 2 (by decide) (mwc w_488) rfl hn hfit hlen hdg k
theorem pf_Mod_19 (B : mv_B X (kk V) cc (v0 :: mw) "FamilyRulesModel" nL ret rm nm) (he : M a = some (.inr (7, fs))) {v : Value} (hn : narrow (ty_Mod 3) v = v) (hfit : fits (ty_Mod 3) v = true) (hlen : 3 < fs.length) (hdg : decode cc pc = .ok (.putfield 19, 3)) (k : mv_G X Q (kk V) nL (pc + 3) lv st (mv_up M a (.inr (7, fs.set 3 v))) cells slots) : mv_G X Q (kk V) nL pc lv (v :: .ref a :: st) M cells slots := mv_put B in_Mod ty_Mod tyo_Mod nm_Mod rfl he 3 (by decide) (mwc w_489) rfl hn hfit hlen hdg k
theorem pf_Mod_22 (B : mv_B X (kk V) cc (v0 :: mw) "FamilyRulesModel" nL ret rm nm) (he : M a = some (.inr (7, fs))) {v : Value} (hn : narrow (ty_Mod 4) v = v) (hfit : fits (ty_Mod 4) v = true) (hlen : 4 < fs.length) (hdg : decode cc pc = .ok (.putfield 22, 3)) (k : mv_G X Q (kk V) nL (pc + 3) lv st (mv_up M a (.inr (7, fs.set 4 v))) cells slots) : mv_G X Q (kk V) nL pc lv (v :: .ref a :: st) M cells slots := mv_put B in_Mod ty_Mod tyo_Mod nm_Mod rfl he 4 (by decide) (mwc w_490) rfl hn hfit hlen hdg k
theorem pF_Mod_25 (B : mv_B X (kk V) cc (v0 :: mw) "FamilyRulesModel" nL ret rm "<init>") (he : M a = some (.inr (7, fs))) {v : Value} (hn : narrow (ty_Mod 6) v = v) (hfit : fits (ty_Mod 6) v = true) (hlen : 6 < fs.length) (hdg : decode cc pc = .ok (.putfield 25, 3)) (k : mv_G X Q (kk V) nL (pc + 3) lv st (mv_up M a (.inr (7, fs.set 6 v))) cells slots) : mv_G X Q (kk V) nL pc lv (v :: .ref a :: st) M cells slots := mv_putF B in_Mod ty_Mod tyo_Mod nm_Mod rfl he 6 (by decide) (mwc w_492) rfl rfl hn hfit hlen hdg k
theorem pF_Mod_28 (B : mv_B X (kk V) cc (v0 :: mw) "FamilyRulesModel" nL ret rm "<init>") (he : M a = some (.inr (7, fs))) {v : Value} (hn : narrow (ty_Mod 8) v = v) (hfit : fits (ty_Mod 8) v = true) (hlen : 8 < fs.length) (hdg : decode cc pc = .ok (.putfield 28, 3)) (k : mv_G X Q (kk V) nL (pc + 3) lv st (mv_up M a (.inr (7, fs.set 8 v))) cells slots) : mv_G X Q (kk V) nL pc lv (v :: .ref a :: st) M cells slots := mv_putF B in_Mod ty_Mod tyo_Mod nm_Mod rfl he 8 (by decide) (mwc w_494) rfl rfl hn hfit hlen hdg k
theorem pF_Mod_31 (B : mv_B X (kk V) cc (v0 :: mw) "FamilyRulesModel" nL ret rm "<init>") (he : M a = some (.inr (7, fs))) {v : Value} (hn : narrow (ty_Mod 9) v = v) (hfit : fits (ty_Mod 9) v = true) (hlen : 9 < fs.length) (hdg : decode cc pc = .ok (.putfield 31, 3)) (k : mv_G X Q (kk V) nL (pc + 3) lv st (mv_up M a (.inr (7, fs.set 9 v))) cells slots) : mv_G X Q (kk V) nL pc lv (v :: .ref a :: st) M cells slots := mv_putF B in_Mod ty_Mod tyo_Mod nm_Mod rfl he 9 (by decide) (mwc w_495) rfl rfl hn hfit hlen hdg k
theorem pF_Mod_34 (B : mv_B X (kk V) cc (v0 :: mw) "FamilyRulesModel" nL ret rm "<init>") (he : M a = some (.inr (7, fs))) {v : Value} (hn : narrow (ty_Mod 10) v = v) (hfit : fits (ty_Mod 10) v = true) (hlen : 10 < fs.length) (hdg : decode cc pc = .ok (.putfield 34, 3)) (k : mv_G X Q (kk V) nL (pc + 3) lv st (mv_up M a (.inr (7, fs.set 10 v))) cells slots) : mv_G X Q (kk V) nL pc lv (v :: .ref a :: st) M cells slots := mv_putF B in_Mod ty_Mod tyo_Mod nm_Mod rfl he 10 (by decide) (mwc w_496) rfl rfl hn hfit hlen hdg k
theorem pF_Mod_37 (B : mv_B X (kk V) cc (v0 :: mw) "FamilyRulesModel" nL ret rm "<init>") (he : M a = some (.inr (7, fs))) {v : Value} (hn : narrow (ty_Mod 11) v = v) (hfit : fits (ty_Mod 11) v = true) (hlen : 11 < fs.length) (hdg : decode cc pc = .ok (.putfield 37, 3)) (k : mv_G X Q (kk V) nL (pc + 3) lv st (mv_up M a (.inr (7, fs.set 11 v))) cells slots) : mv_G X Q (kk V) nL pc lv (v :: .ref a :: st) M cells slots := mv_putF B in_Mod ty_Mod tyo_Mod nm_Mod rfl he 11 (by decide) (mwc w_497) rfl rfl hn hfit hlen hdg k
theorem pF_Mod_40 (B : mv_B X (kk V) cc (v0 :: mw) "FamilyRulesModel" nL ret rm "<init>") (he : M a = some (.inr (7, fs))) {v : Value} (hn : narrow (ty_Mod 12) v = v) (hfit : fits (ty_Mod 12) v = true) (hlen : 12 < fs.length) (hdg : decode cc pc = .ok (.putfield 40, 3)) (k : mv_G X Q (kk V) nL (pc + 3) lv st (mv_up M a (.inr (7, fs.set 12 v))) cells slots) : mv_G X Q (kk V) nL pc lv (v :: .ref a :: st) M cells slots := mv_putF B in_Mod ty_Mod tyo_Mod nm_Mod rfl he 12 (by decide) (mwc w_498) rfl rfl hn hfit hlen hdg k
theorem pF_Mod_43 (B : mv_B X (kk V) cc (v0 :: mw) "FamilyRulesModel" nL ret rm "<init>") (he : M a = some (.inr (7, fs))) {v : Value} (hn : narrow (ty_Mod 13) v = v) (hfit : fits (ty_Mod 13) v = true) (hlen : 13 < fs.length) (hdg : decode cc pc = .ok (.putfield 43, 3)) (k : mv_G X Q (kk V) nL (pc + 3) lv st (mv_up M a (.inr (7, fs.set 13 v))) cells slots) : mv_G X Q (kk V) nL pc lv (v :: .ref a :: st) M cells slots := mv_putF B in_Mod ty_Mod tyo_Mod nm_Mod rfl he 13 (by decide) (mwc w_499) rfl rfl hn hfit hlen hdg k
theorem pf_Mod_46 (B : mv_B X (kk V) cc (v0 :: mw) "FamilyRulesModel" nL ret rm nm) (he : M a = some (.inr (7, fs))) {v : Value} (hn : narrow (ty_Mod 15) v = v) (hfit : fits (ty_Mod 15) v = true) (hlen : 15 < fs.length) (hdg : decode cc pc = .ok (.putfield 46, 3)) (k : mv_G X Q (kk V) nL (pc + 3) lv st (mv_up M a (.inr (7, fs.set 15 v))) cells slots) : mv_G X Q (kk V) nL pc lv (v :: .ref a :: st) M cells slots := mv_put B in_Mod ty_Mod tyo_Mod nm_Mod rfl he 15 (by decide) (mwc w_501) rfl hn hfit hlen hdg k
theorem pf_Mod_55 (B : mv_B X (kk V) cc (v0 :: mw) "FamilyRulesModel" nL ret rm nm) (he : M a = some (.inr (7, fs))) {v : Value} (hn : narrow (ty_Mod 5) v = v) (hfit : fits (ty_Mod 5) v = true) (hlen : 5 < fs.length) (hdg : decode cc pc = .ok (.putfield 55, 3)) (k : mv_G X Q (kk V) nL (pc + 3) lv st (mv_up M a (.inr (7, fs.set 5 v))) cells slots) : mv_G X Q (kk V) nL pc lv (v :: .ref a :: st) M cells slots := mv_put B in_Mod ty_Mod tyo_Mod nm_Mod rfl he 5 (by decide) (mwc w_491) rfl hn hfit hlen hdg k
theorem pf_Mod_75 (B : mv_B X (kk V) cc (v0 :: mw) "FamilyRulesModel" nL ret rm nm) (he : M a = some (.inr (7, fs))) {v : Value} (hn : narrow (ty_Mod 7) v = v) (hfit : fits (ty_Mod 7) v = true) (hlen : 7 < fs.length) (hdg : decode cc pc = .ok (.putfield 75, 3)) (k : mv_G X Q (kk V) nL (pc + 3) lv st (mv_up M a (.inr (7, fs.set 7 v))) cells slots) : mv_G X Q (kk V) nL pc lv (v :: .ref a :: st) M cells slots := mv_put B in_Mod ty_Mod tyo_Mod nm_Mod rfl he 7 (by decide) (mwc w_493) rfl hn hfit hlen hdg k
theorem pf_Mod_81 (B : mv_B X (kk V) cc (v0 :: mw) "FamilyRulesModel" nL ret rm nm) (he : M a = some (.inr (7, fs))) {v : Value} (hn : narrow (ty_Mod 14) v = v) (hfit : fits (ty_Mod 14) v = true) (hlen : 14 < fs.length) (hdg : decode cc pc = .ok (.putfield 81, 3)) (k : mv_G X Q (kk V) nL (pc + 3) lv st (mv_up M a (.inr (7, fs.set 14 v))) cells slots) : mv_G X Q (kk V) nL pc lv (v :: .ref a :: st) M cells slots := mv_put B in_Mod ty_Mod tyo_Mod nm_Mod rfl he 14 (by decide) (mwc w_500) rfl hn hfit hlen hdg k
theorem w_21 : (Jvm.Cond.methodLinkNest "FamilyRules" (9 : Nat) ({ cls := "FamilyRules$Reader", name := "<init>", desc := "()V" } : Jvm.MethodName) "FamilyRules") ∈ nw := nw_t 21 (by decide +kernel) (by decide +kernel)
theorem w_2 : (Jvm.Cond.initialized "FamilyRules$Reader") ∈ mw := mw_t 2 (by decide +kernel) (by decide +kernel)
theorem w_22 : (Jvm.Cond.instanceMethod ({ cls := "FamilyRules$Reader", name := "<init>", desc := "()V" } : Jvm.MethodName)) ∈ mw := mw_t 22 (by decide +kernel) (by decide +kernel)
theorem ca_Fam_9 (B : mv_B X (kk V) cc (v0 :: mw) "FamilyRules" nL ret rm nm) (hM : Met X.2.1 y_Reader_init ws_Reader_init rm' (mv_Pre (kk V) (.ref b :: As) M) (mv_Q (kk V) post) mc ms V.2.2.2.2) (hrc : rm'.cells = mc) (hrs : rm'.slots = ms) (hR : rm'.frames + 1 ≤ rm.frames ∧ 20 + rm'.locals ≤ rm.locals) (hn : As.length = 0) (hstk : st = As.reverse ++ .ref b :: rest) (hcat : (rest.map fun v => v.category).sum ≤ 8) (hdg : decode cc pc = .ok (.invokespecial 9, 3)) (hf : cells + mc ≤ rm.cells ∧ slots + ms ≤ rm.slots) (k : ∀ (v : Option Value) (M1 : mv_M), post v M1 → mv_G X Q (kk V) nL (pc + 3) lv (v.toList ++ rest) M1 (cells + mc) (slots + ms)) : mv_G X Q (kk V) nL pc lv st M cells slots := mv_cIN B hM (gi w_23) rfl hrc hrs w_21 (mwc w_2) (by decide +kernel) ⟨hR.1, by have := hR.2; omega⟩ rfl (mwc w_22) hn hstk hcat hdg hf k
theorem w_47 : (Jvm.Cond.methodLinkNest "FamilyRules" (12 : Nat) ({ cls := "FamilyRules$Shelf", name := "<init>", desc := "()V" } : Jvm.MethodName) "FamilyRules") ∈ nw := nw_t 47 (by decide +kernel) (by decide +kernel)
theorem w_3 : (Jvm.Cond.initialized "FamilyRules$Shelf") ∈ mw := mw_t 3 (by decide +kernel) (by decide +kernel)
theorem w_48 : (Jvm.Cond.instanceMethod ({ cls := "FamilyRules$Shelf", name := "<init>", desc := "()V" } : Jvm.MethodName)) ∈ mw := mw_t 48 (by decide +kernel) (by decide +kernel)
theorem ca_Fam_12 (B : mv_B X (kk V) cc (v0 :: mw) "FamilyRules" nL ret rm nm) (hM : Met X.2.1 y_Shelf_init ws_Shelf_init rm' (mv_Pre (kk V) (.ref b :: As) M) (mv_Q (kk V) post) mc ms V.2.2.2.2) (hrc : rm'.cells = mc) (hrs : rm'.slots = ms) (hR : rm'.frames + 1 ≤ rm.frames ∧ 20 + rm'.locals ≤ rm.locals) (hn : As.length = 0) (hstk : st = As.reverse ++ .ref b :: rest) (hcat : (rest.map fun v => v.category).sum ≤ 8) (hdg : decode cc pc = .ok (.invokespecial 12, 3)) (hf : cells + mc ≤ rm.cells ∧ slots + ms ≤ rm.slots) (k : ∀ (v : Option Value) (M1 : mv_M), post v M1 → mv_G X Q (kk V) nL (pc + 3) lv (v.toList ++ rest) M1 (cells + mc) (slots + ms)) : mv_G X Q (kk V) nL pc lv st M cells slots := mv_cIN B hM (gi w_49) rfl hrc hrs w_47 (mwc w_3) (by decide +kernel) ⟨hR.1, by have := hR.2; omega⟩ rfl (mwc w_48) hn hstk hcat hdg hf k
theorem w_66 : (Jvm.Cond.methodLinkNest "FamilyRules" (21 : Nat) ({ cls := "FamilyRules$Register", name := "<init>", desc := "()V" } : Jvm.MethodName) "FamilyRules") ∈ nw := nw_t 66 (by decide +kernel) (by decide +kernel)
theorem w_4 : (Jvm.Cond.initialized "FamilyRules$Register") ∈ mw := mw_t 4 (by decide +kernel) (by decide +kernel)
theorem w_67 : (Jvm.Cond.instanceMethod ({ cls := "FamilyRules$Register", name := "<init>", desc := "()V" } : Jvm.MethodName)) ∈ mw := mw_t 67 (by decide +kernel) (by decide +kernel)
theorem ca_Fam_21 (B : mv_B X (kk V) cc (v0 :: mw) "FamilyRules" nL ret rm nm) (hM : Met X.2.1 y_Register_init ws_Register_init rm' (mv_Pre (kk V) (.ref b :: As) M) (mv_Q (kk V) post) mc ms V.2.2.2.2) (hrc : rm'.cells = mc) (hrs : rm'.slots = ms) (hR : rm'.frames + 1 ≤ rm.frames ∧ 20 + rm'.locals ≤ rm.locals) (hn : As.length = 0) (hstk : st = As.reverse ++ .ref b :: rest) (hcat : (rest.map fun v => v.category).sum ≤ 8) (hdg : decode cc pc = .ok (.invokespecial 21, 3)) (hf : cells + mc ≤ rm.cells ∧ slots + ms ≤ rm.slots) (k : ∀ (v : Option Value) (M1 : mv_M), post v M1 → mv_G X Q (kk V) nL (pc + 3) lv (v.toList ++ rest) M1 (cells + mc) (slots + ms)) : mv_G X Q (kk V) nL pc lv st M cells slots := mv_cIN B hM (gi w_68) rfl hrc hrs w_66 (mwc w_4) (by decide +kernel) ⟨hR.1, by have := hR.2; omega⟩ rfl (mwc w_67) hn hstk hcat hdg hf k
theorem w_81 : (Jvm.Cond.methodLinkNest "FamilyRules" (32 : Nat) ({ cls := "FamilyRules$Maker", name := "<init>", desc := "(LFamilyRules$Reader;)V" } : Jvm.MethodName) "FamilyRules") ∈ nw := nw_t 81 (by decide +kernel) (by decide +kernel)
theorem w_5 : (Jvm.Cond.initialized "FamilyRules$Maker") ∈ mw := mw_t 5 (by decide +kernel) (by decide +kernel)
theorem w_82 : (Jvm.Cond.instanceMethod ({ cls := "FamilyRules$Maker", name := "<init>", desc := "(LFamilyRules$Reader;)V" } : Jvm.MethodName)) ∈ mw := mw_t 82 (by decide +kernel) (by decide +kernel)
theorem ca_Fam_32 (B : mv_B X (kk V) cc (v0 :: mw) "FamilyRules" nL ret rm nm) (hM : Met X.2.1 y_Maker_init ws_Maker_init rm' (mv_Pre (kk V) (.ref b :: As) M) (mv_Q (kk V) post) mc ms V.2.2.2.2) (hrc : rm'.cells = mc) (hrs : rm'.slots = ms) (hR : rm'.frames + 1 ≤ rm.frames ∧ 21 + rm'.locals ≤ rm.locals) (hn : As.length = 1) (hstk : st = As.reverse ++ .ref b :: rest) (hcat : (rest.map fun v => v.category).sum ≤ 8) (hdg : decode cc pc = .ok (.invokespecial 32, 3)) (hf : cells + mc ≤ rm.cells ∧ slots + ms ≤ rm.slots) (k : ∀ (v : Option Value) (M1 : mv_M), post v M1 → mv_G X Q (kk V) nL (pc + 3) lv (v.toList ++ rest) M1 (cells + mc) (slots + ms)) : mv_G X Q (kk V) nL pc lv st M cells slots := mv_cIN B hM (gi w_83) rfl hrc hrs w_81 (mwc w_5) (by decide +kernel) ⟨hR.1, by have := hR.2; omega⟩ rfl (mwc w_82) hn hstk hcat hdg hf k
theorem w_128 : (Jvm.Cond.methodLink "FamilyRules" (39 : Nat) ({ cls := "FamilyRules", name := "isLeaf", desc := "(III)Z" } : Jvm.MethodName)) ∈ mw := mw_t 128 (by decide +kernel) (by decide +kernel)
theorem w_1 : (Jvm.Cond.initialized "FamilyRules") ∈ mw := mw_t 1 (by decide +kernel) (by decide +kernel)
theorem w_130 : (Jvm.Cond.instanceMethod ({ cls := "FamilyRules", name := "isLeaf", desc := "(III)Z" } : Jvm.MethodName)) ∈ mw := mw_t 130 (by decide +kernel) (by decide +kernel)
theorem wS_0 : (Jvm.Cond.selects "FamilyRules" ({ cls := "FamilyRules", name := "isLeaf", desc := "(III)Z" } : Jvm.MethodName) ({ cls := "FamilyRules", name := "isLeaf", desc := "(III)Z" } : Jvm.MethodName)) ∈ mw := mw_s 0 (by decide +kernel) (by decide +kernel)
theorem ca_Fam_39 (B : mv_B X (kk V) cc (v0 :: mw) "FamilyRules" nL ret rm nm) (hM : Met X.2.1 y_Fam_isLeaf ws_Fam_isLeaf rm' (mv_Pre (kk V) (.ref b :: As) M) (mv_Q (kk V) post) mc ms V.2.2.2.2) (hrc : rm'.cells = mc) (hrs : rm'.slots = ms) (hR : rm'.frames + 1 ≤ rm.frames ∧ 23 + rm'.locals ≤ rm.locals) (hb : M b = some (.inr (6, fs))) (hn : As.length = 3) (hstk : st = As.reverse ++ .ref b :: rest) (hcat : (rest.map fun v => v.category).sum ≤ 8) (hdg : decode cc pc = .ok (.invokevirtual 39, 3)) (hf : cells + mc ≤ rm.cells ∧ slots + ms ≤ rm.slots) (k : ∀ (v : Option Value) (M1 : mv_M), post v M1 → mv_G X Q (kk V) nL (pc + 3) lv (v.toList ++ rest) M1 (cells + mc) (slots + ms)) : mv_G X Q (kk V) nL pc lv st M cells slots := mv_cV B hM (giV w_131 w_128 w_130 wS_0 w_1) rfl hrc hrs (by decide +kernel) ⟨hR.1, by have := hR.2; omega⟩ rfl hb hn hstk hcat hdg hf k
theorem w_144 : (Jvm.Cond.methodLinkNest "FamilyRules" (43 : Nat) ({ cls := "FamilyRules$Shelf", name := "blank", desc := "(I)LFamilyRules$Term;" } : Jvm.MethodName) "FamilyRules") ∈ nw := nw_t 144 (by decide +kernel) (by decide +kernel)
theorem w_146 : (Jvm.Cond.instanceMethod ({ cls := "FamilyRules$Shelf", name := "blank", desc := "(I)LFamilyRules$Term;" } : Jvm.MethodName)) ∈ mw := mw_t 146 (by decide +kernel) (by decide +kernel)
theorem wS_3 : (Jvm.Cond.selects "FamilyRules$Shelf" ({ cls := "FamilyRules$Shelf", name := "blank", desc := "(I)LFamilyRules$Term;" } : Jvm.MethodName) ({ cls := "FamilyRules$Shelf", name := "blank", desc := "(I)LFamilyRules$Term;" } : Jvm.MethodName)) ∈ mw := mw_s 3 (by decide +kernel) (by decide +kernel)
theorem ca_Fam_43 (B : mv_B X (kk V) cc (v0 :: mw) "FamilyRules" nL ret rm nm) (hM : Met X.2.1 y_Shelf_blank ws_Shelf_blank rm' (mv_Pre (kk V) (.ref b :: As) M) (mv_Q (kk V) post) mc ms V.2.2.2.2) (hrc : rm'.cells = mc) (hrs : rm'.slots = ms) (hR : rm'.frames + 1 ≤ rm.frames ∧ 22 + rm'.locals ≤ rm.locals) (hb : M b = some (.inr (1, fs))) (hn : As.length = 1) (hstk : st = As.reverse ++ .ref b :: rest) (hcat : (rest.map fun v => v.category).sum ≤ 8) (hdg : decode cc pc = .ok (.invokevirtual 43, 3)) (hf : cells + mc ≤ rm.cells ∧ slots + ms ≤ rm.slots) (k : ∀ (v : Option Value) (M1 : mv_M), post v M1 → mv_G X Q (kk V) nL (pc + 3) lv (v.toList ++ rest) M1 (cells + mc) (slots + ms)) : mv_G X Q (kk V) nL pc lv st M cells slots := mv_cVN B hM (gi w_147) rfl hrc hrs w_144 (mwc w_3) (by decide +kernel) ⟨hR.1, by have := hR.2; omega⟩ (mwc w_146) (mwc wS_3) rfl hb hn hstk hcat hdg hf k
theorem w_169 : (Jvm.Cond.methodLinkNest "FamilyRules" (47 : Nat) ({ cls := "FamilyRules$Term", name := "set", desc := "(IIII)V" } : Jvm.MethodName) "FamilyRules") ∈ nw := nw_t 169 (by decide +kernel) (by decide +kernel)
theorem w_7 : (Jvm.Cond.initialized "FamilyRules$Term") ∈ mw := mw_t 7 (by decide +kernel) (by decide +kernel)
theorem w_171 : (Jvm.Cond.instanceMethod ({ cls := "FamilyRules$Term", name := "set", desc := "(IIII)V" } : Jvm.MethodName)) ∈ mw := mw_t 171 (by decide +kernel) (by decide +kernel)
theorem wS_4 : (Jvm.Cond.selects "FamilyRules$Term" ({ cls := "FamilyRules$Term", name := "set", desc := "(IIII)V" } : Jvm.MethodName) ({ cls := "FamilyRules$Term", name := "set", desc := "(IIII)V" } : Jvm.MethodName)) ∈ mw := mw_s 4 (by decide +kernel) (by decide +kernel)
theorem ca_Fam_47 (B : mv_B X (kk V) cc (v0 :: mw) "FamilyRules" nL ret rm nm) (hM : Met X.2.1 y_Term_set ws_Term_set rm' (mv_Pre (kk V) (.ref b :: As) M) (mv_Q (kk V) post) mc ms V.2.2.2.2) (hrc : rm'.cells = mc) (hrs : rm'.slots = ms) (hR : rm'.frames + 1 ≤ rm.frames ∧ 24 + rm'.locals ≤ rm.locals) (hb : M b = some (.inr (0, fs))) (hn : As.length = 4) (hstk : st = As.reverse ++ .ref b :: rest) (hcat : (rest.map fun v => v.category).sum ≤ 8) (hdg : decode cc pc = .ok (.invokevirtual 47, 3)) (hf : cells + mc ≤ rm.cells ∧ slots + ms ≤ rm.slots) (k : ∀ (v : Option Value) (M1 : mv_M), post v M1 → mv_G X Q (kk V) nL (pc + 3) lv (v.toList ++ rest) M1 (cells + mc) (slots + ms)) : mv_G X Q (kk V) nL pc lv st M cells slots := mv_cVN B hM (gi w_172) rfl hrc hrs w_169 (mwc w_7) (by decide +kernel) ⟨hR.1, by have := hR.2; omega⟩ (mwc w_171) (mwc wS_4) rfl hb hn hstk hcat hdg hf k
theorem w_173 : (Jvm.Cond.methodLinkNest "FamilyRules" (53 : Nat) ({ cls := "FamilyRules$Shelf", name := "keep", desc := "(LFamilyRules$Term;)I" } : Jvm.MethodName) "FamilyRules") ∈ nw := nw_t 173 (by decide +kernel) (by decide +kernel)
theorem w_175 : (Jvm.Cond.instanceMethod ({ cls := "FamilyRules$Shelf", name := "keep", desc := "(LFamilyRules$Term;)I" } : Jvm.MethodName)) ∈ mw := mw_t 175 (by decide +kernel) (by decide +kernel)
theorem wS_5 : (Jvm.Cond.selects "FamilyRules$Shelf" ({ cls := "FamilyRules$Shelf", name := "keep", desc := "(LFamilyRules$Term;)I" } : Jvm.MethodName) ({ cls := "FamilyRules$Shelf", name := "keep", desc := "(LFamilyRules$Term;)I" } : Jvm.MethodName)) ∈ mw := mw_s 5 (by decide +kernel) (by decide +kernel)
theorem ca_Fam_53 (B : mv_B X (kk V) cc (v0 :: mw) "FamilyRules" nL ret rm nm) (hM : Met X.2.1 y_Shelf_keep ws_Shelf_keep rm' (mv_Pre (kk V) (.ref b :: As) M) (mv_Q (kk V) post) mc ms V.2.2.2.2) (hrc : rm'.cells = mc) (hrs : rm'.slots = ms) (hR : rm'.frames + 1 ≤ rm.frames ∧ 21 + rm'.locals ≤ rm.locals) (hb : M b = some (.inr (1, fs))) (hn : As.length = 1) (hstk : st = As.reverse ++ .ref b :: rest) (hcat : (rest.map fun v => v.category).sum ≤ 8) (hdg : decode cc pc = .ok (.invokevirtual 53, 3)) (hf : cells + mc ≤ rm.cells ∧ slots + ms ≤ rm.slots) (k : ∀ (v : Option Value) (M1 : mv_M), post v M1 → mv_G X Q (kk V) nL (pc + 3) lv (v.toList ++ rest) M1 (cells + mc) (slots + ms)) : mv_G X Q (kk V) nL pc lv st M cells slots := mv_cVN B hM (gi w_176) rfl hrc hrs w_173 (mwc w_3) (by decide +kernel) ⟨hR.1, by have := hR.2; omega⟩ (mwc w_175) (mwc wS_5) rfl hb hn hstk hcat hdg hf k
theorem w_185 : (Jvm.Cond.methodLink "FamilyRules" (57 : Nat) ({ cls := "FamilyRules", name := "join", desc := "(IIII)I" } : Jvm.MethodName)) ∈ mw := mw_t 185 (by decide +kernel) (by decide +kernel)
theorem w_187 : (Jvm.Cond.instanceMethod ({ cls := "FamilyRules", name := "join", desc := "(IIII)I" } : Jvm.MethodName)) ∈ mw := mw_t 187 (by decide +kernel) (by decide +kernel)
theorem wS_7 : (Jvm.Cond.selects "FamilyRules" ({ cls := "FamilyRules", name := "join", desc := "(IIII)I" } : Jvm.MethodName) ({ cls := "FamilyRules", name := "join", desc := "(IIII)I" } : Jvm.MethodName)) ∈ mw := mw_s 7 (by decide +kernel) (by decide +kernel)
theorem ca_Fam_57 (B : mv_B X (kk V) cc (v0 :: mw) "FamilyRules" nL ret rm nm) (hM : Met X.2.1 y_Fam_join ws_Fam_join rm' (mv_Pre (kk V) (.ref b :: As) M) (mv_Q (kk V) post) mc ms V.2.2.2.2) (hrc : rm'.cells = mc) (hrs : rm'.slots = ms) (hR : rm'.frames + 1 ≤ rm.frames ∧ 27 + rm'.locals ≤ rm.locals) (hb : M b = some (.inr (6, fs))) (hn : As.length = 4) (hstk : st = As.reverse ++ .ref b :: rest) (hcat : (rest.map fun v => v.category).sum ≤ 8) (hdg : decode cc pc = .ok (.invokevirtual 57, 3)) (hf : cells + mc ≤ rm.cells ∧ slots + ms ≤ rm.slots) (k : ∀ (v : Option Value) (M1 : mv_M), post v M1 → mv_G X Q (kk V) nL (pc + 3) lv (v.toList ++ rest) M1 (cells + mc) (slots + ms)) : mv_G X Q (kk V) nL pc lv st M cells slots := mv_cV B hM (giV w_188 w_185 w_187 wS_7 w_1) rfl hrc hrs (by decide +kernel) ⟨hR.1, by have := hR.2; omega⟩ rfl hb hn hstk hcat hdg hf k
theorem w_218 : (Jvm.Cond.methodLinkNest "FamilyRules" (61 : Nat) ({ cls := "FamilyRules$Register", name := "addAxiom", desc := "()I" } : Jvm.MethodName) "FamilyRules") ∈ nw := nw_t 218 (by decide +kernel) (by decide +kernel)
theorem w_220 : (Jvm.Cond.instanceMethod ({ cls := "FamilyRules$Register", name := "addAxiom", desc := "()I" } : Jvm.MethodName)) ∈ mw := mw_t 220 (by decide +kernel) (by decide +kernel)
theorem wS_12 : (Jvm.Cond.selects "FamilyRules$Register" ({ cls := "FamilyRules$Register", name := "addAxiom", desc := "()I" } : Jvm.MethodName) ({ cls := "FamilyRules$Register", name := "addAxiom", desc := "()I" } : Jvm.MethodName)) ∈ mw := mw_s 12 (by decide +kernel) (by decide +kernel)
theorem ca_Fam_61 (B : mv_B X (kk V) cc (v0 :: mw) "FamilyRules" nL ret rm nm) (hM : Met X.2.1 y_Register_addAxiom ws_Register_addAxiom rm' (mv_Pre (kk V) (.ref b :: As) M) (mv_Q (kk V) post) mc ms V.2.2.2.2) (hrc : rm'.cells = mc) (hrs : rm'.slots = ms) (hR : rm'.frames + 1 ≤ rm.frames ∧ 20 + rm'.locals ≤ rm.locals) (hb : M b = some (.inr (3, fs))) (hn : As.length = 0) (hstk : st = As.reverse ++ .ref b :: rest) (hcat : (rest.map fun v => v.category).sum ≤ 8) (hdg : decode cc pc = .ok (.invokevirtual 61, 3)) (hf : cells + mc ≤ rm.cells ∧ slots + ms ≤ rm.slots) (k : ∀ (v : Option Value) (M1 : mv_M), post v M1 → mv_G X Q (kk V) nL (pc + 3) lv (v.toList ++ rest) M1 (cells + mc) (slots + ms)) : mv_G X Q (kk V) nL pc lv st M cells slots := mv_cVN B hM (gi w_221) rfl hrc hrs w_218 (mwc w_4) (by decide +kernel) ⟨hR.1, by have := hR.2; omega⟩ (mwc w_220) (mwc wS_12) rfl hb hn hstk hcat hdg hf k
theorem w_189 : (Jvm.Cond.methodLinkNest "FamilyRules" (65 : Nat) ({ cls := "FamilyRules$Shelf", name := "find", desc := "(I)LFamilyRules$Term;" } : Jvm.MethodName) "FamilyRules") ∈ nw := nw_t 189 (by decide +kernel) (by decide +kernel)
theorem w_191 : (Jvm.Cond.instanceMethod ({ cls := "FamilyRules$Shelf", name := "find", desc := "(I)LFamilyRules$Term;" } : Jvm.MethodName)) ∈ mw := mw_t 191 (by decide +kernel) (by decide +kernel)
theorem wS_8 : (Jvm.Cond.selects "FamilyRules$Shelf" ({ cls := "FamilyRules$Shelf", name := "find", desc := "(I)LFamilyRules$Term;" } : Jvm.MethodName) ({ cls := "FamilyRules$Shelf", name := "find", desc := "(I)LFamilyRules$Term;" } : Jvm.MethodName)) ∈ mw := mw_s 8 (by decide +kernel) (by decide +kernel)
theorem ca_Fam_65 (B : mv_B X (kk V) cc (v0 :: mw) "FamilyRules" nL ret rm nm) (hM : Met X.2.1 y_Shelf_find ws_Shelf_find rm' (mv_Pre (kk V) (.ref b :: As) M) (mv_Q (kk V) post) mc ms V.2.2.2.2) (hrc : rm'.cells = mc) (hrs : rm'.slots = ms) (hR : rm'.frames + 1 ≤ rm.frames ∧ 21 + rm'.locals ≤ rm.locals) (hb : M b = some (.inr (1, fs))) (hn : As.length = 1) (hstk : st = As.reverse ++ .ref b :: rest) (hcat : (rest.map fun v => v.category).sum ≤ 8) (hdg : decode cc pc = .ok (.invokevirtual 65, 3)) (hf : cells + mc ≤ rm.cells ∧ slots + ms ≤ rm.slots) (k : ∀ (v : Option Value) (M1 : mv_M), post v M1 → mv_G X Q (kk V) nL (pc + 3) lv (v.toList ++ rest) M1 (cells + mc) (slots + ms)) : mv_G X Q (kk V) nL pc lv st M cells slots := mv_cVN B hM (gi w_192) rfl hrc hrs w_189 (mwc w_3) (by decide +kernel) ⟨hR.1, by have := hR.2; omega⟩ (mwc w_191) (mwc wS_8) rfl hb hn hstk hcat hdg hf k
theorem w_286 : (Jvm.Cond.methodLinkNest "FamilyRules" (68 : Nat) ({ cls := "FamilyRules$Reader", name := "readShape", desc := "(LFamilyRules$Term;I)V" } : Jvm.MethodName) "FamilyRules") ∈ nw := nw_t 286 (by decide +kernel) (by decide +kernel)
theorem w_288 : (Jvm.Cond.instanceMethod ({ cls := "FamilyRules$Reader", name := "readShape", desc := "(LFamilyRules$Term;I)V" } : Jvm.MethodName)) ∈ mw := mw_t 288 (by decide +kernel) (by decide +kernel)
theorem wS_14 : (Jvm.Cond.selects "FamilyRules$Reader" ({ cls := "FamilyRules$Reader", name := "readShape", desc := "(LFamilyRules$Term;I)V" } : Jvm.MethodName) ({ cls := "FamilyRules$Reader", name := "readShape", desc := "(LFamilyRules$Term;I)V" } : Jvm.MethodName)) ∈ mw := mw_s 14 (by decide +kernel) (by decide +kernel)
theorem ca_Fam_68 (B : mv_B X (kk V) cc (v0 :: mw) "FamilyRules" nL ret rm nm) (hM : Met X.2.1 y_Reader_readShape ws_Reader_readShape rm' (mv_Pre (kk V) (.ref b :: As) M) (mv_Q (kk V) post) mc ms V.2.2.2.2) (hrc : rm'.cells = mc) (hrs : rm'.slots = ms) (hR : rm'.frames + 1 ≤ rm.frames ∧ 22 + rm'.locals ≤ rm.locals) (hb : M b = some (.inr (4, fs))) (hn : As.length = 2) (hstk : st = As.reverse ++ .ref b :: rest) (hcat : (rest.map fun v => v.category).sum ≤ 8) (hdg : decode cc pc = .ok (.invokevirtual 68, 3)) (hf : cells + mc ≤ rm.cells ∧ slots + ms ≤ rm.slots) (k : ∀ (v : Option Value) (M1 : mv_M), post v M1 → mv_G X Q (kk V) nL (pc + 3) lv (v.toList ++ rest) M1 (cells + mc) (slots + ms)) : mv_G X Q (kk V) nL pc lv st M cells slots := mv_cVN B hM (gi w_289) rfl hrc hrs w_286 (mwc w_2) (by decide +kernel) ⟨hR.1, by have := hR.2; omega⟩ (mwc w_288) (mwc wS_14) rfl hb hn hstk hcat hdg hf k
theorem w_298 : (Jvm.Cond.methodLinkNest "FamilyRules" (79 : Nat) ({ cls := "FamilyRules$Term", name := "kindAt", desc := "(I)I" } : Jvm.MethodName) "FamilyRules") ∈ nw := nw_t 298 (by decide +kernel) (by decide +kernel)
theorem w_292 : (Jvm.Cond.instanceMethod ({ cls := "FamilyRules$Term", name := "kindAt", desc := "(I)I" } : Jvm.MethodName)) ∈ mw := mw_t 292 (by decide +kernel) (by decide +kernel)
theorem wS_15 : (Jvm.Cond.selects "FamilyRules$Term" ({ cls := "FamilyRules$Term", name := "kindAt", desc := "(I)I" } : Jvm.MethodName) ({ cls := "FamilyRules$Term", name := "kindAt", desc := "(I)I" } : Jvm.MethodName)) ∈ mw := mw_s 15 (by decide +kernel) (by decide +kernel)
theorem ca_Fam_79 (B : mv_B X (kk V) cc (v0 :: mw) "FamilyRules" nL ret rm nm) (hM : Met X.2.1 y_Term_kindAt ws_Term_kindAt rm' (mv_Pre (kk V) (.ref b :: As) M) (mv_Q (kk V) post) mc ms V.2.2.2.2) (hrc : rm'.cells = mc) (hrs : rm'.slots = ms) (hR : rm'.frames + 1 ≤ rm.frames ∧ 21 + rm'.locals ≤ rm.locals) (hb : M b = some (.inr (0, fs))) (hn : As.length = 1) (hstk : st = As.reverse ++ .ref b :: rest) (hcat : (rest.map fun v => v.category).sum ≤ 8) (hdg : decode cc pc = .ok (.invokevirtual 79, 3)) (hf : cells + mc ≤ rm.cells ∧ slots + ms ≤ rm.slots) (k : ∀ (v : Option Value) (M1 : mv_M), post v M1 → mv_G X Q (kk V) nL (pc + 3) lv (v.toList ++ rest) M1 (cells + mc) (slots + ms)) : mv_G X Q (kk V) nL pc lv st M cells slots := mv_cVN B hM (gi w_293) rfl hrc hrs w_298 (mwc w_7) (by decide +kernel) ⟨hR.1, by have := hR.2; omega⟩ (mwc w_292) (mwc wS_15) rfl hb hn hstk hcat hdg hf k
theorem w_299 : (Jvm.Cond.methodLinkNest "FamilyRules" (83 : Nat) ({ cls := "FamilyRules$Reader", name := "isClosed", desc := "(LFamilyRules$Term;)Z" } : Jvm.MethodName) "FamilyRules") ∈ nw := nw_t 299 (by decide +kernel) (by decide +kernel)
theorem w_301 : (Jvm.Cond.instanceMethod ({ cls := "FamilyRules$Reader", name := "isClosed", desc := "(LFamilyRules$Term;)Z" } : Jvm.MethodName)) ∈ mw := mw_t 301 (by decide +kernel) (by decide +kernel)
theorem wS_17 : (Jvm.Cond.selects "FamilyRules$Reader" ({ cls := "FamilyRules$Reader", name := "isClosed", desc := "(LFamilyRules$Term;)Z" } : Jvm.MethodName) ({ cls := "FamilyRules$Reader", name := "isClosed", desc := "(LFamilyRules$Term;)Z" } : Jvm.MethodName)) ∈ mw := mw_s 17 (by decide +kernel) (by decide +kernel)
theorem ca_Fam_83 (B : mv_B X (kk V) cc (v0 :: mw) "FamilyRules" nL ret rm nm) (hM : Met X.2.1 y_Reader_isClosed ws_Reader_isClosed rm' (mv_Pre (kk V) (.ref b :: As) M) (mv_Q (kk V) post) mc ms V.2.2.2.2) (hrc : rm'.cells = mc) (hrs : rm'.slots = ms) (hR : rm'.frames + 1 ≤ rm.frames ∧ 22 + rm'.locals ≤ rm.locals) (hb : M b = some (.inr (4, fs))) (hn : As.length = 1) (hstk : st = As.reverse ++ .ref b :: rest) (hcat : (rest.map fun v => v.category).sum ≤ 8) (hdg : decode cc pc = .ok (.invokevirtual 83, 3)) (hf : cells + mc ≤ rm.cells ∧ slots + ms ≤ rm.slots) (k : ∀ (v : Option Value) (M1 : mv_M), post v M1 → mv_G X Q (kk V) nL (pc + 3) lv (v.toList ++ rest) M1 (cells + mc) (slots + ms)) : mv_G X Q (kk V) nL pc lv st M cells slots := mv_cVN B hM (gi w_302) rfl hrc hrs w_299 (mwc w_2) (by decide +kernel) ⟨hR.1, by have := hR.2; omega⟩ (mwc w_301) (mwc wS_17) rfl hb hn hstk hcat hdg hf k
theorem w_320 : (Jvm.Cond.methodLinkNest "FamilyRules" (87 : Nat) ({ cls := "FamilyRules$Register", name := "addFamily", desc := "(LFamilyRules$Term;III)I" } : Jvm.MethodName) "FamilyRules") ∈ nw := nw_t 320 (by decide +kernel) (by decide +kernel)
theorem w_322 : (Jvm.Cond.instanceMethod ({ cls := "FamilyRules$Register", name := "addFamily", desc := "(LFamilyRules$Term;III)I" } : Jvm.MethodName)) ∈ mw := mw_t 322 (by decide +kernel) (by decide +kernel)
theorem wS_22 : (Jvm.Cond.selects "FamilyRules$Register" ({ cls := "FamilyRules$Register", name := "addFamily", desc := "(LFamilyRules$Term;III)I" } : Jvm.MethodName) ({ cls := "FamilyRules$Register", name := "addFamily", desc := "(LFamilyRules$Term;III)I" } : Jvm.MethodName)) ∈ mw := mw_s 22 (by decide +kernel) (by decide +kernel)
theorem ca_Fam_87 (B : mv_B X (kk V) cc (v0 :: mw) "FamilyRules" nL ret rm nm) (hM : Met X.2.1 y_Register_addFamily ws_Register_addFamily rm' (mv_Pre (kk V) (.ref b :: As) M) (mv_Q (kk V) post) mc ms V.2.2.2.2) (hrc : rm'.cells = mc) (hrs : rm'.slots = ms) (hR : rm'.frames + 1 ≤ rm.frames ∧ 28 + rm'.locals ≤ rm.locals) (hb : M b = some (.inr (3, fs))) (hn : As.length = 4) (hstk : st = As.reverse ++ .ref b :: rest) (hcat : (rest.map fun v => v.category).sum ≤ 8) (hdg : decode cc pc = .ok (.invokevirtual 87, 3)) (hf : cells + mc ≤ rm.cells ∧ slots + ms ≤ rm.slots) (k : ∀ (v : Option Value) (M1 : mv_M), post v M1 → mv_G X Q (kk V) nL (pc + 3) lv (v.toList ++ rest) M1 (cells + mc) (slots + ms)) : mv_G X Q (kk V) nL pc lv st M cells slots := mv_cVN B hM (gi w_323) rfl hrc hrs w_320 (mwc w_4) (by decide +kernel) ⟨hR.1, by have := hR.2; omega⟩ (mwc w_322) (mwc wS_22) rfl hb hn hstk hcat hdg hf k
theorem w_328 : (Jvm.Cond.methodLinkNest "FamilyRules" (91 : Nat) ({ cls := "FamilyRules$Register", name := "findConstructor", desc := "(I)LFamilyRules$Global;" } : Jvm.MethodName) "FamilyRules") ∈ nw := nw_t 328 (by decide +kernel) (by decide +kernel)
theorem w_330 : (Jvm.Cond.instanceMethod ({ cls := "FamilyRules$Register", name := "findConstructor", desc := "(I)LFamilyRules$Global;" } : Jvm.MethodName)) ∈ mw := mw_t 330 (by decide +kernel) (by decide +kernel)
theorem wS_23 : (Jvm.Cond.selects "FamilyRules$Register" ({ cls := "FamilyRules$Register", name := "findConstructor", desc := "(I)LFamilyRules$Global;" } : Jvm.MethodName) ({ cls := "FamilyRules$Register", name := "findConstructor", desc := "(I)LFamilyRules$Global;" } : Jvm.MethodName)) ∈ mw := mw_s 23 (by decide +kernel) (by decide +kernel)
theorem ca_Fam_91 (B : mv_B X (kk V) cc (v0 :: mw) "FamilyRules" nL ret rm nm) (hM : Met X.2.1 y_Register_findConstructor ws_Register_findConstructor rm' (mv_Pre (kk V) (.ref b :: As) M) (mv_Q (kk V) post) mc ms V.2.2.2.2) (hrc : rm'.cells = mc) (hrs : rm'.slots = ms) (hR : rm'.frames + 1 ≤ rm.frames ∧ 22 + rm'.locals ≤ rm.locals) (hb : M b = some (.inr (3, fs))) (hn : As.length = 1) (hstk : st = As.reverse ++ .ref b :: rest) (hcat : (rest.map fun v => v.category).sum ≤ 8) (hdg : decode cc pc = .ok (.invokevirtual 91, 3)) (hf : cells + mc ≤ rm.cells ∧ slots + ms ≤ rm.slots) (k : ∀ (v : Option Value) (M1 : mv_M), post v M1 → mv_G X Q (kk V) nL (pc + 3) lv (v.toList ++ rest) M1 (cells + mc) (slots + ms)) : mv_G X Q (kk V) nL pc lv st M cells slots := mv_cVN B hM (gi w_331) rfl hrc hrs w_328 (mwc w_4) (by decide +kernel) ⟨hR.1, by have := hR.2; omega⟩ (mwc w_330) (mwc wS_23) rfl hb hn hstk hcat hdg hf k
theorem w_332 : (Jvm.Cond.methodLinkNest "FamilyRules" (108 : Nat) ({ cls := "FamilyRules$Reader", name := "isPut", desc := "(LFamilyRules$Global;I)Z" } : Jvm.MethodName) "FamilyRules") ∈ nw := nw_t 332 (by decide +kernel) (by decide +kernel)
theorem w_334 : (Jvm.Cond.instanceMethod ({ cls := "FamilyRules$Reader", name := "isPut", desc := "(LFamilyRules$Global;I)Z" } : Jvm.MethodName)) ∈ mw := mw_t 334 (by decide +kernel) (by decide +kernel)
theorem wS_24 : (Jvm.Cond.selects "FamilyRules$Reader" ({ cls := "FamilyRules$Reader", name := "isPut", desc := "(LFamilyRules$Global;I)Z" } : Jvm.MethodName) ({ cls := "FamilyRules$Reader", name := "isPut", desc := "(LFamilyRules$Global;I)Z" } : Jvm.MethodName)) ∈ mw := mw_s 24 (by decide +kernel) (by decide +kernel)
theorem ca_Fam_108 (B : mv_B X (kk V) cc (v0 :: mw) "FamilyRules" nL ret rm nm) (hM : Met X.2.1 y_Reader_isPut ws_Reader_isPut rm' (mv_Pre (kk V) (.ref b :: As) M) (mv_Q (kk V) post) mc ms V.2.2.2.2) (hrc : rm'.cells = mc) (hrs : rm'.slots = ms) (hR : rm'.frames + 1 ≤ rm.frames ∧ 25 + rm'.locals ≤ rm.locals) (hb : M b = some (.inr (4, fs))) (hn : As.length = 2) (hstk : st = As.reverse ++ .ref b :: rest) (hcat : (rest.map fun v => v.category).sum ≤ 8) (hdg : decode cc pc = .ok (.invokevirtual 108, 3)) (hf : cells + mc ≤ rm.cells ∧ slots + ms ≤ rm.slots) (k : ∀ (v : Option Value) (M1 : mv_M), post v M1 → mv_G X Q (kk V) nL (pc + 3) lv (v.toList ++ rest) M1 (cells + mc) (slots + ms)) : mv_G X Q (kk V) nL pc lv st M cells slots := mv_cVN B hM (gi w_335) rfl hrc hrs w_332 (mwc w_2) (by decide +kernel) ⟨hR.1, by have := hR.2; omega⟩ (mwc w_334) (mwc wS_24) rfl hb hn hstk hcat hdg hf k
theorem w_336 : (Jvm.Cond.methodLink "FamilyRules" (112 : Nat) ({ cls := "FamilyRules", name := "tell", desc := "(LFamilyRules$Global;LFamilyRules$Global;LFamilyRules$Term;I)I" } : Jvm.MethodName)) ∈ mw := mw_t 336 (by decide +kernel) (by decide +kernel)
theorem w_338 : (Jvm.Cond.instanceMethod ({ cls := "FamilyRules", name := "tell", desc := "(LFamilyRules$Global;LFamilyRules$Global;LFamilyRules$Term;I)I" } : Jvm.MethodName)) ∈ mw := mw_t 338 (by decide +kernel) (by decide +kernel)
theorem wS_25 : (Jvm.Cond.selects "FamilyRules" ({ cls := "FamilyRules", name := "tell", desc := "(LFamilyRules$Global;LFamilyRules$Global;LFamilyRules$Term;I)I" } : Jvm.MethodName) ({ cls := "FamilyRules", name := "tell", desc := "(LFamilyRules$Global;LFamilyRules$Global;LFamilyRules$Term;I)I" } : Jvm.MethodName)) ∈ mw := mw_s 25 (by decide +kernel) (by decide +kernel)
theorem ca_Fam_112 (B : mv_B X (kk V) cc (v0 :: mw) "FamilyRules" nL ret rm nm) (hM : Met X.2.1 y_Fam_tell ws_Fam_tell rm' (mv_Pre (kk V) (.ref b :: As) M) (mv_Q (kk V) post) mc ms V.2.2.2.2) (hrc : rm'.cells = mc) (hrs : rm'.slots = ms) (hR : rm'.frames + 1 ≤ rm.frames ∧ 28 + rm'.locals ≤ rm.locals) (hb : M b = some (.inr (6, fs))) (hn : As.length = 4) (hstk : st = As.reverse ++ .ref b :: rest) (hcat : (rest.map fun v => v.category).sum ≤ 8) (hdg : decode cc pc = .ok (.invokevirtual 112, 3)) (hf : cells + mc ≤ rm.cells ∧ slots + ms ≤ rm.slots) (k : ∀ (v : Option Value) (M1 : mv_M), post v M1 → mv_G X Q (kk V) nL (pc + 3) lv (v.toList ++ rest) M1 (cells + mc) (slots + ms)) : mv_G X Q (kk V) nL pc lv st M cells slots := mv_cV B hM (giV w_339 w_336 w_338 wS_25 w_1) rfl hrc hrs (by decide +kernel) ⟨hR.1, by have := hR.2; omega⟩ rfl hb hn hstk hcat hdg hf k
theorem w_135 : (Jvm.Cond.methodLinkNest "FamilyRules" (116 : Nat) ({ cls := "FamilyRules$Register", name := "find", desc := "(I)LFamilyRules$Global;" } : Jvm.MethodName) "FamilyRules") ∈ nw := nw_t 135 (by decide +kernel) (by decide +kernel)
theorem w_137 : (Jvm.Cond.instanceMethod ({ cls := "FamilyRules$Register", name := "find", desc := "(I)LFamilyRules$Global;" } : Jvm.MethodName)) ∈ mw := mw_t 137 (by decide +kernel) (by decide +kernel)
theorem wS_1 : (Jvm.Cond.selects "FamilyRules$Register" ({ cls := "FamilyRules$Register", name := "find", desc := "(I)LFamilyRules$Global;" } : Jvm.MethodName) ({ cls := "FamilyRules$Register", name := "find", desc := "(I)LFamilyRules$Global;" } : Jvm.MethodName)) ∈ mw := mw_s 1 (by decide +kernel) (by decide +kernel)
theorem ca_Fam_116 (B : mv_B X (kk V) cc (v0 :: mw) "FamilyRules" nL ret rm nm) (hM : Met X.2.1 y_Register_find ws_Register_find rm' (mv_Pre (kk V) (.ref b :: As) M) (mv_Q (kk V) post) mc ms V.2.2.2.2) (hrc : rm'.cells = mc) (hrs : rm'.slots = ms) (hR : rm'.frames + 1 ≤ rm.frames ∧ 21 + rm'.locals ≤ rm.locals) (hb : M b = some (.inr (3, fs))) (hn : As.length = 1) (hstk : st = As.reverse ++ .ref b :: rest) (hcat : (rest.map fun v => v.category).sum ≤ 8) (hdg : decode cc pc = .ok (.invokevirtual 116, 3)) (hf : cells + mc ≤ rm.cells ∧ slots + ms ≤ rm.slots) (k : ∀ (v : Option Value) (M1 : mv_M), post v M1 → mv_G X Q (kk V) nL (pc + 3) lv (v.toList ++ rest) M1 (cells + mc) (slots + ms)) : mv_G X Q (kk V) nL pc lv st M cells slots := mv_cVN B hM (gi w_138) rfl hrc hrs w_135 (mwc w_4) (by decide +kernel) ⟨hR.1, by have := hR.2; omega⟩ (mwc w_137) (mwc wS_1) rfl hb hn hstk hcat hdg hf k
theorem w_139 : (Jvm.Cond.methodLinkNest "FamilyRules" (130 : Nat) ({ cls := "FamilyRules$Register", name := "findFamily", desc := "(I)LFamilyRules$Global;" } : Jvm.MethodName) "FamilyRules") ∈ nw := nw_t 139 (by decide +kernel) (by decide +kernel)
theorem w_141 : (Jvm.Cond.instanceMethod ({ cls := "FamilyRules$Register", name := "findFamily", desc := "(I)LFamilyRules$Global;" } : Jvm.MethodName)) ∈ mw := mw_t 141 (by decide +kernel) (by decide +kernel)
theorem wS_2 : (Jvm.Cond.selects "FamilyRules$Register" ({ cls := "FamilyRules$Register", name := "findFamily", desc := "(I)LFamilyRules$Global;" } : Jvm.MethodName) ({ cls := "FamilyRules$Register", name := "findFamily", desc := "(I)LFamilyRules$Global;" } : Jvm.MethodName)) ∈ mw := mw_s 2 (by decide +kernel) (by decide +kernel)
theorem ca_Fam_130 (B : mv_B X (kk V) cc (v0 :: mw) "FamilyRules" nL ret rm nm) (hM : Met X.2.1 y_Register_findFamily ws_Register_findFamily rm' (mv_Pre (kk V) (.ref b :: As) M) (mv_Q (kk V) post) mc ms V.2.2.2.2) (hrc : rm'.cells = mc) (hrs : rm'.slots = ms) (hR : rm'.frames + 1 ≤ rm.frames ∧ 22 + rm'.locals ≤ rm.locals) (hb : M b = some (.inr (3, fs))) (hn : As.length = 1) (hstk : st = As.reverse ++ .ref b :: rest) (hcat : (rest.map fun v => v.category).sum ≤ 8) (hdg : decode cc pc = .ok (.invokevirtual 130, 3)) (hf : cells + mc ≤ rm.cells ∧ slots + ms ≤ rm.slots) (k : ∀ (v : Option Value) (M1 : mv_M), post v M1 → mv_G X Q (kk V) nL (pc + 3) lv (v.toList ++ rest) M1 (cells + mc) (slots + ms)) : mv_G X Q (kk V) nL pc lv st M cells slots := mv_cVN B hM (gi w_142) rfl hrc hrs w_139 (mwc w_4) (by decide +kernel) ⟨hR.1, by have := hR.2; omega⟩ (mwc w_141) (mwc wS_2) rfl hb hn hstk hcat hdg hf k
theorem w_132 : (Jvm.Cond.methodLink "FamilyRules" (133 : Nat) ({ cls := "FamilyRules", name := "isNumber", desc := "(I)Z" } : Jvm.MethodName)) ∈ mw := mw_t 132 (by decide +kernel) (by decide +kernel)
theorem w_133 : (Jvm.Cond.static ({ cls := "FamilyRules", name := "isNumber", desc := "(I)Z" } : Jvm.MethodName)) ∈ mw := mw_t 133 (by decide +kernel) (by decide +kernel)
theorem ca_Fam_133 (B : mv_B X (kk V) cc (v0 :: mw) "FamilyRules" nL ret rm nm) (hM : Met X.2.1 y_Fam_isNumber ws_Fam_isNumber rm' (mv_Pre (kk V) As M) (mv_Q (kk V) post) mc ms V.2.2.2.2) (hrc : rm'.cells = mc) (hrs : rm'.slots = ms) (hR : rm'.frames + 1 ≤ rm.frames ∧ 20 + rm'.locals ≤ rm.locals) (hn : As.length = 1) (hstk : st = As.reverse ++ rest) (hcat : (rest.map fun v => v.category).sum ≤ 8) (hdg : decode cc pc = .ok (.invokestatic 133, 3)) (hf : cells + mc ≤ rm.cells ∧ slots + ms ≤ rm.slots) (k : ∀ (v : Option Value) (M1 : mv_M), post v M1 → mv_G X Q (kk V) nL (pc + 3) lv (v.toList ++ rest) M1 (cells + mc) (slots + ms)) : mv_G X Q (kk V) nL pc lv st M cells slots := mv_cS B hM (giS w_134 w_132 w_133 w_1) rfl hrc hrs (by decide +kernel) ⟨hR.1, by have := hR.2; omega⟩ hn hstk hcat hdg hf k
theorem w_345 : (Jvm.Cond.methodLinkNest "FamilyRules" (137 : Nat) ({ cls := "FamilyRules$Reader", name := "standing", desc := "(LFamilyRules$Global;LFamilyRules$Term;II)I" } : Jvm.MethodName) "FamilyRules") ∈ nw := nw_t 345 (by decide +kernel) (by decide +kernel)
theorem w_347 : (Jvm.Cond.instanceMethod ({ cls := "FamilyRules$Reader", name := "standing", desc := "(LFamilyRules$Global;LFamilyRules$Term;II)I" } : Jvm.MethodName)) ∈ mw := mw_t 347 (by decide +kernel) (by decide +kernel)
theorem wS_27 : (Jvm.Cond.selects "FamilyRules$Reader" ({ cls := "FamilyRules$Reader", name := "standing", desc := "(LFamilyRules$Global;LFamilyRules$Term;II)I" } : Jvm.MethodName) ({ cls := "FamilyRules$Reader", name := "standing", desc := "(LFamilyRules$Global;LFamilyRules$Term;II)I" } : Jvm.MethodName)) ∈ mw := mw_s 27 (by decide +kernel) (by decide +kernel)
theorem ca_Fam_137 (B : mv_B X (kk V) cc (v0 :: mw) "FamilyRules" nL ret rm nm) (hM : Met X.2.1 y_Reader_standing ws_Reader_standing rm' (mv_Pre (kk V) (.ref b :: As) M) (mv_Q (kk V) post) mc ms V.2.2.2.2) (hrc : rm'.cells = mc) (hrs : rm'.slots = ms) (hR : rm'.frames + 1 ≤ rm.frames ∧ 25 + rm'.locals ≤ rm.locals) (hb : M b = some (.inr (4, fs))) (hn : As.length = 4) (hstk : st = As.reverse ++ .ref b :: rest) (hcat : (rest.map fun v => v.category).sum ≤ 8) (hdg : decode cc pc = .ok (.invokevirtual 137, 3)) (hf : cells + mc ≤ rm.cells ∧ slots + ms ≤ rm.slots) (k : ∀ (v : Option Value) (M1 : mv_M), post v M1 → mv_G X Q (kk V) nL (pc + 3) lv (v.toList ++ rest) M1 (cells + mc) (slots + ms)) : mv_G X Q (kk V) nL pc lv st M cells slots := mv_cVN B hM (gi w_348) rfl hrc hrs w_345 (mwc w_2) (by decide +kernel) ⟨hR.1, by have := hR.2; omega⟩ (mwc w_347) (mwc wS_27) rfl hb hn hstk hcat hdg hf k
theorem w_371 : (Jvm.Cond.methodLinkNest "FamilyRules" (144 : Nat) ({ cls := "FamilyRules$Maker", name := "begin", desc := "(LFamilyRules$Term;)V" } : Jvm.MethodName) "FamilyRules") ∈ nw := nw_t 371 (by decide +kernel) (by decide +kernel)
theorem w_373 : (Jvm.Cond.instanceMethod ({ cls := "FamilyRules$Maker", name := "begin", desc := "(LFamilyRules$Term;)V" } : Jvm.MethodName)) ∈ mw := mw_t 373 (by decide +kernel) (by decide +kernel)
theorem wS_29 : (Jvm.Cond.selects "FamilyRules$Maker" ({ cls := "FamilyRules$Maker", name := "begin", desc := "(LFamilyRules$Term;)V" } : Jvm.MethodName) ({ cls := "FamilyRules$Maker", name := "begin", desc := "(LFamilyRules$Term;)V" } : Jvm.MethodName)) ∈ mw := mw_s 29 (by decide +kernel) (by decide +kernel)
theorem ca_Fam_144 (B : mv_B X (kk V) cc (v0 :: mw) "FamilyRules" nL ret rm nm) (hM : Met X.2.1 y_Maker_begin ws_Maker_begin rm' (mv_Pre (kk V) (.ref b :: As) M) (mv_Q (kk V) post) mc ms V.2.2.2.2) (hrc : rm'.cells = mc) (hrs : rm'.slots = ms) (hR : rm'.frames + 1 ≤ rm.frames ∧ 21 + rm'.locals ≤ rm.locals) (hb : M b = some (.inr (5, fs))) (hn : As.length = 1) (hstk : st = As.reverse ++ .ref b :: rest) (hcat : (rest.map fun v => v.category).sum ≤ 8) (hdg : decode cc pc = .ok (.invokevirtual 144, 3)) (hf : cells + mc ≤ rm.cells ∧ slots + ms ≤ rm.slots) (k : ∀ (v : Option Value) (M1 : mv_M), post v M1 → mv_G X Q (kk V) nL (pc + 3) lv (v.toList ++ rest) M1 (cells + mc) (slots + ms)) : mv_G X Q (kk V) nL pc lv st M cells slots := mv_cVN B hM (gi w_374) rfl hrc hrs w_371 (mwc w_5) (by decide +kernel) ⟨hR.1, by have := hR.2; omega⟩ (mwc w_373) (mwc wS_29) rfl hb hn hstk hcat hdg hf k
theorem w_375 : (Jvm.Cond.methodLinkNest "FamilyRules" (148 : Nat) ({ cls := "FamilyRules$Maker", name := "writeBrings", desc := "(LFamilyRules$Global;I)V" } : Jvm.MethodName) "FamilyRules") ∈ nw := nw_t 375 (by decide +kernel) (by decide +kernel)
theorem w_377 : (Jvm.Cond.instanceMethod ({ cls := "FamilyRules$Maker", name := "writeBrings", desc := "(LFamilyRules$Global;I)V" } : Jvm.MethodName)) ∈ mw := mw_t 377 (by decide +kernel) (by decide +kernel)
theorem wS_30 : (Jvm.Cond.selects "FamilyRules$Maker" ({ cls := "FamilyRules$Maker", name := "writeBrings", desc := "(LFamilyRules$Global;I)V" } : Jvm.MethodName) ({ cls := "FamilyRules$Maker", name := "writeBrings", desc := "(LFamilyRules$Global;I)V" } : Jvm.MethodName)) ∈ mw := mw_s 30 (by decide +kernel) (by decide +kernel)
theorem ca_Fam_148 (B : mv_B X (kk V) cc (v0 :: mw) "FamilyRules" nL ret rm nm) (hM : Met X.2.1 y_Maker_writeBrings ws_Maker_writeBrings rm' (mv_Pre (kk V) (.ref b :: As) M) (mv_Q (kk V) post) mc ms V.2.2.2.2) (hrc : rm'.cells = mc) (hrs : rm'.slots = ms) (hR : rm'.frames + 1 ≤ rm.frames ∧ 26 + rm'.locals ≤ rm.locals) (hb : M b = some (.inr (5, fs))) (hn : As.length = 2) (hstk : st = As.reverse ++ .ref b :: rest) (hcat : (rest.map fun v => v.category).sum ≤ 8) (hdg : decode cc pc = .ok (.invokevirtual 148, 3)) (hf : cells + mc ≤ rm.cells ∧ slots + ms ≤ rm.slots) (k : ∀ (v : Option Value) (M1 : mv_M), post v M1 → mv_G X Q (kk V) nL (pc + 3) lv (v.toList ++ rest) M1 (cells + mc) (slots + ms)) : mv_G X Q (kk V) nL pc lv st M cells slots := mv_cVN B hM (gi w_378) rfl hrc hrs w_375 (mwc w_5) (by decide +kernel) ⟨hR.1, by have := hR.2; omega⟩ (mwc w_377) (mwc wS_30) rfl hb hn hstk hcat hdg hf k
theorem w_202 : (Jvm.Cond.methodLinkNest "FamilyRules" (155 : Nat) ({ cls := "FamilyRules$Term", name := "countNodes", desc := "()V" } : Jvm.MethodName) "FamilyRules") ∈ nw := nw_t 202 (by decide +kernel) (by decide +kernel)
theorem w_204 : (Jvm.Cond.instanceMethod ({ cls := "FamilyRules$Term", name := "countNodes", desc := "()V" } : Jvm.MethodName)) ∈ mw := mw_t 204 (by decide +kernel) (by decide +kernel)
theorem wS_10 : (Jvm.Cond.selects "FamilyRules$Term" ({ cls := "FamilyRules$Term", name := "countNodes", desc := "()V" } : Jvm.MethodName) ({ cls := "FamilyRules$Term", name := "countNodes", desc := "()V" } : Jvm.MethodName)) ∈ mw := mw_s 10 (by decide +kernel) (by decide +kernel)
theorem ca_Fam_155 (B : mv_B X (kk V) cc (v0 :: mw) "FamilyRules" nL ret rm nm) (hM : Met X.2.1 y_Term_countNodes ws_Term_countNodes rm' (mv_Pre (kk V) (.ref b :: As) M) (mv_Q (kk V) post) mc ms V.2.2.2.2) (hrc : rm'.cells = mc) (hrs : rm'.slots = ms) (hR : rm'.frames + 1 ≤ rm.frames ∧ 23 + rm'.locals ≤ rm.locals) (hb : M b = some (.inr (0, fs))) (hn : As.length = 0) (hstk : st = As.reverse ++ .ref b :: rest) (hcat : (rest.map fun v => v.category).sum ≤ 8) (hdg : decode cc pc = .ok (.invokevirtual 155, 3)) (hf : cells + mc ≤ rm.cells ∧ slots + ms ≤ rm.slots) (k : ∀ (v : Option Value) (M1 : mv_M), post v M1 → mv_G X Q (kk V) nL (pc + 3) lv (v.toList ++ rest) M1 (cells + mc) (slots + ms)) : mv_G X Q (kk V) nL pc lv st M cells slots := mv_cVN B hM (gi w_205) rfl hrc hrs w_202 (mwc w_7) (by decide +kernel) ⟨hR.1, by have := hR.2; omega⟩ (mwc w_204) (mwc wS_10) rfl hb hn hstk hcat hdg hf k
theorem w_436 : (Jvm.Cond.methodLinkNest "FamilyRules" (158 : Nat) ({ cls := "FamilyRules$Global", name := "isWholeTold", desc := "()Z" } : Jvm.MethodName) "FamilyRules") ∈ nw := nw_t 436 (by decide +kernel) (by decide +kernel)
theorem w_10 : (Jvm.Cond.initialized "FamilyRules$Global") ∈ mw := mw_t 10 (by decide +kernel) (by decide +kernel)
theorem w_438 : (Jvm.Cond.instanceMethod ({ cls := "FamilyRules$Global", name := "isWholeTold", desc := "()Z" } : Jvm.MethodName)) ∈ mw := mw_t 438 (by decide +kernel) (by decide +kernel)
theorem wS_42 : (Jvm.Cond.selects "FamilyRules$Global" ({ cls := "FamilyRules$Global", name := "isWholeTold", desc := "()Z" } : Jvm.MethodName) ({ cls := "FamilyRules$Global", name := "isWholeTold", desc := "()Z" } : Jvm.MethodName)) ∈ mw := mw_s 42 (by decide +kernel) (by decide +kernel)
theorem ca_Fam_158 (B : mv_B X (kk V) cc (v0 :: mw) "FamilyRules" nL ret rm nm) (hM : Met X.2.1 y_Global_isWholeTold ws_Global_isWholeTold rm' (mv_Pre (kk V) (.ref b :: As) M) (mv_Q (kk V) post) mc ms V.2.2.2.2) (hrc : rm'.cells = mc) (hrs : rm'.slots = ms) (hR : rm'.frames + 1 ≤ rm.frames ∧ 22 + rm'.locals ≤ rm.locals) (hb : M b = some (.inr (2, fs))) (hn : As.length = 0) (hstk : st = As.reverse ++ .ref b :: rest) (hcat : (rest.map fun v => v.category).sum ≤ 8) (hdg : decode cc pc = .ok (.invokevirtual 158, 3)) (hf : cells + mc ≤ rm.cells ∧ slots + ms ≤ rm.slots) (k : ∀ (v : Option Value) (M1 : mv_M), post v M1 → mv_G X Q (kk V) nL (pc + 3) lv (v.toList ++ rest) M1 (cells + mc) (slots + ms)) : mv_G X Q (kk V) nL pc lv st M cells slots := mv_cVN B hM (gi w_439) rfl hrc hrs w_436 (mwc w_10) (by decide +kernel) ⟨hR.1, by have := hR.2; omega⟩ (mwc w_438) (mwc wS_42) rfl hb hn hstk hcat hdg hf k
theorem w_444 : (Jvm.Cond.methodLinkNest "FamilyRules" (162 : Nat) ({ cls := "FamilyRules$Maker", name := "writeRecType", desc := "(LFamilyRules$Global;I)V" } : Jvm.MethodName) "FamilyRules") ∈ nw := nw_t 444 (by decide +kernel) (by decide +kernel)
theorem w_446 : (Jvm.Cond.instanceMethod ({ cls := "FamilyRules$Maker", name := "writeRecType", desc := "(LFamilyRules$Global;I)V" } : Jvm.MethodName)) ∈ mw := mw_t 446 (by decide +kernel) (by decide +kernel)
theorem wS_44 : (Jvm.Cond.selects "FamilyRules$Maker" ({ cls := "FamilyRules$Maker", name := "writeRecType", desc := "(LFamilyRules$Global;I)V" } : Jvm.MethodName) ({ cls := "FamilyRules$Maker", name := "writeRecType", desc := "(LFamilyRules$Global;I)V" } : Jvm.MethodName)) ∈ mw := mw_s 44 (by decide +kernel) (by decide +kernel)
theorem ca_Fam_162 (B : mv_B X (kk V) cc (v0 :: mw) "FamilyRules" nL ret rm nm) (hM : Met X.2.1 y_Maker_writeRecType ws_Maker_writeRecType rm' (mv_Pre (kk V) (.ref b :: As) M) (mv_Q (kk V) post) mc ms V.2.2.2.2) (hrc : rm'.cells = mc) (hrs : rm'.slots = ms) (hR : rm'.frames + 1 ≤ rm.frames ∧ 26 + rm'.locals ≤ rm.locals) (hb : M b = some (.inr (5, fs))) (hn : As.length = 2) (hstk : st = As.reverse ++ .ref b :: rest) (hcat : (rest.map fun v => v.category).sum ≤ 8) (hdg : decode cc pc = .ok (.invokevirtual 162, 3)) (hf : cells + mc ≤ rm.cells ∧ slots + ms ≤ rm.slots) (k : ∀ (v : Option Value) (M1 : mv_M), post v M1 → mv_G X Q (kk V) nL (pc + 3) lv (v.toList ++ rest) M1 (cells + mc) (slots + ms)) : mv_G X Q (kk V) nL pc lv st M cells slots := mv_cVN B hM (gi w_447) rfl hrc hrs w_444 (mwc w_5) (by decide +kernel) ⟨hR.1, by have := hR.2; omega⟩ (mwc w_446) (mwc wS_44) rfl hb hn hstk hcat hdg hf k
theorem w_473 : (Jvm.Cond.methodLinkNest "FamilyRules" (168 : Nat) ({ cls := "FamilyRules$Term", name := "has", desc := "(I)Z" } : Jvm.MethodName) "FamilyRules") ∈ nw := nw_t 473 (by decide +kernel) (by decide +kernel)
theorem w_475 : (Jvm.Cond.instanceMethod ({ cls := "FamilyRules$Term", name := "has", desc := "(I)Z" } : Jvm.MethodName)) ∈ mw := mw_t 475 (by decide +kernel) (by decide +kernel)
theorem wS_48 : (Jvm.Cond.selects "FamilyRules$Term" ({ cls := "FamilyRules$Term", name := "has", desc := "(I)Z" } : Jvm.MethodName) ({ cls := "FamilyRules$Term", name := "has", desc := "(I)Z" } : Jvm.MethodName)) ∈ mw := mw_s 48 (by decide +kernel) (by decide +kernel)
theorem ca_Fam_168 (B : mv_B X (kk V) cc (v0 :: mw) "FamilyRules" nL ret rm nm) (hM : Met X.2.1 y_Term_has ws_Term_has rm' (mv_Pre (kk V) (.ref b :: As) M) (mv_Q (kk V) post) mc ms V.2.2.2.2) (hrc : rm'.cells = mc) (hrs : rm'.slots = ms) (hR : rm'.frames + 1 ≤ rm.frames ∧ 21 + rm'.locals ≤ rm.locals) (hb : M b = some (.inr (0, fs))) (hn : As.length = 1) (hstk : st = As.reverse ++ .ref b :: rest) (hcat : (rest.map fun v => v.category).sum ≤ 8) (hdg : decode cc pc = .ok (.invokevirtual 168, 3)) (hf : cells + mc ≤ rm.cells ∧ slots + ms ≤ rm.slots) (k : ∀ (v : Option Value) (M1 : mv_M), post v M1 → mv_G X Q (kk V) nL (pc + 3) lv (v.toList ++ rest) M1 (cells + mc) (slots + ms)) : mv_G X Q (kk V) nL pc lv st M cells slots := mv_cVN B hM (gi w_476) rfl hrc hrs w_473 (mwc w_7) (by decide +kernel) ⟨hR.1, by have := hR.2; omega⟩ (mwc w_475) (mwc wS_48) rfl hb hn hstk hcat hdg hf k
theorem w_477 : (Jvm.Cond.methodLinkNest "FamilyRules" (171 : Nat) ({ cls := "FamilyRules$Term", name := "numberAt", desc := "(I)I" } : Jvm.MethodName) "FamilyRules") ∈ nw := nw_t 477 (by decide +kernel) (by decide +kernel)
theorem w_318 : (Jvm.Cond.instanceMethod ({ cls := "FamilyRules$Term", name := "numberAt", desc := "(I)I" } : Jvm.MethodName)) ∈ mw := mw_t 318 (by decide +kernel) (by decide +kernel)
theorem wS_21 : (Jvm.Cond.selects "FamilyRules$Term" ({ cls := "FamilyRules$Term", name := "numberAt", desc := "(I)I" } : Jvm.MethodName) ({ cls := "FamilyRules$Term", name := "numberAt", desc := "(I)I" } : Jvm.MethodName)) ∈ mw := mw_s 21 (by decide +kernel) (by decide +kernel)
theorem ca_Fam_171 (B : mv_B X (kk V) cc (v0 :: mw) "FamilyRules" nL ret rm nm) (hM : Met X.2.1 y_Term_numberAt ws_Term_numberAt rm' (mv_Pre (kk V) (.ref b :: As) M) (mv_Q (kk V) post) mc ms V.2.2.2.2) (hrc : rm'.cells = mc) (hrs : rm'.slots = ms) (hR : rm'.frames + 1 ≤ rm.frames ∧ 21 + rm'.locals ≤ rm.locals) (hb : M b = some (.inr (0, fs))) (hn : As.length = 1) (hstk : st = As.reverse ++ .ref b :: rest) (hcat : (rest.map fun v => v.category).sum ≤ 8) (hdg : decode cc pc = .ok (.invokevirtual 171, 3)) (hf : cells + mc ≤ rm.cells ∧ slots + ms ≤ rm.slots) (k : ∀ (v : Option Value) (M1 : mv_M), post v M1 → mv_G X Q (kk V) nL (pc + 3) lv (v.toList ++ rest) M1 (cells + mc) (slots + ms)) : mv_G X Q (kk V) nL pc lv st M cells slots := mv_cVN B hM (gi w_319) rfl hrc hrs w_477 (mwc w_7) (by decide +kernel) ⟨hR.1, by have := hR.2; omega⟩ (mwc w_318) (mwc wS_21) rfl hb hn hstk hcat hdg hf k
theorem w_478 : (Jvm.Cond.methodLinkNest "FamilyRules" (174 : Nat) ({ cls := "FamilyRules$Term", name := "sortAt", desc := "(I)I" } : Jvm.MethodName) "FamilyRules") ∈ nw := nw_t 478 (by decide +kernel) (by decide +kernel)
theorem w_414 : (Jvm.Cond.instanceMethod ({ cls := "FamilyRules$Term", name := "sortAt", desc := "(I)I" } : Jvm.MethodName)) ∈ mw := mw_t 414 (by decide +kernel) (by decide +kernel)
theorem wS_37 : (Jvm.Cond.selects "FamilyRules$Term" ({ cls := "FamilyRules$Term", name := "sortAt", desc := "(I)I" } : Jvm.MethodName) ({ cls := "FamilyRules$Term", name := "sortAt", desc := "(I)I" } : Jvm.MethodName)) ∈ mw := mw_s 37 (by decide +kernel) (by decide +kernel)
theorem ca_Fam_174 (B : mv_B X (kk V) cc (v0 :: mw) "FamilyRules" nL ret rm nm) (hM : Met X.2.1 y_Term_sortAt ws_Term_sortAt rm' (mv_Pre (kk V) (.ref b :: As) M) (mv_Q (kk V) post) mc ms V.2.2.2.2) (hrc : rm'.cells = mc) (hrs : rm'.slots = ms) (hR : rm'.frames + 1 ≤ rm.frames ∧ 21 + rm'.locals ≤ rm.locals) (hb : M b = some (.inr (0, fs))) (hn : As.length = 1) (hstk : st = As.reverse ++ .ref b :: rest) (hcat : (rest.map fun v => v.category).sum ≤ 8) (hdg : decode cc pc = .ok (.invokevirtual 174, 3)) (hf : cells + mc ≤ rm.cells ∧ slots + ms ≤ rm.slots) (k : ∀ (v : Option Value) (M1 : mv_M), post v M1 → mv_G X Q (kk V) nL (pc + 3) lv (v.toList ++ rest) M1 (cells + mc) (slots + ms)) : mv_G X Q (kk V) nL pc lv st M cells slots := mv_cVN B hM (gi w_415) rfl hrc hrs w_478 (mwc w_7) (by decide +kernel) ⟨hR.1, by have := hR.2; omega⟩ (mwc w_414) (mwc wS_37) rfl hb hn hstk hcat hdg hf k
theorem w_479 : (Jvm.Cond.methodLinkNest "FamilyRules" (177 : Nat) ({ cls := "FamilyRules$Term", name := "nodesAt", desc := "(I)I" } : Jvm.MethodName) "FamilyRules") ∈ nw := nw_t 479 (by decide +kernel) (by decide +kernel)
theorem w_208 : (Jvm.Cond.instanceMethod ({ cls := "FamilyRules$Term", name := "nodesAt", desc := "(I)I" } : Jvm.MethodName)) ∈ mw := mw_t 208 (by decide +kernel) (by decide +kernel)
theorem wS_11 : (Jvm.Cond.selects "FamilyRules$Term" ({ cls := "FamilyRules$Term", name := "nodesAt", desc := "(I)I" } : Jvm.MethodName) ({ cls := "FamilyRules$Term", name := "nodesAt", desc := "(I)I" } : Jvm.MethodName)) ∈ mw := mw_s 11 (by decide +kernel) (by decide +kernel)
theorem ca_Fam_177 (B : mv_B X (kk V) cc (v0 :: mw) "FamilyRules" nL ret rm nm) (hM : Met X.2.1 y_Term_nodesAt ws_Term_nodesAt rm' (mv_Pre (kk V) (.ref b :: As) M) (mv_Q (kk V) post) mc ms V.2.2.2.2) (hrc : rm'.cells = mc) (hrs : rm'.slots = ms) (hR : rm'.frames + 1 ≤ rm.frames ∧ 21 + rm'.locals ≤ rm.locals) (hb : M b = some (.inr (0, fs))) (hn : As.length = 1) (hstk : st = As.reverse ++ .ref b :: rest) (hcat : (rest.map fun v => v.category).sum ≤ 8) (hdg : decode cc pc = .ok (.invokevirtual 177, 3)) (hf : cells + mc ≤ rm.cells ∧ slots + ms ≤ rm.slots) (k : ∀ (v : Option Value) (M1 : mv_M), post v M1 → mv_G X Q (kk V) nL (pc + 3) lv (v.toList ++ rest) M1 (cells + mc) (slots + ms)) : mv_G X Q (kk V) nL pc lv st M cells slots := mv_cVN B hM (gi w_209) rfl hrc hrs w_479 (mwc w_7) (by decide +kernel) ⟨hR.1, by have := hR.2; omega⟩ (mwc w_208) (mwc wS_11) rfl hb hn hstk hcat hdg hf k
theorem w_193 : (Jvm.Cond.methodLinkNest "FamilyRules" (180 : Nat) ({ cls := "FamilyRules$Term", name := "length", desc := "()I" } : Jvm.MethodName) "FamilyRules") ∈ nw := nw_t 193 (by decide +kernel) (by decide +kernel)
theorem w_179 : (Jvm.Cond.instanceMethod ({ cls := "FamilyRules$Term", name := "length", desc := "()I" } : Jvm.MethodName)) ∈ mw := mw_t 179 (by decide +kernel) (by decide +kernel)
theorem wS_6 : (Jvm.Cond.selects "FamilyRules$Term" ({ cls := "FamilyRules$Term", name := "length", desc := "()I" } : Jvm.MethodName) ({ cls := "FamilyRules$Term", name := "length", desc := "()I" } : Jvm.MethodName)) ∈ mw := mw_s 6 (by decide +kernel) (by decide +kernel)
theorem ca_Fam_180 (B : mv_B X (kk V) cc (v0 :: mw) "FamilyRules" nL ret rm nm) (hM : Met X.2.1 y_Term_length ws_Term_length rm' (mv_Pre (kk V) (.ref b :: As) M) (mv_Q (kk V) post) mc ms V.2.2.2.2) (hrc : rm'.cells = mc) (hrs : rm'.slots = ms) (hR : rm'.frames + 1 ≤ rm.frames ∧ 20 + rm'.locals ≤ rm.locals) (hb : M b = some (.inr (0, fs))) (hn : As.length = 0) (hstk : st = As.reverse ++ .ref b :: rest) (hcat : (rest.map fun v => v.category).sum ≤ 8) (hdg : decode cc pc = .ok (.invokevirtual 180, 3)) (hf : cells + mc ≤ rm.cells ∧ slots + ms ≤ rm.slots) (k : ∀ (v : Option Value) (M1 : mv_M), post v M1 → mv_G X Q (kk V) nL (pc + 3) lv (v.toList ++ rest) M1 (cells + mc) (slots + ms)) : mv_G X Q (kk V) nL pc lv st M cells slots := mv_cVN B hM (gi w_180) rfl hrc hrs w_193 (mwc w_7) (by decide +kernel) ⟨hR.1, by have := hR.2; omega⟩ (mwc w_179) (mwc wS_6) rfl hb hn hstk hcat hdg hf k
theorem w_194 : (Jvm.Cond.methodLinkNest "FamilyRules" (183 : Nat) ({ cls := "FamilyRules$Term", name := "paste", desc := "(LFamilyRules$Term;I)V" } : Jvm.MethodName) "FamilyRules") ∈ nw := nw_t 194 (by decide +kernel) (by decide +kernel)
theorem w_196 : (Jvm.Cond.instanceMethod ({ cls := "FamilyRules$Term", name := "paste", desc := "(LFamilyRules$Term;I)V" } : Jvm.MethodName)) ∈ mw := mw_t 196 (by decide +kernel) (by decide +kernel)
theorem wS_9 : (Jvm.Cond.selects "FamilyRules$Term" ({ cls := "FamilyRules$Term", name := "paste", desc := "(LFamilyRules$Term;I)V" } : Jvm.MethodName) ({ cls := "FamilyRules$Term", name := "paste", desc := "(LFamilyRules$Term;I)V" } : Jvm.MethodName)) ∈ mw := mw_s 9 (by decide +kernel) (by decide +kernel)
theorem ca_Fam_183 (B : mv_B X (kk V) cc (v0 :: mw) "FamilyRules" nL ret rm nm) (hM : Met X.2.1 y_Term_paste ws_Term_paste rm' (mv_Pre (kk V) (.ref b :: As) M) (mv_Q (kk V) post) mc ms V.2.2.2.2) (hrc : rm'.cells = mc) (hrs : rm'.slots = ms) (hR : rm'.frames + 1 ≤ rm.frames ∧ 23 + rm'.locals ≤ rm.locals) (hb : M b = some (.inr (0, fs))) (hn : As.length = 2) (hstk : st = As.reverse ++ .ref b :: rest) (hcat : (rest.map fun v => v.category).sum ≤ 8) (hdg : decode cc pc = .ok (.invokevirtual 183, 3)) (hf : cells + mc ≤ rm.cells ∧ slots + ms ≤ rm.slots) (k : ∀ (v : Option Value) (M1 : mv_M), post v M1 → mv_G X Q (kk V) nL (pc + 3) lv (v.toList ++ rest) M1 (cells + mc) (slots + ms)) : mv_G X Q (kk V) nL pc lv st M cells slots := mv_cVN B hM (gi w_197) rfl hrc hrs w_194 (mwc w_7) (by decide +kernel) ⟨hR.1, by have := hR.2; omega⟩ (mwc w_196) (mwc wS_9) rfl hb hn hstk hcat hdg hf k
theorem w_340 : (Jvm.Cond.methodLinkNest "FamilyRules" (186 : Nat) ({ cls := "FamilyRules$Term", name := "behindAlls", desc := "(I)I" } : Jvm.MethodName) "FamilyRules") ∈ nw := nw_t 340 (by decide +kernel) (by decide +kernel)
theorem w_342 : (Jvm.Cond.instanceMethod ({ cls := "FamilyRules$Term", name := "behindAlls", desc := "(I)I" } : Jvm.MethodName)) ∈ mw := mw_t 342 (by decide +kernel) (by decide +kernel)
theorem wS_26 : (Jvm.Cond.selects "FamilyRules$Term" ({ cls := "FamilyRules$Term", name := "behindAlls", desc := "(I)I" } : Jvm.MethodName) ({ cls := "FamilyRules$Term", name := "behindAlls", desc := "(I)I" } : Jvm.MethodName)) ∈ mw := mw_s 26 (by decide +kernel) (by decide +kernel)
theorem ca_Fam_186 (B : mv_B X (kk V) cc (v0 :: mw) "FamilyRules" nL ret rm nm) (hM : Met X.2.1 y_Term_behindAlls ws_Term_behindAlls rm' (mv_Pre (kk V) (.ref b :: As) M) (mv_Q (kk V) post) mc ms V.2.2.2.2) (hrc : rm'.cells = mc) (hrs : rm'.slots = ms) (hR : rm'.frames + 1 ≤ rm.frames ∧ 23 + rm'.locals ≤ rm.locals) (hb : M b = some (.inr (0, fs))) (hn : As.length = 1) (hstk : st = As.reverse ++ .ref b :: rest) (hcat : (rest.map fun v => v.category).sum ≤ 8) (hdg : decode cc pc = .ok (.invokevirtual 186, 3)) (hf : cells + mc ≤ rm.cells ∧ slots + ms ≤ rm.slots) (k : ∀ (v : Option Value) (M1 : mv_M), post v M1 → mv_G X Q (kk V) nL (pc + 3) lv (v.toList ++ rest) M1 (cells + mc) (slots + ms)) : mv_G X Q (kk V) nL pc lv st M cells slots := mv_cVN B hM (gi w_343) rfl hrc hrs w_340 (mwc w_7) (by decide +kernel) ⟨hR.1, by have := hR.2; omega⟩ (mwc w_342) (mwc wS_26) rfl hb hn hstk hcat hdg hf k
theorem w_358 : (Jvm.Cond.methodLinkNest "FamilyRules" (189 : Nat) ({ cls := "FamilyRules$Term", name := "secondOf", desc := "(I)I" } : Jvm.MethodName) "FamilyRules") ∈ nw := nw_t 358 (by decide +kernel) (by decide +kernel)
theorem w_296 : (Jvm.Cond.instanceMethod ({ cls := "FamilyRules$Term", name := "secondOf", desc := "(I)I" } : Jvm.MethodName)) ∈ mw := mw_t 296 (by decide +kernel) (by decide +kernel)
theorem wS_16 : (Jvm.Cond.selects "FamilyRules$Term" ({ cls := "FamilyRules$Term", name := "secondOf", desc := "(I)I" } : Jvm.MethodName) ({ cls := "FamilyRules$Term", name := "secondOf", desc := "(I)I" } : Jvm.MethodName)) ∈ mw := mw_s 16 (by decide +kernel) (by decide +kernel)
theorem ca_Fam_189 (B : mv_B X (kk V) cc (v0 :: mw) "FamilyRules" nL ret rm nm) (hM : Met X.2.1 y_Term_secondOf ws_Term_secondOf rm' (mv_Pre (kk V) (.ref b :: As) M) (mv_Q (kk V) post) mc ms V.2.2.2.2) (hrc : rm'.cells = mc) (hrs : rm'.slots = ms) (hR : rm'.frames + 1 ≤ rm.frames ∧ 21 + rm'.locals ≤ rm.locals) (hb : M b = some (.inr (0, fs))) (hn : As.length = 1) (hstk : st = As.reverse ++ .ref b :: rest) (hcat : (rest.map fun v => v.category).sum ≤ 8) (hdg : decode cc pc = .ok (.invokevirtual 189, 3)) (hf : cells + mc ≤ rm.cells ∧ slots + ms ≤ rm.slots) (k : ∀ (v : Option Value) (M1 : mv_M), post v M1 → mv_G X Q (kk V) nL (pc + 3) lv (v.toList ++ rest) M1 (cells + mc) (slots + ms)) : mv_G X Q (kk V) nL pc lv st M cells slots := mv_cVN B hM (gi w_297) rfl hrc hrs w_358 (mwc w_7) (by decide +kernel) ⟨hR.1, by have := hR.2; omega⟩ (mwc w_296) (mwc wS_16) rfl hb hn hstk hcat hdg hf k
theorem w_440 : (Jvm.Cond.methodLink "FamilyRules$Global" (34 : Nat) ({ cls := "FamilyRules$Global", name := "constructorAt", desc := "(I)LFamilyRules$Global;" } : Jvm.MethodName)) ∈ mw := mw_t 440 (by decide +kernel) (by decide +kernel)
theorem w_442 : (Jvm.Cond.instanceMethod ({ cls := "FamilyRules$Global", name := "constructorAt", desc := "(I)LFamilyRules$Global;" } : Jvm.MethodName)) ∈ mw := mw_t 442 (by decide +kernel) (by decide +kernel)
theorem wS_43 : (Jvm.Cond.selects "FamilyRules$Global" ({ cls := "FamilyRules$Global", name := "constructorAt", desc := "(I)LFamilyRules$Global;" } : Jvm.MethodName) ({ cls := "FamilyRules$Global", name := "constructorAt", desc := "(I)LFamilyRules$Global;" } : Jvm.MethodName)) ∈ mw := mw_s 43 (by decide +kernel) (by decide +kernel)
theorem ca_Global_34 (B : mv_B X (kk V) cc (v0 :: mw) "FamilyRules$Global" nL ret rm nm) (hM : Met X.2.1 y_Global_constructorAt ws_Global_constructorAt rm' (mv_Pre (kk V) (.ref b :: As) M) (mv_Q (kk V) post) mc ms V.2.2.2.2) (hrc : rm'.cells = mc) (hrs : rm'.slots = ms) (hR : rm'.frames + 1 ≤ rm.frames ∧ 21 + rm'.locals ≤ rm.locals) (hb : M b = some (.inr (2, fs))) (hn : As.length = 1) (hstk : st = As.reverse ++ .ref b :: rest) (hcat : (rest.map fun v => v.category).sum ≤ 8) (hdg : decode cc pc = .ok (.invokevirtual 34, 3)) (hf : cells + mc ≤ rm.cells ∧ slots + ms ≤ rm.slots) (k : ∀ (v : Option Value) (M1 : mv_M), post v M1 → mv_G X Q (kk V) nL (pc + 3) lv (v.toList ++ rest) M1 (cells + mc) (slots + ms)) : mv_G X Q (kk V) nL pc lv st M cells slots := mv_cV B hM (giV w_443 w_440 w_442 wS_43 w_10) rfl hrc hrs (by decide +kernel) ⟨hR.1, by have := hR.2; omega⟩ rfl hb hn hstk hcat hdg hf k
theorem w_379 : (Jvm.Cond.methodLink "FamilyRules$Maker" (29 : Nat) ({ cls := "FamilyRules$Maker", name := "open", desc := "(LFamilyRules$Global;)Z" } : Jvm.MethodName)) ∈ mw := mw_t 379 (by decide +kernel) (by decide +kernel)
theorem w_381 : (Jvm.Cond.instanceMethod ({ cls := "FamilyRules$Maker", name := "open", desc := "(LFamilyRules$Global;)Z" } : Jvm.MethodName)) ∈ mw := mw_t 381 (by decide +kernel) (by decide +kernel)
theorem wS_31 : (Jvm.Cond.selects "FamilyRules$Maker" ({ cls := "FamilyRules$Maker", name := "open", desc := "(LFamilyRules$Global;)Z" } : Jvm.MethodName) ({ cls := "FamilyRules$Maker", name := "open", desc := "(LFamilyRules$Global;)Z" } : Jvm.MethodName)) ∈ mw := mw_s 31 (by decide +kernel) (by decide +kernel)
theorem ca_Maker_29 (B : mv_B X (kk V) cc (v0 :: mw) "FamilyRules$Maker" nL ret rm nm) (hM : Met X.2.1 y_Maker_open ws_Maker_open rm' (mv_Pre (kk V) (.ref b :: As) M) (mv_Q (kk V) post) mc ms V.2.2.2.2) (hrc : rm'.cells = mc) (hrs : rm'.slots = ms) (hR : rm'.frames + 1 ≤ rm.frames ∧ 21 + rm'.locals ≤ rm.locals) (hb : M b = some (.inr (5, fs))) (hn : As.length = 1) (hstk : st = As.reverse ++ .ref b :: rest) (hcat : (rest.map fun v => v.category).sum ≤ 8) (hdg : decode cc pc = .ok (.invokevirtual 29, 3)) (hf : cells + mc ≤ rm.cells ∧ slots + ms ≤ rm.slots) (k : ∀ (v : Option Value) (M1 : mv_M), post v M1 → mv_G X Q (kk V) nL (pc + 3) lv (v.toList ++ rest) M1 (cells + mc) (slots + ms)) : mv_G X Q (kk V) nL pc lv st M cells slots := mv_cV B hM (giV w_382 w_379 w_381 wS_31 w_5) rfl hrc hrs (by decide +kernel) ⟨hR.1, by have := hR.2; omega⟩ rfl hb hn hstk hcat hdg hf k
theorem w_384 : (Jvm.Cond.methodLinkNest "FamilyRules$Maker" (39 : Nat) ({ cls := "FamilyRules$Term", name := "behindAlls", desc := "(I)I" } : Jvm.MethodName) "FamilyRules") ∈ nw := nw_t 384 (by decide +kernel) (by decide +kernel)
theorem ca_Maker_39 (B : mv_B X (kk V) cc (v0 :: mw) "FamilyRules$Maker" nL ret rm nm) (hM : Met X.2.1 y_Term_behindAlls ws_Term_behindAlls rm' (mv_Pre (kk V) (.ref b :: As) M) (mv_Q (kk V) post) mc ms V.2.2.2.2) (hrc : rm'.cells = mc) (hrs : rm'.slots = ms) (hR : rm'.frames + 1 ≤ rm.frames ∧ 23 + rm'.locals ≤ rm.locals) (hb : M b = some (.inr (0, fs))) (hn : As.length = 1) (hstk : st = As.reverse ++ .ref b :: rest) (hcat : (rest.map fun v => v.category).sum ≤ 8) (hdg : decode cc pc = .ok (.invokevirtual 39, 3)) (hf : cells + mc ≤ rm.cells ∧ slots + ms ≤ rm.slots) (k : ∀ (v : Option Value) (M1 : mv_M), post v M1 → mv_G X Q (kk V) nL (pc + 3) lv (v.toList ++ rest) M1 (cells + mc) (slots + ms)) : mv_G X Q (kk V) nL pc lv st M cells slots := mv_cVN B hM (gi w_343) rfl hrc hrs w_384 (mwc w_7) (by decide +kernel) ⟨hR.1, by have := hR.2; omega⟩ (mwc w_342) (mwc wS_26) rfl hb hn hstk hcat hdg hf k
theorem w_385 : (Jvm.Cond.methodLinkNest "FamilyRules$Maker" (48 : Nat) ({ cls := "FamilyRules$Reader", name := "readShape", desc := "(LFamilyRules$Term;I)V" } : Jvm.MethodName) "FamilyRules") ∈ nw := nw_t 385 (by decide +kernel) (by decide +kernel)
theorem ca_Maker_48 (B : mv_B X (kk V) cc (v0 :: mw) "FamilyRules$Maker" nL ret rm nm) (hM : Met X.2.1 y_Reader_readShape ws_Reader_readShape rm' (mv_Pre (kk V) (.ref b :: As) M) (mv_Q (kk V) post) mc ms V.2.2.2.2) (hrc : rm'.cells = mc) (hrs : rm'.slots = ms) (hR : rm'.frames + 1 ≤ rm.frames ∧ 22 + rm'.locals ≤ rm.locals) (hb : M b = some (.inr (4, fs))) (hn : As.length = 2) (hstk : st = As.reverse ++ .ref b :: rest) (hcat : (rest.map fun v => v.category).sum ≤ 8) (hdg : decode cc pc = .ok (.invokevirtual 48, 3)) (hf : cells + mc ≤ rm.cells ∧ slots + ms ≤ rm.slots) (k : ∀ (v : Option Value) (M1 : mv_M), post v M1 → mv_G X Q (kk V) nL (pc + 3) lv (v.toList ++ rest) M1 (cells + mc) (slots + ms)) : mv_G X Q (kk V) nL pc lv st M cells slots := mv_cVN B hM (gi w_289) rfl hrc hrs w_385 (mwc w_2) (by decide +kernel) ⟨hR.1, by have := hR.2; omega⟩ (mwc w_288) (mwc wS_14) rfl hb hn hstk hcat hdg hf k
theorem w_386 : (Jvm.Cond.methodLinkNest "FamilyRules$Maker" (54 : Nat) ({ cls := "FamilyRules$Reader", name := "isPut", desc := "(LFamilyRules$Global;I)Z" } : Jvm.MethodName) "FamilyRules") ∈ nw := nw_t 386 (by decide +kernel) (by decide +kernel)
theorem ca_Maker_54 (B : mv_B X (kk V) cc (v0 :: mw) "FamilyRules$Maker" nL ret rm nm) (hM : Met X.2.1 y_Reader_isPut ws_Reader_isPut rm' (mv_Pre (kk V) (.ref b :: As) M) (mv_Q (kk V) post) mc ms V.2.2.2.2) (hrc : rm'.cells = mc) (hrs : rm'.slots = ms) (hR : rm'.frames + 1 ≤ rm.frames ∧ 25 + rm'.locals ≤ rm.locals) (hb : M b = some (.inr (4, fs))) (hn : As.length = 2) (hstk : st = As.reverse ++ .ref b :: rest) (hcat : (rest.map fun v => v.category).sum ≤ 8) (hdg : decode cc pc = .ok (.invokevirtual 54, 3)) (hf : cells + mc ≤ rm.cells ∧ slots + ms ≤ rm.slots) (k : ∀ (v : Option Value) (M1 : mv_M), post v M1 → mv_G X Q (kk V) nL (pc + 3) lv (v.toList ++ rest) M1 (cells + mc) (slots + ms)) : mv_G X Q (kk V) nL pc lv st M cells slots := mv_cVN B hM (gi w_335) rfl hrc hrs w_386 (mwc w_2) (by decide +kernel) ⟨hR.1, by have := hR.2; omega⟩ (mwc w_334) (mwc wS_24) rfl hb hn hstk hcat hdg hf k
theorem w_387 : (Jvm.Cond.methodLink "FamilyRules$Maker" (58 : Nat) ({ cls := "FamilyRules$Maker", name := "lift", desc := "(III)V" } : Jvm.MethodName)) ∈ mw := mw_t 387 (by decide +kernel) (by decide +kernel)
theorem w_389 : (Jvm.Cond.instanceMethod ({ cls := "FamilyRules$Maker", name := "lift", desc := "(III)V" } : Jvm.MethodName)) ∈ mw := mw_t 389 (by decide +kernel) (by decide +kernel)
theorem wS_32 : (Jvm.Cond.selects "FamilyRules$Maker" ({ cls := "FamilyRules$Maker", name := "lift", desc := "(III)V" } : Jvm.MethodName) ({ cls := "FamilyRules$Maker", name := "lift", desc := "(III)V" } : Jvm.MethodName)) ∈ mw := mw_s 32 (by decide +kernel) (by decide +kernel)
theorem ca_Maker_58 (B : mv_B X (kk V) cc (v0 :: mw) "FamilyRules$Maker" nL ret rm nm) (hM : Met X.2.1 y_Maker_lift ws_Maker_lift rm' (mv_Pre (kk V) (.ref b :: As) M) (mv_Q (kk V) post) mc ms V.2.2.2.2) (hrc : rm'.cells = mc) (hrs : rm'.slots = ms) (hR : rm'.frames + 1 ≤ rm.frames ∧ 23 + rm'.locals ≤ rm.locals) (hb : M b = some (.inr (5, fs))) (hn : As.length = 3) (hstk : st = As.reverse ++ .ref b :: rest) (hcat : (rest.map fun v => v.category).sum ≤ 8) (hdg : decode cc pc = .ok (.invokevirtual 58, 3)) (hf : cells + mc ≤ rm.cells ∧ slots + ms ≤ rm.slots) (k : ∀ (v : Option Value) (M1 : mv_M), post v M1 → mv_G X Q (kk V) nL (pc + 3) lv (v.toList ++ rest) M1 (cells + mc) (slots + ms)) : mv_G X Q (kk V) nL pc lv st M cells slots := mv_cV B hM (giV w_390 w_387 w_389 wS_32 w_5) rfl hrc hrs (by decide +kernel) ⟨hR.1, by have := hR.2; omega⟩ rfl hb hn hstk hcat hdg hf k
theorem w_391 : (Jvm.Cond.methodLink "FamilyRules$Maker" (62 : Nat) ({ cls := "FamilyRules$Maker", name := "writeBrought", desc := "(LFamilyRules$Global;IIII)V" } : Jvm.MethodName)) ∈ mw := mw_t 391 (by decide +kernel) (by decide +kernel)
theorem w_393 : (Jvm.Cond.instanceMethod ({ cls := "FamilyRules$Maker", name := "writeBrought", desc := "(LFamilyRules$Global;IIII)V" } : Jvm.MethodName)) ∈ mw := mw_t 393 (by decide +kernel) (by decide +kernel)
theorem wS_33 : (Jvm.Cond.selects "FamilyRules$Maker" ({ cls := "FamilyRules$Maker", name := "writeBrought", desc := "(LFamilyRules$Global;IIII)V" } : Jvm.MethodName) ({ cls := "FamilyRules$Maker", name := "writeBrought", desc := "(LFamilyRules$Global;IIII)V" } : Jvm.MethodName)) ∈ mw := mw_s 33 (by decide +kernel) (by decide +kernel)
theorem ca_Maker_62 (B : mv_B X (kk V) cc (v0 :: mw) "FamilyRules$Maker" nL ret rm nm) (hM : Met X.2.1 y_Maker_writeBrought ws_Maker_writeBrought rm' (mv_Pre (kk V) (.ref b :: As) M) (mv_Q (kk V) post) mc ms V.2.2.2.2) (hrc : rm'.cells = mc) (hrs : rm'.slots = ms) (hR : rm'.frames + 1 ≤ rm.frames ∧ 29 + rm'.locals ≤ rm.locals) (hb : M b = some (.inr (5, fs))) (hn : As.length = 5) (hstk : st = As.reverse ++ .ref b :: rest) (hcat : (rest.map fun v => v.category).sum ≤ 8) (hdg : decode cc pc = .ok (.invokevirtual 62, 3)) (hf : cells + mc ≤ rm.cells ∧ slots + ms ≤ rm.slots) (k : ∀ (v : Option Value) (M1 : mv_M), post v M1 → mv_G X Q (kk V) nL (pc + 3) lv (v.toList ++ rest) M1 (cells + mc) (slots + ms)) : mv_G X Q (kk V) nL pc lv st M cells slots := mv_cV B hM (giV w_394 w_391 w_393 wS_33 w_5) rfl hrc hrs (by decide +kernel) ⟨hR.1, by have := hR.2; omega⟩ rfl hb hn hstk hcat hdg hf k
theorem w_401 : (Jvm.Cond.methodLinkNest "FamilyRules$Maker" (66 : Nat) ({ cls := "FamilyRules$Term", name := "secondOf", desc := "(I)I" } : Jvm.MethodName) "FamilyRules") ∈ nw := nw_t 401 (by decide +kernel) (by decide +kernel)
theorem ca_Maker_66 (B : mv_B X (kk V) cc (v0 :: mw) "FamilyRules$Maker" nL ret rm nm) (hM : Met X.2.1 y_Term_secondOf ws_Term_secondOf rm' (mv_Pre (kk V) (.ref b :: As) M) (mv_Q (kk V) post) mc ms V.2.2.2.2) (hrc : rm'.cells = mc) (hrs : rm'.slots = ms) (hR : rm'.frames + 1 ≤ rm.frames ∧ 21 + rm'.locals ≤ rm.locals) (hb : M b = some (.inr (0, fs))) (hn : As.length = 1) (hstk : st = As.reverse ++ .ref b :: rest) (hcat : (rest.map fun v => v.category).sum ≤ 8) (hdg : decode cc pc = .ok (.invokevirtual 66, 3)) (hf : cells + mc ≤ rm.cells ∧ slots + ms ≤ rm.slots) (k : ∀ (v : Option Value) (M1 : mv_M), post v M1 → mv_G X Q (kk V) nL (pc + 3) lv (v.toList ++ rest) M1 (cells + mc) (slots + ms)) : mv_G X Q (kk V) nL pc lv st M cells slots := mv_cVN B hM (gi w_297) rfl hrc hrs w_401 (mwc w_7) (by decide +kernel) ⟨hR.1, by have := hR.2; omega⟩ (mwc w_296) (mwc wS_16) rfl hb hn hstk hcat hdg hf k
theorem w_448 : (Jvm.Cond.methodLink "FamilyRules$Maker" (75 : Nat) ({ cls := "FamilyRules$Maker", name := "writeAlls", desc := "(III)V" } : Jvm.MethodName)) ∈ mw := mw_t 448 (by decide +kernel) (by decide +kernel)
theorem w_450 : (Jvm.Cond.instanceMethod ({ cls := "FamilyRules$Maker", name := "writeAlls", desc := "(III)V" } : Jvm.MethodName)) ∈ mw := mw_t 450 (by decide +kernel) (by decide +kernel)
theorem wS_45 : (Jvm.Cond.selects "FamilyRules$Maker" ({ cls := "FamilyRules$Maker", name := "writeAlls", desc := "(III)V" } : Jvm.MethodName) ({ cls := "FamilyRules$Maker", name := "writeAlls", desc := "(III)V" } : Jvm.MethodName)) ∈ mw := mw_s 45 (by decide +kernel) (by decide +kernel)
theorem ca_Maker_75 (B : mv_B X (kk V) cc (v0 :: mw) "FamilyRules$Maker" nL ret rm nm) (hM : Met X.2.1 y_Maker_writeAlls ws_Maker_writeAlls rm' (mv_Pre (kk V) (.ref b :: As) M) (mv_Q (kk V) post) mc ms V.2.2.2.2) (hrc : rm'.cells = mc) (hrs : rm'.slots = ms) (hR : rm'.frames + 1 ≤ rm.frames ∧ 26 + rm'.locals ≤ rm.locals) (hb : M b = some (.inr (5, fs))) (hn : As.length = 3) (hstk : st = As.reverse ++ .ref b :: rest) (hcat : (rest.map fun v => v.category).sum ≤ 8) (hdg : decode cc pc = .ok (.invokevirtual 75, 3)) (hf : cells + mc ≤ rm.cells ∧ slots + ms ≤ rm.slots) (k : ∀ (v : Option Value) (M1 : mv_M), post v M1 → mv_G X Q (kk V) nL (pc + 3) lv (v.toList ++ rest) M1 (cells + mc) (slots + ms)) : mv_G X Q (kk V) nL pc lv st M cells slots := mv_cV B hM (giV w_451 w_448 w_450 wS_45 w_5) rfl hrc hrs (by decide +kernel) ⟨hR.1, by have := hR.2; omega⟩ rfl hb hn hstk hcat hdg hf k
theorem w_396 : (Jvm.Cond.methodLink "FamilyRules$Maker" (78 : Nat) ({ cls := "FamilyRules$Maker", name := "put", desc := "(III)V" } : Jvm.MethodName)) ∈ mw := mw_t 396 (by decide +kernel) (by decide +kernel)
theorem w_398 : (Jvm.Cond.instanceMethod ({ cls := "FamilyRules$Maker", name := "put", desc := "(III)V" } : Jvm.MethodName)) ∈ mw := mw_t 398 (by decide +kernel) (by decide +kernel)
theorem wS_34 : (Jvm.Cond.selects "FamilyRules$Maker" ({ cls := "FamilyRules$Maker", name := "put", desc := "(III)V" } : Jvm.MethodName) ({ cls := "FamilyRules$Maker", name := "put", desc := "(III)V" } : Jvm.MethodName)) ∈ mw := mw_s 34 (by decide +kernel) (by decide +kernel)
theorem ca_Maker_78 (B : mv_B X (kk V) cc (v0 :: mw) "FamilyRules$Maker" nL ret rm nm) (hM : Met X.2.1 y_Maker_put ws_Maker_put rm' (mv_Pre (kk V) (.ref b :: As) M) (mv_Q (kk V) post) mc ms V.2.2.2.2) (hrc : rm'.cells = mc) (hrs : rm'.slots = ms) (hR : rm'.frames + 1 ≤ rm.frames ∧ 23 + rm'.locals ≤ rm.locals) (hb : M b = some (.inr (5, fs))) (hn : As.length = 3) (hstk : st = As.reverse ++ .ref b :: rest) (hcat : (rest.map fun v => v.category).sum ≤ 8) (hdg : decode cc pc = .ok (.invokevirtual 78, 3)) (hf : cells + mc ≤ rm.cells ∧ slots + ms ≤ rm.slots) (k : ∀ (v : Option Value) (M1 : mv_M), post v M1 → mv_G X Q (kk V) nL (pc + 3) lv (v.toList ++ rest) M1 (cells + mc) (slots + ms)) : mv_G X Q (kk V) nL pc lv st M cells slots := mv_cV B hM (giV w_399 w_396 w_398 wS_34 w_5) rfl hrc hrs (by decide +kernel) ⟨hR.1, by have := hR.2; omega⟩ rfl hb hn hstk hcat hdg hf k
theorem w_452 : (Jvm.Cond.methodLink "FamilyRules$Maker" (81 : Nat) ({ cls := "FamilyRules$Maker", name := "writeGlobal", desc := "(LFamilyRules$Global;III)V" } : Jvm.MethodName)) ∈ mw := mw_t 452 (by decide +kernel) (by decide +kernel)
theorem w_454 : (Jvm.Cond.instanceMethod ({ cls := "FamilyRules$Maker", name := "writeGlobal", desc := "(LFamilyRules$Global;III)V" } : Jvm.MethodName)) ∈ mw := mw_t 454 (by decide +kernel) (by decide +kernel)
theorem wS_46 : (Jvm.Cond.selects "FamilyRules$Maker" ({ cls := "FamilyRules$Maker", name := "writeGlobal", desc := "(LFamilyRules$Global;III)V" } : Jvm.MethodName) ({ cls := "FamilyRules$Maker", name := "writeGlobal", desc := "(LFamilyRules$Global;III)V" } : Jvm.MethodName)) ∈ mw := mw_s 46 (by decide +kernel) (by decide +kernel)
theorem ca_Maker_81 (B : mv_B X (kk V) cc (v0 :: mw) "FamilyRules$Maker" nL ret rm nm) (hM : Met X.2.1 y_Maker_writeGlobal ws_Maker_writeGlobal rm' (mv_Pre (kk V) (.ref b :: As) M) (mv_Q (kk V) post) mc ms V.2.2.2.2) (hrc : rm'.cells = mc) (hrs : rm'.slots = ms) (hR : rm'.frames + 1 ≤ rm.frames ∧ 24 + rm'.locals ≤ rm.locals) (hb : M b = some (.inr (5, fs))) (hn : As.length = 4) (hstk : st = As.reverse ++ .ref b :: rest) (hcat : (rest.map fun v => v.category).sum ≤ 8) (hdg : decode cc pc = .ok (.invokevirtual 81, 3)) (hf : cells + mc ≤ rm.cells ∧ slots + ms ≤ rm.slots) (k : ∀ (v : Option Value) (M1 : mv_M), post v M1 → mv_G X Q (kk V) nL (pc + 3) lv (v.toList ++ rest) M1 (cells + mc) (slots + ms)) : mv_G X Q (kk V) nL pc lv st M cells slots := mv_cV B hM (giV w_455 w_452 w_454 wS_46 w_5) rfl hrc hrs (by decide +kernel) ⟨hR.1, by have := hR.2; omega⟩ rfl hb hn hstk hcat hdg hf k
theorem w_456 : (Jvm.Cond.methodLinkNest "FamilyRules$Maker" (85 : Nat) ({ cls := "FamilyRules$Global", name := "constructorAt", desc := "(I)LFamilyRules$Global;" } : Jvm.MethodName) "FamilyRules") ∈ nw := nw_t 456 (by decide +kernel) (by decide +kernel)
theorem ca_Maker_85 (B : mv_B X (kk V) cc (v0 :: mw) "FamilyRules$Maker" nL ret rm nm) (hM : Met X.2.1 y_Global_constructorAt ws_Global_constructorAt rm' (mv_Pre (kk V) (.ref b :: As) M) (mv_Q (kk V) post) mc ms V.2.2.2.2) (hrc : rm'.cells = mc) (hrs : rm'.slots = ms) (hR : rm'.frames + 1 ≤ rm.frames ∧ 21 + rm'.locals ≤ rm.locals) (hb : M b = some (.inr (2, fs))) (hn : As.length = 1) (hstk : st = As.reverse ++ .ref b :: rest) (hcat : (rest.map fun v => v.category).sum ≤ 8) (hdg : decode cc pc = .ok (.invokevirtual 85, 3)) (hf : cells + mc ≤ rm.cells ∧ slots + ms ≤ rm.slots) (k : ∀ (v : Option Value) (M1 : mv_M), post v M1 → mv_G X Q (kk V) nL (pc + 3) lv (v.toList ++ rest) M1 (cells + mc) (slots + ms)) : mv_G X Q (kk V) nL pc lv st M cells slots := mv_cVN B hM (gi w_443) rfl hrc hrs w_456 (mwc w_10) (by decide +kernel) ⟨hR.1, by have := hR.2; omega⟩ (mwc w_442) (mwc wS_43) rfl hb hn hstk hcat hdg hf k
theorem w_457 : (Jvm.Cond.methodLink "FamilyRules$Maker" (89 : Nat) ({ cls := "FamilyRules$Maker", name := "writeCase", desc := "(LFamilyRules$Global;LFamilyRules$Global;)V" } : Jvm.MethodName)) ∈ mw := mw_t 457 (by decide +kernel) (by decide +kernel)
theorem w_459 : (Jvm.Cond.instanceMethod ({ cls := "FamilyRules$Maker", name := "writeCase", desc := "(LFamilyRules$Global;LFamilyRules$Global;)V" } : Jvm.MethodName)) ∈ mw := mw_t 459 (by decide +kernel) (by decide +kernel)
theorem wS_47 : (Jvm.Cond.selects "FamilyRules$Maker" ({ cls := "FamilyRules$Maker", name := "writeCase", desc := "(LFamilyRules$Global;LFamilyRules$Global;)V" } : Jvm.MethodName) ({ cls := "FamilyRules$Maker", name := "writeCase", desc := "(LFamilyRules$Global;LFamilyRules$Global;)V" } : Jvm.MethodName)) ∈ mw := mw_s 47 (by decide +kernel) (by decide +kernel)
theorem ca_Maker_89 (B : mv_B X (kk V) cc (v0 :: mw) "FamilyRules$Maker" nL ret rm nm) (hM : Met X.2.1 y_Maker_writeCase ws_Maker_writeCase rm' (mv_Pre (kk V) (.ref b :: As) M) (mv_Q (kk V) post) mc ms V.2.2.2.2) (hrc : rm'.cells = mc) (hrs : rm'.slots = ms) (hR : rm'.frames + 1 ≤ rm.frames ∧ 28 + rm'.locals ≤ rm.locals) (hb : M b = some (.inr (5, fs))) (hn : As.length = 2) (hstk : st = As.reverse ++ .ref b :: rest) (hcat : (rest.map fun v => v.category).sum ≤ 8) (hdg : decode cc pc = .ok (.invokevirtual 89, 3)) (hf : cells + mc ≤ rm.cells ∧ slots + ms ≤ rm.slots) (k : ∀ (v : Option Value) (M1 : mv_M), post v M1 → mv_G X Q (kk V) nL (pc + 3) lv (v.toList ++ rest) M1 (cells + mc) (slots + ms)) : mv_G X Q (kk V) nL pc lv st M cells slots := mv_cV B hM (giV w_460 w_457 w_459 wS_47 w_5) rfl hrc hrs (by decide +kernel) ⟨hR.1, by have := hR.2; omega⟩ rfl hb hn hstk hcat hdg hf k
theorem w_416 : (Jvm.Cond.methodLink "FamilyRules$Maker" (93 : Nat) ({ cls := "FamilyRules$Maker", name := "putApplications", desc := "(I)V" } : Jvm.MethodName)) ∈ mw := mw_t 416 (by decide +kernel) (by decide +kernel)
theorem w_418 : (Jvm.Cond.instanceMethod ({ cls := "FamilyRules$Maker", name := "putApplications", desc := "(I)V" } : Jvm.MethodName)) ∈ mw := mw_t 418 (by decide +kernel) (by decide +kernel)
theorem wS_38 : (Jvm.Cond.selects "FamilyRules$Maker" ({ cls := "FamilyRules$Maker", name := "putApplications", desc := "(I)V" } : Jvm.MethodName) ({ cls := "FamilyRules$Maker", name := "putApplications", desc := "(I)V" } : Jvm.MethodName)) ∈ mw := mw_s 38 (by decide +kernel) (by decide +kernel)
theorem ca_Maker_93 (B : mv_B X (kk V) cc (v0 :: mw) "FamilyRules$Maker" nL ret rm nm) (hM : Met X.2.1 y_Maker_putApplications ws_Maker_putApplications rm' (mv_Pre (kk V) (.ref b :: As) M) (mv_Q (kk V) post) mc ms V.2.2.2.2) (hrc : rm'.cells = mc) (hrs : rm'.slots = ms) (hR : rm'.frames + 1 ≤ rm.frames ∧ 22 + rm'.locals ≤ rm.locals) (hb : M b = some (.inr (5, fs))) (hn : As.length = 1) (hstk : st = As.reverse ++ .ref b :: rest) (hcat : (rest.map fun v => v.category).sum ≤ 8) (hdg : decode cc pc = .ok (.invokevirtual 93, 3)) (hf : cells + mc ≤ rm.cells ∧ slots + ms ≤ rm.slots) (k : ∀ (v : Option Value) (M1 : mv_M), post v M1 → mv_G X Q (kk V) nL (pc + 3) lv (v.toList ++ rest) M1 (cells + mc) (slots + ms)) : mv_G X Q (kk V) nL pc lv st M cells slots := mv_cV B hM (giV w_419 w_416 w_418 wS_38 w_5) rfl hrc hrs (by decide +kernel) ⟨hR.1, by have := hR.2; omega⟩ rfl hb hn hstk hcat hdg hf k
theorem w_428 : (Jvm.Cond.methodLink "FamilyRules$Maker" (97 : Nat) ({ cls := "FamilyRules$Maker", name := "putVariables", desc := "(II)V" } : Jvm.MethodName)) ∈ mw := mw_t 428 (by decide +kernel) (by decide +kernel)
theorem w_430 : (Jvm.Cond.instanceMethod ({ cls := "FamilyRules$Maker", name := "putVariables", desc := "(II)V" } : Jvm.MethodName)) ∈ mw := mw_t 430 (by decide +kernel) (by decide +kernel)
theorem wS_41 : (Jvm.Cond.selects "FamilyRules$Maker" ({ cls := "FamilyRules$Maker", name := "putVariables", desc := "(II)V" } : Jvm.MethodName) ({ cls := "FamilyRules$Maker", name := "putVariables", desc := "(II)V" } : Jvm.MethodName)) ∈ mw := mw_s 41 (by decide +kernel) (by decide +kernel)
theorem ca_Maker_97 (B : mv_B X (kk V) cc (v0 :: mw) "FamilyRules$Maker" nL ret rm nm) (hM : Met X.2.1 y_Maker_putVariables ws_Maker_putVariables rm' (mv_Pre (kk V) (.ref b :: As) M) (mv_Q (kk V) post) mc ms V.2.2.2.2) (hrc : rm'.cells = mc) (hrs : rm'.slots = ms) (hR : rm'.frames + 1 ≤ rm.frames ∧ 23 + rm'.locals ≤ rm.locals) (hb : M b = some (.inr (5, fs))) (hn : As.length = 2) (hstk : st = As.reverse ++ .ref b :: rest) (hcat : (rest.map fun v => v.category).sum ≤ 8) (hdg : decode cc pc = .ok (.invokevirtual 97, 3)) (hf : cells + mc ≤ rm.cells ∧ slots + ms ≤ rm.slots) (k : ∀ (v : Option Value) (M1 : mv_M), post v M1 → mv_G X Q (kk V) nL (pc + 3) lv (v.toList ++ rest) M1 (cells + mc) (slots + ms)) : mv_G X Q (kk V) nL pc lv st M cells slots := mv_cV B hM (giV w_431 w_428 w_430 wS_41 w_5) rfl hrc hrs (by decide +kernel) ⟨hR.1, by have := hR.2; omega⟩ rfl hb hn hstk hcat hdg hf k
theorem w_420 : (Jvm.Cond.methodLinkNest "FamilyRules$Maker" (101 : Nat) ({ cls := "FamilyRules$Reader", name := "lastTerms", desc := "(LFamilyRules$Global;)I" } : Jvm.MethodName) "FamilyRules") ∈ nw := nw_t 420 (by decide +kernel) (by decide +kernel)
theorem w_422 : (Jvm.Cond.instanceMethod ({ cls := "FamilyRules$Reader", name := "lastTerms", desc := "(LFamilyRules$Global;)I" } : Jvm.MethodName)) ∈ mw := mw_t 422 (by decide +kernel) (by decide +kernel)
theorem wS_39 : (Jvm.Cond.selects "FamilyRules$Reader" ({ cls := "FamilyRules$Reader", name := "lastTerms", desc := "(LFamilyRules$Global;)I" } : Jvm.MethodName) ({ cls := "FamilyRules$Reader", name := "lastTerms", desc := "(LFamilyRules$Global;)I" } : Jvm.MethodName)) ∈ mw := mw_s 39 (by decide +kernel) (by decide +kernel)
theorem ca_Maker_101 (B : mv_B X (kk V) cc (v0 :: mw) "FamilyRules$Maker" nL ret rm nm) (hM : Met X.2.1 y_Reader_lastTerms ws_Reader_lastTerms rm' (mv_Pre (kk V) (.ref b :: As) M) (mv_Q (kk V) post) mc ms V.2.2.2.2) (hrc : rm'.cells = mc) (hrs : rm'.slots = ms) (hR : rm'.frames + 1 ≤ rm.frames ∧ 21 + rm'.locals ≤ rm.locals) (hb : M b = some (.inr (4, fs))) (hn : As.length = 1) (hstk : st = As.reverse ++ .ref b :: rest) (hcat : (rest.map fun v => v.category).sum ≤ 8) (hdg : decode cc pc = .ok (.invokevirtual 101, 3)) (hf : cells + mc ≤ rm.cells ∧ slots + ms ≤ rm.slots) (k : ∀ (v : Option Value) (M1 : mv_M), post v M1 → mv_G X Q (kk V) nL (pc + 3) lv (v.toList ++ rest) M1 (cells + mc) (slots + ms)) : mv_G X Q (kk V) nL pc lv st M cells slots := mv_cVN B hM (gi w_423) rfl hrc hrs w_420 (mwc w_2) (by decide +kernel) ⟨hR.1, by have := hR.2; omega⟩ (mwc w_422) (mwc wS_39) rfl hb hn hstk hcat hdg hf k
theorem w_424 : (Jvm.Cond.methodLinkNest "FamilyRules$Maker" (105 : Nat) ({ cls := "FamilyRules$Reader", name := "end", desc := "()I" } : Jvm.MethodName) "FamilyRules") ∈ nw := nw_t 424 (by decide +kernel) (by decide +kernel)
theorem w_426 : (Jvm.Cond.instanceMethod ({ cls := "FamilyRules$Reader", name := "end", desc := "()I" } : Jvm.MethodName)) ∈ mw := mw_t 426 (by decide +kernel) (by decide +kernel)
theorem wS_40 : (Jvm.Cond.selects "FamilyRules$Reader" ({ cls := "FamilyRules$Reader", name := "end", desc := "()I" } : Jvm.MethodName) ({ cls := "FamilyRules$Reader", name := "end", desc := "()I" } : Jvm.MethodName)) ∈ mw := mw_s 40 (by decide +kernel) (by decide +kernel)
theorem ca_Maker_105 (B : mv_B X (kk V) cc (v0 :: mw) "FamilyRules$Maker" nL ret rm nm) (hM : Met X.2.1 y_Reader_end ws_Reader_end rm' (mv_Pre (kk V) (.ref b :: As) M) (mv_Q (kk V) post) mc ms V.2.2.2.2) (hrc : rm'.cells = mc) (hrs : rm'.slots = ms) (hR : rm'.frames + 1 ≤ rm.frames ∧ 20 + rm'.locals ≤ rm.locals) (hb : M b = some (.inr (4, fs))) (hn : As.length = 0) (hstk : st = As.reverse ++ .ref b :: rest) (hcat : (rest.map fun v => v.category).sum ≤ 8) (hdg : decode cc pc = .ok (.invokevirtual 105, 3)) (hf : cells + mc ≤ rm.cells ∧ slots + ms ≤ rm.slots) (k : ∀ (v : Option Value) (M1 : mv_M), post v M1 → mv_G X Q (kk V) nL (pc + 3) lv (v.toList ++ rest) M1 (cells + mc) (slots + ms)) : mv_G X Q (kk V) nL pc lv st M cells slots := mv_cVN B hM (gi w_427) rfl hrc hrs w_424 (mwc w_2) (by decide +kernel) ⟨hR.1, by have := hR.2; omega⟩ (mwc w_426) (mwc wS_40) rfl hb hn hstk hcat hdg hf k
theorem w_402 : (Jvm.Cond.methodLink "FamilyRules$Maker" (109 : Nat) ({ cls := "FamilyRules$Maker", name := "copy", desc := "(II)V" } : Jvm.MethodName)) ∈ mw := mw_t 402 (by decide +kernel) (by decide +kernel)
theorem w_404 : (Jvm.Cond.instanceMethod ({ cls := "FamilyRules$Maker", name := "copy", desc := "(II)V" } : Jvm.MethodName)) ∈ mw := mw_t 404 (by decide +kernel) (by decide +kernel)
theorem wS_35 : (Jvm.Cond.selects "FamilyRules$Maker" ({ cls := "FamilyRules$Maker", name := "copy", desc := "(II)V" } : Jvm.MethodName) ({ cls := "FamilyRules$Maker", name := "copy", desc := "(II)V" } : Jvm.MethodName)) ∈ mw := mw_s 35 (by decide +kernel) (by decide +kernel)
theorem ca_Maker_109 (B : mv_B X (kk V) cc (v0 :: mw) "FamilyRules$Maker" nL ret rm nm) (hM : Met X.2.1 y_Maker_copy ws_Maker_copy rm' (mv_Pre (kk V) (.ref b :: As) M) (mv_Q (kk V) post) mc ms V.2.2.2.2) (hrc : rm'.cells = mc) (hrs : rm'.slots = ms) (hR : rm'.frames + 1 ≤ rm.frames ∧ 23 + rm'.locals ≤ rm.locals) (hb : M b = some (.inr (5, fs))) (hn : As.length = 2) (hstk : st = As.reverse ++ .ref b :: rest) (hcat : (rest.map fun v => v.category).sum ≤ 8) (hdg : decode cc pc = .ok (.invokevirtual 109, 3)) (hf : cells + mc ≤ rm.cells ∧ slots + ms ≤ rm.slots) (k : ∀ (v : Option Value) (M1 : mv_M), post v M1 → mv_G X Q (kk V) nL (pc + 3) lv (v.toList ++ rest) M1 (cells + mc) (slots + ms)) : mv_G X Q (kk V) nL pc lv st M cells slots := mv_cV B hM (giV w_405 w_402 w_404 wS_35 w_5) rfl hrc hrs (by decide +kernel) ⟨hR.1, by have := hR.2; omega⟩ rfl hb hn hstk hcat hdg hf k
theorem w_395 : (Jvm.Cond.methodLinkNest "FamilyRules$Maker" (115 : Nat) ({ cls := "FamilyRules$Term", name := "numberAt", desc := "(I)I" } : Jvm.MethodName) "FamilyRules") ∈ nw := nw_t 395 (by decide +kernel) (by decide +kernel)
theorem ca_Maker_115 (B : mv_B X (kk V) cc (v0 :: mw) "FamilyRules$Maker" nL ret rm nm) (hM : Met X.2.1 y_Term_numberAt ws_Term_numberAt rm' (mv_Pre (kk V) (.ref b :: As) M) (mv_Q (kk V) post) mc ms V.2.2.2.2) (hrc : rm'.cells = mc) (hrs : rm'.slots = ms) (hR : rm'.frames + 1 ≤ rm.frames ∧ 21 + rm'.locals ≤ rm.locals) (hb : M b = some (.inr (0, fs))) (hn : As.length = 1) (hstk : st = As.reverse ++ .ref b :: rest) (hcat : (rest.map fun v => v.category).sum ≤ 8) (hdg : decode cc pc = .ok (.invokevirtual 115, 3)) (hf : cells + mc ≤ rm.cells ∧ slots + ms ≤ rm.slots) (k : ∀ (v : Option Value) (M1 : mv_M), post v M1 → mv_G X Q (kk V) nL (pc + 3) lv (v.toList ++ rest) M1 (cells + mc) (slots + ms)) : mv_G X Q (kk V) nL pc lv st M cells slots := mv_cVN B hM (gi w_319) rfl hrc hrs w_395 (mwc w_7) (by decide +kernel) ⟨hR.1, by have := hR.2; omega⟩ (mwc w_318) (mwc wS_21) rfl hb hn hstk hcat hdg hf k
theorem w_383 : (Jvm.Cond.methodLinkNest "FamilyRules$Maker" (125 : Nat) ({ cls := "FamilyRules$Reader", name := "readDepths", desc := "(LFamilyRules$Term;)V" } : Jvm.MethodName) "FamilyRules") ∈ nw := nw_t 383 (by decide +kernel) (by decide +kernel)
theorem w_305 : (Jvm.Cond.instanceMethod ({ cls := "FamilyRules$Reader", name := "readDepths", desc := "(LFamilyRules$Term;)V" } : Jvm.MethodName)) ∈ mw := mw_t 305 (by decide +kernel) (by decide +kernel)
theorem wS_18 : (Jvm.Cond.selects "FamilyRules$Reader" ({ cls := "FamilyRules$Reader", name := "readDepths", desc := "(LFamilyRules$Term;)V" } : Jvm.MethodName) ({ cls := "FamilyRules$Reader", name := "readDepths", desc := "(LFamilyRules$Term;)V" } : Jvm.MethodName)) ∈ mw := mw_s 18 (by decide +kernel) (by decide +kernel)
theorem ca_Maker_125 (B : mv_B X (kk V) cc (v0 :: mw) "FamilyRules$Maker" nL ret rm nm) (hM : Met X.2.1 y_Reader_readDepths ws_Reader_readDepths rm' (mv_Pre (kk V) (.ref b :: As) M) (mv_Q (kk V) post) mc ms V.2.2.2.2) (hrc : rm'.cells = mc) (hrs : rm'.slots = ms) (hR : rm'.frames + 1 ≤ rm.frames ∧ 24 + rm'.locals ≤ rm.locals) (hb : M b = some (.inr (4, fs))) (hn : As.length = 1) (hstk : st = As.reverse ++ .ref b :: rest) (hcat : (rest.map fun v => v.category).sum ≤ 8) (hdg : decode cc pc = .ok (.invokevirtual 125, 3)) (hf : cells + mc ≤ rm.cells ∧ slots + ms ≤ rm.slots) (k : ∀ (v : Option Value) (M1 : mv_M), post v M1 → mv_G X Q (kk V) nL (pc + 3) lv (v.toList ++ rest) M1 (cells + mc) (slots + ms)) : mv_G X Q (kk V) nL pc lv st M cells slots := mv_cVN B hM (gi w_306) rfl hrc hrs w_383 (mwc w_2) (by decide +kernel) ⟨hR.1, by have := hR.2; omega⟩ (mwc w_305) (mwc wS_18) rfl hb hn hstk hcat hdg hf k
theorem w_406 : (Jvm.Cond.methodLinkNest "FamilyRules$Maker" (138 : Nat) ({ cls := "FamilyRules$Term", name := "kindAt", desc := "(I)I" } : Jvm.MethodName) "FamilyRules") ∈ nw := nw_t 406 (by decide +kernel) (by decide +kernel)
theorem ca_Maker_138 (B : mv_B X (kk V) cc (v0 :: mw) "FamilyRules$Maker" nL ret rm nm) (hM : Met X.2.1 y_Term_kindAt ws_Term_kindAt rm' (mv_Pre (kk V) (.ref b :: As) M) (mv_Q (kk V) post) mc ms V.2.2.2.2) (hrc : rm'.cells = mc) (hrs : rm'.slots = ms) (hR : rm'.frames + 1 ≤ rm.frames ∧ 21 + rm'.locals ≤ rm.locals) (hb : M b = some (.inr (0, fs))) (hn : As.length = 1) (hstk : st = As.reverse ++ .ref b :: rest) (hcat : (rest.map fun v => v.category).sum ≤ 8) (hdg : decode cc pc = .ok (.invokevirtual 138, 3)) (hf : cells + mc ≤ rm.cells ∧ slots + ms ≤ rm.slots) (k : ∀ (v : Option Value) (M1 : mv_M), post v M1 → mv_G X Q (kk V) nL (pc + 3) lv (v.toList ++ rest) M1 (cells + mc) (slots + ms)) : mv_G X Q (kk V) nL pc lv st M cells slots := mv_cVN B hM (gi w_293) rfl hrc hrs w_406 (mwc w_7) (by decide +kernel) ⟨hR.1, by have := hR.2; omega⟩ (mwc w_292) (mwc wS_15) rfl hb hn hstk hcat hdg hf k
theorem w_407 : (Jvm.Cond.methodLink "FamilyRules$Maker" (141 : Nat) ({ cls := "FamilyRules$Maker", name := "liftedNumber", desc := "(I)I" } : Jvm.MethodName)) ∈ mw := mw_t 407 (by decide +kernel) (by decide +kernel)
theorem w_409 : (Jvm.Cond.instanceMethod ({ cls := "FamilyRules$Maker", name := "liftedNumber", desc := "(I)I" } : Jvm.MethodName)) ∈ mw := mw_t 409 (by decide +kernel) (by decide +kernel)
theorem wS_36 : (Jvm.Cond.selects "FamilyRules$Maker" ({ cls := "FamilyRules$Maker", name := "liftedNumber", desc := "(I)I" } : Jvm.MethodName) ({ cls := "FamilyRules$Maker", name := "liftedNumber", desc := "(I)I" } : Jvm.MethodName)) ∈ mw := mw_s 36 (by decide +kernel) (by decide +kernel)
theorem ca_Maker_141 (B : mv_B X (kk V) cc (v0 :: mw) "FamilyRules$Maker" nL ret rm nm) (hM : Met X.2.1 y_Maker_liftedNumber ws_Maker_liftedNumber rm' (mv_Pre (kk V) (.ref b :: As) M) (mv_Q (kk V) post) mc ms V.2.2.2.2) (hrc : rm'.cells = mc) (hrs : rm'.slots = ms) (hR : rm'.frames + 1 ≤ rm.frames ∧ 23 + rm'.locals ≤ rm.locals) (hb : M b = some (.inr (5, fs))) (hn : As.length = 1) (hstk : st = As.reverse ++ .ref b :: rest) (hcat : (rest.map fun v => v.category).sum ≤ 8) (hdg : decode cc pc = .ok (.invokevirtual 141, 3)) (hf : cells + mc ≤ rm.cells ∧ slots + ms ≤ rm.slots) (k : ∀ (v : Option Value) (M1 : mv_M), post v M1 → mv_G X Q (kk V) nL (pc + 3) lv (v.toList ++ rest) M1 (cells + mc) (slots + ms)) : mv_G X Q (kk V) nL pc lv st M cells slots := mv_cV B hM (giV w_410 w_407 w_409 wS_36 w_5) rfl hrc hrs (by decide +kernel) ⟨hR.1, by have := hR.2; omega⟩ rfl hb hn hstk hcat hdg hf k
theorem w_412 : (Jvm.Cond.methodLinkNest "FamilyRules$Maker" (144 : Nat) ({ cls := "FamilyRules$Term", name := "sortAt", desc := "(I)I" } : Jvm.MethodName) "FamilyRules") ∈ nw := nw_t 412 (by decide +kernel) (by decide +kernel)
theorem ca_Maker_144 (B : mv_B X (kk V) cc (v0 :: mw) "FamilyRules$Maker" nL ret rm nm) (hM : Met X.2.1 y_Term_sortAt ws_Term_sortAt rm' (mv_Pre (kk V) (.ref b :: As) M) (mv_Q (kk V) post) mc ms V.2.2.2.2) (hrc : rm'.cells = mc) (hrs : rm'.slots = ms) (hR : rm'.frames + 1 ≤ rm.frames ∧ 21 + rm'.locals ≤ rm.locals) (hb : M b = some (.inr (0, fs))) (hn : As.length = 1) (hstk : st = As.reverse ++ .ref b :: rest) (hcat : (rest.map fun v => v.category).sum ≤ 8) (hdg : decode cc pc = .ok (.invokevirtual 144, 3)) (hf : cells + mc ≤ rm.cells ∧ slots + ms ≤ rm.slots) (k : ∀ (v : Option Value) (M1 : mv_M), post v M1 → mv_G X Q (kk V) nL (pc + 3) lv (v.toList ++ rest) M1 (cells + mc) (slots + ms)) : mv_G X Q (kk V) nL pc lv st M cells slots := mv_cVN B hM (gi w_415) rfl hrc hrs w_412 (mwc w_7) (by decide +kernel) ⟨hR.1, by have := hR.2; omega⟩ (mwc w_414) (mwc wS_37) rfl hb hn hstk hcat hdg hf k
theorem w_411 : (Jvm.Cond.methodLinkNest "FamilyRules$Maker" (147 : Nat) ({ cls := "FamilyRules$Reader", name := "depthAt", desc := "(I)I" } : Jvm.MethodName) "FamilyRules") ∈ nw := nw_t 411 (by decide +kernel) (by decide +kernel)
theorem w_314 : (Jvm.Cond.instanceMethod ({ cls := "FamilyRules$Reader", name := "depthAt", desc := "(I)I" } : Jvm.MethodName)) ∈ mw := mw_t 314 (by decide +kernel) (by decide +kernel)
theorem wS_20 : (Jvm.Cond.selects "FamilyRules$Reader" ({ cls := "FamilyRules$Reader", name := "depthAt", desc := "(I)I" } : Jvm.MethodName) ({ cls := "FamilyRules$Reader", name := "depthAt", desc := "(I)I" } : Jvm.MethodName)) ∈ mw := mw_s 20 (by decide +kernel) (by decide +kernel)
theorem ca_Maker_147 (B : mv_B X (kk V) cc (v0 :: mw) "FamilyRules$Maker" nL ret rm nm) (hM : Met X.2.1 y_Reader_depthAt ws_Reader_depthAt rm' (mv_Pre (kk V) (.ref b :: As) M) (mv_Q (kk V) post) mc ms V.2.2.2.2) (hrc : rm'.cells = mc) (hrs : rm'.slots = ms) (hR : rm'.frames + 1 ≤ rm.frames ∧ 21 + rm'.locals ≤ rm.locals) (hb : M b = some (.inr (4, fs))) (hn : As.length = 1) (hstk : st = As.reverse ++ .ref b :: rest) (hcat : (rest.map fun v => v.category).sum ≤ 8) (hdg : decode cc pc = .ok (.invokevirtual 147, 3)) (hf : cells + mc ≤ rm.cells ∧ slots + ms ≤ rm.slots) (k : ∀ (v : Option Value) (M1 : mv_M), post v M1 → mv_G X Q (kk V) nL (pc + 3) lv (v.toList ++ rest) M1 (cells + mc) (slots + ms)) : mv_G X Q (kk V) nL pc lv st M cells slots := mv_cVN B hM (gi w_315) rfl hrc hrs w_411 (mwc w_2) (by decide +kernel) ⟨hR.1, by have := hR.2; omega⟩ (mwc w_314) (mwc wS_20) rfl hb hn hstk hcat hdg hf k
theorem w_400 : (Jvm.Cond.methodLinkNest "FamilyRules$Maker" (150 : Nat) ({ cls := "FamilyRules$Term", name := "set", desc := "(IIII)V" } : Jvm.MethodName) "FamilyRules") ∈ nw := nw_t 400 (by decide +kernel) (by decide +kernel)
theorem ca_Maker_150 (B : mv_B X (kk V) cc (v0 :: mw) "FamilyRules$Maker" nL ret rm nm) (hM : Met X.2.1 y_Term_set ws_Term_set rm' (mv_Pre (kk V) (.ref b :: As) M) (mv_Q (kk V) post) mc ms V.2.2.2.2) (hrc : rm'.cells = mc) (hrs : rm'.slots = ms) (hR : rm'.frames + 1 ≤ rm.frames ∧ 24 + rm'.locals ≤ rm.locals) (hb : M b = some (.inr (0, fs))) (hn : As.length = 4) (hstk : st = As.reverse ++ .ref b :: rest) (hcat : (rest.map fun v => v.category).sum ≤ 8) (hdg : decode cc pc = .ok (.invokevirtual 150, 3)) (hf : cells + mc ≤ rm.cells ∧ slots + ms ≤ rm.slots) (k : ∀ (v : Option Value) (M1 : mv_M), post v M1 → mv_G X Q (kk V) nL (pc + 3) lv (v.toList ++ rest) M1 (cells + mc) (slots + ms)) : mv_G X Q (kk V) nL pc lv st M cells slots := mv_cVN B hM (gi w_172) rfl hrc hrs w_400 (mwc w_7) (by decide +kernel) ⟨hR.1, by have := hR.2; omega⟩ (mwc w_171) (mwc wS_4) rfl hb hn hstk hcat hdg hf k
theorem w_290 : (Jvm.Cond.methodLinkNest "FamilyRules$Reader" (26 : Nat) ({ cls := "FamilyRules$Term", name := "kindAt", desc := "(I)I" } : Jvm.MethodName) "FamilyRules") ∈ nw := nw_t 290 (by decide +kernel) (by decide +kernel)
theorem ca_Reader_26 (B : mv_B X (kk V) cc (v0 :: mw) "FamilyRules$Reader" nL ret rm nm) (hM : Met X.2.1 y_Term_kindAt ws_Term_kindAt rm' (mv_Pre (kk V) (.ref b :: As) M) (mv_Q (kk V) post) mc ms V.2.2.2.2) (hrc : rm'.cells = mc) (hrs : rm'.slots = ms) (hR : rm'.frames + 1 ≤ rm.frames ∧ 21 + rm'.locals ≤ rm.locals) (hb : M b = some (.inr (0, fs))) (hn : As.length = 1) (hstk : st = As.reverse ++ .ref b :: rest) (hcat : (rest.map fun v => v.category).sum ≤ 8) (hdg : decode cc pc = .ok (.invokevirtual 26, 3)) (hf : cells + mc ≤ rm.cells ∧ slots + ms ≤ rm.slots) (k : ∀ (v : Option Value) (M1 : mv_M), post v M1 → mv_G X Q (kk V) nL (pc + 3) lv (v.toList ++ rest) M1 (cells + mc) (slots + ms)) : mv_G X Q (kk V) nL pc lv st M cells slots := mv_cVN B hM (gi w_293) rfl hrc hrs w_290 (mwc w_7) (by decide +kernel) ⟨hR.1, by have := hR.2; omega⟩ (mwc w_292) (mwc wS_15) rfl hb hn hstk hcat hdg hf k
theorem w_294 : (Jvm.Cond.methodLinkNest "FamilyRules$Reader" (32 : Nat) ({ cls := "FamilyRules$Term", name := "secondOf", desc := "(I)I" } : Jvm.MethodName) "FamilyRules") ∈ nw := nw_t 294 (by decide +kernel) (by decide +kernel)
theorem ca_Reader_32 (B : mv_B X (kk V) cc (v0 :: mw) "FamilyRules$Reader" nL ret rm nm) (hM : Met X.2.1 y_Term_secondOf ws_Term_secondOf rm' (mv_Pre (kk V) (.ref b :: As) M) (mv_Q (kk V) post) mc ms V.2.2.2.2) (hrc : rm'.cells = mc) (hrs : rm'.slots = ms) (hR : rm'.frames + 1 ≤ rm.frames ∧ 21 + rm'.locals ≤ rm.locals) (hb : M b = some (.inr (0, fs))) (hn : As.length = 1) (hstk : st = As.reverse ++ .ref b :: rest) (hcat : (rest.map fun v => v.category).sum ≤ 8) (hdg : decode cc pc = .ok (.invokevirtual 32, 3)) (hf : cells + mc ≤ rm.cells ∧ slots + ms ≤ rm.slots) (k : ∀ (v : Option Value) (M1 : mv_M), post v M1 → mv_G X Q (kk V) nL (pc + 3) lv (v.toList ++ rest) M1 (cells + mc) (slots + ms)) : mv_G X Q (kk V) nL pc lv st M cells slots := mv_cVN B hM (gi w_297) rfl hrc hrs w_294 (mwc w_7) (by decide +kernel) ⟨hR.1, by have := hR.2; omega⟩ (mwc w_296) (mwc wS_16) rfl hb hn hstk hcat hdg hf k
theorem w_316 : (Jvm.Cond.methodLinkNest "FamilyRules$Reader" (46 : Nat) ({ cls := "FamilyRules$Term", name := "numberAt", desc := "(I)I" } : Jvm.MethodName) "FamilyRules") ∈ nw := nw_t 316 (by decide +kernel) (by decide +kernel)
theorem ca_Reader_46 (B : mv_B X (kk V) cc (v0 :: mw) "FamilyRules$Reader" nL ret rm nm) (hM : Met X.2.1 y_Term_numberAt ws_Term_numberAt rm' (mv_Pre (kk V) (.ref b :: As) M) (mv_Q (kk V) post) mc ms V.2.2.2.2) (hrc : rm'.cells = mc) (hrs : rm'.slots = ms) (hR : rm'.frames + 1 ≤ rm.frames ∧ 21 + rm'.locals ≤ rm.locals) (hb : M b = some (.inr (0, fs))) (hn : As.length = 1) (hstk : st = As.reverse ++ .ref b :: rest) (hcat : (rest.map fun v => v.category).sum ≤ 8) (hdg : decode cc pc = .ok (.invokevirtual 46, 3)) (hf : cells + mc ≤ rm.cells ∧ slots + ms ≤ rm.slots) (k : ∀ (v : Option Value) (M1 : mv_M), post v M1 → mv_G X Q (kk V) nL (pc + 3) lv (v.toList ++ rest) M1 (cells + mc) (slots + ms)) : mv_G X Q (kk V) nL pc lv st M cells slots := mv_cVN B hM (gi w_319) rfl hrc hrs w_316 (mwc w_7) (by decide +kernel) ⟨hR.1, by have := hR.2; omega⟩ (mwc w_318) (mwc wS_21) rfl hb hn hstk hcat hdg hf k
theorem w_349 : (Jvm.Cond.methodLinkNest "FamilyRules$Reader" (52 : Nat) ({ cls := "FamilyRules$Term", name := "nodesAt", desc := "(I)I" } : Jvm.MethodName) "FamilyRules") ∈ nw := nw_t 349 (by decide +kernel) (by decide +kernel)
theorem ca_Reader_52 (B : mv_B X (kk V) cc (v0 :: mw) "FamilyRules$Reader" nL ret rm nm) (hM : Met X.2.1 y_Term_nodesAt ws_Term_nodesAt rm' (mv_Pre (kk V) (.ref b :: As) M) (mv_Q (kk V) post) mc ms V.2.2.2.2) (hrc : rm'.cells = mc) (hrs : rm'.slots = ms) (hR : rm'.frames + 1 ≤ rm.frames ∧ 21 + rm'.locals ≤ rm.locals) (hb : M b = some (.inr (0, fs))) (hn : As.length = 1) (hstk : st = As.reverse ++ .ref b :: rest) (hcat : (rest.map fun v => v.category).sum ≤ 8) (hdg : decode cc pc = .ok (.invokevirtual 52, 3)) (hf : cells + mc ≤ rm.cells ∧ slots + ms ≤ rm.slots) (k : ∀ (v : Option Value) (M1 : mv_M), post v M1 → mv_G X Q (kk V) nL (pc + 3) lv (v.toList ++ rest) M1 (cells + mc) (slots + ms)) : mv_G X Q (kk V) nL pc lv st M cells slots := mv_cVN B hM (gi w_209) rfl hrc hrs w_349 (mwc w_7) (by decide +kernel) ⟨hR.1, by have := hR.2; omega⟩ (mwc w_208) (mwc wS_11) rfl hb hn hstk hcat hdg hf k
theorem w_350 : (Jvm.Cond.methodLinkNest "FamilyRules$Reader" (55 : Nat) ({ cls := "FamilyRules$Term", name := "countFamily", desc := "(III)I" } : Jvm.MethodName) "FamilyRules") ∈ nw := nw_t 350 (by decide +kernel) (by decide +kernel)
theorem w_352 : (Jvm.Cond.instanceMethod ({ cls := "FamilyRules$Term", name := "countFamily", desc := "(III)I" } : Jvm.MethodName)) ∈ mw := mw_t 352 (by decide +kernel) (by decide +kernel)
theorem wS_28 : (Jvm.Cond.selects "FamilyRules$Term" ({ cls := "FamilyRules$Term", name := "countFamily", desc := "(III)I" } : Jvm.MethodName) ({ cls := "FamilyRules$Term", name := "countFamily", desc := "(III)I" } : Jvm.MethodName)) ∈ mw := mw_s 28 (by decide +kernel) (by decide +kernel)
theorem ca_Reader_55 (B : mv_B X (kk V) cc (v0 :: mw) "FamilyRules$Reader" nL ret rm nm) (hM : Met X.2.1 y_Term_countFamily ws_Term_countFamily rm' (mv_Pre (kk V) (.ref b :: As) M) (mv_Q (kk V) post) mc ms V.2.2.2.2) (hrc : rm'.cells = mc) (hrs : rm'.slots = ms) (hR : rm'.frames + 1 ≤ rm.frames ∧ 26 + rm'.locals ≤ rm.locals) (hb : M b = some (.inr (0, fs))) (hn : As.length = 3) (hstk : st = As.reverse ++ .ref b :: rest) (hcat : (rest.map fun v => v.category).sum ≤ 8) (hdg : decode cc pc = .ok (.invokevirtual 55, 3)) (hf : cells + mc ≤ rm.cells ∧ slots + ms ≤ rm.slots) (k : ∀ (v : Option Value) (M1 : mv_M), post v M1 → mv_G X Q (kk V) nL (pc + 3) lv (v.toList ++ rest) M1 (cells + mc) (slots + ms)) : mv_G X Q (kk V) nL pc lv st M cells slots := mv_cVN B hM (gi w_353) rfl hrc hrs w_350 (mwc w_7) (by decide +kernel) ⟨hR.1, by have := hR.2; omega⟩ (mwc w_352) (mwc wS_28) rfl hb hn hstk hcat hdg hf k
theorem w_356 : (Jvm.Cond.methodLink "FamilyRules$Reader" (59 : Nat) ({ cls := "FamilyRules$Reader", name := "readShape", desc := "(LFamilyRules$Term;I)V" } : Jvm.MethodName)) ∈ mw := mw_t 356 (by decide +kernel) (by decide +kernel)
theorem ca_Reader_59 (B : mv_B X (kk V) cc (v0 :: mw) "FamilyRules$Reader" nL ret rm nm) (hM : Met X.2.1 y_Reader_readShape ws_Reader_readShape rm' (mv_Pre (kk V) (.ref b :: As) M) (mv_Q (kk V) post) mc ms V.2.2.2.2) (hrc : rm'.cells = mc) (hrs : rm'.slots = ms) (hR : rm'.frames + 1 ≤ rm.frames ∧ 22 + rm'.locals ≤ rm.locals) (hb : M b = some (.inr (4, fs))) (hn : As.length = 2) (hstk : st = As.reverse ++ .ref b :: rest) (hcat : (rest.map fun v => v.category).sum ≤ 8) (hdg : decode cc pc = .ok (.invokevirtual 59, 3)) (hf : cells + mc ≤ rm.cells ∧ slots + ms ≤ rm.slots) (k : ∀ (v : Option Value) (M1 : mv_M), post v M1 → mv_G X Q (kk V) nL (pc + 3) lv (v.toList ++ rest) M1 (cells + mc) (slots + ms)) : mv_G X Q (kk V) nL pc lv st M cells slots := mv_cV B hM (giV w_289 w_356 w_288 wS_14 w_2) rfl hrc hrs (by decide +kernel) ⟨hR.1, by have := hR.2; omega⟩ rfl hb hn hstk hcat hdg hf k
theorem w_357 : (Jvm.Cond.methodLink "FamilyRules$Reader" (63 : Nat) ({ cls := "FamilyRules$Reader", name := "isPut", desc := "(LFamilyRules$Global;I)Z" } : Jvm.MethodName)) ∈ mw := mw_t 357 (by decide +kernel) (by decide +kernel)
theorem ca_Reader_63 (B : mv_B X (kk V) cc (v0 :: mw) "FamilyRules$Reader" nL ret rm nm) (hM : Met X.2.1 y_Reader_isPut ws_Reader_isPut rm' (mv_Pre (kk V) (.ref b :: As) M) (mv_Q (kk V) post) mc ms V.2.2.2.2) (hrc : rm'.cells = mc) (hrs : rm'.slots = ms) (hR : rm'.frames + 1 ≤ rm.frames ∧ 25 + rm'.locals ≤ rm.locals) (hb : M b = some (.inr (4, fs))) (hn : As.length = 2) (hstk : st = As.reverse ++ .ref b :: rest) (hcat : (rest.map fun v => v.category).sum ≤ 8) (hdg : decode cc pc = .ok (.invokevirtual 63, 3)) (hf : cells + mc ≤ rm.cells ∧ slots + ms ≤ rm.slots) (k : ∀ (v : Option Value) (M1 : mv_M), post v M1 → mv_G X Q (kk V) nL (pc + 3) lv (v.toList ++ rest) M1 (cells + mc) (slots + ms)) : mv_G X Q (kk V) nL pc lv st M cells slots := mv_cV B hM (giV w_335 w_357 w_334 wS_24 w_2) rfl hrc hrs (by decide +kernel) ⟨hR.1, by have := hR.2; omega⟩ rfl hb hn hstk hcat hdg hf k
theorem w_307 : (Jvm.Cond.methodLink "FamilyRules$Reader" (67 : Nat) ({ cls := "FamilyRules$Reader", name := "setDepth", desc := "(II)V" } : Jvm.MethodName)) ∈ mw := mw_t 307 (by decide +kernel) (by decide +kernel)
theorem w_309 : (Jvm.Cond.instanceMethod ({ cls := "FamilyRules$Reader", name := "setDepth", desc := "(II)V" } : Jvm.MethodName)) ∈ mw := mw_t 309 (by decide +kernel) (by decide +kernel)
theorem wS_19 : (Jvm.Cond.selects "FamilyRules$Reader" ({ cls := "FamilyRules$Reader", name := "setDepth", desc := "(II)V" } : Jvm.MethodName) ({ cls := "FamilyRules$Reader", name := "setDepth", desc := "(II)V" } : Jvm.MethodName)) ∈ mw := mw_s 19 (by decide +kernel) (by decide +kernel)
theorem ca_Reader_67 (B : mv_B X (kk V) cc (v0 :: mw) "FamilyRules$Reader" nL ret rm nm) (hM : Met X.2.1 y_Reader_setDepth ws_Reader_setDepth rm' (mv_Pre (kk V) (.ref b :: As) M) (mv_Q (kk V) post) mc ms V.2.2.2.2) (hrc : rm'.cells = mc) (hrs : rm'.slots = ms) (hR : rm'.frames + 1 ≤ rm.frames ∧ 22 + rm'.locals ≤ rm.locals) (hb : M b = some (.inr (4, fs))) (hn : As.length = 2) (hstk : st = As.reverse ++ .ref b :: rest) (hcat : (rest.map fun v => v.category).sum ≤ 8) (hdg : decode cc pc = .ok (.invokevirtual 67, 3)) (hf : cells + mc ≤ rm.cells ∧ slots + ms ≤ rm.slots) (k : ∀ (v : Option Value) (M1 : mv_M), post v M1 → mv_G X Q (kk V) nL (pc + 3) lv (v.toList ++ rest) M1 (cells + mc) (slots + ms)) : mv_G X Q (kk V) nL pc lv st M cells slots := mv_cV B hM (giV w_310 w_307 w_309 wS_19 w_2) rfl hrc hrs (by decide +kernel) ⟨hR.1, by have := hR.2; omega⟩ rfl hb hn hstk hcat hdg hf k
theorem w_311 : (Jvm.Cond.methodLinkNest "FamilyRules$Reader" (71 : Nat) ({ cls := "FamilyRules$Term", name := "length", desc := "()I" } : Jvm.MethodName) "FamilyRules") ∈ nw := nw_t 311 (by decide +kernel) (by decide +kernel)
theorem ca_Reader_71 (B : mv_B X (kk V) cc (v0 :: mw) "FamilyRules$Reader" nL ret rm nm) (hM : Met X.2.1 y_Term_length ws_Term_length rm' (mv_Pre (kk V) (.ref b :: As) M) (mv_Q (kk V) post) mc ms V.2.2.2.2) (hrc : rm'.cells = mc) (hrs : rm'.slots = ms) (hR : rm'.frames + 1 ≤ rm.frames ∧ 20 + rm'.locals ≤ rm.locals) (hb : M b = some (.inr (0, fs))) (hn : As.length = 0) (hstk : st = As.reverse ++ .ref b :: rest) (hcat : (rest.map fun v => v.category).sum ≤ 8) (hdg : decode cc pc = .ok (.invokevirtual 71, 3)) (hf : cells + mc ≤ rm.cells ∧ slots + ms ≤ rm.slots) (k : ∀ (v : Option Value) (M1 : mv_M), post v M1 → mv_G X Q (kk V) nL (pc + 3) lv (v.toList ++ rest) M1 (cells + mc) (slots + ms)) : mv_G X Q (kk V) nL pc lv st M cells slots := mv_cVN B hM (gi w_180) rfl hrc hrs w_311 (mwc w_7) (by decide +kernel) ⟨hR.1, by have := hR.2; omega⟩ (mwc w_179) (mwc wS_6) rfl hb hn hstk hcat hdg hf k
theorem w_312 : (Jvm.Cond.methodLink "FamilyRules$Reader" (75 : Nat) ({ cls := "FamilyRules$Reader", name := "depthAt", desc := "(I)I" } : Jvm.MethodName)) ∈ mw := mw_t 312 (by decide +kernel) (by decide +kernel)
theorem ca_Reader_75 (B : mv_B X (kk V) cc (v0 :: mw) "FamilyRules$Reader" nL ret rm nm) (hM : Met X.2.1 y_Reader_depthAt ws_Reader_depthAt rm' (mv_Pre (kk V) (.ref b :: As) M) (mv_Q (kk V) post) mc ms V.2.2.2.2) (hrc : rm'.cells = mc) (hrs : rm'.slots = ms) (hR : rm'.frames + 1 ≤ rm.frames ∧ 21 + rm'.locals ≤ rm.locals) (hb : M b = some (.inr (4, fs))) (hn : As.length = 1) (hstk : st = As.reverse ++ .ref b :: rest) (hcat : (rest.map fun v => v.category).sum ≤ 8) (hdg : decode cc pc = .ok (.invokevirtual 75, 3)) (hf : cells + mc ≤ rm.cells ∧ slots + ms ≤ rm.slots) (k : ∀ (v : Option Value) (M1 : mv_M), post v M1 → mv_G X Q (kk V) nL (pc + 3) lv (v.toList ++ rest) M1 (cells + mc) (slots + ms)) : mv_G X Q (kk V) nL pc lv st M cells slots := mv_cV B hM (giV w_315 w_312 w_314 wS_20 w_2) rfl hrc hrs (by decide +kernel) ⟨hR.1, by have := hR.2; omega⟩ rfl hb hn hstk hcat hdg hf k
theorem w_303 : (Jvm.Cond.methodLink "FamilyRules$Reader" (78 : Nat) ({ cls := "FamilyRules$Reader", name := "readDepths", desc := "(LFamilyRules$Term;)V" } : Jvm.MethodName)) ∈ mw := mw_t 303 (by decide +kernel) (by decide +kernel)
theorem ca_Reader_78 (B : mv_B X (kk V) cc (v0 :: mw) "FamilyRules$Reader" nL ret rm nm) (hM : Met X.2.1 y_Reader_readDepths ws_Reader_readDepths rm' (mv_Pre (kk V) (.ref b :: As) M) (mv_Q (kk V) post) mc ms V.2.2.2.2) (hrc : rm'.cells = mc) (hrs : rm'.slots = ms) (hR : rm'.frames + 1 ≤ rm.frames ∧ 24 + rm'.locals ≤ rm.locals) (hb : M b = some (.inr (4, fs))) (hn : As.length = 1) (hstk : st = As.reverse ++ .ref b :: rest) (hcat : (rest.map fun v => v.category).sum ≤ 8) (hdg : decode cc pc = .ok (.invokevirtual 78, 3)) (hf : cells + mc ≤ rm.cells ∧ slots + ms ≤ rm.slots) (k : ∀ (v : Option Value) (M1 : mv_M), post v M1 → mv_G X Q (kk V) nL (pc + 3) lv (v.toList ++ rest) M1 (cells + mc) (slots + ms)) : mv_G X Q (kk V) nL pc lv st M cells slots := mv_cV B hM (giV w_306 w_303 w_305 wS_18 w_2) rfl hrc hrs (by decide +kernel) ⟨hR.1, by have := hR.2; omega⟩ rfl hb hn hstk hcat hdg hf k
theorem w_143 : (Jvm.Cond.methodLink "FamilyRules$Register" (21 : Nat) ({ cls := "FamilyRules$Register", name := "find", desc := "(I)LFamilyRules$Global;" } : Jvm.MethodName)) ∈ mw := mw_t 143 (by decide +kernel) (by decide +kernel)
theorem ca_Register_21 (B : mv_B X (kk V) cc (v0 :: mw) "FamilyRules$Register" nL ret rm nm) (hM : Met X.2.1 y_Register_find ws_Register_find rm' (mv_Pre (kk V) (.ref b :: As) M) (mv_Q (kk V) post) mc ms V.2.2.2.2) (hrc : rm'.cells = mc) (hrs : rm'.slots = ms) (hR : rm'.frames + 1 ≤ rm.frames ∧ 21 + rm'.locals ≤ rm.locals) (hb : M b = some (.inr (3, fs))) (hn : As.length = 1) (hstk : st = As.reverse ++ .ref b :: rest) (hcat : (rest.map fun v => v.category).sum ≤ 8) (hdg : decode cc pc = .ok (.invokevirtual 21, 3)) (hf : cells + mc ≤ rm.cells ∧ slots + ms ≤ rm.slots) (k : ∀ (v : Option Value) (M1 : mv_M), post v M1 → mv_G X Q (kk V) nL (pc + 3) lv (v.toList ++ rest) M1 (cells + mc) (slots + ms)) : mv_G X Q (kk V) nL pc lv st M cells slots := mv_cV B hM (giV w_138 w_143 w_137 wS_1 w_4) rfl hrc hrs (by decide +kernel) ⟨hR.1, by have := hR.2; omega⟩ rfl hb hn hstk hcat hdg hf k
theorem w_223 : (Jvm.Cond.methodLinkNest "FamilyRules$Register" (28 : Nat) ({ cls := "FamilyRules$Global", name := "<init>", desc := "(IIIII)V" } : Jvm.MethodName) "FamilyRules") ∈ nw := nw_t 223 (by decide +kernel) (by decide +kernel)
theorem w_224 : (Jvm.Cond.instanceMethod ({ cls := "FamilyRules$Global", name := "<init>", desc := "(IIIII)V" } : Jvm.MethodName)) ∈ mw := mw_t 224 (by decide +kernel) (by decide +kernel)
theorem ca_Register_28 (B : mv_B X (kk V) cc (v0 :: mw) "FamilyRules$Register" nL ret rm nm) (hM : Met X.2.1 y_Global_init ws_Global_init rm' (mv_Pre (kk V) (.ref b :: As) M) (mv_Q (kk V) post) mc ms V.2.2.2.2) (hrc : rm'.cells = mc) (hrs : rm'.slots = ms) (hR : rm'.frames + 1 ≤ rm.frames ∧ 25 + rm'.locals ≤ rm.locals) (hn : As.length = 5) (hstk : st = As.reverse ++ .ref b :: rest) (hcat : (rest.map fun v => v.category).sum ≤ 8) (hdg : decode cc pc = .ok (.invokespecial 28, 3)) (hf : cells + mc ≤ rm.cells ∧ slots + ms ≤ rm.slots) (k : ∀ (v : Option Value) (M1 : mv_M), post v M1 → mv_G X Q (kk V) nL (pc + 3) lv (v.toList ++ rest) M1 (cells + mc) (slots + ms)) : mv_G X Q (kk V) nL pc lv st M cells slots := mv_cIN B hM (gi w_225) rfl hrc hrs w_223 (mwc w_10) (by decide +kernel) ⟨hR.1, by have := hR.2; omega⟩ rfl (mwc w_224) hn hstk hcat hdg hf k
theorem w_278 : (Jvm.Cond.methodLink "FamilyRules$Register" (31 : Nat) ({ cls := "FamilyRules$Register", name := "enter", desc := "(LFamilyRules$Global;)I" } : Jvm.MethodName)) ∈ mw := mw_t 278 (by decide +kernel) (by decide +kernel)
theorem w_280 : (Jvm.Cond.instanceMethod ({ cls := "FamilyRules$Register", name := "enter", desc := "(LFamilyRules$Global;)I" } : Jvm.MethodName)) ∈ mw := mw_t 280 (by decide +kernel) (by decide +kernel)
theorem wS_13 : (Jvm.Cond.selects "FamilyRules$Register" ({ cls := "FamilyRules$Register", name := "enter", desc := "(LFamilyRules$Global;)I" } : Jvm.MethodName) ({ cls := "FamilyRules$Register", name := "enter", desc := "(LFamilyRules$Global;)I" } : Jvm.MethodName)) ∈ mw := mw_s 13 (by decide +kernel) (by decide +kernel)
theorem ca_Register_31 (B : mv_B X (kk V) cc (v0 :: mw) "FamilyRules$Register" nL ret rm nm) (hM : Met X.2.1 y_Register_enter ws_Register_enter rm' (mv_Pre (kk V) (.ref b :: As) M) (mv_Q (kk V) post) mc ms V.2.2.2.2) (hrc : rm'.cells = mc) (hrs : rm'.slots = ms) (hR : rm'.frames + 1 ≤ rm.frames ∧ 21 + rm'.locals ≤ rm.locals) (hb : M b = some (.inr (3, fs))) (hn : As.length = 1) (hstk : st = As.reverse ++ .ref b :: rest) (hcat : (rest.map fun v => v.category).sum ≤ 8) (hdg : decode cc pc = .ok (.invokevirtual 31, 3)) (hf : cells + mc ≤ rm.cells ∧ slots + ms ≤ rm.slots) (k : ∀ (v : Option Value) (M1 : mv_M), post v M1 → mv_G X Q (kk V) nL (pc + 3) lv (v.toList ++ rest) M1 (cells + mc) (slots + ms)) : mv_G X Q (kk V) nL pc lv st M cells slots := mv_cV B hM (giV w_281 w_278 w_280 wS_13 w_4) rfl hrc hrs (by decide +kernel) ⟨hR.1, by have := hR.2; omega⟩ rfl hb hn hstk hcat hdg hf k
theorem w_149 : (Jvm.Cond.methodLinkNest "FamilyRules$Shelf" (24 : Nat) ({ cls := "FamilyRules$Term", name := "<init>", desc := "(I)V" } : Jvm.MethodName) "FamilyRules") ∈ nw := nw_t 149 (by decide +kernel) (by decide +kernel)
theorem w_150 : (Jvm.Cond.instanceMethod ({ cls := "FamilyRules$Term", name := "<init>", desc := "(I)V" } : Jvm.MethodName)) ∈ mw := mw_t 150 (by decide +kernel) (by decide +kernel)
theorem ca_Shelf_24 (B : mv_B X (kk V) cc (v0 :: mw) "FamilyRules$Shelf" nL ret rm nm) (hM : Met X.2.1 y_Term_init ws_Term_init rm' (mv_Pre (kk V) (.ref b :: As) M) (mv_Q (kk V) post) mc ms V.2.2.2.2) (hrc : rm'.cells = mc) (hrs : rm'.slots = ms) (hR : rm'.frames + 1 ≤ rm.frames ∧ 22 + rm'.locals ≤ rm.locals) (hn : As.length = 1) (hstk : st = As.reverse ++ .ref b :: rest) (hcat : (rest.map fun v => v.category).sum ≤ 8) (hdg : decode cc pc = .ok (.invokespecial 24, 3)) (hf : cells + mc ≤ rm.cells ∧ slots + ms ≤ rm.slots) (k : ∀ (v : Option Value) (M1 : mv_M), post v M1 → mv_G X Q (kk V) nL (pc + 3) lv (v.toList ++ rest) M1 (cells + mc) (slots + ms)) : mv_G X Q (kk V) nL pc lv st M cells slots := mv_cIN B hM (gi w_151) rfl hrc hrs w_149 (mwc w_7) (by decide +kernel) ⟨hR.1, by have := hR.2; omega⟩ rfl (mwc w_150) hn hstk hcat hdg hf k
theorem w_177 : (Jvm.Cond.methodLinkNest "FamilyRules$Shelf" (27 : Nat) ({ cls := "FamilyRules$Term", name := "length", desc := "()I" } : Jvm.MethodName) "FamilyRules") ∈ nw := nw_t 177 (by decide +kernel) (by decide +kernel)
theorem ca_Shelf_27 (B : mv_B X (kk V) cc (v0 :: mw) "FamilyRules$Shelf" nL ret rm nm) (hM : Met X.2.1 y_Term_length ws_Term_length rm' (mv_Pre (kk V) (.ref b :: As) M) (mv_Q (kk V) post) mc ms V.2.2.2.2) (hrc : rm'.cells = mc) (hrs : rm'.slots = ms) (hR : rm'.frames + 1 ≤ rm.frames ∧ 20 + rm'.locals ≤ rm.locals) (hb : M b = some (.inr (0, fs))) (hn : As.length = 0) (hstk : st = As.reverse ++ .ref b :: rest) (hcat : (rest.map fun v => v.category).sum ≤ 8) (hdg : decode cc pc = .ok (.invokevirtual 27, 3)) (hf : cells + mc ≤ rm.cells ∧ slots + ms ≤ rm.slots) (k : ∀ (v : Option Value) (M1 : mv_M), post v M1 → mv_G X Q (kk V) nL (pc + 3) lv (v.toList ++ rest) M1 (cells + mc) (slots + ms)) : mv_G X Q (kk V) nL pc lv st M cells slots := mv_cVN B hM (gi w_180) rfl hrc hrs w_177 (mwc w_7) (by decide +kernel) ⟨hR.1, by have := hR.2; omega⟩ (mwc w_179) (mwc wS_6) rfl hb hn hstk hcat hdg hf k
theorem w_206 : (Jvm.Cond.methodLink "FamilyRules$Term" (30 : Nat) ({ cls := "FamilyRules$Term", name := "nodesAt", desc := "(I)I" } : Jvm.MethodName)) ∈ mw := mw_t 206 (by decide +kernel) (by decide +kernel)
theorem ca_Term_30 (B : mv_B X (kk V) cc (v0 :: mw) "FamilyRules$Term" nL ret rm nm) (hM : Met X.2.1 y_Term_nodesAt ws_Term_nodesAt rm' (mv_Pre (kk V) (.ref b :: As) M) (mv_Q (kk V) post) mc ms V.2.2.2.2) (hrc : rm'.cells = mc) (hrs : rm'.slots = ms) (hR : rm'.frames + 1 ≤ rm.frames ∧ 21 + rm'.locals ≤ rm.locals) (hb : M b = some (.inr (0, fs))) (hn : As.length = 1) (hstk : st = As.reverse ++ .ref b :: rest) (hcat : (rest.map fun v => v.category).sum ≤ 8) (hdg : decode cc pc = .ok (.invokevirtual 30, 3)) (hf : cells + mc ≤ rm.cells ∧ slots + ms ≤ rm.slots) (k : ∀ (v : Option Value) (M1 : mv_M), post v M1 → mv_G X Q (kk V) nL (pc + 3) lv (v.toList ++ rest) M1 (cells + mc) (slots + ms)) : mv_G X Q (kk V) nL pc lv st M cells slots := mv_cV B hM (giV w_209 w_206 w_208 wS_11 w_7) rfl hrc hrs (by decide +kernel) ⟨hR.1, by have := hR.2; omega⟩ rfl hb hn hstk hcat hdg hf k
theorem w_344 : (Jvm.Cond.methodLink "FamilyRules$Term" (34 : Nat) ({ cls := "FamilyRules$Term", name := "secondOf", desc := "(I)I" } : Jvm.MethodName)) ∈ mw := mw_t 344 (by decide +kernel) (by decide +kernel)
theorem ca_Term_34 (B : mv_B X (kk V) cc (v0 :: mw) "FamilyRules$Term" nL ret rm nm) (hM : Met X.2.1 y_Term_secondOf ws_Term_secondOf rm' (mv_Pre (kk V) (.ref b :: As) M) (mv_Q (kk V) post) mc ms V.2.2.2.2) (hrc : rm'.cells = mc) (hrs : rm'.slots = ms) (hR : rm'.frames + 1 ≤ rm.frames ∧ 21 + rm'.locals ≤ rm.locals) (hb : M b = some (.inr (0, fs))) (hn : As.length = 1) (hstk : st = As.reverse ++ .ref b :: rest) (hcat : (rest.map fun v => v.category).sum ≤ 8) (hdg : decode cc pc = .ok (.invokevirtual 34, 3)) (hf : cells + mc ≤ rm.cells ∧ slots + ms ≤ rm.slots) (k : ∀ (v : Option Value) (M1 : mv_M), post v M1 → mv_G X Q (kk V) nL (pc + 3) lv (v.toList ++ rest) M1 (cells + mc) (slots + ms)) : mv_G X Q (kk V) nL pc lv st M cells slots := mv_cV B hM (giV w_297 w_344 w_296 wS_16 w_7) rfl hrc hrs (by decide +kernel) ⟨hR.1, by have := hR.2; omega⟩ rfl hb hn hstk hcat hdg hf k
theorem w_198 : (Jvm.Cond.methodLink "FamilyRules$Term" (37 : Nat) ({ cls := "FamilyRules$Term", name := "length", desc := "()I" } : Jvm.MethodName)) ∈ mw := mw_t 198 (by decide +kernel) (by decide +kernel)
theorem ca_Term_37 (B : mv_B X (kk V) cc (v0 :: mw) "FamilyRules$Term" nL ret rm nm) (hM : Met X.2.1 y_Term_length ws_Term_length rm' (mv_Pre (kk V) (.ref b :: As) M) (mv_Q (kk V) post) mc ms V.2.2.2.2) (hrc : rm'.cells = mc) (hrs : rm'.slots = ms) (hR : rm'.frames + 1 ≤ rm.frames ∧ 20 + rm'.locals ≤ rm.locals) (hb : M b = some (.inr (0, fs))) (hn : As.length = 0) (hstk : st = As.reverse ++ .ref b :: rest) (hcat : (rest.map fun v => v.category).sum ≤ 8) (hdg : decode cc pc = .ok (.invokevirtual 37, 3)) (hf : cells + mc ≤ rm.cells ∧ slots + ms ≤ rm.slots) (k : ∀ (v : Option Value) (M1 : mv_M), post v M1 → mv_G X Q (kk V) nL (pc + 3) lv (v.toList ++ rest) M1 (cells + mc) (slots + ms)) : mv_G X Q (kk V) nL pc lv st M cells slots := mv_cV B hM (giV w_180 w_198 w_179 wS_6 w_7) rfl hrc hrs (by decide +kernel) ⟨hR.1, by have := hR.2; omega⟩ rfl hb hn hstk hcat hdg hf k
theorem w_354 : (Jvm.Cond.methodLink "FamilyRules$Term" (47 : Nat) ({ cls := "FamilyRules$Term", name := "kindAt", desc := "(I)I" } : Jvm.MethodName)) ∈ mw := mw_t 354 (by decide +kernel) (by decide +kernel)
theorem ca_Term_47 (B : mv_B X (kk V) cc (v0 :: mw) "FamilyRules$Term" nL ret rm nm) (hM : Met X.2.1 y_Term_kindAt ws_Term_kindAt rm' (mv_Pre (kk V) (.ref b :: As) M) (mv_Q (kk V) post) mc ms V.2.2.2.2) (hrc : rm'.cells = mc) (hrs : rm'.slots = ms) (hR : rm'.frames + 1 ≤ rm.frames ∧ 21 + rm'.locals ≤ rm.locals) (hb : M b = some (.inr (0, fs))) (hn : As.length = 1) (hstk : st = As.reverse ++ .ref b :: rest) (hcat : (rest.map fun v => v.category).sum ≤ 8) (hdg : decode cc pc = .ok (.invokevirtual 47, 3)) (hf : cells + mc ≤ rm.cells ∧ slots + ms ≤ rm.slots) (k : ∀ (v : Option Value) (M1 : mv_M), post v M1 → mv_G X Q (kk V) nL (pc + 3) lv (v.toList ++ rest) M1 (cells + mc) (slots + ms)) : mv_G X Q (kk V) nL pc lv st M cells slots := mv_cV B hM (giV w_293 w_354 w_292 wS_15 w_7) rfl hrc hrs (by decide +kernel) ⟨hR.1, by have := hR.2; omega⟩ rfl hb hn hstk hcat hdg hf k
theorem w_355 : (Jvm.Cond.methodLink "FamilyRules$Term" (50 : Nat) ({ cls := "FamilyRules$Term", name := "numberAt", desc := "(I)I" } : Jvm.MethodName)) ∈ mw := mw_t 355 (by decide +kernel) (by decide +kernel)
theorem ca_Term_50 (B : mv_B X (kk V) cc (v0 :: mw) "FamilyRules$Term" nL ret rm nm) (hM : Met X.2.1 y_Term_numberAt ws_Term_numberAt rm' (mv_Pre (kk V) (.ref b :: As) M) (mv_Q (kk V) post) mc ms V.2.2.2.2) (hrc : rm'.cells = mc) (hrs : rm'.slots = ms) (hR : rm'.frames + 1 ≤ rm.frames ∧ 21 + rm'.locals ≤ rm.locals) (hb : M b = some (.inr (0, fs))) (hn : As.length = 1) (hstk : st = As.reverse ++ .ref b :: rest) (hcat : (rest.map fun v => v.category).sum ≤ 8) (hdg : decode cc pc = .ok (.invokevirtual 50, 3)) (hf : cells + mc ≤ rm.cells ∧ slots + ms ≤ rm.slots) (k : ∀ (v : Option Value) (M1 : mv_M), post v M1 → mv_G X Q (kk V) nL (pc + 3) lv (v.toList ++ rest) M1 (cells + mc) (slots + ms)) : mv_G X Q (kk V) nL pc lv st M cells slots := mv_cV B hM (giV w_319 w_355 w_318 wS_21 w_7) rfl hrc hrs (by decide +kernel) ⟨hR.1, by have := hR.2; omega⟩ rfl hb hn hstk hcat hdg hf k
theorem w_543 : (Jvm.Cond.methodLink "FamilyRulesModel" (59 : Nat) ({ cls := "FamilyRulesModel", name := "wide", desc := "([I)[I" } : Jvm.MethodName)) ∈ mw := mw_t 543 (by decide +kernel) (by decide +kernel)
theorem w_6 : (Jvm.Cond.initialized "FamilyRulesModel") ∈ mw := mw_t 6 (by decide +kernel) (by decide +kernel)
theorem w_544 : (Jvm.Cond.static ({ cls := "FamilyRulesModel", name := "wide", desc := "([I)[I" } : Jvm.MethodName)) ∈ mw := mw_t 544 (by decide +kernel) (by decide +kernel)
theorem ca_Mod_59 (B : mv_B X (kk V) cc (v0 :: mw) "FamilyRulesModel" nL ret rm nm) (hM : Met X.2.1 y_Mod_wide ws_Mod_wide rm' (mv_Pre (kk V) As M) (mv_Q (kk V) post) mc ms V.2.2.2.2) (hrc : rm'.cells = mc) (hrs : rm'.slots = ms) (hR : rm'.frames + 1 ≤ rm.frames ∧ 21 + rm'.locals ≤ rm.locals) (hn : As.length = 1) (hstk : st = As.reverse ++ rest) (hcat : (rest.map fun v => v.category).sum ≤ 8) (hdg : decode cc pc = .ok (.invokestatic 59, 3)) (hf : cells + mc ≤ rm.cells ∧ slots + ms ≤ rm.slots) (k : ∀ (v : Option Value) (M1 : mv_M), post v M1 → mv_G X Q (kk V) nL (pc + 3) lv (v.toList ++ rest) M1 (cells + mc) (slots + ms)) : mv_G X Q (kk V) nL pc lv st M cells slots := mv_cS B hM (giS w_545 w_543 w_544 w_6) rfl hrc hrs (by decide +kernel) ⟨hR.1, by have := hR.2; omega⟩ hn hstk hcat hdg hf k
theorem w_539 : (Jvm.Cond.methodLink "FamilyRulesModel" (63 : Nat) ({ cls := "FamilyRulesModel", name := "add", desc := "(III)I" } : Jvm.MethodName)) ∈ mw := mw_t 539 (by decide +kernel) (by decide +kernel)
theorem w_541 : (Jvm.Cond.instanceMethod ({ cls := "FamilyRulesModel", name := "add", desc := "(III)I" } : Jvm.MethodName)) ∈ mw := mw_t 541 (by decide +kernel) (by decide +kernel)
theorem wS_49 : (Jvm.Cond.selects "FamilyRulesModel" ({ cls := "FamilyRulesModel", name := "add", desc := "(III)I" } : Jvm.MethodName) ({ cls := "FamilyRulesModel", name := "add", desc := "(III)I" } : Jvm.MethodName)) ∈ mw := mw_s 49 (by decide +kernel) (by decide +kernel)
theorem ca_Mod_63 (B : mv_B X (kk V) cc (v0 :: mw) "FamilyRulesModel" nL ret rm nm) (hM : Met X.2.1 y_Mod_add ws_Mod_add rm' (mv_Pre (kk V) (.ref b :: As) M) (mv_Q (kk V) post) mc ms V.2.2.2.2) (hrc : rm'.cells = mc) (hrs : rm'.slots = ms) (hR : rm'.frames + 1 ≤ rm.frames ∧ 23 + rm'.locals ≤ rm.locals) (hb : M b = some (.inr (7, fs))) (hn : As.length = 3) (hstk : st = As.reverse ++ .ref b :: rest) (hcat : (rest.map fun v => v.category).sum ≤ 8) (hdg : decode cc pc = .ok (.invokevirtual 63, 3)) (hf : cells + mc ≤ rm.cells ∧ slots + ms ≤ rm.slots) (k : ∀ (v : Option Value) (M1 : mv_M), post v M1 → mv_G X Q (kk V) nL (pc + 3) lv (v.toList ++ rest) M1 (cells + mc) (slots + ms)) : mv_G X Q (kk V) nL pc lv st M cells slots := mv_cV B hM (giV w_542 w_539 w_541 wS_49 w_6) rfl hrc hrs (by decide +kernel) ⟨hR.1, by have := hR.2; omega⟩ rfl hb hn hstk hcat hdg hf k
theorem w_603 : (Jvm.Cond.methodLink "FamilyRulesModel" (67 : Nat) ({ cls := "FamilyRulesModel", name := "second", desc := "(I)I" } : Jvm.MethodName)) ∈ mw := mw_t 603 (by decide +kernel) (by decide +kernel)
theorem w_605 : (Jvm.Cond.instanceMethod ({ cls := "FamilyRulesModel", name := "second", desc := "(I)I" } : Jvm.MethodName)) ∈ mw := mw_t 605 (by decide +kernel) (by decide +kernel)
theorem wS_58 : (Jvm.Cond.selects "FamilyRulesModel" ({ cls := "FamilyRulesModel", name := "second", desc := "(I)I" } : Jvm.MethodName) ({ cls := "FamilyRulesModel", name := "second", desc := "(I)I" } : Jvm.MethodName)) ∈ mw := mw_s 58 (by decide +kernel) (by decide +kernel)
theorem ca_Mod_67 (B : mv_B X (kk V) cc (v0 :: mw) "FamilyRulesModel" nL ret rm nm) (hM : Met X.2.1 y_Mod_second ws_Mod_second rm' (mv_Pre (kk V) (.ref b :: As) M) (mv_Q (kk V) post) mc ms V.2.2.2.2) (hrc : rm'.cells = mc) (hrs : rm'.slots = ms) (hR : rm'.frames + 1 ≤ rm.frames ∧ 21 + rm'.locals ≤ rm.locals) (hb : M b = some (.inr (7, fs))) (hn : As.length = 1) (hstk : st = As.reverse ++ .ref b :: rest) (hcat : (rest.map fun v => v.category).sum ≤ 8) (hdg : decode cc pc = .ok (.invokevirtual 67, 3)) (hf : cells + mc ≤ rm.cells ∧ slots + ms ≤ rm.slots) (k : ∀ (v : Option Value) (M1 : mv_M), post v M1 → mv_G X Q (kk V) nL (pc + 3) lv (v.toList ++ rest) M1 (cells + mc) (slots + ms)) : mv_G X Q (kk V) nL pc lv st M cells slots := mv_cV B hM (giV w_606 w_603 w_605 wS_58 w_6) rfl hrc hrs (by decide +kernel) ⟨hR.1, by have := hR.2; omega⟩ rfl hb hn hstk hcat hdg hf k
theorem w_599 : (Jvm.Cond.methodLink "FamilyRulesModel" (71 : Nat) ({ cls := "FamilyRulesModel", name := "walk", desc := "(I)V" } : Jvm.MethodName)) ∈ mw := mw_t 599 (by decide +kernel) (by decide +kernel)
theorem w_601 : (Jvm.Cond.instanceMethod ({ cls := "FamilyRulesModel", name := "walk", desc := "(I)V" } : Jvm.MethodName)) ∈ mw := mw_t 601 (by decide +kernel) (by decide +kernel)
theorem wS_57 : (Jvm.Cond.selects "FamilyRulesModel" ({ cls := "FamilyRulesModel", name := "walk", desc := "(I)V" } : Jvm.MethodName) ({ cls := "FamilyRulesModel", name := "walk", desc := "(I)V" } : Jvm.MethodName)) ∈ mw := mw_s 57 (by decide +kernel) (by decide +kernel)
theorem ca_Mod_71 (B : mv_B X (kk V) cc (v0 :: mw) "FamilyRulesModel" nL ret rm nm) (hM : Met X.2.1 y_Mod_walk ws_Mod_walk rm' (mv_Pre (kk V) (.ref b :: As) M) (mv_Q (kk V) post) mc ms V.2.2.2.2) (hrc : rm'.cells = mc) (hrs : rm'.slots = ms) (hR : rm'.frames + 1 ≤ rm.frames ∧ 22 + rm'.locals ≤ rm.locals) (hb : M b = some (.inr (7, fs))) (hn : As.length = 1) (hstk : st = As.reverse ++ .ref b :: rest) (hcat : (rest.map fun v => v.category).sum ≤ 8) (hdg : decode cc pc = .ok (.invokevirtual 71, 3)) (hf : cells + mc ≤ rm.cells ∧ slots + ms ≤ rm.slots) (k : ∀ (v : Option Value) (M1 : mv_M), post v M1 → mv_G X Q (kk V) nL (pc + 3) lv (v.toList ++ rest) M1 (cells + mc) (slots + ms)) : mv_G X Q (kk V) nL pc lv st M cells slots := mv_cV B hM (giV w_602 w_599 w_601 wS_57 w_6) rfl hrc hrs (by decide +kernel) ⟨hR.1, by have := hR.2; omega⟩ rfl hb hn hstk hcat hdg hf k
theorem w_551 : (Jvm.Cond.methodLink "FamilyRulesModel" (78 : Nat) ({ cls := "FamilyRulesModel", name := "measure", desc := "(I)V" } : Jvm.MethodName)) ∈ mw := mw_t 551 (by decide +kernel) (by decide +kernel)
theorem w_553 : (Jvm.Cond.instanceMethod ({ cls := "FamilyRulesModel", name := "measure", desc := "(I)V" } : Jvm.MethodName)) ∈ mw := mw_t 553 (by decide +kernel) (by decide +kernel)
theorem wS_51 : (Jvm.Cond.selects "FamilyRulesModel" ({ cls := "FamilyRulesModel", name := "measure", desc := "(I)V" } : Jvm.MethodName) ({ cls := "FamilyRulesModel", name := "measure", desc := "(I)V" } : Jvm.MethodName)) ∈ mw := mw_s 51 (by decide +kernel) (by decide +kernel)
theorem ca_Mod_78 (B : mv_B X (kk V) cc (v0 :: mw) "FamilyRulesModel" nL ret rm nm) (hM : Met X.2.1 y_Mod_measure ws_Mod_measure rm' (mv_Pre (kk V) (.ref b :: As) M) (mv_Q (kk V) post) mc ms V.2.2.2.2) (hrc : rm'.cells = mc) (hrs : rm'.slots = ms) (hR : rm'.frames + 1 ≤ rm.frames ∧ 23 + rm'.locals ≤ rm.locals) (hb : M b = some (.inr (7, fs))) (hn : As.length = 1) (hstk : st = As.reverse ++ .ref b :: rest) (hcat : (rest.map fun v => v.category).sum ≤ 8) (hdg : decode cc pc = .ok (.invokevirtual 78, 3)) (hf : cells + mc ≤ rm.cells ∧ slots + ms ≤ rm.slots) (k : ∀ (v : Option Value) (M1 : mv_M), post v M1 → mv_G X Q (kk V) nL (pc + 3) lv (v.toList ++ rest) M1 (cells + mc) (slots + ms)) : mv_G X Q (kk V) nL pc lv st M cells slots := mv_cV B hM (giV w_554 w_551 w_553 wS_51 w_6) rfl hrc hrs (by decide +kernel) ⟨hR.1, by have := hR.2; omega⟩ rfl hb hn hstk hcat hdg hf k
theorem w_547 : (Jvm.Cond.methodLink "FamilyRulesModel" (84 : Nat) ({ cls := "FamilyRulesModel", name := "term", desc := "(I)I" } : Jvm.MethodName)) ∈ mw := mw_t 547 (by decide +kernel) (by decide +kernel)
theorem w_549 : (Jvm.Cond.instanceMethod ({ cls := "FamilyRulesModel", name := "term", desc := "(I)I" } : Jvm.MethodName)) ∈ mw := mw_t 549 (by decide +kernel) (by decide +kernel)
theorem wS_50 : (Jvm.Cond.selects "FamilyRulesModel" ({ cls := "FamilyRulesModel", name := "term", desc := "(I)I" } : Jvm.MethodName) ({ cls := "FamilyRulesModel", name := "term", desc := "(I)I" } : Jvm.MethodName)) ∈ mw := mw_s 50 (by decide +kernel) (by decide +kernel)
theorem ca_Mod_84 (B : mv_B X (kk V) cc (v0 :: mw) "FamilyRulesModel" nL ret rm nm) (hM : Met X.2.1 y_Mod_term ws_Mod_term rm' (mv_Pre (kk V) (.ref b :: As) M) (mv_Q (kk V) post) mc ms V.2.2.2.2) (hrc : rm'.cells = mc) (hrs : rm'.slots = ms) (hR : rm'.frames + 1 ≤ rm.frames ∧ 21 + rm'.locals ≤ rm.locals) (hb : M b = some (.inr (7, fs))) (hn : As.length = 1) (hstk : st = As.reverse ++ .ref b :: rest) (hcat : (rest.map fun v => v.category).sum ≤ 8) (hdg : decode cc pc = .ok (.invokevirtual 84, 3)) (hf : cells + mc ≤ rm.cells ∧ slots + ms ≤ rm.slots) (k : ∀ (v : Option Value) (M1 : mv_M), post v M1 → mv_G X Q (kk V) nL (pc + 3) lv (v.toList ++ rest) M1 (cells + mc) (slots + ms)) : mv_G X Q (kk V) nL pc lv st M cells slots := mv_cV B hM (giV w_550 w_547 w_549 wS_50 w_6) rfl hrc hrs (by decide +kernel) ⟨hR.1, by have := hR.2; omega⟩ rfl hb hn hstk hcat hdg hf k
theorem w_567 : (Jvm.Cond.methodLink "FamilyRulesModel" (87 : Nat) ({ cls := "FamilyRulesModel", name := "copy", desc := "(I)V" } : Jvm.MethodName)) ∈ mw := mw_t 567 (by decide +kernel) (by decide +kernel)
theorem w_569 : (Jvm.Cond.instanceMethod ({ cls := "FamilyRulesModel", name := "copy", desc := "(I)V" } : Jvm.MethodName)) ∈ mw := mw_t 569 (by decide +kernel) (by decide +kernel)
theorem wS_54 : (Jvm.Cond.selects "FamilyRulesModel" ({ cls := "FamilyRulesModel", name := "copy", desc := "(I)V" } : Jvm.MethodName) ({ cls := "FamilyRulesModel", name := "copy", desc := "(I)V" } : Jvm.MethodName)) ∈ mw := mw_s 54 (by decide +kernel) (by decide +kernel)
theorem ca_Mod_87 (B : mv_B X (kk V) cc (v0 :: mw) "FamilyRulesModel" nL ret rm nm) (hM : Met X.2.1 y_Mod_copy ws_Mod_copy rm' (mv_Pre (kk V) (.ref b :: As) M) (mv_Q (kk V) post) mc ms V.2.2.2.2) (hrc : rm'.cells = mc) (hrs : rm'.slots = ms) (hR : rm'.frames + 1 ≤ rm.frames ∧ 24 + rm'.locals ≤ rm.locals) (hb : M b = some (.inr (7, fs))) (hn : As.length = 1) (hstk : st = As.reverse ++ .ref b :: rest) (hcat : (rest.map fun v => v.category).sum ≤ 8) (hdg : decode cc pc = .ok (.invokevirtual 87, 3)) (hf : cells + mc ≤ rm.cells ∧ slots + ms ≤ rm.slots) (k : ∀ (v : Option Value) (M1 : mv_M), post v M1 → mv_G X Q (kk V) nL (pc + 3) lv (v.toList ++ rest) M1 (cells + mc) (slots + ms)) : mv_G X Q (kk V) nL pc lv st M cells slots := mv_cV B hM (giV w_570 w_567 w_569 wS_54 w_6) rfl hrc hrs (by decide +kernel) ⟨hR.1, by have := hR.2; omega⟩ rfl hb hn hstk hcat hdg hf k
theorem w_559 : (Jvm.Cond.methodLink "FamilyRulesModel" (90 : Nat) ({ cls := "FamilyRulesModel", name := "isTerm", desc := "(I)Z" } : Jvm.MethodName)) ∈ mw := mw_t 559 (by decide +kernel) (by decide +kernel)
theorem w_561 : (Jvm.Cond.instanceMethod ({ cls := "FamilyRulesModel", name := "isTerm", desc := "(I)Z" } : Jvm.MethodName)) ∈ mw := mw_t 561 (by decide +kernel) (by decide +kernel)
theorem wS_52 : (Jvm.Cond.selects "FamilyRulesModel" ({ cls := "FamilyRulesModel", name := "isTerm", desc := "(I)Z" } : Jvm.MethodName) ({ cls := "FamilyRulesModel", name := "isTerm", desc := "(I)Z" } : Jvm.MethodName)) ∈ mw := mw_s 52 (by decide +kernel) (by decide +kernel)
theorem ca_Mod_90 (B : mv_B X (kk V) cc (v0 :: mw) "FamilyRulesModel" nL ret rm nm) (hM : Met X.2.1 y_Mod_isTerm ws_Mod_isTerm rm' (mv_Pre (kk V) (.ref b :: As) M) (mv_Q (kk V) post) mc ms V.2.2.2.2) (hrc : rm'.cells = mc) (hrs : rm'.slots = ms) (hR : rm'.frames + 1 ≤ rm.frames ∧ 21 + rm'.locals ≤ rm.locals) (hb : M b = some (.inr (7, fs))) (hn : As.length = 1) (hstk : st = As.reverse ++ .ref b :: rest) (hcat : (rest.map fun v => v.category).sum ≤ 8) (hdg : decode cc pc = .ok (.invokevirtual 90, 3)) (hf : cells + mc ≤ rm.cells ∧ slots + ms ≤ rm.slots) (k : ∀ (v : Option Value) (M1 : mv_M), post v M1 → mv_G X Q (kk V) nL (pc + 3) lv (v.toList ++ rest) M1 (cells + mc) (slots + ms)) : mv_G X Q (kk V) nL pc lv st M cells slots := mv_cV B hM (giV w_562 w_559 w_561 wS_52 w_6) rfl hrc hrs (by decide +kernel) ⟨hR.1, by have := hR.2; omega⟩ rfl hb hn hstk hcat hdg hf k
theorem w_563 : (Jvm.Cond.methodLink "FamilyRulesModel" (94 : Nat) ({ cls := "FamilyRulesModel", name := "two", desc := "(IIII)I" } : Jvm.MethodName)) ∈ mw := mw_t 563 (by decide +kernel) (by decide +kernel)
theorem w_565 : (Jvm.Cond.instanceMethod ({ cls := "FamilyRulesModel", name := "two", desc := "(IIII)I" } : Jvm.MethodName)) ∈ mw := mw_t 565 (by decide +kernel) (by decide +kernel)
theorem wS_53 : (Jvm.Cond.selects "FamilyRulesModel" ({ cls := "FamilyRulesModel", name := "two", desc := "(IIII)I" } : Jvm.MethodName) ({ cls := "FamilyRulesModel", name := "two", desc := "(IIII)I" } : Jvm.MethodName)) ∈ mw := mw_s 53 (by decide +kernel) (by decide +kernel)
theorem ca_Mod_94 (B : mv_B X (kk V) cc (v0 :: mw) "FamilyRulesModel" nL ret rm nm) (hM : Met X.2.1 y_Mod_two ws_Mod_two rm' (mv_Pre (kk V) (.ref b :: As) M) (mv_Q (kk V) post) mc ms V.2.2.2.2) (hrc : rm'.cells = mc) (hrs : rm'.slots = ms) (hR : rm'.frames + 1 ≤ rm.frames ∧ 25 + rm'.locals ≤ rm.locals) (hb : M b = some (.inr (7, fs))) (hn : As.length = 4) (hstk : st = As.reverse ++ .ref b :: rest) (hcat : (rest.map fun v => v.category).sum ≤ 8) (hdg : decode cc pc = .ok (.invokevirtual 94, 3)) (hf : cells + mc ≤ rm.cells ∧ slots + ms ≤ rm.slots) (k : ∀ (v : Option Value) (M1 : mv_M), post v M1 → mv_G X Q (kk V) nL (pc + 3) lv (v.toList ++ rest) M1 (cells + mc) (slots + ms)) : mv_G X Q (kk V) nL pc lv st M cells slots := mv_cV B hM (giV w_566 w_563 w_565 wS_53 w_6) rfl hrc hrs (by decide +kernel) ⟨hR.1, by have := hR.2; omega⟩ rfl hb hn hstk hcat hdg hf k
theorem w_587 : (Jvm.Cond.methodLink "FamilyRulesModel" (98 : Nat) ({ cls := "FamilyRulesModel", name := "global", desc := "(III)I" } : Jvm.MethodName)) ∈ mw := mw_t 587 (by decide +kernel) (by decide +kernel)
theorem w_589 : (Jvm.Cond.instanceMethod ({ cls := "FamilyRulesModel", name := "global", desc := "(III)I" } : Jvm.MethodName)) ∈ mw := mw_t 589 (by decide +kernel) (by decide +kernel)
theorem wS_55 : (Jvm.Cond.selects "FamilyRulesModel" ({ cls := "FamilyRulesModel", name := "global", desc := "(III)I" } : Jvm.MethodName) ({ cls := "FamilyRulesModel", name := "global", desc := "(III)I" } : Jvm.MethodName)) ∈ mw := mw_s 55 (by decide +kernel) (by decide +kernel)
theorem ca_Mod_98 (B : mv_B X (kk V) cc (v0 :: mw) "FamilyRulesModel" nL ret rm nm) (hM : Met X.2.1 y_Mod_global ws_Mod_global rm' (mv_Pre (kk V) (.ref b :: As) M) (mv_Q (kk V) post) mc ms V.2.2.2.2) (hrc : rm'.cells = mc) (hrs : rm'.slots = ms) (hR : rm'.frames + 1 ≤ rm.frames ∧ 23 + rm'.locals ≤ rm.locals) (hb : M b = some (.inr (7, fs))) (hn : As.length = 3) (hstk : st = As.reverse ++ .ref b :: rest) (hcat : (rest.map fun v => v.category).sum ≤ 8) (hdg : decode cc pc = .ok (.invokevirtual 98, 3)) (hf : cells + mc ≤ rm.cells ∧ slots + ms ≤ rm.slots) (k : ∀ (v : Option Value) (M1 : mv_M), post v M1 → mv_G X Q (kk V) nL (pc + 3) lv (v.toList ++ rest) M1 (cells + mc) (slots + ms)) : mv_G X Q (kk V) nL pc lv st M cells slots := mv_cV B hM (giV w_590 w_587 w_589 wS_55 w_6) rfl hrc hrs (by decide +kernel) ⟨hR.1, by have := hR.2; omega⟩ rfl hb hn hstk hcat hdg hf k
theorem w_595 : (Jvm.Cond.methodLink "FamilyRulesModel" (101 : Nat) ({ cls := "FamilyRulesModel", name := "isClosed", desc := "(I)Z" } : Jvm.MethodName)) ∈ mw := mw_t 595 (by decide +kernel) (by decide +kernel)
theorem w_597 : (Jvm.Cond.instanceMethod ({ cls := "FamilyRulesModel", name := "isClosed", desc := "(I)Z" } : Jvm.MethodName)) ∈ mw := mw_t 597 (by decide +kernel) (by decide +kernel)
theorem wS_56 : (Jvm.Cond.selects "FamilyRulesModel" ({ cls := "FamilyRulesModel", name := "isClosed", desc := "(I)Z" } : Jvm.MethodName) ({ cls := "FamilyRulesModel", name := "isClosed", desc := "(I)Z" } : Jvm.MethodName)) ∈ mw := mw_s 56 (by decide +kernel) (by decide +kernel)
theorem ca_Mod_101 (B : mv_B X (kk V) cc (v0 :: mw) "FamilyRulesModel" nL ret rm nm) (hM : Met X.2.1 y_Mod_isClosed ws_Mod_isClosed rm' (mv_Pre (kk V) (.ref b :: As) M) (mv_Q (kk V) post) mc ms V.2.2.2.2) (hrc : rm'.cells = mc) (hrs : rm'.slots = ms) (hR : rm'.frames + 1 ≤ rm.frames ∧ 23 + rm'.locals ≤ rm.locals) (hb : M b = some (.inr (7, fs))) (hn : As.length = 1) (hstk : st = As.reverse ++ .ref b :: rest) (hcat : (rest.map fun v => v.category).sum ≤ 8) (hdg : decode cc pc = .ok (.invokevirtual 101, 3)) (hf : cells + mc ≤ rm.cells ∧ slots + ms ≤ rm.slots) (k : ∀ (v : Option Value) (M1 : mv_M), post v M1 → mv_G X Q (kk V) nL (pc + 3) lv (v.toList ++ rest) M1 (cells + mc) (slots + ms)) : mv_G X Q (kk V) nL pc lv st M cells slots := mv_cV B hM (giV w_598 w_595 w_597 wS_56 w_6) rfl hrc hrs (by decide +kernel) ⟨hR.1, by have := hR.2; omega⟩ rfl hb hn hstk hcat hdg hf k
theorem w_607 : (Jvm.Cond.methodLink "FamilyRulesModel" (104 : Nat) ({ cls := "FamilyRulesModel", name := "alls", desc := "(I)I" } : Jvm.MethodName)) ∈ mw := mw_t 607 (by decide +kernel) (by decide +kernel)
theorem w_609 : (Jvm.Cond.instanceMethod ({ cls := "FamilyRulesModel", name := "alls", desc := "(I)I" } : Jvm.MethodName)) ∈ mw := mw_t 609 (by decide +kernel) (by decide +kernel)
theorem wS_59 : (Jvm.Cond.selects "FamilyRulesModel" ({ cls := "FamilyRulesModel", name := "alls", desc := "(I)I" } : Jvm.MethodName) ({ cls := "FamilyRulesModel", name := "alls", desc := "(I)I" } : Jvm.MethodName)) ∈ mw := mw_s 59 (by decide +kernel) (by decide +kernel)
theorem ca_Mod_104 (B : mv_B X (kk V) cc (v0 :: mw) "FamilyRulesModel" nL ret rm nm) (hM : Met X.2.1 y_Mod_alls ws_Mod_alls rm' (mv_Pre (kk V) (.ref b :: As) M) (mv_Q (kk V) post) mc ms V.2.2.2.2) (hrc : rm'.cells = mc) (hrs : rm'.slots = ms) (hR : rm'.frames + 1 ≤ rm.frames ∧ 23 + rm'.locals ≤ rm.locals) (hb : M b = some (.inr (7, fs))) (hn : As.length = 1) (hstk : st = As.reverse ++ .ref b :: rest) (hcat : (rest.map fun v => v.category).sum ≤ 8) (hdg : decode cc pc = .ok (.invokevirtual 104, 3)) (hf : cells + mc ≤ rm.cells ∧ slots + ms ≤ rm.slots) (k : ∀ (v : Option Value) (M1 : mv_M), post v M1 → mv_G X Q (kk V) nL (pc + 3) lv (v.toList ++ rest) M1 (cells + mc) (slots + ms)) : mv_G X Q (kk V) nL pc lv st M cells slots := mv_cV B hM (giV w_610 w_607 w_609 wS_59 w_6) rfl hrc hrs (by decide +kernel) ⟨hR.1, by have := hR.2; omega⟩ rfl hb hn hstk hcat hdg hf k
theorem w_611 : (Jvm.Cond.methodLink "FamilyRulesModel" (107 : Nat) ({ cls := "FamilyRulesModel", name := "under", desc := "(II)I" } : Jvm.MethodName)) ∈ mw := mw_t 611 (by decide +kernel) (by decide +kernel)
theorem w_613 : (Jvm.Cond.instanceMethod ({ cls := "FamilyRulesModel", name := "under", desc := "(II)I" } : Jvm.MethodName)) ∈ mw := mw_t 613 (by decide +kernel) (by decide +kernel)
theorem wS_60 : (Jvm.Cond.selects "FamilyRulesModel" ({ cls := "FamilyRulesModel", name := "under", desc := "(II)I" } : Jvm.MethodName) ({ cls := "FamilyRulesModel", name := "under", desc := "(II)I" } : Jvm.MethodName)) ∈ mw := mw_s 60 (by decide +kernel) (by decide +kernel)
theorem ca_Mod_107 (B : mv_B X (kk V) cc (v0 :: mw) "FamilyRulesModel" nL ret rm nm) (hM : Met X.2.1 y_Mod_under ws_Mod_under rm' (mv_Pre (kk V) (.ref b :: As) M) (mv_Q (kk V) post) mc ms V.2.2.2.2) (hrc : rm'.cells = mc) (hrs : rm'.slots = ms) (hR : rm'.frames + 1 ≤ rm.frames ∧ 24 + rm'.locals ≤ rm.locals) (hb : M b = some (.inr (7, fs))) (hn : As.length = 2) (hstk : st = As.reverse ++ .ref b :: rest) (hcat : (rest.map fun v => v.category).sum ≤ 8) (hdg : decode cc pc = .ok (.invokevirtual 107, 3)) (hf : cells + mc ≤ rm.cells ∧ slots + ms ≤ rm.slots) (k : ∀ (v : Option Value) (M1 : mv_M), post v M1 → mv_G X Q (kk V) nL (pc + 3) lv (v.toList ++ rest) M1 (cells + mc) (slots + ms)) : mv_G X Q (kk V) nL pc lv st M cells slots := mv_cV B hM (giV w_614 w_611 w_613 wS_60 w_6) rfl hrc hrs (by decide +kernel) ⟨hR.1, by have := hR.2; omega⟩ rfl hb hn hstk hcat hdg hf k
theorem w_623 : (Jvm.Cond.methodLink "FamilyRulesModel" (111 : Nat) ({ cls := "FamilyRulesModel", name := "has", desc := "(II)Z" } : Jvm.MethodName)) ∈ mw := mw_t 623 (by decide +kernel) (by decide +kernel)
theorem w_625 : (Jvm.Cond.instanceMethod ({ cls := "FamilyRulesModel", name := "has", desc := "(II)Z" } : Jvm.MethodName)) ∈ mw := mw_t 625 (by decide +kernel) (by decide +kernel)
theorem wS_62 : (Jvm.Cond.selects "FamilyRulesModel" ({ cls := "FamilyRulesModel", name := "has", desc := "(II)Z" } : Jvm.MethodName) ({ cls := "FamilyRulesModel", name := "has", desc := "(II)Z" } : Jvm.MethodName)) ∈ mw := mw_s 62 (by decide +kernel) (by decide +kernel)
theorem ca_Mod_111 (B : mv_B X (kk V) cc (v0 :: mw) "FamilyRulesModel" nL ret rm nm) (hM : Met X.2.1 y_Mod_has ws_Mod_has rm' (mv_Pre (kk V) (.ref b :: As) M) (mv_Q (kk V) post) mc ms V.2.2.2.2) (hrc : rm'.cells = mc) (hrs : rm'.slots = ms) (hR : rm'.frames + 1 ≤ rm.frames ∧ 24 + rm'.locals ≤ rm.locals) (hb : M b = some (.inr (7, fs))) (hn : As.length = 2) (hstk : st = As.reverse ++ .ref b :: rest) (hcat : (rest.map fun v => v.category).sum ≤ 8) (hdg : decode cc pc = .ok (.invokevirtual 111, 3)) (hf : cells + mc ≤ rm.cells ∧ slots + ms ≤ rm.slots) (k : ∀ (v : Option Value) (M1 : mv_M), post v M1 → mv_G X Q (kk V) nL (pc + 3) lv (v.toList ++ rest) M1 (cells + mc) (slots + ms)) : mv_G X Q (kk V) nL pc lv st M cells slots := mv_cV B hM (giV w_626 w_623 w_625 wS_62 w_6) rfl hrc hrs (by decide +kernel) ⟨hR.1, by have := hR.2; omega⟩ rfl hb hn hstk hcat hdg hf k
theorem w_627 : (Jvm.Cond.methodLink "FamilyRulesModel" (115 : Nat) ({ cls := "FamilyRulesModel", name := "isPut", desc := "(III)Z" } : Jvm.MethodName)) ∈ mw := mw_t 627 (by decide +kernel) (by decide +kernel)
theorem w_629 : (Jvm.Cond.instanceMethod ({ cls := "FamilyRulesModel", name := "isPut", desc := "(III)Z" } : Jvm.MethodName)) ∈ mw := mw_t 629 (by decide +kernel) (by decide +kernel)
theorem wS_63 : (Jvm.Cond.selects "FamilyRulesModel" ({ cls := "FamilyRulesModel", name := "isPut", desc := "(III)Z" } : Jvm.MethodName) ({ cls := "FamilyRulesModel", name := "isPut", desc := "(III)Z" } : Jvm.MethodName)) ∈ mw := mw_s 63 (by decide +kernel) (by decide +kernel)
theorem ca_Mod_115 (B : mv_B X (kk V) cc (v0 :: mw) "FamilyRulesModel" nL ret rm nm) (hM : Met X.2.1 y_Mod_isPut ws_Mod_isPut rm' (mv_Pre (kk V) (.ref b :: As) M) (mv_Q (kk V) post) mc ms V.2.2.2.2) (hrc : rm'.cells = mc) (hrs : rm'.slots = ms) (hR : rm'.frames + 1 ≤ rm.frames ∧ 26 + rm'.locals ≤ rm.locals) (hb : M b = some (.inr (7, fs))) (hn : As.length = 3) (hstk : st = As.reverse ++ .ref b :: rest) (hcat : (rest.map fun v => v.category).sum ≤ 8) (hdg : decode cc pc = .ok (.invokevirtual 115, 3)) (hf : cells + mc ≤ rm.cells ∧ slots + ms ≤ rm.slots) (k : ∀ (v : Option Value) (M1 : mv_M), post v M1 → mv_G X Q (kk V) nL (pc + 3) lv (v.toList ++ rest) M1 (cells + mc) (slots + ms)) : mv_G X Q (kk V) nL pc lv st M cells slots := mv_cV B hM (giV w_630 w_627 w_629 wS_63 w_6) rfl hrc hrs (by decide +kernel) ⟨hR.1, by have := hR.2; omega⟩ rfl hb hn hstk hcat hdg hf k
theorem w_631 : (Jvm.Cond.methodLink "FamilyRulesModel" (119 : Nat) ({ cls := "FamilyRulesModel", name := "index", desc := "(III)I" } : Jvm.MethodName)) ∈ mw := mw_t 631 (by decide +kernel) (by decide +kernel)
theorem w_633 : (Jvm.Cond.instanceMethod ({ cls := "FamilyRulesModel", name := "index", desc := "(III)I" } : Jvm.MethodName)) ∈ mw := mw_t 633 (by decide +kernel) (by decide +kernel)
theorem wS_64 : (Jvm.Cond.selects "FamilyRulesModel" ({ cls := "FamilyRulesModel", name := "index", desc := "(III)I" } : Jvm.MethodName) ({ cls := "FamilyRulesModel", name := "index", desc := "(III)I" } : Jvm.MethodName)) ∈ mw := mw_s 64 (by decide +kernel) (by decide +kernel)
theorem ca_Mod_119 (B : mv_B X (kk V) cc (v0 :: mw) "FamilyRulesModel" nL ret rm nm) (hM : Met X.2.1 y_Mod_index ws_Mod_index rm' (mv_Pre (kk V) (.ref b :: As) M) (mv_Q (kk V) post) mc ms V.2.2.2.2) (hrc : rm'.cells = mc) (hrs : rm'.slots = ms) (hR : rm'.frames + 1 ≤ rm.frames ∧ 25 + rm'.locals ≤ rm.locals) (hb : M b = some (.inr (7, fs))) (hn : As.length = 3) (hstk : st = As.reverse ++ .ref b :: rest) (hcat : (rest.map fun v => v.category).sum ≤ 8) (hdg : decode cc pc = .ok (.invokevirtual 119, 3)) (hf : cells + mc ≤ rm.cells ∧ slots + ms ≤ rm.slots) (k : ∀ (v : Option Value) (M1 : mv_M), post v M1 → mv_G X Q (kk V) nL (pc + 3) lv (v.toList ++ rest) M1 (cells + mc) (slots + ms)) : mv_G X Q (kk V) nL pc lv st M cells slots := mv_cV B hM (giV w_634 w_631 w_633 wS_64 w_6) rfl hrc hrs (by decide +kernel) ⟨hR.1, by have := hR.2; omega⟩ rfl hb hn hstk hcat hdg hf k
theorem w_619 : (Jvm.Cond.methodLink "FamilyRulesModel" (122 : Nat) ({ cls := "FamilyRulesModel", name := "judge", desc := "(III)I" } : Jvm.MethodName)) ∈ mw := mw_t 619 (by decide +kernel) (by decide +kernel)
theorem w_621 : (Jvm.Cond.instanceMethod ({ cls := "FamilyRulesModel", name := "judge", desc := "(III)I" } : Jvm.MethodName)) ∈ mw := mw_t 621 (by decide +kernel) (by decide +kernel)
theorem wS_61 : (Jvm.Cond.selects "FamilyRulesModel" ({ cls := "FamilyRulesModel", name := "judge", desc := "(III)I" } : Jvm.MethodName) ({ cls := "FamilyRulesModel", name := "judge", desc := "(III)I" } : Jvm.MethodName)) ∈ mw := mw_s 61 (by decide +kernel) (by decide +kernel)
theorem ca_Mod_122 (B : mv_B X (kk V) cc (v0 :: mw) "FamilyRulesModel" nL ret rm nm) (hM : Met X.2.1 y_Mod_judge ws_Mod_judge rm' (mv_Pre (kk V) (.ref b :: As) M) (mv_Q (kk V) post) mc ms V.2.2.2.2) (hrc : rm'.cells = mc) (hrs : rm'.slots = ms) (hR : rm'.frames + 1 ≤ rm.frames ∧ 27 + rm'.locals ≤ rm.locals) (hb : M b = some (.inr (7, fs))) (hn : As.length = 3) (hstk : st = As.reverse ++ .ref b :: rest) (hcat : (rest.map fun v => v.category).sum ≤ 8) (hdg : decode cc pc = .ok (.invokevirtual 122, 3)) (hf : cells + mc ≤ rm.cells ∧ slots + ms ≤ rm.slots) (k : ∀ (v : Option Value) (M1 : mv_M), post v M1 → mv_G X Q (kk V) nL (pc + 3) lv (v.toList ++ rest) M1 (cells + mc) (slots + ms)) : mv_G X Q (kk V) nL pc lv st M cells slots := mv_cV B hM (giV w_622 w_619 w_621 wS_61 w_6) rfl hrc hrs (by decide +kernel) ⟨hR.1, by have := hR.2; omega⟩ rfl hb hn hstk hcat hdg hf k
theorem w_671 : (Jvm.Cond.methodLink "FamilyRulesModel" (126 : Nat) ({ cls := "FamilyRulesModel", name := "made", desc := "(I)V" } : Jvm.MethodName)) ∈ mw := mw_t 671 (by decide +kernel) (by decide +kernel)
theorem w_673 : (Jvm.Cond.instanceMethod ({ cls := "FamilyRulesModel", name := "made", desc := "(I)V" } : Jvm.MethodName)) ∈ mw := mw_t 673 (by decide +kernel) (by decide +kernel)
theorem wS_71 : (Jvm.Cond.selects "FamilyRulesModel" ({ cls := "FamilyRulesModel", name := "made", desc := "(I)V" } : Jvm.MethodName) ({ cls := "FamilyRulesModel", name := "made", desc := "(I)V" } : Jvm.MethodName)) ∈ mw := mw_s 71 (by decide +kernel) (by decide +kernel)
theorem ca_Mod_126 (B : mv_B X (kk V) cc (v0 :: mw) "FamilyRulesModel" nL ret rm nm) (hM : Met X.2.1 y_Mod_made ws_Mod_made rm' (mv_Pre (kk V) (.ref b :: As) M) (mv_Q (kk V) post) mc ms V.2.2.2.2) (hrc : rm'.cells = mc) (hrs : rm'.slots = ms) (hR : rm'.frames + 1 ≤ rm.frames ∧ 21 + rm'.locals ≤ rm.locals) (hb : M b = some (.inr (7, fs))) (hn : As.length = 1) (hstk : st = As.reverse ++ .ref b :: rest) (hcat : (rest.map fun v => v.category).sum ≤ 8) (hdg : decode cc pc = .ok (.invokevirtual 126, 3)) (hf : cells + mc ≤ rm.cells ∧ slots + ms ≤ rm.slots) (k : ∀ (v : Option Value) (M1 : mv_M), post v M1 → mv_G X Q (kk V) nL (pc + 3) lv (v.toList ++ rest) M1 (cells + mc) (slots + ms)) : mv_G X Q (kk V) nL pc lv st M cells slots := mv_cV B hM (giV w_674 w_671 w_673 wS_71 w_6) rfl hrc hrs (by decide +kernel) ⟨hR.1, by have := hR.2; omega⟩ rfl hb hn hstk hcat hdg hf k
theorem w_667 : (Jvm.Cond.methodLink "FamilyRulesModel" (129 : Nat) ({ cls := "FamilyRulesModel", name := "piece", desc := "(II)V" } : Jvm.MethodName)) ∈ mw := mw_t 667 (by decide +kernel) (by decide +kernel)
theorem w_669 : (Jvm.Cond.instanceMethod ({ cls := "FamilyRulesModel", name := "piece", desc := "(II)V" } : Jvm.MethodName)) ∈ mw := mw_t 669 (by decide +kernel) (by decide +kernel)
theorem wS_70 : (Jvm.Cond.selects "FamilyRulesModel" ({ cls := "FamilyRulesModel", name := "piece", desc := "(II)V" } : Jvm.MethodName) ({ cls := "FamilyRulesModel", name := "piece", desc := "(II)V" } : Jvm.MethodName)) ∈ mw := mw_s 70 (by decide +kernel) (by decide +kernel)
theorem ca_Mod_129 (B : mv_B X (kk V) cc (v0 :: mw) "FamilyRulesModel" nL ret rm nm) (hM : Met X.2.1 y_Mod_piece ws_Mod_piece rm' (mv_Pre (kk V) (.ref b :: As) M) (mv_Q (kk V) post) mc ms V.2.2.2.2) (hrc : rm'.cells = mc) (hrs : rm'.slots = ms) (hR : rm'.frames + 1 ≤ rm.frames ∧ 25 + rm'.locals ≤ rm.locals) (hb : M b = some (.inr (7, fs))) (hn : As.length = 2) (hstk : st = As.reverse ++ .ref b :: rest) (hcat : (rest.map fun v => v.category).sum ≤ 8) (hdg : decode cc pc = .ok (.invokevirtual 129, 3)) (hf : cells + mc ≤ rm.cells ∧ slots + ms ≤ rm.slots) (k : ∀ (v : Option Value) (M1 : mv_M), post v M1 → mv_G X Q (kk V) nL (pc + 3) lv (v.toList ++ rest) M1 (cells + mc) (slots + ms)) : mv_G X Q (kk V) nL pc lv st M cells slots := mv_cV B hM (giV w_670 w_667 w_669 wS_70 w_6) rfl hrc hrs (by decide +kernel) ⟨hR.1, by have := hR.2; omega⟩ rfl hb hn hstk hcat hdg hf k
theorem w_655 : (Jvm.Cond.methodLink "FamilyRulesModel" (133 : Nat) ({ cls := "FamilyRulesModel", name := "level", desc := "(II)V" } : Jvm.MethodName)) ∈ mw := mw_t 655 (by decide +kernel) (by decide +kernel)
theorem w_657 : (Jvm.Cond.instanceMethod ({ cls := "FamilyRulesModel", name := "level", desc := "(II)V" } : Jvm.MethodName)) ∈ mw := mw_t 657 (by decide +kernel) (by decide +kernel)
theorem wS_67 : (Jvm.Cond.selects "FamilyRulesModel" ({ cls := "FamilyRulesModel", name := "level", desc := "(II)V" } : Jvm.MethodName) ({ cls := "FamilyRulesModel", name := "level", desc := "(II)V" } : Jvm.MethodName)) ∈ mw := mw_s 67 (by decide +kernel) (by decide +kernel)
theorem ca_Mod_133 (B : mv_B X (kk V) cc (v0 :: mw) "FamilyRulesModel" nL ret rm nm) (hM : Met X.2.1 y_Mod_level ws_Mod_level rm' (mv_Pre (kk V) (.ref b :: As) M) (mv_Q (kk V) post) mc ms V.2.2.2.2) (hrc : rm'.cells = mc) (hrs : rm'.slots = ms) (hR : rm'.frames + 1 ≤ rm.frames ∧ 22 + rm'.locals ≤ rm.locals) (hb : M b = some (.inr (7, fs))) (hn : As.length = 2) (hstk : st = As.reverse ++ .ref b :: rest) (hcat : (rest.map fun v => v.category).sum ≤ 8) (hdg : decode cc pc = .ok (.invokevirtual 133, 3)) (hf : cells + mc ≤ rm.cells ∧ slots + ms ≤ rm.slots) (k : ∀ (v : Option Value) (M1 : mv_M), post v M1 → mv_G X Q (kk V) nL (pc + 3) lv (v.toList ++ rest) M1 (cells + mc) (slots + ms)) : mv_G X Q (kk V) nL pc lv st M cells slots := mv_cV B hM (giV w_658 w_655 w_657 wS_67 w_6) rfl hrc hrs (by decide +kernel) ⟨hR.1, by have := hR.2; omega⟩ rfl hb hn hstk hcat hdg hf k
theorem w_651 : (Jvm.Cond.methodLink "FamilyRulesModel" (137 : Nat) ({ cls := "FamilyRulesModel", name := "argument", desc := "(II)I" } : Jvm.MethodName)) ∈ mw := mw_t 651 (by decide +kernel) (by decide +kernel)
theorem w_653 : (Jvm.Cond.instanceMethod ({ cls := "FamilyRulesModel", name := "argument", desc := "(II)I" } : Jvm.MethodName)) ∈ mw := mw_t 653 (by decide +kernel) (by decide +kernel)
theorem wS_66 : (Jvm.Cond.selects "FamilyRulesModel" ({ cls := "FamilyRulesModel", name := "argument", desc := "(II)I" } : Jvm.MethodName) ({ cls := "FamilyRulesModel", name := "argument", desc := "(II)I" } : Jvm.MethodName)) ∈ mw := mw_s 66 (by decide +kernel) (by decide +kernel)
theorem ca_Mod_137 (B : mv_B X (kk V) cc (v0 :: mw) "FamilyRulesModel" nL ret rm nm) (hM : Met X.2.1 y_Mod_argument ws_Mod_argument rm' (mv_Pre (kk V) (.ref b :: As) M) (mv_Q (kk V) post) mc ms V.2.2.2.2) (hrc : rm'.cells = mc) (hrs : rm'.slots = ms) (hR : rm'.frames + 1 ≤ rm.frames ∧ 22 + rm'.locals ≤ rm.locals) (hb : M b = some (.inr (7, fs))) (hn : As.length = 2) (hstk : st = As.reverse ++ .ref b :: rest) (hcat : (rest.map fun v => v.category).sum ≤ 8) (hdg : decode cc pc = .ok (.invokevirtual 137, 3)) (hf : cells + mc ≤ rm.cells ∧ slots + ms ≤ rm.slots) (k : ∀ (v : Option Value) (M1 : mv_M), post v M1 → mv_G X Q (kk V) nL (pc + 3) lv (v.toList ++ rest) M1 (cells + mc) (slots + ms)) : mv_G X Q (kk V) nL pc lv st M cells slots := mv_cV B hM (giV w_654 w_651 w_653 wS_66 w_6) rfl hrc hrs (by decide +kernel) ⟨hR.1, by have := hR.2; omega⟩ rfl hb hn hstk hcat hdg hf k
theorem w_647 : (Jvm.Cond.methodLink "FamilyRulesModel" (140 : Nat) ({ cls := "FamilyRulesModel", name := "isRecursive", desc := "(II)Z" } : Jvm.MethodName)) ∈ mw := mw_t 647 (by decide +kernel) (by decide +kernel)
theorem w_649 : (Jvm.Cond.instanceMethod ({ cls := "FamilyRulesModel", name := "isRecursive", desc := "(II)Z" } : Jvm.MethodName)) ∈ mw := mw_t 649 (by decide +kernel) (by decide +kernel)
theorem wS_65 : (Jvm.Cond.selects "FamilyRulesModel" ({ cls := "FamilyRulesModel", name := "isRecursive", desc := "(II)Z" } : Jvm.MethodName) ({ cls := "FamilyRulesModel", name := "isRecursive", desc := "(II)Z" } : Jvm.MethodName)) ∈ mw := mw_s 65 (by decide +kernel) (by decide +kernel)
theorem ca_Mod_140 (B : mv_B X (kk V) cc (v0 :: mw) "FamilyRulesModel" nL ret rm nm) (hM : Met X.2.1 y_Mod_isRecursive ws_Mod_isRecursive rm' (mv_Pre (kk V) (.ref b :: As) M) (mv_Q (kk V) post) mc ms V.2.2.2.2) (hrc : rm'.cells = mc) (hrs : rm'.slots = ms) (hR : rm'.frames + 1 ≤ rm.frames ∧ 22 + rm'.locals ≤ rm.locals) (hb : M b = some (.inr (7, fs))) (hn : As.length = 2) (hstk : st = As.reverse ++ .ref b :: rest) (hcat : (rest.map fun v => v.category).sum ≤ 8) (hdg : decode cc pc = .ok (.invokevirtual 140, 3)) (hf : cells + mc ≤ rm.cells ∧ slots + ms ≤ rm.slots) (k : ∀ (v : Option Value) (M1 : mv_M), post v M1 → mv_G X Q (kk V) nL (pc + 3) lv (v.toList ++ rest) M1 (cells + mc) (slots + ms)) : mv_G X Q (kk V) nL pc lv st M cells slots := mv_cV B hM (giV w_650 w_647 w_649 wS_65 w_6) rfl hrc hrs (by decide +kernel) ⟨hR.1, by have := hR.2; omega⟩ rfl hb hn hstk hcat hdg hf k
theorem w_659 : (Jvm.Cond.methodLink "FamilyRulesModel" (143 : Nat) ({ cls := "FamilyRulesModel", name := "brought", desc := "(IIIIII)V" } : Jvm.MethodName)) ∈ mw := mw_t 659 (by decide +kernel) (by decide +kernel)
theorem w_661 : (Jvm.Cond.instanceMethod ({ cls := "FamilyRulesModel", name := "brought", desc := "(IIIIII)V" } : Jvm.MethodName)) ∈ mw := mw_t 661 (by decide +kernel) (by decide +kernel)
theorem wS_68 : (Jvm.Cond.selects "FamilyRulesModel" ({ cls := "FamilyRulesModel", name := "brought", desc := "(IIIIII)V" } : Jvm.MethodName) ({ cls := "FamilyRulesModel", name := "brought", desc := "(IIIIII)V" } : Jvm.MethodName)) ∈ mw := mw_s 68 (by decide +kernel) (by decide +kernel)
theorem ca_Mod_143 (B : mv_B X (kk V) cc (v0 :: mw) "FamilyRulesModel" nL ret rm nm) (hM : Met X.2.1 y_Mod_brought ws_Mod_brought rm' (mv_Pre (kk V) (.ref b :: As) M) (mv_Q (kk V) post) mc ms V.2.2.2.2) (hrc : rm'.cells = mc) (hrs : rm'.slots = ms) (hR : rm'.frames + 1 ≤ rm.frames ∧ 31 + rm'.locals ≤ rm.locals) (hb : M b = some (.inr (7, fs))) (hn : As.length = 6) (hstk : st = As.reverse ++ .ref b :: rest) (hcat : (rest.map fun v => v.category).sum ≤ 8) (hdg : decode cc pc = .ok (.invokevirtual 143, 3)) (hf : cells + mc ≤ rm.cells ∧ slots + ms ≤ rm.slots) (k : ∀ (v : Option Value) (M1 : mv_M), post v M1 → mv_G X Q (kk V) nL (pc + 3) lv (v.toList ++ rest) M1 (cells + mc) (slots + ms)) : mv_G X Q (kk V) nL pc lv st M cells slots := mv_cV B hM (giV w_662 w_659 w_661 wS_68 w_6) rfl hrc hrs (by decide +kernel) ⟨hR.1, by have := hR.2; omega⟩ rfl hb hn hstk hcat hdg hf k
theorem w_680 : (Jvm.Cond.methodLink "FamilyRulesModel" (147 : Nat) ({ cls := "FamilyRulesModel", name := "settle", desc := "(I)V" } : Jvm.MethodName)) ∈ mw := mw_t 680 (by decide +kernel) (by decide +kernel)
theorem w_682 : (Jvm.Cond.instanceMethod ({ cls := "FamilyRulesModel", name := "settle", desc := "(I)V" } : Jvm.MethodName)) ∈ mw := mw_t 682 (by decide +kernel) (by decide +kernel)
theorem wS_73 : (Jvm.Cond.selects "FamilyRulesModel" ({ cls := "FamilyRulesModel", name := "settle", desc := "(I)V" } : Jvm.MethodName) ({ cls := "FamilyRulesModel", name := "settle", desc := "(I)V" } : Jvm.MethodName)) ∈ mw := mw_s 73 (by decide +kernel) (by decide +kernel)
theorem ca_Mod_147 (B : mv_B X (kk V) cc (v0 :: mw) "FamilyRulesModel" nL ret rm nm) (hM : Met X.2.1 y_Mod_settle ws_Mod_settle rm' (mv_Pre (kk V) (.ref b :: As) M) (mv_Q (kk V) post) mc ms V.2.2.2.2) (hrc : rm'.cells = mc) (hrs : rm'.slots = ms) (hR : rm'.frames + 1 ≤ rm.frames ∧ 22 + rm'.locals ≤ rm.locals) (hb : M b = some (.inr (7, fs))) (hn : As.length = 1) (hstk : st = As.reverse ++ .ref b :: rest) (hcat : (rest.map fun v => v.category).sum ≤ 8) (hdg : decode cc pc = .ok (.invokevirtual 147, 3)) (hf : cells + mc ≤ rm.cells ∧ slots + ms ≤ rm.slots) (k : ∀ (v : Option Value) (M1 : mv_M), post v M1 → mv_G X Q (kk V) nL (pc + 3) lv (v.toList ++ rest) M1 (cells + mc) (slots + ms)) : mv_G X Q (kk V) nL pc lv st M cells slots := mv_cV B hM (giV w_683 w_680 w_682 wS_73 w_6) rfl hrc hrs (by decide +kernel) ⟨hR.1, by have := hR.2; omega⟩ rfl hb hn hstk hcat hdg hf k
theorem w_663 : (Jvm.Cond.methodLink "FamilyRulesModel" (150 : Nat) ({ cls := "FamilyRulesModel", name := "binderOf", desc := "(IIII)I" } : Jvm.MethodName)) ∈ mw := mw_t 663 (by decide +kernel) (by decide +kernel)
theorem w_665 : (Jvm.Cond.instanceMethod ({ cls := "FamilyRulesModel", name := "binderOf", desc := "(IIII)I" } : Jvm.MethodName)) ∈ mw := mw_t 665 (by decide +kernel) (by decide +kernel)
theorem wS_69 : (Jvm.Cond.selects "FamilyRulesModel" ({ cls := "FamilyRulesModel", name := "binderOf", desc := "(IIII)I" } : Jvm.MethodName) ({ cls := "FamilyRulesModel", name := "binderOf", desc := "(IIII)I" } : Jvm.MethodName)) ∈ mw := mw_s 69 (by decide +kernel) (by decide +kernel)
theorem ca_Mod_150 (B : mv_B X (kk V) cc (v0 :: mw) "FamilyRulesModel" nL ret rm nm) (hM : Met X.2.1 y_Mod_binderOf ws_Mod_binderOf rm' (mv_Pre (kk V) (.ref b :: As) M) (mv_Q (kk V) post) mc ms V.2.2.2.2) (hrc : rm'.cells = mc) (hrs : rm'.slots = ms) (hR : rm'.frames + 1 ≤ rm.frames ∧ 24 + rm'.locals ≤ rm.locals) (hb : M b = some (.inr (7, fs))) (hn : As.length = 4) (hstk : st = As.reverse ++ .ref b :: rest) (hcat : (rest.map fun v => v.category).sum ≤ 8) (hdg : decode cc pc = .ok (.invokevirtual 150, 3)) (hf : cells + mc ≤ rm.cells ∧ slots + ms ≤ rm.slots) (k : ∀ (v : Option Value) (M1 : mv_M), post v M1 → mv_G X Q (kk V) nL (pc + 3) lv (v.toList ++ rest) M1 (cells + mc) (slots + ms)) : mv_G X Q (kk V) nL pc lv st M cells slots := mv_cV B hM (giV w_666 w_663 w_665 wS_69 w_6) rfl hrc hrs (by decide +kernel) ⟨hR.1, by have := hR.2; omega⟩ rfl hb hn hstk hcat hdg hf k
theorem w_676 : (Jvm.Cond.methodLink "FamilyRulesModel" (153 : Nat) ({ cls := "FamilyRulesModel", name := "applications", desc := "(I)V" } : Jvm.MethodName)) ∈ mw := mw_t 676 (by decide +kernel) (by decide +kernel)
theorem w_678 : (Jvm.Cond.instanceMethod ({ cls := "FamilyRulesModel", name := "applications", desc := "(I)V" } : Jvm.MethodName)) ∈ mw := mw_t 678 (by decide +kernel) (by decide +kernel)
theorem wS_72 : (Jvm.Cond.selects "FamilyRulesModel" ({ cls := "FamilyRulesModel", name := "applications", desc := "(I)V" } : Jvm.MethodName) ({ cls := "FamilyRulesModel", name := "applications", desc := "(I)V" } : Jvm.MethodName)) ∈ mw := mw_s 72 (by decide +kernel) (by decide +kernel)
theorem ca_Mod_153 (B : mv_B X (kk V) cc (v0 :: mw) "FamilyRulesModel" nL ret rm nm) (hM : Met X.2.1 y_Mod_applications ws_Mod_applications rm' (mv_Pre (kk V) (.ref b :: As) M) (mv_Q (kk V) post) mc ms V.2.2.2.2) (hrc : rm'.cells = mc) (hrs : rm'.slots = ms) (hR : rm'.frames + 1 ≤ rm.frames ∧ 22 + rm'.locals ≤ rm.locals) (hb : M b = some (.inr (7, fs))) (hn : As.length = 1) (hstk : st = As.reverse ++ .ref b :: rest) (hcat : (rest.map fun v => v.category).sum ≤ 8) (hdg : decode cc pc = .ok (.invokevirtual 153, 3)) (hf : cells + mc ≤ rm.cells ∧ slots + ms ≤ rm.slots) (k : ∀ (v : Option Value) (M1 : mv_M), post v M1 → mv_G X Q (kk V) nL (pc + 3) lv (v.toList ++ rest) M1 (cells + mc) (slots + ms)) : mv_G X Q (kk V) nL pc lv st M cells slots := mv_cV B hM (giV w_679 w_676 w_678 wS_72 w_6) rfl hrc hrs (by decide +kernel) ⟨hR.1, by have := hR.2; omega⟩ rfl hb hn hstk hcat hdg hf k
theorem w_697 : (Jvm.Cond.methodLink "FamilyRulesModel" (156 : Nat) ({ cls := "FamilyRulesModel", name := "put", desc := "(II)V" } : Jvm.MethodName)) ∈ mw := mw_t 697 (by decide +kernel) (by decide +kernel)
theorem w_699 : (Jvm.Cond.instanceMethod ({ cls := "FamilyRulesModel", name := "put", desc := "(II)V" } : Jvm.MethodName)) ∈ mw := mw_t 699 (by decide +kernel) (by decide +kernel)
theorem wS_76 : (Jvm.Cond.selects "FamilyRulesModel" ({ cls := "FamilyRulesModel", name := "put", desc := "(II)V" } : Jvm.MethodName) ({ cls := "FamilyRulesModel", name := "put", desc := "(II)V" } : Jvm.MethodName)) ∈ mw := mw_s 76 (by decide +kernel) (by decide +kernel)
theorem ca_Mod_156 (B : mv_B X (kk V) cc (v0 :: mw) "FamilyRulesModel" nL ret rm nm) (hM : Met X.2.1 y_Mod_put ws_Mod_put rm' (mv_Pre (kk V) (.ref b :: As) M) (mv_Q (kk V) post) mc ms V.2.2.2.2) (hrc : rm'.cells = mc) (hrs : rm'.slots = ms) (hR : rm'.frames + 1 ≤ rm.frames ∧ 23 + rm'.locals ≤ rm.locals) (hb : M b = some (.inr (7, fs))) (hn : As.length = 2) (hstk : st = As.reverse ++ .ref b :: rest) (hcat : (rest.map fun v => v.category).sum ≤ 8) (hdg : decode cc pc = .ok (.invokevirtual 156, 3)) (hf : cells + mc ≤ rm.cells ∧ slots + ms ≤ rm.slots) (k : ∀ (v : Option Value) (M1 : mv_M), post v M1 → mv_G X Q (kk V) nL (pc + 3) lv (v.toList ++ rest) M1 (cells + mc) (slots + ms)) : mv_G X Q (kk V) nL pc lv st M cells slots := mv_cV B hM (giV w_700 w_697 w_699 wS_76 w_6) rfl hrc hrs (by decide +kernel) ⟨hR.1, by have := hR.2; omega⟩ rfl hb hn hstk hcat hdg hf k
theorem w_701 : (Jvm.Cond.methodLink "FamilyRulesModel" (159 : Nat) ({ cls := "FamilyRulesModel", name := "part", desc := "(II)V" } : Jvm.MethodName)) ∈ mw := mw_t 701 (by decide +kernel) (by decide +kernel)
theorem w_703 : (Jvm.Cond.instanceMethod ({ cls := "FamilyRulesModel", name := "part", desc := "(II)V" } : Jvm.MethodName)) ∈ mw := mw_t 703 (by decide +kernel) (by decide +kernel)
theorem wS_77 : (Jvm.Cond.selects "FamilyRulesModel" ({ cls := "FamilyRulesModel", name := "part", desc := "(II)V" } : Jvm.MethodName) ({ cls := "FamilyRulesModel", name := "part", desc := "(II)V" } : Jvm.MethodName)) ∈ mw := mw_s 77 (by decide +kernel) (by decide +kernel)
theorem ca_Mod_159 (B : mv_B X (kk V) cc (v0 :: mw) "FamilyRulesModel" nL ret rm nm) (hM : Met X.2.1 y_Mod_part2 ws_Mod_part2 rm' (mv_Pre (kk V) (.ref b :: As) M) (mv_Q (kk V) post) mc ms V.2.2.2.2) (hrc : rm'.cells = mc) (hrs : rm'.slots = ms) (hR : rm'.frames + 1 ≤ rm.frames ∧ 29 + rm'.locals ≤ rm.locals) (hb : M b = some (.inr (7, fs))) (hn : As.length = 2) (hstk : st = As.reverse ++ .ref b :: rest) (hcat : (rest.map fun v => v.category).sum ≤ 8) (hdg : decode cc pc = .ok (.invokevirtual 159, 3)) (hf : cells + mc ≤ rm.cells ∧ slots + ms ≤ rm.slots) (k : ∀ (v : Option Value) (M1 : mv_M), post v M1 → mv_G X Q (kk V) nL (pc + 3) lv (v.toList ++ rest) M1 (cells + mc) (slots + ms)) : mv_G X Q (kk V) nL pc lv st M cells slots := mv_cV B hM (giV w_704 w_701 w_703 wS_77 w_6) rfl hrc hrs (by decide +kernel) ⟨hR.1, by have := hR.2; omega⟩ rfl hb hn hstk hcat hdg hf k
theorem w_689 : (Jvm.Cond.methodLink "FamilyRulesModel" (162 : Nat) ({ cls := "FamilyRulesModel", name := "isWhole", desc := "(I)Z" } : Jvm.MethodName)) ∈ mw := mw_t 689 (by decide +kernel) (by decide +kernel)
theorem w_691 : (Jvm.Cond.instanceMethod ({ cls := "FamilyRulesModel", name := "isWhole", desc := "(I)Z" } : Jvm.MethodName)) ∈ mw := mw_t 691 (by decide +kernel) (by decide +kernel)
theorem wS_74 : (Jvm.Cond.selects "FamilyRulesModel" ({ cls := "FamilyRulesModel", name := "isWhole", desc := "(I)Z" } : Jvm.MethodName) ({ cls := "FamilyRulesModel", name := "isWhole", desc := "(I)Z" } : Jvm.MethodName)) ∈ mw := mw_s 74 (by decide +kernel) (by decide +kernel)
theorem ca_Mod_162 (B : mv_B X (kk V) cc (v0 :: mw) "FamilyRulesModel" nL ret rm nm) (hM : Met X.2.1 y_Mod_isWhole ws_Mod_isWhole rm' (mv_Pre (kk V) (.ref b :: As) M) (mv_Q (kk V) post) mc ms V.2.2.2.2) (hrc : rm'.cells = mc) (hrs : rm'.slots = ms) (hR : rm'.frames + 1 ≤ rm.frames ∧ 23 + rm'.locals ≤ rm.locals) (hb : M b = some (.inr (7, fs))) (hn : As.length = 1) (hstk : st = As.reverse ++ .ref b :: rest) (hcat : (rest.map fun v => v.category).sum ≤ 8) (hdg : decode cc pc = .ok (.invokevirtual 162, 3)) (hf : cells + mc ≤ rm.cells ∧ slots + ms ≤ rm.slots) (k : ∀ (v : Option Value) (M1 : mv_M), post v M1 → mv_G X Q (kk V) nL (pc + 3) lv (v.toList ++ rest) M1 (cells + mc) (slots + ms)) : mv_G X Q (kk V) nL pc lv st M cells slots := mv_cV B hM (giV w_692 w_689 w_691 wS_74 w_6) rfl hrc hrs (by decide +kernel) ⟨hR.1, by have := hR.2; omega⟩ rfl hb hn hstk hcat hdg hf k
theorem w_693 : (Jvm.Cond.methodLink "FamilyRulesModel" (165 : Nat) ({ cls := "FamilyRulesModel", name := "write", desc := "(II)V" } : Jvm.MethodName)) ∈ mw := mw_t 693 (by decide +kernel) (by decide +kernel)
theorem w_695 : (Jvm.Cond.instanceMethod ({ cls := "FamilyRulesModel", name := "write", desc := "(II)V" } : Jvm.MethodName)) ∈ mw := mw_t 695 (by decide +kernel) (by decide +kernel)
theorem wS_75 : (Jvm.Cond.selects "FamilyRulesModel" ({ cls := "FamilyRulesModel", name := "write", desc := "(II)V" } : Jvm.MethodName) ({ cls := "FamilyRulesModel", name := "write", desc := "(II)V" } : Jvm.MethodName)) ∈ mw := mw_s 75 (by decide +kernel) (by decide +kernel)
theorem ca_Mod_165 (B : mv_B X (kk V) cc (v0 :: mw) "FamilyRulesModel" nL ret rm nm) (hM : Met X.2.1 y_Mod_write ws_Mod_write rm' (mv_Pre (kk V) (.ref b :: As) M) (mv_Q (kk V) post) mc ms V.2.2.2.2) (hrc : rm'.cells = mc) (hrs : rm'.slots = ms) (hR : rm'.frames + 1 ≤ rm.frames ∧ 28 + rm'.locals ≤ rm.locals) (hb : M b = some (.inr (7, fs))) (hn : As.length = 2) (hstk : st = As.reverse ++ .ref b :: rest) (hcat : (rest.map fun v => v.category).sum ≤ 8) (hdg : decode cc pc = .ok (.invokevirtual 165, 3)) (hf : cells + mc ≤ rm.cells ∧ slots + ms ≤ rm.slots) (k : ∀ (v : Option Value) (M1 : mv_M), post v M1 → mv_G X Q (kk V) nL (pc + 3) lv (v.toList ++ rest) M1 (cells + mc) (slots + ms)) : mv_G X Q (kk V) nL pc lv st M cells slots := mv_cV B hM (giV w_696 w_693 w_695 wS_75 w_6) rfl hrc hrs (by decide +kernel) ⟨hR.1, by have := hR.2; omega⟩ rfl hb hn hstk hcat hdg hf k
end NM
end
section
/-! decode rows -/
theorem d_Fam_init_0 : decode prog_1_method_1_code 0 = .ok (.aload_n 0, 1) := by decide +kernel
theorem d_Fam_init_1 : decode prog_1_method_1_code 1 = .ok (.invokespecial 1, 3) := by decide +kernel
theorem d_Fam_init_4 : decode prog_1_method_1_code 4 = .ok (.new 7, 3) := by decide +kernel
theorem d_Fam_init_7 : decode prog_1_method_1_code 7 = .ok (.dup, 1) := by decide +kernel
theorem d_Fam_init_8 : decode prog_1_method_1_code 8 = .ok (.invokespecial 9, 3) := by decide +kernel
theorem d_Fam_init_11 : decode prog_1_method_1_code 11 = .ok (.astore_n 1, 1) := by decide +kernel
theorem d_Fam_init_12 : decode prog_1_method_1_code 12 = .ok (.aload_n 0, 1) := by decide +kernel
theorem d_Fam_init_13 : decode prog_1_method_1_code 13 = .ok (.new 10, 3) := by decide +kernel
theorem d_Fam_init_16 : decode prog_1_method_1_code 16 = .ok (.dup, 1) := by decide +kernel
theorem d_Fam_init_17 : decode prog_1_method_1_code 17 = .ok (.invokespecial 12, 3) := by decide +kernel
theorem d_Fam_init_20 : decode prog_1_method_1_code 20 = .ok (.putfield 13, 3) := by decide +kernel
theorem d_Fam_init_23 : decode prog_1_method_1_code 23 = .ok (.aload_n 0, 1) := by decide +kernel
theorem d_Fam_init_24 : decode prog_1_method_1_code 24 = .ok (.new 19, 3) := by decide +kernel
theorem d_Fam_init_27 : decode prog_1_method_1_code 27 = .ok (.dup, 1) := by decide +kernel
theorem d_Fam_init_28 : decode prog_1_method_1_code 28 = .ok (.invokespecial 21, 3) := by decide +kernel
theorem d_Fam_init_31 : decode prog_1_method_1_code 31 = .ok (.putfield 22, 3) := by decide +kernel
theorem d_Fam_init_34 : decode prog_1_method_1_code 34 = .ok (.aload_n 0, 1) := by decide +kernel
theorem d_Fam_init_35 : decode prog_1_method_1_code 35 = .ok (.aload_n 1, 1) := by decide +kernel
theorem d_Fam_init_36 : decode prog_1_method_1_code 36 = .ok (.putfield 26, 3) := by decide +kernel
theorem d_Fam_init_39 : decode prog_1_method_1_code 39 = .ok (.aload_n 0, 1) := by decide +kernel
theorem d_Fam_init_40 : decode prog_1_method_1_code 40 = .ok (.new 30, 3) := by decide +kernel
theorem d_Fam_init_43 : decode prog_1_method_1_code 43 = .ok (.dup, 1) := by decide +kernel
theorem d_Fam_init_44 : decode prog_1_method_1_code 44 = .ok (.aload_n 1, 1) := by decide +kernel
theorem d_Fam_init_45 : decode prog_1_method_1_code 45 = .ok (.invokespecial 32, 3) := by decide +kernel
theorem d_Fam_init_48 : decode prog_1_method_1_code 48 = .ok (.putfield 35, 3) := by decide +kernel
theorem d_Fam_init_51 : decode prog_1_method_1_code 51 = .ok (.return_, 1) := by decide +kernel
theorem d_Fam_leaf_0 : decode prog_1_method_2_code 0 = .ok (.aload_n 0, 1) := by decide +kernel
theorem d_Fam_leaf_1 : decode prog_1_method_2_code 1 = .ok (.iload_n 1, 1) := by decide +kernel
theorem d_Fam_leaf_2 : decode prog_1_method_2_code 2 = .ok (.iload_n 2, 1) := by decide +kernel
theorem d_Fam_leaf_3 : decode prog_1_method_2_code 3 = .ok (.iload_n 3, 1) := by decide +kernel
theorem d_Fam_leaf_4 : decode prog_1_method_2_code 4 = .ok (.invokevirtual 39, 3) := by decide +kernel
theorem d_Fam_leaf_7 : decode prog_1_method_2_code 7 = .ok (.ifCond .ne 5, 3) := by decide +kernel
theorem d_Fam_leaf_10 : decode prog_1_method_2_code 10 = .ok (.iconst (-1), 1) := by decide +kernel
theorem d_Fam_leaf_11 : decode prog_1_method_2_code 11 = .ok (.ireturn, 1) := by decide +kernel
theorem d_Fam_leaf_12 : decode prog_1_method_2_code 12 = .ok (.aload_n 0, 1) := by decide +kernel
theorem d_Fam_leaf_13 : decode prog_1_method_2_code 13 = .ok (.getfield 13, 3) := by decide +kernel
theorem d_Fam_leaf_16 : decode prog_1_method_2_code 16 = .ok (.iconst 1, 1) := by decide +kernel
theorem d_Fam_leaf_17 : decode prog_1_method_2_code 17 = .ok (.invokevirtual 43, 3) := by decide +kernel
theorem d_Fam_leaf_20 : decode prog_1_method_2_code 20 = .ok (.astore 4, 2) := by decide +kernel
theorem d_Fam_leaf_22 : decode prog_1_method_2_code 22 = .ok (.aload 4, 2) := by decide +kernel
theorem d_Fam_leaf_24 : decode prog_1_method_2_code 24 = .ok (.ifnonnull 5, 3) := by decide +kernel
theorem d_Fam_leaf_27 : decode prog_1_method_2_code 27 = .ok (.iconst (-1), 1) := by decide +kernel
theorem d_Fam_leaf_28 : decode prog_1_method_2_code 28 = .ok (.ireturn, 1) := by decide +kernel
theorem d_Fam_leaf_29 : decode prog_1_method_2_code 29 = .ok (.aload 4, 2) := by decide +kernel
theorem d_Fam_leaf_31 : decode prog_1_method_2_code 31 = .ok (.iconst 0, 1) := by decide +kernel
theorem d_Fam_leaf_32 : decode prog_1_method_2_code 32 = .ok (.iload_n 1, 1) := by decide +kernel
theorem d_Fam_leaf_33 : decode prog_1_method_2_code 33 = .ok (.iload_n 2, 1) := by decide +kernel
theorem d_Fam_leaf_34 : decode prog_1_method_2_code 34 = .ok (.iload_n 3, 1) := by decide +kernel
theorem d_Fam_leaf_35 : decode prog_1_method_2_code 35 = .ok (.invokevirtual 47, 3) := by decide +kernel
theorem d_Fam_leaf_38 : decode prog_1_method_2_code 38 = .ok (.aload_n 0, 1) := by decide +kernel
theorem d_Fam_leaf_39 : decode prog_1_method_2_code 39 = .ok (.getfield 13, 3) := by decide +kernel
theorem d_Fam_leaf_42 : decode prog_1_method_2_code 42 = .ok (.aload 4, 2) := by decide +kernel
theorem d_Fam_leaf_44 : decode prog_1_method_2_code 44 = .ok (.invokevirtual 53, 3) := by decide +kernel
theorem d_Fam_leaf_47 : decode prog_1_method_2_code 47 = .ok (.ireturn, 1) := by decide +kernel
theorem d_Fam_apply_0 : decode prog_1_method_3_code 0 = .ok (.aload_n 0, 1) := by decide +kernel
theorem d_Fam_apply_1 : decode prog_1_method_3_code 1 = .ok (.iconst 4, 1) := by decide +kernel
theorem d_Fam_apply_2 : decode prog_1_method_3_code 2 = .ok (.iconst 0, 1) := by decide +kernel
theorem d_Fam_apply_3 : decode prog_1_method_3_code 3 = .ok (.iload_n 1, 1) := by decide +kernel
theorem d_Fam_apply_4 : decode prog_1_method_3_code 4 = .ok (.iload_n 2, 1) := by decide +kernel
theorem d_Fam_apply_5 : decode prog_1_method_3_code 5 = .ok (.invokevirtual 57, 3) := by decide +kernel
theorem d_Fam_apply_8 : decode prog_1_method_3_code 8 = .ok (.ireturn, 1) := by decide +kernel
theorem d_Fam_binder_0 : decode prog_1_method_4_code 0 = .ok (.iload_n 1, 1) := by decide +kernel
theorem d_Fam_binder_1 : decode prog_1_method_4_code 1 = .ok (.iconst 5, 1) := by decide +kernel
theorem d_Fam_binder_2 : decode prog_1_method_4_code 2 = .ok (.if_icmp .eq 9, 3) := by decide +kernel
theorem d_Fam_binder_5 : decode prog_1_method_4_code 5 = .ok (.iload_n 1, 1) := by decide +kernel
theorem d_Fam_binder_6 : decode prog_1_method_4_code 6 = .ok (.bipush 6, 2) := by decide +kernel
theorem d_Fam_binder_8 : decode prog_1_method_4_code 8 = .ok (.if_icmp .ne 7, 3) := by decide +kernel
theorem d_Fam_binder_11 : decode prog_1_method_4_code 11 = .ok (.iconst 1, 1) := by decide +kernel
theorem d_Fam_binder_12 : decode prog_1_method_4_code 12 = .ok (.goto 4, 3) := by decide +kernel
theorem d_Fam_binder_15 : decode prog_1_method_4_code 15 = .ok (.iconst 0, 1) := by decide +kernel
theorem d_Fam_binder_16 : decode prog_1_method_4_code 16 = .ok (.istore 5, 2) := by decide +kernel
theorem d_Fam_binder_18 : decode prog_1_method_4_code 18 = .ok (.iload_n 2, 1) := by decide +kernel
theorem d_Fam_binder_19 : decode prog_1_method_4_code 19 = .ok (.iconst (-1), 1) := by decide +kernel
theorem d_Fam_binder_20 : decode prog_1_method_4_code 20 = .ok (.if_icmp .eq 13, 3) := by decide +kernel
theorem d_Fam_binder_23 : decode prog_1_method_4_code 23 = .ok (.iload_n 2, 1) := by decide +kernel
theorem d_Fam_binder_24 : decode prog_1_method_4_code 24 = .ok (.ifCond .lt 13, 3) := by decide +kernel
theorem d_Fam_binder_27 : decode prog_1_method_4_code 27 = .ok (.iload_n 2, 1) := by decide +kernel
theorem d_Fam_binder_28 : decode prog_1_method_4_code 28 = .ok (.bipush 99, 2) := by decide +kernel
theorem d_Fam_binder_30 : decode prog_1_method_4_code 30 = .ok (.if_icmp .gt 7, 3) := by decide +kernel
theorem d_Fam_binder_33 : decode prog_1_method_4_code 33 = .ok (.iconst 1, 1) := by decide +kernel
theorem d_Fam_binder_34 : decode prog_1_method_4_code 34 = .ok (.goto 4, 3) := by decide +kernel
theorem d_Fam_binder_37 : decode prog_1_method_4_code 37 = .ok (.iconst 0, 1) := by decide +kernel
theorem d_Fam_binder_38 : decode prog_1_method_4_code 38 = .ok (.istore 6, 2) := by decide +kernel
theorem d_Fam_binder_40 : decode prog_1_method_4_code 40 = .ok (.iload 5, 2) := by decide +kernel
theorem d_Fam_binder_42 : decode prog_1_method_4_code 42 = .ok (.ifCond .eq 20, 3) := by decide +kernel
theorem d_Fam_binder_45 : decode prog_1_method_4_code 45 = .ok (.iload 6, 2) := by decide +kernel
theorem d_Fam_binder_47 : decode prog_1_method_4_code 47 = .ok (.ifCond .eq 15, 3) := by decide +kernel
theorem d_Fam_binder_50 : decode prog_1_method_4_code 50 = .ok (.aload_n 0, 1) := by decide +kernel
theorem d_Fam_binder_51 : decode prog_1_method_4_code 51 = .ok (.iload_n 1, 1) := by decide +kernel
theorem d_Fam_binder_52 : decode prog_1_method_4_code 52 = .ok (.iload_n 2, 1) := by decide +kernel
theorem d_Fam_binder_53 : decode prog_1_method_4_code 53 = .ok (.iload_n 3, 1) := by decide +kernel
theorem d_Fam_binder_54 : decode prog_1_method_4_code 54 = .ok (.iload 4, 2) := by decide +kernel
theorem d_Fam_binder_56 : decode prog_1_method_4_code 56 = .ok (.invokevirtual 57, 3) := by decide +kernel
theorem d_Fam_binder_59 : decode prog_1_method_4_code 59 = .ok (.goto 4, 3) := by decide +kernel
theorem d_Fam_binder_62 : decode prog_1_method_4_code 62 = .ok (.iconst (-1), 1) := by decide +kernel
theorem d_Fam_binder_63 : decode prog_1_method_4_code 63 = .ok (.ireturn, 1) := by decide +kernel
theorem d_Fam_axiom_0 : decode prog_1_method_5_code 0 = .ok (.aload_n 0, 1) := by decide +kernel
theorem d_Fam_axiom_1 : decode prog_1_method_5_code 1 = .ok (.getfield 22, 3) := by decide +kernel
theorem d_Fam_axiom_4 : decode prog_1_method_5_code 4 = .ok (.invokevirtual 61, 3) := by decide +kernel
theorem d_Fam_axiom_7 : decode prog_1_method_5_code 7 = .ok (.ireturn, 1) := by decide +kernel
theorem d_Fam_family_0 : decode prog_1_method_6_code 0 = .ok (.aload_n 0, 1) := by decide +kernel
theorem d_Fam_family_1 : decode prog_1_method_6_code 1 = .ok (.getfield 13, 3) := by decide +kernel
theorem d_Fam_family_4 : decode prog_1_method_6_code 4 = .ok (.iload_n 1, 1) := by decide +kernel
theorem d_Fam_family_5 : decode prog_1_method_6_code 5 = .ok (.invokevirtual 65, 3) := by decide +kernel
theorem d_Fam_family_8 : decode prog_1_method_6_code 8 = .ok (.astore 4, 2) := by decide +kernel
theorem d_Fam_family_10 : decode prog_1_method_6_code 10 = .ok (.aload 4, 2) := by decide +kernel
theorem d_Fam_family_12 : decode prog_1_method_6_code 12 = .ok (.ifnull 17, 3) := by decide +kernel
theorem d_Fam_family_15 : decode prog_1_method_6_code 15 = .ok (.iload_n 2, 1) := by decide +kernel
theorem d_Fam_family_16 : decode prog_1_method_6_code 16 = .ok (.ifCond .lt 13, 3) := by decide +kernel
theorem d_Fam_family_19 : decode prog_1_method_6_code 19 = .ok (.iload_n 3, 1) := by decide +kernel
theorem d_Fam_family_20 : decode prog_1_method_6_code 20 = .ok (.ifCond .lt 9, 3) := by decide +kernel
theorem d_Fam_family_23 : decode prog_1_method_6_code 23 = .ok (.iload_n 3, 1) := by decide +kernel
theorem d_Fam_family_24 : decode prog_1_method_6_code 24 = .ok (.bipush 12, 2) := by decide +kernel
theorem d_Fam_family_26 : decode prog_1_method_6_code 26 = .ok (.if_icmp .le 5, 3) := by decide +kernel
theorem d_Fam_family_29 : decode prog_1_method_6_code 29 = .ok (.iconst (-1), 1) := by decide +kernel
theorem d_Fam_family_30 : decode prog_1_method_6_code 30 = .ok (.ireturn, 1) := by decide +kernel
theorem d_Fam_family_31 : decode prog_1_method_6_code 31 = .ok (.aload_n 0, 1) := by decide +kernel
theorem d_Fam_family_32 : decode prog_1_method_6_code 32 = .ok (.getfield 26, 3) := by decide +kernel
theorem d_Fam_family_35 : decode prog_1_method_6_code 35 = .ok (.aload 4, 2) := by decide +kernel
theorem d_Fam_family_37 : decode prog_1_method_6_code 37 = .ok (.iconst 0, 1) := by decide +kernel
theorem d_Fam_family_38 : decode prog_1_method_6_code 38 = .ok (.invokevirtual 68, 3) := by decide +kernel
theorem d_Fam_family_41 : decode prog_1_method_6_code 41 = .ok (.aload_n 0, 1) := by decide +kernel
theorem d_Fam_family_42 : decode prog_1_method_6_code 42 = .ok (.getfield 26, 3) := by decide +kernel
theorem d_Fam_family_45 : decode prog_1_method_6_code 45 = .ok (.getfield 72, 3) := by decide +kernel
theorem d_Fam_family_48 : decode prog_1_method_6_code 48 = .ok (.iload_n 2, 1) := by decide +kernel
theorem d_Fam_family_49 : decode prog_1_method_6_code 49 = .ok (.isub, 1) := by decide +kernel
theorem d_Fam_family_50 : decode prog_1_method_6_code 50 = .ok (.istore 5, 2) := by decide +kernel
theorem d_Fam_family_52 : decode prog_1_method_6_code 52 = .ok (.iload 5, 2) := by decide +kernel
theorem d_Fam_family_54 : decode prog_1_method_6_code 54 = .ok (.ifCond .lt 31, 3) := by decide +kernel
theorem d_Fam_family_57 : decode prog_1_method_6_code 57 = .ok (.aload 4, 2) := by decide +kernel
theorem d_Fam_family_59 : decode prog_1_method_6_code 59 = .ok (.aload_n 0, 1) := by decide +kernel
theorem d_Fam_family_60 : decode prog_1_method_6_code 60 = .ok (.getfield 26, 3) := by decide +kernel
theorem d_Fam_family_63 : decode prog_1_method_6_code 63 = .ok (.getfield 76, 3) := by decide +kernel
theorem d_Fam_family_66 : decode prog_1_method_6_code 66 = .ok (.invokevirtual 79, 3) := by decide +kernel
theorem d_Fam_family_69 : decode prog_1_method_6_code 69 = .ok (.iconst 2, 1) := by decide +kernel
theorem d_Fam_family_70 : decode prog_1_method_6_code 70 = .ok (.if_icmp .ne 15, 3) := by decide +kernel
theorem d_Fam_family_73 : decode prog_1_method_6_code 73 = .ok (.aload_n 0, 1) := by decide +kernel
theorem d_Fam_family_74 : decode prog_1_method_6_code 74 = .ok (.getfield 26, 3) := by decide +kernel
theorem d_Fam_family_77 : decode prog_1_method_6_code 77 = .ok (.aload 4, 2) := by decide +kernel
theorem d_Fam_family_79 : decode prog_1_method_6_code 79 = .ok (.invokevirtual 83, 3) := by decide +kernel
theorem d_Fam_family_82 : decode prog_1_method_6_code 82 = .ok (.ifCond .ne 5, 3) := by decide +kernel
theorem d_Fam_family_85 : decode prog_1_method_6_code 85 = .ok (.iconst (-1), 1) := by decide +kernel
theorem d_Fam_family_86 : decode prog_1_method_6_code 86 = .ok (.ireturn, 1) := by decide +kernel
theorem d_Fam_family_87 : decode prog_1_method_6_code 87 = .ok (.aload_n 0, 1) := by decide +kernel
theorem d_Fam_family_88 : decode prog_1_method_6_code 88 = .ok (.getfield 22, 3) := by decide +kernel
theorem d_Fam_family_91 : decode prog_1_method_6_code 91 = .ok (.aload 4, 2) := by decide +kernel
theorem d_Fam_family_93 : decode prog_1_method_6_code 93 = .ok (.iload_n 2, 1) := by decide +kernel
theorem d_Fam_family_94 : decode prog_1_method_6_code 94 = .ok (.iload 5, 2) := by decide +kernel
theorem d_Fam_family_96 : decode prog_1_method_6_code 96 = .ok (.iload_n 3, 1) := by decide +kernel
theorem d_Fam_family_97 : decode prog_1_method_6_code 97 = .ok (.invokevirtual 87, 3) := by decide +kernel
theorem d_Fam_family_100 : decode prog_1_method_6_code 100 = .ok (.ireturn, 1) := by decide +kernel
theorem d_Fam_constructor_0 : decode prog_1_method_7_code 0 = .ok (.aload_n 0, 1) := by decide +kernel
theorem d_Fam_constructor_1 : decode prog_1_method_7_code 1 = .ok (.getfield 22, 3) := by decide +kernel
theorem d_Fam_constructor_4 : decode prog_1_method_7_code 4 = .ok (.iload_n 1, 1) := by decide +kernel
theorem d_Fam_constructor_5 : decode prog_1_method_7_code 5 = .ok (.invokevirtual 91, 3) := by decide +kernel
theorem d_Fam_constructor_8 : decode prog_1_method_7_code 8 = .ok (.astore_n 3, 1) := by decide +kernel
theorem d_Fam_constructor_9 : decode prog_1_method_7_code 9 = .ok (.aload_n 0, 1) := by decide +kernel
theorem d_Fam_constructor_10 : decode prog_1_method_7_code 10 = .ok (.getfield 13, 3) := by decide +kernel
theorem d_Fam_constructor_13 : decode prog_1_method_7_code 13 = .ok (.iload_n 2, 1) := by decide +kernel
theorem d_Fam_constructor_14 : decode prog_1_method_7_code 14 = .ok (.invokevirtual 65, 3) := by decide +kernel
theorem d_Fam_constructor_17 : decode prog_1_method_7_code 17 = .ok (.astore 4, 2) := by decide +kernel
theorem d_Fam_constructor_19 : decode prog_1_method_7_code 19 = .ok (.aload_n 3, 1) := by decide +kernel
theorem d_Fam_constructor_20 : decode prog_1_method_7_code 20 = .ok (.ifnull 15, 3) := by decide +kernel
theorem d_Fam_constructor_23 : decode prog_1_method_7_code 23 = .ok (.aload_n 3, 1) := by decide +kernel
theorem d_Fam_constructor_24 : decode prog_1_method_7_code 24 = .ok (.getfield 95, 3) := by decide +kernel
theorem d_Fam_constructor_27 : decode prog_1_method_7_code 27 = .ok (.ifnonnull 8, 3) := by decide +kernel
theorem d_Fam_constructor_30 : decode prog_1_method_7_code 30 = .ok (.aload 4, 2) := by decide +kernel
theorem d_Fam_constructor_32 : decode prog_1_method_7_code 32 = .ok (.ifnonnull 5, 3) := by decide +kernel
theorem d_Fam_constructor_35 : decode prog_1_method_7_code 35 = .ok (.iconst (-1), 1) := by decide +kernel
theorem d_Fam_constructor_36 : decode prog_1_method_7_code 36 = .ok (.ireturn, 1) := by decide +kernel
theorem d_Fam_constructor_37 : decode prog_1_method_7_code 37 = .ok (.aload_n 3, 1) := by decide +kernel
theorem d_Fam_constructor_38 : decode prog_1_method_7_code 38 = .ok (.getfield 101, 3) := by decide +kernel
theorem d_Fam_constructor_41 : decode prog_1_method_7_code 41 = .ok (.astore 5, 2) := by decide +kernel
theorem d_Fam_constructor_43 : decode prog_1_method_7_code 43 = .ok (.aload_n 0, 1) := by decide +kernel
theorem d_Fam_constructor_44 : decode prog_1_method_7_code 44 = .ok (.getfield 26, 3) := by decide +kernel
theorem d_Fam_constructor_47 : decode prog_1_method_7_code 47 = .ok (.aload 4, 2) := by decide +kernel
theorem d_Fam_constructor_49 : decode prog_1_method_7_code 49 = .ok (.iconst 0, 1) := by decide +kernel
theorem d_Fam_constructor_50 : decode prog_1_method_7_code 50 = .ok (.invokevirtual 68, 3) := by decide +kernel
theorem d_Fam_constructor_53 : decode prog_1_method_7_code 53 = .ok (.aload_n 0, 1) := by decide +kernel
theorem d_Fam_constructor_54 : decode prog_1_method_7_code 54 = .ok (.getfield 26, 3) := by decide +kernel
theorem d_Fam_constructor_57 : decode prog_1_method_7_code 57 = .ok (.getfield 72, 3) := by decide +kernel
theorem d_Fam_constructor_60 : decode prog_1_method_7_code 60 = .ok (.aload_n 3, 1) := by decide +kernel
theorem d_Fam_constructor_61 : decode prog_1_method_7_code 61 = .ok (.getfield 105, 3) := by decide +kernel
theorem d_Fam_constructor_64 : decode prog_1_method_7_code 64 = .ok (.isub, 1) := by decide +kernel
theorem d_Fam_constructor_65 : decode prog_1_method_7_code 65 = .ok (.istore 6, 2) := by decide +kernel
theorem d_Fam_constructor_67 : decode prog_1_method_7_code 67 = .ok (.aload 5, 2) := by decide +kernel
theorem d_Fam_constructor_69 : decode prog_1_method_7_code 69 = .ok (.ifnull 33, 3) := by decide +kernel
theorem d_Fam_constructor_72 : decode prog_1_method_7_code 72 = .ok (.iload 6, 2) := by decide +kernel
theorem d_Fam_constructor_74 : decode prog_1_method_7_code 74 = .ok (.ifCond .lt 28, 3) := by decide +kernel
theorem d_Fam_constructor_77 : decode prog_1_method_7_code 77 = .ok (.aload_n 0, 1) := by decide +kernel
theorem d_Fam_constructor_78 : decode prog_1_method_7_code 78 = .ok (.getfield 26, 3) := by decide +kernel
theorem d_Fam_constructor_81 : decode prog_1_method_7_code 81 = .ok (.aload 5, 2) := by decide +kernel
theorem d_Fam_constructor_83 : decode prog_1_method_7_code 83 = .ok (.iconst 0, 1) := by decide +kernel
theorem d_Fam_constructor_84 : decode prog_1_method_7_code 84 = .ok (.invokevirtual 108, 3) := by decide +kernel
theorem d_Fam_constructor_87 : decode prog_1_method_7_code 87 = .ok (.ifCond .eq 15, 3) := by decide +kernel
theorem d_Fam_constructor_90 : decode prog_1_method_7_code 90 = .ok (.aload_n 0, 1) := by decide +kernel
theorem d_Fam_constructor_91 : decode prog_1_method_7_code 91 = .ok (.getfield 26, 3) := by decide +kernel
theorem d_Fam_constructor_94 : decode prog_1_method_7_code 94 = .ok (.aload 4, 2) := by decide +kernel
theorem d_Fam_constructor_96 : decode prog_1_method_7_code 96 = .ok (.invokevirtual 83, 3) := by decide +kernel
theorem d_Fam_constructor_99 : decode prog_1_method_7_code 99 = .ok (.ifCond .ne 5, 3) := by decide +kernel
theorem d_Fam_constructor_102 : decode prog_1_method_7_code 102 = .ok (.iconst (-1), 1) := by decide +kernel
theorem d_Fam_constructor_103 : decode prog_1_method_7_code 103 = .ok (.ireturn, 1) := by decide +kernel
theorem d_Fam_constructor_104 : decode prog_1_method_7_code 104 = .ok (.aload_n 0, 1) := by decide +kernel
theorem d_Fam_constructor_105 : decode prog_1_method_7_code 105 = .ok (.aload_n 3, 1) := by decide +kernel
theorem d_Fam_constructor_106 : decode prog_1_method_7_code 106 = .ok (.aload 5, 2) := by decide +kernel
theorem d_Fam_constructor_108 : decode prog_1_method_7_code 108 = .ok (.aload 4, 2) := by decide +kernel
theorem d_Fam_constructor_110 : decode prog_1_method_7_code 110 = .ok (.iload 6, 2) := by decide +kernel
theorem d_Fam_constructor_112 : decode prog_1_method_7_code 112 = .ok (.invokevirtual 112, 3) := by decide +kernel
theorem d_Fam_constructor_115 : decode prog_1_method_7_code 115 = .ok (.ireturn, 1) := by decide +kernel
theorem d_Fam_about_0 : decode prog_1_method_8_code 0 = .ok (.aload_n 0, 1) := by decide +kernel
theorem d_Fam_about_1 : decode prog_1_method_8_code 1 = .ok (.getfield 22, 3) := by decide +kernel
theorem d_Fam_about_4 : decode prog_1_method_8_code 4 = .ok (.iload_n 1, 1) := by decide +kernel
theorem d_Fam_about_5 : decode prog_1_method_8_code 5 = .ok (.invokevirtual 116, 3) := by decide +kernel
theorem d_Fam_about_8 : decode prog_1_method_8_code 8 = .ok (.astore_n 3, 1) := by decide +kernel
theorem d_Fam_about_9 : decode prog_1_method_8_code 9 = .ok (.aload_n 3, 1) := by decide +kernel
theorem d_Fam_about_10 : decode prog_1_method_8_code 10 = .ok (.ifnonnull 5, 3) := by decide +kernel
theorem d_Fam_about_13 : decode prog_1_method_8_code 13 = .ok (.iconst (-1), 1) := by decide +kernel
theorem d_Fam_about_14 : decode prog_1_method_8_code 14 = .ok (.ireturn, 1) := by decide +kernel
theorem d_Fam_about_15 : decode prog_1_method_8_code 15 = .ok (.iload_n 2, 1) := by decide +kernel
theorem d_Fam_about_16 : decode prog_1_method_8_code 16 = .ok (.tableswitch 67 0 3 #[32, 37, 42, 62], 32) := by decide +kernel
theorem d_Fam_about_48 : decode prog_1_method_8_code 48 = .ok (.aload_n 3, 1) := by decide +kernel
theorem d_Fam_about_49 : decode prog_1_method_8_code 49 = .ok (.getfield 118, 3) := by decide +kernel
theorem d_Fam_about_52 : decode prog_1_method_8_code 52 = .ok (.ireturn, 1) := by decide +kernel
theorem d_Fam_about_53 : decode prog_1_method_8_code 53 = .ok (.aload_n 3, 1) := by decide +kernel
theorem d_Fam_about_54 : decode prog_1_method_8_code 54 = .ok (.getfield 105, 3) := by decide +kernel
theorem d_Fam_about_57 : decode prog_1_method_8_code 57 = .ok (.ireturn, 1) := by decide +kernel
theorem d_Fam_about_58 : decode prog_1_method_8_code 58 = .ok (.aload_n 3, 1) := by decide +kernel
theorem d_Fam_about_59 : decode prog_1_method_8_code 59 = .ok (.getfield 118, 3) := by decide +kernel
theorem d_Fam_about_62 : decode prog_1_method_8_code 62 = .ok (.iconst 4, 1) := by decide +kernel
theorem d_Fam_about_63 : decode prog_1_method_8_code 63 = .ok (.if_icmp .ne 10, 3) := by decide +kernel
theorem d_Fam_about_66 : decode prog_1_method_8_code 66 = .ok (.aload_n 3, 1) := by decide +kernel
theorem d_Fam_about_67 : decode prog_1_method_8_code 67 = .ok (.getfield 121, 3) := by decide +kernel
theorem d_Fam_about_70 : decode prog_1_method_8_code 70 = .ok (.goto 7, 3) := by decide +kernel
theorem d_Fam_about_73 : decode prog_1_method_8_code 73 = .ok (.aload_n 3, 1) := by decide +kernel
theorem d_Fam_about_74 : decode prog_1_method_8_code 74 = .ok (.getfield 124, 3) := by decide +kernel
theorem d_Fam_about_77 : decode prog_1_method_8_code 77 = .ok (.ireturn, 1) := by decide +kernel
theorem d_Fam_about_78 : decode prog_1_method_8_code 78 = .ok (.aload_n 3, 1) := by decide +kernel
theorem d_Fam_about_79 : decode prog_1_method_8_code 79 = .ok (.getfield 127, 3) := by decide +kernel
theorem d_Fam_about_82 : decode prog_1_method_8_code 82 = .ok (.ireturn, 1) := by decide +kernel
theorem d_Fam_about_83 : decode prog_1_method_8_code 83 = .ok (.iconst (-1), 1) := by decide +kernel
theorem d_Fam_about_84 : decode prog_1_method_8_code 84 = .ok (.ireturn, 1) := by decide +kernel
theorem d_Fam_positive_0 : decode prog_1_method_9_code 0 = .ok (.aload_n 0, 1) := by decide +kernel
theorem d_Fam_positive_1 : decode prog_1_method_9_code 1 = .ok (.getfield 22, 3) := by decide +kernel
theorem d_Fam_positive_4 : decode prog_1_method_9_code 4 = .ok (.iload_n 1, 1) := by decide +kernel
theorem d_Fam_positive_5 : decode prog_1_method_9_code 5 = .ok (.invokevirtual 130, 3) := by decide +kernel
theorem d_Fam_positive_8 : decode prog_1_method_9_code 8 = .ok (.astore 4, 2) := by decide +kernel
theorem d_Fam_positive_10 : decode prog_1_method_9_code 10 = .ok (.aload_n 0, 1) := by decide +kernel
theorem d_Fam_positive_11 : decode prog_1_method_9_code 11 = .ok (.getfield 13, 3) := by decide +kernel
theorem d_Fam_positive_14 : decode prog_1_method_9_code 14 = .ok (.iload_n 2, 1) := by decide +kernel
theorem d_Fam_positive_15 : decode prog_1_method_9_code 15 = .ok (.invokevirtual 65, 3) := by decide +kernel
theorem d_Fam_positive_18 : decode prog_1_method_9_code 18 = .ok (.astore 5, 2) := by decide +kernel
theorem d_Fam_positive_20 : decode prog_1_method_9_code 20 = .ok (.aload 4, 2) := by decide +kernel
theorem d_Fam_positive_22 : decode prog_1_method_9_code 22 = .ok (.ifnull 15, 3) := by decide +kernel
theorem d_Fam_positive_25 : decode prog_1_method_9_code 25 = .ok (.aload 5, 2) := by decide +kernel
theorem d_Fam_positive_27 : decode prog_1_method_9_code 27 = .ok (.ifnull 10, 3) := by decide +kernel
theorem d_Fam_positive_30 : decode prog_1_method_9_code 30 = .ok (.iload_n 3, 1) := by decide +kernel
theorem d_Fam_positive_31 : decode prog_1_method_9_code 31 = .ok (.invokestatic 133, 3) := by decide +kernel
theorem d_Fam_positive_34 : decode prog_1_method_9_code 34 = .ok (.ifCond .ne 5, 3) := by decide +kernel
theorem d_Fam_positive_37 : decode prog_1_method_9_code 37 = .ok (.iconst (-1), 1) := by decide +kernel
theorem d_Fam_positive_38 : decode prog_1_method_9_code 38 = .ok (.ireturn, 1) := by decide +kernel
theorem d_Fam_positive_39 : decode prog_1_method_9_code 39 = .ok (.aload_n 0, 1) := by decide +kernel
theorem d_Fam_positive_40 : decode prog_1_method_9_code 40 = .ok (.getfield 26, 3) := by decide +kernel
theorem d_Fam_positive_43 : decode prog_1_method_9_code 43 = .ok (.aload 4, 2) := by decide +kernel
theorem d_Fam_positive_45 : decode prog_1_method_9_code 45 = .ok (.aload 5, 2) := by decide +kernel
theorem d_Fam_positive_47 : decode prog_1_method_9_code 47 = .ok (.iconst 0, 1) := by decide +kernel
theorem d_Fam_positive_48 : decode prog_1_method_9_code 48 = .ok (.aload 4, 2) := by decide +kernel
theorem d_Fam_positive_50 : decode prog_1_method_9_code 50 = .ok (.getfield 105, 3) := by decide +kernel
theorem d_Fam_positive_53 : decode prog_1_method_9_code 53 = .ok (.iload_n 3, 1) := by decide +kernel
theorem d_Fam_positive_54 : decode prog_1_method_9_code 54 = .ok (.iadd, 1) := by decide +kernel
theorem d_Fam_positive_55 : decode prog_1_method_9_code 55 = .ok (.invokevirtual 137, 3) := by decide +kernel
theorem d_Fam_positive_58 : decode prog_1_method_9_code 58 = .ok (.ireturn, 1) := by decide +kernel
theorem d_Fam_brings_0 : decode prog_1_method_10_code 0 = .ok (.aload_n 0, 1) := by decide +kernel
theorem d_Fam_brings_1 : decode prog_1_method_10_code 1 = .ok (.getfield 22, 3) := by decide +kernel
theorem d_Fam_brings_4 : decode prog_1_method_10_code 4 = .ok (.iload_n 1, 1) := by decide +kernel
theorem d_Fam_brings_5 : decode prog_1_method_10_code 5 = .ok (.invokevirtual 91, 3) := by decide +kernel
theorem d_Fam_brings_8 : decode prog_1_method_10_code 8 = .ok (.astore_n 3, 1) := by decide +kernel
theorem d_Fam_brings_9 : decode prog_1_method_10_code 9 = .ok (.aload_n 3, 1) := by decide +kernel
theorem d_Fam_brings_10 : decode prog_1_method_10_code 10 = .ok (.ifnull 22, 3) := by decide +kernel
theorem d_Fam_brings_13 : decode prog_1_method_10_code 13 = .ok (.aload_n 3, 1) := by decide +kernel
theorem d_Fam_brings_14 : decode prog_1_method_10_code 14 = .ok (.getfield 95, 3) := by decide +kernel
theorem d_Fam_brings_17 : decode prog_1_method_10_code 17 = .ok (.ifnull 15, 3) := by decide +kernel
theorem d_Fam_brings_20 : decode prog_1_method_10_code 20 = .ok (.iload_n 2, 1) := by decide +kernel
theorem d_Fam_brings_21 : decode prog_1_method_10_code 21 = .ok (.ifCond .lt 11, 3) := by decide +kernel
theorem d_Fam_brings_24 : decode prog_1_method_10_code 24 = .ok (.iload_n 2, 1) := by decide +kernel
theorem d_Fam_brings_25 : decode prog_1_method_10_code 25 = .ok (.aload_n 3, 1) := by decide +kernel
theorem d_Fam_brings_26 : decode prog_1_method_10_code 26 = .ok (.getfield 141, 3) := by decide +kernel
theorem d_Fam_brings_29 : decode prog_1_method_10_code 29 = .ok (.if_icmp .lt 5, 3) := by decide +kernel
theorem d_Fam_brings_32 : decode prog_1_method_10_code 32 = .ok (.iconst (-1), 1) := by decide +kernel
theorem d_Fam_brings_33 : decode prog_1_method_10_code 33 = .ok (.ireturn, 1) := by decide +kernel
theorem d_Fam_brings_34 : decode prog_1_method_10_code 34 = .ok (.aload_n 0, 1) := by decide +kernel
theorem d_Fam_brings_35 : decode prog_1_method_10_code 35 = .ok (.getfield 35, 3) := by decide +kernel
theorem d_Fam_brings_38 : decode prog_1_method_10_code 38 = .ok (.aconst_null, 1) := by decide +kernel
theorem d_Fam_brings_39 : decode prog_1_method_10_code 39 = .ok (.invokevirtual 144, 3) := by decide +kernel
theorem d_Fam_brings_42 : decode prog_1_method_10_code 42 = .ok (.aload_n 0, 1) := by decide +kernel
theorem d_Fam_brings_43 : decode prog_1_method_10_code 43 = .ok (.getfield 35, 3) := by decide +kernel
theorem d_Fam_brings_46 : decode prog_1_method_10_code 46 = .ok (.aload_n 3, 1) := by decide +kernel
theorem d_Fam_brings_47 : decode prog_1_method_10_code 47 = .ok (.iload_n 2, 1) := by decide +kernel
theorem d_Fam_brings_48 : decode prog_1_method_10_code 48 = .ok (.invokevirtual 148, 3) := by decide +kernel
theorem d_Fam_brings_51 : decode prog_1_method_10_code 51 = .ok (.aload_n 0, 1) := by decide +kernel
theorem d_Fam_brings_52 : decode prog_1_method_10_code 52 = .ok (.getfield 13, 3) := by decide +kernel
theorem d_Fam_brings_55 : decode prog_1_method_10_code 55 = .ok (.aload_n 0, 1) := by decide +kernel
theorem d_Fam_brings_56 : decode prog_1_method_10_code 56 = .ok (.getfield 35, 3) := by decide +kernel
theorem d_Fam_brings_59 : decode prog_1_method_10_code 59 = .ok (.getfield 152, 3) := by decide +kernel
theorem d_Fam_brings_62 : decode prog_1_method_10_code 62 = .ok (.invokevirtual 43, 3) := by decide +kernel
theorem d_Fam_brings_65 : decode prog_1_method_10_code 65 = .ok (.astore 4, 2) := by decide +kernel
theorem d_Fam_brings_67 : decode prog_1_method_10_code 67 = .ok (.aload 4, 2) := by decide +kernel
theorem d_Fam_brings_69 : decode prog_1_method_10_code 69 = .ok (.ifnonnull 5, 3) := by decide +kernel
theorem d_Fam_brings_72 : decode prog_1_method_10_code 72 = .ok (.iconst (-1), 1) := by decide +kernel
theorem d_Fam_brings_73 : decode prog_1_method_10_code 73 = .ok (.ireturn, 1) := by decide +kernel
theorem d_Fam_brings_74 : decode prog_1_method_10_code 74 = .ok (.aload_n 0, 1) := by decide +kernel
theorem d_Fam_brings_75 : decode prog_1_method_10_code 75 = .ok (.getfield 35, 3) := by decide +kernel
theorem d_Fam_brings_78 : decode prog_1_method_10_code 78 = .ok (.aload 4, 2) := by decide +kernel
theorem d_Fam_brings_80 : decode prog_1_method_10_code 80 = .ok (.invokevirtual 144, 3) := by decide +kernel
theorem d_Fam_brings_83 : decode prog_1_method_10_code 83 = .ok (.aload_n 0, 1) := by decide +kernel
theorem d_Fam_brings_84 : decode prog_1_method_10_code 84 = .ok (.getfield 35, 3) := by decide +kernel
theorem d_Fam_brings_87 : decode prog_1_method_10_code 87 = .ok (.aload_n 3, 1) := by decide +kernel
theorem d_Fam_brings_88 : decode prog_1_method_10_code 88 = .ok (.iload_n 2, 1) := by decide +kernel
theorem d_Fam_brings_89 : decode prog_1_method_10_code 89 = .ok (.invokevirtual 148, 3) := by decide +kernel
theorem d_Fam_brings_92 : decode prog_1_method_10_code 92 = .ok (.aload 4, 2) := by decide +kernel
theorem d_Fam_brings_94 : decode prog_1_method_10_code 94 = .ok (.invokevirtual 155, 3) := by decide +kernel
theorem d_Fam_brings_97 : decode prog_1_method_10_code 97 = .ok (.aload_n 0, 1) := by decide +kernel
theorem d_Fam_brings_98 : decode prog_1_method_10_code 98 = .ok (.getfield 13, 3) := by decide +kernel
theorem d_Fam_brings_101 : decode prog_1_method_10_code 101 = .ok (.aload 4, 2) := by decide +kernel
theorem d_Fam_brings_103 : decode prog_1_method_10_code 103 = .ok (.invokevirtual 53, 3) := by decide +kernel
theorem d_Fam_brings_106 : decode prog_1_method_10_code 106 = .ok (.ireturn, 1) := by decide +kernel
theorem d_Fam_size_0 : decode prog_1_method_11_code 0 = .ok (.aload_n 0, 1) := by decide +kernel
theorem d_Fam_size_1 : decode prog_1_method_11_code 1 = .ok (.getfield 22, 3) := by decide +kernel
theorem d_Fam_size_4 : decode prog_1_method_11_code 4 = .ok (.iload_n 1, 1) := by decide +kernel
theorem d_Fam_size_5 : decode prog_1_method_11_code 5 = .ok (.invokevirtual 130, 3) := by decide +kernel
theorem d_Fam_size_8 : decode prog_1_method_11_code 8 = .ok (.astore_n 2, 1) := by decide +kernel
theorem d_Fam_size_9 : decode prog_1_method_11_code 9 = .ok (.aload_n 2, 1) := by decide +kernel
theorem d_Fam_size_10 : decode prog_1_method_11_code 10 = .ok (.ifnull 10, 3) := by decide +kernel
theorem d_Fam_size_13 : decode prog_1_method_11_code 13 = .ok (.aload_n 2, 1) := by decide +kernel
theorem d_Fam_size_14 : decode prog_1_method_11_code 14 = .ok (.invokevirtual 158, 3) := by decide +kernel
theorem d_Fam_size_17 : decode prog_1_method_11_code 17 = .ok (.ifCond .ne 5, 3) := by decide +kernel
theorem d_Fam_size_20 : decode prog_1_method_11_code 20 = .ok (.iconst (-1), 1) := by decide +kernel
theorem d_Fam_size_21 : decode prog_1_method_11_code 21 = .ok (.ireturn, 1) := by decide +kernel
theorem d_Fam_size_22 : decode prog_1_method_11_code 22 = .ok (.aload_n 0, 1) := by decide +kernel
theorem d_Fam_size_23 : decode prog_1_method_11_code 23 = .ok (.getfield 35, 3) := by decide +kernel
theorem d_Fam_size_26 : decode prog_1_method_11_code 26 = .ok (.aconst_null, 1) := by decide +kernel
theorem d_Fam_size_27 : decode prog_1_method_11_code 27 = .ok (.invokevirtual 144, 3) := by decide +kernel
theorem d_Fam_size_30 : decode prog_1_method_11_code 30 = .ok (.aload_n 0, 1) := by decide +kernel
theorem d_Fam_size_31 : decode prog_1_method_11_code 31 = .ok (.getfield 35, 3) := by decide +kernel
theorem d_Fam_size_34 : decode prog_1_method_11_code 34 = .ok (.aload_n 2, 1) := by decide +kernel
theorem d_Fam_size_35 : decode prog_1_method_11_code 35 = .ok (.iconst 0, 1) := by decide +kernel
theorem d_Fam_size_36 : decode prog_1_method_11_code 36 = .ok (.invokevirtual 162, 3) := by decide +kernel
theorem d_Fam_size_39 : decode prog_1_method_11_code 39 = .ok (.aload_n 0, 1) := by decide +kernel
theorem d_Fam_size_40 : decode prog_1_method_11_code 40 = .ok (.getfield 35, 3) := by decide +kernel
theorem d_Fam_size_43 : decode prog_1_method_11_code 43 = .ok (.getfield 152, 3) := by decide +kernel
theorem d_Fam_size_46 : decode prog_1_method_11_code 46 = .ok (.ireturn, 1) := by decide +kernel
theorem d_Fam_type_0 : decode prog_1_method_12_code 0 = .ok (.aload_n 0, 1) := by decide +kernel
theorem d_Fam_type_1 : decode prog_1_method_12_code 1 = .ok (.getfield 22, 3) := by decide +kernel
theorem d_Fam_type_4 : decode prog_1_method_12_code 4 = .ok (.iload_n 1, 1) := by decide +kernel
theorem d_Fam_type_5 : decode prog_1_method_12_code 5 = .ok (.invokevirtual 130, 3) := by decide +kernel
theorem d_Fam_type_8 : decode prog_1_method_12_code 8 = .ok (.astore_n 3, 1) := by decide +kernel
theorem d_Fam_type_9 : decode prog_1_method_12_code 9 = .ok (.aload_n 3, 1) := by decide +kernel
theorem d_Fam_type_10 : decode prog_1_method_12_code 10 = .ok (.ifnull 17, 3) := by decide +kernel
theorem d_Fam_type_13 : decode prog_1_method_12_code 13 = .ok (.aload_n 3, 1) := by decide +kernel
theorem d_Fam_type_14 : decode prog_1_method_12_code 14 = .ok (.invokevirtual 158, 3) := by decide +kernel
theorem d_Fam_type_17 : decode prog_1_method_12_code 17 = .ok (.ifCond .eq 10, 3) := by decide +kernel
theorem d_Fam_type_20 : decode prog_1_method_12_code 20 = .ok (.iload_n 2, 1) := by decide +kernel
theorem d_Fam_type_21 : decode prog_1_method_12_code 21 = .ok (.invokestatic 133, 3) := by decide +kernel
theorem d_Fam_type_24 : decode prog_1_method_12_code 24 = .ok (.ifCond .ne 5, 3) := by decide +kernel
theorem d_Fam_type_27 : decode prog_1_method_12_code 27 = .ok (.iconst (-1), 1) := by decide +kernel
theorem d_Fam_type_28 : decode prog_1_method_12_code 28 = .ok (.ireturn, 1) := by decide +kernel
theorem d_Fam_type_29 : decode prog_1_method_12_code 29 = .ok (.aload_n 0, 1) := by decide +kernel
theorem d_Fam_type_30 : decode prog_1_method_12_code 30 = .ok (.getfield 35, 3) := by decide +kernel
theorem d_Fam_type_33 : decode prog_1_method_12_code 33 = .ok (.aconst_null, 1) := by decide +kernel
theorem d_Fam_type_34 : decode prog_1_method_12_code 34 = .ok (.invokevirtual 144, 3) := by decide +kernel
theorem d_Fam_type_37 : decode prog_1_method_12_code 37 = .ok (.aload_n 0, 1) := by decide +kernel
theorem d_Fam_type_38 : decode prog_1_method_12_code 38 = .ok (.getfield 35, 3) := by decide +kernel
theorem d_Fam_type_41 : decode prog_1_method_12_code 41 = .ok (.aload_n 3, 1) := by decide +kernel
theorem d_Fam_type_42 : decode prog_1_method_12_code 42 = .ok (.iload_n 2, 1) := by decide +kernel
theorem d_Fam_type_43 : decode prog_1_method_12_code 43 = .ok (.invokevirtual 162, 3) := by decide +kernel
theorem d_Fam_type_46 : decode prog_1_method_12_code 46 = .ok (.aload_n 0, 1) := by decide +kernel
theorem d_Fam_type_47 : decode prog_1_method_12_code 47 = .ok (.getfield 13, 3) := by decide +kernel
theorem d_Fam_type_50 : decode prog_1_method_12_code 50 = .ok (.aload_n 0, 1) := by decide +kernel
theorem d_Fam_type_51 : decode prog_1_method_12_code 51 = .ok (.getfield 35, 3) := by decide +kernel
theorem d_Fam_type_54 : decode prog_1_method_12_code 54 = .ok (.getfield 152, 3) := by decide +kernel
theorem d_Fam_type_57 : decode prog_1_method_12_code 57 = .ok (.invokevirtual 43, 3) := by decide +kernel
theorem d_Fam_type_60 : decode prog_1_method_12_code 60 = .ok (.astore 4, 2) := by decide +kernel
theorem d_Fam_type_62 : decode prog_1_method_12_code 62 = .ok (.aload 4, 2) := by decide +kernel
theorem d_Fam_type_64 : decode prog_1_method_12_code 64 = .ok (.ifnonnull 5, 3) := by decide +kernel
theorem d_Fam_type_67 : decode prog_1_method_12_code 67 = .ok (.iconst (-1), 1) := by decide +kernel
theorem d_Fam_type_68 : decode prog_1_method_12_code 68 = .ok (.ireturn, 1) := by decide +kernel
theorem d_Fam_type_69 : decode prog_1_method_12_code 69 = .ok (.aload_n 0, 1) := by decide +kernel
theorem d_Fam_type_70 : decode prog_1_method_12_code 70 = .ok (.getfield 35, 3) := by decide +kernel
theorem d_Fam_type_73 : decode prog_1_method_12_code 73 = .ok (.aload 4, 2) := by decide +kernel
theorem d_Fam_type_75 : decode prog_1_method_12_code 75 = .ok (.invokevirtual 144, 3) := by decide +kernel
theorem d_Fam_type_78 : decode prog_1_method_12_code 78 = .ok (.aload_n 0, 1) := by decide +kernel
theorem d_Fam_type_79 : decode prog_1_method_12_code 79 = .ok (.getfield 35, 3) := by decide +kernel
theorem d_Fam_type_82 : decode prog_1_method_12_code 82 = .ok (.aload_n 3, 1) := by decide +kernel
theorem d_Fam_type_83 : decode prog_1_method_12_code 83 = .ok (.iload_n 2, 1) := by decide +kernel
theorem d_Fam_type_84 : decode prog_1_method_12_code 84 = .ok (.invokevirtual 162, 3) := by decide +kernel
theorem d_Fam_type_87 : decode prog_1_method_12_code 87 = .ok (.aload 4, 2) := by decide +kernel
theorem d_Fam_type_89 : decode prog_1_method_12_code 89 = .ok (.invokevirtual 155, 3) := by decide +kernel
theorem d_Fam_type_92 : decode prog_1_method_12_code 92 = .ok (.aload_n 0, 1) := by decide +kernel
theorem d_Fam_type_93 : decode prog_1_method_12_code 93 = .ok (.getfield 13, 3) := by decide +kernel
theorem d_Fam_type_96 : decode prog_1_method_12_code 96 = .ok (.aload 4, 2) := by decide +kernel
theorem d_Fam_type_98 : decode prog_1_method_12_code 98 = .ok (.invokevirtual 53, 3) := by decide +kernel
theorem d_Fam_type_101 : decode prog_1_method_12_code 101 = .ok (.ireturn, 1) := by decide +kernel
theorem d_Fam_terms_0 : decode prog_1_method_13_code 0 = .ok (.aload_n 0, 1) := by decide +kernel
theorem d_Fam_terms_1 : decode prog_1_method_13_code 1 = .ok (.getfield 13, 3) := by decide +kernel
theorem d_Fam_terms_4 : decode prog_1_method_13_code 4 = .ok (.getfield 165, 3) := by decide +kernel
theorem d_Fam_terms_7 : decode prog_1_method_13_code 7 = .ok (.ireturn, 1) := by decide +kernel
theorem d_Fam_part_0 : decode prog_1_method_14_code 0 = .ok (.aload_n 0, 1) := by decide +kernel
theorem d_Fam_part_1 : decode prog_1_method_14_code 1 = .ok (.getfield 13, 3) := by decide +kernel
theorem d_Fam_part_4 : decode prog_1_method_14_code 4 = .ok (.iload_n 1, 1) := by decide +kernel
theorem d_Fam_part_5 : decode prog_1_method_14_code 5 = .ok (.invokevirtual 65, 3) := by decide +kernel
theorem d_Fam_part_8 : decode prog_1_method_14_code 8 = .ok (.astore 4, 2) := by decide +kernel
theorem d_Fam_part_10 : decode prog_1_method_14_code 10 = .ok (.aload 4, 2) := by decide +kernel
theorem d_Fam_part_12 : decode prog_1_method_14_code 12 = .ok (.ifnull 12, 3) := by decide +kernel
theorem d_Fam_part_15 : decode prog_1_method_14_code 15 = .ok (.aload 4, 2) := by decide +kernel
theorem d_Fam_part_17 : decode prog_1_method_14_code 17 = .ok (.iload_n 2, 1) := by decide +kernel
theorem d_Fam_part_18 : decode prog_1_method_14_code 18 = .ok (.invokevirtual 168, 3) := by decide +kernel
theorem d_Fam_part_21 : decode prog_1_method_14_code 21 = .ok (.ifCond .ne 5, 3) := by decide +kernel
theorem d_Fam_part_24 : decode prog_1_method_14_code 24 = .ok (.iconst (-1), 1) := by decide +kernel
theorem d_Fam_part_25 : decode prog_1_method_14_code 25 = .ok (.ireturn, 1) := by decide +kernel
theorem d_Fam_part_26 : decode prog_1_method_14_code 26 = .ok (.iload_n 3, 1) := by decide +kernel
theorem d_Fam_part_27 : decode prog_1_method_14_code 27 = .ok (.tableswitch 57 0 3 #[29, 36, 43, 50], 29) := by decide +kernel
theorem d_Fam_part_56 : decode prog_1_method_14_code 56 = .ok (.aload 4, 2) := by decide +kernel
theorem d_Fam_part_58 : decode prog_1_method_14_code 58 = .ok (.iload_n 2, 1) := by decide +kernel
theorem d_Fam_part_59 : decode prog_1_method_14_code 59 = .ok (.invokevirtual 79, 3) := by decide +kernel
theorem d_Fam_part_62 : decode prog_1_method_14_code 62 = .ok (.ireturn, 1) := by decide +kernel
theorem d_Fam_part_63 : decode prog_1_method_14_code 63 = .ok (.aload 4, 2) := by decide +kernel
theorem d_Fam_part_65 : decode prog_1_method_14_code 65 = .ok (.iload_n 2, 1) := by decide +kernel
theorem d_Fam_part_66 : decode prog_1_method_14_code 66 = .ok (.invokevirtual 171, 3) := by decide +kernel
theorem d_Fam_part_69 : decode prog_1_method_14_code 69 = .ok (.ireturn, 1) := by decide +kernel
theorem d_Fam_part_70 : decode prog_1_method_14_code 70 = .ok (.aload 4, 2) := by decide +kernel
theorem d_Fam_part_72 : decode prog_1_method_14_code 72 = .ok (.iload_n 2, 1) := by decide +kernel
theorem d_Fam_part_73 : decode prog_1_method_14_code 73 = .ok (.invokevirtual 174, 3) := by decide +kernel
theorem d_Fam_part_76 : decode prog_1_method_14_code 76 = .ok (.ireturn, 1) := by decide +kernel
theorem d_Fam_part_77 : decode prog_1_method_14_code 77 = .ok (.aload 4, 2) := by decide +kernel
theorem d_Fam_part_79 : decode prog_1_method_14_code 79 = .ok (.iload_n 2, 1) := by decide +kernel
theorem d_Fam_part_80 : decode prog_1_method_14_code 80 = .ok (.invokevirtual 177, 3) := by decide +kernel
theorem d_Fam_part_83 : decode prog_1_method_14_code 83 = .ok (.ireturn, 1) := by decide +kernel
theorem d_Fam_part_84 : decode prog_1_method_14_code 84 = .ok (.iconst (-1), 1) := by decide +kernel
theorem d_Fam_part_85 : decode prog_1_method_14_code 85 = .ok (.ireturn, 1) := by decide +kernel
theorem d_Fam_isNumber_0 : decode prog_1_method_15_code 0 = .ok (.iload_n 0, 1) := by decide +kernel
theorem d_Fam_isNumber_1 : decode prog_1_method_15_code 1 = .ok (.ifCond .lt 13, 3) := by decide +kernel
theorem d_Fam_isNumber_4 : decode prog_1_method_15_code 4 = .ok (.iload_n 0, 1) := by decide +kernel
theorem d_Fam_isNumber_5 : decode prog_1_method_15_code 5 = .ok (.bipush 100, 2) := by decide +kernel
theorem d_Fam_isNumber_7 : decode prog_1_method_15_code 7 = .ok (.if_icmp .gt 7, 3) := by decide +kernel
theorem d_Fam_isNumber_10 : decode prog_1_method_15_code 10 = .ok (.iconst 1, 1) := by decide +kernel
theorem d_Fam_isNumber_11 : decode prog_1_method_15_code 11 = .ok (.goto 4, 3) := by decide +kernel
theorem d_Fam_isNumber_14 : decode prog_1_method_15_code 14 = .ok (.iconst 0, 1) := by decide +kernel
theorem d_Fam_isNumber_15 : decode prog_1_method_15_code 15 = .ok (.ireturn, 1) := by decide +kernel
theorem d_Fam_isLeaf_0 : decode prog_1_method_16_code 0 = .ok (.iload_n 1, 1) := by decide +kernel
theorem d_Fam_isLeaf_1 : decode prog_1_method_16_code 1 = .ok (.tableswitch 93 0 3 #[31, 48, 31, 69], 31) := by decide +kernel
theorem d_Fam_isLeaf_32 : decode prog_1_method_16_code 32 = .ok (.iload_n 2, 1) := by decide +kernel
theorem d_Fam_isLeaf_33 : decode prog_1_method_16_code 33 = .ok (.invokestatic 133, 3) := by decide +kernel
theorem d_Fam_isLeaf_36 : decode prog_1_method_16_code 36 = .ok (.ifCond .eq 11, 3) := by decide +kernel
theorem d_Fam_isLeaf_39 : decode prog_1_method_16_code 39 = .ok (.iload_n 3, 1) := by decide +kernel
theorem d_Fam_isLeaf_40 : decode prog_1_method_16_code 40 = .ok (.ifCond .ne 7, 3) := by decide +kernel
theorem d_Fam_isLeaf_43 : decode prog_1_method_16_code 43 = .ok (.iconst 1, 1) := by decide +kernel
theorem d_Fam_isLeaf_44 : decode prog_1_method_16_code 44 = .ok (.goto 4, 3) := by decide +kernel
theorem d_Fam_isLeaf_47 : decode prog_1_method_16_code 47 = .ok (.iconst 0, 1) := by decide +kernel
theorem d_Fam_isLeaf_48 : decode prog_1_method_16_code 48 = .ok (.ireturn, 1) := by decide +kernel
theorem d_Fam_isLeaf_49 : decode prog_1_method_16_code 49 = .ok (.aload_n 0, 1) := by decide +kernel
theorem d_Fam_isLeaf_50 : decode prog_1_method_16_code 50 = .ok (.getfield 22, 3) := by decide +kernel
theorem d_Fam_isLeaf_53 : decode prog_1_method_16_code 53 = .ok (.iload_n 2, 1) := by decide +kernel
theorem d_Fam_isLeaf_54 : decode prog_1_method_16_code 54 = .ok (.invokevirtual 116, 3) := by decide +kernel
theorem d_Fam_isLeaf_57 : decode prog_1_method_16_code 57 = .ok (.ifnull 11, 3) := by decide +kernel
theorem d_Fam_isLeaf_60 : decode prog_1_method_16_code 60 = .ok (.iload_n 3, 1) := by decide +kernel
theorem d_Fam_isLeaf_61 : decode prog_1_method_16_code 61 = .ok (.ifCond .ne 7, 3) := by decide +kernel
theorem d_Fam_isLeaf_64 : decode prog_1_method_16_code 64 = .ok (.iconst 1, 1) := by decide +kernel
theorem d_Fam_isLeaf_65 : decode prog_1_method_16_code 65 = .ok (.goto 4, 3) := by decide +kernel
theorem d_Fam_isLeaf_68 : decode prog_1_method_16_code 68 = .ok (.iconst 0, 1) := by decide +kernel
theorem d_Fam_isLeaf_69 : decode prog_1_method_16_code 69 = .ok (.ireturn, 1) := by decide +kernel
theorem d_Fam_isLeaf_70 : decode prog_1_method_16_code 70 = .ok (.aload_n 0, 1) := by decide +kernel
theorem d_Fam_isLeaf_71 : decode prog_1_method_16_code 71 = .ok (.getfield 22, 3) := by decide +kernel
theorem d_Fam_isLeaf_74 : decode prog_1_method_16_code 74 = .ok (.iload_n 2, 1) := by decide +kernel
theorem d_Fam_isLeaf_75 : decode prog_1_method_16_code 75 = .ok (.invokevirtual 130, 3) := by decide +kernel
theorem d_Fam_isLeaf_78 : decode prog_1_method_16_code 78 = .ok (.ifnull 14, 3) := by decide +kernel
theorem d_Fam_isLeaf_81 : decode prog_1_method_16_code 81 = .ok (.iload_n 3, 1) := by decide +kernel
theorem d_Fam_isLeaf_82 : decode prog_1_method_16_code 82 = .ok (.invokestatic 133, 3) := by decide +kernel
theorem d_Fam_isLeaf_85 : decode prog_1_method_16_code 85 = .ok (.ifCond .eq 7, 3) := by decide +kernel
theorem d_Fam_isLeaf_88 : decode prog_1_method_16_code 88 = .ok (.iconst 1, 1) := by decide +kernel
theorem d_Fam_isLeaf_89 : decode prog_1_method_16_code 89 = .ok (.goto 4, 3) := by decide +kernel
theorem d_Fam_isLeaf_92 : decode prog_1_method_16_code 92 = .ok (.iconst 0, 1) := by decide +kernel
theorem d_Fam_isLeaf_93 : decode prog_1_method_16_code 93 = .ok (.ireturn, 1) := by decide +kernel
theorem d_Fam_isLeaf_94 : decode prog_1_method_16_code 94 = .ok (.iconst 0, 1) := by decide +kernel
theorem d_Fam_isLeaf_95 : decode prog_1_method_16_code 95 = .ok (.ireturn, 1) := by decide +kernel
theorem d_Fam_join_0 : decode prog_1_method_17_code 0 = .ok (.aload_n 0, 1) := by decide +kernel
theorem d_Fam_join_1 : decode prog_1_method_17_code 1 = .ok (.getfield 13, 3) := by decide +kernel
theorem d_Fam_join_4 : decode prog_1_method_17_code 4 = .ok (.iload_n 3, 1) := by decide +kernel
theorem d_Fam_join_5 : decode prog_1_method_17_code 5 = .ok (.invokevirtual 65, 3) := by decide +kernel
theorem d_Fam_join_8 : decode prog_1_method_17_code 8 = .ok (.astore 5, 2) := by decide +kernel
theorem d_Fam_join_10 : decode prog_1_method_17_code 10 = .ok (.aload_n 0, 1) := by decide +kernel
theorem d_Fam_join_11 : decode prog_1_method_17_code 11 = .ok (.getfield 13, 3) := by decide +kernel
theorem d_Fam_join_14 : decode prog_1_method_17_code 14 = .ok (.iload 4, 2) := by decide +kernel
theorem d_Fam_join_16 : decode prog_1_method_17_code 16 = .ok (.invokevirtual 65, 3) := by decide +kernel
theorem d_Fam_join_19 : decode prog_1_method_17_code 19 = .ok (.astore 6, 2) := by decide +kernel
theorem d_Fam_join_21 : decode prog_1_method_17_code 21 = .ok (.aload 5, 2) := by decide +kernel
theorem d_Fam_join_23 : decode prog_1_method_17_code 23 = .ok (.ifnull 8, 3) := by decide +kernel
theorem d_Fam_join_26 : decode prog_1_method_17_code 26 = .ok (.aload 6, 2) := by decide +kernel
theorem d_Fam_join_28 : decode prog_1_method_17_code 28 = .ok (.ifnonnull 5, 3) := by decide +kernel
theorem d_Fam_join_31 : decode prog_1_method_17_code 31 = .ok (.iconst (-1), 1) := by decide +kernel
theorem d_Fam_join_32 : decode prog_1_method_17_code 32 = .ok (.ireturn, 1) := by decide +kernel
theorem d_Fam_join_33 : decode prog_1_method_17_code 33 = .ok (.aload_n 0, 1) := by decide +kernel
theorem d_Fam_join_34 : decode prog_1_method_17_code 34 = .ok (.getfield 13, 3) := by decide +kernel
theorem d_Fam_join_37 : decode prog_1_method_17_code 37 = .ok (.iconst 1, 1) := by decide +kernel
theorem d_Fam_join_38 : decode prog_1_method_17_code 38 = .ok (.aload 5, 2) := by decide +kernel
theorem d_Fam_join_40 : decode prog_1_method_17_code 40 = .ok (.invokevirtual 180, 3) := by decide +kernel
theorem d_Fam_join_43 : decode prog_1_method_17_code 43 = .ok (.iadd, 1) := by decide +kernel
theorem d_Fam_join_44 : decode prog_1_method_17_code 44 = .ok (.aload 6, 2) := by decide +kernel
theorem d_Fam_join_46 : decode prog_1_method_17_code 46 = .ok (.invokevirtual 180, 3) := by decide +kernel
theorem d_Fam_join_49 : decode prog_1_method_17_code 49 = .ok (.iadd, 1) := by decide +kernel
theorem d_Fam_join_50 : decode prog_1_method_17_code 50 = .ok (.invokevirtual 43, 3) := by decide +kernel
theorem d_Fam_join_53 : decode prog_1_method_17_code 53 = .ok (.astore 7, 2) := by decide +kernel
theorem d_Fam_join_55 : decode prog_1_method_17_code 55 = .ok (.aload 7, 2) := by decide +kernel
theorem d_Fam_join_57 : decode prog_1_method_17_code 57 = .ok (.ifnonnull 5, 3) := by decide +kernel
theorem d_Fam_join_60 : decode prog_1_method_17_code 60 = .ok (.iconst (-1), 1) := by decide +kernel
theorem d_Fam_join_61 : decode prog_1_method_17_code 61 = .ok (.ireturn, 1) := by decide +kernel
theorem d_Fam_join_62 : decode prog_1_method_17_code 62 = .ok (.aload 7, 2) := by decide +kernel
theorem d_Fam_join_64 : decode prog_1_method_17_code 64 = .ok (.iconst 0, 1) := by decide +kernel
theorem d_Fam_join_65 : decode prog_1_method_17_code 65 = .ok (.iload_n 1, 1) := by decide +kernel
theorem d_Fam_join_66 : decode prog_1_method_17_code 66 = .ok (.iload_n 2, 1) := by decide +kernel
theorem d_Fam_join_67 : decode prog_1_method_17_code 67 = .ok (.iconst 0, 1) := by decide +kernel
theorem d_Fam_join_68 : decode prog_1_method_17_code 68 = .ok (.invokevirtual 47, 3) := by decide +kernel
theorem d_Fam_join_71 : decode prog_1_method_17_code 71 = .ok (.aload 7, 2) := by decide +kernel
theorem d_Fam_join_73 : decode prog_1_method_17_code 73 = .ok (.aload 5, 2) := by decide +kernel
theorem d_Fam_join_75 : decode prog_1_method_17_code 75 = .ok (.iconst 1, 1) := by decide +kernel
theorem d_Fam_join_76 : decode prog_1_method_17_code 76 = .ok (.invokevirtual 183, 3) := by decide +kernel
theorem d_Fam_join_79 : decode prog_1_method_17_code 79 = .ok (.aload 7, 2) := by decide +kernel
theorem d_Fam_join_81 : decode prog_1_method_17_code 81 = .ok (.aload 6, 2) := by decide +kernel
theorem d_Fam_join_83 : decode prog_1_method_17_code 83 = .ok (.iconst 1, 1) := by decide +kernel
theorem d_Fam_join_84 : decode prog_1_method_17_code 84 = .ok (.aload 5, 2) := by decide +kernel
theorem d_Fam_join_86 : decode prog_1_method_17_code 86 = .ok (.invokevirtual 180, 3) := by decide +kernel
theorem d_Fam_join_89 : decode prog_1_method_17_code 89 = .ok (.iadd, 1) := by decide +kernel
theorem d_Fam_join_90 : decode prog_1_method_17_code 90 = .ok (.invokevirtual 183, 3) := by decide +kernel
theorem d_Fam_join_93 : decode prog_1_method_17_code 93 = .ok (.aload 7, 2) := by decide +kernel
theorem d_Fam_join_95 : decode prog_1_method_17_code 95 = .ok (.invokevirtual 155, 3) := by decide +kernel
theorem d_Fam_join_98 : decode prog_1_method_17_code 98 = .ok (.aload_n 0, 1) := by decide +kernel
theorem d_Fam_join_99 : decode prog_1_method_17_code 99 = .ok (.getfield 13, 3) := by decide +kernel
theorem d_Fam_join_102 : decode prog_1_method_17_code 102 = .ok (.aload 7, 2) := by decide +kernel
theorem d_Fam_join_104 : decode prog_1_method_17_code 104 = .ok (.invokevirtual 53, 3) := by decide +kernel
theorem d_Fam_join_107 : decode prog_1_method_17_code 107 = .ok (.ireturn, 1) := by decide +kernel
theorem d_Fam_tell_0 : decode prog_1_method_18_code 0 = .ok (.aload_n 3, 1) := by decide +kernel
theorem d_Fam_tell_1 : decode prog_1_method_18_code 1 = .ok (.aload_n 2, 1) := by decide +kernel
theorem d_Fam_tell_2 : decode prog_1_method_18_code 2 = .ok (.getfield 105, 3) := by decide +kernel
theorem d_Fam_tell_5 : decode prog_1_method_18_code 5 = .ok (.invokevirtual 186, 3) := by decide +kernel
theorem d_Fam_tell_8 : decode prog_1_method_18_code 8 = .ok (.istore 5, 2) := by decide +kernel
theorem d_Fam_tell_10 : decode prog_1_method_18_code 10 = .ok (.iconst 0, 1) := by decide +kernel
theorem d_Fam_tell_11 : decode prog_1_method_18_code 11 = .ok (.istore 6, 2) := by decide +kernel
theorem d_Fam_tell_13 : decode prog_1_method_18_code 13 = .ok (.iconst 0, 1) := by decide +kernel
theorem d_Fam_tell_14 : decode prog_1_method_18_code 14 = .ok (.istore 7, 2) := by decide +kernel
theorem d_Fam_tell_16 : decode prog_1_method_18_code 16 = .ok (.iload 7, 2) := by decide +kernel
theorem d_Fam_tell_18 : decode prog_1_method_18_code 18 = .ok (.iload 4, 2) := by decide +kernel
theorem d_Fam_tell_20 : decode prog_1_method_18_code 20 = .ok (.if_icmp .ge 59, 3) := by decide +kernel
theorem d_Fam_tell_23 : decode prog_1_method_18_code 23 = .ok (.aload_n 0, 1) := by decide +kernel
theorem d_Fam_tell_24 : decode prog_1_method_18_code 24 = .ok (.getfield 26, 3) := by decide +kernel
theorem d_Fam_tell_27 : decode prog_1_method_18_code 27 = .ok (.aload_n 2, 1) := by decide +kernel
theorem d_Fam_tell_28 : decode prog_1_method_18_code 28 = .ok (.aload_n 3, 1) := by decide +kernel
theorem d_Fam_tell_29 : decode prog_1_method_18_code 29 = .ok (.iload 5, 2) := by decide +kernel
theorem d_Fam_tell_31 : decode prog_1_method_18_code 31 = .ok (.iconst 1, 1) := by decide +kernel
theorem d_Fam_tell_32 : decode prog_1_method_18_code 32 = .ok (.iadd, 1) := by decide +kernel
theorem d_Fam_tell_33 : decode prog_1_method_18_code 33 = .ok (.aload_n 2, 1) := by decide +kernel
theorem d_Fam_tell_34 : decode prog_1_method_18_code 34 = .ok (.getfield 105, 3) := by decide +kernel
theorem d_Fam_tell_37 : decode prog_1_method_18_code 37 = .ok (.iload 7, 2) := by decide +kernel
theorem d_Fam_tell_39 : decode prog_1_method_18_code 39 = .ok (.iadd, 1) := by decide +kernel
theorem d_Fam_tell_40 : decode prog_1_method_18_code 40 = .ok (.invokevirtual 137, 3) := by decide +kernel
theorem d_Fam_tell_43 : decode prog_1_method_18_code 43 = .ok (.istore 8, 2) := by decide +kernel
theorem d_Fam_tell_45 : decode prog_1_method_18_code 45 = .ok (.iload 8, 2) := by decide +kernel
theorem d_Fam_tell_47 : decode prog_1_method_18_code 47 = .ok (.ifCond .ne 9, 3) := by decide +kernel
theorem d_Fam_tell_50 : decode prog_1_method_18_code 50 = .ok (.bipush (-2), 2) := by decide +kernel
theorem d_Fam_tell_52 : decode prog_1_method_18_code 52 = .ok (.iload 7, 2) := by decide +kernel
theorem d_Fam_tell_54 : decode prog_1_method_18_code 54 = .ok (.isub, 1) := by decide +kernel
theorem d_Fam_tell_55 : decode prog_1_method_18_code 55 = .ok (.ireturn, 1) := by decide +kernel
theorem d_Fam_tell_56 : decode prog_1_method_18_code 56 = .ok (.iload 8, 2) := by decide +kernel
theorem d_Fam_tell_58 : decode prog_1_method_18_code 58 = .ok (.iconst 2, 1) := by decide +kernel
theorem d_Fam_tell_59 : decode prog_1_method_18_code 59 = .ok (.if_icmp .ne 6, 3) := by decide +kernel
theorem d_Fam_tell_62 : decode prog_1_method_18_code 62 = .ok (.iinc 6 1, 3) := by decide +kernel
theorem d_Fam_tell_65 : decode prog_1_method_18_code 65 = .ok (.aload_n 3, 1) := by decide +kernel
theorem d_Fam_tell_66 : decode prog_1_method_18_code 66 = .ok (.iload 5, 2) := by decide +kernel
theorem d_Fam_tell_68 : decode prog_1_method_18_code 68 = .ok (.invokevirtual 189, 3) := by decide +kernel
theorem d_Fam_tell_71 : decode prog_1_method_18_code 71 = .ok (.istore 5, 2) := by decide +kernel
theorem d_Fam_tell_73 : decode prog_1_method_18_code 73 = .ok (.iinc 7 1, 3) := by decide +kernel
theorem d_Fam_tell_76 : decode prog_1_method_18_code 76 = .ok (.goto (-60), 3) := by decide +kernel
theorem d_Fam_tell_79 : decode prog_1_method_18_code 79 = .ok (.aload_n 1, 1) := by decide +kernel
theorem d_Fam_tell_80 : decode prog_1_method_18_code 80 = .ok (.aload_n 3, 1) := by decide +kernel
theorem d_Fam_tell_81 : decode prog_1_method_18_code 81 = .ok (.putfield 95, 3) := by decide +kernel
theorem d_Fam_tell_84 : decode prog_1_method_18_code 84 = .ok (.aload_n 1, 1) := by decide +kernel
theorem d_Fam_tell_85 : decode prog_1_method_18_code 85 = .ok (.iload 4, 2) := by decide +kernel
theorem d_Fam_tell_87 : decode prog_1_method_18_code 87 = .ok (.putfield 121, 3) := by decide +kernel
theorem d_Fam_tell_90 : decode prog_1_method_18_code 90 = .ok (.aload_n 1, 1) := by decide +kernel
theorem d_Fam_tell_91 : decode prog_1_method_18_code 91 = .ok (.iload 6, 2) := by decide +kernel
theorem d_Fam_tell_93 : decode prog_1_method_18_code 93 = .ok (.putfield 141, 3) := by decide +kernel
theorem d_Fam_tell_96 : decode prog_1_method_18_code 96 = .ok (.iload 6, 2) := by decide +kernel
theorem d_Fam_tell_98 : decode prog_1_method_18_code 98 = .ok (.ireturn, 1) := by decide +kernel
theorem d_Mod_init_0 : decode prog_9_method_1_code 0 = .ok (.aload_n 0, 1) := by decide +kernel
theorem d_Mod_init_1 : decode prog_9_method_1_code 1 = .ok (.invokespecial 1, 3) := by decide +kernel
theorem d_Mod_init_4 : decode prog_9_method_1_code 4 = .ok (.aload_n 0, 1) := by decide +kernel
theorem d_Mod_init_5 : decode prog_9_method_1_code 5 = .ok (.sipush 1024, 3) := by decide +kernel
theorem d_Mod_init_8 : decode prog_9_method_1_code 8 = .ok (.newarray .int, 2) := by decide +kernel
theorem d_Mod_init_10 : decode prog_9_method_1_code 10 = .ok (.putfield 7, 3) := by decide +kernel
theorem d_Mod_init_13 : decode prog_9_method_1_code 13 = .ok (.aload_n 0, 1) := by decide +kernel
theorem d_Mod_init_14 : decode prog_9_method_1_code 14 = .ok (.sipush 1024, 3) := by decide +kernel
theorem d_Mod_init_17 : decode prog_9_method_1_code 17 = .ok (.newarray .int, 2) := by decide +kernel
theorem d_Mod_init_19 : decode prog_9_method_1_code 19 = .ok (.putfield 13, 3) := by decide +kernel
end
section
/-! decode rows -/
theorem d_Mod_init_22 : decode prog_9_method_1_code 22 = .ok (.aload_n 0, 1) := by decide +kernel
theorem d_Mod_init_23 : decode prog_9_method_1_code 23 = .ok (.sipush 1024, 3) := by decide +kernel
theorem d_Mod_init_26 : decode prog_9_method_1_code 26 = .ok (.newarray .int, 2) := by decide +kernel
theorem d_Mod_init_28 : decode prog_9_method_1_code 28 = .ok (.putfield 16, 3) := by decide +kernel
theorem d_Mod_init_31 : decode prog_9_method_1_code 31 = .ok (.aload_n 0, 1) := by decide +kernel
theorem d_Mod_init_32 : decode prog_9_method_1_code 32 = .ok (.sipush 1024, 3) := by decide +kernel
theorem d_Mod_init_35 : decode prog_9_method_1_code 35 = .ok (.newarray .int, 2) := by decide +kernel
theorem d_Mod_init_37 : decode prog_9_method_1_code 37 = .ok (.putfield 19, 3) := by decide +kernel
theorem d_Mod_init_40 : decode prog_9_method_1_code 40 = .ok (.aload_n 0, 1) := by decide +kernel
theorem d_Mod_init_41 : decode prog_9_method_1_code 41 = .ok (.sipush 1024, 3) := by decide +kernel
theorem d_Mod_init_44 : decode prog_9_method_1_code 44 = .ok (.newarray .int, 2) := by decide +kernel
theorem d_Mod_init_46 : decode prog_9_method_1_code 46 = .ok (.putfield 22, 3) := by decide +kernel
theorem d_Mod_init_49 : decode prog_9_method_1_code 49 = .ok (.aload_n 0, 1) := by decide +kernel
theorem d_Mod_init_50 : decode prog_9_method_1_code 50 = .ok (.sipush 1500, 3) := by decide +kernel
theorem d_Mod_init_53 : decode prog_9_method_1_code 53 = .ok (.newarray .int, 2) := by decide +kernel
theorem d_Mod_init_55 : decode prog_9_method_1_code 55 = .ok (.putfield 25, 3) := by decide +kernel
theorem d_Mod_init_58 : decode prog_9_method_1_code 58 = .ok (.aload_n 0, 1) := by decide +kernel
theorem d_Mod_init_59 : decode prog_9_method_1_code 59 = .ok (.bipush 100, 2) := by decide +kernel
theorem d_Mod_init_61 : decode prog_9_method_1_code 61 = .ok (.newarray .int, 2) := by decide +kernel
theorem d_Mod_init_63 : decode prog_9_method_1_code 63 = .ok (.putfield 28, 3) := by decide +kernel
theorem d_Mod_init_66 : decode prog_9_method_1_code 66 = .ok (.aload_n 0, 1) := by decide +kernel
theorem d_Mod_init_67 : decode prog_9_method_1_code 67 = .ok (.bipush 100, 2) := by decide +kernel
theorem d_Mod_init_69 : decode prog_9_method_1_code 69 = .ok (.newarray .int, 2) := by decide +kernel
theorem d_Mod_init_71 : decode prog_9_method_1_code 71 = .ok (.putfield 31, 3) := by decide +kernel
theorem d_Mod_init_74 : decode prog_9_method_1_code 74 = .ok (.aload_n 0, 1) := by decide +kernel
theorem d_Mod_init_75 : decode prog_9_method_1_code 75 = .ok (.bipush 100, 2) := by decide +kernel
theorem d_Mod_init_77 : decode prog_9_method_1_code 77 = .ok (.newarray .int, 2) := by decide +kernel
theorem d_Mod_init_79 : decode prog_9_method_1_code 79 = .ok (.putfield 34, 3) := by decide +kernel
theorem d_Mod_init_82 : decode prog_9_method_1_code 82 = .ok (.aload_n 0, 1) := by decide +kernel
theorem d_Mod_init_83 : decode prog_9_method_1_code 83 = .ok (.bipush 100, 2) := by decide +kernel
theorem d_Mod_init_85 : decode prog_9_method_1_code 85 = .ok (.newarray .int, 2) := by decide +kernel
theorem d_Mod_init_87 : decode prog_9_method_1_code 87 = .ok (.putfield 37, 3) := by decide +kernel
theorem d_Mod_init_90 : decode prog_9_method_1_code 90 = .ok (.aload_n 0, 1) := by decide +kernel
theorem d_Mod_init_91 : decode prog_9_method_1_code 91 = .ok (.bipush 100, 2) := by decide +kernel
theorem d_Mod_init_93 : decode prog_9_method_1_code 93 = .ok (.newarray .int, 2) := by decide +kernel
theorem d_Mod_init_95 : decode prog_9_method_1_code 95 = .ok (.putfield 40, 3) := by decide +kernel
theorem d_Mod_init_98 : decode prog_9_method_1_code 98 = .ok (.aload_n 0, 1) := by decide +kernel
theorem d_Mod_init_99 : decode prog_9_method_1_code 99 = .ok (.bipush 100, 2) := by decide +kernel
theorem d_Mod_init_101 : decode prog_9_method_1_code 101 = .ok (.newarray .int, 2) := by decide +kernel
theorem d_Mod_init_103 : decode prog_9_method_1_code 103 = .ok (.putfield 43, 3) := by decide +kernel
theorem d_Mod_init_106 : decode prog_9_method_1_code 106 = .ok (.aload_n 0, 1) := by decide +kernel
theorem d_Mod_init_107 : decode prog_9_method_1_code 107 = .ok (.bipush 64, 2) := by decide +kernel
theorem d_Mod_init_109 : decode prog_9_method_1_code 109 = .ok (.newarray .int, 2) := by decide +kernel
theorem d_Mod_init_111 : decode prog_9_method_1_code 111 = .ok (.putfield 46, 3) := by decide +kernel
theorem d_Mod_init_114 : decode prog_9_method_1_code 114 = .ok (.return_, 1) := by decide +kernel
theorem d_Mod_wide_0 : decode prog_9_method_2_code 0 = .ok (.iconst 2, 1) := by decide +kernel
theorem d_Mod_wide_1 : decode prog_9_method_2_code 1 = .ok (.aload_n 0, 1) := by decide +kernel
theorem d_Mod_wide_2 : decode prog_9_method_2_code 2 = .ok (.arraylength, 1) := by decide +kernel
theorem d_Mod_wide_3 : decode prog_9_method_2_code 3 = .ok (.imul, 1) := by decide +kernel
theorem d_Mod_wide_4 : decode prog_9_method_2_code 4 = .ok (.newarray .int, 2) := by decide +kernel
theorem d_Mod_wide_6 : decode prog_9_method_2_code 6 = .ok (.astore_n 1, 1) := by decide +kernel
theorem d_Mod_wide_7 : decode prog_9_method_2_code 7 = .ok (.aload_n 0, 1) := by decide +kernel
theorem d_Mod_wide_8 : decode prog_9_method_2_code 8 = .ok (.iconst 0, 1) := by decide +kernel
theorem d_Mod_wide_9 : decode prog_9_method_2_code 9 = .ok (.aload_n 1, 1) := by decide +kernel
theorem d_Mod_wide_10 : decode prog_9_method_2_code 10 = .ok (.iconst 0, 1) := by decide +kernel
theorem d_Mod_wide_11 : decode prog_9_method_2_code 11 = .ok (.aload_n 0, 1) := by decide +kernel
theorem d_Mod_wide_12 : decode prog_9_method_2_code 12 = .ok (.arraylength, 1) := by decide +kernel
theorem d_Mod_wide_13 : decode prog_9_method_2_code 13 = .ok (.invokestatic 49, 3) := by decide +kernel
theorem d_Mod_wide_16 : decode prog_9_method_2_code 16 = .ok (.aload_n 1, 1) := by decide +kernel
theorem d_Mod_wide_17 : decode prog_9_method_2_code 17 = .ok (.areturn, 1) := by decide +kernel
theorem d_Mod_add_0 : decode prog_9_method_3_code 0 = .ok (.aload_n 0, 1) := by decide +kernel
theorem d_Mod_add_1 : decode prog_9_method_3_code 1 = .ok (.getfield 55, 3) := by decide +kernel
theorem d_Mod_add_4 : decode prog_9_method_3_code 4 = .ok (.aload_n 0, 1) := by decide +kernel
theorem d_Mod_add_5 : decode prog_9_method_3_code 5 = .ok (.getfield 7, 3) := by decide +kernel
theorem d_Mod_add_8 : decode prog_9_method_3_code 8 = .ok (.arraylength, 1) := by decide +kernel
theorem d_Mod_add_9 : decode prog_9_method_3_code 9 = .ok (.if_icmp .ne 58, 3) := by decide +kernel
theorem d_Mod_add_12 : decode prog_9_method_3_code 12 = .ok (.aload_n 0, 1) := by decide +kernel
theorem d_Mod_add_13 : decode prog_9_method_3_code 13 = .ok (.aload_n 0, 1) := by decide +kernel
theorem d_Mod_add_14 : decode prog_9_method_3_code 14 = .ok (.getfield 7, 3) := by decide +kernel
theorem d_Mod_add_17 : decode prog_9_method_3_code 17 = .ok (.invokestatic 59, 3) := by decide +kernel
theorem d_Mod_add_20 : decode prog_9_method_3_code 20 = .ok (.putfield 7, 3) := by decide +kernel
theorem d_Mod_add_23 : decode prog_9_method_3_code 23 = .ok (.aload_n 0, 1) := by decide +kernel
theorem d_Mod_add_24 : decode prog_9_method_3_code 24 = .ok (.aload_n 0, 1) := by decide +kernel
theorem d_Mod_add_25 : decode prog_9_method_3_code 25 = .ok (.getfield 13, 3) := by decide +kernel
theorem d_Mod_add_28 : decode prog_9_method_3_code 28 = .ok (.invokestatic 59, 3) := by decide +kernel
theorem d_Mod_add_31 : decode prog_9_method_3_code 31 = .ok (.putfield 13, 3) := by decide +kernel
theorem d_Mod_add_34 : decode prog_9_method_3_code 34 = .ok (.aload_n 0, 1) := by decide +kernel
theorem d_Mod_add_35 : decode prog_9_method_3_code 35 = .ok (.aload_n 0, 1) := by decide +kernel
theorem d_Mod_add_36 : decode prog_9_method_3_code 36 = .ok (.getfield 16, 3) := by decide +kernel
theorem d_Mod_add_39 : decode prog_9_method_3_code 39 = .ok (.invokestatic 59, 3) := by decide +kernel
theorem d_Mod_add_42 : decode prog_9_method_3_code 42 = .ok (.putfield 16, 3) := by decide +kernel
theorem d_Mod_add_45 : decode prog_9_method_3_code 45 = .ok (.aload_n 0, 1) := by decide +kernel
theorem d_Mod_add_46 : decode prog_9_method_3_code 46 = .ok (.aload_n 0, 1) := by decide +kernel
theorem d_Mod_add_47 : decode prog_9_method_3_code 47 = .ok (.getfield 19, 3) := by decide +kernel
theorem d_Mod_add_50 : decode prog_9_method_3_code 50 = .ok (.invokestatic 59, 3) := by decide +kernel
theorem d_Mod_add_53 : decode prog_9_method_3_code 53 = .ok (.putfield 19, 3) := by decide +kernel
theorem d_Mod_add_56 : decode prog_9_method_3_code 56 = .ok (.aload_n 0, 1) := by decide +kernel
theorem d_Mod_add_57 : decode prog_9_method_3_code 57 = .ok (.aload_n 0, 1) := by decide +kernel
theorem d_Mod_add_58 : decode prog_9_method_3_code 58 = .ok (.getfield 22, 3) := by decide +kernel
theorem d_Mod_add_61 : decode prog_9_method_3_code 61 = .ok (.invokestatic 59, 3) := by decide +kernel
theorem d_Mod_add_64 : decode prog_9_method_3_code 64 = .ok (.putfield 22, 3) := by decide +kernel
theorem d_Mod_add_67 : decode prog_9_method_3_code 67 = .ok (.aload_n 0, 1) := by decide +kernel
theorem d_Mod_add_68 : decode prog_9_method_3_code 68 = .ok (.getfield 7, 3) := by decide +kernel
theorem d_Mod_add_71 : decode prog_9_method_3_code 71 = .ok (.aload_n 0, 1) := by decide +kernel
theorem d_Mod_add_72 : decode prog_9_method_3_code 72 = .ok (.getfield 55, 3) := by decide +kernel
theorem d_Mod_add_75 : decode prog_9_method_3_code 75 = .ok (.iload_n 1, 1) := by decide +kernel
theorem d_Mod_add_76 : decode prog_9_method_3_code 76 = .ok (.iastore, 1) := by decide +kernel
theorem d_Mod_add_77 : decode prog_9_method_3_code 77 = .ok (.aload_n 0, 1) := by decide +kernel
theorem d_Mod_add_78 : decode prog_9_method_3_code 78 = .ok (.getfield 13, 3) := by decide +kernel
theorem d_Mod_add_81 : decode prog_9_method_3_code 81 = .ok (.aload_n 0, 1) := by decide +kernel
theorem d_Mod_add_82 : decode prog_9_method_3_code 82 = .ok (.getfield 55, 3) := by decide +kernel
theorem d_Mod_add_85 : decode prog_9_method_3_code 85 = .ok (.iload_n 2, 1) := by decide +kernel
theorem d_Mod_add_86 : decode prog_9_method_3_code 86 = .ok (.iastore, 1) := by decide +kernel
theorem d_Mod_add_87 : decode prog_9_method_3_code 87 = .ok (.aload_n 0, 1) := by decide +kernel
theorem d_Mod_add_88 : decode prog_9_method_3_code 88 = .ok (.getfield 16, 3) := by decide +kernel
theorem d_Mod_add_91 : decode prog_9_method_3_code 91 = .ok (.aload_n 0, 1) := by decide +kernel
theorem d_Mod_add_92 : decode prog_9_method_3_code 92 = .ok (.getfield 55, 3) := by decide +kernel
theorem d_Mod_add_95 : decode prog_9_method_3_code 95 = .ok (.iload_n 3, 1) := by decide +kernel
theorem d_Mod_add_96 : decode prog_9_method_3_code 96 = .ok (.iastore, 1) := by decide +kernel
theorem d_Mod_add_97 : decode prog_9_method_3_code 97 = .ok (.aload_n 0, 1) := by decide +kernel
theorem d_Mod_add_98 : decode prog_9_method_3_code 98 = .ok (.getfield 19, 3) := by decide +kernel
theorem d_Mod_add_101 : decode prog_9_method_3_code 101 = .ok (.aload_n 0, 1) := by decide +kernel
theorem d_Mod_add_102 : decode prog_9_method_3_code 102 = .ok (.getfield 55, 3) := by decide +kernel
theorem d_Mod_add_105 : decode prog_9_method_3_code 105 = .ok (.iconst 1, 1) := by decide +kernel
theorem d_Mod_add_106 : decode prog_9_method_3_code 106 = .ok (.iastore, 1) := by decide +kernel
theorem d_Mod_add_107 : decode prog_9_method_3_code 107 = .ok (.aload_n 0, 1) := by decide +kernel
theorem d_Mod_add_108 : decode prog_9_method_3_code 108 = .ok (.dup, 1) := by decide +kernel
theorem d_Mod_add_109 : decode prog_9_method_3_code 109 = .ok (.getfield 55, 3) := by decide +kernel
theorem d_Mod_add_112 : decode prog_9_method_3_code 112 = .ok (.dup_x1, 1) := by decide +kernel
theorem d_Mod_add_113 : decode prog_9_method_3_code 113 = .ok (.iconst 1, 1) := by decide +kernel
theorem d_Mod_add_114 : decode prog_9_method_3_code 114 = .ok (.iadd, 1) := by decide +kernel
theorem d_Mod_add_115 : decode prog_9_method_3_code 115 = .ok (.putfield 55, 3) := by decide +kernel
theorem d_Mod_add_118 : decode prog_9_method_3_code 118 = .ok (.ireturn, 1) := by decide +kernel
theorem d_Mod_second_0 : decode prog_9_method_4_code 0 = .ok (.iload_n 1, 1) := by decide +kernel
theorem d_Mod_second_1 : decode prog_9_method_4_code 1 = .ok (.iconst 1, 1) := by decide +kernel
theorem d_Mod_second_2 : decode prog_9_method_4_code 2 = .ok (.iadd, 1) := by decide +kernel
theorem d_Mod_second_3 : decode prog_9_method_4_code 3 = .ok (.aload_n 0, 1) := by decide +kernel
theorem d_Mod_second_4 : decode prog_9_method_4_code 4 = .ok (.getfield 19, 3) := by decide +kernel
theorem d_Mod_second_7 : decode prog_9_method_4_code 7 = .ok (.iload_n 1, 1) := by decide +kernel
theorem d_Mod_second_8 : decode prog_9_method_4_code 8 = .ok (.iconst 1, 1) := by decide +kernel
theorem d_Mod_second_9 : decode prog_9_method_4_code 9 = .ok (.iadd, 1) := by decide +kernel
theorem d_Mod_second_10 : decode prog_9_method_4_code 10 = .ok (.iaload, 1) := by decide +kernel
theorem d_Mod_second_11 : decode prog_9_method_4_code 11 = .ok (.iadd, 1) := by decide +kernel
theorem d_Mod_second_12 : decode prog_9_method_4_code 12 = .ok (.ireturn, 1) := by decide +kernel
theorem d_Mod_copy_0 : decode prog_9_method_5_code 0 = .ok (.iload_n 1, 1) := by decide +kernel
theorem d_Mod_copy_1 : decode prog_9_method_5_code 1 = .ok (.aload_n 0, 1) := by decide +kernel
theorem d_Mod_copy_2 : decode prog_9_method_5_code 2 = .ok (.getfield 19, 3) := by decide +kernel
theorem d_Mod_copy_5 : decode prog_9_method_5_code 5 = .ok (.iload_n 1, 1) := by decide +kernel
theorem d_Mod_copy_6 : decode prog_9_method_5_code 6 = .ok (.iaload, 1) := by decide +kernel
theorem d_Mod_copy_7 : decode prog_9_method_5_code 7 = .ok (.iadd, 1) := by decide +kernel
theorem d_Mod_copy_8 : decode prog_9_method_5_code 8 = .ok (.istore_n 2, 1) := by decide +kernel
theorem d_Mod_copy_9 : decode prog_9_method_5_code 9 = .ok (.iload_n 1, 1) := by decide +kernel
theorem d_Mod_copy_10 : decode prog_9_method_5_code 10 = .ok (.istore_n 3, 1) := by decide +kernel
theorem d_Mod_copy_11 : decode prog_9_method_5_code 11 = .ok (.iload_n 3, 1) := by decide +kernel
theorem d_Mod_copy_12 : decode prog_9_method_5_code 12 = .ok (.iload_n 2, 1) := by decide +kernel
theorem d_Mod_copy_13 : decode prog_9_method_5_code 13 = .ok (.if_icmp .ge 46, 3) := by decide +kernel
theorem d_Mod_copy_16 : decode prog_9_method_5_code 16 = .ok (.aload_n 0, 1) := by decide +kernel
theorem d_Mod_copy_17 : decode prog_9_method_5_code 17 = .ok (.aload_n 0, 1) := by decide +kernel
theorem d_Mod_copy_18 : decode prog_9_method_5_code 18 = .ok (.getfield 7, 3) := by decide +kernel
theorem d_Mod_copy_21 : decode prog_9_method_5_code 21 = .ok (.iload_n 3, 1) := by decide +kernel
theorem d_Mod_copy_22 : decode prog_9_method_5_code 22 = .ok (.iaload, 1) := by decide +kernel
theorem d_Mod_copy_23 : decode prog_9_method_5_code 23 = .ok (.aload_n 0, 1) := by decide +kernel
theorem d_Mod_copy_24 : decode prog_9_method_5_code 24 = .ok (.getfield 13, 3) := by decide +kernel
theorem d_Mod_copy_27 : decode prog_9_method_5_code 27 = .ok (.iload_n 3, 1) := by decide +kernel
theorem d_Mod_copy_28 : decode prog_9_method_5_code 28 = .ok (.iaload, 1) := by decide +kernel
theorem d_Mod_copy_29 : decode prog_9_method_5_code 29 = .ok (.aload_n 0, 1) := by decide +kernel
theorem d_Mod_copy_30 : decode prog_9_method_5_code 30 = .ok (.getfield 16, 3) := by decide +kernel
theorem d_Mod_copy_33 : decode prog_9_method_5_code 33 = .ok (.iload_n 3, 1) := by decide +kernel
theorem d_Mod_copy_34 : decode prog_9_method_5_code 34 = .ok (.iaload, 1) := by decide +kernel
theorem d_Mod_copy_35 : decode prog_9_method_5_code 35 = .ok (.invokevirtual 63, 3) := by decide +kernel
theorem d_Mod_copy_38 : decode prog_9_method_5_code 38 = .ok (.istore 4, 2) := by decide +kernel
theorem d_Mod_copy_40 : decode prog_9_method_5_code 40 = .ok (.aload_n 0, 1) := by decide +kernel
theorem d_Mod_copy_41 : decode prog_9_method_5_code 41 = .ok (.getfield 19, 3) := by decide +kernel
theorem d_Mod_copy_44 : decode prog_9_method_5_code 44 = .ok (.iload 4, 2) := by decide +kernel
theorem d_Mod_copy_46 : decode prog_9_method_5_code 46 = .ok (.aload_n 0, 1) := by decide +kernel
theorem d_Mod_copy_47 : decode prog_9_method_5_code 47 = .ok (.getfield 19, 3) := by decide +kernel
theorem d_Mod_copy_50 : decode prog_9_method_5_code 50 = .ok (.iload_n 3, 1) := by decide +kernel
theorem d_Mod_copy_51 : decode prog_9_method_5_code 51 = .ok (.iaload, 1) := by decide +kernel
theorem d_Mod_copy_52 : decode prog_9_method_5_code 52 = .ok (.iastore, 1) := by decide +kernel
theorem d_Mod_copy_53 : decode prog_9_method_5_code 53 = .ok (.iinc 3 1, 3) := by decide +kernel
theorem d_Mod_copy_56 : decode prog_9_method_5_code 56 = .ok (.goto (-45), 3) := by decide +kernel
theorem d_Mod_copy_59 : decode prog_9_method_5_code 59 = .ok (.return_, 1) := by decide +kernel
theorem d_Mod_measure_0 : decode prog_9_method_6_code 0 = .ok (.aload_n 0, 1) := by decide +kernel
theorem d_Mod_measure_1 : decode prog_9_method_6_code 1 = .ok (.getfield 55, 3) := by decide +kernel
theorem d_Mod_measure_4 : decode prog_9_method_6_code 4 = .ok (.iconst 1, 1) := by decide +kernel
theorem d_Mod_measure_5 : decode prog_9_method_6_code 5 = .ok (.isub, 1) := by decide +kernel
theorem d_Mod_measure_6 : decode prog_9_method_6_code 6 = .ok (.istore_n 2, 1) := by decide +kernel
theorem d_Mod_measure_7 : decode prog_9_method_6_code 7 = .ok (.iload_n 2, 1) := by decide +kernel
theorem d_Mod_measure_8 : decode prog_9_method_6_code 8 = .ok (.iload_n 1, 1) := by decide +kernel
theorem d_Mod_measure_9 : decode prog_9_method_6_code 9 = .ok (.if_icmp .lt 50, 3) := by decide +kernel
theorem d_Mod_measure_12 : decode prog_9_method_6_code 12 = .ok (.iload_n 2, 1) := by decide +kernel
theorem d_Mod_measure_13 : decode prog_9_method_6_code 13 = .ok (.iconst 1, 1) := by decide +kernel
theorem d_Mod_measure_14 : decode prog_9_method_6_code 14 = .ok (.iadd, 1) := by decide +kernel
theorem d_Mod_measure_15 : decode prog_9_method_6_code 15 = .ok (.istore_n 3, 1) := by decide +kernel
theorem d_Mod_measure_16 : decode prog_9_method_6_code 16 = .ok (.aload_n 0, 1) := by decide +kernel
theorem d_Mod_measure_17 : decode prog_9_method_6_code 17 = .ok (.getfield 7, 3) := by decide +kernel
theorem d_Mod_measure_20 : decode prog_9_method_6_code 20 = .ok (.iload_n 2, 1) := by decide +kernel
theorem d_Mod_measure_21 : decode prog_9_method_6_code 21 = .ok (.iaload, 1) := by decide +kernel
theorem d_Mod_measure_22 : decode prog_9_method_6_code 22 = .ok (.iconst 4, 1) := by decide +kernel
theorem d_Mod_measure_23 : decode prog_9_method_6_code 23 = .ok (.if_icmp .lt 21, 3) := by decide +kernel
theorem d_Mod_measure_26 : decode prog_9_method_6_code 26 = .ok (.iload_n 3, 1) := by decide +kernel
theorem d_Mod_measure_27 : decode prog_9_method_6_code 27 = .ok (.aload_n 0, 1) := by decide +kernel
theorem d_Mod_measure_28 : decode prog_9_method_6_code 28 = .ok (.getfield 19, 3) := by decide +kernel
theorem d_Mod_measure_31 : decode prog_9_method_6_code 31 = .ok (.iload_n 3, 1) := by decide +kernel
theorem d_Mod_measure_32 : decode prog_9_method_6_code 32 = .ok (.iaload, 1) := by decide +kernel
theorem d_Mod_measure_33 : decode prog_9_method_6_code 33 = .ok (.iadd, 1) := by decide +kernel
theorem d_Mod_measure_34 : decode prog_9_method_6_code 34 = .ok (.istore_n 3, 1) := by decide +kernel
theorem d_Mod_measure_35 : decode prog_9_method_6_code 35 = .ok (.iload_n 3, 1) := by decide +kernel
theorem d_Mod_measure_36 : decode prog_9_method_6_code 36 = .ok (.aload_n 0, 1) := by decide +kernel
theorem d_Mod_measure_37 : decode prog_9_method_6_code 37 = .ok (.getfield 19, 3) := by decide +kernel
theorem d_Mod_measure_40 : decode prog_9_method_6_code 40 = .ok (.iload_n 3, 1) := by decide +kernel
theorem d_Mod_measure_41 : decode prog_9_method_6_code 41 = .ok (.iaload, 1) := by decide +kernel
theorem d_Mod_measure_42 : decode prog_9_method_6_code 42 = .ok (.iadd, 1) := by decide +kernel
theorem d_Mod_measure_43 : decode prog_9_method_6_code 43 = .ok (.istore_n 3, 1) := by decide +kernel
theorem d_Mod_measure_44 : decode prog_9_method_6_code 44 = .ok (.aload_n 0, 1) := by decide +kernel
theorem d_Mod_measure_45 : decode prog_9_method_6_code 45 = .ok (.getfield 19, 3) := by decide +kernel
theorem d_Mod_measure_48 : decode prog_9_method_6_code 48 = .ok (.iload_n 2, 1) := by decide +kernel
theorem d_Mod_measure_49 : decode prog_9_method_6_code 49 = .ok (.iload_n 3, 1) := by decide +kernel
theorem d_Mod_measure_50 : decode prog_9_method_6_code 50 = .ok (.iload_n 2, 1) := by decide +kernel
theorem d_Mod_measure_51 : decode prog_9_method_6_code 51 = .ok (.isub, 1) := by decide +kernel
theorem d_Mod_measure_52 : decode prog_9_method_6_code 52 = .ok (.iastore, 1) := by decide +kernel
theorem d_Mod_measure_53 : decode prog_9_method_6_code 53 = .ok (.iinc 2 (-1), 3) := by decide +kernel
theorem d_Mod_measure_56 : decode prog_9_method_6_code 56 = .ok (.goto (-49), 3) := by decide +kernel
theorem d_Mod_measure_59 : decode prog_9_method_6_code 59 = .ok (.return_, 1) := by decide +kernel
theorem d_Mod_walk_0 : decode prog_9_method_7_code 0 = .ok (.aload_n 0, 1) := by decide +kernel
theorem d_Mod_walk_1 : decode prog_9_method_7_code 1 = .ok (.getfield 22, 3) := by decide +kernel
theorem d_Mod_walk_4 : decode prog_9_method_7_code 4 = .ok (.iload_n 1, 1) := by decide +kernel
theorem d_Mod_walk_5 : decode prog_9_method_7_code 5 = .ok (.iconst 0, 1) := by decide +kernel
theorem d_Mod_walk_6 : decode prog_9_method_7_code 6 = .ok (.iastore, 1) := by decide +kernel
theorem d_Mod_walk_7 : decode prog_9_method_7_code 7 = .ok (.iload_n 1, 1) := by decide +kernel
theorem d_Mod_walk_8 : decode prog_9_method_7_code 8 = .ok (.istore_n 2, 1) := by decide +kernel
theorem d_Mod_walk_9 : decode prog_9_method_7_code 9 = .ok (.iload_n 2, 1) := by decide +kernel
theorem d_Mod_walk_10 : decode prog_9_method_7_code 10 = .ok (.iload_n 1, 1) := by decide +kernel
theorem d_Mod_walk_11 : decode prog_9_method_7_code 11 = .ok (.aload_n 0, 1) := by decide +kernel
theorem d_Mod_walk_12 : decode prog_9_method_7_code 12 = .ok (.getfield 19, 3) := by decide +kernel
theorem d_Mod_walk_15 : decode prog_9_method_7_code 15 = .ok (.iload_n 1, 1) := by decide +kernel
theorem d_Mod_walk_16 : decode prog_9_method_7_code 16 = .ok (.iaload, 1) := by decide +kernel
theorem d_Mod_walk_17 : decode prog_9_method_7_code 17 = .ok (.iadd, 1) := by decide +kernel
theorem d_Mod_walk_18 : decode prog_9_method_7_code 18 = .ok (.if_icmp .ge 70, 3) := by decide +kernel
theorem d_Mod_walk_21 : decode prog_9_method_7_code 21 = .ok (.aload_n 0, 1) := by decide +kernel
theorem d_Mod_walk_22 : decode prog_9_method_7_code 22 = .ok (.getfield 7, 3) := by decide +kernel
theorem d_Mod_walk_25 : decode prog_9_method_7_code 25 = .ok (.iload_n 2, 1) := by decide +kernel
theorem d_Mod_walk_26 : decode prog_9_method_7_code 26 = .ok (.iaload, 1) := by decide +kernel
theorem d_Mod_walk_27 : decode prog_9_method_7_code 27 = .ok (.iconst 4, 1) := by decide +kernel
theorem d_Mod_walk_28 : decode prog_9_method_7_code 28 = .ok (.if_icmp .lt 54, 3) := by decide +kernel
theorem d_Mod_walk_31 : decode prog_9_method_7_code 31 = .ok (.aload_n 0, 1) := by decide +kernel
theorem d_Mod_walk_32 : decode prog_9_method_7_code 32 = .ok (.getfield 22, 3) := by decide +kernel
theorem d_Mod_walk_35 : decode prog_9_method_7_code 35 = .ok (.iload_n 2, 1) := by decide +kernel
theorem d_Mod_walk_36 : decode prog_9_method_7_code 36 = .ok (.iconst 1, 1) := by decide +kernel
theorem d_Mod_walk_37 : decode prog_9_method_7_code 37 = .ok (.iadd, 1) := by decide +kernel
theorem d_Mod_walk_38 : decode prog_9_method_7_code 38 = .ok (.aload_n 0, 1) := by decide +kernel
theorem d_Mod_walk_39 : decode prog_9_method_7_code 39 = .ok (.getfield 22, 3) := by decide +kernel
theorem d_Mod_walk_42 : decode prog_9_method_7_code 42 = .ok (.iload_n 2, 1) := by decide +kernel
theorem d_Mod_walk_43 : decode prog_9_method_7_code 43 = .ok (.iaload, 1) := by decide +kernel
theorem d_Mod_walk_44 : decode prog_9_method_7_code 44 = .ok (.iastore, 1) := by decide +kernel
theorem d_Mod_walk_45 : decode prog_9_method_7_code 45 = .ok (.aload_n 0, 1) := by decide +kernel
theorem d_Mod_walk_46 : decode prog_9_method_7_code 46 = .ok (.getfield 22, 3) := by decide +kernel
theorem d_Mod_walk_49 : decode prog_9_method_7_code 49 = .ok (.aload_n 0, 1) := by decide +kernel
theorem d_Mod_walk_50 : decode prog_9_method_7_code 50 = .ok (.iload_n 2, 1) := by decide +kernel
theorem d_Mod_walk_51 : decode prog_9_method_7_code 51 = .ok (.invokevirtual 67, 3) := by decide +kernel
theorem d_Mod_walk_54 : decode prog_9_method_7_code 54 = .ok (.aload_n 0, 1) := by decide +kernel
theorem d_Mod_walk_55 : decode prog_9_method_7_code 55 = .ok (.getfield 7, 3) := by decide +kernel
theorem d_Mod_walk_58 : decode prog_9_method_7_code 58 = .ok (.iload_n 2, 1) := by decide +kernel
theorem d_Mod_walk_59 : decode prog_9_method_7_code 59 = .ok (.iaload, 1) := by decide +kernel
theorem d_Mod_walk_60 : decode prog_9_method_7_code 60 = .ok (.iconst 4, 1) := by decide +kernel
theorem d_Mod_walk_61 : decode prog_9_method_7_code 61 = .ok (.if_icmp .ne 12, 3) := by decide +kernel
theorem d_Mod_walk_64 : decode prog_9_method_7_code 64 = .ok (.aload_n 0, 1) := by decide +kernel
theorem d_Mod_walk_65 : decode prog_9_method_7_code 65 = .ok (.getfield 22, 3) := by decide +kernel
theorem d_Mod_walk_68 : decode prog_9_method_7_code 68 = .ok (.iload_n 2, 1) := by decide +kernel
theorem d_Mod_walk_69 : decode prog_9_method_7_code 69 = .ok (.iaload, 1) := by decide +kernel
theorem d_Mod_walk_70 : decode prog_9_method_7_code 70 = .ok (.goto 11, 3) := by decide +kernel
theorem d_Mod_walk_73 : decode prog_9_method_7_code 73 = .ok (.aload_n 0, 1) := by decide +kernel
theorem d_Mod_walk_74 : decode prog_9_method_7_code 74 = .ok (.getfield 22, 3) := by decide +kernel
theorem d_Mod_walk_77 : decode prog_9_method_7_code 77 = .ok (.iload_n 2, 1) := by decide +kernel
theorem d_Mod_walk_78 : decode prog_9_method_7_code 78 = .ok (.iaload, 1) := by decide +kernel
theorem d_Mod_walk_79 : decode prog_9_method_7_code 79 = .ok (.iconst 1, 1) := by decide +kernel
theorem d_Mod_walk_80 : decode prog_9_method_7_code 80 = .ok (.iadd, 1) := by decide +kernel
theorem d_Mod_walk_81 : decode prog_9_method_7_code 81 = .ok (.iastore, 1) := by decide +kernel
theorem d_Mod_walk_82 : decode prog_9_method_7_code 82 = .ok (.iinc 2 1, 3) := by decide +kernel
theorem d_Mod_walk_85 : decode prog_9_method_7_code 85 = .ok (.goto (-76), 3) := by decide +kernel
theorem d_Mod_walk_88 : decode prog_9_method_7_code 88 = .ok (.return_, 1) := by decide +kernel
theorem d_Mod_isClosed_0 : decode prog_9_method_8_code 0 = .ok (.aload_n 0, 1) := by decide +kernel
theorem d_Mod_isClosed_1 : decode prog_9_method_8_code 1 = .ok (.iload_n 1, 1) := by decide +kernel
theorem d_Mod_isClosed_2 : decode prog_9_method_8_code 2 = .ok (.invokevirtual 71, 3) := by decide +kernel
theorem d_Mod_isClosed_5 : decode prog_9_method_8_code 5 = .ok (.iconst 1, 1) := by decide +kernel
theorem d_Mod_isClosed_6 : decode prog_9_method_8_code 6 = .ok (.istore_n 2, 1) := by decide +kernel
theorem d_Mod_isClosed_7 : decode prog_9_method_8_code 7 = .ok (.iload_n 1, 1) := by decide +kernel
theorem d_Mod_isClosed_8 : decode prog_9_method_8_code 8 = .ok (.istore_n 3, 1) := by decide +kernel
theorem d_Mod_isClosed_9 : decode prog_9_method_8_code 9 = .ok (.iload_n 3, 1) := by decide +kernel
theorem d_Mod_isClosed_10 : decode prog_9_method_8_code 10 = .ok (.iload_n 1, 1) := by decide +kernel
theorem d_Mod_isClosed_11 : decode prog_9_method_8_code 11 = .ok (.aload_n 0, 1) := by decide +kernel
theorem d_Mod_isClosed_12 : decode prog_9_method_8_code 12 = .ok (.getfield 19, 3) := by decide +kernel
theorem d_Mod_isClosed_15 : decode prog_9_method_8_code 15 = .ok (.iload_n 1, 1) := by decide +kernel
theorem d_Mod_isClosed_16 : decode prog_9_method_8_code 16 = .ok (.iaload, 1) := by decide +kernel
theorem d_Mod_isClosed_17 : decode prog_9_method_8_code 17 = .ok (.iadd, 1) := by decide +kernel
theorem d_Mod_isClosed_18 : decode prog_9_method_8_code 18 = .ok (.if_icmp .ge 41, 3) := by decide +kernel
theorem d_Mod_isClosed_21 : decode prog_9_method_8_code 21 = .ok (.iload_n 2, 1) := by decide +kernel
theorem d_Mod_isClosed_22 : decode prog_9_method_8_code 22 = .ok (.aload_n 0, 1) := by decide +kernel
theorem d_Mod_isClosed_23 : decode prog_9_method_8_code 23 = .ok (.getfield 7, 3) := by decide +kernel
theorem d_Mod_isClosed_26 : decode prog_9_method_8_code 26 = .ok (.iload_n 3, 1) := by decide +kernel
theorem d_Mod_isClosed_27 : decode prog_9_method_8_code 27 = .ok (.iaload, 1) := by decide +kernel
theorem d_Mod_isClosed_28 : decode prog_9_method_8_code 28 = .ok (.ifCond .ne 18, 3) := by decide +kernel
theorem d_Mod_isClosed_31 : decode prog_9_method_8_code 31 = .ok (.aload_n 0, 1) := by decide +kernel
theorem d_Mod_isClosed_32 : decode prog_9_method_8_code 32 = .ok (.getfield 13, 3) := by decide +kernel
theorem d_Mod_isClosed_35 : decode prog_9_method_8_code 35 = .ok (.iload_n 3, 1) := by decide +kernel
theorem d_Mod_isClosed_36 : decode prog_9_method_8_code 36 = .ok (.iaload, 1) := by decide +kernel
theorem d_Mod_isClosed_37 : decode prog_9_method_8_code 37 = .ok (.aload_n 0, 1) := by decide +kernel
theorem d_Mod_isClosed_38 : decode prog_9_method_8_code 38 = .ok (.getfield 22, 3) := by decide +kernel
theorem d_Mod_isClosed_41 : decode prog_9_method_8_code 41 = .ok (.iload_n 3, 1) := by decide +kernel
theorem d_Mod_isClosed_42 : decode prog_9_method_8_code 42 = .ok (.iaload, 1) := by decide +kernel
theorem d_Mod_isClosed_43 : decode prog_9_method_8_code 43 = .ok (.if_icmp .ge 7, 3) := by decide +kernel
theorem d_Mod_isClosed_46 : decode prog_9_method_8_code 46 = .ok (.iconst 1, 1) := by decide +kernel
theorem d_Mod_isClosed_47 : decode prog_9_method_8_code 47 = .ok (.goto 4, 3) := by decide +kernel
theorem d_Mod_isClosed_50 : decode prog_9_method_8_code 50 = .ok (.iconst 0, 1) := by decide +kernel
theorem d_Mod_isClosed_51 : decode prog_9_method_8_code 51 = .ok (.iand, 1) := by decide +kernel
theorem d_Mod_isClosed_52 : decode prog_9_method_8_code 52 = .ok (.istore_n 2, 1) := by decide +kernel
theorem d_Mod_isClosed_53 : decode prog_9_method_8_code 53 = .ok (.iinc 3 1, 3) := by decide +kernel
theorem d_Mod_isClosed_56 : decode prog_9_method_8_code 56 = .ok (.goto (-47), 3) := by decide +kernel
theorem d_Mod_isClosed_59 : decode prog_9_method_8_code 59 = .ok (.iload_n 2, 1) := by decide +kernel
theorem d_Mod_isClosed_60 : decode prog_9_method_8_code 60 = .ok (.ireturn, 1) := by decide +kernel
theorem d_Mod_isTerm_0 : decode prog_9_method_9_code 0 = .ok (.iload_n 1, 1) := by decide +kernel
theorem d_Mod_isTerm_1 : decode prog_9_method_9_code 1 = .ok (.ifCond .lt 15, 3) := by decide +kernel
theorem d_Mod_isTerm_4 : decode prog_9_method_9_code 4 = .ok (.iload_n 1, 1) := by decide +kernel
theorem d_Mod_isTerm_5 : decode prog_9_method_9_code 5 = .ok (.aload_n 0, 1) := by decide +kernel
theorem d_Mod_isTerm_6 : decode prog_9_method_9_code 6 = .ok (.getfield 75, 3) := by decide +kernel
theorem d_Mod_isTerm_9 : decode prog_9_method_9_code 9 = .ok (.if_icmp .ge 7, 3) := by decide +kernel
theorem d_Mod_isTerm_12 : decode prog_9_method_9_code 12 = .ok (.iconst 1, 1) := by decide +kernel
theorem d_Mod_isTerm_13 : decode prog_9_method_9_code 13 = .ok (.goto 4, 3) := by decide +kernel
theorem d_Mod_isTerm_16 : decode prog_9_method_9_code 16 = .ok (.iconst 0, 1) := by decide +kernel
theorem d_Mod_isTerm_17 : decode prog_9_method_9_code 17 = .ok (.ireturn, 1) := by decide +kernel
theorem d_Mod_term_0 : decode prog_9_method_10_code 0 = .ok (.aload_n 0, 1) := by decide +kernel
theorem d_Mod_term_1 : decode prog_9_method_10_code 1 = .ok (.getfield 75, 3) := by decide +kernel
theorem d_Mod_term_4 : decode prog_9_method_10_code 4 = .ok (.sipush 1500, 3) := by decide +kernel
theorem d_Mod_term_7 : decode prog_9_method_10_code 7 = .ok (.if_icmp .eq 25, 3) := by decide +kernel
theorem d_Mod_term_10 : decode prog_9_method_10_code 10 = .ok (.aload_n 0, 1) := by decide +kernel
theorem d_Mod_term_11 : decode prog_9_method_10_code 11 = .ok (.getfield 55, 3) := by decide +kernel
theorem d_Mod_term_14 : decode prog_9_method_10_code 14 = .ok (.iload_n 1, 1) := by decide +kernel
theorem d_Mod_term_15 : decode prog_9_method_10_code 15 = .ok (.isub, 1) := by decide +kernel
theorem d_Mod_term_16 : decode prog_9_method_10_code 16 = .ok (.sipush 1000, 3) := by decide +kernel
theorem d_Mod_term_19 : decode prog_9_method_10_code 19 = .ok (.if_icmp .gt 13, 3) := by decide +kernel
theorem d_Mod_term_22 : decode prog_9_method_10_code 22 = .ok (.aload_n 0, 1) := by decide +kernel
theorem d_Mod_term_23 : decode prog_9_method_10_code 23 = .ok (.getfield 55, 3) := by decide +kernel
theorem d_Mod_term_26 : decode prog_9_method_10_code 26 = .ok (.sipush 30000, 3) := by decide +kernel
theorem d_Mod_term_29 : decode prog_9_method_10_code 29 = .ok (.if_icmp .le 10, 3) := by decide +kernel
theorem d_Mod_term_32 : decode prog_9_method_10_code 32 = .ok (.aload_n 0, 1) := by decide +kernel
theorem d_Mod_term_33 : decode prog_9_method_10_code 33 = .ok (.iload_n 1, 1) := by decide +kernel
theorem d_Mod_term_34 : decode prog_9_method_10_code 34 = .ok (.putfield 55, 3) := by decide +kernel
theorem d_Mod_term_37 : decode prog_9_method_10_code 37 = .ok (.iconst (-1), 1) := by decide +kernel
theorem d_Mod_term_38 : decode prog_9_method_10_code 38 = .ok (.ireturn, 1) := by decide +kernel
theorem d_Mod_term_39 : decode prog_9_method_10_code 39 = .ok (.aload_n 0, 1) := by decide +kernel
theorem d_Mod_term_40 : decode prog_9_method_10_code 40 = .ok (.iload_n 1, 1) := by decide +kernel
theorem d_Mod_term_41 : decode prog_9_method_10_code 41 = .ok (.invokevirtual 78, 3) := by decide +kernel
theorem d_Mod_term_44 : decode prog_9_method_10_code 44 = .ok (.aload_n 0, 1) := by decide +kernel
theorem d_Mod_term_45 : decode prog_9_method_10_code 45 = .ok (.getfield 25, 3) := by decide +kernel
theorem d_Mod_term_48 : decode prog_9_method_10_code 48 = .ok (.aload_n 0, 1) := by decide +kernel
theorem d_Mod_term_49 : decode prog_9_method_10_code 49 = .ok (.getfield 75, 3) := by decide +kernel
theorem d_Mod_term_52 : decode prog_9_method_10_code 52 = .ok (.iload_n 1, 1) := by decide +kernel
theorem d_Mod_term_53 : decode prog_9_method_10_code 53 = .ok (.iastore, 1) := by decide +kernel
theorem d_Mod_term_54 : decode prog_9_method_10_code 54 = .ok (.aload_n 0, 1) := by decide +kernel
theorem d_Mod_term_55 : decode prog_9_method_10_code 55 = .ok (.dup, 1) := by decide +kernel
theorem d_Mod_term_56 : decode prog_9_method_10_code 56 = .ok (.getfield 75, 3) := by decide +kernel
theorem d_Mod_term_59 : decode prog_9_method_10_code 59 = .ok (.dup_x1, 1) := by decide +kernel
theorem d_Mod_term_60 : decode prog_9_method_10_code 60 = .ok (.iconst 1, 1) := by decide +kernel
theorem d_Mod_term_61 : decode prog_9_method_10_code 61 = .ok (.iadd, 1) := by decide +kernel
theorem d_Mod_term_62 : decode prog_9_method_10_code 62 = .ok (.putfield 75, 3) := by decide +kernel
theorem d_Mod_term_65 : decode prog_9_method_10_code 65 = .ok (.ireturn, 1) := by decide +kernel
theorem d_Mod_leaf_0 : decode prog_9_method_11_code 0 = .ok (.iload_n 1, 1) := by decide +kernel
theorem d_Mod_leaf_1 : decode prog_9_method_11_code 1 = .ok (.ifCond .eq 8, 3) := by decide +kernel
theorem d_Mod_leaf_4 : decode prog_9_method_11_code 4 = .ok (.iload_n 1, 1) := by decide +kernel
theorem d_Mod_leaf_5 : decode prog_9_method_11_code 5 = .ok (.iconst 2, 1) := by decide +kernel
theorem d_Mod_leaf_6 : decode prog_9_method_11_code 6 = .ok (.if_icmp .ne 21, 3) := by decide +kernel
theorem d_Mod_leaf_9 : decode prog_9_method_11_code 9 = .ok (.iload_n 2, 1) := by decide +kernel
theorem d_Mod_leaf_10 : decode prog_9_method_11_code 10 = .ok (.ifCond .lt 13, 3) := by decide +kernel
theorem d_Mod_leaf_13 : decode prog_9_method_11_code 13 = .ok (.iload_n 2, 1) := by decide +kernel
theorem d_Mod_leaf_14 : decode prog_9_method_11_code 14 = .ok (.bipush 100, 2) := by decide +kernel
theorem d_Mod_leaf_16 : decode prog_9_method_11_code 16 = .ok (.if_icmp .gt 7, 3) := by decide +kernel
theorem d_Mod_leaf_19 : decode prog_9_method_11_code 19 = .ok (.iconst 1, 1) := by decide +kernel
theorem d_Mod_leaf_20 : decode prog_9_method_11_code 20 = .ok (.goto 34, 3) := by decide +kernel
theorem d_Mod_leaf_23 : decode prog_9_method_11_code 23 = .ok (.iconst 0, 1) := by decide +kernel
theorem d_Mod_leaf_24 : decode prog_9_method_11_code 24 = .ok (.goto 30, 3) := by decide +kernel
theorem d_Mod_leaf_27 : decode prog_9_method_11_code 27 = .ok (.iload_n 1, 1) := by decide +kernel
theorem d_Mod_leaf_28 : decode prog_9_method_11_code 28 = .ok (.iconst 1, 1) := by decide +kernel
theorem d_Mod_leaf_29 : decode prog_9_method_11_code 29 = .ok (.if_icmp .eq 8, 3) := by decide +kernel
theorem d_Mod_leaf_32 : decode prog_9_method_11_code 32 = .ok (.iload_n 1, 1) := by decide +kernel
theorem d_Mod_leaf_33 : decode prog_9_method_11_code 33 = .ok (.iconst 3, 1) := by decide +kernel
theorem d_Mod_leaf_34 : decode prog_9_method_11_code 34 = .ok (.if_icmp .ne 19, 3) := by decide +kernel
theorem d_Mod_leaf_37 : decode prog_9_method_11_code 37 = .ok (.iload_n 2, 1) := by decide +kernel
theorem d_Mod_leaf_38 : decode prog_9_method_11_code 38 = .ok (.ifCond .lt 15, 3) := by decide +kernel
theorem d_Mod_leaf_41 : decode prog_9_method_11_code 41 = .ok (.iload_n 2, 1) := by decide +kernel
theorem d_Mod_leaf_42 : decode prog_9_method_11_code 42 = .ok (.aload_n 0, 1) := by decide +kernel
theorem d_Mod_leaf_43 : decode prog_9_method_11_code 43 = .ok (.getfield 81, 3) := by decide +kernel
theorem d_Mod_leaf_46 : decode prog_9_method_11_code 46 = .ok (.if_icmp .ge 7, 3) := by decide +kernel
theorem d_Mod_leaf_49 : decode prog_9_method_11_code 49 = .ok (.iconst 1, 1) := by decide +kernel
theorem d_Mod_leaf_50 : decode prog_9_method_11_code 50 = .ok (.goto 4, 3) := by decide +kernel
theorem d_Mod_leaf_53 : decode prog_9_method_11_code 53 = .ok (.iconst 0, 1) := by decide +kernel
theorem d_Mod_leaf_54 : decode prog_9_method_11_code 54 = .ok (.istore 4, 2) := by decide +kernel
theorem d_Mod_leaf_56 : decode prog_9_method_11_code 56 = .ok (.iload 4, 2) := by decide +kernel
theorem d_Mod_leaf_58 : decode prog_9_method_11_code 58 = .ok (.ifCond .eq 35, 3) := by decide +kernel
theorem d_Mod_leaf_61 : decode prog_9_method_11_code 61 = .ok (.iload_n 1, 1) := by decide +kernel
theorem d_Mod_leaf_62 : decode prog_9_method_11_code 62 = .ok (.iconst 3, 1) := by decide +kernel
theorem d_Mod_leaf_63 : decode prog_9_method_11_code 63 = .ok (.if_icmp .ne 26, 3) := by decide +kernel
theorem d_Mod_leaf_66 : decode prog_9_method_11_code 66 = .ok (.aload_n 0, 1) := by decide +kernel
theorem d_Mod_leaf_67 : decode prog_9_method_11_code 67 = .ok (.getfield 28, 3) := by decide +kernel
theorem d_Mod_leaf_70 : decode prog_9_method_11_code 70 = .ok (.iload_n 2, 1) := by decide +kernel
theorem d_Mod_leaf_71 : decode prog_9_method_11_code 71 = .ok (.iaload, 1) := by decide +kernel
theorem d_Mod_leaf_72 : decode prog_9_method_11_code 72 = .ok (.iconst 3, 1) := by decide +kernel
theorem d_Mod_leaf_73 : decode prog_9_method_11_code 73 = .ok (.if_icmp .ne 20, 3) := by decide +kernel
theorem d_Mod_leaf_76 : decode prog_9_method_11_code 76 = .ok (.iload_n 3, 1) := by decide +kernel
theorem d_Mod_leaf_77 : decode prog_9_method_11_code 77 = .ok (.ifCond .lt 16, 3) := by decide +kernel
theorem d_Mod_leaf_80 : decode prog_9_method_11_code 80 = .ok (.iload_n 3, 1) := by decide +kernel
theorem d_Mod_leaf_81 : decode prog_9_method_11_code 81 = .ok (.bipush 100, 2) := by decide +kernel
theorem d_Mod_leaf_83 : decode prog_9_method_11_code 83 = .ok (.if_icmp .le 12, 3) := by decide +kernel
theorem d_Mod_leaf_86 : decode prog_9_method_11_code 86 = .ok (.goto 7, 3) := by decide +kernel
theorem d_Mod_leaf_89 : decode prog_9_method_11_code 89 = .ok (.iload_n 3, 1) := by decide +kernel
theorem d_Mod_leaf_90 : decode prog_9_method_11_code 90 = .ok (.ifCond .eq 5, 3) := by decide +kernel
theorem d_Mod_leaf_93 : decode prog_9_method_11_code 93 = .ok (.iconst (-1), 1) := by decide +kernel
theorem d_Mod_leaf_94 : decode prog_9_method_11_code 94 = .ok (.ireturn, 1) := by decide +kernel
theorem d_Mod_leaf_95 : decode prog_9_method_11_code 95 = .ok (.aload_n 0, 1) := by decide +kernel
theorem d_Mod_leaf_96 : decode prog_9_method_11_code 96 = .ok (.iload_n 1, 1) := by decide +kernel
theorem d_Mod_leaf_97 : decode prog_9_method_11_code 97 = .ok (.iload_n 2, 1) := by decide +kernel
theorem d_Mod_leaf_98 : decode prog_9_method_11_code 98 = .ok (.iload_n 3, 1) := by decide +kernel
theorem d_Mod_leaf_99 : decode prog_9_method_11_code 99 = .ok (.invokevirtual 63, 3) := by decide +kernel
theorem d_Mod_leaf_102 : decode prog_9_method_11_code 102 = .ok (.istore 5, 2) := by decide +kernel
theorem d_Mod_leaf_104 : decode prog_9_method_11_code 104 = .ok (.aload_n 0, 1) := by decide +kernel
theorem d_Mod_leaf_105 : decode prog_9_method_11_code 105 = .ok (.iload 5, 2) := by decide +kernel
theorem d_Mod_leaf_107 : decode prog_9_method_11_code 107 = .ok (.invokevirtual 84, 3) := by decide +kernel
theorem d_Mod_leaf_110 : decode prog_9_method_11_code 110 = .ok (.ireturn, 1) := by decide +kernel
theorem d_Mod_two_0 : decode prog_9_method_12_code 0 = .ok (.aload_n 0, 1) := by decide +kernel
theorem d_Mod_two_1 : decode prog_9_method_12_code 1 = .ok (.iload_n 1, 1) := by decide +kernel
theorem d_Mod_two_2 : decode prog_9_method_12_code 2 = .ok (.iload_n 2, 1) := by decide +kernel
theorem d_Mod_two_3 : decode prog_9_method_12_code 3 = .ok (.iconst 0, 1) := by decide +kernel
theorem d_Mod_two_4 : decode prog_9_method_12_code 4 = .ok (.invokevirtual 63, 3) := by decide +kernel
theorem d_Mod_two_7 : decode prog_9_method_12_code 7 = .ok (.istore 5, 2) := by decide +kernel
theorem d_Mod_two_9 : decode prog_9_method_12_code 9 = .ok (.aload_n 0, 1) := by decide +kernel
theorem d_Mod_two_10 : decode prog_9_method_12_code 10 = .ok (.aload_n 0, 1) := by decide +kernel
theorem d_Mod_two_11 : decode prog_9_method_12_code 11 = .ok (.getfield 25, 3) := by decide +kernel
theorem d_Mod_two_14 : decode prog_9_method_12_code 14 = .ok (.iload_n 3, 1) := by decide +kernel
theorem d_Mod_two_15 : decode prog_9_method_12_code 15 = .ok (.iaload, 1) := by decide +kernel
theorem d_Mod_two_16 : decode prog_9_method_12_code 16 = .ok (.invokevirtual 87, 3) := by decide +kernel
theorem d_Mod_two_19 : decode prog_9_method_12_code 19 = .ok (.aload_n 0, 1) := by decide +kernel
theorem d_Mod_two_20 : decode prog_9_method_12_code 20 = .ok (.aload_n 0, 1) := by decide +kernel
theorem d_Mod_two_21 : decode prog_9_method_12_code 21 = .ok (.getfield 25, 3) := by decide +kernel
theorem d_Mod_two_24 : decode prog_9_method_12_code 24 = .ok (.iload 4, 2) := by decide +kernel
theorem d_Mod_two_26 : decode prog_9_method_12_code 26 = .ok (.iaload, 1) := by decide +kernel
theorem d_Mod_two_27 : decode prog_9_method_12_code 27 = .ok (.invokevirtual 87, 3) := by decide +kernel
theorem d_Mod_two_30 : decode prog_9_method_12_code 30 = .ok (.aload_n 0, 1) := by decide +kernel
theorem d_Mod_two_31 : decode prog_9_method_12_code 31 = .ok (.iload 5, 2) := by decide +kernel
theorem d_Mod_two_33 : decode prog_9_method_12_code 33 = .ok (.invokevirtual 84, 3) := by decide +kernel
theorem d_Mod_two_36 : decode prog_9_method_12_code 36 = .ok (.ireturn, 1) := by decide +kernel
theorem d_Mod_apply_0 : decode prog_9_method_13_code 0 = .ok (.aload_n 0, 1) := by decide +kernel
theorem d_Mod_apply_1 : decode prog_9_method_13_code 1 = .ok (.iload_n 1, 1) := by decide +kernel
theorem d_Mod_apply_2 : decode prog_9_method_13_code 2 = .ok (.invokevirtual 90, 3) := by decide +kernel
theorem d_Mod_apply_5 : decode prog_9_method_13_code 5 = .ok (.ifCond .eq 22, 3) := by decide +kernel
theorem d_Mod_apply_8 : decode prog_9_method_13_code 8 = .ok (.aload_n 0, 1) := by decide +kernel
theorem d_Mod_apply_9 : decode prog_9_method_13_code 9 = .ok (.iload_n 2, 1) := by decide +kernel
theorem d_Mod_apply_10 : decode prog_9_method_13_code 10 = .ok (.invokevirtual 90, 3) := by decide +kernel
theorem d_Mod_apply_13 : decode prog_9_method_13_code 13 = .ok (.ifCond .eq 14, 3) := by decide +kernel
theorem d_Mod_apply_16 : decode prog_9_method_13_code 16 = .ok (.aload_n 0, 1) := by decide +kernel
theorem d_Mod_apply_17 : decode prog_9_method_13_code 17 = .ok (.iconst 4, 1) := by decide +kernel
theorem d_Mod_apply_18 : decode prog_9_method_13_code 18 = .ok (.iconst 0, 1) := by decide +kernel
theorem d_Mod_apply_19 : decode prog_9_method_13_code 19 = .ok (.iload_n 1, 1) := by decide +kernel
theorem d_Mod_apply_20 : decode prog_9_method_13_code 20 = .ok (.iload_n 2, 1) := by decide +kernel
theorem d_Mod_apply_21 : decode prog_9_method_13_code 21 = .ok (.invokevirtual 94, 3) := by decide +kernel
theorem d_Mod_apply_24 : decode prog_9_method_13_code 24 = .ok (.goto 4, 3) := by decide +kernel
theorem d_Mod_apply_27 : decode prog_9_method_13_code 27 = .ok (.iconst (-1), 1) := by decide +kernel
theorem d_Mod_apply_28 : decode prog_9_method_13_code 28 = .ok (.ireturn, 1) := by decide +kernel
theorem d_Mod_binder_0 : decode prog_9_method_14_code 0 = .ok (.iload_n 1, 1) := by decide +kernel
theorem d_Mod_binder_1 : decode prog_9_method_14_code 1 = .ok (.iconst 5, 1) := by decide +kernel
theorem d_Mod_binder_2 : decode prog_9_method_14_code 2 = .ok (.if_icmp .eq 9, 3) := by decide +kernel
theorem d_Mod_binder_5 : decode prog_9_method_14_code 5 = .ok (.iload_n 1, 1) := by decide +kernel
theorem d_Mod_binder_6 : decode prog_9_method_14_code 6 = .ok (.bipush 6, 2) := by decide +kernel
theorem d_Mod_binder_8 : decode prog_9_method_14_code 8 = .ok (.if_icmp .ne 43, 3) := by decide +kernel
theorem d_Mod_binder_11 : decode prog_9_method_14_code 11 = .ok (.iload_n 2, 1) := by decide +kernel
theorem d_Mod_binder_12 : decode prog_9_method_14_code 12 = .ok (.iconst (-1), 1) := by decide +kernel
theorem d_Mod_binder_13 : decode prog_9_method_14_code 13 = .ok (.if_icmp .lt 38, 3) := by decide +kernel
theorem d_Mod_binder_16 : decode prog_9_method_14_code 16 = .ok (.iload_n 2, 1) := by decide +kernel
theorem d_Mod_binder_17 : decode prog_9_method_14_code 17 = .ok (.bipush 100, 2) := by decide +kernel
theorem d_Mod_binder_19 : decode prog_9_method_14_code 19 = .ok (.if_icmp .ge 32, 3) := by decide +kernel
theorem d_Mod_binder_22 : decode prog_9_method_14_code 22 = .ok (.aload_n 0, 1) := by decide +kernel
theorem d_Mod_binder_23 : decode prog_9_method_14_code 23 = .ok (.iload_n 3, 1) := by decide +kernel
theorem d_Mod_binder_24 : decode prog_9_method_14_code 24 = .ok (.invokevirtual 90, 3) := by decide +kernel
theorem d_Mod_binder_27 : decode prog_9_method_14_code 27 = .ok (.ifCond .eq 24, 3) := by decide +kernel
theorem d_Mod_binder_30 : decode prog_9_method_14_code 30 = .ok (.aload_n 0, 1) := by decide +kernel
theorem d_Mod_binder_31 : decode prog_9_method_14_code 31 = .ok (.iload 4, 2) := by decide +kernel
theorem d_Mod_binder_33 : decode prog_9_method_14_code 33 = .ok (.invokevirtual 90, 3) := by decide +kernel
theorem d_Mod_binder_36 : decode prog_9_method_14_code 36 = .ok (.ifCond .eq 15, 3) := by decide +kernel
theorem d_Mod_binder_39 : decode prog_9_method_14_code 39 = .ok (.aload_n 0, 1) := by decide +kernel
theorem d_Mod_binder_40 : decode prog_9_method_14_code 40 = .ok (.iload_n 1, 1) := by decide +kernel
theorem d_Mod_binder_41 : decode prog_9_method_14_code 41 = .ok (.iload_n 2, 1) := by decide +kernel
theorem d_Mod_binder_42 : decode prog_9_method_14_code 42 = .ok (.iload_n 3, 1) := by decide +kernel
theorem d_Mod_binder_43 : decode prog_9_method_14_code 43 = .ok (.iload 4, 2) := by decide +kernel
theorem d_Mod_binder_45 : decode prog_9_method_14_code 45 = .ok (.invokevirtual 94, 3) := by decide +kernel
theorem d_Mod_binder_48 : decode prog_9_method_14_code 48 = .ok (.goto 4, 3) := by decide +kernel
theorem d_Mod_binder_51 : decode prog_9_method_14_code 51 = .ok (.iconst (-1), 1) := by decide +kernel
theorem d_Mod_binder_52 : decode prog_9_method_14_code 52 = .ok (.ireturn, 1) := by decide +kernel
theorem d_Mod_terms_0 : decode prog_9_method_15_code 0 = .ok (.aload_n 0, 1) := by decide +kernel
theorem d_Mod_terms_1 : decode prog_9_method_15_code 1 = .ok (.getfield 75, 3) := by decide +kernel
theorem d_Mod_terms_4 : decode prog_9_method_15_code 4 = .ok (.ireturn, 1) := by decide +kernel
theorem d_Mod_part3_0 : decode prog_9_method_16_code 0 = .ok (.aload_n 0, 1) := by decide +kernel
theorem d_Mod_part3_1 : decode prog_9_method_16_code 1 = .ok (.iload_n 1, 1) := by decide +kernel
theorem d_Mod_part3_2 : decode prog_9_method_16_code 2 = .ok (.invokevirtual 90, 3) := by decide +kernel
theorem d_Mod_part3_5 : decode prog_9_method_16_code 5 = .ok (.ifCond .eq 31, 3) := by decide +kernel
theorem d_Mod_part3_8 : decode prog_9_method_16_code 8 = .ok (.iload_n 2, 1) := by decide +kernel
theorem d_Mod_part3_9 : decode prog_9_method_16_code 9 = .ok (.ifCond .lt 27, 3) := by decide +kernel
theorem d_Mod_part3_12 : decode prog_9_method_16_code 12 = .ok (.iload_n 2, 1) := by decide +kernel
theorem d_Mod_part3_13 : decode prog_9_method_16_code 13 = .ok (.aload_n 0, 1) := by decide +kernel
theorem d_Mod_part3_14 : decode prog_9_method_16_code 14 = .ok (.getfield 19, 3) := by decide +kernel
theorem d_Mod_part3_17 : decode prog_9_method_16_code 17 = .ok (.aload_n 0, 1) := by decide +kernel
theorem d_Mod_part3_18 : decode prog_9_method_16_code 18 = .ok (.getfield 25, 3) := by decide +kernel
theorem d_Mod_part3_21 : decode prog_9_method_16_code 21 = .ok (.iload_n 1, 1) := by decide +kernel
theorem d_Mod_part3_22 : decode prog_9_method_16_code 22 = .ok (.iaload, 1) := by decide +kernel
theorem d_Mod_part3_23 : decode prog_9_method_16_code 23 = .ok (.iaload, 1) := by decide +kernel
theorem d_Mod_part3_24 : decode prog_9_method_16_code 24 = .ok (.if_icmp .ge 12, 3) := by decide +kernel
theorem d_Mod_part3_27 : decode prog_9_method_16_code 27 = .ok (.iload_n 3, 1) := by decide +kernel
theorem d_Mod_part3_28 : decode prog_9_method_16_code 28 = .ok (.ifCond .lt 8, 3) := by decide +kernel
theorem d_Mod_part3_31 : decode prog_9_method_16_code 31 = .ok (.iload_n 3, 1) := by decide +kernel
theorem d_Mod_part3_32 : decode prog_9_method_16_code 32 = .ok (.iconst 3, 1) := by decide +kernel
theorem d_Mod_part3_33 : decode prog_9_method_16_code 33 = .ok (.if_icmp .le 5, 3) := by decide +kernel
theorem d_Mod_part3_36 : decode prog_9_method_16_code 36 = .ok (.iconst (-1), 1) := by decide +kernel
theorem d_Mod_part3_37 : decode prog_9_method_16_code 37 = .ok (.ireturn, 1) := by decide +kernel
theorem d_Mod_part3_38 : decode prog_9_method_16_code 38 = .ok (.aload_n 0, 1) := by decide +kernel
theorem d_Mod_part3_39 : decode prog_9_method_16_code 39 = .ok (.getfield 25, 3) := by decide +kernel
theorem d_Mod_part3_42 : decode prog_9_method_16_code 42 = .ok (.iload_n 1, 1) := by decide +kernel
theorem d_Mod_part3_43 : decode prog_9_method_16_code 43 = .ok (.iaload, 1) := by decide +kernel
theorem d_Mod_part3_44 : decode prog_9_method_16_code 44 = .ok (.iload_n 2, 1) := by decide +kernel
theorem d_Mod_part3_45 : decode prog_9_method_16_code 45 = .ok (.iadd, 1) := by decide +kernel
theorem d_Mod_part3_46 : decode prog_9_method_16_code 46 = .ok (.istore 4, 2) := by decide +kernel
theorem d_Mod_part3_48 : decode prog_9_method_16_code 48 = .ok (.iload_n 3, 1) := by decide +kernel
theorem d_Mod_part3_49 : decode prog_9_method_16_code 49 = .ok (.ifCond .ne 13, 3) := by decide +kernel
theorem d_Mod_part3_52 : decode prog_9_method_16_code 52 = .ok (.aload_n 0, 1) := by decide +kernel
theorem d_Mod_part3_53 : decode prog_9_method_16_code 53 = .ok (.getfield 7, 3) := by decide +kernel
theorem d_Mod_part3_56 : decode prog_9_method_16_code 56 = .ok (.iload 4, 2) := by decide +kernel
theorem d_Mod_part3_58 : decode prog_9_method_16_code 58 = .ok (.iaload, 1) := by decide +kernel
theorem d_Mod_part3_59 : decode prog_9_method_16_code 59 = .ok (.goto 40, 3) := by decide +kernel
theorem d_Mod_part3_62 : decode prog_9_method_16_code 62 = .ok (.iload_n 3, 1) := by decide +kernel
theorem d_Mod_part3_63 : decode prog_9_method_16_code 63 = .ok (.iconst 1, 1) := by decide +kernel
theorem d_Mod_part3_64 : decode prog_9_method_16_code 64 = .ok (.if_icmp .ne 13, 3) := by decide +kernel
theorem d_Mod_part3_67 : decode prog_9_method_16_code 67 = .ok (.aload_n 0, 1) := by decide +kernel
theorem d_Mod_part3_68 : decode prog_9_method_16_code 68 = .ok (.getfield 13, 3) := by decide +kernel
theorem d_Mod_part3_71 : decode prog_9_method_16_code 71 = .ok (.iload 4, 2) := by decide +kernel
theorem d_Mod_part3_73 : decode prog_9_method_16_code 73 = .ok (.iaload, 1) := by decide +kernel
theorem d_Mod_part3_74 : decode prog_9_method_16_code 74 = .ok (.goto 25, 3) := by decide +kernel
theorem d_Mod_part3_77 : decode prog_9_method_16_code 77 = .ok (.iload_n 3, 1) := by decide +kernel
theorem d_Mod_part3_78 : decode prog_9_method_16_code 78 = .ok (.iconst 2, 1) := by decide +kernel
theorem d_Mod_part3_79 : decode prog_9_method_16_code 79 = .ok (.if_icmp .ne 13, 3) := by decide +kernel
theorem d_Mod_part3_82 : decode prog_9_method_16_code 82 = .ok (.aload_n 0, 1) := by decide +kernel
theorem d_Mod_part3_83 : decode prog_9_method_16_code 83 = .ok (.getfield 16, 3) := by decide +kernel
theorem d_Mod_part3_86 : decode prog_9_method_16_code 86 = .ok (.iload 4, 2) := by decide +kernel
theorem d_Mod_part3_88 : decode prog_9_method_16_code 88 = .ok (.iaload, 1) := by decide +kernel
theorem d_Mod_part3_89 : decode prog_9_method_16_code 89 = .ok (.goto 10, 3) := by decide +kernel
theorem d_Mod_part3_92 : decode prog_9_method_16_code 92 = .ok (.aload_n 0, 1) := by decide +kernel
theorem d_Mod_part3_93 : decode prog_9_method_16_code 93 = .ok (.getfield 19, 3) := by decide +kernel
theorem d_Mod_part3_96 : decode prog_9_method_16_code 96 = .ok (.iload 4, 2) := by decide +kernel
theorem d_Mod_part3_98 : decode prog_9_method_16_code 98 = .ok (.iaload, 1) := by decide +kernel
theorem d_Mod_part3_99 : decode prog_9_method_16_code 99 = .ok (.ireturn, 1) := by decide +kernel
theorem d_Mod_global_0 : decode prog_9_method_17_code 0 = .ok (.aload_n 0, 1) := by decide +kernel
theorem d_Mod_global_1 : decode prog_9_method_17_code 1 = .ok (.getfield 28, 3) := by decide +kernel
theorem d_Mod_global_4 : decode prog_9_method_17_code 4 = .ok (.aload_n 0, 1) := by decide +kernel
theorem d_Mod_global_5 : decode prog_9_method_17_code 5 = .ok (.getfield 81, 3) := by decide +kernel
theorem d_Mod_global_8 : decode prog_9_method_17_code 8 = .ok (.iload_n 1, 1) := by decide +kernel
theorem d_Mod_global_9 : decode prog_9_method_17_code 9 = .ok (.iastore, 1) := by decide +kernel
theorem d_Mod_global_10 : decode prog_9_method_17_code 10 = .ok (.aload_n 0, 1) := by decide +kernel
theorem d_Mod_global_11 : decode prog_9_method_17_code 11 = .ok (.getfield 31, 3) := by decide +kernel
theorem d_Mod_global_14 : decode prog_9_method_17_code 14 = .ok (.aload_n 0, 1) := by decide +kernel
theorem d_Mod_global_15 : decode prog_9_method_17_code 15 = .ok (.getfield 81, 3) := by decide +kernel
theorem d_Mod_global_18 : decode prog_9_method_17_code 18 = .ok (.iload_n 2, 1) := by decide +kernel
theorem d_Mod_global_19 : decode prog_9_method_17_code 19 = .ok (.iastore, 1) := by decide +kernel
theorem d_Mod_global_20 : decode prog_9_method_17_code 20 = .ok (.aload_n 0, 1) := by decide +kernel
theorem d_Mod_global_21 : decode prog_9_method_17_code 21 = .ok (.getfield 34, 3) := by decide +kernel
theorem d_Mod_global_24 : decode prog_9_method_17_code 24 = .ok (.aload_n 0, 1) := by decide +kernel
theorem d_Mod_global_25 : decode prog_9_method_17_code 25 = .ok (.getfield 81, 3) := by decide +kernel
theorem d_Mod_global_28 : decode prog_9_method_17_code 28 = .ok (.iload_n 3, 1) := by decide +kernel
theorem d_Mod_global_29 : decode prog_9_method_17_code 29 = .ok (.iastore, 1) := by decide +kernel
theorem d_Mod_global_30 : decode prog_9_method_17_code 30 = .ok (.aload_n 0, 1) := by decide +kernel
theorem d_Mod_global_31 : decode prog_9_method_17_code 31 = .ok (.getfield 37, 3) := by decide +kernel
theorem d_Mod_global_34 : decode prog_9_method_17_code 34 = .ok (.aload_n 0, 1) := by decide +kernel
theorem d_Mod_global_35 : decode prog_9_method_17_code 35 = .ok (.getfield 81, 3) := by decide +kernel
theorem d_Mod_global_38 : decode prog_9_method_17_code 38 = .ok (.iload_n 1, 1) := by decide +kernel
theorem d_Mod_global_39 : decode prog_9_method_17_code 39 = .ok (.iconst 4, 1) := by decide +kernel
theorem d_Mod_global_40 : decode prog_9_method_17_code 40 = .ok (.if_icmp .ne 12, 3) := by decide +kernel
theorem d_Mod_global_43 : decode prog_9_method_17_code 43 = .ok (.aload_n 0, 1) := by decide +kernel
theorem d_Mod_global_44 : decode prog_9_method_17_code 44 = .ok (.getfield 37, 3) := by decide +kernel
theorem d_Mod_global_47 : decode prog_9_method_17_code 47 = .ok (.iload_n 3, 1) := by decide +kernel
theorem d_Mod_global_48 : decode prog_9_method_17_code 48 = .ok (.iaload, 1) := by decide +kernel
theorem d_Mod_global_49 : decode prog_9_method_17_code 49 = .ok (.goto 4, 3) := by decide +kernel
theorem d_Mod_global_52 : decode prog_9_method_17_code 52 = .ok (.iconst 0, 1) := by decide +kernel
theorem d_Mod_global_53 : decode prog_9_method_17_code 53 = .ok (.iastore, 1) := by decide +kernel
theorem d_Mod_global_54 : decode prog_9_method_17_code 54 = .ok (.aload_n 0, 1) := by decide +kernel
theorem d_Mod_global_55 : decode prog_9_method_17_code 55 = .ok (.getfield 40, 3) := by decide +kernel
theorem d_Mod_global_58 : decode prog_9_method_17_code 58 = .ok (.aload_n 0, 1) := by decide +kernel
theorem d_Mod_global_59 : decode prog_9_method_17_code 59 = .ok (.getfield 81, 3) := by decide +kernel
theorem d_Mod_global_62 : decode prog_9_method_17_code 62 = .ok (.iload_n 1, 1) := by decide +kernel
theorem d_Mod_global_63 : decode prog_9_method_17_code 63 = .ok (.iconst 4, 1) := by decide +kernel
theorem d_Mod_global_64 : decode prog_9_method_17_code 64 = .ok (.if_icmp .ne 7, 3) := by decide +kernel
theorem d_Mod_global_67 : decode prog_9_method_17_code 67 = .ok (.iconst (-1), 1) := by decide +kernel
theorem d_Mod_global_68 : decode prog_9_method_17_code 68 = .ok (.goto 4, 3) := by decide +kernel
theorem d_Mod_global_71 : decode prog_9_method_17_code 71 = .ok (.iconst 0, 1) := by decide +kernel
theorem d_Mod_global_72 : decode prog_9_method_17_code 72 = .ok (.iastore, 1) := by decide +kernel
theorem d_Mod_global_73 : decode prog_9_method_17_code 73 = .ok (.aload_n 0, 1) := by decide +kernel
theorem d_Mod_global_74 : decode prog_9_method_17_code 74 = .ok (.getfield 43, 3) := by decide +kernel
theorem d_Mod_global_77 : decode prog_9_method_17_code 77 = .ok (.aload_n 0, 1) := by decide +kernel
theorem d_Mod_global_78 : decode prog_9_method_17_code 78 = .ok (.getfield 81, 3) := by decide +kernel
theorem d_Mod_global_81 : decode prog_9_method_17_code 81 = .ok (.iconst 0, 1) := by decide +kernel
theorem d_Mod_global_82 : decode prog_9_method_17_code 82 = .ok (.iastore, 1) := by decide +kernel
theorem d_Mod_global_83 : decode prog_9_method_17_code 83 = .ok (.aload_n 0, 1) := by decide +kernel
theorem d_Mod_global_84 : decode prog_9_method_17_code 84 = .ok (.dup, 1) := by decide +kernel
theorem d_Mod_global_85 : decode prog_9_method_17_code 85 = .ok (.getfield 81, 3) := by decide +kernel
theorem d_Mod_global_88 : decode prog_9_method_17_code 88 = .ok (.dup_x1, 1) := by decide +kernel
theorem d_Mod_global_89 : decode prog_9_method_17_code 89 = .ok (.iconst 1, 1) := by decide +kernel
theorem d_Mod_global_90 : decode prog_9_method_17_code 90 = .ok (.iadd, 1) := by decide +kernel
end
section
/-! decode rows -/
theorem d_Mod_global_91 : decode prog_9_method_17_code 91 = .ok (.putfield 81, 3) := by decide +kernel
theorem d_Mod_global_94 : decode prog_9_method_17_code 94 = .ok (.ireturn, 1) := by decide +kernel
theorem d_Mod_axiom_0 : decode prog_9_method_18_code 0 = .ok (.aload_n 0, 1) := by decide +kernel
theorem d_Mod_axiom_1 : decode prog_9_method_18_code 1 = .ok (.getfield 81, 3) := by decide +kernel
theorem d_Mod_axiom_4 : decode prog_9_method_18_code 4 = .ok (.bipush 100, 2) := by decide +kernel
theorem d_Mod_axiom_6 : decode prog_9_method_18_code 6 = .ok (.if_icmp .ne 7, 3) := by decide +kernel
theorem d_Mod_axiom_9 : decode prog_9_method_18_code 9 = .ok (.iconst (-1), 1) := by decide +kernel
theorem d_Mod_axiom_10 : decode prog_9_method_18_code 10 = .ok (.goto 13, 3) := by decide +kernel
theorem d_Mod_axiom_13 : decode prog_9_method_18_code 13 = .ok (.aload_n 0, 1) := by decide +kernel
theorem d_Mod_axiom_14 : decode prog_9_method_18_code 14 = .ok (.iconst 0, 1) := by decide +kernel
theorem d_Mod_axiom_15 : decode prog_9_method_18_code 15 = .ok (.iconst (-1), 1) := by decide +kernel
theorem d_Mod_axiom_16 : decode prog_9_method_18_code 16 = .ok (.aload_n 0, 1) := by decide +kernel
theorem d_Mod_axiom_17 : decode prog_9_method_18_code 17 = .ok (.getfield 81, 3) := by decide +kernel
theorem d_Mod_axiom_20 : decode prog_9_method_18_code 20 = .ok (.invokevirtual 98, 3) := by decide +kernel
theorem d_Mod_axiom_23 : decode prog_9_method_18_code 23 = .ok (.ireturn, 1) := by decide +kernel
theorem d_Mod_alls_0 : decode prog_9_method_19_code 0 = .ok (.iconst 0, 1) := by decide +kernel
theorem d_Mod_alls_1 : decode prog_9_method_19_code 1 = .ok (.istore_n 2, 1) := by decide +kernel
theorem d_Mod_alls_2 : decode prog_9_method_19_code 2 = .ok (.iload_n 1, 1) := by decide +kernel
theorem d_Mod_alls_3 : decode prog_9_method_19_code 3 = .ok (.istore_n 3, 1) := by decide +kernel
theorem d_Mod_alls_4 : decode prog_9_method_19_code 4 = .ok (.aload_n 0, 1) := by decide +kernel
theorem d_Mod_alls_5 : decode prog_9_method_19_code 5 = .ok (.getfield 7, 3) := by decide +kernel
theorem d_Mod_alls_8 : decode prog_9_method_19_code 8 = .ok (.iload_n 3, 1) := by decide +kernel
theorem d_Mod_alls_9 : decode prog_9_method_19_code 9 = .ok (.iaload, 1) := by decide +kernel
theorem d_Mod_alls_10 : decode prog_9_method_19_code 10 = .ok (.bipush 6, 2) := by decide +kernel
theorem d_Mod_alls_12 : decode prog_9_method_19_code 12 = .ok (.if_icmp .ne 15, 3) := by decide +kernel
theorem d_Mod_alls_15 : decode prog_9_method_19_code 15 = .ok (.iinc 2 1, 3) := by decide +kernel
theorem d_Mod_alls_18 : decode prog_9_method_19_code 18 = .ok (.aload_n 0, 1) := by decide +kernel
theorem d_Mod_alls_19 : decode prog_9_method_19_code 19 = .ok (.iload_n 3, 1) := by decide +kernel
theorem d_Mod_alls_20 : decode prog_9_method_19_code 20 = .ok (.invokevirtual 67, 3) := by decide +kernel
theorem d_Mod_alls_23 : decode prog_9_method_19_code 23 = .ok (.istore_n 3, 1) := by decide +kernel
theorem d_Mod_alls_24 : decode prog_9_method_19_code 24 = .ok (.goto (-20), 3) := by decide +kernel
theorem d_Mod_alls_27 : decode prog_9_method_19_code 27 = .ok (.iload_n 2, 1) := by decide +kernel
theorem d_Mod_alls_28 : decode prog_9_method_19_code 28 = .ok (.ireturn, 1) := by decide +kernel
theorem d_Mod_under_0 : decode prog_9_method_20_code 0 = .ok (.iload_n 1, 1) := by decide +kernel
theorem d_Mod_under_1 : decode prog_9_method_20_code 1 = .ok (.istore_n 3, 1) := by decide +kernel
theorem d_Mod_under_2 : decode prog_9_method_20_code 2 = .ok (.iconst 0, 1) := by decide +kernel
theorem d_Mod_under_3 : decode prog_9_method_20_code 3 = .ok (.istore 4, 2) := by decide +kernel
theorem d_Mod_under_5 : decode prog_9_method_20_code 5 = .ok (.iload 4, 2) := by decide +kernel
theorem d_Mod_under_7 : decode prog_9_method_20_code 7 = .ok (.iload_n 2, 1) := by decide +kernel
theorem d_Mod_under_8 : decode prog_9_method_20_code 8 = .ok (.if_icmp .ge 15, 3) := by decide +kernel
theorem d_Mod_under_11 : decode prog_9_method_20_code 11 = .ok (.aload_n 0, 1) := by decide +kernel
theorem d_Mod_under_12 : decode prog_9_method_20_code 12 = .ok (.iload_n 3, 1) := by decide +kernel
theorem d_Mod_under_13 : decode prog_9_method_20_code 13 = .ok (.invokevirtual 67, 3) := by decide +kernel
theorem d_Mod_under_16 : decode prog_9_method_20_code 16 = .ok (.istore_n 3, 1) := by decide +kernel
theorem d_Mod_under_17 : decode prog_9_method_20_code 17 = .ok (.iinc 4 1, 3) := by decide +kernel
theorem d_Mod_under_20 : decode prog_9_method_20_code 20 = .ok (.goto (-15), 3) := by decide +kernel
theorem d_Mod_under_23 : decode prog_9_method_20_code 23 = .ok (.iload_n 3, 1) := by decide +kernel
theorem d_Mod_under_24 : decode prog_9_method_20_code 24 = .ok (.ireturn, 1) := by decide +kernel
theorem d_Mod_family_0 : decode prog_9_method_21_code 0 = .ok (.aload_n 0, 1) := by decide +kernel
theorem d_Mod_family_1 : decode prog_9_method_21_code 1 = .ok (.iload_n 1, 1) := by decide +kernel
theorem d_Mod_family_2 : decode prog_9_method_21_code 2 = .ok (.invokevirtual 90, 3) := by decide +kernel
theorem d_Mod_family_5 : decode prog_9_method_21_code 5 = .ok (.ifCond .eq 43, 3) := by decide +kernel
theorem d_Mod_family_8 : decode prog_9_method_21_code 8 = .ok (.aload_n 0, 1) := by decide +kernel
theorem d_Mod_family_9 : decode prog_9_method_21_code 9 = .ok (.aload_n 0, 1) := by decide +kernel
theorem d_Mod_family_10 : decode prog_9_method_21_code 10 = .ok (.getfield 25, 3) := by decide +kernel
theorem d_Mod_family_13 : decode prog_9_method_21_code 13 = .ok (.iload_n 1, 1) := by decide +kernel
theorem d_Mod_family_14 : decode prog_9_method_21_code 14 = .ok (.iaload, 1) := by decide +kernel
theorem d_Mod_family_15 : decode prog_9_method_21_code 15 = .ok (.invokevirtual 101, 3) := by decide +kernel
theorem d_Mod_family_18 : decode prog_9_method_21_code 18 = .ok (.ifCond .eq 30, 3) := by decide +kernel
theorem d_Mod_family_21 : decode prog_9_method_21_code 21 = .ok (.iload_n 2, 1) := by decide +kernel
theorem d_Mod_family_22 : decode prog_9_method_21_code 22 = .ok (.ifCond .lt 26, 3) := by decide +kernel
theorem d_Mod_family_25 : decode prog_9_method_21_code 25 = .ok (.iload_n 3, 1) := by decide +kernel
theorem d_Mod_family_26 : decode prog_9_method_21_code 26 = .ok (.ifCond .lt 22, 3) := by decide +kernel
theorem d_Mod_family_29 : decode prog_9_method_21_code 29 = .ok (.iload_n 3, 1) := by decide +kernel
theorem d_Mod_family_30 : decode prog_9_method_21_code 30 = .ok (.bipush 12, 2) := by decide +kernel
theorem d_Mod_family_32 : decode prog_9_method_21_code 32 = .ok (.if_icmp .gt 16, 3) := by decide +kernel
theorem d_Mod_family_35 : decode prog_9_method_21_code 35 = .ok (.aload_n 0, 1) := by decide +kernel
theorem d_Mod_family_36 : decode prog_9_method_21_code 36 = .ok (.getfield 81, 3) := by decide +kernel
theorem d_Mod_family_39 : decode prog_9_method_21_code 39 = .ok (.iconst 1, 1) := by decide +kernel
theorem d_Mod_family_40 : decode prog_9_method_21_code 40 = .ok (.iadd, 1) := by decide +kernel
theorem d_Mod_family_41 : decode prog_9_method_21_code 41 = .ok (.iload_n 3, 1) := by decide +kernel
theorem d_Mod_family_42 : decode prog_9_method_21_code 42 = .ok (.iadd, 1) := by decide +kernel
theorem d_Mod_family_43 : decode prog_9_method_21_code 43 = .ok (.bipush 100, 2) := by decide +kernel
theorem d_Mod_family_45 : decode prog_9_method_21_code 45 = .ok (.if_icmp .le 5, 3) := by decide +kernel
theorem d_Mod_family_48 : decode prog_9_method_21_code 48 = .ok (.iconst (-1), 1) := by decide +kernel
theorem d_Mod_family_49 : decode prog_9_method_21_code 49 = .ok (.ireturn, 1) := by decide +kernel
theorem d_Mod_family_50 : decode prog_9_method_21_code 50 = .ok (.aload_n 0, 1) := by decide +kernel
theorem d_Mod_family_51 : decode prog_9_method_21_code 51 = .ok (.aload_n 0, 1) := by decide +kernel
theorem d_Mod_family_52 : decode prog_9_method_21_code 52 = .ok (.getfield 25, 3) := by decide +kernel
theorem d_Mod_family_55 : decode prog_9_method_21_code 55 = .ok (.iload_n 1, 1) := by decide +kernel
theorem d_Mod_family_56 : decode prog_9_method_21_code 56 = .ok (.iaload, 1) := by decide +kernel
theorem d_Mod_family_57 : decode prog_9_method_21_code 57 = .ok (.invokevirtual 104, 3) := by decide +kernel
theorem d_Mod_family_60 : decode prog_9_method_21_code 60 = .ok (.istore 4, 2) := by decide +kernel
theorem d_Mod_family_62 : decode prog_9_method_21_code 62 = .ok (.aload_n 0, 1) := by decide +kernel
theorem d_Mod_family_63 : decode prog_9_method_21_code 63 = .ok (.getfield 7, 3) := by decide +kernel
theorem d_Mod_family_66 : decode prog_9_method_21_code 66 = .ok (.aload_n 0, 1) := by decide +kernel
theorem d_Mod_family_67 : decode prog_9_method_21_code 67 = .ok (.aload_n 0, 1) := by decide +kernel
theorem d_Mod_family_68 : decode prog_9_method_21_code 68 = .ok (.getfield 25, 3) := by decide +kernel
theorem d_Mod_family_71 : decode prog_9_method_21_code 71 = .ok (.iload_n 1, 1) := by decide +kernel
theorem d_Mod_family_72 : decode prog_9_method_21_code 72 = .ok (.iaload, 1) := by decide +kernel
theorem d_Mod_family_73 : decode prog_9_method_21_code 73 = .ok (.iload 4, 2) := by decide +kernel
theorem d_Mod_family_75 : decode prog_9_method_21_code 75 = .ok (.invokevirtual 107, 3) := by decide +kernel
theorem d_Mod_family_78 : decode prog_9_method_21_code 78 = .ok (.iaload, 1) := by decide +kernel
theorem d_Mod_family_79 : decode prog_9_method_21_code 79 = .ok (.iconst 2, 1) := by decide +kernel
theorem d_Mod_family_80 : decode prog_9_method_21_code 80 = .ok (.if_icmp .ne 9, 3) := by decide +kernel
theorem d_Mod_family_83 : decode prog_9_method_21_code 83 = .ok (.iload 4, 2) := by decide +kernel
theorem d_Mod_family_85 : decode prog_9_method_21_code 85 = .ok (.iload_n 2, 1) := by decide +kernel
theorem d_Mod_family_86 : decode prog_9_method_21_code 86 = .ok (.if_icmp .ge 5, 3) := by decide +kernel
theorem d_Mod_family_89 : decode prog_9_method_21_code 89 = .ok (.iconst (-1), 1) := by decide +kernel
theorem d_Mod_family_90 : decode prog_9_method_21_code 90 = .ok (.ireturn, 1) := by decide +kernel
theorem d_Mod_family_91 : decode prog_9_method_21_code 91 = .ok (.aload_n 0, 1) := by decide +kernel
theorem d_Mod_family_92 : decode prog_9_method_21_code 92 = .ok (.iconst 3, 1) := by decide +kernel
theorem d_Mod_family_93 : decode prog_9_method_21_code 93 = .ok (.aload_n 0, 1) := by decide +kernel
theorem d_Mod_family_94 : decode prog_9_method_21_code 94 = .ok (.getfield 25, 3) := by decide +kernel
theorem d_Mod_family_97 : decode prog_9_method_21_code 97 = .ok (.iload_n 1, 1) := by decide +kernel
theorem d_Mod_family_98 : decode prog_9_method_21_code 98 = .ok (.iaload, 1) := by decide +kernel
theorem d_Mod_family_99 : decode prog_9_method_21_code 99 = .ok (.aload_n 0, 1) := by decide +kernel
theorem d_Mod_family_100 : decode prog_9_method_21_code 100 = .ok (.getfield 81, 3) := by decide +kernel
theorem d_Mod_family_103 : decode prog_9_method_21_code 103 = .ok (.invokevirtual 98, 3) := by decide +kernel
theorem d_Mod_family_106 : decode prog_9_method_21_code 106 = .ok (.istore 5, 2) := by decide +kernel
theorem d_Mod_family_108 : decode prog_9_method_21_code 108 = .ok (.aload_n 0, 1) := by decide +kernel
theorem d_Mod_family_109 : decode prog_9_method_21_code 109 = .ok (.getfield 37, 3) := by decide +kernel
theorem d_Mod_family_112 : decode prog_9_method_21_code 112 = .ok (.iload 5, 2) := by decide +kernel
theorem d_Mod_family_114 : decode prog_9_method_21_code 114 = .ok (.iload_n 2, 1) := by decide +kernel
theorem d_Mod_family_115 : decode prog_9_method_21_code 115 = .ok (.iastore, 1) := by decide +kernel
theorem d_Mod_family_116 : decode prog_9_method_21_code 116 = .ok (.aload_n 0, 1) := by decide +kernel
theorem d_Mod_family_117 : decode prog_9_method_21_code 117 = .ok (.getfield 40, 3) := by decide +kernel
theorem d_Mod_family_120 : decode prog_9_method_21_code 120 = .ok (.iload 5, 2) := by decide +kernel
theorem d_Mod_family_122 : decode prog_9_method_21_code 122 = .ok (.iload 4, 2) := by decide +kernel
theorem d_Mod_family_124 : decode prog_9_method_21_code 124 = .ok (.iload_n 2, 1) := by decide +kernel
theorem d_Mod_family_125 : decode prog_9_method_21_code 125 = .ok (.isub, 1) := by decide +kernel
theorem d_Mod_family_126 : decode prog_9_method_21_code 126 = .ok (.iastore, 1) := by decide +kernel
theorem d_Mod_family_127 : decode prog_9_method_21_code 127 = .ok (.aload_n 0, 1) := by decide +kernel
theorem d_Mod_family_128 : decode prog_9_method_21_code 128 = .ok (.getfield 43, 3) := by decide +kernel
theorem d_Mod_family_131 : decode prog_9_method_21_code 131 = .ok (.iload 5, 2) := by decide +kernel
theorem d_Mod_family_133 : decode prog_9_method_21_code 133 = .ok (.iload_n 3, 1) := by decide +kernel
theorem d_Mod_family_134 : decode prog_9_method_21_code 134 = .ok (.iastore, 1) := by decide +kernel
theorem d_Mod_family_135 : decode prog_9_method_21_code 135 = .ok (.iconst 0, 1) := by decide +kernel
theorem d_Mod_family_136 : decode prog_9_method_21_code 136 = .ok (.istore 6, 2) := by decide +kernel
theorem d_Mod_family_138 : decode prog_9_method_21_code 138 = .ok (.iload 6, 2) := by decide +kernel
theorem d_Mod_family_140 : decode prog_9_method_21_code 140 = .ok (.iload_n 3, 1) := by decide +kernel
theorem d_Mod_family_141 : decode prog_9_method_21_code 141 = .ok (.if_icmp .ge 18, 3) := by decide +kernel
theorem d_Mod_family_144 : decode prog_9_method_21_code 144 = .ok (.aload_n 0, 1) := by decide +kernel
theorem d_Mod_family_145 : decode prog_9_method_21_code 145 = .ok (.iconst 4, 1) := by decide +kernel
theorem d_Mod_family_146 : decode prog_9_method_21_code 146 = .ok (.iconst (-1), 1) := by decide +kernel
theorem d_Mod_family_147 : decode prog_9_method_21_code 147 = .ok (.iload 5, 2) := by decide +kernel
theorem d_Mod_family_149 : decode prog_9_method_21_code 149 = .ok (.invokevirtual 98, 3) := by decide +kernel
theorem d_Mod_family_152 : decode prog_9_method_21_code 152 = .ok (.pop, 1) := by decide +kernel
theorem d_Mod_family_153 : decode prog_9_method_21_code 153 = .ok (.iinc 6 1, 3) := by decide +kernel
theorem d_Mod_family_156 : decode prog_9_method_21_code 156 = .ok (.goto (-18), 3) := by decide +kernel
theorem d_Mod_family_159 : decode prog_9_method_21_code 159 = .ok (.iload 5, 2) := by decide +kernel
theorem d_Mod_family_161 : decode prog_9_method_21_code 161 = .ok (.ireturn, 1) := by decide +kernel
theorem d_Mod_isPut_0 : decode prog_9_method_22_code 0 = .ok (.iload_n 1, 1) := by decide +kernel
theorem d_Mod_isPut_1 : decode prog_9_method_22_code 1 = .ok (.istore 4, 2) := by decide +kernel
theorem d_Mod_isPut_3 : decode prog_9_method_22_code 3 = .ok (.aload_n 0, 1) := by decide +kernel
theorem d_Mod_isPut_4 : decode prog_9_method_22_code 4 = .ok (.getfield 7, 3) := by decide +kernel
theorem d_Mod_isPut_7 : decode prog_9_method_22_code 7 = .ok (.iload 4, 2) := by decide +kernel
theorem d_Mod_isPut_9 : decode prog_9_method_22_code 9 = .ok (.iaload, 1) := by decide +kernel
theorem d_Mod_isPut_10 : decode prog_9_method_22_code 10 = .ok (.iconst 4, 1) := by decide +kernel
theorem d_Mod_isPut_11 : decode prog_9_method_22_code 11 = .ok (.if_icmp .ne 9, 3) := by decide +kernel
theorem d_Mod_isPut_14 : decode prog_9_method_22_code 14 = .ok (.iinc 4 1, 3) := by decide +kernel
theorem d_Mod_isPut_17 : decode prog_9_method_22_code 17 = .ok (.goto (-14), 3) := by decide +kernel
theorem d_Mod_isPut_20 : decode prog_9_method_22_code 20 = .ok (.iload 4, 2) := by decide +kernel
theorem d_Mod_isPut_22 : decode prog_9_method_22_code 22 = .ok (.iload_n 1, 1) := by decide +kernel
theorem d_Mod_isPut_23 : decode prog_9_method_22_code 23 = .ok (.isub, 1) := by decide +kernel
theorem d_Mod_isPut_24 : decode prog_9_method_22_code 24 = .ok (.aload_n 0, 1) := by decide +kernel
theorem d_Mod_isPut_25 : decode prog_9_method_22_code 25 = .ok (.getfield 37, 3) := by decide +kernel
theorem d_Mod_isPut_28 : decode prog_9_method_22_code 28 = .ok (.iload_n 2, 1) := by decide +kernel
theorem d_Mod_isPut_29 : decode prog_9_method_22_code 29 = .ok (.iaload, 1) := by decide +kernel
theorem d_Mod_isPut_30 : decode prog_9_method_22_code 30 = .ok (.aload_n 0, 1) := by decide +kernel
theorem d_Mod_isPut_31 : decode prog_9_method_22_code 31 = .ok (.getfield 40, 3) := by decide +kernel
theorem d_Mod_isPut_34 : decode prog_9_method_22_code 34 = .ok (.iload_n 2, 1) := by decide +kernel
theorem d_Mod_isPut_35 : decode prog_9_method_22_code 35 = .ok (.iaload, 1) := by decide +kernel
theorem d_Mod_isPut_36 : decode prog_9_method_22_code 36 = .ok (.iadd, 1) := by decide +kernel
theorem d_Mod_isPut_37 : decode prog_9_method_22_code 37 = .ok (.if_icmp .ne 29, 3) := by decide +kernel
theorem d_Mod_isPut_40 : decode prog_9_method_22_code 40 = .ok (.aload_n 0, 1) := by decide +kernel
theorem d_Mod_isPut_41 : decode prog_9_method_22_code 41 = .ok (.getfield 7, 3) := by decide +kernel
theorem d_Mod_isPut_44 : decode prog_9_method_22_code 44 = .ok (.iload 4, 2) := by decide +kernel
theorem d_Mod_isPut_46 : decode prog_9_method_22_code 46 = .ok (.iaload, 1) := by decide +kernel
theorem d_Mod_isPut_47 : decode prog_9_method_22_code 47 = .ok (.iconst 1, 1) := by decide +kernel
theorem d_Mod_isPut_48 : decode prog_9_method_22_code 48 = .ok (.if_icmp .ne 18, 3) := by decide +kernel
theorem d_Mod_isPut_51 : decode prog_9_method_22_code 51 = .ok (.aload_n 0, 1) := by decide +kernel
theorem d_Mod_isPut_52 : decode prog_9_method_22_code 52 = .ok (.getfield 13, 3) := by decide +kernel
theorem d_Mod_isPut_55 : decode prog_9_method_22_code 55 = .ok (.iload 4, 2) := by decide +kernel
theorem d_Mod_isPut_57 : decode prog_9_method_22_code 57 = .ok (.iaload, 1) := by decide +kernel
theorem d_Mod_isPut_58 : decode prog_9_method_22_code 58 = .ok (.iload_n 2, 1) := by decide +kernel
theorem d_Mod_isPut_59 : decode prog_9_method_22_code 59 = .ok (.if_icmp .ne 7, 3) := by decide +kernel
theorem d_Mod_isPut_62 : decode prog_9_method_22_code 62 = .ok (.iconst 1, 1) := by decide +kernel
theorem d_Mod_isPut_63 : decode prog_9_method_22_code 63 = .ok (.goto 4, 3) := by decide +kernel
theorem d_Mod_isPut_66 : decode prog_9_method_22_code 66 = .ok (.iconst 0, 1) := by decide +kernel
theorem d_Mod_isPut_67 : decode prog_9_method_22_code 67 = .ok (.istore 5, 2) := by decide +kernel
theorem d_Mod_isPut_69 : decode prog_9_method_22_code 69 = .ok (.iinc 4 1, 3) := by decide +kernel
theorem d_Mod_isPut_72 : decode prog_9_method_22_code 72 = .ok (.iconst 0, 1) := by decide +kernel
theorem d_Mod_isPut_73 : decode prog_9_method_22_code 73 = .ok (.istore 6, 2) := by decide +kernel
theorem d_Mod_isPut_75 : decode prog_9_method_22_code 75 = .ok (.iload 6, 2) := by decide +kernel
theorem d_Mod_isPut_77 : decode prog_9_method_22_code 77 = .ok (.aload_n 0, 1) := by decide +kernel
theorem d_Mod_isPut_78 : decode prog_9_method_22_code 78 = .ok (.getfield 37, 3) := by decide +kernel
theorem d_Mod_isPut_81 : decode prog_9_method_22_code 81 = .ok (.iload_n 2, 1) := by decide +kernel
theorem d_Mod_isPut_82 : decode prog_9_method_22_code 82 = .ok (.iaload, 1) := by decide +kernel
theorem d_Mod_isPut_83 : decode prog_9_method_22_code 83 = .ok (.if_icmp .ge 57, 3) := by decide +kernel
theorem d_Mod_isPut_86 : decode prog_9_method_22_code 86 = .ok (.iload 5, 2) := by decide +kernel
theorem d_Mod_isPut_88 : decode prog_9_method_22_code 88 = .ok (.ifCond .eq 52, 3) := by decide +kernel
theorem d_Mod_isPut_91 : decode prog_9_method_22_code 91 = .ok (.aload_n 0, 1) := by decide +kernel
theorem d_Mod_isPut_92 : decode prog_9_method_22_code 92 = .ok (.getfield 7, 3) := by decide +kernel
theorem d_Mod_isPut_95 : decode prog_9_method_22_code 95 = .ok (.iload 4, 2) := by decide +kernel
theorem d_Mod_isPut_97 : decode prog_9_method_22_code 97 = .ok (.iaload, 1) := by decide +kernel
theorem d_Mod_isPut_98 : decode prog_9_method_22_code 98 = .ok (.ifCond .ne 21, 3) := by decide +kernel
theorem d_Mod_isPut_101 : decode prog_9_method_22_code 101 = .ok (.aload_n 0, 1) := by decide +kernel
theorem d_Mod_isPut_102 : decode prog_9_method_22_code 102 = .ok (.getfield 13, 3) := by decide +kernel
theorem d_Mod_isPut_105 : decode prog_9_method_22_code 105 = .ok (.iload 4, 2) := by decide +kernel
theorem d_Mod_isPut_107 : decode prog_9_method_22_code 107 = .ok (.iaload, 1) := by decide +kernel
theorem d_Mod_isPut_108 : decode prog_9_method_22_code 108 = .ok (.iload_n 3, 1) := by decide +kernel
theorem d_Mod_isPut_109 : decode prog_9_method_22_code 109 = .ok (.iload 6, 2) := by decide +kernel
theorem d_Mod_isPut_111 : decode prog_9_method_22_code 111 = .ok (.isub, 1) := by decide +kernel
theorem d_Mod_isPut_112 : decode prog_9_method_22_code 112 = .ok (.if_icmp .ne 7, 3) := by decide +kernel
theorem d_Mod_isPut_115 : decode prog_9_method_22_code 115 = .ok (.iconst 1, 1) := by decide +kernel
theorem d_Mod_isPut_116 : decode prog_9_method_22_code 116 = .ok (.goto 4, 3) := by decide +kernel
theorem d_Mod_isPut_119 : decode prog_9_method_22_code 119 = .ok (.iconst 0, 1) := by decide +kernel
theorem d_Mod_isPut_120 : decode prog_9_method_22_code 120 = .ok (.istore 5, 2) := by decide +kernel
theorem d_Mod_isPut_122 : decode prog_9_method_22_code 122 = .ok (.iload 4, 2) := by decide +kernel
theorem d_Mod_isPut_124 : decode prog_9_method_22_code 124 = .ok (.aload_n 0, 1) := by decide +kernel
theorem d_Mod_isPut_125 : decode prog_9_method_22_code 125 = .ok (.getfield 19, 3) := by decide +kernel
theorem d_Mod_isPut_128 : decode prog_9_method_22_code 128 = .ok (.iload 4, 2) := by decide +kernel
theorem d_Mod_isPut_130 : decode prog_9_method_22_code 130 = .ok (.iaload, 1) := by decide +kernel
theorem d_Mod_isPut_131 : decode prog_9_method_22_code 131 = .ok (.iadd, 1) := by decide +kernel
theorem d_Mod_isPut_132 : decode prog_9_method_22_code 132 = .ok (.istore 4, 2) := by decide +kernel
theorem d_Mod_isPut_134 : decode prog_9_method_22_code 134 = .ok (.iinc 6 1, 3) := by decide +kernel
theorem d_Mod_isPut_137 : decode prog_9_method_22_code 137 = .ok (.goto (-62), 3) := by decide +kernel
theorem d_Mod_isPut_140 : decode prog_9_method_22_code 140 = .ok (.iload 5, 2) := by decide +kernel
theorem d_Mod_isPut_142 : decode prog_9_method_22_code 142 = .ok (.ireturn, 1) := by decide +kernel
theorem d_Mod_has_0 : decode prog_9_method_23_code 0 = .ok (.iconst 0, 1) := by decide +kernel
theorem d_Mod_has_1 : decode prog_9_method_23_code 1 = .ok (.istore_n 3, 1) := by decide +kernel
theorem d_Mod_has_2 : decode prog_9_method_23_code 2 = .ok (.iload_n 1, 1) := by decide +kernel
theorem d_Mod_has_3 : decode prog_9_method_23_code 3 = .ok (.istore 4, 2) := by decide +kernel
theorem d_Mod_has_5 : decode prog_9_method_23_code 5 = .ok (.iload 4, 2) := by decide +kernel
theorem d_Mod_has_7 : decode prog_9_method_23_code 7 = .ok (.iload_n 1, 1) := by decide +kernel
theorem d_Mod_has_8 : decode prog_9_method_23_code 8 = .ok (.aload_n 0, 1) := by decide +kernel
theorem d_Mod_has_9 : decode prog_9_method_23_code 9 = .ok (.getfield 19, 3) := by decide +kernel
theorem d_Mod_has_12 : decode prog_9_method_23_code 12 = .ok (.iload_n 1, 1) := by decide +kernel
theorem d_Mod_has_13 : decode prog_9_method_23_code 13 = .ok (.iaload, 1) := by decide +kernel
theorem d_Mod_has_14 : decode prog_9_method_23_code 14 = .ok (.iadd, 1) := by decide +kernel
theorem d_Mod_has_15 : decode prog_9_method_23_code 15 = .ok (.if_icmp .ge 50, 3) := by decide +kernel
theorem d_Mod_has_18 : decode prog_9_method_23_code 18 = .ok (.iload_n 3, 1) := by decide +kernel
theorem d_Mod_has_19 : decode prog_9_method_23_code 19 = .ok (.aload_n 0, 1) := by decide +kernel
theorem d_Mod_has_20 : decode prog_9_method_23_code 20 = .ok (.getfield 7, 3) := by decide +kernel
theorem d_Mod_has_23 : decode prog_9_method_23_code 23 = .ok (.iload 4, 2) := by decide +kernel
theorem d_Mod_has_25 : decode prog_9_method_23_code 25 = .ok (.iaload, 1) := by decide +kernel
theorem d_Mod_has_26 : decode prog_9_method_23_code 26 = .ok (.iconst 1, 1) := by decide +kernel
theorem d_Mod_has_27 : decode prog_9_method_23_code 27 = .ok (.if_icmp .eq 14, 3) := by decide +kernel
theorem d_Mod_has_30 : decode prog_9_method_23_code 30 = .ok (.aload_n 0, 1) := by decide +kernel
theorem d_Mod_has_31 : decode prog_9_method_23_code 31 = .ok (.getfield 7, 3) := by decide +kernel
theorem d_Mod_has_34 : decode prog_9_method_23_code 34 = .ok (.iload 4, 2) := by decide +kernel
theorem d_Mod_has_36 : decode prog_9_method_23_code 36 = .ok (.iaload, 1) := by decide +kernel
theorem d_Mod_has_37 : decode prog_9_method_23_code 37 = .ok (.iconst 3, 1) := by decide +kernel
theorem d_Mod_has_38 : decode prog_9_method_23_code 38 = .ok (.if_icmp .ne 18, 3) := by decide +kernel
theorem d_Mod_has_41 : decode prog_9_method_23_code 41 = .ok (.aload_n 0, 1) := by decide +kernel
theorem d_Mod_has_42 : decode prog_9_method_23_code 42 = .ok (.getfield 13, 3) := by decide +kernel
theorem d_Mod_has_45 : decode prog_9_method_23_code 45 = .ok (.iload 4, 2) := by decide +kernel
theorem d_Mod_has_47 : decode prog_9_method_23_code 47 = .ok (.iaload, 1) := by decide +kernel
theorem d_Mod_has_48 : decode prog_9_method_23_code 48 = .ok (.iload_n 2, 1) := by decide +kernel
theorem d_Mod_has_49 : decode prog_9_method_23_code 49 = .ok (.if_icmp .ne 7, 3) := by decide +kernel
theorem d_Mod_has_52 : decode prog_9_method_23_code 52 = .ok (.iconst 1, 1) := by decide +kernel
theorem d_Mod_has_53 : decode prog_9_method_23_code 53 = .ok (.goto 4, 3) := by decide +kernel
theorem d_Mod_has_56 : decode prog_9_method_23_code 56 = .ok (.iconst 0, 1) := by decide +kernel
theorem d_Mod_has_57 : decode prog_9_method_23_code 57 = .ok (.ior, 1) := by decide +kernel
theorem d_Mod_has_58 : decode prog_9_method_23_code 58 = .ok (.istore_n 3, 1) := by decide +kernel
theorem d_Mod_has_59 : decode prog_9_method_23_code 59 = .ok (.iinc 4 1, 3) := by decide +kernel
theorem d_Mod_has_62 : decode prog_9_method_23_code 62 = .ok (.goto (-57), 3) := by decide +kernel
theorem d_Mod_has_65 : decode prog_9_method_23_code 65 = .ok (.iload_n 3, 1) := by decide +kernel
theorem d_Mod_has_66 : decode prog_9_method_23_code 66 = .ok (.ireturn, 1) := by decide +kernel
theorem d_Mod_judge_0 : decode prog_9_method_24_code 0 = .ok (.aload_n 0, 1) := by decide +kernel
theorem d_Mod_judge_1 : decode prog_9_method_24_code 1 = .ok (.iload_n 1, 1) := by decide +kernel
theorem d_Mod_judge_2 : decode prog_9_method_24_code 2 = .ok (.iload_n 2, 1) := by decide +kernel
theorem d_Mod_judge_3 : decode prog_9_method_24_code 3 = .ok (.invokevirtual 111, 3) := by decide +kernel
theorem d_Mod_judge_6 : decode prog_9_method_24_code 6 = .ok (.ifCond .ne 5, 3) := by decide +kernel
theorem d_Mod_judge_9 : decode prog_9_method_24_code 9 = .ok (.iconst 1, 1) := by decide +kernel
theorem d_Mod_judge_10 : decode prog_9_method_24_code 10 = .ok (.ireturn, 1) := by decide +kernel
theorem d_Mod_judge_11 : decode prog_9_method_24_code 11 = .ok (.aload_n 0, 1) := by decide +kernel
theorem d_Mod_judge_12 : decode prog_9_method_24_code 12 = .ok (.iload_n 1, 1) := by decide +kernel
theorem d_Mod_judge_13 : decode prog_9_method_24_code 13 = .ok (.invokevirtual 104, 3) := by decide +kernel
theorem d_Mod_judge_16 : decode prog_9_method_24_code 16 = .ok (.istore 4, 2) := by decide +kernel
theorem d_Mod_judge_18 : decode prog_9_method_24_code 18 = .ok (.aload_n 0, 1) := by decide +kernel
theorem d_Mod_judge_19 : decode prog_9_method_24_code 19 = .ok (.iload_n 1, 1) := by decide +kernel
theorem d_Mod_judge_20 : decode prog_9_method_24_code 20 = .ok (.iload 4, 2) := by decide +kernel
theorem d_Mod_judge_22 : decode prog_9_method_24_code 22 = .ok (.invokevirtual 107, 3) := by decide +kernel
theorem d_Mod_judge_25 : decode prog_9_method_24_code 25 = .ok (.istore 5, 2) := by decide +kernel
theorem d_Mod_judge_27 : decode prog_9_method_24_code 27 = .ok (.aload_n 0, 1) := by decide +kernel
theorem d_Mod_judge_28 : decode prog_9_method_24_code 28 = .ok (.iload 5, 2) := by decide +kernel
theorem d_Mod_judge_30 : decode prog_9_method_24_code 30 = .ok (.iload_n 2, 1) := by decide +kernel
theorem d_Mod_judge_31 : decode prog_9_method_24_code 31 = .ok (.iload_n 3, 1) := by decide +kernel
theorem d_Mod_judge_32 : decode prog_9_method_24_code 32 = .ok (.iload 4, 2) := by decide +kernel
theorem d_Mod_judge_34 : decode prog_9_method_24_code 34 = .ok (.iadd, 1) := by decide +kernel
theorem d_Mod_judge_35 : decode prog_9_method_24_code 35 = .ok (.iconst 1, 1) := by decide +kernel
theorem d_Mod_judge_36 : decode prog_9_method_24_code 36 = .ok (.isub, 1) := by decide +kernel
theorem d_Mod_judge_37 : decode prog_9_method_24_code 37 = .ok (.invokevirtual 115, 3) := by decide +kernel
theorem d_Mod_judge_40 : decode prog_9_method_24_code 40 = .ok (.ifCond .ne 5, 3) := by decide +kernel
theorem d_Mod_judge_43 : decode prog_9_method_24_code 43 = .ok (.iconst 0, 1) := by decide +kernel
theorem d_Mod_judge_44 : decode prog_9_method_24_code 44 = .ok (.ireturn, 1) := by decide +kernel
theorem d_Mod_judge_45 : decode prog_9_method_24_code 45 = .ok (.iconst 1, 1) := by decide +kernel
theorem d_Mod_judge_46 : decode prog_9_method_24_code 46 = .ok (.istore 6, 2) := by decide +kernel
theorem d_Mod_judge_48 : decode prog_9_method_24_code 48 = .ok (.iconst 0, 1) := by decide +kernel
theorem d_Mod_judge_49 : decode prog_9_method_24_code 49 = .ok (.istore 7, 2) := by decide +kernel
theorem d_Mod_judge_51 : decode prog_9_method_24_code 51 = .ok (.iload 7, 2) := by decide +kernel
theorem d_Mod_judge_53 : decode prog_9_method_24_code 53 = .ok (.iload 4, 2) := by decide +kernel
theorem d_Mod_judge_55 : decode prog_9_method_24_code 55 = .ok (.if_icmp .ge 36, 3) := by decide +kernel
theorem d_Mod_judge_58 : decode prog_9_method_24_code 58 = .ok (.iload 6, 2) := by decide +kernel
theorem d_Mod_judge_60 : decode prog_9_method_24_code 60 = .ok (.aload_n 0, 1) := by decide +kernel
theorem d_Mod_judge_61 : decode prog_9_method_24_code 61 = .ok (.aload_n 0, 1) := by decide +kernel
theorem d_Mod_judge_62 : decode prog_9_method_24_code 62 = .ok (.iload_n 1, 1) := by decide +kernel
theorem d_Mod_judge_63 : decode prog_9_method_24_code 63 = .ok (.iload 7, 2) := by decide +kernel
theorem d_Mod_judge_65 : decode prog_9_method_24_code 65 = .ok (.invokevirtual 107, 3) := by decide +kernel
theorem d_Mod_judge_68 : decode prog_9_method_24_code 68 = .ok (.iconst 1, 1) := by decide +kernel
theorem d_Mod_judge_69 : decode prog_9_method_24_code 69 = .ok (.iadd, 1) := by decide +kernel
theorem d_Mod_judge_70 : decode prog_9_method_24_code 70 = .ok (.iload_n 2, 1) := by decide +kernel
theorem d_Mod_judge_71 : decode prog_9_method_24_code 71 = .ok (.invokevirtual 111, 3) := by decide +kernel
theorem d_Mod_judge_74 : decode prog_9_method_24_code 74 = .ok (.ifCond .ne 7, 3) := by decide +kernel
theorem d_Mod_judge_77 : decode prog_9_method_24_code 77 = .ok (.iconst 1, 1) := by decide +kernel
theorem d_Mod_judge_78 : decode prog_9_method_24_code 78 = .ok (.goto 4, 3) := by decide +kernel
theorem d_Mod_judge_81 : decode prog_9_method_24_code 81 = .ok (.iconst 0, 1) := by decide +kernel
theorem d_Mod_judge_82 : decode prog_9_method_24_code 82 = .ok (.iand, 1) := by decide +kernel
theorem d_Mod_judge_83 : decode prog_9_method_24_code 83 = .ok (.istore 6, 2) := by decide +kernel
theorem d_Mod_judge_85 : decode prog_9_method_24_code 85 = .ok (.iinc 7 1, 3) := by decide +kernel
theorem d_Mod_judge_88 : decode prog_9_method_24_code 88 = .ok (.goto (-37), 3) := by decide +kernel
theorem d_Mod_judge_91 : decode prog_9_method_24_code 91 = .ok (.iconst 0, 1) := by decide +kernel
theorem d_Mod_judge_92 : decode prog_9_method_24_code 92 = .ok (.istore 7, 2) := by decide +kernel
theorem d_Mod_judge_94 : decode prog_9_method_24_code 94 = .ok (.iload 7, 2) := by decide +kernel
theorem d_Mod_judge_96 : decode prog_9_method_24_code 96 = .ok (.aload_n 0, 1) := by decide +kernel
theorem d_Mod_judge_97 : decode prog_9_method_24_code 97 = .ok (.getfield 40, 3) := by decide +kernel
theorem d_Mod_judge_100 : decode prog_9_method_24_code 100 = .ok (.iload_n 2, 1) := by decide +kernel
theorem d_Mod_judge_101 : decode prog_9_method_24_code 101 = .ok (.iaload, 1) := by decide +kernel
theorem d_Mod_judge_102 : decode prog_9_method_24_code 102 = .ok (.if_icmp .ge 36, 3) := by decide +kernel
theorem d_Mod_judge_105 : decode prog_9_method_24_code 105 = .ok (.iload 6, 2) := by decide +kernel
theorem d_Mod_judge_107 : decode prog_9_method_24_code 107 = .ok (.aload_n 0, 1) := by decide +kernel
theorem d_Mod_judge_108 : decode prog_9_method_24_code 108 = .ok (.aload_n 0, 1) := by decide +kernel
theorem d_Mod_judge_109 : decode prog_9_method_24_code 109 = .ok (.iload 5, 2) := by decide +kernel
theorem d_Mod_judge_111 : decode prog_9_method_24_code 111 = .ok (.iload_n 2, 1) := by decide +kernel
theorem d_Mod_judge_112 : decode prog_9_method_24_code 112 = .ok (.iload 7, 2) := by decide +kernel
theorem d_Mod_judge_114 : decode prog_9_method_24_code 114 = .ok (.invokevirtual 119, 3) := by decide +kernel
theorem d_Mod_judge_117 : decode prog_9_method_24_code 117 = .ok (.iload_n 2, 1) := by decide +kernel
theorem d_Mod_judge_118 : decode prog_9_method_24_code 118 = .ok (.invokevirtual 111, 3) := by decide +kernel
theorem d_Mod_judge_121 : decode prog_9_method_24_code 121 = .ok (.ifCond .ne 7, 3) := by decide +kernel
theorem d_Mod_judge_124 : decode prog_9_method_24_code 124 = .ok (.iconst 1, 1) := by decide +kernel
theorem d_Mod_judge_125 : decode prog_9_method_24_code 125 = .ok (.goto 4, 3) := by decide +kernel
theorem d_Mod_judge_128 : decode prog_9_method_24_code 128 = .ok (.iconst 0, 1) := by decide +kernel
theorem d_Mod_judge_129 : decode prog_9_method_24_code 129 = .ok (.iand, 1) := by decide +kernel
theorem d_Mod_judge_130 : decode prog_9_method_24_code 130 = .ok (.istore 6, 2) := by decide +kernel
theorem d_Mod_judge_132 : decode prog_9_method_24_code 132 = .ok (.iinc 7 1, 3) := by decide +kernel
theorem d_Mod_judge_135 : decode prog_9_method_24_code 135 = .ok (.goto (-41), 3) := by decide +kernel
theorem d_Mod_judge_138 : decode prog_9_method_24_code 138 = .ok (.iload 6, 2) := by decide +kernel
theorem d_Mod_judge_140 : decode prog_9_method_24_code 140 = .ok (.ifCond .eq 7, 3) := by decide +kernel
theorem d_Mod_judge_143 : decode prog_9_method_24_code 143 = .ok (.iconst 2, 1) := by decide +kernel
theorem d_Mod_judge_144 : decode prog_9_method_24_code 144 = .ok (.goto 4, 3) := by decide +kernel
theorem d_Mod_judge_147 : decode prog_9_method_24_code 147 = .ok (.iconst 0, 1) := by decide +kernel
theorem d_Mod_judge_148 : decode prog_9_method_24_code 148 = .ok (.ireturn, 1) := by decide +kernel
theorem d_Mod_index_0 : decode prog_9_method_25_code 0 = .ok (.iload_n 1, 1) := by decide +kernel
theorem d_Mod_index_1 : decode prog_9_method_25_code 1 = .ok (.aload_n 0, 1) := by decide +kernel
theorem d_Mod_index_2 : decode prog_9_method_25_code 2 = .ok (.getfield 37, 3) := by decide +kernel
theorem d_Mod_index_5 : decode prog_9_method_25_code 5 = .ok (.iload_n 2, 1) := by decide +kernel
theorem d_Mod_index_6 : decode prog_9_method_25_code 6 = .ok (.iaload, 1) := by decide +kernel
theorem d_Mod_index_7 : decode prog_9_method_25_code 7 = .ok (.iadd, 1) := by decide +kernel
theorem d_Mod_index_8 : decode prog_9_method_25_code 8 = .ok (.aload_n 0, 1) := by decide +kernel
theorem d_Mod_index_9 : decode prog_9_method_25_code 9 = .ok (.getfield 40, 3) := by decide +kernel
theorem d_Mod_index_12 : decode prog_9_method_25_code 12 = .ok (.iload_n 2, 1) := by decide +kernel
theorem d_Mod_index_13 : decode prog_9_method_25_code 13 = .ok (.iaload, 1) := by decide +kernel
theorem d_Mod_index_14 : decode prog_9_method_25_code 14 = .ok (.iadd, 1) := by decide +kernel
theorem d_Mod_index_15 : decode prog_9_method_25_code 15 = .ok (.iconst 1, 1) := by decide +kernel
theorem d_Mod_index_16 : decode prog_9_method_25_code 16 = .ok (.iadd, 1) := by decide +kernel
theorem d_Mod_index_17 : decode prog_9_method_25_code 17 = .ok (.istore 4, 2) := by decide +kernel
theorem d_Mod_index_19 : decode prog_9_method_25_code 19 = .ok (.iconst 0, 1) := by decide +kernel
theorem d_Mod_index_20 : decode prog_9_method_25_code 20 = .ok (.istore 5, 2) := by decide +kernel
theorem d_Mod_index_22 : decode prog_9_method_25_code 22 = .ok (.iload 5, 2) := by decide +kernel
theorem d_Mod_index_24 : decode prog_9_method_25_code 24 = .ok (.aload_n 0, 1) := by decide +kernel
theorem d_Mod_index_25 : decode prog_9_method_25_code 25 = .ok (.getfield 37, 3) := by decide +kernel
theorem d_Mod_index_28 : decode prog_9_method_25_code 28 = .ok (.iload_n 2, 1) := by decide +kernel
theorem d_Mod_index_29 : decode prog_9_method_25_code 29 = .ok (.iaload, 1) := by decide +kernel
theorem d_Mod_index_30 : decode prog_9_method_25_code 30 = .ok (.iload_n 3, 1) := by decide +kernel
theorem d_Mod_index_31 : decode prog_9_method_25_code 31 = .ok (.iadd, 1) := by decide +kernel
theorem d_Mod_index_32 : decode prog_9_method_25_code 32 = .ok (.if_icmp .ge 21, 3) := by decide +kernel
theorem d_Mod_index_35 : decode prog_9_method_25_code 35 = .ok (.iload 4, 2) := by decide +kernel
theorem d_Mod_index_37 : decode prog_9_method_25_code 37 = .ok (.aload_n 0, 1) := by decide +kernel
theorem d_Mod_index_38 : decode prog_9_method_25_code 38 = .ok (.getfield 19, 3) := by decide +kernel
theorem d_Mod_index_41 : decode prog_9_method_25_code 41 = .ok (.iload 4, 2) := by decide +kernel
theorem d_Mod_index_43 : decode prog_9_method_25_code 43 = .ok (.iaload, 1) := by decide +kernel
theorem d_Mod_index_44 : decode prog_9_method_25_code 44 = .ok (.iadd, 1) := by decide +kernel
theorem d_Mod_index_45 : decode prog_9_method_25_code 45 = .ok (.istore 4, 2) := by decide +kernel
theorem d_Mod_index_47 : decode prog_9_method_25_code 47 = .ok (.iinc 5 1, 3) := by decide +kernel
theorem d_Mod_index_50 : decode prog_9_method_25_code 50 = .ok (.goto (-28), 3) := by decide +kernel
theorem d_Mod_index_53 : decode prog_9_method_25_code 53 = .ok (.iload 4, 2) := by decide +kernel
theorem d_Mod_index_55 : decode prog_9_method_25_code 55 = .ok (.ireturn, 1) := by decide +kernel
theorem d_Mod_positive_0 : decode prog_9_method_26_code 0 = .ok (.iload_n 1, 1) := by decide +kernel
theorem d_Mod_positive_1 : decode prog_9_method_26_code 1 = .ok (.ifCond .lt 39, 3) := by decide +kernel
theorem d_Mod_positive_4 : decode prog_9_method_26_code 4 = .ok (.iload_n 1, 1) := by decide +kernel
theorem d_Mod_positive_5 : decode prog_9_method_26_code 5 = .ok (.aload_n 0, 1) := by decide +kernel
theorem d_Mod_positive_6 : decode prog_9_method_26_code 6 = .ok (.getfield 81, 3) := by decide +kernel
theorem d_Mod_positive_9 : decode prog_9_method_26_code 9 = .ok (.if_icmp .ge 31, 3) := by decide +kernel
theorem d_Mod_positive_12 : decode prog_9_method_26_code 12 = .ok (.aload_n 0, 1) := by decide +kernel
theorem d_Mod_positive_13 : decode prog_9_method_26_code 13 = .ok (.getfield 28, 3) := by decide +kernel
theorem d_Mod_positive_16 : decode prog_9_method_26_code 16 = .ok (.iload_n 1, 1) := by decide +kernel
theorem d_Mod_positive_17 : decode prog_9_method_26_code 17 = .ok (.iaload, 1) := by decide +kernel
theorem d_Mod_positive_18 : decode prog_9_method_26_code 18 = .ok (.iconst 3, 1) := by decide +kernel
theorem d_Mod_positive_19 : decode prog_9_method_26_code 19 = .ok (.if_icmp .ne 21, 3) := by decide +kernel
theorem d_Mod_positive_22 : decode prog_9_method_26_code 22 = .ok (.aload_n 0, 1) := by decide +kernel
theorem d_Mod_positive_23 : decode prog_9_method_26_code 23 = .ok (.iload_n 2, 1) := by decide +kernel
theorem d_Mod_positive_24 : decode prog_9_method_26_code 24 = .ok (.invokevirtual 90, 3) := by decide +kernel
theorem d_Mod_positive_27 : decode prog_9_method_26_code 27 = .ok (.ifCond .eq 13, 3) := by decide +kernel
theorem d_Mod_positive_30 : decode prog_9_method_26_code 30 = .ok (.iload_n 3, 1) := by decide +kernel
theorem d_Mod_positive_31 : decode prog_9_method_26_code 31 = .ok (.ifCond .lt 9, 3) := by decide +kernel
theorem d_Mod_positive_34 : decode prog_9_method_26_code 34 = .ok (.iload_n 3, 1) := by decide +kernel
theorem d_Mod_positive_35 : decode prog_9_method_26_code 35 = .ok (.bipush 100, 2) := by decide +kernel
theorem d_Mod_positive_37 : decode prog_9_method_26_code 37 = .ok (.if_icmp .le 5, 3) := by decide +kernel
theorem d_Mod_positive_40 : decode prog_9_method_26_code 40 = .ok (.iconst (-1), 1) := by decide +kernel
theorem d_Mod_positive_41 : decode prog_9_method_26_code 41 = .ok (.ireturn, 1) := by decide +kernel
theorem d_Mod_positive_42 : decode prog_9_method_26_code 42 = .ok (.aload_n 0, 1) := by decide +kernel
theorem d_Mod_positive_43 : decode prog_9_method_26_code 43 = .ok (.aload_n 0, 1) := by decide +kernel
theorem d_Mod_positive_44 : decode prog_9_method_26_code 44 = .ok (.getfield 25, 3) := by decide +kernel
theorem d_Mod_positive_47 : decode prog_9_method_26_code 47 = .ok (.iload_n 2, 1) := by decide +kernel
theorem d_Mod_positive_48 : decode prog_9_method_26_code 48 = .ok (.iaload, 1) := by decide +kernel
theorem d_Mod_positive_49 : decode prog_9_method_26_code 49 = .ok (.iload_n 1, 1) := by decide +kernel
theorem d_Mod_positive_50 : decode prog_9_method_26_code 50 = .ok (.aload_n 0, 1) := by decide +kernel
theorem d_Mod_positive_51 : decode prog_9_method_26_code 51 = .ok (.getfield 37, 3) := by decide +kernel
theorem d_Mod_positive_54 : decode prog_9_method_26_code 54 = .ok (.iload_n 1, 1) := by decide +kernel
theorem d_Mod_positive_55 : decode prog_9_method_26_code 55 = .ok (.iaload, 1) := by decide +kernel
theorem d_Mod_positive_56 : decode prog_9_method_26_code 56 = .ok (.iload_n 3, 1) := by decide +kernel
theorem d_Mod_positive_57 : decode prog_9_method_26_code 57 = .ok (.iadd, 1) := by decide +kernel
theorem d_Mod_positive_58 : decode prog_9_method_26_code 58 = .ok (.invokevirtual 122, 3) := by decide +kernel
theorem d_Mod_positive_61 : decode prog_9_method_26_code 61 = .ok (.ireturn, 1) := by decide +kernel
theorem d_Mod_constructor_0 : decode prog_9_method_27_code 0 = .ok (.iload_n 1, 1) := by decide +kernel
theorem d_Mod_constructor_1 : decode prog_9_method_27_code 1 = .ok (.ifCond .lt 52, 3) := by decide +kernel
theorem d_Mod_constructor_4 : decode prog_9_method_27_code 4 = .ok (.iload_n 1, 1) := by decide +kernel
theorem d_Mod_constructor_5 : decode prog_9_method_27_code 5 = .ok (.aload_n 0, 1) := by decide +kernel
theorem d_Mod_constructor_6 : decode prog_9_method_27_code 6 = .ok (.getfield 81, 3) := by decide +kernel
theorem d_Mod_constructor_9 : decode prog_9_method_27_code 9 = .ok (.if_icmp .ge 44, 3) := by decide +kernel
theorem d_Mod_constructor_12 : decode prog_9_method_27_code 12 = .ok (.aload_n 0, 1) := by decide +kernel
theorem d_Mod_constructor_13 : decode prog_9_method_27_code 13 = .ok (.getfield 28, 3) := by decide +kernel
theorem d_Mod_constructor_16 : decode prog_9_method_27_code 16 = .ok (.iload_n 1, 1) := by decide +kernel
theorem d_Mod_constructor_17 : decode prog_9_method_27_code 17 = .ok (.iaload, 1) := by decide +kernel
theorem d_Mod_constructor_18 : decode prog_9_method_27_code 18 = .ok (.iconst 4, 1) := by decide +kernel
theorem d_Mod_constructor_19 : decode prog_9_method_27_code 19 = .ok (.if_icmp .ne 34, 3) := by decide +kernel
theorem d_Mod_constructor_22 : decode prog_9_method_27_code 22 = .ok (.aload_n 0, 1) := by decide +kernel
theorem d_Mod_constructor_23 : decode prog_9_method_27_code 23 = .ok (.getfield 31, 3) := by decide +kernel
theorem d_Mod_constructor_26 : decode prog_9_method_27_code 26 = .ok (.iload_n 1, 1) := by decide +kernel
theorem d_Mod_constructor_27 : decode prog_9_method_27_code 27 = .ok (.iaload, 1) := by decide +kernel
theorem d_Mod_constructor_28 : decode prog_9_method_27_code 28 = .ok (.iconst (-1), 1) := by decide +kernel
theorem d_Mod_constructor_29 : decode prog_9_method_27_code 29 = .ok (.if_icmp .ne 24, 3) := by decide +kernel
theorem d_Mod_constructor_32 : decode prog_9_method_27_code 32 = .ok (.aload_n 0, 1) := by decide +kernel
theorem d_Mod_constructor_33 : decode prog_9_method_27_code 33 = .ok (.iload_n 2, 1) := by decide +kernel
theorem d_Mod_constructor_34 : decode prog_9_method_27_code 34 = .ok (.invokevirtual 90, 3) := by decide +kernel
theorem d_Mod_constructor_37 : decode prog_9_method_27_code 37 = .ok (.ifCond .eq 16, 3) := by decide +kernel
theorem d_Mod_constructor_40 : decode prog_9_method_27_code 40 = .ok (.aload_n 0, 1) := by decide +kernel
theorem d_Mod_constructor_41 : decode prog_9_method_27_code 41 = .ok (.aload_n 0, 1) := by decide +kernel
theorem d_Mod_constructor_42 : decode prog_9_method_27_code 42 = .ok (.getfield 25, 3) := by decide +kernel
theorem d_Mod_constructor_45 : decode prog_9_method_27_code 45 = .ok (.iload_n 2, 1) := by decide +kernel
theorem d_Mod_constructor_46 : decode prog_9_method_27_code 46 = .ok (.iaload, 1) := by decide +kernel
theorem d_Mod_constructor_47 : decode prog_9_method_27_code 47 = .ok (.invokevirtual 101, 3) := by decide +kernel
theorem d_Mod_constructor_50 : decode prog_9_method_27_code 50 = .ok (.ifCond .ne 5, 3) := by decide +kernel
theorem d_Mod_constructor_53 : decode prog_9_method_27_code 53 = .ok (.iconst (-1), 1) := by decide +kernel
theorem d_Mod_constructor_54 : decode prog_9_method_27_code 54 = .ok (.ireturn, 1) := by decide +kernel
theorem d_Mod_constructor_55 : decode prog_9_method_27_code 55 = .ok (.aload_n 0, 1) := by decide +kernel
theorem d_Mod_constructor_56 : decode prog_9_method_27_code 56 = .ok (.getfield 34, 3) := by decide +kernel
theorem d_Mod_constructor_59 : decode prog_9_method_27_code 59 = .ok (.iload_n 1, 1) := by decide +kernel
theorem d_Mod_constructor_60 : decode prog_9_method_27_code 60 = .ok (.iaload, 1) := by decide +kernel
theorem d_Mod_constructor_61 : decode prog_9_method_27_code 61 = .ok (.istore_n 3, 1) := by decide +kernel
theorem d_Mod_constructor_62 : decode prog_9_method_27_code 62 = .ok (.aload_n 0, 1) := by decide +kernel
theorem d_Mod_constructor_63 : decode prog_9_method_27_code 63 = .ok (.aload_n 0, 1) := by decide +kernel
theorem d_Mod_constructor_64 : decode prog_9_method_27_code 64 = .ok (.getfield 25, 3) := by decide +kernel
theorem d_Mod_constructor_67 : decode prog_9_method_27_code 67 = .ok (.iload_n 2, 1) := by decide +kernel
theorem d_Mod_constructor_68 : decode prog_9_method_27_code 68 = .ok (.iaload, 1) := by decide +kernel
theorem d_Mod_constructor_69 : decode prog_9_method_27_code 69 = .ok (.invokevirtual 104, 3) := by decide +kernel
theorem d_Mod_constructor_72 : decode prog_9_method_27_code 72 = .ok (.istore 4, 2) := by decide +kernel
theorem d_Mod_constructor_74 : decode prog_9_method_27_code 74 = .ok (.iload 4, 2) := by decide +kernel
theorem d_Mod_constructor_76 : decode prog_9_method_27_code 76 = .ok (.aload_n 0, 1) := by decide +kernel
theorem d_Mod_constructor_77 : decode prog_9_method_27_code 77 = .ok (.getfield 37, 3) := by decide +kernel
theorem d_Mod_constructor_80 : decode prog_9_method_27_code 80 = .ok (.iload_n 3, 1) := by decide +kernel
theorem d_Mod_constructor_81 : decode prog_9_method_27_code 81 = .ok (.iaload, 1) := by decide +kernel
theorem d_Mod_constructor_82 : decode prog_9_method_27_code 82 = .ok (.if_icmp .lt 27, 3) := by decide +kernel
theorem d_Mod_constructor_85 : decode prog_9_method_27_code 85 = .ok (.aload_n 0, 1) := by decide +kernel
theorem d_Mod_constructor_86 : decode prog_9_method_27_code 86 = .ok (.aload_n 0, 1) := by decide +kernel
theorem d_Mod_constructor_87 : decode prog_9_method_27_code 87 = .ok (.aload_n 0, 1) := by decide +kernel
theorem d_Mod_constructor_88 : decode prog_9_method_27_code 88 = .ok (.getfield 25, 3) := by decide +kernel
theorem d_Mod_constructor_91 : decode prog_9_method_27_code 91 = .ok (.iload_n 2, 1) := by decide +kernel
theorem d_Mod_constructor_92 : decode prog_9_method_27_code 92 = .ok (.iaload, 1) := by decide +kernel
theorem d_Mod_constructor_93 : decode prog_9_method_27_code 93 = .ok (.iload 4, 2) := by decide +kernel
theorem d_Mod_constructor_95 : decode prog_9_method_27_code 95 = .ok (.invokevirtual 107, 3) := by decide +kernel
theorem d_Mod_constructor_98 : decode prog_9_method_27_code 98 = .ok (.iload_n 3, 1) := by decide +kernel
theorem d_Mod_constructor_99 : decode prog_9_method_27_code 99 = .ok (.iload 4, 2) := by decide +kernel
theorem d_Mod_constructor_101 : decode prog_9_method_27_code 101 = .ok (.iconst 1, 1) := by decide +kernel
theorem d_Mod_constructor_102 : decode prog_9_method_27_code 102 = .ok (.isub, 1) := by decide +kernel
theorem d_Mod_constructor_103 : decode prog_9_method_27_code 103 = .ok (.invokevirtual 115, 3) := by decide +kernel
theorem d_Mod_constructor_106 : decode prog_9_method_27_code 106 = .ok (.ifCond .ne 5, 3) := by decide +kernel
theorem d_Mod_constructor_109 : decode prog_9_method_27_code 109 = .ok (.iconst (-1), 1) := by decide +kernel
theorem d_Mod_constructor_110 : decode prog_9_method_27_code 110 = .ok (.ireturn, 1) := by decide +kernel
theorem d_Mod_constructor_111 : decode prog_9_method_27_code 111 = .ok (.iconst 0, 1) := by decide +kernel
theorem d_Mod_constructor_112 : decode prog_9_method_27_code 112 = .ok (.istore 5, 2) := by decide +kernel
theorem d_Mod_constructor_114 : decode prog_9_method_27_code 114 = .ok (.aload_n 0, 1) := by decide +kernel
theorem d_Mod_constructor_115 : decode prog_9_method_27_code 115 = .ok (.getfield 37, 3) := by decide +kernel
theorem d_Mod_constructor_118 : decode prog_9_method_27_code 118 = .ok (.iload_n 3, 1) := by decide +kernel
theorem d_Mod_constructor_119 : decode prog_9_method_27_code 119 = .ok (.iaload, 1) := by decide +kernel
theorem d_Mod_constructor_120 : decode prog_9_method_27_code 120 = .ok (.istore 6, 2) := by decide +kernel
theorem d_Mod_constructor_122 : decode prog_9_method_27_code 122 = .ok (.iload 6, 2) := by decide +kernel
theorem d_Mod_constructor_124 : decode prog_9_method_27_code 124 = .ok (.iload 4, 2) := by decide +kernel
theorem d_Mod_constructor_126 : decode prog_9_method_27_code 126 = .ok (.if_icmp .ge 66, 3) := by decide +kernel
theorem d_Mod_constructor_129 : decode prog_9_method_27_code 129 = .ok (.aload_n 0, 1) := by decide +kernel
theorem d_Mod_constructor_130 : decode prog_9_method_27_code 130 = .ok (.aload_n 0, 1) := by decide +kernel
theorem d_Mod_constructor_131 : decode prog_9_method_27_code 131 = .ok (.aload_n 0, 1) := by decide +kernel
theorem d_Mod_constructor_132 : decode prog_9_method_27_code 132 = .ok (.getfield 25, 3) := by decide +kernel
theorem d_Mod_constructor_135 : decode prog_9_method_27_code 135 = .ok (.iload_n 2, 1) := by decide +kernel
theorem d_Mod_constructor_136 : decode prog_9_method_27_code 136 = .ok (.iaload, 1) := by decide +kernel
theorem d_Mod_constructor_137 : decode prog_9_method_27_code 137 = .ok (.iload 6, 2) := by decide +kernel
theorem d_Mod_constructor_139 : decode prog_9_method_27_code 139 = .ok (.invokevirtual 107, 3) := by decide +kernel
theorem d_Mod_constructor_142 : decode prog_9_method_27_code 142 = .ok (.iconst 1, 1) := by decide +kernel
theorem d_Mod_constructor_143 : decode prog_9_method_27_code 143 = .ok (.iadd, 1) := by decide +kernel
theorem d_Mod_constructor_144 : decode prog_9_method_27_code 144 = .ok (.iload_n 3, 1) := by decide +kernel
theorem d_Mod_constructor_145 : decode prog_9_method_27_code 145 = .ok (.iload 6, 2) := by decide +kernel
theorem d_Mod_constructor_147 : decode prog_9_method_27_code 147 = .ok (.invokevirtual 122, 3) := by decide +kernel
theorem d_Mod_constructor_150 : decode prog_9_method_27_code 150 = .ok (.istore 7, 2) := by decide +kernel
theorem d_Mod_constructor_152 : decode prog_9_method_27_code 152 = .ok (.iload 7, 2) := by decide +kernel
theorem d_Mod_constructor_154 : decode prog_9_method_27_code 154 = .ok (.ifCond .ne 16, 3) := by decide +kernel
theorem d_Mod_constructor_157 : decode prog_9_method_27_code 157 = .ok (.bipush (-2), 2) := by decide +kernel
theorem d_Mod_constructor_159 : decode prog_9_method_27_code 159 = .ok (.iload 6, 2) := by decide +kernel
theorem d_Mod_constructor_161 : decode prog_9_method_27_code 161 = .ok (.aload_n 0, 1) := by decide +kernel
theorem d_Mod_constructor_162 : decode prog_9_method_27_code 162 = .ok (.getfield 37, 3) := by decide +kernel
theorem d_Mod_constructor_165 : decode prog_9_method_27_code 165 = .ok (.iload_n 3, 1) := by decide +kernel
theorem d_Mod_constructor_166 : decode prog_9_method_27_code 166 = .ok (.iaload, 1) := by decide +kernel
theorem d_Mod_constructor_167 : decode prog_9_method_27_code 167 = .ok (.isub, 1) := by decide +kernel
theorem d_Mod_constructor_168 : decode prog_9_method_27_code 168 = .ok (.isub, 1) := by decide +kernel
theorem d_Mod_constructor_169 : decode prog_9_method_27_code 169 = .ok (.ireturn, 1) := by decide +kernel
theorem d_Mod_constructor_170 : decode prog_9_method_27_code 170 = .ok (.iload 5, 2) := by decide +kernel
theorem d_Mod_constructor_172 : decode prog_9_method_27_code 172 = .ok (.iload 7, 2) := by decide +kernel
theorem d_Mod_constructor_174 : decode prog_9_method_27_code 174 = .ok (.iconst 2, 1) := by decide +kernel
theorem d_Mod_constructor_175 : decode prog_9_method_27_code 175 = .ok (.if_icmp .ne 7, 3) := by decide +kernel
theorem d_Mod_constructor_178 : decode prog_9_method_27_code 178 = .ok (.iconst 1, 1) := by decide +kernel
theorem d_Mod_constructor_179 : decode prog_9_method_27_code 179 = .ok (.goto 4, 3) := by decide +kernel
theorem d_Mod_constructor_182 : decode prog_9_method_27_code 182 = .ok (.iconst 0, 1) := by decide +kernel
theorem d_Mod_constructor_183 : decode prog_9_method_27_code 183 = .ok (.iadd, 1) := by decide +kernel
theorem d_Mod_constructor_184 : decode prog_9_method_27_code 184 = .ok (.istore 5, 2) := by decide +kernel
theorem d_Mod_constructor_186 : decode prog_9_method_27_code 186 = .ok (.iinc 6 1, 3) := by decide +kernel
theorem d_Mod_constructor_189 : decode prog_9_method_27_code 189 = .ok (.goto (-67), 3) := by decide +kernel
theorem d_Mod_constructor_192 : decode prog_9_method_27_code 192 = .ok (.aload_n 0, 1) := by decide +kernel
theorem d_Mod_constructor_193 : decode prog_9_method_27_code 193 = .ok (.getfield 31, 3) := by decide +kernel
theorem d_Mod_constructor_196 : decode prog_9_method_27_code 196 = .ok (.iload_n 1, 1) := by decide +kernel
theorem d_Mod_constructor_197 : decode prog_9_method_27_code 197 = .ok (.aload_n 0, 1) := by decide +kernel
theorem d_Mod_constructor_198 : decode prog_9_method_27_code 198 = .ok (.getfield 25, 3) := by decide +kernel
theorem d_Mod_constructor_201 : decode prog_9_method_27_code 201 = .ok (.iload_n 2, 1) := by decide +kernel
theorem d_Mod_constructor_202 : decode prog_9_method_27_code 202 = .ok (.iaload, 1) := by decide +kernel
theorem d_Mod_constructor_203 : decode prog_9_method_27_code 203 = .ok (.iastore, 1) := by decide +kernel
theorem d_Mod_constructor_204 : decode prog_9_method_27_code 204 = .ok (.aload_n 0, 1) := by decide +kernel
theorem d_Mod_constructor_205 : decode prog_9_method_27_code 205 = .ok (.getfield 40, 3) := by decide +kernel
theorem d_Mod_constructor_208 : decode prog_9_method_27_code 208 = .ok (.iload_n 1, 1) := by decide +kernel
theorem d_Mod_constructor_209 : decode prog_9_method_27_code 209 = .ok (.iload 4, 2) := by decide +kernel
theorem d_Mod_constructor_211 : decode prog_9_method_27_code 211 = .ok (.aload_n 0, 1) := by decide +kernel
theorem d_Mod_constructor_212 : decode prog_9_method_27_code 212 = .ok (.getfield 37, 3) := by decide +kernel
theorem d_Mod_constructor_215 : decode prog_9_method_27_code 215 = .ok (.iload_n 3, 1) := by decide +kernel
theorem d_Mod_constructor_216 : decode prog_9_method_27_code 216 = .ok (.iaload, 1) := by decide +kernel
theorem d_Mod_constructor_217 : decode prog_9_method_27_code 217 = .ok (.isub, 1) := by decide +kernel
theorem d_Mod_constructor_218 : decode prog_9_method_27_code 218 = .ok (.iastore, 1) := by decide +kernel
theorem d_Mod_constructor_219 : decode prog_9_method_27_code 219 = .ok (.iload 5, 2) := by decide +kernel
theorem d_Mod_constructor_221 : decode prog_9_method_27_code 221 = .ok (.ireturn, 1) := by decide +kernel
theorem d_Mod_about_0 : decode prog_9_method_28_code 0 = .ok (.iload_n 1, 1) := by decide +kernel
theorem d_Mod_about_1 : decode prog_9_method_28_code 1 = .ok (.ifCond .lt 20, 3) := by decide +kernel
theorem d_Mod_about_4 : decode prog_9_method_28_code 4 = .ok (.iload_n 1, 1) := by decide +kernel
theorem d_Mod_about_5 : decode prog_9_method_28_code 5 = .ok (.aload_n 0, 1) := by decide +kernel
theorem d_Mod_about_6 : decode prog_9_method_28_code 6 = .ok (.getfield 81, 3) := by decide +kernel
theorem d_Mod_about_9 : decode prog_9_method_28_code 9 = .ok (.if_icmp .ge 12, 3) := by decide +kernel
theorem d_Mod_about_12 : decode prog_9_method_28_code 12 = .ok (.iload_n 2, 1) := by decide +kernel
theorem d_Mod_about_13 : decode prog_9_method_28_code 13 = .ok (.ifCond .lt 8, 3) := by decide +kernel
theorem d_Mod_about_16 : decode prog_9_method_28_code 16 = .ok (.iload_n 2, 1) := by decide +kernel
theorem d_Mod_about_17 : decode prog_9_method_28_code 17 = .ok (.iconst 3, 1) := by decide +kernel
theorem d_Mod_about_18 : decode prog_9_method_28_code 18 = .ok (.if_icmp .le 5, 3) := by decide +kernel
theorem d_Mod_about_21 : decode prog_9_method_28_code 21 = .ok (.iconst (-1), 1) := by decide +kernel
theorem d_Mod_about_22 : decode prog_9_method_28_code 22 = .ok (.ireturn, 1) := by decide +kernel
theorem d_Mod_about_23 : decode prog_9_method_28_code 23 = .ok (.iload_n 2, 1) := by decide +kernel
theorem d_Mod_about_24 : decode prog_9_method_28_code 24 = .ok (.ifCond .ne 12, 3) := by decide +kernel
theorem d_Mod_about_27 : decode prog_9_method_28_code 27 = .ok (.aload_n 0, 1) := by decide +kernel
theorem d_Mod_about_28 : decode prog_9_method_28_code 28 = .ok (.getfield 28, 3) := by decide +kernel
theorem d_Mod_about_31 : decode prog_9_method_28_code 31 = .ok (.iload_n 1, 1) := by decide +kernel
theorem d_Mod_about_32 : decode prog_9_method_28_code 32 = .ok (.iaload, 1) := by decide +kernel
theorem d_Mod_about_33 : decode prog_9_method_28_code 33 = .ok (.goto 60, 3) := by decide +kernel
theorem d_Mod_about_36 : decode prog_9_method_28_code 36 = .ok (.iload_n 2, 1) := by decide +kernel
theorem d_Mod_about_37 : decode prog_9_method_28_code 37 = .ok (.iconst 1, 1) := by decide +kernel
theorem d_Mod_about_38 : decode prog_9_method_28_code 38 = .ok (.if_icmp .ne 12, 3) := by decide +kernel
theorem d_Mod_about_41 : decode prog_9_method_28_code 41 = .ok (.aload_n 0, 1) := by decide +kernel
theorem d_Mod_about_42 : decode prog_9_method_28_code 42 = .ok (.getfield 37, 3) := by decide +kernel
theorem d_Mod_about_45 : decode prog_9_method_28_code 45 = .ok (.iload_n 1, 1) := by decide +kernel
theorem d_Mod_about_46 : decode prog_9_method_28_code 46 = .ok (.iaload, 1) := by decide +kernel
theorem d_Mod_about_47 : decode prog_9_method_28_code 47 = .ok (.goto 46, 3) := by decide +kernel
theorem d_Mod_about_50 : decode prog_9_method_28_code 50 = .ok (.iload_n 2, 1) := by decide +kernel
theorem d_Mod_about_51 : decode prog_9_method_28_code 51 = .ok (.iconst 2, 1) := by decide +kernel
theorem d_Mod_about_52 : decode prog_9_method_28_code 52 = .ok (.if_icmp .ne 12, 3) := by decide +kernel
theorem d_Mod_about_55 : decode prog_9_method_28_code 55 = .ok (.aload_n 0, 1) := by decide +kernel
theorem d_Mod_about_56 : decode prog_9_method_28_code 56 = .ok (.getfield 40, 3) := by decide +kernel
theorem d_Mod_about_59 : decode prog_9_method_28_code 59 = .ok (.iload_n 1, 1) := by decide +kernel
theorem d_Mod_about_60 : decode prog_9_method_28_code 60 = .ok (.iaload, 1) := by decide +kernel
theorem d_Mod_about_61 : decode prog_9_method_28_code 61 = .ok (.goto 32, 3) := by decide +kernel
theorem d_Mod_about_64 : decode prog_9_method_28_code 64 = .ok (.aload_n 0, 1) := by decide +kernel
theorem d_Mod_about_65 : decode prog_9_method_28_code 65 = .ok (.getfield 28, 3) := by decide +kernel
theorem d_Mod_about_68 : decode prog_9_method_28_code 68 = .ok (.iload_n 1, 1) := by decide +kernel
theorem d_Mod_about_69 : decode prog_9_method_28_code 69 = .ok (.iaload, 1) := by decide +kernel
theorem d_Mod_about_70 : decode prog_9_method_28_code 70 = .ok (.iconst 4, 1) := by decide +kernel
theorem d_Mod_about_71 : decode prog_9_method_28_code 71 = .ok (.if_icmp .ne 16, 3) := by decide +kernel
theorem d_Mod_about_74 : decode prog_9_method_28_code 74 = .ok (.iload_n 1, 1) := by decide +kernel
theorem d_Mod_about_75 : decode prog_9_method_28_code 75 = .ok (.aload_n 0, 1) := by decide +kernel
theorem d_Mod_about_76 : decode prog_9_method_28_code 76 = .ok (.getfield 34, 3) := by decide +kernel
theorem d_Mod_about_79 : decode prog_9_method_28_code 79 = .ok (.iload_n 1, 1) := by decide +kernel
theorem d_Mod_about_80 : decode prog_9_method_28_code 80 = .ok (.iaload, 1) := by decide +kernel
theorem d_Mod_about_81 : decode prog_9_method_28_code 81 = .ok (.isub, 1) := by decide +kernel
theorem d_Mod_about_82 : decode prog_9_method_28_code 82 = .ok (.iconst 1, 1) := by decide +kernel
theorem d_Mod_about_83 : decode prog_9_method_28_code 83 = .ok (.isub, 1) := by decide +kernel
theorem d_Mod_about_84 : decode prog_9_method_28_code 84 = .ok (.goto 9, 3) := by decide +kernel
theorem d_Mod_about_87 : decode prog_9_method_28_code 87 = .ok (.aload_n 0, 1) := by decide +kernel
theorem d_Mod_about_88 : decode prog_9_method_28_code 88 = .ok (.getfield 43, 3) := by decide +kernel
end
section
/-! decode rows -/
theorem d_Mod_about_91 : decode prog_9_method_28_code 91 = .ok (.iload_n 1, 1) := by decide +kernel
theorem d_Mod_about_92 : decode prog_9_method_28_code 92 = .ok (.iaload, 1) := by decide +kernel
theorem d_Mod_about_93 : decode prog_9_method_28_code 93 = .ok (.ireturn, 1) := by decide +kernel
theorem d_Mod_made_0 : decode prog_9_method_29_code 0 = .ok (.aload_n 0, 1) := by decide +kernel
theorem d_Mod_made_1 : decode prog_9_method_29_code 1 = .ok (.iconst 0, 1) := by decide +kernel
theorem d_Mod_made_2 : decode prog_9_method_29_code 2 = .ok (.ldc 125, 2) := by decide +kernel
theorem d_Mod_made_4 : decode prog_9_method_29_code 4 = .ok (.iload_n 1, 1) := by decide +kernel
theorem d_Mod_made_5 : decode prog_9_method_29_code 5 = .ok (.iadd, 1) := by decide +kernel
theorem d_Mod_made_6 : decode prog_9_method_29_code 6 = .ok (.iconst 0, 1) := by decide +kernel
theorem d_Mod_made_7 : decode prog_9_method_29_code 7 = .ok (.invokevirtual 63, 3) := by decide +kernel
theorem d_Mod_made_10 : decode prog_9_method_29_code 10 = .ok (.pop, 1) := by decide +kernel
theorem d_Mod_made_11 : decode prog_9_method_29_code 11 = .ok (.return_, 1) := by decide +kernel
theorem d_Mod_applications_0 : decode prog_9_method_30_code 0 = .ok (.iconst 0, 1) := by decide +kernel
theorem d_Mod_applications_1 : decode prog_9_method_30_code 1 = .ok (.istore_n 2, 1) := by decide +kernel
theorem d_Mod_applications_2 : decode prog_9_method_30_code 2 = .ok (.iload_n 2, 1) := by decide +kernel
theorem d_Mod_applications_3 : decode prog_9_method_30_code 3 = .ok (.iload_n 1, 1) := by decide +kernel
theorem d_Mod_applications_4 : decode prog_9_method_30_code 4 = .ok (.if_icmp .ge 17, 3) := by decide +kernel
theorem d_Mod_applications_7 : decode prog_9_method_30_code 7 = .ok (.aload_n 0, 1) := by decide +kernel
theorem d_Mod_applications_8 : decode prog_9_method_30_code 8 = .ok (.iconst 4, 1) := by decide +kernel
theorem d_Mod_applications_9 : decode prog_9_method_30_code 9 = .ok (.iconst 0, 1) := by decide +kernel
theorem d_Mod_applications_10 : decode prog_9_method_30_code 10 = .ok (.iconst 0, 1) := by decide +kernel
theorem d_Mod_applications_11 : decode prog_9_method_30_code 11 = .ok (.invokevirtual 63, 3) := by decide +kernel
theorem d_Mod_applications_14 : decode prog_9_method_30_code 14 = .ok (.pop, 1) := by decide +kernel
theorem d_Mod_applications_15 : decode prog_9_method_30_code 15 = .ok (.iinc 2 1, 3) := by decide +kernel
theorem d_Mod_applications_18 : decode prog_9_method_30_code 18 = .ok (.goto (-16), 3) := by decide +kernel
theorem d_Mod_applications_21 : decode prog_9_method_30_code 21 = .ok (.return_, 1) := by decide +kernel
theorem d_Mod_level_0 : decode prog_9_method_31_code 0 = .ok (.iload_n 1, 1) := by decide +kernel
theorem d_Mod_level_1 : decode prog_9_method_31_code 1 = .ok (.aload_n 0, 1) := by decide +kernel
theorem d_Mod_level_2 : decode prog_9_method_31_code 2 = .ok (.getfield 46, 3) := by decide +kernel
theorem d_Mod_level_5 : decode prog_9_method_31_code 5 = .ok (.arraylength, 1) := by decide +kernel
theorem d_Mod_level_6 : decode prog_9_method_31_code 6 = .ok (.if_icmp .lt 14, 3) := by decide +kernel
theorem d_Mod_level_9 : decode prog_9_method_31_code 9 = .ok (.aload_n 0, 1) := by decide +kernel
theorem d_Mod_level_10 : decode prog_9_method_31_code 10 = .ok (.aload_n 0, 1) := by decide +kernel
theorem d_Mod_level_11 : decode prog_9_method_31_code 11 = .ok (.getfield 46, 3) := by decide +kernel
theorem d_Mod_level_14 : decode prog_9_method_31_code 14 = .ok (.invokestatic 59, 3) := by decide +kernel
theorem d_Mod_level_17 : decode prog_9_method_31_code 17 = .ok (.putfield 46, 3) := by decide +kernel
theorem d_Mod_level_20 : decode prog_9_method_31_code 20 = .ok (.aload_n 0, 1) := by decide +kernel
theorem d_Mod_level_21 : decode prog_9_method_31_code 21 = .ok (.getfield 46, 3) := by decide +kernel
theorem d_Mod_level_24 : decode prog_9_method_31_code 24 = .ok (.iload_n 1, 1) := by decide +kernel
theorem d_Mod_level_25 : decode prog_9_method_31_code 25 = .ok (.iload_n 2, 1) := by decide +kernel
theorem d_Mod_level_26 : decode prog_9_method_31_code 26 = .ok (.iastore, 1) := by decide +kernel
theorem d_Mod_level_27 : decode prog_9_method_31_code 27 = .ok (.return_, 1) := by decide +kernel
theorem d_Mod_piece_0 : decode prog_9_method_32_code 0 = .ok (.aload_n 0, 1) := by decide +kernel
theorem d_Mod_piece_1 : decode prog_9_method_32_code 1 = .ok (.iload_n 1, 1) := by decide +kernel
theorem d_Mod_piece_2 : decode prog_9_method_32_code 2 = .ok (.invokevirtual 71, 3) := by decide +kernel
theorem d_Mod_piece_5 : decode prog_9_method_32_code 5 = .ok (.iload_n 1, 1) := by decide +kernel
theorem d_Mod_piece_6 : decode prog_9_method_32_code 6 = .ok (.aload_n 0, 1) := by decide +kernel
theorem d_Mod_piece_7 : decode prog_9_method_32_code 7 = .ok (.getfield 19, 3) := by decide +kernel
theorem d_Mod_piece_10 : decode prog_9_method_32_code 10 = .ok (.iload_n 1, 1) := by decide +kernel
theorem d_Mod_piece_11 : decode prog_9_method_32_code 11 = .ok (.iaload, 1) := by decide +kernel
theorem d_Mod_piece_12 : decode prog_9_method_32_code 12 = .ok (.iadd, 1) := by decide +kernel
theorem d_Mod_piece_13 : decode prog_9_method_32_code 13 = .ok (.istore_n 3, 1) := by decide +kernel
theorem d_Mod_piece_14 : decode prog_9_method_32_code 14 = .ok (.iload_n 1, 1) := by decide +kernel
theorem d_Mod_piece_15 : decode prog_9_method_32_code 15 = .ok (.istore 4, 2) := by decide +kernel
theorem d_Mod_piece_17 : decode prog_9_method_32_code 17 = .ok (.iload 4, 2) := by decide +kernel
theorem d_Mod_piece_19 : decode prog_9_method_32_code 19 = .ok (.iload_n 3, 1) := by decide +kernel
theorem d_Mod_piece_20 : decode prog_9_method_32_code 20 = .ok (.if_icmp .ge 89, 3) := by decide +kernel
theorem d_Mod_piece_23 : decode prog_9_method_32_code 23 = .ok (.aload_n 0, 1) := by decide +kernel
theorem d_Mod_piece_24 : decode prog_9_method_32_code 24 = .ok (.getfield 7, 3) := by decide +kernel
theorem d_Mod_piece_27 : decode prog_9_method_32_code 27 = .ok (.iload 4, 2) := by decide +kernel
theorem d_Mod_piece_29 : decode prog_9_method_32_code 29 = .ok (.iaload, 1) := by decide +kernel
theorem d_Mod_piece_30 : decode prog_9_method_32_code 30 = .ok (.ifCond .ne 21, 3) := by decide +kernel
theorem d_Mod_piece_33 : decode prog_9_method_32_code 33 = .ok (.aload_n 0, 1) := by decide +kernel
theorem d_Mod_piece_34 : decode prog_9_method_32_code 34 = .ok (.getfield 13, 3) := by decide +kernel
theorem d_Mod_piece_37 : decode prog_9_method_32_code 37 = .ok (.iload 4, 2) := by decide +kernel
theorem d_Mod_piece_39 : decode prog_9_method_32_code 39 = .ok (.iaload, 1) := by decide +kernel
theorem d_Mod_piece_40 : decode prog_9_method_32_code 40 = .ok (.aload_n 0, 1) := by decide +kernel
theorem d_Mod_piece_41 : decode prog_9_method_32_code 41 = .ok (.getfield 22, 3) := by decide +kernel
theorem d_Mod_piece_44 : decode prog_9_method_32_code 44 = .ok (.iload 4, 2) := by decide +kernel
theorem d_Mod_piece_46 : decode prog_9_method_32_code 46 = .ok (.iaload, 1) := by decide +kernel
theorem d_Mod_piece_47 : decode prog_9_method_32_code 47 = .ok (.isub, 1) := by decide +kernel
theorem d_Mod_piece_48 : decode prog_9_method_32_code 48 = .ok (.goto 4, 3) := by decide +kernel
theorem d_Mod_piece_51 : decode prog_9_method_32_code 51 = .ok (.iconst (-1), 1) := by decide +kernel
theorem d_Mod_piece_52 : decode prog_9_method_32_code 52 = .ok (.istore 5, 2) := by decide +kernel
theorem d_Mod_piece_54 : decode prog_9_method_32_code 54 = .ok (.iload 5, 2) := by decide +kernel
theorem d_Mod_piece_56 : decode prog_9_method_32_code 56 = .ok (.ifCond .lt 21, 3) := by decide +kernel
theorem d_Mod_piece_59 : decode prog_9_method_32_code 59 = .ok (.aload_n 0, 1) := by decide +kernel
theorem d_Mod_piece_60 : decode prog_9_method_32_code 60 = .ok (.aload_n 0, 1) := by decide +kernel
theorem d_Mod_piece_61 : decode prog_9_method_32_code 61 = .ok (.getfield 46, 3) := by decide +kernel
theorem d_Mod_piece_64 : decode prog_9_method_32_code 64 = .ok (.iload_n 2, 1) := by decide +kernel
theorem d_Mod_piece_65 : decode prog_9_method_32_code 65 = .ok (.iconst 1, 1) := by decide +kernel
theorem d_Mod_piece_66 : decode prog_9_method_32_code 66 = .ok (.isub, 1) := by decide +kernel
theorem d_Mod_piece_67 : decode prog_9_method_32_code 67 = .ok (.iload 5, 2) := by decide +kernel
theorem d_Mod_piece_69 : decode prog_9_method_32_code 69 = .ok (.isub, 1) := by decide +kernel
theorem d_Mod_piece_70 : decode prog_9_method_32_code 70 = .ok (.iaload, 1) := by decide +kernel
theorem d_Mod_piece_71 : decode prog_9_method_32_code 71 = .ok (.invokevirtual 126, 3) := by decide +kernel
theorem d_Mod_piece_74 : decode prog_9_method_32_code 74 = .ok (.goto 29, 3) := by decide +kernel
theorem d_Mod_piece_77 : decode prog_9_method_32_code 77 = .ok (.aload_n 0, 1) := by decide +kernel
theorem d_Mod_piece_78 : decode prog_9_method_32_code 78 = .ok (.aload_n 0, 1) := by decide +kernel
theorem d_Mod_piece_79 : decode prog_9_method_32_code 79 = .ok (.getfield 7, 3) := by decide +kernel
theorem d_Mod_piece_82 : decode prog_9_method_32_code 82 = .ok (.iload 4, 2) := by decide +kernel
theorem d_Mod_piece_84 : decode prog_9_method_32_code 84 = .ok (.iaload, 1) := by decide +kernel
theorem d_Mod_piece_85 : decode prog_9_method_32_code 85 = .ok (.aload_n 0, 1) := by decide +kernel
theorem d_Mod_piece_86 : decode prog_9_method_32_code 86 = .ok (.getfield 13, 3) := by decide +kernel
theorem d_Mod_piece_89 : decode prog_9_method_32_code 89 = .ok (.iload 4, 2) := by decide +kernel
theorem d_Mod_piece_91 : decode prog_9_method_32_code 91 = .ok (.iaload, 1) := by decide +kernel
theorem d_Mod_piece_92 : decode prog_9_method_32_code 92 = .ok (.aload_n 0, 1) := by decide +kernel
theorem d_Mod_piece_93 : decode prog_9_method_32_code 93 = .ok (.getfield 16, 3) := by decide +kernel
theorem d_Mod_piece_96 : decode prog_9_method_32_code 96 = .ok (.iload 4, 2) := by decide +kernel
theorem d_Mod_piece_98 : decode prog_9_method_32_code 98 = .ok (.iaload, 1) := by decide +kernel
theorem d_Mod_piece_99 : decode prog_9_method_32_code 99 = .ok (.invokevirtual 63, 3) := by decide +kernel
theorem d_Mod_piece_102 : decode prog_9_method_32_code 102 = .ok (.pop, 1) := by decide +kernel
theorem d_Mod_piece_103 : decode prog_9_method_32_code 103 = .ok (.iinc 4 1, 3) := by decide +kernel
theorem d_Mod_piece_106 : decode prog_9_method_32_code 106 = .ok (.goto (-89), 3) := by decide +kernel
theorem d_Mod_piece_109 : decode prog_9_method_32_code 109 = .ok (.return_, 1) := by decide +kernel
theorem d_Mod_binderOf_0 : decode prog_9_method_33_code 0 = .ok (.aload_n 0, 1) := by decide +kernel
theorem d_Mod_binderOf_1 : decode prog_9_method_33_code 1 = .ok (.iload_n 1, 1) := by decide +kernel
theorem d_Mod_binderOf_2 : decode prog_9_method_33_code 2 = .ok (.aload_n 0, 1) := by decide +kernel
theorem d_Mod_binderOf_3 : decode prog_9_method_33_code 3 = .ok (.getfield 13, 3) := by decide +kernel
theorem d_Mod_binderOf_6 : decode prog_9_method_33_code 6 = .ok (.iload_n 2, 1) := by decide +kernel
theorem d_Mod_binderOf_7 : decode prog_9_method_33_code 7 = .ok (.iaload, 1) := by decide +kernel
theorem d_Mod_binderOf_8 : decode prog_9_method_33_code 8 = .ok (.iconst 0, 1) := by decide +kernel
theorem d_Mod_binderOf_9 : decode prog_9_method_33_code 9 = .ok (.invokevirtual 63, 3) := by decide +kernel
theorem d_Mod_binderOf_12 : decode prog_9_method_33_code 12 = .ok (.pop, 1) := by decide +kernel
theorem d_Mod_binderOf_13 : decode prog_9_method_33_code 13 = .ok (.aload_n 0, 1) := by decide +kernel
theorem d_Mod_binderOf_14 : decode prog_9_method_33_code 14 = .ok (.iload_n 2, 1) := by decide +kernel
theorem d_Mod_binderOf_15 : decode prog_9_method_33_code 15 = .ok (.iconst 1, 1) := by decide +kernel
theorem d_Mod_binderOf_16 : decode prog_9_method_33_code 16 = .ok (.iadd, 1) := by decide +kernel
theorem d_Mod_binderOf_17 : decode prog_9_method_33_code 17 = .ok (.iload_n 3, 1) := by decide +kernel
theorem d_Mod_binderOf_18 : decode prog_9_method_33_code 18 = .ok (.invokevirtual 129, 3) := by decide +kernel
theorem d_Mod_binderOf_21 : decode prog_9_method_33_code 21 = .ok (.aload_n 0, 1) := by decide +kernel
theorem d_Mod_binderOf_22 : decode prog_9_method_33_code 22 = .ok (.iload_n 3, 1) := by decide +kernel
theorem d_Mod_binderOf_23 : decode prog_9_method_33_code 23 = .ok (.iload 4, 2) := by decide +kernel
theorem d_Mod_binderOf_25 : decode prog_9_method_33_code 25 = .ok (.invokevirtual 133, 3) := by decide +kernel
theorem d_Mod_binderOf_28 : decode prog_9_method_33_code 28 = .ok (.aload_n 0, 1) := by decide +kernel
theorem d_Mod_binderOf_29 : decode prog_9_method_33_code 29 = .ok (.iload_n 2, 1) := by decide +kernel
theorem d_Mod_binderOf_30 : decode prog_9_method_33_code 30 = .ok (.invokevirtual 67, 3) := by decide +kernel
theorem d_Mod_binderOf_33 : decode prog_9_method_33_code 33 = .ok (.ireturn, 1) := by decide +kernel
theorem d_Mod_settle_0 : decode prog_9_method_34_code 0 = .ok (.aload_n 0, 1) := by decide +kernel
theorem d_Mod_settle_1 : decode prog_9_method_34_code 1 = .ok (.iload_n 1, 1) := by decide +kernel
theorem d_Mod_settle_2 : decode prog_9_method_34_code 2 = .ok (.invokevirtual 78, 3) := by decide +kernel
theorem d_Mod_settle_5 : decode prog_9_method_34_code 5 = .ok (.aload_n 0, 1) := by decide +kernel
theorem d_Mod_settle_6 : decode prog_9_method_34_code 6 = .ok (.iload_n 1, 1) := by decide +kernel
theorem d_Mod_settle_7 : decode prog_9_method_34_code 7 = .ok (.invokevirtual 71, 3) := by decide +kernel
theorem d_Mod_settle_10 : decode prog_9_method_34_code 10 = .ok (.iload_n 1, 1) := by decide +kernel
theorem d_Mod_settle_11 : decode prog_9_method_34_code 11 = .ok (.istore_n 2, 1) := by decide +kernel
theorem d_Mod_settle_12 : decode prog_9_method_34_code 12 = .ok (.iload_n 2, 1) := by decide +kernel
theorem d_Mod_settle_13 : decode prog_9_method_34_code 13 = .ok (.aload_n 0, 1) := by decide +kernel
theorem d_Mod_settle_14 : decode prog_9_method_34_code 14 = .ok (.getfield 55, 3) := by decide +kernel
theorem d_Mod_settle_17 : decode prog_9_method_34_code 17 = .ok (.if_icmp .ge 53, 3) := by decide +kernel
theorem d_Mod_settle_20 : decode prog_9_method_34_code 20 = .ok (.aload_n 0, 1) := by decide +kernel
theorem d_Mod_settle_21 : decode prog_9_method_34_code 21 = .ok (.getfield 7, 3) := by decide +kernel
theorem d_Mod_settle_24 : decode prog_9_method_34_code 24 = .ok (.iload_n 2, 1) := by decide +kernel
theorem d_Mod_settle_25 : decode prog_9_method_34_code 25 = .ok (.iaload, 1) := by decide +kernel
theorem d_Mod_settle_26 : decode prog_9_method_34_code 26 = .ok (.ifCond .ne 38, 3) := by decide +kernel
theorem d_Mod_settle_29 : decode prog_9_method_34_code 29 = .ok (.aload_n 0, 1) := by decide +kernel
theorem d_Mod_settle_30 : decode prog_9_method_34_code 30 = .ok (.getfield 13, 3) := by decide +kernel
theorem d_Mod_settle_33 : decode prog_9_method_34_code 33 = .ok (.iload_n 2, 1) := by decide +kernel
theorem d_Mod_settle_34 : decode prog_9_method_34_code 34 = .ok (.iaload, 1) := by decide +kernel
theorem d_Mod_settle_35 : decode prog_9_method_34_code 35 = .ok (.ldc 136, 2) := by decide +kernel
theorem d_Mod_settle_37 : decode prog_9_method_34_code 37 = .ok (.if_icmp .le 27, 3) := by decide +kernel
theorem d_Mod_settle_40 : decode prog_9_method_34_code 40 = .ok (.aload_n 0, 1) := by decide +kernel
theorem d_Mod_settle_41 : decode prog_9_method_34_code 41 = .ok (.getfield 13, 3) := by decide +kernel
theorem d_Mod_settle_44 : decode prog_9_method_34_code 44 = .ok (.iload_n 2, 1) := by decide +kernel
theorem d_Mod_settle_45 : decode prog_9_method_34_code 45 = .ok (.aload_n 0, 1) := by decide +kernel
theorem d_Mod_settle_46 : decode prog_9_method_34_code 46 = .ok (.getfield 22, 3) := by decide +kernel
theorem d_Mod_settle_49 : decode prog_9_method_34_code 49 = .ok (.iload_n 2, 1) := by decide +kernel
theorem d_Mod_settle_50 : decode prog_9_method_34_code 50 = .ok (.iaload, 1) := by decide +kernel
theorem d_Mod_settle_51 : decode prog_9_method_34_code 51 = .ok (.iconst 1, 1) := by decide +kernel
theorem d_Mod_settle_52 : decode prog_9_method_34_code 52 = .ok (.isub, 1) := by decide +kernel
theorem d_Mod_settle_53 : decode prog_9_method_34_code 53 = .ok (.aload_n 0, 1) := by decide +kernel
theorem d_Mod_settle_54 : decode prog_9_method_34_code 54 = .ok (.getfield 13, 3) := by decide +kernel
theorem d_Mod_settle_57 : decode prog_9_method_34_code 57 = .ok (.iload_n 2, 1) := by decide +kernel
theorem d_Mod_settle_58 : decode prog_9_method_34_code 58 = .ok (.iaload, 1) := by decide +kernel
theorem d_Mod_settle_59 : decode prog_9_method_34_code 59 = .ok (.ldc 125, 2) := by decide +kernel
theorem d_Mod_settle_61 : decode prog_9_method_34_code 61 = .ok (.isub, 1) := by decide +kernel
theorem d_Mod_settle_62 : decode prog_9_method_34_code 62 = .ok (.isub, 1) := by decide +kernel
theorem d_Mod_settle_63 : decode prog_9_method_34_code 63 = .ok (.iastore, 1) := by decide +kernel
theorem d_Mod_settle_64 : decode prog_9_method_34_code 64 = .ok (.iinc 2 1, 3) := by decide +kernel
theorem d_Mod_settle_67 : decode prog_9_method_34_code 67 = .ok (.goto (-55), 3) := by decide +kernel
theorem d_Mod_settle_70 : decode prog_9_method_34_code 70 = .ok (.return_, 1) := by decide +kernel
theorem d_Mod_argument_0 : decode prog_9_method_35_code 0 = .ok (.aload_n 0, 1) := by decide +kernel
theorem d_Mod_argument_1 : decode prog_9_method_35_code 1 = .ok (.aload_n 0, 1) := by decide +kernel
theorem d_Mod_argument_2 : decode prog_9_method_35_code 2 = .ok (.getfield 31, 3) := by decide +kernel
theorem d_Mod_argument_5 : decode prog_9_method_35_code 5 = .ok (.iload_n 1, 1) := by decide +kernel
theorem d_Mod_argument_6 : decode prog_9_method_35_code 6 = .ok (.iaload, 1) := by decide +kernel
theorem d_Mod_argument_7 : decode prog_9_method_35_code 7 = .ok (.aload_n 0, 1) := by decide +kernel
theorem d_Mod_argument_8 : decode prog_9_method_35_code 8 = .ok (.getfield 37, 3) := by decide +kernel
theorem d_Mod_argument_11 : decode prog_9_method_35_code 11 = .ok (.iload_n 1, 1) := by decide +kernel
theorem d_Mod_argument_12 : decode prog_9_method_35_code 12 = .ok (.iaload, 1) := by decide +kernel
theorem d_Mod_argument_13 : decode prog_9_method_35_code 13 = .ok (.iload_n 2, 1) := by decide +kernel
theorem d_Mod_argument_14 : decode prog_9_method_35_code 14 = .ok (.iadd, 1) := by decide +kernel
theorem d_Mod_argument_15 : decode prog_9_method_35_code 15 = .ok (.invokevirtual 107, 3) := by decide +kernel
theorem d_Mod_argument_18 : decode prog_9_method_35_code 18 = .ok (.iconst 1, 1) := by decide +kernel
theorem d_Mod_argument_19 : decode prog_9_method_35_code 19 = .ok (.iadd, 1) := by decide +kernel
theorem d_Mod_argument_20 : decode prog_9_method_35_code 20 = .ok (.ireturn, 1) := by decide +kernel
theorem d_Mod_isRecursive_0 : decode prog_9_method_36_code 0 = .ok (.aload_n 0, 1) := by decide +kernel
theorem d_Mod_isRecursive_1 : decode prog_9_method_36_code 1 = .ok (.aload_n 0, 1) := by decide +kernel
theorem d_Mod_isRecursive_2 : decode prog_9_method_36_code 2 = .ok (.iload_n 1, 1) := by decide +kernel
theorem d_Mod_isRecursive_3 : decode prog_9_method_36_code 3 = .ok (.iload_n 2, 1) := by decide +kernel
theorem d_Mod_isRecursive_4 : decode prog_9_method_36_code 4 = .ok (.invokevirtual 137, 3) := by decide +kernel
theorem d_Mod_isRecursive_7 : decode prog_9_method_36_code 7 = .ok (.aload_n 0, 1) := by decide +kernel
theorem d_Mod_isRecursive_8 : decode prog_9_method_36_code 8 = .ok (.getfield 34, 3) := by decide +kernel
theorem d_Mod_isRecursive_11 : decode prog_9_method_36_code 11 = .ok (.iload_n 1, 1) := by decide +kernel
theorem d_Mod_isRecursive_12 : decode prog_9_method_36_code 12 = .ok (.iaload, 1) := by decide +kernel
theorem d_Mod_isRecursive_13 : decode prog_9_method_36_code 13 = .ok (.aload_n 0, 1) := by decide +kernel
theorem d_Mod_isRecursive_14 : decode prog_9_method_36_code 14 = .ok (.getfield 37, 3) := by decide +kernel
theorem d_Mod_isRecursive_17 : decode prog_9_method_36_code 17 = .ok (.iload_n 1, 1) := by decide +kernel
theorem d_Mod_isRecursive_18 : decode prog_9_method_36_code 18 = .ok (.iaload, 1) := by decide +kernel
theorem d_Mod_isRecursive_19 : decode prog_9_method_36_code 19 = .ok (.iload_n 2, 1) := by decide +kernel
theorem d_Mod_isRecursive_20 : decode prog_9_method_36_code 20 = .ok (.iadd, 1) := by decide +kernel
theorem d_Mod_isRecursive_21 : decode prog_9_method_36_code 21 = .ok (.invokevirtual 122, 3) := by decide +kernel
theorem d_Mod_isRecursive_24 : decode prog_9_method_36_code 24 = .ok (.iconst 2, 1) := by decide +kernel
theorem d_Mod_isRecursive_25 : decode prog_9_method_36_code 25 = .ok (.if_icmp .ne 7, 3) := by decide +kernel
theorem d_Mod_isRecursive_28 : decode prog_9_method_36_code 28 = .ok (.iconst 1, 1) := by decide +kernel
theorem d_Mod_isRecursive_29 : decode prog_9_method_36_code 29 = .ok (.goto 4, 3) := by decide +kernel
theorem d_Mod_isRecursive_32 : decode prog_9_method_36_code 32 = .ok (.iconst 0, 1) := by decide +kernel
theorem d_Mod_isRecursive_33 : decode prog_9_method_36_code 33 = .ok (.ireturn, 1) := by decide +kernel
theorem d_Mod_brings_0 : decode prog_9_method_37_code 0 = .ok (.iload_n 1, 1) := by decide +kernel
theorem d_Mod_brings_1 : decode prog_9_method_37_code 1 = .ok (.ifCond .lt 35, 3) := by decide +kernel
theorem d_Mod_brings_4 : decode prog_9_method_37_code 4 = .ok (.iload_n 1, 1) := by decide +kernel
theorem d_Mod_brings_5 : decode prog_9_method_37_code 5 = .ok (.aload_n 0, 1) := by decide +kernel
theorem d_Mod_brings_6 : decode prog_9_method_37_code 6 = .ok (.getfield 81, 3) := by decide +kernel
theorem d_Mod_brings_9 : decode prog_9_method_37_code 9 = .ok (.if_icmp .ge 27, 3) := by decide +kernel
theorem d_Mod_brings_12 : decode prog_9_method_37_code 12 = .ok (.aload_n 0, 1) := by decide +kernel
theorem d_Mod_brings_13 : decode prog_9_method_37_code 13 = .ok (.getfield 28, 3) := by decide +kernel
theorem d_Mod_brings_16 : decode prog_9_method_37_code 16 = .ok (.iload_n 1, 1) := by decide +kernel
theorem d_Mod_brings_17 : decode prog_9_method_37_code 17 = .ok (.iaload, 1) := by decide +kernel
theorem d_Mod_brings_18 : decode prog_9_method_37_code 18 = .ok (.iconst 4, 1) := by decide +kernel
theorem d_Mod_brings_19 : decode prog_9_method_37_code 19 = .ok (.if_icmp .ne 17, 3) := by decide +kernel
theorem d_Mod_brings_22 : decode prog_9_method_37_code 22 = .ok (.aload_n 0, 1) := by decide +kernel
theorem d_Mod_brings_23 : decode prog_9_method_37_code 23 = .ok (.getfield 31, 3) := by decide +kernel
theorem d_Mod_brings_26 : decode prog_9_method_37_code 26 = .ok (.iload_n 1, 1) := by decide +kernel
theorem d_Mod_brings_27 : decode prog_9_method_37_code 27 = .ok (.iaload, 1) := by decide +kernel
theorem d_Mod_brings_28 : decode prog_9_method_37_code 28 = .ok (.iconst (-1), 1) := by decide +kernel
theorem d_Mod_brings_29 : decode prog_9_method_37_code 29 = .ok (.if_icmp .eq 7, 3) := by decide +kernel
theorem d_Mod_brings_32 : decode prog_9_method_37_code 32 = .ok (.iload_n 2, 1) := by decide +kernel
theorem d_Mod_brings_33 : decode prog_9_method_37_code 33 = .ok (.ifCond .ge 5, 3) := by decide +kernel
theorem d_Mod_brings_36 : decode prog_9_method_37_code 36 = .ok (.iconst (-1), 1) := by decide +kernel
theorem d_Mod_brings_37 : decode prog_9_method_37_code 37 = .ok (.ireturn, 1) := by decide +kernel
theorem d_Mod_brings_38 : decode prog_9_method_37_code 38 = .ok (.iconst (-1), 1) := by decide +kernel
theorem d_Mod_brings_39 : decode prog_9_method_37_code 39 = .ok (.istore_n 3, 1) := by decide +kernel
theorem d_Mod_brings_40 : decode prog_9_method_37_code 40 = .ok (.iload_n 2, 1) := by decide +kernel
theorem d_Mod_brings_41 : decode prog_9_method_37_code 41 = .ok (.istore 4, 2) := by decide +kernel
theorem d_Mod_brings_43 : decode prog_9_method_37_code 43 = .ok (.iconst 0, 1) := by decide +kernel
theorem d_Mod_brings_44 : decode prog_9_method_37_code 44 = .ok (.istore 5, 2) := by decide +kernel
theorem d_Mod_brings_46 : decode prog_9_method_37_code 46 = .ok (.iload 5, 2) := by decide +kernel
theorem d_Mod_brings_48 : decode prog_9_method_37_code 48 = .ok (.aload_n 0, 1) := by decide +kernel
theorem d_Mod_brings_49 : decode prog_9_method_37_code 49 = .ok (.getfield 40, 3) := by decide +kernel
theorem d_Mod_brings_52 : decode prog_9_method_37_code 52 = .ok (.iload_n 1, 1) := by decide +kernel
theorem d_Mod_brings_53 : decode prog_9_method_37_code 53 = .ok (.iaload, 1) := by decide +kernel
theorem d_Mod_brings_54 : decode prog_9_method_37_code 54 = .ok (.if_icmp .ge 38, 3) := by decide +kernel
theorem d_Mod_brings_57 : decode prog_9_method_37_code 57 = .ok (.iload_n 3, 1) := by decide +kernel
theorem d_Mod_brings_58 : decode prog_9_method_37_code 58 = .ok (.ifCond .ge 34, 3) := by decide +kernel
theorem d_Mod_brings_61 : decode prog_9_method_37_code 61 = .ok (.aload_n 0, 1) := by decide +kernel
theorem d_Mod_brings_62 : decode prog_9_method_37_code 62 = .ok (.iload_n 1, 1) := by decide +kernel
theorem d_Mod_brings_63 : decode prog_9_method_37_code 63 = .ok (.iload 5, 2) := by decide +kernel
theorem d_Mod_brings_65 : decode prog_9_method_37_code 65 = .ok (.invokevirtual 140, 3) := by decide +kernel
theorem d_Mod_brings_68 : decode prog_9_method_37_code 68 = .ok (.ifCond .eq 18, 3) := by decide +kernel
theorem d_Mod_brings_71 : decode prog_9_method_37_code 71 = .ok (.iload 4, 2) := by decide +kernel
theorem d_Mod_brings_73 : decode prog_9_method_37_code 73 = .ok (.ifCond .ne 8, 3) := by decide +kernel
theorem d_Mod_brings_76 : decode prog_9_method_37_code 76 = .ok (.iload 5, 2) := by decide +kernel
theorem d_Mod_brings_78 : decode prog_9_method_37_code 78 = .ok (.goto 4, 3) := by decide +kernel
theorem d_Mod_brings_81 : decode prog_9_method_37_code 81 = .ok (.iconst (-1), 1) := by decide +kernel
theorem d_Mod_brings_82 : decode prog_9_method_37_code 82 = .ok (.istore_n 3, 1) := by decide +kernel
theorem d_Mod_brings_83 : decode prog_9_method_37_code 83 = .ok (.iinc 4 (-1), 3) := by decide +kernel
theorem d_Mod_brings_86 : decode prog_9_method_37_code 86 = .ok (.iinc 5 1, 3) := by decide +kernel
theorem d_Mod_brings_89 : decode prog_9_method_37_code 89 = .ok (.goto (-43), 3) := by decide +kernel
theorem d_Mod_brings_92 : decode prog_9_method_37_code 92 = .ok (.iload_n 3, 1) := by decide +kernel
theorem d_Mod_brings_93 : decode prog_9_method_37_code 93 = .ok (.ifCond .ge 5, 3) := by decide +kernel
theorem d_Mod_brings_96 : decode prog_9_method_37_code 96 = .ok (.iconst (-1), 1) := by decide +kernel
theorem d_Mod_brings_97 : decode prog_9_method_37_code 97 = .ok (.ireturn, 1) := by decide +kernel
theorem d_Mod_brings_98 : decode prog_9_method_37_code 98 = .ok (.aload_n 0, 1) := by decide +kernel
theorem d_Mod_brings_99 : decode prog_9_method_37_code 99 = .ok (.getfield 37, 3) := by decide +kernel
theorem d_Mod_brings_102 : decode prog_9_method_37_code 102 = .ok (.iload_n 1, 1) := by decide +kernel
theorem d_Mod_brings_103 : decode prog_9_method_37_code 103 = .ok (.iaload, 1) := by decide +kernel
theorem d_Mod_brings_104 : decode prog_9_method_37_code 104 = .ok (.istore 5, 2) := by decide +kernel
theorem d_Mod_brings_106 : decode prog_9_method_37_code 106 = .ok (.iconst 0, 1) := by decide +kernel
theorem d_Mod_brings_107 : decode prog_9_method_37_code 107 = .ok (.istore 6, 2) := by decide +kernel
theorem d_Mod_brings_109 : decode prog_9_method_37_code 109 = .ok (.iload 6, 2) := by decide +kernel
theorem d_Mod_brings_111 : decode prog_9_method_37_code 111 = .ok (.iload 5, 2) := by decide +kernel
theorem d_Mod_brings_113 : decode prog_9_method_37_code 113 = .ok (.iload_n 3, 1) := by decide +kernel
theorem d_Mod_brings_114 : decode prog_9_method_37_code 114 = .ok (.iadd, 1) := by decide +kernel
theorem d_Mod_brings_115 : decode prog_9_method_37_code 115 = .ok (.if_icmp .ge 24, 3) := by decide +kernel
theorem d_Mod_brings_118 : decode prog_9_method_37_code 118 = .ok (.aload_n 0, 1) := by decide +kernel
theorem d_Mod_brings_119 : decode prog_9_method_37_code 119 = .ok (.iload 6, 2) := by decide +kernel
theorem d_Mod_brings_121 : decode prog_9_method_37_code 121 = .ok (.iconst (-1), 1) := by decide +kernel
theorem d_Mod_brings_122 : decode prog_9_method_37_code 122 = .ok (.iload 5, 2) := by decide +kernel
theorem d_Mod_brings_124 : decode prog_9_method_37_code 124 = .ok (.iload_n 3, 1) := by decide +kernel
theorem d_Mod_brings_125 : decode prog_9_method_37_code 125 = .ok (.iadd, 1) := by decide +kernel
theorem d_Mod_brings_126 : decode prog_9_method_37_code 126 = .ok (.iload 6, 2) := by decide +kernel
theorem d_Mod_brings_128 : decode prog_9_method_37_code 128 = .ok (.isub, 1) := by decide +kernel
theorem d_Mod_brings_129 : decode prog_9_method_37_code 129 = .ok (.isub, 1) := by decide +kernel
theorem d_Mod_brings_130 : decode prog_9_method_37_code 130 = .ok (.invokevirtual 133, 3) := by decide +kernel
theorem d_Mod_brings_133 : decode prog_9_method_37_code 133 = .ok (.iinc 6 1, 3) := by decide +kernel
theorem d_Mod_brings_136 : decode prog_9_method_37_code 136 = .ok (.goto (-27), 3) := by decide +kernel
theorem d_Mod_brings_139 : decode prog_9_method_37_code 139 = .ok (.aload_n 0, 1) := by decide +kernel
theorem d_Mod_brings_140 : decode prog_9_method_37_code 140 = .ok (.getfield 55, 3) := by decide +kernel
theorem d_Mod_brings_143 : decode prog_9_method_37_code 143 = .ok (.istore 6, 2) := by decide +kernel
theorem d_Mod_brings_145 : decode prog_9_method_37_code 145 = .ok (.aload_n 0, 1) := by decide +kernel
theorem d_Mod_brings_146 : decode prog_9_method_37_code 146 = .ok (.iload_n 1, 1) := by decide +kernel
theorem d_Mod_brings_147 : decode prog_9_method_37_code 147 = .ok (.iload_n 3, 1) := by decide +kernel
theorem d_Mod_brings_148 : decode prog_9_method_37_code 148 = .ok (.iconst 5, 1) := by decide +kernel
theorem d_Mod_brings_149 : decode prog_9_method_37_code 149 = .ok (.iconst 0, 1) := by decide +kernel
theorem d_Mod_brings_150 : decode prog_9_method_37_code 150 = .ok (.iconst (-1), 1) := by decide +kernel
theorem d_Mod_brings_151 : decode prog_9_method_37_code 151 = .ok (.bipush (-2), 2) := by decide +kernel
theorem d_Mod_brings_153 : decode prog_9_method_37_code 153 = .ok (.iload 5, 2) := by decide +kernel
theorem d_Mod_brings_155 : decode prog_9_method_37_code 155 = .ok (.isub, 1) := by decide +kernel
theorem d_Mod_brings_156 : decode prog_9_method_37_code 156 = .ok (.iload_n 3, 1) := by decide +kernel
theorem d_Mod_brings_157 : decode prog_9_method_37_code 157 = .ok (.isub, 1) := by decide +kernel
theorem d_Mod_brings_158 : decode prog_9_method_37_code 158 = .ok (.invokevirtual 143, 3) := by decide +kernel
theorem d_Mod_brings_161 : decode prog_9_method_37_code 161 = .ok (.aload_n 0, 1) := by decide +kernel
theorem d_Mod_brings_162 : decode prog_9_method_37_code 162 = .ok (.iload 6, 2) := by decide +kernel
theorem d_Mod_brings_164 : decode prog_9_method_37_code 164 = .ok (.invokevirtual 147, 3) := by decide +kernel
theorem d_Mod_brings_167 : decode prog_9_method_37_code 167 = .ok (.aload_n 0, 1) := by decide +kernel
theorem d_Mod_brings_168 : decode prog_9_method_37_code 168 = .ok (.iload 6, 2) := by decide +kernel
theorem d_Mod_brings_170 : decode prog_9_method_37_code 170 = .ok (.invokevirtual 84, 3) := by decide +kernel
theorem d_Mod_brings_173 : decode prog_9_method_37_code 173 = .ok (.ireturn, 1) := by decide +kernel
theorem d_Mod_brought_0 : decode prog_9_method_38_code 0 = .ok (.aload_n 0, 1) := by decide +kernel
theorem d_Mod_brought_1 : decode prog_9_method_38_code 1 = .ok (.getfield 37, 3) := by decide +kernel
theorem d_Mod_brought_4 : decode prog_9_method_38_code 4 = .ok (.iload_n 1, 1) := by decide +kernel
theorem d_Mod_brought_5 : decode prog_9_method_38_code 5 = .ok (.iaload, 1) := by decide +kernel
theorem d_Mod_brought_6 : decode prog_9_method_38_code 6 = .ok (.istore 7, 2) := by decide +kernel
theorem d_Mod_brought_8 : decode prog_9_method_38_code 8 = .ok (.aload_n 0, 1) := by decide +kernel
theorem d_Mod_brought_9 : decode prog_9_method_38_code 9 = .ok (.getfield 34, 3) := by decide +kernel
theorem d_Mod_brought_12 : decode prog_9_method_38_code 12 = .ok (.iload_n 1, 1) := by decide +kernel
theorem d_Mod_brought_13 : decode prog_9_method_38_code 13 = .ok (.iaload, 1) := by decide +kernel
theorem d_Mod_brought_14 : decode prog_9_method_38_code 14 = .ok (.istore 8, 2) := by decide +kernel
theorem d_Mod_brought_16 : decode prog_9_method_38_code 16 = .ok (.aload_n 0, 1) := by decide +kernel
theorem d_Mod_brought_17 : decode prog_9_method_38_code 17 = .ok (.iload_n 1, 1) := by decide +kernel
theorem d_Mod_brought_18 : decode prog_9_method_38_code 18 = .ok (.iload_n 2, 1) := by decide +kernel
theorem d_Mod_brought_19 : decode prog_9_method_38_code 19 = .ok (.invokevirtual 137, 3) := by decide +kernel
theorem d_Mod_brought_22 : decode prog_9_method_38_code 22 = .ok (.istore 9, 2) := by decide +kernel
theorem d_Mod_brought_24 : decode prog_9_method_38_code 24 = .ok (.aload_n 0, 1) := by decide +kernel
theorem d_Mod_brought_25 : decode prog_9_method_38_code 25 = .ok (.iload 9, 2) := by decide +kernel
theorem d_Mod_brought_27 : decode prog_9_method_38_code 27 = .ok (.invokevirtual 104, 3) := by decide +kernel
theorem d_Mod_brought_30 : decode prog_9_method_38_code 30 = .ok (.istore 10, 2) := by decide +kernel
theorem d_Mod_brought_32 : decode prog_9_method_38_code 32 = .ok (.iconst 0, 1) := by decide +kernel
theorem d_Mod_brought_33 : decode prog_9_method_38_code 33 = .ok (.istore 11, 2) := by decide +kernel
theorem d_Mod_brought_35 : decode prog_9_method_38_code 35 = .ok (.iload 11, 2) := by decide +kernel
theorem d_Mod_brought_37 : decode prog_9_method_38_code 37 = .ok (.iload 10, 2) := by decide +kernel
theorem d_Mod_brought_39 : decode prog_9_method_38_code 39 = .ok (.if_icmp .ge 30, 3) := by decide +kernel
theorem d_Mod_brought_42 : decode prog_9_method_38_code 42 = .ok (.aload_n 0, 1) := by decide +kernel
theorem d_Mod_brought_43 : decode prog_9_method_38_code 43 = .ok (.iload_n 3, 1) := by decide +kernel
theorem d_Mod_brought_44 : decode prog_9_method_38_code 44 = .ok (.iload 9, 2) := by decide +kernel
theorem d_Mod_brought_46 : decode prog_9_method_38_code 46 = .ok (.iload 7, 2) := by decide +kernel
theorem d_Mod_brought_48 : decode prog_9_method_38_code 48 = .ok (.iload_n 2, 1) := by decide +kernel
theorem d_Mod_brought_49 : decode prog_9_method_38_code 49 = .ok (.iadd, 1) := by decide +kernel
theorem d_Mod_brought_50 : decode prog_9_method_38_code 50 = .ok (.iload 11, 2) := by decide +kernel
theorem d_Mod_brought_52 : decode prog_9_method_38_code 52 = .ok (.iadd, 1) := by decide +kernel
theorem d_Mod_brought_53 : decode prog_9_method_38_code 53 = .ok (.iload 4, 2) := by decide +kernel
theorem d_Mod_brought_55 : decode prog_9_method_38_code 55 = .ok (.iload 11, 2) := by decide +kernel
theorem d_Mod_brought_57 : decode prog_9_method_38_code 57 = .ok (.iadd, 1) := by decide +kernel
theorem d_Mod_brought_58 : decode prog_9_method_38_code 58 = .ok (.invokevirtual 150, 3) := by decide +kernel
theorem d_Mod_brought_61 : decode prog_9_method_38_code 61 = .ok (.istore 9, 2) := by decide +kernel
theorem d_Mod_brought_63 : decode prog_9_method_38_code 63 = .ok (.iinc 11 1, 3) := by decide +kernel
theorem d_Mod_brought_66 : decode prog_9_method_38_code 66 = .ok (.goto (-31), 3) := by decide +kernel
theorem d_Mod_brought_69 : decode prog_9_method_38_code 69 = .ok (.aload_n 0, 1) := by decide +kernel
theorem d_Mod_brought_70 : decode prog_9_method_38_code 70 = .ok (.aload_n 0, 1) := by decide +kernel
theorem d_Mod_brought_71 : decode prog_9_method_38_code 71 = .ok (.getfield 40, 3) := by decide +kernel
theorem d_Mod_brought_74 : decode prog_9_method_38_code 74 = .ok (.iload 8, 2) := by decide +kernel
theorem d_Mod_brought_76 : decode prog_9_method_38_code 76 = .ok (.iaload, 1) := by decide +kernel
theorem d_Mod_brought_77 : decode prog_9_method_38_code 77 = .ok (.iconst 1, 1) := by decide +kernel
theorem d_Mod_brought_78 : decode prog_9_method_38_code 78 = .ok (.iadd, 1) := by decide +kernel
theorem d_Mod_brought_79 : decode prog_9_method_38_code 79 = .ok (.invokevirtual 153, 3) := by decide +kernel
theorem d_Mod_brought_82 : decode prog_9_method_38_code 82 = .ok (.aload_n 0, 1) := by decide +kernel
theorem d_Mod_brought_83 : decode prog_9_method_38_code 83 = .ok (.iload 6, 2) := by decide +kernel
theorem d_Mod_brought_85 : decode prog_9_method_38_code 85 = .ok (.invokevirtual 126, 3) := by decide +kernel
theorem d_Mod_brought_88 : decode prog_9_method_38_code 88 = .ok (.iconst 0, 1) := by decide +kernel
theorem d_Mod_brought_89 : decode prog_9_method_38_code 89 = .ok (.istore 11, 2) := by decide +kernel
theorem d_Mod_brought_91 : decode prog_9_method_38_code 91 = .ok (.iload 11, 2) := by decide +kernel
theorem d_Mod_brought_93 : decode prog_9_method_38_code 93 = .ok (.aload_n 0, 1) := by decide +kernel
theorem d_Mod_brought_94 : decode prog_9_method_38_code 94 = .ok (.getfield 40, 3) := by decide +kernel
theorem d_Mod_brought_97 : decode prog_9_method_38_code 97 = .ok (.iload 8, 2) := by decide +kernel
theorem d_Mod_brought_99 : decode prog_9_method_38_code 99 = .ok (.iaload, 1) := by decide +kernel
theorem d_Mod_brought_100 : decode prog_9_method_38_code 100 = .ok (.if_icmp .ge 30, 3) := by decide +kernel
theorem d_Mod_brought_103 : decode prog_9_method_38_code 103 = .ok (.aload_n 0, 1) := by decide +kernel
theorem d_Mod_brought_104 : decode prog_9_method_38_code 104 = .ok (.aload_n 0, 1) := by decide +kernel
theorem d_Mod_brought_105 : decode prog_9_method_38_code 105 = .ok (.iload 9, 2) := by decide +kernel
theorem d_Mod_brought_107 : decode prog_9_method_38_code 107 = .ok (.iload 8, 2) := by decide +kernel
theorem d_Mod_brought_109 : decode prog_9_method_38_code 109 = .ok (.iload 11, 2) := by decide +kernel
theorem d_Mod_brought_111 : decode prog_9_method_38_code 111 = .ok (.invokevirtual 119, 3) := by decide +kernel
theorem d_Mod_brought_114 : decode prog_9_method_38_code 114 = .ok (.iload 7, 2) := by decide +kernel
theorem d_Mod_brought_116 : decode prog_9_method_38_code 116 = .ok (.iload_n 2, 1) := by decide +kernel
theorem d_Mod_brought_117 : decode prog_9_method_38_code 117 = .ok (.iadd, 1) := by decide +kernel
theorem d_Mod_brought_118 : decode prog_9_method_38_code 118 = .ok (.iload 10, 2) := by decide +kernel
theorem d_Mod_brought_120 : decode prog_9_method_38_code 120 = .ok (.iadd, 1) := by decide +kernel
theorem d_Mod_brought_121 : decode prog_9_method_38_code 121 = .ok (.invokevirtual 129, 3) := by decide +kernel
theorem d_Mod_brought_124 : decode prog_9_method_38_code 124 = .ok (.iinc 11 1, 3) := by decide +kernel
theorem d_Mod_brought_127 : decode prog_9_method_38_code 127 = .ok (.goto (-36), 3) := by decide +kernel
theorem d_Mod_brought_130 : decode prog_9_method_38_code 130 = .ok (.aload_n 0, 1) := by decide +kernel
theorem d_Mod_brought_131 : decode prog_9_method_38_code 131 = .ok (.iload 10, 2) := by decide +kernel
theorem d_Mod_brought_133 : decode prog_9_method_38_code 133 = .ok (.invokevirtual 153, 3) := by decide +kernel
theorem d_Mod_brought_136 : decode prog_9_method_38_code 136 = .ok (.aload_n 0, 1) := by decide +kernel
theorem d_Mod_brought_137 : decode prog_9_method_38_code 137 = .ok (.iload 5, 2) := by decide +kernel
theorem d_Mod_brought_139 : decode prog_9_method_38_code 139 = .ok (.invokevirtual 126, 3) := by decide +kernel
theorem d_Mod_brought_142 : decode prog_9_method_38_code 142 = .ok (.iconst 0, 1) := by decide +kernel
theorem d_Mod_brought_143 : decode prog_9_method_38_code 143 = .ok (.istore 11, 2) := by decide +kernel
theorem d_Mod_brought_145 : decode prog_9_method_38_code 145 = .ok (.iload 11, 2) := by decide +kernel
theorem d_Mod_brought_147 : decode prog_9_method_38_code 147 = .ok (.iload 10, 2) := by decide +kernel
theorem d_Mod_brought_149 : decode prog_9_method_38_code 149 = .ok (.if_icmp .ge 18, 3) := by decide +kernel
theorem d_Mod_brought_152 : decode prog_9_method_38_code 152 = .ok (.aload_n 0, 1) := by decide +kernel
theorem d_Mod_brought_153 : decode prog_9_method_38_code 153 = .ok (.iload 4, 2) := by decide +kernel
theorem d_Mod_brought_155 : decode prog_9_method_38_code 155 = .ok (.iload 11, 2) := by decide +kernel
theorem d_Mod_brought_157 : decode prog_9_method_38_code 157 = .ok (.iadd, 1) := by decide +kernel
theorem d_Mod_brought_158 : decode prog_9_method_38_code 158 = .ok (.invokevirtual 126, 3) := by decide +kernel
theorem d_Mod_brought_161 : decode prog_9_method_38_code 161 = .ok (.iinc 11 1, 3) := by decide +kernel
theorem d_Mod_brought_164 : decode prog_9_method_38_code 164 = .ok (.goto (-19), 3) := by decide +kernel
theorem d_Mod_brought_167 : decode prog_9_method_38_code 167 = .ok (.return_, 1) := by decide +kernel
theorem d_Mod_isWhole_0 : decode prog_9_method_39_code 0 = .ok (.iload_n 1, 1) := by decide +kernel
theorem d_Mod_isWhole_1 : decode prog_9_method_39_code 1 = .ok (.ifCond .lt 21, 3) := by decide +kernel
theorem d_Mod_isWhole_4 : decode prog_9_method_39_code 4 = .ok (.iload_n 1, 1) := by decide +kernel
theorem d_Mod_isWhole_5 : decode prog_9_method_39_code 5 = .ok (.aload_n 0, 1) := by decide +kernel
theorem d_Mod_isWhole_6 : decode prog_9_method_39_code 6 = .ok (.getfield 81, 3) := by decide +kernel
theorem d_Mod_isWhole_9 : decode prog_9_method_39_code 9 = .ok (.if_icmp .ge 13, 3) := by decide +kernel
theorem d_Mod_isWhole_12 : decode prog_9_method_39_code 12 = .ok (.aload_n 0, 1) := by decide +kernel
theorem d_Mod_isWhole_13 : decode prog_9_method_39_code 13 = .ok (.getfield 28, 3) := by decide +kernel
theorem d_Mod_isWhole_16 : decode prog_9_method_39_code 16 = .ok (.iload_n 1, 1) := by decide +kernel
theorem d_Mod_isWhole_17 : decode prog_9_method_39_code 17 = .ok (.iaload, 1) := by decide +kernel
theorem d_Mod_isWhole_18 : decode prog_9_method_39_code 18 = .ok (.iconst 3, 1) := by decide +kernel
theorem d_Mod_isWhole_19 : decode prog_9_method_39_code 19 = .ok (.if_icmp .eq 5, 3) := by decide +kernel
theorem d_Mod_isWhole_22 : decode prog_9_method_39_code 22 = .ok (.iconst 0, 1) := by decide +kernel
theorem d_Mod_isWhole_23 : decode prog_9_method_39_code 23 = .ok (.ireturn, 1) := by decide +kernel
theorem d_Mod_isWhole_24 : decode prog_9_method_39_code 24 = .ok (.iconst 1, 1) := by decide +kernel
theorem d_Mod_isWhole_25 : decode prog_9_method_39_code 25 = .ok (.istore_n 2, 1) := by decide +kernel
theorem d_Mod_isWhole_26 : decode prog_9_method_39_code 26 = .ok (.iconst 1, 1) := by decide +kernel
theorem d_Mod_isWhole_27 : decode prog_9_method_39_code 27 = .ok (.istore_n 3, 1) := by decide +kernel
theorem d_Mod_isWhole_28 : decode prog_9_method_39_code 28 = .ok (.iload_n 3, 1) := by decide +kernel
theorem d_Mod_isWhole_29 : decode prog_9_method_39_code 29 = .ok (.aload_n 0, 1) := by decide +kernel
theorem d_Mod_isWhole_30 : decode prog_9_method_39_code 30 = .ok (.getfield 43, 3) := by decide +kernel
theorem d_Mod_isWhole_33 : decode prog_9_method_39_code 33 = .ok (.iload_n 1, 1) := by decide +kernel
theorem d_Mod_isWhole_34 : decode prog_9_method_39_code 34 = .ok (.iaload, 1) := by decide +kernel
theorem d_Mod_isWhole_35 : decode prog_9_method_39_code 35 = .ok (.if_icmp .gt 29, 3) := by decide +kernel
theorem d_Mod_isWhole_38 : decode prog_9_method_39_code 38 = .ok (.iload_n 2, 1) := by decide +kernel
theorem d_Mod_isWhole_39 : decode prog_9_method_39_code 39 = .ok (.aload_n 0, 1) := by decide +kernel
theorem d_Mod_isWhole_40 : decode prog_9_method_39_code 40 = .ok (.getfield 31, 3) := by decide +kernel
theorem d_Mod_isWhole_43 : decode prog_9_method_39_code 43 = .ok (.iload_n 1, 1) := by decide +kernel
theorem d_Mod_isWhole_44 : decode prog_9_method_39_code 44 = .ok (.iload_n 3, 1) := by decide +kernel
theorem d_Mod_isWhole_45 : decode prog_9_method_39_code 45 = .ok (.iadd, 1) := by decide +kernel
theorem d_Mod_isWhole_46 : decode prog_9_method_39_code 46 = .ok (.iaload, 1) := by decide +kernel
theorem d_Mod_isWhole_47 : decode prog_9_method_39_code 47 = .ok (.iconst (-1), 1) := by decide +kernel
theorem d_Mod_isWhole_48 : decode prog_9_method_39_code 48 = .ok (.if_icmp .eq 7, 3) := by decide +kernel
theorem d_Mod_isWhole_51 : decode prog_9_method_39_code 51 = .ok (.iconst 1, 1) := by decide +kernel
theorem d_Mod_isWhole_52 : decode prog_9_method_39_code 52 = .ok (.goto 4, 3) := by decide +kernel
theorem d_Mod_isWhole_55 : decode prog_9_method_39_code 55 = .ok (.iconst 0, 1) := by decide +kernel
theorem d_Mod_isWhole_56 : decode prog_9_method_39_code 56 = .ok (.iand, 1) := by decide +kernel
theorem d_Mod_isWhole_57 : decode prog_9_method_39_code 57 = .ok (.istore_n 2, 1) := by decide +kernel
theorem d_Mod_isWhole_58 : decode prog_9_method_39_code 58 = .ok (.iinc 3 1, 3) := by decide +kernel
theorem d_Mod_isWhole_61 : decode prog_9_method_39_code 61 = .ok (.goto (-33), 3) := by decide +kernel
theorem d_Mod_isWhole_64 : decode prog_9_method_39_code 64 = .ok (.iload_n 2, 1) := by decide +kernel
theorem d_Mod_isWhole_65 : decode prog_9_method_39_code 65 = .ok (.ireturn, 1) := by decide +kernel
theorem d_Mod_put_0 : decode prog_9_method_40_code 0 = .ok (.aload_n 0, 1) := by decide +kernel
theorem d_Mod_put_1 : decode prog_9_method_40_code 1 = .ok (.aload_n 0, 1) := by decide +kernel
theorem d_Mod_put_2 : decode prog_9_method_40_code 2 = .ok (.getfield 37, 3) := by decide +kernel
theorem d_Mod_put_5 : decode prog_9_method_40_code 5 = .ok (.iload_n 1, 1) := by decide +kernel
theorem d_Mod_put_6 : decode prog_9_method_40_code 6 = .ok (.iaload, 1) := by decide +kernel
theorem d_Mod_put_7 : decode prog_9_method_40_code 7 = .ok (.aload_n 0, 1) := by decide +kernel
theorem d_Mod_put_8 : decode prog_9_method_40_code 8 = .ok (.getfield 40, 3) := by decide +kernel
theorem d_Mod_put_11 : decode prog_9_method_40_code 11 = .ok (.iload_n 1, 1) := by decide +kernel
theorem d_Mod_put_12 : decode prog_9_method_40_code 12 = .ok (.iaload, 1) := by decide +kernel
theorem d_Mod_put_13 : decode prog_9_method_40_code 13 = .ok (.iadd, 1) := by decide +kernel
theorem d_Mod_put_14 : decode prog_9_method_40_code 14 = .ok (.invokevirtual 153, 3) := by decide +kernel
theorem d_Mod_put_17 : decode prog_9_method_40_code 17 = .ok (.aload_n 0, 1) := by decide +kernel
theorem d_Mod_put_18 : decode prog_9_method_40_code 18 = .ok (.iconst 1, 1) := by decide +kernel
theorem d_Mod_put_19 : decode prog_9_method_40_code 19 = .ok (.iload_n 1, 1) := by decide +kernel
theorem d_Mod_put_20 : decode prog_9_method_40_code 20 = .ok (.iconst 0, 1) := by decide +kernel
theorem d_Mod_put_21 : decode prog_9_method_40_code 21 = .ok (.invokevirtual 63, 3) := by decide +kernel
theorem d_Mod_put_24 : decode prog_9_method_40_code 24 = .ok (.pop, 1) := by decide +kernel
theorem d_Mod_put_25 : decode prog_9_method_40_code 25 = .ok (.iconst 0, 1) := by decide +kernel
theorem d_Mod_put_26 : decode prog_9_method_40_code 26 = .ok (.istore_n 3, 1) := by decide +kernel
theorem d_Mod_put_27 : decode prog_9_method_40_code 27 = .ok (.iload_n 3, 1) := by decide +kernel
theorem d_Mod_put_28 : decode prog_9_method_40_code 28 = .ok (.aload_n 0, 1) := by decide +kernel
theorem d_Mod_put_29 : decode prog_9_method_40_code 29 = .ok (.getfield 37, 3) := by decide +kernel
theorem d_Mod_put_32 : decode prog_9_method_40_code 32 = .ok (.iload_n 1, 1) := by decide +kernel
theorem d_Mod_put_33 : decode prog_9_method_40_code 33 = .ok (.iaload, 1) := by decide +kernel
theorem d_Mod_put_34 : decode prog_9_method_40_code 34 = .ok (.if_icmp .ge 14, 3) := by decide +kernel
theorem d_Mod_put_37 : decode prog_9_method_40_code 37 = .ok (.aload_n 0, 1) := by decide +kernel
theorem d_Mod_put_38 : decode prog_9_method_40_code 38 = .ok (.iload_n 3, 1) := by decide +kernel
theorem d_Mod_put_39 : decode prog_9_method_40_code 39 = .ok (.invokevirtual 126, 3) := by decide +kernel
theorem d_Mod_put_42 : decode prog_9_method_40_code 42 = .ok (.iinc 3 1, 3) := by decide +kernel
theorem d_Mod_put_45 : decode prog_9_method_40_code 45 = .ok (.goto (-18), 3) := by decide +kernel
theorem d_Mod_put_48 : decode prog_9_method_40_code 48 = .ok (.iconst 0, 1) := by decide +kernel
theorem d_Mod_put_49 : decode prog_9_method_40_code 49 = .ok (.istore_n 3, 1) := by decide +kernel
theorem d_Mod_put_50 : decode prog_9_method_40_code 50 = .ok (.iload_n 3, 1) := by decide +kernel
theorem d_Mod_put_51 : decode prog_9_method_40_code 51 = .ok (.aload_n 0, 1) := by decide +kernel
theorem d_Mod_put_52 : decode prog_9_method_40_code 52 = .ok (.getfield 40, 3) := by decide +kernel
theorem d_Mod_put_55 : decode prog_9_method_40_code 55 = .ok (.iload_n 1, 1) := by decide +kernel
theorem d_Mod_put_56 : decode prog_9_method_40_code 56 = .ok (.iaload, 1) := by decide +kernel
theorem d_Mod_put_57 : decode prog_9_method_40_code 57 = .ok (.if_icmp .ge 16, 3) := by decide +kernel
theorem d_Mod_put_60 : decode prog_9_method_40_code 60 = .ok (.aload_n 0, 1) := by decide +kernel
theorem d_Mod_put_61 : decode prog_9_method_40_code 61 = .ok (.iload_n 2, 1) := by decide +kernel
theorem d_Mod_put_62 : decode prog_9_method_40_code 62 = .ok (.iload_n 3, 1) := by decide +kernel
theorem d_Mod_put_63 : decode prog_9_method_40_code 63 = .ok (.iadd, 1) := by decide +kernel
theorem d_Mod_put_64 : decode prog_9_method_40_code 64 = .ok (.invokevirtual 126, 3) := by decide +kernel
theorem d_Mod_put_67 : decode prog_9_method_40_code 67 = .ok (.iinc 3 1, 3) := by decide +kernel
theorem d_Mod_put_70 : decode prog_9_method_40_code 70 = .ok (.goto (-20), 3) := by decide +kernel
theorem d_Mod_put_73 : decode prog_9_method_40_code 73 = .ok (.return_, 1) := by decide +kernel
theorem d_Mod_write_0 : decode prog_9_method_41_code 0 = .ok (.aload_n 0, 1) := by decide +kernel
theorem d_Mod_write_1 : decode prog_9_method_41_code 1 = .ok (.getfield 37, 3) := by decide +kernel
theorem d_Mod_write_4 : decode prog_9_method_41_code 4 = .ok (.iload_n 1, 1) := by decide +kernel
theorem d_Mod_write_5 : decode prog_9_method_41_code 5 = .ok (.iaload, 1) := by decide +kernel
theorem d_Mod_write_6 : decode prog_9_method_41_code 6 = .ok (.istore_n 3, 1) := by decide +kernel
theorem d_Mod_write_7 : decode prog_9_method_41_code 7 = .ok (.aload_n 0, 1) := by decide +kernel
theorem d_Mod_write_8 : decode prog_9_method_41_code 8 = .ok (.getfield 40, 3) := by decide +kernel
theorem d_Mod_write_11 : decode prog_9_method_41_code 11 = .ok (.iload_n 1, 1) := by decide +kernel
theorem d_Mod_write_12 : decode prog_9_method_41_code 12 = .ok (.iaload, 1) := by decide +kernel
theorem d_Mod_write_13 : decode prog_9_method_41_code 13 = .ok (.istore 4, 2) := by decide +kernel
theorem d_Mod_write_15 : decode prog_9_method_41_code 15 = .ok (.aload_n 0, 1) := by decide +kernel
theorem d_Mod_write_16 : decode prog_9_method_41_code 16 = .ok (.getfield 31, 3) := by decide +kernel
theorem d_Mod_write_19 : decode prog_9_method_41_code 19 = .ok (.iload_n 1, 1) := by decide +kernel
theorem d_Mod_write_20 : decode prog_9_method_41_code 20 = .ok (.iaload, 1) := by decide +kernel
theorem d_Mod_write_21 : decode prog_9_method_41_code 21 = .ok (.istore 5, 2) := by decide +kernel
theorem d_Mod_write_23 : decode prog_9_method_41_code 23 = .ok (.iconst 0, 1) := by decide +kernel
theorem d_Mod_write_24 : decode prog_9_method_41_code 24 = .ok (.istore 6, 2) := by decide +kernel
theorem d_Mod_write_26 : decode prog_9_method_41_code 26 = .ok (.iload 6, 2) := by decide +kernel
theorem d_Mod_write_28 : decode prog_9_method_41_code 28 = .ok (.iload_n 3, 1) := by decide +kernel
theorem d_Mod_write_29 : decode prog_9_method_41_code 29 = .ok (.if_icmp .ge 23, 3) := by decide +kernel
theorem d_Mod_write_32 : decode prog_9_method_41_code 32 = .ok (.aload_n 0, 1) := by decide +kernel
theorem d_Mod_write_33 : decode prog_9_method_41_code 33 = .ok (.bipush 6, 2) := by decide +kernel
theorem d_Mod_write_35 : decode prog_9_method_41_code 35 = .ok (.iload 5, 2) := by decide +kernel
theorem d_Mod_write_37 : decode prog_9_method_41_code 37 = .ok (.iload 6, 2) := by decide +kernel
theorem d_Mod_write_39 : decode prog_9_method_41_code 39 = .ok (.iload 6, 2) := by decide +kernel
theorem d_Mod_write_41 : decode prog_9_method_41_code 41 = .ok (.invokevirtual 150, 3) := by decide +kernel
theorem d_Mod_write_44 : decode prog_9_method_41_code 44 = .ok (.istore 5, 2) := by decide +kernel
theorem d_Mod_write_46 : decode prog_9_method_41_code 46 = .ok (.iinc 6 1, 3) := by decide +kernel
theorem d_Mod_write_49 : decode prog_9_method_41_code 49 = .ok (.goto (-23), 3) := by decide +kernel
theorem d_Mod_write_52 : decode prog_9_method_41_code 52 = .ok (.aload_n 0, 1) := by decide +kernel
theorem d_Mod_write_53 : decode prog_9_method_41_code 53 = .ok (.bipush 6, 2) := by decide +kernel
theorem d_Mod_write_55 : decode prog_9_method_41_code 55 = .ok (.bipush 98, 2) := by decide +kernel
theorem d_Mod_write_57 : decode prog_9_method_41_code 57 = .ok (.iconst 0, 1) := by decide +kernel
theorem d_Mod_write_58 : decode prog_9_method_41_code 58 = .ok (.invokevirtual 63, 3) := by decide +kernel
theorem d_Mod_write_61 : decode prog_9_method_41_code 61 = .ok (.pop, 1) := by decide +kernel
theorem d_Mod_write_62 : decode prog_9_method_41_code 62 = .ok (.iload 5, 2) := by decide +kernel
theorem d_Mod_write_64 : decode prog_9_method_41_code 64 = .ok (.istore 6, 2) := by decide +kernel
theorem d_Mod_write_66 : decode prog_9_method_41_code 66 = .ok (.iconst 0, 1) := by decide +kernel
theorem d_Mod_write_67 : decode prog_9_method_41_code 67 = .ok (.istore 7, 2) := by decide +kernel
theorem d_Mod_write_69 : decode prog_9_method_41_code 69 = .ok (.iload 7, 2) := by decide +kernel
theorem d_Mod_write_71 : decode prog_9_method_41_code 71 = .ok (.iload 4, 2) := by decide +kernel
theorem d_Mod_write_73 : decode prog_9_method_41_code 73 = .ok (.if_icmp .ge 27, 3) := by decide +kernel
theorem d_Mod_write_76 : decode prog_9_method_41_code 76 = .ok (.aload_n 0, 1) := by decide +kernel
theorem d_Mod_write_77 : decode prog_9_method_41_code 77 = .ok (.bipush 6, 2) := by decide +kernel
theorem d_Mod_write_79 : decode prog_9_method_41_code 79 = .ok (.iload 6, 2) := by decide +kernel
theorem d_Mod_write_81 : decode prog_9_method_41_code 81 = .ok (.iload_n 3, 1) := by decide +kernel
theorem d_Mod_write_82 : decode prog_9_method_41_code 82 = .ok (.iload 7, 2) := by decide +kernel
theorem d_Mod_write_84 : decode prog_9_method_41_code 84 = .ok (.iadd, 1) := by decide +kernel
theorem d_Mod_write_85 : decode prog_9_method_41_code 85 = .ok (.iload_n 3, 1) := by decide +kernel
theorem d_Mod_write_86 : decode prog_9_method_41_code 86 = .ok (.iload 7, 2) := by decide +kernel
theorem d_Mod_write_88 : decode prog_9_method_41_code 88 = .ok (.iadd, 1) := by decide +kernel
theorem d_Mod_write_89 : decode prog_9_method_41_code 89 = .ok (.invokevirtual 150, 3) := by decide +kernel
theorem d_Mod_write_92 : decode prog_9_method_41_code 92 = .ok (.istore 6, 2) := by decide +kernel
theorem d_Mod_write_94 : decode prog_9_method_41_code 94 = .ok (.iinc 7 1, 3) := by decide +kernel
theorem d_Mod_write_97 : decode prog_9_method_41_code 97 = .ok (.goto (-28), 3) := by decide +kernel
theorem d_Mod_write_100 : decode prog_9_method_41_code 100 = .ok (.aload_n 0, 1) := by decide +kernel
theorem d_Mod_write_101 : decode prog_9_method_41_code 101 = .ok (.bipush 6, 2) := by decide +kernel
theorem d_Mod_write_103 : decode prog_9_method_41_code 103 = .ok (.iconst (-1), 1) := by decide +kernel
theorem d_Mod_write_104 : decode prog_9_method_41_code 104 = .ok (.iconst 0, 1) := by decide +kernel
theorem d_Mod_write_105 : decode prog_9_method_41_code 105 = .ok (.invokevirtual 63, 3) := by decide +kernel
theorem d_Mod_write_108 : decode prog_9_method_41_code 108 = .ok (.pop, 1) := by decide +kernel
theorem d_Mod_write_109 : decode prog_9_method_41_code 109 = .ok (.aload_n 0, 1) := by decide +kernel
theorem d_Mod_write_110 : decode prog_9_method_41_code 110 = .ok (.iload_n 1, 1) := by decide +kernel
theorem d_Mod_write_111 : decode prog_9_method_41_code 111 = .ok (.iload_n 3, 1) := by decide +kernel
theorem d_Mod_write_112 : decode prog_9_method_41_code 112 = .ok (.invokevirtual 156, 3) := by decide +kernel
theorem d_Mod_write_115 : decode prog_9_method_41_code 115 = .ok (.aload_n 0, 1) := by decide +kernel
theorem d_Mod_write_116 : decode prog_9_method_41_code 116 = .ok (.iconst 2, 1) := by decide +kernel
theorem d_Mod_write_117 : decode prog_9_method_41_code 117 = .ok (.iload_n 2, 1) := by decide +kernel
theorem d_Mod_write_118 : decode prog_9_method_41_code 118 = .ok (.iconst 0, 1) := by decide +kernel
theorem d_Mod_write_119 : decode prog_9_method_41_code 119 = .ok (.invokevirtual 63, 3) := by decide +kernel
theorem d_Mod_write_122 : decode prog_9_method_41_code 122 = .ok (.pop, 1) := by decide +kernel
theorem d_Mod_write_123 : decode prog_9_method_41_code 123 = .ok (.iload_n 3, 1) := by decide +kernel
theorem d_Mod_write_124 : decode prog_9_method_41_code 124 = .ok (.iconst 1, 1) := by decide +kernel
theorem d_Mod_write_125 : decode prog_9_method_41_code 125 = .ok (.iadd, 1) := by decide +kernel
theorem d_Mod_write_126 : decode prog_9_method_41_code 126 = .ok (.istore 7, 2) := by decide +kernel
theorem d_Mod_write_128 : decode prog_9_method_41_code 128 = .ok (.iload_n 1, 1) := by decide +kernel
theorem d_Mod_write_129 : decode prog_9_method_41_code 129 = .ok (.iconst 1, 1) := by decide +kernel
theorem d_Mod_write_130 : decode prog_9_method_41_code 130 = .ok (.iadd, 1) := by decide +kernel
theorem d_Mod_write_131 : decode prog_9_method_41_code 131 = .ok (.istore 8, 2) := by decide +kernel
theorem d_Mod_write_133 : decode prog_9_method_41_code 133 = .ok (.iload 8, 2) := by decide +kernel
theorem d_Mod_write_135 : decode prog_9_method_41_code 135 = .ok (.iload_n 1, 1) := by decide +kernel
theorem d_Mod_write_136 : decode prog_9_method_41_code 136 = .ok (.aload_n 0, 1) := by decide +kernel
theorem d_Mod_write_137 : decode prog_9_method_41_code 137 = .ok (.getfield 43, 3) := by decide +kernel
theorem d_Mod_write_140 : decode prog_9_method_41_code 140 = .ok (.iload_n 1, 1) := by decide +kernel
theorem d_Mod_write_141 : decode prog_9_method_41_code 141 = .ok (.iaload, 1) := by decide +kernel
theorem d_Mod_write_142 : decode prog_9_method_41_code 142 = .ok (.iadd, 1) := by decide +kernel
theorem d_Mod_write_143 : decode prog_9_method_41_code 143 = .ok (.if_icmp .gt 29, 3) := by decide +kernel
theorem d_Mod_write_146 : decode prog_9_method_41_code 146 = .ok (.aload_n 0, 1) := by decide +kernel
theorem d_Mod_write_147 : decode prog_9_method_41_code 147 = .ok (.bipush 6, 2) := by decide +kernel
theorem d_Mod_write_149 : decode prog_9_method_41_code 149 = .ok (.iconst (-1), 1) := by decide +kernel
theorem d_Mod_write_150 : decode prog_9_method_41_code 150 = .ok (.iconst 0, 1) := by decide +kernel
theorem d_Mod_write_151 : decode prog_9_method_41_code 151 = .ok (.invokevirtual 63, 3) := by decide +kernel
theorem d_Mod_write_154 : decode prog_9_method_41_code 154 = .ok (.pop, 1) := by decide +kernel
theorem d_Mod_write_155 : decode prog_9_method_41_code 155 = .ok (.aload_n 0, 1) := by decide +kernel
theorem d_Mod_write_156 : decode prog_9_method_41_code 156 = .ok (.iload 8, 2) := by decide +kernel
theorem d_Mod_write_158 : decode prog_9_method_41_code 158 = .ok (.iload 7, 2) := by decide +kernel
theorem d_Mod_write_160 : decode prog_9_method_41_code 160 = .ok (.invokevirtual 159, 3) := by decide +kernel
theorem d_Mod_write_163 : decode prog_9_method_41_code 163 = .ok (.iinc 7 1, 3) := by decide +kernel
theorem d_Mod_write_166 : decode prog_9_method_41_code 166 = .ok (.iinc 8 1, 3) := by decide +kernel
theorem d_Mod_write_169 : decode prog_9_method_41_code 169 = .ok (.goto (-36), 3) := by decide +kernel
theorem d_Mod_write_172 : decode prog_9_method_41_code 172 = .ok (.iload 5, 2) := by decide +kernel
theorem d_Mod_write_174 : decode prog_9_method_41_code 174 = .ok (.istore 6, 2) := by decide +kernel
theorem d_Mod_write_176 : decode prog_9_method_41_code 176 = .ok (.iconst 0, 1) := by decide +kernel
theorem d_Mod_write_177 : decode prog_9_method_41_code 177 = .ok (.istore 8, 2) := by decide +kernel
theorem d_Mod_write_179 : decode prog_9_method_41_code 179 = .ok (.iload 8, 2) := by decide +kernel
theorem d_Mod_write_181 : decode prog_9_method_41_code 181 = .ok (.iload 4, 2) := by decide +kernel
theorem d_Mod_write_183 : decode prog_9_method_41_code 183 = .ok (.if_icmp .ge 28, 3) := by decide +kernel
theorem d_Mod_write_186 : decode prog_9_method_41_code 186 = .ok (.aload_n 0, 1) := by decide +kernel
theorem d_Mod_write_187 : decode prog_9_method_41_code 187 = .ok (.bipush 6, 2) := by decide +kernel
theorem d_Mod_write_189 : decode prog_9_method_41_code 189 = .ok (.iload 6, 2) := by decide +kernel
theorem d_Mod_write_191 : decode prog_9_method_41_code 191 = .ok (.iload_n 3, 1) := by decide +kernel
theorem d_Mod_write_192 : decode prog_9_method_41_code 192 = .ok (.iload 8, 2) := by decide +kernel
theorem d_Mod_write_194 : decode prog_9_method_41_code 194 = .ok (.iadd, 1) := by decide +kernel
end
section
/-! decode rows -/
theorem d_Mod_write_195 : decode prog_9_method_41_code 195 = .ok (.iload 7, 2) := by decide +kernel
theorem d_Mod_write_197 : decode prog_9_method_41_code 197 = .ok (.iload 8, 2) := by decide +kernel
theorem d_Mod_write_199 : decode prog_9_method_41_code 199 = .ok (.iadd, 1) := by decide +kernel
theorem d_Mod_write_200 : decode prog_9_method_41_code 200 = .ok (.invokevirtual 150, 3) := by decide +kernel
theorem d_Mod_write_203 : decode prog_9_method_41_code 203 = .ok (.istore 6, 2) := by decide +kernel
theorem d_Mod_write_205 : decode prog_9_method_41_code 205 = .ok (.iinc 8 1, 3) := by decide +kernel
theorem d_Mod_write_208 : decode prog_9_method_41_code 208 = .ok (.goto (-29), 3) := by decide +kernel
theorem d_Mod_write_211 : decode prog_9_method_41_code 211 = .ok (.aload_n 0, 1) := by decide +kernel
theorem d_Mod_write_212 : decode prog_9_method_41_code 212 = .ok (.bipush 6, 2) := by decide +kernel
theorem d_Mod_write_214 : decode prog_9_method_41_code 214 = .ok (.bipush 99, 2) := by decide +kernel
theorem d_Mod_write_216 : decode prog_9_method_41_code 216 = .ok (.iconst 0, 1) := by decide +kernel
theorem d_Mod_write_217 : decode prog_9_method_41_code 217 = .ok (.invokevirtual 63, 3) := by decide +kernel
theorem d_Mod_write_220 : decode prog_9_method_41_code 220 = .ok (.pop, 1) := by decide +kernel
theorem d_Mod_write_221 : decode prog_9_method_41_code 221 = .ok (.aload_n 0, 1) := by decide +kernel
theorem d_Mod_write_222 : decode prog_9_method_41_code 222 = .ok (.iload_n 1, 1) := by decide +kernel
theorem d_Mod_write_223 : decode prog_9_method_41_code 223 = .ok (.iload 7, 2) := by decide +kernel
theorem d_Mod_write_225 : decode prog_9_method_41_code 225 = .ok (.invokevirtual 156, 3) := by decide +kernel
theorem d_Mod_write_228 : decode prog_9_method_41_code 228 = .ok (.aload_n 0, 1) := by decide +kernel
theorem d_Mod_write_229 : decode prog_9_method_41_code 229 = .ok (.iload 4, 2) := by decide +kernel
theorem d_Mod_write_231 : decode prog_9_method_41_code 231 = .ok (.iconst 1, 1) := by decide +kernel
theorem d_Mod_write_232 : decode prog_9_method_41_code 232 = .ok (.iadd, 1) := by decide +kernel
theorem d_Mod_write_233 : decode prog_9_method_41_code 233 = .ok (.invokevirtual 153, 3) := by decide +kernel
theorem d_Mod_write_236 : decode prog_9_method_41_code 236 = .ok (.aload_n 0, 1) := by decide +kernel
theorem d_Mod_write_237 : decode prog_9_method_41_code 237 = .ok (.iload_n 3, 1) := by decide +kernel
theorem d_Mod_write_238 : decode prog_9_method_41_code 238 = .ok (.invokevirtual 126, 3) := by decide +kernel
theorem d_Mod_write_241 : decode prog_9_method_41_code 241 = .ok (.iconst 0, 1) := by decide +kernel
theorem d_Mod_write_242 : decode prog_9_method_41_code 242 = .ok (.istore 8, 2) := by decide +kernel
theorem d_Mod_write_244 : decode prog_9_method_41_code 244 = .ok (.iload 8, 2) := by decide +kernel
theorem d_Mod_write_246 : decode prog_9_method_41_code 246 = .ok (.iload 4, 2) := by decide +kernel
theorem d_Mod_write_248 : decode prog_9_method_41_code 248 = .ok (.if_icmp .gt 18, 3) := by decide +kernel
theorem d_Mod_write_251 : decode prog_9_method_41_code 251 = .ok (.aload_n 0, 1) := by decide +kernel
theorem d_Mod_write_252 : decode prog_9_method_41_code 252 = .ok (.iload 7, 2) := by decide +kernel
theorem d_Mod_write_254 : decode prog_9_method_41_code 254 = .ok (.iload 8, 2) := by decide +kernel
theorem d_Mod_write_256 : decode prog_9_method_41_code 256 = .ok (.iadd, 1) := by decide +kernel
theorem d_Mod_write_257 : decode prog_9_method_41_code 257 = .ok (.invokevirtual 126, 3) := by decide +kernel
theorem d_Mod_write_260 : decode prog_9_method_41_code 260 = .ok (.iinc 8 1, 3) := by decide +kernel
theorem d_Mod_write_263 : decode prog_9_method_41_code 263 = .ok (.goto (-19), 3) := by decide +kernel
theorem d_Mod_write_266 : decode prog_9_method_41_code 266 = .ok (.return_, 1) := by decide +kernel
theorem d_Mod_part2_0 : decode prog_9_method_42_code 0 = .ok (.aload_n 0, 1) := by decide +kernel
theorem d_Mod_part2_1 : decode prog_9_method_42_code 1 = .ok (.getfield 34, 3) := by decide +kernel
theorem d_Mod_part2_4 : decode prog_9_method_42_code 4 = .ok (.iload_n 1, 1) := by decide +kernel
theorem d_Mod_part2_5 : decode prog_9_method_42_code 5 = .ok (.iaload, 1) := by decide +kernel
theorem d_Mod_part2_6 : decode prog_9_method_42_code 6 = .ok (.istore_n 3, 1) := by decide +kernel
theorem d_Mod_part2_7 : decode prog_9_method_42_code 7 = .ok (.aload_n 0, 1) := by decide +kernel
theorem d_Mod_part2_8 : decode prog_9_method_42_code 8 = .ok (.getfield 37, 3) := by decide +kernel
theorem d_Mod_part2_11 : decode prog_9_method_42_code 11 = .ok (.iload_n 3, 1) := by decide +kernel
theorem d_Mod_part2_12 : decode prog_9_method_42_code 12 = .ok (.iaload, 1) := by decide +kernel
theorem d_Mod_part2_13 : decode prog_9_method_42_code 13 = .ok (.istore 4, 2) := by decide +kernel
theorem d_Mod_part2_15 : decode prog_9_method_42_code 15 = .ok (.aload_n 0, 1) := by decide +kernel
theorem d_Mod_part2_16 : decode prog_9_method_42_code 16 = .ok (.getfield 40, 3) := by decide +kernel
theorem d_Mod_part2_19 : decode prog_9_method_42_code 19 = .ok (.iload_n 1, 1) := by decide +kernel
theorem d_Mod_part2_20 : decode prog_9_method_42_code 20 = .ok (.iaload, 1) := by decide +kernel
theorem d_Mod_part2_21 : decode prog_9_method_42_code 21 = .ok (.istore 5, 2) := by decide +kernel
theorem d_Mod_part2_23 : decode prog_9_method_42_code 23 = .ok (.aload_n 0, 1) := by decide +kernel
theorem d_Mod_part2_24 : decode prog_9_method_42_code 24 = .ok (.aload_n 0, 1) := by decide +kernel
theorem d_Mod_part2_25 : decode prog_9_method_42_code 25 = .ok (.getfield 31, 3) := by decide +kernel
theorem d_Mod_part2_28 : decode prog_9_method_42_code 28 = .ok (.iload_n 1, 1) := by decide +kernel
theorem d_Mod_part2_29 : decode prog_9_method_42_code 29 = .ok (.iaload, 1) := by decide +kernel
theorem d_Mod_part2_30 : decode prog_9_method_42_code 30 = .ok (.iload 4, 2) := by decide +kernel
theorem d_Mod_part2_32 : decode prog_9_method_42_code 32 = .ok (.invokevirtual 107, 3) := by decide +kernel
theorem d_Mod_part2_35 : decode prog_9_method_42_code 35 = .ok (.istore 6, 2) := by decide +kernel
theorem d_Mod_part2_37 : decode prog_9_method_42_code 37 = .ok (.iconst 0, 1) := by decide +kernel
theorem d_Mod_part2_38 : decode prog_9_method_42_code 38 = .ok (.istore 7, 2) := by decide +kernel
theorem d_Mod_part2_40 : decode prog_9_method_42_code 40 = .ok (.iload 7, 2) := by decide +kernel
theorem d_Mod_part2_42 : decode prog_9_method_42_code 42 = .ok (.iload 4, 2) := by decide +kernel
theorem d_Mod_part2_44 : decode prog_9_method_42_code 44 = .ok (.if_icmp .ge 17, 3) := by decide +kernel
theorem d_Mod_part2_47 : decode prog_9_method_42_code 47 = .ok (.aload_n 0, 1) := by decide +kernel
theorem d_Mod_part2_48 : decode prog_9_method_42_code 48 = .ok (.iload 7, 2) := by decide +kernel
theorem d_Mod_part2_50 : decode prog_9_method_42_code 50 = .ok (.iload 7, 2) := by decide +kernel
theorem d_Mod_part2_52 : decode prog_9_method_42_code 52 = .ok (.invokevirtual 133, 3) := by decide +kernel
theorem d_Mod_part2_55 : decode prog_9_method_42_code 55 = .ok (.iinc 7 1, 3) := by decide +kernel
theorem d_Mod_part2_58 : decode prog_9_method_42_code 58 = .ok (.goto (-18), 3) := by decide +kernel
theorem d_Mod_part2_61 : decode prog_9_method_42_code 61 = .ok (.iconst 0, 1) := by decide +kernel
theorem d_Mod_part2_62 : decode prog_9_method_42_code 62 = .ok (.istore 7, 2) := by decide +kernel
theorem d_Mod_part2_64 : decode prog_9_method_42_code 64 = .ok (.iload 7, 2) := by decide +kernel
theorem d_Mod_part2_66 : decode prog_9_method_42_code 66 = .ok (.iload 5, 2) := by decide +kernel
theorem d_Mod_part2_68 : decode prog_9_method_42_code 68 = .ok (.if_icmp .ge 28, 3) := by decide +kernel
theorem d_Mod_part2_71 : decode prog_9_method_42_code 71 = .ok (.aload_n 0, 1) := by decide +kernel
theorem d_Mod_part2_72 : decode prog_9_method_42_code 72 = .ok (.bipush 6, 2) := by decide +kernel
theorem d_Mod_part2_74 : decode prog_9_method_42_code 74 = .ok (.iload 6, 2) := by decide +kernel
theorem d_Mod_part2_76 : decode prog_9_method_42_code 76 = .ok (.iload 4, 2) := by decide +kernel
theorem d_Mod_part2_78 : decode prog_9_method_42_code 78 = .ok (.iload 7, 2) := by decide +kernel
theorem d_Mod_part2_80 : decode prog_9_method_42_code 80 = .ok (.iadd, 1) := by decide +kernel
theorem d_Mod_part2_81 : decode prog_9_method_42_code 81 = .ok (.iload_n 2, 1) := by decide +kernel
theorem d_Mod_part2_82 : decode prog_9_method_42_code 82 = .ok (.iload 7, 2) := by decide +kernel
theorem d_Mod_part2_84 : decode prog_9_method_42_code 84 = .ok (.iadd, 1) := by decide +kernel
theorem d_Mod_part2_85 : decode prog_9_method_42_code 85 = .ok (.invokevirtual 150, 3) := by decide +kernel
theorem d_Mod_part2_88 : decode prog_9_method_42_code 88 = .ok (.istore 6, 2) := by decide +kernel
theorem d_Mod_part2_90 : decode prog_9_method_42_code 90 = .ok (.iinc 7 1, 3) := by decide +kernel
theorem d_Mod_part2_93 : decode prog_9_method_42_code 93 = .ok (.goto (-29), 3) := by decide +kernel
theorem d_Mod_part2_96 : decode prog_9_method_42_code 96 = .ok (.iload_n 2, 1) := by decide +kernel
theorem d_Mod_part2_97 : decode prog_9_method_42_code 97 = .ok (.iload 5, 2) := by decide +kernel
theorem d_Mod_part2_99 : decode prog_9_method_42_code 99 = .ok (.iadd, 1) := by decide +kernel
theorem d_Mod_part2_100 : decode prog_9_method_42_code 100 = .ok (.istore 7, 2) := by decide +kernel
theorem d_Mod_part2_102 : decode prog_9_method_42_code 102 = .ok (.iconst 0, 1) := by decide +kernel
theorem d_Mod_part2_103 : decode prog_9_method_42_code 103 = .ok (.istore 8, 2) := by decide +kernel
theorem d_Mod_part2_105 : decode prog_9_method_42_code 105 = .ok (.iload 8, 2) := by decide +kernel
theorem d_Mod_part2_107 : decode prog_9_method_42_code 107 = .ok (.iload 5, 2) := by decide +kernel
theorem d_Mod_part2_109 : decode prog_9_method_42_code 109 = .ok (.if_icmp .ge 77, 3) := by decide +kernel
theorem d_Mod_part2_112 : decode prog_9_method_42_code 112 = .ok (.aload_n 0, 1) := by decide +kernel
theorem d_Mod_part2_113 : decode prog_9_method_42_code 113 = .ok (.iload_n 1, 1) := by decide +kernel
theorem d_Mod_part2_114 : decode prog_9_method_42_code 114 = .ok (.iload 8, 2) := by decide +kernel
theorem d_Mod_part2_116 : decode prog_9_method_42_code 116 = .ok (.invokevirtual 140, 3) := by decide +kernel
theorem d_Mod_part2_119 : decode prog_9_method_42_code 119 = .ok (.ifCond .eq 61, 3) := by decide +kernel
theorem d_Mod_part2_122 : decode prog_9_method_42_code 122 = .ok (.aload_n 0, 1) := by decide +kernel
theorem d_Mod_part2_123 : decode prog_9_method_42_code 123 = .ok (.bipush 6, 2) := by decide +kernel
theorem d_Mod_part2_125 : decode prog_9_method_42_code 125 = .ok (.iconst (-1), 1) := by decide +kernel
theorem d_Mod_part2_126 : decode prog_9_method_42_code 126 = .ok (.iconst 0, 1) := by decide +kernel
theorem d_Mod_part2_127 : decode prog_9_method_42_code 127 = .ok (.invokevirtual 63, 3) := by decide +kernel
theorem d_Mod_part2_130 : decode prog_9_method_42_code 130 = .ok (.pop, 1) := by decide +kernel
theorem d_Mod_part2_131 : decode prog_9_method_42_code 131 = .ok (.aload_n 0, 1) := by decide +kernel
theorem d_Mod_part2_132 : decode prog_9_method_42_code 132 = .ok (.iload_n 1, 1) := by decide +kernel
theorem d_Mod_part2_133 : decode prog_9_method_42_code 133 = .ok (.iload 8, 2) := by decide +kernel
theorem d_Mod_part2_135 : decode prog_9_method_42_code 135 = .ok (.bipush 6, 2) := by decide +kernel
theorem d_Mod_part2_137 : decode prog_9_method_42_code 137 = .ok (.iload 7, 2) := by decide +kernel
theorem d_Mod_part2_139 : decode prog_9_method_42_code 139 = .ok (.iload_n 2, 1) := by decide +kernel
theorem d_Mod_part2_140 : decode prog_9_method_42_code 140 = .ok (.iload 8, 2) := by decide +kernel
theorem d_Mod_part2_142 : decode prog_9_method_42_code 142 = .ok (.iadd, 1) := by decide +kernel
theorem d_Mod_part2_143 : decode prog_9_method_42_code 143 = .ok (.iload 4, 2) := by decide +kernel
theorem d_Mod_part2_145 : decode prog_9_method_42_code 145 = .ok (.invokevirtual 143, 3) := by decide +kernel
theorem d_Mod_part2_148 : decode prog_9_method_42_code 148 = .ok (.iinc 7 1, 3) := by decide +kernel
theorem d_Mod_part2_151 : decode prog_9_method_42_code 151 = .ok (.iconst 0, 1) := by decide +kernel
theorem d_Mod_part2_152 : decode prog_9_method_42_code 152 = .ok (.istore 9, 2) := by decide +kernel
theorem d_Mod_part2_154 : decode prog_9_method_42_code 154 = .ok (.iload 9, 2) := by decide +kernel
theorem d_Mod_part2_156 : decode prog_9_method_42_code 156 = .ok (.iload 5, 2) := by decide +kernel
theorem d_Mod_part2_158 : decode prog_9_method_42_code 158 = .ok (.if_icmp .ge 22, 3) := by decide +kernel
theorem d_Mod_part2_161 : decode prog_9_method_42_code 161 = .ok (.aload_n 0, 1) := by decide +kernel
theorem d_Mod_part2_162 : decode prog_9_method_42_code 162 = .ok (.iload 4, 2) := by decide +kernel
theorem d_Mod_part2_164 : decode prog_9_method_42_code 164 = .ok (.iload 9, 2) := by decide +kernel
theorem d_Mod_part2_166 : decode prog_9_method_42_code 166 = .ok (.iadd, 1) := by decide +kernel
theorem d_Mod_part2_167 : decode prog_9_method_42_code 167 = .ok (.iload_n 2, 1) := by decide +kernel
theorem d_Mod_part2_168 : decode prog_9_method_42_code 168 = .ok (.iload 9, 2) := by decide +kernel
theorem d_Mod_part2_170 : decode prog_9_method_42_code 170 = .ok (.iadd, 1) := by decide +kernel
theorem d_Mod_part2_171 : decode prog_9_method_42_code 171 = .ok (.invokevirtual 133, 3) := by decide +kernel
theorem d_Mod_part2_174 : decode prog_9_method_42_code 174 = .ok (.iinc 9 1, 3) := by decide +kernel
theorem d_Mod_part2_177 : decode prog_9_method_42_code 177 = .ok (.goto (-23), 3) := by decide +kernel
theorem d_Mod_part2_180 : decode prog_9_method_42_code 180 = .ok (.iinc 8 1, 3) := by decide +kernel
theorem d_Mod_part2_183 : decode prog_9_method_42_code 183 = .ok (.goto (-78), 3) := by decide +kernel
theorem d_Mod_part2_186 : decode prog_9_method_42_code 186 = .ok (.aload_n 0, 1) := by decide +kernel
theorem d_Mod_part2_187 : decode prog_9_method_42_code 187 = .ok (.aload_n 0, 1) := by decide +kernel
theorem d_Mod_part2_188 : decode prog_9_method_42_code 188 = .ok (.getfield 40, 3) := by decide +kernel
theorem d_Mod_part2_191 : decode prog_9_method_42_code 191 = .ok (.iload_n 3, 1) := by decide +kernel
theorem d_Mod_part2_192 : decode prog_9_method_42_code 192 = .ok (.iaload, 1) := by decide +kernel
theorem d_Mod_part2_193 : decode prog_9_method_42_code 193 = .ok (.iconst 1, 1) := by decide +kernel
theorem d_Mod_part2_194 : decode prog_9_method_42_code 194 = .ok (.iadd, 1) := by decide +kernel
theorem d_Mod_part2_195 : decode prog_9_method_42_code 195 = .ok (.invokevirtual 153, 3) := by decide +kernel
theorem d_Mod_part2_198 : decode prog_9_method_42_code 198 = .ok (.aload_n 0, 1) := by decide +kernel
theorem d_Mod_part2_199 : decode prog_9_method_42_code 199 = .ok (.iload 4, 2) := by decide +kernel
theorem d_Mod_part2_201 : decode prog_9_method_42_code 201 = .ok (.invokevirtual 126, 3) := by decide +kernel
theorem d_Mod_part2_204 : decode prog_9_method_42_code 204 = .ok (.iconst 0, 1) := by decide +kernel
theorem d_Mod_part2_205 : decode prog_9_method_42_code 205 = .ok (.istore 8, 2) := by decide +kernel
theorem d_Mod_part2_207 : decode prog_9_method_42_code 207 = .ok (.iload 8, 2) := by decide +kernel
theorem d_Mod_part2_209 : decode prog_9_method_42_code 209 = .ok (.aload_n 0, 1) := by decide +kernel
theorem d_Mod_part2_210 : decode prog_9_method_42_code 210 = .ok (.getfield 40, 3) := by decide +kernel
theorem d_Mod_part2_213 : decode prog_9_method_42_code 213 = .ok (.iload_n 3, 1) := by decide +kernel
theorem d_Mod_part2_214 : decode prog_9_method_42_code 214 = .ok (.iaload, 1) := by decide +kernel
theorem d_Mod_part2_215 : decode prog_9_method_42_code 215 = .ok (.if_icmp .ge 27, 3) := by decide +kernel
theorem d_Mod_part2_218 : decode prog_9_method_42_code 218 = .ok (.aload_n 0, 1) := by decide +kernel
theorem d_Mod_part2_219 : decode prog_9_method_42_code 219 = .ok (.aload_n 0, 1) := by decide +kernel
theorem d_Mod_part2_220 : decode prog_9_method_42_code 220 = .ok (.iload 6, 2) := by decide +kernel
theorem d_Mod_part2_222 : decode prog_9_method_42_code 222 = .ok (.iload_n 3, 1) := by decide +kernel
theorem d_Mod_part2_223 : decode prog_9_method_42_code 223 = .ok (.iload 8, 2) := by decide +kernel
theorem d_Mod_part2_225 : decode prog_9_method_42_code 225 = .ok (.invokevirtual 119, 3) := by decide +kernel
theorem d_Mod_part2_228 : decode prog_9_method_42_code 228 = .ok (.iload 4, 2) := by decide +kernel
theorem d_Mod_part2_230 : decode prog_9_method_42_code 230 = .ok (.iload 5, 2) := by decide +kernel
theorem d_Mod_part2_232 : decode prog_9_method_42_code 232 = .ok (.iadd, 1) := by decide +kernel
theorem d_Mod_part2_233 : decode prog_9_method_42_code 233 = .ok (.invokevirtual 129, 3) := by decide +kernel
theorem d_Mod_part2_236 : decode prog_9_method_42_code 236 = .ok (.iinc 8 1, 3) := by decide +kernel
theorem d_Mod_part2_239 : decode prog_9_method_42_code 239 = .ok (.goto (-32), 3) := by decide +kernel
theorem d_Mod_part2_242 : decode prog_9_method_42_code 242 = .ok (.aload_n 0, 1) := by decide +kernel
theorem d_Mod_part2_243 : decode prog_9_method_42_code 243 = .ok (.iload 4, 2) := by decide +kernel
theorem d_Mod_part2_245 : decode prog_9_method_42_code 245 = .ok (.iload 5, 2) := by decide +kernel
theorem d_Mod_part2_247 : decode prog_9_method_42_code 247 = .ok (.iadd, 1) := by decide +kernel
theorem d_Mod_part2_248 : decode prog_9_method_42_code 248 = .ok (.invokevirtual 153, 3) := by decide +kernel
theorem d_Mod_part2_251 : decode prog_9_method_42_code 251 = .ok (.aload_n 0, 1) := by decide +kernel
theorem d_Mod_part2_252 : decode prog_9_method_42_code 252 = .ok (.iconst 1, 1) := by decide +kernel
theorem d_Mod_part2_253 : decode prog_9_method_42_code 253 = .ok (.iload_n 1, 1) := by decide +kernel
theorem d_Mod_part2_254 : decode prog_9_method_42_code 254 = .ok (.iconst 0, 1) := by decide +kernel
theorem d_Mod_part2_255 : decode prog_9_method_42_code 255 = .ok (.invokevirtual 63, 3) := by decide +kernel
theorem d_Mod_part2_258 : decode prog_9_method_42_code 258 = .ok (.pop, 1) := by decide +kernel
theorem d_Mod_part2_259 : decode prog_9_method_42_code 259 = .ok (.iconst 0, 1) := by decide +kernel
theorem d_Mod_part2_260 : decode prog_9_method_42_code 260 = .ok (.istore 8, 2) := by decide +kernel
theorem d_Mod_part2_262 : decode prog_9_method_42_code 262 = .ok (.iload 8, 2) := by decide +kernel
theorem d_Mod_part2_264 : decode prog_9_method_42_code 264 = .ok (.iload 4, 2) := by decide +kernel
theorem d_Mod_part2_266 : decode prog_9_method_42_code 266 = .ok (.if_icmp .ge 15, 3) := by decide +kernel
theorem d_Mod_part2_269 : decode prog_9_method_42_code 269 = .ok (.aload_n 0, 1) := by decide +kernel
theorem d_Mod_part2_270 : decode prog_9_method_42_code 270 = .ok (.iload 8, 2) := by decide +kernel
theorem d_Mod_part2_272 : decode prog_9_method_42_code 272 = .ok (.invokevirtual 126, 3) := by decide +kernel
theorem d_Mod_part2_275 : decode prog_9_method_42_code 275 = .ok (.iinc 8 1, 3) := by decide +kernel
theorem d_Mod_part2_278 : decode prog_9_method_42_code 278 = .ok (.goto (-16), 3) := by decide +kernel
theorem d_Mod_part2_281 : decode prog_9_method_42_code 281 = .ok (.iconst 0, 1) := by decide +kernel
theorem d_Mod_part2_282 : decode prog_9_method_42_code 282 = .ok (.istore 8, 2) := by decide +kernel
theorem d_Mod_part2_284 : decode prog_9_method_42_code 284 = .ok (.iload 8, 2) := by decide +kernel
theorem d_Mod_part2_286 : decode prog_9_method_42_code 286 = .ok (.iload 5, 2) := by decide +kernel
theorem d_Mod_part2_288 : decode prog_9_method_42_code 288 = .ok (.if_icmp .ge 17, 3) := by decide +kernel
theorem d_Mod_part2_291 : decode prog_9_method_42_code 291 = .ok (.aload_n 0, 1) := by decide +kernel
theorem d_Mod_part2_292 : decode prog_9_method_42_code 292 = .ok (.iload_n 2, 1) := by decide +kernel
theorem d_Mod_part2_293 : decode prog_9_method_42_code 293 = .ok (.iload 8, 2) := by decide +kernel
theorem d_Mod_part2_295 : decode prog_9_method_42_code 295 = .ok (.iadd, 1) := by decide +kernel
theorem d_Mod_part2_296 : decode prog_9_method_42_code 296 = .ok (.invokevirtual 126, 3) := by decide +kernel
theorem d_Mod_part2_299 : decode prog_9_method_42_code 299 = .ok (.iinc 8 1, 3) := by decide +kernel
theorem d_Mod_part2_302 : decode prog_9_method_42_code 302 = .ok (.goto (-18), 3) := by decide +kernel
theorem d_Mod_part2_305 : decode prog_9_method_42_code 305 = .ok (.return_, 1) := by decide +kernel
theorem d_Mod_size_0 : decode prog_9_method_43_code 0 = .ok (.aload_n 0, 1) := by decide +kernel
theorem d_Mod_size_1 : decode prog_9_method_43_code 1 = .ok (.iload_n 1, 1) := by decide +kernel
theorem d_Mod_size_2 : decode prog_9_method_43_code 2 = .ok (.invokevirtual 162, 3) := by decide +kernel
theorem d_Mod_size_5 : decode prog_9_method_43_code 5 = .ok (.ifCond .ne 5, 3) := by decide +kernel
theorem d_Mod_size_8 : decode prog_9_method_43_code 8 = .ok (.iconst (-1), 1) := by decide +kernel
theorem d_Mod_size_9 : decode prog_9_method_43_code 9 = .ok (.ireturn, 1) := by decide +kernel
theorem d_Mod_size_10 : decode prog_9_method_43_code 10 = .ok (.aload_n 0, 1) := by decide +kernel
theorem d_Mod_size_11 : decode prog_9_method_43_code 11 = .ok (.getfield 55, 3) := by decide +kernel
theorem d_Mod_size_14 : decode prog_9_method_43_code 14 = .ok (.istore_n 2, 1) := by decide +kernel
theorem d_Mod_size_15 : decode prog_9_method_43_code 15 = .ok (.aload_n 0, 1) := by decide +kernel
theorem d_Mod_size_16 : decode prog_9_method_43_code 16 = .ok (.iload_n 1, 1) := by decide +kernel
theorem d_Mod_size_17 : decode prog_9_method_43_code 17 = .ok (.iconst 0, 1) := by decide +kernel
theorem d_Mod_size_18 : decode prog_9_method_43_code 18 = .ok (.invokevirtual 165, 3) := by decide +kernel
theorem d_Mod_size_21 : decode prog_9_method_43_code 21 = .ok (.aload_n 0, 1) := by decide +kernel
theorem d_Mod_size_22 : decode prog_9_method_43_code 22 = .ok (.getfield 55, 3) := by decide +kernel
theorem d_Mod_size_25 : decode prog_9_method_43_code 25 = .ok (.iload_n 2, 1) := by decide +kernel
theorem d_Mod_size_26 : decode prog_9_method_43_code 26 = .ok (.isub, 1) := by decide +kernel
theorem d_Mod_size_27 : decode prog_9_method_43_code 27 = .ok (.istore_n 3, 1) := by decide +kernel
theorem d_Mod_size_28 : decode prog_9_method_43_code 28 = .ok (.aload_n 0, 1) := by decide +kernel
theorem d_Mod_size_29 : decode prog_9_method_43_code 29 = .ok (.iload_n 2, 1) := by decide +kernel
theorem d_Mod_size_30 : decode prog_9_method_43_code 30 = .ok (.putfield 55, 3) := by decide +kernel
theorem d_Mod_size_33 : decode prog_9_method_43_code 33 = .ok (.iload_n 3, 1) := by decide +kernel
theorem d_Mod_size_34 : decode prog_9_method_43_code 34 = .ok (.ireturn, 1) := by decide +kernel
theorem d_Mod_type_0 : decode prog_9_method_44_code 0 = .ok (.aload_n 0, 1) := by decide +kernel
theorem d_Mod_type_1 : decode prog_9_method_44_code 1 = .ok (.iload_n 1, 1) := by decide +kernel
theorem d_Mod_type_2 : decode prog_9_method_44_code 2 = .ok (.invokevirtual 162, 3) := by decide +kernel
theorem d_Mod_type_5 : decode prog_9_method_44_code 5 = .ok (.ifCond .eq 13, 3) := by decide +kernel
theorem d_Mod_type_8 : decode prog_9_method_44_code 8 = .ok (.iload_n 2, 1) := by decide +kernel
theorem d_Mod_type_9 : decode prog_9_method_44_code 9 = .ok (.ifCond .lt 9, 3) := by decide +kernel
theorem d_Mod_type_12 : decode prog_9_method_44_code 12 = .ok (.iload_n 2, 1) := by decide +kernel
theorem d_Mod_type_13 : decode prog_9_method_44_code 13 = .ok (.bipush 100, 2) := by decide +kernel
theorem d_Mod_type_15 : decode prog_9_method_44_code 15 = .ok (.if_icmp .le 5, 3) := by decide +kernel
theorem d_Mod_type_18 : decode prog_9_method_44_code 18 = .ok (.iconst (-1), 1) := by decide +kernel
theorem d_Mod_type_19 : decode prog_9_method_44_code 19 = .ok (.ireturn, 1) := by decide +kernel
theorem d_Mod_type_20 : decode prog_9_method_44_code 20 = .ok (.aload_n 0, 1) := by decide +kernel
theorem d_Mod_type_21 : decode prog_9_method_44_code 21 = .ok (.getfield 55, 3) := by decide +kernel
theorem d_Mod_type_24 : decode prog_9_method_44_code 24 = .ok (.istore_n 3, 1) := by decide +kernel
theorem d_Mod_type_25 : decode prog_9_method_44_code 25 = .ok (.aload_n 0, 1) := by decide +kernel
theorem d_Mod_type_26 : decode prog_9_method_44_code 26 = .ok (.iload_n 1, 1) := by decide +kernel
theorem d_Mod_type_27 : decode prog_9_method_44_code 27 = .ok (.iload_n 2, 1) := by decide +kernel
theorem d_Mod_type_28 : decode prog_9_method_44_code 28 = .ok (.invokevirtual 165, 3) := by decide +kernel
theorem d_Mod_type_31 : decode prog_9_method_44_code 31 = .ok (.aload_n 0, 1) := by decide +kernel
theorem d_Mod_type_32 : decode prog_9_method_44_code 32 = .ok (.iload_n 3, 1) := by decide +kernel
theorem d_Mod_type_33 : decode prog_9_method_44_code 33 = .ok (.invokevirtual 147, 3) := by decide +kernel
theorem d_Mod_type_36 : decode prog_9_method_44_code 36 = .ok (.aload_n 0, 1) := by decide +kernel
theorem d_Mod_type_37 : decode prog_9_method_44_code 37 = .ok (.iload_n 3, 1) := by decide +kernel
theorem d_Mod_type_38 : decode prog_9_method_44_code 38 = .ok (.invokevirtual 84, 3) := by decide +kernel
theorem d_Mod_type_41 : decode prog_9_method_44_code 41 = .ok (.ireturn, 1) := by decide +kernel
theorem d_Global_init_0 : decode prog_2_method_1_code 0 = .ok (.aload_n 0, 1) := by decide +kernel
theorem d_Global_init_1 : decode prog_2_method_1_code 1 = .ok (.invokespecial 3, 3) := by decide +kernel
theorem d_Global_init_4 : decode prog_2_method_1_code 4 = .ok (.aload_n 0, 1) := by decide +kernel
theorem d_Global_init_5 : decode prog_2_method_1_code 5 = .ok (.iconst (-1), 1) := by decide +kernel
theorem d_Global_init_6 : decode prog_2_method_1_code 6 = .ok (.putfield 9, 3) := by decide +kernel
theorem d_Global_init_9 : decode prog_2_method_1_code 9 = .ok (.aload_n 0, 1) := by decide +kernel
theorem d_Global_init_10 : decode prog_2_method_1_code 10 = .ok (.iload_n 1, 1) := by decide +kernel
theorem d_Global_init_11 : decode prog_2_method_1_code 11 = .ok (.putfield 15, 3) := by decide +kernel
theorem d_Global_init_14 : decode prog_2_method_1_code 14 = .ok (.aload_n 0, 1) := by decide +kernel
theorem d_Global_init_15 : decode prog_2_method_1_code 15 = .ok (.iload_n 2, 1) := by decide +kernel
theorem d_Global_init_16 : decode prog_2_method_1_code 16 = .ok (.putfield 18, 3) := by decide +kernel
theorem d_Global_init_19 : decode prog_2_method_1_code 19 = .ok (.aload_n 0, 1) := by decide +kernel
theorem d_Global_init_20 : decode prog_2_method_1_code 20 = .ok (.iload_n 3, 1) := by decide +kernel
theorem d_Global_init_21 : decode prog_2_method_1_code 21 = .ok (.putfield 21, 3) := by decide +kernel
theorem d_Global_init_24 : decode prog_2_method_1_code 24 = .ok (.aload_n 0, 1) := by decide +kernel
theorem d_Global_init_25 : decode prog_2_method_1_code 25 = .ok (.iload 4, 2) := by decide +kernel
theorem d_Global_init_27 : decode prog_2_method_1_code 27 = .ok (.putfield 24, 3) := by decide +kernel
theorem d_Global_init_30 : decode prog_2_method_1_code 30 = .ok (.aload_n 0, 1) := by decide +kernel
theorem d_Global_init_31 : decode prog_2_method_1_code 31 = .ok (.iload 5, 2) := by decide +kernel
theorem d_Global_init_33 : decode prog_2_method_1_code 33 = .ok (.putfield 27, 3) := by decide +kernel
theorem d_Global_init_36 : decode prog_2_method_1_code 36 = .ok (.return_, 1) := by decide +kernel
theorem d_Global_constructorAt_0 : decode prog_2_method_2_code 0 = .ok (.aload_n 0, 1) := by decide +kernel
theorem d_Global_constructorAt_1 : decode prog_2_method_2_code 1 = .ok (.getfield 30, 3) := by decide +kernel
theorem d_Global_constructorAt_4 : decode prog_2_method_2_code 4 = .ok (.ifnull 25, 3) := by decide +kernel
theorem d_Global_constructorAt_7 : decode prog_2_method_2_code 7 = .ok (.iload_n 1, 1) := by decide +kernel
theorem d_Global_constructorAt_8 : decode prog_2_method_2_code 8 = .ok (.ifCond .lt 21, 3) := by decide +kernel
theorem d_Global_constructorAt_11 : decode prog_2_method_2_code 11 = .ok (.iload_n 1, 1) := by decide +kernel
theorem d_Global_constructorAt_12 : decode prog_2_method_2_code 12 = .ok (.aload_n 0, 1) := by decide +kernel
theorem d_Global_constructorAt_13 : decode prog_2_method_2_code 13 = .ok (.getfield 30, 3) := by decide +kernel
theorem d_Global_constructorAt_16 : decode prog_2_method_2_code 16 = .ok (.arraylength, 1) := by decide +kernel
theorem d_Global_constructorAt_17 : decode prog_2_method_2_code 17 = .ok (.if_icmp .ge 12, 3) := by decide +kernel
theorem d_Global_constructorAt_20 : decode prog_2_method_2_code 20 = .ok (.aload_n 0, 1) := by decide +kernel
theorem d_Global_constructorAt_21 : decode prog_2_method_2_code 21 = .ok (.getfield 30, 3) := by decide +kernel
theorem d_Global_constructorAt_24 : decode prog_2_method_2_code 24 = .ok (.iload_n 1, 1) := by decide +kernel
theorem d_Global_constructorAt_25 : decode prog_2_method_2_code 25 = .ok (.aaload, 1) := by decide +kernel
theorem d_Global_constructorAt_26 : decode prog_2_method_2_code 26 = .ok (.goto 4, 3) := by decide +kernel
theorem d_Global_constructorAt_29 : decode prog_2_method_2_code 29 = .ok (.aconst_null, 1) := by decide +kernel
theorem d_Global_constructorAt_30 : decode prog_2_method_2_code 30 = .ok (.areturn, 1) := by decide +kernel
theorem d_Global_isWholeTold_0 : decode prog_2_method_3_code 0 = .ok (.iconst 0, 1) := by decide +kernel
theorem d_Global_isWholeTold_1 : decode prog_2_method_3_code 1 = .ok (.istore_n 1, 1) := by decide +kernel
theorem d_Global_isWholeTold_2 : decode prog_2_method_3_code 2 = .ok (.iload_n 1, 1) := by decide +kernel
theorem d_Global_isWholeTold_3 : decode prog_2_method_3_code 3 = .ok (.aload_n 0, 1) := by decide +kernel
theorem d_Global_isWholeTold_4 : decode prog_2_method_3_code 4 = .ok (.getfield 27, 3) := by decide +kernel
theorem d_Global_isWholeTold_7 : decode prog_2_method_3_code 7 = .ok (.if_icmp .ge 28, 3) := by decide +kernel
theorem d_Global_isWholeTold_10 : decode prog_2_method_3_code 10 = .ok (.aload_n 0, 1) := by decide +kernel
theorem d_Global_isWholeTold_11 : decode prog_2_method_3_code 11 = .ok (.iload_n 1, 1) := by decide +kernel
theorem d_Global_isWholeTold_12 : decode prog_2_method_3_code 12 = .ok (.invokevirtual 34, 3) := by decide +kernel
theorem d_Global_isWholeTold_15 : decode prog_2_method_3_code 15 = .ok (.astore_n 2, 1) := by decide +kernel
theorem d_Global_isWholeTold_16 : decode prog_2_method_3_code 16 = .ok (.aload_n 2, 1) := by decide +kernel
theorem d_Global_isWholeTold_17 : decode prog_2_method_3_code 17 = .ok (.ifnull 10, 3) := by decide +kernel
theorem d_Global_isWholeTold_20 : decode prog_2_method_3_code 20 = .ok (.aload_n 2, 1) := by decide +kernel
theorem d_Global_isWholeTold_21 : decode prog_2_method_3_code 21 = .ok (.getfield 38, 3) := by decide +kernel
theorem d_Global_isWholeTold_24 : decode prog_2_method_3_code 24 = .ok (.ifnonnull 5, 3) := by decide +kernel
theorem d_Global_isWholeTold_27 : decode prog_2_method_3_code 27 = .ok (.iconst 0, 1) := by decide +kernel
theorem d_Global_isWholeTold_28 : decode prog_2_method_3_code 28 = .ok (.ireturn, 1) := by decide +kernel
theorem d_Global_isWholeTold_29 : decode prog_2_method_3_code 29 = .ok (.iinc 1 1, 3) := by decide +kernel
theorem d_Global_isWholeTold_32 : decode prog_2_method_3_code 32 = .ok (.goto (-30), 3) := by decide +kernel
theorem d_Global_isWholeTold_35 : decode prog_2_method_3_code 35 = .ok (.iconst 1, 1) := by decide +kernel
theorem d_Global_isWholeTold_36 : decode prog_2_method_3_code 36 = .ok (.ireturn, 1) := by decide +kernel
theorem d_Maker_init_0 : decode prog_3_method_1_code 0 = .ok (.aload_n 0, 1) := by decide +kernel
theorem d_Maker_init_1 : decode prog_3_method_1_code 1 = .ok (.invokespecial 3, 3) := by decide +kernel
theorem d_Maker_init_4 : decode prog_3_method_1_code 4 = .ok (.aload_n 0, 1) := by decide +kernel
theorem d_Maker_init_5 : decode prog_3_method_1_code 5 = .ok (.aload_n 1, 1) := by decide +kernel
theorem d_Maker_init_6 : decode prog_3_method_1_code 6 = .ok (.putfield 9, 3) := by decide +kernel
theorem d_Maker_init_9 : decode prog_3_method_1_code 9 = .ok (.return_, 1) := by decide +kernel
theorem d_Maker_begin_0 : decode prog_3_method_2_code 0 = .ok (.aload_n 0, 1) := by decide +kernel
theorem d_Maker_begin_1 : decode prog_3_method_2_code 1 = .ok (.aload_n 1, 1) := by decide +kernel
theorem d_Maker_begin_2 : decode prog_3_method_2_code 2 = .ok (.putfield 15, 3) := by decide +kernel
theorem d_Maker_begin_5 : decode prog_3_method_2_code 5 = .ok (.aload_n 0, 1) := by decide +kernel
theorem d_Maker_begin_6 : decode prog_3_method_2_code 6 = .ok (.iconst 0, 1) := by decide +kernel
theorem d_Maker_begin_7 : decode prog_3_method_2_code 7 = .ok (.putfield 19, 3) := by decide +kernel
theorem d_Maker_begin_10 : decode prog_3_method_2_code 10 = .ok (.return_, 1) := by decide +kernel
theorem d_Maker_writeBrings_0 : decode prog_3_method_3_code 0 = .ok (.aload_n 1, 1) := by decide +kernel
theorem d_Maker_writeBrings_1 : decode prog_3_method_3_code 1 = .ok (.getfield 23, 3) := by decide +kernel
theorem d_Maker_writeBrings_4 : decode prog_3_method_3_code 4 = .ok (.astore_n 3, 1) := by decide +kernel
theorem d_Maker_writeBrings_5 : decode prog_3_method_3_code 5 = .ok (.aload_n 0, 1) := by decide +kernel
theorem d_Maker_writeBrings_6 : decode prog_3_method_3_code 6 = .ok (.aload_n 1, 1) := by decide +kernel
theorem d_Maker_writeBrings_7 : decode prog_3_method_3_code 7 = .ok (.invokevirtual 29, 3) := by decide +kernel
theorem d_Maker_writeBrings_10 : decode prog_3_method_3_code 10 = .ok (.ifCond .eq 7, 3) := by decide +kernel
theorem d_Maker_writeBrings_13 : decode prog_3_method_3_code 13 = .ok (.aload_n 3, 1) := by decide +kernel
theorem d_Maker_writeBrings_14 : decode prog_3_method_3_code 14 = .ok (.ifnonnull 4, 3) := by decide +kernel
theorem d_Maker_writeBrings_17 : decode prog_3_method_3_code 17 = .ok (.return_, 1) := by decide +kernel
theorem d_Maker_writeBrings_18 : decode prog_3_method_3_code 18 = .ok (.aload_n 0, 1) := by decide +kernel
theorem d_Maker_writeBrings_19 : decode prog_3_method_3_code 19 = .ok (.getfield 33, 3) := by decide +kernel
theorem d_Maker_writeBrings_22 : decode prog_3_method_3_code 22 = .ok (.aload_n 0, 1) := by decide +kernel
theorem d_Maker_writeBrings_23 : decode prog_3_method_3_code 23 = .ok (.getfield 36, 3) := by decide +kernel
theorem d_Maker_writeBrings_26 : decode prog_3_method_3_code 26 = .ok (.invokevirtual 39, 3) := by decide +kernel
theorem d_Maker_writeBrings_29 : decode prog_3_method_3_code 29 = .ok (.istore 4, 2) := by decide +kernel
theorem d_Maker_writeBrings_31 : decode prog_3_method_3_code 31 = .ok (.iconst 0, 1) := by decide +kernel
theorem d_Maker_writeBrings_32 : decode prog_3_method_3_code 32 = .ok (.istore 5, 2) := by decide +kernel
theorem d_Maker_writeBrings_34 : decode prog_3_method_3_code 34 = .ok (.iconst 0, 1) := by decide +kernel
theorem d_Maker_writeBrings_35 : decode prog_3_method_3_code 35 = .ok (.istore 6, 2) := by decide +kernel
theorem d_Maker_writeBrings_37 : decode prog_3_method_3_code 37 = .ok (.iload 6, 2) := by decide +kernel
theorem d_Maker_writeBrings_39 : decode prog_3_method_3_code 39 = .ok (.aload_n 1, 1) := by decide +kernel
theorem d_Maker_writeBrings_40 : decode prog_3_method_3_code 40 = .ok (.getfield 45, 3) := by decide +kernel
theorem d_Maker_writeBrings_43 : decode prog_3_method_3_code 43 = .ok (.if_icmp .ge 96, 3) := by decide +kernel
theorem d_Maker_writeBrings_46 : decode prog_3_method_3_code 46 = .ok (.aload_n 0, 1) := by decide +kernel
theorem d_Maker_writeBrings_47 : decode prog_3_method_3_code 47 = .ok (.getfield 9, 3) := by decide +kernel
theorem d_Maker_writeBrings_50 : decode prog_3_method_3_code 50 = .ok (.aload_n 0, 1) := by decide +kernel
theorem d_Maker_writeBrings_51 : decode prog_3_method_3_code 51 = .ok (.getfield 33, 3) := by decide +kernel
theorem d_Maker_writeBrings_54 : decode prog_3_method_3_code 54 = .ok (.iload 4, 2) := by decide +kernel
theorem d_Maker_writeBrings_56 : decode prog_3_method_3_code 56 = .ok (.iconst 1, 1) := by decide +kernel
theorem d_Maker_writeBrings_57 : decode prog_3_method_3_code 57 = .ok (.iadd, 1) := by decide +kernel
theorem d_Maker_writeBrings_58 : decode prog_3_method_3_code 58 = .ok (.invokevirtual 48, 3) := by decide +kernel
theorem d_Maker_writeBrings_61 : decode prog_3_method_3_code 61 = .ok (.aload_n 0, 1) := by decide +kernel
theorem d_Maker_writeBrings_62 : decode prog_3_method_3_code 62 = .ok (.getfield 9, 3) := by decide +kernel
theorem d_Maker_writeBrings_65 : decode prog_3_method_3_code 65 = .ok (.aload_n 3, 1) := by decide +kernel
theorem d_Maker_writeBrings_66 : decode prog_3_method_3_code 66 = .ok (.aload_n 0, 1) := by decide +kernel
theorem d_Maker_writeBrings_67 : decode prog_3_method_3_code 67 = .ok (.getfield 36, 3) := by decide +kernel
theorem d_Maker_writeBrings_70 : decode prog_3_method_3_code 70 = .ok (.iload 6, 2) := by decide +kernel
theorem d_Maker_writeBrings_72 : decode prog_3_method_3_code 72 = .ok (.iadd, 1) := by decide +kernel
theorem d_Maker_writeBrings_73 : decode prog_3_method_3_code 73 = .ok (.invokevirtual 54, 3) := by decide +kernel
theorem d_Maker_writeBrings_76 : decode prog_3_method_3_code 76 = .ok (.ifCond .eq 46, 3) := by decide +kernel
theorem d_Maker_writeBrings_79 : decode prog_3_method_3_code 79 = .ok (.iload 5, 2) := by decide +kernel
theorem d_Maker_writeBrings_81 : decode prog_3_method_3_code 81 = .ok (.iload_n 2, 1) := by decide +kernel
theorem d_Maker_writeBrings_82 : decode prog_3_method_3_code 82 = .ok (.if_icmp .ne 37, 3) := by decide +kernel
theorem d_Maker_writeBrings_85 : decode prog_3_method_3_code 85 = .ok (.aload_n 0, 1) := by decide +kernel
theorem d_Maker_writeBrings_86 : decode prog_3_method_3_code 86 = .ok (.aload_n 0, 1) := by decide +kernel
theorem d_Maker_writeBrings_87 : decode prog_3_method_3_code 87 = .ok (.getfield 36, 3) := by decide +kernel
theorem d_Maker_writeBrings_90 : decode prog_3_method_3_code 90 = .ok (.iload 6, 2) := by decide +kernel
theorem d_Maker_writeBrings_92 : decode prog_3_method_3_code 92 = .ok (.iadd, 1) := by decide +kernel
theorem d_Maker_writeBrings_93 : decode prog_3_method_3_code 93 = .ok (.iconst 1, 1) := by decide +kernel
theorem d_Maker_writeBrings_94 : decode prog_3_method_3_code 94 = .ok (.iconst 1, 1) := by decide +kernel
theorem d_Maker_writeBrings_95 : decode prog_3_method_3_code 95 = .ok (.invokevirtual 58, 3) := by decide +kernel
theorem d_Maker_writeBrings_98 : decode prog_3_method_3_code 98 = .ok (.aload_n 0, 1) := by decide +kernel
theorem d_Maker_writeBrings_99 : decode prog_3_method_3_code 99 = .ok (.aload_n 3, 1) := by decide +kernel
theorem d_Maker_writeBrings_100 : decode prog_3_method_3_code 100 = .ok (.iconst 5, 1) := by decide +kernel
theorem d_Maker_writeBrings_101 : decode prog_3_method_3_code 101 = .ok (.iload 4, 2) := by decide +kernel
theorem d_Maker_writeBrings_103 : decode prog_3_method_3_code 103 = .ok (.iconst 1, 1) := by decide +kernel
theorem d_Maker_writeBrings_104 : decode prog_3_method_3_code 104 = .ok (.iadd, 1) := by decide +kernel
theorem d_Maker_writeBrings_105 : decode prog_3_method_3_code 105 = .ok (.aload_n 0, 1) := by decide +kernel
theorem d_Maker_writeBrings_106 : decode prog_3_method_3_code 106 = .ok (.getfield 36, 3) := by decide +kernel
theorem d_Maker_writeBrings_109 : decode prog_3_method_3_code 109 = .ok (.iload 6, 2) := by decide +kernel
theorem d_Maker_writeBrings_111 : decode prog_3_method_3_code 111 = .ok (.iadd, 1) := by decide +kernel
theorem d_Maker_writeBrings_112 : decode prog_3_method_3_code 112 = .ok (.iconst 1, 1) := by decide +kernel
theorem d_Maker_writeBrings_113 : decode prog_3_method_3_code 113 = .ok (.iadd, 1) := by decide +kernel
theorem d_Maker_writeBrings_114 : decode prog_3_method_3_code 114 = .ok (.iconst 0, 1) := by decide +kernel
theorem d_Maker_writeBrings_115 : decode prog_3_method_3_code 115 = .ok (.invokevirtual 62, 3) := by decide +kernel
theorem d_Maker_writeBrings_118 : decode prog_3_method_3_code 118 = .ok (.return_, 1) := by decide +kernel
theorem d_Maker_writeBrings_119 : decode prog_3_method_3_code 119 = .ok (.iinc 5 1, 3) := by decide +kernel
theorem d_Maker_writeBrings_122 : decode prog_3_method_3_code 122 = .ok (.aload_n 0, 1) := by decide +kernel
theorem d_Maker_writeBrings_123 : decode prog_3_method_3_code 123 = .ok (.getfield 33, 3) := by decide +kernel
theorem d_Maker_writeBrings_126 : decode prog_3_method_3_code 126 = .ok (.iload 4, 2) := by decide +kernel
theorem d_Maker_writeBrings_128 : decode prog_3_method_3_code 128 = .ok (.invokevirtual 66, 3) := by decide +kernel
theorem d_Maker_writeBrings_131 : decode prog_3_method_3_code 131 = .ok (.istore 4, 2) := by decide +kernel
theorem d_Maker_writeBrings_133 : decode prog_3_method_3_code 133 = .ok (.iinc 6 1, 3) := by decide +kernel
theorem d_Maker_writeBrings_136 : decode prog_3_method_3_code 136 = .ok (.goto (-99), 3) := by decide +kernel
theorem d_Maker_writeBrings_139 : decode prog_3_method_3_code 139 = .ok (.return_, 1) := by decide +kernel
theorem d_Maker_writeRecType_0 : decode prog_3_method_4_code 0 = .ok (.aload_n 0, 1) := by decide +kernel
theorem d_Maker_writeRecType_1 : decode prog_3_method_4_code 1 = .ok (.aload_n 1, 1) := by decide +kernel
theorem d_Maker_writeRecType_2 : decode prog_3_method_4_code 2 = .ok (.invokevirtual 29, 3) := by decide +kernel
theorem d_Maker_writeRecType_5 : decode prog_3_method_4_code 5 = .ok (.ifCond .ne 4, 3) := by decide +kernel
theorem d_Maker_writeRecType_8 : decode prog_3_method_4_code 8 = .ok (.return_, 1) := by decide +kernel
theorem d_Maker_writeRecType_9 : decode prog_3_method_4_code 9 = .ok (.aload_n 1, 1) := by decide +kernel
theorem d_Maker_writeRecType_10 : decode prog_3_method_4_code 10 = .ok (.getfield 69, 3) := by decide +kernel
theorem d_Maker_writeRecType_13 : decode prog_3_method_4_code 13 = .ok (.istore_n 3, 1) := by decide +kernel
theorem d_Maker_writeRecType_14 : decode prog_3_method_4_code 14 = .ok (.aload_n 1, 1) := by decide +kernel
theorem d_Maker_writeRecType_15 : decode prog_3_method_4_code 15 = .ok (.getfield 72, 3) := by decide +kernel
theorem d_Maker_writeRecType_18 : decode prog_3_method_4_code 18 = .ok (.istore 4, 2) := by decide +kernel
theorem d_Maker_writeRecType_20 : decode prog_3_method_4_code 20 = .ok (.aload_n 0, 1) := by decide +kernel
theorem d_Maker_writeRecType_21 : decode prog_3_method_4_code 21 = .ok (.getfield 33, 3) := by decide +kernel
theorem d_Maker_writeRecType_24 : decode prog_3_method_4_code 24 = .ok (.aload_n 0, 1) := by decide +kernel
theorem d_Maker_writeRecType_25 : decode prog_3_method_4_code 25 = .ok (.getfield 36, 3) := by decide +kernel
theorem d_Maker_writeRecType_28 : decode prog_3_method_4_code 28 = .ok (.invokevirtual 39, 3) := by decide +kernel
theorem d_Maker_writeRecType_31 : decode prog_3_method_4_code 31 = .ok (.istore 5, 2) := by decide +kernel
theorem d_Maker_writeRecType_33 : decode prog_3_method_4_code 33 = .ok (.aload_n 0, 1) := by decide +kernel
theorem d_Maker_writeRecType_34 : decode prog_3_method_4_code 34 = .ok (.iconst 0, 1) := by decide +kernel
theorem d_Maker_writeRecType_35 : decode prog_3_method_4_code 35 = .ok (.aload_n 0, 1) := by decide +kernel
theorem d_Maker_writeRecType_36 : decode prog_3_method_4_code 36 = .ok (.getfield 36, 3) := by decide +kernel
theorem d_Maker_writeRecType_39 : decode prog_3_method_4_code 39 = .ok (.iconst 0, 1) := by decide +kernel
theorem d_Maker_writeRecType_40 : decode prog_3_method_4_code 40 = .ok (.invokevirtual 75, 3) := by decide +kernel
theorem d_Maker_writeRecType_43 : decode prog_3_method_4_code 43 = .ok (.aload_n 0, 1) := by decide +kernel
theorem d_Maker_writeRecType_44 : decode prog_3_method_4_code 44 = .ok (.bipush 6, 2) := by decide +kernel
theorem d_Maker_writeRecType_46 : decode prog_3_method_4_code 46 = .ok (.bipush 98, 2) := by decide +kernel
theorem d_Maker_writeRecType_48 : decode prog_3_method_4_code 48 = .ok (.iconst 0, 1) := by decide +kernel
theorem d_Maker_writeRecType_49 : decode prog_3_method_4_code 49 = .ok (.invokevirtual 78, 3) := by decide +kernel
theorem d_Maker_writeRecType_52 : decode prog_3_method_4_code 52 = .ok (.aload_n 0, 1) := by decide +kernel
theorem d_Maker_writeRecType_53 : decode prog_3_method_4_code 53 = .ok (.iload 5, 2) := by decide +kernel
theorem d_Maker_writeRecType_55 : decode prog_3_method_4_code 55 = .ok (.iload_n 3, 1) := by decide +kernel
theorem d_Maker_writeRecType_56 : decode prog_3_method_4_code 56 = .ok (.iconst 0, 1) := by decide +kernel
theorem d_Maker_writeRecType_57 : decode prog_3_method_4_code 57 = .ok (.invokevirtual 75, 3) := by decide +kernel
theorem d_Maker_writeRecType_60 : decode prog_3_method_4_code 60 = .ok (.aload_n 0, 1) := by decide +kernel
theorem d_Maker_writeRecType_61 : decode prog_3_method_4_code 61 = .ok (.bipush 6, 2) := by decide +kernel
theorem d_Maker_writeRecType_63 : decode prog_3_method_4_code 63 = .ok (.iconst (-1), 1) := by decide +kernel
theorem d_Maker_writeRecType_64 : decode prog_3_method_4_code 64 = .ok (.iconst 0, 1) := by decide +kernel
theorem d_Maker_writeRecType_65 : decode prog_3_method_4_code 65 = .ok (.invokevirtual 78, 3) := by decide +kernel
theorem d_Maker_writeRecType_68 : decode prog_3_method_4_code 68 = .ok (.aload_n 0, 1) := by decide +kernel
theorem d_Maker_writeRecType_69 : decode prog_3_method_4_code 69 = .ok (.aload_n 1, 1) := by decide +kernel
theorem d_Maker_writeRecType_70 : decode prog_3_method_4_code 70 = .ok (.iload_n 3, 1) := by decide +kernel
theorem d_Maker_writeRecType_71 : decode prog_3_method_4_code 71 = .ok (.iconst 0, 1) := by decide +kernel
theorem d_Maker_writeRecType_72 : decode prog_3_method_4_code 72 = .ok (.iconst 0, 1) := by decide +kernel
theorem d_Maker_writeRecType_73 : decode prog_3_method_4_code 73 = .ok (.invokevirtual 81, 3) := by decide +kernel
theorem d_Maker_writeRecType_76 : decode prog_3_method_4_code 76 = .ok (.aload_n 0, 1) := by decide +kernel
theorem d_Maker_writeRecType_77 : decode prog_3_method_4_code 77 = .ok (.iconst 2, 1) := by decide +kernel
theorem d_Maker_writeRecType_78 : decode prog_3_method_4_code 78 = .ok (.iload_n 2, 1) := by decide +kernel
theorem d_Maker_writeRecType_79 : decode prog_3_method_4_code 79 = .ok (.iconst 0, 1) := by decide +kernel
theorem d_Maker_writeRecType_80 : decode prog_3_method_4_code 80 = .ok (.invokevirtual 78, 3) := by decide +kernel
theorem d_Maker_writeRecType_83 : decode prog_3_method_4_code 83 = .ok (.iconst 0, 1) := by decide +kernel
theorem d_Maker_writeRecType_84 : decode prog_3_method_4_code 84 = .ok (.istore 6, 2) := by decide +kernel
theorem d_Maker_writeRecType_86 : decode prog_3_method_4_code 86 = .ok (.iload 6, 2) := by decide +kernel
theorem d_Maker_writeRecType_88 : decode prog_3_method_4_code 88 = .ok (.iload 4, 2) := by decide +kernel
theorem d_Maker_writeRecType_90 : decode prog_3_method_4_code 90 = .ok (.if_icmp .ge 28, 3) := by decide +kernel
theorem d_Maker_writeRecType_93 : decode prog_3_method_4_code 93 = .ok (.aload_n 0, 1) := by decide +kernel
theorem d_Maker_writeRecType_94 : decode prog_3_method_4_code 94 = .ok (.bipush 6, 2) := by decide +kernel
theorem d_Maker_writeRecType_96 : decode prog_3_method_4_code 96 = .ok (.iconst (-1), 1) := by decide +kernel
theorem d_Maker_writeRecType_97 : decode prog_3_method_4_code 97 = .ok (.iconst 0, 1) := by decide +kernel
theorem d_Maker_writeRecType_98 : decode prog_3_method_4_code 98 = .ok (.invokevirtual 78, 3) := by decide +kernel
theorem d_Maker_writeRecType_101 : decode prog_3_method_4_code 101 = .ok (.aload_n 0, 1) := by decide +kernel
theorem d_Maker_writeRecType_102 : decode prog_3_method_4_code 102 = .ok (.aload_n 1, 1) := by decide +kernel
theorem d_Maker_writeRecType_103 : decode prog_3_method_4_code 103 = .ok (.aload_n 1, 1) := by decide +kernel
theorem d_Maker_writeRecType_104 : decode prog_3_method_4_code 104 = .ok (.iload 6, 2) := by decide +kernel
theorem d_Maker_writeRecType_106 : decode prog_3_method_4_code 106 = .ok (.invokevirtual 85, 3) := by decide +kernel
theorem d_Maker_writeRecType_109 : decode prog_3_method_4_code 109 = .ok (.invokevirtual 89, 3) := by decide +kernel
theorem d_Maker_writeRecType_112 : decode prog_3_method_4_code 112 = .ok (.iinc 6 1, 3) := by decide +kernel
theorem d_Maker_writeRecType_115 : decode prog_3_method_4_code 115 = .ok (.goto (-29), 3) := by decide +kernel
theorem d_Maker_writeRecType_118 : decode prog_3_method_4_code 118 = .ok (.aload_n 0, 1) := by decide +kernel
theorem d_Maker_writeRecType_119 : decode prog_3_method_4_code 119 = .ok (.aload_n 1, 1) := by decide +kernel
theorem d_Maker_writeRecType_120 : decode prog_3_method_4_code 120 = .ok (.invokevirtual 29, 3) := by decide +kernel
theorem d_Maker_writeRecType_123 : decode prog_3_method_4_code 123 = .ok (.pop, 1) := by decide +kernel
theorem d_Maker_writeRecType_124 : decode prog_3_method_4_code 124 = .ok (.aload_n 0, 1) := by decide +kernel
theorem d_Maker_writeRecType_125 : decode prog_3_method_4_code 125 = .ok (.iload 5, 2) := by decide +kernel
theorem d_Maker_writeRecType_127 : decode prog_3_method_4_code 127 = .ok (.iload_n 3, 1) := by decide +kernel
theorem d_Maker_writeRecType_128 : decode prog_3_method_4_code 128 = .ok (.iconst 1, 1) := by decide +kernel
theorem d_Maker_writeRecType_129 : decode prog_3_method_4_code 129 = .ok (.iload 4, 2) := by decide +kernel
theorem d_Maker_writeRecType_131 : decode prog_3_method_4_code 131 = .ok (.iadd, 1) := by decide +kernel
theorem d_Maker_writeRecType_132 : decode prog_3_method_4_code 132 = .ok (.invokevirtual 75, 3) := by decide +kernel
theorem d_Maker_writeRecType_135 : decode prog_3_method_4_code 135 = .ok (.aload_n 0, 1) := by decide +kernel
theorem d_Maker_writeRecType_136 : decode prog_3_method_4_code 136 = .ok (.bipush 6, 2) := by decide +kernel
theorem d_Maker_writeRecType_138 : decode prog_3_method_4_code 138 = .ok (.bipush 99, 2) := by decide +kernel
theorem d_Maker_writeRecType_140 : decode prog_3_method_4_code 140 = .ok (.iconst 0, 1) := by decide +kernel
theorem d_Maker_writeRecType_141 : decode prog_3_method_4_code 141 = .ok (.invokevirtual 78, 3) := by decide +kernel
theorem d_Maker_writeRecType_144 : decode prog_3_method_4_code 144 = .ok (.aload_n 0, 1) := by decide +kernel
theorem d_Maker_writeRecType_145 : decode prog_3_method_4_code 145 = .ok (.aload_n 1, 1) := by decide +kernel
theorem d_Maker_writeRecType_146 : decode prog_3_method_4_code 146 = .ok (.iload_n 3, 1) := by decide +kernel
theorem d_Maker_writeRecType_147 : decode prog_3_method_4_code 147 = .ok (.iconst 1, 1) := by decide +kernel
theorem d_Maker_writeRecType_148 : decode prog_3_method_4_code 148 = .ok (.iload 4, 2) := by decide +kernel
theorem d_Maker_writeRecType_150 : decode prog_3_method_4_code 150 = .ok (.iadd, 1) := by decide +kernel
theorem d_Maker_writeRecType_151 : decode prog_3_method_4_code 151 = .ok (.iconst 0, 1) := by decide +kernel
theorem d_Maker_writeRecType_152 : decode prog_3_method_4_code 152 = .ok (.invokevirtual 81, 3) := by decide +kernel
theorem d_Maker_writeRecType_155 : decode prog_3_method_4_code 155 = .ok (.aload_n 0, 1) := by decide +kernel
theorem d_Maker_writeRecType_156 : decode prog_3_method_4_code 156 = .ok (.iload_n 3, 1) := by decide +kernel
theorem d_Maker_writeRecType_157 : decode prog_3_method_4_code 157 = .ok (.iconst 1, 1) := by decide +kernel
theorem d_Maker_writeRecType_158 : decode prog_3_method_4_code 158 = .ok (.iadd, 1) := by decide +kernel
theorem d_Maker_writeRecType_159 : decode prog_3_method_4_code 159 = .ok (.invokevirtual 93, 3) := by decide +kernel
theorem d_Maker_writeRecType_162 : decode prog_3_method_4_code 162 = .ok (.aload_n 0, 1) := by decide +kernel
theorem d_Maker_writeRecType_163 : decode prog_3_method_4_code 163 = .ok (.iconst 0, 1) := by decide +kernel
theorem d_Maker_writeRecType_164 : decode prog_3_method_4_code 164 = .ok (.iload 4, 2) := by decide +kernel
theorem d_Maker_writeRecType_166 : decode prog_3_method_4_code 166 = .ok (.iload_n 3, 1) := by decide +kernel
theorem d_Maker_writeRecType_167 : decode prog_3_method_4_code 167 = .ok (.iadd, 1) := by decide +kernel
theorem d_Maker_writeRecType_168 : decode prog_3_method_4_code 168 = .ok (.iconst 1, 1) := by decide +kernel
theorem d_Maker_writeRecType_169 : decode prog_3_method_4_code 169 = .ok (.iadd, 1) := by decide +kernel
theorem d_Maker_writeRecType_170 : decode prog_3_method_4_code 170 = .ok (.iconst 0, 1) := by decide +kernel
theorem d_Maker_writeRecType_171 : decode prog_3_method_4_code 171 = .ok (.invokevirtual 78, 3) := by decide +kernel
theorem d_Maker_writeRecType_174 : decode prog_3_method_4_code 174 = .ok (.aload_n 0, 1) := by decide +kernel
theorem d_Maker_writeRecType_175 : decode prog_3_method_4_code 175 = .ok (.iload_n 3, 1) := by decide +kernel
theorem d_Maker_writeRecType_176 : decode prog_3_method_4_code 176 = .ok (.iload_n 3, 1) := by decide +kernel
theorem d_Maker_writeRecType_177 : decode prog_3_method_4_code 177 = .ok (.invokevirtual 97, 3) := by decide +kernel
theorem d_Maker_writeRecType_180 : decode prog_3_method_4_code 180 = .ok (.aload_n 0, 1) := by decide +kernel
theorem d_Maker_writeRecType_181 : decode prog_3_method_4_code 181 = .ok (.iconst 0, 1) := by decide +kernel
theorem d_Maker_writeRecType_182 : decode prog_3_method_4_code 182 = .ok (.iconst 0, 1) := by decide +kernel
theorem d_Maker_writeRecType_183 : decode prog_3_method_4_code 183 = .ok (.iconst 0, 1) := by decide +kernel
theorem d_Maker_writeRecType_184 : decode prog_3_method_4_code 184 = .ok (.invokevirtual 78, 3) := by decide +kernel
theorem d_Maker_writeRecType_187 : decode prog_3_method_4_code 187 = .ok (.return_, 1) := by decide +kernel
theorem d_Maker_writeCase_0 : decode prog_3_method_5_code 0 = .ok (.aload_n 2, 1) := by decide +kernel
theorem d_Maker_writeCase_1 : decode prog_3_method_5_code 1 = .ok (.ifnull 11, 3) := by decide +kernel
theorem d_Maker_writeCase_4 : decode prog_3_method_5_code 4 = .ok (.aload_n 0, 1) := by decide +kernel
theorem d_Maker_writeCase_5 : decode prog_3_method_5_code 5 = .ok (.aload_n 2, 1) := by decide +kernel
theorem d_Maker_writeCase_6 : decode prog_3_method_5_code 6 = .ok (.invokevirtual 29, 3) := by decide +kernel
theorem d_Maker_writeCase_9 : decode prog_3_method_5_code 9 = .ok (.ifCond .ne 4, 3) := by decide +kernel
theorem d_Maker_writeCase_12 : decode prog_3_method_5_code 12 = .ok (.return_, 1) := by decide +kernel
theorem d_Maker_writeCase_13 : decode prog_3_method_5_code 13 = .ok (.aload_n 2, 1) := by decide +kernel
theorem d_Maker_writeCase_14 : decode prog_3_method_5_code 14 = .ok (.getfield 72, 3) := by decide +kernel
theorem d_Maker_writeCase_17 : decode prog_3_method_5_code 17 = .ok (.istore_n 3, 1) := by decide +kernel
theorem d_Maker_writeCase_18 : decode prog_3_method_5_code 18 = .ok (.aload_n 2, 1) := by decide +kernel
theorem d_Maker_writeCase_19 : decode prog_3_method_5_code 19 = .ok (.getfield 45, 3) := by decide +kernel
theorem d_Maker_writeCase_22 : decode prog_3_method_5_code 22 = .ok (.istore 4, 2) := by decide +kernel
theorem d_Maker_writeCase_24 : decode prog_3_method_5_code 24 = .ok (.aload_n 0, 1) := by decide +kernel
theorem d_Maker_writeCase_25 : decode prog_3_method_5_code 25 = .ok (.getfield 33, 3) := by decide +kernel
theorem d_Maker_writeCase_28 : decode prog_3_method_5_code 28 = .ok (.aload_n 0, 1) := by decide +kernel
theorem d_Maker_writeCase_29 : decode prog_3_method_5_code 29 = .ok (.getfield 36, 3) := by decide +kernel
theorem d_Maker_writeCase_32 : decode prog_3_method_5_code 32 = .ok (.invokevirtual 39, 3) := by decide +kernel
theorem d_Maker_writeCase_35 : decode prog_3_method_5_code 35 = .ok (.istore 5, 2) := by decide +kernel
theorem d_Maker_writeCase_37 : decode prog_3_method_5_code 37 = .ok (.aload_n 0, 1) := by decide +kernel
theorem d_Maker_writeCase_38 : decode prog_3_method_5_code 38 = .ok (.iload 5, 2) := by decide +kernel
theorem d_Maker_writeCase_40 : decode prog_3_method_5_code 40 = .ok (.iload 4, 2) := by decide +kernel
theorem d_Maker_writeCase_42 : decode prog_3_method_5_code 42 = .ok (.iconst 1, 1) := by decide +kernel
theorem d_Maker_writeCase_43 : decode prog_3_method_5_code 43 = .ok (.iload_n 3, 1) := by decide +kernel
theorem d_Maker_writeCase_44 : decode prog_3_method_5_code 44 = .ok (.iadd, 1) := by decide +kernel
theorem d_Maker_writeCase_45 : decode prog_3_method_5_code 45 = .ok (.invokevirtual 75, 3) := by decide +kernel
theorem d_Maker_writeCase_48 : decode prog_3_method_5_code 48 = .ok (.iconst 0, 1) := by decide +kernel
theorem d_Maker_writeCase_49 : decode prog_3_method_5_code 49 = .ok (.istore 6, 2) := by decide +kernel
theorem d_Maker_writeCase_51 : decode prog_3_method_5_code 51 = .ok (.iconst 0, 1) := by decide +kernel
theorem d_Maker_writeCase_52 : decode prog_3_method_5_code 52 = .ok (.istore 7, 2) := by decide +kernel
theorem d_Maker_writeCase_54 : decode prog_3_method_5_code 54 = .ok (.iload 7, 2) := by decide +kernel
theorem d_Maker_writeCase_56 : decode prog_3_method_5_code 56 = .ok (.iload 4, 2) := by decide +kernel
theorem d_Maker_writeCase_58 : decode prog_3_method_5_code 58 = .ok (.if_icmp .ge 115, 3) := by decide +kernel
theorem d_Maker_writeCase_61 : decode prog_3_method_5_code 61 = .ok (.aload_n 0, 1) := by decide +kernel
theorem d_Maker_writeCase_62 : decode prog_3_method_5_code 62 = .ok (.getfield 9, 3) := by decide +kernel
theorem d_Maker_writeCase_65 : decode prog_3_method_5_code 65 = .ok (.aload_n 0, 1) := by decide +kernel
theorem d_Maker_writeCase_66 : decode prog_3_method_5_code 66 = .ok (.getfield 33, 3) := by decide +kernel
theorem d_Maker_writeCase_69 : decode prog_3_method_5_code 69 = .ok (.iload 5, 2) := by decide +kernel
theorem d_Maker_writeCase_71 : decode prog_3_method_5_code 71 = .ok (.iconst 1, 1) := by decide +kernel
theorem d_Maker_writeCase_72 : decode prog_3_method_5_code 72 = .ok (.iadd, 1) := by decide +kernel
theorem d_Maker_writeCase_73 : decode prog_3_method_5_code 73 = .ok (.invokevirtual 48, 3) := by decide +kernel
theorem d_Maker_writeCase_76 : decode prog_3_method_5_code 76 = .ok (.aload_n 0, 1) := by decide +kernel
theorem d_Maker_writeCase_77 : decode prog_3_method_5_code 77 = .ok (.getfield 9, 3) := by decide +kernel
theorem d_Maker_writeCase_80 : decode prog_3_method_5_code 80 = .ok (.aload_n 1, 1) := by decide +kernel
theorem d_Maker_writeCase_81 : decode prog_3_method_5_code 81 = .ok (.aload_n 0, 1) := by decide +kernel
theorem d_Maker_writeCase_82 : decode prog_3_method_5_code 82 = .ok (.getfield 36, 3) := by decide +kernel
theorem d_Maker_writeCase_85 : decode prog_3_method_5_code 85 = .ok (.iload 7, 2) := by decide +kernel
theorem d_Maker_writeCase_87 : decode prog_3_method_5_code 87 = .ok (.iadd, 1) := by decide +kernel
theorem d_Maker_writeCase_88 : decode prog_3_method_5_code 88 = .ok (.invokevirtual 54, 3) := by decide +kernel
theorem d_Maker_writeCase_91 : decode prog_3_method_5_code 91 = .ok (.ifCond .eq 65, 3) := by decide +kernel
theorem d_Maker_writeCase_94 : decode prog_3_method_5_code 94 = .ok (.iload 4, 2) := by decide +kernel
theorem d_Maker_writeCase_96 : decode prog_3_method_5_code 96 = .ok (.iload 7, 2) := by decide +kernel
theorem d_Maker_writeCase_98 : decode prog_3_method_5_code 98 = .ok (.isub, 1) := by decide +kernel
theorem d_Maker_writeCase_99 : decode prog_3_method_5_code 99 = .ok (.iload 6, 2) := by decide +kernel
theorem d_Maker_writeCase_101 : decode prog_3_method_5_code 101 = .ok (.iadd, 1) := by decide +kernel
theorem d_Maker_writeCase_102 : decode prog_3_method_5_code 102 = .ok (.istore 8, 2) := by decide +kernel
theorem d_Maker_writeCase_104 : decode prog_3_method_5_code 104 = .ok (.aload_n 0, 1) := by decide +kernel
theorem d_Maker_writeCase_105 : decode prog_3_method_5_code 105 = .ok (.aload_n 0, 1) := by decide +kernel
theorem d_Maker_writeCase_106 : decode prog_3_method_5_code 106 = .ok (.getfield 36, 3) := by decide +kernel
theorem d_Maker_writeCase_109 : decode prog_3_method_5_code 109 = .ok (.iload 7, 2) := by decide +kernel
theorem d_Maker_writeCase_111 : decode prog_3_method_5_code 111 = .ok (.iadd, 1) := by decide +kernel
theorem d_Maker_writeCase_112 : decode prog_3_method_5_code 112 = .ok (.iload 8, 2) := by decide +kernel
theorem d_Maker_writeCase_114 : decode prog_3_method_5_code 114 = .ok (.iload 8, 2) := by decide +kernel
theorem d_Maker_writeCase_116 : decode prog_3_method_5_code 116 = .ok (.iconst 1, 1) := by decide +kernel
theorem d_Maker_writeCase_117 : decode prog_3_method_5_code 117 = .ok (.iadd, 1) := by decide +kernel
theorem d_Maker_writeCase_118 : decode prog_3_method_5_code 118 = .ok (.iload_n 3, 1) := by decide +kernel
theorem d_Maker_writeCase_119 : decode prog_3_method_5_code 119 = .ok (.iadd, 1) := by decide +kernel
theorem d_Maker_writeCase_120 : decode prog_3_method_5_code 120 = .ok (.invokevirtual 58, 3) := by decide +kernel
theorem d_Maker_writeCase_123 : decode prog_3_method_5_code 123 = .ok (.aload_n 0, 1) := by decide +kernel
theorem d_Maker_writeCase_124 : decode prog_3_method_5_code 124 = .ok (.bipush 6, 2) := by decide +kernel
theorem d_Maker_writeCase_126 : decode prog_3_method_5_code 126 = .ok (.iconst (-1), 1) := by decide +kernel
theorem d_Maker_writeCase_127 : decode prog_3_method_5_code 127 = .ok (.iconst 0, 1) := by decide +kernel
theorem d_Maker_writeCase_128 : decode prog_3_method_5_code 128 = .ok (.invokevirtual 78, 3) := by decide +kernel
theorem d_Maker_writeCase_131 : decode prog_3_method_5_code 131 = .ok (.aload_n 0, 1) := by decide +kernel
theorem d_Maker_writeCase_132 : decode prog_3_method_5_code 132 = .ok (.aload_n 1, 1) := by decide +kernel
theorem d_Maker_writeCase_133 : decode prog_3_method_5_code 133 = .ok (.bipush 6, 2) := by decide +kernel
theorem d_Maker_writeCase_135 : decode prog_3_method_5_code 135 = .ok (.iload 5, 2) := by decide +kernel
theorem d_Maker_writeCase_137 : decode prog_3_method_5_code 137 = .ok (.iconst 1, 1) := by decide +kernel
theorem d_Maker_writeCase_138 : decode prog_3_method_5_code 138 = .ok (.iadd, 1) := by decide +kernel
theorem d_Maker_writeCase_139 : decode prog_3_method_5_code 139 = .ok (.iload_n 3, 1) := by decide +kernel
theorem d_Maker_writeCase_140 : decode prog_3_method_5_code 140 = .ok (.iload 4, 2) := by decide +kernel
theorem d_Maker_writeCase_142 : decode prog_3_method_5_code 142 = .ok (.iadd, 1) := by decide +kernel
theorem d_Maker_writeCase_143 : decode prog_3_method_5_code 143 = .ok (.iload 6, 2) := by decide +kernel
theorem d_Maker_writeCase_145 : decode prog_3_method_5_code 145 = .ok (.iadd, 1) := by decide +kernel
theorem d_Maker_writeCase_146 : decode prog_3_method_5_code 146 = .ok (.iload 8, 2) := by decide +kernel
theorem d_Maker_writeCase_148 : decode prog_3_method_5_code 148 = .ok (.iconst 1, 1) := by decide +kernel
end
section
/-! decode rows -/
theorem d_Maker_writeCase_149 : decode prog_3_method_5_code 149 = .ok (.isub, 1) := by decide +kernel
theorem d_Maker_writeCase_150 : decode prog_3_method_5_code 150 = .ok (.invokevirtual 62, 3) := by decide +kernel
theorem d_Maker_writeCase_153 : decode prog_3_method_5_code 153 = .ok (.iinc 6 1, 3) := by decide +kernel
theorem d_Maker_writeCase_156 : decode prog_3_method_5_code 156 = .ok (.aload_n 0, 1) := by decide +kernel
theorem d_Maker_writeCase_157 : decode prog_3_method_5_code 157 = .ok (.getfield 33, 3) := by decide +kernel
theorem d_Maker_writeCase_160 : decode prog_3_method_5_code 160 = .ok (.iload 5, 2) := by decide +kernel
theorem d_Maker_writeCase_162 : decode prog_3_method_5_code 162 = .ok (.invokevirtual 66, 3) := by decide +kernel
theorem d_Maker_writeCase_165 : decode prog_3_method_5_code 165 = .ok (.istore 5, 2) := by decide +kernel
theorem d_Maker_writeCase_167 : decode prog_3_method_5_code 167 = .ok (.iinc 7 1, 3) := by decide +kernel
theorem d_Maker_writeCase_170 : decode prog_3_method_5_code 170 = .ok (.goto (-116), 3) := by decide +kernel
theorem d_Maker_writeCase_173 : decode prog_3_method_5_code 173 = .ok (.aload_n 0, 1) := by decide +kernel
theorem d_Maker_writeCase_174 : decode prog_3_method_5_code 174 = .ok (.getfield 9, 3) := by decide +kernel
theorem d_Maker_writeCase_177 : decode prog_3_method_5_code 177 = .ok (.aload_n 0, 1) := by decide +kernel
theorem d_Maker_writeCase_178 : decode prog_3_method_5_code 178 = .ok (.getfield 33, 3) := by decide +kernel
theorem d_Maker_writeCase_181 : decode prog_3_method_5_code 181 = .ok (.iconst 0, 1) := by decide +kernel
theorem d_Maker_writeCase_182 : decode prog_3_method_5_code 182 = .ok (.invokevirtual 48, 3) := by decide +kernel
theorem d_Maker_writeCase_185 : decode prog_3_method_5_code 185 = .ok (.aload_n 0, 1) := by decide +kernel
theorem d_Maker_writeCase_186 : decode prog_3_method_5_code 186 = .ok (.aload_n 0, 1) := by decide +kernel
theorem d_Maker_writeCase_187 : decode prog_3_method_5_code 187 = .ok (.getfield 36, 3) := by decide +kernel
theorem d_Maker_writeCase_190 : decode prog_3_method_5_code 190 = .ok (.iload 4, 2) := by decide +kernel
theorem d_Maker_writeCase_192 : decode prog_3_method_5_code 192 = .ok (.iadd, 1) := by decide +kernel
theorem d_Maker_writeCase_193 : decode prog_3_method_5_code 193 = .ok (.iload 6, 2) := by decide +kernel
theorem d_Maker_writeCase_195 : decode prog_3_method_5_code 195 = .ok (.iload 6, 2) := by decide +kernel
theorem d_Maker_writeCase_197 : decode prog_3_method_5_code 197 = .ok (.iconst 1, 1) := by decide +kernel
theorem d_Maker_writeCase_198 : decode prog_3_method_5_code 198 = .ok (.iadd, 1) := by decide +kernel
theorem d_Maker_writeCase_199 : decode prog_3_method_5_code 199 = .ok (.iload_n 3, 1) := by decide +kernel
theorem d_Maker_writeCase_200 : decode prog_3_method_5_code 200 = .ok (.iadd, 1) := by decide +kernel
theorem d_Maker_writeCase_201 : decode prog_3_method_5_code 201 = .ok (.invokevirtual 58, 3) := by decide +kernel
theorem d_Maker_writeCase_204 : decode prog_3_method_5_code 204 = .ok (.aload_n 0, 1) := by decide +kernel
theorem d_Maker_writeCase_205 : decode prog_3_method_5_code 205 = .ok (.aload_n 1, 1) := by decide +kernel
theorem d_Maker_writeCase_206 : decode prog_3_method_5_code 206 = .ok (.getfield 69, 3) := by decide +kernel
theorem d_Maker_writeCase_209 : decode prog_3_method_5_code 209 = .ok (.iconst 1, 1) := by decide +kernel
theorem d_Maker_writeCase_210 : decode prog_3_method_5_code 210 = .ok (.iadd, 1) := by decide +kernel
theorem d_Maker_writeCase_211 : decode prog_3_method_5_code 211 = .ok (.invokevirtual 93, 3) := by decide +kernel
theorem d_Maker_writeCase_214 : decode prog_3_method_5_code 214 = .ok (.aload_n 0, 1) := by decide +kernel
theorem d_Maker_writeCase_215 : decode prog_3_method_5_code 215 = .ok (.iconst 0, 1) := by decide +kernel
theorem d_Maker_writeCase_216 : decode prog_3_method_5_code 216 = .ok (.iload_n 3, 1) := by decide +kernel
theorem d_Maker_writeCase_217 : decode prog_3_method_5_code 217 = .ok (.iload 4, 2) := by decide +kernel
theorem d_Maker_writeCase_219 : decode prog_3_method_5_code 219 = .ok (.iadd, 1) := by decide +kernel
theorem d_Maker_writeCase_220 : decode prog_3_method_5_code 220 = .ok (.iload 6, 2) := by decide +kernel
theorem d_Maker_writeCase_222 : decode prog_3_method_5_code 222 = .ok (.iadd, 1) := by decide +kernel
theorem d_Maker_writeCase_223 : decode prog_3_method_5_code 223 = .ok (.iconst 0, 1) := by decide +kernel
theorem d_Maker_writeCase_224 : decode prog_3_method_5_code 224 = .ok (.invokevirtual 78, 3) := by decide +kernel
theorem d_Maker_writeCase_227 : decode prog_3_method_5_code 227 = .ok (.aload_n 0, 1) := by decide +kernel
theorem d_Maker_writeCase_228 : decode prog_3_method_5_code 228 = .ok (.aload_n 0, 1) := by decide +kernel
theorem d_Maker_writeCase_229 : decode prog_3_method_5_code 229 = .ok (.getfield 9, 3) := by decide +kernel
theorem d_Maker_writeCase_232 : decode prog_3_method_5_code 232 = .ok (.aload_n 1, 1) := by decide +kernel
theorem d_Maker_writeCase_233 : decode prog_3_method_5_code 233 = .ok (.invokevirtual 101, 3) := by decide +kernel
theorem d_Maker_writeCase_236 : decode prog_3_method_5_code 236 = .ok (.aload_n 0, 1) := by decide +kernel
theorem d_Maker_writeCase_237 : decode prog_3_method_5_code 237 = .ok (.getfield 9, 3) := by decide +kernel
theorem d_Maker_writeCase_240 : decode prog_3_method_5_code 240 = .ok (.invokevirtual 105, 3) := by decide +kernel
theorem d_Maker_writeCase_243 : decode prog_3_method_5_code 243 = .ok (.invokevirtual 109, 3) := by decide +kernel
theorem d_Maker_writeCase_246 : decode prog_3_method_5_code 246 = .ok (.aload_n 0, 1) := by decide +kernel
theorem d_Maker_writeCase_247 : decode prog_3_method_5_code 247 = .ok (.aload_n 2, 1) := by decide +kernel
theorem d_Maker_writeCase_248 : decode prog_3_method_5_code 248 = .ok (.iload 4, 2) := by decide +kernel
theorem d_Maker_writeCase_250 : decode prog_3_method_5_code 250 = .ok (.iconst 1, 1) := by decide +kernel
theorem d_Maker_writeCase_251 : decode prog_3_method_5_code 251 = .ok (.iload_n 3, 1) := by decide +kernel
theorem d_Maker_writeCase_252 : decode prog_3_method_5_code 252 = .ok (.iadd, 1) := by decide +kernel
theorem d_Maker_writeCase_253 : decode prog_3_method_5_code 253 = .ok (.iload 6, 2) := by decide +kernel
theorem d_Maker_writeCase_255 : decode prog_3_method_5_code 255 = .ok (.invokevirtual 81, 3) := by decide +kernel
theorem d_Maker_writeCase_258 : decode prog_3_method_5_code 258 = .ok (.return_, 1) := by decide +kernel
theorem d_Maker_writeBrought_0 : decode prog_3_method_6_code 0 = .ok (.aload_n 0, 1) := by decide +kernel
theorem d_Maker_writeBrought_1 : decode prog_3_method_6_code 1 = .ok (.getfield 9, 3) := by decide +kernel
theorem d_Maker_writeBrought_4 : decode prog_3_method_6_code 4 = .ok (.getfield 112, 3) := by decide +kernel
theorem d_Maker_writeBrought_7 : decode prog_3_method_6_code 7 = .ok (.istore 6, 2) := by decide +kernel
theorem d_Maker_writeBrought_9 : decode prog_3_method_6_code 9 = .ok (.iload_n 3, 1) := by decide +kernel
theorem d_Maker_writeBrought_10 : decode prog_3_method_6_code 10 = .ok (.istore 7, 2) := by decide +kernel
theorem d_Maker_writeBrought_12 : decode prog_3_method_6_code 12 = .ok (.iconst 0, 1) := by decide +kernel
theorem d_Maker_writeBrought_13 : decode prog_3_method_6_code 13 = .ok (.istore 8, 2) := by decide +kernel
theorem d_Maker_writeBrought_15 : decode prog_3_method_6_code 15 = .ok (.iload 8, 2) := by decide +kernel
theorem d_Maker_writeBrought_17 : decode prog_3_method_6_code 17 = .ok (.iload 6, 2) := by decide +kernel
theorem d_Maker_writeBrought_19 : decode prog_3_method_6_code 19 = .ok (.if_icmp .ge 49, 3) := by decide +kernel
theorem d_Maker_writeBrought_22 : decode prog_3_method_6_code 22 = .ok (.aload_n 0, 1) := by decide +kernel
theorem d_Maker_writeBrought_23 : decode prog_3_method_6_code 23 = .ok (.iload_n 2, 1) := by decide +kernel
theorem d_Maker_writeBrought_24 : decode prog_3_method_6_code 24 = .ok (.aload_n 0, 1) := by decide +kernel
theorem d_Maker_writeBrought_25 : decode prog_3_method_6_code 25 = .ok (.getfield 33, 3) := by decide +kernel
theorem d_Maker_writeBrought_28 : decode prog_3_method_6_code 28 = .ok (.iload 7, 2) := by decide +kernel
theorem d_Maker_writeBrought_30 : decode prog_3_method_6_code 30 = .ok (.invokevirtual 115, 3) := by decide +kernel
theorem d_Maker_writeBrought_33 : decode prog_3_method_6_code 33 = .ok (.iconst 0, 1) := by decide +kernel
theorem d_Maker_writeBrought_34 : decode prog_3_method_6_code 34 = .ok (.invokevirtual 78, 3) := by decide +kernel
theorem d_Maker_writeBrought_37 : decode prog_3_method_6_code 37 = .ok (.aload_n 0, 1) := by decide +kernel
theorem d_Maker_writeBrought_38 : decode prog_3_method_6_code 38 = .ok (.getfield 33, 3) := by decide +kernel
theorem d_Maker_writeBrought_41 : decode prog_3_method_6_code 41 = .ok (.iload 7, 2) := by decide +kernel
theorem d_Maker_writeBrought_43 : decode prog_3_method_6_code 43 = .ok (.invokevirtual 66, 3) := by decide +kernel
theorem d_Maker_writeBrought_46 : decode prog_3_method_6_code 46 = .ok (.istore 9, 2) := by decide +kernel
theorem d_Maker_writeBrought_48 : decode prog_3_method_6_code 48 = .ok (.aload_n 0, 1) := by decide +kernel
theorem d_Maker_writeBrought_49 : decode prog_3_method_6_code 49 = .ok (.iload 7, 2) := by decide +kernel
theorem d_Maker_writeBrought_51 : decode prog_3_method_6_code 51 = .ok (.iconst 1, 1) := by decide +kernel
theorem d_Maker_writeBrought_52 : decode prog_3_method_6_code 52 = .ok (.iadd, 1) := by decide +kernel
theorem d_Maker_writeBrought_53 : decode prog_3_method_6_code 53 = .ok (.iload 9, 2) := by decide +kernel
theorem d_Maker_writeBrought_55 : decode prog_3_method_6_code 55 = .ok (.invokevirtual 109, 3) := by decide +kernel
theorem d_Maker_writeBrought_58 : decode prog_3_method_6_code 58 = .ok (.iload 9, 2) := by decide +kernel
theorem d_Maker_writeBrought_60 : decode prog_3_method_6_code 60 = .ok (.istore 7, 2) := by decide +kernel
theorem d_Maker_writeBrought_62 : decode prog_3_method_6_code 62 = .ok (.iinc 8 1, 3) := by decide +kernel
theorem d_Maker_writeBrought_65 : decode prog_3_method_6_code 65 = .ok (.goto (-50), 3) := by decide +kernel
theorem d_Maker_writeBrought_68 : decode prog_3_method_6_code 68 = .ok (.aload_n 0, 1) := by decide +kernel
theorem d_Maker_writeBrought_69 : decode prog_3_method_6_code 69 = .ok (.aload_n 1, 1) := by decide +kernel
theorem d_Maker_writeBrought_70 : decode prog_3_method_6_code 70 = .ok (.getfield 69, 3) := by decide +kernel
theorem d_Maker_writeBrought_73 : decode prog_3_method_6_code 73 = .ok (.iconst 1, 1) := by decide +kernel
theorem d_Maker_writeBrought_74 : decode prog_3_method_6_code 74 = .ok (.iadd, 1) := by decide +kernel
theorem d_Maker_writeBrought_75 : decode prog_3_method_6_code 75 = .ok (.invokevirtual 93, 3) := by decide +kernel
theorem d_Maker_writeBrought_78 : decode prog_3_method_6_code 78 = .ok (.aload_n 0, 1) := by decide +kernel
theorem d_Maker_writeBrought_79 : decode prog_3_method_6_code 79 = .ok (.iconst 0, 1) := by decide +kernel
theorem d_Maker_writeBrought_80 : decode prog_3_method_6_code 80 = .ok (.iload 4, 2) := by decide +kernel
theorem d_Maker_writeBrought_82 : decode prog_3_method_6_code 82 = .ok (.iload 6, 2) := by decide +kernel
theorem d_Maker_writeBrought_84 : decode prog_3_method_6_code 84 = .ok (.iadd, 1) := by decide +kernel
theorem d_Maker_writeBrought_85 : decode prog_3_method_6_code 85 = .ok (.iconst 0, 1) := by decide +kernel
theorem d_Maker_writeBrought_86 : decode prog_3_method_6_code 86 = .ok (.invokevirtual 78, 3) := by decide +kernel
theorem d_Maker_writeBrought_89 : decode prog_3_method_6_code 89 = .ok (.aload_n 0, 1) := by decide +kernel
theorem d_Maker_writeBrought_90 : decode prog_3_method_6_code 90 = .ok (.aload_n 0, 1) := by decide +kernel
theorem d_Maker_writeBrought_91 : decode prog_3_method_6_code 91 = .ok (.getfield 9, 3) := by decide +kernel
theorem d_Maker_writeBrought_94 : decode prog_3_method_6_code 94 = .ok (.aload_n 1, 1) := by decide +kernel
theorem d_Maker_writeBrought_95 : decode prog_3_method_6_code 95 = .ok (.invokevirtual 101, 3) := by decide +kernel
theorem d_Maker_writeBrought_98 : decode prog_3_method_6_code 98 = .ok (.aload_n 0, 1) := by decide +kernel
theorem d_Maker_writeBrought_99 : decode prog_3_method_6_code 99 = .ok (.getfield 9, 3) := by decide +kernel
theorem d_Maker_writeBrought_102 : decode prog_3_method_6_code 102 = .ok (.invokevirtual 105, 3) := by decide +kernel
theorem d_Maker_writeBrought_105 : decode prog_3_method_6_code 105 = .ok (.invokevirtual 109, 3) := by decide +kernel
theorem d_Maker_writeBrought_108 : decode prog_3_method_6_code 108 = .ok (.aload_n 0, 1) := by decide +kernel
theorem d_Maker_writeBrought_109 : decode prog_3_method_6_code 109 = .ok (.iload 6, 2) := by decide +kernel
theorem d_Maker_writeBrought_111 : decode prog_3_method_6_code 111 = .ok (.invokevirtual 93, 3) := by decide +kernel
theorem d_Maker_writeBrought_114 : decode prog_3_method_6_code 114 = .ok (.aload_n 0, 1) := by decide +kernel
theorem d_Maker_writeBrought_115 : decode prog_3_method_6_code 115 = .ok (.iconst 0, 1) := by decide +kernel
theorem d_Maker_writeBrought_116 : decode prog_3_method_6_code 116 = .ok (.iload 5, 2) := by decide +kernel
theorem d_Maker_writeBrought_118 : decode prog_3_method_6_code 118 = .ok (.iload 6, 2) := by decide +kernel
theorem d_Maker_writeBrought_120 : decode prog_3_method_6_code 120 = .ok (.iadd, 1) := by decide +kernel
theorem d_Maker_writeBrought_121 : decode prog_3_method_6_code 121 = .ok (.iconst 0, 1) := by decide +kernel
theorem d_Maker_writeBrought_122 : decode prog_3_method_6_code 122 = .ok (.invokevirtual 78, 3) := by decide +kernel
theorem d_Maker_writeBrought_125 : decode prog_3_method_6_code 125 = .ok (.aload_n 0, 1) := by decide +kernel
theorem d_Maker_writeBrought_126 : decode prog_3_method_6_code 126 = .ok (.iload 6, 2) := by decide +kernel
theorem d_Maker_writeBrought_128 : decode prog_3_method_6_code 128 = .ok (.iconst 1, 1) := by decide +kernel
theorem d_Maker_writeBrought_129 : decode prog_3_method_6_code 129 = .ok (.isub, 1) := by decide +kernel
theorem d_Maker_writeBrought_130 : decode prog_3_method_6_code 130 = .ok (.iload 6, 2) := by decide +kernel
theorem d_Maker_writeBrought_132 : decode prog_3_method_6_code 132 = .ok (.invokevirtual 97, 3) := by decide +kernel
theorem d_Maker_writeBrought_135 : decode prog_3_method_6_code 135 = .ok (.return_, 1) := by decide +kernel
theorem d_Maker_writeAlls_0 : decode prog_3_method_7_code 0 = .ok (.iload_n 1, 1) := by decide +kernel
theorem d_Maker_writeAlls_1 : decode prog_3_method_7_code 1 = .ok (.istore 4, 2) := by decide +kernel
theorem d_Maker_writeAlls_3 : decode prog_3_method_7_code 3 = .ok (.iconst 0, 1) := by decide +kernel
theorem d_Maker_writeAlls_4 : decode prog_3_method_7_code 4 = .ok (.istore 5, 2) := by decide +kernel
theorem d_Maker_writeAlls_6 : decode prog_3_method_7_code 6 = .ok (.iload 5, 2) := by decide +kernel
theorem d_Maker_writeAlls_8 : decode prog_3_method_7_code 8 = .ok (.iload_n 2, 1) := by decide +kernel
theorem d_Maker_writeAlls_9 : decode prog_3_method_7_code 9 = .ok (.if_icmp .ge 63, 3) := by decide +kernel
theorem d_Maker_writeAlls_12 : decode prog_3_method_7_code 12 = .ok (.aload_n 0, 1) := by decide +kernel
theorem d_Maker_writeAlls_13 : decode prog_3_method_7_code 13 = .ok (.bipush 6, 2) := by decide +kernel
theorem d_Maker_writeAlls_15 : decode prog_3_method_7_code 15 = .ok (.aload_n 0, 1) := by decide +kernel
theorem d_Maker_writeAlls_16 : decode prog_3_method_7_code 16 = .ok (.getfield 33, 3) := by decide +kernel
theorem d_Maker_writeAlls_19 : decode prog_3_method_7_code 19 = .ok (.iload 4, 2) := by decide +kernel
theorem d_Maker_writeAlls_21 : decode prog_3_method_7_code 21 = .ok (.invokevirtual 115, 3) := by decide +kernel
theorem d_Maker_writeAlls_24 : decode prog_3_method_7_code 24 = .ok (.iconst 0, 1) := by decide +kernel
theorem d_Maker_writeAlls_25 : decode prog_3_method_7_code 25 = .ok (.invokevirtual 78, 3) := by decide +kernel
theorem d_Maker_writeAlls_28 : decode prog_3_method_7_code 28 = .ok (.aload_n 0, 1) := by decide +kernel
theorem d_Maker_writeAlls_29 : decode prog_3_method_7_code 29 = .ok (.getfield 33, 3) := by decide +kernel
theorem d_Maker_writeAlls_32 : decode prog_3_method_7_code 32 = .ok (.iload 4, 2) := by decide +kernel
theorem d_Maker_writeAlls_34 : decode prog_3_method_7_code 34 = .ok (.invokevirtual 66, 3) := by decide +kernel
theorem d_Maker_writeAlls_37 : decode prog_3_method_7_code 37 = .ok (.istore 6, 2) := by decide +kernel
theorem d_Maker_writeAlls_39 : decode prog_3_method_7_code 39 = .ok (.aload_n 0, 1) := by decide +kernel
theorem d_Maker_writeAlls_40 : decode prog_3_method_7_code 40 = .ok (.aload_n 0, 1) := by decide +kernel
theorem d_Maker_writeAlls_41 : decode prog_3_method_7_code 41 = .ok (.getfield 36, 3) := by decide +kernel
theorem d_Maker_writeAlls_44 : decode prog_3_method_7_code 44 = .ok (.iload 5, 2) := by decide +kernel
theorem d_Maker_writeAlls_46 : decode prog_3_method_7_code 46 = .ok (.iadd, 1) := by decide +kernel
theorem d_Maker_writeAlls_47 : decode prog_3_method_7_code 47 = .ok (.iconst 0, 1) := by decide +kernel
theorem d_Maker_writeAlls_48 : decode prog_3_method_7_code 48 = .ok (.iload_n 3, 1) := by decide +kernel
theorem d_Maker_writeAlls_49 : decode prog_3_method_7_code 49 = .ok (.invokevirtual 58, 3) := by decide +kernel
theorem d_Maker_writeAlls_52 : decode prog_3_method_7_code 52 = .ok (.aload_n 0, 1) := by decide +kernel
theorem d_Maker_writeAlls_53 : decode prog_3_method_7_code 53 = .ok (.iload 4, 2) := by decide +kernel
theorem d_Maker_writeAlls_55 : decode prog_3_method_7_code 55 = .ok (.iconst 1, 1) := by decide +kernel
theorem d_Maker_writeAlls_56 : decode prog_3_method_7_code 56 = .ok (.iadd, 1) := by decide +kernel
theorem d_Maker_writeAlls_57 : decode prog_3_method_7_code 57 = .ok (.iload 6, 2) := by decide +kernel
theorem d_Maker_writeAlls_59 : decode prog_3_method_7_code 59 = .ok (.invokevirtual 109, 3) := by decide +kernel
theorem d_Maker_writeAlls_62 : decode prog_3_method_7_code 62 = .ok (.iload 6, 2) := by decide +kernel
theorem d_Maker_writeAlls_64 : decode prog_3_method_7_code 64 = .ok (.istore 4, 2) := by decide +kernel
theorem d_Maker_writeAlls_66 : decode prog_3_method_7_code 66 = .ok (.iinc 5 1, 3) := by decide +kernel
theorem d_Maker_writeAlls_69 : decode prog_3_method_7_code 69 = .ok (.goto (-63), 3) := by decide +kernel
theorem d_Maker_writeAlls_72 : decode prog_3_method_7_code 72 = .ok (.return_, 1) := by decide +kernel
theorem d_Maker_writeGlobal_0 : decode prog_3_method_8_code 0 = .ok (.aload_n 0, 1) := by decide +kernel
theorem d_Maker_writeGlobal_1 : decode prog_3_method_8_code 1 = .ok (.aload_n 0, 1) := by decide +kernel
theorem d_Maker_writeGlobal_2 : decode prog_3_method_8_code 2 = .ok (.getfield 36, 3) := by decide +kernel
theorem d_Maker_writeGlobal_5 : decode prog_3_method_8_code 5 = .ok (.iload_n 2, 1) := by decide +kernel
theorem d_Maker_writeGlobal_6 : decode prog_3_method_8_code 6 = .ok (.iadd, 1) := by decide +kernel
theorem d_Maker_writeGlobal_7 : decode prog_3_method_8_code 7 = .ok (.invokevirtual 93, 3) := by decide +kernel
theorem d_Maker_writeGlobal_10 : decode prog_3_method_8_code 10 = .ok (.aload_n 0, 1) := by decide +kernel
theorem d_Maker_writeGlobal_11 : decode prog_3_method_8_code 11 = .ok (.iconst 1, 1) := by decide +kernel
theorem d_Maker_writeGlobal_12 : decode prog_3_method_8_code 12 = .ok (.aload_n 1, 1) := by decide +kernel
theorem d_Maker_writeGlobal_13 : decode prog_3_method_8_code 13 = .ok (.getfield 118, 3) := by decide +kernel
theorem d_Maker_writeGlobal_16 : decode prog_3_method_8_code 16 = .ok (.iconst 0, 1) := by decide +kernel
theorem d_Maker_writeGlobal_17 : decode prog_3_method_8_code 17 = .ok (.invokevirtual 78, 3) := by decide +kernel
theorem d_Maker_writeGlobal_20 : decode prog_3_method_8_code 20 = .ok (.aload_n 0, 1) := by decide +kernel
theorem d_Maker_writeGlobal_21 : decode prog_3_method_8_code 21 = .ok (.aload_n 0, 1) := by decide +kernel
theorem d_Maker_writeGlobal_22 : decode prog_3_method_8_code 22 = .ok (.getfield 36, 3) := by decide +kernel
theorem d_Maker_writeGlobal_25 : decode prog_3_method_8_code 25 = .ok (.iload_n 3, 1) := by decide +kernel
theorem d_Maker_writeGlobal_26 : decode prog_3_method_8_code 26 = .ok (.iadd, 1) := by decide +kernel
theorem d_Maker_writeGlobal_27 : decode prog_3_method_8_code 27 = .ok (.iload_n 2, 1) := by decide +kernel
theorem d_Maker_writeGlobal_28 : decode prog_3_method_8_code 28 = .ok (.iadd, 1) := by decide +kernel
theorem d_Maker_writeGlobal_29 : decode prog_3_method_8_code 29 = .ok (.iload 4, 2) := by decide +kernel
theorem d_Maker_writeGlobal_31 : decode prog_3_method_8_code 31 = .ok (.iadd, 1) := by decide +kernel
theorem d_Maker_writeGlobal_32 : decode prog_3_method_8_code 32 = .ok (.iconst 1, 1) := by decide +kernel
theorem d_Maker_writeGlobal_33 : decode prog_3_method_8_code 33 = .ok (.isub, 1) := by decide +kernel
theorem d_Maker_writeGlobal_34 : decode prog_3_method_8_code 34 = .ok (.aload_n 0, 1) := by decide +kernel
theorem d_Maker_writeGlobal_35 : decode prog_3_method_8_code 35 = .ok (.getfield 36, 3) := by decide +kernel
theorem d_Maker_writeGlobal_38 : decode prog_3_method_8_code 38 = .ok (.invokevirtual 97, 3) := by decide +kernel
theorem d_Maker_writeGlobal_41 : decode prog_3_method_8_code 41 = .ok (.aload_n 0, 1) := by decide +kernel
theorem d_Maker_writeGlobal_42 : decode prog_3_method_8_code 42 = .ok (.iload_n 2, 1) := by decide +kernel
theorem d_Maker_writeGlobal_43 : decode prog_3_method_8_code 43 = .ok (.iload 4, 2) := by decide +kernel
theorem d_Maker_writeGlobal_45 : decode prog_3_method_8_code 45 = .ok (.iadd, 1) := by decide +kernel
theorem d_Maker_writeGlobal_46 : decode prog_3_method_8_code 46 = .ok (.iconst 1, 1) := by decide +kernel
theorem d_Maker_writeGlobal_47 : decode prog_3_method_8_code 47 = .ok (.isub, 1) := by decide +kernel
theorem d_Maker_writeGlobal_48 : decode prog_3_method_8_code 48 = .ok (.iload_n 2, 1) := by decide +kernel
theorem d_Maker_writeGlobal_49 : decode prog_3_method_8_code 49 = .ok (.invokevirtual 97, 3) := by decide +kernel
theorem d_Maker_writeGlobal_52 : decode prog_3_method_8_code 52 = .ok (.return_, 1) := by decide +kernel
theorem d_Maker_open_0 : decode prog_3_method_9_code 0 = .ok (.aload_n 1, 1) := by decide +kernel
theorem d_Maker_open_1 : decode prog_3_method_9_code 1 = .ok (.getfield 121, 3) := by decide +kernel
theorem d_Maker_open_4 : decode prog_3_method_9_code 4 = .ok (.ifnonnull 5, 3) := by decide +kernel
theorem d_Maker_open_7 : decode prog_3_method_9_code 7 = .ok (.iconst 0, 1) := by decide +kernel
theorem d_Maker_open_8 : decode prog_3_method_9_code 8 = .ok (.ireturn, 1) := by decide +kernel
theorem d_Maker_open_9 : decode prog_3_method_9_code 9 = .ok (.aload_n 0, 1) := by decide +kernel
theorem d_Maker_open_10 : decode prog_3_method_9_code 10 = .ok (.aload_n 1, 1) := by decide +kernel
theorem d_Maker_open_11 : decode prog_3_method_9_code 11 = .ok (.getfield 121, 3) := by decide +kernel
theorem d_Maker_open_14 : decode prog_3_method_9_code 14 = .ok (.putfield 33, 3) := by decide +kernel
theorem d_Maker_open_17 : decode prog_3_method_9_code 17 = .ok (.aload_n 0, 1) := by decide +kernel
theorem d_Maker_open_18 : decode prog_3_method_9_code 18 = .ok (.aload_n 1, 1) := by decide +kernel
theorem d_Maker_open_19 : decode prog_3_method_9_code 19 = .ok (.getfield 124, 3) := by decide +kernel
theorem d_Maker_open_22 : decode prog_3_method_9_code 22 = .ok (.putfield 36, 3) := by decide +kernel
theorem d_Maker_open_25 : decode prog_3_method_9_code 25 = .ok (.aload_n 0, 1) := by decide +kernel
theorem d_Maker_open_26 : decode prog_3_method_9_code 26 = .ok (.getfield 15, 3) := by decide +kernel
theorem d_Maker_open_29 : decode prog_3_method_9_code 29 = .ok (.ifnull 14, 3) := by decide +kernel
theorem d_Maker_open_32 : decode prog_3_method_9_code 32 = .ok (.aload_n 0, 1) := by decide +kernel
theorem d_Maker_open_33 : decode prog_3_method_9_code 33 = .ok (.getfield 9, 3) := by decide +kernel
theorem d_Maker_open_36 : decode prog_3_method_9_code 36 = .ok (.aload_n 0, 1) := by decide +kernel
theorem d_Maker_open_37 : decode prog_3_method_9_code 37 = .ok (.getfield 33, 3) := by decide +kernel
theorem d_Maker_open_40 : decode prog_3_method_9_code 40 = .ok (.invokevirtual 125, 3) := by decide +kernel
theorem d_Maker_open_43 : decode prog_3_method_9_code 43 = .ok (.iconst 1, 1) := by decide +kernel
theorem d_Maker_open_44 : decode prog_3_method_9_code 44 = .ok (.ireturn, 1) := by decide +kernel
theorem d_Maker_lift_0 : decode prog_3_method_10_code 0 = .ok (.aload_n 0, 1) := by decide +kernel
theorem d_Maker_lift_1 : decode prog_3_method_10_code 1 = .ok (.iload_n 1, 1) := by decide +kernel
theorem d_Maker_lift_2 : decode prog_3_method_10_code 2 = .ok (.putfield 129, 3) := by decide +kernel
theorem d_Maker_lift_5 : decode prog_3_method_10_code 5 = .ok (.aload_n 0, 1) := by decide +kernel
theorem d_Maker_lift_6 : decode prog_3_method_10_code 6 = .ok (.iload_n 2, 1) := by decide +kernel
theorem d_Maker_lift_7 : decode prog_3_method_10_code 7 = .ok (.putfield 132, 3) := by decide +kernel
theorem d_Maker_lift_10 : decode prog_3_method_10_code 10 = .ok (.aload_n 0, 1) := by decide +kernel
theorem d_Maker_lift_11 : decode prog_3_method_10_code 11 = .ok (.iload_n 3, 1) := by decide +kernel
theorem d_Maker_lift_12 : decode prog_3_method_10_code 12 = .ok (.putfield 135, 3) := by decide +kernel
theorem d_Maker_lift_15 : decode prog_3_method_10_code 15 = .ok (.return_, 1) := by decide +kernel
theorem d_Maker_copy_0 : decode prog_3_method_11_code 0 = .ok (.aload_n 0, 1) := by decide +kernel
theorem d_Maker_copy_1 : decode prog_3_method_11_code 1 = .ok (.getfield 15, 3) := by decide +kernel
theorem d_Maker_copy_4 : decode prog_3_method_11_code 4 = .ok (.ifnonnull 16, 3) := by decide +kernel
theorem d_Maker_copy_7 : decode prog_3_method_11_code 7 = .ok (.aload_n 0, 1) := by decide +kernel
theorem d_Maker_copy_8 : decode prog_3_method_11_code 8 = .ok (.dup, 1) := by decide +kernel
theorem d_Maker_copy_9 : decode prog_3_method_11_code 9 = .ok (.getfield 19, 3) := by decide +kernel
theorem d_Maker_copy_12 : decode prog_3_method_11_code 12 = .ok (.iload_n 2, 1) := by decide +kernel
theorem d_Maker_copy_13 : decode prog_3_method_11_code 13 = .ok (.iload_n 1, 1) := by decide +kernel
theorem d_Maker_copy_14 : decode prog_3_method_11_code 14 = .ok (.isub, 1) := by decide +kernel
theorem d_Maker_copy_15 : decode prog_3_method_11_code 15 = .ok (.iadd, 1) := by decide +kernel
theorem d_Maker_copy_16 : decode prog_3_method_11_code 16 = .ok (.putfield 19, 3) := by decide +kernel
theorem d_Maker_copy_19 : decode prog_3_method_11_code 19 = .ok (.return_, 1) := by decide +kernel
theorem d_Maker_copy_20 : decode prog_3_method_11_code 20 = .ok (.iload_n 1, 1) := by decide +kernel
theorem d_Maker_copy_21 : decode prog_3_method_11_code 21 = .ok (.istore_n 3, 1) := by decide +kernel
theorem d_Maker_copy_22 : decode prog_3_method_11_code 22 = .ok (.iload_n 3, 1) := by decide +kernel
theorem d_Maker_copy_23 : decode prog_3_method_11_code 23 = .ok (.iload_n 2, 1) := by decide +kernel
theorem d_Maker_copy_24 : decode prog_3_method_11_code 24 = .ok (.if_icmp .ge 34, 3) := by decide +kernel
theorem d_Maker_copy_27 : decode prog_3_method_11_code 27 = .ok (.aload_n 0, 1) := by decide +kernel
theorem d_Maker_copy_28 : decode prog_3_method_11_code 28 = .ok (.aload_n 0, 1) := by decide +kernel
theorem d_Maker_copy_29 : decode prog_3_method_11_code 29 = .ok (.getfield 33, 3) := by decide +kernel
theorem d_Maker_copy_32 : decode prog_3_method_11_code 32 = .ok (.iload_n 3, 1) := by decide +kernel
theorem d_Maker_copy_33 : decode prog_3_method_11_code 33 = .ok (.invokevirtual 138, 3) := by decide +kernel
theorem d_Maker_copy_36 : decode prog_3_method_11_code 36 = .ok (.aload_n 0, 1) := by decide +kernel
theorem d_Maker_copy_37 : decode prog_3_method_11_code 37 = .ok (.iload_n 3, 1) := by decide +kernel
theorem d_Maker_copy_38 : decode prog_3_method_11_code 38 = .ok (.invokevirtual 141, 3) := by decide +kernel
theorem d_Maker_copy_41 : decode prog_3_method_11_code 41 = .ok (.aload_n 0, 1) := by decide +kernel
theorem d_Maker_copy_42 : decode prog_3_method_11_code 42 = .ok (.getfield 33, 3) := by decide +kernel
theorem d_Maker_copy_45 : decode prog_3_method_11_code 45 = .ok (.iload_n 3, 1) := by decide +kernel
theorem d_Maker_copy_46 : decode prog_3_method_11_code 46 = .ok (.invokevirtual 144, 3) := by decide +kernel
theorem d_Maker_copy_49 : decode prog_3_method_11_code 49 = .ok (.invokevirtual 78, 3) := by decide +kernel
theorem d_Maker_copy_52 : decode prog_3_method_11_code 52 = .ok (.iinc 3 1, 3) := by decide +kernel
theorem d_Maker_copy_55 : decode prog_3_method_11_code 55 = .ok (.goto (-33), 3) := by decide +kernel
theorem d_Maker_copy_58 : decode prog_3_method_11_code 58 = .ok (.return_, 1) := by decide +kernel
theorem d_Maker_liftedNumber_0 : decode prog_3_method_12_code 0 = .ok (.aload_n 0, 1) := by decide +kernel
theorem d_Maker_liftedNumber_1 : decode prog_3_method_12_code 1 = .ok (.getfield 33, 3) := by decide +kernel
theorem d_Maker_liftedNumber_4 : decode prog_3_method_12_code 4 = .ok (.iload_n 1, 1) := by decide +kernel
theorem d_Maker_liftedNumber_5 : decode prog_3_method_12_code 5 = .ok (.invokevirtual 115, 3) := by decide +kernel
theorem d_Maker_liftedNumber_8 : decode prog_3_method_12_code 8 = .ok (.istore_n 2, 1) := by decide +kernel
theorem d_Maker_liftedNumber_9 : decode prog_3_method_12_code 9 = .ok (.aload_n 0, 1) := by decide +kernel
theorem d_Maker_liftedNumber_10 : decode prog_3_method_12_code 10 = .ok (.getfield 33, 3) := by decide +kernel
theorem d_Maker_liftedNumber_13 : decode prog_3_method_12_code 13 = .ok (.iload_n 1, 1) := by decide +kernel
theorem d_Maker_liftedNumber_14 : decode prog_3_method_12_code 14 = .ok (.invokevirtual 138, 3) := by decide +kernel
theorem d_Maker_liftedNumber_17 : decode prog_3_method_12_code 17 = .ok (.ifCond .eq 5, 3) := by decide +kernel
theorem d_Maker_liftedNumber_20 : decode prog_3_method_12_code 20 = .ok (.iload_n 2, 1) := by decide +kernel
theorem d_Maker_liftedNumber_21 : decode prog_3_method_12_code 21 = .ok (.ireturn, 1) := by decide +kernel
theorem d_Maker_liftedNumber_22 : decode prog_3_method_12_code 22 = .ok (.aload_n 0, 1) := by decide +kernel
theorem d_Maker_liftedNumber_23 : decode prog_3_method_12_code 23 = .ok (.getfield 9, 3) := by decide +kernel
theorem d_Maker_liftedNumber_26 : decode prog_3_method_12_code 26 = .ok (.iload_n 1, 1) := by decide +kernel
theorem d_Maker_liftedNumber_27 : decode prog_3_method_12_code 27 = .ok (.invokevirtual 147, 3) := by decide +kernel
theorem d_Maker_liftedNumber_30 : decode prog_3_method_12_code 30 = .ok (.iconst 1, 1) := by decide +kernel
theorem d_Maker_liftedNumber_31 : decode prog_3_method_12_code 31 = .ok (.isub, 1) := by decide +kernel
theorem d_Maker_liftedNumber_32 : decode prog_3_method_12_code 32 = .ok (.iload_n 2, 1) := by decide +kernel
theorem d_Maker_liftedNumber_33 : decode prog_3_method_12_code 33 = .ok (.isub, 1) := by decide +kernel
theorem d_Maker_liftedNumber_34 : decode prog_3_method_12_code 34 = .ok (.istore_n 3, 1) := by decide +kernel
theorem d_Maker_liftedNumber_35 : decode prog_3_method_12_code 35 = .ok (.iload_n 3, 1) := by decide +kernel
theorem d_Maker_liftedNumber_36 : decode prog_3_method_12_code 36 = .ok (.aload_n 0, 1) := by decide +kernel
theorem d_Maker_liftedNumber_37 : decode prog_3_method_12_code 37 = .ok (.getfield 129, 3) := by decide +kernel
theorem d_Maker_liftedNumber_40 : decode prog_3_method_12_code 40 = .ok (.if_icmp .lt 5, 3) := by decide +kernel
theorem d_Maker_liftedNumber_43 : decode prog_3_method_12_code 43 = .ok (.iload_n 2, 1) := by decide +kernel
theorem d_Maker_liftedNumber_44 : decode prog_3_method_12_code 44 = .ok (.ireturn, 1) := by decide +kernel
theorem d_Maker_liftedNumber_45 : decode prog_3_method_12_code 45 = .ok (.iload_n 2, 1) := by decide +kernel
theorem d_Maker_liftedNumber_46 : decode prog_3_method_12_code 46 = .ok (.iload_n 3, 1) := by decide +kernel
theorem d_Maker_liftedNumber_47 : decode prog_3_method_12_code 47 = .ok (.aload_n 0, 1) := by decide +kernel
theorem d_Maker_liftedNumber_48 : decode prog_3_method_12_code 48 = .ok (.getfield 36, 3) := by decide +kernel
theorem d_Maker_liftedNumber_51 : decode prog_3_method_12_code 51 = .ok (.if_icmp .lt 10, 3) := by decide +kernel
theorem d_Maker_liftedNumber_54 : decode prog_3_method_12_code 54 = .ok (.aload_n 0, 1) := by decide +kernel
theorem d_Maker_liftedNumber_55 : decode prog_3_method_12_code 55 = .ok (.getfield 132, 3) := by decide +kernel
theorem d_Maker_liftedNumber_58 : decode prog_3_method_12_code 58 = .ok (.goto 7, 3) := by decide +kernel
theorem d_Maker_liftedNumber_61 : decode prog_3_method_12_code 61 = .ok (.aload_n 0, 1) := by decide +kernel
theorem d_Maker_liftedNumber_62 : decode prog_3_method_12_code 62 = .ok (.getfield 135, 3) := by decide +kernel
theorem d_Maker_liftedNumber_65 : decode prog_3_method_12_code 65 = .ok (.iadd, 1) := by decide +kernel
theorem d_Maker_liftedNumber_66 : decode prog_3_method_12_code 66 = .ok (.ireturn, 1) := by decide +kernel
theorem d_Maker_put_0 : decode prog_3_method_13_code 0 = .ok (.aload_n 0, 1) := by decide +kernel
theorem d_Maker_put_1 : decode prog_3_method_13_code 1 = .ok (.getfield 15, 3) := by decide +kernel
theorem d_Maker_put_4 : decode prog_3_method_13_code 4 = .ok (.ifnull 17, 3) := by decide +kernel
theorem d_Maker_put_7 : decode prog_3_method_13_code 7 = .ok (.aload_n 0, 1) := by decide +kernel
theorem d_Maker_put_8 : decode prog_3_method_13_code 8 = .ok (.getfield 15, 3) := by decide +kernel
theorem d_Maker_put_11 : decode prog_3_method_13_code 11 = .ok (.aload_n 0, 1) := by decide +kernel
theorem d_Maker_put_12 : decode prog_3_method_13_code 12 = .ok (.getfield 19, 3) := by decide +kernel
theorem d_Maker_put_15 : decode prog_3_method_13_code 15 = .ok (.iload_n 1, 1) := by decide +kernel
theorem d_Maker_put_16 : decode prog_3_method_13_code 16 = .ok (.iload_n 2, 1) := by decide +kernel
theorem d_Maker_put_17 : decode prog_3_method_13_code 17 = .ok (.iload_n 3, 1) := by decide +kernel
theorem d_Maker_put_18 : decode prog_3_method_13_code 18 = .ok (.invokevirtual 150, 3) := by decide +kernel
theorem d_Maker_put_21 : decode prog_3_method_13_code 21 = .ok (.aload_n 0, 1) := by decide +kernel
theorem d_Maker_put_22 : decode prog_3_method_13_code 22 = .ok (.dup, 1) := by decide +kernel
theorem d_Maker_put_23 : decode prog_3_method_13_code 23 = .ok (.getfield 19, 3) := by decide +kernel
theorem d_Maker_put_26 : decode prog_3_method_13_code 26 = .ok (.iconst 1, 1) := by decide +kernel
theorem d_Maker_put_27 : decode prog_3_method_13_code 27 = .ok (.iadd, 1) := by decide +kernel
theorem d_Maker_put_28 : decode prog_3_method_13_code 28 = .ok (.putfield 19, 3) := by decide +kernel
theorem d_Maker_put_31 : decode prog_3_method_13_code 31 = .ok (.return_, 1) := by decide +kernel
theorem d_Maker_putApplications_0 : decode prog_3_method_14_code 0 = .ok (.iconst 0, 1) := by decide +kernel
theorem d_Maker_putApplications_1 : decode prog_3_method_14_code 1 = .ok (.istore_n 2, 1) := by decide +kernel
theorem d_Maker_putApplications_2 : decode prog_3_method_14_code 2 = .ok (.iload_n 2, 1) := by decide +kernel
theorem d_Maker_putApplications_3 : decode prog_3_method_14_code 3 = .ok (.iload_n 1, 1) := by decide +kernel
theorem d_Maker_putApplications_4 : decode prog_3_method_14_code 4 = .ok (.if_icmp .ge 16, 3) := by decide +kernel
theorem d_Maker_putApplications_7 : decode prog_3_method_14_code 7 = .ok (.aload_n 0, 1) := by decide +kernel
theorem d_Maker_putApplications_8 : decode prog_3_method_14_code 8 = .ok (.iconst 4, 1) := by decide +kernel
theorem d_Maker_putApplications_9 : decode prog_3_method_14_code 9 = .ok (.iconst 0, 1) := by decide +kernel
theorem d_Maker_putApplications_10 : decode prog_3_method_14_code 10 = .ok (.iconst 0, 1) := by decide +kernel
theorem d_Maker_putApplications_11 : decode prog_3_method_14_code 11 = .ok (.invokevirtual 78, 3) := by decide +kernel
theorem d_Maker_putApplications_14 : decode prog_3_method_14_code 14 = .ok (.iinc 2 1, 3) := by decide +kernel
theorem d_Maker_putApplications_17 : decode prog_3_method_14_code 17 = .ok (.goto (-15), 3) := by decide +kernel
theorem d_Maker_putApplications_20 : decode prog_3_method_14_code 20 = .ok (.return_, 1) := by decide +kernel
theorem d_Maker_putVariables_0 : decode prog_3_method_15_code 0 = .ok (.iconst 0, 1) := by decide +kernel
theorem d_Maker_putVariables_1 : decode prog_3_method_15_code 1 = .ok (.istore_n 3, 1) := by decide +kernel
theorem d_Maker_putVariables_2 : decode prog_3_method_15_code 2 = .ok (.iload_n 3, 1) := by decide +kernel
theorem d_Maker_putVariables_3 : decode prog_3_method_15_code 3 = .ok (.iload_n 2, 1) := by decide +kernel
theorem d_Maker_putVariables_4 : decode prog_3_method_15_code 4 = .ok (.if_icmp .ge 18, 3) := by decide +kernel
theorem d_Maker_putVariables_7 : decode prog_3_method_15_code 7 = .ok (.aload_n 0, 1) := by decide +kernel
theorem d_Maker_putVariables_8 : decode prog_3_method_15_code 8 = .ok (.iconst 0, 1) := by decide +kernel
theorem d_Maker_putVariables_9 : decode prog_3_method_15_code 9 = .ok (.iload_n 1, 1) := by decide +kernel
theorem d_Maker_putVariables_10 : decode prog_3_method_15_code 10 = .ok (.iload_n 3, 1) := by decide +kernel
theorem d_Maker_putVariables_11 : decode prog_3_method_15_code 11 = .ok (.isub, 1) := by decide +kernel
theorem d_Maker_putVariables_12 : decode prog_3_method_15_code 12 = .ok (.iconst 0, 1) := by decide +kernel
theorem d_Maker_putVariables_13 : decode prog_3_method_15_code 13 = .ok (.invokevirtual 78, 3) := by decide +kernel
theorem d_Maker_putVariables_16 : decode prog_3_method_15_code 16 = .ok (.iinc 3 1, 3) := by decide +kernel
theorem d_Maker_putVariables_19 : decode prog_3_method_15_code 19 = .ok (.goto (-17), 3) := by decide +kernel
theorem d_Maker_putVariables_22 : decode prog_3_method_15_code 22 = .ok (.return_, 1) := by decide +kernel
theorem d_Reader_init_0 : decode prog_4_method_1_code 0 = .ok (.aload_n 0, 1) := by decide +kernel
theorem d_Reader_init_1 : decode prog_4_method_1_code 1 = .ok (.invokespecial 3, 3) := by decide +kernel
theorem d_Reader_init_4 : decode prog_4_method_1_code 4 = .ok (.aload_n 0, 1) := by decide +kernel
theorem d_Reader_init_5 : decode prog_4_method_1_code 5 = .ok (.sipush 1000, 3) := by decide +kernel
theorem d_Reader_init_8 : decode prog_4_method_1_code 8 = .ok (.newarray .int, 2) := by decide +kernel
theorem d_Reader_init_10 : decode prog_4_method_1_code 10 = .ok (.putfield 9, 3) := by decide +kernel
theorem d_Reader_init_13 : decode prog_4_method_1_code 13 = .ok (.return_, 1) := by decide +kernel
theorem d_Reader_readShape_0 : decode prog_4_method_2_code 0 = .ok (.aload_n 0, 1) := by decide +kernel
theorem d_Reader_readShape_1 : decode prog_4_method_2_code 1 = .ok (.aload_n 1, 1) := by decide +kernel
theorem d_Reader_readShape_2 : decode prog_4_method_2_code 2 = .ok (.putfield 15, 3) := by decide +kernel
theorem d_Reader_readShape_5 : decode prog_4_method_2_code 5 = .ok (.aload_n 0, 1) := by decide +kernel
theorem d_Reader_readShape_6 : decode prog_4_method_2_code 6 = .ok (.iconst 0, 1) := by decide +kernel
theorem d_Reader_readShape_7 : decode prog_4_method_2_code 7 = .ok (.putfield 19, 3) := by decide +kernel
theorem d_Reader_readShape_10 : decode prog_4_method_2_code 10 = .ok (.aload_n 0, 1) := by decide +kernel
theorem d_Reader_readShape_11 : decode prog_4_method_2_code 11 = .ok (.iload_n 2, 1) := by decide +kernel
theorem d_Reader_readShape_12 : decode prog_4_method_2_code 12 = .ok (.putfield 23, 3) := by decide +kernel
theorem d_Reader_readShape_15 : decode prog_4_method_2_code 15 = .ok (.aload_n 0, 1) := by decide +kernel
theorem d_Reader_readShape_16 : decode prog_4_method_2_code 16 = .ok (.getfield 19, 3) := by decide +kernel
theorem d_Reader_readShape_19 : decode prog_4_method_2_code 19 = .ok (.sipush 1000, 3) := by decide +kernel
theorem d_Reader_readShape_22 : decode prog_4_method_2_code 22 = .ok (.if_icmp .ge 41, 3) := by decide +kernel
theorem d_Reader_readShape_25 : decode prog_4_method_2_code 25 = .ok (.aload_n 1, 1) := by decide +kernel
theorem d_Reader_readShape_26 : decode prog_4_method_2_code 26 = .ok (.aload_n 0, 1) := by decide +kernel
theorem d_Reader_readShape_27 : decode prog_4_method_2_code 27 = .ok (.getfield 23, 3) := by decide +kernel
theorem d_Reader_readShape_30 : decode prog_4_method_2_code 30 = .ok (.invokevirtual 26, 3) := by decide +kernel
theorem d_Reader_readShape_33 : decode prog_4_method_2_code 33 = .ok (.bipush 6, 2) := by decide +kernel
theorem d_Reader_readShape_35 : decode prog_4_method_2_code 35 = .ok (.if_icmp .ne 28, 3) := by decide +kernel
theorem d_Reader_readShape_38 : decode prog_4_method_2_code 38 = .ok (.aload_n 0, 1) := by decide +kernel
theorem d_Reader_readShape_39 : decode prog_4_method_2_code 39 = .ok (.aload_n 1, 1) := by decide +kernel
theorem d_Reader_readShape_40 : decode prog_4_method_2_code 40 = .ok (.aload_n 0, 1) := by decide +kernel
theorem d_Reader_readShape_41 : decode prog_4_method_2_code 41 = .ok (.getfield 23, 3) := by decide +kernel
theorem d_Reader_readShape_44 : decode prog_4_method_2_code 44 = .ok (.invokevirtual 32, 3) := by decide +kernel
theorem d_Reader_readShape_47 : decode prog_4_method_2_code 47 = .ok (.putfield 23, 3) := by decide +kernel
theorem d_Reader_readShape_50 : decode prog_4_method_2_code 50 = .ok (.aload_n 0, 1) := by decide +kernel
theorem d_Reader_readShape_51 : decode prog_4_method_2_code 51 = .ok (.dup, 1) := by decide +kernel
theorem d_Reader_readShape_52 : decode prog_4_method_2_code 52 = .ok (.getfield 19, 3) := by decide +kernel
theorem d_Reader_readShape_55 : decode prog_4_method_2_code 55 = .ok (.iconst 1, 1) := by decide +kernel
theorem d_Reader_readShape_56 : decode prog_4_method_2_code 56 = .ok (.iadd, 1) := by decide +kernel
theorem d_Reader_readShape_57 : decode prog_4_method_2_code 57 = .ok (.putfield 19, 3) := by decide +kernel
theorem d_Reader_readShape_60 : decode prog_4_method_2_code 60 = .ok (.goto (-45), 3) := by decide +kernel
theorem d_Reader_readShape_63 : decode prog_4_method_2_code 63 = .ok (.aload_n 0, 1) := by decide +kernel
theorem d_Reader_readShape_64 : decode prog_4_method_2_code 64 = .ok (.iconst 0, 1) := by decide +kernel
theorem d_Reader_readShape_65 : decode prog_4_method_2_code 65 = .ok (.putfield 35, 3) := by decide +kernel
theorem d_Reader_readShape_68 : decode prog_4_method_2_code 68 = .ok (.aload_n 0, 1) := by decide +kernel
theorem d_Reader_readShape_69 : decode prog_4_method_2_code 69 = .ok (.getfield 35, 3) := by decide +kernel
theorem d_Reader_readShape_72 : decode prog_4_method_2_code 72 = .ok (.sipush 1000, 3) := by decide +kernel
theorem d_Reader_readShape_75 : decode prog_4_method_2_code 75 = .ok (.if_icmp .ge 33, 3) := by decide +kernel
theorem d_Reader_readShape_78 : decode prog_4_method_2_code 78 = .ok (.aload_n 1, 1) := by decide +kernel
theorem d_Reader_readShape_79 : decode prog_4_method_2_code 79 = .ok (.aload_n 0, 1) := by decide +kernel
theorem d_Reader_readShape_80 : decode prog_4_method_2_code 80 = .ok (.getfield 23, 3) := by decide +kernel
theorem d_Reader_readShape_83 : decode prog_4_method_2_code 83 = .ok (.aload_n 0, 1) := by decide +kernel
theorem d_Reader_readShape_84 : decode prog_4_method_2_code 84 = .ok (.getfield 35, 3) := by decide +kernel
theorem d_Reader_readShape_87 : decode prog_4_method_2_code 87 = .ok (.iadd, 1) := by decide +kernel
theorem d_Reader_readShape_88 : decode prog_4_method_2_code 88 = .ok (.invokevirtual 26, 3) := by decide +kernel
theorem d_Reader_readShape_91 : decode prog_4_method_2_code 91 = .ok (.iconst 4, 1) := by decide +kernel
theorem d_Reader_readShape_92 : decode prog_4_method_2_code 92 = .ok (.if_icmp .ne 16, 3) := by decide +kernel
theorem d_Reader_readShape_95 : decode prog_4_method_2_code 95 = .ok (.aload_n 0, 1) := by decide +kernel
theorem d_Reader_readShape_96 : decode prog_4_method_2_code 96 = .ok (.dup, 1) := by decide +kernel
theorem d_Reader_readShape_97 : decode prog_4_method_2_code 97 = .ok (.getfield 35, 3) := by decide +kernel
theorem d_Reader_readShape_100 : decode prog_4_method_2_code 100 = .ok (.iconst 1, 1) := by decide +kernel
theorem d_Reader_readShape_101 : decode prog_4_method_2_code 101 = .ok (.iadd, 1) := by decide +kernel
theorem d_Reader_readShape_102 : decode prog_4_method_2_code 102 = .ok (.putfield 35, 3) := by decide +kernel
theorem d_Reader_readShape_105 : decode prog_4_method_2_code 105 = .ok (.goto (-37), 3) := by decide +kernel
theorem d_Reader_readShape_108 : decode prog_4_method_2_code 108 = .ok (.return_, 1) := by decide +kernel
theorem d_Reader_isPut_0 : decode prog_4_method_3_code 0 = .ok (.aload_n 0, 1) := by decide +kernel
theorem d_Reader_isPut_1 : decode prog_4_method_3_code 1 = .ok (.getfield 23, 3) := by decide +kernel
theorem d_Reader_isPut_4 : decode prog_4_method_3_code 4 = .ok (.aload_n 0, 1) := by decide +kernel
theorem d_Reader_isPut_5 : decode prog_4_method_3_code 5 = .ok (.getfield 35, 3) := by decide +kernel
theorem d_Reader_isPut_8 : decode prog_4_method_3_code 8 = .ok (.iadd, 1) := by decide +kernel
theorem d_Reader_isPut_9 : decode prog_4_method_3_code 9 = .ok (.istore_n 3, 1) := by decide +kernel
theorem d_Reader_isPut_10 : decode prog_4_method_3_code 10 = .ok (.aload_n 0, 1) := by decide +kernel
theorem d_Reader_isPut_11 : decode prog_4_method_3_code 11 = .ok (.getfield 15, 3) := by decide +kernel
theorem d_Reader_isPut_14 : decode prog_4_method_3_code 14 = .ok (.ifnull 46, 3) := by decide +kernel
theorem d_Reader_isPut_17 : decode prog_4_method_3_code 17 = .ok (.aload_n 0, 1) := by decide +kernel
theorem d_Reader_isPut_18 : decode prog_4_method_3_code 18 = .ok (.getfield 35, 3) := by decide +kernel
theorem d_Reader_isPut_21 : decode prog_4_method_3_code 21 = .ok (.aload_n 1, 1) := by decide +kernel
theorem d_Reader_isPut_22 : decode prog_4_method_3_code 22 = .ok (.getfield 38, 3) := by decide +kernel
theorem d_Reader_isPut_25 : decode prog_4_method_3_code 25 = .ok (.aload_n 1, 1) := by decide +kernel
theorem d_Reader_isPut_26 : decode prog_4_method_3_code 26 = .ok (.getfield 43, 3) := by decide +kernel
theorem d_Reader_isPut_29 : decode prog_4_method_3_code 29 = .ok (.iadd, 1) := by decide +kernel
theorem d_Reader_isPut_30 : decode prog_4_method_3_code 30 = .ok (.if_icmp .ne 30, 3) := by decide +kernel
theorem d_Reader_isPut_33 : decode prog_4_method_3_code 33 = .ok (.aload_n 0, 1) := by decide +kernel
theorem d_Reader_isPut_34 : decode prog_4_method_3_code 34 = .ok (.getfield 15, 3) := by decide +kernel
theorem d_Reader_isPut_37 : decode prog_4_method_3_code 37 = .ok (.iload_n 3, 1) := by decide +kernel
theorem d_Reader_isPut_38 : decode prog_4_method_3_code 38 = .ok (.invokevirtual 26, 3) := by decide +kernel
theorem d_Reader_isPut_41 : decode prog_4_method_3_code 41 = .ok (.iconst 1, 1) := by decide +kernel
theorem d_Reader_isPut_42 : decode prog_4_method_3_code 42 = .ok (.if_icmp .ne 18, 3) := by decide +kernel
theorem d_Reader_isPut_45 : decode prog_4_method_3_code 45 = .ok (.aload_n 0, 1) := by decide +kernel
theorem d_Reader_isPut_46 : decode prog_4_method_3_code 46 = .ok (.getfield 15, 3) := by decide +kernel
theorem d_Reader_isPut_49 : decode prog_4_method_3_code 49 = .ok (.iload_n 3, 1) := by decide +kernel
theorem d_Reader_isPut_50 : decode prog_4_method_3_code 50 = .ok (.invokevirtual 46, 3) := by decide +kernel
theorem d_Reader_isPut_53 : decode prog_4_method_3_code 53 = .ok (.aload_n 1, 1) := by decide +kernel
theorem d_Reader_isPut_54 : decode prog_4_method_3_code 54 = .ok (.getfield 49, 3) := by decide +kernel
theorem d_Reader_isPut_57 : decode prog_4_method_3_code 57 = .ok (.if_icmp .eq 5, 3) := by decide +kernel
theorem d_Reader_isPut_60 : decode prog_4_method_3_code 60 = .ok (.iconst 0, 1) := by decide +kernel
theorem d_Reader_isPut_61 : decode prog_4_method_3_code 61 = .ok (.ireturn, 1) := by decide +kernel
theorem d_Reader_isPut_62 : decode prog_4_method_3_code 62 = .ok (.iconst 0, 1) := by decide +kernel
theorem d_Reader_isPut_63 : decode prog_4_method_3_code 63 = .ok (.istore 4, 2) := by decide +kernel
theorem d_Reader_isPut_65 : decode prog_4_method_3_code 65 = .ok (.iload 4, 2) := by decide +kernel
theorem d_Reader_isPut_67 : decode prog_4_method_3_code 67 = .ok (.aload_n 1, 1) := by decide +kernel
theorem d_Reader_isPut_68 : decode prog_4_method_3_code 68 = .ok (.getfield 38, 3) := by decide +kernel
theorem d_Reader_isPut_71 : decode prog_4_method_3_code 71 = .ok (.if_icmp .ge 54, 3) := by decide +kernel
theorem d_Reader_isPut_74 : decode prog_4_method_3_code 74 = .ok (.iload_n 3, 1) := by decide +kernel
theorem d_Reader_isPut_75 : decode prog_4_method_3_code 75 = .ok (.iconst 1, 1) := by decide +kernel
theorem d_Reader_isPut_76 : decode prog_4_method_3_code 76 = .ok (.iadd, 1) := by decide +kernel
theorem d_Reader_isPut_77 : decode prog_4_method_3_code 77 = .ok (.iload 4, 2) := by decide +kernel
theorem d_Reader_isPut_79 : decode prog_4_method_3_code 79 = .ok (.iadd, 1) := by decide +kernel
theorem d_Reader_isPut_80 : decode prog_4_method_3_code 80 = .ok (.istore 5, 2) := by decide +kernel
theorem d_Reader_isPut_82 : decode prog_4_method_3_code 82 = .ok (.aload_n 0, 1) := by decide +kernel
theorem d_Reader_isPut_83 : decode prog_4_method_3_code 83 = .ok (.getfield 15, 3) := by decide +kernel
theorem d_Reader_isPut_86 : decode prog_4_method_3_code 86 = .ok (.iload 5, 2) := by decide +kernel
theorem d_Reader_isPut_88 : decode prog_4_method_3_code 88 = .ok (.invokevirtual 26, 3) := by decide +kernel
theorem d_Reader_isPut_91 : decode prog_4_method_3_code 91 = .ok (.ifCond .ne 26, 3) := by decide +kernel
theorem d_Reader_isPut_94 : decode prog_4_method_3_code 94 = .ok (.aload_n 0, 1) := by decide +kernel
theorem d_Reader_isPut_95 : decode prog_4_method_3_code 95 = .ok (.getfield 15, 3) := by decide +kernel
theorem d_Reader_isPut_98 : decode prog_4_method_3_code 98 = .ok (.iload 5, 2) := by decide +kernel
theorem d_Reader_isPut_100 : decode prog_4_method_3_code 100 = .ok (.invokevirtual 46, 3) := by decide +kernel
theorem d_Reader_isPut_103 : decode prog_4_method_3_code 103 = .ok (.iload_n 2, 1) := by decide +kernel
theorem d_Reader_isPut_104 : decode prog_4_method_3_code 104 = .ok (.aload_n 0, 1) := by decide +kernel
theorem d_Reader_isPut_105 : decode prog_4_method_3_code 105 = .ok (.getfield 19, 3) := by decide +kernel
theorem d_Reader_isPut_108 : decode prog_4_method_3_code 108 = .ok (.iadd, 1) := by decide +kernel
theorem d_Reader_isPut_109 : decode prog_4_method_3_code 109 = .ok (.iconst 1, 1) := by decide +kernel
theorem d_Reader_isPut_110 : decode prog_4_method_3_code 110 = .ok (.isub, 1) := by decide +kernel
theorem d_Reader_isPut_111 : decode prog_4_method_3_code 111 = .ok (.iload 4, 2) := by decide +kernel
theorem d_Reader_isPut_113 : decode prog_4_method_3_code 113 = .ok (.isub, 1) := by decide +kernel
theorem d_Reader_isPut_114 : decode prog_4_method_3_code 114 = .ok (.if_icmp .eq 5, 3) := by decide +kernel
theorem d_Reader_isPut_117 : decode prog_4_method_3_code 117 = .ok (.iconst 0, 1) := by decide +kernel
theorem d_Reader_isPut_118 : decode prog_4_method_3_code 118 = .ok (.ireturn, 1) := by decide +kernel
theorem d_Reader_isPut_119 : decode prog_4_method_3_code 119 = .ok (.iinc 4 1, 3) := by decide +kernel
theorem d_Reader_isPut_122 : decode prog_4_method_3_code 122 = .ok (.goto (-57), 3) := by decide +kernel
theorem d_Reader_isPut_125 : decode prog_4_method_3_code 125 = .ok (.iconst 1, 1) := by decide +kernel
theorem d_Reader_isPut_126 : decode prog_4_method_3_code 126 = .ok (.ireturn, 1) := by decide +kernel
theorem d_Reader_lastTerms_0 : decode prog_4_method_4_code 0 = .ok (.aload_n 0, 1) := by decide +kernel
theorem d_Reader_lastTerms_1 : decode prog_4_method_4_code 1 = .ok (.getfield 23, 3) := by decide +kernel
theorem d_Reader_lastTerms_4 : decode prog_4_method_4_code 4 = .ok (.aload_n 0, 1) := by decide +kernel
theorem d_Reader_lastTerms_5 : decode prog_4_method_4_code 5 = .ok (.getfield 35, 3) := by decide +kernel
theorem d_Reader_lastTerms_8 : decode prog_4_method_4_code 8 = .ok (.iadd, 1) := by decide +kernel
theorem d_Reader_lastTerms_9 : decode prog_4_method_4_code 9 = .ok (.iconst 1, 1) := by decide +kernel
theorem d_Reader_lastTerms_10 : decode prog_4_method_4_code 10 = .ok (.iadd, 1) := by decide +kernel
theorem d_Reader_lastTerms_11 : decode prog_4_method_4_code 11 = .ok (.aload_n 1, 1) := by decide +kernel
theorem d_Reader_lastTerms_12 : decode prog_4_method_4_code 12 = .ok (.getfield 38, 3) := by decide +kernel
theorem d_Reader_lastTerms_15 : decode prog_4_method_4_code 15 = .ok (.iadd, 1) := by decide +kernel
theorem d_Reader_lastTerms_16 : decode prog_4_method_4_code 16 = .ok (.ireturn, 1) := by decide +kernel
theorem d_Reader_end_0 : decode prog_4_method_5_code 0 = .ok (.aload_n 0, 1) := by decide +kernel
theorem d_Reader_end_1 : decode prog_4_method_5_code 1 = .ok (.getfield 15, 3) := by decide +kernel
theorem d_Reader_end_4 : decode prog_4_method_5_code 4 = .ok (.ifnonnull 10, 3) := by decide +kernel
theorem d_Reader_end_7 : decode prog_4_method_5_code 7 = .ok (.aload_n 0, 1) := by decide +kernel
theorem d_Reader_end_8 : decode prog_4_method_5_code 8 = .ok (.getfield 23, 3) := by decide +kernel
theorem d_Reader_end_11 : decode prog_4_method_5_code 11 = .ok (.goto 19, 3) := by decide +kernel
theorem d_Reader_end_14 : decode prog_4_method_5_code 14 = .ok (.aload_n 0, 1) := by decide +kernel
theorem d_Reader_end_15 : decode prog_4_method_5_code 15 = .ok (.getfield 23, 3) := by decide +kernel
theorem d_Reader_end_18 : decode prog_4_method_5_code 18 = .ok (.aload_n 0, 1) := by decide +kernel
theorem d_Reader_end_19 : decode prog_4_method_5_code 19 = .ok (.getfield 15, 3) := by decide +kernel
theorem d_Reader_end_22 : decode prog_4_method_5_code 22 = .ok (.aload_n 0, 1) := by decide +kernel
theorem d_Reader_end_23 : decode prog_4_method_5_code 23 = .ok (.getfield 23, 3) := by decide +kernel
theorem d_Reader_end_26 : decode prog_4_method_5_code 26 = .ok (.invokevirtual 52, 3) := by decide +kernel
theorem d_Reader_end_29 : decode prog_4_method_5_code 29 = .ok (.iadd, 1) := by decide +kernel
theorem d_Reader_end_30 : decode prog_4_method_5_code 30 = .ok (.ireturn, 1) := by decide +kernel
theorem d_Reader_standing_0 : decode prog_4_method_6_code 0 = .ok (.aload_n 2, 1) := by decide +kernel
theorem d_Reader_standing_1 : decode prog_4_method_6_code 1 = .ok (.aload_n 1, 1) := by decide +kernel
theorem d_Reader_standing_2 : decode prog_4_method_6_code 2 = .ok (.getfield 49, 3) := by decide +kernel
theorem d_Reader_standing_5 : decode prog_4_method_6_code 5 = .ok (.iload_n 3, 1) := by decide +kernel
theorem d_Reader_standing_6 : decode prog_4_method_6_code 6 = .ok (.iload_n 3, 1) := by decide +kernel
theorem d_Reader_standing_7 : decode prog_4_method_6_code 7 = .ok (.aload_n 2, 1) := by decide +kernel
theorem d_Reader_standing_8 : decode prog_4_method_6_code 8 = .ok (.iload_n 3, 1) := by decide +kernel
theorem d_Reader_standing_9 : decode prog_4_method_6_code 9 = .ok (.invokevirtual 52, 3) := by decide +kernel
theorem d_Reader_standing_12 : decode prog_4_method_6_code 12 = .ok (.iadd, 1) := by decide +kernel
theorem d_Reader_standing_13 : decode prog_4_method_6_code 13 = .ok (.invokevirtual 55, 3) := by decide +kernel
theorem d_Reader_standing_16 : decode prog_4_method_6_code 16 = .ok (.istore 5, 2) := by decide +kernel
theorem d_Reader_standing_18 : decode prog_4_method_6_code 18 = .ok (.iload 5, 2) := by decide +kernel
theorem d_Reader_standing_20 : decode prog_4_method_6_code 20 = .ok (.ifCond .ne 5, 3) := by decide +kernel
theorem d_Reader_standing_23 : decode prog_4_method_6_code 23 = .ok (.iconst 1, 1) := by decide +kernel
theorem d_Reader_standing_24 : decode prog_4_method_6_code 24 = .ok (.ireturn, 1) := by decide +kernel
theorem d_Reader_standing_25 : decode prog_4_method_6_code 25 = .ok (.aload_n 0, 1) := by decide +kernel
theorem d_Reader_standing_26 : decode prog_4_method_6_code 26 = .ok (.aload_n 2, 1) := by decide +kernel
theorem d_Reader_standing_27 : decode prog_4_method_6_code 27 = .ok (.iload_n 3, 1) := by decide +kernel
theorem d_Reader_standing_28 : decode prog_4_method_6_code 28 = .ok (.invokevirtual 59, 3) := by decide +kernel
theorem d_Reader_standing_31 : decode prog_4_method_6_code 31 = .ok (.iload 5, 2) := by decide +kernel
theorem d_Reader_standing_33 : decode prog_4_method_6_code 33 = .ok (.iconst 1, 1) := by decide +kernel
theorem d_Reader_standing_34 : decode prog_4_method_6_code 34 = .ok (.if_icmp .ne 17, 3) := by decide +kernel
theorem d_Reader_standing_37 : decode prog_4_method_6_code 37 = .ok (.aload_n 0, 1) := by decide +kernel
theorem d_Reader_standing_38 : decode prog_4_method_6_code 38 = .ok (.aload_n 1, 1) := by decide +kernel
theorem d_Reader_standing_39 : decode prog_4_method_6_code 39 = .ok (.iload 4, 2) := by decide +kernel
theorem d_Reader_standing_41 : decode prog_4_method_6_code 41 = .ok (.invokevirtual 63, 3) := by decide +kernel
theorem d_Reader_standing_44 : decode prog_4_method_6_code 44 = .ok (.ifCond .eq 7, 3) := by decide +kernel
theorem d_Reader_standing_47 : decode prog_4_method_6_code 47 = .ok (.iconst 2, 1) := by decide +kernel
theorem d_Reader_standing_48 : decode prog_4_method_6_code 48 = .ok (.goto 4, 3) := by decide +kernel
theorem d_Reader_standing_51 : decode prog_4_method_6_code 51 = .ok (.iconst 0, 1) := by decide +kernel
theorem d_Reader_standing_52 : decode prog_4_method_6_code 52 = .ok (.ireturn, 1) := by decide +kernel
theorem d_Reader_readDepths_0 : decode prog_4_method_7_code 0 = .ok (.aload_n 0, 1) := by decide +kernel
theorem d_Reader_readDepths_1 : decode prog_4_method_7_code 1 = .ok (.iconst 0, 1) := by decide +kernel
theorem d_Reader_readDepths_2 : decode prog_4_method_7_code 2 = .ok (.iconst 0, 1) := by decide +kernel
theorem d_Reader_readDepths_3 : decode prog_4_method_7_code 3 = .ok (.invokevirtual 67, 3) := by decide +kernel
theorem d_Reader_readDepths_6 : decode prog_4_method_7_code 6 = .ok (.iconst 0, 1) := by decide +kernel
theorem d_Reader_readDepths_7 : decode prog_4_method_7_code 7 = .ok (.istore_n 2, 1) := by decide +kernel
theorem d_Reader_readDepths_8 : decode prog_4_method_7_code 8 = .ok (.iload_n 2, 1) := by decide +kernel
theorem d_Reader_readDepths_9 : decode prog_4_method_7_code 9 = .ok (.aload_n 1, 1) := by decide +kernel
theorem d_Reader_readDepths_10 : decode prog_4_method_7_code 10 = .ok (.invokevirtual 71, 3) := by decide +kernel
theorem d_Reader_readDepths_13 : decode prog_4_method_7_code 13 = .ok (.if_icmp .ge 59, 3) := by decide +kernel
theorem d_Reader_readDepths_16 : decode prog_4_method_7_code 16 = .ok (.aload_n 1, 1) := by decide +kernel
theorem d_Reader_readDepths_17 : decode prog_4_method_7_code 17 = .ok (.iload_n 2, 1) := by decide +kernel
theorem d_Reader_readDepths_18 : decode prog_4_method_7_code 18 = .ok (.invokevirtual 26, 3) := by decide +kernel
theorem d_Reader_readDepths_21 : decode prog_4_method_7_code 21 = .ok (.istore_n 3, 1) := by decide +kernel
theorem d_Reader_readDepths_22 : decode prog_4_method_7_code 22 = .ok (.iload_n 3, 1) := by decide +kernel
theorem d_Reader_readDepths_23 : decode prog_4_method_7_code 23 = .ok (.iconst 4, 1) := by decide +kernel
theorem d_Reader_readDepths_24 : decode prog_4_method_7_code 24 = .ok (.if_icmp .lt 42, 3) := by decide +kernel
theorem d_Reader_readDepths_27 : decode prog_4_method_7_code 27 = .ok (.aload_n 0, 1) := by decide +kernel
theorem d_Reader_readDepths_28 : decode prog_4_method_7_code 28 = .ok (.iload_n 2, 1) := by decide +kernel
theorem d_Reader_readDepths_29 : decode prog_4_method_7_code 29 = .ok (.invokevirtual 75, 3) := by decide +kernel
theorem d_Reader_readDepths_32 : decode prog_4_method_7_code 32 = .ok (.istore 4, 2) := by decide +kernel
theorem d_Reader_readDepths_34 : decode prog_4_method_7_code 34 = .ok (.aload_n 0, 1) := by decide +kernel
theorem d_Reader_readDepths_35 : decode prog_4_method_7_code 35 = .ok (.iload_n 2, 1) := by decide +kernel
theorem d_Reader_readDepths_36 : decode prog_4_method_7_code 36 = .ok (.iconst 1, 1) := by decide +kernel
theorem d_Reader_readDepths_37 : decode prog_4_method_7_code 37 = .ok (.iadd, 1) := by decide +kernel
theorem d_Reader_readDepths_38 : decode prog_4_method_7_code 38 = .ok (.iload 4, 2) := by decide +kernel
theorem d_Reader_readDepths_40 : decode prog_4_method_7_code 40 = .ok (.invokevirtual 67, 3) := by decide +kernel
theorem d_Reader_readDepths_43 : decode prog_4_method_7_code 43 = .ok (.aload_n 0, 1) := by decide +kernel
theorem d_Reader_readDepths_44 : decode prog_4_method_7_code 44 = .ok (.aload_n 1, 1) := by decide +kernel
theorem d_Reader_readDepths_45 : decode prog_4_method_7_code 45 = .ok (.iload_n 2, 1) := by decide +kernel
theorem d_Reader_readDepths_46 : decode prog_4_method_7_code 46 = .ok (.invokevirtual 32, 3) := by decide +kernel
theorem d_Reader_readDepths_49 : decode prog_4_method_7_code 49 = .ok (.iload_n 3, 1) := by decide +kernel
theorem d_Reader_readDepths_50 : decode prog_4_method_7_code 50 = .ok (.iconst 4, 1) := by decide +kernel
theorem d_Reader_readDepths_51 : decode prog_4_method_7_code 51 = .ok (.if_icmp .ne 8, 3) := by decide +kernel
theorem d_Reader_readDepths_54 : decode prog_4_method_7_code 54 = .ok (.iload 4, 2) := by decide +kernel
theorem d_Reader_readDepths_56 : decode prog_4_method_7_code 56 = .ok (.goto 7, 3) := by decide +kernel
theorem d_Reader_readDepths_59 : decode prog_4_method_7_code 59 = .ok (.iload 4, 2) := by decide +kernel
theorem d_Reader_readDepths_61 : decode prog_4_method_7_code 61 = .ok (.iconst 1, 1) := by decide +kernel
theorem d_Reader_readDepths_62 : decode prog_4_method_7_code 62 = .ok (.iadd, 1) := by decide +kernel
theorem d_Reader_readDepths_63 : decode prog_4_method_7_code 63 = .ok (.invokevirtual 67, 3) := by decide +kernel
theorem d_Reader_readDepths_66 : decode prog_4_method_7_code 66 = .ok (.iinc 2 1, 3) := by decide +kernel
theorem d_Reader_readDepths_69 : decode prog_4_method_7_code 69 = .ok (.goto (-61), 3) := by decide +kernel
theorem d_Reader_readDepths_72 : decode prog_4_method_7_code 72 = .ok (.return_, 1) := by decide +kernel
theorem d_Reader_depthAt_0 : decode prog_4_method_8_code 0 = .ok (.iload_n 1, 1) := by decide +kernel
theorem d_Reader_depthAt_1 : decode prog_4_method_8_code 1 = .ok (.ifCond .lt 21, 3) := by decide +kernel
theorem d_Reader_depthAt_4 : decode prog_4_method_8_code 4 = .ok (.iload_n 1, 1) := by decide +kernel
theorem d_Reader_depthAt_5 : decode prog_4_method_8_code 5 = .ok (.aload_n 0, 1) := by decide +kernel
theorem d_Reader_depthAt_6 : decode prog_4_method_8_code 6 = .ok (.getfield 9, 3) := by decide +kernel
theorem d_Reader_depthAt_9 : decode prog_4_method_8_code 9 = .ok (.arraylength, 1) := by decide +kernel
theorem d_Reader_depthAt_10 : decode prog_4_method_8_code 10 = .ok (.if_icmp .ge 12, 3) := by decide +kernel
theorem d_Reader_depthAt_13 : decode prog_4_method_8_code 13 = .ok (.aload_n 0, 1) := by decide +kernel
theorem d_Reader_depthAt_14 : decode prog_4_method_8_code 14 = .ok (.getfield 9, 3) := by decide +kernel
theorem d_Reader_depthAt_17 : decode prog_4_method_8_code 17 = .ok (.iload_n 1, 1) := by decide +kernel
end
section
/-! decode rows -/
theorem d_Reader_depthAt_18 : decode prog_4_method_8_code 18 = .ok (.iaload, 1) := by decide +kernel
theorem d_Reader_depthAt_19 : decode prog_4_method_8_code 19 = .ok (.goto 4, 3) := by decide +kernel
theorem d_Reader_depthAt_22 : decode prog_4_method_8_code 22 = .ok (.iconst 0, 1) := by decide +kernel
theorem d_Reader_depthAt_23 : decode prog_4_method_8_code 23 = .ok (.ireturn, 1) := by decide +kernel
theorem d_Reader_setDepth_0 : decode prog_4_method_9_code 0 = .ok (.iload_n 1, 1) := by decide +kernel
theorem d_Reader_setDepth_1 : decode prog_4_method_9_code 1 = .ok (.ifCond .lt 19, 3) := by decide +kernel
theorem d_Reader_setDepth_4 : decode prog_4_method_9_code 4 = .ok (.iload_n 1, 1) := by decide +kernel
theorem d_Reader_setDepth_5 : decode prog_4_method_9_code 5 = .ok (.aload_n 0, 1) := by decide +kernel
theorem d_Reader_setDepth_6 : decode prog_4_method_9_code 6 = .ok (.getfield 9, 3) := by decide +kernel
theorem d_Reader_setDepth_9 : decode prog_4_method_9_code 9 = .ok (.arraylength, 1) := by decide +kernel
theorem d_Reader_setDepth_10 : decode prog_4_method_9_code 10 = .ok (.if_icmp .ge 10, 3) := by decide +kernel
theorem d_Reader_setDepth_13 : decode prog_4_method_9_code 13 = .ok (.aload_n 0, 1) := by decide +kernel
theorem d_Reader_setDepth_14 : decode prog_4_method_9_code 14 = .ok (.getfield 9, 3) := by decide +kernel
theorem d_Reader_setDepth_17 : decode prog_4_method_9_code 17 = .ok (.iload_n 1, 1) := by decide +kernel
theorem d_Reader_setDepth_18 : decode prog_4_method_9_code 18 = .ok (.iload_n 2, 1) := by decide +kernel
theorem d_Reader_setDepth_19 : decode prog_4_method_9_code 19 = .ok (.iastore, 1) := by decide +kernel
theorem d_Reader_setDepth_20 : decode prog_4_method_9_code 20 = .ok (.return_, 1) := by decide +kernel
theorem d_Reader_isClosed_0 : decode prog_4_method_10_code 0 = .ok (.aload_n 0, 1) := by decide +kernel
theorem d_Reader_isClosed_1 : decode prog_4_method_10_code 1 = .ok (.aload_n 1, 1) := by decide +kernel
theorem d_Reader_isClosed_2 : decode prog_4_method_10_code 2 = .ok (.invokevirtual 78, 3) := by decide +kernel
theorem d_Reader_isClosed_5 : decode prog_4_method_10_code 5 = .ok (.iconst 0, 1) := by decide +kernel
theorem d_Reader_isClosed_6 : decode prog_4_method_10_code 6 = .ok (.istore_n 2, 1) := by decide +kernel
theorem d_Reader_isClosed_7 : decode prog_4_method_10_code 7 = .ok (.iload_n 2, 1) := by decide +kernel
theorem d_Reader_isClosed_8 : decode prog_4_method_10_code 8 = .ok (.aload_n 1, 1) := by decide +kernel
theorem d_Reader_isClosed_9 : decode prog_4_method_10_code 9 = .ok (.invokevirtual 71, 3) := by decide +kernel
theorem d_Reader_isClosed_12 : decode prog_4_method_10_code 12 = .ok (.if_icmp .ge 32, 3) := by decide +kernel
theorem d_Reader_isClosed_15 : decode prog_4_method_10_code 15 = .ok (.aload_n 1, 1) := by decide +kernel
theorem d_Reader_isClosed_16 : decode prog_4_method_10_code 16 = .ok (.iload_n 2, 1) := by decide +kernel
theorem d_Reader_isClosed_17 : decode prog_4_method_10_code 17 = .ok (.invokevirtual 26, 3) := by decide +kernel
theorem d_Reader_isClosed_20 : decode prog_4_method_10_code 20 = .ok (.ifCond .ne 18, 3) := by decide +kernel
theorem d_Reader_isClosed_23 : decode prog_4_method_10_code 23 = .ok (.aload_n 1, 1) := by decide +kernel
theorem d_Reader_isClosed_24 : decode prog_4_method_10_code 24 = .ok (.iload_n 2, 1) := by decide +kernel
theorem d_Reader_isClosed_25 : decode prog_4_method_10_code 25 = .ok (.invokevirtual 46, 3) := by decide +kernel
theorem d_Reader_isClosed_28 : decode prog_4_method_10_code 28 = .ok (.aload_n 0, 1) := by decide +kernel
theorem d_Reader_isClosed_29 : decode prog_4_method_10_code 29 = .ok (.iload_n 2, 1) := by decide +kernel
theorem d_Reader_isClosed_30 : decode prog_4_method_10_code 30 = .ok (.invokevirtual 75, 3) := by decide +kernel
theorem d_Reader_isClosed_33 : decode prog_4_method_10_code 33 = .ok (.if_icmp .lt 5, 3) := by decide +kernel
theorem d_Reader_isClosed_36 : decode prog_4_method_10_code 36 = .ok (.iconst 0, 1) := by decide +kernel
theorem d_Reader_isClosed_37 : decode prog_4_method_10_code 37 = .ok (.ireturn, 1) := by decide +kernel
theorem d_Reader_isClosed_38 : decode prog_4_method_10_code 38 = .ok (.iinc 2 1, 3) := by decide +kernel
theorem d_Reader_isClosed_41 : decode prog_4_method_10_code 41 = .ok (.goto (-34), 3) := by decide +kernel
theorem d_Reader_isClosed_44 : decode prog_4_method_10_code 44 = .ok (.iconst 1, 1) := by decide +kernel
theorem d_Reader_isClosed_45 : decode prog_4_method_10_code 45 = .ok (.ireturn, 1) := by decide +kernel
theorem d_Register_init_0 : decode prog_5_method_1_code 0 = .ok (.aload_n 0, 1) := by decide +kernel
theorem d_Register_init_1 : decode prog_5_method_1_code 1 = .ok (.invokespecial 3, 3) := by decide +kernel
theorem d_Register_init_4 : decode prog_5_method_1_code 4 = .ok (.aload_n 0, 1) := by decide +kernel
theorem d_Register_init_5 : decode prog_5_method_1_code 5 = .ok (.bipush 100, 2) := by decide +kernel
theorem d_Register_init_7 : decode prog_5_method_1_code 7 = .ok (.anewarray 9, 3) := by decide +kernel
theorem d_Register_init_10 : decode prog_5_method_1_code 10 = .ok (.putfield 11, 3) := by decide +kernel
theorem d_Register_init_13 : decode prog_5_method_1_code 13 = .ok (.return_, 1) := by decide +kernel
theorem d_Register_find_0 : decode prog_5_method_2_code 0 = .ok (.iload_n 1, 1) := by decide +kernel
theorem d_Register_find_1 : decode prog_5_method_2_code 1 = .ok (.ifCond .lt 29, 3) := by decide +kernel
theorem d_Register_find_4 : decode prog_5_method_2_code 4 = .ok (.iload_n 1, 1) := by decide +kernel
theorem d_Register_find_5 : decode prog_5_method_2_code 5 = .ok (.aload_n 0, 1) := by decide +kernel
theorem d_Register_find_6 : decode prog_5_method_2_code 6 = .ok (.getfield 17, 3) := by decide +kernel
theorem d_Register_find_9 : decode prog_5_method_2_code 9 = .ok (.if_icmp .ge 21, 3) := by decide +kernel
theorem d_Register_find_12 : decode prog_5_method_2_code 12 = .ok (.iload_n 1, 1) := by decide +kernel
theorem d_Register_find_13 : decode prog_5_method_2_code 13 = .ok (.aload_n 0, 1) := by decide +kernel
theorem d_Register_find_14 : decode prog_5_method_2_code 14 = .ok (.getfield 11, 3) := by decide +kernel
theorem d_Register_find_17 : decode prog_5_method_2_code 17 = .ok (.arraylength, 1) := by decide +kernel
theorem d_Register_find_18 : decode prog_5_method_2_code 18 = .ok (.if_icmp .ge 12, 3) := by decide +kernel
theorem d_Register_find_21 : decode prog_5_method_2_code 21 = .ok (.aload_n 0, 1) := by decide +kernel
theorem d_Register_find_22 : decode prog_5_method_2_code 22 = .ok (.getfield 11, 3) := by decide +kernel
theorem d_Register_find_25 : decode prog_5_method_2_code 25 = .ok (.iload_n 1, 1) := by decide +kernel
theorem d_Register_find_26 : decode prog_5_method_2_code 26 = .ok (.aaload, 1) := by decide +kernel
theorem d_Register_find_27 : decode prog_5_method_2_code 27 = .ok (.goto 4, 3) := by decide +kernel
theorem d_Register_find_30 : decode prog_5_method_2_code 30 = .ok (.aconst_null, 1) := by decide +kernel
theorem d_Register_find_31 : decode prog_5_method_2_code 31 = .ok (.areturn, 1) := by decide +kernel
theorem d_Register_findFamily_0 : decode prog_5_method_3_code 0 = .ok (.aload_n 0, 1) := by decide +kernel
theorem d_Register_findFamily_1 : decode prog_5_method_3_code 1 = .ok (.iload_n 1, 1) := by decide +kernel
theorem d_Register_findFamily_2 : decode prog_5_method_3_code 2 = .ok (.invokevirtual 21, 3) := by decide +kernel
theorem d_Register_findFamily_5 : decode prog_5_method_3_code 5 = .ok (.astore_n 2, 1) := by decide +kernel
theorem d_Register_findFamily_6 : decode prog_5_method_3_code 6 = .ok (.aload_n 2, 1) := by decide +kernel
theorem d_Register_findFamily_7 : decode prog_5_method_3_code 7 = .ok (.ifnull 15, 3) := by decide +kernel
theorem d_Register_findFamily_10 : decode prog_5_method_3_code 10 = .ok (.aload_n 2, 1) := by decide +kernel
theorem d_Register_findFamily_11 : decode prog_5_method_3_code 11 = .ok (.getfield 25, 3) := by decide +kernel
theorem d_Register_findFamily_14 : decode prog_5_method_3_code 14 = .ok (.iconst 3, 1) := by decide +kernel
theorem d_Register_findFamily_15 : decode prog_5_method_3_code 15 = .ok (.if_icmp .ne 7, 3) := by decide +kernel
theorem d_Register_findFamily_18 : decode prog_5_method_3_code 18 = .ok (.aload_n 2, 1) := by decide +kernel
theorem d_Register_findFamily_19 : decode prog_5_method_3_code 19 = .ok (.goto 4, 3) := by decide +kernel
theorem d_Register_findFamily_22 : decode prog_5_method_3_code 22 = .ok (.aconst_null, 1) := by decide +kernel
theorem d_Register_findFamily_23 : decode prog_5_method_3_code 23 = .ok (.areturn, 1) := by decide +kernel
theorem d_Register_findConstructor_0 : decode prog_5_method_4_code 0 = .ok (.aload_n 0, 1) := by decide +kernel
theorem d_Register_findConstructor_1 : decode prog_5_method_4_code 1 = .ok (.iload_n 1, 1) := by decide +kernel
theorem d_Register_findConstructor_2 : decode prog_5_method_4_code 2 = .ok (.invokevirtual 21, 3) := by decide +kernel
theorem d_Register_findConstructor_5 : decode prog_5_method_4_code 5 = .ok (.astore_n 2, 1) := by decide +kernel
theorem d_Register_findConstructor_6 : decode prog_5_method_4_code 6 = .ok (.aload_n 2, 1) := by decide +kernel
theorem d_Register_findConstructor_7 : decode prog_5_method_4_code 7 = .ok (.ifnull 15, 3) := by decide +kernel
theorem d_Register_findConstructor_10 : decode prog_5_method_4_code 10 = .ok (.aload_n 2, 1) := by decide +kernel
theorem d_Register_findConstructor_11 : decode prog_5_method_4_code 11 = .ok (.getfield 25, 3) := by decide +kernel
theorem d_Register_findConstructor_14 : decode prog_5_method_4_code 14 = .ok (.iconst 4, 1) := by decide +kernel
theorem d_Register_findConstructor_15 : decode prog_5_method_4_code 15 = .ok (.if_icmp .ne 7, 3) := by decide +kernel
theorem d_Register_findConstructor_18 : decode prog_5_method_4_code 18 = .ok (.aload_n 2, 1) := by decide +kernel
theorem d_Register_findConstructor_19 : decode prog_5_method_4_code 19 = .ok (.goto 4, 3) := by decide +kernel
theorem d_Register_findConstructor_22 : decode prog_5_method_4_code 22 = .ok (.aconst_null, 1) := by decide +kernel
theorem d_Register_findConstructor_23 : decode prog_5_method_4_code 23 = .ok (.areturn, 1) := by decide +kernel
theorem d_Register_addAxiom_0 : decode prog_5_method_5_code 0 = .ok (.aload_n 0, 1) := by decide +kernel
theorem d_Register_addAxiom_1 : decode prog_5_method_5_code 1 = .ok (.getfield 17, 3) := by decide +kernel
theorem d_Register_addAxiom_4 : decode prog_5_method_5_code 4 = .ok (.bipush 100, 2) := by decide +kernel
theorem d_Register_addAxiom_6 : decode prog_5_method_5_code 6 = .ok (.if_icmp .ge 25, 3) := by decide +kernel
theorem d_Register_addAxiom_9 : decode prog_5_method_5_code 9 = .ok (.aload_n 0, 1) := by decide +kernel
theorem d_Register_addAxiom_10 : decode prog_5_method_5_code 10 = .ok (.new 9, 3) := by decide +kernel
theorem d_Register_addAxiom_13 : decode prog_5_method_5_code 13 = .ok (.dup, 1) := by decide +kernel
theorem d_Register_addAxiom_14 : decode prog_5_method_5_code 14 = .ok (.aload_n 0, 1) := by decide +kernel
theorem d_Register_addAxiom_15 : decode prog_5_method_5_code 15 = .ok (.getfield 17, 3) := by decide +kernel
theorem d_Register_addAxiom_18 : decode prog_5_method_5_code 18 = .ok (.iconst 0, 1) := by decide +kernel
theorem d_Register_addAxiom_19 : decode prog_5_method_5_code 19 = .ok (.iconst 0, 1) := by decide +kernel
theorem d_Register_addAxiom_20 : decode prog_5_method_5_code 20 = .ok (.iconst 0, 1) := by decide +kernel
theorem d_Register_addAxiom_21 : decode prog_5_method_5_code 21 = .ok (.iconst 0, 1) := by decide +kernel
theorem d_Register_addAxiom_22 : decode prog_5_method_5_code 22 = .ok (.invokespecial 28, 3) := by decide +kernel
theorem d_Register_addAxiom_25 : decode prog_5_method_5_code 25 = .ok (.invokevirtual 31, 3) := by decide +kernel
theorem d_Register_addAxiom_28 : decode prog_5_method_5_code 28 = .ok (.goto 4, 3) := by decide +kernel
theorem d_Register_addAxiom_31 : decode prog_5_method_5_code 31 = .ok (.iconst (-1), 1) := by decide +kernel
theorem d_Register_addAxiom_32 : decode prog_5_method_5_code 32 = .ok (.ireturn, 1) := by decide +kernel
theorem d_Register_addFamily_0 : decode prog_5_method_6_code 0 = .ok (.iload 4, 2) := by decide +kernel
theorem d_Register_addFamily_2 : decode prog_5_method_6_code 2 = .ok (.ifCond .lt 17, 3) := by decide +kernel
theorem d_Register_addFamily_5 : decode prog_5_method_6_code 5 = .ok (.aload_n 0, 1) := by decide +kernel
theorem d_Register_addFamily_6 : decode prog_5_method_6_code 6 = .ok (.getfield 17, 3) := by decide +kernel
theorem d_Register_addFamily_9 : decode prog_5_method_6_code 9 = .ok (.iconst 1, 1) := by decide +kernel
theorem d_Register_addFamily_10 : decode prog_5_method_6_code 10 = .ok (.iadd, 1) := by decide +kernel
theorem d_Register_addFamily_11 : decode prog_5_method_6_code 11 = .ok (.iload 4, 2) := by decide +kernel
theorem d_Register_addFamily_13 : decode prog_5_method_6_code 13 = .ok (.iadd, 1) := by decide +kernel
theorem d_Register_addFamily_14 : decode prog_5_method_6_code 14 = .ok (.bipush 100, 2) := by decide +kernel
theorem d_Register_addFamily_16 : decode prog_5_method_6_code 16 = .ok (.if_icmp .le 5, 3) := by decide +kernel
theorem d_Register_addFamily_19 : decode prog_5_method_6_code 19 = .ok (.iconst (-1), 1) := by decide +kernel
theorem d_Register_addFamily_20 : decode prog_5_method_6_code 20 = .ok (.ireturn, 1) := by decide +kernel
theorem d_Register_addFamily_21 : decode prog_5_method_6_code 21 = .ok (.new 9, 3) := by decide +kernel
theorem d_Register_addFamily_24 : decode prog_5_method_6_code 24 = .ok (.dup, 1) := by decide +kernel
theorem d_Register_addFamily_25 : decode prog_5_method_6_code 25 = .ok (.aload_n 0, 1) := by decide +kernel
theorem d_Register_addFamily_26 : decode prog_5_method_6_code 26 = .ok (.getfield 17, 3) := by decide +kernel
theorem d_Register_addFamily_29 : decode prog_5_method_6_code 29 = .ok (.iconst 3, 1) := by decide +kernel
theorem d_Register_addFamily_30 : decode prog_5_method_6_code 30 = .ok (.iload_n 2, 1) := by decide +kernel
theorem d_Register_addFamily_31 : decode prog_5_method_6_code 31 = .ok (.iload_n 3, 1) := by decide +kernel
theorem d_Register_addFamily_32 : decode prog_5_method_6_code 32 = .ok (.iload 4, 2) := by decide +kernel
theorem d_Register_addFamily_34 : decode prog_5_method_6_code 34 = .ok (.invokespecial 28, 3) := by decide +kernel
theorem d_Register_addFamily_37 : decode prog_5_method_6_code 37 = .ok (.astore 5, 2) := by decide +kernel
theorem d_Register_addFamily_39 : decode prog_5_method_6_code 39 = .ok (.aload 5, 2) := by decide +kernel
theorem d_Register_addFamily_41 : decode prog_5_method_6_code 41 = .ok (.aload_n 1, 1) := by decide +kernel
theorem d_Register_addFamily_42 : decode prog_5_method_6_code 42 = .ok (.putfield 35, 3) := by decide +kernel
theorem d_Register_addFamily_45 : decode prog_5_method_6_code 45 = .ok (.aload 5, 2) := by decide +kernel
theorem d_Register_addFamily_47 : decode prog_5_method_6_code 47 = .ok (.iload 4, 2) := by decide +kernel
theorem d_Register_addFamily_49 : decode prog_5_method_6_code 49 = .ok (.anewarray 9, 3) := by decide +kernel
theorem d_Register_addFamily_52 : decode prog_5_method_6_code 52 = .ok (.putfield 39, 3) := by decide +kernel
theorem d_Register_addFamily_55 : decode prog_5_method_6_code 55 = .ok (.aload_n 0, 1) := by decide +kernel
theorem d_Register_addFamily_56 : decode prog_5_method_6_code 56 = .ok (.aload 5, 2) := by decide +kernel
theorem d_Register_addFamily_58 : decode prog_5_method_6_code 58 = .ok (.invokevirtual 31, 3) := by decide +kernel
theorem d_Register_addFamily_61 : decode prog_5_method_6_code 61 = .ok (.istore 6, 2) := by decide +kernel
theorem d_Register_addFamily_63 : decode prog_5_method_6_code 63 = .ok (.iconst 0, 1) := by decide +kernel
theorem d_Register_addFamily_64 : decode prog_5_method_6_code 64 = .ok (.istore 7, 2) := by decide +kernel
theorem d_Register_addFamily_66 : decode prog_5_method_6_code 66 = .ok (.iload 7, 2) := by decide +kernel
theorem d_Register_addFamily_68 : decode prog_5_method_6_code 68 = .ok (.iload 4, 2) := by decide +kernel
theorem d_Register_addFamily_70 : decode prog_5_method_6_code 70 = .ok (.if_icmp .ge 51, 3) := by decide +kernel
theorem d_Register_addFamily_73 : decode prog_5_method_6_code 73 = .ok (.new 9, 3) := by decide +kernel
theorem d_Register_addFamily_76 : decode prog_5_method_6_code 76 = .ok (.dup, 1) := by decide +kernel
theorem d_Register_addFamily_77 : decode prog_5_method_6_code 77 = .ok (.aload_n 0, 1) := by decide +kernel
theorem d_Register_addFamily_78 : decode prog_5_method_6_code 78 = .ok (.getfield 17, 3) := by decide +kernel
theorem d_Register_addFamily_81 : decode prog_5_method_6_code 81 = .ok (.iconst 4, 1) := by decide +kernel
theorem d_Register_addFamily_82 : decode prog_5_method_6_code 82 = .ok (.iload_n 2, 1) := by decide +kernel
theorem d_Register_addFamily_83 : decode prog_5_method_6_code 83 = .ok (.iload_n 3, 1) := by decide +kernel
theorem d_Register_addFamily_84 : decode prog_5_method_6_code 84 = .ok (.iload 7, 2) := by decide +kernel
theorem d_Register_addFamily_86 : decode prog_5_method_6_code 86 = .ok (.invokespecial 28, 3) := by decide +kernel
theorem d_Register_addFamily_89 : decode prog_5_method_6_code 89 = .ok (.astore 8, 2) := by decide +kernel
theorem d_Register_addFamily_91 : decode prog_5_method_6_code 91 = .ok (.aload 8, 2) := by decide +kernel
theorem d_Register_addFamily_93 : decode prog_5_method_6_code 93 = .ok (.aload 5, 2) := by decide +kernel
theorem d_Register_addFamily_95 : decode prog_5_method_6_code 95 = .ok (.putfield 42, 3) := by decide +kernel
theorem d_Register_addFamily_98 : decode prog_5_method_6_code 98 = .ok (.aload 5, 2) := by decide +kernel
theorem d_Register_addFamily_100 : decode prog_5_method_6_code 100 = .ok (.getfield 39, 3) := by decide +kernel
theorem d_Register_addFamily_103 : decode prog_5_method_6_code 103 = .ok (.iload 7, 2) := by decide +kernel
theorem d_Register_addFamily_105 : decode prog_5_method_6_code 105 = .ok (.aload 8, 2) := by decide +kernel
theorem d_Register_addFamily_107 : decode prog_5_method_6_code 107 = .ok (.aastore, 1) := by decide +kernel
theorem d_Register_addFamily_108 : decode prog_5_method_6_code 108 = .ok (.aload_n 0, 1) := by decide +kernel
theorem d_Register_addFamily_109 : decode prog_5_method_6_code 109 = .ok (.aload 8, 2) := by decide +kernel
theorem d_Register_addFamily_111 : decode prog_5_method_6_code 111 = .ok (.invokevirtual 31, 3) := by decide +kernel
theorem d_Register_addFamily_114 : decode prog_5_method_6_code 114 = .ok (.pop, 1) := by decide +kernel
theorem d_Register_addFamily_115 : decode prog_5_method_6_code 115 = .ok (.iinc 7 1, 3) := by decide +kernel
theorem d_Register_addFamily_118 : decode prog_5_method_6_code 118 = .ok (.goto (-52), 3) := by decide +kernel
theorem d_Register_addFamily_121 : decode prog_5_method_6_code 121 = .ok (.iload 6, 2) := by decide +kernel
theorem d_Register_addFamily_123 : decode prog_5_method_6_code 123 = .ok (.ireturn, 1) := by decide +kernel
theorem d_Register_enter_0 : decode prog_5_method_7_code 0 = .ok (.aload_n 0, 1) := by decide +kernel
theorem d_Register_enter_1 : decode prog_5_method_7_code 1 = .ok (.getfield 17, 3) := by decide +kernel
theorem d_Register_enter_4 : decode prog_5_method_7_code 4 = .ok (.ifCond .lt 15, 3) := by decide +kernel
theorem d_Register_enter_7 : decode prog_5_method_7_code 7 = .ok (.aload_n 0, 1) := by decide +kernel
theorem d_Register_enter_8 : decode prog_5_method_7_code 8 = .ok (.getfield 17, 3) := by decide +kernel
theorem d_Register_enter_11 : decode prog_5_method_7_code 11 = .ok (.aload_n 0, 1) := by decide +kernel
theorem d_Register_enter_12 : decode prog_5_method_7_code 12 = .ok (.getfield 11, 3) := by decide +kernel
theorem d_Register_enter_15 : decode prog_5_method_7_code 15 = .ok (.arraylength, 1) := by decide +kernel
theorem d_Register_enter_16 : decode prog_5_method_7_code 16 = .ok (.if_icmp .lt 5, 3) := by decide +kernel
theorem d_Register_enter_19 : decode prog_5_method_7_code 19 = .ok (.iconst (-1), 1) := by decide +kernel
theorem d_Register_enter_20 : decode prog_5_method_7_code 20 = .ok (.ireturn, 1) := by decide +kernel
theorem d_Register_enter_21 : decode prog_5_method_7_code 21 = .ok (.aload_n 0, 1) := by decide +kernel
theorem d_Register_enter_22 : decode prog_5_method_7_code 22 = .ok (.getfield 11, 3) := by decide +kernel
theorem d_Register_enter_25 : decode prog_5_method_7_code 25 = .ok (.aload_n 0, 1) := by decide +kernel
theorem d_Register_enter_26 : decode prog_5_method_7_code 26 = .ok (.getfield 17, 3) := by decide +kernel
theorem d_Register_enter_29 : decode prog_5_method_7_code 29 = .ok (.aload_n 1, 1) := by decide +kernel
theorem d_Register_enter_30 : decode prog_5_method_7_code 30 = .ok (.aastore, 1) := by decide +kernel
theorem d_Register_enter_31 : decode prog_5_method_7_code 31 = .ok (.aload_n 0, 1) := by decide +kernel
theorem d_Register_enter_32 : decode prog_5_method_7_code 32 = .ok (.dup, 1) := by decide +kernel
theorem d_Register_enter_33 : decode prog_5_method_7_code 33 = .ok (.getfield 17, 3) := by decide +kernel
theorem d_Register_enter_36 : decode prog_5_method_7_code 36 = .ok (.iconst 1, 1) := by decide +kernel
theorem d_Register_enter_37 : decode prog_5_method_7_code 37 = .ok (.iadd, 1) := by decide +kernel
theorem d_Register_enter_38 : decode prog_5_method_7_code 38 = .ok (.putfield 17, 3) := by decide +kernel
theorem d_Register_enter_41 : decode prog_5_method_7_code 41 = .ok (.aload_n 0, 1) := by decide +kernel
theorem d_Register_enter_42 : decode prog_5_method_7_code 42 = .ok (.getfield 17, 3) := by decide +kernel
theorem d_Register_enter_45 : decode prog_5_method_7_code 45 = .ok (.iconst 1, 1) := by decide +kernel
theorem d_Register_enter_46 : decode prog_5_method_7_code 46 = .ok (.isub, 1) := by decide +kernel
theorem d_Register_enter_47 : decode prog_5_method_7_code 47 = .ok (.ireturn, 1) := by decide +kernel
theorem d_Shelf_init_0 : decode prog_6_method_1_code 0 = .ok (.aload_n 0, 1) := by decide +kernel
theorem d_Shelf_init_1 : decode prog_6_method_1_code 1 = .ok (.invokespecial 3, 3) := by decide +kernel
theorem d_Shelf_init_4 : decode prog_6_method_1_code 4 = .ok (.aload_n 0, 1) := by decide +kernel
theorem d_Shelf_init_5 : decode prog_6_method_1_code 5 = .ok (.sipush 1500, 3) := by decide +kernel
theorem d_Shelf_init_8 : decode prog_6_method_1_code 8 = .ok (.anewarray 9, 3) := by decide +kernel
theorem d_Shelf_init_11 : decode prog_6_method_1_code 11 = .ok (.putfield 11, 3) := by decide +kernel
theorem d_Shelf_init_14 : decode prog_6_method_1_code 14 = .ok (.return_, 1) := by decide +kernel
theorem d_Shelf_find_0 : decode prog_6_method_2_code 0 = .ok (.iload_n 1, 1) := by decide +kernel
theorem d_Shelf_find_1 : decode prog_6_method_2_code 1 = .ok (.ifCond .lt 29, 3) := by decide +kernel
theorem d_Shelf_find_4 : decode prog_6_method_2_code 4 = .ok (.iload_n 1, 1) := by decide +kernel
theorem d_Shelf_find_5 : decode prog_6_method_2_code 5 = .ok (.aload_n 0, 1) := by decide +kernel
theorem d_Shelf_find_6 : decode prog_6_method_2_code 6 = .ok (.getfield 17, 3) := by decide +kernel
theorem d_Shelf_find_9 : decode prog_6_method_2_code 9 = .ok (.if_icmp .ge 21, 3) := by decide +kernel
theorem d_Shelf_find_12 : decode prog_6_method_2_code 12 = .ok (.iload_n 1, 1) := by decide +kernel
theorem d_Shelf_find_13 : decode prog_6_method_2_code 13 = .ok (.aload_n 0, 1) := by decide +kernel
theorem d_Shelf_find_14 : decode prog_6_method_2_code 14 = .ok (.getfield 11, 3) := by decide +kernel
theorem d_Shelf_find_17 : decode prog_6_method_2_code 17 = .ok (.arraylength, 1) := by decide +kernel
theorem d_Shelf_find_18 : decode prog_6_method_2_code 18 = .ok (.if_icmp .ge 12, 3) := by decide +kernel
theorem d_Shelf_find_21 : decode prog_6_method_2_code 21 = .ok (.aload_n 0, 1) := by decide +kernel
theorem d_Shelf_find_22 : decode prog_6_method_2_code 22 = .ok (.getfield 11, 3) := by decide +kernel
theorem d_Shelf_find_25 : decode prog_6_method_2_code 25 = .ok (.iload_n 1, 1) := by decide +kernel
theorem d_Shelf_find_26 : decode prog_6_method_2_code 26 = .ok (.aaload, 1) := by decide +kernel
theorem d_Shelf_find_27 : decode prog_6_method_2_code 27 = .ok (.goto 4, 3) := by decide +kernel
theorem d_Shelf_find_30 : decode prog_6_method_2_code 30 = .ok (.aconst_null, 1) := by decide +kernel
theorem d_Shelf_find_31 : decode prog_6_method_2_code 31 = .ok (.areturn, 1) := by decide +kernel
theorem d_Shelf_blank_0 : decode prog_6_method_3_code 0 = .ok (.iload_n 1, 1) := by decide +kernel
theorem d_Shelf_blank_1 : decode prog_6_method_3_code 1 = .ok (.iconst 1, 1) := by decide +kernel
theorem d_Shelf_blank_2 : decode prog_6_method_3_code 2 = .ok (.if_icmp .lt 36, 3) := by decide +kernel
theorem d_Shelf_blank_5 : decode prog_6_method_3_code 5 = .ok (.iload_n 1, 1) := by decide +kernel
theorem d_Shelf_blank_6 : decode prog_6_method_3_code 6 = .ok (.sipush 1000, 3) := by decide +kernel
theorem d_Shelf_blank_9 : decode prog_6_method_3_code 9 = .ok (.if_icmp .gt 29, 3) := by decide +kernel
theorem d_Shelf_blank_12 : decode prog_6_method_3_code 12 = .ok (.iload_n 1, 1) := by decide +kernel
theorem d_Shelf_blank_13 : decode prog_6_method_3_code 13 = .ok (.sipush 30000, 3) := by decide +kernel
theorem d_Shelf_blank_16 : decode prog_6_method_3_code 16 = .ok (.aload_n 0, 1) := by decide +kernel
theorem d_Shelf_blank_17 : decode prog_6_method_3_code 17 = .ok (.getfield 21, 3) := by decide +kernel
theorem d_Shelf_blank_20 : decode prog_6_method_3_code 20 = .ok (.isub, 1) := by decide +kernel
theorem d_Shelf_blank_21 : decode prog_6_method_3_code 21 = .ok (.if_icmp .gt 17, 3) := by decide +kernel
theorem d_Shelf_blank_24 : decode prog_6_method_3_code 24 = .ok (.aload_n 0, 1) := by decide +kernel
theorem d_Shelf_blank_25 : decode prog_6_method_3_code 25 = .ok (.getfield 17, 3) := by decide +kernel
theorem d_Shelf_blank_28 : decode prog_6_method_3_code 28 = .ok (.sipush 1500, 3) := by decide +kernel
theorem d_Shelf_blank_31 : decode prog_6_method_3_code 31 = .ok (.if_icmp .ge 7, 3) := by decide +kernel
theorem d_Shelf_blank_34 : decode prog_6_method_3_code 34 = .ok (.iconst 1, 1) := by decide +kernel
theorem d_Shelf_blank_35 : decode prog_6_method_3_code 35 = .ok (.goto 4, 3) := by decide +kernel
theorem d_Shelf_blank_38 : decode prog_6_method_3_code 38 = .ok (.iconst 0, 1) := by decide +kernel
theorem d_Shelf_blank_39 : decode prog_6_method_3_code 39 = .ok (.istore_n 2, 1) := by decide +kernel
theorem d_Shelf_blank_40 : decode prog_6_method_3_code 40 = .ok (.iload_n 2, 1) := by decide +kernel
theorem d_Shelf_blank_41 : decode prog_6_method_3_code 41 = .ok (.ifCond .eq 14, 3) := by decide +kernel
theorem d_Shelf_blank_44 : decode prog_6_method_3_code 44 = .ok (.new 9, 3) := by decide +kernel
theorem d_Shelf_blank_47 : decode prog_6_method_3_code 47 = .ok (.dup, 1) := by decide +kernel
theorem d_Shelf_blank_48 : decode prog_6_method_3_code 48 = .ok (.iload_n 1, 1) := by decide +kernel
theorem d_Shelf_blank_49 : decode prog_6_method_3_code 49 = .ok (.invokespecial 24, 3) := by decide +kernel
theorem d_Shelf_blank_52 : decode prog_6_method_3_code 52 = .ok (.goto 4, 3) := by decide +kernel
theorem d_Shelf_blank_55 : decode prog_6_method_3_code 55 = .ok (.aconst_null, 1) := by decide +kernel
theorem d_Shelf_blank_56 : decode prog_6_method_3_code 56 = .ok (.areturn, 1) := by decide +kernel
theorem d_Shelf_keep_0 : decode prog_6_method_4_code 0 = .ok (.aload_n 0, 1) := by decide +kernel
theorem d_Shelf_keep_1 : decode prog_6_method_4_code 1 = .ok (.getfield 17, 3) := by decide +kernel
theorem d_Shelf_keep_4 : decode prog_6_method_4_code 4 = .ok (.ifCond .lt 15, 3) := by decide +kernel
theorem d_Shelf_keep_7 : decode prog_6_method_4_code 7 = .ok (.aload_n 0, 1) := by decide +kernel
theorem d_Shelf_keep_8 : decode prog_6_method_4_code 8 = .ok (.getfield 17, 3) := by decide +kernel
theorem d_Shelf_keep_11 : decode prog_6_method_4_code 11 = .ok (.aload_n 0, 1) := by decide +kernel
theorem d_Shelf_keep_12 : decode prog_6_method_4_code 12 = .ok (.getfield 11, 3) := by decide +kernel
theorem d_Shelf_keep_15 : decode prog_6_method_4_code 15 = .ok (.arraylength, 1) := by decide +kernel
theorem d_Shelf_keep_16 : decode prog_6_method_4_code 16 = .ok (.if_icmp .lt 5, 3) := by decide +kernel
theorem d_Shelf_keep_19 : decode prog_6_method_4_code 19 = .ok (.iconst (-1), 1) := by decide +kernel
theorem d_Shelf_keep_20 : decode prog_6_method_4_code 20 = .ok (.ireturn, 1) := by decide +kernel
theorem d_Shelf_keep_21 : decode prog_6_method_4_code 21 = .ok (.aload_n 0, 1) := by decide +kernel
theorem d_Shelf_keep_22 : decode prog_6_method_4_code 22 = .ok (.getfield 11, 3) := by decide +kernel
theorem d_Shelf_keep_25 : decode prog_6_method_4_code 25 = .ok (.aload_n 0, 1) := by decide +kernel
theorem d_Shelf_keep_26 : decode prog_6_method_4_code 26 = .ok (.getfield 17, 3) := by decide +kernel
theorem d_Shelf_keep_29 : decode prog_6_method_4_code 29 = .ok (.aload_n 1, 1) := by decide +kernel
theorem d_Shelf_keep_30 : decode prog_6_method_4_code 30 = .ok (.aastore, 1) := by decide +kernel
theorem d_Shelf_keep_31 : decode prog_6_method_4_code 31 = .ok (.aload_n 0, 1) := by decide +kernel
theorem d_Shelf_keep_32 : decode prog_6_method_4_code 32 = .ok (.dup, 1) := by decide +kernel
theorem d_Shelf_keep_33 : decode prog_6_method_4_code 33 = .ok (.getfield 21, 3) := by decide +kernel
theorem d_Shelf_keep_36 : decode prog_6_method_4_code 36 = .ok (.aload_n 1, 1) := by decide +kernel
theorem d_Shelf_keep_37 : decode prog_6_method_4_code 37 = .ok (.invokevirtual 27, 3) := by decide +kernel
theorem d_Shelf_keep_40 : decode prog_6_method_4_code 40 = .ok (.iadd, 1) := by decide +kernel
theorem d_Shelf_keep_41 : decode prog_6_method_4_code 41 = .ok (.putfield 21, 3) := by decide +kernel
theorem d_Shelf_keep_44 : decode prog_6_method_4_code 44 = .ok (.aload_n 0, 1) := by decide +kernel
theorem d_Shelf_keep_45 : decode prog_6_method_4_code 45 = .ok (.dup, 1) := by decide +kernel
theorem d_Shelf_keep_46 : decode prog_6_method_4_code 46 = .ok (.getfield 17, 3) := by decide +kernel
theorem d_Shelf_keep_49 : decode prog_6_method_4_code 49 = .ok (.iconst 1, 1) := by decide +kernel
theorem d_Shelf_keep_50 : decode prog_6_method_4_code 50 = .ok (.iadd, 1) := by decide +kernel
theorem d_Shelf_keep_51 : decode prog_6_method_4_code 51 = .ok (.putfield 17, 3) := by decide +kernel
theorem d_Shelf_keep_54 : decode prog_6_method_4_code 54 = .ok (.aload_n 0, 1) := by decide +kernel
theorem d_Shelf_keep_55 : decode prog_6_method_4_code 55 = .ok (.getfield 17, 3) := by decide +kernel
theorem d_Shelf_keep_58 : decode prog_6_method_4_code 58 = .ok (.iconst 1, 1) := by decide +kernel
theorem d_Shelf_keep_59 : decode prog_6_method_4_code 59 = .ok (.isub, 1) := by decide +kernel
theorem d_Shelf_keep_60 : decode prog_6_method_4_code 60 = .ok (.ireturn, 1) := by decide +kernel
theorem d_Term_init_0 : decode prog_7_method_1_code 0 = .ok (.aload_n 0, 1) := by decide +kernel
theorem d_Term_init_1 : decode prog_7_method_1_code 1 = .ok (.invokespecial 3, 3) := by decide +kernel
theorem d_Term_init_4 : decode prog_7_method_1_code 4 = .ok (.iload_n 1, 1) := by decide +kernel
theorem d_Term_init_5 : decode prog_7_method_1_code 5 = .ok (.iconst 1, 1) := by decide +kernel
theorem d_Term_init_6 : decode prog_7_method_1_code 6 = .ok (.invokestatic 9, 3) := by decide +kernel
theorem d_Term_init_9 : decode prog_7_method_1_code 9 = .ok (.istore_n 2, 1) := by decide +kernel
theorem d_Term_init_10 : decode prog_7_method_1_code 10 = .ok (.aload_n 0, 1) := by decide +kernel
theorem d_Term_init_11 : decode prog_7_method_1_code 11 = .ok (.iload_n 2, 1) := by decide +kernel
theorem d_Term_init_12 : decode prog_7_method_1_code 12 = .ok (.newarray .int, 2) := by decide +kernel
theorem d_Term_init_14 : decode prog_7_method_1_code 14 = .ok (.putfield 15, 3) := by decide +kernel
theorem d_Term_init_17 : decode prog_7_method_1_code 17 = .ok (.aload_n 0, 1) := by decide +kernel
theorem d_Term_init_18 : decode prog_7_method_1_code 18 = .ok (.iload_n 2, 1) := by decide +kernel
theorem d_Term_init_19 : decode prog_7_method_1_code 19 = .ok (.newarray .int, 2) := by decide +kernel
theorem d_Term_init_21 : decode prog_7_method_1_code 21 = .ok (.putfield 21, 3) := by decide +kernel
theorem d_Term_init_24 : decode prog_7_method_1_code 24 = .ok (.aload_n 0, 1) := by decide +kernel
theorem d_Term_init_25 : decode prog_7_method_1_code 25 = .ok (.iload_n 2, 1) := by decide +kernel
theorem d_Term_init_26 : decode prog_7_method_1_code 26 = .ok (.newarray .int, 2) := by decide +kernel
theorem d_Term_init_28 : decode prog_7_method_1_code 28 = .ok (.putfield 24, 3) := by decide +kernel
theorem d_Term_init_31 : decode prog_7_method_1_code 31 = .ok (.aload_n 0, 1) := by decide +kernel
theorem d_Term_init_32 : decode prog_7_method_1_code 32 = .ok (.iload_n 2, 1) := by decide +kernel
theorem d_Term_init_33 : decode prog_7_method_1_code 33 = .ok (.newarray .int, 2) := by decide +kernel
theorem d_Term_init_35 : decode prog_7_method_1_code 35 = .ok (.putfield 27, 3) := by decide +kernel
theorem d_Term_init_38 : decode prog_7_method_1_code 38 = .ok (.aload_n 0, 1) := by decide +kernel
theorem d_Term_init_39 : decode prog_7_method_1_code 39 = .ok (.getfield 27, 3) := by decide +kernel
theorem d_Term_init_42 : decode prog_7_method_1_code 42 = .ok (.iconst 0, 1) := by decide +kernel
theorem d_Term_init_43 : decode prog_7_method_1_code 43 = .ok (.iconst 1, 1) := by decide +kernel
theorem d_Term_init_44 : decode prog_7_method_1_code 44 = .ok (.iastore, 1) := by decide +kernel
theorem d_Term_init_45 : decode prog_7_method_1_code 45 = .ok (.return_, 1) := by decide +kernel
theorem d_Term_length_0 : decode prog_7_method_2_code 0 = .ok (.aload_n 0, 1) := by decide +kernel
theorem d_Term_length_1 : decode prog_7_method_2_code 1 = .ok (.getfield 15, 3) := by decide +kernel
theorem d_Term_length_4 : decode prog_7_method_2_code 4 = .ok (.arraylength, 1) := by decide +kernel
theorem d_Term_length_5 : decode prog_7_method_2_code 5 = .ok (.ireturn, 1) := by decide +kernel
theorem d_Term_has_0 : decode prog_7_method_3_code 0 = .ok (.iload_n 1, 1) := by decide +kernel
theorem d_Term_has_1 : decode prog_7_method_3_code 1 = .ok (.ifCond .lt 16, 3) := by decide +kernel
theorem d_Term_has_4 : decode prog_7_method_3_code 4 = .ok (.iload_n 1, 1) := by decide +kernel
theorem d_Term_has_5 : decode prog_7_method_3_code 5 = .ok (.aload_n 0, 1) := by decide +kernel
theorem d_Term_has_6 : decode prog_7_method_3_code 6 = .ok (.getfield 15, 3) := by decide +kernel
theorem d_Term_has_9 : decode prog_7_method_3_code 9 = .ok (.arraylength, 1) := by decide +kernel
theorem d_Term_has_10 : decode prog_7_method_3_code 10 = .ok (.if_icmp .ge 7, 3) := by decide +kernel
theorem d_Term_has_13 : decode prog_7_method_3_code 13 = .ok (.iconst 1, 1) := by decide +kernel
theorem d_Term_has_14 : decode prog_7_method_3_code 14 = .ok (.goto 4, 3) := by decide +kernel
theorem d_Term_has_17 : decode prog_7_method_3_code 17 = .ok (.iconst 0, 1) := by decide +kernel
theorem d_Term_has_18 : decode prog_7_method_3_code 18 = .ok (.ireturn, 1) := by decide +kernel
theorem d_Term_kindAt_0 : decode prog_7_method_4_code 0 = .ok (.iload_n 1, 1) := by decide +kernel
theorem d_Term_kindAt_1 : decode prog_7_method_4_code 1 = .ok (.ifCond .lt 21, 3) := by decide +kernel
theorem d_Term_kindAt_4 : decode prog_7_method_4_code 4 = .ok (.iload_n 1, 1) := by decide +kernel
theorem d_Term_kindAt_5 : decode prog_7_method_4_code 5 = .ok (.aload_n 0, 1) := by decide +kernel
theorem d_Term_kindAt_6 : decode prog_7_method_4_code 6 = .ok (.getfield 15, 3) := by decide +kernel
theorem d_Term_kindAt_9 : decode prog_7_method_4_code 9 = .ok (.arraylength, 1) := by decide +kernel
theorem d_Term_kindAt_10 : decode prog_7_method_4_code 10 = .ok (.if_icmp .ge 12, 3) := by decide +kernel
theorem d_Term_kindAt_13 : decode prog_7_method_4_code 13 = .ok (.aload_n 0, 1) := by decide +kernel
theorem d_Term_kindAt_14 : decode prog_7_method_4_code 14 = .ok (.getfield 15, 3) := by decide +kernel
theorem d_Term_kindAt_17 : decode prog_7_method_4_code 17 = .ok (.iload_n 1, 1) := by decide +kernel
theorem d_Term_kindAt_18 : decode prog_7_method_4_code 18 = .ok (.iaload, 1) := by decide +kernel
theorem d_Term_kindAt_19 : decode prog_7_method_4_code 19 = .ok (.goto 4, 3) := by decide +kernel
theorem d_Term_kindAt_22 : decode prog_7_method_4_code 22 = .ok (.iconst (-1), 1) := by decide +kernel
theorem d_Term_kindAt_23 : decode prog_7_method_4_code 23 = .ok (.ireturn, 1) := by decide +kernel
theorem d_Term_numberAt_0 : decode prog_7_method_5_code 0 = .ok (.iload_n 1, 1) := by decide +kernel
theorem d_Term_numberAt_1 : decode prog_7_method_5_code 1 = .ok (.ifCond .lt 21, 3) := by decide +kernel
theorem d_Term_numberAt_4 : decode prog_7_method_5_code 4 = .ok (.iload_n 1, 1) := by decide +kernel
theorem d_Term_numberAt_5 : decode prog_7_method_5_code 5 = .ok (.aload_n 0, 1) := by decide +kernel
theorem d_Term_numberAt_6 : decode prog_7_method_5_code 6 = .ok (.getfield 21, 3) := by decide +kernel
theorem d_Term_numberAt_9 : decode prog_7_method_5_code 9 = .ok (.arraylength, 1) := by decide +kernel
theorem d_Term_numberAt_10 : decode prog_7_method_5_code 10 = .ok (.if_icmp .ge 12, 3) := by decide +kernel
theorem d_Term_numberAt_13 : decode prog_7_method_5_code 13 = .ok (.aload_n 0, 1) := by decide +kernel
theorem d_Term_numberAt_14 : decode prog_7_method_5_code 14 = .ok (.getfield 21, 3) := by decide +kernel
theorem d_Term_numberAt_17 : decode prog_7_method_5_code 17 = .ok (.iload_n 1, 1) := by decide +kernel
theorem d_Term_numberAt_18 : decode prog_7_method_5_code 18 = .ok (.iaload, 1) := by decide +kernel
theorem d_Term_numberAt_19 : decode prog_7_method_5_code 19 = .ok (.goto 4, 3) := by decide +kernel
theorem d_Term_numberAt_22 : decode prog_7_method_5_code 22 = .ok (.iconst (-1), 1) := by decide +kernel
theorem d_Term_numberAt_23 : decode prog_7_method_5_code 23 = .ok (.ireturn, 1) := by decide +kernel
theorem d_Term_sortAt_0 : decode prog_7_method_6_code 0 = .ok (.iload_n 1, 1) := by decide +kernel
theorem d_Term_sortAt_1 : decode prog_7_method_6_code 1 = .ok (.ifCond .lt 21, 3) := by decide +kernel
theorem d_Term_sortAt_4 : decode prog_7_method_6_code 4 = .ok (.iload_n 1, 1) := by decide +kernel
theorem d_Term_sortAt_5 : decode prog_7_method_6_code 5 = .ok (.aload_n 0, 1) := by decide +kernel
theorem d_Term_sortAt_6 : decode prog_7_method_6_code 6 = .ok (.getfield 24, 3) := by decide +kernel
theorem d_Term_sortAt_9 : decode prog_7_method_6_code 9 = .ok (.arraylength, 1) := by decide +kernel
theorem d_Term_sortAt_10 : decode prog_7_method_6_code 10 = .ok (.if_icmp .ge 12, 3) := by decide +kernel
theorem d_Term_sortAt_13 : decode prog_7_method_6_code 13 = .ok (.aload_n 0, 1) := by decide +kernel
theorem d_Term_sortAt_14 : decode prog_7_method_6_code 14 = .ok (.getfield 24, 3) := by decide +kernel
theorem d_Term_sortAt_17 : decode prog_7_method_6_code 17 = .ok (.iload_n 1, 1) := by decide +kernel
theorem d_Term_sortAt_18 : decode prog_7_method_6_code 18 = .ok (.iaload, 1) := by decide +kernel
theorem d_Term_sortAt_19 : decode prog_7_method_6_code 19 = .ok (.goto 4, 3) := by decide +kernel
theorem d_Term_sortAt_22 : decode prog_7_method_6_code 22 = .ok (.iconst (-1), 1) := by decide +kernel
theorem d_Term_sortAt_23 : decode prog_7_method_6_code 23 = .ok (.ireturn, 1) := by decide +kernel
theorem d_Term_nodesAt_0 : decode prog_7_method_7_code 0 = .ok (.iload_n 1, 1) := by decide +kernel
theorem d_Term_nodesAt_1 : decode prog_7_method_7_code 1 = .ok (.ifCond .lt 21, 3) := by decide +kernel
theorem d_Term_nodesAt_4 : decode prog_7_method_7_code 4 = .ok (.iload_n 1, 1) := by decide +kernel
theorem d_Term_nodesAt_5 : decode prog_7_method_7_code 5 = .ok (.aload_n 0, 1) := by decide +kernel
theorem d_Term_nodesAt_6 : decode prog_7_method_7_code 6 = .ok (.getfield 27, 3) := by decide +kernel
theorem d_Term_nodesAt_9 : decode prog_7_method_7_code 9 = .ok (.arraylength, 1) := by decide +kernel
theorem d_Term_nodesAt_10 : decode prog_7_method_7_code 10 = .ok (.if_icmp .ge 12, 3) := by decide +kernel
theorem d_Term_nodesAt_13 : decode prog_7_method_7_code 13 = .ok (.aload_n 0, 1) := by decide +kernel
theorem d_Term_nodesAt_14 : decode prog_7_method_7_code 14 = .ok (.getfield 27, 3) := by decide +kernel
theorem d_Term_nodesAt_17 : decode prog_7_method_7_code 17 = .ok (.iload_n 1, 1) := by decide +kernel
theorem d_Term_nodesAt_18 : decode prog_7_method_7_code 18 = .ok (.iaload, 1) := by decide +kernel
theorem d_Term_nodesAt_19 : decode prog_7_method_7_code 19 = .ok (.goto 4, 3) := by decide +kernel
theorem d_Term_nodesAt_22 : decode prog_7_method_7_code 22 = .ok (.iconst 0, 1) := by decide +kernel
theorem d_Term_nodesAt_23 : decode prog_7_method_7_code 23 = .ok (.ireturn, 1) := by decide +kernel
theorem d_Term_secondOf_0 : decode prog_7_method_8_code 0 = .ok (.iload_n 1, 1) := by decide +kernel
theorem d_Term_secondOf_1 : decode prog_7_method_8_code 1 = .ok (.iconst 1, 1) := by decide +kernel
theorem d_Term_secondOf_2 : decode prog_7_method_8_code 2 = .ok (.iadd, 1) := by decide +kernel
theorem d_Term_secondOf_3 : decode prog_7_method_8_code 3 = .ok (.aload_n 0, 1) := by decide +kernel
theorem d_Term_secondOf_4 : decode prog_7_method_8_code 4 = .ok (.iload_n 1, 1) := by decide +kernel
theorem d_Term_secondOf_5 : decode prog_7_method_8_code 5 = .ok (.iconst 1, 1) := by decide +kernel
theorem d_Term_secondOf_6 : decode prog_7_method_8_code 6 = .ok (.iadd, 1) := by decide +kernel
theorem d_Term_secondOf_7 : decode prog_7_method_8_code 7 = .ok (.invokevirtual 30, 3) := by decide +kernel
theorem d_Term_secondOf_10 : decode prog_7_method_8_code 10 = .ok (.iadd, 1) := by decide +kernel
theorem d_Term_secondOf_11 : decode prog_7_method_8_code 11 = .ok (.ireturn, 1) := by decide +kernel
theorem d_Term_behindAlls_0 : decode prog_7_method_9_code 0 = .ok (.iconst 0, 1) := by decide +kernel
theorem d_Term_behindAlls_1 : decode prog_7_method_9_code 1 = .ok (.istore_n 2, 1) := by decide +kernel
theorem d_Term_behindAlls_2 : decode prog_7_method_9_code 2 = .ok (.iconst 0, 1) := by decide +kernel
theorem d_Term_behindAlls_3 : decode prog_7_method_9_code 3 = .ok (.istore_n 3, 1) := by decide +kernel
theorem d_Term_behindAlls_4 : decode prog_7_method_9_code 4 = .ok (.iload_n 3, 1) := by decide +kernel
theorem d_Term_behindAlls_5 : decode prog_7_method_9_code 5 = .ok (.iload_n 1, 1) := by decide +kernel
theorem d_Term_behindAlls_6 : decode prog_7_method_9_code 6 = .ok (.if_icmp .ge 15, 3) := by decide +kernel
theorem d_Term_behindAlls_9 : decode prog_7_method_9_code 9 = .ok (.aload_n 0, 1) := by decide +kernel
theorem d_Term_behindAlls_10 : decode prog_7_method_9_code 10 = .ok (.iload_n 2, 1) := by decide +kernel
theorem d_Term_behindAlls_11 : decode prog_7_method_9_code 11 = .ok (.invokevirtual 34, 3) := by decide +kernel
theorem d_Term_behindAlls_14 : decode prog_7_method_9_code 14 = .ok (.istore_n 2, 1) := by decide +kernel
theorem d_Term_behindAlls_15 : decode prog_7_method_9_code 15 = .ok (.iinc 3 1, 3) := by decide +kernel
theorem d_Term_behindAlls_18 : decode prog_7_method_9_code 18 = .ok (.goto (-14), 3) := by decide +kernel
theorem d_Term_behindAlls_21 : decode prog_7_method_9_code 21 = .ok (.iload_n 2, 1) := by decide +kernel
theorem d_Term_behindAlls_22 : decode prog_7_method_9_code 22 = .ok (.ireturn, 1) := by decide +kernel
theorem d_Term_set_0 : decode prog_7_method_10_code 0 = .ok (.iload_n 1, 1) := by decide +kernel
theorem d_Term_set_1 : decode prog_7_method_10_code 1 = .ok (.ifCond .lt 34, 3) := by decide +kernel
theorem d_Term_set_4 : decode prog_7_method_10_code 4 = .ok (.iload_n 1, 1) := by decide +kernel
theorem d_Term_set_5 : decode prog_7_method_10_code 5 = .ok (.aload_n 0, 1) := by decide +kernel
theorem d_Term_set_6 : decode prog_7_method_10_code 6 = .ok (.getfield 15, 3) := by decide +kernel
theorem d_Term_set_9 : decode prog_7_method_10_code 9 = .ok (.arraylength, 1) := by decide +kernel
theorem d_Term_set_10 : decode prog_7_method_10_code 10 = .ok (.if_icmp .ge 25, 3) := by decide +kernel
theorem d_Term_set_13 : decode prog_7_method_10_code 13 = .ok (.aload_n 0, 1) := by decide +kernel
theorem d_Term_set_14 : decode prog_7_method_10_code 14 = .ok (.getfield 15, 3) := by decide +kernel
theorem d_Term_set_17 : decode prog_7_method_10_code 17 = .ok (.iload_n 1, 1) := by decide +kernel
theorem d_Term_set_18 : decode prog_7_method_10_code 18 = .ok (.iload_n 2, 1) := by decide +kernel
theorem d_Term_set_19 : decode prog_7_method_10_code 19 = .ok (.iastore, 1) := by decide +kernel
theorem d_Term_set_20 : decode prog_7_method_10_code 20 = .ok (.aload_n 0, 1) := by decide +kernel
theorem d_Term_set_21 : decode prog_7_method_10_code 21 = .ok (.getfield 21, 3) := by decide +kernel
theorem d_Term_set_24 : decode prog_7_method_10_code 24 = .ok (.iload_n 1, 1) := by decide +kernel
theorem d_Term_set_25 : decode prog_7_method_10_code 25 = .ok (.iload_n 3, 1) := by decide +kernel
theorem d_Term_set_26 : decode prog_7_method_10_code 26 = .ok (.iastore, 1) := by decide +kernel
theorem d_Term_set_27 : decode prog_7_method_10_code 27 = .ok (.aload_n 0, 1) := by decide +kernel
theorem d_Term_set_28 : decode prog_7_method_10_code 28 = .ok (.getfield 24, 3) := by decide +kernel
theorem d_Term_set_31 : decode prog_7_method_10_code 31 = .ok (.iload_n 1, 1) := by decide +kernel
theorem d_Term_set_32 : decode prog_7_method_10_code 32 = .ok (.iload 4, 2) := by decide +kernel
theorem d_Term_set_34 : decode prog_7_method_10_code 34 = .ok (.iastore, 1) := by decide +kernel
theorem d_Term_set_35 : decode prog_7_method_10_code 35 = .ok (.return_, 1) := by decide +kernel
theorem d_Term_paste_0 : decode prog_7_method_11_code 0 = .ok (.aload_n 1, 1) := by decide +kernel
theorem d_Term_paste_1 : decode prog_7_method_11_code 1 = .ok (.invokevirtual 37, 3) := by decide +kernel
theorem d_Term_paste_4 : decode prog_7_method_11_code 4 = .ok (.istore_n 3, 1) := by decide +kernel
theorem d_Term_paste_5 : decode prog_7_method_11_code 5 = .ok (.iload_n 2, 1) := by decide +kernel
theorem d_Term_paste_6 : decode prog_7_method_11_code 6 = .ok (.ifCond .lt 56, 3) := by decide +kernel
theorem d_Term_paste_9 : decode prog_7_method_11_code 9 = .ok (.iload_n 2, 1) := by decide +kernel
theorem d_Term_paste_10 : decode prog_7_method_11_code 10 = .ok (.aload_n 0, 1) := by decide +kernel
theorem d_Term_paste_11 : decode prog_7_method_11_code 11 = .ok (.getfield 15, 3) := by decide +kernel
theorem d_Term_paste_14 : decode prog_7_method_11_code 14 = .ok (.arraylength, 1) := by decide +kernel
theorem d_Term_paste_15 : decode prog_7_method_11_code 15 = .ok (.iload_n 3, 1) := by decide +kernel
theorem d_Term_paste_16 : decode prog_7_method_11_code 16 = .ok (.isub, 1) := by decide +kernel
theorem d_Term_paste_17 : decode prog_7_method_11_code 17 = .ok (.if_icmp .gt 45, 3) := by decide +kernel
theorem d_Term_paste_20 : decode prog_7_method_11_code 20 = .ok (.aload_n 1, 1) := by decide +kernel
theorem d_Term_paste_21 : decode prog_7_method_11_code 21 = .ok (.getfield 15, 3) := by decide +kernel
theorem d_Term_paste_24 : decode prog_7_method_11_code 24 = .ok (.iconst 0, 1) := by decide +kernel
theorem d_Term_paste_25 : decode prog_7_method_11_code 25 = .ok (.aload_n 0, 1) := by decide +kernel
theorem d_Term_paste_26 : decode prog_7_method_11_code 26 = .ok (.getfield 15, 3) := by decide +kernel
theorem d_Term_paste_29 : decode prog_7_method_11_code 29 = .ok (.iload_n 2, 1) := by decide +kernel
theorem d_Term_paste_30 : decode prog_7_method_11_code 30 = .ok (.iload_n 3, 1) := by decide +kernel
theorem d_Term_paste_31 : decode prog_7_method_11_code 31 = .ok (.invokestatic 41, 3) := by decide +kernel
theorem d_Term_paste_34 : decode prog_7_method_11_code 34 = .ok (.aload_n 1, 1) := by decide +kernel
theorem d_Term_paste_35 : decode prog_7_method_11_code 35 = .ok (.getfield 21, 3) := by decide +kernel
theorem d_Term_paste_38 : decode prog_7_method_11_code 38 = .ok (.iconst 0, 1) := by decide +kernel
theorem d_Term_paste_39 : decode prog_7_method_11_code 39 = .ok (.aload_n 0, 1) := by decide +kernel
theorem d_Term_paste_40 : decode prog_7_method_11_code 40 = .ok (.getfield 21, 3) := by decide +kernel
theorem d_Term_paste_43 : decode prog_7_method_11_code 43 = .ok (.iload_n 2, 1) := by decide +kernel
theorem d_Term_paste_44 : decode prog_7_method_11_code 44 = .ok (.iload_n 3, 1) := by decide +kernel
theorem d_Term_paste_45 : decode prog_7_method_11_code 45 = .ok (.invokestatic 41, 3) := by decide +kernel
theorem d_Term_paste_48 : decode prog_7_method_11_code 48 = .ok (.aload_n 1, 1) := by decide +kernel
theorem d_Term_paste_49 : decode prog_7_method_11_code 49 = .ok (.getfield 24, 3) := by decide +kernel
theorem d_Term_paste_52 : decode prog_7_method_11_code 52 = .ok (.iconst 0, 1) := by decide +kernel
theorem d_Term_paste_53 : decode prog_7_method_11_code 53 = .ok (.aload_n 0, 1) := by decide +kernel
theorem d_Term_paste_54 : decode prog_7_method_11_code 54 = .ok (.getfield 24, 3) := by decide +kernel
theorem d_Term_paste_57 : decode prog_7_method_11_code 57 = .ok (.iload_n 2, 1) := by decide +kernel
theorem d_Term_paste_58 : decode prog_7_method_11_code 58 = .ok (.iload_n 3, 1) := by decide +kernel
theorem d_Term_paste_59 : decode prog_7_method_11_code 59 = .ok (.invokestatic 41, 3) := by decide +kernel
theorem d_Term_paste_62 : decode prog_7_method_11_code 62 = .ok (.return_, 1) := by decide +kernel
theorem d_Term_countNodes_0 : decode prog_7_method_12_code 0 = .ok (.aload_n 0, 1) := by decide +kernel
theorem d_Term_countNodes_1 : decode prog_7_method_12_code 1 = .ok (.getfield 15, 3) := by decide +kernel
theorem d_Term_countNodes_4 : decode prog_7_method_12_code 4 = .ok (.arraylength, 1) := by decide +kernel
theorem d_Term_countNodes_5 : decode prog_7_method_12_code 5 = .ok (.iconst 1, 1) := by decide +kernel
theorem d_Term_countNodes_6 : decode prog_7_method_12_code 6 = .ok (.isub, 1) := by decide +kernel
theorem d_Term_countNodes_7 : decode prog_7_method_12_code 7 = .ok (.istore_n 1, 1) := by decide +kernel
theorem d_Term_countNodes_8 : decode prog_7_method_12_code 8 = .ok (.iload_n 1, 1) := by decide +kernel
theorem d_Term_countNodes_9 : decode prog_7_method_12_code 9 = .ok (.ifCond .lt 50, 3) := by decide +kernel
theorem d_Term_countNodes_12 : decode prog_7_method_12_code 12 = .ok (.iconst 0, 1) := by decide +kernel
theorem d_Term_countNodes_13 : decode prog_7_method_12_code 13 = .ok (.istore_n 2, 1) := by decide +kernel
theorem d_Term_countNodes_14 : decode prog_7_method_12_code 14 = .ok (.aload_n 0, 1) := by decide +kernel
theorem d_Term_countNodes_15 : decode prog_7_method_12_code 15 = .ok (.getfield 15, 3) := by decide +kernel
theorem d_Term_countNodes_18 : decode prog_7_method_12_code 18 = .ok (.iload_n 1, 1) := by decide +kernel
theorem d_Term_countNodes_19 : decode prog_7_method_12_code 19 = .ok (.iaload, 1) := by decide +kernel
theorem d_Term_countNodes_20 : decode prog_7_method_12_code 20 = .ok (.iconst 4, 1) := by decide +kernel
theorem d_Term_countNodes_21 : decode prog_7_method_12_code 21 = .ok (.if_icmp .lt 23, 3) := by decide +kernel
theorem d_Term_countNodes_24 : decode prog_7_method_12_code 24 = .ok (.aload_n 0, 1) := by decide +kernel
theorem d_Term_countNodes_25 : decode prog_7_method_12_code 25 = .ok (.iload_n 1, 1) := by decide +kernel
theorem d_Term_countNodes_26 : decode prog_7_method_12_code 26 = .ok (.iconst 1, 1) := by decide +kernel
theorem d_Term_countNodes_27 : decode prog_7_method_12_code 27 = .ok (.iadd, 1) := by decide +kernel
theorem d_Term_countNodes_28 : decode prog_7_method_12_code 28 = .ok (.invokevirtual 30, 3) := by decide +kernel
theorem d_Term_countNodes_31 : decode prog_7_method_12_code 31 = .ok (.istore_n 3, 1) := by decide +kernel
theorem d_Term_countNodes_32 : decode prog_7_method_12_code 32 = .ok (.iload_n 3, 1) := by decide +kernel
theorem d_Term_countNodes_33 : decode prog_7_method_12_code 33 = .ok (.aload_n 0, 1) := by decide +kernel
theorem d_Term_countNodes_34 : decode prog_7_method_12_code 34 = .ok (.iload_n 1, 1) := by decide +kernel
theorem d_Term_countNodes_35 : decode prog_7_method_12_code 35 = .ok (.iconst 1, 1) := by decide +kernel
theorem d_Term_countNodes_36 : decode prog_7_method_12_code 36 = .ok (.iadd, 1) := by decide +kernel
theorem d_Term_countNodes_37 : decode prog_7_method_12_code 37 = .ok (.iload_n 3, 1) := by decide +kernel
theorem d_Term_countNodes_38 : decode prog_7_method_12_code 38 = .ok (.iadd, 1) := by decide +kernel
theorem d_Term_countNodes_39 : decode prog_7_method_12_code 39 = .ok (.invokevirtual 30, 3) := by decide +kernel
theorem d_Term_countNodes_42 : decode prog_7_method_12_code 42 = .ok (.iadd, 1) := by decide +kernel
theorem d_Term_countNodes_43 : decode prog_7_method_12_code 43 = .ok (.istore_n 2, 1) := by decide +kernel
theorem d_Term_countNodes_44 : decode prog_7_method_12_code 44 = .ok (.aload_n 0, 1) := by decide +kernel
theorem d_Term_countNodes_45 : decode prog_7_method_12_code 45 = .ok (.getfield 27, 3) := by decide +kernel
theorem d_Term_countNodes_48 : decode prog_7_method_12_code 48 = .ok (.iload_n 1, 1) := by decide +kernel
theorem d_Term_countNodes_49 : decode prog_7_method_12_code 49 = .ok (.iconst 1, 1) := by decide +kernel
theorem d_Term_countNodes_50 : decode prog_7_method_12_code 50 = .ok (.iload_n 2, 1) := by decide +kernel
theorem d_Term_countNodes_51 : decode prog_7_method_12_code 51 = .ok (.iadd, 1) := by decide +kernel
theorem d_Term_countNodes_52 : decode prog_7_method_12_code 52 = .ok (.iastore, 1) := by decide +kernel
theorem d_Term_countNodes_53 : decode prog_7_method_12_code 53 = .ok (.iinc 1 (-1), 3) := by decide +kernel
theorem d_Term_countNodes_56 : decode prog_7_method_12_code 56 = .ok (.goto (-48), 3) := by decide +kernel
theorem d_Term_countNodes_59 : decode prog_7_method_12_code 59 = .ok (.return_, 1) := by decide +kernel
theorem d_Term_countFamily_0 : decode prog_7_method_13_code 0 = .ok (.iconst 0, 1) := by decide +kernel
theorem d_Term_countFamily_1 : decode prog_7_method_13_code 1 = .ok (.istore 4, 2) := by decide +kernel
theorem d_Term_countFamily_3 : decode prog_7_method_13_code 3 = .ok (.iload_n 2, 1) := by decide +kernel
theorem d_Term_countFamily_4 : decode prog_7_method_13_code 4 = .ok (.istore 5, 2) := by decide +kernel
theorem d_Term_countFamily_6 : decode prog_7_method_13_code 6 = .ok (.iload 5, 2) := by decide +kernel
theorem d_Term_countFamily_8 : decode prog_7_method_13_code 8 = .ok (.iload_n 3, 1) := by decide +kernel
theorem d_Term_countFamily_9 : decode prog_7_method_13_code 9 = .ok (.if_icmp .ge 42, 3) := by decide +kernel
theorem d_Term_countFamily_12 : decode prog_7_method_13_code 12 = .ok (.aload_n 0, 1) := by decide +kernel
theorem d_Term_countFamily_13 : decode prog_7_method_13_code 13 = .ok (.iload 5, 2) := by decide +kernel
theorem d_Term_countFamily_15 : decode prog_7_method_13_code 15 = .ok (.invokevirtual 47, 3) := by decide +kernel
theorem d_Term_countFamily_18 : decode prog_7_method_13_code 18 = .ok (.istore 6, 2) := by decide +kernel
theorem d_Term_countFamily_20 : decode prog_7_method_13_code 20 = .ok (.iload 6, 2) := by decide +kernel
theorem d_Term_countFamily_22 : decode prog_7_method_13_code 22 = .ok (.iconst 1, 1) := by decide +kernel
theorem d_Term_countFamily_23 : decode prog_7_method_13_code 23 = .ok (.if_icmp .eq 9, 3) := by decide +kernel
theorem d_Term_countFamily_26 : decode prog_7_method_13_code 26 = .ok (.iload 6, 2) := by decide +kernel
theorem d_Term_countFamily_28 : decode prog_7_method_13_code 28 = .ok (.iconst 3, 1) := by decide +kernel
theorem d_Term_countFamily_29 : decode prog_7_method_13_code 29 = .ok (.if_icmp .ne 16, 3) := by decide +kernel
theorem d_Term_countFamily_32 : decode prog_7_method_13_code 32 = .ok (.aload_n 0, 1) := by decide +kernel
theorem d_Term_countFamily_33 : decode prog_7_method_13_code 33 = .ok (.iload 5, 2) := by decide +kernel
theorem d_Term_countFamily_35 : decode prog_7_method_13_code 35 = .ok (.invokevirtual 50, 3) := by decide +kernel
theorem d_Term_countFamily_38 : decode prog_7_method_13_code 38 = .ok (.iload_n 1, 1) := by decide +kernel
theorem d_Term_countFamily_39 : decode prog_7_method_13_code 39 = .ok (.if_icmp .ne 6, 3) := by decide +kernel
theorem d_Term_countFamily_42 : decode prog_7_method_13_code 42 = .ok (.iinc 4 1, 3) := by decide +kernel
theorem d_Term_countFamily_45 : decode prog_7_method_13_code 45 = .ok (.iinc 5 1, 3) := by decide +kernel
theorem d_Term_countFamily_48 : decode prog_7_method_13_code 48 = .ok (.goto (-42), 3) := by decide +kernel
theorem d_Term_countFamily_51 : decode prog_7_method_13_code 51 = .ok (.iload 4, 2) := by decide +kernel
theorem d_Term_countFamily_53 : decode prog_7_method_13_code 53 = .ok (.ireturn, 1) := by decide +kernel
theorem d_Law_law_0 : decode code 0 = .ok (.new 7, 3) := by decide +kernel
theorem d_Law_law_3 : decode code 3 = .ok (.dup, 1) := by decide +kernel
theorem d_Law_law_4 : decode code 4 = .ok (.invokespecial 9, 3) := by decide +kernel
theorem d_Law_law_7 : decode code 7 = .ok (.astore_n 1, 1) := by decide +kernel
theorem d_Law_law_8 : decode code 8 = .ok (.new 10, 3) := by decide +kernel
theorem d_Law_law_11 : decode code 11 = .ok (.dup, 1) := by decide +kernel
theorem d_Law_law_12 : decode code 12 = .ok (.invokespecial 12, 3) := by decide +kernel
theorem d_Law_law_15 : decode code 15 = .ok (.astore_n 2, 1) := by decide +kernel
theorem d_Law_law_16 : decode code 16 = .ok (.iconst 0, 1) := by decide +kernel
theorem d_Law_law_17 : decode code 17 = .ok (.istore_n 3, 1) := by decide +kernel
theorem d_Law_law_18 : decode code 18 = .ok (.iload_n 3, 1) := by decide +kernel
theorem d_Law_law_19 : decode code 19 = .ok (.aload_n 0, 1) := by decide +kernel
theorem d_Law_law_20 : decode code 20 = .ok (.arraylength, 1) := by decide +kernel
theorem d_Law_law_21 : decode code 21 = .ok (.iconst 5, 1) := by decide +kernel
theorem d_Law_law_22 : decode code 22 = .ok (.isub, 1) := by decide +kernel
theorem d_Law_law_23 : decode code 23 = .ok (.if_icmp .gt 522, 3) := by decide +kernel
theorem d_Law_law_26 : decode code 26 = .ok (.aload_n 0, 1) := by decide +kernel
theorem d_Law_law_27 : decode code 27 = .ok (.iload_n 3, 1) := by decide +kernel
theorem d_Law_law_28 : decode code 28 = .ok (.iaload, 1) := by decide +kernel
theorem d_Law_law_29 : decode code 29 = .ok (.bipush 15, 2) := by decide +kernel
theorem d_Law_law_31 : decode code 31 = .ok (.iand, 1) := by decide +kernel
theorem d_Law_law_32 : decode code 32 = .ok (.tableswitch 507 0 12 #[68, 111, 144, 197, 210, 253, 286, 319, 362, 395, 418, 451, 464], 68) := by decide +kernel
theorem d_Law_law_100 : decode code 100 = .ok (.aload_n 1, 1) := by decide +kernel
theorem d_Law_law_101 : decode code 101 = .ok (.aload_n 0, 1) := by decide +kernel
theorem d_Law_law_102 : decode code 102 = .ok (.iload_n 3, 1) := by decide +kernel
theorem d_Law_law_103 : decode code 103 = .ok (.iconst 1, 1) := by decide +kernel
theorem d_Law_law_104 : decode code 104 = .ok (.iadd, 1) := by decide +kernel
theorem d_Law_law_105 : decode code 105 = .ok (.iaload, 1) := by decide +kernel
theorem d_Law_law_106 : decode code 106 = .ok (.aload_n 0, 1) := by decide +kernel
theorem d_Law_law_107 : decode code 107 = .ok (.iload_n 3, 1) := by decide +kernel
theorem d_Law_law_108 : decode code 108 = .ok (.iconst 2, 1) := by decide +kernel
theorem d_Law_law_109 : decode code 109 = .ok (.iadd, 1) := by decide +kernel
theorem d_Law_law_110 : decode code 110 = .ok (.iaload, 1) := by decide +kernel
theorem d_Law_law_111 : decode code 111 = .ok (.aload_n 0, 1) := by decide +kernel
theorem d_Law_law_112 : decode code 112 = .ok (.iload_n 3, 1) := by decide +kernel
theorem d_Law_law_113 : decode code 113 = .ok (.iconst 3, 1) := by decide +kernel
theorem d_Law_law_114 : decode code 114 = .ok (.iadd, 1) := by decide +kernel
theorem d_Law_law_115 : decode code 115 = .ok (.iaload, 1) := by decide +kernel
theorem d_Law_law_116 : decode code 116 = .ok (.invokevirtual 13, 3) := by decide +kernel
theorem d_Law_law_119 : decode code 119 = .ok (.aload_n 2, 1) := by decide +kernel
theorem d_Law_law_120 : decode code 120 = .ok (.aload_n 0, 1) := by decide +kernel
theorem d_Law_law_121 : decode code 121 = .ok (.iload_n 3, 1) := by decide +kernel
theorem d_Law_law_122 : decode code 122 = .ok (.iconst 1, 1) := by decide +kernel
theorem d_Law_law_123 : decode code 123 = .ok (.iadd, 1) := by decide +kernel
theorem d_Law_law_124 : decode code 124 = .ok (.iaload, 1) := by decide +kernel
theorem d_Law_law_125 : decode code 125 = .ok (.aload_n 0, 1) := by decide +kernel
theorem d_Law_law_126 : decode code 126 = .ok (.iload_n 3, 1) := by decide +kernel
theorem d_Law_law_127 : decode code 127 = .ok (.iconst 2, 1) := by decide +kernel
theorem d_Law_law_128 : decode code 128 = .ok (.iadd, 1) := by decide +kernel
theorem d_Law_law_129 : decode code 129 = .ok (.iaload, 1) := by decide +kernel
theorem d_Law_law_130 : decode code 130 = .ok (.aload_n 0, 1) := by decide +kernel
theorem d_Law_law_131 : decode code 131 = .ok (.iload_n 3, 1) := by decide +kernel
end
section
/-! decode rows -/
theorem d_Law_law_132 : decode code 132 = .ok (.iconst 3, 1) := by decide +kernel
theorem d_Law_law_133 : decode code 133 = .ok (.iadd, 1) := by decide +kernel
theorem d_Law_law_134 : decode code 134 = .ok (.iaload, 1) := by decide +kernel
theorem d_Law_law_135 : decode code 135 = .ok (.invokevirtual 17, 3) := by decide +kernel
theorem d_Law_law_138 : decode code 138 = .ok (.if_icmp .eq 401, 3) := by decide +kernel
theorem d_Law_law_141 : decode code 141 = .ok (.iconst 0, 1) := by decide +kernel
theorem d_Law_law_142 : decode code 142 = .ok (.ireturn, 1) := by decide +kernel
theorem d_Law_law_143 : decode code 143 = .ok (.aload_n 1, 1) := by decide +kernel
theorem d_Law_law_144 : decode code 144 = .ok (.aload_n 0, 1) := by decide +kernel
theorem d_Law_law_145 : decode code 145 = .ok (.iload_n 3, 1) := by decide +kernel
theorem d_Law_law_146 : decode code 146 = .ok (.iconst 1, 1) := by decide +kernel
theorem d_Law_law_147 : decode code 147 = .ok (.iadd, 1) := by decide +kernel
theorem d_Law_law_148 : decode code 148 = .ok (.iaload, 1) := by decide +kernel
theorem d_Law_law_149 : decode code 149 = .ok (.aload_n 0, 1) := by decide +kernel
theorem d_Law_law_150 : decode code 150 = .ok (.iload_n 3, 1) := by decide +kernel
theorem d_Law_law_151 : decode code 151 = .ok (.iconst 2, 1) := by decide +kernel
theorem d_Law_law_152 : decode code 152 = .ok (.iadd, 1) := by decide +kernel
theorem d_Law_law_153 : decode code 153 = .ok (.iaload, 1) := by decide +kernel
theorem d_Law_law_154 : decode code 154 = .ok (.invokevirtual 18, 3) := by decide +kernel
theorem d_Law_law_157 : decode code 157 = .ok (.aload_n 2, 1) := by decide +kernel
theorem d_Law_law_158 : decode code 158 = .ok (.aload_n 0, 1) := by decide +kernel
theorem d_Law_law_159 : decode code 159 = .ok (.iload_n 3, 1) := by decide +kernel
theorem d_Law_law_160 : decode code 160 = .ok (.iconst 1, 1) := by decide +kernel
theorem d_Law_law_161 : decode code 161 = .ok (.iadd, 1) := by decide +kernel
theorem d_Law_law_162 : decode code 162 = .ok (.iaload, 1) := by decide +kernel
theorem d_Law_law_163 : decode code 163 = .ok (.aload_n 0, 1) := by decide +kernel
theorem d_Law_law_164 : decode code 164 = .ok (.iload_n 3, 1) := by decide +kernel
theorem d_Law_law_165 : decode code 165 = .ok (.iconst 2, 1) := by decide +kernel
theorem d_Law_law_166 : decode code 166 = .ok (.iadd, 1) := by decide +kernel
theorem d_Law_law_167 : decode code 167 = .ok (.iaload, 1) := by decide +kernel
theorem d_Law_law_168 : decode code 168 = .ok (.invokevirtual 22, 3) := by decide +kernel
theorem d_Law_law_171 : decode code 171 = .ok (.if_icmp .eq 368, 3) := by decide +kernel
theorem d_Law_law_174 : decode code 174 = .ok (.iconst 0, 1) := by decide +kernel
theorem d_Law_law_175 : decode code 175 = .ok (.ireturn, 1) := by decide +kernel
theorem d_Law_law_176 : decode code 176 = .ok (.aload_n 1, 1) := by decide +kernel
theorem d_Law_law_177 : decode code 177 = .ok (.aload_n 0, 1) := by decide +kernel
theorem d_Law_law_178 : decode code 178 = .ok (.iload_n 3, 1) := by decide +kernel
theorem d_Law_law_179 : decode code 179 = .ok (.iconst 1, 1) := by decide +kernel
theorem d_Law_law_180 : decode code 180 = .ok (.iadd, 1) := by decide +kernel
theorem d_Law_law_181 : decode code 181 = .ok (.iaload, 1) := by decide +kernel
theorem d_Law_law_182 : decode code 182 = .ok (.aload_n 0, 1) := by decide +kernel
theorem d_Law_law_183 : decode code 183 = .ok (.iload_n 3, 1) := by decide +kernel
theorem d_Law_law_184 : decode code 184 = .ok (.iconst 2, 1) := by decide +kernel
theorem d_Law_law_185 : decode code 185 = .ok (.iadd, 1) := by decide +kernel
theorem d_Law_law_186 : decode code 186 = .ok (.iaload, 1) := by decide +kernel
theorem d_Law_law_187 : decode code 187 = .ok (.aload_n 0, 1) := by decide +kernel
theorem d_Law_law_188 : decode code 188 = .ok (.iload_n 3, 1) := by decide +kernel
theorem d_Law_law_189 : decode code 189 = .ok (.iconst 3, 1) := by decide +kernel
theorem d_Law_law_190 : decode code 190 = .ok (.iadd, 1) := by decide +kernel
theorem d_Law_law_191 : decode code 191 = .ok (.iaload, 1) := by decide +kernel
theorem d_Law_law_192 : decode code 192 = .ok (.aload_n 0, 1) := by decide +kernel
theorem d_Law_law_193 : decode code 193 = .ok (.iload_n 3, 1) := by decide +kernel
theorem d_Law_law_194 : decode code 194 = .ok (.iconst 4, 1) := by decide +kernel
theorem d_Law_law_195 : decode code 195 = .ok (.iadd, 1) := by decide +kernel
theorem d_Law_law_196 : decode code 196 = .ok (.iaload, 1) := by decide +kernel
theorem d_Law_law_197 : decode code 197 = .ok (.invokevirtual 23, 3) := by decide +kernel
theorem d_Law_law_200 : decode code 200 = .ok (.aload_n 2, 1) := by decide +kernel
theorem d_Law_law_201 : decode code 201 = .ok (.aload_n 0, 1) := by decide +kernel
theorem d_Law_law_202 : decode code 202 = .ok (.iload_n 3, 1) := by decide +kernel
theorem d_Law_law_203 : decode code 203 = .ok (.iconst 1, 1) := by decide +kernel
theorem d_Law_law_204 : decode code 204 = .ok (.iadd, 1) := by decide +kernel
theorem d_Law_law_205 : decode code 205 = .ok (.iaload, 1) := by decide +kernel
theorem d_Law_law_206 : decode code 206 = .ok (.aload_n 0, 1) := by decide +kernel
theorem d_Law_law_207 : decode code 207 = .ok (.iload_n 3, 1) := by decide +kernel
theorem d_Law_law_208 : decode code 208 = .ok (.iconst 2, 1) := by decide +kernel
theorem d_Law_law_209 : decode code 209 = .ok (.iadd, 1) := by decide +kernel
theorem d_Law_law_210 : decode code 210 = .ok (.iaload, 1) := by decide +kernel
theorem d_Law_law_211 : decode code 211 = .ok (.aload_n 0, 1) := by decide +kernel
theorem d_Law_law_212 : decode code 212 = .ok (.iload_n 3, 1) := by decide +kernel
theorem d_Law_law_213 : decode code 213 = .ok (.iconst 3, 1) := by decide +kernel
theorem d_Law_law_214 : decode code 214 = .ok (.iadd, 1) := by decide +kernel
theorem d_Law_law_215 : decode code 215 = .ok (.iaload, 1) := by decide +kernel
theorem d_Law_law_216 : decode code 216 = .ok (.aload_n 0, 1) := by decide +kernel
theorem d_Law_law_217 : decode code 217 = .ok (.iload_n 3, 1) := by decide +kernel
theorem d_Law_law_218 : decode code 218 = .ok (.iconst 4, 1) := by decide +kernel
theorem d_Law_law_219 : decode code 219 = .ok (.iadd, 1) := by decide +kernel
theorem d_Law_law_220 : decode code 220 = .ok (.iaload, 1) := by decide +kernel
theorem d_Law_law_221 : decode code 221 = .ok (.invokevirtual 27, 3) := by decide +kernel
theorem d_Law_law_224 : decode code 224 = .ok (.if_icmp .eq 315, 3) := by decide +kernel
theorem d_Law_law_227 : decode code 227 = .ok (.iconst 0, 1) := by decide +kernel
theorem d_Law_law_228 : decode code 228 = .ok (.ireturn, 1) := by decide +kernel
theorem d_Law_law_229 : decode code 229 = .ok (.aload_n 1, 1) := by decide +kernel
theorem d_Law_law_230 : decode code 230 = .ok (.invokevirtual 28, 3) := by decide +kernel
theorem d_Law_law_233 : decode code 233 = .ok (.aload_n 2, 1) := by decide +kernel
theorem d_Law_law_234 : decode code 234 = .ok (.invokevirtual 32, 3) := by decide +kernel
theorem d_Law_law_237 : decode code 237 = .ok (.if_icmp .eq 302, 3) := by decide +kernel
theorem d_Law_law_240 : decode code 240 = .ok (.iconst 0, 1) := by decide +kernel
theorem d_Law_law_241 : decode code 241 = .ok (.ireturn, 1) := by decide +kernel
theorem d_Law_law_242 : decode code 242 = .ok (.aload_n 1, 1) := by decide +kernel
theorem d_Law_law_243 : decode code 243 = .ok (.aload_n 0, 1) := by decide +kernel
theorem d_Law_law_244 : decode code 244 = .ok (.iload_n 3, 1) := by decide +kernel
theorem d_Law_law_245 : decode code 245 = .ok (.iconst 1, 1) := by decide +kernel
theorem d_Law_law_246 : decode code 246 = .ok (.iadd, 1) := by decide +kernel
theorem d_Law_law_247 : decode code 247 = .ok (.iaload, 1) := by decide +kernel
theorem d_Law_law_248 : decode code 248 = .ok (.aload_n 0, 1) := by decide +kernel
theorem d_Law_law_249 : decode code 249 = .ok (.iload_n 3, 1) := by decide +kernel
theorem d_Law_law_250 : decode code 250 = .ok (.iconst 2, 1) := by decide +kernel
theorem d_Law_law_251 : decode code 251 = .ok (.iadd, 1) := by decide +kernel
theorem d_Law_law_252 : decode code 252 = .ok (.iaload, 1) := by decide +kernel
theorem d_Law_law_253 : decode code 253 = .ok (.aload_n 0, 1) := by decide +kernel
theorem d_Law_law_254 : decode code 254 = .ok (.iload_n 3, 1) := by decide +kernel
theorem d_Law_law_255 : decode code 255 = .ok (.iconst 3, 1) := by decide +kernel
theorem d_Law_law_256 : decode code 256 = .ok (.iadd, 1) := by decide +kernel
theorem d_Law_law_257 : decode code 257 = .ok (.iaload, 1) := by decide +kernel
theorem d_Law_law_258 : decode code 258 = .ok (.invokevirtual 33, 3) := by decide +kernel
theorem d_Law_law_261 : decode code 261 = .ok (.aload_n 2, 1) := by decide +kernel
theorem d_Law_law_262 : decode code 262 = .ok (.aload_n 0, 1) := by decide +kernel
theorem d_Law_law_263 : decode code 263 = .ok (.iload_n 3, 1) := by decide +kernel
theorem d_Law_law_264 : decode code 264 = .ok (.iconst 1, 1) := by decide +kernel
theorem d_Law_law_265 : decode code 265 = .ok (.iadd, 1) := by decide +kernel
theorem d_Law_law_266 : decode code 266 = .ok (.iaload, 1) := by decide +kernel
theorem d_Law_law_267 : decode code 267 = .ok (.aload_n 0, 1) := by decide +kernel
theorem d_Law_law_268 : decode code 268 = .ok (.iload_n 3, 1) := by decide +kernel
theorem d_Law_law_269 : decode code 269 = .ok (.iconst 2, 1) := by decide +kernel
theorem d_Law_law_270 : decode code 270 = .ok (.iadd, 1) := by decide +kernel
theorem d_Law_law_271 : decode code 271 = .ok (.iaload, 1) := by decide +kernel
theorem d_Law_law_272 : decode code 272 = .ok (.aload_n 0, 1) := by decide +kernel
theorem d_Law_law_273 : decode code 273 = .ok (.iload_n 3, 1) := by decide +kernel
theorem d_Law_law_274 : decode code 274 = .ok (.iconst 3, 1) := by decide +kernel
theorem d_Law_law_275 : decode code 275 = .ok (.iadd, 1) := by decide +kernel
theorem d_Law_law_276 : decode code 276 = .ok (.iaload, 1) := by decide +kernel
theorem d_Law_law_277 : decode code 277 = .ok (.invokevirtual 36, 3) := by decide +kernel
theorem d_Law_law_280 : decode code 280 = .ok (.if_icmp .eq 259, 3) := by decide +kernel
theorem d_Law_law_283 : decode code 283 = .ok (.iconst 0, 1) := by decide +kernel
theorem d_Law_law_284 : decode code 284 = .ok (.ireturn, 1) := by decide +kernel
theorem d_Law_law_285 : decode code 285 = .ok (.aload_n 1, 1) := by decide +kernel
theorem d_Law_law_286 : decode code 286 = .ok (.aload_n 0, 1) := by decide +kernel
theorem d_Law_law_287 : decode code 287 = .ok (.iload_n 3, 1) := by decide +kernel
theorem d_Law_law_288 : decode code 288 = .ok (.iconst 1, 1) := by decide +kernel
theorem d_Law_law_289 : decode code 289 = .ok (.iadd, 1) := by decide +kernel
theorem d_Law_law_290 : decode code 290 = .ok (.iaload, 1) := by decide +kernel
theorem d_Law_law_291 : decode code 291 = .ok (.aload_n 0, 1) := by decide +kernel
theorem d_Law_law_292 : decode code 292 = .ok (.iload_n 3, 1) := by decide +kernel
theorem d_Law_law_293 : decode code 293 = .ok (.iconst 2, 1) := by decide +kernel
theorem d_Law_law_294 : decode code 294 = .ok (.iadd, 1) := by decide +kernel
theorem d_Law_law_295 : decode code 295 = .ok (.iaload, 1) := by decide +kernel
theorem d_Law_law_296 : decode code 296 = .ok (.invokevirtual 37, 3) := by decide +kernel
theorem d_Law_law_299 : decode code 299 = .ok (.aload_n 2, 1) := by decide +kernel
theorem d_Law_law_300 : decode code 300 = .ok (.aload_n 0, 1) := by decide +kernel
theorem d_Law_law_301 : decode code 301 = .ok (.iload_n 3, 1) := by decide +kernel
theorem d_Law_law_302 : decode code 302 = .ok (.iconst 1, 1) := by decide +kernel
theorem d_Law_law_303 : decode code 303 = .ok (.iadd, 1) := by decide +kernel
theorem d_Law_law_304 : decode code 304 = .ok (.iaload, 1) := by decide +kernel
theorem d_Law_law_305 : decode code 305 = .ok (.aload_n 0, 1) := by decide +kernel
theorem d_Law_law_306 : decode code 306 = .ok (.iload_n 3, 1) := by decide +kernel
theorem d_Law_law_307 : decode code 307 = .ok (.iconst 2, 1) := by decide +kernel
theorem d_Law_law_308 : decode code 308 = .ok (.iadd, 1) := by decide +kernel
theorem d_Law_law_309 : decode code 309 = .ok (.iaload, 1) := by decide +kernel
theorem d_Law_law_310 : decode code 310 = .ok (.invokevirtual 40, 3) := by decide +kernel
theorem d_Law_law_313 : decode code 313 = .ok (.if_icmp .eq 226, 3) := by decide +kernel
theorem d_Law_law_316 : decode code 316 = .ok (.iconst 0, 1) := by decide +kernel
theorem d_Law_law_317 : decode code 317 = .ok (.ireturn, 1) := by decide +kernel
theorem d_Law_law_318 : decode code 318 = .ok (.aload_n 1, 1) := by decide +kernel
theorem d_Law_law_319 : decode code 319 = .ok (.aload_n 0, 1) := by decide +kernel
theorem d_Law_law_320 : decode code 320 = .ok (.iload_n 3, 1) := by decide +kernel
theorem d_Law_law_321 : decode code 321 = .ok (.iconst 1, 1) := by decide +kernel
theorem d_Law_law_322 : decode code 322 = .ok (.iadd, 1) := by decide +kernel
theorem d_Law_law_323 : decode code 323 = .ok (.iaload, 1) := by decide +kernel
theorem d_Law_law_324 : decode code 324 = .ok (.aload_n 0, 1) := by decide +kernel
theorem d_Law_law_325 : decode code 325 = .ok (.iload_n 3, 1) := by decide +kernel
theorem d_Law_law_326 : decode code 326 = .ok (.iconst 2, 1) := by decide +kernel
theorem d_Law_law_327 : decode code 327 = .ok (.iadd, 1) := by decide +kernel
theorem d_Law_law_328 : decode code 328 = .ok (.iaload, 1) := by decide +kernel
theorem d_Law_law_329 : decode code 329 = .ok (.invokevirtual 41, 3) := by decide +kernel
theorem d_Law_law_332 : decode code 332 = .ok (.aload_n 2, 1) := by decide +kernel
theorem d_Law_law_333 : decode code 333 = .ok (.aload_n 0, 1) := by decide +kernel
theorem d_Law_law_334 : decode code 334 = .ok (.iload_n 3, 1) := by decide +kernel
theorem d_Law_law_335 : decode code 335 = .ok (.iconst 1, 1) := by decide +kernel
theorem d_Law_law_336 : decode code 336 = .ok (.iadd, 1) := by decide +kernel
theorem d_Law_law_337 : decode code 337 = .ok (.iaload, 1) := by decide +kernel
theorem d_Law_law_338 : decode code 338 = .ok (.aload_n 0, 1) := by decide +kernel
theorem d_Law_law_339 : decode code 339 = .ok (.iload_n 3, 1) := by decide +kernel
theorem d_Law_law_340 : decode code 340 = .ok (.iconst 2, 1) := by decide +kernel
theorem d_Law_law_341 : decode code 341 = .ok (.iadd, 1) := by decide +kernel
theorem d_Law_law_342 : decode code 342 = .ok (.iaload, 1) := by decide +kernel
theorem d_Law_law_343 : decode code 343 = .ok (.invokevirtual 44, 3) := by decide +kernel
theorem d_Law_law_346 : decode code 346 = .ok (.if_icmp .eq 193, 3) := by decide +kernel
theorem d_Law_law_349 : decode code 349 = .ok (.iconst 0, 1) := by decide +kernel
theorem d_Law_law_350 : decode code 350 = .ok (.ireturn, 1) := by decide +kernel
theorem d_Law_law_351 : decode code 351 = .ok (.aload_n 1, 1) := by decide +kernel
theorem d_Law_law_352 : decode code 352 = .ok (.aload_n 0, 1) := by decide +kernel
theorem d_Law_law_353 : decode code 353 = .ok (.iload_n 3, 1) := by decide +kernel
theorem d_Law_law_354 : decode code 354 = .ok (.iconst 1, 1) := by decide +kernel
theorem d_Law_law_355 : decode code 355 = .ok (.iadd, 1) := by decide +kernel
theorem d_Law_law_356 : decode code 356 = .ok (.iaload, 1) := by decide +kernel
theorem d_Law_law_357 : decode code 357 = .ok (.aload_n 0, 1) := by decide +kernel
theorem d_Law_law_358 : decode code 358 = .ok (.iload_n 3, 1) := by decide +kernel
theorem d_Law_law_359 : decode code 359 = .ok (.iconst 2, 1) := by decide +kernel
theorem d_Law_law_360 : decode code 360 = .ok (.iadd, 1) := by decide +kernel
theorem d_Law_law_361 : decode code 361 = .ok (.iaload, 1) := by decide +kernel
theorem d_Law_law_362 : decode code 362 = .ok (.aload_n 0, 1) := by decide +kernel
theorem d_Law_law_363 : decode code 363 = .ok (.iload_n 3, 1) := by decide +kernel
theorem d_Law_law_364 : decode code 364 = .ok (.iconst 3, 1) := by decide +kernel
theorem d_Law_law_365 : decode code 365 = .ok (.iadd, 1) := by decide +kernel
theorem d_Law_law_366 : decode code 366 = .ok (.iaload, 1) := by decide +kernel
theorem d_Law_law_367 : decode code 367 = .ok (.invokevirtual 45, 3) := by decide +kernel
theorem d_Law_law_370 : decode code 370 = .ok (.aload_n 2, 1) := by decide +kernel
theorem d_Law_law_371 : decode code 371 = .ok (.aload_n 0, 1) := by decide +kernel
theorem d_Law_law_372 : decode code 372 = .ok (.iload_n 3, 1) := by decide +kernel
theorem d_Law_law_373 : decode code 373 = .ok (.iconst 1, 1) := by decide +kernel
theorem d_Law_law_374 : decode code 374 = .ok (.iadd, 1) := by decide +kernel
theorem d_Law_law_375 : decode code 375 = .ok (.iaload, 1) := by decide +kernel
theorem d_Law_law_376 : decode code 376 = .ok (.aload_n 0, 1) := by decide +kernel
theorem d_Law_law_377 : decode code 377 = .ok (.iload_n 3, 1) := by decide +kernel
theorem d_Law_law_378 : decode code 378 = .ok (.iconst 2, 1) := by decide +kernel
theorem d_Law_law_379 : decode code 379 = .ok (.iadd, 1) := by decide +kernel
theorem d_Law_law_380 : decode code 380 = .ok (.iaload, 1) := by decide +kernel
theorem d_Law_law_381 : decode code 381 = .ok (.aload_n 0, 1) := by decide +kernel
theorem d_Law_law_382 : decode code 382 = .ok (.iload_n 3, 1) := by decide +kernel
theorem d_Law_law_383 : decode code 383 = .ok (.iconst 3, 1) := by decide +kernel
theorem d_Law_law_384 : decode code 384 = .ok (.iadd, 1) := by decide +kernel
theorem d_Law_law_385 : decode code 385 = .ok (.iaload, 1) := by decide +kernel
theorem d_Law_law_386 : decode code 386 = .ok (.invokevirtual 48, 3) := by decide +kernel
theorem d_Law_law_389 : decode code 389 = .ok (.if_icmp .eq 150, 3) := by decide +kernel
theorem d_Law_law_392 : decode code 392 = .ok (.iconst 0, 1) := by decide +kernel
theorem d_Law_law_393 : decode code 393 = .ok (.ireturn, 1) := by decide +kernel
theorem d_Law_law_394 : decode code 394 = .ok (.aload_n 1, 1) := by decide +kernel
theorem d_Law_law_395 : decode code 395 = .ok (.aload_n 0, 1) := by decide +kernel
theorem d_Law_law_396 : decode code 396 = .ok (.iload_n 3, 1) := by decide +kernel
theorem d_Law_law_397 : decode code 397 = .ok (.iconst 1, 1) := by decide +kernel
theorem d_Law_law_398 : decode code 398 = .ok (.iadd, 1) := by decide +kernel
theorem d_Law_law_399 : decode code 399 = .ok (.iaload, 1) := by decide +kernel
theorem d_Law_law_400 : decode code 400 = .ok (.aload_n 0, 1) := by decide +kernel
theorem d_Law_law_401 : decode code 401 = .ok (.iload_n 3, 1) := by decide +kernel
theorem d_Law_law_402 : decode code 402 = .ok (.iconst 2, 1) := by decide +kernel
theorem d_Law_law_403 : decode code 403 = .ok (.iadd, 1) := by decide +kernel
theorem d_Law_law_404 : decode code 404 = .ok (.iaload, 1) := by decide +kernel
theorem d_Law_law_405 : decode code 405 = .ok (.invokevirtual 49, 3) := by decide +kernel
theorem d_Law_law_408 : decode code 408 = .ok (.aload_n 2, 1) := by decide +kernel
theorem d_Law_law_409 : decode code 409 = .ok (.aload_n 0, 1) := by decide +kernel
theorem d_Law_law_410 : decode code 410 = .ok (.iload_n 3, 1) := by decide +kernel
theorem d_Law_law_411 : decode code 411 = .ok (.iconst 1, 1) := by decide +kernel
theorem d_Law_law_412 : decode code 412 = .ok (.iadd, 1) := by decide +kernel
theorem d_Law_law_413 : decode code 413 = .ok (.iaload, 1) := by decide +kernel
theorem d_Law_law_414 : decode code 414 = .ok (.aload_n 0, 1) := by decide +kernel
theorem d_Law_law_415 : decode code 415 = .ok (.iload_n 3, 1) := by decide +kernel
theorem d_Law_law_416 : decode code 416 = .ok (.iconst 2, 1) := by decide +kernel
theorem d_Law_law_417 : decode code 417 = .ok (.iadd, 1) := by decide +kernel
theorem d_Law_law_418 : decode code 418 = .ok (.iaload, 1) := by decide +kernel
theorem d_Law_law_419 : decode code 419 = .ok (.invokevirtual 52, 3) := by decide +kernel
theorem d_Law_law_422 : decode code 422 = .ok (.if_icmp .eq 117, 3) := by decide +kernel
theorem d_Law_law_425 : decode code 425 = .ok (.iconst 0, 1) := by decide +kernel
theorem d_Law_law_426 : decode code 426 = .ok (.ireturn, 1) := by decide +kernel
theorem d_Law_law_427 : decode code 427 = .ok (.aload_n 1, 1) := by decide +kernel
theorem d_Law_law_428 : decode code 428 = .ok (.aload_n 0, 1) := by decide +kernel
theorem d_Law_law_429 : decode code 429 = .ok (.iload_n 3, 1) := by decide +kernel
theorem d_Law_law_430 : decode code 430 = .ok (.iconst 1, 1) := by decide +kernel
theorem d_Law_law_431 : decode code 431 = .ok (.iadd, 1) := by decide +kernel
theorem d_Law_law_432 : decode code 432 = .ok (.iaload, 1) := by decide +kernel
theorem d_Law_law_433 : decode code 433 = .ok (.invokevirtual 53, 3) := by decide +kernel
theorem d_Law_law_436 : decode code 436 = .ok (.aload_n 2, 1) := by decide +kernel
theorem d_Law_law_437 : decode code 437 = .ok (.aload_n 0, 1) := by decide +kernel
theorem d_Law_law_438 : decode code 438 = .ok (.iload_n 3, 1) := by decide +kernel
theorem d_Law_law_439 : decode code 439 = .ok (.iconst 1, 1) := by decide +kernel
theorem d_Law_law_440 : decode code 440 = .ok (.iadd, 1) := by decide +kernel
theorem d_Law_law_441 : decode code 441 = .ok (.iaload, 1) := by decide +kernel
theorem d_Law_law_442 : decode code 442 = .ok (.invokevirtual 57, 3) := by decide +kernel
theorem d_Law_law_445 : decode code 445 = .ok (.if_icmp .eq 94, 3) := by decide +kernel
theorem d_Law_law_448 : decode code 448 = .ok (.iconst 0, 1) := by decide +kernel
theorem d_Law_law_449 : decode code 449 = .ok (.ireturn, 1) := by decide +kernel
theorem d_Law_law_450 : decode code 450 = .ok (.aload_n 1, 1) := by decide +kernel
theorem d_Law_law_451 : decode code 451 = .ok (.aload_n 0, 1) := by decide +kernel
theorem d_Law_law_452 : decode code 452 = .ok (.iload_n 3, 1) := by decide +kernel
theorem d_Law_law_453 : decode code 453 = .ok (.iconst 1, 1) := by decide +kernel
theorem d_Law_law_454 : decode code 454 = .ok (.iadd, 1) := by decide +kernel
theorem d_Law_law_455 : decode code 455 = .ok (.iaload, 1) := by decide +kernel
theorem d_Law_law_456 : decode code 456 = .ok (.aload_n 0, 1) := by decide +kernel
theorem d_Law_law_457 : decode code 457 = .ok (.iload_n 3, 1) := by decide +kernel
theorem d_Law_law_458 : decode code 458 = .ok (.iconst 2, 1) := by decide +kernel
theorem d_Law_law_459 : decode code 459 = .ok (.iadd, 1) := by decide +kernel
theorem d_Law_law_460 : decode code 460 = .ok (.iaload, 1) := by decide +kernel
theorem d_Law_law_461 : decode code 461 = .ok (.invokevirtual 58, 3) := by decide +kernel
theorem d_Law_law_464 : decode code 464 = .ok (.aload_n 2, 1) := by decide +kernel
theorem d_Law_law_465 : decode code 465 = .ok (.aload_n 0, 1) := by decide +kernel
theorem d_Law_law_466 : decode code 466 = .ok (.iload_n 3, 1) := by decide +kernel
theorem d_Law_law_467 : decode code 467 = .ok (.iconst 1, 1) := by decide +kernel
theorem d_Law_law_468 : decode code 468 = .ok (.iadd, 1) := by decide +kernel
theorem d_Law_law_469 : decode code 469 = .ok (.iaload, 1) := by decide +kernel
theorem d_Law_law_470 : decode code 470 = .ok (.aload_n 0, 1) := by decide +kernel
theorem d_Law_law_471 : decode code 471 = .ok (.iload_n 3, 1) := by decide +kernel
theorem d_Law_law_472 : decode code 472 = .ok (.iconst 2, 1) := by decide +kernel
theorem d_Law_law_473 : decode code 473 = .ok (.iadd, 1) := by decide +kernel
theorem d_Law_law_474 : decode code 474 = .ok (.iaload, 1) := by decide +kernel
theorem d_Law_law_475 : decode code 475 = .ok (.invokevirtual 61, 3) := by decide +kernel
theorem d_Law_law_478 : decode code 478 = .ok (.if_icmp .eq 61, 3) := by decide +kernel
theorem d_Law_law_481 : decode code 481 = .ok (.iconst 0, 1) := by decide +kernel
theorem d_Law_law_482 : decode code 482 = .ok (.ireturn, 1) := by decide +kernel
theorem d_Law_law_483 : decode code 483 = .ok (.aload_n 1, 1) := by decide +kernel
theorem d_Law_law_484 : decode code 484 = .ok (.invokevirtual 62, 3) := by decide +kernel
theorem d_Law_law_487 : decode code 487 = .ok (.aload_n 2, 1) := by decide +kernel
theorem d_Law_law_488 : decode code 488 = .ok (.invokevirtual 65, 3) := by decide +kernel
theorem d_Law_law_491 : decode code 491 = .ok (.if_icmp .eq 48, 3) := by decide +kernel
theorem d_Law_law_494 : decode code 494 = .ok (.iconst 0, 1) := by decide +kernel
theorem d_Law_law_495 : decode code 495 = .ok (.ireturn, 1) := by decide +kernel
theorem d_Law_law_496 : decode code 496 = .ok (.aload_n 1, 1) := by decide +kernel
theorem d_Law_law_497 : decode code 497 = .ok (.aload_n 0, 1) := by decide +kernel
theorem d_Law_law_498 : decode code 498 = .ok (.iload_n 3, 1) := by decide +kernel
theorem d_Law_law_499 : decode code 499 = .ok (.iconst 1, 1) := by decide +kernel
theorem d_Law_law_500 : decode code 500 = .ok (.iadd, 1) := by decide +kernel
theorem d_Law_law_501 : decode code 501 = .ok (.iaload, 1) := by decide +kernel
theorem d_Law_law_502 : decode code 502 = .ok (.aload_n 0, 1) := by decide +kernel
theorem d_Law_law_503 : decode code 503 = .ok (.iload_n 3, 1) := by decide +kernel
theorem d_Law_law_504 : decode code 504 = .ok (.iconst 2, 1) := by decide +kernel
theorem d_Law_law_505 : decode code 505 = .ok (.iadd, 1) := by decide +kernel
theorem d_Law_law_506 : decode code 506 = .ok (.iaload, 1) := by decide +kernel
theorem d_Law_law_507 : decode code 507 = .ok (.aload_n 0, 1) := by decide +kernel
theorem d_Law_law_508 : decode code 508 = .ok (.iload_n 3, 1) := by decide +kernel
theorem d_Law_law_509 : decode code 509 = .ok (.iconst 3, 1) := by decide +kernel
theorem d_Law_law_510 : decode code 510 = .ok (.iadd, 1) := by decide +kernel
theorem d_Law_law_511 : decode code 511 = .ok (.iaload, 1) := by decide +kernel
theorem d_Law_law_512 : decode code 512 = .ok (.invokevirtual 66, 3) := by decide +kernel
theorem d_Law_law_515 : decode code 515 = .ok (.aload_n 2, 1) := by decide +kernel
theorem d_Law_law_516 : decode code 516 = .ok (.aload_n 0, 1) := by decide +kernel
theorem d_Law_law_517 : decode code 517 = .ok (.iload_n 3, 1) := by decide +kernel
theorem d_Law_law_518 : decode code 518 = .ok (.iconst 1, 1) := by decide +kernel
theorem d_Law_law_519 : decode code 519 = .ok (.iadd, 1) := by decide +kernel
theorem d_Law_law_520 : decode code 520 = .ok (.iaload, 1) := by decide +kernel
theorem d_Law_law_521 : decode code 521 = .ok (.aload_n 0, 1) := by decide +kernel
theorem d_Law_law_522 : decode code 522 = .ok (.iload_n 3, 1) := by decide +kernel
theorem d_Law_law_523 : decode code 523 = .ok (.iconst 2, 1) := by decide +kernel
theorem d_Law_law_524 : decode code 524 = .ok (.iadd, 1) := by decide +kernel
theorem d_Law_law_525 : decode code 525 = .ok (.iaload, 1) := by decide +kernel
theorem d_Law_law_526 : decode code 526 = .ok (.aload_n 0, 1) := by decide +kernel
theorem d_Law_law_527 : decode code 527 = .ok (.iload_n 3, 1) := by decide +kernel
theorem d_Law_law_528 : decode code 528 = .ok (.iconst 3, 1) := by decide +kernel
theorem d_Law_law_529 : decode code 529 = .ok (.iadd, 1) := by decide +kernel
theorem d_Law_law_530 : decode code 530 = .ok (.iaload, 1) := by decide +kernel
theorem d_Law_law_531 : decode code 531 = .ok (.invokevirtual 69, 3) := by decide +kernel
theorem d_Law_law_534 : decode code 534 = .ok (.if_icmp .eq 5, 3) := by decide +kernel
theorem d_Law_law_537 : decode code 537 = .ok (.iconst 0, 1) := by decide +kernel
theorem d_Law_law_538 : decode code 538 = .ok (.ireturn, 1) := by decide +kernel
theorem d_Law_law_539 : decode code 539 = .ok (.iinc 3 5, 3) := by decide +kernel
theorem d_Law_law_542 : decode code 542 = .ok (.goto (-524), 3) := by decide +kernel
theorem d_Law_law_545 : decode code 545 = .ok (.iconst 1, 1) := by decide +kernel
theorem d_Law_law_546 : decode code 546 = .ok (.ireturn, 1) := by decide +kernel
end
section
/-! more rows: references that are not null, arrays of ints by values, exact contracts -/
abbrev mv_R (v : Option Value) (M1 : mv_M) : Option Value → mv_M → Prop := fun v' M' => v' = v ∧ M' = M1
abbrev rM (f c s o : Nat) : Room := { frames := f, cells := c, slots := s, locals := o }
theorem mv_x {v1 : Option Value} {M1 : mv_M} {P : Option Value → mv_M → Prop} (h : P v1 M1) : ∀ (v : Option Value) (M' : mv_M), mv_R v1 M1 v M' → P v M' := fun v M' e => by rw [e.1, e.2]; exact h
theorem iI_upd (f : Nat → Int) (k : Nat) (x : Int) : upd (fun j => iI (f j)) k (iI x) = fun j => iI (va_up f k x j) := by
  funext j
  by_cases h : j = k <;> simp [upd, va_up, h]
theorem iI_cpy (f g : Nat → Int) (sp dp n : Nat) : va_cpy (fun j => iI (f j)) (fun j => iI (g j)) sp dp n = fun j => iI (va_cpy f g sp dp n j) := by
  funext j
  unfold va_cpy
  split <;> rfl
theorem va_us {α : Type} {f : Nat → α} {k : Nat} {x : α} : va_up f k x k = x := by simp [va_up]
theorem va_un {α : Type} {f : Nat → α} {k j : Nat} {x : α} (h : j ≠ k) : va_up f k x j = f j := by simp [va_up, h]
theorem lc {s : Nat} {v v' : Value} {r r' : List (Nat × Value)} (h : v = v') (hr : r = r') : (s, v) :: r = (s, v') :: r' := by rw [h, hr]
theorem lI {z z' : Int} (h : z = z') : Value.int (iI z) = Value.int (iI z') := by rw [h]
theorem R32_up {f : Nat → Int} {k : Nat} {x : Int} (h : ∀ j, R32 (f j)) (hx : R32 x) : ∀ j, R32 (va_up f k x j) := fun j => by
  by_cases hj : j = k
  · subst hj; rw [va_us]; exact hx
  · rw [va_un hj]; exact h j
section RW5
variable {X : mv_X} {Q : State → Prop} {V : mv_V} {nL pc : Nat} {lv lv' : List (Nat × Value)} {st rest As : List Value} {M M1 : mv_M} {cells slots : Nat}
variable {cc : ByteArray} {Ts : List Cond} {own nm : String} {ret : Option FieldType} {rm : Room} {a n : Nat}
theorem mv_aloadR_n {K : mv_K} (B : mv_B X K cc Ts own nL ret rm nm) {j : Fin 4} {i : Nat} {r : Nat} (hdg : decode cc pc = .ok (.aload_n j, 1)) (hi : (j : Nat) = i) (t : Nat) (hv : lv[t]? = some (i, .ref r)) (k : mv_G X Q K nL (pc + 1) lv (.ref r :: st) M cells slots) : mv_G X Q K nL pc lv st M cells slots := mv_aload_n (r := some r) B hdg hi t hv k
theorem mv_aloadR {K : mv_K} (B : mv_B X K cc Ts own nL ret rm nm) {i : Nat} {r : Nat} (hdg : decode cc pc = .ok (.aload i, 2)) (t : Nat) (hv : lv[t]? = some (i, .ref r)) (k : mv_G X Q K nL (pc + 2) lv (.ref r :: st) M cells slots) : mv_G X Q K nL pc lv st M cells slots := mv_aload (r := some r) B hdg t hv k
theorem mv_astoreR_n {K : mv_K} (B : mv_B X K cc Ts own nL ret rm nm) {j : Fin 4} {i : Nat} {r : Nat} (hdg : decode cc pc = .ok (.astore_n j, 1)) (hi : (j : Nat) = i) (hn : i < nL) (hl' : mv_sl lv i (.ref r) = lv') (k : mv_G X Q K nL (pc + 1) lv' st M cells slots) : mv_G X Q K nL pc lv (.ref r :: st) M cells slots := mv_astore_n (r := some r) B hdg hi hn hl' k
theorem mv_astoreR {K : mv_K} (B : mv_B X K cc Ts own nL ret rm nm) {i : Nat} {r : Nat} (hdg : decode cc pc = .ok (.astore i, 2)) (hn : i < nL) (hl' : mv_sl lv i (.ref r) = lv') (k : mv_G X Q K nL (pc + 2) lv' st M cells slots) : mv_G X Q K nL pc lv (.ref r :: st) M cells slots := mv_astore (r := some r) B hdg hn hl' k
theorem mv_ifnullR {K : mv_K} (B : mv_B X K cc Ts own nL ret rm nm) {r : Nat} {off : Int} {tgt : Nat} (hdg : decode cc pc = .ok (.ifnull off, 3)) (ht : (pc : Int) + off = (tgt : Int)) (k : mv_G X Q K nL (pc + 3) lv st M cells slots) : mv_G X Q K nL pc lv (.ref r :: st) M cells slots := mv_ifnull (r := some r) B hdg ht (fun h => by cases h) (fun _ _ => k)
theorem mv_ifnonnullR {K : mv_K} (B : mv_B X K cc Ts own nL ret rm nm) {r : Nat} {off : Int} {tgt : Nat} (hdg : decode cc pc = .ok (.ifnonnull off, 3)) (ht : (pc : Int) + off = (tgt : Int)) (k : mv_G X Q K nL tgt lv st M cells slots) : mv_G X Q K nL pc lv (.ref r :: st) M cells slots := mv_ifnonnull (r := some r) B hdg ht (fun _ _ => k) (fun h => by cases h)
theorem mv_aretR {K : mv_K} {C' : String} {post : Option Value → mv_M → Prop} {mc ms : Nat} (B : mv_B X K cc Ts own nL (some (.object C')) rm nm) {r : Nat} (hp : post (some (.ref r)) M) (hc : cells ≤ mc) (hs : slots ≤ ms) (hdg : decode cc pc = .ok (.areturn, 1)) : mv_G X (mv_E X K post mc ms) K nL pc lv [.ref r] M cells slots := mv_aret (r := some r) B hp hc hs hdg
theorem ia_ld (B : mv_B X (kk V) cc Ts own nL ret rm nm) {f : Nat → Int} (ha : M a = some (iA V n f)) {z : Int} (rz : R32 z) (h0 : 0 ≤ z) (h1 : z < n) (hdg : decode cc pc = .ok (.iaload, 1)) (k : mv_G X Q (kk V) nL (pc + 1) lv (.int (iI (f z.toNat)) :: st) M cells slots) : mv_G X Q (kk V) nL pc lv (.int (iI z) :: .ref a :: st) M cells slots := mv_iald B 0 rfl ha rz h0 h1 hdg k
theorem ia_st (B : mv_B X (kk V) cc Ts own nL ret rm nm) {f : Nat → Int} (ha : M a = some (iA V n f)) {z x : Int} (rz : R32 z) (h0 : 0 ≤ z) (h1 : z < n) (hdg : decode cc pc = .ok (.iastore, 1)) (k : mv_G X Q (kk V) nL (pc + 1) lv st (mv_up M a (iA V n (va_up f z.toNat x))) cells slots) : mv_G X Q (kk V) nL pc lv (.int (iI x) :: .int (iI z) :: .ref a :: st) M cells slots := mv_iast B 0 rfl ha rz h0 h1 hdg (by rw [iI_upd]; exact k)
theorem ia_len (B : mv_B X (kk V) cc Ts own nL ret rm nm) {f : Nat → Int} (ha : M a = some (iA V n f)) (hdg : decode cc pc = .ok (.arraylength, 1)) (k : mv_G X Q (kk V) nL (pc + 1) lv (.int (iI (n : Int)) :: st) M cells slots) : mv_G X Q (kk V) nL pc lv (.ref a :: st) M cells slots := mv_alen B 0 rfl ha hdg k
theorem ia_new {v0 : Cond} (B : mv_B X (kk V) cc (v0 :: mw) own nL ret rm nm) (harr : Cond.arrayClass .int ∈ mw) {z : Int} (hz : z = (n : Int)) (hn : n ≤ 100000000) (hcells : cells + 1 ≤ rm.cells) (hslots : slots + n ≤ rm.slots) (hdg : decode cc pc = .ok (.newarray .int, 2)) (k : ∀ q : Nat, (∀ a e, M a = some e → a < q) → mv_G X Q (kk V) nL (pc + 2) lv (.ref q :: st) (mv_up M q (iA V n (fun _ => 0))) (cells + 1) (slots + n)) : mv_G X Q (kk V) nL pc lv (.int (iI z) :: st) M cells slots := mv_newi B 0 rfl (mwc harr) (by omega) hz hn hcells hslots hdg k
theorem ta_ld (B : mv_B X (kk V) cc Ts own nL ret rm nm) {f : Nat → Option Nat} (ha : M a = some (tA V n f)) {z : Int} (rz : R32 z) (h0 : 0 ≤ z) (h1 : z < n) (hdg : decode cc pc = .ok (.aaload, 1)) (k : mv_G X Q (kk V) nL (pc + 1) lv (va_rf (f z.toNat) :: st) M cells slots) : mv_G X Q (kk V) nL pc lv (.int (iI z) :: .ref a :: st) M cells slots := mv_aald B 1 rfl ha rz h0 h1 hdg k
theorem ga_ld (B : mv_B X (kk V) cc Ts own nL ret rm nm) {f : Nat → Option Nat} (ha : M a = some (gA V n f)) {z : Int} (rz : R32 z) (h0 : 0 ≤ z) (h1 : z < n) (hdg : decode cc pc = .ok (.aaload, 1)) (k : mv_G X Q (kk V) nL (pc + 1) lv (va_rf (f z.toNat) :: st) M cells slots) : mv_G X Q (kk V) nL pc lv (.int (iI z) :: .ref a :: st) M cells slots := mv_aald B 2 rfl ha rz h0 h1 hdg k
theorem ta_len (B : mv_B X (kk V) cc Ts own nL ret rm nm) {f : Nat → Option Nat} (ha : M a = some (tA V n f)) (hdg : decode cc pc = .ok (.arraylength, 1)) (k : mv_G X Q (kk V) nL (pc + 1) lv (.int (iI (n : Int)) :: st) M cells slots) : mv_G X Q (kk V) nL pc lv (.ref a :: st) M cells slots := mv_alen B 1 rfl ha hdg k
theorem ga_len (B : mv_B X (kk V) cc Ts own nL ret rm nm) {f : Nat → Option Nat} (ha : M a = some (gA V n f)) (hdg : decode cc pc = .ok (.arraylength, 1)) (k : mv_G X Q (kk V) nL (pc + 1) lv (.int (iI (n : Int)) :: st) M cells slots) : mv_G X Q (kk V) nL pc lv (.ref a :: st) M cells slots := mv_alen B 2 rfl ha hdg k
theorem ta_st (B : mv_B X (kk V) cc Ts own nL ret rm nm) {f : Nat → Option Nat} {v : Nat} {vs : List Value} (ha : M a = some (tA V n f)) (hv : M v = some (.inr (0, vs))) {z : Int} (rz : R32 z) (h0 : 0 ≤ z) (h1 : z < n) (hdg : decode cc pc = .ok (.aastore, 1)) (k : mv_G X Q (kk V) nL (pc + 1) lv st (mv_up M a (tA V n (va_up f z.toNat (some v)))) cells slots) : mv_G X Q (kk V) nL pc lv (.ref v :: .int (iI z) :: .ref a :: st) M cells slots := mv_aast (r := ("FamilyRules$Term", T_Term, 4)) (ci := 0) B 1 rfl ha hv rfl rz h0 h1 hdg k
theorem ga_st (B : mv_B X (kk V) cc Ts own nL ret rm nm) {f : Nat → Option Nat} {v : Nat} {vs : List Value} (ha : M a = some (gA V n f)) (hv : M v = some (.inr (2, vs))) {z : Int} (rz : R32 z) (h0 : 0 ≤ z) (h1 : z < n) (hdg : decode cc pc = .ok (.aastore, 1)) (k : mv_G X Q (kk V) nL (pc + 1) lv st (mv_up M a (gA V n (va_up f z.toNat (some v)))) cells slots) : mv_G X Q (kk V) nL pc lv (.ref v :: .int (iI z) :: .ref a :: st) M cells slots := mv_aast (r := ("FamilyRules$Global", T_Global, 10)) (ci := 2) B 2 rfl ha hv rfl rz h0 h1 hdg k
end RW5
end
section
/-! new objects and arrays of the classes; arraycopy by values -/
theorem df_Term : ∀ j, j < 4 → defaultValue (ty_Term j) = vp_V [va_rf none, va_rf none, va_rf none, va_rf none] j := fun j hj => by
  match j, hj with
  | 0, _ => rfl
  | 1, _ => rfl
  | 2, _ => rfl
  | 3, _ => rfl
theorem df_Shelf : ∀ j, j < 3 → defaultValue (ty_Shelf j) = vp_V [va_rf none, .int (iI 0), .int (iI 0)] j := fun j hj => by
  match j, hj with
  | 0, _ => rfl
  | 1, _ => rfl
  | 2, _ => rfl
theorem df_Global : ∀ j, j < 10 → defaultValue (ty_Global j) = vp_V [.int (iI 0), .int (iI 0), .int (iI 0), .int (iI 0), .int (iI 0), va_rf none, va_rf none, va_rf none, .int (iI 0), .int (iI 0)] j := fun j hj => by
  match j, hj with
  | 0, _ => rfl
  | 1, _ => rfl
  | 2, _ => rfl
  | 3, _ => rfl
  | 4, _ => rfl
  | 5, _ => rfl
  | 6, _ => rfl
  | 7, _ => rfl
  | 8, _ => rfl
  | 9, _ => rfl
theorem df_Register : ∀ j, j < 2 → defaultValue (ty_Register j) = vp_V [va_rf none, .int (iI 0)] j := fun j hj => by
  match j, hj with
  | 0, _ => rfl
  | 1, _ => rfl
theorem df_Reader : ∀ j, j < 5 → defaultValue (ty_Reader j) = vp_V [va_rf none, va_rf none, .int (iI 0), .int (iI 0), .int (iI 0)] j := fun j hj => by
  match j, hj with
  | 0, _ => rfl
  | 1, _ => rfl
  | 2, _ => rfl
  | 3, _ => rfl
  | 4, _ => rfl
theorem df_Maker : ∀ j, j < 8 → defaultValue (ty_Maker j) = vp_V [va_rf none, va_rf none, .int (iI 0), va_rf none, .int (iI 0), .int (iI 0), .int (iI 0), .int (iI 0)] j := fun j hj => by
  match j, hj with
  | 0, _ => rfl
  | 1, _ => rfl
  | 2, _ => rfl
  | 3, _ => rfl
  | 4, _ => rfl
  | 5, _ => rfl
  | 6, _ => rfl
  | 7, _ => rfl
theorem df_Fam : ∀ j, j < 4 → defaultValue (ty_Fam j) = vp_V [va_rf none, va_rf none, va_rf none, va_rf none] j := fun j hj => by
  match j, hj with
  | 0, _ => rfl
  | 1, _ => rfl
  | 2, _ => rfl
  | 3, _ => rfl
theorem df_Mod : ∀ j, j < 16 → defaultValue (ty_Mod j) = vp_V [va_rf none, va_rf none, va_rf none, va_rf none, va_rf none, .int (iI 0), va_rf none, .int (iI 0), va_rf none, va_rf none, va_rf none, va_rf none, va_rf none, va_rf none, .int (iI 0), va_rf none] j := fun j hj => by
  match j, hj with
  | 0, _ => rfl
  | 1, _ => rfl
  | 2, _ => rfl
  | 3, _ => rfl
  | 4, _ => rfl
  | 5, _ => rfl
  | 6, _ => rfl
  | 7, _ => rfl
  | 8, _ => rfl
  | 9, _ => rfl
  | 10, _ => rfl
  | 11, _ => rfl
  | 12, _ => rfl
  | 13, _ => rfl
  | 14, _ => rfl
  | 15, _ => rfl
  | k + 16, h => exact absurd h (by omega)
theorem R32_cpy {f g : Nat → Int} {a b n : Nat} (hf : ∀ j, R32 (f j)) (hg : ∀ j, R32 (g j)) : ∀ j, R32 (va_cpy f g a b n j) := fun j => by
  unfold va_cpy
  split
  · exact hf _
  · exact hg _
section RW6
variable {X : mv_X} {Q : State → Prop} {V : mv_V} {nL pc : Nat} {lv : List (Nat × Value)} {st : List Value} {M : mv_M} {cells slots : Nat}
variable {cc : ByteArray} {v0 : Cond} {own nm : String} {ret : Option FieldType} {rm : Room} {a a0 n n0 n1 index : Nat}
theorem ia_cpy (B : mv_B X (kk V) cc (v0 :: mw) own nL ret rm nm) {f g : Nat → Int} (hlink : Cond.methodLink own index arraycopyName ∈ v0 :: mw) (hnat : Cond.native arraycopyName ∈ v0 :: mw) (hstat : Cond.static arraycopyName ∈ v0 :: mw) (hini : Cond.initialized "java/lang/System" ∈ v0 :: mw) (ha0 : M a0 = some (iA V n0 f)) (ha1 : M a = some (iA V n1 g)) {sp dp z : Int} (rs : R32 sp) (rd : R32 dp) (rn : R32 z) (h1 : 0 ≤ sp) (h2 : 0 ≤ dp) (h3 : 0 ≤ z) (h4 : sp + z ≤ n0) (h5 : dp + z ≤ n1) (hf : 1 ≤ rm.frames) (hlo : (st.map fun v => v.category).sum + (nativeFrameWords "java/lang/System" "arraycopy" 5 + 11) ≤ rm.locals) (hdg : decode cc pc = .ok (.invokestatic index, 3)) (k : mv_G X Q (kk V) nL (pc + 3) lv st (mv_up M a (iA V n1 (va_cpy f g sp.toNat dp.toNat z.toNat))) cells slots) : mv_G X Q (kk V) nL pc lv (.int (iI z) :: .int (iI dp) :: .ref a :: .int (iI sp) :: .ref a0 :: st) M cells slots := mv_copyi B 0 rfl hlink hnat hstat hini ha0 ha1 rs rd rn h1 h2 h3 h4 h5 hf hlo hdg (by rw [iI_cpy]; exact k)
theorem nc_Fam_7 (B : mv_B X (kk V) cc (v0 :: mw) "FamilyRules" nL ret rm nm) (hc : cells + 1 ≤ rm.cells) (hs : slots + 5 ≤ rm.slots) (hdg : decode cc pc = .ok (.new 7, 3)) (k : ∀ q : Nat, (∀ a e, M a = some e → a < q) → mv_G X Q (kk V) nL (pc + 3) lv (.ref q :: st) (mv_up M q (.inr (4, [va_rf none, va_rf none, .int (iI 0), .int (iI 0), .int (iI 0)]))) (cells + 1) (slots + 5)) : mv_G X Q (kk V) nL pc lv st M cells slots := mv_new B in_Reader ty_Reader tyo_Reader (mwc (mw_t 19 (by decide +kernel) (by decide +kernel))) (mwc (mw_t 20 (by decide +kernel) (by decide +kernel))) (mwc (mw_t 2 (by decide +kernel) (by decide +kernel))) rfl df_Reader hc hs hdg k
theorem nc_Fam_10 (B : mv_B X (kk V) cc (v0 :: mw) "FamilyRules" nL ret rm nm) (hc : cells + 1 ≤ rm.cells) (hs : slots + 3 ≤ rm.slots) (hdg : decode cc pc = .ok (.new 10, 3)) (k : ∀ q : Nat, (∀ a e, M a = some e → a < q) → mv_G X Q (kk V) nL (pc + 3) lv (.ref q :: st) (mv_up M q (.inr (1, [va_rf none, .int (iI 0), .int (iI 0)]))) (cells + 1) (slots + 3)) : mv_G X Q (kk V) nL pc lv st M cells slots := mv_new B in_Shelf ty_Shelf tyo_Shelf (mwc (mw_t 45 (by decide +kernel) (by decide +kernel))) (mwc (mw_t 46 (by decide +kernel) (by decide +kernel))) (mwc (mw_t 3 (by decide +kernel) (by decide +kernel))) rfl df_Shelf hc hs hdg k
theorem nc_Fam_19 (B : mv_B X (kk V) cc (v0 :: mw) "FamilyRules" nL ret rm nm) (hc : cells + 1 ≤ rm.cells) (hs : slots + 2 ≤ rm.slots) (hdg : decode cc pc = .ok (.new 19, 3)) (k : ∀ q : Nat, (∀ a e, M a = some e → a < q) → mv_G X Q (kk V) nL (pc + 3) lv (.ref q :: st) (mv_up M q (.inr (3, [va_rf none, .int (iI 0)]))) (cells + 1) (slots + 2)) : mv_G X Q (kk V) nL pc lv st M cells slots := mv_new B in_Register ty_Register tyo_Register (mwc (mw_t 64 (by decide +kernel) (by decide +kernel))) (mwc (mw_t 65 (by decide +kernel) (by decide +kernel))) (mwc (mw_t 4 (by decide +kernel) (by decide +kernel))) rfl df_Register hc hs hdg k
theorem nc_Fam_30 (B : mv_B X (kk V) cc (v0 :: mw) "FamilyRules" nL ret rm nm) (hc : cells + 1 ≤ rm.cells) (hs : slots + 8 ≤ rm.slots) (hdg : decode cc pc = .ok (.new 30, 3)) (k : ∀ q : Nat, (∀ a e, M a = some e → a < q) → mv_G X Q (kk V) nL (pc + 3) lv (.ref q :: st) (mv_up M q (.inr (5, [va_rf none, va_rf none, .int (iI 0), va_rf none, .int (iI 0), .int (iI 0), .int (iI 0), .int (iI 0)]))) (cells + 1) (slots + 8)) : mv_G X Q (kk V) nL pc lv st M cells slots := mv_new B in_Maker ty_Maker tyo_Maker (mwc (mw_t 79 (by decide +kernel) (by decide +kernel))) (mwc (mw_t 80 (by decide +kernel) (by decide +kernel))) (mwc (mw_t 5 (by decide +kernel) (by decide +kernel))) rfl df_Maker hc hs hdg k
theorem ga_new_Register_9 (B : mv_B X (kk V) cc (v0 :: mw) "FamilyRules$Register" nL ret rm nm) {z : Int} (hz : z = (n : Int)) (hn : n ≤ 100000000) (hc : cells + 1 ≤ rm.cells) (hs : slots + n ≤ rm.slots) (hdg : decode cc pc = .ok (.anewarray 9, 3)) (k : ∀ q : Nat, (∀ a e, M a = some e → a < q) → mv_G X Q (kk V) nL (pc + 3) lv (.ref q :: st) (mv_up M q (gA V n (fun _ => none))) (cells + 1) (slots + n)) : mv_G X Q (kk V) nL pc lv (.int (iI z) :: st) M cells slots := mv_newq B 2 rfl (mwc (mw_t 70 (by decide +kernel) (by decide +kernel))) (nw_t 71 (by decide +kernel) (by decide +kernel)) (by omega) hz hn hc hs hdg k
theorem nc_Register_9 (B : mv_B X (kk V) cc (v0 :: mw) "FamilyRules$Register" nL ret rm nm) (hc : cells + 1 ≤ rm.cells) (hs : slots + 10 ≤ rm.slots) (hdg : decode cc pc = .ok (.new 9, 3)) (k : ∀ q : Nat, (∀ a e, M a = some e → a < q) → mv_G X Q (kk V) nL (pc + 3) lv (.ref q :: st) (mv_up M q (.inr (2, [.int (iI 0), .int (iI 0), .int (iI 0), .int (iI 0), .int (iI 0), va_rf none, va_rf none, va_rf none, .int (iI 0), .int (iI 0)]))) (cells + 1) (slots + 10)) : mv_G X Q (kk V) nL pc lv st M cells slots := mv_new B in_Global ty_Global tyo_Global (mwc (mw_t 70 (by decide +kernel) (by decide +kernel))) (mwc (mw_t 222 (by decide +kernel) (by decide +kernel))) (mwc (mw_t 10 (by decide +kernel) (by decide +kernel))) rfl df_Global hc hs hdg k
theorem ta_new_Shelf_9 (B : mv_B X (kk V) cc (v0 :: mw) "FamilyRules$Shelf" nL ret rm nm) {z : Int} (hz : z = (n : Int)) (hn : n ≤ 100000000) (hc : cells + 1 ≤ rm.cells) (hs : slots + n ≤ rm.slots) (hdg : decode cc pc = .ok (.anewarray 9, 3)) (k : ∀ q : Nat, (∀ a e, M a = some e → a < q) → mv_G X Q (kk V) nL (pc + 3) lv (.ref q :: st) (mv_up M q (tA V n (fun _ => none))) (cells + 1) (slots + n)) : mv_G X Q (kk V) nL pc lv (.int (iI z) :: st) M cells slots := mv_newq B 1 rfl (mwc (mw_t 51 (by decide +kernel) (by decide +kernel))) (nw_t 52 (by decide +kernel) (by decide +kernel)) (by omega) hz hn hc hs hdg k
theorem nc_Shelf_9 (B : mv_B X (kk V) cc (v0 :: mw) "FamilyRules$Shelf" nL ret rm nm) (hc : cells + 1 ≤ rm.cells) (hs : slots + 4 ≤ rm.slots) (hdg : decode cc pc = .ok (.new 9, 3)) (k : ∀ q : Nat, (∀ a e, M a = some e → a < q) → mv_G X Q (kk V) nL (pc + 3) lv (.ref q :: st) (mv_up M q (.inr (0, [va_rf none, va_rf none, va_rf none, va_rf none]))) (cells + 1) (slots + 4)) : mv_G X Q (kk V) nL pc lv st M cells slots := mv_new B in_Term ty_Term tyo_Term (mwc (mw_t 51 (by decide +kernel) (by decide +kernel))) (mwc (mw_t 148 (by decide +kernel) (by decide +kernel))) (mwc (mw_t 7 (by decide +kernel) (by decide +kernel))) rfl df_Term hc hs hdg k
end RW6
end
section
/-! A TERM of the class: length, kinds, numbers, sorts, nodes; how it lies in the heap; its reads -/
abbrev Tm : Type := Nat × (Nat → Int) × (Nat → Int) × (Nat → Int) × (Nat → Int)
abbrev Sm (z : Int) : Prop := -100000000 ≤ z ∧ z ≤ 100000000
def TermAt (V : mv_V) (M : mv_M) (h : Nat) (t : Tm) : Prop := ∃ a0 a1 a2 a3 : Nat, M h = some (.inr (0, [.ref a0, .ref a1, .ref a2, .ref a3])) ∧ M a0 = some (iA V t.1 t.2.1) ∧ M a1 = some (iA V t.1 t.2.2.1) ∧ M a2 = some (iA V t.1 t.2.2.2.1) ∧ M a3 = some (iA V t.1 t.2.2.2.2)
def Tok (t : Tm) : Prop := 1 ≤ t.1 ∧ t.1 ≤ 1000 ∧ (∀ j, 0 ≤ t.2.1 j ∧ t.2.1 j ≤ 6) ∧ (∀ j, -1 ≤ t.2.2.1 j ∧ t.2.2.1 j ≤ 1000000) ∧ (∀ j, 0 ≤ t.2.2.2.1 j ∧ t.2.2.2.1 j ≤ 100) ∧ (∀ j, 0 ≤ t.2.2.2.2 j ∧ t.2.2.2.2 j ≤ 1000)
theorem Tok_k {t : Tm} (h : Tok t) : ∀ j, R32 (t.2.1 j) := fun j => by have := h.2.2.1 j; omega
theorem Tok_u {t : Tm} (h : Tok t) : ∀ j, R32 (t.2.2.1 j) := fun j => by have := h.2.2.2.1 j; omega
theorem Tok_s {t : Tm} (h : Tok t) : ∀ j, R32 (t.2.2.2.1 j) := fun j => by have := h.2.2.2.2.1 j; omega
theorem Tok_d {t : Tm} (h : Tok t) : ∀ j, R32 (t.2.2.2.2 j) := fun j => by have := h.2.2.2.2.2 j; omega
def kAt (t : Tm) (i : Int) : Int := if 0 ≤ i ∧ i < t.1 then t.2.1 i.toNat else -1
def uAt (t : Tm) (i : Int) : Int := if 0 ≤ i ∧ i < t.1 then t.2.2.1 i.toNat else -1
def sAt (t : Tm) (i : Int) : Int := if 0 ≤ i ∧ i < t.1 then t.2.2.2.1 i.toNat else -1
def dAt (t : Tm) (i : Int) : Int := if 0 ≤ i ∧ i < t.1 then t.2.2.2.2 i.toNat else 0
def scd (t : Tm) (i : Int) : Int := i + 1 + dAt t (i + 1)
def beh (t : Tm) : Nat → Int
  | 0 => 0
  | n + 1 => scd t (beh t n)
/-- how often the family g stands in the places b, b + 1, .. of which there are n -/
def cntF (t : Tm) (g b : Int) : Nat → Int
  | 0 => 0
  | n + 1 => cntF t g b n + (if (kAt t (b + n) = 1 ∨ kAt t (b + n) = 3) ∧ uAt t (b + n) = g then 1 else 0)
theorem kAt_r {t : Tm} (h : Tok t) (i : Int) : -1 ≤ kAt t i ∧ kAt t i ≤ 6 := by
  unfold kAt
  split
  · have := h.2.2.1 i.toNat; omega
  · omega
theorem uAt_r {t : Tm} (h : Tok t) (i : Int) : -1 ≤ uAt t i ∧ uAt t i ≤ 1000000 := by
  unfold uAt
  split
  · have := h.2.2.2.1 i.toNat; omega
  · omega
theorem sAt_r {t : Tm} (h : Tok t) (i : Int) : -1 ≤ sAt t i ∧ sAt t i ≤ 100 := by
  unfold sAt
  split
  · have := h.2.2.2.2.1 i.toNat; omega
  · omega
theorem dAt_r {t : Tm} (h : Tok t) (i : Int) : 0 ≤ dAt t i ∧ dAt t i ≤ 1000 := by
  unfold dAt
  split
  · have := h.2.2.2.2.2 i.toNat; omega
  · omega
theorem scd_r {t : Tm} (h : Tok t) (i : Int) : i + 1 ≤ scd t i ∧ scd t i ≤ i + 1001 := by
  have := dAt_r h (i + 1)
  unfold scd
  omega
theorem beh_r {t : Tm} (h : Tok t) : ∀ n : Nat, (n : Int) ≤ beh t n ∧ beh t n ≤ 1001 * n
  | 0 => by simp [beh]
  | n + 1 => by
    have h1 := beh_r h n
    have h2 := scd_r h (beh t n)
    simp only [beh]
    omega
theorem beh_sm {t : Tm} (h : Tok t) (n : Nat) (hn : (n : Int) ≤ 10000) : Sm (beh t n) := by
  have := beh_r h n
  omega
theorem cntF_r (t : Tm) (g b : Int) : ∀ n : Nat, 0 ≤ cntF t g b n ∧ cntF t g b n ≤ n
  | 0 => by simp [cntF]
  | n + 1 => by
    have h1 := cntF_r t g b n
    simp only [cntF]
    split <;> omega
theorem cntF_sm (t : Tm) (g b : Int) (n : Nat) : 0 ≤ cntF t g b n ∧ cntF t g b n ≤ n := cntF_r t g b n
end
section
/-! Term: contracts of the reads -/
set_option maxRecDepth 100000 in
set_option maxHeartbeats 4000000 in
theorem m_Term_length {l : Launch} {V : mv_V} {M : mv_M} {h : Nat} {t : Tm} (hT : TermAt V M h t) (ho : Tok t) : Met l y_Term_length ws_Term_length (rM 0 0 0 0) (mv_Pre (kk V) [.ref h] M) (mv_Q (kk V) (mv_R (some (.int (iI ((t.1 : Nat))))) M)) 0 0 V.2.2.2.2 := by
  refine mv_Met (by decide) rfl (Nat.le_of_ble_eq_true rfl) (fun X hX B => ?_)
  subst hX
  replace B : mv_B X (kk V) c_Term_length ws_Term_length "FamilyRules$Term" 1 (Option.some Jvm.ClassFile.FieldType.int) (rM 0 0 0 0) "length" := B
  obtain ⟨Q, hQ⟩ : ∃ Q, Q = mv_E X (kk V) (mv_R (some (.int (iI ((t.1 : Nat))))) M) 0 0 := ⟨_, rfl⟩
  rw [← hQ]
  show mv_G X Q (kk V) 1 0 [(0, .ref h)] [] M 0 0
  obtain ⟨a0, a1, a2, a3, hh, h0, h1, h2, h3⟩ := hT
  have hn0 := ho.1
  have hn1 := ho.2.1
  have rk := Tok_k ho
  have ru := Tok_u ho
  have rs := Tok_s ho
  have rd := Tok_d ho
  refine mv_aloadR_n B d_Term_length_0 rfl 0 rfl ?_
  refine gf_Term_15 B hh rfl d_Term_length_1 ?_
  refine ia_len B h0 d_Term_length_4 ?_
  rw [hQ]
  exact mv_iret B ⟨(by rfl), rfl⟩ (by omega) (by omega) d_Term_length_5
set_option maxRecDepth 100000 in
set_option maxHeartbeats 4000000 in
theorem m_Term_has {l : Launch} {V : mv_V} {M : mv_M} {h : Nat} {t : Tm} (hT : TermAt V M h t) (ho : Tok t) {i : Int} (ri : R32 i) : Met l y_Term_has ws_Term_has (rM 0 0 0 0) (mv_Pre (kk V) [.ref h, .int (iI (i))] M) (mv_Q (kk V) (mv_R (some (.int (iI (if 0 ≤ i ∧ i < t.1 then 1 else 0)))) M)) 0 0 V.2.2.2.2 := by
  refine mv_Met (by decide) rfl (Nat.le_of_ble_eq_true rfl) (fun X hX B => ?_)
  subst hX
  replace B : mv_B X (kk V) c_Term_has ws_Term_has "FamilyRules$Term" 2 (Option.some Jvm.ClassFile.FieldType.boolean) (rM 0 0 0 0) "has" := B
  obtain ⟨Q, hQ⟩ : ∃ Q, Q = mv_E X (kk V) (mv_R (some (.int (iI (if 0 ≤ i ∧ i < t.1 then 1 else 0)))) M) 0 0 := ⟨_, rfl⟩
  rw [← hQ]
  show mv_G X Q (kk V) 2 0 [(0, .ref h), (1, .int (iI (i)))] [] M 0 0
  obtain ⟨a0, a1, a2, a3, hh, h0, h1, h2, h3⟩ := hT
  have hn0 := ho.1
  have hn1 := ho.2.1
  have rk := Tok_k ho
  have ru := Tok_u ho
  have rs := Tok_s ho
  have rd := Tok_d ho
  refine mv_iload_n B d_Term_has_0 rfl 1 rfl ?_
  refine mv_if_lt (tgt := 17) B d_Term_has_1 (by decide) (by omega) (fun c1 => ?_) (fun c1 => ?_)
  · refine mv_iconst (z := 0) B d_Term_has_17 rfl ?_
    rw [hQ]
    exact mv_zret B rfl ⟨(by first | rfl | rw [if_pos (by omega)] | rw [if_neg (by omega)]), rfl⟩ (by omega) (by omega) d_Term_has_18
  · refine mv_iload_n B d_Term_has_4 rfl 1 rfl ?_
    refine mv_aloadR_n B d_Term_has_5 rfl 0 rfl ?_
    refine gf_Term_15 B hh rfl d_Term_has_6 ?_
    refine ia_len B h0 d_Term_has_9 ?_
    refine mv_icmp_ge (tgt := 17) B d_Term_has_10 (by decide) (by omega) (by omega) (fun c2 => ?_) (fun c2 => ?_)
    · refine mv_iconst (z := 0) B d_Term_has_17 rfl ?_
      rw [hQ]
      exact mv_zret B rfl ⟨(by first | rfl | rw [if_pos (by omega)] | rw [if_neg (by omega)]), rfl⟩ (by omega) (by omega) d_Term_has_18
    · refine mv_iconst (z := 1) B d_Term_has_13 rfl ?_
      refine mv_goto (tgt := 18) B d_Term_has_14 (by decide) ?_
      rw [hQ]
      exact mv_zret B rfl ⟨(by first | rfl | rw [if_pos (by omega)] | rw [if_neg (by omega)]), rfl⟩ (by omega) (by omega) d_Term_has_18
set_option maxRecDepth 100000 in
set_option maxHeartbeats 4000000 in
theorem m_Term_kindAt {l : Launch} {V : mv_V} {M : mv_M} {h : Nat} {t : Tm} (hT : TermAt V M h t) (ho : Tok t) {i : Int} (ri : R32 i) : Met l y_Term_kindAt ws_Term_kindAt (rM 0 0 0 0) (mv_Pre (kk V) [.ref h, .int (iI (i))] M) (mv_Q (kk V) (mv_R (some (.int (iI (kAt t i)))) M)) 0 0 V.2.2.2.2 := by
  refine mv_Met (by decide) rfl (Nat.le_of_ble_eq_true rfl) (fun X hX B => ?_)
  subst hX
  replace B : mv_B X (kk V) c_Term_kindAt ws_Term_kindAt "FamilyRules$Term" 2 (Option.some Jvm.ClassFile.FieldType.int) (rM 0 0 0 0) "kindAt" := B
  obtain ⟨Q, hQ⟩ : ∃ Q, Q = mv_E X (kk V) (mv_R (some (.int (iI (kAt t i)))) M) 0 0 := ⟨_, rfl⟩
  rw [← hQ]
  show mv_G X Q (kk V) 2 0 [(0, .ref h), (1, .int (iI (i)))] [] M 0 0
  obtain ⟨a0, a1, a2, a3, hh, h0, h1, h2, h3⟩ := hT
  have hn0 := ho.1
  have hn1 := ho.2.1
  have rk := Tok_k ho
  have ru := Tok_u ho
  have rs := Tok_s ho
  have rd := Tok_d ho
  refine mv_iload_n B d_Term_kindAt_0 rfl 1 rfl ?_
  refine mv_if_lt (tgt := 22) B d_Term_kindAt_1 (by decide) (by omega) (fun c1 => ?_) (fun c1 => ?_)
  · refine mv_iconst (z := -1) B d_Term_kindAt_22 rfl ?_
    rw [hQ]
    exact mv_iret B ⟨(by simp only [kAt]; first | rw [if_pos (by omega)] | rw [if_neg (by omega)]), rfl⟩ (by omega) (by omega) d_Term_kindAt_23
  · refine mv_iload_n B d_Term_kindAt_4 rfl 1 rfl ?_
    refine mv_aloadR_n B d_Term_kindAt_5 rfl 0 rfl ?_
    refine gf_Term_15 B hh rfl d_Term_kindAt_6 ?_
    refine ia_len B h0 d_Term_kindAt_9 ?_
    refine mv_icmp_ge (tgt := 22) B d_Term_kindAt_10 (by decide) (by omega) (by omega) (fun c2 => ?_) (fun c2 => ?_)
    · refine mv_iconst (z := -1) B d_Term_kindAt_22 rfl ?_
      rw [hQ]
      exact mv_iret B ⟨(by simp only [kAt]; first | rw [if_pos (by omega)] | rw [if_neg (by omega)]), rfl⟩ (by omega) (by omega) d_Term_kindAt_23
    · refine mv_aloadR_n B d_Term_kindAt_13 rfl 0 rfl ?_
      refine gf_Term_15 B hh rfl d_Term_kindAt_14 ?_
      refine mv_iload_n B d_Term_kindAt_17 rfl 1 rfl ?_
      refine ia_ld B h0 (by omega) (by omega) (by omega) d_Term_kindAt_18 ?_
      have rr3 : R32 (t.2.1 (Int.toNat (i))) := rk _
      refine mv_goto (tgt := 23) B d_Term_kindAt_19 (by decide) ?_
      rw [hQ]
      exact mv_iret B ⟨(by simp only [kAt]; first | rw [if_pos (by omega)] | rw [if_neg (by omega)]), rfl⟩ (by omega) (by omega) d_Term_kindAt_23
set_option maxRecDepth 100000 in
set_option maxHeartbeats 4000000 in
theorem m_Term_numberAt {l : Launch} {V : mv_V} {M : mv_M} {h : Nat} {t : Tm} (hT : TermAt V M h t) (ho : Tok t) {i : Int} (ri : R32 i) : Met l y_Term_numberAt ws_Term_numberAt (rM 0 0 0 0) (mv_Pre (kk V) [.ref h, .int (iI (i))] M) (mv_Q (kk V) (mv_R (some (.int (iI (uAt t i)))) M)) 0 0 V.2.2.2.2 := by
  refine mv_Met (by decide) rfl (Nat.le_of_ble_eq_true rfl) (fun X hX B => ?_)
  subst hX
  replace B : mv_B X (kk V) c_Term_numberAt ws_Term_numberAt "FamilyRules$Term" 2 (Option.some Jvm.ClassFile.FieldType.int) (rM 0 0 0 0) "numberAt" := B
  obtain ⟨Q, hQ⟩ : ∃ Q, Q = mv_E X (kk V) (mv_R (some (.int (iI (uAt t i)))) M) 0 0 := ⟨_, rfl⟩
  rw [← hQ]
  show mv_G X Q (kk V) 2 0 [(0, .ref h), (1, .int (iI (i)))] [] M 0 0
  obtain ⟨a0, a1, a2, a3, hh, h0, h1, h2, h3⟩ := hT
  have hn0 := ho.1
  have hn1 := ho.2.1
  have rk := Tok_k ho
  have ru := Tok_u ho
  have rs := Tok_s ho
  have rd := Tok_d ho
  refine mv_iload_n B d_Term_numberAt_0 rfl 1 rfl ?_
  refine mv_if_lt (tgt := 22) B d_Term_numberAt_1 (by decide) (by omega) (fun c1 => ?_) (fun c1 => ?_)
  · refine mv_iconst (z := -1) B d_Term_numberAt_22 rfl ?_
    rw [hQ]
    exact mv_iret B ⟨(by simp only [uAt]; first | rw [if_pos (by omega)] | rw [if_neg (by omega)]), rfl⟩ (by omega) (by omega) d_Term_numberAt_23
  · refine mv_iload_n B d_Term_numberAt_4 rfl 1 rfl ?_
    refine mv_aloadR_n B d_Term_numberAt_5 rfl 0 rfl ?_
    refine gf_Term_21 B hh rfl d_Term_numberAt_6 ?_
    refine ia_len B h1 d_Term_numberAt_9 ?_
    refine mv_icmp_ge (tgt := 22) B d_Term_numberAt_10 (by decide) (by omega) (by omega) (fun c2 => ?_) (fun c2 => ?_)
    · refine mv_iconst (z := -1) B d_Term_numberAt_22 rfl ?_
      rw [hQ]
      exact mv_iret B ⟨(by simp only [uAt]; first | rw [if_pos (by omega)] | rw [if_neg (by omega)]), rfl⟩ (by omega) (by omega) d_Term_numberAt_23
    · refine mv_aloadR_n B d_Term_numberAt_13 rfl 0 rfl ?_
      refine gf_Term_21 B hh rfl d_Term_numberAt_14 ?_
      refine mv_iload_n B d_Term_numberAt_17 rfl 1 rfl ?_
      refine ia_ld B h1 (by omega) (by omega) (by omega) d_Term_numberAt_18 ?_
      have rr3 : R32 (t.2.2.1 (Int.toNat (i))) := ru _
      refine mv_goto (tgt := 23) B d_Term_numberAt_19 (by decide) ?_
      rw [hQ]
      exact mv_iret B ⟨(by simp only [uAt]; first | rw [if_pos (by omega)] | rw [if_neg (by omega)]), rfl⟩ (by omega) (by omega) d_Term_numberAt_23
set_option maxRecDepth 100000 in
set_option maxHeartbeats 4000000 in
theorem m_Term_sortAt {l : Launch} {V : mv_V} {M : mv_M} {h : Nat} {t : Tm} (hT : TermAt V M h t) (ho : Tok t) {i : Int} (ri : R32 i) : Met l y_Term_sortAt ws_Term_sortAt (rM 0 0 0 0) (mv_Pre (kk V) [.ref h, .int (iI (i))] M) (mv_Q (kk V) (mv_R (some (.int (iI (sAt t i)))) M)) 0 0 V.2.2.2.2 := by
  refine mv_Met (by decide) rfl (Nat.le_of_ble_eq_true rfl) (fun X hX B => ?_)
  subst hX
  replace B : mv_B X (kk V) c_Term_sortAt ws_Term_sortAt "FamilyRules$Term" 2 (Option.some Jvm.ClassFile.FieldType.int) (rM 0 0 0 0) "sortAt" := B
  obtain ⟨Q, hQ⟩ : ∃ Q, Q = mv_E X (kk V) (mv_R (some (.int (iI (sAt t i)))) M) 0 0 := ⟨_, rfl⟩
  rw [← hQ]
  show mv_G X Q (kk V) 2 0 [(0, .ref h), (1, .int (iI (i)))] [] M 0 0
  obtain ⟨a0, a1, a2, a3, hh, h0, h1, h2, h3⟩ := hT
  have hn0 := ho.1
  have hn1 := ho.2.1
  have rk := Tok_k ho
  have ru := Tok_u ho
  have rs := Tok_s ho
  have rd := Tok_d ho
  refine mv_iload_n B d_Term_sortAt_0 rfl 1 rfl ?_
  refine mv_if_lt (tgt := 22) B d_Term_sortAt_1 (by decide) (by omega) (fun c1 => ?_) (fun c1 => ?_)
  · refine mv_iconst (z := -1) B d_Term_sortAt_22 rfl ?_
    rw [hQ]
    exact mv_iret B ⟨(by simp only [sAt]; first | rw [if_pos (by omega)] | rw [if_neg (by omega)]), rfl⟩ (by omega) (by omega) d_Term_sortAt_23
  · refine mv_iload_n B d_Term_sortAt_4 rfl 1 rfl ?_
    refine mv_aloadR_n B d_Term_sortAt_5 rfl 0 rfl ?_
    refine gf_Term_24 B hh rfl d_Term_sortAt_6 ?_
    refine ia_len B h2 d_Term_sortAt_9 ?_
    refine mv_icmp_ge (tgt := 22) B d_Term_sortAt_10 (by decide) (by omega) (by omega) (fun c2 => ?_) (fun c2 => ?_)
    · refine mv_iconst (z := -1) B d_Term_sortAt_22 rfl ?_
      rw [hQ]
      exact mv_iret B ⟨(by simp only [sAt]; first | rw [if_pos (by omega)] | rw [if_neg (by omega)]), rfl⟩ (by omega) (by omega) d_Term_sortAt_23
    · refine mv_aloadR_n B d_Term_sortAt_13 rfl 0 rfl ?_
      refine gf_Term_24 B hh rfl d_Term_sortAt_14 ?_
      refine mv_iload_n B d_Term_sortAt_17 rfl 1 rfl ?_
      refine ia_ld B h2 (by omega) (by omega) (by omega) d_Term_sortAt_18 ?_
      have rr3 : R32 (t.2.2.2.1 (Int.toNat (i))) := rs _
      refine mv_goto (tgt := 23) B d_Term_sortAt_19 (by decide) ?_
      rw [hQ]
      exact mv_iret B ⟨(by simp only [sAt]; first | rw [if_pos (by omega)] | rw [if_neg (by omega)]), rfl⟩ (by omega) (by omega) d_Term_sortAt_23
set_option maxRecDepth 100000 in
set_option maxHeartbeats 4000000 in
theorem m_Term_nodesAt {l : Launch} {V : mv_V} {M : mv_M} {h : Nat} {t : Tm} (hT : TermAt V M h t) (ho : Tok t) {i : Int} (ri : R32 i) : Met l y_Term_nodesAt ws_Term_nodesAt (rM 0 0 0 0) (mv_Pre (kk V) [.ref h, .int (iI (i))] M) (mv_Q (kk V) (mv_R (some (.int (iI (dAt t i)))) M)) 0 0 V.2.2.2.2 := by
  refine mv_Met (by decide) rfl (Nat.le_of_ble_eq_true rfl) (fun X hX B => ?_)
  subst hX
  replace B : mv_B X (kk V) c_Term_nodesAt ws_Term_nodesAt "FamilyRules$Term" 2 (Option.some Jvm.ClassFile.FieldType.int) (rM 0 0 0 0) "nodesAt" := B
  obtain ⟨Q, hQ⟩ : ∃ Q, Q = mv_E X (kk V) (mv_R (some (.int (iI (dAt t i)))) M) 0 0 := ⟨_, rfl⟩
  rw [← hQ]
  show mv_G X Q (kk V) 2 0 [(0, .ref h), (1, .int (iI (i)))] [] M 0 0
  obtain ⟨a0, a1, a2, a3, hh, h0, h1, h2, h3⟩ := hT
  have hn0 := ho.1
  have hn1 := ho.2.1
  have rk := Tok_k ho
  have ru := Tok_u ho
  have rs := Tok_s ho
  have rd := Tok_d ho
  refine mv_iload_n B d_Term_nodesAt_0 rfl 1 rfl ?_
  refine mv_if_lt (tgt := 22) B d_Term_nodesAt_1 (by decide) (by omega) (fun c1 => ?_) (fun c1 => ?_)
  · refine mv_iconst (z := 0) B d_Term_nodesAt_22 rfl ?_
    rw [hQ]
    exact mv_iret B ⟨(by simp only [dAt]; first | rw [if_pos (by omega)] | rw [if_neg (by omega)]), rfl⟩ (by omega) (by omega) d_Term_nodesAt_23
  · refine mv_iload_n B d_Term_nodesAt_4 rfl 1 rfl ?_
    refine mv_aloadR_n B d_Term_nodesAt_5 rfl 0 rfl ?_
    refine gf_Term_27 B hh rfl d_Term_nodesAt_6 ?_
    refine ia_len B h3 d_Term_nodesAt_9 ?_
    refine mv_icmp_ge (tgt := 22) B d_Term_nodesAt_10 (by decide) (by omega) (by omega) (fun c2 => ?_) (fun c2 => ?_)
    · refine mv_iconst (z := 0) B d_Term_nodesAt_22 rfl ?_
      rw [hQ]
      exact mv_iret B ⟨(by simp only [dAt]; first | rw [if_pos (by omega)] | rw [if_neg (by omega)]), rfl⟩ (by omega) (by omega) d_Term_nodesAt_23
    · refine mv_aloadR_n B d_Term_nodesAt_13 rfl 0 rfl ?_
      refine gf_Term_27 B hh rfl d_Term_nodesAt_14 ?_
      refine mv_iload_n B d_Term_nodesAt_17 rfl 1 rfl ?_
      refine ia_ld B h3 (by omega) (by omega) (by omega) d_Term_nodesAt_18 ?_
      have rr3 : R32 (t.2.2.2.2 (Int.toNat (i))) := rd _
      refine mv_goto (tgt := 23) B d_Term_nodesAt_19 (by decide) ?_
      rw [hQ]
      exact mv_iret B ⟨(by simp only [dAt]; first | rw [if_pos (by omega)] | rw [if_neg (by omega)]), rfl⟩ (by omega) (by omega) d_Term_nodesAt_23
set_option maxRecDepth 100000 in
set_option maxHeartbeats 4000000 in
theorem m_Term_secondOf {l : Launch} {V : mv_V} {M : mv_M} {h : Nat} {t : Tm} (hT : TermAt V M h t) (ho : Tok t) {i : Int} (ri : Sm i) : Met l y_Term_secondOf ws_Term_secondOf (rM 1 0 0 21) (mv_Pre (kk V) [.ref h, .int (iI (i))] M) (mv_Q (kk V) (mv_R (some (.int (iI (scd t i)))) M)) 0 0 V.2.2.2.2 := by
  refine mv_Met (by decide) rfl (Nat.le_of_ble_eq_true rfl) (fun X hX B => ?_)
  subst hX
  replace B : mv_B X (kk V) c_Term_secondOf ws_Term_secondOf "FamilyRules$Term" 2 (Option.some Jvm.ClassFile.FieldType.int) (rM 1 0 0 21) "secondOf" := B
  obtain ⟨Q, hQ⟩ : ∃ Q, Q = mv_E X (kk V) (mv_R (some (.int (iI (scd t i)))) M) 0 0 := ⟨_, rfl⟩
  rw [← hQ]
  show mv_G X Q (kk V) 2 0 [(0, .ref h), (1, .int (iI (i)))] [] M 0 0
  obtain ⟨a0, a1, a2, a3, hh, h0, h1, h2, h3⟩ := hT
  have hn0 := ho.1
  have hn1 := ho.2.1
  have rk := Tok_k ho
  have ru := Tok_u ho
  have rs := Tok_s ho
  have rd := Tok_d ho
  refine mv_iload_n B d_Term_secondOf_0 rfl 1 rfl ?_
  refine mv_iconst (z := 1) B d_Term_secondOf_1 rfl ?_
  refine mv_iadd B d_Term_secondOf_2 ?_
  refine mv_aloadR_n B d_Term_secondOf_3 rfl 0 rfl ?_
  refine mv_iload_n B d_Term_secondOf_4 rfl 1 rfl ?_
  refine mv_iconst (z := 1) B d_Term_secondOf_5 rfl ?_
  refine mv_iadd B d_Term_secondOf_6 ?_
  refine ca_Term_30 (mc := 0) (ms := 0) (As := [.int (iI (i + 1))]) (rest := [.int (iI (i + 1))]) B (m_Term_nodesAt ⟨a0, a1, a2, a3, hh, h0, h1, h2, h3⟩ ho (i := i + 1) (by omega)) rfl rfl ⟨Nat.le_of_ble_eq_true rfl, Nat.le_of_ble_eq_true rfl⟩ hh rfl rfl (Nat.le_of_ble_eq_true rfl) d_Term_secondOf_7 ⟨by omega, by omega⟩ (mv_x ?_)
  show mv_G X Q (kk V) 2 10 [(0, .ref h), (1, .int (iI (i)))] [.int (iI (dAt t (i + 1))), .int (iI (i + 1))] M 0 0
  refine mv_iadd B d_Term_secondOf_10 ?_
  rw [hQ]
  exact mv_iret B ⟨(by rfl), rfl⟩ (by omega) (by omega) d_Term_secondOf_11
set_option maxRecDepth 100000 in
set_option maxHeartbeats 4000000 in
theorem m_Term_behindAlls {l : Launch} {V : mv_V} {M : mv_M} {h : Nat} {t : Tm} (hT : TermAt V M h t) (ho : Tok t) {n : Int} (hc : 0 ≤ n ∧ n ≤ 10000) : Met l y_Term_behindAlls ws_Term_behindAlls (rM 2 0 0 42) (mv_Pre (kk V) [.ref h, .int (iI (n))] M) (mv_Q (kk V) (mv_R (some (.int (iI (beh t n.toNat)))) M)) 0 0 V.2.2.2.2 := by
  refine mv_Met (by decide) rfl (Nat.le_of_ble_eq_true rfl) (fun X hX B => ?_)
  subst hX
  replace B : mv_B X (kk V) c_Term_behindAlls ws_Term_behindAlls "FamilyRules$Term" 4 (Option.some Jvm.ClassFile.FieldType.int) (rM 2 0 0 42) "behindAlls" := B
  obtain ⟨Q, hQ⟩ : ∃ Q, Q = mv_E X (kk V) (mv_R (some (.int (iI (beh t n.toNat)))) M) 0 0 := ⟨_, rfl⟩
  rw [← hQ]
  show mv_G X Q (kk V) 4 0 [(0, .ref h), (1, .int (iI (n)))] [] M 0 0
  obtain ⟨a0, a1, a2, a3, hh, h0, h1, h2, h3⟩ := hT
  have hn0 := ho.1
  have hn1 := ho.2.1
  have rk := Tok_k ho
  have ru := Tok_u ho
  have rs := Tok_s ho
  have rd := Tok_d ho
  refine mv_iconst (z := 0) B d_Term_behindAlls_0 rfl ?_
  refine mv_istore_n (lv' := [(2, .int (iI (0))), (0, .ref h), (1, .int (iI (n)))]) B d_Term_behindAlls_1 rfl (by decide) rfl ?_
  refine mv_iconst (z := 0) B d_Term_behindAlls_2 rfl ?_
  refine mv_istore_n (lv' := [(3, .int (iI (0))), (2, .int (iI (0))), (0, .ref h), (1, .int (iI (n)))]) B d_Term_behindAlls_3 rfl (by decide) rfl ?_
  have L4 : ∀ (fu : Nat) (i : Nat), ((i : Int) ≤ n) → (n.toNat - i) < fu → mv_G X Q (kk V) 4 4 [(3, .int (iI (i))), (2, .int (iI (beh t i))), (0, .ref h), (1, .int (iI (n)))] [] M 0 0 := by
    intro fu
    induction fu with
    | zero => intro i hi hm; exact absurd hm (Nat.not_lt_zero _)
    | succ fu ih4 =>
      intro i hi hm
      have hb := beh_sm ho i (by omega)
      refine mv_iload_n B d_Term_behindAlls_4 rfl 0 rfl ?_
      refine mv_iload_n B d_Term_behindAlls_5 rfl 3 rfl ?_
      refine mv_icmp_ge (tgt := 21) B d_Term_behindAlls_6 (by decide) (by omega) (by omega) (fun c1 => ?_) (fun c1 => ?_)
      · refine mv_iload_n B d_Term_behindAlls_21 rfl 1 rfl ?_
        rw [hQ]
        exact mv_iret B ⟨(by rw [show i = n.toNat by omega]), rfl⟩ (by omega) (by omega) d_Term_behindAlls_22
      · refine mv_aloadR_n B d_Term_behindAlls_9 rfl 2 rfl ?_
        refine mv_iload_n B d_Term_behindAlls_10 rfl 1 rfl ?_
        refine ca_Term_34 (mc := 0) (ms := 0) (As := [.int (iI (beh t i))]) (rest := []) B (m_Term_secondOf ⟨a0, a1, a2, a3, hh, h0, h1, h2, h3⟩ ho (i := beh t i) (by omega)) rfl rfl ⟨Nat.le_of_ble_eq_true rfl, Nat.le_of_ble_eq_true rfl⟩ hh rfl rfl (Nat.le_of_ble_eq_true rfl) d_Term_behindAlls_11 ⟨by omega, by omega⟩ (mv_x ?_)
        show mv_G X Q (kk V) 4 14 [(3, .int (iI (i))), (2, .int (iI (beh t i))), (0, .ref h), (1, .int (iI (n)))] [.int (iI (scd t (beh t i)))] M 0 0
        refine mv_istore_n (lv' := [(2, .int (iI (scd t (beh t i)))), (3, .int (iI (i))), (0, .ref h), (1, .int (iI (n)))]) B d_Term_behindAlls_14 rfl (by decide) rfl ?_
        refine mv_iinc (lv' := [(3, .int (iI (i + 1))), (2, .int (iI (scd t (beh t i)))), (0, .ref h), (1, .int (iI (n)))]) B d_Term_behindAlls_15 1 rfl (by decide) rfl ?_
        refine mv_goto (tgt := 4) B d_Term_behindAlls_18 (by decide) ?_
        refine mv_lv (lv' := [(3, .int (iI ((i + 1)))), (2, .int (iI (beh t (i + 1)))), (0, .ref h), (1, .int (iI (n)))]) [0, 1, 2, 3] (lc (lI (by first | rfl | omega)) (lc (lI (by first | rfl | omega)) (lc rfl (lc rfl rfl)))) ?_
        exact ih4 (i + 1) (by omega) (by omega)
  refine mv_lv (lv' := [(3, .int (iI (0))), (2, .int (iI (beh t 0))), (0, .ref h), (1, .int (iI (n)))]) [0, 1, 2, 3] (lc rfl (lc (lI (by first | rfl | omega)) (lc rfl (lc rfl rfl)))) ?_
  exact L4 _ 0 hc.1 (Nat.lt_succ_self _)
set_option maxRecDepth 100000 in
set_option maxHeartbeats 4000000 in
theorem m_Term_countFamily {l : Launch} {V : mv_V} {M : mv_M} {h : Nat} {t : Tm} (hT : TermAt V M h t) (ho : Tok t) {g b e : Int} (rg : Sm g) (rb : Sm b) (re : Sm e) : Met l y_Term_countFamily ws_Term_countFamily (rM 1 0 0 21) (mv_Pre (kk V) [.ref h, .int (iI (g)), .int (iI (b)), .int (iI (e))] M) (mv_Q (kk V) (mv_R (some (.int (iI (cntF t g b (e - b).toNat)))) M)) 0 0 V.2.2.2.2 := by
  refine mv_Met (by decide) rfl (Nat.le_of_ble_eq_true rfl) (fun X hX B => ?_)
  subst hX
  replace B : mv_B X (kk V) c_Term_countFamily ws_Term_countFamily "FamilyRules$Term" 7 (Option.some Jvm.ClassFile.FieldType.int) (rM 1 0 0 21) "countFamily" := B
  obtain ⟨Q, hQ⟩ : ∃ Q, Q = mv_E X (kk V) (mv_R (some (.int (iI (cntF t g b (e - b).toNat)))) M) 0 0 := ⟨_, rfl⟩
  rw [← hQ]
  show mv_G X Q (kk V) 7 0 [(0, .ref h), (1, .int (iI (g))), (2, .int (iI (b))), (3, .int (iI (e)))] [] M 0 0
  obtain ⟨a0, a1, a2, a3, hh, h0, h1, h2, h3⟩ := hT
  have hn0 := ho.1
  have hn1 := ho.2.1
  have rk := Tok_k ho
  have ru := Tok_u ho
  have rs := Tok_s ho
  have rd := Tok_d ho
  refine mv_iconst (z := 0) B d_Term_countFamily_0 rfl ?_
  refine mv_istore (lv' := [(4, .int (iI (0))), (0, .ref h), (1, .int (iI (g))), (2, .int (iI (b))), (3, .int (iI (e)))]) B d_Term_countFamily_1 (by decide) rfl ?_
  refine mv_iload_n B d_Term_countFamily_3 rfl 3 rfl ?_
  refine mv_istore (lv' := [(5, .int (iI (b))), (4, .int (iI (0))), (0, .ref h), (1, .int (iI (g))), (2, .int (iI (b))), (3, .int (iI (e)))]) B d_Term_countFamily_4 (by decide) rfl ?_
  have L6 : ∀ (fu : Nat) (i : Nat), (b + i ≤ e ∨ i = 0) → ((e - b).toNat - i) < fu → mv_G X Q (kk V) 7 6 [(5, .int (iI (b + i))), (4, .int (iI (cntF t g b i))), (0, .ref h), (1, .int (iI (g))), (2, .int (iI (b))), (3, .int (iI (e)))] [] M 0 0 := by
    intro fu
    induction fu with
    | zero => intro i hi hm; exact absurd hm (Nat.not_lt_zero _)
    | succ fu ih6 =>
      intro i hi hm
      have hc1 := cntF_sm t g b i
      have hk1 := kAt_r ho (b + i)
      have hu1 := uAt_r ho (b + i)
      refine mv_iload B d_Term_countFamily_6 0 rfl ?_
      refine mv_iload_n B d_Term_countFamily_8 rfl 5 rfl ?_
      refine mv_icmp_ge (tgt := 51) B d_Term_countFamily_9 (by decide) (by omega) (by omega) (fun c1 => ?_) (fun c1 => ?_)
      · refine mv_iload B d_Term_countFamily_51 1 rfl ?_
        rw [hQ]
        exact mv_iret B ⟨(by rw [show (e - b).toNat = i by omega]), rfl⟩ (by omega) (by omega) d_Term_countFamily_53
      · refine mv_aloadR_n B d_Term_countFamily_12 rfl 2 rfl ?_
        refine mv_iload B d_Term_countFamily_13 0 rfl ?_
        refine ca_Term_47 (mc := 0) (ms := 0) (As := [.int (iI (b + i))]) (rest := []) B (m_Term_kindAt ⟨a0, a1, a2, a3, hh, h0, h1, h2, h3⟩ ho (i := b + i) (by omega)) rfl rfl ⟨Nat.le_of_ble_eq_true rfl, Nat.le_of_ble_eq_true rfl⟩ hh rfl rfl (Nat.le_of_ble_eq_true rfl) d_Term_countFamily_15 ⟨by omega, by omega⟩ (mv_x ?_)
        show mv_G X Q (kk V) 7 18 [(5, .int (iI (b + i))), (4, .int (iI (cntF t g b i))), (0, .ref h), (1, .int (iI (g))), (2, .int (iI (b))), (3, .int (iI (e)))] [.int (iI (kAt t (b + i)))] M 0 0
        refine mv_istore (lv' := [(6, .int (iI (kAt t (b + i)))), (5, .int (iI (b + i))), (4, .int (iI (cntF t g b i))), (0, .ref h), (1, .int (iI (g))), (2, .int (iI (b))), (3, .int (iI (e)))]) B d_Term_countFamily_18 (by decide) rfl ?_
        refine mv_iload B d_Term_countFamily_20 0 rfl ?_
        refine mv_iconst (z := 1) B d_Term_countFamily_22 rfl ?_
        refine mv_icmp_eq (tgt := 32) B d_Term_countFamily_23 (by decide) (by omega) (by omega) (fun c2 => ?_) (fun c2 => ?_)
        · refine mv_aloadR_n B d_Term_countFamily_32 rfl 3 rfl ?_
          refine mv_iload B d_Term_countFamily_33 1 rfl ?_
          refine ca_Term_50 (mc := 0) (ms := 0) (As := [.int (iI (b + i))]) (rest := []) B (m_Term_numberAt ⟨a0, a1, a2, a3, hh, h0, h1, h2, h3⟩ ho (i := b + i) (by omega)) rfl rfl ⟨Nat.le_of_ble_eq_true rfl, Nat.le_of_ble_eq_true rfl⟩ hh rfl rfl (Nat.le_of_ble_eq_true rfl) d_Term_countFamily_35 ⟨by omega, by omega⟩ (mv_x ?_)
          show mv_G X Q (kk V) 7 38 [(6, .int (iI (kAt t (b + i)))), (5, .int (iI (b + i))), (4, .int (iI (cntF t g b i))), (0, .ref h), (1, .int (iI (g))), (2, .int (iI (b))), (3, .int (iI (e)))] [.int (iI (uAt t (b + i)))] M 0 0
          refine mv_iload_n B d_Term_countFamily_38 rfl 4 rfl ?_
          refine mv_icmp_ne (tgt := 45) B d_Term_countFamily_39 (by decide) (by omega) (by omega) (fun c3 => ?_) (fun c3 => ?_)
          · refine mv_iinc (lv' := [(5, .int (iI ((b + i) + 1))), (6, .int (iI (kAt t (b + i)))), (4, .int (iI (cntF t g b i))), (0, .ref h), (1, .int (iI (g))), (2, .int (iI (b))), (3, .int (iI (e)))]) B d_Term_countFamily_45 1 rfl (by decide) rfl ?_
            refine mv_goto (tgt := 6) B d_Term_countFamily_48 (by decide) ?_
            refine mv_lv (lv' := [(5, .int (iI (b + (i + 1)))), (4, .int (iI (cntF t g b (i + 1)))), (0, .ref h), (1, .int (iI (g))), (2, .int (iI (b))), (3, .int (iI (e)))]) [0, 2, 3, 4, 5, 6] (lc (lI (by first | rfl | omega)) (lc (lI (by simp only [cntF]; first | (rw [if_pos (by omega)]; done) | (rw [if_neg (by omega)]; omega))) (lc rfl (lc rfl (lc rfl (lc rfl rfl)))))) ?_
            exact ih6 (i + 1) (Or.inl (by omega)) (by omega)
          · refine mv_iinc (lv' := [(4, .int (iI ((cntF t g b i) + 1))), (6, .int (iI (kAt t (b + i)))), (5, .int (iI (b + i))), (0, .ref h), (1, .int (iI (g))), (2, .int (iI (b))), (3, .int (iI (e)))]) B d_Term_countFamily_42 2 rfl (by decide) rfl ?_
            refine mv_iinc (lv' := [(5, .int (iI ((b + i) + 1))), (4, .int (iI ((cntF t g b i) + 1))), (6, .int (iI (kAt t (b + i)))), (0, .ref h), (1, .int (iI (g))), (2, .int (iI (b))), (3, .int (iI (e)))]) B d_Term_countFamily_45 2 rfl (by decide) rfl ?_
            refine mv_goto (tgt := 6) B d_Term_countFamily_48 (by decide) ?_
            refine mv_lv (lv' := [(5, .int (iI (b + (i + 1)))), (4, .int (iI (cntF t g b (i + 1)))), (0, .ref h), (1, .int (iI (g))), (2, .int (iI (b))), (3, .int (iI (e)))]) [0, 1, 3, 4, 5, 6] (lc (lI (by first | rfl | omega)) (lc (lI (by simp only [cntF]; first | (rw [if_pos (by omega)]; done) | (rw [if_neg (by omega)]; omega))) (lc rfl (lc rfl (lc rfl (lc rfl rfl)))))) ?_
            exact ih6 (i + 1) (Or.inl (by omega)) (by omega)
        · refine mv_iload B d_Term_countFamily_26 0 rfl ?_
          refine mv_iconst (z := 3) B d_Term_countFamily_28 rfl ?_
          refine mv_icmp_ne (tgt := 45) B d_Term_countFamily_29 (by decide) (by omega) (by omega) (fun c4 => ?_) (fun c4 => ?_)
          · refine mv_iinc (lv' := [(5, .int (iI ((b + i) + 1))), (6, .int (iI (kAt t (b + i)))), (4, .int (iI (cntF t g b i))), (0, .ref h), (1, .int (iI (g))), (2, .int (iI (b))), (3, .int (iI (e)))]) B d_Term_countFamily_45 1 rfl (by decide) rfl ?_
            refine mv_goto (tgt := 6) B d_Term_countFamily_48 (by decide) ?_
            refine mv_lv (lv' := [(5, .int (iI (b + (i + 1)))), (4, .int (iI (cntF t g b (i + 1)))), (0, .ref h), (1, .int (iI (g))), (2, .int (iI (b))), (3, .int (iI (e)))]) [0, 2, 3, 4, 5, 6] (lc (lI (by first | rfl | omega)) (lc (lI (by simp only [cntF]; first | (rw [if_pos (by omega)]; done) | (rw [if_neg (by omega)]; omega))) (lc rfl (lc rfl (lc rfl (lc rfl rfl)))))) ?_
            exact ih6 (i + 1) (Or.inl (by omega)) (by omega)
          · refine mv_aloadR_n B d_Term_countFamily_32 rfl 3 rfl ?_
            refine mv_iload B d_Term_countFamily_33 1 rfl ?_
            refine ca_Term_50 (mc := 0) (ms := 0) (As := [.int (iI (b + i))]) (rest := []) B (m_Term_numberAt ⟨a0, a1, a2, a3, hh, h0, h1, h2, h3⟩ ho (i := b + i) (by omega)) rfl rfl ⟨Nat.le_of_ble_eq_true rfl, Nat.le_of_ble_eq_true rfl⟩ hh rfl rfl (Nat.le_of_ble_eq_true rfl) d_Term_countFamily_35 ⟨by omega, by omega⟩ (mv_x ?_)
            show mv_G X Q (kk V) 7 38 [(6, .int (iI (kAt t (b + i)))), (5, .int (iI (b + i))), (4, .int (iI (cntF t g b i))), (0, .ref h), (1, .int (iI (g))), (2, .int (iI (b))), (3, .int (iI (e)))] [.int (iI (uAt t (b + i)))] M 0 0
            refine mv_iload_n B d_Term_countFamily_38 rfl 4 rfl ?_
            refine mv_icmp_ne (tgt := 45) B d_Term_countFamily_39 (by decide) (by omega) (by omega) (fun c5 => ?_) (fun c5 => ?_)
            · refine mv_iinc (lv' := [(5, .int (iI ((b + i) + 1))), (6, .int (iI (kAt t (b + i)))), (4, .int (iI (cntF t g b i))), (0, .ref h), (1, .int (iI (g))), (2, .int (iI (b))), (3, .int (iI (e)))]) B d_Term_countFamily_45 1 rfl (by decide) rfl ?_
              refine mv_goto (tgt := 6) B d_Term_countFamily_48 (by decide) ?_
              refine mv_lv (lv' := [(5, .int (iI (b + (i + 1)))), (4, .int (iI (cntF t g b (i + 1)))), (0, .ref h), (1, .int (iI (g))), (2, .int (iI (b))), (3, .int (iI (e)))]) [0, 2, 3, 4, 5, 6] (lc (lI (by first | rfl | omega)) (lc (lI (by simp only [cntF]; first | (rw [if_pos (by omega)]; done) | (rw [if_neg (by omega)]; omega))) (lc rfl (lc rfl (lc rfl (lc rfl rfl)))))) ?_
              exact ih6 (i + 1) (Or.inl (by omega)) (by omega)
            · refine mv_iinc (lv' := [(4, .int (iI ((cntF t g b i) + 1))), (6, .int (iI (kAt t (b + i)))), (5, .int (iI (b + i))), (0, .ref h), (1, .int (iI (g))), (2, .int (iI (b))), (3, .int (iI (e)))]) B d_Term_countFamily_42 2 rfl (by decide) rfl ?_
              refine mv_iinc (lv' := [(5, .int (iI ((b + i) + 1))), (4, .int (iI ((cntF t g b i) + 1))), (6, .int (iI (kAt t (b + i)))), (0, .ref h), (1, .int (iI (g))), (2, .int (iI (b))), (3, .int (iI (e)))]) B d_Term_countFamily_45 2 rfl (by decide) rfl ?_
              refine mv_goto (tgt := 6) B d_Term_countFamily_48 (by decide) ?_
              refine mv_lv (lv' := [(5, .int (iI (b + (i + 1)))), (4, .int (iI (cntF t g b (i + 1)))), (0, .ref h), (1, .int (iI (g))), (2, .int (iI (b))), (3, .int (iI (e)))]) [0, 1, 3, 4, 5, 6] (lc (lI (by first | rfl | omega)) (lc (lI (by simp only [cntF]; first | (rw [if_pos (by omega)]; done) | (rw [if_neg (by omega)]; omega))) (lc rfl (lc rfl (lc rfl (lc rfl rfl)))))) ?_
              exact ih6 (i + 1) (Or.inl (by omega)) (by omega)
  refine mv_lv (lv' := [(5, .int (iI (b + 0))), (4, .int (iI (cntF t g b 0))), (0, .ref h), (1, .int (iI (g))), (2, .int (iI (b))), (3, .int (iI (e)))]) [0, 1, 2, 3, 4, 5] (lc (lI (by first | rfl | omega)) (lc (lI (by first | rfl | omega)) (lc rfl (lc rfl (lc rfl (lc rfl rfl)))))) ?_
  exact L6 _ 0 (Or.inr rfl) (Nat.lt_succ_self _)
end
section
/-! A TERM that is written: its arrays at q, apart; what writing does -/
abbrev Q4 : Type := Nat × Nat × Nat × Nat
def TmC (V : mv_V) (M : mv_M) (h : Nat) (q : Q4) (t : Tm) : Prop := M h = some (.inr (0, [.ref q.1, .ref q.2.1, .ref q.2.2.1, .ref q.2.2.2])) ∧ M q.1 = some (iA V t.1 t.2.1) ∧ M q.2.1 = some (iA V t.1 t.2.2.1) ∧ M q.2.2.1 = some (iA V t.1 t.2.2.2.1) ∧ M q.2.2.2 = some (iA V t.1 t.2.2.2.2) ∧ q.1 ≠ q.2.1 ∧ q.1 ≠ q.2.2.1 ∧ q.1 ≠ q.2.2.2 ∧ q.2.1 ≠ q.2.2.1 ∧ q.2.1 ≠ q.2.2.2 ∧ q.2.2.1 ≠ q.2.2.2
theorem TmC.at {V : mv_V} {M : mv_M} {h : Nat} {q : Q4} {t : Tm} (c : TmC V M h q t) : TermAt V M h t := ⟨_, _, _, _, c.1, c.2.1, c.2.2.1, c.2.2.2.1, c.2.2.2.2.1⟩
def wrTm (V : mv_V) (M : mv_M) (q : Q4) (t : Tm) : mv_M := fun x => if x = q.1 then some (iA V t.1 t.2.1) else if x = q.2.1 then some (iA V t.1 t.2.2.1) else if x = q.2.2.1 then some (iA V t.1 t.2.2.2.1) else if x = q.2.2.2 then some (iA V t.1 t.2.2.2.2) else M x
theorem wrTm_self {V : mv_V} {M : mv_M} {h : Nat} {q : Q4} {t : Tm} (c : TmC V M h q t) : wrTm V M q t = M := by
  obtain ⟨-, h0, h1, h2, h3, -⟩ := c
  funext x
  unfold wrTm
  split
  · rename_i e; rw [e, h0]
  · split
    · rename_i e; rw [e, h1]
    · split
      · rename_i e; rw [e, h2]
      · split
        · rename_i e; rw [e, h3]
        · rfl
theorem wrTm_wr {V : mv_V} {M : mv_M} {q : Q4} {t t' : Tm} : wrTm V (wrTm V M q t) q t' = wrTm V M q t' := by
  funext x
  unfold wrTm
  split
  · rfl
  · split
    · rfl
    · split
      · rfl
      · split <;> rfl
theorem wrTm_ne {V : mv_V} {M : mv_M} {q : Q4} {t : Tm} {x : Nat} (h0 : x ≠ q.1) (h1 : x ≠ q.2.1) (h2 : x ≠ q.2.2.1) (h3 : x ≠ q.2.2.2) : wrTm V M q t x = M x := by
  unfold wrTm
  rw [if_neg h0, if_neg h1, if_neg h2, if_neg h3]
theorem wrTm_c {V : mv_V} {M : mv_M} {h : Nat} {q : Q4} {t t' : Tm} (c : TmC V M h q t) : TmC V (wrTm V M q t') h q t' := by
  obtain ⟨hh, h0, h1, h2, h3, n01, n02, n03, n12, n13, n23⟩ := c
  refine ⟨?_, ?_, ?_, ?_, ?_, n01, n02, n03, n12, n13, n23⟩
  · rw [wrTm_ne (mv_ne hh h0 (by simp)) (mv_ne hh h1 (by simp)) (mv_ne hh h2 (by simp)) (mv_ne hh h3 (by simp))]; exact hh
  · unfold wrTm; rw [if_pos rfl]
  · unfold wrTm; rw [if_neg n01.symm, if_pos rfl]
  · unfold wrTm; rw [if_neg n02.symm, if_neg n12.symm, if_pos rfl]
  · unfold wrTm; rw [if_neg n03.symm, if_neg n13.symm, if_neg n23.symm, if_pos rfl]
theorem wrTm_3 {V : mv_V} {M : mv_M} {h : Nat} {q : Q4} {t : Tm} (c : TmC V M h q t) (k u s : Nat → Int) : mv_up (mv_up (mv_up M q.1 (iA V t.1 k)) q.2.1 (iA V t.1 u)) q.2.2.1 (iA V t.1 s) = wrTm V M q (t.1, k, u, s, t.2.2.2.2) := by
  obtain ⟨-, h0, h1, h2, h3, n01, n02, n03, n12, n13, n23⟩ := c
  funext x
  unfold wrTm mv_up
  by_cases e0 : x = q.1
  · subst e0; simp [n01, n02]
  · by_cases e1 : x = q.2.1
    · subst e1; simp [n12, e0]
    · by_cases e2 : x = q.2.2.1
      · subst e2; simp [e0, e1]
      · by_cases e3 : x = q.2.2.2
        · subst e3; simp [e0, e1, e2, h3]
        · simp [e0, e1, e2, e3]
theorem wrTm_d {V : mv_V} {M : mv_M} {h : Nat} {q : Q4} {t : Tm} (c : TmC V M h q t) (d : Nat → Int) : mv_up M q.2.2.2 (iA V t.1 d) = wrTm V M q (t.1, t.2.1, t.2.2.1, t.2.2.2.1, d) := by
  obtain ⟨-, h0, h1, h2, h3, n01, n02, n03, n12, n13, n23⟩ := c
  funext x
  unfold wrTm mv_up
  by_cases e0 : x = q.1
  · subst e0; simp [n03, h0]
  · by_cases e1 : x = q.2.1
    · subst e1; simp [n13, h1, e0]
    · by_cases e2 : x = q.2.2.1
      · subst e2; simp [e0, e1, n23, h2]
      · by_cases e3 : x = q.2.2.2
        · subst e3; simp [e0, e1, e2]
        · simp [e0, e1, e2, e3]
def setT (t : Tm) (i k u s : Int) : Tm := if 0 ≤ i ∧ i < t.1 then (t.1, va_up t.2.1 i.toNat k, va_up t.2.2.1 i.toNat u, va_up t.2.2.2.1 i.toNat s, t.2.2.2.2) else t
def pasT (t o : Tm) (p : Nat) : Tm := (t.1, va_cpy o.2.1 t.2.1 0 p o.1, va_cpy o.2.2.1 t.2.2.1 0 p o.1, va_cpy o.2.2.2.1 t.2.2.2.1 0 p o.1, t.2.2.2.2)
/-- the lengths ℓ fit the kinds k: each place's run of places is it and its two parts' -/
def WF (n : Nat) (k : Nat → Int) (ℓ : Nat → Nat) : Prop := ∀ i, i < n → 1 ≤ ℓ i ∧ i + ℓ i ≤ n ∧ (k i < 4 → ℓ i = 1) ∧ (4 ≤ k i → i + 1 < n ∧ i + 1 + ℓ (i + 1) < n ∧ ℓ i = 1 + ℓ (i + 1) + ℓ (i + 1 + ℓ (i + 1)))
/-- the lengths from the end on, m of them -/
def dnF (n : Nat) (ℓ : Nat → Nat) (d0 : Nat → Int) (m : Nat) : Nat → Int := fun j => if n - m ≤ j ∧ j < n then (ℓ j : Int) else d0 j
theorem dnF_0 (n : Nat) (ℓ : Nat → Nat) (d0 : Nat → Int) : dnF n ℓ d0 0 = d0 := by
  funext j
  unfold dnF
  rw [if_neg (by omega)]
theorem dnF_s {n : Nat} {ℓ : Nat → Nat} {d0 : Nat → Int} {m : Nat} (hm : m < n) {x : Int} (hx : x = ℓ (n - 1 - m)) : va_up (dnF n ℓ d0 m) (n - 1 - m) x = dnF n ℓ d0 (m + 1) := by
  funext j
  unfold va_up dnF
  by_cases hj : j = n - 1 - m
  · rw [if_pos hj, if_pos (by omega), hx, hj]
  · rw [if_neg hj]
    by_cases h : n - m ≤ j ∧ j < n
    · rw [if_pos h, if_pos (by omega)]
    · rw [if_neg h, if_neg (by omega)]
theorem dnF_ok {t : Tm} (ho : Tok t) {ℓ : Nat → Nat} (hw : WF t.1 t.2.1 ℓ) (m : Nat) : Tok (t.1, t.2.1, t.2.2.1, t.2.2.2.1, dnF t.1 ℓ t.2.2.2.2 m) := by
  refine ⟨ho.1, ho.2.1, ho.2.2.1, ho.2.2.2.1, ho.2.2.2.2.1, fun j => ?_⟩
  show 0 ≤ dnF t.1 ℓ t.2.2.2.2 m j ∧ dnF t.1 ℓ t.2.2.2.2 m j ≤ 1000
  unfold dnF
  split
  · rename_i h
    have := hw j h.2
    have := ho.2.1
    omega
  · exact ho.2.2.2.2.2 j
theorem dnF_at {t : Tm} {ℓ : Nat → Nat} {m : Nat} {i : Int} (h : (t.1 : Int) - m ≤ i) (h2 : i < t.1) (h0 : 0 ≤ i) : dAt (t.1, t.2.1, t.2.2.1, t.2.2.2.1, dnF t.1 ℓ t.2.2.2.2 m) i = ℓ i.toNat := by
  unfold dAt dnF
  simp only
  rw [if_pos ⟨h0, h2⟩, if_pos (by omega)]
set_option maxRecDepth 100000 in
set_option maxHeartbeats 4000000 in
theorem m_Term_set {l : Launch} {V : mv_V} {M : mv_M} {h : Nat} {q : Q4} {t : Tm} (hC : TmC V M h q t) (hn : t.1 ≤ 1000) {i kd nu so : Int} (ri : R32 i) : Met l y_Term_set ws_Term_set (rM 0 0 0 0) (mv_Pre (kk V) [.ref h, .int (iI (i)), .int (iI (kd)), .int (iI (nu)), .int (iI (so))] M) (mv_Q (kk V) (mv_R none (wrTm V M q (setT t i kd nu so)))) 0 0 V.2.2.2.2 := by
  refine mv_Met (by decide) rfl (Nat.le_of_ble_eq_true rfl) (fun X hX B => ?_)
  subst hX
  replace B : mv_B X (kk V) c_Term_set ws_Term_set "FamilyRules$Term" 5 (Option.none : Option Jvm.ClassFile.FieldType) (rM 0 0 0 0) "set" := B
  obtain ⟨Q, hQ⟩ : ∃ Q, Q = mv_E X (kk V) (mv_R none (wrTm V M q (setT t i kd nu so))) 0 0 := ⟨_, rfl⟩
  rw [← hQ]
  show mv_G X Q (kk V) 5 0 [(0, .ref h), (1, .int (iI (i))), (2, .int (iI (kd))), (3, .int (iI (nu))), (4, .int (iI (so)))] [] M 0 0
  obtain ⟨hh, h0, h1, h2, h3, n01, n02, n03, n12, n13, n23⟩ := id hC
  refine mv_iload_n B d_Term_set_0 rfl 1 rfl ?_
  refine mv_if_lt (tgt := 35) B d_Term_set_1 (by decide) (by omega) (fun c1 => ?_) (fun c1 => ?_)
  · rw [hQ]
    exact mv_vret B ⟨rfl, (by unfold setT; rw [if_neg (by omega)]; exact (wrTm_self hC).symm)⟩ (by omega) (by omega) d_Term_set_35
  · refine mv_iload_n B d_Term_set_4 rfl 1 rfl ?_
    refine mv_aloadR_n B d_Term_set_5 rfl 0 rfl ?_
    refine gf_Term_15 B hh rfl d_Term_set_6 ?_
    refine ia_len B h0 d_Term_set_9 ?_
    refine mv_icmp_ge (tgt := 35) B d_Term_set_10 (by decide) (by omega) (by omega) (fun c2 => ?_) (fun c2 => ?_)
    · rw [hQ]
      exact mv_vret B ⟨rfl, (by unfold setT; rw [if_neg (by omega)]; exact (wrTm_self hC).symm)⟩ (by omega) (by omega) d_Term_set_35
    · refine mv_aloadR_n B d_Term_set_13 rfl 0 rfl ?_
      refine gf_Term_15 B hh rfl d_Term_set_14 ?_
      refine mv_iload_n B d_Term_set_17 rfl 1 rfl ?_
      refine mv_iload_n B d_Term_set_18 rfl 2 rfl ?_
      refine ia_st B h0 (by omega) (by omega) (by omega) d_Term_set_19 ?_
      obtain ⟨M3, hM4⟩ : ∃ M1 : mv_M, M1 = mv_up M q.1 (iA V t.1 (va_up t.2.1 (Int.toNat (i)) (kd))) := ⟨_, rfl⟩
      rw [← hM4]
      have hf5 : M3 h = some (.inr (0, [.ref q.1, .ref q.2.1, .ref q.2.2.1, .ref q.2.2.2])) := by rw [hM4, mv_un (mv_ne hh h0 (by simp))]; exact hh
      have hf6 : M3 q.1 = some (iA V t.1 (va_up t.2.1 (Int.toNat (i)) (kd))) := by rw [hM4]; exact mv_us
      have hf7 : M3 q.2.1 = some (iA V t.1 t.2.2.1) := by rw [hM4, mv_un (Ne.symm n01)]; exact h1
      have hf8 : M3 q.2.2.1 = some (iA V t.1 t.2.2.2.1) := by rw [hM4, mv_un (Ne.symm n02)]; exact h2
      have hf9 : M3 q.2.2.2 = some (iA V t.1 t.2.2.2.2) := by rw [hM4, mv_un (Ne.symm n03)]; exact h3
      refine mv_aloadR_n B d_Term_set_20 rfl 0 rfl ?_
      refine gf_Term_21 B hf5 rfl d_Term_set_21 ?_
      refine mv_iload_n B d_Term_set_24 rfl 1 rfl ?_
      refine mv_iload_n B d_Term_set_25 rfl 3 rfl ?_
      refine ia_st B hf7 (by omega) (by omega) (by omega) d_Term_set_26 ?_
      obtain ⟨M10, hM11⟩ : ∃ M1 : mv_M, M1 = mv_up M3 q.2.1 (iA V t.1 (va_up t.2.2.1 (Int.toNat (i)) (nu))) := ⟨_, rfl⟩
      rw [← hM11]
      have hf12 : M10 h = some (.inr (0, [.ref q.1, .ref q.2.1, .ref q.2.2.1, .ref q.2.2.2])) := by rw [hM11, mv_un (mv_ne hf5 hf7 (by simp))]; exact hf5
      have hf13 : M10 q.1 = some (iA V t.1 (va_up t.2.1 (Int.toNat (i)) (kd))) := by rw [hM11, mv_un n01]; exact hf6
      have hf14 : M10 q.2.1 = some (iA V t.1 (va_up t.2.2.1 (Int.toNat (i)) (nu))) := by rw [hM11]; exact mv_us
      have hf15 : M10 q.2.2.1 = some (iA V t.1 t.2.2.2.1) := by rw [hM11, mv_un (Ne.symm n12)]; exact hf8
      have hf16 : M10 q.2.2.2 = some (iA V t.1 t.2.2.2.2) := by rw [hM11, mv_un (Ne.symm n13)]; exact hf9
      refine mv_aloadR_n B d_Term_set_27 rfl 0 rfl ?_
      refine gf_Term_24 B hf12 rfl d_Term_set_28 ?_
      refine mv_iload_n B d_Term_set_31 rfl 1 rfl ?_
      refine mv_iload B d_Term_set_32 4 rfl ?_
      refine ia_st B hf15 (by omega) (by omega) (by omega) d_Term_set_34 ?_
      obtain ⟨M17, hM18⟩ : ∃ M1 : mv_M, M1 = mv_up M10 q.2.2.1 (iA V t.1 (va_up t.2.2.2.1 (Int.toNat (i)) (so))) := ⟨_, rfl⟩
      rw [← hM18]
      have hf19 : M17 h = some (.inr (0, [.ref q.1, .ref q.2.1, .ref q.2.2.1, .ref q.2.2.2])) := by rw [hM18, mv_un (mv_ne hf12 hf15 (by simp))]; exact hf12
      have hf20 : M17 q.1 = some (iA V t.1 (va_up t.2.1 (Int.toNat (i)) (kd))) := by rw [hM18, mv_un n02]; exact hf13
      have hf21 : M17 q.2.1 = some (iA V t.1 (va_up t.2.2.1 (Int.toNat (i)) (nu))) := by rw [hM18, mv_un n12]; exact hf14
      have hf22 : M17 q.2.2.1 = some (iA V t.1 (va_up t.2.2.2.1 (Int.toNat (i)) (so))) := by rw [hM18]; exact mv_us
      have hf23 : M17 q.2.2.2 = some (iA V t.1 t.2.2.2.2) := by rw [hM18, mv_un (Ne.symm n23)]; exact hf16
      rw [hQ]
      exact mv_vret B ⟨rfl, (by rw [hM18, hM11, hM4, wrTm_3 hC]; unfold setT; rw [if_pos (by omega)])⟩ (by omega) (by omega) d_Term_set_35
set_option maxRecDepth 100000 in
set_option maxHeartbeats 4000000 in
theorem m_Term_paste {l : Launch} {V : mv_V} {M : mv_M} {h p : Nat} {q r : Q4} {t o : Tm} (hC : TmC V M h q t) (hn : t.1 ≤ 1000) (hO : TmC V M p r o) (ho : Tok o) (hd : ∀ x y, x ∈ [r.1, r.2.1, r.2.2.1, r.2.2.2] → y ∈ [q.1, q.2.1, q.2.2.1, q.2.2.2] → x ≠ y) {i : Nat} (hi : i + o.1 ≤ t.1) : Met l y_Term_paste ws_Term_paste (rM 1 0 0 40) (mv_Pre (kk V) [.ref h, .ref p, .int (iI ((i : Nat)))] M) (mv_Q (kk V) (mv_R none (wrTm V M q (pasT t o i)))) 0 0 V.2.2.2.2 := by
  refine mv_Met (by decide) rfl (Nat.le_of_ble_eq_true rfl) (fun X hX B => ?_)
  subst hX
  replace B : mv_B X (kk V) c_Term_paste ws_Term_paste "FamilyRules$Term" 4 (Option.none : Option Jvm.ClassFile.FieldType) (rM 1 0 0 40) "paste" := B
  obtain ⟨Q, hQ⟩ : ∃ Q, Q = mv_E X (kk V) (mv_R none (wrTm V M q (pasT t o i))) 0 0 := ⟨_, rfl⟩
  rw [← hQ]
  show mv_G X Q (kk V) 4 0 [(0, .ref h), (1, .ref p), (2, .int (iI ((i : Nat))))] [] M 0 0
  obtain ⟨hh, h0, h1, h2, h3, n01, n02, n03, n12, n13, n23⟩ := id hC
  obtain ⟨ohh, oh0, oh1, oh2, oh3, on01, on02, on03, on12, on13, on23⟩ := id hO
  have hn1 := ho.2.1
  refine mv_aloadR_n B d_Term_paste_0 rfl 1 rfl ?_
  refine ca_Term_37 (mc := 0) (ms := 0) (As := []) (rest := []) B (m_Term_length hO.at ho) rfl rfl ⟨Nat.le_of_ble_eq_true rfl, Nat.le_of_ble_eq_true rfl⟩ ohh rfl rfl (Nat.le_of_ble_eq_true rfl) d_Term_paste_1 ⟨by omega, by omega⟩ (mv_x ?_)
  show mv_G X Q (kk V) 4 4 [(0, .ref h), (1, .ref p), (2, .int (iI ((i : Nat))))] [.int (iI ((o.1 : Nat)))] M 0 0
  refine mv_istore_n (lv' := [(3, .int (iI ((o.1 : Nat)))), (0, .ref h), (1, .ref p), (2, .int (iI ((i : Nat))))]) B d_Term_paste_4 rfl (by decide) rfl ?_
  refine mv_iload_n B d_Term_paste_5 rfl 3 rfl ?_
  refine mv_if_lt (tgt := 62) B d_Term_paste_6 (by decide) (by omega) (fun c1 => ?_) (fun c1 => ?_)
  · omega
  · refine mv_iload_n B d_Term_paste_9 rfl 3 rfl ?_
    refine mv_aloadR_n B d_Term_paste_10 rfl 1 rfl ?_
    refine gf_Term_15 B hh rfl d_Term_paste_11 ?_
    refine ia_len B h0 d_Term_paste_14 ?_
    refine mv_iload_n B d_Term_paste_15 rfl 0 rfl ?_
    refine mv_isub B d_Term_paste_16 ?_
    refine mv_icmp_gt (tgt := 62) B d_Term_paste_17 (by decide) (by omega) (by omega) (fun c2 => ?_) (fun c2 => ?_)
    · omega
    · refine mv_aloadR_n B d_Term_paste_20 rfl 2 rfl ?_
      refine gf_Term_15 B ohh rfl d_Term_paste_21 ?_
      refine mv_iconst (z := 0) B d_Term_paste_24 rfl ?_
      refine mv_aloadR_n B d_Term_paste_25 rfl 1 rfl ?_
      refine gf_Term_15 B hh rfl d_Term_paste_26 ?_
      refine mv_iload_n B d_Term_paste_29 rfl 3 rfl ?_
      refine mv_iload_n B d_Term_paste_30 rfl 0 rfl ?_
      refine ia_cpy B (mwc (mw_t 199 (by decide +kernel) (by decide +kernel))) (mwc (mw_t 201 (by decide +kernel) (by decide +kernel))) (mwc (mw_t 200 (by decide +kernel) (by decide +kernel))) (mwc (mw_t 9 (by decide +kernel) (by decide +kernel))) oh0 h0 (by omega) (by omega) (by omega) (by omega) (by omega) (by omega) (by omega) (by omega) (Nat.le_of_ble_eq_true rfl) (Nat.le_of_ble_eq_true rfl) d_Term_paste_31 ?_
      obtain ⟨M3, hM4⟩ : ∃ M1 : mv_M, M1 = mv_up M q.1 (iA V t.1 (va_cpy o.2.1 t.2.1 (Int.toNat (0)) (Int.toNat ((i : Nat))) (Int.toNat ((o.1 : Nat))))) := ⟨_, rfl⟩
      rw [← hM4]
      have hf5 : M3 h = some (.inr (0, [.ref q.1, .ref q.2.1, .ref q.2.2.1, .ref q.2.2.2])) := by rw [hM4, mv_un (mv_ne hh h0 (by simp))]; exact hh
      have hf6 : M3 q.1 = some (iA V t.1 (va_cpy o.2.1 t.2.1 (Int.toNat (0)) (Int.toNat ((i : Nat))) (Int.toNat ((o.1 : Nat))))) := by rw [hM4]; exact mv_us
      have hf7 : M3 q.2.1 = some (iA V t.1 t.2.2.1) := by rw [hM4, mv_un (Ne.symm n01)]; exact h1
      have hf8 : M3 q.2.2.1 = some (iA V t.1 t.2.2.2.1) := by rw [hM4, mv_un (Ne.symm n02)]; exact h2
      have hf9 : M3 q.2.2.2 = some (iA V t.1 t.2.2.2.2) := by rw [hM4, mv_un (Ne.symm n03)]; exact h3
      have hf10 : M3 p = some (.inr (0, [.ref r.1, .ref r.2.1, .ref r.2.2.1, .ref r.2.2.2])) := by rw [hM4, mv_un (mv_ne ohh h0 (by simp))]; exact ohh
      have hf11 : M3 r.1 = some (iA V o.1 o.2.1) := by rw [hM4, mv_un (hd r.1 q.1 (by simp) (by simp))]; exact oh0
      have hf12 : M3 r.2.1 = some (iA V o.1 o.2.2.1) := by rw [hM4, mv_un (hd r.2.1 q.1 (by simp) (by simp))]; exact oh1
      have hf13 : M3 r.2.2.1 = some (iA V o.1 o.2.2.2.1) := by rw [hM4, mv_un (hd r.2.2.1 q.1 (by simp) (by simp))]; exact oh2
      have hf14 : M3 r.2.2.2 = some (iA V o.1 o.2.2.2.2) := by rw [hM4, mv_un (hd r.2.2.2 q.1 (by simp) (by simp))]; exact oh3
      refine mv_aloadR_n B d_Term_paste_34 rfl 2 rfl ?_
      refine gf_Term_21 B hf10 rfl d_Term_paste_35 ?_
      refine mv_iconst (z := 0) B d_Term_paste_38 rfl ?_
      refine mv_aloadR_n B d_Term_paste_39 rfl 1 rfl ?_
      refine gf_Term_21 B hf5 rfl d_Term_paste_40 ?_
      refine mv_iload_n B d_Term_paste_43 rfl 3 rfl ?_
      refine mv_iload_n B d_Term_paste_44 rfl 0 rfl ?_
      refine ia_cpy B (mwc (mw_t 199 (by decide +kernel) (by decide +kernel))) (mwc (mw_t 201 (by decide +kernel) (by decide +kernel))) (mwc (mw_t 200 (by decide +kernel) (by decide +kernel))) (mwc (mw_t 9 (by decide +kernel) (by decide +kernel))) hf12 hf7 (by omega) (by omega) (by omega) (by omega) (by omega) (by omega) (by omega) (by omega) (Nat.le_of_ble_eq_true rfl) (Nat.le_of_ble_eq_true rfl) d_Term_paste_45 ?_
      obtain ⟨M15, hM16⟩ : ∃ M1 : mv_M, M1 = mv_up M3 q.2.1 (iA V t.1 (va_cpy o.2.2.1 t.2.2.1 (Int.toNat (0)) (Int.toNat ((i : Nat))) (Int.toNat ((o.1 : Nat))))) := ⟨_, rfl⟩
      rw [← hM16]
      have hf17 : M15 h = some (.inr (0, [.ref q.1, .ref q.2.1, .ref q.2.2.1, .ref q.2.2.2])) := by rw [hM16, mv_un (mv_ne hf5 hf7 (by simp))]; exact hf5
      have hf18 : M15 q.1 = some (iA V t.1 (va_cpy o.2.1 t.2.1 (Int.toNat (0)) (Int.toNat ((i : Nat))) (Int.toNat ((o.1 : Nat))))) := by rw [hM16, mv_un n01]; exact hf6
      have hf19 : M15 q.2.1 = some (iA V t.1 (va_cpy o.2.2.1 t.2.2.1 (Int.toNat (0)) (Int.toNat ((i : Nat))) (Int.toNat ((o.1 : Nat))))) := by rw [hM16]; exact mv_us
      have hf20 : M15 q.2.2.1 = some (iA V t.1 t.2.2.2.1) := by rw [hM16, mv_un (Ne.symm n12)]; exact hf8
      have hf21 : M15 q.2.2.2 = some (iA V t.1 t.2.2.2.2) := by rw [hM16, mv_un (Ne.symm n13)]; exact hf9
      have hf22 : M15 p = some (.inr (0, [.ref r.1, .ref r.2.1, .ref r.2.2.1, .ref r.2.2.2])) := by rw [hM16, mv_un (mv_ne hf10 hf7 (by simp))]; exact hf10
      have hf23 : M15 r.1 = some (iA V o.1 o.2.1) := by rw [hM16, mv_un (hd r.1 q.2.1 (by simp) (by simp))]; exact hf11
      have hf24 : M15 r.2.1 = some (iA V o.1 o.2.2.1) := by rw [hM16, mv_un (hd r.2.1 q.2.1 (by simp) (by simp))]; exact hf12
      have hf25 : M15 r.2.2.1 = some (iA V o.1 o.2.2.2.1) := by rw [hM16, mv_un (hd r.2.2.1 q.2.1 (by simp) (by simp))]; exact hf13
      have hf26 : M15 r.2.2.2 = some (iA V o.1 o.2.2.2.2) := by rw [hM16, mv_un (hd r.2.2.2 q.2.1 (by simp) (by simp))]; exact hf14
      refine mv_aloadR_n B d_Term_paste_48 rfl 2 rfl ?_
      refine gf_Term_24 B hf22 rfl d_Term_paste_49 ?_
      refine mv_iconst (z := 0) B d_Term_paste_52 rfl ?_
      refine mv_aloadR_n B d_Term_paste_53 rfl 1 rfl ?_
      refine gf_Term_24 B hf17 rfl d_Term_paste_54 ?_
      refine mv_iload_n B d_Term_paste_57 rfl 3 rfl ?_
      refine mv_iload_n B d_Term_paste_58 rfl 0 rfl ?_
      refine ia_cpy B (mwc (mw_t 199 (by decide +kernel) (by decide +kernel))) (mwc (mw_t 201 (by decide +kernel) (by decide +kernel))) (mwc (mw_t 200 (by decide +kernel) (by decide +kernel))) (mwc (mw_t 9 (by decide +kernel) (by decide +kernel))) hf25 hf20 (by omega) (by omega) (by omega) (by omega) (by omega) (by omega) (by omega) (by omega) (Nat.le_of_ble_eq_true rfl) (Nat.le_of_ble_eq_true rfl) d_Term_paste_59 ?_
      obtain ⟨M27, hM28⟩ : ∃ M1 : mv_M, M1 = mv_up M15 q.2.2.1 (iA V t.1 (va_cpy o.2.2.2.1 t.2.2.2.1 (Int.toNat (0)) (Int.toNat ((i : Nat))) (Int.toNat ((o.1 : Nat))))) := ⟨_, rfl⟩
      rw [← hM28]
      have hf29 : M27 h = some (.inr (0, [.ref q.1, .ref q.2.1, .ref q.2.2.1, .ref q.2.2.2])) := by rw [hM28, mv_un (mv_ne hf17 hf20 (by simp))]; exact hf17
      have hf30 : M27 q.1 = some (iA V t.1 (va_cpy o.2.1 t.2.1 (Int.toNat (0)) (Int.toNat ((i : Nat))) (Int.toNat ((o.1 : Nat))))) := by rw [hM28, mv_un n02]; exact hf18
      have hf31 : M27 q.2.1 = some (iA V t.1 (va_cpy o.2.2.1 t.2.2.1 (Int.toNat (0)) (Int.toNat ((i : Nat))) (Int.toNat ((o.1 : Nat))))) := by rw [hM28, mv_un n12]; exact hf19
      have hf32 : M27 q.2.2.1 = some (iA V t.1 (va_cpy o.2.2.2.1 t.2.2.2.1 (Int.toNat (0)) (Int.toNat ((i : Nat))) (Int.toNat ((o.1 : Nat))))) := by rw [hM28]; exact mv_us
      have hf33 : M27 q.2.2.2 = some (iA V t.1 t.2.2.2.2) := by rw [hM28, mv_un (Ne.symm n23)]; exact hf21
      have hf34 : M27 p = some (.inr (0, [.ref r.1, .ref r.2.1, .ref r.2.2.1, .ref r.2.2.2])) := by rw [hM28, mv_un (mv_ne hf22 hf20 (by simp))]; exact hf22
      have hf35 : M27 r.1 = some (iA V o.1 o.2.1) := by rw [hM28, mv_un (hd r.1 q.2.2.1 (by simp) (by simp))]; exact hf23
      have hf36 : M27 r.2.1 = some (iA V o.1 o.2.2.1) := by rw [hM28, mv_un (hd r.2.1 q.2.2.1 (by simp) (by simp))]; exact hf24
      have hf37 : M27 r.2.2.1 = some (iA V o.1 o.2.2.2.1) := by rw [hM28, mv_un (hd r.2.2.1 q.2.2.1 (by simp) (by simp))]; exact hf25
      have hf38 : M27 r.2.2.2 = some (iA V o.1 o.2.2.2.2) := by rw [hM28, mv_un (hd r.2.2.2 q.2.2.1 (by simp) (by simp))]; exact hf26
      rw [hQ]
      exact mv_vret B ⟨rfl, (by rw [hM28, hM16, hM4, wrTm_3 hC]; unfold pasT; simp only [Int.toNat_natCast, Int.toNat_zero])⟩ (by omega) (by omega) d_Term_paste_62
set_option maxRecDepth 100000 in
set_option maxHeartbeats 4000000 in
theorem m_Term_countNodes {l : Launch} {V : mv_V} {M : mv_M} {h : Nat} {q : Q4} {t : Tm} {ℓ : Nat → Nat} (hC : TmC V M h q t) (ho : Tok t) (hw : WF t.1 t.2.1 ℓ) : Met l y_Term_countNodes ws_Term_countNodes (rM 1 0 0 21) (mv_Pre (kk V) [.ref h] M) (mv_Q (kk V) (mv_R none (mv_up M q.2.2.2 (iA V t.1 (dnF t.1 ℓ t.2.2.2.2 t.1))))) 0 0 V.2.2.2.2 := by
  refine mv_Met (by decide) rfl (Nat.le_of_ble_eq_true rfl) (fun X hX B => ?_)
  subst hX
  replace B : mv_B X (kk V) c_Term_countNodes ws_Term_countNodes "FamilyRules$Term" 4 (Option.none : Option Jvm.ClassFile.FieldType) (rM 1 0 0 21) "countNodes" := B
  obtain ⟨Q, hQ⟩ : ∃ Q, Q = mv_E X (kk V) (mv_R none (mv_up M q.2.2.2 (iA V t.1 (dnF t.1 ℓ t.2.2.2.2 t.1)))) 0 0 := ⟨_, rfl⟩
  rw [← hQ]
  show mv_G X Q (kk V) 4 0 [(0, .ref h)] [] M 0 0
  obtain ⟨hh, h0, h1, h2, h3, n01, n02, n03, n12, n13, n23⟩ := id hC
  have hn0 := ho.1
  have hn1 := ho.2.1
  have rk := Tok_k ho
  refine mv_aloadR_n B d_Term_countNodes_0 rfl 0 rfl ?_
  refine gf_Term_15 B hh rfl d_Term_countNodes_1 ?_
  refine ia_len B h0 d_Term_countNodes_4 ?_
  refine mv_iconst (z := 1) B d_Term_countNodes_5 rfl ?_
  refine mv_isub B d_Term_countNodes_6 ?_
  refine mv_istore_n (lv' := [(1, .int (iI ((t.1 : Nat) - 1))), (0, .ref h)]) B d_Term_countNodes_7 rfl (by decide) rfl ?_
  have L8 : ∀ (fu : Nat) (m : Nat), (m ≤ t.1) → (t.1 - m) < fu → mv_G X Q (kk V) 4 8 [(1, .int (iI ((t.1 : Nat) - 1 - m))), (0, .ref h)] [] (mv_up M q.2.2.2 (iA V t.1 (dnF t.1 ℓ t.2.2.2.2 m))) 0 0 := by
    intro fu
    induction fu with
    | zero => intro m hm0 hm; exact absurd hm (Nat.not_lt_zero _)
    | succ fu ih8 =>
      intro m hm0 hm
      have gC : TmC V (mv_up M q.2.2.2 (iA V t.1 (dnF t.1 ℓ t.2.2.2.2 m))) h q (t.1, t.2.1, t.2.2.1, t.2.2.2.1, dnF t.1 ℓ t.2.2.2.2 m) := by rw [wrTm_d hC]; exact wrTm_c hC
      have gh := gC.1
      have g0 : (mv_up M q.2.2.2 (iA V t.1 (dnF t.1 ℓ t.2.2.2.2 m))) q.1 = some (iA V t.1 t.2.1) := gC.2.1
      have g3 : (mv_up M q.2.2.2 (iA V t.1 (dnF t.1 ℓ t.2.2.2.2 m))) q.2.2.2 = some (iA V t.1 (dnF t.1 ℓ t.2.2.2.2 m)) := gC.2.2.2.2.1
      have gok := dnF_ok ho hw m
      refine mv_iload_n B d_Term_countNodes_8 rfl 0 rfl ?_
      refine mv_if_lt (tgt := 59) B d_Term_countNodes_9 (by decide) (by omega) (fun c1 => ?_) (fun c1 => ?_)
      · rw [hQ]
        exact mv_vret B ⟨rfl, (by rw [show m = t.1 by omega])⟩ (by omega) (by omega) d_Term_countNodes_59
      · refine mv_iconst (z := 0) B d_Term_countNodes_12 rfl ?_
        refine mv_istore_n (lv' := [(2, .int (iI (0))), (1, .int (iI ((t.1 : Nat) - 1 - m))), (0, .ref h)]) B d_Term_countNodes_13 rfl (by decide) rfl ?_
        refine mv_aloadR_n B d_Term_countNodes_14 rfl 2 rfl ?_
        refine gf_Term_15 B gh rfl d_Term_countNodes_15 ?_
        refine mv_iload_n B d_Term_countNodes_18 rfl 1 rfl ?_
        refine ia_ld B g0 (by omega) (by omega) (by omega) d_Term_countNodes_19 ?_
        have rr2 : R32 (t.2.1 (Int.toNat ((t.1 : Nat) - 1 - m))) := rk _
        have w1 := hw (t.1 - 1 - m) (by omega)
        have ei : ((t.1 : Nat) - 1 - m : Int).toNat = t.1 - 1 - m := by omega
        rw [ei]
        have rk1 := rk (t.1 - 1 - m)
        refine mv_iconst (z := 4) B d_Term_countNodes_20 rfl ?_
        refine mv_icmp_lt (tgt := 44) B d_Term_countNodes_21 (by decide) (by omega) (by omega) (fun c3 => ?_) (fun c3 => ?_)
        · refine mv_aloadR_n B d_Term_countNodes_44 rfl 2 rfl ?_
          refine gf_Term_27 B gh rfl d_Term_countNodes_45 ?_
          refine mv_iload_n B d_Term_countNodes_48 rfl 1 rfl ?_
          refine mv_iconst (z := 1) B d_Term_countNodes_49 rfl ?_
          refine mv_iload_n B d_Term_countNodes_50 rfl 0 rfl ?_
          refine mv_iadd B d_Term_countNodes_51 ?_
          refine ia_st B g3 (by omega) (by omega) (by omega) d_Term_countNodes_52 ?_
          obtain ⟨M4, hM5⟩ : ∃ M1 : mv_M, M1 = mv_up (mv_up M q.2.2.2 (iA V t.1 (dnF t.1 ℓ t.2.2.2.2 m))) q.2.2.2 (iA V t.1 (va_up (dnF t.1 ℓ t.2.2.2.2 m) (Int.toNat ((t.1 : Nat) - 1 - m)) (1 + 0))) := ⟨_, rfl⟩
          rw [← hM5]
          have hf6 : M4 h = some (.inr (0, [.ref q.1, .ref q.2.1, .ref q.2.2.1, .ref q.2.2.2])) := by rw [hM5, mv_un (mv_ne gh g3 (by simp))]; exact gh
          have hf7 : M4 q.1 = some (iA V t.1 t.2.1) := by rw [hM5, mv_un n03]; exact g0
          have hf8 : M4 q.2.2.2 = some (iA V t.1 (va_up (dnF t.1 ℓ t.2.2.2.2 m) (Int.toNat ((t.1 : Nat) - 1 - m)) (1 + 0))) := by rw [hM5]; exact mv_us
          refine mv_iinc (lv' := [(1, .int (iI (((t.1 : Nat) - 1 - m) + (-1)))), (2, .int (iI (0))), (0, .ref h)]) B d_Term_countNodes_53 1 rfl (by decide) rfl ?_
          refine mv_goto (tgt := 8) B d_Term_countNodes_56 (by decide) ?_
          refine mv_lv (lv' := [(1, .int (iI ((t.1 : Nat) - 1 - (m + 1)))), (0, .ref h)]) [0, 2] (lc (lI (by omega)) (lc rfl rfl)) ?_
          rw [show M4 = mv_up M q.2.2.2 (iA V t.1 (dnF t.1 ℓ t.2.2.2.2 (m + 1))) from (by rw [hM5, mv_uu, show ((t.1 : Nat) - 1 - m : Int).toNat = t.1 - 1 - m by omega, dnF_s (by omega) (by first | omega | (have := w1.2.2.1 (by omega); omega))])]
          exact ih8 (m + 1) (by omega) (by omega)
        · refine mv_aloadR_n B d_Term_countNodes_24 rfl 2 rfl ?_
          refine mv_iload_n B d_Term_countNodes_25 rfl 1 rfl ?_
          refine mv_iconst (z := 1) B d_Term_countNodes_26 rfl ?_
          refine mv_iadd B d_Term_countNodes_27 ?_
          refine ca_Term_30 (mc := 0) (ms := 0) (As := [.int (iI (((t.1 : Nat) - 1 - m) + 1))]) (rest := []) B (m_Term_nodesAt gC.at gok (i := ((t.1 : Nat) - 1 - m) + 1) (by omega)) rfl rfl ⟨Nat.le_of_ble_eq_true rfl, Nat.le_of_ble_eq_true rfl⟩ gh rfl rfl (Nat.le_of_ble_eq_true rfl) d_Term_countNodes_28 ⟨by omega, by omega⟩ (mv_x ?_)
          show mv_G X Q (kk V) 4 31 [(2, .int (iI (0))), (1, .int (iI ((t.1 : Nat) - 1 - m))), (0, .ref h)] [.int (iI (dAt (t.1, t.2.1, t.2.2.1, t.2.2.2.1, dnF t.1 ℓ t.2.2.2.2 m) (((t.1 : Nat) - 1 - m) + 1)))] (mv_up M q.2.2.2 (iA V t.1 (dnF t.1 ℓ t.2.2.2.2 m))) 0 0
          have w2 := w1.2.2.2 (by omega)
          have e1 : dAt (t.1, t.2.1, t.2.2.1, t.2.2.2.1, dnF t.1 ℓ t.2.2.2.2 m) ((t.1 : Nat) - 1 - m + 1) = (ℓ (t.1 - 1 - m + 1) : Nat) := by rw [dnF_at (by omega) (by omega) (by omega)]; congr 2; omega
          rw [e1]
          refine mv_istore_n (lv' := [(3, .int (iI ((ℓ (t.1 - 1 - m + 1) : Nat)))), (2, .int (iI (0))), (1, .int (iI ((t.1 : Nat) - 1 - m))), (0, .ref h)]) B d_Term_countNodes_31 rfl (by decide) rfl ?_
          refine mv_iload_n B d_Term_countNodes_32 rfl 0 rfl ?_
          refine mv_aloadR_n B d_Term_countNodes_33 rfl 3 rfl ?_
          refine mv_iload_n B d_Term_countNodes_34 rfl 2 rfl ?_
          refine mv_iconst (z := 1) B d_Term_countNodes_35 rfl ?_
          refine mv_iadd B d_Term_countNodes_36 ?_
          refine mv_iload_n B d_Term_countNodes_37 rfl 0 rfl ?_
          refine mv_iadd B d_Term_countNodes_38 ?_
          refine ca_Term_30 (mc := 0) (ms := 0) (As := [.int (iI ((((t.1 : Nat) - 1 - m) + 1) + (ℓ (t.1 - 1 - m + 1) : Nat)))]) (rest := [.int (iI ((ℓ (t.1 - 1 - m + 1) : Nat)))]) B (m_Term_nodesAt gC.at gok (i := (((t.1 : Nat) - 1 - m) + 1) + (ℓ (t.1 - 1 - m + 1) : Nat)) (by omega)) rfl rfl ⟨Nat.le_of_ble_eq_true rfl, Nat.le_of_ble_eq_true rfl⟩ gh rfl rfl (Nat.le_of_ble_eq_true rfl) d_Term_countNodes_39 ⟨by omega, by omega⟩ (mv_x ?_)
          show mv_G X Q (kk V) 4 42 [(3, .int (iI ((ℓ (t.1 - 1 - m + 1) : Nat)))), (2, .int (iI (0))), (1, .int (iI ((t.1 : Nat) - 1 - m))), (0, .ref h)] [.int (iI (dAt (t.1, t.2.1, t.2.2.1, t.2.2.2.1, dnF t.1 ℓ t.2.2.2.2 m) ((((t.1 : Nat) - 1 - m) + 1) + (ℓ (t.1 - 1 - m + 1) : Nat)))), .int (iI ((ℓ (t.1 - 1 - m + 1) : Nat)))] (mv_up M q.2.2.2 (iA V t.1 (dnF t.1 ℓ t.2.2.2.2 m))) 0 0
          have e2 : dAt (t.1, t.2.1, t.2.2.1, t.2.2.2.1, dnF t.1 ℓ t.2.2.2.2 m) ((t.1 : Nat) - 1 - m + 1 + (ℓ (t.1 - 1 - m + 1) : Nat)) = (ℓ (t.1 - 1 - m + 1 + ℓ (t.1 - 1 - m + 1)) : Nat) := by rw [dnF_at (by omega) (by omega) (by omega)]; congr 2; omega
          rw [e2]
          refine mv_iadd B d_Term_countNodes_42 ?_
          refine mv_istore_n (lv' := [(2, .int (iI ((ℓ (t.1 - 1 - m + 1) : Nat) + (ℓ (t.1 - 1 - m + 1 + ℓ (t.1 - 1 - m + 1)) : Nat)))), (3, .int (iI ((ℓ (t.1 - 1 - m + 1) : Nat)))), (1, .int (iI ((t.1 : Nat) - 1 - m))), (0, .ref h)]) B d_Term_countNodes_43 rfl (by decide) rfl ?_
          refine mv_aloadR_n B d_Term_countNodes_44 rfl 3 rfl ?_
          refine gf_Term_27 B gh rfl d_Term_countNodes_45 ?_
          refine mv_iload_n B d_Term_countNodes_48 rfl 2 rfl ?_
          refine mv_iconst (z := 1) B d_Term_countNodes_49 rfl ?_
          refine mv_iload_n B d_Term_countNodes_50 rfl 0 rfl ?_
          refine mv_iadd B d_Term_countNodes_51 ?_
          refine ia_st B g3 (by omega) (by omega) (by omega) d_Term_countNodes_52 ?_
          obtain ⟨M9, hM10⟩ : ∃ M1 : mv_M, M1 = mv_up (mv_up M q.2.2.2 (iA V t.1 (dnF t.1 ℓ t.2.2.2.2 m))) q.2.2.2 (iA V t.1 (va_up (dnF t.1 ℓ t.2.2.2.2 m) (Int.toNat ((t.1 : Nat) - 1 - m)) (1 + ((ℓ (t.1 - 1 - m + 1) : Nat) + (ℓ (t.1 - 1 - m + 1 + ℓ (t.1 - 1 - m + 1)) : Nat))))) := ⟨_, rfl⟩
          rw [← hM10]
          have hf11 : M9 h = some (.inr (0, [.ref q.1, .ref q.2.1, .ref q.2.2.1, .ref q.2.2.2])) := by rw [hM10, mv_un (mv_ne gh g3 (by simp))]; exact gh
          have hf12 : M9 q.1 = some (iA V t.1 t.2.1) := by rw [hM10, mv_un n03]; exact g0
          have hf13 : M9 q.2.2.2 = some (iA V t.1 (va_up (dnF t.1 ℓ t.2.2.2.2 m) (Int.toNat ((t.1 : Nat) - 1 - m)) (1 + ((ℓ (t.1 - 1 - m + 1) : Nat) + (ℓ (t.1 - 1 - m + 1 + ℓ (t.1 - 1 - m + 1)) : Nat))))) := by rw [hM10]; exact mv_us
          refine mv_iinc (lv' := [(1, .int (iI (((t.1 : Nat) - 1 - m) + (-1)))), (2, .int (iI ((ℓ (t.1 - 1 - m + 1) : Nat) + (ℓ (t.1 - 1 - m + 1 + ℓ (t.1 - 1 - m + 1)) : Nat)))), (3, .int (iI ((ℓ (t.1 - 1 - m + 1) : Nat)))), (0, .ref h)]) B d_Term_countNodes_53 2 rfl (by decide) rfl ?_
          refine mv_goto (tgt := 8) B d_Term_countNodes_56 (by decide) ?_
          refine mv_lv (lv' := [(1, .int (iI ((t.1 : Nat) - 1 - (m + 1)))), (0, .ref h)]) [0, 3] (lc (lI (by omega)) (lc rfl rfl)) ?_
          rw [show M9 = mv_up M q.2.2.2 (iA V t.1 (dnF t.1 ℓ t.2.2.2.2 (m + 1))) from (by rw [hM10, mv_uu, show ((t.1 : Nat) - 1 - m : Int).toNat = t.1 - 1 - m by omega, dnF_s (by omega) (by first | omega | (have := w1.2.2.1 (by omega); omega))])]
          exact ih8 (m + 1) (by omega) (by omega)
  refine mv_lv (lv' := [(1, .int (iI ((t.1 : Nat) - 1 - 0))), (0, .ref h)]) [0, 1] (lc (lI (by omega)) (lc rfl rfl)) ?_
  rw [show M = mv_up M q.2.2.2 (iA V t.1 (dnF t.1 ℓ t.2.2.2.2 0)) from (by rw [dnF_0]; exact (mv_self h3).symm)]
  exact L8 _ 0 (Nat.zero_le _) (Nat.lt_succ_self _)
set_option maxRecDepth 100000 in
set_option maxHeartbeats 4000000 in
theorem m_Term_init {l : Launch} {V : mv_V} {M : mv_M} {h n : Nat} (hh : M h = some (.inr (0, [va_rf none, va_rf none, va_rf none, va_rf none]))) (hn : 1 ≤ n ∧ n ≤ 1000) : Met l y_Term_init ws_Term_init (rM 1 4 (4 * n) 40) (mv_Pre (kk V) [.ref h, .int (iI ((n : Nat)))] M) (mv_Q (kk V) (fun v M' => v = none ∧ ∃ q : Q4, TmC V M' h q (n, fun _ => 0, fun _ => 0, fun _ => 0, va_up (fun _ => 0) 0 1) ∧ (∀ x e, M x = some e → x ≠ h → M' x = some e) ∧ (∀ x e, M x = some e → x < q.1 ∧ x < q.2.1 ∧ x < q.2.2.1 ∧ x < q.2.2.2))) 4 (4 * n) V.2.2.2.2 := by
  refine mv_Met (by decide) rfl (Nat.le_of_ble_eq_true rfl) (fun X hX B => ?_)
  subst hX
  replace B : mv_B X (kk V) c_Term_init ws_Term_init "FamilyRules$Term" 3 (Option.none : Option Jvm.ClassFile.FieldType) (rM 1 4 (4 * n) 40) "<init>" := B
  obtain ⟨Q, hQ⟩ : ∃ Q, Q = mv_E X (kk V) (fun v M' => v = none ∧ ∃ q : Q4, TmC V M' h q (n, fun _ => 0, fun _ => 0, fun _ => 0, va_up (fun _ => 0) 0 1) ∧ (∀ x e, M x = some e → x ≠ h → M' x = some e) ∧ (∀ x e, M x = some e → x < q.1 ∧ x < q.2.1 ∧ x < q.2.2.1 ∧ x < q.2.2.2)) 4 (4 * n) := ⟨_, rfl⟩
  rw [← hQ]
  show mv_G X Q (kk V) 3 0 [(0, .ref h), (1, .int (iI ((n : Nat))))] [] M 0 0
  have hrc : (rM 1 4 (4 * n) 40).cells = 4 := rfl
  have hrs : (rM 1 4 (4 * n) 40).slots = 4 * n := rfl
  refine mv_aloadR_n B d_Term_init_0 rfl 0 rfl ?_
  refine mv_objInit B (mwc (mw_t 152 (by decide +kernel) (by decide +kernel))) (mwc (mw_t 17 (by decide +kernel) (by decide +kernel))) (mwc (mw_t 18 (by decide +kernel) (by decide +kernel))) d_Term_init_1 (Nat.le_of_ble_eq_true rfl) (Nat.le_of_ble_eq_true rfl) ?_
  refine mv_iload_n B d_Term_init_4 rfl 1 rfl ?_
  refine mv_iconst (z := 1) B d_Term_init_5 rfl ?_
  refine mv_max B (by omega) (by omega) (mwc (mw_t 153 (by decide +kernel) (by decide +kernel))) (mwc (mw_t 154 (by decide +kernel) (by decide +kernel))) (mwc (mw_t 8 (by decide +kernel) (by decide +kernel))) (mwc (mw_t 155 (by decide +kernel) (by decide +kernel))) (Nat.le_of_ble_eq_true rfl) (Nat.le_of_ble_eq_true rfl) (by omega) (by omega) d_Term_init_6 ?_
  rw [show (if (n : Int) < 1 then (1 : Int) else (n : Int)) = (n : Int) from if_neg (by omega)]
  refine mv_istore_n (lv' := [(2, .int (iI ((n : Nat)))), (0, .ref h), (1, .int (iI ((n : Nat))))]) B d_Term_init_9 rfl (by decide) rfl ?_
  refine mv_aloadR_n B d_Term_init_10 rfl 1 rfl ?_
  refine mv_iload_n B d_Term_init_11 rfl 0 rfl ?_
  refine ia_new (n := n) B (mw_t 44 (by decide +kernel) (by decide +kernel)) (by omega) (by omega) (by omega) (by omega) d_Term_init_12 (fun q1 fq2 => ?_)
  obtain ⟨M3, hM4⟩ : ∃ M1 : mv_M, M1 = mv_up M q1 (iA V n (fun _ => 0)) := ⟨_, rfl⟩
  rw [← hM4]
  have hf5 : M3 h = some (.inr (0, [va_rf (none), va_rf (none), va_rf (none), va_rf (none)])) := by rw [hM4, mv_un (Nat.ne_of_lt (fq2 _ _ hh))]; exact hh
  have hf6 : M3 q1 = some (iA V n (fun _ => 0)) := by rw [hM4]; exact mv_us
  refine pF_Term_15 B hf5 rfl rfl (Nat.le_of_ble_eq_true rfl) d_Term_init_14 ?_
  show mv_G X Q (kk V) 3 17 [(2, .int (iI ((n : Nat)))), (0, .ref h), (1, .int (iI ((n : Nat))))] [] (mv_up M3 h (.inr (0, [.ref q1, va_rf (none), va_rf (none), va_rf (none)]))) (0 + 1) (0 + n)
  obtain ⟨M7, hM8⟩ : ∃ M1 : mv_M, M1 = mv_up M3 h (.inr (0, [.ref q1, va_rf (none), va_rf (none), va_rf (none)])) := ⟨_, rfl⟩
  rw [← hM8]
  have hf9 : M7 h = some (.inr (0, [.ref q1, va_rf (none), va_rf (none), va_rf (none)])) := by rw [hM8]; exact mv_us
  have hf10 : M7 q1 = some (iA V n (fun _ => 0)) := by rw [hM8, mv_un (Ne.symm (Nat.ne_of_lt (fq2 _ _ hh)))]; exact hf6
  refine mv_aloadR_n B d_Term_init_17 rfl 1 rfl ?_
  refine mv_iload_n B d_Term_init_18 rfl 0 rfl ?_
  refine ia_new (n := n) B (mw_t 44 (by decide +kernel) (by decide +kernel)) (by omega) (by omega) (by omega) (by omega) d_Term_init_19 (fun q11 fq12 => ?_)
  obtain ⟨M13, hM14⟩ : ∃ M1 : mv_M, M1 = mv_up M7 q11 (iA V n (fun _ => 0)) := ⟨_, rfl⟩
  rw [← hM14]
  have hf15 : M13 h = some (.inr (0, [.ref q1, va_rf (none), va_rf (none), va_rf (none)])) := by rw [hM14, mv_un (Nat.ne_of_lt (fq12 _ _ hf9))]; exact hf9
  have hf16 : M13 q1 = some (iA V n (fun _ => 0)) := by rw [hM14, mv_un (Nat.ne_of_lt (fq12 _ _ hf10))]; exact hf10
  have hf17 : M13 q11 = some (iA V n (fun _ => 0)) := by rw [hM14]; exact mv_us
  refine pF_Term_21 B hf15 rfl rfl (Nat.le_of_ble_eq_true rfl) d_Term_init_21 ?_
  show mv_G X Q (kk V) 3 24 [(2, .int (iI ((n : Nat)))), (0, .ref h), (1, .int (iI ((n : Nat))))] [] (mv_up M13 h (.inr (0, [.ref q1, .ref q11, va_rf (none), va_rf (none)]))) ((0 + 1) + 1) ((0 + n) + n)
  obtain ⟨M18, hM19⟩ : ∃ M1 : mv_M, M1 = mv_up M13 h (.inr (0, [.ref q1, .ref q11, va_rf (none), va_rf (none)])) := ⟨_, rfl⟩
  rw [← hM19]
  have hf20 : M18 h = some (.inr (0, [.ref q1, .ref q11, va_rf (none), va_rf (none)])) := by rw [hM19]; exact mv_us
  have hf21 : M18 q1 = some (iA V n (fun _ => 0)) := by rw [hM19, mv_un (Ne.symm (Nat.ne_of_lt (fq2 _ _ hh)))]; exact hf16
  have hf22 : M18 q11 = some (iA V n (fun _ => 0)) := by rw [hM19, mv_un (Ne.symm (Nat.ne_of_lt (fq12 _ _ hf9)))]; exact hf17
  refine mv_aloadR_n B d_Term_init_24 rfl 1 rfl ?_
  refine mv_iload_n B d_Term_init_25 rfl 0 rfl ?_
  refine ia_new (n := n) B (mw_t 44 (by decide +kernel) (by decide +kernel)) (by omega) (by omega) (by omega) (by omega) d_Term_init_26 (fun q23 fq24 => ?_)
  obtain ⟨M25, hM26⟩ : ∃ M1 : mv_M, M1 = mv_up M18 q23 (iA V n (fun _ => 0)) := ⟨_, rfl⟩
  rw [← hM26]
  have hf27 : M25 h = some (.inr (0, [.ref q1, .ref q11, va_rf (none), va_rf (none)])) := by rw [hM26, mv_un (Nat.ne_of_lt (fq24 _ _ hf20))]; exact hf20
  have hf28 : M25 q1 = some (iA V n (fun _ => 0)) := by rw [hM26, mv_un (Nat.ne_of_lt (fq24 _ _ hf21))]; exact hf21
  have hf29 : M25 q11 = some (iA V n (fun _ => 0)) := by rw [hM26, mv_un (Nat.ne_of_lt (fq24 _ _ hf22))]; exact hf22
  have hf30 : M25 q23 = some (iA V n (fun _ => 0)) := by rw [hM26]; exact mv_us
  refine pF_Term_24 B hf27 rfl rfl (Nat.le_of_ble_eq_true rfl) d_Term_init_28 ?_
  show mv_G X Q (kk V) 3 31 [(2, .int (iI ((n : Nat)))), (0, .ref h), (1, .int (iI ((n : Nat))))] [] (mv_up M25 h (.inr (0, [.ref q1, .ref q11, .ref q23, va_rf (none)]))) (((0 + 1) + 1) + 1) (((0 + n) + n) + n)
  obtain ⟨M31, hM32⟩ : ∃ M1 : mv_M, M1 = mv_up M25 h (.inr (0, [.ref q1, .ref q11, .ref q23, va_rf (none)])) := ⟨_, rfl⟩
  rw [← hM32]
  have hf33 : M31 h = some (.inr (0, [.ref q1, .ref q11, .ref q23, va_rf (none)])) := by rw [hM32]; exact mv_us
  have hf34 : M31 q1 = some (iA V n (fun _ => 0)) := by rw [hM32, mv_un (Ne.symm (Nat.ne_of_lt (fq2 _ _ hh)))]; exact hf28
  have hf35 : M31 q11 = some (iA V n (fun _ => 0)) := by rw [hM32, mv_un (Ne.symm (Nat.ne_of_lt (fq12 _ _ hf9)))]; exact hf29
  have hf36 : M31 q23 = some (iA V n (fun _ => 0)) := by rw [hM32, mv_un (Ne.symm (Nat.ne_of_lt (fq24 _ _ hf20)))]; exact hf30
  refine mv_aloadR_n B d_Term_init_31 rfl 1 rfl ?_
  refine mv_iload_n B d_Term_init_32 rfl 0 rfl ?_
  refine ia_new (n := n) B (mw_t 44 (by decide +kernel) (by decide +kernel)) (by omega) (by omega) (by omega) (by omega) d_Term_init_33 (fun q37 fq38 => ?_)
  obtain ⟨M39, hM40⟩ : ∃ M1 : mv_M, M1 = mv_up M31 q37 (iA V n (fun _ => 0)) := ⟨_, rfl⟩
  rw [← hM40]
  have hf41 : M39 h = some (.inr (0, [.ref q1, .ref q11, .ref q23, va_rf (none)])) := by rw [hM40, mv_un (Nat.ne_of_lt (fq38 _ _ hf33))]; exact hf33
  have hf42 : M39 q1 = some (iA V n (fun _ => 0)) := by rw [hM40, mv_un (Nat.ne_of_lt (fq38 _ _ hf34))]; exact hf34
  have hf43 : M39 q11 = some (iA V n (fun _ => 0)) := by rw [hM40, mv_un (Nat.ne_of_lt (fq38 _ _ hf35))]; exact hf35
  have hf44 : M39 q23 = some (iA V n (fun _ => 0)) := by rw [hM40, mv_un (Nat.ne_of_lt (fq38 _ _ hf36))]; exact hf36
  have hf45 : M39 q37 = some (iA V n (fun _ => 0)) := by rw [hM40]; exact mv_us
  refine pF_Term_27 B hf41 rfl rfl (Nat.le_of_ble_eq_true rfl) d_Term_init_35 ?_
  show mv_G X Q (kk V) 3 38 [(2, .int (iI ((n : Nat)))), (0, .ref h), (1, .int (iI ((n : Nat))))] [] (mv_up M39 h (.inr (0, [.ref q1, .ref q11, .ref q23, .ref q37]))) ((((0 + 1) + 1) + 1) + 1) ((((0 + n) + n) + n) + n)
  obtain ⟨M46, hM47⟩ : ∃ M1 : mv_M, M1 = mv_up M39 h (.inr (0, [.ref q1, .ref q11, .ref q23, .ref q37])) := ⟨_, rfl⟩
  rw [← hM47]
  have hf48 : M46 h = some (.inr (0, [.ref q1, .ref q11, .ref q23, .ref q37])) := by rw [hM47]; exact mv_us
  have hf49 : M46 q1 = some (iA V n (fun _ => 0)) := by rw [hM47, mv_un (Ne.symm (Nat.ne_of_lt (fq2 _ _ hh)))]; exact hf42
  have hf50 : M46 q11 = some (iA V n (fun _ => 0)) := by rw [hM47, mv_un (Ne.symm (Nat.ne_of_lt (fq12 _ _ hf9)))]; exact hf43
  have hf51 : M46 q23 = some (iA V n (fun _ => 0)) := by rw [hM47, mv_un (Ne.symm (Nat.ne_of_lt (fq24 _ _ hf20)))]; exact hf44
  have hf52 : M46 q37 = some (iA V n (fun _ => 0)) := by rw [hM47, mv_un (Ne.symm (Nat.ne_of_lt (fq38 _ _ hf33)))]; exact hf45
  refine mv_aloadR_n B d_Term_init_38 rfl 1 rfl ?_
  refine gf_Term_27 B hf48 rfl d_Term_init_39 ?_
  refine mv_iconst (z := 0) B d_Term_init_42 rfl ?_
  refine mv_iconst (z := 1) B d_Term_init_43 rfl ?_
  refine ia_st B hf52 (by omega) (by omega) (by omega) d_Term_init_44 ?_
  have rg53 : ∀ j, R32 ((va_up (fun _ => 0) (Int.toNat (0)) (1)) j) := R32_up (fun _ => by omega) (by omega)
  obtain ⟨M54, hM55⟩ : ∃ M1 : mv_M, M1 = mv_up M46 q37 (iA V n (va_up (fun _ => 0) (Int.toNat (0)) (1))) := ⟨_, rfl⟩
  rw [← hM55]
  have hf56 : M54 h = some (.inr (0, [.ref q1, .ref q11, .ref q23, .ref q37])) := by rw [hM55, mv_un (Nat.ne_of_lt (fq38 _ _ hf33))]; exact hf48
  have hf57 : M54 q1 = some (iA V n (fun _ => 0)) := by rw [hM55, mv_un (Nat.ne_of_lt (fq38 _ _ hf34))]; exact hf49
  have hf58 : M54 q11 = some (iA V n (fun _ => 0)) := by rw [hM55, mv_un (Nat.ne_of_lt (fq38 _ _ hf35))]; exact hf50
  have hf59 : M54 q23 = some (iA V n (fun _ => 0)) := by rw [hM55, mv_un (Nat.ne_of_lt (fq38 _ _ hf36))]; exact hf51
  have hf60 : M54 q37 = some (iA V n (va_up (fun _ => 0) (Int.toNat (0)) (1))) := by rw [hM55]; exact mv_us
  rw [hQ]
  have keep : ∀ x e, M x = some e → x ≠ h → M54 x = some e := by
    intro x e hx hne
    have hx_0 : M3 x = some e := by rw [hM4, mv_un (Nat.ne_of_lt (fq2 _ _ hx))]; exact hx
    have hx_1 : M7 x = some e := by rw [hM8, mv_un (hne)]; exact hx_0
    have hx_2 : M13 x = some e := by rw [hM14, mv_un (Nat.ne_of_lt (fq12 _ _ hx_1))]; exact hx_1
    have hx_3 : M18 x = some e := by rw [hM19, mv_un (hne)]; exact hx_2
    have hx_4 : M25 x = some e := by rw [hM26, mv_un (Nat.ne_of_lt (fq24 _ _ hx_3))]; exact hx_3
    have hx_5 : M31 x = some e := by rw [hM32, mv_un (hne)]; exact hx_4
    have hx_6 : M39 x = some e := by rw [hM40, mv_un (Nat.ne_of_lt (fq38 _ _ hx_5))]; exact hx_5
    have hx_7 : M46 x = some e := by rw [hM47, mv_un (hne)]; exact hx_6
    have hx_8 : M54 x = some e := by rw [hM55, mv_un (Nat.ne_of_lt (fq38 _ _ hx_5))]; exact hx_7
    exact hx_8
  have fr : ∀ x e, M x = some e → x < q1 ∧ x < q11 ∧ x < q23 ∧ x < q37 := by
    intro x e hx
    by_cases hne : x = h
    · subst hne
      exact ⟨fq2 _ _ hh, fq12 _ _ hf9, fq24 _ _ hf20, fq38 _ _ hf33⟩
    · have hx_0 : M3 x = some e := by rw [hM4, mv_un (Nat.ne_of_lt (fq2 _ _ hx))]; exact hx
      have hx_1 : M7 x = some e := by rw [hM8, mv_un (hne)]; exact hx_0
      have hx_2 : M13 x = some e := by rw [hM14, mv_un (Nat.ne_of_lt (fq12 _ _ hx_1))]; exact hx_1
      have hx_3 : M18 x = some e := by rw [hM19, mv_un (hne)]; exact hx_2
      have hx_4 : M25 x = some e := by rw [hM26, mv_un (Nat.ne_of_lt (fq24 _ _ hx_3))]; exact hx_3
      have hx_5 : M31 x = some e := by rw [hM32, mv_un (hne)]; exact hx_4
      have hx_6 : M39 x = some e := by rw [hM40, mv_un (Nat.ne_of_lt (fq38 _ _ hx_5))]; exact hx_5
      have hx_7 : M46 x = some e := by rw [hM47, mv_un (hne)]; exact hx_6
      have hx_8 : M54 x = some e := by rw [hM55, mv_un (Nat.ne_of_lt (fq38 _ _ hx_5))]; exact hx_7
      exact ⟨fq2 _ _ hx, fq12 _ _ hx_1, fq24 _ _ hx_3, fq38 _ _ hx_5⟩
  exact mv_vret B ⟨rfl, (q1, q11, q23, q37), ⟨hf56, hf57, hf58, hf59, hf60, (Nat.ne_of_lt (fq12 _ _ hf10)), (Nat.ne_of_lt (fq24 _ _ hf21)), (Nat.ne_of_lt (fq38 _ _ hf34)), (Nat.ne_of_lt (fq24 _ _ hf22)), (Nat.ne_of_lt (fq38 _ _ hf35)), (Nat.ne_of_lt (fq38 _ _ hf36))⟩, keep, fr⟩ (by omega) (by omega) d_Term_init_45
end
