section
-- ===== PART A: goes FIRST, ahead of the names: the tables' words, and 'selects' of the private methods out of them =====
/-- a private method of a class that the tables say can be made, by its rows of tables_1 -/
def lw_okq (q : MethodName × Nat) : Prop := (q.1.cls ≠ "java/lang/invoke/MethodHandle" ∧ q.1.cls ≠ "java/lang/invoke/VarHandle") ∧ Cond.instantiable q.1.cls q.2 ∈ tables_1 ∧ Cond.privateMethod q.1 ∈ tables_1 ∧ Cond.instanceMethod q.1 ∈ tables_1
theorem lw_p0 : lw_okq (⟨"CnfCompiler", "fail", "(I)I"⟩, 11) := ⟨⟨by decide +kernel, by decide +kernel⟩, List.mem_of_getElem? (i := 19) (by decide +kernel), List.mem_of_getElem? (i := 258) (by decide +kernel), List.mem_of_getElem? (i := 259) (by decide +kernel)⟩
theorem lw_p1 : lw_okq (⟨"CnfCompiler$History", "save", "(LCnfCompiler$State;)V"⟩, 2) := ⟨⟨by decide +kernel, by decide +kernel⟩, List.mem_of_getElem? (i := 56) (by decide +kernel), List.mem_of_getElem? (i := 268) (by decide +kernel), List.mem_of_getElem? (i := 269) (by decide +kernel)⟩
theorem lw_p2 : lw_okq (⟨"CnfCompiler$History", "dropOldest", "()V"⟩, 2) := ⟨⟨by decide +kernel, by decide +kernel⟩, List.mem_of_getElem? (i := 56) (by decide +kernel), List.mem_of_getElem? (i := 272) (by decide +kernel), List.mem_of_getElem? (i := 273) (by decide +kernel)⟩
theorem lw_p3 : lw_okq (⟨"CnfCompiler$State", "copyFrom", "(LCnfCompiler$State;)V"⟩, 4) := ⟨⟨by decide +kernel, by decide +kernel⟩, List.mem_of_getElem? (i := 27) (by decide +kernel), List.mem_of_getElem? (i := 276) (by decide +kernel), List.mem_of_getElem? (i := 277) (by decide +kernel)⟩
theorem lw_p4 : lw_okq (⟨"CnfCompiler$State", "appendClause", "(I)V"⟩, 4) := ⟨⟨by decide +kernel, by decide +kernel⟩, List.mem_of_getElem? (i := 27) (by decide +kernel), List.mem_of_getElem? (i := 289) (by decide +kernel), List.mem_of_getElem? (i := 290) (by decide +kernel)⟩
theorem lw_p5 : lw_okq (⟨"CnfCompiler", "formulaHasChanged", "()V"⟩, 11) := ⟨⟨by decide +kernel, by decide +kernel⟩, List.mem_of_getElem? (i := 19) (by decide +kernel), List.mem_of_getElem? (i := 293) (by decide +kernel), List.mem_of_getElem? (i := 294) (by decide +kernel)⟩
theorem lw_p6 : lw_okq (⟨"CnfCompiler$Explainer", "forget", "()V"⟩, 6) := ⟨⟨by decide +kernel, by decide +kernel⟩, List.mem_of_getElem? (i := 187) (by decide +kernel), List.mem_of_getElem? (i := 297) (by decide +kernel), List.mem_of_getElem? (i := 298) (by decide +kernel)⟩
theorem lw_p7 : lw_okq (⟨"CnfCompiler$State", "hasClause", "(I)Z"⟩, 4) := ⟨⟨by decide +kernel, by decide +kernel⟩, List.mem_of_getElem? (i := 27) (by decide +kernel), List.mem_of_getElem? (i := 305) (by decide +kernel), List.mem_of_getElem? (i := 306) (by decide +kernel)⟩
theorem lw_p8 : lw_okq (⟨"CnfCompiler$State", "deleteClause", "(I)V"⟩, 4) := ⟨⟨by decide +kernel, by decide +kernel⟩, List.mem_of_getElem? (i := 27) (by decide +kernel), List.mem_of_getElem? (i := 309) (by decide +kernel), List.mem_of_getElem? (i := 310) (by decide +kernel)⟩
theorem lw_p9 : lw_okq (⟨"CnfCompiler$State", "clauseAt", "(I)I"⟩, 4) := ⟨⟨by decide +kernel, by decide +kernel⟩, List.mem_of_getElem? (i := 27) (by decide +kernel), List.mem_of_getElem? (i := 322) (by decide +kernel), List.mem_of_getElem? (i := 323) (by decide +kernel)⟩
theorem lw_p10 : lw_okq (⟨"CnfCompiler$State", "replaceWeight", "(II)I"⟩, 4) := ⟨⟨by decide +kernel, by decide +kernel⟩, List.mem_of_getElem? (i := 27) (by decide +kernel), List.mem_of_getElem? (i := 348) (by decide +kernel), List.mem_of_getElem? (i := 349) (by decide +kernel)⟩
theorem lw_p11 : lw_okq (⟨"CnfCompiler$State", "weightOf", "(I)I"⟩, 4) := ⟨⟨by decide +kernel, by decide +kernel⟩, List.mem_of_getElem? (i := 27) (by decide +kernel), List.mem_of_getElem? (i := 352) (by decide +kernel), List.mem_of_getElem? (i := 353) (by decide +kernel)⟩
theorem lw_p12 : lw_okq (⟨"CnfCompiler", "freshGraph", "()LCnfCompiler$Graph;"⟩, 11) := ⟨⟨by decide +kernel, by decide +kernel⟩, List.mem_of_getElem? (i := 19) (by decide +kernel), List.mem_of_getElem? (i := 360) (by decide +kernel), List.mem_of_getElem? (i := 361) (by decide +kernel)⟩
theorem lw_p13 : lw_okq (⟨"CnfCompiler$Graph", "compile", "(LCnfCompiler$State;)V"⟩, 13) := ⟨⟨by decide +kernel, by decide +kernel⟩, List.mem_of_getElem? (i := 111) (by decide +kernel), List.mem_of_getElem? (i := 364) (by decide +kernel), List.mem_of_getElem? (i := 365) (by decide +kernel)⟩
theorem lw_p14 : lw_okq (⟨"CnfCompiler$Graph", "addResidual", "(IIII)I"⟩, 13) := ⟨⟨by decide +kernel, by decide +kernel⟩, List.mem_of_getElem? (i := 111) (by decide +kernel), List.mem_of_getElem? (i := 370) (by decide +kernel), List.mem_of_getElem? (i := 371) (by decide +kernel)⟩
theorem lw_p15 : lw_okq (⟨"CnfCompiler$Graph", "insert", "(III)I"⟩, 13) := ⟨⟨by decide +kernel, by decide +kernel⟩, List.mem_of_getElem? (i := 111) (by decide +kernel), List.mem_of_getElem? (i := 377) (by decide +kernel), List.mem_of_getElem? (i := 378) (by decide +kernel)⟩
def lw_privs_1 : List (MethodName × Nat) := [(⟨"CnfCompiler", "fail", "(I)I"⟩, 11), (⟨"CnfCompiler$History", "save", "(LCnfCompiler$State;)V"⟩, 2), (⟨"CnfCompiler$History", "dropOldest", "()V"⟩, 2), (⟨"CnfCompiler$State", "copyFrom", "(LCnfCompiler$State;)V"⟩, 4), (⟨"CnfCompiler$State", "appendClause", "(I)V"⟩, 4), (⟨"CnfCompiler", "formulaHasChanged", "()V"⟩, 11), (⟨"CnfCompiler$Explainer", "forget", "()V"⟩, 6), (⟨"CnfCompiler$State", "hasClause", "(I)Z"⟩, 4), (⟨"CnfCompiler$State", "deleteClause", "(I)V"⟩, 4), (⟨"CnfCompiler$State", "clauseAt", "(I)I"⟩, 4), (⟨"CnfCompiler$State", "replaceWeight", "(II)I"⟩, 4), (⟨"CnfCompiler$State", "weightOf", "(I)I"⟩, 4), (⟨"CnfCompiler", "freshGraph", "()LCnfCompiler$Graph;"⟩, 11), (⟨"CnfCompiler$Graph", "compile", "(LCnfCompiler$State;)V"⟩, 13), (⟨"CnfCompiler$Graph", "addResidual", "(IIII)I"⟩, 13), (⟨"CnfCompiler$Graph", "insert", "(III)I"⟩, 13)]
theorem lw_r1 : ∀ q ∈ lw_privs_1, lw_okq q := List.forall_mem_cons.mpr ⟨lw_p0, List.forall_mem_cons.mpr ⟨lw_p1, List.forall_mem_cons.mpr ⟨lw_p2, List.forall_mem_cons.mpr ⟨lw_p3, List.forall_mem_cons.mpr ⟨lw_p4, List.forall_mem_cons.mpr ⟨lw_p5, List.forall_mem_cons.mpr ⟨lw_p6, List.forall_mem_cons.mpr ⟨lw_p7, List.forall_mem_cons.mpr ⟨lw_p8, List.forall_mem_cons.mpr ⟨lw_p9, List.forall_mem_cons.mpr ⟨lw_p10, List.forall_mem_cons.mpr ⟨lw_p11, List.forall_mem_cons.mpr ⟨lw_p12, List.forall_mem_cons.mpr ⟨lw_p13, List.forall_mem_cons.mpr ⟨lw_p14, List.forall_mem_cons.mpr ⟨lw_p15, fun _ h => absurd h List.not_mem_nil⟩⟩⟩⟩⟩⟩⟩⟩⟩⟩⟩⟩⟩⟩⟩⟩
theorem lw_p16 : lw_okq (⟨"CnfCompiler$Graph", "explore", "(II)I"⟩, 13) := ⟨⟨by decide +kernel, by decide +kernel⟩, List.mem_of_getElem? (i := 111) (by decide +kernel), List.mem_of_getElem? (i := 381) (by decide +kernel), List.mem_of_getElem? (i := 382) (by decide +kernel)⟩
theorem lw_p17 : lw_okq (⟨"CnfCompiler$Graph", "bucketOf", "(II)I"⟩, 13) := ⟨⟨by decide +kernel, by decide +kernel⟩, List.mem_of_getElem? (i := 111) (by decide +kernel), List.mem_of_getElem? (i := 385) (by decide +kernel), List.mem_of_getElem? (i := 386) (by decide +kernel)⟩
theorem lw_p18 : lw_okq (⟨"CnfCompiler$Graph", "findNode", "(III)I"⟩, 13) := ⟨⟨by decide +kernel, by decide +kernel⟩, List.mem_of_getElem? (i := 111) (by decide +kernel), List.mem_of_getElem? (i := 389) (by decide +kernel), List.mem_of_getElem? (i := 390) (by decide +kernel)⟩
theorem lw_p19 : lw_okq (⟨"CnfCompiler$Graph", "hasRow", "(III)Z"⟩, 13) := ⟨⟨by decide +kernel, by decide +kernel⟩, List.mem_of_getElem? (i := 111) (by decide +kernel), List.mem_of_getElem? (i := 393) (by decide +kernel), List.mem_of_getElem? (i := 394) (by decide +kernel)⟩
theorem lw_p20 : lw_okq (⟨"CnfCompiler$Graph", "variablesConnectedTo", "(III)I"⟩, 13) := ⟨⟨by decide +kernel, by decide +kernel⟩, List.mem_of_getElem? (i := 111) (by decide +kernel), List.mem_of_getElem? (i := 397) (by decide +kernel), List.mem_of_getElem? (i := 398) (by decide +kernel)⟩
theorem lw_p21 : lw_okq (⟨"CnfCompiler$Graph", "variablesIn", "(II)I"⟩, 13) := ⟨⟨by decide +kernel, by decide +kernel⟩, List.mem_of_getElem? (i := 111) (by decide +kernel), List.mem_of_getElem? (i := 402) (by decide +kernel), List.mem_of_getElem? (i := 403) (by decide +kernel)⟩
theorem lw_p22 : lw_okq (⟨"CnfCompiler$Graph", "exploreDecision", "(II)I"⟩, 13) := ⟨⟨by decide +kernel, by decide +kernel⟩, List.mem_of_getElem? (i := 111) (by decide +kernel), List.mem_of_getElem? (i := 406) (by decide +kernel), List.mem_of_getElem? (i := 407) (by decide +kernel)⟩
theorem lw_p23 : lw_okq (⟨"CnfCompiler$Graph", "mostFrequentVariable", "(II)I"⟩, 13) := ⟨⟨by decide +kernel, by decide +kernel⟩, List.mem_of_getElem? (i := 111) (by decide +kernel), List.mem_of_getElem? (i := 410) (by decide +kernel), List.mem_of_getElem? (i := 411) (by decide +kernel)⟩
theorem lw_p24 : lw_okq (⟨"CnfCompiler$Graph", "setLiteral", "(III)I"⟩, 13) := ⟨⟨by decide +kernel, by decide +kernel⟩, List.mem_of_getElem? (i := 111) (by decide +kernel), List.mem_of_getElem? (i := 415) (by decide +kernel), List.mem_of_getElem? (i := 416) (by decide +kernel)⟩
theorem lw_p25 : lw_okq (⟨"CnfCompiler$Graph", "exploreParts", "(II)I"⟩, 13) := ⟨⟨by decide +kernel, by decide +kernel⟩, List.mem_of_getElem? (i := 111) (by decide +kernel), List.mem_of_getElem? (i := 422) (by decide +kernel), List.mem_of_getElem? (i := 423) (by decide +kernel)⟩
theorem lw_p26 : lw_okq (⟨"CnfCompiler$Graph", "takePart", "(III)I"⟩, 13) := ⟨⟨by decide +kernel, by decide +kernel⟩, List.mem_of_getElem? (i := 111) (by decide +kernel), List.mem_of_getElem? (i := 426) (by decide +kernel), List.mem_of_getElem? (i := 427) (by decide +kernel)⟩
theorem lw_p27 : lw_okq (⟨"CnfCompiler$Graph", "addNode", "(IIII)V"⟩, 13) := ⟨⟨by decide +kernel, by decide +kernel⟩, List.mem_of_getElem? (i := 111) (by decide +kernel), List.mem_of_getElem? (i := 430) (by decide +kernel), List.mem_of_getElem? (i := 431) (by decide +kernel)⟩
theorem lw_p28 : lw_okq (⟨"CnfCompiler$Graph", "makeRoom", "()V"⟩, 13) := ⟨⟨by decide +kernel, by decide +kernel⟩, List.mem_of_getElem? (i := 111) (by decide +kernel), List.mem_of_getElem? (i := 434) (by decide +kernel), List.mem_of_getElem? (i := 435) (by decide +kernel)⟩
theorem lw_p29 : lw_okq (⟨"CnfCompiler$Graph", "nodeTotal", "()I"⟩, 13) := ⟨⟨by decide +kernel, by decide +kernel⟩, List.mem_of_getElem? (i := 111) (by decide +kernel), List.mem_of_getElem? (i := 453) (by decide +kernel), List.mem_of_getElem? (i := 454) (by decide +kernel)⟩
theorem lw_p30 : lw_okq (⟨"CnfCompiler$Graph", "variableAtRoot", "()I"⟩, 13) := ⟨⟨by decide +kernel, by decide +kernel⟩, List.mem_of_getElem? (i := 111) (by decide +kernel), List.mem_of_getElem? (i := 473) (by decide +kernel), List.mem_of_getElem? (i := 474) (by decide +kernel)⟩
theorem lw_p31 : lw_okq (⟨"CnfCompiler$Graph", "partsAtRoot", "()I"⟩, 13) := ⟨⟨by decide +kernel, by decide +kernel⟩, List.mem_of_getElem? (i := 111) (by decide +kernel), List.mem_of_getElem? (i := 477) (by decide +kernel), List.mem_of_getElem? (i := 478) (by decide +kernel)⟩
def lw_privs_2 : List (MethodName × Nat) := [(⟨"CnfCompiler$Graph", "explore", "(II)I"⟩, 13), (⟨"CnfCompiler$Graph", "bucketOf", "(II)I"⟩, 13), (⟨"CnfCompiler$Graph", "findNode", "(III)I"⟩, 13), (⟨"CnfCompiler$Graph", "hasRow", "(III)Z"⟩, 13), (⟨"CnfCompiler$Graph", "variablesConnectedTo", "(III)I"⟩, 13), (⟨"CnfCompiler$Graph", "variablesIn", "(II)I"⟩, 13), (⟨"CnfCompiler$Graph", "exploreDecision", "(II)I"⟩, 13), (⟨"CnfCompiler$Graph", "mostFrequentVariable", "(II)I"⟩, 13), (⟨"CnfCompiler$Graph", "setLiteral", "(III)I"⟩, 13), (⟨"CnfCompiler$Graph", "exploreParts", "(II)I"⟩, 13), (⟨"CnfCompiler$Graph", "takePart", "(III)I"⟩, 13), (⟨"CnfCompiler$Graph", "addNode", "(IIII)V"⟩, 13), (⟨"CnfCompiler$Graph", "makeRoom", "()V"⟩, 13), (⟨"CnfCompiler$Graph", "nodeTotal", "()I"⟩, 13), (⟨"CnfCompiler$Graph", "variableAtRoot", "()I"⟩, 13), (⟨"CnfCompiler$Graph", "partsAtRoot", "()I"⟩, 13)]
theorem lw_r2 : ∀ q ∈ lw_privs_2, lw_okq q := List.forall_mem_cons.mpr ⟨lw_p16, List.forall_mem_cons.mpr ⟨lw_p17, List.forall_mem_cons.mpr ⟨lw_p18, List.forall_mem_cons.mpr ⟨lw_p19, List.forall_mem_cons.mpr ⟨lw_p20, List.forall_mem_cons.mpr ⟨lw_p21, List.forall_mem_cons.mpr ⟨lw_p22, List.forall_mem_cons.mpr ⟨lw_p23, List.forall_mem_cons.mpr ⟨lw_p24, List.forall_mem_cons.mpr ⟨lw_p25, List.forall_mem_cons.mpr ⟨lw_p26, List.forall_mem_cons.mpr ⟨lw_p27, List.forall_mem_cons.mpr ⟨lw_p28, List.forall_mem_cons.mpr ⟨lw_p29, List.forall_mem_cons.mpr ⟨lw_p30, List.forall_mem_cons.mpr ⟨lw_p31, fun _ h => absurd h List.not_mem_nil⟩⟩⟩⟩⟩⟩⟩⟩⟩⟩⟩⟩⟩⟩⟩⟩
theorem lw_p32 : lw_okq (⟨"CnfCompiler", "freshModelSet", "()LCnfCompiler$ModelSet;"⟩, 11) := ⟨⟨by decide +kernel, by decide +kernel⟩, List.mem_of_getElem? (i := 19) (by decide +kernel), List.mem_of_getElem? (i := 490) (by decide +kernel), List.mem_of_getElem? (i := 491) (by decide +kernel)⟩
theorem lw_p33 : lw_okq (⟨"CnfCompiler$ModelSet", "fill", "(LCnfCompiler$State;)V"⟩, 2) := ⟨⟨by decide +kernel, by decide +kernel⟩, List.mem_of_getElem? (i := 160) (by decide +kernel), List.mem_of_getElem? (i := 494) (by decide +kernel), List.mem_of_getElem? (i := 495) (by decide +kernel)⟩
theorem lw_p34 : lw_okq (⟨"CnfCompiler$ModelSet", "keepSatisfying", "(I)V"⟩, 2) := ⟨⟨by decide +kernel, by decide +kernel⟩, List.mem_of_getElem? (i := 160) (by decide +kernel), List.mem_of_getElem? (i := 503) (by decide +kernel), List.mem_of_getElem? (i := 504) (by decide +kernel)⟩
theorem lw_p35 : lw_okq (⟨"CnfCompiler$ModelSet", "size", "()I"⟩, 2) := ⟨⟨by decide +kernel, by decide +kernel⟩, List.mem_of_getElem? (i := 160) (by decide +kernel), List.mem_of_getElem? (i := 515) (by decide +kernel), List.mem_of_getElem? (i := 516) (by decide +kernel)⟩
theorem lw_p36 : lw_okq (⟨"CnfCompiler$ModelSet", "sizeWith", "(I)I"⟩, 2) := ⟨⟨by decide +kernel, by decide +kernel⟩, List.mem_of_getElem? (i := 160) (by decide +kernel), List.mem_of_getElem? (i := 529) (by decide +kernel), List.mem_of_getElem? (i := 530) (by decide +kernel)⟩
theorem lw_p37 : lw_okq (⟨"CnfCompiler$WeightedSum", "over", "(LCnfCompiler$ModelSet;LCnfCompiler$State;)J"⟩, 2) := ⟨⟨by decide +kernel, by decide +kernel⟩, List.mem_of_getElem? (i := 174) (by decide +kernel), List.mem_of_getElem? (i := 537) (by decide +kernel), List.mem_of_getElem? (i := 538) (by decide +kernel)⟩
theorem lw_p38 : lw_okq (⟨"CnfCompiler$ModelSet", "has", "(I)Z"⟩, 2) := ⟨⟨by decide +kernel, by decide +kernel⟩, List.mem_of_getElem? (i := 160) (by decide +kernel), List.mem_of_getElem? (i := 545) (by decide +kernel), List.mem_of_getElem? (i := 546) (by decide +kernel)⟩
theorem lw_p39 : lw_okq (⟨"CnfCompiler$ModelSet", "wordAt", "(I)J"⟩, 2) := ⟨⟨by decide +kernel, by decide +kernel⟩, List.mem_of_getElem? (i := 160) (by decide +kernel), List.mem_of_getElem? (i := 549) (by decide +kernel), List.mem_of_getElem? (i := 550) (by decide +kernel)⟩
theorem lw_p40 : lw_okq (⟨"CnfCompiler$ModelSet", "least", "()I"⟩, 2) := ⟨⟨by decide +kernel, by decide +kernel⟩, List.mem_of_getElem? (i := 160) (by decide +kernel), List.mem_of_getElem? (i := 573) (by decide +kernel), List.mem_of_getElem? (i := 574) (by decide +kernel)⟩
theorem lw_p41 : lw_okq (⟨"CnfCompiler$Explainer", "explain", "(ILCnfCompiler$ModelSet;I)V"⟩, 6) := ⟨⟨by decide +kernel, by decide +kernel⟩, List.mem_of_getElem? (i := 187) (by decide +kernel), List.mem_of_getElem? (i := 587) (by decide +kernel), List.mem_of_getElem? (i := 588) (by decide +kernel)⟩
theorem lw_p42 : lw_okq (⟨"CnfCompiler$Explainer", "complete", "(III)Z"⟩, 6) := ⟨⟨by decide +kernel, by decide +kernel⟩, List.mem_of_getElem? (i := 187) (by decide +kernel), List.mem_of_getElem? (i := 595) (by decide +kernel), List.mem_of_getElem? (i := 596) (by decide +kernel)⟩
theorem lw_p43 : lw_okq (⟨"CnfCompiler$Explainer", "explains", "(I)Z"⟩, 6) := ⟨⟨by decide +kernel, by decide +kernel⟩, List.mem_of_getElem? (i := 187) (by decide +kernel), List.mem_of_getElem? (i := 599) (by decide +kernel), List.mem_of_getElem? (i := 600) (by decide +kernel)⟩
theorem lw_p44 : lw_okq (⟨"CnfCompiler$Explainer", "literalAt", "(I)I"⟩, 6) := ⟨⟨by decide +kernel, by decide +kernel⟩, List.mem_of_getElem? (i := 187) (by decide +kernel), List.mem_of_getElem? (i := 604) (by decide +kernel), List.mem_of_getElem? (i := 605) (by decide +kernel)⟩
theorem lw_p45 : lw_okq (⟨"CnfCompiler$FormulaText", "addByte", "(I)V"⟩, 2) := ⟨⟨by decide +kernel, by decide +kernel⟩, List.mem_of_getElem? (i := 73) (by decide +kernel), List.mem_of_getElem? (i := 615) (by decide +kernel), List.mem_of_getElem? (i := 616) (by decide +kernel)⟩
theorem lw_p46 : lw_okq (⟨"CnfCompiler$ClauseReader", "read", "(LCnfCompiler$FormulaText;I)I"⟩, 5) := ⟨⟨by decide +kernel, by decide +kernel⟩, List.mem_of_getElem? (i := 88) (by decide +kernel), List.mem_of_getElem? (i := 627) (by decide +kernel), List.mem_of_getElem? (i := 628) (by decide +kernel)⟩
theorem lw_p47 : lw_okq (⟨"CnfCompiler$ClauseReader", "readToken", "(LCnfCompiler$FormulaText;I)V"⟩, 5) := ⟨⟨by decide +kernel, by decide +kernel⟩, List.mem_of_getElem? (i := 88) (by decide +kernel), List.mem_of_getElem? (i := 631) (by decide +kernel), List.mem_of_getElem? (i := 632) (by decide +kernel)⟩
def lw_privs_3 : List (MethodName × Nat) := [(⟨"CnfCompiler", "freshModelSet", "()LCnfCompiler$ModelSet;"⟩, 11), (⟨"CnfCompiler$ModelSet", "fill", "(LCnfCompiler$State;)V"⟩, 2), (⟨"CnfCompiler$ModelSet", "keepSatisfying", "(I)V"⟩, 2), (⟨"CnfCompiler$ModelSet", "size", "()I"⟩, 2), (⟨"CnfCompiler$ModelSet", "sizeWith", "(I)I"⟩, 2), (⟨"CnfCompiler$WeightedSum", "over", "(LCnfCompiler$ModelSet;LCnfCompiler$State;)J"⟩, 2), (⟨"CnfCompiler$ModelSet", "has", "(I)Z"⟩, 2), (⟨"CnfCompiler$ModelSet", "wordAt", "(I)J"⟩, 2), (⟨"CnfCompiler$ModelSet", "least", "()I"⟩, 2), (⟨"CnfCompiler$Explainer", "explain", "(ILCnfCompiler$ModelSet;I)V"⟩, 6), (⟨"CnfCompiler$Explainer", "complete", "(III)Z"⟩, 6), (⟨"CnfCompiler$Explainer", "explains", "(I)Z"⟩, 6), (⟨"CnfCompiler$Explainer", "literalAt", "(I)I"⟩, 6), (⟨"CnfCompiler$FormulaText", "addByte", "(I)V"⟩, 2), (⟨"CnfCompiler$ClauseReader", "read", "(LCnfCompiler$FormulaText;I)I"⟩, 5), (⟨"CnfCompiler$ClauseReader", "readToken", "(LCnfCompiler$FormulaText;I)V"⟩, 5)]
theorem lw_r3 : ∀ q ∈ lw_privs_3, lw_okq q := List.forall_mem_cons.mpr ⟨lw_p32, List.forall_mem_cons.mpr ⟨lw_p33, List.forall_mem_cons.mpr ⟨lw_p34, List.forall_mem_cons.mpr ⟨lw_p35, List.forall_mem_cons.mpr ⟨lw_p36, List.forall_mem_cons.mpr ⟨lw_p37, List.forall_mem_cons.mpr ⟨lw_p38, List.forall_mem_cons.mpr ⟨lw_p39, List.forall_mem_cons.mpr ⟨lw_p40, List.forall_mem_cons.mpr ⟨lw_p41, List.forall_mem_cons.mpr ⟨lw_p42, List.forall_mem_cons.mpr ⟨lw_p43, List.forall_mem_cons.mpr ⟨lw_p44, List.forall_mem_cons.mpr ⟨lw_p45, List.forall_mem_cons.mpr ⟨lw_p46, List.forall_mem_cons.mpr ⟨lw_p47, fun _ h => absurd h List.not_mem_nil⟩⟩⟩⟩⟩⟩⟩⟩⟩⟩⟩⟩⟩⟩⟩⟩
theorem lw_p48 : lw_okq (⟨"CnfCompiler$FormulaText", "byteAt", "(I)I"⟩, 2) := ⟨⟨by decide +kernel, by decide +kernel⟩, List.mem_of_getElem? (i := 73) (by decide +kernel), List.mem_of_getElem? (i := 635) (by decide +kernel), List.mem_of_getElem? (i := 636) (by decide +kernel)⟩
theorem lw_p49 : lw_okq (⟨"CnfCompiler$ClauseReader", "closeClause", "()V"⟩, 5) := ⟨⟨by decide +kernel, by decide +kernel⟩, List.mem_of_getElem? (i := 88) (by decide +kernel), List.mem_of_getElem? (i := 639) (by decide +kernel), List.mem_of_getElem? (i := 640) (by decide +kernel)⟩
theorem lw_p50 : lw_okq (⟨"CnfCompiler$FormulaText", "hasDigitAt", "(I)Z"⟩, 2) := ⟨⟨by decide +kernel, by decide +kernel⟩, List.mem_of_getElem? (i := 73) (by decide +kernel), List.mem_of_getElem? (i := 643) (by decide +kernel), List.mem_of_getElem? (i := 644) (by decide +kernel)⟩
theorem lw_p51 : lw_okq (⟨"CnfCompiler$ClauseReader", "readLiteral", "(LCnfCompiler$FormulaText;I)V"⟩, 5) := ⟨⟨by decide +kernel, by decide +kernel⟩, List.mem_of_getElem? (i := 88) (by decide +kernel), List.mem_of_getElem? (i := 648) (by decide +kernel), List.mem_of_getElem? (i := 649) (by decide +kernel)⟩
theorem lw_p52 : lw_okq (⟨"CnfCompiler$ClauseReader", "clauseAt", "(I)I"⟩, 5) := ⟨⟨by decide +kernel, by decide +kernel⟩, List.mem_of_getElem? (i := 88) (by decide +kernel), List.mem_of_getElem? (i := 661) (by decide +kernel), List.mem_of_getElem? (i := 662) (by decide +kernel)⟩
theorem lw_p53 : lw_okq (⟨"CnfCompiler$History", "restoreInto", "(LCnfCompiler$State;)V"⟩, 2) := ⟨⟨by decide +kernel, by decide +kernel⟩, List.mem_of_getElem? (i := 56) (by decide +kernel), List.mem_of_getElem? (i := 669) (by decide +kernel), List.mem_of_getElem? (i := 670) (by decide +kernel)⟩
theorem lw_p54 : lw_okq (⟨"CnfCompilerModel", "err", "(I)I"⟩, 30) := ⟨⟨by decide +kernel, by decide +kernel⟩, List.mem_of_getElem? (i := 687) (by decide +kernel), List.mem_of_getElem? (i := 789) (by decide +kernel), List.mem_of_getElem? (i := 790) (by decide +kernel)⟩
theorem lw_p55 : lw_okq (⟨"CnfCompilerModel", "saves", "()V"⟩, 30) := ⟨⟨by decide +kernel, by decide +kernel⟩, List.mem_of_getElem? (i := 687) (by decide +kernel), List.mem_of_getElem? (i := 808) (by decide +kernel), List.mem_of_getElem? (i := 809) (by decide +kernel)⟩
theorem lw_p56 : lw_okq (⟨"CnfCompilerModel", "isClause", "(I)Z"⟩, 30) := ⟨⟨by decide +kernel, by decide +kernel⟩, List.mem_of_getElem? (i := 687) (by decide +kernel), List.mem_of_getElem? (i := 816) (by decide +kernel), List.mem_of_getElem? (i := 817) (by decide +kernel)⟩
theorem lw_p57 : lw_okq (⟨"CnfCompilerModel", "assumed", "()I"⟩, 30) := ⟨⟨by decide +kernel, by decide +kernel⟩, List.mem_of_getElem? (i := 687) (by decide +kernel), List.mem_of_getElem? (i := 838) (by decide +kernel), List.mem_of_getElem? (i := 839) (by decide +kernel)⟩
theorem lw_p58 : lw_okq (⟨"CnfCompilerModel", "compiles", "()V"⟩, 30) := ⟨⟨by decide +kernel, by decide +kernel⟩, List.mem_of_getElem? (i := 687) (by decide +kernel), List.mem_of_getElem? (i := 858) (by decide +kernel), List.mem_of_getElem? (i := 859) (by decide +kernel)⟩
theorem lw_p59 : lw_okq (⟨"CnfCompilerModel", "puts", "(II)V"⟩, 30) := ⟨⟨by decide +kernel, by decide +kernel⟩, List.mem_of_getElem? (i := 687) (by decide +kernel), List.mem_of_getElem? (i := 862) (by decide +kernel), List.mem_of_getElem? (i := 863) (by decide +kernel)⟩
theorem lw_p60 : lw_okq (⟨"CnfCompilerModel", "builds", "()I"⟩, 30) := ⟨⟨by decide +kernel, by decide +kernel⟩, List.mem_of_getElem? (i := 687) (by decide +kernel), List.mem_of_getElem? (i := 866) (by decide +kernel), List.mem_of_getElem? (i := 867) (by decide +kernel)⟩
theorem lw_p61 : lw_okq (⟨"CnfCompilerModel", "enters", "(I)I"⟩, 30) := ⟨⟨by decide +kernel, by decide +kernel⟩, List.mem_of_getElem? (i := 687) (by decide +kernel), List.mem_of_getElem? (i := 870) (by decide +kernel), List.mem_of_getElem? (i := 871) (by decide +kernel)⟩
theorem lw_p62 : lw_okq (⟨"CnfCompilerModel", "finds", "(I)I"⟩, 30) := ⟨⟨by decide +kernel, by decide +kernel⟩, List.mem_of_getElem? (i := 687) (by decide +kernel), List.mem_of_getElem? (i := 874) (by decide +kernel), List.mem_of_getElem? (i := 875) (by decide +kernel)⟩
theorem lw_p63 : lw_okq (⟨"CnfCompilerModel", "connected", "(II)I"⟩, 30) := ⟨⟨by decide +kernel, by decide +kernel⟩, List.mem_of_getElem? (i := 687) (by decide +kernel), List.mem_of_getElem? (i := 881) (by decide +kernel), List.mem_of_getElem? (i := 882) (by decide +kernel)⟩
def lw_privs_4 : List (MethodName × Nat) := [(⟨"CnfCompiler$FormulaText", "byteAt", "(I)I"⟩, 2), (⟨"CnfCompiler$ClauseReader", "closeClause", "()V"⟩, 5), (⟨"CnfCompiler$FormulaText", "hasDigitAt", "(I)Z"⟩, 2), (⟨"CnfCompiler$ClauseReader", "readLiteral", "(LCnfCompiler$FormulaText;I)V"⟩, 5), (⟨"CnfCompiler$ClauseReader", "clauseAt", "(I)I"⟩, 5), (⟨"CnfCompiler$History", "restoreInto", "(LCnfCompiler$State;)V"⟩, 2), (⟨"CnfCompilerModel", "err", "(I)I"⟩, 30), (⟨"CnfCompilerModel", "saves", "()V"⟩, 30), (⟨"CnfCompilerModel", "isClause", "(I)Z"⟩, 30), (⟨"CnfCompilerModel", "assumed", "()I"⟩, 30), (⟨"CnfCompilerModel", "compiles", "()V"⟩, 30), (⟨"CnfCompilerModel", "puts", "(II)V"⟩, 30), (⟨"CnfCompilerModel", "builds", "()I"⟩, 30), (⟨"CnfCompilerModel", "enters", "(I)I"⟩, 30), (⟨"CnfCompilerModel", "finds", "(I)I"⟩, 30), (⟨"CnfCompilerModel", "connected", "(II)I"⟩, 30)]
theorem lw_r4 : ∀ q ∈ lw_privs_4, lw_okq q := List.forall_mem_cons.mpr ⟨lw_p48, List.forall_mem_cons.mpr ⟨lw_p49, List.forall_mem_cons.mpr ⟨lw_p50, List.forall_mem_cons.mpr ⟨lw_p51, List.forall_mem_cons.mpr ⟨lw_p52, List.forall_mem_cons.mpr ⟨lw_p53, List.forall_mem_cons.mpr ⟨lw_p54, List.forall_mem_cons.mpr ⟨lw_p55, List.forall_mem_cons.mpr ⟨lw_p56, List.forall_mem_cons.mpr ⟨lw_p57, List.forall_mem_cons.mpr ⟨lw_p58, List.forall_mem_cons.mpr ⟨lw_p59, List.forall_mem_cons.mpr ⟨lw_p60, List.forall_mem_cons.mpr ⟨lw_p61, List.forall_mem_cons.mpr ⟨lw_p62, List.forall_mem_cons.mpr ⟨lw_p63, fun _ h => absurd h List.not_mem_nil⟩⟩⟩⟩⟩⟩⟩⟩⟩⟩⟩⟩⟩⟩⟩⟩
theorem lw_p64 : lw_okq (⟨"CnfCompilerModel", "deciding", "(I)I"⟩, 30) := ⟨⟨by decide +kernel, by decide +kernel⟩, List.mem_of_getElem? (i := 687) (by decide +kernel), List.mem_of_getElem? (i := 885) (by decide +kernel), List.mem_of_getElem? (i := 886) (by decide +kernel)⟩
theorem lw_p65 : lw_okq (⟨"CnfCompilerModel", "goesDeeper", "(I)Z"⟩, 30) := ⟨⟨by decide +kernel, by decide +kernel⟩, List.mem_of_getElem? (i := 687) (by decide +kernel), List.mem_of_getElem? (i := 889) (by decide +kernel), List.mem_of_getElem? (i := 890) (by decide +kernel)⟩
theorem lw_p66 : lw_okq (⟨"CnfCompilerModel", "sets", "(II)V"⟩, 30) := ⟨⟨by decide +kernel, by decide +kernel⟩, List.mem_of_getElem? (i := 687) (by decide +kernel), List.mem_of_getElem? (i := 893) (by decide +kernel), List.mem_of_getElem? (i := 894) (by decide +kernel)⟩
theorem lw_p67 : lw_okq (⟨"CnfCompilerModel", "manyOf", "(Z)I"⟩, 30) := ⟨⟨by decide +kernel, by decide +kernel⟩, List.mem_of_getElem? (i := 687) (by decide +kernel), List.mem_of_getElem? (i := 901) (by decide +kernel), List.mem_of_getElem? (i := 902) (by decide +kernel)⟩
theorem lw_p68 : lw_okq (⟨"CnfCompilerModel", "modelsBy", "(I)I"⟩, 30) := ⟨⟨by decide +kernel, by decide +kernel⟩, List.mem_of_getElem? (i := 687) (by decide +kernel), List.mem_of_getElem? (i := 925) (by decide +kernel), List.mem_of_getElem? (i := 926) (by decide +kernel)⟩
theorem lw_p69 : lw_okq (⟨"CnfCompilerModel", "lists", "()V"⟩, 30) := ⟨⟨by decide +kernel, by decide +kernel⟩, List.mem_of_getElem? (i := 687) (by decide +kernel), List.mem_of_getElem? (i := 929) (by decide +kernel), List.mem_of_getElem? (i := 930) (by decide +kernel)⟩
theorem lw_p70 : lw_okq (⟨"CnfCompilerModel", "isModel", "(I)Z"⟩, 30) := ⟨⟨by decide +kernel, by decide +kernel⟩, List.mem_of_getElem? (i := 687) (by decide +kernel), List.mem_of_getElem? (i := 933) (by decide +kernel), List.mem_of_getElem? (i := 934) (by decide +kernel)⟩
theorem lw_p71 : lw_okq (⟨"CnfCompilerModel", "explained", "(I)I"⟩, 30) := ⟨⟨by decide +kernel, by decide +kernel⟩, List.mem_of_getElem? (i := 687) (by decide +kernel), List.mem_of_getElem? (i := 975) (by decide +kernel), List.mem_of_getElem? (i := 976) (by decide +kernel)⟩
theorem lw_p72 : lw_okq (⟨"CnfCompilerModel", "explains", "(II)Z"⟩, 30) := ⟨⟨by decide +kernel, by decide +kernel⟩, List.mem_of_getElem? (i := 687) (by decide +kernel), List.mem_of_getElem? (i := 979) (by decide +kernel), List.mem_of_getElem? (i := 980) (by decide +kernel)⟩
theorem lw_p73 : lw_okq (⟨"CnfCompilerModel", "mayBe", "(III)Z"⟩, 30) := ⟨⟨by decide +kernel, by decide +kernel⟩, List.mem_of_getElem? (i := 687) (by decide +kernel), List.mem_of_getElem? (i := 986) (by decide +kernel), List.mem_of_getElem? (i := 987) (by decide +kernel)⟩
theorem lw_p74 : lw_okq (⟨"CnfCompilerModel", "explainedFrom", "(IIII)I"⟩, 30) := ⟨⟨by decide +kernel, by decide +kernel⟩, List.mem_of_getElem? (i := 687) (by decide +kernel), List.mem_of_getElem? (i := 991) (by decide +kernel), List.mem_of_getElem? (i := 992) (by decide +kernel)⟩
theorem lw_p75 : lw_okq (⟨"CnfCompilerModel", "reads", "()I"⟩, 30) := ⟨⟨by decide +kernel, by decide +kernel⟩, List.mem_of_getElem? (i := 687) (by decide +kernel), List.mem_of_getElem? (i := 1010) (by decide +kernel), List.mem_of_getElem? (i := 1011) (by decide +kernel)⟩
theorem lw_p76 : lw_okq (⟨"CnfCompilerModel", "literalHere", "(I)I"⟩, 30) := ⟨⟨by decide +kernel, by decide +kernel⟩, List.mem_of_getElem? (i := 687) (by decide +kernel), List.mem_of_getElem? (i := 1019) (by decide +kernel), List.mem_of_getElem? (i := 1020) (by decide +kernel)⟩
theorem lw_p77 : lw_okq (⟨"CnfCompilerModel", "byteAt", "(I)I"⟩, 30) := ⟨⟨by decide +kernel, by decide +kernel⟩, List.mem_of_getElem? (i := 687) (by decide +kernel), List.mem_of_getElem? (i := 1023) (by decide +kernel), List.mem_of_getElem? (i := 1024) (by decide +kernel)⟩
def lw_privs_5 : List (MethodName × Nat) := [(⟨"CnfCompilerModel", "deciding", "(I)I"⟩, 30), (⟨"CnfCompilerModel", "goesDeeper", "(I)Z"⟩, 30), (⟨"CnfCompilerModel", "sets", "(II)V"⟩, 30), (⟨"CnfCompilerModel", "manyOf", "(Z)I"⟩, 30), (⟨"CnfCompilerModel", "modelsBy", "(I)I"⟩, 30), (⟨"CnfCompilerModel", "lists", "()V"⟩, 30), (⟨"CnfCompilerModel", "isModel", "(I)Z"⟩, 30), (⟨"CnfCompilerModel", "explained", "(I)I"⟩, 30), (⟨"CnfCompilerModel", "explains", "(II)Z"⟩, 30), (⟨"CnfCompilerModel", "mayBe", "(III)Z"⟩, 30), (⟨"CnfCompilerModel", "explainedFrom", "(IIII)I"⟩, 30), (⟨"CnfCompilerModel", "reads", "()I"⟩, 30), (⟨"CnfCompilerModel", "literalHere", "(I)I"⟩, 30), (⟨"CnfCompilerModel", "byteAt", "(I)I"⟩, 30)]
theorem lw_r5 : ∀ q ∈ lw_privs_5, lw_okq q := List.forall_mem_cons.mpr ⟨lw_p64, List.forall_mem_cons.mpr ⟨lw_p65, List.forall_mem_cons.mpr ⟨lw_p66, List.forall_mem_cons.mpr ⟨lw_p67, List.forall_mem_cons.mpr ⟨lw_p68, List.forall_mem_cons.mpr ⟨lw_p69, List.forall_mem_cons.mpr ⟨lw_p70, List.forall_mem_cons.mpr ⟨lw_p71, List.forall_mem_cons.mpr ⟨lw_p72, List.forall_mem_cons.mpr ⟨lw_p73, List.forall_mem_cons.mpr ⟨lw_p74, List.forall_mem_cons.mpr ⟨lw_p75, List.forall_mem_cons.mpr ⟨lw_p76, List.forall_mem_cons.mpr ⟨lw_p77, fun _ h => absurd h List.not_mem_nil⟩⟩⟩⟩⟩⟩⟩⟩⟩⟩⟩⟩⟩⟩
def lw_privs : List (MethodName × Nat) := lw_privs_1 ++ (lw_privs_2 ++ (lw_privs_3 ++ (lw_privs_4 ++ (lw_privs_5))))
def lw_tbl : List Cond := k2_sels lw_privs ++ tables_1
theorem lw_privs_ok : ∀ q ∈ lw_privs, lw_okq q := by
  show ∀ q ∈ lw_privs_1 ++ (lw_privs_2 ++ (lw_privs_3 ++ (lw_privs_4 ++ (lw_privs_5)))), lw_okq q
  exact List.forall_mem_append.mpr ⟨lw_r1, List.forall_mem_append.mpr ⟨lw_r2, List.forall_mem_append.mpr ⟨lw_r3, List.forall_mem_append.mpr ⟨lw_r4, lw_r5⟩⟩⟩⟩
/-- the streams that the claim lets the run draw from -/
abbrev lw_cs : List Choice := [Jvm.Choice.named "NaN.bits"]
theorem lw_bits : nanBits ∈ lw_cs := by first | decide | exact List.mem_cons_self | simp [lw_cs, nanBits]
end
section
def RX0 : String := "CnfCompiler$ClauseReader"
def TX0 : u_T := fun k => match k with
  | 0 => ("CnfCompiler$ClauseReader", "readClauses", "[I", true)
  | 1 => ("CnfCompiler$ClauseReader", "readCount", "I", false)
  | 2 => ("CnfCompiler$ClauseReader", "position", "I", false)
  | 3 => ("CnfCompiler$ClauseReader", "openClause", "I", false)
  | _ => ("CnfCompiler$ClauseReader", "errorPosition", "I", false)
def tyX0 : Nat → FieldType := fun k => match k with
  | 0 => .array .int
  | 1 => .int
  | 2 => .int
  | 3 => .int
  | _ => .int
abbrev wsX00 : List Cond := u_ws RX0 TX0 5
theorem nmX0 : ∀ a, a < 5 → ∀ b, b < 5 → a ≠ b → (TX0 a).2.1 ≠ (TX0 b).2.1 := by decide +kernel
theorem tyX0_ok : ∀ k, k < 5 → parseFieldDescriptor (TX0 k).2.2.1 = some (tyX0 k) := by decide +kernel
abbrev cX0_init : ByteArray := prog_2_method_1_code
def yX0_init : MethodName := ⟨RX0, "<init>", "()V"⟩
abbrev cX0_clauseAt : ByteArray := prog_2_method_2_code
def yX0_clauseAt : MethodName := ⟨RX0, "clauseAt", "(I)I"⟩
abbrev cX0_read : ByteArray := prog_2_method_3_code
def yX0_read : MethodName := ⟨RX0, "read", "(LCnfCompiler$FormulaText;I)I"⟩
abbrev cX0_readToken : ByteArray := prog_2_method_4_code
def yX0_readToken : MethodName := ⟨RX0, "readToken", "(LCnfCompiler$FormulaText;I)V"⟩
abbrev cX0_closeClause : ByteArray := prog_2_method_5_code
def yX0_closeClause : MethodName := ⟨RX0, "closeClause", "()V"⟩
abbrev cX0_readLiteral : ByteArray := prog_2_method_6_code
def yX0_readLiteral : MethodName := ⟨RX0, "readLiteral", "(LCnfCompiler$FormulaText;I)V"⟩
abbrev cX0_countDigits : ByteArray := prog_2_method_7_code
def yX0_countDigits : MethodName := ⟨RX0, "countDigits", "(LCnfCompiler$FormulaText;I)I"⟩
abbrev cX0_numberAt : ByteArray := prog_2_method_8_code
def yX0_numberAt : MethodName := ⟨RX0, "numberAt", "(LCnfCompiler$FormulaText;II)I"⟩
def RX1 : String := "CnfCompiler$Explainer"
def TX1 : u_T := fun k => match k with
  | 0 => ("CnfCompiler$Explainer", "supporting", "[J", true)
  | 1 => ("CnfCompiler$Explainer", "opposing", "[J", true)
  | 2 => ("CnfCompiler$Explainer", "chosenCodes", "[I", true)
  | 3 => ("CnfCompiler$Explainer", "usableCodes", "I", false)
  | 4 => ("CnfCompiler$Explainer", "goal", "I", false)
  | _ => ("CnfCompiler$Explainer", "foundSize", "I", false)
def tyX1 : Nat → FieldType := fun k => match k with
  | 0 => .array .long
  | 1 => .array .long
  | 2 => .array .int
  | 3 => .int
  | 4 => .int
  | _ => .int
abbrev wsX10 : List Cond := u_ws RX1 TX1 6
theorem nmX1 : ∀ a, a < 6 → ∀ b, b < 6 → a ≠ b → (TX1 a).2.1 ≠ (TX1 b).2.1 := by decide +kernel
theorem tyX1_ok : ∀ k, k < 6 → parseFieldDescriptor (TX1 k).2.2.1 = some (tyX1 k) := by decide +kernel
abbrev cX1_init : ByteArray := prog_3_method_1_code
def yX1_init : MethodName := ⟨RX1, "<init>", "()V"⟩
abbrev cX1_forget : ByteArray := prog_3_method_2_code
def yX1_forget : MethodName := ⟨RX1, "forget", "()V"⟩
abbrev cX1_explain : ByteArray := prog_3_method_3_code
def yX1_explain : MethodName := ⟨RX1, "explain", "(ILCnfCompiler$ModelSet;I)V"⟩
abbrev cX1_complete : ByteArray := prog_3_method_4_code
def yX1_complete : MethodName := ⟨RX1, "complete", "(III)Z"⟩
abbrev cX1_explains : ByteArray := prog_3_method_5_code
def yX1_explains : MethodName := ⟨RX1, "explains", "(I)Z"⟩
abbrev cX1_literalAt : ByteArray := prog_3_method_6_code
def yX1_literalAt : MethodName := ⟨RX1, "literalAt", "(I)I"⟩
def RX2 : String := "CnfCompiler$FormulaText"
def TX2 : u_T := fun k => match k with
  | 0 => ("CnfCompiler$FormulaText", "bytes", "[I", true)
  | _ => ("CnfCompiler$FormulaText", "length", "I", false)
def tyX2 : Nat → FieldType := fun k => match k with
  | 0 => .array .int
  | _ => .int
abbrev wsX20 : List Cond := u_ws RX2 TX2 2
theorem nmX2 : ∀ a, a < 2 → ∀ b, b < 2 → a ≠ b → (TX2 a).2.1 ≠ (TX2 b).2.1 := by decide +kernel
theorem tyX2_ok : ∀ k, k < 2 → parseFieldDescriptor (TX2 k).2.2.1 = some (tyX2 k) := by decide +kernel
abbrev cX2_init : ByteArray := prog_4_method_1_code
def yX2_init : MethodName := ⟨RX2, "<init>", "()V"⟩
abbrev cX2_addByte : ByteArray := prog_4_method_2_code
def yX2_addByte : MethodName := ⟨RX2, "addByte", "(I)V"⟩
abbrev cX2_byteAt : ByteArray := prog_4_method_3_code
def yX2_byteAt : MethodName := ⟨RX2, "byteAt", "(I)I"⟩
abbrev cX2_hasDigitAt : ByteArray := prog_4_method_4_code
def yX2_hasDigitAt : MethodName := ⟨RX2, "hasDigitAt", "(I)Z"⟩
def RX3 : String := "CnfCompiler$Graph"
def TX3 : u_T := fun k => match k with
  | 0 => ("CnfCompiler$Graph", "rows", "[I", true)
  | 1 => ("CnfCompiler$Graph", "bucketHeads", "[I", true)
  | 2 => ("CnfCompiler$Graph", "nodeRows", "[I", false)
  | 3 => ("CnfCompiler$Graph", "nodeSizes", "[I", false)
  | 4 => ("CnfCompiler$Graph", "nodeDepths", "[I", false)
  | 5 => ("CnfCompiler$Graph", "nodeNexts", "[I", false)
  | 6 => ("CnfCompiler$Graph", "nodeCount", "I", false)
  | 7 => ("CnfCompiler$Graph", "rootSize", "I", false)
  | 8 => ("CnfCompiler$Graph", "rootDepth", "I", false)
  | 9 => ("CnfCompiler$Graph", "decisionTotal", "I", false)
  | 10 => ("CnfCompiler$Graph", "andTotal", "I", false)
  | 11 => ("CnfCompiler$Graph", "hasTrueNode", "Z", false)
  | _ => ("CnfCompiler$Graph", "hasFalseNode", "Z", false)
def tyX3 : Nat → FieldType := fun k => match k with
  | 0 => .array .int
  | 1 => .array .int
  | 2 => .array .int
  | 3 => .array .int
  | 4 => .array .int
  | 5 => .array .int
  | 6 => .int
  | 7 => .int
  | 8 => .int
  | 9 => .int
  | 10 => .int
  | 11 => .boolean
  | _ => .boolean
abbrev wsX30 : List Cond := u_ws RX3 TX3 13
theorem nmX3 : ∀ a, a < 13 → ∀ b, b < 13 → a ≠ b → (TX3 a).2.1 ≠ (TX3 b).2.1 := by decide +kernel
theorem tyX3_ok : ∀ k, k < 13 → parseFieldDescriptor (TX3 k).2.2.1 = some (tyX3 k) := by decide +kernel
abbrev cX3_init : ByteArray := prog_5_method_1_code
def yX3_init : MethodName := ⟨RX3, "<init>", "()V"⟩
abbrev cX3_compile : ByteArray := prog_5_method_2_code
def yX3_compile : MethodName := ⟨RX3, "compile", "(LCnfCompiler$State;)V"⟩
abbrev cX3_nodeTotal : ByteArray := prog_5_method_3_code
def yX3_nodeTotal : MethodName := ⟨RX3, "nodeTotal", "()I"⟩
abbrev cX3_variableAtRoot : ByteArray := prog_5_method_4_code
def yX3_variableAtRoot : MethodName := ⟨RX3, "variableAtRoot", "()I"⟩
abbrev cX3_partsAtRoot : ByteArray := prog_5_method_5_code
def yX3_partsAtRoot : MethodName := ⟨RX3, "partsAtRoot", "()I"⟩
abbrev cX3_explore : ByteArray := prog_5_method_6_code
def yX3_explore : MethodName := ⟨RX3, "explore", "(II)I"⟩
abbrev cX3_exploreDecision : ByteArray := prog_5_method_7_code
def yX3_exploreDecision : MethodName := ⟨RX3, "exploreDecision", "(II)I"⟩
abbrev cX3_exploreParts : ByteArray := prog_5_method_8_code
def yX3_exploreParts : MethodName := ⟨RX3, "exploreParts", "(II)I"⟩
abbrev cX3_setLiteral : ByteArray := prog_5_method_9_code
def yX3_setLiteral : MethodName := ⟨RX3, "setLiteral", "(III)I"⟩
abbrev cX3_takePart : ByteArray := prog_5_method_10_code
def yX3_takePart : MethodName := ⟨RX3, "takePart", "(III)I"⟩
abbrev cX3_addResidual : ByteArray := prog_5_method_11_code
def yX3_addResidual : MethodName := ⟨RX3, "addResidual", "(IIII)I"⟩
abbrev cX3_insert : ByteArray := prog_5_method_12_code
def yX3_insert : MethodName := ⟨RX3, "insert", "(III)I"⟩
abbrev cX3_variablesIn : ByteArray := prog_5_method_13_code
def yX3_variablesIn : MethodName := ⟨RX3, "variablesIn", "(II)I"⟩
abbrev cX3_variablesConnectedTo : ByteArray := prog_5_method_14_code
def yX3_variablesConnectedTo : MethodName := ⟨RX3, "variablesConnectedTo", "(III)I"⟩
abbrev cX3_mostFrequentVariable : ByteArray := prog_5_method_15_code
def yX3_mostFrequentVariable : MethodName := ⟨RX3, "mostFrequentVariable", "(II)I"⟩
abbrev cX3_bucketOf : ByteArray := prog_5_method_16_code
def yX3_bucketOf : MethodName := ⟨RX3, "bucketOf", "(II)I"⟩
abbrev cX3_findNode : ByteArray := prog_5_method_17_code
def yX3_findNode : MethodName := ⟨RX3, "findNode", "(III)I"⟩
abbrev cX3_hasRow : ByteArray := prog_5_method_18_code
def yX3_hasRow : MethodName := ⟨RX3, "hasRow", "(III)Z"⟩
abbrev cX3_addNode : ByteArray := prog_5_method_19_code
def yX3_addNode : MethodName := ⟨RX3, "addNode", "(IIII)V"⟩
abbrev cX3_makeRoom : ByteArray := prog_5_method_20_code
def yX3_makeRoom : MethodName := ⟨RX3, "makeRoom", "()V"⟩
def RX4 : String := "CnfCompiler$History"
def TX4 : u_T := fun k => match k with
  | 0 => ("CnfCompiler$History", "saved", "[LCnfCompiler$State;", true)
  | _ => ("CnfCompiler$History", "savedCount", "I", false)
def tyX4 : Nat → FieldType := fun k => match k with
  | 0 => .array (.object "CnfCompiler$State")
  | _ => .int
abbrev wsX40 : List Cond := u_ws RX4 TX4 2
theorem nmX4 : ∀ a, a < 2 → ∀ b, b < 2 → a ≠ b → (TX4 a).2.1 ≠ (TX4 b).2.1 := by decide +kernel
theorem tyX4_ok : ∀ k, k < 2 → parseFieldDescriptor (TX4 k).2.2.1 = some (tyX4 k) := by decide +kernel
abbrev cX4_init : ByteArray := prog_6_method_1_code
def yX4_init : MethodName := ⟨RX4, "<init>", "()V"⟩
abbrev cX4_save : ByteArray := prog_6_method_2_code
def yX4_save : MethodName := ⟨RX4, "save", "(LCnfCompiler$State;)V"⟩
abbrev cX4_dropOldest : ByteArray := prog_6_method_3_code
def yX4_dropOldest : MethodName := ⟨RX4, "dropOldest", "()V"⟩
abbrev cX4_restoreInto : ByteArray := prog_6_method_4_code
def yX4_restoreInto : MethodName := ⟨RX4, "restoreInto", "(LCnfCompiler$State;)V"⟩
def RX5 : String := "CnfCompiler$ModelSet"
def TX5 : u_T := fun k => match k with
  | 0 => ("CnfCompiler$ModelSet", "words", "[J", true)
  | _ => ("CnfCompiler$ModelSet", "satisfying", "[J", true)
def tyX5 : Nat → FieldType := fun k => match k with
  | 0 => .array .long
  | _ => .array .long
abbrev wsX50 : List Cond := u_ws RX5 TX5 2
theorem nmX5 : ∀ a, a < 2 → ∀ b, b < 2 → a ≠ b → (TX5 a).2.1 ≠ (TX5 b).2.1 := by decide +kernel
theorem tyX5_ok : ∀ k, k < 2 → parseFieldDescriptor (TX5 k).2.2.1 = some (tyX5 k) := by decide +kernel
abbrev cX5_init : ByteArray := prog_7_method_1_code
def yX5_init : MethodName := ⟨RX5, "<init>", "()V"⟩
abbrev cX5_literalWord : ByteArray := prog_7_method_2_code
def yX5_literalWord : MethodName := ⟨RX5, "literalWord", "(II)J"⟩
abbrev cX5_fill : ByteArray := prog_7_method_3_code
def yX5_fill : MethodName := ⟨RX5, "fill", "(LCnfCompiler$State;)V"⟩
abbrev cX5_keepSatisfying : ByteArray := prog_7_method_4_code
def yX5_keepSatisfying : MethodName := ⟨RX5, "keepSatisfying", "(I)V"⟩
abbrev cX5_wordAt : ByteArray := prog_7_method_5_code
def yX5_wordAt : MethodName := ⟨RX5, "wordAt", "(I)J"⟩
abbrev cX5_has : ByteArray := prog_7_method_6_code
def yX5_has : MethodName := ⟨RX5, "has", "(I)Z"⟩
abbrev cX5_size : ByteArray := prog_7_method_7_code
def yX5_size : MethodName := ⟨RX5, "size", "()I"⟩
abbrev cX5_sizeWith : ByteArray := prog_7_method_8_code
def yX5_sizeWith : MethodName := ⟨RX5, "sizeWith", "(I)I"⟩
abbrev cX5_least : ByteArray := prog_7_method_9_code
def yX5_least : MethodName := ⟨RX5, "least", "()I"⟩
def RX6 : String := "CnfCompiler$State"
def TX6 : u_T := fun k => match k with
  | 0 => ("CnfCompiler$State", "clauseSets", "[I", true)
  | 1 => ("CnfCompiler$State", "clauseCount", "I", false)
  | 2 => ("CnfCompiler$State", "assumed", "I", false)
  | _ => ("CnfCompiler$State", "weightByCode", "[I", true)
def tyX6 : Nat → FieldType := fun k => match k with
  | 0 => .array .int
  | 1 => .int
  | 2 => .int
  | _ => .array .int
abbrev wsX60 : List Cond := u_ws RX6 TX6 4
theorem nmX6 : ∀ a, a < 4 → ∀ b, b < 4 → a ≠ b → (TX6 a).2.1 ≠ (TX6 b).2.1 := by decide +kernel
theorem tyX6_ok : ∀ k, k < 4 → parseFieldDescriptor (TX6 k).2.2.1 = some (tyX6 k) := by decide +kernel
abbrev cX6_init : ByteArray := prog_8_method_1_code
def yX6_init : MethodName := ⟨RX6, "<init>", "()V"⟩
abbrev cX6_hasClause : ByteArray := prog_8_method_2_code
def yX6_hasClause : MethodName := ⟨RX6, "hasClause", "(I)Z"⟩
abbrev cX6_clauseAt : ByteArray := prog_8_method_3_code
def yX6_clauseAt : MethodName := ⟨RX6, "clauseAt", "(I)I"⟩
abbrev cX6_appendClause : ByteArray := prog_8_method_4_code
def yX6_appendClause : MethodName := ⟨RX6, "appendClause", "(I)V"⟩
abbrev cX6_deleteClause : ByteArray := prog_8_method_5_code
def yX6_deleteClause : MethodName := ⟨RX6, "deleteClause", "(I)V"⟩
abbrev cX6_weightOf : ByteArray := prog_8_method_6_code
def yX6_weightOf : MethodName := ⟨RX6, "weightOf", "(I)I"⟩
abbrev cX6_replaceWeight : ByteArray := prog_8_method_7_code
def yX6_replaceWeight : MethodName := ⟨RX6, "replaceWeight", "(II)I"⟩
abbrev cX6_copyFrom : ByteArray := prog_8_method_8_code
def yX6_copyFrom : MethodName := ⟨RX6, "copyFrom", "(LCnfCompiler$State;)V"⟩
def RX7 : String := "CnfCompiler$WeightedSum"
def TX7 : u_T := fun k => match k with
  | 0 => ("CnfCompiler$WeightedSum", "lowProducts", "[J", true)
  | _ => ("CnfCompiler$WeightedSum", "highProducts", "[J", true)
def tyX7 : Nat → FieldType := fun k => match k with
  | 0 => .array .long
  | _ => .array .long
abbrev wsX70 : List Cond := u_ws RX7 TX7 2
theorem nmX7 : ∀ a, a < 2 → ∀ b, b < 2 → a ≠ b → (TX7 a).2.1 ≠ (TX7 b).2.1 := by decide +kernel
theorem tyX7_ok : ∀ k, k < 2 → parseFieldDescriptor (TX7 k).2.2.1 = some (tyX7 k) := by decide +kernel
abbrev cX7_init : ByteArray := prog_9_method_1_code
def yX7_init : MethodName := ⟨RX7, "<init>", "()V"⟩
abbrev cX7_over : ByteArray := prog_9_method_2_code
def yX7_over : MethodName := ⟨RX7, "over", "(LCnfCompiler$ModelSet;LCnfCompiler$State;)J"⟩
abbrev cX7_fillProducts : ByteArray := prog_9_method_3_code
def yX7_fillProducts : MethodName := ⟨RX7, "fillProducts", "([JILCnfCompiler$State;)V"⟩
def RX8 : String := "CnfCompiler"
def TX8 : u_T := fun k => match k with
  | 0 => ("CnfCompiler", "state", "LCnfCompiler$State;", true)
  | 1 => ("CnfCompiler", "history", "LCnfCompiler$History;", true)
  | 2 => ("CnfCompiler", "text", "LCnfCompiler$FormulaText;", true)
  | 3 => ("CnfCompiler", "reader", "LCnfCompiler$ClauseReader;", true)
  | 4 => ("CnfCompiler", "graph", "LCnfCompiler$Graph;", true)
  | 5 => ("CnfCompiler", "modelSet", "LCnfCompiler$ModelSet;", true)
  | 6 => ("CnfCompiler", "weightedSum", "LCnfCompiler$WeightedSum;", true)
  | 7 => ("CnfCompiler", "explainer", "LCnfCompiler$Explainer;", true)
  | 8 => ("CnfCompiler", "errorCounts", "[I", true)
  | 9 => ("CnfCompiler", "graphIsFresh", "Z", false)
  | _ => ("CnfCompiler", "modelSetIsFresh", "Z", false)
def tyX8 : Nat → FieldType := fun k => match k with
  | 0 => .object "CnfCompiler$State"
  | 1 => .object "CnfCompiler$History"
  | 2 => .object "CnfCompiler$FormulaText"
  | 3 => .object "CnfCompiler$ClauseReader"
  | 4 => .object "CnfCompiler$Graph"
  | 5 => .object "CnfCompiler$ModelSet"
  | 6 => .object "CnfCompiler$WeightedSum"
  | 7 => .object "CnfCompiler$Explainer"
  | 8 => .array .int
  | 9 => .boolean
  | _ => .boolean
abbrev wsX80 : List Cond := u_ws RX8 TX8 11
theorem nmX8 : ∀ a, a < 11 → ∀ b, b < 11 → a ≠ b → (TX8 a).2.1 ≠ (TX8 b).2.1 := by decide +kernel
theorem tyX8_ok : ∀ k, k < 11 → parseFieldDescriptor (TX8 k).2.2.1 = some (tyX8 k) := by decide +kernel
abbrev cX8_init : ByteArray := prog_1_method_1_code
def yX8_init : MethodName := ⟨RX8, "<init>", "()V"⟩
abbrev cX8_addClause : ByteArray := prog_1_method_2_code
def yX8_addClause : MethodName := ⟨RX8, "addClause", "(IIII)I"⟩
abbrev cX8_removeClause : ByteArray := prog_1_method_3_code
def yX8_removeClause : MethodName := ⟨RX8, "removeClause", "(I)I"⟩
abbrev cX8_clauses : ByteArray := prog_1_method_4_code
def yX8_clauses : MethodName := ⟨RX8, "clauses", "()I"⟩
abbrev cX8_clauseSize : ByteArray := prog_1_method_5_code
def yX8_clauseSize : MethodName := ⟨RX8, "clauseSize", "(I)I"⟩
abbrev cX8_assume : ByteArray := prog_1_method_6_code
def yX8_assume : MethodName := ⟨RX8, "assume", "(I)I"⟩
abbrev cX8_retractAll : ByteArray := prog_1_method_7_code
def yX8_retractAll : MethodName := ⟨RX8, "retractAll", "()I"⟩
abbrev cX8_setWeight : ByteArray := prog_1_method_8_code
def yX8_setWeight : MethodName := ⟨RX8, "setWeight", "(II)I"⟩
abbrev cX8_nodes : ByteArray := prog_1_method_9_code
def yX8_nodes : MethodName := ⟨RX8, "nodes", "()I"⟩
abbrev cX8_decisionNodes : ByteArray := prog_1_method_10_code
def yX8_decisionNodes : MethodName := ⟨RX8, "decisionNodes", "()I"⟩
abbrev cX8_andNodes : ByteArray := prog_1_method_11_code
def yX8_andNodes : MethodName := ⟨RX8, "andNodes", "()I"⟩
abbrev cX8_depth : ByteArray := prog_1_method_12_code
def yX8_depth : MethodName := ⟨RX8, "depth", "()I"⟩
abbrev cX8_rootVariable : ByteArray := prog_1_method_13_code
def yX8_rootVariable : MethodName := ⟨RX8, "rootVariable", "()I"⟩
abbrev cX8_components : ByteArray := prog_1_method_14_code
def yX8_components : MethodName := ⟨RX8, "components", "()I"⟩
abbrev cX8_models : ByteArray := prog_1_method_15_code
def yX8_models : MethodName := ⟨RX8, "models", "()I"⟩
abbrev cX8_modelsWith : ByteArray := prog_1_method_16_code
def yX8_modelsWith : MethodName := ⟨RX8, "modelsWith", "(I)I"⟩
abbrev cX8_weightedCount : ByteArray := prog_1_method_17_code
def yX8_weightedCount : MethodName := ⟨RX8, "weightedCount", "()J"⟩
abbrev cX8_shareBits : ByteArray := prog_1_method_18_code
def yX8_shareBits : MethodName := ⟨RX8, "shareBits", "()I"⟩
abbrev cX8_implied : ByteArray := prog_1_method_19_code
def yX8_implied : MethodName := ⟨RX8, "implied", "(I)I"⟩
abbrev cX8_leastModel : ByteArray := prog_1_method_20_code
def yX8_leastModel : MethodName := ⟨RX8, "leastModel", "()I"⟩
abbrev cX8_explanation : ByteArray := prog_1_method_21_code
def yX8_explanation : MethodName := ⟨RX8, "explanation", "(II)I"⟩
abbrev cX8_append : ByteArray := prog_1_method_22_code
def yX8_append : MethodName := ⟨RX8, "append", "(I)I"⟩
abbrev cX8_clearText : ByteArray := prog_1_method_23_code
def yX8_clearText : MethodName := ⟨RX8, "clearText", "()I"⟩
abbrev cX8_parse : ByteArray := prog_1_method_24_code
def yX8_parse : MethodName := ⟨RX8, "parse", "()I"⟩
abbrev cX8_undo : ByteArray := prog_1_method_25_code
def yX8_undo : MethodName := ⟨RX8, "undo", "()I"⟩
abbrev cX8_errorCount : ByteArray := prog_1_method_26_code
def yX8_errorCount : MethodName := ⟨RX8, "errorCount", "(I)I"⟩
abbrev cX8_digest : ByteArray := prog_1_method_27_code
def yX8_digest : MethodName := ⟨RX8, "digest", "()J"⟩
abbrev cX8_fail : ByteArray := prog_1_method_28_code
def yX8_fail : MethodName := ⟨RX8, "fail", "(I)I"⟩
abbrev cX8_digestOfGraph : ByteArray := prog_1_method_29_code
def yX8_digestOfGraph : MethodName := ⟨RX8, "digestOfGraph", "(JLCnfCompiler$Graph;)J"⟩
abbrev cX8_formulaHasChanged : ByteArray := prog_1_method_30_code
def yX8_formulaHasChanged : MethodName := ⟨RX8, "formulaHasChanged", "()V"⟩
abbrev cX8_freshGraph : ByteArray := prog_1_method_31_code
def yX8_freshGraph : MethodName := ⟨RX8, "freshGraph", "()LCnfCompiler$Graph;"⟩
abbrev cX8_freshModelSet : ByteArray := prog_1_method_32_code
def yX8_freshModelSet : MethodName := ⟨RX8, "freshModelSet", "()LCnfCompiler$ModelSet;"⟩
abbrev cX8_isErrorCode : ByteArray := prog_1_method_33_code
def yX8_isErrorCode : MethodName := ⟨RX8, "isErrorCode", "(I)Z"⟩
abbrev cX8_isLiteralOrZero : ByteArray := prog_1_method_34_code
def yX8_isLiteralOrZero : MethodName := ⟨RX8, "isLiteralOrZero", "(I)Z"⟩
abbrev cX8_isLiteral : ByteArray := prog_1_method_35_code
def yX8_isLiteral : MethodName := ⟨RX8, "isLiteral", "(I)Z"⟩
abbrev cX8_sameVariable : ByteArray := prog_1_method_36_code
def yX8_sameVariable : MethodName := ⟨RX8, "sameVariable", "(II)Z"⟩
abbrev cX8_codeOf : ByteArray := prog_1_method_37_code
def yX8_codeOf : MethodName := ⟨RX8, "codeOf", "(I)I"⟩
abbrev cX8_literalOf : ByteArray := prog_1_method_38_code
def yX8_literalOf : MethodName := ⟨RX8, "literalOf", "(I)I"⟩
abbrev cX8_bitOf : ByteArray := prog_1_method_39_code
def yX8_bitOf : MethodName := ⟨RX8, "bitOf", "(I)I"⟩
abbrev cX8_contains : ByteArray := prog_1_method_40_code
def yX8_contains : MethodName := ⟨RX8, "contains", "(II)Z"⟩
abbrev cX8_variablesOf : ByteArray := prog_1_method_41_code
def yX8_variablesOf : MethodName := ⟨RX8, "variablesOf", "(I)I"⟩
abbrev cX8_oppositesOf : ByteArray := prog_1_method_42_code
def yX8_oppositesOf : MethodName := ⟨RX8, "oppositesOf", "(I)I"⟩
abbrev cX8_bitsOfShare : ByteArray := prog_1_method_43_code
def yX8_bitsOfShare : MethodName := ⟨RX8, "bitsOfShare", "(I)I"⟩
def RX9 : String := "CnfCompilerModel"
def TX9 : u_T := fun k => match k with
  | 0 => ("CnfCompilerModel", "s", "[I", true)
  | 1 => ("CnfCompilerModel", "saved", "[I", true)
  | 2 => ("CnfCompilerModel", "savedMany", "I", false)
  | 3 => ("CnfCompilerModel", "errors", "[I", true)
  | 4 => ("CnfCompilerModel", "text", "[I", true)
  | 5 => ("CnfCompilerModel", "length", "I", false)
  | 6 => ("CnfCompilerModel", "isCompiled", "Z", false)
  | 7 => ("CnfCompilerModel", "begins", "[I", true)
  | 8 => ("CnfCompilerModel", "sizes", "[I", true)
  | 9 => ("CnfCompilerModel", "variableOf", "[I", true)
  | 10 => ("CnfCompilerModel", "childrenOf", "[I", true)
  | 11 => ("CnfCompilerModel", "depthOf", "[I", true)
  | 12 => ("CnfCompilerModel", "rows", "[I", true)
  | 13 => ("CnfCompilerModel", "table", "[I", true)
  | 14 => ("CnfCompilerModel", "nodeMany", "I", false)
  | 15 => ("CnfCompilerModel", "rowMany", "I", false)
  | 16 => ("CnfCompilerModel", "hasFalse", "Z", false)
  | 17 => ("CnfCompilerModel", "hasTrue", "Z", false)
  | 18 => ("CnfCompilerModel", "root", "I", false)
  | 19 => ("CnfCompilerModel", "work", "[I", true)
  | 20 => ("CnfCompilerModel", "workMany", "[I", true)
  | 21 => ("CnfCompilerModel", "nodeAt", "[I", true)
  | 22 => ("CnfCompilerModel", "goneAt", "[I", true)
  | 23 => ("CnfCompilerModel", "deepestAt", "[I", true)
  | 24 => ("CnfCompilerModel", "modelRow", "[I", true)
  | 25 => ("CnfCompilerModel", "modelMany", "I", false)
  | 26 => ("CnfCompilerModel", "isListed", "Z", false)
  | 27 => ("CnfCompilerModel", "spot", "I", false)
  | 28 => ("CnfCompilerModel", "read", "[I", true)
  | _ => ("CnfCompilerModel", "readMany", "I", false)
def tyX9 : Nat → FieldType := fun k => match k with
  | 0 => .array .int
  | 1 => .array .int
  | 2 => .int
  | 3 => .array .int
  | 4 => .array .int
  | 5 => .int
  | 6 => .boolean
  | 7 => .array .int
  | 8 => .array .int
  | 9 => .array .int
  | 10 => .array .int
  | 11 => .array .int
  | 12 => .array .int
  | 13 => .array .int
  | 14 => .int
  | 15 => .int
  | 16 => .boolean
  | 17 => .boolean
  | 18 => .int
  | 19 => .array .int
  | 20 => .array .int
  | 21 => .array .int
  | 22 => .array .int
  | 23 => .array .int
  | 24 => .array .int
  | 25 => .int
  | 26 => .boolean
  | 27 => .int
  | 28 => .array .int
  | _ => .int
abbrev wsX90 : List Cond := u_ws RX9 TX9 30
theorem nmX9 : ∀ a, a < 30 → ∀ b, b < 30 → a ≠ b → (TX9 a).2.1 ≠ (TX9 b).2.1 := by decide +kernel
theorem tyX9_ok : ∀ k, k < 30 → parseFieldDescriptor (TX9 k).2.2.1 = some (tyX9 k) := by decide +kernel
abbrev cX9_init : ByteArray := prog_11_method_1_code
def yX9_init : MethodName := ⟨RX9, "<init>", "()V"⟩
abbrev cX9_in : ByteArray := prog_11_method_2_code
def yX9_in : MethodName := ⟨RX9, "in", "(JJJ)Z"⟩
abbrev cX9_err : ByteArray := prog_11_method_3_code
def yX9_err : MethodName := ⟨RX9, "err", "(I)I"⟩
abbrev cX9_isLiteral : ByteArray := prog_11_method_4_code
def yX9_isLiteral : MethodName := ⟨RX9, "isLiteral", "(I)Z"⟩
abbrev cX9_bitOf : ByteArray := prog_11_method_5_code
def yX9_bitOf : MethodName := ⟨RX9, "bitOf", "(I)I"⟩
abbrev cX9_variables : ByteArray := prog_11_method_6_code
def yX9_variables : MethodName := ⟨RX9, "variables", "(I)I"⟩
abbrev cX9_ones : ByteArray := prog_11_method_7_code
def yX9_ones : MethodName := ⟨RX9, "ones", "(I)I"⟩
abbrev cX9_saves : ByteArray := prog_11_method_8_code
def yX9_saves : MethodName := ⟨RX9, "saves", "()V"⟩
abbrev cX9_undo : ByteArray := prog_11_method_9_code
def yX9_undo : MethodName := ⟨RX9, "undo", "()I"⟩
abbrev cX9_addClause : ByteArray := prog_11_method_10_code
def yX9_addClause : MethodName := ⟨RX9, "addClause", "(IIII)I"⟩
abbrev cX9_isClause : ByteArray := prog_11_method_11_code
def yX9_isClause : MethodName := ⟨RX9, "isClause", "(I)Z"⟩
abbrev cX9_removeClause : ByteArray := prog_11_method_12_code
def yX9_removeClause : MethodName := ⟨RX9, "removeClause", "(I)I"⟩
abbrev cX9_clauses : ByteArray := prog_11_method_13_code
def yX9_clauses : MethodName := ⟨RX9, "clauses", "()I"⟩
abbrev cX9_clauseSize : ByteArray := prog_11_method_14_code
def yX9_clauseSize : MethodName := ⟨RX9, "clauseSize", "(I)I"⟩
abbrev cX9_assumed : ByteArray := prog_11_method_15_code
def yX9_assumed : MethodName := ⟨RX9, "assumed", "()I"⟩
abbrev cX9_assume : ByteArray := prog_11_method_16_code
def yX9_assume : MethodName := ⟨RX9, "assume", "(I)I"⟩
abbrev cX9_retractAll : ByteArray := prog_11_method_17_code
def yX9_retractAll : MethodName := ⟨RX9, "retractAll", "()I"⟩
abbrev cX9_weightAt : ByteArray := prog_11_method_18_code
def yX9_weightAt : MethodName := ⟨RX9, "weightAt", "(I)I"⟩
abbrev cX9_setWeight : ByteArray := prog_11_method_19_code
def yX9_setWeight : MethodName := ⟨RX9, "setWeight", "(II)I"⟩
abbrev cX9_puts : ByteArray := prog_11_method_20_code
def yX9_puts : MethodName := ⟨RX9, "puts", "(II)V"⟩
abbrev cX9_finds : ByteArray := prog_11_method_21_code
def yX9_finds : MethodName := ⟨RX9, "finds", "(I)I"⟩
abbrev cX9_connected : ByteArray := prog_11_method_22_code
def yX9_connected : MethodName := ⟨RX9, "connected", "(II)I"⟩
abbrev cX9_deciding : ByteArray := prog_11_method_23_code
def yX9_deciding : MethodName := ⟨RX9, "deciding", "(I)I"⟩
abbrev cX9_sets : ByteArray := prog_11_method_24_code
def yX9_sets : MethodName := ⟨RX9, "sets", "(II)V"⟩
abbrev cX9_enters : ByteArray := prog_11_method_25_code
def yX9_enters : MethodName := ⟨RX9, "enters", "(I)I"⟩
abbrev cX9_goesDeeper : ByteArray := prog_11_method_26_code
def yX9_goesDeeper : MethodName := ⟨RX9, "goesDeeper", "(I)Z"⟩
abbrev cX9_builds : ByteArray := prog_11_method_27_code
def yX9_builds : MethodName := ⟨RX9, "builds", "()I"⟩
abbrev cX9_compiles : ByteArray := prog_11_method_28_code
def yX9_compiles : MethodName := ⟨RX9, "compiles", "()V"⟩
abbrev cX9_nodes : ByteArray := prog_11_method_29_code
def yX9_nodes : MethodName := ⟨RX9, "nodes", "()I"⟩
abbrev cX9_manyOf : ByteArray := prog_11_method_30_code
def yX9_manyOf : MethodName := ⟨RX9, "manyOf", "(Z)I"⟩
abbrev cX9_decisionNodes : ByteArray := prog_11_method_31_code
def yX9_decisionNodes : MethodName := ⟨RX9, "decisionNodes", "()I"⟩
abbrev cX9_andNodes : ByteArray := prog_11_method_32_code
def yX9_andNodes : MethodName := ⟨RX9, "andNodes", "()I"⟩
abbrev cX9_depth : ByteArray := prog_11_method_33_code
def yX9_depth : MethodName := ⟨RX9, "depth", "()I"⟩
abbrev cX9_rootVariable : ByteArray := prog_11_method_34_code
def yX9_rootVariable : MethodName := ⟨RX9, "rootVariable", "()I"⟩
abbrev cX9_components : ByteArray := prog_11_method_35_code
def yX9_components : MethodName := ⟨RX9, "components", "()I"⟩
abbrev cX9_isModel : ByteArray := prog_11_method_36_code
def yX9_isModel : MethodName := ⟨RX9, "isModel", "(I)Z"⟩
abbrev cX9_lists : ByteArray := prog_11_method_37_code
def yX9_lists : MethodName := ⟨RX9, "lists", "()V"⟩
abbrev cX9_modelsBy : ByteArray := prog_11_method_38_code
def yX9_modelsBy : MethodName := ⟨RX9, "modelsBy", "(I)I"⟩
abbrev cX9_models : ByteArray := prog_11_method_39_code
def yX9_models : MethodName := ⟨RX9, "models", "()I"⟩
abbrev cX9_modelsWith : ByteArray := prog_11_method_40_code
def yX9_modelsWith : MethodName := ⟨RX9, "modelsWith", "(I)I"⟩
abbrev cX9_weightedCount : ByteArray := prog_11_method_41_code
def yX9_weightedCount : MethodName := ⟨RX9, "weightedCount", "()J"⟩
abbrev cX9_shareBits : ByteArray := prog_11_method_42_code
def yX9_shareBits : MethodName := ⟨RX9, "shareBits", "()I"⟩
abbrev cX9_implied : ByteArray := prog_11_method_43_code
def yX9_implied : MethodName := ⟨RX9, "implied", "(I)I"⟩
abbrev cX9_leastModel : ByteArray := prog_11_method_44_code
def yX9_leastModel : MethodName := ⟨RX9, "leastModel", "()I"⟩
abbrev cX9_literalBy : ByteArray := prog_11_method_45_code
def yX9_literalBy : MethodName := ⟨RX9, "literalBy", "(I)I"⟩
abbrev cX9_explains : ByteArray := prog_11_method_46_code
def yX9_explains : MethodName := ⟨RX9, "explains", "(II)Z"⟩
abbrev cX9_mayBe : ByteArray := prog_11_method_47_code
def yX9_mayBe : MethodName := ⟨RX9, "mayBe", "(III)Z"⟩
abbrev cX9_explained : ByteArray := prog_11_method_48_code
def yX9_explained : MethodName := ⟨RX9, "explained", "(I)I"⟩
abbrev cX9_explainedFrom : ByteArray := prog_11_method_49_code
def yX9_explainedFrom : MethodName := ⟨RX9, "explainedFrom", "(IIII)I"⟩
abbrev cX9_explanation : ByteArray := prog_11_method_50_code
def yX9_explanation : MethodName := ⟨RX9, "explanation", "(II)I"⟩
abbrev cX9_append : ByteArray := prog_11_method_51_code
def yX9_append : MethodName := ⟨RX9, "append", "(I)I"⟩
abbrev cX9_clearText : ByteArray := prog_11_method_52_code
def yX9_clearText : MethodName := ⟨RX9, "clearText", "()I"⟩
abbrev cX9_byteAt : ByteArray := prog_11_method_53_code
def yX9_byteAt : MethodName := ⟨RX9, "byteAt", "(I)I"⟩
abbrev cX9_isFigure : ByteArray := prog_11_method_54_code
def yX9_isFigure : MethodName := ⟨RX9, "isFigure", "(I)Z"⟩
abbrev cX9_literalHere : ByteArray := prog_11_method_55_code
def yX9_literalHere : MethodName := ⟨RX9, "literalHere", "(I)I"⟩
abbrev cX9_reads : ByteArray := prog_11_method_56_code
def yX9_reads : MethodName := ⟨RX9, "reads", "()I"⟩
abbrev cX9_parse : ByteArray := prog_11_method_57_code
def yX9_parse : MethodName := ⟨RX9, "parse", "()I"⟩
abbrev cX9_errorCount : ByteArray := prog_11_method_58_code
def yX9_errorCount : MethodName := ⟨RX9, "errorCount", "(I)I"⟩
abbrev cX9_mixed : ByteArray := prog_11_method_59_code
def yX9_mixed : MethodName := ⟨RX9, "mixed", "(JJ)J"⟩
abbrev cX9_digest : ByteArray := prog_11_method_60_code
def yX9_digest : MethodName := ⟨RX9, "digest", "()J"⟩
def RJx145de : String := "java/io/Serializable"
def TJx145de : u_T := fun k => match k with
  | _ => ("", "", "", false)
def tyJx145de : Nat → FieldType := fun k => match k with
  | _ => .int
theorem nmJx145de : ∀ a, a < 0 → ∀ b, b < 0 → a ≠ b → (TJx145de a).2.1 ≠ (TJx145de b).2.1 := by decide +kernel
theorem tyJx145de_ok : ∀ k, k < 0 → parseFieldDescriptor (TJx145de k).2.2.1 = some (tyJx145de k) := by decide +kernel
def RJx8e188 : String := "java/lang/Cloneable"
def TJx8e188 : u_T := fun k => match k with
  | _ => ("", "", "", false)
def tyJx8e188 : Nat → FieldType := fun k => match k with
  | _ => .int
theorem nmJx8e188 : ∀ a, a < 0 → ∀ b, b < 0 → a ≠ b → (TJx8e188 a).2.1 ≠ (TJx8e188 b).2.1 := by decide +kernel
theorem tyJx8e188_ok : ∀ k, k < 0 → parseFieldDescriptor (TJx8e188 k).2.2.1 = some (tyJx8e188 k) := by decide +kernel
def RJxb160c : String := "java/lang/Comparable"
def TJxb160c : u_T := fun k => match k with
  | _ => ("", "", "", false)
def tyJxb160c : Nat → FieldType := fun k => match k with
  | _ => .int
theorem nmJxb160c : ∀ a, a < 0 → ∀ b, b < 0 → a ≠ b → (TJxb160c a).2.1 ≠ (TJxb160c b).2.1 := by decide +kernel
theorem tyJxb160c_ok : ∀ k, k < 0 → parseFieldDescriptor (TJxb160c k).2.2.1 = some (tyJxb160c k) := by decide +kernel
def RJxf58ca : String := "java/lang/Float"
def TJxf58ca : u_T := fun k => match k with
  | _ => ("", "", "", false)
def tyJxf58ca : Nat → FieldType := fun k => match k with
  | _ => .int
theorem nmJxf58ca : ∀ a, a < 0 → ∀ b, b < 0 → a ≠ b → (TJxf58ca a).2.1 ≠ (TJxf58ca b).2.1 := by decide +kernel
theorem tyJxf58ca_ok : ∀ k, k < 0 → parseFieldDescriptor (TJxf58ca k).2.2.1 = some (tyJxf58ca k) := by decide +kernel
abbrev cJxf58ca_isNaN_12338 : ByteArray := prog_13_method_6_code
def yJxf58ca_isNaN_12338 : MethodName := ⟨RJxf58ca, "isNaN", "(F)Z"⟩
abbrev cJxf58ca_floatToIntBits_5c35a : ByteArray := prog_13_method_24_code
def yJxf58ca_floatToIntBits_5c35a : MethodName := ⟨RJxf58ca, "floatToIntBits", "(F)I"⟩
def RJ6 : String := "java/lang/Integer"
def TJ6 : u_T := fun k => match k with
  | _ => ("", "", "", false)
def tyJ6 : Nat → FieldType := fun k => match k with
  | _ => .int
theorem nmJ6 : ∀ a, a < 0 → ∀ b, b < 0 → a ≠ b → (TJ6 a).2.1 ≠ (TJ6 b).2.1 := by decide +kernel
theorem tyJ6_ok : ∀ k, k < 0 → parseFieldDescriptor (TJ6 k).2.2.1 = some (tyJ6 k) := by decide +kernel
abbrev cJ6_numberOfLeadingZeros_0f7a4 : ByteArray := prog_14_method_47_code
def yJ6_numberOfLeadingZeros_0f7a4 : MethodName := ⟨RJ6, "numberOfLeadingZeros", "(I)I"⟩
abbrev cJ6_numberOfTrailingZeros_0f7a4 : ByteArray := prog_14_method_48_code
def yJ6_numberOfTrailingZeros_0f7a4 : MethodName := ⟨RJ6, "numberOfTrailingZeros", "(I)I"⟩
abbrev cJ6_bitCount_0f7a4 : ByteArray := prog_14_method_49_code
def yJ6_bitCount_0f7a4 : MethodName := ⟨RJ6, "bitCount", "(I)I"⟩
def RJ13 : String := "java/lang/Long"
def TJ13 : u_T := fun k => match k with
  | _ => ("", "", "", false)
def tyJ13 : Nat → FieldType := fun k => match k with
  | _ => .int
theorem nmJ13 : ∀ a, a < 0 → ∀ b, b < 0 → a ≠ b → (TJ13 a).2.1 ≠ (TJ13 b).2.1 := by decide +kernel
theorem tyJ13_ok : ∀ k, k < 0 → parseFieldDescriptor (TJ13 k).2.2.1 = some (tyJ13 k) := by decide +kernel
abbrev cJ13_numberOfTrailingZeros_95d88 : ByteArray := prog_15_method_49_code
def yJ13_numberOfTrailingZeros_95d88 : MethodName := ⟨RJ13, "numberOfTrailingZeros", "(J)I"⟩
abbrev cJ13_bitCount_95d88 : ByteArray := prog_15_method_50_code
def yJ13_bitCount_95d88 : MethodName := ⟨RJ13, "bitCount", "(J)I"⟩
def RJ9 : String := "java/lang/Math"
def TJ9 : u_T := fun k => match k with
  | _ => ("", "", "", false)
def tyJ9 : Nat → FieldType := fun k => match k with
  | _ => .int
theorem nmJ9 : ∀ a, a < 0 → ∀ b, b < 0 → a ≠ b → (TJ9 a).2.1 ≠ (TJ9 b).2.1 := by decide +kernel
theorem tyJ9_ok : ∀ k, k < 0 → parseFieldDescriptor (TJ9 k).2.2.1 = some (tyJ9 k) := by decide +kernel
abbrev cJ9_max_7cf53 : ByteArray := prog_16_method_65_code
def yJ9_max_7cf53 : MethodName := ⟨RJ9, "max", "(II)I"⟩
abbrev cJ9_min_7cf53 : ByteArray := prog_16_method_69_code
def yJ9_min_7cf53 : MethodName := ⟨RJ9, "min", "(II)I"⟩
def RJxd2413 : String := "java/lang/Number"
def TJxd2413 : u_T := fun k => match k with
  | _ => ("", "", "", false)
def tyJxd2413 : Nat → FieldType := fun k => match k with
  | _ => .int
theorem nmJxd2413 : ∀ a, a < 0 → ∀ b, b < 0 → a ≠ b → (TJxd2413 a).2.1 ≠ (TJxd2413 b).2.1 := by decide +kernel
theorem tyJxd2413_ok : ∀ k, k < 0 → parseFieldDescriptor (TJxd2413 k).2.2.1 = some (tyJxd2413 k) := by decide +kernel
def RJ10 : String := "java/lang/System"
def TJ10 : u_T := fun k => match k with
  | _ => ("", "", "", false)
def tyJ10 : Nat → FieldType := fun k => match k with
  | _ => .int
theorem nmJ10 : ∀ a, a < 0 → ∀ b, b < 0 → a ≠ b → (TJ10 a).2.1 ≠ (TJ10 b).2.1 := by decide +kernel
theorem tyJ10_ok : ∀ k, k < 0 → parseFieldDescriptor (TJ10 k).2.2.1 = some (tyJ10 k) := by decide +kernel
def RJxfd54e : String := "java/lang/constant/Constable"
def TJxfd54e : u_T := fun k => match k with
  | _ => ("", "", "", false)
def tyJxfd54e : Nat → FieldType := fun k => match k with
  | _ => .int
theorem nmJxfd54e : ∀ a, a < 0 → ∀ b, b < 0 → a ≠ b → (TJxfd54e a).2.1 ≠ (TJxfd54e b).2.1 := by decide +kernel
theorem tyJxfd54e_ok : ∀ k, k < 0 → parseFieldDescriptor (TJxfd54e k).2.2.1 = some (tyJxfd54e k) := by decide +kernel
def RJx3cf43 : String := "java/lang/constant/ConstantDesc"
def TJx3cf43 : u_T := fun k => match k with
  | _ => ("", "", "", false)
def tyJx3cf43 : Nat → FieldType := fun k => match k with
  | _ => .int
theorem nmJx3cf43 : ∀ a, a < 0 → ∀ b, b < 0 → a ≠ b → (TJx3cf43 a).2.1 ≠ (TJx3cf43 b).2.1 := by decide +kernel
theorem tyJx3cf43_ok : ∀ k, k < 0 → parseFieldDescriptor (TJx3cf43 k).2.2.1 = some (tyJx3cf43 k) := by decide +kernel
def RJ7 : String := "java/util/Arrays"
def TJ7 : u_T := fun k => match k with
  | _ => ("", "", "", false)
def tyJ7 : Nat → FieldType := fun k => match k with
  | _ => .int
theorem nmJ7 : ∀ a, a < 0 → ∀ b, b < 0 → a ≠ b → (TJ7 a).2.1 ≠ (TJ7 b).2.1 := by decide +kernel
theorem tyJ7_ok : ∀ k, k < 0 → parseFieldDescriptor (TJ7 k).2.2.1 = some (tyJ7 k) := by decide +kernel
abbrev cJ7_fill_d0a16 : ByteArray := prog_19_method_101_code
def yJ7_fill_d0a16 : MethodName := ⟨RJ7, "fill", "([JJ)V"⟩
abbrev cJ7_fill_53178 : ByteArray := prog_19_method_103_code
def yJ7_fill_53178 : MethodName := ⟨RJ7, "fill", "([II)V"⟩
abbrev cJ7_copyOf_59c91 : ByteArray := prog_19_method_123_code
def yJ7_copyOf_59c91 : MethodName := ⟨RJ7, "copyOf", "([II)[I"⟩
def RL : String := "CnfCompilerLaw"
abbrev cL_law : ByteArray := code
def yL_law : MethodName := ⟨RL, "law", "([I)Z"⟩
end
section
theorem dX0_init_0 : decode cX0_init 0 = .ok (.aload_n 0, 1) := by decide +kernel
theorem dX0_init_1 : decode cX0_init 1 = .ok (.invokespecial 3, 3) := by decide +kernel
theorem dX0_init_4 : decode cX0_init 4 = .ok (.aload_n 0, 1) := by decide +kernel
theorem dX0_init_5 : decode cX0_init 5 = .ok (.bipush 16, 2) := by decide +kernel
theorem dX0_init_7 : decode cX0_init 7 = .ok (.newarray .int, 2) := by decide +kernel
theorem dX0_init_9 : decode cX0_init 9 = .ok (.putfield 9, 3) := by decide +kernel
theorem dX0_init_12 : decode cX0_init 12 = .ok (.aload_n 0, 1) := by decide +kernel
theorem dX0_init_13 : decode cX0_init 13 = .ok (.iconst 0, 1) := by decide +kernel
theorem dX0_init_14 : decode cX0_init 14 = .ok (.putfield 15, 3) := by decide +kernel
theorem dX0_init_17 : decode cX0_init 17 = .ok (.aload_n 0, 1) := by decide +kernel
theorem dX0_init_18 : decode cX0_init 18 = .ok (.iconst 0, 1) := by decide +kernel
theorem dX0_init_19 : decode cX0_init 19 = .ok (.putfield 19, 3) := by decide +kernel
theorem dX0_init_22 : decode cX0_init 22 = .ok (.aload_n 0, 1) := by decide +kernel
theorem dX0_init_23 : decode cX0_init 23 = .ok (.iconst 0, 1) := by decide +kernel
theorem dX0_init_24 : decode cX0_init 24 = .ok (.putfield 22, 3) := by decide +kernel
theorem dX0_init_27 : decode cX0_init 27 = .ok (.aload_n 0, 1) := by decide +kernel
theorem dX0_init_28 : decode cX0_init 28 = .ok (.iconst (-1), 1) := by decide +kernel
theorem dX0_init_29 : decode cX0_init 29 = .ok (.putfield 25, 3) := by decide +kernel
theorem dX0_init_32 : decode cX0_init 32 = .ok (.return_, 1) := by decide +kernel
theorem dX0_clauseAt_0 : decode cX0_clauseAt 0 = .ok (.iload_n 1, 1) := by decide +kernel
theorem dX0_clauseAt_1 : decode cX0_clauseAt 1 = .ok (.ifCond .lt 26, 3) := by decide +kernel
theorem dX0_clauseAt_4 : decode cX0_clauseAt 4 = .ok (.iload_n 1, 1) := by decide +kernel
theorem dX0_clauseAt_5 : decode cX0_clauseAt 5 = .ok (.aload_n 0, 1) := by decide +kernel
theorem dX0_clauseAt_6 : decode cX0_clauseAt 6 = .ok (.getfield 15, 3) := by decide +kernel
theorem dX0_clauseAt_9 : decode cX0_clauseAt 9 = .ok (.if_icmp .ge 18, 3) := by decide +kernel
theorem dX0_clauseAt_12 : decode cX0_clauseAt 12 = .ok (.iload_n 1, 1) := by decide +kernel
theorem dX0_clauseAt_13 : decode cX0_clauseAt 13 = .ok (.bipush 16, 2) := by decide +kernel
theorem dX0_clauseAt_15 : decode cX0_clauseAt 15 = .ok (.if_icmp .ge 12, 3) := by decide +kernel
theorem dX0_clauseAt_18 : decode cX0_clauseAt 18 = .ok (.aload_n 0, 1) := by decide +kernel
theorem dX0_clauseAt_19 : decode cX0_clauseAt 19 = .ok (.getfield 9, 3) := by decide +kernel
theorem dX0_clauseAt_22 : decode cX0_clauseAt 22 = .ok (.iload_n 1, 1) := by decide +kernel
theorem dX0_clauseAt_23 : decode cX0_clauseAt 23 = .ok (.iaload, 1) := by decide +kernel
theorem dX0_clauseAt_24 : decode cX0_clauseAt 24 = .ok (.goto 4, 3) := by decide +kernel
theorem dX0_clauseAt_27 : decode cX0_clauseAt 27 = .ok (.iconst 0, 1) := by decide +kernel
theorem dX0_clauseAt_28 : decode cX0_clauseAt 28 = .ok (.ireturn, 1) := by decide +kernel
theorem dX0_read_0 : decode cX0_read 0 = .ok (.aload_n 0, 1) := by decide +kernel
theorem dX0_read_1 : decode cX0_read 1 = .ok (.iconst 0, 1) := by decide +kernel
theorem dX0_read_2 : decode cX0_read 2 = .ok (.putfield 15, 3) := by decide +kernel
theorem dX0_read_5 : decode cX0_read 5 = .ok (.aload_n 0, 1) := by decide +kernel
theorem dX0_read_6 : decode cX0_read 6 = .ok (.iconst 0, 1) := by decide +kernel
theorem dX0_read_7 : decode cX0_read 7 = .ok (.putfield 19, 3) := by decide +kernel
theorem dX0_read_10 : decode cX0_read 10 = .ok (.aload_n 0, 1) := by decide +kernel
theorem dX0_read_11 : decode cX0_read 11 = .ok (.iconst 0, 1) := by decide +kernel
theorem dX0_read_12 : decode cX0_read 12 = .ok (.putfield 22, 3) := by decide +kernel
theorem dX0_read_15 : decode cX0_read 15 = .ok (.aload_n 0, 1) := by decide +kernel
theorem dX0_read_16 : decode cX0_read 16 = .ok (.iconst (-1), 1) := by decide +kernel
theorem dX0_read_17 : decode cX0_read 17 = .ok (.putfield 25, 3) := by decide +kernel
theorem dX0_read_20 : decode cX0_read 20 = .ok (.iconst 0, 1) := by decide +kernel
theorem dX0_read_21 : decode cX0_read 21 = .ok (.istore_n 3, 1) := by decide +kernel
theorem dX0_read_22 : decode cX0_read 22 = .ok (.iload_n 3, 1) := by decide +kernel
theorem dX0_read_23 : decode cX0_read 23 = .ok (.sipush 150, 3) := by decide +kernel
theorem dX0_read_26 : decode cX0_read 26 = .ok (.if_icmp .ge 34, 3) := by decide +kernel
theorem dX0_read_29 : decode cX0_read 29 = .ok (.aload_n 0, 1) := by decide +kernel
theorem dX0_read_30 : decode cX0_read 30 = .ok (.getfield 19, 3) := by decide +kernel
theorem dX0_read_33 : decode cX0_read 33 = .ok (.aload_n 1, 1) := by decide +kernel
theorem dX0_read_34 : decode cX0_read 34 = .ok (.getfield 28, 3) := by decide +kernel
theorem dX0_read_37 : decode cX0_read 37 = .ok (.if_icmp .ge 23, 3) := by decide +kernel
theorem dX0_read_40 : decode cX0_read 40 = .ok (.aload_n 0, 1) := by decide +kernel
theorem dX0_read_41 : decode cX0_read 41 = .ok (.getfield 25, 3) := by decide +kernel
theorem dX0_read_44 : decode cX0_read 44 = .ok (.iconst (-1), 1) := by decide +kernel
theorem dX0_read_45 : decode cX0_read 45 = .ok (.if_icmp .ne 15, 3) := by decide +kernel
theorem dX0_read_48 : decode cX0_read 48 = .ok (.aload_n 0, 1) := by decide +kernel
theorem dX0_read_49 : decode cX0_read 49 = .ok (.aload_n 1, 1) := by decide +kernel
theorem dX0_read_50 : decode cX0_read 50 = .ok (.iload_n 2, 1) := by decide +kernel
theorem dX0_read_51 : decode cX0_read 51 = .ok (.invokevirtual 33, 3) := by decide +kernel
theorem dX0_read_54 : decode cX0_read 54 = .ok (.iinc 3 1, 3) := by decide +kernel
theorem dX0_read_57 : decode cX0_read 57 = .ok (.goto (-35), 3) := by decide +kernel
theorem dX0_read_60 : decode cX0_read 60 = .ok (.aload_n 0, 1) := by decide +kernel
theorem dX0_read_61 : decode cX0_read 61 = .ok (.getfield 25, 3) := by decide +kernel
theorem dX0_read_64 : decode cX0_read 64 = .ok (.iconst (-1), 1) := by decide +kernel
theorem dX0_read_65 : decode cX0_read 65 = .ok (.if_icmp .ne 18, 3) := by decide +kernel
theorem dX0_read_68 : decode cX0_read 68 = .ok (.aload_n 0, 1) := by decide +kernel
theorem dX0_read_69 : decode cX0_read 69 = .ok (.getfield 22, 3) := by decide +kernel
theorem dX0_read_72 : decode cX0_read 72 = .ok (.ifCond .eq 11, 3) := by decide +kernel
theorem dX0_read_75 : decode cX0_read 75 = .ok (.aload_n 0, 1) := by decide +kernel
theorem dX0_read_76 : decode cX0_read 76 = .ok (.aload_n 1, 1) := by decide +kernel
theorem dX0_read_77 : decode cX0_read 77 = .ok (.getfield 28, 3) := by decide +kernel
theorem dX0_read_80 : decode cX0_read 80 = .ok (.putfield 25, 3) := by decide +kernel
theorem dX0_read_83 : decode cX0_read 83 = .ok (.aload_n 0, 1) := by decide +kernel
theorem dX0_read_84 : decode cX0_read 84 = .ok (.getfield 25, 3) := by decide +kernel
theorem dX0_read_87 : decode cX0_read 87 = .ok (.ireturn, 1) := by decide +kernel
theorem dX0_readToken_0 : decode cX0_readToken 0 = .ok (.aload_n 1, 1) := by decide +kernel
theorem dX0_readToken_1 : decode cX0_readToken 1 = .ok (.aload_n 0, 1) := by decide +kernel
theorem dX0_readToken_2 : decode cX0_readToken 2 = .ok (.getfield 19, 3) := by decide +kernel
theorem dX0_readToken_5 : decode cX0_readToken 5 = .ok (.invokevirtual 37, 3) := by decide +kernel
theorem dX0_readToken_8 : decode cX0_readToken 8 = .ok (.istore_n 3, 1) := by decide +kernel
theorem dX0_readToken_9 : decode cX0_readToken 9 = .ok (.iload_n 3, 1) := by decide +kernel
theorem dX0_readToken_10 : decode cX0_readToken 10 = .ok (.bipush 32, 2) := by decide +kernel
theorem dX0_readToken_12 : decode cX0_readToken 12 = .ok (.if_icmp .ne 16, 3) := by decide +kernel
theorem dX0_readToken_15 : decode cX0_readToken 15 = .ok (.aload_n 0, 1) := by decide +kernel
theorem dX0_readToken_16 : decode cX0_readToken 16 = .ok (.dup, 1) := by decide +kernel
theorem dX0_readToken_17 : decode cX0_readToken 17 = .ok (.getfield 19, 3) := by decide +kernel
theorem dX0_readToken_20 : decode cX0_readToken 20 = .ok (.iconst 1, 1) := by decide +kernel
theorem dX0_readToken_21 : decode cX0_readToken 21 = .ok (.iadd, 1) := by decide +kernel
theorem dX0_readToken_22 : decode cX0_readToken 22 = .ok (.putfield 19, 3) := by decide +kernel
theorem dX0_readToken_25 : decode cX0_readToken 25 = .ok (.goto 50, 3) := by decide +kernel
theorem dX0_readToken_28 : decode cX0_readToken 28 = .ok (.iload_n 3, 1) := by decide +kernel
theorem dX0_readToken_29 : decode cX0_readToken 29 = .ok (.bipush 59, 2) := by decide +kernel
theorem dX0_readToken_31 : decode cX0_readToken 31 = .ok (.if_icmp .ne 10, 3) := by decide +kernel
theorem dX0_readToken_34 : decode cX0_readToken 34 = .ok (.aload_n 0, 1) := by decide +kernel
theorem dX0_readToken_35 : decode cX0_readToken 35 = .ok (.invokevirtual 41, 3) := by decide +kernel
theorem dX0_readToken_38 : decode cX0_readToken 38 = .ok (.goto 37, 3) := by decide +kernel
theorem dX0_readToken_41 : decode cX0_readToken 41 = .ok (.iload_n 3, 1) := by decide +kernel
theorem dX0_readToken_42 : decode cX0_readToken 42 = .ok (.bipush 45, 2) := by decide +kernel
theorem dX0_readToken_44 : decode cX0_readToken 44 = .ok (.if_icmp .eq 14, 3) := by decide +kernel
theorem dX0_readToken_47 : decode cX0_readToken 47 = .ok (.aload_n 1, 1) := by decide +kernel
theorem dX0_readToken_48 : decode cX0_readToken 48 = .ok (.aload_n 0, 1) := by decide +kernel
theorem dX0_readToken_49 : decode cX0_readToken 49 = .ok (.getfield 19, 3) := by decide +kernel
theorem dX0_readToken_52 : decode cX0_readToken 52 = .ok (.invokevirtual 44, 3) := by decide +kernel
theorem dX0_readToken_55 : decode cX0_readToken 55 = .ok (.ifCond .eq 12, 3) := by decide +kernel
theorem dX0_readToken_58 : decode cX0_readToken 58 = .ok (.aload_n 0, 1) := by decide +kernel
theorem dX0_readToken_59 : decode cX0_readToken 59 = .ok (.aload_n 1, 1) := by decide +kernel
theorem dX0_readToken_60 : decode cX0_readToken 60 = .ok (.iload_n 2, 1) := by decide +kernel
theorem dX0_readToken_61 : decode cX0_readToken 61 = .ok (.invokevirtual 48, 3) := by decide +kernel
theorem dX0_readToken_64 : decode cX0_readToken 64 = .ok (.goto 11, 3) := by decide +kernel
theorem dX0_readToken_67 : decode cX0_readToken 67 = .ok (.aload_n 0, 1) := by decide +kernel
theorem dX0_readToken_68 : decode cX0_readToken 68 = .ok (.aload_n 0, 1) := by decide +kernel
theorem dX0_readToken_69 : decode cX0_readToken 69 = .ok (.getfield 19, 3) := by decide +kernel
theorem dX0_readToken_72 : decode cX0_readToken 72 = .ok (.putfield 25, 3) := by decide +kernel
theorem dX0_readToken_75 : decode cX0_readToken 75 = .ok (.return_, 1) := by decide +kernel
theorem dX0_closeClause_0 : decode cX0_closeClause 0 = .ok (.aload_n 0, 1) := by decide +kernel
theorem dX0_closeClause_1 : decode cX0_closeClause 1 = .ok (.getfield 22, 3) := by decide +kernel
theorem dX0_closeClause_4 : decode cX0_closeClause 4 = .ok (.ifCond .eq 12, 3) := by decide +kernel
theorem dX0_closeClause_7 : decode cX0_closeClause 7 = .ok (.aload_n 0, 1) := by decide +kernel
theorem dX0_closeClause_8 : decode cX0_closeClause 8 = .ok (.getfield 15, 3) := by decide +kernel
theorem dX0_closeClause_11 : decode cX0_closeClause 11 = .ok (.bipush 16, 2) := by decide +kernel
theorem dX0_closeClause_13 : decode cX0_closeClause 13 = .ok (.if_icmp .lt 12, 3) := by decide +kernel
theorem dX0_closeClause_16 : decode cX0_closeClause 16 = .ok (.aload_n 0, 1) := by decide +kernel
theorem dX0_closeClause_17 : decode cX0_closeClause 17 = .ok (.aload_n 0, 1) := by decide +kernel
theorem dX0_closeClause_18 : decode cX0_closeClause 18 = .ok (.getfield 19, 3) := by decide +kernel
theorem dX0_closeClause_21 : decode cX0_closeClause 21 = .ok (.putfield 25, 3) := by decide +kernel
theorem dX0_closeClause_24 : decode cX0_closeClause 24 = .ok (.return_, 1) := by decide +kernel
theorem dX0_closeClause_25 : decode cX0_closeClause 25 = .ok (.aload_n 0, 1) := by decide +kernel
theorem dX0_closeClause_26 : decode cX0_closeClause 26 = .ok (.getfield 9, 3) := by decide +kernel
theorem dX0_closeClause_29 : decode cX0_closeClause 29 = .ok (.aload_n 0, 1) := by decide +kernel
theorem dX0_closeClause_30 : decode cX0_closeClause 30 = .ok (.getfield 15, 3) := by decide +kernel
theorem dX0_closeClause_33 : decode cX0_closeClause 33 = .ok (.aload_n 0, 1) := by decide +kernel
theorem dX0_closeClause_34 : decode cX0_closeClause 34 = .ok (.getfield 22, 3) := by decide +kernel
theorem dX0_closeClause_37 : decode cX0_closeClause 37 = .ok (.iastore, 1) := by decide +kernel
theorem dX0_closeClause_38 : decode cX0_closeClause 38 = .ok (.aload_n 0, 1) := by decide +kernel
theorem dX0_closeClause_39 : decode cX0_closeClause 39 = .ok (.dup, 1) := by decide +kernel
theorem dX0_closeClause_40 : decode cX0_closeClause 40 = .ok (.getfield 15, 3) := by decide +kernel
theorem dX0_closeClause_43 : decode cX0_closeClause 43 = .ok (.iconst 1, 1) := by decide +kernel
theorem dX0_closeClause_44 : decode cX0_closeClause 44 = .ok (.iadd, 1) := by decide +kernel
theorem dX0_closeClause_45 : decode cX0_closeClause 45 = .ok (.putfield 15, 3) := by decide +kernel
theorem dX0_closeClause_48 : decode cX0_closeClause 48 = .ok (.aload_n 0, 1) := by decide +kernel
theorem dX0_closeClause_49 : decode cX0_closeClause 49 = .ok (.iconst 0, 1) := by decide +kernel
theorem dX0_closeClause_50 : decode cX0_closeClause 50 = .ok (.putfield 22, 3) := by decide +kernel
theorem dX0_closeClause_53 : decode cX0_closeClause 53 = .ok (.aload_n 0, 1) := by decide +kernel
theorem dX0_closeClause_54 : decode cX0_closeClause 54 = .ok (.dup, 1) := by decide +kernel
theorem dX0_closeClause_55 : decode cX0_closeClause 55 = .ok (.getfield 19, 3) := by decide +kernel
theorem dX0_closeClause_58 : decode cX0_closeClause 58 = .ok (.iconst 1, 1) := by decide +kernel
theorem dX0_closeClause_59 : decode cX0_closeClause 59 = .ok (.iadd, 1) := by decide +kernel
theorem dX0_closeClause_60 : decode cX0_closeClause 60 = .ok (.putfield 19, 3) := by decide +kernel
theorem dX0_closeClause_63 : decode cX0_closeClause 63 = .ok (.return_, 1) := by decide +kernel
theorem dX0_readLiteral_0 : decode cX0_readLiteral 0 = .ok (.aload_n 0, 1) := by decide +kernel
theorem dX0_readLiteral_1 : decode cX0_readLiteral 1 = .ok (.getfield 22, 3) := by decide +kernel
theorem dX0_readLiteral_4 : decode cX0_readLiteral 4 = .ok (.invokestatic 51, 3) := by decide +kernel
theorem dX0_readLiteral_7 : decode cX0_readLiteral 7 = .ok (.iconst 4, 1) := by decide +kernel
theorem dX0_readLiteral_8 : decode cX0_readLiteral 8 = .ok (.if_icmp .lt 7, 3) := by decide +kernel
theorem dX0_readLiteral_11 : decode cX0_readLiteral 11 = .ok (.iconst 1, 1) := by decide +kernel
theorem dX0_readLiteral_12 : decode cX0_readLiteral 12 = .ok (.goto 4, 3) := by decide +kernel
theorem dX0_readLiteral_15 : decode cX0_readLiteral 15 = .ok (.iconst 0, 1) := by decide +kernel
theorem dX0_readLiteral_16 : decode cX0_readLiteral 16 = .ok (.istore_n 3, 1) := by decide +kernel
theorem dX0_readLiteral_17 : decode cX0_readLiteral 17 = .ok (.aload_n 0, 1) := by decide +kernel
theorem dX0_readLiteral_18 : decode cX0_readLiteral 18 = .ok (.getfield 22, 3) := by decide +kernel
theorem dX0_readLiteral_21 : decode cX0_readLiteral 21 = .ok (.ifCond .ne 15, 3) := by decide +kernel
theorem dX0_readLiteral_24 : decode cX0_readLiteral 24 = .ok (.aload_n 0, 1) := by decide +kernel
theorem dX0_readLiteral_25 : decode cX0_readLiteral 25 = .ok (.getfield 15, 3) := by decide +kernel
theorem dX0_readLiteral_28 : decode cX0_readLiteral 28 = .ok (.iload_n 2, 1) := by decide +kernel
theorem dX0_readLiteral_29 : decode cX0_readLiteral 29 = .ok (.if_icmp .lt 7, 3) := by decide +kernel
theorem dX0_readLiteral_32 : decode cX0_readLiteral 32 = .ok (.iconst 1, 1) := by decide +kernel
theorem dX0_readLiteral_33 : decode cX0_readLiteral 33 = .ok (.goto 4, 3) := by decide +kernel
theorem dX0_readLiteral_36 : decode cX0_readLiteral 36 = .ok (.iconst 0, 1) := by decide +kernel
theorem dX0_readLiteral_37 : decode cX0_readLiteral 37 = .ok (.istore 4, 2) := by decide +kernel
theorem dX0_readLiteral_39 : decode cX0_readLiteral 39 = .ok (.iload_n 3, 1) := by decide +kernel
theorem dX0_readLiteral_40 : decode cX0_readLiteral 40 = .ok (.ifCond .ne 8, 3) := by decide +kernel
theorem dX0_readLiteral_43 : decode cX0_readLiteral 43 = .ok (.iload 4, 2) := by decide +kernel
theorem dX0_readLiteral_45 : decode cX0_readLiteral 45 = .ok (.ifCond .eq 12, 3) := by decide +kernel
theorem dX0_readLiteral_48 : decode cX0_readLiteral 48 = .ok (.aload_n 0, 1) := by decide +kernel
theorem dX0_readLiteral_49 : decode cX0_readLiteral 49 = .ok (.aload_n 0, 1) := by decide +kernel
theorem dX0_readLiteral_50 : decode cX0_readLiteral 50 = .ok (.getfield 19, 3) := by decide +kernel
theorem dX0_readLiteral_53 : decode cX0_readLiteral 53 = .ok (.putfield 25, 3) := by decide +kernel
theorem dX0_readLiteral_56 : decode cX0_readLiteral 56 = .ok (.return_, 1) := by decide +kernel
theorem dX0_readLiteral_57 : decode cX0_readLiteral 57 = .ok (.aload_n 1, 1) := by decide +kernel
theorem dX0_readLiteral_58 : decode cX0_readLiteral 58 = .ok (.aload_n 0, 1) := by decide +kernel
theorem dX0_readLiteral_59 : decode cX0_readLiteral 59 = .ok (.getfield 19, 3) := by decide +kernel
theorem dX0_readLiteral_62 : decode cX0_readLiteral 62 = .ok (.invokevirtual 37, 3) := by decide +kernel
theorem dX0_readLiteral_65 : decode cX0_readLiteral 65 = .ok (.bipush 45, 2) := by decide +kernel
theorem dX0_readLiteral_67 : decode cX0_readLiteral 67 = .ok (.if_icmp .ne 7, 3) := by decide +kernel
theorem dX0_readLiteral_70 : decode cX0_readLiteral 70 = .ok (.iconst 1, 1) := by decide +kernel
theorem dX0_readLiteral_71 : decode cX0_readLiteral 71 = .ok (.goto 4, 3) := by decide +kernel
theorem dX0_readLiteral_74 : decode cX0_readLiteral 74 = .ok (.iconst 0, 1) := by decide +kernel
theorem dX0_readLiteral_75 : decode cX0_readLiteral 75 = .ok (.istore 5, 2) := by decide +kernel
theorem dX0_readLiteral_77 : decode cX0_readLiteral 77 = .ok (.iload 5, 2) := by decide +kernel
theorem dX0_readLiteral_79 : decode cX0_readLiteral 79 = .ok (.ifCond .eq 12, 3) := by decide +kernel
theorem dX0_readLiteral_82 : decode cX0_readLiteral 82 = .ok (.aload_n 0, 1) := by decide +kernel
theorem dX0_readLiteral_83 : decode cX0_readLiteral 83 = .ok (.getfield 19, 3) := by decide +kernel
theorem dX0_readLiteral_86 : decode cX0_readLiteral 86 = .ok (.iconst 1, 1) := by decide +kernel
theorem dX0_readLiteral_87 : decode cX0_readLiteral 87 = .ok (.iadd, 1) := by decide +kernel
theorem dX0_readLiteral_88 : decode cX0_readLiteral 88 = .ok (.goto 7, 3) := by decide +kernel
theorem dX0_readLiteral_91 : decode cX0_readLiteral 91 = .ok (.aload_n 0, 1) := by decide +kernel
theorem dX0_readLiteral_92 : decode cX0_readLiteral 92 = .ok (.getfield 19, 3) := by decide +kernel
theorem dX0_readLiteral_95 : decode cX0_readLiteral 95 = .ok (.istore 6, 2) := by decide +kernel
theorem dX0_readLiteral_97 : decode cX0_readLiteral 97 = .ok (.aload_n 1, 1) := by decide +kernel
theorem dX0_readLiteral_98 : decode cX0_readLiteral 98 = .ok (.iload 6, 2) := by decide +kernel
theorem dX0_readLiteral_100 : decode cX0_readLiteral 100 = .ok (.invokestatic 56, 3) := by decide +kernel
theorem dX0_readLiteral_103 : decode cX0_readLiteral 103 = .ok (.istore 7, 2) := by decide +kernel
theorem dX0_readLiteral_105 : decode cX0_readLiteral 105 = .ok (.iload 7, 2) := by decide +kernel
theorem dX0_readLiteral_107 : decode cX0_readLiteral 107 = .ok (.ifCond .eq 9, 3) := by decide +kernel
theorem dX0_readLiteral_110 : decode cX0_readLiteral 110 = .ok (.iload 7, 2) := by decide +kernel
theorem dX0_readLiteral_112 : decode cX0_readLiteral 112 = .ok (.iconst 2, 1) := by decide +kernel
theorem dX0_readLiteral_113 : decode cX0_readLiteral 113 = .ok (.if_icmp .le 22, 3) := by decide +kernel
theorem dX0_readLiteral_116 : decode cX0_readLiteral 116 = .ok (.aload_n 0, 1) := by decide +kernel
theorem dX0_readLiteral_117 : decode cX0_readLiteral 117 = .ok (.iload 7, 2) := by decide +kernel
theorem dX0_readLiteral_119 : decode cX0_readLiteral 119 = .ok (.ifCond .ne 8, 3) := by decide +kernel
theorem dX0_readLiteral_122 : decode cX0_readLiteral 122 = .ok (.iload 6, 2) := by decide +kernel
theorem dX0_readLiteral_124 : decode cX0_readLiteral 124 = .ok (.goto 7, 3) := by decide +kernel
theorem dX0_readLiteral_127 : decode cX0_readLiteral 127 = .ok (.iload 6, 2) := by decide +kernel
theorem dX0_readLiteral_129 : decode cX0_readLiteral 129 = .ok (.iconst 2, 1) := by decide +kernel
theorem dX0_readLiteral_130 : decode cX0_readLiteral 130 = .ok (.iadd, 1) := by decide +kernel
theorem dX0_readLiteral_131 : decode cX0_readLiteral 131 = .ok (.putfield 25, 3) := by decide +kernel
theorem dX0_readLiteral_134 : decode cX0_readLiteral 134 = .ok (.return_, 1) := by decide +kernel
theorem dX0_readLiteral_135 : decode cX0_readLiteral 135 = .ok (.aload_n 1, 1) := by decide +kernel
theorem dX0_readLiteral_136 : decode cX0_readLiteral 136 = .ok (.iload 6, 2) := by decide +kernel
theorem dX0_readLiteral_138 : decode cX0_readLiteral 138 = .ok (.iload 7, 2) := by decide +kernel
theorem dX0_readLiteral_140 : decode cX0_readLiteral 140 = .ok (.invokestatic 60, 3) := by decide +kernel
theorem dX0_readLiteral_143 : decode cX0_readLiteral 143 = .ok (.istore 8, 2) := by decide +kernel
theorem dX0_readLiteral_145 : decode cX0_readLiteral 145 = .ok (.iload 8, 2) := by decide +kernel
theorem dX0_readLiteral_147 : decode cX0_readLiteral 147 = .ok (.iconst 1, 1) := by decide +kernel
theorem dX0_readLiteral_148 : decode cX0_readLiteral 148 = .ok (.if_icmp .lt 10, 3) := by decide +kernel
theorem dX0_readLiteral_151 : decode cX0_readLiteral 151 = .ok (.iload 8, 2) := by decide +kernel
theorem dX0_readLiteral_153 : decode cX0_readLiteral 153 = .ok (.bipush 10, 2) := by decide +kernel
theorem dX0_readLiteral_155 : decode cX0_readLiteral 155 = .ok (.if_icmp .le 10, 3) := by decide +kernel
theorem dX0_readLiteral_158 : decode cX0_readLiteral 158 = .ok (.aload_n 0, 1) := by decide +kernel
theorem dX0_readLiteral_159 : decode cX0_readLiteral 159 = .ok (.iload 6, 2) := by decide +kernel
theorem dX0_readLiteral_161 : decode cX0_readLiteral 161 = .ok (.putfield 25, 3) := by decide +kernel
theorem dX0_readLiteral_164 : decode cX0_readLiteral 164 = .ok (.return_, 1) := by decide +kernel
theorem dX0_readLiteral_165 : decode cX0_readLiteral 165 = .ok (.iload 5, 2) := by decide +kernel
theorem dX0_readLiteral_167 : decode cX0_readLiteral 167 = .ok (.ifCond .eq 9, 3) := by decide +kernel
theorem dX0_readLiteral_170 : decode cX0_readLiteral 170 = .ok (.iload 8, 2) := by decide +kernel
theorem dX0_readLiteral_172 : decode cX0_readLiteral 172 = .ok (.ineg, 1) := by decide +kernel
theorem dX0_readLiteral_173 : decode cX0_readLiteral 173 = .ok (.goto 5, 3) := by decide +kernel
theorem dX0_readLiteral_176 : decode cX0_readLiteral 176 = .ok (.iload 8, 2) := by decide +kernel
theorem dX0_readLiteral_178 : decode cX0_readLiteral 178 = .ok (.invokestatic 64, 3) := by decide +kernel
theorem dX0_readLiteral_181 : decode cX0_readLiteral 181 = .ok (.istore 9, 2) := by decide +kernel
theorem dX0_readLiteral_183 : decode cX0_readLiteral 183 = .ok (.aload_n 0, 1) := by decide +kernel
theorem dX0_readLiteral_184 : decode cX0_readLiteral 184 = .ok (.getfield 22, 3) := by decide +kernel
theorem dX0_readLiteral_187 : decode cX0_readLiteral 187 = .ok (.invokestatic 67, 3) := by decide +kernel
theorem dX0_readLiteral_190 : decode cX0_readLiteral 190 = .ok (.iload 9, 2) := by decide +kernel
theorem dX0_readLiteral_192 : decode cX0_readLiteral 192 = .ok (.invokestatic 67, 3) := by decide +kernel
theorem dX0_readLiteral_195 : decode cX0_readLiteral 195 = .ok (.iand, 1) := by decide +kernel
theorem dX0_readLiteral_196 : decode cX0_readLiteral 196 = .ok (.ifCond .eq 12, 3) := by decide +kernel
theorem dX0_readLiteral_199 : decode cX0_readLiteral 199 = .ok (.aload_n 0, 1) := by decide +kernel
theorem dX0_readLiteral_200 : decode cX0_readLiteral 200 = .ok (.aload_n 0, 1) := by decide +kernel
theorem dX0_readLiteral_201 : decode cX0_readLiteral 201 = .ok (.getfield 19, 3) := by decide +kernel
theorem dX0_readLiteral_204 : decode cX0_readLiteral 204 = .ok (.putfield 25, 3) := by decide +kernel
theorem dX0_readLiteral_207 : decode cX0_readLiteral 207 = .ok (.return_, 1) := by decide +kernel
theorem dX0_readLiteral_208 : decode cX0_readLiteral 208 = .ok (.aload_n 0, 1) := by decide +kernel
theorem dX0_readLiteral_209 : decode cX0_readLiteral 209 = .ok (.dup, 1) := by decide +kernel
theorem dX0_readLiteral_210 : decode cX0_readLiteral 210 = .ok (.getfield 22, 3) := by decide +kernel
theorem dX0_readLiteral_213 : decode cX0_readLiteral 213 = .ok (.iload 9, 2) := by decide +kernel
theorem dX0_readLiteral_215 : decode cX0_readLiteral 215 = .ok (.ior, 1) := by decide +kernel
theorem dX0_readLiteral_216 : decode cX0_readLiteral 216 = .ok (.putfield 22, 3) := by decide +kernel
theorem dX0_readLiteral_219 : decode cX0_readLiteral 219 = .ok (.aload_n 0, 1) := by decide +kernel
theorem dX0_readLiteral_220 : decode cX0_readLiteral 220 = .ok (.iload 6, 2) := by decide +kernel
theorem dX0_readLiteral_222 : decode cX0_readLiteral 222 = .ok (.iload 7, 2) := by decide +kernel
theorem dX0_readLiteral_224 : decode cX0_readLiteral 224 = .ok (.iadd, 1) := by decide +kernel
theorem dX0_readLiteral_225 : decode cX0_readLiteral 225 = .ok (.putfield 19, 3) := by decide +kernel
theorem dX0_readLiteral_228 : decode cX0_readLiteral 228 = .ok (.return_, 1) := by decide +kernel
theorem dX0_countDigits_0 : decode cX0_countDigits 0 = .ok (.iconst 0, 1) := by decide +kernel
theorem dX0_countDigits_1 : decode cX0_countDigits 1 = .ok (.istore_n 2, 1) := by decide +kernel
theorem dX0_countDigits_2 : decode cX0_countDigits 2 = .ok (.iload_n 2, 1) := by decide +kernel
theorem dX0_countDigits_3 : decode cX0_countDigits 3 = .ok (.iconst 2, 1) := by decide +kernel
theorem dX0_countDigits_4 : decode cX0_countDigits 4 = .ok (.if_icmp .gt 19, 3) := by decide +kernel
theorem dX0_countDigits_7 : decode cX0_countDigits 7 = .ok (.aload_n 0, 1) := by decide +kernel
theorem dX0_countDigits_8 : decode cX0_countDigits 8 = .ok (.iload_n 1, 1) := by decide +kernel
theorem dX0_countDigits_9 : decode cX0_countDigits 9 = .ok (.iload_n 2, 1) := by decide +kernel
theorem dX0_countDigits_10 : decode cX0_countDigits 10 = .ok (.iadd, 1) := by decide +kernel
theorem dX0_countDigits_11 : decode cX0_countDigits 11 = .ok (.invokevirtual 44, 3) := by decide +kernel
theorem dX0_countDigits_14 : decode cX0_countDigits 14 = .ok (.ifCond .eq 9, 3) := by decide +kernel
theorem dX0_countDigits_17 : decode cX0_countDigits 17 = .ok (.iinc 2 1, 3) := by decide +kernel
theorem dX0_countDigits_20 : decode cX0_countDigits 20 = .ok (.goto (-18), 3) := by decide +kernel
theorem dX0_countDigits_23 : decode cX0_countDigits 23 = .ok (.iload_n 2, 1) := by decide +kernel
theorem dX0_countDigits_24 : decode cX0_countDigits 24 = .ok (.ireturn, 1) := by decide +kernel
theorem dX0_numberAt_0 : decode cX0_numberAt 0 = .ok (.iconst 0, 1) := by decide +kernel
theorem dX0_numberAt_1 : decode cX0_numberAt 1 = .ok (.istore_n 3, 1) := by decide +kernel
theorem dX0_numberAt_2 : decode cX0_numberAt 2 = .ok (.iconst 0, 1) := by decide +kernel
theorem dX0_numberAt_3 : decode cX0_numberAt 3 = .ok (.istore 4, 2) := by decide +kernel
theorem dX0_numberAt_5 : decode cX0_numberAt 5 = .ok (.iload 4, 2) := by decide +kernel
theorem dX0_numberAt_7 : decode cX0_numberAt 7 = .ok (.iload_n 2, 1) := by decide +kernel
theorem dX0_numberAt_8 : decode cX0_numberAt 8 = .ok (.if_icmp .ge 26, 3) := by decide +kernel
theorem dX0_numberAt_11 : decode cX0_numberAt 11 = .ok (.bipush 10, 2) := by decide +kernel
theorem dX0_numberAt_13 : decode cX0_numberAt 13 = .ok (.iload_n 3, 1) := by decide +kernel
theorem dX0_numberAt_14 : decode cX0_numberAt 14 = .ok (.imul, 1) := by decide +kernel
theorem dX0_numberAt_15 : decode cX0_numberAt 15 = .ok (.aload_n 0, 1) := by decide +kernel
theorem dX0_numberAt_16 : decode cX0_numberAt 16 = .ok (.iload_n 1, 1) := by decide +kernel
theorem dX0_numberAt_17 : decode cX0_numberAt 17 = .ok (.iload 4, 2) := by decide +kernel
theorem dX0_numberAt_19 : decode cX0_numberAt 19 = .ok (.iadd, 1) := by decide +kernel
theorem dX0_numberAt_20 : decode cX0_numberAt 20 = .ok (.invokevirtual 37, 3) := by decide +kernel
theorem dX0_numberAt_23 : decode cX0_numberAt 23 = .ok (.iadd, 1) := by decide +kernel
theorem dX0_numberAt_24 : decode cX0_numberAt 24 = .ok (.bipush 48, 2) := by decide +kernel
theorem dX0_numberAt_26 : decode cX0_numberAt 26 = .ok (.isub, 1) := by decide +kernel
theorem dX0_numberAt_27 : decode cX0_numberAt 27 = .ok (.istore_n 3, 1) := by decide +kernel
theorem dX0_numberAt_28 : decode cX0_numberAt 28 = .ok (.iinc 4 1, 3) := by decide +kernel
theorem dX0_numberAt_31 : decode cX0_numberAt 31 = .ok (.goto (-26), 3) := by decide +kernel
theorem dX0_numberAt_34 : decode cX0_numberAt 34 = .ok (.iload_n 3, 1) := by decide +kernel
theorem dX0_numberAt_35 : decode cX0_numberAt 35 = .ok (.ireturn, 1) := by decide +kernel
theorem dX1_init_0 : decode cX1_init 0 = .ok (.aload_n 0, 1) := by decide +kernel
theorem dX1_init_1 : decode cX1_init 1 = .ok (.invokespecial 3, 3) := by decide +kernel
theorem dX1_init_4 : decode cX1_init 4 = .ok (.aload_n 0, 1) := by decide +kernel
theorem dX1_init_5 : decode cX1_init 5 = .ok (.bipush 16, 2) := by decide +kernel
theorem dX1_init_7 : decode cX1_init 7 = .ok (.newarray .long, 2) := by decide +kernel
theorem dX1_init_9 : decode cX1_init 9 = .ok (.putfield 9, 3) := by decide +kernel
theorem dX1_init_12 : decode cX1_init 12 = .ok (.aload_n 0, 1) := by decide +kernel
theorem dX1_init_13 : decode cX1_init 13 = .ok (.bipush 16, 2) := by decide +kernel
theorem dX1_init_15 : decode cX1_init 15 = .ok (.newarray .long, 2) := by decide +kernel
theorem dX1_init_17 : decode cX1_init 17 = .ok (.putfield 15, 3) := by decide +kernel
theorem dX1_init_20 : decode cX1_init 20 = .ok (.aload_n 0, 1) := by decide +kernel
theorem dX1_init_21 : decode cX1_init 21 = .ok (.iconst 3, 1) := by decide +kernel
theorem dX1_init_22 : decode cX1_init 22 = .ok (.newarray .int, 2) := by decide +kernel
theorem dX1_init_24 : decode cX1_init 24 = .ok (.putfield 18, 3) := by decide +kernel
theorem dX1_init_27 : decode cX1_init 27 = .ok (.aload_n 0, 1) := by decide +kernel
theorem dX1_init_28 : decode cX1_init 28 = .ok (.iconst 0, 1) := by decide +kernel
theorem dX1_init_29 : decode cX1_init 29 = .ok (.putfield 22, 3) := by decide +kernel
theorem dX1_init_32 : decode cX1_init 32 = .ok (.aload_n 0, 1) := by decide +kernel
theorem dX1_init_33 : decode cX1_init 33 = .ok (.iconst (-1), 1) := by decide +kernel
theorem dX1_init_34 : decode cX1_init 34 = .ok (.putfield 26, 3) := by decide +kernel
theorem dX1_init_37 : decode cX1_init 37 = .ok (.aload_n 0, 1) := by decide +kernel
theorem dX1_init_38 : decode cX1_init 38 = .ok (.iconst (-1), 1) := by decide +kernel
theorem dX1_init_39 : decode cX1_init 39 = .ok (.putfield 29, 3) := by decide +kernel
theorem dX1_init_42 : decode cX1_init 42 = .ok (.return_, 1) := by decide +kernel
theorem dX1_forget_0 : decode cX1_forget 0 = .ok (.aload_n 0, 1) := by decide +kernel
theorem dX1_forget_1 : decode cX1_forget 1 = .ok (.iconst (-1), 1) := by decide +kernel
theorem dX1_forget_2 : decode cX1_forget 2 = .ok (.putfield 26, 3) := by decide +kernel
theorem dX1_forget_5 : decode cX1_forget 5 = .ok (.return_, 1) := by decide +kernel
theorem dX1_explain_0 : decode cX1_explain 0 = .ok (.aload_n 0, 1) := by decide +kernel
theorem dX1_explain_1 : decode cX1_explain 1 = .ok (.iload_n 1, 1) := by decide +kernel
theorem dX1_explain_2 : decode cX1_explain 2 = .ok (.putfield 26, 3) := by decide +kernel
theorem dX1_explain_5 : decode cX1_explain 5 = .ok (.iconst 0, 1) := by decide +kernel
theorem dX1_explain_6 : decode cX1_explain 6 = .ok (.istore 4, 2) := by decide +kernel
theorem dX1_explain_8 : decode cX1_explain 8 = .ok (.iload 4, 2) := by decide +kernel
theorem dX1_explain_10 : decode cX1_explain 10 = .ok (.bipush 16, 2) := by decide +kernel
theorem dX1_explain_12 : decode cX1_explain 12 = .ok (.if_icmp .ge 56, 3) := by decide +kernel
theorem dX1_explain_15 : decode cX1_explain 15 = .ok (.aload_n 0, 1) := by decide +kernel
theorem dX1_explain_16 : decode cX1_explain 16 = .ok (.getfield 26, 3) := by decide +kernel
theorem dX1_explain_19 : decode cX1_explain 19 = .ok (.iload 4, 2) := by decide +kernel
theorem dX1_explain_21 : decode cX1_explain 21 = .ok (.invokestatic 32, 3) := by decide +kernel
theorem dX1_explain_24 : decode cX1_explain 24 = .ok (.lstore 5, 2) := by decide +kernel
theorem dX1_explain_26 : decode cX1_explain 26 = .ok (.aload_n 0, 1) := by decide +kernel
theorem dX1_explain_27 : decode cX1_explain 27 = .ok (.getfield 9, 3) := by decide +kernel
theorem dX1_explain_30 : decode cX1_explain 30 = .ok (.iload 4, 2) := by decide +kernel
theorem dX1_explain_32 : decode cX1_explain 32 = .ok (.aload_n 2, 1) := by decide +kernel
theorem dX1_explain_33 : decode cX1_explain 33 = .ok (.iload 4, 2) := by decide +kernel
theorem dX1_explain_35 : decode cX1_explain 35 = .ok (.invokevirtual 38, 3) := by decide +kernel
theorem dX1_explain_38 : decode cX1_explain 38 = .ok (.lload 5, 2) := by decide +kernel
theorem dX1_explain_40 : decode cX1_explain 40 = .ok (.land, 1) := by decide +kernel
theorem dX1_explain_41 : decode cX1_explain 41 = .ok (.lastore, 1) := by decide +kernel
theorem dX1_explain_42 : decode cX1_explain 42 = .ok (.aload_n 0, 1) := by decide +kernel
theorem dX1_explain_43 : decode cX1_explain 43 = .ok (.getfield 15, 3) := by decide +kernel
theorem dX1_explain_46 : decode cX1_explain 46 = .ok (.iload 4, 2) := by decide +kernel
theorem dX1_explain_48 : decode cX1_explain 48 = .ok (.aload_n 2, 1) := by decide +kernel
theorem dX1_explain_49 : decode cX1_explain 49 = .ok (.iload 4, 2) := by decide +kernel
theorem dX1_explain_51 : decode cX1_explain 51 = .ok (.invokevirtual 38, 3) := by decide +kernel
theorem dX1_explain_54 : decode cX1_explain 54 = .ok (.lload 5, 2) := by decide +kernel
theorem dX1_explain_56 : decode cX1_explain 56 = .ok (.ldc2_w 42, 3) := by decide +kernel
theorem dX1_explain_59 : decode cX1_explain 59 = .ok (.lxor, 1) := by decide +kernel
theorem dX1_explain_60 : decode cX1_explain 60 = .ok (.land, 1) := by decide +kernel
theorem dX1_explain_61 : decode cX1_explain 61 = .ok (.lastore, 1) := by decide +kernel
theorem dX1_explain_62 : decode cX1_explain 62 = .ok (.iinc 4 1, 3) := by decide +kernel
theorem dX1_explain_65 : decode cX1_explain 65 = .ok (.goto (-57), 3) := by decide +kernel
theorem dX1_explain_68 : decode cX1_explain 68 = .ok (.iload_n 3, 1) := by decide +kernel
theorem dX1_explain_69 : decode cX1_explain 69 = .ok (.iconst 1, 1) := by decide +kernel
theorem dX1_explain_70 : decode cX1_explain 70 = .ok (.aload_n 0, 1) := by decide +kernel
theorem dX1_explain_71 : decode cX1_explain 71 = .ok (.getfield 26, 3) := by decide +kernel
theorem dX1_explain_74 : decode cX1_explain 74 = .ok (.ishl, 1) := by decide +kernel
theorem dX1_explain_75 : decode cX1_explain 75 = .ok (.ior, 1) := by decide +kernel
theorem dX1_explain_76 : decode cX1_explain 76 = .ok (.invokestatic 44, 3) := by decide +kernel
theorem dX1_explain_79 : decode cX1_explain 79 = .ok (.istore 4, 2) := by decide +kernel
theorem dX1_explain_81 : decode cX1_explain 81 = .ok (.aload_n 0, 1) := by decide +kernel
theorem dX1_explain_82 : decode cX1_explain 82 = .ok (.iload 4, 2) := by decide +kernel
theorem dX1_explain_84 : decode cX1_explain 84 = .ok (.iload 4, 2) := by decide +kernel
theorem dX1_explain_86 : decode cX1_explain 86 = .ok (.iconst 1, 1) := by decide +kernel
theorem dX1_explain_87 : decode cX1_explain 87 = .ok (.ishl, 1) := by decide +kernel
theorem dX1_explain_88 : decode cX1_explain 88 = .ok (.ior, 1) := by decide +kernel
theorem dX1_explain_89 : decode cX1_explain 89 = .ok (.iconst (-1), 1) := by decide +kernel
theorem dX1_explain_90 : decode cX1_explain 90 = .ok (.ixor, 1) := by decide +kernel
theorem dX1_explain_91 : decode cX1_explain 91 = .ok (.putfield 22, 3) := by decide +kernel
theorem dX1_explain_94 : decode cX1_explain 94 = .ok (.aload_n 0, 1) := by decide +kernel
theorem dX1_explain_95 : decode cX1_explain 95 = .ok (.iconst (-1), 1) := by decide +kernel
theorem dX1_explain_96 : decode cX1_explain 96 = .ok (.putfield 29, 3) := by decide +kernel
theorem dX1_explain_99 : decode cX1_explain 99 = .ok (.iconst 0, 1) := by decide +kernel
theorem dX1_explain_100 : decode cX1_explain 100 = .ok (.istore 5, 2) := by decide +kernel
theorem dX1_explain_102 : decode cX1_explain 102 = .ok (.iload 5, 2) := by decide +kernel
theorem dX1_explain_104 : decode cX1_explain 104 = .ok (.iconst 3, 1) := by decide +kernel
theorem dX1_explain_105 : decode cX1_explain 105 = .ok (.if_icmp .gt 34, 3) := by decide +kernel
theorem dX1_explain_108 : decode cX1_explain 108 = .ok (.aload_n 0, 1) := by decide +kernel
theorem dX1_explain_109 : decode cX1_explain 109 = .ok (.getfield 29, 3) := by decide +kernel
theorem dX1_explain_112 : decode cX1_explain 112 = .ok (.iconst (-1), 1) := by decide +kernel
theorem dX1_explain_113 : decode cX1_explain 113 = .ok (.if_icmp .ne 26, 3) := by decide +kernel
theorem dX1_explain_116 : decode cX1_explain 116 = .ok (.aload_n 0, 1) := by decide +kernel
theorem dX1_explain_117 : decode cX1_explain 117 = .ok (.iconst 0, 1) := by decide +kernel
theorem dX1_explain_118 : decode cX1_explain 118 = .ok (.iconst 2, 1) := by decide +kernel
theorem dX1_explain_119 : decode cX1_explain 119 = .ok (.iload 5, 2) := by decide +kernel
theorem dX1_explain_121 : decode cX1_explain 121 = .ok (.invokevirtual 48, 3) := by decide +kernel
theorem dX1_explain_124 : decode cX1_explain 124 = .ok (.ifCond .eq 9, 3) := by decide +kernel
theorem dX1_explain_127 : decode cX1_explain 127 = .ok (.aload_n 0, 1) := by decide +kernel
theorem dX1_explain_128 : decode cX1_explain 128 = .ok (.iload 5, 2) := by decide +kernel
theorem dX1_explain_130 : decode cX1_explain 130 = .ok (.putfield 29, 3) := by decide +kernel
theorem dX1_explain_133 : decode cX1_explain 133 = .ok (.iinc 5 1, 3) := by decide +kernel
theorem dX1_explain_136 : decode cX1_explain 136 = .ok (.goto (-34), 3) := by decide +kernel
theorem dX1_explain_139 : decode cX1_explain 139 = .ok (.return_, 1) := by decide +kernel
theorem dX1_complete_0 : decode cX1_complete 0 = .ok (.iload_n 1, 1) := by decide +kernel
theorem dX1_complete_1 : decode cX1_complete 1 = .ok (.iload_n 3, 1) := by decide +kernel
theorem dX1_complete_2 : decode cX1_complete 2 = .ok (.if_icmp .ge 12, 3) := by decide +kernel
theorem dX1_complete_5 : decode cX1_complete 5 = .ok (.iload_n 1, 1) := by decide +kernel
theorem dX1_complete_6 : decode cX1_complete 6 = .ok (.ifCond .lt 8, 3) := by decide +kernel
theorem dX1_complete_9 : decode cX1_complete 9 = .ok (.iload_n 1, 1) := by decide +kernel
theorem dX1_complete_10 : decode cX1_complete 10 = .ok (.iconst 3, 1) := by decide +kernel
theorem dX1_complete_11 : decode cX1_complete 11 = .ok (.if_icmp .lt 9, 3) := by decide +kernel
theorem dX1_complete_14 : decode cX1_complete 14 = .ok (.aload_n 0, 1) := by decide +kernel
theorem dX1_complete_15 : decode cX1_complete 15 = .ok (.iload_n 3, 1) := by decide +kernel
theorem dX1_complete_16 : decode cX1_complete 16 = .ok (.invokevirtual 52, 3) := by decide +kernel
theorem dX1_complete_19 : decode cX1_complete 19 = .ok (.ireturn, 1) := by decide +kernel
theorem dX1_complete_20 : decode cX1_complete 20 = .ok (.iload_n 2, 1) := by decide +kernel
theorem dX1_complete_21 : decode cX1_complete 21 = .ok (.istore 4, 2) := by decide +kernel
theorem dX1_complete_23 : decode cX1_complete 23 = .ok (.iload 4, 2) := by decide +kernel
theorem dX1_complete_25 : decode cX1_complete 25 = .ok (.bipush 21, 2) := by decide +kernel
theorem dX1_complete_27 : decode cX1_complete 27 = .ok (.if_icmp .gt 52, 3) := by decide +kernel
theorem dX1_complete_30 : decode cX1_complete 30 = .ok (.aload_n 0, 1) := by decide +kernel
theorem dX1_complete_31 : decode cX1_complete 31 = .ok (.getfield 22, 3) := by decide +kernel
theorem dX1_complete_34 : decode cX1_complete 34 = .ok (.iload 4, 2) := by decide +kernel
theorem dX1_complete_36 : decode cX1_complete 36 = .ok (.invokestatic 56, 3) := by decide +kernel
theorem dX1_complete_39 : decode cX1_complete 39 = .ok (.ifCond .eq 34, 3) := by decide +kernel
theorem dX1_complete_42 : decode cX1_complete 42 = .ok (.aload_n 0, 1) := by decide +kernel
theorem dX1_complete_43 : decode cX1_complete 43 = .ok (.getfield 18, 3) := by decide +kernel
theorem dX1_complete_46 : decode cX1_complete 46 = .ok (.iload_n 1, 1) := by decide +kernel
theorem dX1_complete_47 : decode cX1_complete 47 = .ok (.iload 4, 2) := by decide +kernel
theorem dX1_complete_49 : decode cX1_complete 49 = .ok (.iastore, 1) := by decide +kernel
theorem dX1_complete_50 : decode cX1_complete 50 = .ok (.iload 4, 2) := by decide +kernel
theorem dX1_complete_52 : decode cX1_complete 52 = .ok (.iconst 1, 1) := by decide +kernel
theorem dX1_complete_53 : decode cX1_complete 53 = .ok (.ior, 1) := by decide +kernel
theorem dX1_complete_54 : decode cX1_complete 54 = .ok (.iconst 1, 1) := by decide +kernel
theorem dX1_complete_55 : decode cX1_complete 55 = .ok (.iadd, 1) := by decide +kernel
theorem dX1_complete_56 : decode cX1_complete 56 = .ok (.istore 5, 2) := by decide +kernel
theorem dX1_complete_58 : decode cX1_complete 58 = .ok (.aload_n 0, 1) := by decide +kernel
theorem dX1_complete_59 : decode cX1_complete 59 = .ok (.iload_n 1, 1) := by decide +kernel
theorem dX1_complete_60 : decode cX1_complete 60 = .ok (.iconst 1, 1) := by decide +kernel
theorem dX1_complete_61 : decode cX1_complete 61 = .ok (.iadd, 1) := by decide +kernel
theorem dX1_complete_62 : decode cX1_complete 62 = .ok (.iload 5, 2) := by decide +kernel
theorem dX1_complete_64 : decode cX1_complete 64 = .ok (.iload_n 3, 1) := by decide +kernel
theorem dX1_complete_65 : decode cX1_complete 65 = .ok (.invokevirtual 48, 3) := by decide +kernel
theorem dX1_complete_68 : decode cX1_complete 68 = .ok (.ifCond .eq 5, 3) := by decide +kernel
theorem dX1_complete_71 : decode cX1_complete 71 = .ok (.iconst 1, 1) := by decide +kernel
theorem dX1_complete_72 : decode cX1_complete 72 = .ok (.ireturn, 1) := by decide +kernel
theorem dX1_complete_73 : decode cX1_complete 73 = .ok (.iinc 4 1, 3) := by decide +kernel
theorem dX1_complete_76 : decode cX1_complete 76 = .ok (.goto (-53), 3) := by decide +kernel
theorem dX1_complete_79 : decode cX1_complete 79 = .ok (.iconst 0, 1) := by decide +kernel
theorem dX1_complete_80 : decode cX1_complete 80 = .ok (.ireturn, 1) := by decide +kernel
theorem dX1_explains_0 : decode cX1_explains 0 = .ok (.iconst 0, 1) := by decide +kernel
theorem dX1_explains_1 : decode cX1_explains 1 = .ok (.istore_n 2, 1) := by decide +kernel
theorem dX1_explains_2 : decode cX1_explains 2 = .ok (.iconst 0, 1) := by decide +kernel
theorem dX1_explains_3 : decode cX1_explains 3 = .ok (.istore_n 3, 1) := by decide +kernel
theorem dX1_explains_4 : decode cX1_explains 4 = .ok (.iload_n 3, 1) := by decide +kernel
theorem dX1_explains_5 : decode cX1_explains 5 = .ok (.bipush 16, 2) := by decide +kernel
theorem dX1_explains_7 : decode cX1_explains 7 = .ok (.if_icmp .ge 91, 3) := by decide +kernel
theorem dX1_explains_10 : decode cX1_explains 10 = .ok (.ldc2_w 42, 3) := by decide +kernel
theorem dX1_explains_13 : decode cX1_explains 13 = .ok (.lstore 4, 2) := by decide +kernel
theorem dX1_explains_15 : decode cX1_explains 15 = .ok (.iconst 0, 1) := by decide +kernel
theorem dX1_explains_16 : decode cX1_explains 16 = .ok (.istore 6, 2) := by decide +kernel
theorem dX1_explains_18 : decode cX1_explains 18 = .ok (.iload 6, 2) := by decide +kernel
theorem dX1_explains_20 : decode cX1_explains 20 = .ok (.iload_n 1, 1) := by decide +kernel
theorem dX1_explains_21 : decode cX1_explains 21 = .ok (.if_icmp .ge 31, 3) := by decide +kernel
theorem dX1_explains_24 : decode cX1_explains 24 = .ok (.iload 6, 2) := by decide +kernel
theorem dX1_explains_26 : decode cX1_explains 26 = .ok (.iconst 3, 1) := by decide +kernel
theorem dX1_explains_27 : decode cX1_explains 27 = .ok (.if_icmp .ge 25, 3) := by decide +kernel
theorem dX1_explains_30 : decode cX1_explains 30 = .ok (.lload 4, 2) := by decide +kernel
theorem dX1_explains_32 : decode cX1_explains 32 = .ok (.aload_n 0, 1) := by decide +kernel
theorem dX1_explains_33 : decode cX1_explains 33 = .ok (.getfield 18, 3) := by decide +kernel
theorem dX1_explains_36 : decode cX1_explains 36 = .ok (.iload 6, 2) := by decide +kernel
theorem dX1_explains_38 : decode cX1_explains 38 = .ok (.iaload, 1) := by decide +kernel
theorem dX1_explains_39 : decode cX1_explains 39 = .ok (.iload_n 3, 1) := by decide +kernel
theorem dX1_explains_40 : decode cX1_explains 40 = .ok (.invokestatic 32, 3) := by decide +kernel
theorem dX1_explains_43 : decode cX1_explains 43 = .ok (.land, 1) := by decide +kernel
theorem dX1_explains_44 : decode cX1_explains 44 = .ok (.lstore 4, 2) := by decide +kernel
theorem dX1_explains_46 : decode cX1_explains 46 = .ok (.iinc 6 1, 3) := by decide +kernel
theorem dX1_explains_49 : decode cX1_explains 49 = .ok (.goto (-31), 3) := by decide +kernel
theorem dX1_explains_52 : decode cX1_explains 52 = .ok (.aload_n 0, 1) := by decide +kernel
theorem dX1_explains_53 : decode cX1_explains 53 = .ok (.getfield 15, 3) := by decide +kernel
theorem dX1_explains_56 : decode cX1_explains 56 = .ok (.iload_n 3, 1) := by decide +kernel
theorem dX1_explains_57 : decode cX1_explains 57 = .ok (.laload, 1) := by decide +kernel
theorem dX1_explains_58 : decode cX1_explains 58 = .ok (.lload 4, 2) := by decide +kernel
theorem dX1_explains_60 : decode cX1_explains 60 = .ok (.land, 1) := by decide +kernel
theorem dX1_explains_61 : decode cX1_explains 61 = .ok (.lconst 0, 1) := by decide +kernel
theorem dX1_explains_62 : decode cX1_explains 62 = .ok (.lcmp, 1) := by decide +kernel
theorem dX1_explains_63 : decode cX1_explains 63 = .ok (.ifCond .eq 5, 3) := by decide +kernel
theorem dX1_explains_66 : decode cX1_explains 66 = .ok (.iconst 0, 1) := by decide +kernel
theorem dX1_explains_67 : decode cX1_explains 67 = .ok (.ireturn, 1) := by decide +kernel
theorem dX1_explains_68 : decode cX1_explains 68 = .ok (.iload_n 2, 1) := by decide +kernel
theorem dX1_explains_69 : decode cX1_explains 69 = .ok (.ifCond .ne 17, 3) := by decide +kernel
theorem dX1_explains_72 : decode cX1_explains 72 = .ok (.aload_n 0, 1) := by decide +kernel
theorem dX1_explains_73 : decode cX1_explains 73 = .ok (.getfield 9, 3) := by decide +kernel
theorem dX1_explains_76 : decode cX1_explains 76 = .ok (.iload_n 3, 1) := by decide +kernel
theorem dX1_explains_77 : decode cX1_explains 77 = .ok (.laload, 1) := by decide +kernel
theorem dX1_explains_78 : decode cX1_explains 78 = .ok (.lload 4, 2) := by decide +kernel
theorem dX1_explains_80 : decode cX1_explains 80 = .ok (.land, 1) := by decide +kernel
theorem dX1_explains_81 : decode cX1_explains 81 = .ok (.lconst 0, 1) := by decide +kernel
theorem dX1_explains_82 : decode cX1_explains 82 = .ok (.lcmp, 1) := by decide +kernel
theorem dX1_explains_83 : decode cX1_explains 83 = .ok (.ifCond .eq 7, 3) := by decide +kernel
theorem dX1_explains_86 : decode cX1_explains 86 = .ok (.iconst 1, 1) := by decide +kernel
theorem dX1_explains_87 : decode cX1_explains 87 = .ok (.goto 4, 3) := by decide +kernel
theorem dX1_explains_90 : decode cX1_explains 90 = .ok (.iconst 0, 1) := by decide +kernel
theorem dX1_explains_91 : decode cX1_explains 91 = .ok (.istore_n 2, 1) := by decide +kernel
theorem dX1_explains_92 : decode cX1_explains 92 = .ok (.iinc 3 1, 3) := by decide +kernel
theorem dX1_explains_95 : decode cX1_explains 95 = .ok (.goto (-91), 3) := by decide +kernel
theorem dX1_explains_98 : decode cX1_explains 98 = .ok (.iload_n 2, 1) := by decide +kernel
theorem dX1_explains_99 : decode cX1_explains 99 = .ok (.ireturn, 1) := by decide +kernel
theorem dX1_literalAt_0 : decode cX1_literalAt 0 = .ok (.iload_n 1, 1) := by decide +kernel
theorem dX1_literalAt_1 : decode cX1_literalAt 1 = .ok (.ifCond .lt 20, 3) := by decide +kernel
theorem dX1_literalAt_4 : decode cX1_literalAt 4 = .ok (.iload_n 1, 1) := by decide +kernel
theorem dX1_literalAt_5 : decode cX1_literalAt 5 = .ok (.aload_n 0, 1) := by decide +kernel
theorem dX1_literalAt_6 : decode cX1_literalAt 6 = .ok (.getfield 29, 3) := by decide +kernel
theorem dX1_literalAt_9 : decode cX1_literalAt 9 = .ok (.if_icmp .ge 12, 3) := by decide +kernel
theorem dX1_literalAt_12 : decode cX1_literalAt 12 = .ok (.iload_n 1, 1) := by decide +kernel
theorem dX1_literalAt_13 : decode cX1_literalAt 13 = .ok (.iconst 3, 1) := by decide +kernel
theorem dX1_literalAt_14 : decode cX1_literalAt 14 = .ok (.if_icmp .ge 7, 3) := by decide +kernel
theorem dX1_literalAt_17 : decode cX1_literalAt 17 = .ok (.iconst 1, 1) := by decide +kernel
theorem dX1_literalAt_18 : decode cX1_literalAt 18 = .ok (.goto 4, 3) := by decide +kernel
theorem dX1_literalAt_21 : decode cX1_literalAt 21 = .ok (.iconst 0, 1) := by decide +kernel
theorem dX1_literalAt_22 : decode cX1_literalAt 22 = .ok (.istore_n 2, 1) := by decide +kernel
theorem dX1_literalAt_23 : decode cX1_literalAt 23 = .ok (.iload_n 2, 1) := by decide +kernel
theorem dX1_literalAt_24 : decode cX1_literalAt 24 = .ok (.ifCond .eq 15, 3) := by decide +kernel
theorem dX1_literalAt_27 : decode cX1_literalAt 27 = .ok (.aload_n 0, 1) := by decide +kernel
theorem dX1_literalAt_28 : decode cX1_literalAt 28 = .ok (.getfield 18, 3) := by decide +kernel
theorem dX1_literalAt_31 : decode cX1_literalAt 31 = .ok (.iload_n 1, 1) := by decide +kernel
theorem dX1_literalAt_32 : decode cX1_literalAt 32 = .ok (.iaload, 1) := by decide +kernel
theorem dX1_literalAt_33 : decode cX1_literalAt 33 = .ok (.invokestatic 60, 3) := by decide +kernel
theorem dX1_literalAt_36 : decode cX1_literalAt 36 = .ok (.goto 4, 3) := by decide +kernel
theorem dX1_literalAt_39 : decode cX1_literalAt 39 = .ok (.iconst 0, 1) := by decide +kernel
theorem dX1_literalAt_40 : decode cX1_literalAt 40 = .ok (.ireturn, 1) := by decide +kernel
theorem dX2_init_0 : decode cX2_init 0 = .ok (.aload_n 0, 1) := by decide +kernel
theorem dX2_init_1 : decode cX2_init 1 = .ok (.invokespecial 3, 3) := by decide +kernel
theorem dX2_init_4 : decode cX2_init 4 = .ok (.aload_n 0, 1) := by decide +kernel
theorem dX2_init_5 : decode cX2_init 5 = .ok (.sipush 150, 3) := by decide +kernel
theorem dX2_init_8 : decode cX2_init 8 = .ok (.newarray .int, 2) := by decide +kernel
theorem dX2_init_10 : decode cX2_init 10 = .ok (.putfield 9, 3) := by decide +kernel
theorem dX2_init_13 : decode cX2_init 13 = .ok (.aload_n 0, 1) := by decide +kernel
theorem dX2_init_14 : decode cX2_init 14 = .ok (.iconst 0, 1) := by decide +kernel
theorem dX2_init_15 : decode cX2_init 15 = .ok (.putfield 15, 3) := by decide +kernel
theorem dX2_init_18 : decode cX2_init 18 = .ok (.return_, 1) := by decide +kernel
theorem dX2_addByte_0 : decode cX2_addByte 0 = .ok (.aload_n 0, 1) := by decide +kernel
theorem dX2_addByte_1 : decode cX2_addByte 1 = .ok (.getfield 15, 3) := by decide +kernel
theorem dX2_addByte_4 : decode cX2_addByte 4 = .ok (.sipush 150, 3) := by decide +kernel
theorem dX2_addByte_7 : decode cX2_addByte 7 = .ok (.if_icmp .ge 23, 3) := by decide +kernel
theorem dX2_addByte_10 : decode cX2_addByte 10 = .ok (.aload_n 0, 1) := by decide +kernel
theorem dX2_addByte_11 : decode cX2_addByte 11 = .ok (.getfield 9, 3) := by decide +kernel
theorem dX2_addByte_14 : decode cX2_addByte 14 = .ok (.aload_n 0, 1) := by decide +kernel
theorem dX2_addByte_15 : decode cX2_addByte 15 = .ok (.getfield 15, 3) := by decide +kernel
theorem dX2_addByte_18 : decode cX2_addByte 18 = .ok (.iload_n 1, 1) := by decide +kernel
theorem dX2_addByte_19 : decode cX2_addByte 19 = .ok (.iastore, 1) := by decide +kernel
theorem dX2_addByte_20 : decode cX2_addByte 20 = .ok (.aload_n 0, 1) := by decide +kernel
theorem dX2_addByte_21 : decode cX2_addByte 21 = .ok (.dup, 1) := by decide +kernel
theorem dX2_addByte_22 : decode cX2_addByte 22 = .ok (.getfield 15, 3) := by decide +kernel
theorem dX2_addByte_25 : decode cX2_addByte 25 = .ok (.iconst 1, 1) := by decide +kernel
theorem dX2_addByte_26 : decode cX2_addByte 26 = .ok (.iadd, 1) := by decide +kernel
theorem dX2_addByte_27 : decode cX2_addByte 27 = .ok (.putfield 15, 3) := by decide +kernel
theorem dX2_addByte_30 : decode cX2_addByte 30 = .ok (.return_, 1) := by decide +kernel
theorem dX2_byteAt_0 : decode cX2_byteAt 0 = .ok (.iload_n 1, 1) := by decide +kernel
theorem dX2_byteAt_1 : decode cX2_byteAt 1 = .ok (.ifCond .lt 20, 3) := by decide +kernel
theorem dX2_byteAt_4 : decode cX2_byteAt 4 = .ok (.iload_n 1, 1) := by decide +kernel
theorem dX2_byteAt_5 : decode cX2_byteAt 5 = .ok (.aload_n 0, 1) := by decide +kernel
theorem dX2_byteAt_6 : decode cX2_byteAt 6 = .ok (.getfield 15, 3) := by decide +kernel
theorem dX2_byteAt_9 : decode cX2_byteAt 9 = .ok (.if_icmp .ge 12, 3) := by decide +kernel
theorem dX2_byteAt_12 : decode cX2_byteAt 12 = .ok (.aload_n 0, 1) := by decide +kernel
theorem dX2_byteAt_13 : decode cX2_byteAt 13 = .ok (.getfield 9, 3) := by decide +kernel
theorem dX2_byteAt_16 : decode cX2_byteAt 16 = .ok (.iload_n 1, 1) := by decide +kernel
theorem dX2_byteAt_17 : decode cX2_byteAt 17 = .ok (.iaload, 1) := by decide +kernel
theorem dX2_byteAt_18 : decode cX2_byteAt 18 = .ok (.goto 4, 3) := by decide +kernel
theorem dX2_byteAt_21 : decode cX2_byteAt 21 = .ok (.iconst (-1), 1) := by decide +kernel
theorem dX2_byteAt_22 : decode cX2_byteAt 22 = .ok (.ireturn, 1) := by decide +kernel
theorem dX2_hasDigitAt_0 : decode cX2_hasDigitAt 0 = .ok (.aload_n 0, 1) := by decide +kernel
theorem dX2_hasDigitAt_1 : decode cX2_hasDigitAt 1 = .ok (.iload_n 1, 1) := by decide +kernel
theorem dX2_hasDigitAt_2 : decode cX2_hasDigitAt 2 = .ok (.invokevirtual 19, 3) := by decide +kernel
theorem dX2_hasDigitAt_5 : decode cX2_hasDigitAt 5 = .ok (.istore_n 2, 1) := by decide +kernel
theorem dX2_hasDigitAt_6 : decode cX2_hasDigitAt 6 = .ok (.iload_n 2, 1) := by decide +kernel
theorem dX2_hasDigitAt_7 : decode cX2_hasDigitAt 7 = .ok (.bipush 48, 2) := by decide +kernel
theorem dX2_hasDigitAt_9 : decode cX2_hasDigitAt 9 = .ok (.if_icmp .lt 13, 3) := by decide +kernel
theorem dX2_hasDigitAt_12 : decode cX2_hasDigitAt 12 = .ok (.iload_n 2, 1) := by decide +kernel
theorem dX2_hasDigitAt_13 : decode cX2_hasDigitAt 13 = .ok (.bipush 57, 2) := by decide +kernel
theorem dX2_hasDigitAt_15 : decode cX2_hasDigitAt 15 = .ok (.if_icmp .gt 7, 3) := by decide +kernel
theorem dX2_hasDigitAt_18 : decode cX2_hasDigitAt 18 = .ok (.iconst 1, 1) := by decide +kernel
theorem dX2_hasDigitAt_19 : decode cX2_hasDigitAt 19 = .ok (.goto 4, 3) := by decide +kernel
theorem dX2_hasDigitAt_22 : decode cX2_hasDigitAt 22 = .ok (.iconst 0, 1) := by decide +kernel
theorem dX2_hasDigitAt_23 : decode cX2_hasDigitAt 23 = .ok (.ireturn, 1) := by decide +kernel
theorem dX3_init_0 : decode cX3_init 0 = .ok (.aload_n 0, 1) := by decide +kernel
theorem dX3_init_1 : decode cX3_init 1 = .ok (.invokespecial 3, 3) := by decide +kernel
theorem dX3_init_4 : decode cX3_init 4 = .ok (.aload_n 0, 1) := by decide +kernel
theorem dX3_init_5 : decode cX3_init 5 = .ok (.sipush 176, 3) := by decide +kernel
theorem dX3_init_8 : decode cX3_init 8 = .ok (.newarray .int, 2) := by decide +kernel
theorem dX3_init_10 : decode cX3_init 10 = .ok (.putfield 11, 3) := by decide +kernel
theorem dX3_init_13 : decode cX3_init 13 = .ok (.aload_n 0, 1) := by decide +kernel
theorem dX3_init_14 : decode cX3_init 14 = .ok (.bipush 64, 2) := by decide +kernel
theorem dX3_init_16 : decode cX3_init 16 = .ok (.newarray .int, 2) := by decide +kernel
theorem dX3_init_18 : decode cX3_init 18 = .ok (.putfield 15, 3) := by decide +kernel
theorem dX3_init_21 : decode cX3_init 21 = .ok (.aload_n 0, 1) := by decide +kernel
theorem dX3_init_22 : decode cX3_init 22 = .ok (.sipush 1024, 3) := by decide +kernel
theorem dX3_init_25 : decode cX3_init 25 = .ok (.newarray .int, 2) := by decide +kernel
theorem dX3_init_27 : decode cX3_init 27 = .ok (.putfield 18, 3) := by decide +kernel
theorem dX3_init_30 : decode cX3_init 30 = .ok (.aload_n 0, 1) := by decide +kernel
theorem dX3_init_31 : decode cX3_init 31 = .ok (.bipush 64, 2) := by decide +kernel
theorem dX3_init_33 : decode cX3_init 33 = .ok (.newarray .int, 2) := by decide +kernel
theorem dX3_init_35 : decode cX3_init 35 = .ok (.putfield 21, 3) := by decide +kernel
theorem dX3_init_38 : decode cX3_init 38 = .ok (.aload_n 0, 1) := by decide +kernel
theorem dX3_init_39 : decode cX3_init 39 = .ok (.bipush 64, 2) := by decide +kernel
theorem dX3_init_41 : decode cX3_init 41 = .ok (.newarray .int, 2) := by decide +kernel
theorem dX3_init_43 : decode cX3_init 43 = .ok (.putfield 24, 3) := by decide +kernel
theorem dX3_init_46 : decode cX3_init 46 = .ok (.aload_n 0, 1) := by decide +kernel
theorem dX3_init_47 : decode cX3_init 47 = .ok (.bipush 64, 2) := by decide +kernel
theorem dX3_init_49 : decode cX3_init 49 = .ok (.newarray .int, 2) := by decide +kernel
theorem dX3_init_51 : decode cX3_init 51 = .ok (.putfield 27, 3) := by decide +kernel
theorem dX3_init_54 : decode cX3_init 54 = .ok (.return_, 1) := by decide +kernel
theorem dX3_compile_0 : decode cX3_compile 0 = .ok (.aload_n 0, 1) := by decide +kernel
theorem dX3_compile_1 : decode cX3_compile 1 = .ok (.getfield 15, 3) := by decide +kernel
theorem dX3_compile_4 : decode cX3_compile 4 = .ok (.iconst (-1), 1) := by decide +kernel
theorem dX3_compile_5 : decode cX3_compile 5 = .ok (.invokestatic 30, 3) := by decide +kernel
theorem dX3_compile_8 : decode cX3_compile 8 = .ok (.aload_n 0, 1) := by decide +kernel
theorem dX3_compile_9 : decode cX3_compile 9 = .ok (.iconst 0, 1) := by decide +kernel
theorem dX3_compile_10 : decode cX3_compile 10 = .ok (.putfield 36, 3) := by decide +kernel
theorem dX3_compile_13 : decode cX3_compile 13 = .ok (.aload_n 0, 1) := by decide +kernel
theorem dX3_compile_14 : decode cX3_compile 14 = .ok (.iconst 0, 1) := by decide +kernel
theorem dX3_compile_15 : decode cX3_compile 15 = .ok (.putfield 40, 3) := by decide +kernel
theorem dX3_compile_18 : decode cX3_compile 18 = .ok (.aload_n 0, 1) := by decide +kernel
theorem dX3_compile_19 : decode cX3_compile 19 = .ok (.iconst 0, 1) := by decide +kernel
theorem dX3_compile_20 : decode cX3_compile 20 = .ok (.putfield 43, 3) := by decide +kernel
theorem dX3_compile_23 : decode cX3_compile 23 = .ok (.aload_n 0, 1) := by decide +kernel
theorem dX3_compile_24 : decode cX3_compile 24 = .ok (.iconst 0, 1) := by decide +kernel
theorem dX3_compile_25 : decode cX3_compile 25 = .ok (.putfield 46, 3) := by decide +kernel
theorem dX3_compile_28 : decode cX3_compile 28 = .ok (.aload_n 0, 1) := by decide +kernel
theorem dX3_compile_29 : decode cX3_compile 29 = .ok (.iconst 0, 1) := by decide +kernel
theorem dX3_compile_30 : decode cX3_compile 30 = .ok (.putfield 50, 3) := by decide +kernel
theorem dX3_compile_33 : decode cX3_compile 33 = .ok (.aload_n 0, 1) := by decide +kernel
theorem dX3_compile_34 : decode cX3_compile 34 = .ok (.iconst 0, 1) := by decide +kernel
theorem dX3_compile_35 : decode cX3_compile 35 = .ok (.putfield 53, 3) := by decide +kernel
theorem dX3_compile_38 : decode cX3_compile 38 = .ok (.iconst 0, 1) := by decide +kernel
theorem dX3_compile_39 : decode cX3_compile 39 = .ok (.istore_n 2, 1) := by decide +kernel
theorem dX3_compile_40 : decode cX3_compile 40 = .ok (.iload_n 2, 1) := by decide +kernel
theorem dX3_compile_41 : decode cX3_compile 41 = .ok (.aload_n 1, 1) := by decide +kernel
theorem dX3_compile_42 : decode cX3_compile 42 = .ok (.getfield 56, 3) := by decide +kernel
theorem dX3_compile_45 : decode cX3_compile 45 = .ok (.if_icmp .ge 31, 3) := by decide +kernel
theorem dX3_compile_48 : decode cX3_compile 48 = .ok (.aload_n 0, 1) := by decide +kernel
theorem dX3_compile_49 : decode cX3_compile 49 = .ok (.aload_n 0, 1) := by decide +kernel
theorem dX3_compile_50 : decode cX3_compile 50 = .ok (.iconst 0, 1) := by decide +kernel
theorem dX3_compile_51 : decode cX3_compile 51 = .ok (.aload_n 0, 1) := by decide +kernel
theorem dX3_compile_52 : decode cX3_compile 52 = .ok (.getfield 53, 3) := by decide +kernel
theorem dX3_compile_55 : decode cX3_compile 55 = .ok (.aload_n 1, 1) := by decide +kernel
theorem dX3_compile_56 : decode cX3_compile 56 = .ok (.iload_n 2, 1) := by decide +kernel
theorem dX3_compile_57 : decode cX3_compile 57 = .ok (.invokevirtual 61, 3) := by decide +kernel
theorem dX3_compile_60 : decode cX3_compile 60 = .ok (.aload_n 1, 1) := by decide +kernel
theorem dX3_compile_61 : decode cX3_compile 61 = .ok (.getfield 65, 3) := by decide +kernel
theorem dX3_compile_64 : decode cX3_compile 64 = .ok (.invokevirtual 68, 3) := by decide +kernel
theorem dX3_compile_67 : decode cX3_compile 67 = .ok (.putfield 53, 3) := by decide +kernel
theorem dX3_compile_70 : decode cX3_compile 70 = .ok (.iinc 2 1, 3) := by decide +kernel
theorem dX3_compile_73 : decode cX3_compile 73 = .ok (.goto (-33), 3) := by decide +kernel
theorem dX3_compile_76 : decode cX3_compile 76 = .ok (.aload_n 0, 1) := by decide +kernel
theorem dX3_compile_77 : decode cX3_compile 77 = .ok (.aload_n 0, 1) := by decide +kernel
theorem dX3_compile_78 : decode cX3_compile 78 = .ok (.iconst 0, 1) := by decide +kernel
theorem dX3_compile_79 : decode cX3_compile 79 = .ok (.aload_n 0, 1) := by decide +kernel
theorem dX3_compile_80 : decode cX3_compile 80 = .ok (.getfield 53, 3) := by decide +kernel
theorem dX3_compile_83 : decode cX3_compile 83 = .ok (.invokevirtual 72, 3) := by decide +kernel
theorem dX3_compile_86 : decode cX3_compile 86 = .ok (.putfield 76, 3) := by decide +kernel
theorem dX3_compile_89 : decode cX3_compile 89 = .ok (.return_, 1) := by decide +kernel
theorem dX3_nodeTotal_0 : decode cX3_nodeTotal 0 = .ok (.aload_n 0, 1) := by decide +kernel
theorem dX3_nodeTotal_1 : decode cX3_nodeTotal 1 = .ok (.getfield 40, 3) := by decide +kernel
theorem dX3_nodeTotal_4 : decode cX3_nodeTotal 4 = .ok (.aload_n 0, 1) := by decide +kernel
theorem dX3_nodeTotal_5 : decode cX3_nodeTotal 5 = .ok (.getfield 43, 3) := by decide +kernel
theorem dX3_nodeTotal_8 : decode cX3_nodeTotal 8 = .ok (.iadd, 1) := by decide +kernel
theorem dX3_nodeTotal_9 : decode cX3_nodeTotal 9 = .ok (.aload_n 0, 1) := by decide +kernel
theorem dX3_nodeTotal_10 : decode cX3_nodeTotal 10 = .ok (.getfield 46, 3) := by decide +kernel
theorem dX3_nodeTotal_13 : decode cX3_nodeTotal 13 = .ok (.ifCond .eq 7, 3) := by decide +kernel
theorem dX3_nodeTotal_16 : decode cX3_nodeTotal 16 = .ok (.iconst 1, 1) := by decide +kernel
theorem dX3_nodeTotal_17 : decode cX3_nodeTotal 17 = .ok (.goto 4, 3) := by decide +kernel
theorem dX3_nodeTotal_20 : decode cX3_nodeTotal 20 = .ok (.iconst 0, 1) := by decide +kernel
theorem dX3_nodeTotal_21 : decode cX3_nodeTotal 21 = .ok (.iadd, 1) := by decide +kernel
theorem dX3_nodeTotal_22 : decode cX3_nodeTotal 22 = .ok (.aload_n 0, 1) := by decide +kernel
theorem dX3_nodeTotal_23 : decode cX3_nodeTotal 23 = .ok (.getfield 50, 3) := by decide +kernel
theorem dX3_nodeTotal_26 : decode cX3_nodeTotal 26 = .ok (.ifCond .eq 7, 3) := by decide +kernel
theorem dX3_nodeTotal_29 : decode cX3_nodeTotal 29 = .ok (.iconst 1, 1) := by decide +kernel
theorem dX3_nodeTotal_30 : decode cX3_nodeTotal 30 = .ok (.goto 4, 3) := by decide +kernel
theorem dX3_nodeTotal_33 : decode cX3_nodeTotal 33 = .ok (.iconst 0, 1) := by decide +kernel
theorem dX3_nodeTotal_34 : decode cX3_nodeTotal 34 = .ok (.iadd, 1) := by decide +kernel
theorem dX3_nodeTotal_35 : decode cX3_nodeTotal 35 = .ok (.ireturn, 1) := by decide +kernel
theorem dX3_variableAtRoot_0 : decode cX3_variableAtRoot 0 = .ok (.aload_n 0, 1) := by decide +kernel
theorem dX3_variableAtRoot_1 : decode cX3_variableAtRoot 1 = .ok (.getfield 53, 3) := by decide +kernel
theorem dX3_variableAtRoot_4 : decode cX3_variableAtRoot 4 = .ok (.ifCond .ne 5, 3) := by decide +kernel
theorem dX3_variableAtRoot_7 : decode cX3_variableAtRoot 7 = .ok (.iconst (-1), 1) := by decide +kernel
theorem dX3_variableAtRoot_8 : decode cX3_variableAtRoot 8 = .ok (.ireturn, 1) := by decide +kernel
theorem dX3_variableAtRoot_9 : decode cX3_variableAtRoot 9 = .ok (.aload_n 0, 1) := by decide +kernel
theorem dX3_variableAtRoot_10 : decode cX3_variableAtRoot 10 = .ok (.getfield 11, 3) := by decide +kernel
theorem dX3_variableAtRoot_13 : decode cX3_variableAtRoot 13 = .ok (.iconst 0, 1) := by decide +kernel
theorem dX3_variableAtRoot_14 : decode cX3_variableAtRoot 14 = .ok (.iaload, 1) := by decide +kernel
end
section
theorem dX3_variableAtRoot_15 : decode cX3_variableAtRoot 15 = .ok (.ifCond .ne 6, 3) := by decide +kernel
theorem dX3_variableAtRoot_18 : decode cX3_variableAtRoot 18 = .ok (.bipush (-2), 2) := by decide +kernel
theorem dX3_variableAtRoot_20 : decode cX3_variableAtRoot 20 = .ok (.ireturn, 1) := by decide +kernel
theorem dX3_variableAtRoot_21 : decode cX3_variableAtRoot 21 = .ok (.aload_n 0, 1) := by decide +kernel
theorem dX3_variableAtRoot_22 : decode cX3_variableAtRoot 22 = .ok (.invokevirtual 79, 3) := by decide +kernel
theorem dX3_variableAtRoot_25 : decode cX3_variableAtRoot 25 = .ok (.iconst 1, 1) := by decide +kernel
theorem dX3_variableAtRoot_26 : decode cX3_variableAtRoot 26 = .ok (.if_icmp .ne 15, 3) := by decide +kernel
theorem dX3_variableAtRoot_29 : decode cX3_variableAtRoot 29 = .ok (.aload_n 0, 1) := by decide +kernel
theorem dX3_variableAtRoot_30 : decode cX3_variableAtRoot 30 = .ok (.iconst 0, 1) := by decide +kernel
theorem dX3_variableAtRoot_31 : decode cX3_variableAtRoot 31 = .ok (.aload_n 0, 1) := by decide +kernel
theorem dX3_variableAtRoot_32 : decode cX3_variableAtRoot 32 = .ok (.getfield 53, 3) := by decide +kernel
theorem dX3_variableAtRoot_35 : decode cX3_variableAtRoot 35 = .ok (.invokevirtual 83, 3) := by decide +kernel
theorem dX3_variableAtRoot_38 : decode cX3_variableAtRoot 38 = .ok (.goto 4, 3) := by decide +kernel
theorem dX3_variableAtRoot_41 : decode cX3_variableAtRoot 41 = .ok (.iconst 0, 1) := by decide +kernel
theorem dX3_variableAtRoot_42 : decode cX3_variableAtRoot 42 = .ok (.ireturn, 1) := by decide +kernel
theorem dX3_partsAtRoot_0 : decode cX3_partsAtRoot 0 = .ok (.aload_n 0, 1) := by decide +kernel
theorem dX3_partsAtRoot_1 : decode cX3_partsAtRoot 1 = .ok (.getfield 53, 3) := by decide +kernel
theorem dX3_partsAtRoot_4 : decode cX3_partsAtRoot 4 = .ok (.ifCond .eq 12, 3) := by decide +kernel
theorem dX3_partsAtRoot_7 : decode cX3_partsAtRoot 7 = .ok (.aload_n 0, 1) := by decide +kernel
theorem dX3_partsAtRoot_8 : decode cX3_partsAtRoot 8 = .ok (.getfield 11, 3) := by decide +kernel
theorem dX3_partsAtRoot_11 : decode cX3_partsAtRoot 11 = .ok (.iconst 0, 1) := by decide +kernel
theorem dX3_partsAtRoot_12 : decode cX3_partsAtRoot 12 = .ok (.iaload, 1) := by decide +kernel
theorem dX3_partsAtRoot_13 : decode cX3_partsAtRoot 13 = .ok (.ifCond .ne 5, 3) := by decide +kernel
theorem dX3_partsAtRoot_16 : decode cX3_partsAtRoot 16 = .ok (.iconst 0, 1) := by decide +kernel
theorem dX3_partsAtRoot_17 : decode cX3_partsAtRoot 17 = .ok (.ireturn, 1) := by decide +kernel
theorem dX3_partsAtRoot_18 : decode cX3_partsAtRoot 18 = .ok (.iconst 0, 1) := by decide +kernel
theorem dX3_partsAtRoot_19 : decode cX3_partsAtRoot 19 = .ok (.istore_n 1, 1) := by decide +kernel
theorem dX3_partsAtRoot_20 : decode cX3_partsAtRoot 20 = .ok (.iconst 0, 1) := by decide +kernel
theorem dX3_partsAtRoot_21 : decode cX3_partsAtRoot 21 = .ok (.istore_n 2, 1) := by decide +kernel
theorem dX3_partsAtRoot_22 : decode cX3_partsAtRoot 22 = .ok (.iconst 0, 1) := by decide +kernel
theorem dX3_partsAtRoot_23 : decode cX3_partsAtRoot 23 = .ok (.istore_n 3, 1) := by decide +kernel
theorem dX3_partsAtRoot_24 : decode cX3_partsAtRoot 24 = .ok (.iload_n 3, 1) := by decide +kernel
theorem dX3_partsAtRoot_25 : decode cX3_partsAtRoot 25 = .ok (.aload_n 0, 1) := by decide +kernel
theorem dX3_partsAtRoot_26 : decode cX3_partsAtRoot 26 = .ok (.getfield 53, 3) := by decide +kernel
theorem dX3_partsAtRoot_29 : decode cX3_partsAtRoot 29 = .ok (.if_icmp .ge 44, 3) := by decide +kernel
theorem dX3_partsAtRoot_32 : decode cX3_partsAtRoot 32 = .ok (.aload_n 0, 1) := by decide +kernel
theorem dX3_partsAtRoot_33 : decode cX3_partsAtRoot 33 = .ok (.getfield 11, 3) := by decide +kernel
theorem dX3_partsAtRoot_36 : decode cX3_partsAtRoot 36 = .ok (.iload_n 3, 1) := by decide +kernel
theorem dX3_partsAtRoot_37 : decode cX3_partsAtRoot 37 = .ok (.iaload, 1) := by decide +kernel
theorem dX3_partsAtRoot_38 : decode cX3_partsAtRoot 38 = .ok (.invokestatic 86, 3) := by decide +kernel
theorem dX3_partsAtRoot_41 : decode cX3_partsAtRoot 41 = .ok (.iload_n 2, 1) := by decide +kernel
theorem dX3_partsAtRoot_42 : decode cX3_partsAtRoot 42 = .ok (.iand, 1) := by decide +kernel
theorem dX3_partsAtRoot_43 : decode cX3_partsAtRoot 43 = .ok (.ifCond .ne 24, 3) := by decide +kernel
theorem dX3_partsAtRoot_46 : decode cX3_partsAtRoot 46 = .ok (.iinc 1 1, 3) := by decide +kernel
theorem dX3_partsAtRoot_49 : decode cX3_partsAtRoot 49 = .ok (.iload_n 2, 1) := by decide +kernel
theorem dX3_partsAtRoot_50 : decode cX3_partsAtRoot 50 = .ok (.aload_n 0, 1) := by decide +kernel
theorem dX3_partsAtRoot_51 : decode cX3_partsAtRoot 51 = .ok (.aload_n 0, 1) := by decide +kernel
theorem dX3_partsAtRoot_52 : decode cX3_partsAtRoot 52 = .ok (.getfield 11, 3) := by decide +kernel
theorem dX3_partsAtRoot_55 : decode cX3_partsAtRoot 55 = .ok (.iload_n 3, 1) := by decide +kernel
theorem dX3_partsAtRoot_56 : decode cX3_partsAtRoot 56 = .ok (.iaload, 1) := by decide +kernel
theorem dX3_partsAtRoot_57 : decode cX3_partsAtRoot 57 = .ok (.iconst 0, 1) := by decide +kernel
theorem dX3_partsAtRoot_58 : decode cX3_partsAtRoot 58 = .ok (.aload_n 0, 1) := by decide +kernel
theorem dX3_partsAtRoot_59 : decode cX3_partsAtRoot 59 = .ok (.getfield 53, 3) := by decide +kernel
theorem dX3_partsAtRoot_62 : decode cX3_partsAtRoot 62 = .ok (.invokevirtual 89, 3) := by decide +kernel
theorem dX3_partsAtRoot_65 : decode cX3_partsAtRoot 65 = .ok (.ior, 1) := by decide +kernel
theorem dX3_partsAtRoot_66 : decode cX3_partsAtRoot 66 = .ok (.istore_n 2, 1) := by decide +kernel
theorem dX3_partsAtRoot_67 : decode cX3_partsAtRoot 67 = .ok (.iinc 3 1, 3) := by decide +kernel
theorem dX3_partsAtRoot_70 : decode cX3_partsAtRoot 70 = .ok (.goto (-46), 3) := by decide +kernel
theorem dX3_partsAtRoot_73 : decode cX3_partsAtRoot 73 = .ok (.iload_n 1, 1) := by decide +kernel
theorem dX3_partsAtRoot_74 : decode cX3_partsAtRoot 74 = .ok (.ireturn, 1) := by decide +kernel
theorem dX3_explore_0 : decode cX3_explore 0 = .ok (.iload_n 1, 1) := by decide +kernel
theorem dX3_explore_1 : decode cX3_explore 1 = .ok (.ifCond .lt 15, 3) := by decide +kernel
theorem dX3_explore_4 : decode cX3_explore 4 = .ok (.iload_n 1, 1) := by decide +kernel
theorem dX3_explore_5 : decode cX3_explore 5 = .ok (.bipush 11, 2) := by decide +kernel
theorem dX3_explore_7 : decode cX3_explore 7 = .ok (.if_icmp .ge 9, 3) := by decide +kernel
theorem dX3_explore_10 : decode cX3_explore 10 = .ok (.iload_n 2, 1) := by decide +kernel
theorem dX3_explore_11 : decode cX3_explore 11 = .ok (.bipush 16, 2) := by decide +kernel
theorem dX3_explore_13 : decode cX3_explore 13 = .ok (.if_icmp .le 5, 3) := by decide +kernel
theorem dX3_explore_16 : decode cX3_explore 16 = .ok (.iconst 0, 1) := by decide +kernel
theorem dX3_explore_17 : decode cX3_explore 17 = .ok (.ireturn, 1) := by decide +kernel
theorem dX3_explore_18 : decode cX3_explore 18 = .ok (.iload_n 2, 1) := by decide +kernel
theorem dX3_explore_19 : decode cX3_explore 19 = .ok (.ifCond .gt 10, 3) := by decide +kernel
theorem dX3_explore_22 : decode cX3_explore 22 = .ok (.aload_n 0, 1) := by decide +kernel
theorem dX3_explore_23 : decode cX3_explore 23 = .ok (.iconst 1, 1) := by decide +kernel
theorem dX3_explore_24 : decode cX3_explore 24 = .ok (.putfield 46, 3) := by decide +kernel
theorem dX3_explore_27 : decode cX3_explore 27 = .ok (.iconst 0, 1) := by decide +kernel
theorem dX3_explore_28 : decode cX3_explore 28 = .ok (.ireturn, 1) := by decide +kernel
theorem dX3_explore_29 : decode cX3_explore 29 = .ok (.iload_n 1, 1) := by decide +kernel
theorem dX3_explore_30 : decode cX3_explore 30 = .ok (.bipush 16, 2) := by decide +kernel
theorem dX3_explore_32 : decode cX3_explore 32 = .ok (.imul, 1) := by decide +kernel
theorem dX3_explore_33 : decode cX3_explore 33 = .ok (.istore_n 3, 1) := by decide +kernel
theorem dX3_explore_34 : decode cX3_explore 34 = .ok (.aload_n 0, 1) := by decide +kernel
theorem dX3_explore_35 : decode cX3_explore 35 = .ok (.getfield 11, 3) := by decide +kernel
theorem dX3_explore_38 : decode cX3_explore 38 = .ok (.iload_n 3, 1) := by decide +kernel
theorem dX3_explore_39 : decode cX3_explore 39 = .ok (.iaload, 1) := by decide +kernel
theorem dX3_explore_40 : decode cX3_explore 40 = .ok (.ifCond .ne 10, 3) := by decide +kernel
theorem dX3_explore_43 : decode cX3_explore 43 = .ok (.aload_n 0, 1) := by decide +kernel
theorem dX3_explore_44 : decode cX3_explore 44 = .ok (.iconst 1, 1) := by decide +kernel
theorem dX3_explore_45 : decode cX3_explore 45 = .ok (.putfield 50, 3) := by decide +kernel
theorem dX3_explore_48 : decode cX3_explore 48 = .ok (.iconst 0, 1) := by decide +kernel
theorem dX3_explore_49 : decode cX3_explore 49 = .ok (.ireturn, 1) := by decide +kernel
theorem dX3_explore_50 : decode cX3_explore 50 = .ok (.aload_n 0, 1) := by decide +kernel
theorem dX3_explore_51 : decode cX3_explore 51 = .ok (.iload_n 3, 1) := by decide +kernel
theorem dX3_explore_52 : decode cX3_explore 52 = .ok (.iload_n 2, 1) := by decide +kernel
theorem dX3_explore_53 : decode cX3_explore 53 = .ok (.invokevirtual 93, 3) := by decide +kernel
theorem dX3_explore_56 : decode cX3_explore 56 = .ok (.istore 4, 2) := by decide +kernel
theorem dX3_explore_58 : decode cX3_explore 58 = .ok (.aload_n 0, 1) := by decide +kernel
theorem dX3_explore_59 : decode cX3_explore 59 = .ok (.iload 4, 2) := by decide +kernel
theorem dX3_explore_61 : decode cX3_explore 61 = .ok (.iload_n 3, 1) := by decide +kernel
theorem dX3_explore_62 : decode cX3_explore 62 = .ok (.iload_n 2, 1) := by decide +kernel
theorem dX3_explore_63 : decode cX3_explore 63 = .ok (.invokevirtual 96, 3) := by decide +kernel
theorem dX3_explore_66 : decode cX3_explore 66 = .ok (.istore 5, 2) := by decide +kernel
theorem dX3_explore_68 : decode cX3_explore 68 = .ok (.iload 5, 2) := by decide +kernel
theorem dX3_explore_70 : decode cX3_explore 70 = .ok (.iconst (-1), 1) := by decide +kernel
theorem dX3_explore_71 : decode cX3_explore 71 = .ok (.if_icmp .eq 11, 3) := by decide +kernel
theorem dX3_explore_74 : decode cX3_explore 74 = .ok (.aload_n 0, 1) := by decide +kernel
theorem dX3_explore_75 : decode cX3_explore 75 = .ok (.getfield 24, 3) := by decide +kernel
theorem dX3_explore_78 : decode cX3_explore 78 = .ok (.iload 5, 2) := by decide +kernel
theorem dX3_explore_80 : decode cX3_explore 80 = .ok (.iaload, 1) := by decide +kernel
theorem dX3_explore_81 : decode cX3_explore 81 = .ok (.ireturn, 1) := by decide +kernel
theorem dX3_explore_82 : decode cX3_explore 82 = .ok (.aload_n 0, 1) := by decide +kernel
theorem dX3_explore_83 : decode cX3_explore 83 = .ok (.aload_n 0, 1) := by decide +kernel
theorem dX3_explore_84 : decode cX3_explore 84 = .ok (.getfield 11, 3) := by decide +kernel
theorem dX3_explore_87 : decode cX3_explore 87 = .ok (.iload_n 3, 1) := by decide +kernel
theorem dX3_explore_88 : decode cX3_explore 88 = .ok (.iaload, 1) := by decide +kernel
theorem dX3_explore_89 : decode cX3_explore 89 = .ok (.iload_n 3, 1) := by decide +kernel
theorem dX3_explore_90 : decode cX3_explore 90 = .ok (.iload_n 2, 1) := by decide +kernel
theorem dX3_explore_91 : decode cX3_explore 91 = .ok (.invokevirtual 89, 3) := by decide +kernel
theorem dX3_explore_94 : decode cX3_explore 94 = .ok (.istore 6, 2) := by decide +kernel
theorem dX3_explore_96 : decode cX3_explore 96 = .ok (.iload 6, 2) := by decide +kernel
theorem dX3_explore_98 : decode cX3_explore 98 = .ok (.aload_n 0, 1) := by decide +kernel
theorem dX3_explore_99 : decode cX3_explore 99 = .ok (.iload_n 3, 1) := by decide +kernel
theorem dX3_explore_100 : decode cX3_explore 100 = .ok (.iload_n 2, 1) := by decide +kernel
theorem dX3_explore_101 : decode cX3_explore 101 = .ok (.invokevirtual 99, 3) := by decide +kernel
theorem dX3_explore_104 : decode cX3_explore 104 = .ok (.if_icmp .ne 7, 3) := by decide +kernel
theorem dX3_explore_107 : decode cX3_explore 107 = .ok (.iconst 1, 1) := by decide +kernel
theorem dX3_explore_108 : decode cX3_explore 108 = .ok (.goto 4, 3) := by decide +kernel
theorem dX3_explore_111 : decode cX3_explore 111 = .ok (.iconst 0, 1) := by decide +kernel
theorem dX3_explore_112 : decode cX3_explore 112 = .ok (.istore 7, 2) := by decide +kernel
theorem dX3_explore_114 : decode cX3_explore 114 = .ok (.iload 7, 2) := by decide +kernel
theorem dX3_explore_116 : decode cX3_explore 116 = .ok (.ifCond .eq 12, 3) := by decide +kernel
theorem dX3_explore_119 : decode cX3_explore 119 = .ok (.aload_n 0, 1) := by decide +kernel
theorem dX3_explore_120 : decode cX3_explore 120 = .ok (.iload_n 1, 1) := by decide +kernel
theorem dX3_explore_121 : decode cX3_explore 121 = .ok (.iload_n 2, 1) := by decide +kernel
theorem dX3_explore_122 : decode cX3_explore 122 = .ok (.invokevirtual 102, 3) := by decide +kernel
theorem dX3_explore_125 : decode cX3_explore 125 = .ok (.goto 9, 3) := by decide +kernel
theorem dX3_explore_128 : decode cX3_explore 128 = .ok (.aload_n 0, 1) := by decide +kernel
theorem dX3_explore_129 : decode cX3_explore 129 = .ok (.iload_n 1, 1) := by decide +kernel
theorem dX3_explore_130 : decode cX3_explore 130 = .ok (.iload_n 2, 1) := by decide +kernel
theorem dX3_explore_131 : decode cX3_explore 131 = .ok (.invokevirtual 105, 3) := by decide +kernel
theorem dX3_explore_134 : decode cX3_explore 134 = .ok (.istore 8, 2) := by decide +kernel
theorem dX3_explore_136 : decode cX3_explore 136 = .ok (.aload_n 0, 1) := by decide +kernel
theorem dX3_explore_137 : decode cX3_explore 137 = .ok (.iload 4, 2) := by decide +kernel
theorem dX3_explore_139 : decode cX3_explore 139 = .ok (.iload_n 3, 1) := by decide +kernel
theorem dX3_explore_140 : decode cX3_explore 140 = .ok (.iload_n 2, 1) := by decide +kernel
theorem dX3_explore_141 : decode cX3_explore 141 = .ok (.iload 8, 2) := by decide +kernel
theorem dX3_explore_143 : decode cX3_explore 143 = .ok (.iconst 1, 1) := by decide +kernel
theorem dX3_explore_144 : decode cX3_explore 144 = .ok (.iadd, 1) := by decide +kernel
theorem dX3_explore_145 : decode cX3_explore 145 = .ok (.invokevirtual 108, 3) := by decide +kernel
theorem dX3_explore_148 : decode cX3_explore 148 = .ok (.iload 8, 2) := by decide +kernel
theorem dX3_explore_150 : decode cX3_explore 150 = .ok (.iconst 1, 1) := by decide +kernel
theorem dX3_explore_151 : decode cX3_explore 151 = .ok (.iadd, 1) := by decide +kernel
theorem dX3_explore_152 : decode cX3_explore 152 = .ok (.ireturn, 1) := by decide +kernel
theorem dX3_exploreDecision_0 : decode cX3_exploreDecision 0 = .ok (.aload_n 0, 1) := by decide +kernel
theorem dX3_exploreDecision_1 : decode cX3_exploreDecision 1 = .ok (.dup, 1) := by decide +kernel
theorem dX3_exploreDecision_2 : decode cX3_exploreDecision 2 = .ok (.getfield 40, 3) := by decide +kernel
theorem dX3_exploreDecision_5 : decode cX3_exploreDecision 5 = .ok (.iconst 1, 1) := by decide +kernel
theorem dX3_exploreDecision_6 : decode cX3_exploreDecision 6 = .ok (.iadd, 1) := by decide +kernel
theorem dX3_exploreDecision_7 : decode cX3_exploreDecision 7 = .ok (.putfield 40, 3) := by decide +kernel
theorem dX3_exploreDecision_10 : decode cX3_exploreDecision 10 = .ok (.aload_n 0, 1) := by decide +kernel
theorem dX3_exploreDecision_11 : decode cX3_exploreDecision 11 = .ok (.iload_n 1, 1) := by decide +kernel
theorem dX3_exploreDecision_12 : decode cX3_exploreDecision 12 = .ok (.bipush 16, 2) := by decide +kernel
theorem dX3_exploreDecision_14 : decode cX3_exploreDecision 14 = .ok (.imul, 1) := by decide +kernel
theorem dX3_exploreDecision_15 : decode cX3_exploreDecision 15 = .ok (.iload_n 2, 1) := by decide +kernel
theorem dX3_exploreDecision_16 : decode cX3_exploreDecision 16 = .ok (.invokevirtual 83, 3) := by decide +kernel
theorem dX3_exploreDecision_19 : decode cX3_exploreDecision 19 = .ok (.invokestatic 112, 3) := by decide +kernel
theorem dX3_exploreDecision_22 : decode cX3_exploreDecision 22 = .ok (.istore_n 3, 1) := by decide +kernel
theorem dX3_exploreDecision_23 : decode cX3_exploreDecision 23 = .ok (.aload_n 0, 1) := by decide +kernel
theorem dX3_exploreDecision_24 : decode cX3_exploreDecision 24 = .ok (.iload_n 1, 1) := by decide +kernel
theorem dX3_exploreDecision_25 : decode cX3_exploreDecision 25 = .ok (.iconst 1, 1) := by decide +kernel
theorem dX3_exploreDecision_26 : decode cX3_exploreDecision 26 = .ok (.iadd, 1) := by decide +kernel
theorem dX3_exploreDecision_27 : decode cX3_exploreDecision 27 = .ok (.aload_n 0, 1) := by decide +kernel
theorem dX3_exploreDecision_28 : decode cX3_exploreDecision 28 = .ok (.iload_n 1, 1) := by decide +kernel
theorem dX3_exploreDecision_29 : decode cX3_exploreDecision 29 = .ok (.iload_n 2, 1) := by decide +kernel
theorem dX3_exploreDecision_30 : decode cX3_exploreDecision 30 = .ok (.iload_n 3, 1) := by decide +kernel
theorem dX3_exploreDecision_31 : decode cX3_exploreDecision 31 = .ok (.invokestatic 115, 3) := by decide +kernel
theorem dX3_exploreDecision_34 : decode cX3_exploreDecision 34 = .ok (.invokevirtual 118, 3) := by decide +kernel
theorem dX3_exploreDecision_37 : decode cX3_exploreDecision 37 = .ok (.invokevirtual 72, 3) := by decide +kernel
theorem dX3_exploreDecision_40 : decode cX3_exploreDecision 40 = .ok (.istore 4, 2) := by decide +kernel
theorem dX3_exploreDecision_42 : decode cX3_exploreDecision 42 = .ok (.aload_n 0, 1) := by decide +kernel
theorem dX3_exploreDecision_43 : decode cX3_exploreDecision 43 = .ok (.iload_n 1, 1) := by decide +kernel
theorem dX3_exploreDecision_44 : decode cX3_exploreDecision 44 = .ok (.iconst 1, 1) := by decide +kernel
theorem dX3_exploreDecision_45 : decode cX3_exploreDecision 45 = .ok (.iadd, 1) := by decide +kernel
theorem dX3_exploreDecision_46 : decode cX3_exploreDecision 46 = .ok (.aload_n 0, 1) := by decide +kernel
theorem dX3_exploreDecision_47 : decode cX3_exploreDecision 47 = .ok (.iload_n 1, 1) := by decide +kernel
theorem dX3_exploreDecision_48 : decode cX3_exploreDecision 48 = .ok (.iload_n 2, 1) := by decide +kernel
theorem dX3_exploreDecision_49 : decode cX3_exploreDecision 49 = .ok (.iload_n 3, 1) := by decide +kernel
theorem dX3_exploreDecision_50 : decode cX3_exploreDecision 50 = .ok (.invokevirtual 118, 3) := by decide +kernel
theorem dX3_exploreDecision_53 : decode cX3_exploreDecision 53 = .ok (.invokevirtual 72, 3) := by decide +kernel
theorem dX3_exploreDecision_56 : decode cX3_exploreDecision 56 = .ok (.istore 5, 2) := by decide +kernel
theorem dX3_exploreDecision_58 : decode cX3_exploreDecision 58 = .ok (.iload 4, 2) := by decide +kernel
theorem dX3_exploreDecision_60 : decode cX3_exploreDecision 60 = .ok (.iload 5, 2) := by decide +kernel
theorem dX3_exploreDecision_62 : decode cX3_exploreDecision 62 = .ok (.invokestatic 121, 3) := by decide +kernel
theorem dX3_exploreDecision_65 : decode cX3_exploreDecision 65 = .ok (.ireturn, 1) := by decide +kernel
theorem dX3_exploreParts_0 : decode cX3_exploreParts 0 = .ok (.aload_n 0, 1) := by decide +kernel
theorem dX3_exploreParts_1 : decode cX3_exploreParts 1 = .ok (.dup, 1) := by decide +kernel
theorem dX3_exploreParts_2 : decode cX3_exploreParts 2 = .ok (.getfield 43, 3) := by decide +kernel
theorem dX3_exploreParts_5 : decode cX3_exploreParts 5 = .ok (.iconst 1, 1) := by decide +kernel
theorem dX3_exploreParts_6 : decode cX3_exploreParts 6 = .ok (.iadd, 1) := by decide +kernel
theorem dX3_exploreParts_7 : decode cX3_exploreParts 7 = .ok (.putfield 43, 3) := by decide +kernel
theorem dX3_exploreParts_10 : decode cX3_exploreParts 10 = .ok (.iload_n 1, 1) := by decide +kernel
theorem dX3_exploreParts_11 : decode cX3_exploreParts 11 = .ok (.bipush 16, 2) := by decide +kernel
theorem dX3_exploreParts_13 : decode cX3_exploreParts 13 = .ok (.imul, 1) := by decide +kernel
theorem dX3_exploreParts_14 : decode cX3_exploreParts 14 = .ok (.istore_n 3, 1) := by decide +kernel
theorem dX3_exploreParts_15 : decode cX3_exploreParts 15 = .ok (.iconst 0, 1) := by decide +kernel
theorem dX3_exploreParts_16 : decode cX3_exploreParts 16 = .ok (.istore 4, 2) := by decide +kernel
theorem dX3_exploreParts_18 : decode cX3_exploreParts 18 = .ok (.iconst 0, 1) := by decide +kernel
theorem dX3_exploreParts_19 : decode cX3_exploreParts 19 = .ok (.istore 5, 2) := by decide +kernel
theorem dX3_exploreParts_21 : decode cX3_exploreParts 21 = .ok (.iload_n 3, 1) := by decide +kernel
theorem dX3_exploreParts_22 : decode cX3_exploreParts 22 = .ok (.istore 6, 2) := by decide +kernel
theorem dX3_exploreParts_24 : decode cX3_exploreParts 24 = .ok (.iload 6, 2) := by decide +kernel
theorem dX3_exploreParts_26 : decode cX3_exploreParts 26 = .ok (.iload_n 3, 1) := by decide +kernel
theorem dX3_exploreParts_27 : decode cX3_exploreParts 27 = .ok (.iload_n 2, 1) := by decide +kernel
theorem dX3_exploreParts_28 : decode cX3_exploreParts 28 = .ok (.iadd, 1) := by decide +kernel
theorem dX3_exploreParts_29 : decode cX3_exploreParts 29 = .ok (.if_icmp .ge 69, 3) := by decide +kernel
theorem dX3_exploreParts_32 : decode cX3_exploreParts 32 = .ok (.aload_n 0, 1) := by decide +kernel
theorem dX3_exploreParts_33 : decode cX3_exploreParts 33 = .ok (.getfield 11, 3) := by decide +kernel
theorem dX3_exploreParts_36 : decode cX3_exploreParts 36 = .ok (.iload 6, 2) := by decide +kernel
theorem dX3_exploreParts_38 : decode cX3_exploreParts 38 = .ok (.iaload, 1) := by decide +kernel
theorem dX3_exploreParts_39 : decode cX3_exploreParts 39 = .ok (.invokestatic 86, 3) := by decide +kernel
theorem dX3_exploreParts_42 : decode cX3_exploreParts 42 = .ok (.iload 5, 2) := by decide +kernel
theorem dX3_exploreParts_44 : decode cX3_exploreParts 44 = .ok (.iand, 1) := by decide +kernel
theorem dX3_exploreParts_45 : decode cX3_exploreParts 45 = .ok (.ifCond .ne 47, 3) := by decide +kernel
theorem dX3_exploreParts_48 : decode cX3_exploreParts 48 = .ok (.aload_n 0, 1) := by decide +kernel
theorem dX3_exploreParts_49 : decode cX3_exploreParts 49 = .ok (.aload_n 0, 1) := by decide +kernel
theorem dX3_exploreParts_50 : decode cX3_exploreParts 50 = .ok (.getfield 11, 3) := by decide +kernel
theorem dX3_exploreParts_53 : decode cX3_exploreParts 53 = .ok (.iload 6, 2) := by decide +kernel
theorem dX3_exploreParts_55 : decode cX3_exploreParts 55 = .ok (.iaload, 1) := by decide +kernel
theorem dX3_exploreParts_56 : decode cX3_exploreParts 56 = .ok (.iload_n 3, 1) := by decide +kernel
theorem dX3_exploreParts_57 : decode cX3_exploreParts 57 = .ok (.iload_n 2, 1) := by decide +kernel
theorem dX3_exploreParts_58 : decode cX3_exploreParts 58 = .ok (.invokevirtual 89, 3) := by decide +kernel
theorem dX3_exploreParts_61 : decode cX3_exploreParts 61 = .ok (.istore 7, 2) := by decide +kernel
theorem dX3_exploreParts_63 : decode cX3_exploreParts 63 = .ok (.iload 5, 2) := by decide +kernel
theorem dX3_exploreParts_65 : decode cX3_exploreParts 65 = .ok (.iload 7, 2) := by decide +kernel
theorem dX3_exploreParts_67 : decode cX3_exploreParts 67 = .ok (.ior, 1) := by decide +kernel
theorem dX3_exploreParts_68 : decode cX3_exploreParts 68 = .ok (.istore 5, 2) := by decide +kernel
theorem dX3_exploreParts_70 : decode cX3_exploreParts 70 = .ok (.iload 4, 2) := by decide +kernel
theorem dX3_exploreParts_72 : decode cX3_exploreParts 72 = .ok (.aload_n 0, 1) := by decide +kernel
theorem dX3_exploreParts_73 : decode cX3_exploreParts 73 = .ok (.iload_n 1, 1) := by decide +kernel
theorem dX3_exploreParts_74 : decode cX3_exploreParts 74 = .ok (.iconst 1, 1) := by decide +kernel
theorem dX3_exploreParts_75 : decode cX3_exploreParts 75 = .ok (.iadd, 1) := by decide +kernel
theorem dX3_exploreParts_76 : decode cX3_exploreParts 76 = .ok (.aload_n 0, 1) := by decide +kernel
theorem dX3_exploreParts_77 : decode cX3_exploreParts 77 = .ok (.iload_n 1, 1) := by decide +kernel
theorem dX3_exploreParts_78 : decode cX3_exploreParts 78 = .ok (.iload_n 2, 1) := by decide +kernel
theorem dX3_exploreParts_79 : decode cX3_exploreParts 79 = .ok (.iload 7, 2) := by decide +kernel
theorem dX3_exploreParts_81 : decode cX3_exploreParts 81 = .ok (.invokevirtual 126, 3) := by decide +kernel
theorem dX3_exploreParts_84 : decode cX3_exploreParts 84 = .ok (.invokevirtual 72, 3) := by decide +kernel
theorem dX3_exploreParts_87 : decode cX3_exploreParts 87 = .ok (.invokestatic 121, 3) := by decide +kernel
theorem dX3_exploreParts_90 : decode cX3_exploreParts 90 = .ok (.istore 4, 2) := by decide +kernel
theorem dX3_exploreParts_92 : decode cX3_exploreParts 92 = .ok (.iinc 6 1, 3) := by decide +kernel
theorem dX3_exploreParts_95 : decode cX3_exploreParts 95 = .ok (.goto (-71), 3) := by decide +kernel
theorem dX3_exploreParts_98 : decode cX3_exploreParts 98 = .ok (.iload 4, 2) := by decide +kernel
theorem dX3_exploreParts_100 : decode cX3_exploreParts 100 = .ok (.ireturn, 1) := by decide +kernel
theorem dX3_setLiteral_0 : decode cX3_setLiteral 0 = .ok (.iload_n 1, 1) := by decide +kernel
theorem dX3_setLiteral_1 : decode cX3_setLiteral 1 = .ok (.bipush 16, 2) := by decide +kernel
theorem dX3_setLiteral_3 : decode cX3_setLiteral 3 = .ok (.imul, 1) := by decide +kernel
theorem dX3_setLiteral_4 : decode cX3_setLiteral 4 = .ok (.istore 4, 2) := by decide +kernel
theorem dX3_setLiteral_6 : decode cX3_setLiteral 6 = .ok (.iconst 0, 1) := by decide +kernel
theorem dX3_setLiteral_7 : decode cX3_setLiteral 7 = .ok (.istore 5, 2) := by decide +kernel
theorem dX3_setLiteral_9 : decode cX3_setLiteral 9 = .ok (.iload 4, 2) := by decide +kernel
theorem dX3_setLiteral_11 : decode cX3_setLiteral 11 = .ok (.istore 6, 2) := by decide +kernel
theorem dX3_setLiteral_13 : decode cX3_setLiteral 13 = .ok (.iload 6, 2) := by decide +kernel
theorem dX3_setLiteral_15 : decode cX3_setLiteral 15 = .ok (.iload 4, 2) := by decide +kernel
theorem dX3_setLiteral_17 : decode cX3_setLiteral 17 = .ok (.iload_n 2, 1) := by decide +kernel
theorem dX3_setLiteral_18 : decode cX3_setLiteral 18 = .ok (.iadd, 1) := by decide +kernel
theorem dX3_setLiteral_19 : decode cX3_setLiteral 19 = .ok (.if_icmp .ge 28, 3) := by decide +kernel
theorem dX3_setLiteral_22 : decode cX3_setLiteral 22 = .ok (.aload_n 0, 1) := by decide +kernel
theorem dX3_setLiteral_23 : decode cX3_setLiteral 23 = .ok (.iload_n 1, 1) := by decide +kernel
theorem dX3_setLiteral_24 : decode cX3_setLiteral 24 = .ok (.iconst 1, 1) := by decide +kernel
theorem dX3_setLiteral_25 : decode cX3_setLiteral 25 = .ok (.iadd, 1) := by decide +kernel
theorem dX3_setLiteral_26 : decode cX3_setLiteral 26 = .ok (.iload 5, 2) := by decide +kernel
theorem dX3_setLiteral_28 : decode cX3_setLiteral 28 = .ok (.aload_n 0, 1) := by decide +kernel
theorem dX3_setLiteral_29 : decode cX3_setLiteral 29 = .ok (.getfield 11, 3) := by decide +kernel
theorem dX3_setLiteral_32 : decode cX3_setLiteral 32 = .ok (.iload 6, 2) := by decide +kernel
theorem dX3_setLiteral_34 : decode cX3_setLiteral 34 = .ok (.iaload, 1) := by decide +kernel
theorem dX3_setLiteral_35 : decode cX3_setLiteral 35 = .ok (.iload_n 3, 1) := by decide +kernel
theorem dX3_setLiteral_36 : decode cX3_setLiteral 36 = .ok (.invokevirtual 68, 3) := by decide +kernel
theorem dX3_setLiteral_39 : decode cX3_setLiteral 39 = .ok (.istore 5, 2) := by decide +kernel
theorem dX3_setLiteral_41 : decode cX3_setLiteral 41 = .ok (.iinc 6 1, 3) := by decide +kernel
theorem dX3_setLiteral_44 : decode cX3_setLiteral 44 = .ok (.goto (-31), 3) := by decide +kernel
theorem dX3_setLiteral_47 : decode cX3_setLiteral 47 = .ok (.iload 5, 2) := by decide +kernel
theorem dX3_setLiteral_49 : decode cX3_setLiteral 49 = .ok (.ireturn, 1) := by decide +kernel
theorem dX3_takePart_0 : decode cX3_takePart 0 = .ok (.iload_n 1, 1) := by decide +kernel
theorem dX3_takePart_1 : decode cX3_takePart 1 = .ok (.bipush 16, 2) := by decide +kernel
theorem dX3_takePart_3 : decode cX3_takePart 3 = .ok (.imul, 1) := by decide +kernel
theorem dX3_takePart_4 : decode cX3_takePart 4 = .ok (.istore 4, 2) := by decide +kernel
theorem dX3_takePart_6 : decode cX3_takePart 6 = .ok (.iconst 0, 1) := by decide +kernel
theorem dX3_takePart_7 : decode cX3_takePart 7 = .ok (.istore 5, 2) := by decide +kernel
theorem dX3_takePart_9 : decode cX3_takePart 9 = .ok (.iload 4, 2) := by decide +kernel
theorem dX3_takePart_11 : decode cX3_takePart 11 = .ok (.istore 6, 2) := by decide +kernel
theorem dX3_takePart_13 : decode cX3_takePart 13 = .ok (.iload 6, 2) := by decide +kernel
theorem dX3_takePart_15 : decode cX3_takePart 15 = .ok (.iload 4, 2) := by decide +kernel
theorem dX3_takePart_17 : decode cX3_takePart 17 = .ok (.iload_n 2, 1) := by decide +kernel
theorem dX3_takePart_18 : decode cX3_takePart 18 = .ok (.iadd, 1) := by decide +kernel
theorem dX3_takePart_19 : decode cX3_takePart 19 = .ok (.if_icmp .ge 42, 3) := by decide +kernel
theorem dX3_takePart_22 : decode cX3_takePart 22 = .ok (.aload_n 0, 1) := by decide +kernel
theorem dX3_takePart_23 : decode cX3_takePart 23 = .ok (.getfield 11, 3) := by decide +kernel
theorem dX3_takePart_26 : decode cX3_takePart 26 = .ok (.iload 6, 2) := by decide +kernel
theorem dX3_takePart_28 : decode cX3_takePart 28 = .ok (.iaload, 1) := by decide +kernel
theorem dX3_takePart_29 : decode cX3_takePart 29 = .ok (.invokestatic 86, 3) := by decide +kernel
theorem dX3_takePart_32 : decode cX3_takePart 32 = .ok (.iload_n 3, 1) := by decide +kernel
theorem dX3_takePart_33 : decode cX3_takePart 33 = .ok (.iand, 1) := by decide +kernel
theorem dX3_takePart_34 : decode cX3_takePart 34 = .ok (.ifCond .eq 21, 3) := by decide +kernel
theorem dX3_takePart_37 : decode cX3_takePart 37 = .ok (.aload_n 0, 1) := by decide +kernel
theorem dX3_takePart_38 : decode cX3_takePart 38 = .ok (.iload_n 1, 1) := by decide +kernel
theorem dX3_takePart_39 : decode cX3_takePart 39 = .ok (.iconst 1, 1) := by decide +kernel
theorem dX3_takePart_40 : decode cX3_takePart 40 = .ok (.iadd, 1) := by decide +kernel
theorem dX3_takePart_41 : decode cX3_takePart 41 = .ok (.iload 5, 2) := by decide +kernel
theorem dX3_takePart_43 : decode cX3_takePart 43 = .ok (.aload_n 0, 1) := by decide +kernel
theorem dX3_takePart_44 : decode cX3_takePart 44 = .ok (.getfield 11, 3) := by decide +kernel
theorem dX3_takePart_47 : decode cX3_takePart 47 = .ok (.iload 6, 2) := by decide +kernel
theorem dX3_takePart_49 : decode cX3_takePart 49 = .ok (.iaload, 1) := by decide +kernel
theorem dX3_takePart_50 : decode cX3_takePart 50 = .ok (.invokevirtual 129, 3) := by decide +kernel
theorem dX3_takePart_53 : decode cX3_takePart 53 = .ok (.istore 5, 2) := by decide +kernel
theorem dX3_takePart_55 : decode cX3_takePart 55 = .ok (.iinc 6 1, 3) := by decide +kernel
theorem dX3_takePart_58 : decode cX3_takePart 58 = .ok (.goto (-45), 3) := by decide +kernel
theorem dX3_takePart_61 : decode cX3_takePart 61 = .ok (.iload 5, 2) := by decide +kernel
theorem dX3_takePart_63 : decode cX3_takePart 63 = .ok (.ireturn, 1) := by decide +kernel
theorem dX3_addResidual_0 : decode cX3_addResidual 0 = .ok (.iload_n 3, 1) := by decide +kernel
theorem dX3_addResidual_1 : decode cX3_addResidual 1 = .ok (.iload 4, 2) := by decide +kernel
theorem dX3_addResidual_3 : decode cX3_addResidual 3 = .ok (.iand, 1) := by decide +kernel
theorem dX3_addResidual_4 : decode cX3_addResidual 4 = .ok (.ifCond .eq 5, 3) := by decide +kernel
theorem dX3_addResidual_7 : decode cX3_addResidual 7 = .ok (.iload_n 2, 1) := by decide +kernel
theorem dX3_addResidual_8 : decode cX3_addResidual 8 = .ok (.ireturn, 1) := by decide +kernel
theorem dX3_addResidual_9 : decode cX3_addResidual 9 = .ok (.aload_n 0, 1) := by decide +kernel
theorem dX3_addResidual_10 : decode cX3_addResidual 10 = .ok (.iload_n 1, 1) := by decide +kernel
theorem dX3_addResidual_11 : decode cX3_addResidual 11 = .ok (.iload_n 2, 1) := by decide +kernel
theorem dX3_addResidual_12 : decode cX3_addResidual 12 = .ok (.iload_n 3, 1) := by decide +kernel
theorem dX3_addResidual_13 : decode cX3_addResidual 13 = .ok (.iload 4, 2) := by decide +kernel
theorem dX3_addResidual_15 : decode cX3_addResidual 15 = .ok (.invokestatic 115, 3) := by decide +kernel
theorem dX3_addResidual_18 : decode cX3_addResidual 18 = .ok (.iconst (-1), 1) := by decide +kernel
theorem dX3_addResidual_19 : decode cX3_addResidual 19 = .ok (.ixor, 1) := by decide +kernel
theorem dX3_addResidual_20 : decode cX3_addResidual 20 = .ok (.iand, 1) := by decide +kernel
theorem dX3_addResidual_21 : decode cX3_addResidual 21 = .ok (.invokevirtual 129, 3) := by decide +kernel
theorem dX3_addResidual_24 : decode cX3_addResidual 24 = .ok (.ireturn, 1) := by decide +kernel
theorem dX3_insert_0 : decode cX3_insert 0 = .ok (.iload_n 1, 1) := by decide +kernel
theorem dX3_insert_1 : decode cX3_insert 1 = .ok (.ifCond .lt 19, 3) := by decide +kernel
theorem dX3_insert_4 : decode cX3_insert 4 = .ok (.iload_n 1, 1) := by decide +kernel
theorem dX3_insert_5 : decode cX3_insert 5 = .ok (.bipush 11, 2) := by decide +kernel
theorem dX3_insert_7 : decode cX3_insert 7 = .ok (.if_icmp .ge 13, 3) := by decide +kernel
theorem dX3_insert_10 : decode cX3_insert 10 = .ok (.iload_n 2, 1) := by decide +kernel
theorem dX3_insert_11 : decode cX3_insert 11 = .ok (.ifCond .lt 9, 3) := by decide +kernel
theorem dX3_insert_14 : decode cX3_insert 14 = .ok (.iload_n 2, 1) := by decide +kernel
theorem dX3_insert_15 : decode cX3_insert 15 = .ok (.bipush 16, 2) := by decide +kernel
theorem dX3_insert_17 : decode cX3_insert 17 = .ok (.if_icmp .lt 5, 3) := by decide +kernel
theorem dX3_insert_20 : decode cX3_insert 20 = .ok (.iload_n 2, 1) := by decide +kernel
theorem dX3_insert_21 : decode cX3_insert 21 = .ok (.ireturn, 1) := by decide +kernel
theorem dX3_insert_22 : decode cX3_insert 22 = .ok (.iload_n 1, 1) := by decide +kernel
theorem dX3_insert_23 : decode cX3_insert 23 = .ok (.bipush 16, 2) := by decide +kernel
theorem dX3_insert_25 : decode cX3_insert 25 = .ok (.imul, 1) := by decide +kernel
theorem dX3_insert_26 : decode cX3_insert 26 = .ok (.istore 4, 2) := by decide +kernel
theorem dX3_insert_28 : decode cX3_insert 28 = .ok (.iload 4, 2) := by decide +kernel
theorem dX3_insert_30 : decode cX3_insert 30 = .ok (.iload_n 2, 1) := by decide +kernel
theorem dX3_insert_31 : decode cX3_insert 31 = .ok (.iadd, 1) := by decide +kernel
theorem dX3_insert_32 : decode cX3_insert 32 = .ok (.istore 5, 2) := by decide +kernel
theorem dX3_insert_34 : decode cX3_insert 34 = .ok (.iload 5, 2) := by decide +kernel
theorem dX3_insert_36 : decode cX3_insert 36 = .ok (.iload 4, 2) := by decide +kernel
theorem dX3_insert_38 : decode cX3_insert 38 = .ok (.if_icmp .le 22, 3) := by decide +kernel
theorem dX3_insert_41 : decode cX3_insert 41 = .ok (.aload_n 0, 1) := by decide +kernel
theorem dX3_insert_42 : decode cX3_insert 42 = .ok (.getfield 11, 3) := by decide +kernel
theorem dX3_insert_45 : decode cX3_insert 45 = .ok (.iload 5, 2) := by decide +kernel
theorem dX3_insert_47 : decode cX3_insert 47 = .ok (.iconst 1, 1) := by decide +kernel
theorem dX3_insert_48 : decode cX3_insert 48 = .ok (.isub, 1) := by decide +kernel
theorem dX3_insert_49 : decode cX3_insert 49 = .ok (.iaload, 1) := by decide +kernel
theorem dX3_insert_50 : decode cX3_insert 50 = .ok (.iload_n 3, 1) := by decide +kernel
theorem dX3_insert_51 : decode cX3_insert 51 = .ok (.if_icmp .le 9, 3) := by decide +kernel
theorem dX3_insert_54 : decode cX3_insert 54 = .ok (.iinc 5 (-1), 3) := by decide +kernel
theorem dX3_insert_57 : decode cX3_insert 57 = .ok (.goto (-23), 3) := by decide +kernel
theorem dX3_insert_60 : decode cX3_insert 60 = .ok (.iload 5, 2) := by decide +kernel
theorem dX3_insert_62 : decode cX3_insert 62 = .ok (.iload 4, 2) := by decide +kernel
theorem dX3_insert_64 : decode cX3_insert 64 = .ok (.if_icmp .le 18, 3) := by decide +kernel
theorem dX3_insert_67 : decode cX3_insert 67 = .ok (.aload_n 0, 1) := by decide +kernel
theorem dX3_insert_68 : decode cX3_insert 68 = .ok (.getfield 11, 3) := by decide +kernel
theorem dX3_insert_71 : decode cX3_insert 71 = .ok (.iload 5, 2) := by decide +kernel
theorem dX3_insert_73 : decode cX3_insert 73 = .ok (.iconst 1, 1) := by decide +kernel
theorem dX3_insert_74 : decode cX3_insert 74 = .ok (.isub, 1) := by decide +kernel
theorem dX3_insert_75 : decode cX3_insert 75 = .ok (.iaload, 1) := by decide +kernel
theorem dX3_insert_76 : decode cX3_insert 76 = .ok (.iload_n 3, 1) := by decide +kernel
theorem dX3_insert_77 : decode cX3_insert 77 = .ok (.if_icmp .ne 5, 3) := by decide +kernel
theorem dX3_insert_80 : decode cX3_insert 80 = .ok (.iload_n 2, 1) := by decide +kernel
theorem dX3_insert_81 : decode cX3_insert 81 = .ok (.ireturn, 1) := by decide +kernel
theorem dX3_insert_82 : decode cX3_insert 82 = .ok (.iload 4, 2) := by decide +kernel
theorem dX3_insert_84 : decode cX3_insert 84 = .ok (.iload_n 2, 1) := by decide +kernel
theorem dX3_insert_85 : decode cX3_insert 85 = .ok (.iadd, 1) := by decide +kernel
theorem dX3_insert_86 : decode cX3_insert 86 = .ok (.istore 6, 2) := by decide +kernel
theorem dX3_insert_88 : decode cX3_insert 88 = .ok (.iload 6, 2) := by decide +kernel
theorem dX3_insert_90 : decode cX3_insert 90 = .ok (.iload 5, 2) := by decide +kernel
theorem dX3_insert_92 : decode cX3_insert 92 = .ok (.if_icmp .le 25, 3) := by decide +kernel
theorem dX3_insert_95 : decode cX3_insert 95 = .ok (.aload_n 0, 1) := by decide +kernel
theorem dX3_insert_96 : decode cX3_insert 96 = .ok (.getfield 11, 3) := by decide +kernel
theorem dX3_insert_99 : decode cX3_insert 99 = .ok (.iload 6, 2) := by decide +kernel
theorem dX3_insert_101 : decode cX3_insert 101 = .ok (.aload_n 0, 1) := by decide +kernel
theorem dX3_insert_102 : decode cX3_insert 102 = .ok (.getfield 11, 3) := by decide +kernel
theorem dX3_insert_105 : decode cX3_insert 105 = .ok (.iload 6, 2) := by decide +kernel
theorem dX3_insert_107 : decode cX3_insert 107 = .ok (.iconst 1, 1) := by decide +kernel
theorem dX3_insert_108 : decode cX3_insert 108 = .ok (.isub, 1) := by decide +kernel
theorem dX3_insert_109 : decode cX3_insert 109 = .ok (.iaload, 1) := by decide +kernel
theorem dX3_insert_110 : decode cX3_insert 110 = .ok (.iastore, 1) := by decide +kernel
theorem dX3_insert_111 : decode cX3_insert 111 = .ok (.iinc 6 (-1), 3) := by decide +kernel
theorem dX3_insert_114 : decode cX3_insert 114 = .ok (.goto (-26), 3) := by decide +kernel
theorem dX3_insert_117 : decode cX3_insert 117 = .ok (.aload_n 0, 1) := by decide +kernel
theorem dX3_insert_118 : decode cX3_insert 118 = .ok (.getfield 11, 3) := by decide +kernel
theorem dX3_insert_121 : decode cX3_insert 121 = .ok (.iload 5, 2) := by decide +kernel
theorem dX3_insert_123 : decode cX3_insert 123 = .ok (.iload_n 3, 1) := by decide +kernel
theorem dX3_insert_124 : decode cX3_insert 124 = .ok (.iastore, 1) := by decide +kernel
theorem dX3_insert_125 : decode cX3_insert 125 = .ok (.iload_n 2, 1) := by decide +kernel
theorem dX3_insert_126 : decode cX3_insert 126 = .ok (.iconst 1, 1) := by decide +kernel
theorem dX3_insert_127 : decode cX3_insert 127 = .ok (.iadd, 1) := by decide +kernel
theorem dX3_insert_128 : decode cX3_insert 128 = .ok (.ireturn, 1) := by decide +kernel
theorem dX3_variablesIn_0 : decode cX3_variablesIn 0 = .ok (.iconst 0, 1) := by decide +kernel
theorem dX3_variablesIn_1 : decode cX3_variablesIn 1 = .ok (.istore_n 3, 1) := by decide +kernel
theorem dX3_variablesIn_2 : decode cX3_variablesIn 2 = .ok (.iload_n 1, 1) := by decide +kernel
theorem dX3_variablesIn_3 : decode cX3_variablesIn 3 = .ok (.istore 4, 2) := by decide +kernel
theorem dX3_variablesIn_5 : decode cX3_variablesIn 5 = .ok (.iload 4, 2) := by decide +kernel
theorem dX3_variablesIn_7 : decode cX3_variablesIn 7 = .ok (.iload_n 1, 1) := by decide +kernel
theorem dX3_variablesIn_8 : decode cX3_variablesIn 8 = .ok (.iload_n 2, 1) := by decide +kernel
theorem dX3_variablesIn_9 : decode cX3_variablesIn 9 = .ok (.iadd, 1) := by decide +kernel
theorem dX3_variablesIn_10 : decode cX3_variablesIn 10 = .ok (.if_icmp .ge 19, 3) := by decide +kernel
theorem dX3_variablesIn_13 : decode cX3_variablesIn 13 = .ok (.iload_n 3, 1) := by decide +kernel
theorem dX3_variablesIn_14 : decode cX3_variablesIn 14 = .ok (.aload_n 0, 1) := by decide +kernel
theorem dX3_variablesIn_15 : decode cX3_variablesIn 15 = .ok (.getfield 11, 3) := by decide +kernel
theorem dX3_variablesIn_18 : decode cX3_variablesIn 18 = .ok (.iload 4, 2) := by decide +kernel
theorem dX3_variablesIn_20 : decode cX3_variablesIn 20 = .ok (.iaload, 1) := by decide +kernel
theorem dX3_variablesIn_21 : decode cX3_variablesIn 21 = .ok (.ior, 1) := by decide +kernel
theorem dX3_variablesIn_22 : decode cX3_variablesIn 22 = .ok (.istore_n 3, 1) := by decide +kernel
theorem dX3_variablesIn_23 : decode cX3_variablesIn 23 = .ok (.iinc 4 1, 3) := by decide +kernel
theorem dX3_variablesIn_26 : decode cX3_variablesIn 26 = .ok (.goto (-21), 3) := by decide +kernel
theorem dX3_variablesIn_29 : decode cX3_variablesIn 29 = .ok (.iload_n 3, 1) := by decide +kernel
theorem dX3_variablesIn_30 : decode cX3_variablesIn 30 = .ok (.invokestatic 86, 3) := by decide +kernel
theorem dX3_variablesIn_33 : decode cX3_variablesIn 33 = .ok (.ireturn, 1) := by decide +kernel
theorem dX3_variablesConnectedTo_0 : decode cX3_variablesConnectedTo 0 = .ok (.iload_n 1, 1) := by decide +kernel
theorem dX3_variablesConnectedTo_1 : decode cX3_variablesConnectedTo 1 = .ok (.invokestatic 86, 3) := by decide +kernel
theorem dX3_variablesConnectedTo_4 : decode cX3_variablesConnectedTo 4 = .ok (.istore 4, 2) := by decide +kernel
theorem dX3_variablesConnectedTo_6 : decode cX3_variablesConnectedTo 6 = .ok (.iconst 0, 1) := by decide +kernel
theorem dX3_variablesConnectedTo_7 : decode cX3_variablesConnectedTo 7 = .ok (.istore 5, 2) := by decide +kernel
theorem dX3_variablesConnectedTo_9 : decode cX3_variablesConnectedTo 9 = .ok (.iload 5, 2) := by decide +kernel
theorem dX3_variablesConnectedTo_11 : decode cX3_variablesConnectedTo 11 = .ok (.bipush 10, 2) := by decide +kernel
theorem dX3_variablesConnectedTo_13 : decode cX3_variablesConnectedTo 13 = .ok (.if_icmp .ge 67, 3) := by decide +kernel
theorem dX3_variablesConnectedTo_16 : decode cX3_variablesConnectedTo 16 = .ok (.iload 4, 2) := by decide +kernel
theorem dX3_variablesConnectedTo_18 : decode cX3_variablesConnectedTo 18 = .ok (.istore 6, 2) := by decide +kernel
theorem dX3_variablesConnectedTo_20 : decode cX3_variablesConnectedTo 20 = .ok (.iload_n 2, 1) := by decide +kernel
theorem dX3_variablesConnectedTo_21 : decode cX3_variablesConnectedTo 21 = .ok (.istore 7, 2) := by decide +kernel
theorem dX3_variablesConnectedTo_23 : decode cX3_variablesConnectedTo 23 = .ok (.iload 7, 2) := by decide +kernel
theorem dX3_variablesConnectedTo_25 : decode cX3_variablesConnectedTo 25 = .ok (.iload_n 2, 1) := by decide +kernel
theorem dX3_variablesConnectedTo_26 : decode cX3_variablesConnectedTo 26 = .ok (.iload_n 3, 1) := by decide +kernel
theorem dX3_variablesConnectedTo_27 : decode cX3_variablesConnectedTo 27 = .ok (.iadd, 1) := by decide +kernel
theorem dX3_variablesConnectedTo_28 : decode cX3_variablesConnectedTo 28 = .ok (.if_icmp .ge 36, 3) := by decide +kernel
theorem dX3_variablesConnectedTo_31 : decode cX3_variablesConnectedTo 31 = .ok (.aload_n 0, 1) := by decide +kernel
theorem dX3_variablesConnectedTo_32 : decode cX3_variablesConnectedTo 32 = .ok (.getfield 11, 3) := by decide +kernel
theorem dX3_variablesConnectedTo_35 : decode cX3_variablesConnectedTo 35 = .ok (.iload 7, 2) := by decide +kernel
theorem dX3_variablesConnectedTo_37 : decode cX3_variablesConnectedTo 37 = .ok (.iaload, 1) := by decide +kernel
theorem dX3_variablesConnectedTo_38 : decode cX3_variablesConnectedTo 38 = .ok (.invokestatic 86, 3) := by decide +kernel
theorem dX3_variablesConnectedTo_41 : decode cX3_variablesConnectedTo 41 = .ok (.istore 8, 2) := by decide +kernel
theorem dX3_variablesConnectedTo_43 : decode cX3_variablesConnectedTo 43 = .ok (.iload 8, 2) := by decide +kernel
theorem dX3_variablesConnectedTo_45 : decode cX3_variablesConnectedTo 45 = .ok (.iload 4, 2) := by decide +kernel
theorem dX3_variablesConnectedTo_47 : decode cX3_variablesConnectedTo 47 = .ok (.iand, 1) := by decide +kernel
theorem dX3_variablesConnectedTo_48 : decode cX3_variablesConnectedTo 48 = .ok (.ifCond .eq 10, 3) := by decide +kernel
theorem dX3_variablesConnectedTo_51 : decode cX3_variablesConnectedTo 51 = .ok (.iload 4, 2) := by decide +kernel
theorem dX3_variablesConnectedTo_53 : decode cX3_variablesConnectedTo 53 = .ok (.iload 8, 2) := by decide +kernel
theorem dX3_variablesConnectedTo_55 : decode cX3_variablesConnectedTo 55 = .ok (.ior, 1) := by decide +kernel
theorem dX3_variablesConnectedTo_56 : decode cX3_variablesConnectedTo 56 = .ok (.istore 4, 2) := by decide +kernel
theorem dX3_variablesConnectedTo_58 : decode cX3_variablesConnectedTo 58 = .ok (.iinc 7 1, 3) := by decide +kernel
theorem dX3_variablesConnectedTo_61 : decode cX3_variablesConnectedTo 61 = .ok (.goto (-38), 3) := by decide +kernel
theorem dX3_variablesConnectedTo_64 : decode cX3_variablesConnectedTo 64 = .ok (.iload 4, 2) := by decide +kernel
theorem dX3_variablesConnectedTo_66 : decode cX3_variablesConnectedTo 66 = .ok (.iload 6, 2) := by decide +kernel
theorem dX3_variablesConnectedTo_68 : decode cX3_variablesConnectedTo 68 = .ok (.if_icmp .ne 6, 3) := by decide +kernel
theorem dX3_variablesConnectedTo_71 : decode cX3_variablesConnectedTo 71 = .ok (.goto 9, 3) := by decide +kernel
theorem dX3_variablesConnectedTo_74 : decode cX3_variablesConnectedTo 74 = .ok (.iinc 5 1, 3) := by decide +kernel
theorem dX3_variablesConnectedTo_77 : decode cX3_variablesConnectedTo 77 = .ok (.goto (-68), 3) := by decide +kernel
theorem dX3_variablesConnectedTo_80 : decode cX3_variablesConnectedTo 80 = .ok (.iload 4, 2) := by decide +kernel
theorem dX3_variablesConnectedTo_82 : decode cX3_variablesConnectedTo 82 = .ok (.ireturn, 1) := by decide +kernel
theorem dX3_mostFrequentVariable_0 : decode cX3_mostFrequentVariable 0 = .ok (.iconst 1, 1) := by decide +kernel
theorem dX3_mostFrequentVariable_1 : decode cX3_mostFrequentVariable 1 = .ok (.istore_n 3, 1) := by decide +kernel
theorem dX3_mostFrequentVariable_2 : decode cX3_mostFrequentVariable 2 = .ok (.iconst 0, 1) := by decide +kernel
theorem dX3_mostFrequentVariable_3 : decode cX3_mostFrequentVariable 3 = .ok (.istore 4, 2) := by decide +kernel
theorem dX3_mostFrequentVariable_5 : decode cX3_mostFrequentVariable 5 = .ok (.iconst 1, 1) := by decide +kernel
theorem dX3_mostFrequentVariable_6 : decode cX3_mostFrequentVariable 6 = .ok (.istore 5, 2) := by decide +kernel
theorem dX3_mostFrequentVariable_8 : decode cX3_mostFrequentVariable 8 = .ok (.iload 5, 2) := by decide +kernel
theorem dX3_mostFrequentVariable_10 : decode cX3_mostFrequentVariable 10 = .ok (.bipush 10, 2) := by decide +kernel
theorem dX3_mostFrequentVariable_12 : decode cX3_mostFrequentVariable 12 = .ok (.if_icmp .gt 73, 3) := by decide +kernel
theorem dX3_mostFrequentVariable_15 : decode cX3_mostFrequentVariable 15 = .ok (.iload 5, 2) := by decide +kernel
theorem dX3_mostFrequentVariable_17 : decode cX3_mostFrequentVariable 17 = .ok (.invokestatic 112, 3) := by decide +kernel
theorem dX3_mostFrequentVariable_20 : decode cX3_mostFrequentVariable 20 = .ok (.iload 5, 2) := by decide +kernel
theorem dX3_mostFrequentVariable_22 : decode cX3_mostFrequentVariable 22 = .ok (.ineg, 1) := by decide +kernel
theorem dX3_mostFrequentVariable_23 : decode cX3_mostFrequentVariable 23 = .ok (.invokestatic 112, 3) := by decide +kernel
theorem dX3_mostFrequentVariable_26 : decode cX3_mostFrequentVariable 26 = .ok (.ior, 1) := by decide +kernel
theorem dX3_mostFrequentVariable_27 : decode cX3_mostFrequentVariable 27 = .ok (.istore 6, 2) := by decide +kernel
theorem dX3_mostFrequentVariable_29 : decode cX3_mostFrequentVariable 29 = .ok (.iconst 0, 1) := by decide +kernel
theorem dX3_mostFrequentVariable_30 : decode cX3_mostFrequentVariable 30 = .ok (.istore 7, 2) := by decide +kernel
theorem dX3_mostFrequentVariable_32 : decode cX3_mostFrequentVariable 32 = .ok (.iload_n 1, 1) := by decide +kernel
theorem dX3_mostFrequentVariable_33 : decode cX3_mostFrequentVariable 33 = .ok (.istore 8, 2) := by decide +kernel
theorem dX3_mostFrequentVariable_35 : decode cX3_mostFrequentVariable 35 = .ok (.iload 8, 2) := by decide +kernel
theorem dX3_mostFrequentVariable_37 : decode cX3_mostFrequentVariable 37 = .ok (.iload_n 1, 1) := by decide +kernel
theorem dX3_mostFrequentVariable_38 : decode cX3_mostFrequentVariable 38 = .ok (.iload_n 2, 1) := by decide +kernel
theorem dX3_mostFrequentVariable_39 : decode cX3_mostFrequentVariable 39 = .ok (.iadd, 1) := by decide +kernel
theorem dX3_mostFrequentVariable_40 : decode cX3_mostFrequentVariable 40 = .ok (.if_icmp .ge 25, 3) := by decide +kernel
theorem dX3_mostFrequentVariable_43 : decode cX3_mostFrequentVariable 43 = .ok (.aload_n 0, 1) := by decide +kernel
theorem dX3_mostFrequentVariable_44 : decode cX3_mostFrequentVariable 44 = .ok (.getfield 11, 3) := by decide +kernel
theorem dX3_mostFrequentVariable_47 : decode cX3_mostFrequentVariable 47 = .ok (.iload 8, 2) := by decide +kernel
theorem dX3_mostFrequentVariable_49 : decode cX3_mostFrequentVariable 49 = .ok (.iaload, 1) := by decide +kernel
theorem dX3_mostFrequentVariable_50 : decode cX3_mostFrequentVariable 50 = .ok (.iload 6, 2) := by decide +kernel
theorem dX3_mostFrequentVariable_52 : decode cX3_mostFrequentVariable 52 = .ok (.iand, 1) := by decide +kernel
theorem dX3_mostFrequentVariable_53 : decode cX3_mostFrequentVariable 53 = .ok (.ifCond .eq 6, 3) := by decide +kernel
theorem dX3_mostFrequentVariable_56 : decode cX3_mostFrequentVariable 56 = .ok (.iinc 7 1, 3) := by decide +kernel
theorem dX3_mostFrequentVariable_59 : decode cX3_mostFrequentVariable 59 = .ok (.iinc 8 1, 3) := by decide +kernel
theorem dX3_mostFrequentVariable_62 : decode cX3_mostFrequentVariable 62 = .ok (.goto (-27), 3) := by decide +kernel
theorem dX3_mostFrequentVariable_65 : decode cX3_mostFrequentVariable 65 = .ok (.iload 7, 2) := by decide +kernel
theorem dX3_mostFrequentVariable_67 : decode cX3_mostFrequentVariable 67 = .ok (.iload 4, 2) := by decide +kernel
theorem dX3_mostFrequentVariable_69 : decode cX3_mostFrequentVariable 69 = .ok (.if_icmp .le 10, 3) := by decide +kernel
theorem dX3_mostFrequentVariable_72 : decode cX3_mostFrequentVariable 72 = .ok (.iload 5, 2) := by decide +kernel
theorem dX3_mostFrequentVariable_74 : decode cX3_mostFrequentVariable 74 = .ok (.istore_n 3, 1) := by decide +kernel
theorem dX3_mostFrequentVariable_75 : decode cX3_mostFrequentVariable 75 = .ok (.iload 7, 2) := by decide +kernel
theorem dX3_mostFrequentVariable_77 : decode cX3_mostFrequentVariable 77 = .ok (.istore 4, 2) := by decide +kernel
theorem dX3_mostFrequentVariable_79 : decode cX3_mostFrequentVariable 79 = .ok (.iinc 5 1, 3) := by decide +kernel
theorem dX3_mostFrequentVariable_82 : decode cX3_mostFrequentVariable 82 = .ok (.goto (-74), 3) := by decide +kernel
theorem dX3_mostFrequentVariable_85 : decode cX3_mostFrequentVariable 85 = .ok (.iload_n 3, 1) := by decide +kernel
theorem dX3_mostFrequentVariable_86 : decode cX3_mostFrequentVariable 86 = .ok (.ireturn, 1) := by decide +kernel
theorem dX3_bucketOf_0 : decode cX3_bucketOf 0 = .ok (.iload_n 2, 1) := by decide +kernel
theorem dX3_bucketOf_1 : decode cX3_bucketOf 1 = .ok (.istore_n 3, 1) := by decide +kernel
theorem dX3_bucketOf_2 : decode cX3_bucketOf 2 = .ok (.iload_n 1, 1) := by decide +kernel
theorem dX3_bucketOf_3 : decode cX3_bucketOf 3 = .ok (.istore 4, 2) := by decide +kernel
theorem dX3_bucketOf_5 : decode cX3_bucketOf 5 = .ok (.iload 4, 2) := by decide +kernel
theorem dX3_bucketOf_7 : decode cX3_bucketOf 7 = .ok (.iload_n 1, 1) := by decide +kernel
theorem dX3_bucketOf_8 : decode cX3_bucketOf 8 = .ok (.iload_n 2, 1) := by decide +kernel
theorem dX3_bucketOf_9 : decode cX3_bucketOf 9 = .ok (.iadd, 1) := by decide +kernel
theorem dX3_bucketOf_10 : decode cX3_bucketOf 10 = .ok (.if_icmp .ge 22, 3) := by decide +kernel
theorem dX3_bucketOf_13 : decode cX3_bucketOf 13 = .ok (.bipush 31, 2) := by decide +kernel
theorem dX3_bucketOf_15 : decode cX3_bucketOf 15 = .ok (.iload_n 3, 1) := by decide +kernel
theorem dX3_bucketOf_16 : decode cX3_bucketOf 16 = .ok (.imul, 1) := by decide +kernel
theorem dX3_bucketOf_17 : decode cX3_bucketOf 17 = .ok (.aload_n 0, 1) := by decide +kernel
theorem dX3_bucketOf_18 : decode cX3_bucketOf 18 = .ok (.getfield 11, 3) := by decide +kernel
theorem dX3_bucketOf_21 : decode cX3_bucketOf 21 = .ok (.iload 4, 2) := by decide +kernel
theorem dX3_bucketOf_23 : decode cX3_bucketOf 23 = .ok (.iaload, 1) := by decide +kernel
theorem dX3_bucketOf_24 : decode cX3_bucketOf 24 = .ok (.iadd, 1) := by decide +kernel
theorem dX3_bucketOf_25 : decode cX3_bucketOf 25 = .ok (.istore_n 3, 1) := by decide +kernel
theorem dX3_bucketOf_26 : decode cX3_bucketOf 26 = .ok (.iinc 4 1, 3) := by decide +kernel
theorem dX3_bucketOf_29 : decode cX3_bucketOf 29 = .ok (.goto (-24), 3) := by decide +kernel
theorem dX3_bucketOf_32 : decode cX3_bucketOf 32 = .ok (.iload_n 3, 1) := by decide +kernel
theorem dX3_bucketOf_33 : decode cX3_bucketOf 33 = .ok (.iload_n 3, 1) := by decide +kernel
theorem dX3_bucketOf_34 : decode cX3_bucketOf 34 = .ok (.bipush 7, 2) := by decide +kernel
theorem dX3_bucketOf_36 : decode cX3_bucketOf 36 = .ok (.iushr, 1) := by decide +kernel
theorem dX3_bucketOf_37 : decode cX3_bucketOf 37 = .ok (.ixor, 1) := by decide +kernel
theorem dX3_bucketOf_38 : decode cX3_bucketOf 38 = .ok (.iload_n 3, 1) := by decide +kernel
theorem dX3_bucketOf_39 : decode cX3_bucketOf 39 = .ok (.bipush 15, 2) := by decide +kernel
theorem dX3_bucketOf_41 : decode cX3_bucketOf 41 = .ok (.iushr, 1) := by decide +kernel
theorem dX3_bucketOf_42 : decode cX3_bucketOf 42 = .ok (.ixor, 1) := by decide +kernel
theorem dX3_bucketOf_43 : decode cX3_bucketOf 43 = .ok (.bipush 63, 2) := by decide +kernel
theorem dX3_bucketOf_45 : decode cX3_bucketOf 45 = .ok (.iand, 1) := by decide +kernel
theorem dX3_bucketOf_46 : decode cX3_bucketOf 46 = .ok (.ireturn, 1) := by decide +kernel
theorem dX3_findNode_0 : decode cX3_findNode 0 = .ok (.aload_n 0, 1) := by decide +kernel
theorem dX3_findNode_1 : decode cX3_findNode 1 = .ok (.getfield 15, 3) := by decide +kernel
theorem dX3_findNode_4 : decode cX3_findNode 4 = .ok (.iload_n 1, 1) := by decide +kernel
theorem dX3_findNode_5 : decode cX3_findNode 5 = .ok (.iaload, 1) := by decide +kernel
theorem dX3_findNode_6 : decode cX3_findNode 6 = .ok (.istore 4, 2) := by decide +kernel
theorem dX3_findNode_8 : decode cX3_findNode 8 = .ok (.iconst 0, 1) := by decide +kernel
theorem dX3_findNode_9 : decode cX3_findNode 9 = .ok (.istore 5, 2) := by decide +kernel
theorem dX3_findNode_11 : decode cX3_findNode 11 = .ok (.iload 5, 2) := by decide +kernel
theorem dX3_findNode_13 : decode cX3_findNode 13 = .ok (.aload_n 0, 1) := by decide +kernel
theorem dX3_findNode_14 : decode cX3_findNode 14 = .ok (.getfield 36, 3) := by decide +kernel
theorem dX3_findNode_17 : decode cX3_findNode 17 = .ok (.if_icmp .ge 46, 3) := by decide +kernel
theorem dX3_findNode_20 : decode cX3_findNode 20 = .ok (.iload 4, 2) := by decide +kernel
theorem dX3_findNode_22 : decode cX3_findNode 22 = .ok (.ifCond .lt 41, 3) := by decide +kernel
theorem dX3_findNode_25 : decode cX3_findNode 25 = .ok (.iload 4, 2) := by decide +kernel
theorem dX3_findNode_27 : decode cX3_findNode 27 = .ok (.aload_n 0, 1) := by decide +kernel
theorem dX3_findNode_28 : decode cX3_findNode 28 = .ok (.getfield 36, 3) := by decide +kernel
theorem dX3_findNode_31 : decode cX3_findNode 31 = .ok (.if_icmp .ge 32, 3) := by decide +kernel
theorem dX3_findNode_34 : decode cX3_findNode 34 = .ok (.aload_n 0, 1) := by decide +kernel
theorem dX3_findNode_35 : decode cX3_findNode 35 = .ok (.iload 4, 2) := by decide +kernel
theorem dX3_findNode_37 : decode cX3_findNode 37 = .ok (.iload_n 2, 1) := by decide +kernel
theorem dX3_findNode_38 : decode cX3_findNode 38 = .ok (.iload_n 3, 1) := by decide +kernel
theorem dX3_findNode_39 : decode cX3_findNode 39 = .ok (.invokevirtual 132, 3) := by decide +kernel
theorem dX3_findNode_42 : decode cX3_findNode 42 = .ok (.ifCond .eq 6, 3) := by decide +kernel
theorem dX3_findNode_45 : decode cX3_findNode 45 = .ok (.iload 4, 2) := by decide +kernel
theorem dX3_findNode_47 : decode cX3_findNode 47 = .ok (.ireturn, 1) := by decide +kernel
theorem dX3_findNode_48 : decode cX3_findNode 48 = .ok (.aload_n 0, 1) := by decide +kernel
theorem dX3_findNode_49 : decode cX3_findNode 49 = .ok (.getfield 27, 3) := by decide +kernel
theorem dX3_findNode_52 : decode cX3_findNode 52 = .ok (.iload 4, 2) := by decide +kernel
theorem dX3_findNode_54 : decode cX3_findNode 54 = .ok (.iaload, 1) := by decide +kernel
theorem dX3_findNode_55 : decode cX3_findNode 55 = .ok (.istore 4, 2) := by decide +kernel
theorem dX3_findNode_57 : decode cX3_findNode 57 = .ok (.iinc 5 1, 3) := by decide +kernel
theorem dX3_findNode_60 : decode cX3_findNode 60 = .ok (.goto (-49), 3) := by decide +kernel
theorem dX3_findNode_63 : decode cX3_findNode 63 = .ok (.iconst (-1), 1) := by decide +kernel
theorem dX3_findNode_64 : decode cX3_findNode 64 = .ok (.ireturn, 1) := by decide +kernel
theorem dX3_hasRow_0 : decode cX3_hasRow 0 = .ok (.aload_n 0, 1) := by decide +kernel
theorem dX3_hasRow_1 : decode cX3_hasRow 1 = .ok (.getfield 21, 3) := by decide +kernel
theorem dX3_hasRow_4 : decode cX3_hasRow 4 = .ok (.iload_n 1, 1) := by decide +kernel
theorem dX3_hasRow_5 : decode cX3_hasRow 5 = .ok (.iaload, 1) := by decide +kernel
theorem dX3_hasRow_6 : decode cX3_hasRow 6 = .ok (.iload_n 3, 1) := by decide +kernel
theorem dX3_hasRow_7 : decode cX3_hasRow 7 = .ok (.if_icmp .eq 5, 3) := by decide +kernel
theorem dX3_hasRow_10 : decode cX3_hasRow 10 = .ok (.iconst 0, 1) := by decide +kernel
theorem dX3_hasRow_11 : decode cX3_hasRow 11 = .ok (.ireturn, 1) := by decide +kernel
theorem dX3_hasRow_12 : decode cX3_hasRow 12 = .ok (.iconst 0, 1) := by decide +kernel
theorem dX3_hasRow_13 : decode cX3_hasRow 13 = .ok (.istore 4, 2) := by decide +kernel
theorem dX3_hasRow_15 : decode cX3_hasRow 15 = .ok (.iload 4, 2) := by decide +kernel
theorem dX3_hasRow_17 : decode cX3_hasRow 17 = .ok (.iload_n 3, 1) := by decide +kernel
theorem dX3_hasRow_18 : decode cX3_hasRow 18 = .ok (.if_icmp .ge 35, 3) := by decide +kernel
theorem dX3_hasRow_21 : decode cX3_hasRow 21 = .ok (.aload_n 0, 1) := by decide +kernel
theorem dX3_hasRow_22 : decode cX3_hasRow 22 = .ok (.getfield 18, 3) := by decide +kernel
theorem dX3_hasRow_25 : decode cX3_hasRow 25 = .ok (.iload_n 1, 1) := by decide +kernel
theorem dX3_hasRow_26 : decode cX3_hasRow 26 = .ok (.bipush 16, 2) := by decide +kernel
theorem dX3_hasRow_28 : decode cX3_hasRow 28 = .ok (.imul, 1) := by decide +kernel
theorem dX3_hasRow_29 : decode cX3_hasRow 29 = .ok (.iload 4, 2) := by decide +kernel
theorem dX3_hasRow_31 : decode cX3_hasRow 31 = .ok (.iadd, 1) := by decide +kernel
theorem dX3_hasRow_32 : decode cX3_hasRow 32 = .ok (.iaload, 1) := by decide +kernel
theorem dX3_hasRow_33 : decode cX3_hasRow 33 = .ok (.aload_n 0, 1) := by decide +kernel
theorem dX3_hasRow_34 : decode cX3_hasRow 34 = .ok (.getfield 11, 3) := by decide +kernel
theorem dX3_hasRow_37 : decode cX3_hasRow 37 = .ok (.iload_n 2, 1) := by decide +kernel
theorem dX3_hasRow_38 : decode cX3_hasRow 38 = .ok (.iload 4, 2) := by decide +kernel
theorem dX3_hasRow_40 : decode cX3_hasRow 40 = .ok (.iadd, 1) := by decide +kernel
theorem dX3_hasRow_41 : decode cX3_hasRow 41 = .ok (.iaload, 1) := by decide +kernel
theorem dX3_hasRow_42 : decode cX3_hasRow 42 = .ok (.if_icmp .eq 5, 3) := by decide +kernel
theorem dX3_hasRow_45 : decode cX3_hasRow 45 = .ok (.iconst 0, 1) := by decide +kernel
theorem dX3_hasRow_46 : decode cX3_hasRow 46 = .ok (.ireturn, 1) := by decide +kernel
theorem dX3_hasRow_47 : decode cX3_hasRow 47 = .ok (.iinc 4 1, 3) := by decide +kernel
theorem dX3_hasRow_50 : decode cX3_hasRow 50 = .ok (.goto (-35), 3) := by decide +kernel
theorem dX3_hasRow_53 : decode cX3_hasRow 53 = .ok (.iconst 1, 1) := by decide +kernel
theorem dX3_hasRow_54 : decode cX3_hasRow 54 = .ok (.ireturn, 1) := by decide +kernel
theorem dX3_addNode_0 : decode cX3_addNode 0 = .ok (.aload_n 0, 1) := by decide +kernel
theorem dX3_addNode_1 : decode cX3_addNode 1 = .ok (.getfield 36, 3) := by decide +kernel
theorem dX3_addNode_4 : decode cX3_addNode 4 = .ok (.aload_n 0, 1) := by decide +kernel
theorem dX3_addNode_5 : decode cX3_addNode 5 = .ok (.getfield 21, 3) := by decide +kernel
theorem dX3_addNode_8 : decode cX3_addNode 8 = .ok (.arraylength, 1) := by decide +kernel
theorem dX3_addNode_9 : decode cX3_addNode 9 = .ok (.if_icmp .lt 7, 3) := by decide +kernel
theorem dX3_addNode_12 : decode cX3_addNode 12 = .ok (.aload_n 0, 1) := by decide +kernel
theorem dX3_addNode_13 : decode cX3_addNode 13 = .ok (.invokevirtual 136, 3) := by decide +kernel
theorem dX3_addNode_16 : decode cX3_addNode 16 = .ok (.aload_n 0, 1) := by decide +kernel
theorem dX3_addNode_17 : decode cX3_addNode 17 = .ok (.getfield 36, 3) := by decide +kernel
theorem dX3_addNode_20 : decode cX3_addNode 20 = .ok (.aload_n 0, 1) := by decide +kernel
theorem dX3_addNode_21 : decode cX3_addNode 21 = .ok (.getfield 21, 3) := by decide +kernel
theorem dX3_addNode_24 : decode cX3_addNode 24 = .ok (.arraylength, 1) := by decide +kernel
theorem dX3_addNode_25 : decode cX3_addNode 25 = .ok (.if_icmp .lt 4, 3) := by decide +kernel
theorem dX3_addNode_28 : decode cX3_addNode 28 = .ok (.return_, 1) := by decide +kernel
theorem dX3_addNode_29 : decode cX3_addNode 29 = .ok (.aload_n 0, 1) := by decide +kernel
theorem dX3_addNode_30 : decode cX3_addNode 30 = .ok (.getfield 11, 3) := by decide +kernel
theorem dX3_addNode_33 : decode cX3_addNode 33 = .ok (.iload_n 2, 1) := by decide +kernel
theorem dX3_addNode_34 : decode cX3_addNode 34 = .ok (.aload_n 0, 1) := by decide +kernel
theorem dX3_addNode_35 : decode cX3_addNode 35 = .ok (.getfield 18, 3) := by decide +kernel
theorem dX3_addNode_38 : decode cX3_addNode 38 = .ok (.aload_n 0, 1) := by decide +kernel
theorem dX3_addNode_39 : decode cX3_addNode 39 = .ok (.getfield 36, 3) := by decide +kernel
theorem dX3_addNode_42 : decode cX3_addNode 42 = .ok (.bipush 16, 2) := by decide +kernel
theorem dX3_addNode_44 : decode cX3_addNode 44 = .ok (.imul, 1) := by decide +kernel
theorem dX3_addNode_45 : decode cX3_addNode 45 = .ok (.iload_n 3, 1) := by decide +kernel
theorem dX3_addNode_46 : decode cX3_addNode 46 = .ok (.invokestatic 139, 3) := by decide +kernel
theorem dX3_addNode_49 : decode cX3_addNode 49 = .ok (.aload_n 0, 1) := by decide +kernel
theorem dX3_addNode_50 : decode cX3_addNode 50 = .ok (.getfield 21, 3) := by decide +kernel
theorem dX3_addNode_53 : decode cX3_addNode 53 = .ok (.aload_n 0, 1) := by decide +kernel
theorem dX3_addNode_54 : decode cX3_addNode 54 = .ok (.getfield 36, 3) := by decide +kernel
theorem dX3_addNode_57 : decode cX3_addNode 57 = .ok (.iload_n 3, 1) := by decide +kernel
theorem dX3_addNode_58 : decode cX3_addNode 58 = .ok (.iastore, 1) := by decide +kernel
theorem dX3_addNode_59 : decode cX3_addNode 59 = .ok (.aload_n 0, 1) := by decide +kernel
theorem dX3_addNode_60 : decode cX3_addNode 60 = .ok (.getfield 24, 3) := by decide +kernel
theorem dX3_addNode_63 : decode cX3_addNode 63 = .ok (.aload_n 0, 1) := by decide +kernel
theorem dX3_addNode_64 : decode cX3_addNode 64 = .ok (.getfield 36, 3) := by decide +kernel
theorem dX3_addNode_67 : decode cX3_addNode 67 = .ok (.iload 4, 2) := by decide +kernel
theorem dX3_addNode_69 : decode cX3_addNode 69 = .ok (.iastore, 1) := by decide +kernel
theorem dX3_addNode_70 : decode cX3_addNode 70 = .ok (.aload_n 0, 1) := by decide +kernel
theorem dX3_addNode_71 : decode cX3_addNode 71 = .ok (.getfield 27, 3) := by decide +kernel
theorem dX3_addNode_74 : decode cX3_addNode 74 = .ok (.aload_n 0, 1) := by decide +kernel
theorem dX3_addNode_75 : decode cX3_addNode 75 = .ok (.getfield 36, 3) := by decide +kernel
theorem dX3_addNode_78 : decode cX3_addNode 78 = .ok (.aload_n 0, 1) := by decide +kernel
theorem dX3_addNode_79 : decode cX3_addNode 79 = .ok (.getfield 15, 3) := by decide +kernel
theorem dX3_addNode_82 : decode cX3_addNode 82 = .ok (.iload_n 1, 1) := by decide +kernel
theorem dX3_addNode_83 : decode cX3_addNode 83 = .ok (.iaload, 1) := by decide +kernel
theorem dX3_addNode_84 : decode cX3_addNode 84 = .ok (.iastore, 1) := by decide +kernel
theorem dX3_addNode_85 : decode cX3_addNode 85 = .ok (.aload_n 0, 1) := by decide +kernel
theorem dX3_addNode_86 : decode cX3_addNode 86 = .ok (.getfield 15, 3) := by decide +kernel
theorem dX3_addNode_89 : decode cX3_addNode 89 = .ok (.iload_n 1, 1) := by decide +kernel
theorem dX3_addNode_90 : decode cX3_addNode 90 = .ok (.aload_n 0, 1) := by decide +kernel
theorem dX3_addNode_91 : decode cX3_addNode 91 = .ok (.getfield 36, 3) := by decide +kernel
theorem dX3_addNode_94 : decode cX3_addNode 94 = .ok (.iastore, 1) := by decide +kernel
theorem dX3_addNode_95 : decode cX3_addNode 95 = .ok (.aload_n 0, 1) := by decide +kernel
theorem dX3_addNode_96 : decode cX3_addNode 96 = .ok (.dup, 1) := by decide +kernel
theorem dX3_addNode_97 : decode cX3_addNode 97 = .ok (.getfield 36, 3) := by decide +kernel
theorem dX3_addNode_100 : decode cX3_addNode 100 = .ok (.iconst 1, 1) := by decide +kernel
theorem dX3_addNode_101 : decode cX3_addNode 101 = .ok (.iadd, 1) := by decide +kernel
theorem dX3_addNode_102 : decode cX3_addNode 102 = .ok (.putfield 36, 3) := by decide +kernel
theorem dX3_addNode_105 : decode cX3_addNode 105 = .ok (.return_, 1) := by decide +kernel
theorem dX3_makeRoom_0 : decode cX3_makeRoom 0 = .ok (.iconst 2, 1) := by decide +kernel
theorem dX3_makeRoom_1 : decode cX3_makeRoom 1 = .ok (.aload_n 0, 1) := by decide +kernel
theorem dX3_makeRoom_2 : decode cX3_makeRoom 2 = .ok (.getfield 21, 3) := by decide +kernel
theorem dX3_makeRoom_5 : decode cX3_makeRoom 5 = .ok (.arraylength, 1) := by decide +kernel
theorem dX3_makeRoom_6 : decode cX3_makeRoom 6 = .ok (.imul, 1) := by decide +kernel
theorem dX3_makeRoom_7 : decode cX3_makeRoom 7 = .ok (.istore_n 1, 1) := by decide +kernel
theorem dX3_makeRoom_8 : decode cX3_makeRoom 8 = .ok (.iload_n 1, 1) := by decide +kernel
theorem dX3_makeRoom_9 : decode cX3_makeRoom 9 = .ok (.sipush 1024, 3) := by decide +kernel
theorem dX3_makeRoom_12 : decode cX3_makeRoom 12 = .ok (.if_icmp .le 4, 3) := by decide +kernel
theorem dX3_makeRoom_15 : decode cX3_makeRoom 15 = .ok (.return_, 1) := by decide +kernel
theorem dX3_makeRoom_16 : decode cX3_makeRoom 16 = .ok (.aload_n 0, 1) := by decide +kernel
theorem dX3_makeRoom_17 : decode cX3_makeRoom 17 = .ok (.aload_n 0, 1) := by decide +kernel
theorem dX3_makeRoom_18 : decode cX3_makeRoom 18 = .ok (.getfield 18, 3) := by decide +kernel
theorem dX3_makeRoom_21 : decode cX3_makeRoom 21 = .ok (.iload_n 1, 1) := by decide +kernel
theorem dX3_makeRoom_22 : decode cX3_makeRoom 22 = .ok (.bipush 16, 2) := by decide +kernel
theorem dX3_makeRoom_24 : decode cX3_makeRoom 24 = .ok (.imul, 1) := by decide +kernel
theorem dX3_makeRoom_25 : decode cX3_makeRoom 25 = .ok (.invokestatic 145, 3) := by decide +kernel
theorem dX3_makeRoom_28 : decode cX3_makeRoom 28 = .ok (.putfield 18, 3) := by decide +kernel
theorem dX3_makeRoom_31 : decode cX3_makeRoom 31 = .ok (.aload_n 0, 1) := by decide +kernel
theorem dX3_makeRoom_32 : decode cX3_makeRoom 32 = .ok (.aload_n 0, 1) := by decide +kernel
theorem dX3_makeRoom_33 : decode cX3_makeRoom 33 = .ok (.getfield 21, 3) := by decide +kernel
theorem dX3_makeRoom_36 : decode cX3_makeRoom 36 = .ok (.iload_n 1, 1) := by decide +kernel
theorem dX3_makeRoom_37 : decode cX3_makeRoom 37 = .ok (.invokestatic 145, 3) := by decide +kernel
end
section
theorem dX3_makeRoom_40 : decode cX3_makeRoom 40 = .ok (.putfield 21, 3) := by decide +kernel
theorem dX3_makeRoom_43 : decode cX3_makeRoom 43 = .ok (.aload_n 0, 1) := by decide +kernel
theorem dX3_makeRoom_44 : decode cX3_makeRoom 44 = .ok (.aload_n 0, 1) := by decide +kernel
theorem dX3_makeRoom_45 : decode cX3_makeRoom 45 = .ok (.getfield 24, 3) := by decide +kernel
theorem dX3_makeRoom_48 : decode cX3_makeRoom 48 = .ok (.iload_n 1, 1) := by decide +kernel
theorem dX3_makeRoom_49 : decode cX3_makeRoom 49 = .ok (.invokestatic 145, 3) := by decide +kernel
theorem dX3_makeRoom_52 : decode cX3_makeRoom 52 = .ok (.putfield 24, 3) := by decide +kernel
theorem dX3_makeRoom_55 : decode cX3_makeRoom 55 = .ok (.aload_n 0, 1) := by decide +kernel
theorem dX3_makeRoom_56 : decode cX3_makeRoom 56 = .ok (.aload_n 0, 1) := by decide +kernel
theorem dX3_makeRoom_57 : decode cX3_makeRoom 57 = .ok (.getfield 27, 3) := by decide +kernel
theorem dX3_makeRoom_60 : decode cX3_makeRoom 60 = .ok (.iload_n 1, 1) := by decide +kernel
theorem dX3_makeRoom_61 : decode cX3_makeRoom 61 = .ok (.invokestatic 145, 3) := by decide +kernel
theorem dX3_makeRoom_64 : decode cX3_makeRoom 64 = .ok (.putfield 27, 3) := by decide +kernel
theorem dX3_makeRoom_67 : decode cX3_makeRoom 67 = .ok (.return_, 1) := by decide +kernel
theorem dX4_init_0 : decode cX4_init 0 = .ok (.aload_n 0, 1) := by decide +kernel
theorem dX4_init_1 : decode cX4_init 1 = .ok (.invokespecial 3, 3) := by decide +kernel
theorem dX4_init_4 : decode cX4_init 4 = .ok (.aload_n 0, 1) := by decide +kernel
theorem dX4_init_5 : decode cX4_init 5 = .ok (.iconst 5, 1) := by decide +kernel
theorem dX4_init_6 : decode cX4_init 6 = .ok (.anewarray 9, 3) := by decide +kernel
theorem dX4_init_9 : decode cX4_init 9 = .ok (.putfield 11, 3) := by decide +kernel
theorem dX4_init_12 : decode cX4_init 12 = .ok (.iconst 0, 1) := by decide +kernel
theorem dX4_init_13 : decode cX4_init 13 = .ok (.istore_n 1, 1) := by decide +kernel
theorem dX4_init_14 : decode cX4_init 14 = .ok (.iload_n 1, 1) := by decide +kernel
theorem dX4_init_15 : decode cX4_init 15 = .ok (.iconst 5, 1) := by decide +kernel
theorem dX4_init_16 : decode cX4_init 16 = .ok (.if_icmp .ge 22, 3) := by decide +kernel
theorem dX4_init_19 : decode cX4_init 19 = .ok (.aload_n 0, 1) := by decide +kernel
theorem dX4_init_20 : decode cX4_init 20 = .ok (.getfield 11, 3) := by decide +kernel
theorem dX4_init_23 : decode cX4_init 23 = .ok (.iload_n 1, 1) := by decide +kernel
theorem dX4_init_24 : decode cX4_init 24 = .ok (.new 9, 3) := by decide +kernel
theorem dX4_init_27 : decode cX4_init 27 = .ok (.dup, 1) := by decide +kernel
theorem dX4_init_28 : decode cX4_init 28 = .ok (.invokespecial 17, 3) := by decide +kernel
theorem dX4_init_31 : decode cX4_init 31 = .ok (.aastore, 1) := by decide +kernel
theorem dX4_init_32 : decode cX4_init 32 = .ok (.iinc 1 1, 3) := by decide +kernel
theorem dX4_init_35 : decode cX4_init 35 = .ok (.goto (-21), 3) := by decide +kernel
theorem dX4_init_38 : decode cX4_init 38 = .ok (.aload_n 0, 1) := by decide +kernel
theorem dX4_init_39 : decode cX4_init 39 = .ok (.iconst 0, 1) := by decide +kernel
theorem dX4_init_40 : decode cX4_init 40 = .ok (.putfield 18, 3) := by decide +kernel
theorem dX4_init_43 : decode cX4_init 43 = .ok (.return_, 1) := by decide +kernel
theorem dX4_save_0 : decode cX4_save 0 = .ok (.aload_n 0, 1) := by decide +kernel
theorem dX4_save_1 : decode cX4_save 1 = .ok (.getfield 18, 3) := by decide +kernel
theorem dX4_save_4 : decode cX4_save 4 = .ok (.iconst 5, 1) := by decide +kernel
theorem dX4_save_5 : decode cX4_save 5 = .ok (.if_icmp .lt 7, 3) := by decide +kernel
theorem dX4_save_8 : decode cX4_save 8 = .ok (.aload_n 0, 1) := by decide +kernel
theorem dX4_save_9 : decode cX4_save 9 = .ok (.invokevirtual 22, 3) := by decide +kernel
theorem dX4_save_12 : decode cX4_save 12 = .ok (.aload_n 0, 1) := by decide +kernel
theorem dX4_save_13 : decode cX4_save 13 = .ok (.getfield 11, 3) := by decide +kernel
theorem dX4_save_16 : decode cX4_save 16 = .ok (.aload_n 0, 1) := by decide +kernel
theorem dX4_save_17 : decode cX4_save 17 = .ok (.getfield 18, 3) := by decide +kernel
theorem dX4_save_20 : decode cX4_save 20 = .ok (.aaload, 1) := by decide +kernel
theorem dX4_save_21 : decode cX4_save 21 = .ok (.astore_n 2, 1) := by decide +kernel
theorem dX4_save_22 : decode cX4_save 22 = .ok (.aload_n 2, 1) := by decide +kernel
theorem dX4_save_23 : decode cX4_save 23 = .ok (.ifnull 18, 3) := by decide +kernel
theorem dX4_save_26 : decode cX4_save 26 = .ok (.aload_n 2, 1) := by decide +kernel
theorem dX4_save_27 : decode cX4_save 27 = .ok (.aload_n 1, 1) := by decide +kernel
theorem dX4_save_28 : decode cX4_save 28 = .ok (.invokevirtual 25, 3) := by decide +kernel
theorem dX4_save_31 : decode cX4_save 31 = .ok (.aload_n 0, 1) := by decide +kernel
theorem dX4_save_32 : decode cX4_save 32 = .ok (.dup, 1) := by decide +kernel
theorem dX4_save_33 : decode cX4_save 33 = .ok (.getfield 18, 3) := by decide +kernel
theorem dX4_save_36 : decode cX4_save 36 = .ok (.iconst 1, 1) := by decide +kernel
theorem dX4_save_37 : decode cX4_save 37 = .ok (.iadd, 1) := by decide +kernel
theorem dX4_save_38 : decode cX4_save 38 = .ok (.putfield 18, 3) := by decide +kernel
theorem dX4_save_41 : decode cX4_save 41 = .ok (.return_, 1) := by decide +kernel
theorem dX4_dropOldest_0 : decode cX4_dropOldest 0 = .ok (.aload_n 0, 1) := by decide +kernel
theorem dX4_dropOldest_1 : decode cX4_dropOldest 1 = .ok (.getfield 11, 3) := by decide +kernel
theorem dX4_dropOldest_4 : decode cX4_dropOldest 4 = .ok (.iconst 0, 1) := by decide +kernel
theorem dX4_dropOldest_5 : decode cX4_dropOldest 5 = .ok (.aaload, 1) := by decide +kernel
theorem dX4_dropOldest_6 : decode cX4_dropOldest 6 = .ok (.astore_n 1, 1) := by decide +kernel
theorem dX4_dropOldest_7 : decode cX4_dropOldest 7 = .ok (.iconst 0, 1) := by decide +kernel
theorem dX4_dropOldest_8 : decode cX4_dropOldest 8 = .ok (.istore_n 2, 1) := by decide +kernel
theorem dX4_dropOldest_9 : decode cX4_dropOldest 9 = .ok (.iload_n 2, 1) := by decide +kernel
theorem dX4_dropOldest_10 : decode cX4_dropOldest 10 = .ok (.iconst 1, 1) := by decide +kernel
theorem dX4_dropOldest_11 : decode cX4_dropOldest 11 = .ok (.iadd, 1) := by decide +kernel
theorem dX4_dropOldest_12 : decode cX4_dropOldest 12 = .ok (.iconst 5, 1) := by decide +kernel
theorem dX4_dropOldest_13 : decode cX4_dropOldest 13 = .ok (.if_icmp .ge 23, 3) := by decide +kernel
theorem dX4_dropOldest_16 : decode cX4_dropOldest 16 = .ok (.aload_n 0, 1) := by decide +kernel
theorem dX4_dropOldest_17 : decode cX4_dropOldest 17 = .ok (.getfield 11, 3) := by decide +kernel
theorem dX4_dropOldest_20 : decode cX4_dropOldest 20 = .ok (.iload_n 2, 1) := by decide +kernel
theorem dX4_dropOldest_21 : decode cX4_dropOldest 21 = .ok (.aload_n 0, 1) := by decide +kernel
theorem dX4_dropOldest_22 : decode cX4_dropOldest 22 = .ok (.getfield 11, 3) := by decide +kernel
theorem dX4_dropOldest_25 : decode cX4_dropOldest 25 = .ok (.iload_n 2, 1) := by decide +kernel
theorem dX4_dropOldest_26 : decode cX4_dropOldest 26 = .ok (.iconst 1, 1) := by decide +kernel
theorem dX4_dropOldest_27 : decode cX4_dropOldest 27 = .ok (.iadd, 1) := by decide +kernel
theorem dX4_dropOldest_28 : decode cX4_dropOldest 28 = .ok (.aaload, 1) := by decide +kernel
theorem dX4_dropOldest_29 : decode cX4_dropOldest 29 = .ok (.aastore, 1) := by decide +kernel
theorem dX4_dropOldest_30 : decode cX4_dropOldest 30 = .ok (.iinc 2 1, 3) := by decide +kernel
theorem dX4_dropOldest_33 : decode cX4_dropOldest 33 = .ok (.goto (-24), 3) := by decide +kernel
theorem dX4_dropOldest_36 : decode cX4_dropOldest 36 = .ok (.aload_n 0, 1) := by decide +kernel
theorem dX4_dropOldest_37 : decode cX4_dropOldest 37 = .ok (.getfield 11, 3) := by decide +kernel
theorem dX4_dropOldest_40 : decode cX4_dropOldest 40 = .ok (.iconst 4, 1) := by decide +kernel
theorem dX4_dropOldest_41 : decode cX4_dropOldest 41 = .ok (.aload_n 1, 1) := by decide +kernel
theorem dX4_dropOldest_42 : decode cX4_dropOldest 42 = .ok (.aastore, 1) := by decide +kernel
theorem dX4_dropOldest_43 : decode cX4_dropOldest 43 = .ok (.aload_n 0, 1) := by decide +kernel
theorem dX4_dropOldest_44 : decode cX4_dropOldest 44 = .ok (.iconst 4, 1) := by decide +kernel
theorem dX4_dropOldest_45 : decode cX4_dropOldest 45 = .ok (.putfield 18, 3) := by decide +kernel
theorem dX4_dropOldest_48 : decode cX4_dropOldest 48 = .ok (.return_, 1) := by decide +kernel
theorem dX4_restoreInto_0 : decode cX4_restoreInto 0 = .ok (.aload_n 0, 1) := by decide +kernel
theorem dX4_restoreInto_1 : decode cX4_restoreInto 1 = .ok (.getfield 18, 3) := by decide +kernel
theorem dX4_restoreInto_4 : decode cX4_restoreInto 4 = .ok (.ifCond .gt 4, 3) := by decide +kernel
theorem dX4_restoreInto_7 : decode cX4_restoreInto 7 = .ok (.return_, 1) := by decide +kernel
theorem dX4_restoreInto_8 : decode cX4_restoreInto 8 = .ok (.aload_n 0, 1) := by decide +kernel
theorem dX4_restoreInto_9 : decode cX4_restoreInto 9 = .ok (.dup, 1) := by decide +kernel
theorem dX4_restoreInto_10 : decode cX4_restoreInto 10 = .ok (.getfield 18, 3) := by decide +kernel
theorem dX4_restoreInto_13 : decode cX4_restoreInto 13 = .ok (.iconst 1, 1) := by decide +kernel
theorem dX4_restoreInto_14 : decode cX4_restoreInto 14 = .ok (.isub, 1) := by decide +kernel
theorem dX4_restoreInto_15 : decode cX4_restoreInto 15 = .ok (.putfield 18, 3) := by decide +kernel
theorem dX4_restoreInto_18 : decode cX4_restoreInto 18 = .ok (.aload_n 0, 1) := by decide +kernel
theorem dX4_restoreInto_19 : decode cX4_restoreInto 19 = .ok (.getfield 11, 3) := by decide +kernel
theorem dX4_restoreInto_22 : decode cX4_restoreInto 22 = .ok (.aload_n 0, 1) := by decide +kernel
theorem dX4_restoreInto_23 : decode cX4_restoreInto 23 = .ok (.getfield 18, 3) := by decide +kernel
theorem dX4_restoreInto_26 : decode cX4_restoreInto 26 = .ok (.aaload, 1) := by decide +kernel
theorem dX4_restoreInto_27 : decode cX4_restoreInto 27 = .ok (.astore_n 2, 1) := by decide +kernel
theorem dX4_restoreInto_28 : decode cX4_restoreInto 28 = .ok (.aload_n 2, 1) := by decide +kernel
theorem dX4_restoreInto_29 : decode cX4_restoreInto 29 = .ok (.ifnull 8, 3) := by decide +kernel
theorem dX4_restoreInto_32 : decode cX4_restoreInto 32 = .ok (.aload_n 1, 1) := by decide +kernel
theorem dX4_restoreInto_33 : decode cX4_restoreInto 33 = .ok (.aload_n 2, 1) := by decide +kernel
theorem dX4_restoreInto_34 : decode cX4_restoreInto 34 = .ok (.invokevirtual 25, 3) := by decide +kernel
theorem dX4_restoreInto_37 : decode cX4_restoreInto 37 = .ok (.return_, 1) := by decide +kernel
theorem dX5_init_0 : decode cX5_init 0 = .ok (.aload_n 0, 1) := by decide +kernel
theorem dX5_init_1 : decode cX5_init 1 = .ok (.invokespecial 3, 3) := by decide +kernel
theorem dX5_init_4 : decode cX5_init 4 = .ok (.aload_n 0, 1) := by decide +kernel
theorem dX5_init_5 : decode cX5_init 5 = .ok (.bipush 16, 2) := by decide +kernel
theorem dX5_init_7 : decode cX5_init 7 = .ok (.newarray .long, 2) := by decide +kernel
theorem dX5_init_9 : decode cX5_init 9 = .ok (.putfield 9, 3) := by decide +kernel
theorem dX5_init_12 : decode cX5_init 12 = .ok (.aload_n 0, 1) := by decide +kernel
theorem dX5_init_13 : decode cX5_init 13 = .ok (.bipush 16, 2) := by decide +kernel
theorem dX5_init_15 : decode cX5_init 15 = .ok (.newarray .long, 2) := by decide +kernel
theorem dX5_init_17 : decode cX5_init 17 = .ok (.putfield 15, 3) := by decide +kernel
theorem dX5_init_20 : decode cX5_init 20 = .ok (.return_, 1) := by decide +kernel
theorem dX5_literalWord_0 : decode cX5_literalWord 0 = .ok (.iload_n 0, 1) := by decide +kernel
theorem dX5_literalWord_1 : decode cX5_literalWord 1 = .ok (.iconst 1, 1) := by decide +kernel
theorem dX5_literalWord_2 : decode cX5_literalWord 2 = .ok (.ishr, 1) := by decide +kernel
theorem dX5_literalWord_3 : decode cX5_literalWord 3 = .ok (.istore_n 2, 1) := by decide +kernel
theorem dX5_literalWord_4 : decode cX5_literalWord 4 = .ok (.iload_n 2, 1) := by decide +kernel
theorem dX5_literalWord_5 : decode cX5_literalWord 5 = .ok (.iconst 1, 1) := by decide +kernel
theorem dX5_literalWord_6 : decode cX5_literalWord 6 = .ok (.if_icmp .lt 20, 3) := by decide +kernel
theorem dX5_literalWord_9 : decode cX5_literalWord 9 = .ok (.iload_n 2, 1) := by decide +kernel
theorem dX5_literalWord_10 : decode cX5_literalWord 10 = .ok (.bipush 6, 2) := by decide +kernel
theorem dX5_literalWord_12 : decode cX5_literalWord 12 = .ok (.if_icmp .gt 14, 3) := by decide +kernel
theorem dX5_literalWord_15 : decode cX5_literalWord 15 = .ok (.getstatic 18, 3) := by decide +kernel
theorem dX5_literalWord_18 : decode cX5_literalWord 18 = .ok (.iload_n 2, 1) := by decide +kernel
theorem dX5_literalWord_19 : decode cX5_literalWord 19 = .ok (.iconst 1, 1) := by decide +kernel
theorem dX5_literalWord_20 : decode cX5_literalWord 20 = .ok (.isub, 1) := by decide +kernel
theorem dX5_literalWord_21 : decode cX5_literalWord 21 = .ok (.laload, 1) := by decide +kernel
theorem dX5_literalWord_22 : decode cX5_literalWord 22 = .ok (.lstore_n 3, 1) := by decide +kernel
theorem dX5_literalWord_23 : decode cX5_literalWord 23 = .ok (.goto 24, 3) := by decide +kernel
theorem dX5_literalWord_26 : decode cX5_literalWord 26 = .ok (.iload_n 1, 1) := by decide +kernel
theorem dX5_literalWord_27 : decode cX5_literalWord 27 = .ok (.iload_n 2, 1) := by decide +kernel
theorem dX5_literalWord_28 : decode cX5_literalWord 28 = .ok (.bipush 6, 2) := by decide +kernel
theorem dX5_literalWord_30 : decode cX5_literalWord 30 = .ok (.isub, 1) := by decide +kernel
theorem dX5_literalWord_31 : decode cX5_literalWord 31 = .ok (.iconst 1, 1) := by decide +kernel
theorem dX5_literalWord_32 : decode cX5_literalWord 32 = .ok (.isub, 1) := by decide +kernel
theorem dX5_literalWord_33 : decode cX5_literalWord 33 = .ok (.ishr, 1) := by decide +kernel
theorem dX5_literalWord_34 : decode cX5_literalWord 34 = .ok (.iconst 1, 1) := by decide +kernel
theorem dX5_literalWord_35 : decode cX5_literalWord 35 = .ok (.iand, 1) := by decide +kernel
theorem dX5_literalWord_36 : decode cX5_literalWord 36 = .ok (.ifCond .eq 9, 3) := by decide +kernel
theorem dX5_literalWord_39 : decode cX5_literalWord 39 = .ok (.ldc2_w 21, 3) := by decide +kernel
theorem dX5_literalWord_42 : decode cX5_literalWord 42 = .ok (.goto 4, 3) := by decide +kernel
theorem dX5_literalWord_45 : decode cX5_literalWord 45 = .ok (.lconst 0, 1) := by decide +kernel
theorem dX5_literalWord_46 : decode cX5_literalWord 46 = .ok (.lstore_n 3, 1) := by decide +kernel
theorem dX5_literalWord_47 : decode cX5_literalWord 47 = .ok (.iload_n 0, 1) := by decide +kernel
theorem dX5_literalWord_48 : decode cX5_literalWord 48 = .ok (.iconst 1, 1) := by decide +kernel
theorem dX5_literalWord_49 : decode cX5_literalWord 49 = .ok (.iand, 1) := by decide +kernel
theorem dX5_literalWord_50 : decode cX5_literalWord 50 = .ok (.ifCond .ne 7, 3) := by decide +kernel
theorem dX5_literalWord_53 : decode cX5_literalWord 53 = .ok (.lload_n 3, 1) := by decide +kernel
theorem dX5_literalWord_54 : decode cX5_literalWord 54 = .ok (.goto 8, 3) := by decide +kernel
theorem dX5_literalWord_57 : decode cX5_literalWord 57 = .ok (.lload_n 3, 1) := by decide +kernel
theorem dX5_literalWord_58 : decode cX5_literalWord 58 = .ok (.ldc2_w 21, 3) := by decide +kernel
theorem dX5_literalWord_61 : decode cX5_literalWord 61 = .ok (.lxor, 1) := by decide +kernel
theorem dX5_literalWord_62 : decode cX5_literalWord 62 = .ok (.lreturn, 1) := by decide +kernel
theorem dX5_fill_0 : decode cX5_fill 0 = .ok (.aload_n 0, 1) := by decide +kernel
theorem dX5_fill_1 : decode cX5_fill 1 = .ok (.getfield 9, 3) := by decide +kernel
theorem dX5_fill_4 : decode cX5_fill 4 = .ok (.ldc2_w 21, 3) := by decide +kernel
theorem dX5_fill_7 : decode cX5_fill 7 = .ok (.invokestatic 23, 3) := by decide +kernel
theorem dX5_fill_10 : decode cX5_fill 10 = .ok (.iconst 0, 1) := by decide +kernel
theorem dX5_fill_11 : decode cX5_fill 11 = .ok (.istore_n 2, 1) := by decide +kernel
theorem dX5_fill_12 : decode cX5_fill 12 = .ok (.iload_n 2, 1) := by decide +kernel
theorem dX5_fill_13 : decode cX5_fill 13 = .ok (.aload_n 1, 1) := by decide +kernel
theorem dX5_fill_14 : decode cX5_fill 14 = .ok (.getfield 29, 3) := by decide +kernel
theorem dX5_fill_17 : decode cX5_fill 17 = .ok (.if_icmp .ge 18, 3) := by decide +kernel
theorem dX5_fill_20 : decode cX5_fill 20 = .ok (.aload_n 0, 1) := by decide +kernel
theorem dX5_fill_21 : decode cX5_fill 21 = .ok (.aload_n 1, 1) := by decide +kernel
theorem dX5_fill_22 : decode cX5_fill 22 = .ok (.iload_n 2, 1) := by decide +kernel
theorem dX5_fill_23 : decode cX5_fill 23 = .ok (.invokevirtual 35, 3) := by decide +kernel
theorem dX5_fill_26 : decode cX5_fill 26 = .ok (.invokevirtual 39, 3) := by decide +kernel
theorem dX5_fill_29 : decode cX5_fill 29 = .ok (.iinc 2 1, 3) := by decide +kernel
theorem dX5_fill_32 : decode cX5_fill 32 = .ok (.goto (-20), 3) := by decide +kernel
theorem dX5_fill_35 : decode cX5_fill 35 = .ok (.iconst 2, 1) := by decide +kernel
theorem dX5_fill_36 : decode cX5_fill 36 = .ok (.istore_n 2, 1) := by decide +kernel
theorem dX5_fill_37 : decode cX5_fill 37 = .ok (.iload_n 2, 1) := by decide +kernel
theorem dX5_fill_38 : decode cX5_fill 38 = .ok (.bipush 21, 2) := by decide +kernel
theorem dX5_fill_40 : decode cX5_fill 40 = .ok (.if_icmp .gt 27, 3) := by decide +kernel
theorem dX5_fill_43 : decode cX5_fill 43 = .ok (.aload_n 1, 1) := by decide +kernel
theorem dX5_fill_44 : decode cX5_fill 44 = .ok (.getfield 43, 3) := by decide +kernel
theorem dX5_fill_47 : decode cX5_fill 47 = .ok (.iload_n 2, 1) := by decide +kernel
theorem dX5_fill_48 : decode cX5_fill 48 = .ok (.invokestatic 46, 3) := by decide +kernel
theorem dX5_fill_51 : decode cX5_fill 51 = .ok (.ifCond .eq 10, 3) := by decide +kernel
theorem dX5_fill_54 : decode cX5_fill 54 = .ok (.aload_n 0, 1) := by decide +kernel
theorem dX5_fill_55 : decode cX5_fill 55 = .ok (.iconst 1, 1) := by decide +kernel
theorem dX5_fill_56 : decode cX5_fill 56 = .ok (.iload_n 2, 1) := by decide +kernel
theorem dX5_fill_57 : decode cX5_fill 57 = .ok (.ishl, 1) := by decide +kernel
theorem dX5_fill_58 : decode cX5_fill 58 = .ok (.invokevirtual 39, 3) := by decide +kernel
theorem dX5_fill_61 : decode cX5_fill 61 = .ok (.iinc 2 1, 3) := by decide +kernel
theorem dX5_fill_64 : decode cX5_fill 64 = .ok (.goto (-27), 3) := by decide +kernel
theorem dX5_fill_67 : decode cX5_fill 67 = .ok (.return_, 1) := by decide +kernel
theorem dX5_keepSatisfying_0 : decode cX5_keepSatisfying 0 = .ok (.aload_n 0, 1) := by decide +kernel
theorem dX5_keepSatisfying_1 : decode cX5_keepSatisfying 1 = .ok (.getfield 15, 3) := by decide +kernel
theorem dX5_keepSatisfying_4 : decode cX5_keepSatisfying 4 = .ok (.lconst 0, 1) := by decide +kernel
theorem dX5_keepSatisfying_5 : decode cX5_keepSatisfying 5 = .ok (.invokestatic 23, 3) := by decide +kernel
theorem dX5_keepSatisfying_8 : decode cX5_keepSatisfying 8 = .ok (.iconst 2, 1) := by decide +kernel
theorem dX5_keepSatisfying_9 : decode cX5_keepSatisfying 9 = .ok (.istore_n 2, 1) := by decide +kernel
theorem dX5_keepSatisfying_10 : decode cX5_keepSatisfying 10 = .ok (.iload_n 2, 1) := by decide +kernel
theorem dX5_keepSatisfying_11 : decode cX5_keepSatisfying 11 = .ok (.bipush 21, 2) := by decide +kernel
theorem dX5_keepSatisfying_13 : decode cX5_keepSatisfying 13 = .ok (.if_icmp .gt 45, 3) := by decide +kernel
theorem dX5_keepSatisfying_16 : decode cX5_keepSatisfying 16 = .ok (.iload_n 1, 1) := by decide +kernel
theorem dX5_keepSatisfying_17 : decode cX5_keepSatisfying 17 = .ok (.iload_n 2, 1) := by decide +kernel
theorem dX5_keepSatisfying_18 : decode cX5_keepSatisfying 18 = .ok (.invokestatic 46, 3) := by decide +kernel
theorem dX5_keepSatisfying_21 : decode cX5_keepSatisfying 21 = .ok (.ifCond .eq 31, 3) := by decide +kernel
theorem dX5_keepSatisfying_24 : decode cX5_keepSatisfying 24 = .ok (.iconst 0, 1) := by decide +kernel
theorem dX5_keepSatisfying_25 : decode cX5_keepSatisfying 25 = .ok (.istore_n 3, 1) := by decide +kernel
theorem dX5_keepSatisfying_26 : decode cX5_keepSatisfying 26 = .ok (.iload_n 3, 1) := by decide +kernel
theorem dX5_keepSatisfying_27 : decode cX5_keepSatisfying 27 = .ok (.bipush 16, 2) := by decide +kernel
theorem dX5_keepSatisfying_29 : decode cX5_keepSatisfying 29 = .ok (.if_icmp .ge 23, 3) := by decide +kernel
theorem dX5_keepSatisfying_32 : decode cX5_keepSatisfying 32 = .ok (.aload_n 0, 1) := by decide +kernel
theorem dX5_keepSatisfying_33 : decode cX5_keepSatisfying 33 = .ok (.getfield 15, 3) := by decide +kernel
theorem dX5_keepSatisfying_36 : decode cX5_keepSatisfying 36 = .ok (.iload_n 3, 1) := by decide +kernel
theorem dX5_keepSatisfying_37 : decode cX5_keepSatisfying 37 = .ok (.dup2, 1) := by decide +kernel
theorem dX5_keepSatisfying_38 : decode cX5_keepSatisfying 38 = .ok (.laload, 1) := by decide +kernel
theorem dX5_keepSatisfying_39 : decode cX5_keepSatisfying 39 = .ok (.iload_n 2, 1) := by decide +kernel
theorem dX5_keepSatisfying_40 : decode cX5_keepSatisfying 40 = .ok (.iload_n 3, 1) := by decide +kernel
theorem dX5_keepSatisfying_41 : decode cX5_keepSatisfying 41 = .ok (.invokestatic 50, 3) := by decide +kernel
theorem dX5_keepSatisfying_44 : decode cX5_keepSatisfying 44 = .ok (.lor, 1) := by decide +kernel
theorem dX5_keepSatisfying_45 : decode cX5_keepSatisfying 45 = .ok (.lastore, 1) := by decide +kernel
theorem dX5_keepSatisfying_46 : decode cX5_keepSatisfying 46 = .ok (.iinc 3 1, 3) := by decide +kernel
theorem dX5_keepSatisfying_49 : decode cX5_keepSatisfying 49 = .ok (.goto (-23), 3) := by decide +kernel
theorem dX5_keepSatisfying_52 : decode cX5_keepSatisfying 52 = .ok (.iinc 2 1, 3) := by decide +kernel
theorem dX5_keepSatisfying_55 : decode cX5_keepSatisfying 55 = .ok (.goto (-45), 3) := by decide +kernel
theorem dX5_keepSatisfying_58 : decode cX5_keepSatisfying 58 = .ok (.iconst 0, 1) := by decide +kernel
theorem dX5_keepSatisfying_59 : decode cX5_keepSatisfying 59 = .ok (.istore_n 2, 1) := by decide +kernel
theorem dX5_keepSatisfying_60 : decode cX5_keepSatisfying 60 = .ok (.iload_n 2, 1) := by decide +kernel
theorem dX5_keepSatisfying_61 : decode cX5_keepSatisfying 61 = .ok (.bipush 16, 2) := by decide +kernel
theorem dX5_keepSatisfying_63 : decode cX5_keepSatisfying 63 = .ok (.if_icmp .ge 24, 3) := by decide +kernel
theorem dX5_keepSatisfying_66 : decode cX5_keepSatisfying 66 = .ok (.aload_n 0, 1) := by decide +kernel
theorem dX5_keepSatisfying_67 : decode cX5_keepSatisfying 67 = .ok (.getfield 9, 3) := by decide +kernel
theorem dX5_keepSatisfying_70 : decode cX5_keepSatisfying 70 = .ok (.iload_n 2, 1) := by decide +kernel
theorem dX5_keepSatisfying_71 : decode cX5_keepSatisfying 71 = .ok (.dup2, 1) := by decide +kernel
theorem dX5_keepSatisfying_72 : decode cX5_keepSatisfying 72 = .ok (.laload, 1) := by decide +kernel
theorem dX5_keepSatisfying_73 : decode cX5_keepSatisfying 73 = .ok (.aload_n 0, 1) := by decide +kernel
theorem dX5_keepSatisfying_74 : decode cX5_keepSatisfying 74 = .ok (.getfield 15, 3) := by decide +kernel
theorem dX5_keepSatisfying_77 : decode cX5_keepSatisfying 77 = .ok (.iload_n 2, 1) := by decide +kernel
theorem dX5_keepSatisfying_78 : decode cX5_keepSatisfying 78 = .ok (.laload, 1) := by decide +kernel
theorem dX5_keepSatisfying_79 : decode cX5_keepSatisfying 79 = .ok (.land, 1) := by decide +kernel
theorem dX5_keepSatisfying_80 : decode cX5_keepSatisfying 80 = .ok (.lastore, 1) := by decide +kernel
theorem dX5_keepSatisfying_81 : decode cX5_keepSatisfying 81 = .ok (.iinc 2 1, 3) := by decide +kernel
theorem dX5_keepSatisfying_84 : decode cX5_keepSatisfying 84 = .ok (.goto (-24), 3) := by decide +kernel
theorem dX5_keepSatisfying_87 : decode cX5_keepSatisfying 87 = .ok (.return_, 1) := by decide +kernel
theorem dX5_wordAt_0 : decode cX5_wordAt 0 = .ok (.iload_n 1, 1) := by decide +kernel
theorem dX5_wordAt_1 : decode cX5_wordAt 1 = .ok (.ifCond .lt 18, 3) := by decide +kernel
theorem dX5_wordAt_4 : decode cX5_wordAt 4 = .ok (.iload_n 1, 1) := by decide +kernel
theorem dX5_wordAt_5 : decode cX5_wordAt 5 = .ok (.bipush 16, 2) := by decide +kernel
theorem dX5_wordAt_7 : decode cX5_wordAt 7 = .ok (.if_icmp .ge 12, 3) := by decide +kernel
theorem dX5_wordAt_10 : decode cX5_wordAt 10 = .ok (.aload_n 0, 1) := by decide +kernel
theorem dX5_wordAt_11 : decode cX5_wordAt 11 = .ok (.getfield 9, 3) := by decide +kernel
theorem dX5_wordAt_14 : decode cX5_wordAt 14 = .ok (.iload_n 1, 1) := by decide +kernel
theorem dX5_wordAt_15 : decode cX5_wordAt 15 = .ok (.laload, 1) := by decide +kernel
theorem dX5_wordAt_16 : decode cX5_wordAt 16 = .ok (.goto 4, 3) := by decide +kernel
theorem dX5_wordAt_19 : decode cX5_wordAt 19 = .ok (.lconst 0, 1) := by decide +kernel
theorem dX5_wordAt_20 : decode cX5_wordAt 20 = .ok (.lreturn, 1) := by decide +kernel
theorem dX5_has_0 : decode cX5_has 0 = .ok (.aload_n 0, 1) := by decide +kernel
theorem dX5_has_1 : decode cX5_has 1 = .ok (.iload_n 1, 1) := by decide +kernel
theorem dX5_has_2 : decode cX5_has 2 = .ok (.bipush 6, 2) := by decide +kernel
theorem dX5_has_4 : decode cX5_has 4 = .ok (.ishr, 1) := by decide +kernel
theorem dX5_has_5 : decode cX5_has 5 = .ok (.invokevirtual 54, 3) := by decide +kernel
theorem dX5_has_8 : decode cX5_has 8 = .ok (.iload_n 1, 1) := by decide +kernel
theorem dX5_has_9 : decode cX5_has 9 = .ok (.bipush 63, 2) := by decide +kernel
theorem dX5_has_11 : decode cX5_has 11 = .ok (.iand, 1) := by decide +kernel
theorem dX5_has_12 : decode cX5_has 12 = .ok (.lushr, 1) := by decide +kernel
theorem dX5_has_13 : decode cX5_has 13 = .ok (.lconst 1, 1) := by decide +kernel
theorem dX5_has_14 : decode cX5_has 14 = .ok (.land, 1) := by decide +kernel
theorem dX5_has_15 : decode cX5_has 15 = .ok (.lconst 0, 1) := by decide +kernel
theorem dX5_has_16 : decode cX5_has 16 = .ok (.lcmp, 1) := by decide +kernel
theorem dX5_has_17 : decode cX5_has 17 = .ok (.ifCond .eq 7, 3) := by decide +kernel
theorem dX5_has_20 : decode cX5_has 20 = .ok (.iconst 1, 1) := by decide +kernel
theorem dX5_has_21 : decode cX5_has 21 = .ok (.goto 4, 3) := by decide +kernel
theorem dX5_has_24 : decode cX5_has 24 = .ok (.iconst 0, 1) := by decide +kernel
theorem dX5_has_25 : decode cX5_has 25 = .ok (.ireturn, 1) := by decide +kernel
theorem dX5_size_0 : decode cX5_size 0 = .ok (.iconst 0, 1) := by decide +kernel
theorem dX5_size_1 : decode cX5_size 1 = .ok (.istore_n 1, 1) := by decide +kernel
theorem dX5_size_2 : decode cX5_size 2 = .ok (.iconst 0, 1) := by decide +kernel
theorem dX5_size_3 : decode cX5_size 3 = .ok (.istore_n 2, 1) := by decide +kernel
theorem dX5_size_4 : decode cX5_size 4 = .ok (.iload_n 2, 1) := by decide +kernel
theorem dX5_size_5 : decode cX5_size 5 = .ok (.bipush 16, 2) := by decide +kernel
theorem dX5_size_7 : decode cX5_size 7 = .ok (.if_icmp .ge 21, 3) := by decide +kernel
theorem dX5_size_10 : decode cX5_size 10 = .ok (.iload_n 1, 1) := by decide +kernel
theorem dX5_size_11 : decode cX5_size 11 = .ok (.aload_n 0, 1) := by decide +kernel
theorem dX5_size_12 : decode cX5_size 12 = .ok (.getfield 9, 3) := by decide +kernel
theorem dX5_size_15 : decode cX5_size 15 = .ok (.iload_n 2, 1) := by decide +kernel
theorem dX5_size_16 : decode cX5_size 16 = .ok (.laload, 1) := by decide +kernel
theorem dX5_size_17 : decode cX5_size 17 = .ok (.invokestatic 58, 3) := by decide +kernel
theorem dX5_size_20 : decode cX5_size 20 = .ok (.iadd, 1) := by decide +kernel
theorem dX5_size_21 : decode cX5_size 21 = .ok (.istore_n 1, 1) := by decide +kernel
theorem dX5_size_22 : decode cX5_size 22 = .ok (.iinc 2 1, 3) := by decide +kernel
theorem dX5_size_25 : decode cX5_size 25 = .ok (.goto (-21), 3) := by decide +kernel
theorem dX5_size_28 : decode cX5_size 28 = .ok (.iload_n 1, 1) := by decide +kernel
theorem dX5_size_29 : decode cX5_size 29 = .ok (.ireturn, 1) := by decide +kernel
theorem dX5_sizeWith_0 : decode cX5_sizeWith 0 = .ok (.iconst 0, 1) := by decide +kernel
theorem dX5_sizeWith_1 : decode cX5_sizeWith 1 = .ok (.istore_n 2, 1) := by decide +kernel
theorem dX5_sizeWith_2 : decode cX5_sizeWith 2 = .ok (.iconst 0, 1) := by decide +kernel
theorem dX5_sizeWith_3 : decode cX5_sizeWith 3 = .ok (.istore_n 3, 1) := by decide +kernel
theorem dX5_sizeWith_4 : decode cX5_sizeWith 4 = .ok (.iload_n 3, 1) := by decide +kernel
theorem dX5_sizeWith_5 : decode cX5_sizeWith 5 = .ok (.bipush 16, 2) := by decide +kernel
theorem dX5_sizeWith_7 : decode cX5_sizeWith 7 = .ok (.if_icmp .ge 27, 3) := by decide +kernel
theorem dX5_sizeWith_10 : decode cX5_sizeWith 10 = .ok (.iload_n 2, 1) := by decide +kernel
theorem dX5_sizeWith_11 : decode cX5_sizeWith 11 = .ok (.aload_n 0, 1) := by decide +kernel
theorem dX5_sizeWith_12 : decode cX5_sizeWith 12 = .ok (.getfield 9, 3) := by decide +kernel
theorem dX5_sizeWith_15 : decode cX5_sizeWith 15 = .ok (.iload_n 3, 1) := by decide +kernel
theorem dX5_sizeWith_16 : decode cX5_sizeWith 16 = .ok (.laload, 1) := by decide +kernel
theorem dX5_sizeWith_17 : decode cX5_sizeWith 17 = .ok (.iload_n 1, 1) := by decide +kernel
theorem dX5_sizeWith_18 : decode cX5_sizeWith 18 = .ok (.iload_n 3, 1) := by decide +kernel
theorem dX5_sizeWith_19 : decode cX5_sizeWith 19 = .ok (.invokestatic 50, 3) := by decide +kernel
theorem dX5_sizeWith_22 : decode cX5_sizeWith 22 = .ok (.land, 1) := by decide +kernel
theorem dX5_sizeWith_23 : decode cX5_sizeWith 23 = .ok (.invokestatic 58, 3) := by decide +kernel
theorem dX5_sizeWith_26 : decode cX5_sizeWith 26 = .ok (.iadd, 1) := by decide +kernel
theorem dX5_sizeWith_27 : decode cX5_sizeWith 27 = .ok (.istore_n 2, 1) := by decide +kernel
theorem dX5_sizeWith_28 : decode cX5_sizeWith 28 = .ok (.iinc 3 1, 3) := by decide +kernel
theorem dX5_sizeWith_31 : decode cX5_sizeWith 31 = .ok (.goto (-27), 3) := by decide +kernel
theorem dX5_sizeWith_34 : decode cX5_sizeWith 34 = .ok (.iload_n 2, 1) := by decide +kernel
theorem dX5_sizeWith_35 : decode cX5_sizeWith 35 = .ok (.ireturn, 1) := by decide +kernel
theorem dX5_least_0 : decode cX5_least 0 = .ok (.iconst 0, 1) := by decide +kernel
theorem dX5_least_1 : decode cX5_least 1 = .ok (.istore_n 1, 1) := by decide +kernel
theorem dX5_least_2 : decode cX5_least 2 = .ok (.iload_n 1, 1) := by decide +kernel
theorem dX5_least_3 : decode cX5_least 3 = .ok (.bipush 16, 2) := by decide +kernel
theorem dX5_least_5 : decode cX5_least 5 = .ok (.if_icmp .ge 35, 3) := by decide +kernel
theorem dX5_least_8 : decode cX5_least 8 = .ok (.aload_n 0, 1) := by decide +kernel
theorem dX5_least_9 : decode cX5_least 9 = .ok (.getfield 9, 3) := by decide +kernel
theorem dX5_least_12 : decode cX5_least 12 = .ok (.iload_n 1, 1) := by decide +kernel
theorem dX5_least_13 : decode cX5_least 13 = .ok (.laload, 1) := by decide +kernel
theorem dX5_least_14 : decode cX5_least 14 = .ok (.lconst 0, 1) := by decide +kernel
theorem dX5_least_15 : decode cX5_least 15 = .ok (.lcmp, 1) := by decide +kernel
theorem dX5_least_16 : decode cX5_least 16 = .ok (.ifCond .eq 18, 3) := by decide +kernel
theorem dX5_least_19 : decode cX5_least 19 = .ok (.bipush 64, 2) := by decide +kernel
theorem dX5_least_21 : decode cX5_least 21 = .ok (.iload_n 1, 1) := by decide +kernel
theorem dX5_least_22 : decode cX5_least 22 = .ok (.imul, 1) := by decide +kernel
theorem dX5_least_23 : decode cX5_least 23 = .ok (.aload_n 0, 1) := by decide +kernel
theorem dX5_least_24 : decode cX5_least 24 = .ok (.getfield 9, 3) := by decide +kernel
theorem dX5_least_27 : decode cX5_least 27 = .ok (.iload_n 1, 1) := by decide +kernel
theorem dX5_least_28 : decode cX5_least 28 = .ok (.laload, 1) := by decide +kernel
theorem dX5_least_29 : decode cX5_least 29 = .ok (.invokestatic 64, 3) := by decide +kernel
theorem dX5_least_32 : decode cX5_least 32 = .ok (.iadd, 1) := by decide +kernel
theorem dX5_least_33 : decode cX5_least 33 = .ok (.ireturn, 1) := by decide +kernel
theorem dX5_least_34 : decode cX5_least 34 = .ok (.iinc 1 1, 3) := by decide +kernel
theorem dX5_least_37 : decode cX5_least 37 = .ok (.goto (-35), 3) := by decide +kernel
theorem dX5_least_40 : decode cX5_least 40 = .ok (.iconst (-1), 1) := by decide +kernel
theorem dX5_least_41 : decode cX5_least 41 = .ok (.ireturn, 1) := by decide +kernel
theorem dX6_init_0 : decode cX6_init 0 = .ok (.aload_n 0, 1) := by decide +kernel
theorem dX6_init_1 : decode cX6_init 1 = .ok (.invokespecial 3, 3) := by decide +kernel
theorem dX6_init_4 : decode cX6_init 4 = .ok (.aload_n 0, 1) := by decide +kernel
theorem dX6_init_5 : decode cX6_init 5 = .ok (.bipush 16, 2) := by decide +kernel
theorem dX6_init_7 : decode cX6_init 7 = .ok (.newarray .int, 2) := by decide +kernel
theorem dX6_init_9 : decode cX6_init 9 = .ok (.putfield 9, 3) := by decide +kernel
theorem dX6_init_12 : decode cX6_init 12 = .ok (.aload_n 0, 1) := by decide +kernel
theorem dX6_init_13 : decode cX6_init 13 = .ok (.iconst 0, 1) := by decide +kernel
theorem dX6_init_14 : decode cX6_init 14 = .ok (.putfield 15, 3) := by decide +kernel
theorem dX6_init_17 : decode cX6_init 17 = .ok (.aload_n 0, 1) := by decide +kernel
theorem dX6_init_18 : decode cX6_init 18 = .ok (.iconst 0, 1) := by decide +kernel
theorem dX6_init_19 : decode cX6_init 19 = .ok (.putfield 19, 3) := by decide +kernel
theorem dX6_init_22 : decode cX6_init 22 = .ok (.aload_n 0, 1) := by decide +kernel
theorem dX6_init_23 : decode cX6_init 23 = .ok (.bipush 22, 2) := by decide +kernel
theorem dX6_init_25 : decode cX6_init 25 = .ok (.newarray .int, 2) := by decide +kernel
theorem dX6_init_27 : decode cX6_init 27 = .ok (.putfield 22, 3) := by decide +kernel
theorem dX6_init_30 : decode cX6_init 30 = .ok (.aload_n 0, 1) := by decide +kernel
theorem dX6_init_31 : decode cX6_init 31 = .ok (.getfield 22, 3) := by decide +kernel
theorem dX6_init_34 : decode cX6_init 34 = .ok (.iconst 1, 1) := by decide +kernel
theorem dX6_init_35 : decode cX6_init 35 = .ok (.invokestatic 25, 3) := by decide +kernel
theorem dX6_init_38 : decode cX6_init 38 = .ok (.return_, 1) := by decide +kernel
theorem dX6_hasClause_0 : decode cX6_hasClause 0 = .ok (.iload_n 1, 1) := by decide +kernel
theorem dX6_hasClause_1 : decode cX6_hasClause 1 = .ok (.ifCond .lt 15, 3) := by decide +kernel
theorem dX6_hasClause_4 : decode cX6_hasClause 4 = .ok (.iload_n 1, 1) := by decide +kernel
theorem dX6_hasClause_5 : decode cX6_hasClause 5 = .ok (.aload_n 0, 1) := by decide +kernel
theorem dX6_hasClause_6 : decode cX6_hasClause 6 = .ok (.getfield 15, 3) := by decide +kernel
theorem dX6_hasClause_9 : decode cX6_hasClause 9 = .ok (.if_icmp .ge 7, 3) := by decide +kernel
theorem dX6_hasClause_12 : decode cX6_hasClause 12 = .ok (.iconst 1, 1) := by decide +kernel
theorem dX6_hasClause_13 : decode cX6_hasClause 13 = .ok (.goto 4, 3) := by decide +kernel
theorem dX6_hasClause_16 : decode cX6_hasClause 16 = .ok (.iconst 0, 1) := by decide +kernel
theorem dX6_hasClause_17 : decode cX6_hasClause 17 = .ok (.ireturn, 1) := by decide +kernel
theorem dX6_clauseAt_0 : decode cX6_clauseAt 0 = .ok (.aload_n 0, 1) := by decide +kernel
theorem dX6_clauseAt_1 : decode cX6_clauseAt 1 = .ok (.iload_n 1, 1) := by decide +kernel
theorem dX6_clauseAt_2 : decode cX6_clauseAt 2 = .ok (.invokevirtual 31, 3) := by decide +kernel
theorem dX6_clauseAt_5 : decode cX6_clauseAt 5 = .ok (.ifCond .eq 12, 3) := by decide +kernel
theorem dX6_clauseAt_8 : decode cX6_clauseAt 8 = .ok (.aload_n 0, 1) := by decide +kernel
theorem dX6_clauseAt_9 : decode cX6_clauseAt 9 = .ok (.getfield 9, 3) := by decide +kernel
theorem dX6_clauseAt_12 : decode cX6_clauseAt 12 = .ok (.iload_n 1, 1) := by decide +kernel
theorem dX6_clauseAt_13 : decode cX6_clauseAt 13 = .ok (.iaload, 1) := by decide +kernel
theorem dX6_clauseAt_14 : decode cX6_clauseAt 14 = .ok (.goto 4, 3) := by decide +kernel
theorem dX6_clauseAt_17 : decode cX6_clauseAt 17 = .ok (.iconst 0, 1) := by decide +kernel
theorem dX6_clauseAt_18 : decode cX6_clauseAt 18 = .ok (.ireturn, 1) := by decide +kernel
theorem dX6_appendClause_0 : decode cX6_appendClause 0 = .ok (.aload_n 0, 1) := by decide +kernel
theorem dX6_appendClause_1 : decode cX6_appendClause 1 = .ok (.getfield 15, 3) := by decide +kernel
theorem dX6_appendClause_4 : decode cX6_appendClause 4 = .ok (.bipush 16, 2) := by decide +kernel
theorem dX6_appendClause_6 : decode cX6_appendClause 6 = .ok (.if_icmp .ge 23, 3) := by decide +kernel
theorem dX6_appendClause_9 : decode cX6_appendClause 9 = .ok (.aload_n 0, 1) := by decide +kernel
theorem dX6_appendClause_10 : decode cX6_appendClause 10 = .ok (.getfield 9, 3) := by decide +kernel
theorem dX6_appendClause_13 : decode cX6_appendClause 13 = .ok (.aload_n 0, 1) := by decide +kernel
theorem dX6_appendClause_14 : decode cX6_appendClause 14 = .ok (.getfield 15, 3) := by decide +kernel
theorem dX6_appendClause_17 : decode cX6_appendClause 17 = .ok (.iload_n 1, 1) := by decide +kernel
theorem dX6_appendClause_18 : decode cX6_appendClause 18 = .ok (.iastore, 1) := by decide +kernel
theorem dX6_appendClause_19 : decode cX6_appendClause 19 = .ok (.aload_n 0, 1) := by decide +kernel
theorem dX6_appendClause_20 : decode cX6_appendClause 20 = .ok (.dup, 1) := by decide +kernel
theorem dX6_appendClause_21 : decode cX6_appendClause 21 = .ok (.getfield 15, 3) := by decide +kernel
theorem dX6_appendClause_24 : decode cX6_appendClause 24 = .ok (.iconst 1, 1) := by decide +kernel
theorem dX6_appendClause_25 : decode cX6_appendClause 25 = .ok (.iadd, 1) := by decide +kernel
theorem dX6_appendClause_26 : decode cX6_appendClause 26 = .ok (.putfield 15, 3) := by decide +kernel
theorem dX6_appendClause_29 : decode cX6_appendClause 29 = .ok (.return_, 1) := by decide +kernel
theorem dX6_deleteClause_0 : decode cX6_deleteClause 0 = .ok (.aload_n 0, 1) := by decide +kernel
theorem dX6_deleteClause_1 : decode cX6_deleteClause 1 = .ok (.iload_n 1, 1) := by decide +kernel
theorem dX6_deleteClause_2 : decode cX6_deleteClause 2 = .ok (.invokevirtual 31, 3) := by decide +kernel
theorem dX6_deleteClause_5 : decode cX6_deleteClause 5 = .ok (.ifCond .ne 4, 3) := by decide +kernel
theorem dX6_deleteClause_8 : decode cX6_deleteClause 8 = .ok (.return_, 1) := by decide +kernel
theorem dX6_deleteClause_9 : decode cX6_deleteClause 9 = .ok (.iload_n 1, 1) := by decide +kernel
theorem dX6_deleteClause_10 : decode cX6_deleteClause 10 = .ok (.istore_n 2, 1) := by decide +kernel
theorem dX6_deleteClause_11 : decode cX6_deleteClause 11 = .ok (.iload_n 2, 1) := by decide +kernel
theorem dX6_deleteClause_12 : decode cX6_deleteClause 12 = .ok (.iconst 1, 1) := by decide +kernel
theorem dX6_deleteClause_13 : decode cX6_deleteClause 13 = .ok (.iadd, 1) := by decide +kernel
theorem dX6_deleteClause_14 : decode cX6_deleteClause 14 = .ok (.aload_n 0, 1) := by decide +kernel
theorem dX6_deleteClause_15 : decode cX6_deleteClause 15 = .ok (.getfield 15, 3) := by decide +kernel
theorem dX6_deleteClause_18 : decode cX6_deleteClause 18 = .ok (.if_icmp .ge 23, 3) := by decide +kernel
theorem dX6_deleteClause_21 : decode cX6_deleteClause 21 = .ok (.aload_n 0, 1) := by decide +kernel
theorem dX6_deleteClause_22 : decode cX6_deleteClause 22 = .ok (.getfield 9, 3) := by decide +kernel
theorem dX6_deleteClause_25 : decode cX6_deleteClause 25 = .ok (.iload_n 2, 1) := by decide +kernel
theorem dX6_deleteClause_26 : decode cX6_deleteClause 26 = .ok (.aload_n 0, 1) := by decide +kernel
theorem dX6_deleteClause_27 : decode cX6_deleteClause 27 = .ok (.getfield 9, 3) := by decide +kernel
theorem dX6_deleteClause_30 : decode cX6_deleteClause 30 = .ok (.iload_n 2, 1) := by decide +kernel
theorem dX6_deleteClause_31 : decode cX6_deleteClause 31 = .ok (.iconst 1, 1) := by decide +kernel
theorem dX6_deleteClause_32 : decode cX6_deleteClause 32 = .ok (.iadd, 1) := by decide +kernel
theorem dX6_deleteClause_33 : decode cX6_deleteClause 33 = .ok (.iaload, 1) := by decide +kernel
theorem dX6_deleteClause_34 : decode cX6_deleteClause 34 = .ok (.iastore, 1) := by decide +kernel
theorem dX6_deleteClause_35 : decode cX6_deleteClause 35 = .ok (.iinc 2 1, 3) := by decide +kernel
theorem dX6_deleteClause_38 : decode cX6_deleteClause 38 = .ok (.goto (-27), 3) := by decide +kernel
theorem dX6_deleteClause_41 : decode cX6_deleteClause 41 = .ok (.aload_n 0, 1) := by decide +kernel
theorem dX6_deleteClause_42 : decode cX6_deleteClause 42 = .ok (.dup, 1) := by decide +kernel
theorem dX6_deleteClause_43 : decode cX6_deleteClause 43 = .ok (.getfield 15, 3) := by decide +kernel
theorem dX6_deleteClause_46 : decode cX6_deleteClause 46 = .ok (.iconst 1, 1) := by decide +kernel
theorem dX6_deleteClause_47 : decode cX6_deleteClause 47 = .ok (.isub, 1) := by decide +kernel
theorem dX6_deleteClause_48 : decode cX6_deleteClause 48 = .ok (.putfield 15, 3) := by decide +kernel
theorem dX6_deleteClause_51 : decode cX6_deleteClause 51 = .ok (.return_, 1) := by decide +kernel
theorem dX6_weightOf_0 : decode cX6_weightOf 0 = .ok (.iload_n 1, 1) := by decide +kernel
theorem dX6_weightOf_1 : decode cX6_weightOf 1 = .ok (.ifCond .lt 18, 3) := by decide +kernel
theorem dX6_weightOf_4 : decode cX6_weightOf 4 = .ok (.iload_n 1, 1) := by decide +kernel
theorem dX6_weightOf_5 : decode cX6_weightOf 5 = .ok (.bipush 22, 2) := by decide +kernel
theorem dX6_weightOf_7 : decode cX6_weightOf 7 = .ok (.if_icmp .ge 12, 3) := by decide +kernel
theorem dX6_weightOf_10 : decode cX6_weightOf 10 = .ok (.aload_n 0, 1) := by decide +kernel
theorem dX6_weightOf_11 : decode cX6_weightOf 11 = .ok (.getfield 22, 3) := by decide +kernel
theorem dX6_weightOf_14 : decode cX6_weightOf 14 = .ok (.iload_n 1, 1) := by decide +kernel
theorem dX6_weightOf_15 : decode cX6_weightOf 15 = .ok (.iaload, 1) := by decide +kernel
theorem dX6_weightOf_16 : decode cX6_weightOf 16 = .ok (.goto 4, 3) := by decide +kernel
theorem dX6_weightOf_19 : decode cX6_weightOf 19 = .ok (.iconst 0, 1) := by decide +kernel
theorem dX6_weightOf_20 : decode cX6_weightOf 20 = .ok (.ireturn, 1) := by decide +kernel
theorem dX6_replaceWeight_0 : decode cX6_replaceWeight 0 = .ok (.aload_n 0, 1) := by decide +kernel
theorem dX6_replaceWeight_1 : decode cX6_replaceWeight 1 = .ok (.iload_n 1, 1) := by decide +kernel
theorem dX6_replaceWeight_2 : decode cX6_replaceWeight 2 = .ok (.invokevirtual 35, 3) := by decide +kernel
theorem dX6_replaceWeight_5 : decode cX6_replaceWeight 5 = .ok (.istore_n 3, 1) := by decide +kernel
theorem dX6_replaceWeight_6 : decode cX6_replaceWeight 6 = .ok (.iload_n 1, 1) := by decide +kernel
theorem dX6_replaceWeight_7 : decode cX6_replaceWeight 7 = .ok (.ifCond .lt 16, 3) := by decide +kernel
theorem dX6_replaceWeight_10 : decode cX6_replaceWeight 10 = .ok (.iload_n 1, 1) := by decide +kernel
theorem dX6_replaceWeight_11 : decode cX6_replaceWeight 11 = .ok (.bipush 22, 2) := by decide +kernel
theorem dX6_replaceWeight_13 : decode cX6_replaceWeight 13 = .ok (.if_icmp .ge 10, 3) := by decide +kernel
theorem dX6_replaceWeight_16 : decode cX6_replaceWeight 16 = .ok (.aload_n 0, 1) := by decide +kernel
theorem dX6_replaceWeight_17 : decode cX6_replaceWeight 17 = .ok (.getfield 22, 3) := by decide +kernel
theorem dX6_replaceWeight_20 : decode cX6_replaceWeight 20 = .ok (.iload_n 1, 1) := by decide +kernel
theorem dX6_replaceWeight_21 : decode cX6_replaceWeight 21 = .ok (.iload_n 2, 1) := by decide +kernel
theorem dX6_replaceWeight_22 : decode cX6_replaceWeight 22 = .ok (.iastore, 1) := by decide +kernel
theorem dX6_replaceWeight_23 : decode cX6_replaceWeight 23 = .ok (.iload_n 3, 1) := by decide +kernel
theorem dX6_replaceWeight_24 : decode cX6_replaceWeight 24 = .ok (.ireturn, 1) := by decide +kernel
theorem dX6_copyFrom_0 : decode cX6_copyFrom 0 = .ok (.aload_n 1, 1) := by decide +kernel
theorem dX6_copyFrom_1 : decode cX6_copyFrom 1 = .ok (.getfield 9, 3) := by decide +kernel
theorem dX6_copyFrom_4 : decode cX6_copyFrom 4 = .ok (.iconst 0, 1) := by decide +kernel
theorem dX6_copyFrom_5 : decode cX6_copyFrom 5 = .ok (.aload_n 0, 1) := by decide +kernel
theorem dX6_copyFrom_6 : decode cX6_copyFrom 6 = .ok (.getfield 9, 3) := by decide +kernel
theorem dX6_copyFrom_9 : decode cX6_copyFrom 9 = .ok (.iconst 0, 1) := by decide +kernel
theorem dX6_copyFrom_10 : decode cX6_copyFrom 10 = .ok (.bipush 16, 2) := by decide +kernel
theorem dX6_copyFrom_12 : decode cX6_copyFrom 12 = .ok (.invokestatic 39, 3) := by decide +kernel
theorem dX6_copyFrom_15 : decode cX6_copyFrom 15 = .ok (.aload_n 0, 1) := by decide +kernel
theorem dX6_copyFrom_16 : decode cX6_copyFrom 16 = .ok (.aload_n 1, 1) := by decide +kernel
theorem dX6_copyFrom_17 : decode cX6_copyFrom 17 = .ok (.getfield 15, 3) := by decide +kernel
theorem dX6_copyFrom_20 : decode cX6_copyFrom 20 = .ok (.putfield 15, 3) := by decide +kernel
theorem dX6_copyFrom_23 : decode cX6_copyFrom 23 = .ok (.aload_n 0, 1) := by decide +kernel
theorem dX6_copyFrom_24 : decode cX6_copyFrom 24 = .ok (.aload_n 1, 1) := by decide +kernel
theorem dX6_copyFrom_25 : decode cX6_copyFrom 25 = .ok (.getfield 19, 3) := by decide +kernel
theorem dX6_copyFrom_28 : decode cX6_copyFrom 28 = .ok (.putfield 19, 3) := by decide +kernel
theorem dX6_copyFrom_31 : decode cX6_copyFrom 31 = .ok (.aload_n 1, 1) := by decide +kernel
theorem dX6_copyFrom_32 : decode cX6_copyFrom 32 = .ok (.getfield 22, 3) := by decide +kernel
theorem dX6_copyFrom_35 : decode cX6_copyFrom 35 = .ok (.iconst 0, 1) := by decide +kernel
theorem dX6_copyFrom_36 : decode cX6_copyFrom 36 = .ok (.aload_n 0, 1) := by decide +kernel
theorem dX6_copyFrom_37 : decode cX6_copyFrom 37 = .ok (.getfield 22, 3) := by decide +kernel
theorem dX6_copyFrom_40 : decode cX6_copyFrom 40 = .ok (.iconst 0, 1) := by decide +kernel
theorem dX6_copyFrom_41 : decode cX6_copyFrom 41 = .ok (.bipush 22, 2) := by decide +kernel
theorem dX6_copyFrom_43 : decode cX6_copyFrom 43 = .ok (.invokestatic 39, 3) := by decide +kernel
theorem dX6_copyFrom_46 : decode cX6_copyFrom 46 = .ok (.return_, 1) := by decide +kernel
theorem dX7_init_0 : decode cX7_init 0 = .ok (.aload_n 0, 1) := by decide +kernel
theorem dX7_init_1 : decode cX7_init 1 = .ok (.invokespecial 5, 3) := by decide +kernel
theorem dX7_init_4 : decode cX7_init 4 = .ok (.aload_n 0, 1) := by decide +kernel
theorem dX7_init_5 : decode cX7_init 5 = .ok (.bipush 32, 2) := by decide +kernel
theorem dX7_init_7 : decode cX7_init 7 = .ok (.newarray .long, 2) := by decide +kernel
theorem dX7_init_9 : decode cX7_init 9 = .ok (.putfield 11, 3) := by decide +kernel
theorem dX7_init_12 : decode cX7_init 12 = .ok (.aload_n 0, 1) := by decide +kernel
theorem dX7_init_13 : decode cX7_init 13 = .ok (.bipush 32, 2) := by decide +kernel
theorem dX7_init_15 : decode cX7_init 15 = .ok (.newarray .long, 2) := by decide +kernel
theorem dX7_init_17 : decode cX7_init 17 = .ok (.putfield 15, 3) := by decide +kernel
theorem dX7_init_20 : decode cX7_init 20 = .ok (.return_, 1) := by decide +kernel
theorem dX7_over_0 : decode cX7_over 0 = .ok (.aload_n 0, 1) := by decide +kernel
theorem dX7_over_1 : decode cX7_over 1 = .ok (.getfield 11, 3) := by decide +kernel
theorem dX7_over_4 : decode cX7_over 4 = .ok (.iconst 1, 1) := by decide +kernel
theorem dX7_over_5 : decode cX7_over 5 = .ok (.aload_n 2, 1) := by decide +kernel
theorem dX7_over_6 : decode cX7_over 6 = .ok (.invokestatic 18, 3) := by decide +kernel
theorem dX7_over_9 : decode cX7_over 9 = .ok (.aload_n 0, 1) := by decide +kernel
theorem dX7_over_10 : decode cX7_over 10 = .ok (.getfield 15, 3) := by decide +kernel
theorem dX7_over_13 : decode cX7_over 13 = .ok (.bipush 6, 2) := by decide +kernel
theorem dX7_over_15 : decode cX7_over 15 = .ok (.aload_n 2, 1) := by decide +kernel
theorem dX7_over_16 : decode cX7_over 16 = .ok (.invokestatic 18, 3) := by decide +kernel
theorem dX7_over_19 : decode cX7_over 19 = .ok (.lconst 0, 1) := by decide +kernel
theorem dX7_over_20 : decode cX7_over 20 = .ok (.lstore_n 3, 1) := by decide +kernel
theorem dX7_over_21 : decode cX7_over 21 = .ok (.iconst 0, 1) := by decide +kernel
theorem dX7_over_22 : decode cX7_over 22 = .ok (.istore 5, 2) := by decide +kernel
theorem dX7_over_24 : decode cX7_over 24 = .ok (.iload 5, 2) := by decide +kernel
theorem dX7_over_26 : decode cX7_over 26 = .ok (.bipush 32, 2) := by decide +kernel
theorem dX7_over_28 : decode cX7_over 28 = .ok (.if_icmp .ge 68, 3) := by decide +kernel
theorem dX7_over_31 : decode cX7_over 31 = .ok (.lconst 0, 1) := by decide +kernel
theorem dX7_over_32 : decode cX7_over 32 = .ok (.lstore 6, 2) := by decide +kernel
theorem dX7_over_34 : decode cX7_over 34 = .ok (.iconst 0, 1) := by decide +kernel
theorem dX7_over_35 : decode cX7_over 35 = .ok (.istore 8, 2) := by decide +kernel
theorem dX7_over_37 : decode cX7_over 37 = .ok (.iload 8, 2) := by decide +kernel
theorem dX7_over_39 : decode cX7_over 39 = .ok (.bipush 32, 2) := by decide +kernel
theorem dX7_over_41 : decode cX7_over 41 = .ok (.if_icmp .ge 36, 3) := by decide +kernel
theorem dX7_over_44 : decode cX7_over 44 = .ok (.aload_n 1, 1) := by decide +kernel
theorem dX7_over_45 : decode cX7_over 45 = .ok (.iload 5, 2) := by decide +kernel
theorem dX7_over_47 : decode cX7_over 47 = .ok (.bipush 32, 2) := by decide +kernel
theorem dX7_over_49 : decode cX7_over 49 = .ok (.imul, 1) := by decide +kernel
theorem dX7_over_50 : decode cX7_over 50 = .ok (.iload 8, 2) := by decide +kernel
theorem dX7_over_52 : decode cX7_over 52 = .ok (.iadd, 1) := by decide +kernel
theorem dX7_over_53 : decode cX7_over 53 = .ok (.invokevirtual 22, 3) := by decide +kernel
theorem dX7_over_56 : decode cX7_over 56 = .ok (.ifCond .eq 15, 3) := by decide +kernel
theorem dX7_over_59 : decode cX7_over 59 = .ok (.lload 6, 2) := by decide +kernel
theorem dX7_over_61 : decode cX7_over 61 = .ok (.aload_n 0, 1) := by decide +kernel
theorem dX7_over_62 : decode cX7_over 62 = .ok (.getfield 11, 3) := by decide +kernel
theorem dX7_over_65 : decode cX7_over 65 = .ok (.iload 8, 2) := by decide +kernel
theorem dX7_over_67 : decode cX7_over 67 = .ok (.laload, 1) := by decide +kernel
theorem dX7_over_68 : decode cX7_over 68 = .ok (.ladd, 1) := by decide +kernel
theorem dX7_over_69 : decode cX7_over 69 = .ok (.lstore 6, 2) := by decide +kernel
theorem dX7_over_71 : decode cX7_over 71 = .ok (.iinc 8 1, 3) := by decide +kernel
theorem dX7_over_74 : decode cX7_over 74 = .ok (.goto (-37), 3) := by decide +kernel
theorem dX7_over_77 : decode cX7_over 77 = .ok (.lload_n 3, 1) := by decide +kernel
theorem dX7_over_78 : decode cX7_over 78 = .ok (.lload 6, 2) := by decide +kernel
theorem dX7_over_80 : decode cX7_over 80 = .ok (.aload_n 0, 1) := by decide +kernel
theorem dX7_over_81 : decode cX7_over 81 = .ok (.getfield 15, 3) := by decide +kernel
theorem dX7_over_84 : decode cX7_over 84 = .ok (.iload 5, 2) := by decide +kernel
theorem dX7_over_86 : decode cX7_over 86 = .ok (.laload, 1) := by decide +kernel
theorem dX7_over_87 : decode cX7_over 87 = .ok (.lmul, 1) := by decide +kernel
theorem dX7_over_88 : decode cX7_over 88 = .ok (.ladd, 1) := by decide +kernel
theorem dX7_over_89 : decode cX7_over 89 = .ok (.lstore_n 3, 1) := by decide +kernel
theorem dX7_over_90 : decode cX7_over 90 = .ok (.iinc 5 1, 3) := by decide +kernel
theorem dX7_over_93 : decode cX7_over 93 = .ok (.goto (-69), 3) := by decide +kernel
theorem dX7_over_96 : decode cX7_over 96 = .ok (.lload_n 3, 1) := by decide +kernel
theorem dX7_over_97 : decode cX7_over 97 = .ok (.lreturn, 1) := by decide +kernel
theorem dX7_fillProducts_0 : decode cX7_fillProducts 0 = .ok (.iconst 0, 1) := by decide +kernel
theorem dX7_fillProducts_1 : decode cX7_fillProducts 1 = .ok (.istore_n 3, 1) := by decide +kernel
theorem dX7_fillProducts_2 : decode cX7_fillProducts 2 = .ok (.iload_n 3, 1) := by decide +kernel
theorem dX7_fillProducts_3 : decode cX7_fillProducts 3 = .ok (.bipush 32, 2) := by decide +kernel
theorem dX7_fillProducts_5 : decode cX7_fillProducts 5 = .ok (.if_icmp .ge 67, 3) := by decide +kernel
theorem dX7_fillProducts_8 : decode cX7_fillProducts 8 = .ok (.iload_n 3, 1) := by decide +kernel
theorem dX7_fillProducts_9 : decode cX7_fillProducts 9 = .ok (.aload_n 0, 1) := by decide +kernel
theorem dX7_fillProducts_10 : decode cX7_fillProducts 10 = .ok (.arraylength, 1) := by decide +kernel
theorem dX7_fillProducts_11 : decode cX7_fillProducts 11 = .ok (.if_icmp .ge 61, 3) := by decide +kernel
theorem dX7_fillProducts_14 : decode cX7_fillProducts 14 = .ok (.lconst 1, 1) := by decide +kernel
theorem dX7_fillProducts_15 : decode cX7_fillProducts 15 = .ok (.lstore 4, 2) := by decide +kernel
theorem dX7_fillProducts_17 : decode cX7_fillProducts 17 = .ok (.iconst 0, 1) := by decide +kernel
theorem dX7_fillProducts_18 : decode cX7_fillProducts 18 = .ok (.istore 6, 2) := by decide +kernel
theorem dX7_fillProducts_20 : decode cX7_fillProducts 20 = .ok (.iload 6, 2) := by decide +kernel
theorem dX7_fillProducts_22 : decode cX7_fillProducts 22 = .ok (.iconst 5, 1) := by decide +kernel
theorem dX7_fillProducts_23 : decode cX7_fillProducts 23 = .ok (.if_icmp .ge 38, 3) := by decide +kernel
theorem dX7_fillProducts_26 : decode cX7_fillProducts 26 = .ok (.iconst 1, 1) := by decide +kernel
theorem dX7_fillProducts_27 : decode cX7_fillProducts 27 = .ok (.iload_n 3, 1) := by decide +kernel
theorem dX7_fillProducts_28 : decode cX7_fillProducts 28 = .ok (.iload 6, 2) := by decide +kernel
theorem dX7_fillProducts_30 : decode cX7_fillProducts 30 = .ok (.ishr, 1) := by decide +kernel
theorem dX7_fillProducts_31 : decode cX7_fillProducts 31 = .ok (.iconst 1, 1) := by decide +kernel
theorem dX7_fillProducts_32 : decode cX7_fillProducts 32 = .ok (.iand, 1) := by decide +kernel
theorem dX7_fillProducts_33 : decode cX7_fillProducts 33 = .ok (.isub, 1) := by decide +kernel
theorem dX7_fillProducts_34 : decode cX7_fillProducts 34 = .ok (.istore 7, 2) := by decide +kernel
theorem dX7_fillProducts_36 : decode cX7_fillProducts 36 = .ok (.lload 4, 2) := by decide +kernel
theorem dX7_fillProducts_38 : decode cX7_fillProducts 38 = .ok (.aload_n 2, 1) := by decide +kernel
theorem dX7_fillProducts_39 : decode cX7_fillProducts 39 = .ok (.iconst 2, 1) := by decide +kernel
theorem dX7_fillProducts_40 : decode cX7_fillProducts 40 = .ok (.iload_n 1, 1) := by decide +kernel
theorem dX7_fillProducts_41 : decode cX7_fillProducts 41 = .ok (.iload 6, 2) := by decide +kernel
theorem dX7_fillProducts_43 : decode cX7_fillProducts 43 = .ok (.iadd, 1) := by decide +kernel
theorem dX7_fillProducts_44 : decode cX7_fillProducts 44 = .ok (.imul, 1) := by decide +kernel
theorem dX7_fillProducts_45 : decode cX7_fillProducts 45 = .ok (.iload 7, 2) := by decide +kernel
theorem dX7_fillProducts_47 : decode cX7_fillProducts 47 = .ok (.iadd, 1) := by decide +kernel
theorem dX7_fillProducts_48 : decode cX7_fillProducts 48 = .ok (.invokevirtual 28, 3) := by decide +kernel
theorem dX7_fillProducts_51 : decode cX7_fillProducts 51 = .ok (.i2l, 1) := by decide +kernel
theorem dX7_fillProducts_52 : decode cX7_fillProducts 52 = .ok (.lmul, 1) := by decide +kernel
theorem dX7_fillProducts_53 : decode cX7_fillProducts 53 = .ok (.lstore 4, 2) := by decide +kernel
theorem dX7_fillProducts_55 : decode cX7_fillProducts 55 = .ok (.iinc 6 1, 3) := by decide +kernel
theorem dX7_fillProducts_58 : decode cX7_fillProducts 58 = .ok (.goto (-38), 3) := by decide +kernel
theorem dX7_fillProducts_61 : decode cX7_fillProducts 61 = .ok (.aload_n 0, 1) := by decide +kernel
theorem dX7_fillProducts_62 : decode cX7_fillProducts 62 = .ok (.iload_n 3, 1) := by decide +kernel
theorem dX7_fillProducts_63 : decode cX7_fillProducts 63 = .ok (.lload 4, 2) := by decide +kernel
theorem dX7_fillProducts_65 : decode cX7_fillProducts 65 = .ok (.lastore, 1) := by decide +kernel
theorem dX7_fillProducts_66 : decode cX7_fillProducts 66 = .ok (.iinc 3 1, 3) := by decide +kernel
theorem dX7_fillProducts_69 : decode cX7_fillProducts 69 = .ok (.goto (-67), 3) := by decide +kernel
theorem dX7_fillProducts_72 : decode cX7_fillProducts 72 = .ok (.return_, 1) := by decide +kernel
theorem dX8_init_0 : decode cX8_init 0 = .ok (.aload_n 0, 1) := by decide +kernel
theorem dX8_init_1 : decode cX8_init 1 = .ok (.invokespecial 3, 3) := by decide +kernel
theorem dX8_init_4 : decode cX8_init 4 = .ok (.aload_n 0, 1) := by decide +kernel
theorem dX8_init_5 : decode cX8_init 5 = .ok (.new 9, 3) := by decide +kernel
theorem dX8_init_8 : decode cX8_init 8 = .ok (.dup, 1) := by decide +kernel
theorem dX8_init_9 : decode cX8_init 9 = .ok (.invokespecial 11, 3) := by decide +kernel
theorem dX8_init_12 : decode cX8_init 12 = .ok (.putfield 12, 3) := by decide +kernel
theorem dX8_init_15 : decode cX8_init 15 = .ok (.aload_n 0, 1) := by decide +kernel
theorem dX8_init_16 : decode cX8_init 16 = .ok (.new 16, 3) := by decide +kernel
theorem dX8_init_19 : decode cX8_init 19 = .ok (.dup, 1) := by decide +kernel
theorem dX8_init_20 : decode cX8_init 20 = .ok (.invokespecial 18, 3) := by decide +kernel
theorem dX8_init_23 : decode cX8_init 23 = .ok (.putfield 19, 3) := by decide +kernel
theorem dX8_init_26 : decode cX8_init 26 = .ok (.aload_n 0, 1) := by decide +kernel
theorem dX8_init_27 : decode cX8_init 27 = .ok (.new 23, 3) := by decide +kernel
theorem dX8_init_30 : decode cX8_init 30 = .ok (.dup, 1) := by decide +kernel
theorem dX8_init_31 : decode cX8_init 31 = .ok (.invokespecial 25, 3) := by decide +kernel
theorem dX8_init_34 : decode cX8_init 34 = .ok (.putfield 26, 3) := by decide +kernel
theorem dX8_init_37 : decode cX8_init 37 = .ok (.aload_n 0, 1) := by decide +kernel
theorem dX8_init_38 : decode cX8_init 38 = .ok (.new 30, 3) := by decide +kernel
theorem dX8_init_41 : decode cX8_init 41 = .ok (.dup, 1) := by decide +kernel
theorem dX8_init_42 : decode cX8_init 42 = .ok (.invokespecial 32, 3) := by decide +kernel
theorem dX8_init_45 : decode cX8_init 45 = .ok (.putfield 33, 3) := by decide +kernel
theorem dX8_init_48 : decode cX8_init 48 = .ok (.aload_n 0, 1) := by decide +kernel
theorem dX8_init_49 : decode cX8_init 49 = .ok (.new 37, 3) := by decide +kernel
theorem dX8_init_52 : decode cX8_init 52 = .ok (.dup, 1) := by decide +kernel
theorem dX8_init_53 : decode cX8_init 53 = .ok (.invokespecial 39, 3) := by decide +kernel
theorem dX8_init_56 : decode cX8_init 56 = .ok (.putfield 40, 3) := by decide +kernel
theorem dX8_init_59 : decode cX8_init 59 = .ok (.aload_n 0, 1) := by decide +kernel
theorem dX8_init_60 : decode cX8_init 60 = .ok (.new 44, 3) := by decide +kernel
theorem dX8_init_63 : decode cX8_init 63 = .ok (.dup, 1) := by decide +kernel
theorem dX8_init_64 : decode cX8_init 64 = .ok (.invokespecial 46, 3) := by decide +kernel
theorem dX8_init_67 : decode cX8_init 67 = .ok (.putfield 47, 3) := by decide +kernel
theorem dX8_init_70 : decode cX8_init 70 = .ok (.aload_n 0, 1) := by decide +kernel
theorem dX8_init_71 : decode cX8_init 71 = .ok (.new 51, 3) := by decide +kernel
theorem dX8_init_74 : decode cX8_init 74 = .ok (.dup, 1) := by decide +kernel
theorem dX8_init_75 : decode cX8_init 75 = .ok (.invokespecial 53, 3) := by decide +kernel
theorem dX8_init_78 : decode cX8_init 78 = .ok (.putfield 54, 3) := by decide +kernel
theorem dX8_init_81 : decode cX8_init 81 = .ok (.aload_n 0, 1) := by decide +kernel
theorem dX8_init_82 : decode cX8_init 82 = .ok (.new 58, 3) := by decide +kernel
theorem dX8_init_85 : decode cX8_init 85 = .ok (.dup, 1) := by decide +kernel
theorem dX8_init_86 : decode cX8_init 86 = .ok (.invokespecial 60, 3) := by decide +kernel
theorem dX8_init_89 : decode cX8_init 89 = .ok (.putfield 61, 3) := by decide +kernel
theorem dX8_init_92 : decode cX8_init 92 = .ok (.aload_n 0, 1) := by decide +kernel
theorem dX8_init_93 : decode cX8_init 93 = .ok (.iconst 4, 1) := by decide +kernel
theorem dX8_init_94 : decode cX8_init 94 = .ok (.newarray .int, 2) := by decide +kernel
theorem dX8_init_96 : decode cX8_init 96 = .ok (.putfield 65, 3) := by decide +kernel
theorem dX8_init_99 : decode cX8_init 99 = .ok (.aload_n 0, 1) := by decide +kernel
theorem dX8_init_100 : decode cX8_init 100 = .ok (.iconst 0, 1) := by decide +kernel
theorem dX8_init_101 : decode cX8_init 101 = .ok (.putfield 69, 3) := by decide +kernel
theorem dX8_init_104 : decode cX8_init 104 = .ok (.aload_n 0, 1) := by decide +kernel
theorem dX8_init_105 : decode cX8_init 105 = .ok (.iconst 0, 1) := by decide +kernel
theorem dX8_init_106 : decode cX8_init 106 = .ok (.putfield 73, 3) := by decide +kernel
theorem dX8_init_109 : decode cX8_init 109 = .ok (.return_, 1) := by decide +kernel
theorem dX8_addClause_0 : decode cX8_addClause 0 = .ok (.iload_n 1, 1) := by decide +kernel
theorem dX8_addClause_1 : decode cX8_addClause 1 = .ok (.invokestatic 76, 3) := by decide +kernel
theorem dX8_addClause_4 : decode cX8_addClause 4 = .ok (.ifCond .eq 25, 3) := by decide +kernel
theorem dX8_addClause_7 : decode cX8_addClause 7 = .ok (.iload_n 2, 1) := by decide +kernel
theorem dX8_addClause_8 : decode cX8_addClause 8 = .ok (.invokestatic 80, 3) := by decide +kernel
theorem dX8_addClause_11 : decode cX8_addClause 11 = .ok (.ifCond .eq 18, 3) := by decide +kernel
theorem dX8_addClause_14 : decode cX8_addClause 14 = .ok (.iload_n 3, 1) := by decide +kernel
theorem dX8_addClause_15 : decode cX8_addClause 15 = .ok (.invokestatic 80, 3) := by decide +kernel
theorem dX8_addClause_18 : decode cX8_addClause 18 = .ok (.ifCond .eq 11, 3) := by decide +kernel
theorem dX8_addClause_21 : decode cX8_addClause 21 = .ok (.iload 4, 2) := by decide +kernel
theorem dX8_addClause_23 : decode cX8_addClause 23 = .ok (.invokestatic 80, 3) := by decide +kernel
theorem dX8_addClause_26 : decode cX8_addClause 26 = .ok (.ifCond .ne 10, 3) := by decide +kernel
theorem dX8_addClause_29 : decode cX8_addClause 29 = .ok (.aload_n 0, 1) := by decide +kernel
theorem dX8_addClause_30 : decode cX8_addClause 30 = .ok (.bipush (-2), 2) := by decide +kernel
theorem dX8_addClause_32 : decode cX8_addClause 32 = .ok (.invokevirtual 83, 3) := by decide +kernel
theorem dX8_addClause_35 : decode cX8_addClause 35 = .ok (.ireturn, 1) := by decide +kernel
theorem dX8_addClause_36 : decode cX8_addClause 36 = .ok (.iload_n 1, 1) := by decide +kernel
theorem dX8_addClause_37 : decode cX8_addClause 37 = .ok (.iload_n 2, 1) := by decide +kernel
theorem dX8_addClause_38 : decode cX8_addClause 38 = .ok (.invokestatic 87, 3) := by decide +kernel
theorem dX8_addClause_41 : decode cX8_addClause 41 = .ok (.ifCond .ne 46, 3) := by decide +kernel
theorem dX8_addClause_44 : decode cX8_addClause 44 = .ok (.iload_n 1, 1) := by decide +kernel
theorem dX8_addClause_45 : decode cX8_addClause 45 = .ok (.iload_n 3, 1) := by decide +kernel
theorem dX8_addClause_46 : decode cX8_addClause 46 = .ok (.invokestatic 87, 3) := by decide +kernel
theorem dX8_addClause_49 : decode cX8_addClause 49 = .ok (.ifCond .ne 38, 3) := by decide +kernel
theorem dX8_addClause_52 : decode cX8_addClause 52 = .ok (.iload_n 1, 1) := by decide +kernel
theorem dX8_addClause_53 : decode cX8_addClause 53 = .ok (.iload 4, 2) := by decide +kernel
theorem dX8_addClause_55 : decode cX8_addClause 55 = .ok (.invokestatic 87, 3) := by decide +kernel
theorem dX8_addClause_58 : decode cX8_addClause 58 = .ok (.ifCond .ne 29, 3) := by decide +kernel
theorem dX8_addClause_61 : decode cX8_addClause 61 = .ok (.iload_n 2, 1) := by decide +kernel
theorem dX8_addClause_62 : decode cX8_addClause 62 = .ok (.iload_n 3, 1) := by decide +kernel
theorem dX8_addClause_63 : decode cX8_addClause 63 = .ok (.invokestatic 87, 3) := by decide +kernel
theorem dX8_addClause_66 : decode cX8_addClause 66 = .ok (.ifCond .ne 21, 3) := by decide +kernel
theorem dX8_addClause_69 : decode cX8_addClause 69 = .ok (.iload_n 2, 1) := by decide +kernel
theorem dX8_addClause_70 : decode cX8_addClause 70 = .ok (.iload 4, 2) := by decide +kernel
theorem dX8_addClause_72 : decode cX8_addClause 72 = .ok (.invokestatic 87, 3) := by decide +kernel
theorem dX8_addClause_75 : decode cX8_addClause 75 = .ok (.ifCond .ne 12, 3) := by decide +kernel
theorem dX8_addClause_78 : decode cX8_addClause 78 = .ok (.iload_n 3, 1) := by decide +kernel
theorem dX8_addClause_79 : decode cX8_addClause 79 = .ok (.iload 4, 2) := by decide +kernel
theorem dX8_addClause_81 : decode cX8_addClause 81 = .ok (.invokestatic 87, 3) := by decide +kernel
end
section
theorem dX8_addClause_84 : decode cX8_addClause 84 = .ok (.ifCond .eq 10, 3) := by decide +kernel
theorem dX8_addClause_87 : decode cX8_addClause 87 = .ok (.aload_n 0, 1) := by decide +kernel
theorem dX8_addClause_88 : decode cX8_addClause 88 = .ok (.bipush (-3), 2) := by decide +kernel
theorem dX8_addClause_90 : decode cX8_addClause 90 = .ok (.invokevirtual 83, 3) := by decide +kernel
theorem dX8_addClause_93 : decode cX8_addClause 93 = .ok (.ireturn, 1) := by decide +kernel
theorem dX8_addClause_94 : decode cX8_addClause 94 = .ok (.aload_n 0, 1) := by decide +kernel
theorem dX8_addClause_95 : decode cX8_addClause 95 = .ok (.getfield 12, 3) := by decide +kernel
theorem dX8_addClause_98 : decode cX8_addClause 98 = .ok (.getfield 91, 3) := by decide +kernel
theorem dX8_addClause_101 : decode cX8_addClause 101 = .ok (.bipush 16, 2) := by decide +kernel
theorem dX8_addClause_103 : decode cX8_addClause 103 = .ok (.if_icmp .lt 10, 3) := by decide +kernel
theorem dX8_addClause_106 : decode cX8_addClause 106 = .ok (.aload_n 0, 1) := by decide +kernel
theorem dX8_addClause_107 : decode cX8_addClause 107 = .ok (.bipush (-4), 2) := by decide +kernel
theorem dX8_addClause_109 : decode cX8_addClause 109 = .ok (.invokevirtual 83, 3) := by decide +kernel
theorem dX8_addClause_112 : decode cX8_addClause 112 = .ok (.ireturn, 1) := by decide +kernel
theorem dX8_addClause_113 : decode cX8_addClause 113 = .ok (.aload_n 0, 1) := by decide +kernel
theorem dX8_addClause_114 : decode cX8_addClause 114 = .ok (.getfield 19, 3) := by decide +kernel
theorem dX8_addClause_117 : decode cX8_addClause 117 = .ok (.aload_n 0, 1) := by decide +kernel
theorem dX8_addClause_118 : decode cX8_addClause 118 = .ok (.getfield 12, 3) := by decide +kernel
theorem dX8_addClause_121 : decode cX8_addClause 121 = .ok (.invokevirtual 95, 3) := by decide +kernel
theorem dX8_addClause_124 : decode cX8_addClause 124 = .ok (.aload_n 0, 1) := by decide +kernel
theorem dX8_addClause_125 : decode cX8_addClause 125 = .ok (.getfield 12, 3) := by decide +kernel
theorem dX8_addClause_128 : decode cX8_addClause 128 = .ok (.iload_n 1, 1) := by decide +kernel
theorem dX8_addClause_129 : decode cX8_addClause 129 = .ok (.invokestatic 99, 3) := by decide +kernel
theorem dX8_addClause_132 : decode cX8_addClause 132 = .ok (.iload_n 2, 1) := by decide +kernel
theorem dX8_addClause_133 : decode cX8_addClause 133 = .ok (.invokestatic 99, 3) := by decide +kernel
theorem dX8_addClause_136 : decode cX8_addClause 136 = .ok (.ior, 1) := by decide +kernel
theorem dX8_addClause_137 : decode cX8_addClause 137 = .ok (.iload_n 3, 1) := by decide +kernel
theorem dX8_addClause_138 : decode cX8_addClause 138 = .ok (.invokestatic 99, 3) := by decide +kernel
theorem dX8_addClause_141 : decode cX8_addClause 141 = .ok (.ior, 1) := by decide +kernel
theorem dX8_addClause_142 : decode cX8_addClause 142 = .ok (.iload 4, 2) := by decide +kernel
theorem dX8_addClause_144 : decode cX8_addClause 144 = .ok (.invokestatic 99, 3) := by decide +kernel
theorem dX8_addClause_147 : decode cX8_addClause 147 = .ok (.ior, 1) := by decide +kernel
theorem dX8_addClause_148 : decode cX8_addClause 148 = .ok (.invokevirtual 102, 3) := by decide +kernel
theorem dX8_addClause_151 : decode cX8_addClause 151 = .ok (.aload_n 0, 1) := by decide +kernel
theorem dX8_addClause_152 : decode cX8_addClause 152 = .ok (.invokevirtual 106, 3) := by decide +kernel
theorem dX8_addClause_155 : decode cX8_addClause 155 = .ok (.aload_n 0, 1) := by decide +kernel
theorem dX8_addClause_156 : decode cX8_addClause 156 = .ok (.getfield 12, 3) := by decide +kernel
theorem dX8_addClause_159 : decode cX8_addClause 159 = .ok (.getfield 91, 3) := by decide +kernel
theorem dX8_addClause_162 : decode cX8_addClause 162 = .ok (.iconst 1, 1) := by decide +kernel
theorem dX8_addClause_163 : decode cX8_addClause 163 = .ok (.isub, 1) := by decide +kernel
theorem dX8_addClause_164 : decode cX8_addClause 164 = .ok (.ireturn, 1) := by decide +kernel
theorem dX8_removeClause_0 : decode cX8_removeClause 0 = .ok (.aload_n 0, 1) := by decide +kernel
theorem dX8_removeClause_1 : decode cX8_removeClause 1 = .ok (.getfield 12, 3) := by decide +kernel
theorem dX8_removeClause_4 : decode cX8_removeClause 4 = .ok (.iload_n 1, 1) := by decide +kernel
theorem dX8_removeClause_5 : decode cX8_removeClause 5 = .ok (.invokevirtual 109, 3) := by decide +kernel
theorem dX8_removeClause_8 : decode cX8_removeClause 8 = .ok (.ifCond .ne 10, 3) := by decide +kernel
theorem dX8_removeClause_11 : decode cX8_removeClause 11 = .ok (.aload_n 0, 1) := by decide +kernel
theorem dX8_removeClause_12 : decode cX8_removeClause 12 = .ok (.bipush (-2), 2) := by decide +kernel
theorem dX8_removeClause_14 : decode cX8_removeClause 14 = .ok (.invokevirtual 83, 3) := by decide +kernel
theorem dX8_removeClause_17 : decode cX8_removeClause 17 = .ok (.ireturn, 1) := by decide +kernel
theorem dX8_removeClause_18 : decode cX8_removeClause 18 = .ok (.aload_n 0, 1) := by decide +kernel
theorem dX8_removeClause_19 : decode cX8_removeClause 19 = .ok (.getfield 19, 3) := by decide +kernel
theorem dX8_removeClause_22 : decode cX8_removeClause 22 = .ok (.aload_n 0, 1) := by decide +kernel
theorem dX8_removeClause_23 : decode cX8_removeClause 23 = .ok (.getfield 12, 3) := by decide +kernel
theorem dX8_removeClause_26 : decode cX8_removeClause 26 = .ok (.invokevirtual 95, 3) := by decide +kernel
theorem dX8_removeClause_29 : decode cX8_removeClause 29 = .ok (.aload_n 0, 1) := by decide +kernel
theorem dX8_removeClause_30 : decode cX8_removeClause 30 = .ok (.getfield 12, 3) := by decide +kernel
theorem dX8_removeClause_33 : decode cX8_removeClause 33 = .ok (.iload_n 1, 1) := by decide +kernel
theorem dX8_removeClause_34 : decode cX8_removeClause 34 = .ok (.invokevirtual 112, 3) := by decide +kernel
theorem dX8_removeClause_37 : decode cX8_removeClause 37 = .ok (.aload_n 0, 1) := by decide +kernel
theorem dX8_removeClause_38 : decode cX8_removeClause 38 = .ok (.invokevirtual 106, 3) := by decide +kernel
theorem dX8_removeClause_41 : decode cX8_removeClause 41 = .ok (.aload_n 0, 1) := by decide +kernel
theorem dX8_removeClause_42 : decode cX8_removeClause 42 = .ok (.getfield 12, 3) := by decide +kernel
theorem dX8_removeClause_45 : decode cX8_removeClause 45 = .ok (.getfield 91, 3) := by decide +kernel
theorem dX8_removeClause_48 : decode cX8_removeClause 48 = .ok (.ireturn, 1) := by decide +kernel
theorem dX8_clauses_0 : decode cX8_clauses 0 = .ok (.aload_n 0, 1) := by decide +kernel
theorem dX8_clauses_1 : decode cX8_clauses 1 = .ok (.getfield 12, 3) := by decide +kernel
theorem dX8_clauses_4 : decode cX8_clauses 4 = .ok (.getfield 91, 3) := by decide +kernel
theorem dX8_clauses_7 : decode cX8_clauses 7 = .ok (.ireturn, 1) := by decide +kernel
theorem dX8_clauseSize_0 : decode cX8_clauseSize 0 = .ok (.aload_n 0, 1) := by decide +kernel
theorem dX8_clauseSize_1 : decode cX8_clauseSize 1 = .ok (.getfield 12, 3) := by decide +kernel
theorem dX8_clauseSize_4 : decode cX8_clauseSize 4 = .ok (.iload_n 1, 1) := by decide +kernel
theorem dX8_clauseSize_5 : decode cX8_clauseSize 5 = .ok (.invokevirtual 109, 3) := by decide +kernel
theorem dX8_clauseSize_8 : decode cX8_clauseSize 8 = .ok (.ifCond .ne 10, 3) := by decide +kernel
theorem dX8_clauseSize_11 : decode cX8_clauseSize 11 = .ok (.aload_n 0, 1) := by decide +kernel
theorem dX8_clauseSize_12 : decode cX8_clauseSize 12 = .ok (.bipush (-2), 2) := by decide +kernel
theorem dX8_clauseSize_14 : decode cX8_clauseSize 14 = .ok (.invokevirtual 83, 3) := by decide +kernel
theorem dX8_clauseSize_17 : decode cX8_clauseSize 17 = .ok (.ireturn, 1) := by decide +kernel
theorem dX8_clauseSize_18 : decode cX8_clauseSize 18 = .ok (.aload_n 0, 1) := by decide +kernel
theorem dX8_clauseSize_19 : decode cX8_clauseSize 19 = .ok (.getfield 12, 3) := by decide +kernel
theorem dX8_clauseSize_22 : decode cX8_clauseSize 22 = .ok (.iload_n 1, 1) := by decide +kernel
theorem dX8_clauseSize_23 : decode cX8_clauseSize 23 = .ok (.invokevirtual 115, 3) := by decide +kernel
theorem dX8_clauseSize_26 : decode cX8_clauseSize 26 = .ok (.invokestatic 118, 3) := by decide +kernel
theorem dX8_clauseSize_29 : decode cX8_clauseSize 29 = .ok (.ireturn, 1) := by decide +kernel
theorem dX8_assume_0 : decode cX8_assume 0 = .ok (.iload_n 1, 1) := by decide +kernel
theorem dX8_assume_1 : decode cX8_assume 1 = .ok (.invokestatic 76, 3) := by decide +kernel
theorem dX8_assume_4 : decode cX8_assume 4 = .ok (.ifCond .ne 10, 3) := by decide +kernel
theorem dX8_assume_7 : decode cX8_assume 7 = .ok (.aload_n 0, 1) := by decide +kernel
theorem dX8_assume_8 : decode cX8_assume 8 = .ok (.bipush (-2), 2) := by decide +kernel
theorem dX8_assume_10 : decode cX8_assume 10 = .ok (.invokevirtual 83, 3) := by decide +kernel
theorem dX8_assume_13 : decode cX8_assume 13 = .ok (.ireturn, 1) := by decide +kernel
theorem dX8_assume_14 : decode cX8_assume 14 = .ok (.aload_n 0, 1) := by decide +kernel
theorem dX8_assume_15 : decode cX8_assume 15 = .ok (.getfield 12, 3) := by decide +kernel
theorem dX8_assume_18 : decode cX8_assume 18 = .ok (.getfield 123, 3) := by decide +kernel
theorem dX8_assume_21 : decode cX8_assume 21 = .ok (.invokestatic 126, 3) := by decide +kernel
theorem dX8_assume_24 : decode cX8_assume 24 = .ok (.iload_n 1, 1) := by decide +kernel
theorem dX8_assume_25 : decode cX8_assume 25 = .ok (.invokestatic 99, 3) := by decide +kernel
theorem dX8_assume_28 : decode cX8_assume 28 = .ok (.invokestatic 126, 3) := by decide +kernel
theorem dX8_assume_31 : decode cX8_assume 31 = .ok (.iand, 1) := by decide +kernel
theorem dX8_assume_32 : decode cX8_assume 32 = .ok (.ifCond .eq 10, 3) := by decide +kernel
theorem dX8_assume_35 : decode cX8_assume 35 = .ok (.aload_n 0, 1) := by decide +kernel
theorem dX8_assume_36 : decode cX8_assume 36 = .ok (.bipush (-3), 2) := by decide +kernel
theorem dX8_assume_38 : decode cX8_assume 38 = .ok (.invokevirtual 83, 3) := by decide +kernel
theorem dX8_assume_41 : decode cX8_assume 41 = .ok (.ireturn, 1) := by decide +kernel
theorem dX8_assume_42 : decode cX8_assume 42 = .ok (.aload_n 0, 1) := by decide +kernel
theorem dX8_assume_43 : decode cX8_assume 43 = .ok (.getfield 19, 3) := by decide +kernel
theorem dX8_assume_46 : decode cX8_assume 46 = .ok (.aload_n 0, 1) := by decide +kernel
theorem dX8_assume_47 : decode cX8_assume 47 = .ok (.getfield 12, 3) := by decide +kernel
theorem dX8_assume_50 : decode cX8_assume 50 = .ok (.invokevirtual 95, 3) := by decide +kernel
theorem dX8_assume_53 : decode cX8_assume 53 = .ok (.aload_n 0, 1) := by decide +kernel
theorem dX8_assume_54 : decode cX8_assume 54 = .ok (.getfield 12, 3) := by decide +kernel
theorem dX8_assume_57 : decode cX8_assume 57 = .ok (.dup, 1) := by decide +kernel
theorem dX8_assume_58 : decode cX8_assume 58 = .ok (.getfield 123, 3) := by decide +kernel
theorem dX8_assume_61 : decode cX8_assume 61 = .ok (.iload_n 1, 1) := by decide +kernel
theorem dX8_assume_62 : decode cX8_assume 62 = .ok (.invokestatic 99, 3) := by decide +kernel
theorem dX8_assume_65 : decode cX8_assume 65 = .ok (.ior, 1) := by decide +kernel
theorem dX8_assume_66 : decode cX8_assume 66 = .ok (.putfield 123, 3) := by decide +kernel
theorem dX8_assume_69 : decode cX8_assume 69 = .ok (.aload_n 0, 1) := by decide +kernel
theorem dX8_assume_70 : decode cX8_assume 70 = .ok (.invokevirtual 106, 3) := by decide +kernel
theorem dX8_assume_73 : decode cX8_assume 73 = .ok (.aload_n 0, 1) := by decide +kernel
theorem dX8_assume_74 : decode cX8_assume 74 = .ok (.getfield 12, 3) := by decide +kernel
theorem dX8_assume_77 : decode cX8_assume 77 = .ok (.getfield 123, 3) := by decide +kernel
theorem dX8_assume_80 : decode cX8_assume 80 = .ok (.invokestatic 118, 3) := by decide +kernel
theorem dX8_assume_83 : decode cX8_assume 83 = .ok (.ireturn, 1) := by decide +kernel
theorem dX8_retractAll_0 : decode cX8_retractAll 0 = .ok (.aload_n 0, 1) := by decide +kernel
theorem dX8_retractAll_1 : decode cX8_retractAll 1 = .ok (.getfield 12, 3) := by decide +kernel
theorem dX8_retractAll_4 : decode cX8_retractAll 4 = .ok (.getfield 123, 3) := by decide +kernel
theorem dX8_retractAll_7 : decode cX8_retractAll 7 = .ok (.invokestatic 118, 3) := by decide +kernel
theorem dX8_retractAll_10 : decode cX8_retractAll 10 = .ok (.istore_n 1, 1) := by decide +kernel
theorem dX8_retractAll_11 : decode cX8_retractAll 11 = .ok (.aload_n 0, 1) := by decide +kernel
theorem dX8_retractAll_12 : decode cX8_retractAll 12 = .ok (.getfield 19, 3) := by decide +kernel
theorem dX8_retractAll_15 : decode cX8_retractAll 15 = .ok (.aload_n 0, 1) := by decide +kernel
theorem dX8_retractAll_16 : decode cX8_retractAll 16 = .ok (.getfield 12, 3) := by decide +kernel
theorem dX8_retractAll_19 : decode cX8_retractAll 19 = .ok (.invokevirtual 95, 3) := by decide +kernel
theorem dX8_retractAll_22 : decode cX8_retractAll 22 = .ok (.aload_n 0, 1) := by decide +kernel
theorem dX8_retractAll_23 : decode cX8_retractAll 23 = .ok (.getfield 12, 3) := by decide +kernel
theorem dX8_retractAll_26 : decode cX8_retractAll 26 = .ok (.iconst 0, 1) := by decide +kernel
theorem dX8_retractAll_27 : decode cX8_retractAll 27 = .ok (.putfield 123, 3) := by decide +kernel
theorem dX8_retractAll_30 : decode cX8_retractAll 30 = .ok (.aload_n 0, 1) := by decide +kernel
theorem dX8_retractAll_31 : decode cX8_retractAll 31 = .ok (.invokevirtual 106, 3) := by decide +kernel
theorem dX8_retractAll_34 : decode cX8_retractAll 34 = .ok (.iload_n 1, 1) := by decide +kernel
theorem dX8_retractAll_35 : decode cX8_retractAll 35 = .ok (.ireturn, 1) := by decide +kernel
theorem dX8_setWeight_0 : decode cX8_setWeight 0 = .ok (.iload_n 1, 1) := by decide +kernel
theorem dX8_setWeight_1 : decode cX8_setWeight 1 = .ok (.invokestatic 76, 3) := by decide +kernel
theorem dX8_setWeight_4 : decode cX8_setWeight 4 = .ok (.ifCond .eq 13, 3) := by decide +kernel
theorem dX8_setWeight_7 : decode cX8_setWeight 7 = .ok (.iload_n 2, 1) := by decide +kernel
theorem dX8_setWeight_8 : decode cX8_setWeight 8 = .ok (.ifCond .lt 9, 3) := by decide +kernel
theorem dX8_setWeight_11 : decode cX8_setWeight 11 = .ok (.iload_n 2, 1) := by decide +kernel
theorem dX8_setWeight_12 : decode cX8_setWeight 12 = .ok (.bipush 9, 2) := by decide +kernel
theorem dX8_setWeight_14 : decode cX8_setWeight 14 = .ok (.if_icmp .le 10, 3) := by decide +kernel
theorem dX8_setWeight_17 : decode cX8_setWeight 17 = .ok (.aload_n 0, 1) := by decide +kernel
theorem dX8_setWeight_18 : decode cX8_setWeight 18 = .ok (.bipush (-2), 2) := by decide +kernel
theorem dX8_setWeight_20 : decode cX8_setWeight 20 = .ok (.invokevirtual 83, 3) := by decide +kernel
theorem dX8_setWeight_23 : decode cX8_setWeight 23 = .ok (.ireturn, 1) := by decide +kernel
theorem dX8_setWeight_24 : decode cX8_setWeight 24 = .ok (.aload_n 0, 1) := by decide +kernel
theorem dX8_setWeight_25 : decode cX8_setWeight 25 = .ok (.getfield 19, 3) := by decide +kernel
theorem dX8_setWeight_28 : decode cX8_setWeight 28 = .ok (.aload_n 0, 1) := by decide +kernel
theorem dX8_setWeight_29 : decode cX8_setWeight 29 = .ok (.getfield 12, 3) := by decide +kernel
theorem dX8_setWeight_32 : decode cX8_setWeight 32 = .ok (.invokevirtual 95, 3) := by decide +kernel
theorem dX8_setWeight_35 : decode cX8_setWeight 35 = .ok (.aload_n 0, 1) := by decide +kernel
theorem dX8_setWeight_36 : decode cX8_setWeight 36 = .ok (.getfield 12, 3) := by decide +kernel
theorem dX8_setWeight_39 : decode cX8_setWeight 39 = .ok (.iload_n 1, 1) := by decide +kernel
theorem dX8_setWeight_40 : decode cX8_setWeight 40 = .ok (.invokestatic 129, 3) := by decide +kernel
theorem dX8_setWeight_43 : decode cX8_setWeight 43 = .ok (.iload_n 2, 1) := by decide +kernel
theorem dX8_setWeight_44 : decode cX8_setWeight 44 = .ok (.invokevirtual 132, 3) := by decide +kernel
theorem dX8_setWeight_47 : decode cX8_setWeight 47 = .ok (.ireturn, 1) := by decide +kernel
theorem dX8_nodes_0 : decode cX8_nodes 0 = .ok (.aload_n 0, 1) := by decide +kernel
theorem dX8_nodes_1 : decode cX8_nodes 1 = .ok (.invokevirtual 136, 3) := by decide +kernel
theorem dX8_nodes_4 : decode cX8_nodes 4 = .ok (.invokevirtual 140, 3) := by decide +kernel
theorem dX8_nodes_7 : decode cX8_nodes 7 = .ok (.ireturn, 1) := by decide +kernel
theorem dX8_decisionNodes_0 : decode cX8_decisionNodes 0 = .ok (.aload_n 0, 1) := by decide +kernel
theorem dX8_decisionNodes_1 : decode cX8_decisionNodes 1 = .ok (.invokevirtual 136, 3) := by decide +kernel
theorem dX8_decisionNodes_4 : decode cX8_decisionNodes 4 = .ok (.getfield 144, 3) := by decide +kernel
theorem dX8_decisionNodes_7 : decode cX8_decisionNodes 7 = .ok (.ireturn, 1) := by decide +kernel
theorem dX8_andNodes_0 : decode cX8_andNodes 0 = .ok (.aload_n 0, 1) := by decide +kernel
theorem dX8_andNodes_1 : decode cX8_andNodes 1 = .ok (.invokevirtual 136, 3) := by decide +kernel
theorem dX8_andNodes_4 : decode cX8_andNodes 4 = .ok (.getfield 147, 3) := by decide +kernel
theorem dX8_andNodes_7 : decode cX8_andNodes 7 = .ok (.ireturn, 1) := by decide +kernel
theorem dX8_depth_0 : decode cX8_depth 0 = .ok (.aload_n 0, 1) := by decide +kernel
theorem dX8_depth_1 : decode cX8_depth 1 = .ok (.invokevirtual 136, 3) := by decide +kernel
theorem dX8_depth_4 : decode cX8_depth 4 = .ok (.getfield 150, 3) := by decide +kernel
theorem dX8_depth_7 : decode cX8_depth 7 = .ok (.ireturn, 1) := by decide +kernel
theorem dX8_rootVariable_0 : decode cX8_rootVariable 0 = .ok (.aload_n 0, 1) := by decide +kernel
theorem dX8_rootVariable_1 : decode cX8_rootVariable 1 = .ok (.invokevirtual 136, 3) := by decide +kernel
theorem dX8_rootVariable_4 : decode cX8_rootVariable 4 = .ok (.invokevirtual 153, 3) := by decide +kernel
theorem dX8_rootVariable_7 : decode cX8_rootVariable 7 = .ok (.ireturn, 1) := by decide +kernel
theorem dX8_components_0 : decode cX8_components 0 = .ok (.aload_n 0, 1) := by decide +kernel
theorem dX8_components_1 : decode cX8_components 1 = .ok (.invokevirtual 136, 3) := by decide +kernel
theorem dX8_components_4 : decode cX8_components 4 = .ok (.invokevirtual 156, 3) := by decide +kernel
theorem dX8_components_7 : decode cX8_components 7 = .ok (.ireturn, 1) := by decide +kernel
theorem dX8_models_0 : decode cX8_models 0 = .ok (.aload_n 0, 1) := by decide +kernel
theorem dX8_models_1 : decode cX8_models 1 = .ok (.invokevirtual 159, 3) := by decide +kernel
theorem dX8_models_4 : decode cX8_models 4 = .ok (.invokevirtual 163, 3) := by decide +kernel
theorem dX8_models_7 : decode cX8_models 7 = .ok (.ireturn, 1) := by decide +kernel
theorem dX8_modelsWith_0 : decode cX8_modelsWith 0 = .ok (.iload_n 1, 1) := by decide +kernel
theorem dX8_modelsWith_1 : decode cX8_modelsWith 1 = .ok (.invokestatic 76, 3) := by decide +kernel
theorem dX8_modelsWith_4 : decode cX8_modelsWith 4 = .ok (.ifCond .ne 10, 3) := by decide +kernel
theorem dX8_modelsWith_7 : decode cX8_modelsWith 7 = .ok (.aload_n 0, 1) := by decide +kernel
theorem dX8_modelsWith_8 : decode cX8_modelsWith 8 = .ok (.bipush (-2), 2) := by decide +kernel
theorem dX8_modelsWith_10 : decode cX8_modelsWith 10 = .ok (.invokevirtual 83, 3) := by decide +kernel
theorem dX8_modelsWith_13 : decode cX8_modelsWith 13 = .ok (.ireturn, 1) := by decide +kernel
theorem dX8_modelsWith_14 : decode cX8_modelsWith 14 = .ok (.aload_n 0, 1) := by decide +kernel
theorem dX8_modelsWith_15 : decode cX8_modelsWith 15 = .ok (.invokevirtual 159, 3) := by decide +kernel
theorem dX8_modelsWith_18 : decode cX8_modelsWith 18 = .ok (.iload_n 1, 1) := by decide +kernel
theorem dX8_modelsWith_19 : decode cX8_modelsWith 19 = .ok (.invokestatic 129, 3) := by decide +kernel
theorem dX8_modelsWith_22 : decode cX8_modelsWith 22 = .ok (.invokevirtual 166, 3) := by decide +kernel
theorem dX8_modelsWith_25 : decode cX8_modelsWith 25 = .ok (.ireturn, 1) := by decide +kernel
theorem dX8_weightedCount_0 : decode cX8_weightedCount 0 = .ok (.aload_n 0, 1) := by decide +kernel
theorem dX8_weightedCount_1 : decode cX8_weightedCount 1 = .ok (.getfield 54, 3) := by decide +kernel
theorem dX8_weightedCount_4 : decode cX8_weightedCount 4 = .ok (.aload_n 0, 1) := by decide +kernel
theorem dX8_weightedCount_5 : decode cX8_weightedCount 5 = .ok (.invokevirtual 159, 3) := by decide +kernel
theorem dX8_weightedCount_8 : decode cX8_weightedCount 8 = .ok (.aload_n 0, 1) := by decide +kernel
theorem dX8_weightedCount_9 : decode cX8_weightedCount 9 = .ok (.getfield 12, 3) := by decide +kernel
theorem dX8_weightedCount_12 : decode cX8_weightedCount 12 = .ok (.invokevirtual 169, 3) := by decide +kernel
theorem dX8_weightedCount_15 : decode cX8_weightedCount 15 = .ok (.lreturn, 1) := by decide +kernel
theorem dX8_shareBits_0 : decode cX8_shareBits 0 = .ok (.aload_n 0, 1) := by decide +kernel
theorem dX8_shareBits_1 : decode cX8_shareBits 1 = .ok (.invokevirtual 173, 3) := by decide +kernel
theorem dX8_shareBits_4 : decode cX8_shareBits 4 = .ok (.invokestatic 176, 3) := by decide +kernel
theorem dX8_shareBits_7 : decode cX8_shareBits 7 = .ok (.ireturn, 1) := by decide +kernel
theorem dX8_implied_0 : decode cX8_implied 0 = .ok (.iload_n 1, 1) := by decide +kernel
theorem dX8_implied_1 : decode cX8_implied 1 = .ok (.iconst 1, 1) := by decide +kernel
theorem dX8_implied_2 : decode cX8_implied 2 = .ok (.if_icmp .eq 15, 3) := by decide +kernel
theorem dX8_implied_5 : decode cX8_implied 5 = .ok (.iload_n 1, 1) := by decide +kernel
theorem dX8_implied_6 : decode cX8_implied 6 = .ok (.iconst (-1), 1) := by decide +kernel
theorem dX8_implied_7 : decode cX8_implied 7 = .ok (.if_icmp .eq 10, 3) := by decide +kernel
theorem dX8_implied_10 : decode cX8_implied 10 = .ok (.aload_n 0, 1) := by decide +kernel
theorem dX8_implied_11 : decode cX8_implied 11 = .ok (.bipush (-2), 2) := by decide +kernel
theorem dX8_implied_13 : decode cX8_implied 13 = .ok (.invokevirtual 83, 3) := by decide +kernel
theorem dX8_implied_16 : decode cX8_implied 16 = .ok (.ireturn, 1) := by decide +kernel
theorem dX8_implied_17 : decode cX8_implied 17 = .ok (.aload_n 0, 1) := by decide +kernel
theorem dX8_implied_18 : decode cX8_implied 18 = .ok (.invokevirtual 159, 3) := by decide +kernel
theorem dX8_implied_21 : decode cX8_implied 21 = .ok (.astore_n 2, 1) := by decide +kernel
theorem dX8_implied_22 : decode cX8_implied 22 = .ok (.iconst 0, 1) := by decide +kernel
theorem dX8_implied_23 : decode cX8_implied 23 = .ok (.istore_n 3, 1) := by decide +kernel
theorem dX8_implied_24 : decode cX8_implied 24 = .ok (.iconst 1, 1) := by decide +kernel
theorem dX8_implied_25 : decode cX8_implied 25 = .ok (.istore 4, 2) := by decide +kernel
theorem dX8_implied_27 : decode cX8_implied 27 = .ok (.iload 4, 2) := by decide +kernel
theorem dX8_implied_29 : decode cX8_implied 29 = .ok (.bipush 10, 2) := by decide +kernel
theorem dX8_implied_31 : decode cX8_implied 31 = .ok (.if_icmp .gt 33, 3) := by decide +kernel
theorem dX8_implied_34 : decode cX8_implied 34 = .ok (.aload_n 2, 1) := by decide +kernel
theorem dX8_implied_35 : decode cX8_implied 35 = .ok (.iload_n 1, 1) := by decide +kernel
theorem dX8_implied_36 : decode cX8_implied 36 = .ok (.ineg, 1) := by decide +kernel
theorem dX8_implied_37 : decode cX8_implied 37 = .ok (.iload 4, 2) := by decide +kernel
theorem dX8_implied_39 : decode cX8_implied 39 = .ok (.imul, 1) := by decide +kernel
theorem dX8_implied_40 : decode cX8_implied 40 = .ok (.invokestatic 129, 3) := by decide +kernel
theorem dX8_implied_43 : decode cX8_implied 43 = .ok (.invokevirtual 166, 3) := by decide +kernel
theorem dX8_implied_46 : decode cX8_implied 46 = .ok (.ifCond .ne 12, 3) := by decide +kernel
theorem dX8_implied_49 : decode cX8_implied 49 = .ok (.iload_n 3, 1) := by decide +kernel
theorem dX8_implied_50 : decode cX8_implied 50 = .ok (.iconst 1, 1) := by decide +kernel
theorem dX8_implied_51 : decode cX8_implied 51 = .ok (.iload 4, 2) := by decide +kernel
theorem dX8_implied_53 : decode cX8_implied 53 = .ok (.iconst 1, 1) := by decide +kernel
theorem dX8_implied_54 : decode cX8_implied 54 = .ok (.isub, 1) := by decide +kernel
theorem dX8_implied_55 : decode cX8_implied 55 = .ok (.ishl, 1) := by decide +kernel
theorem dX8_implied_56 : decode cX8_implied 56 = .ok (.ior, 1) := by decide +kernel
theorem dX8_implied_57 : decode cX8_implied 57 = .ok (.istore_n 3, 1) := by decide +kernel
theorem dX8_implied_58 : decode cX8_implied 58 = .ok (.iinc 4 1, 3) := by decide +kernel
theorem dX8_implied_61 : decode cX8_implied 61 = .ok (.goto (-34), 3) := by decide +kernel
theorem dX8_implied_64 : decode cX8_implied 64 = .ok (.iload_n 3, 1) := by decide +kernel
theorem dX8_implied_65 : decode cX8_implied 65 = .ok (.ireturn, 1) := by decide +kernel
theorem dX8_leastModel_0 : decode cX8_leastModel 0 = .ok (.aload_n 0, 1) := by decide +kernel
theorem dX8_leastModel_1 : decode cX8_leastModel 1 = .ok (.invokevirtual 159, 3) := by decide +kernel
theorem dX8_leastModel_4 : decode cX8_leastModel 4 = .ok (.invokevirtual 179, 3) := by decide +kernel
theorem dX8_leastModel_7 : decode cX8_leastModel 7 = .ok (.ireturn, 1) := by decide +kernel
theorem dX8_explanation_0 : decode cX8_explanation 0 = .ok (.iload_n 1, 1) := by decide +kernel
theorem dX8_explanation_1 : decode cX8_explanation 1 = .ok (.invokestatic 76, 3) := by decide +kernel
theorem dX8_explanation_4 : decode cX8_explanation 4 = .ok (.ifCond .eq 13, 3) := by decide +kernel
theorem dX8_explanation_7 : decode cX8_explanation 7 = .ok (.iload_n 2, 1) := by decide +kernel
theorem dX8_explanation_8 : decode cX8_explanation 8 = .ok (.iconst (-1), 1) := by decide +kernel
theorem dX8_explanation_9 : decode cX8_explanation 9 = .ok (.if_icmp .lt 8, 3) := by decide +kernel
theorem dX8_explanation_12 : decode cX8_explanation 12 = .ok (.iload_n 2, 1) := by decide +kernel
theorem dX8_explanation_13 : decode cX8_explanation 13 = .ok (.iconst 3, 1) := by decide +kernel
theorem dX8_explanation_14 : decode cX8_explanation 14 = .ok (.if_icmp .lt 13, 3) := by decide +kernel
theorem dX8_explanation_17 : decode cX8_explanation 17 = .ok (.aload_n 0, 1) := by decide +kernel
theorem dX8_explanation_18 : decode cX8_explanation 18 = .ok (.bipush (-2), 2) := by decide +kernel
theorem dX8_explanation_20 : decode cX8_explanation 20 = .ok (.invokevirtual 83, 3) := by decide +kernel
theorem dX8_explanation_23 : decode cX8_explanation 23 = .ok (.pop, 1) := by decide +kernel
theorem dX8_explanation_24 : decode cX8_explanation 24 = .ok (.bipush (-102), 2) := by decide +kernel
theorem dX8_explanation_26 : decode cX8_explanation 26 = .ok (.ireturn, 1) := by decide +kernel
theorem dX8_explanation_27 : decode cX8_explanation 27 = .ok (.aload_n 0, 1) := by decide +kernel
theorem dX8_explanation_28 : decode cX8_explanation 28 = .ok (.getfield 61, 3) := by decide +kernel
theorem dX8_explanation_31 : decode cX8_explanation 31 = .ok (.getfield 182, 3) := by decide +kernel
theorem dX8_explanation_34 : decode cX8_explanation 34 = .ok (.iload_n 1, 1) := by decide +kernel
theorem dX8_explanation_35 : decode cX8_explanation 35 = .ok (.invokestatic 129, 3) := by decide +kernel
theorem dX8_explanation_38 : decode cX8_explanation 38 = .ok (.if_icmp .eq 25, 3) := by decide +kernel
theorem dX8_explanation_41 : decode cX8_explanation 41 = .ok (.aload_n 0, 1) := by decide +kernel
theorem dX8_explanation_42 : decode cX8_explanation 42 = .ok (.getfield 61, 3) := by decide +kernel
theorem dX8_explanation_45 : decode cX8_explanation 45 = .ok (.iload_n 1, 1) := by decide +kernel
theorem dX8_explanation_46 : decode cX8_explanation 46 = .ok (.invokestatic 129, 3) := by decide +kernel
theorem dX8_explanation_49 : decode cX8_explanation 49 = .ok (.aload_n 0, 1) := by decide +kernel
theorem dX8_explanation_50 : decode cX8_explanation 50 = .ok (.invokevirtual 159, 3) := by decide +kernel
theorem dX8_explanation_53 : decode cX8_explanation 53 = .ok (.aload_n 0, 1) := by decide +kernel
theorem dX8_explanation_54 : decode cX8_explanation 54 = .ok (.getfield 12, 3) := by decide +kernel
theorem dX8_explanation_57 : decode cX8_explanation 57 = .ok (.getfield 123, 3) := by decide +kernel
theorem dX8_explanation_60 : decode cX8_explanation 60 = .ok (.invokevirtual 185, 3) := by decide +kernel
theorem dX8_explanation_63 : decode cX8_explanation 63 = .ok (.iload_n 2, 1) := by decide +kernel
theorem dX8_explanation_64 : decode cX8_explanation 64 = .ok (.iconst (-1), 1) := by decide +kernel
theorem dX8_explanation_65 : decode cX8_explanation 65 = .ok (.if_icmp .ne 13, 3) := by decide +kernel
theorem dX8_explanation_68 : decode cX8_explanation 68 = .ok (.aload_n 0, 1) := by decide +kernel
theorem dX8_explanation_69 : decode cX8_explanation 69 = .ok (.getfield 61, 3) := by decide +kernel
theorem dX8_explanation_72 : decode cX8_explanation 72 = .ok (.getfield 189, 3) := by decide +kernel
theorem dX8_explanation_75 : decode cX8_explanation 75 = .ok (.goto 11, 3) := by decide +kernel
theorem dX8_explanation_78 : decode cX8_explanation 78 = .ok (.aload_n 0, 1) := by decide +kernel
theorem dX8_explanation_79 : decode cX8_explanation 79 = .ok (.getfield 61, 3) := by decide +kernel
theorem dX8_explanation_82 : decode cX8_explanation 82 = .ok (.iload_n 2, 1) := by decide +kernel
theorem dX8_explanation_83 : decode cX8_explanation 83 = .ok (.invokevirtual 192, 3) := by decide +kernel
theorem dX8_explanation_86 : decode cX8_explanation 86 = .ok (.ireturn, 1) := by decide +kernel
theorem dX8_append_0 : decode cX8_append 0 = .ok (.iload_n 1, 1) := by decide +kernel
theorem dX8_append_1 : decode cX8_append 1 = .ok (.ifCond .lt 9, 3) := by decide +kernel
theorem dX8_append_4 : decode cX8_append 4 = .ok (.iload_n 1, 1) := by decide +kernel
theorem dX8_append_5 : decode cX8_append 5 = .ok (.bipush 127, 2) := by decide +kernel
theorem dX8_append_7 : decode cX8_append 7 = .ok (.if_icmp .le 10, 3) := by decide +kernel
theorem dX8_append_10 : decode cX8_append 10 = .ok (.aload_n 0, 1) := by decide +kernel
theorem dX8_append_11 : decode cX8_append 11 = .ok (.bipush (-2), 2) := by decide +kernel
theorem dX8_append_13 : decode cX8_append 13 = .ok (.invokevirtual 83, 3) := by decide +kernel
theorem dX8_append_16 : decode cX8_append 16 = .ok (.ireturn, 1) := by decide +kernel
theorem dX8_append_17 : decode cX8_append 17 = .ok (.aload_n 0, 1) := by decide +kernel
theorem dX8_append_18 : decode cX8_append 18 = .ok (.getfield 26, 3) := by decide +kernel
theorem dX8_append_21 : decode cX8_append 21 = .ok (.getfield 195, 3) := by decide +kernel
theorem dX8_append_24 : decode cX8_append 24 = .ok (.sipush 150, 3) := by decide +kernel
theorem dX8_append_27 : decode cX8_append 27 = .ok (.if_icmp .lt 10, 3) := by decide +kernel
theorem dX8_append_30 : decode cX8_append 30 = .ok (.aload_n 0, 1) := by decide +kernel
theorem dX8_append_31 : decode cX8_append 31 = .ok (.bipush (-4), 2) := by decide +kernel
theorem dX8_append_33 : decode cX8_append 33 = .ok (.invokevirtual 83, 3) := by decide +kernel
theorem dX8_append_36 : decode cX8_append 36 = .ok (.ireturn, 1) := by decide +kernel
theorem dX8_append_37 : decode cX8_append 37 = .ok (.aload_n 0, 1) := by decide +kernel
theorem dX8_append_38 : decode cX8_append 38 = .ok (.getfield 26, 3) := by decide +kernel
theorem dX8_append_41 : decode cX8_append 41 = .ok (.iload_n 1, 1) := by decide +kernel
theorem dX8_append_42 : decode cX8_append 42 = .ok (.invokevirtual 198, 3) := by decide +kernel
theorem dX8_append_45 : decode cX8_append 45 = .ok (.aload_n 0, 1) := by decide +kernel
theorem dX8_append_46 : decode cX8_append 46 = .ok (.getfield 26, 3) := by decide +kernel
theorem dX8_append_49 : decode cX8_append 49 = .ok (.getfield 195, 3) := by decide +kernel
theorem dX8_append_52 : decode cX8_append 52 = .ok (.ireturn, 1) := by decide +kernel
theorem dX8_clearText_0 : decode cX8_clearText 0 = .ok (.aload_n 0, 1) := by decide +kernel
theorem dX8_clearText_1 : decode cX8_clearText 1 = .ok (.getfield 26, 3) := by decide +kernel
theorem dX8_clearText_4 : decode cX8_clearText 4 = .ok (.getfield 195, 3) := by decide +kernel
theorem dX8_clearText_7 : decode cX8_clearText 7 = .ok (.istore_n 1, 1) := by decide +kernel
theorem dX8_clearText_8 : decode cX8_clearText 8 = .ok (.aload_n 0, 1) := by decide +kernel
theorem dX8_clearText_9 : decode cX8_clearText 9 = .ok (.getfield 26, 3) := by decide +kernel
theorem dX8_clearText_12 : decode cX8_clearText 12 = .ok (.iconst 0, 1) := by decide +kernel
theorem dX8_clearText_13 : decode cX8_clearText 13 = .ok (.putfield 195, 3) := by decide +kernel
theorem dX8_clearText_16 : decode cX8_clearText 16 = .ok (.iload_n 1, 1) := by decide +kernel
theorem dX8_clearText_17 : decode cX8_clearText 17 = .ok (.ireturn, 1) := by decide +kernel
theorem dX8_parse_0 : decode cX8_parse 0 = .ok (.aload_n 0, 1) := by decide +kernel
theorem dX8_parse_1 : decode cX8_parse 1 = .ok (.getfield 33, 3) := by decide +kernel
theorem dX8_parse_4 : decode cX8_parse 4 = .ok (.aload_n 0, 1) := by decide +kernel
theorem dX8_parse_5 : decode cX8_parse 5 = .ok (.getfield 26, 3) := by decide +kernel
theorem dX8_parse_8 : decode cX8_parse 8 = .ok (.bipush 16, 2) := by decide +kernel
theorem dX8_parse_10 : decode cX8_parse 10 = .ok (.aload_n 0, 1) := by decide +kernel
theorem dX8_parse_11 : decode cX8_parse 11 = .ok (.getfield 12, 3) := by decide +kernel
theorem dX8_parse_14 : decode cX8_parse 14 = .ok (.getfield 91, 3) := by decide +kernel
theorem dX8_parse_17 : decode cX8_parse 17 = .ok (.isub, 1) := by decide +kernel
theorem dX8_parse_18 : decode cX8_parse 18 = .ok (.invokevirtual 201, 3) := by decide +kernel
theorem dX8_parse_21 : decode cX8_parse 21 = .ok (.istore_n 1, 1) := by decide +kernel
theorem dX8_parse_22 : decode cX8_parse 22 = .ok (.iload_n 1, 1) := by decide +kernel
theorem dX8_parse_23 : decode cX8_parse 23 = .ok (.iconst (-1), 1) := by decide +kernel
theorem dX8_parse_24 : decode cX8_parse 24 = .ok (.if_icmp .eq 8, 3) := by decide +kernel
theorem dX8_parse_27 : decode cX8_parse 27 = .ok (.bipush (-10), 2) := by decide +kernel
theorem dX8_parse_29 : decode cX8_parse 29 = .ok (.iload_n 1, 1) := by decide +kernel
theorem dX8_parse_30 : decode cX8_parse 30 = .ok (.isub, 1) := by decide +kernel
theorem dX8_parse_31 : decode cX8_parse 31 = .ok (.ireturn, 1) := by decide +kernel
theorem dX8_parse_32 : decode cX8_parse 32 = .ok (.aload_n 0, 1) := by decide +kernel
theorem dX8_parse_33 : decode cX8_parse 33 = .ok (.getfield 19, 3) := by decide +kernel
theorem dX8_parse_36 : decode cX8_parse 36 = .ok (.aload_n 0, 1) := by decide +kernel
theorem dX8_parse_37 : decode cX8_parse 37 = .ok (.getfield 12, 3) := by decide +kernel
theorem dX8_parse_40 : decode cX8_parse 40 = .ok (.invokevirtual 95, 3) := by decide +kernel
theorem dX8_parse_43 : decode cX8_parse 43 = .ok (.iconst 0, 1) := by decide +kernel
theorem dX8_parse_44 : decode cX8_parse 44 = .ok (.istore_n 2, 1) := by decide +kernel
theorem dX8_parse_45 : decode cX8_parse 45 = .ok (.iload_n 2, 1) := by decide +kernel
theorem dX8_parse_46 : decode cX8_parse 46 = .ok (.aload_n 0, 1) := by decide +kernel
theorem dX8_parse_47 : decode cX8_parse 47 = .ok (.getfield 33, 3) := by decide +kernel
theorem dX8_parse_50 : decode cX8_parse 50 = .ok (.getfield 205, 3) := by decide +kernel
theorem dX8_parse_53 : decode cX8_parse 53 = .ok (.if_icmp .ge 24, 3) := by decide +kernel
theorem dX8_parse_56 : decode cX8_parse 56 = .ok (.aload_n 0, 1) := by decide +kernel
theorem dX8_parse_57 : decode cX8_parse 57 = .ok (.getfield 12, 3) := by decide +kernel
theorem dX8_parse_60 : decode cX8_parse 60 = .ok (.aload_n 0, 1) := by decide +kernel
theorem dX8_parse_61 : decode cX8_parse 61 = .ok (.getfield 33, 3) := by decide +kernel
theorem dX8_parse_64 : decode cX8_parse 64 = .ok (.iload_n 2, 1) := by decide +kernel
theorem dX8_parse_65 : decode cX8_parse 65 = .ok (.invokevirtual 208, 3) := by decide +kernel
theorem dX8_parse_68 : decode cX8_parse 68 = .ok (.invokevirtual 102, 3) := by decide +kernel
theorem dX8_parse_71 : decode cX8_parse 71 = .ok (.iinc 2 1, 3) := by decide +kernel
theorem dX8_parse_74 : decode cX8_parse 74 = .ok (.goto (-29), 3) := by decide +kernel
theorem dX8_parse_77 : decode cX8_parse 77 = .ok (.aload_n 0, 1) := by decide +kernel
theorem dX8_parse_78 : decode cX8_parse 78 = .ok (.invokevirtual 106, 3) := by decide +kernel
theorem dX8_parse_81 : decode cX8_parse 81 = .ok (.aload_n 0, 1) := by decide +kernel
theorem dX8_parse_82 : decode cX8_parse 82 = .ok (.getfield 33, 3) := by decide +kernel
theorem dX8_parse_85 : decode cX8_parse 85 = .ok (.getfield 205, 3) := by decide +kernel
theorem dX8_parse_88 : decode cX8_parse 88 = .ok (.ireturn, 1) := by decide +kernel
theorem dX8_undo_0 : decode cX8_undo 0 = .ok (.aload_n 0, 1) := by decide +kernel
theorem dX8_undo_1 : decode cX8_undo 1 = .ok (.getfield 19, 3) := by decide +kernel
theorem dX8_undo_4 : decode cX8_undo 4 = .ok (.getfield 209, 3) := by decide +kernel
theorem dX8_undo_7 : decode cX8_undo 7 = .ok (.ifCond .ne 10, 3) := by decide +kernel
theorem dX8_undo_10 : decode cX8_undo 10 = .ok (.aload_n 0, 1) := by decide +kernel
theorem dX8_undo_11 : decode cX8_undo 11 = .ok (.bipush (-5), 2) := by decide +kernel
theorem dX8_undo_13 : decode cX8_undo 13 = .ok (.invokevirtual 83, 3) := by decide +kernel
theorem dX8_undo_16 : decode cX8_undo 16 = .ok (.ireturn, 1) := by decide +kernel
theorem dX8_undo_17 : decode cX8_undo 17 = .ok (.aload_n 0, 1) := by decide +kernel
theorem dX8_undo_18 : decode cX8_undo 18 = .ok (.getfield 19, 3) := by decide +kernel
theorem dX8_undo_21 : decode cX8_undo 21 = .ok (.aload_n 0, 1) := by decide +kernel
theorem dX8_undo_22 : decode cX8_undo 22 = .ok (.getfield 12, 3) := by decide +kernel
theorem dX8_undo_25 : decode cX8_undo 25 = .ok (.invokevirtual 212, 3) := by decide +kernel
theorem dX8_undo_28 : decode cX8_undo 28 = .ok (.aload_n 0, 1) := by decide +kernel
theorem dX8_undo_29 : decode cX8_undo 29 = .ok (.invokevirtual 106, 3) := by decide +kernel
theorem dX8_undo_32 : decode cX8_undo 32 = .ok (.aload_n 0, 1) := by decide +kernel
theorem dX8_undo_33 : decode cX8_undo 33 = .ok (.getfield 19, 3) := by decide +kernel
theorem dX8_undo_36 : decode cX8_undo 36 = .ok (.getfield 209, 3) := by decide +kernel
theorem dX8_undo_39 : decode cX8_undo 39 = .ok (.ireturn, 1) := by decide +kernel
theorem dX8_errorCount_0 : decode cX8_errorCount 0 = .ok (.iload_n 1, 1) := by decide +kernel
theorem dX8_errorCount_1 : decode cX8_errorCount 1 = .ok (.invokestatic 215, 3) := by decide +kernel
theorem dX8_errorCount_4 : decode cX8_errorCount 4 = .ok (.ifCond .ne 10, 3) := by decide +kernel
theorem dX8_errorCount_7 : decode cX8_errorCount 7 = .ok (.aload_n 0, 1) := by decide +kernel
theorem dX8_errorCount_8 : decode cX8_errorCount 8 = .ok (.bipush (-2), 2) := by decide +kernel
theorem dX8_errorCount_10 : decode cX8_errorCount 10 = .ok (.invokevirtual 83, 3) := by decide +kernel
theorem dX8_errorCount_13 : decode cX8_errorCount 13 = .ok (.ireturn, 1) := by decide +kernel
theorem dX8_errorCount_14 : decode cX8_errorCount 14 = .ok (.aload_n 0, 1) := by decide +kernel
theorem dX8_errorCount_15 : decode cX8_errorCount 15 = .ok (.getfield 65, 3) := by decide +kernel
theorem dX8_errorCount_18 : decode cX8_errorCount 18 = .ok (.bipush (-2), 2) := by decide +kernel
theorem dX8_errorCount_20 : decode cX8_errorCount 20 = .ok (.iload_n 1, 1) := by decide +kernel
theorem dX8_errorCount_21 : decode cX8_errorCount 21 = .ok (.isub, 1) := by decide +kernel
theorem dX8_errorCount_22 : decode cX8_errorCount 22 = .ok (.iaload, 1) := by decide +kernel
theorem dX8_errorCount_23 : decode cX8_errorCount 23 = .ok (.ireturn, 1) := by decide +kernel
theorem dX8_digest_0 : decode cX8_digest 0 = .ok (.ldc2_w 218, 3) := by decide +kernel
theorem dX8_digest_3 : decode cX8_digest 3 = .ok (.lstore_n 1, 1) := by decide +kernel
theorem dX8_digest_4 : decode cX8_digest 4 = .ok (.iconst 0, 1) := by decide +kernel
theorem dX8_digest_5 : decode cX8_digest 5 = .ok (.istore_n 3, 1) := by decide +kernel
theorem dX8_digest_6 : decode cX8_digest 6 = .ok (.iload_n 3, 1) := by decide +kernel
theorem dX8_digest_7 : decode cX8_digest 7 = .ok (.iconst 4, 1) := by decide +kernel
theorem dX8_digest_8 : decode cX8_digest 8 = .ok (.if_icmp .ge 23, 3) := by decide +kernel
theorem dX8_digest_11 : decode cX8_digest 11 = .ok (.ldc2_w 220, 3) := by decide +kernel
theorem dX8_digest_14 : decode cX8_digest 14 = .ok (.lload_n 1, 1) := by decide +kernel
theorem dX8_digest_15 : decode cX8_digest 15 = .ok (.lmul, 1) := by decide +kernel
theorem dX8_digest_16 : decode cX8_digest 16 = .ok (.aload_n 0, 1) := by decide +kernel
theorem dX8_digest_17 : decode cX8_digest 17 = .ok (.getfield 65, 3) := by decide +kernel
theorem dX8_digest_20 : decode cX8_digest 20 = .ok (.iload_n 3, 1) := by decide +kernel
theorem dX8_digest_21 : decode cX8_digest 21 = .ok (.iaload, 1) := by decide +kernel
theorem dX8_digest_22 : decode cX8_digest 22 = .ok (.i2l, 1) := by decide +kernel
theorem dX8_digest_23 : decode cX8_digest 23 = .ok (.ladd, 1) := by decide +kernel
theorem dX8_digest_24 : decode cX8_digest 24 = .ok (.lstore_n 1, 1) := by decide +kernel
theorem dX8_digest_25 : decode cX8_digest 25 = .ok (.iinc 3 1, 3) := by decide +kernel
theorem dX8_digest_28 : decode cX8_digest 28 = .ok (.goto (-22), 3) := by decide +kernel
theorem dX8_digest_31 : decode cX8_digest 31 = .ok (.ldc2_w 220, 3) := by decide +kernel
theorem dX8_digest_34 : decode cX8_digest 34 = .ok (.lload_n 1, 1) := by decide +kernel
theorem dX8_digest_35 : decode cX8_digest 35 = .ok (.lmul, 1) := by decide +kernel
theorem dX8_digest_36 : decode cX8_digest 36 = .ok (.aload_n 0, 1) := by decide +kernel
theorem dX8_digest_37 : decode cX8_digest 37 = .ok (.getfield 26, 3) := by decide +kernel
theorem dX8_digest_40 : decode cX8_digest 40 = .ok (.getfield 195, 3) := by decide +kernel
theorem dX8_digest_43 : decode cX8_digest 43 = .ok (.i2l, 1) := by decide +kernel
theorem dX8_digest_44 : decode cX8_digest 44 = .ok (.ladd, 1) := by decide +kernel
theorem dX8_digest_45 : decode cX8_digest 45 = .ok (.lstore_n 1, 1) := by decide +kernel
theorem dX8_digest_46 : decode cX8_digest 46 = .ok (.ldc2_w 220, 3) := by decide +kernel
theorem dX8_digest_49 : decode cX8_digest 49 = .ok (.lload_n 1, 1) := by decide +kernel
theorem dX8_digest_50 : decode cX8_digest 50 = .ok (.lmul, 1) := by decide +kernel
theorem dX8_digest_51 : decode cX8_digest 51 = .ok (.aload_n 0, 1) := by decide +kernel
theorem dX8_digest_52 : decode cX8_digest 52 = .ok (.getfield 12, 3) := by decide +kernel
theorem dX8_digest_55 : decode cX8_digest 55 = .ok (.getfield 91, 3) := by decide +kernel
theorem dX8_digest_58 : decode cX8_digest 58 = .ok (.i2l, 1) := by decide +kernel
theorem dX8_digest_59 : decode cX8_digest 59 = .ok (.ladd, 1) := by decide +kernel
theorem dX8_digest_60 : decode cX8_digest 60 = .ok (.lstore_n 1, 1) := by decide +kernel
theorem dX8_digest_61 : decode cX8_digest 61 = .ok (.iconst 0, 1) := by decide +kernel
theorem dX8_digest_62 : decode cX8_digest 62 = .ok (.istore_n 3, 1) := by decide +kernel
theorem dX8_digest_63 : decode cX8_digest 63 = .ok (.iload_n 3, 1) := by decide +kernel
theorem dX8_digest_64 : decode cX8_digest 64 = .ok (.aload_n 0, 1) := by decide +kernel
theorem dX8_digest_65 : decode cX8_digest 65 = .ok (.getfield 12, 3) := by decide +kernel
theorem dX8_digest_68 : decode cX8_digest 68 = .ok (.getfield 91, 3) := by decide +kernel
theorem dX8_digest_71 : decode cX8_digest 71 = .ok (.if_icmp .ge 28, 3) := by decide +kernel
theorem dX8_digest_74 : decode cX8_digest 74 = .ok (.ldc2_w 220, 3) := by decide +kernel
theorem dX8_digest_77 : decode cX8_digest 77 = .ok (.lload_n 1, 1) := by decide +kernel
theorem dX8_digest_78 : decode cX8_digest 78 = .ok (.lmul, 1) := by decide +kernel
theorem dX8_digest_79 : decode cX8_digest 79 = .ok (.aload_n 0, 1) := by decide +kernel
theorem dX8_digest_80 : decode cX8_digest 80 = .ok (.getfield 12, 3) := by decide +kernel
theorem dX8_digest_83 : decode cX8_digest 83 = .ok (.iload_n 3, 1) := by decide +kernel
theorem dX8_digest_84 : decode cX8_digest 84 = .ok (.invokevirtual 115, 3) := by decide +kernel
theorem dX8_digest_87 : decode cX8_digest 87 = .ok (.invokestatic 118, 3) := by decide +kernel
theorem dX8_digest_90 : decode cX8_digest 90 = .ok (.i2l, 1) := by decide +kernel
theorem dX8_digest_91 : decode cX8_digest 91 = .ok (.ladd, 1) := by decide +kernel
theorem dX8_digest_92 : decode cX8_digest 92 = .ok (.lstore_n 1, 1) := by decide +kernel
theorem dX8_digest_93 : decode cX8_digest 93 = .ok (.iinc 3 1, 3) := by decide +kernel
theorem dX8_digest_96 : decode cX8_digest 96 = .ok (.goto (-33), 3) := by decide +kernel
theorem dX8_digest_99 : decode cX8_digest 99 = .ok (.ldc2_w 220, 3) := by decide +kernel
theorem dX8_digest_102 : decode cX8_digest 102 = .ok (.lload_n 1, 1) := by decide +kernel
theorem dX8_digest_103 : decode cX8_digest 103 = .ok (.lmul, 1) := by decide +kernel
theorem dX8_digest_104 : decode cX8_digest 104 = .ok (.aload_n 0, 1) := by decide +kernel
theorem dX8_digest_105 : decode cX8_digest 105 = .ok (.getfield 12, 3) := by decide +kernel
theorem dX8_digest_108 : decode cX8_digest 108 = .ok (.getfield 123, 3) := by decide +kernel
theorem dX8_digest_111 : decode cX8_digest 111 = .ok (.invokestatic 118, 3) := by decide +kernel
theorem dX8_digest_114 : decode cX8_digest 114 = .ok (.i2l, 1) := by decide +kernel
theorem dX8_digest_115 : decode cX8_digest 115 = .ok (.ladd, 1) := by decide +kernel
theorem dX8_digest_116 : decode cX8_digest 116 = .ok (.lstore_n 1, 1) := by decide +kernel
theorem dX8_digest_117 : decode cX8_digest 117 = .ok (.iconst 2, 1) := by decide +kernel
theorem dX8_digest_118 : decode cX8_digest 118 = .ok (.istore_n 3, 1) := by decide +kernel
theorem dX8_digest_119 : decode cX8_digest 119 = .ok (.iload_n 3, 1) := by decide +kernel
theorem dX8_digest_120 : decode cX8_digest 120 = .ok (.bipush 21, 2) := by decide +kernel
theorem dX8_digest_122 : decode cX8_digest 122 = .ok (.if_icmp .gt 25, 3) := by decide +kernel
theorem dX8_digest_125 : decode cX8_digest 125 = .ok (.ldc2_w 220, 3) := by decide +kernel
theorem dX8_digest_128 : decode cX8_digest 128 = .ok (.lload_n 1, 1) := by decide +kernel
theorem dX8_digest_129 : decode cX8_digest 129 = .ok (.lmul, 1) := by decide +kernel
theorem dX8_digest_130 : decode cX8_digest 130 = .ok (.aload_n 0, 1) := by decide +kernel
theorem dX8_digest_131 : decode cX8_digest 131 = .ok (.getfield 12, 3) := by decide +kernel
theorem dX8_digest_134 : decode cX8_digest 134 = .ok (.iload_n 3, 1) := by decide +kernel
theorem dX8_digest_135 : decode cX8_digest 135 = .ok (.invokevirtual 222, 3) := by decide +kernel
theorem dX8_digest_138 : decode cX8_digest 138 = .ok (.i2l, 1) := by decide +kernel
theorem dX8_digest_139 : decode cX8_digest 139 = .ok (.ladd, 1) := by decide +kernel
theorem dX8_digest_140 : decode cX8_digest 140 = .ok (.lstore_n 1, 1) := by decide +kernel
theorem dX8_digest_141 : decode cX8_digest 141 = .ok (.iinc 3 1, 3) := by decide +kernel
theorem dX8_digest_144 : decode cX8_digest 144 = .ok (.goto (-25), 3) := by decide +kernel
theorem dX8_digest_147 : decode cX8_digest 147 = .ok (.lload_n 1, 1) := by decide +kernel
theorem dX8_digest_148 : decode cX8_digest 148 = .ok (.aload_n 0, 1) := by decide +kernel
theorem dX8_digest_149 : decode cX8_digest 149 = .ok (.invokevirtual 136, 3) := by decide +kernel
theorem dX8_digest_152 : decode cX8_digest 152 = .ok (.invokestatic 225, 3) := by decide +kernel
theorem dX8_digest_155 : decode cX8_digest 155 = .ok (.lstore_n 1, 1) := by decide +kernel
theorem dX8_digest_156 : decode cX8_digest 156 = .ok (.aload_n 0, 1) := by decide +kernel
theorem dX8_digest_157 : decode cX8_digest 157 = .ok (.invokevirtual 159, 3) := by decide +kernel
theorem dX8_digest_160 : decode cX8_digest 160 = .ok (.astore_n 3, 1) := by decide +kernel
theorem dX8_digest_161 : decode cX8_digest 161 = .ok (.ldc2_w 220, 3) := by decide +kernel
theorem dX8_digest_164 : decode cX8_digest 164 = .ok (.lload_n 1, 1) := by decide +kernel
theorem dX8_digest_165 : decode cX8_digest 165 = .ok (.lmul, 1) := by decide +kernel
theorem dX8_digest_166 : decode cX8_digest 166 = .ok (.aload_n 3, 1) := by decide +kernel
theorem dX8_digest_167 : decode cX8_digest 167 = .ok (.invokevirtual 163, 3) := by decide +kernel
theorem dX8_digest_170 : decode cX8_digest 170 = .ok (.i2l, 1) := by decide +kernel
theorem dX8_digest_171 : decode cX8_digest 171 = .ok (.ladd, 1) := by decide +kernel
theorem dX8_digest_172 : decode cX8_digest 172 = .ok (.lstore_n 1, 1) := by decide +kernel
theorem dX8_digest_173 : decode cX8_digest 173 = .ok (.ldc2_w 220, 3) := by decide +kernel
theorem dX8_digest_176 : decode cX8_digest 176 = .ok (.lload_n 1, 1) := by decide +kernel
theorem dX8_digest_177 : decode cX8_digest 177 = .ok (.lmul, 1) := by decide +kernel
theorem dX8_digest_178 : decode cX8_digest 178 = .ok (.aload_n 0, 1) := by decide +kernel
theorem dX8_digest_179 : decode cX8_digest 179 = .ok (.getfield 54, 3) := by decide +kernel
theorem dX8_digest_182 : decode cX8_digest 182 = .ok (.aload_n 3, 1) := by decide +kernel
theorem dX8_digest_183 : decode cX8_digest 183 = .ok (.aload_n 0, 1) := by decide +kernel
theorem dX8_digest_184 : decode cX8_digest 184 = .ok (.getfield 12, 3) := by decide +kernel
theorem dX8_digest_187 : decode cX8_digest 187 = .ok (.invokevirtual 169, 3) := by decide +kernel
theorem dX8_digest_190 : decode cX8_digest 190 = .ok (.ladd, 1) := by decide +kernel
theorem dX8_digest_191 : decode cX8_digest 191 = .ok (.lstore_n 1, 1) := by decide +kernel
theorem dX8_digest_192 : decode cX8_digest 192 = .ok (.ldc2_w 220, 3) := by decide +kernel
theorem dX8_digest_195 : decode cX8_digest 195 = .ok (.lload_n 1, 1) := by decide +kernel
theorem dX8_digest_196 : decode cX8_digest 196 = .ok (.lmul, 1) := by decide +kernel
theorem dX8_digest_197 : decode cX8_digest 197 = .ok (.aload_n 3, 1) := by decide +kernel
theorem dX8_digest_198 : decode cX8_digest 198 = .ok (.invokevirtual 179, 3) := by decide +kernel
theorem dX8_digest_201 : decode cX8_digest 201 = .ok (.i2l, 1) := by decide +kernel
theorem dX8_digest_202 : decode cX8_digest 202 = .ok (.ladd, 1) := by decide +kernel
theorem dX8_digest_203 : decode cX8_digest 203 = .ok (.lstore_n 1, 1) := by decide +kernel
theorem dX8_digest_204 : decode cX8_digest 204 = .ok (.ldc2_w 220, 3) := by decide +kernel
theorem dX8_digest_207 : decode cX8_digest 207 = .ok (.lload_n 1, 1) := by decide +kernel
theorem dX8_digest_208 : decode cX8_digest 208 = .ok (.lmul, 1) := by decide +kernel
theorem dX8_digest_209 : decode cX8_digest 209 = .ok (.aload_n 0, 1) := by decide +kernel
theorem dX8_digest_210 : decode cX8_digest 210 = .ok (.getfield 19, 3) := by decide +kernel
theorem dX8_digest_213 : decode cX8_digest 213 = .ok (.getfield 209, 3) := by decide +kernel
theorem dX8_digest_216 : decode cX8_digest 216 = .ok (.i2l, 1) := by decide +kernel
theorem dX8_digest_217 : decode cX8_digest 217 = .ok (.ladd, 1) := by decide +kernel
theorem dX8_digest_218 : decode cX8_digest 218 = .ok (.lreturn, 1) := by decide +kernel
theorem dX8_fail_0 : decode cX8_fail 0 = .ok (.iload_n 1, 1) := by decide +kernel
theorem dX8_fail_1 : decode cX8_fail 1 = .ok (.invokestatic 215, 3) := by decide +kernel
theorem dX8_fail_4 : decode cX8_fail 4 = .ok (.ifCond .eq 16, 3) := by decide +kernel
theorem dX8_fail_7 : decode cX8_fail 7 = .ok (.aload_n 0, 1) := by decide +kernel
theorem dX8_fail_8 : decode cX8_fail 8 = .ok (.getfield 65, 3) := by decide +kernel
theorem dX8_fail_11 : decode cX8_fail 11 = .ok (.bipush (-2), 2) := by decide +kernel
theorem dX8_fail_13 : decode cX8_fail 13 = .ok (.iload_n 1, 1) := by decide +kernel
theorem dX8_fail_14 : decode cX8_fail 14 = .ok (.isub, 1) := by decide +kernel
theorem dX8_fail_15 : decode cX8_fail 15 = .ok (.dup2, 1) := by decide +kernel
theorem dX8_fail_16 : decode cX8_fail 16 = .ok (.iaload, 1) := by decide +kernel
theorem dX8_fail_17 : decode cX8_fail 17 = .ok (.iconst 1, 1) := by decide +kernel
theorem dX8_fail_18 : decode cX8_fail 18 = .ok (.iadd, 1) := by decide +kernel
theorem dX8_fail_19 : decode cX8_fail 19 = .ok (.iastore, 1) := by decide +kernel
theorem dX8_fail_20 : decode cX8_fail 20 = .ok (.iload_n 1, 1) := by decide +kernel
theorem dX8_fail_21 : decode cX8_fail 21 = .ok (.ireturn, 1) := by decide +kernel
theorem dX8_digestOfGraph_0 : decode cX8_digestOfGraph 0 = .ok (.ldc2_w 220, 3) := by decide +kernel
theorem dX8_digestOfGraph_3 : decode cX8_digestOfGraph 3 = .ok (.lload_n 0, 1) := by decide +kernel
theorem dX8_digestOfGraph_4 : decode cX8_digestOfGraph 4 = .ok (.lmul, 1) := by decide +kernel
theorem dX8_digestOfGraph_5 : decode cX8_digestOfGraph 5 = .ok (.aload_n 2, 1) := by decide +kernel
theorem dX8_digestOfGraph_6 : decode cX8_digestOfGraph 6 = .ok (.invokevirtual 140, 3) := by decide +kernel
theorem dX8_digestOfGraph_9 : decode cX8_digestOfGraph 9 = .ok (.i2l, 1) := by decide +kernel
theorem dX8_digestOfGraph_10 : decode cX8_digestOfGraph 10 = .ok (.ladd, 1) := by decide +kernel
theorem dX8_digestOfGraph_11 : decode cX8_digestOfGraph 11 = .ok (.lstore_n 3, 1) := by decide +kernel
theorem dX8_digestOfGraph_12 : decode cX8_digestOfGraph 12 = .ok (.ldc2_w 220, 3) := by decide +kernel
theorem dX8_digestOfGraph_15 : decode cX8_digestOfGraph 15 = .ok (.lload_n 3, 1) := by decide +kernel
theorem dX8_digestOfGraph_16 : decode cX8_digestOfGraph 16 = .ok (.lmul, 1) := by decide +kernel
theorem dX8_digestOfGraph_17 : decode cX8_digestOfGraph 17 = .ok (.aload_n 2, 1) := by decide +kernel
theorem dX8_digestOfGraph_18 : decode cX8_digestOfGraph 18 = .ok (.getfield 144, 3) := by decide +kernel
theorem dX8_digestOfGraph_21 : decode cX8_digestOfGraph 21 = .ok (.i2l, 1) := by decide +kernel
theorem dX8_digestOfGraph_22 : decode cX8_digestOfGraph 22 = .ok (.ladd, 1) := by decide +kernel
theorem dX8_digestOfGraph_23 : decode cX8_digestOfGraph 23 = .ok (.lstore_n 3, 1) := by decide +kernel
theorem dX8_digestOfGraph_24 : decode cX8_digestOfGraph 24 = .ok (.ldc2_w 220, 3) := by decide +kernel
theorem dX8_digestOfGraph_27 : decode cX8_digestOfGraph 27 = .ok (.lload_n 3, 1) := by decide +kernel
theorem dX8_digestOfGraph_28 : decode cX8_digestOfGraph 28 = .ok (.lmul, 1) := by decide +kernel
theorem dX8_digestOfGraph_29 : decode cX8_digestOfGraph 29 = .ok (.aload_n 2, 1) := by decide +kernel
theorem dX8_digestOfGraph_30 : decode cX8_digestOfGraph 30 = .ok (.getfield 147, 3) := by decide +kernel
theorem dX8_digestOfGraph_33 : decode cX8_digestOfGraph 33 = .ok (.i2l, 1) := by decide +kernel
theorem dX8_digestOfGraph_34 : decode cX8_digestOfGraph 34 = .ok (.ladd, 1) := by decide +kernel
theorem dX8_digestOfGraph_35 : decode cX8_digestOfGraph 35 = .ok (.lstore_n 3, 1) := by decide +kernel
theorem dX8_digestOfGraph_36 : decode cX8_digestOfGraph 36 = .ok (.ldc2_w 220, 3) := by decide +kernel
theorem dX8_digestOfGraph_39 : decode cX8_digestOfGraph 39 = .ok (.lload_n 3, 1) := by decide +kernel
theorem dX8_digestOfGraph_40 : decode cX8_digestOfGraph 40 = .ok (.lmul, 1) := by decide +kernel
theorem dX8_digestOfGraph_41 : decode cX8_digestOfGraph 41 = .ok (.aload_n 2, 1) := by decide +kernel
theorem dX8_digestOfGraph_42 : decode cX8_digestOfGraph 42 = .ok (.getfield 150, 3) := by decide +kernel
theorem dX8_digestOfGraph_45 : decode cX8_digestOfGraph 45 = .ok (.i2l, 1) := by decide +kernel
theorem dX8_digestOfGraph_46 : decode cX8_digestOfGraph 46 = .ok (.ladd, 1) := by decide +kernel
theorem dX8_digestOfGraph_47 : decode cX8_digestOfGraph 47 = .ok (.lstore_n 3, 1) := by decide +kernel
theorem dX8_digestOfGraph_48 : decode cX8_digestOfGraph 48 = .ok (.ldc2_w 220, 3) := by decide +kernel
theorem dX8_digestOfGraph_51 : decode cX8_digestOfGraph 51 = .ok (.lload_n 3, 1) := by decide +kernel
theorem dX8_digestOfGraph_52 : decode cX8_digestOfGraph 52 = .ok (.lmul, 1) := by decide +kernel
theorem dX8_digestOfGraph_53 : decode cX8_digestOfGraph 53 = .ok (.aload_n 2, 1) := by decide +kernel
theorem dX8_digestOfGraph_54 : decode cX8_digestOfGraph 54 = .ok (.invokevirtual 153, 3) := by decide +kernel
theorem dX8_digestOfGraph_57 : decode cX8_digestOfGraph 57 = .ok (.i2l, 1) := by decide +kernel
theorem dX8_digestOfGraph_58 : decode cX8_digestOfGraph 58 = .ok (.ladd, 1) := by decide +kernel
theorem dX8_digestOfGraph_59 : decode cX8_digestOfGraph 59 = .ok (.lstore_n 3, 1) := by decide +kernel
theorem dX8_digestOfGraph_60 : decode cX8_digestOfGraph 60 = .ok (.ldc2_w 220, 3) := by decide +kernel
theorem dX8_digestOfGraph_63 : decode cX8_digestOfGraph 63 = .ok (.lload_n 3, 1) := by decide +kernel
theorem dX8_digestOfGraph_64 : decode cX8_digestOfGraph 64 = .ok (.lmul, 1) := by decide +kernel
theorem dX8_digestOfGraph_65 : decode cX8_digestOfGraph 65 = .ok (.aload_n 2, 1) := by decide +kernel
theorem dX8_digestOfGraph_66 : decode cX8_digestOfGraph 66 = .ok (.invokevirtual 156, 3) := by decide +kernel
theorem dX8_digestOfGraph_69 : decode cX8_digestOfGraph 69 = .ok (.i2l, 1) := by decide +kernel
theorem dX8_digestOfGraph_70 : decode cX8_digestOfGraph 70 = .ok (.ladd, 1) := by decide +kernel
theorem dX8_digestOfGraph_71 : decode cX8_digestOfGraph 71 = .ok (.lreturn, 1) := by decide +kernel
theorem dX8_formulaHasChanged_0 : decode cX8_formulaHasChanged 0 = .ok (.aload_n 0, 1) := by decide +kernel
theorem dX8_formulaHasChanged_1 : decode cX8_formulaHasChanged 1 = .ok (.iconst 0, 1) := by decide +kernel
theorem dX8_formulaHasChanged_2 : decode cX8_formulaHasChanged 2 = .ok (.putfield 69, 3) := by decide +kernel
theorem dX8_formulaHasChanged_5 : decode cX8_formulaHasChanged 5 = .ok (.aload_n 0, 1) := by decide +kernel
theorem dX8_formulaHasChanged_6 : decode cX8_formulaHasChanged 6 = .ok (.iconst 0, 1) := by decide +kernel
theorem dX8_formulaHasChanged_7 : decode cX8_formulaHasChanged 7 = .ok (.putfield 73, 3) := by decide +kernel
theorem dX8_formulaHasChanged_10 : decode cX8_formulaHasChanged 10 = .ok (.aload_n 0, 1) := by decide +kernel
theorem dX8_formulaHasChanged_11 : decode cX8_formulaHasChanged 11 = .ok (.getfield 61, 3) := by decide +kernel
theorem dX8_formulaHasChanged_14 : decode cX8_formulaHasChanged 14 = .ok (.invokevirtual 229, 3) := by decide +kernel
theorem dX8_formulaHasChanged_17 : decode cX8_formulaHasChanged 17 = .ok (.return_, 1) := by decide +kernel
theorem dX8_freshGraph_0 : decode cX8_freshGraph 0 = .ok (.aload_n 0, 1) := by decide +kernel
theorem dX8_freshGraph_1 : decode cX8_freshGraph 1 = .ok (.getfield 69, 3) := by decide +kernel
theorem dX8_freshGraph_4 : decode cX8_freshGraph 4 = .ok (.ifCond .ne 19, 3) := by decide +kernel
theorem dX8_freshGraph_7 : decode cX8_freshGraph 7 = .ok (.aload_n 0, 1) := by decide +kernel
theorem dX8_freshGraph_8 : decode cX8_freshGraph 8 = .ok (.getfield 40, 3) := by decide +kernel
theorem dX8_freshGraph_11 : decode cX8_freshGraph 11 = .ok (.aload_n 0, 1) := by decide +kernel
theorem dX8_freshGraph_12 : decode cX8_freshGraph 12 = .ok (.getfield 12, 3) := by decide +kernel
theorem dX8_freshGraph_15 : decode cX8_freshGraph 15 = .ok (.invokevirtual 232, 3) := by decide +kernel
theorem dX8_freshGraph_18 : decode cX8_freshGraph 18 = .ok (.aload_n 0, 1) := by decide +kernel
theorem dX8_freshGraph_19 : decode cX8_freshGraph 19 = .ok (.iconst 1, 1) := by decide +kernel
theorem dX8_freshGraph_20 : decode cX8_freshGraph 20 = .ok (.putfield 69, 3) := by decide +kernel
theorem dX8_freshGraph_23 : decode cX8_freshGraph 23 = .ok (.aload_n 0, 1) := by decide +kernel
theorem dX8_freshGraph_24 : decode cX8_freshGraph 24 = .ok (.getfield 40, 3) := by decide +kernel
theorem dX8_freshGraph_27 : decode cX8_freshGraph 27 = .ok (.areturn, 1) := by decide +kernel
theorem dX8_freshModelSet_0 : decode cX8_freshModelSet 0 = .ok (.aload_n 0, 1) := by decide +kernel
theorem dX8_freshModelSet_1 : decode cX8_freshModelSet 1 = .ok (.getfield 73, 3) := by decide +kernel
theorem dX8_freshModelSet_4 : decode cX8_freshModelSet 4 = .ok (.ifCond .ne 19, 3) := by decide +kernel
theorem dX8_freshModelSet_7 : decode cX8_freshModelSet 7 = .ok (.aload_n 0, 1) := by decide +kernel
theorem dX8_freshModelSet_8 : decode cX8_freshModelSet 8 = .ok (.getfield 47, 3) := by decide +kernel
theorem dX8_freshModelSet_11 : decode cX8_freshModelSet 11 = .ok (.aload_n 0, 1) := by decide +kernel
theorem dX8_freshModelSet_12 : decode cX8_freshModelSet 12 = .ok (.getfield 12, 3) := by decide +kernel
theorem dX8_freshModelSet_15 : decode cX8_freshModelSet 15 = .ok (.invokevirtual 235, 3) := by decide +kernel
theorem dX8_freshModelSet_18 : decode cX8_freshModelSet 18 = .ok (.aload_n 0, 1) := by decide +kernel
theorem dX8_freshModelSet_19 : decode cX8_freshModelSet 19 = .ok (.iconst 1, 1) := by decide +kernel
theorem dX8_freshModelSet_20 : decode cX8_freshModelSet 20 = .ok (.putfield 73, 3) := by decide +kernel
theorem dX8_freshModelSet_23 : decode cX8_freshModelSet 23 = .ok (.aload_n 0, 1) := by decide +kernel
theorem dX8_freshModelSet_24 : decode cX8_freshModelSet 24 = .ok (.getfield 47, 3) := by decide +kernel
theorem dX8_freshModelSet_27 : decode cX8_freshModelSet 27 = .ok (.areturn, 1) := by decide +kernel
theorem dX8_isErrorCode_0 : decode cX8_isErrorCode 0 = .ok (.iload_n 0, 1) := by decide +kernel
theorem dX8_isErrorCode_1 : decode cX8_isErrorCode 1 = .ok (.bipush (-2), 2) := by decide +kernel
theorem dX8_isErrorCode_3 : decode cX8_isErrorCode 3 = .ok (.if_icmp .gt 13, 3) := by decide +kernel
theorem dX8_isErrorCode_6 : decode cX8_isErrorCode 6 = .ok (.iload_n 0, 1) := by decide +kernel
theorem dX8_isErrorCode_7 : decode cX8_isErrorCode 7 = .ok (.bipush (-6), 2) := by decide +kernel
theorem dX8_isErrorCode_9 : decode cX8_isErrorCode 9 = .ok (.if_icmp .le 7, 3) := by decide +kernel
theorem dX8_isErrorCode_12 : decode cX8_isErrorCode 12 = .ok (.iconst 1, 1) := by decide +kernel
theorem dX8_isErrorCode_13 : decode cX8_isErrorCode 13 = .ok (.goto 4, 3) := by decide +kernel
theorem dX8_isErrorCode_16 : decode cX8_isErrorCode 16 = .ok (.iconst 0, 1) := by decide +kernel
theorem dX8_isErrorCode_17 : decode cX8_isErrorCode 17 = .ok (.ireturn, 1) := by decide +kernel
theorem dX8_isLiteralOrZero_0 : decode cX8_isLiteralOrZero 0 = .ok (.iload_n 0, 1) := by decide +kernel
theorem dX8_isLiteralOrZero_1 : decode cX8_isLiteralOrZero 1 = .ok (.bipush (-10), 2) := by decide +kernel
theorem dX8_isLiteralOrZero_3 : decode cX8_isLiteralOrZero 3 = .ok (.if_icmp .lt 13, 3) := by decide +kernel
theorem dX8_isLiteralOrZero_6 : decode cX8_isLiteralOrZero 6 = .ok (.iload_n 0, 1) := by decide +kernel
theorem dX8_isLiteralOrZero_7 : decode cX8_isLiteralOrZero 7 = .ok (.bipush 10, 2) := by decide +kernel
theorem dX8_isLiteralOrZero_9 : decode cX8_isLiteralOrZero 9 = .ok (.if_icmp .gt 7, 3) := by decide +kernel
theorem dX8_isLiteralOrZero_12 : decode cX8_isLiteralOrZero 12 = .ok (.iconst 1, 1) := by decide +kernel
theorem dX8_isLiteralOrZero_13 : decode cX8_isLiteralOrZero 13 = .ok (.goto 4, 3) := by decide +kernel
theorem dX8_isLiteralOrZero_16 : decode cX8_isLiteralOrZero 16 = .ok (.iconst 0, 1) := by decide +kernel
theorem dX8_isLiteralOrZero_17 : decode cX8_isLiteralOrZero 17 = .ok (.ireturn, 1) := by decide +kernel
theorem dX8_isLiteral_0 : decode cX8_isLiteral 0 = .ok (.iload_n 0, 1) := by decide +kernel
theorem dX8_isLiteral_1 : decode cX8_isLiteral 1 = .ok (.ifCond .eq 14, 3) := by decide +kernel
theorem dX8_isLiteral_4 : decode cX8_isLiteral 4 = .ok (.iload_n 0, 1) := by decide +kernel
theorem dX8_isLiteral_5 : decode cX8_isLiteral 5 = .ok (.invokestatic 80, 3) := by decide +kernel
theorem dX8_isLiteral_8 : decode cX8_isLiteral 8 = .ok (.ifCond .eq 7, 3) := by decide +kernel
theorem dX8_isLiteral_11 : decode cX8_isLiteral 11 = .ok (.iconst 1, 1) := by decide +kernel
theorem dX8_isLiteral_12 : decode cX8_isLiteral 12 = .ok (.goto 4, 3) := by decide +kernel
theorem dX8_isLiteral_15 : decode cX8_isLiteral 15 = .ok (.iconst 0, 1) := by decide +kernel
theorem dX8_isLiteral_16 : decode cX8_isLiteral 16 = .ok (.ireturn, 1) := by decide +kernel
theorem dX8_sameVariable_0 : decode cX8_sameVariable 0 = .ok (.iload_n 0, 1) := by decide +kernel
theorem dX8_sameVariable_1 : decode cX8_sameVariable 1 = .ok (.ifCond .eq 18, 3) := by decide +kernel
theorem dX8_sameVariable_4 : decode cX8_sameVariable 4 = .ok (.iload_n 0, 1) := by decide +kernel
theorem dX8_sameVariable_5 : decode cX8_sameVariable 5 = .ok (.iload_n 1, 1) := by decide +kernel
theorem dX8_sameVariable_6 : decode cX8_sameVariable 6 = .ok (.if_icmp .eq 9, 3) := by decide +kernel
theorem dX8_sameVariable_9 : decode cX8_sameVariable 9 = .ok (.iload_n 0, 1) := by decide +kernel
theorem dX8_sameVariable_10 : decode cX8_sameVariable 10 = .ok (.iload_n 1, 1) := by decide +kernel
theorem dX8_sameVariable_11 : decode cX8_sameVariable 11 = .ok (.ineg, 1) := by decide +kernel
theorem dX8_sameVariable_12 : decode cX8_sameVariable 12 = .ok (.if_icmp .ne 7, 3) := by decide +kernel
theorem dX8_sameVariable_15 : decode cX8_sameVariable 15 = .ok (.iconst 1, 1) := by decide +kernel
theorem dX8_sameVariable_16 : decode cX8_sameVariable 16 = .ok (.goto 4, 3) := by decide +kernel
theorem dX8_sameVariable_19 : decode cX8_sameVariable 19 = .ok (.iconst 0, 1) := by decide +kernel
theorem dX8_sameVariable_20 : decode cX8_sameVariable 20 = .ok (.ireturn, 1) := by decide +kernel
theorem dX8_codeOf_0 : decode cX8_codeOf 0 = .ok (.iload_n 0, 1) := by decide +kernel
theorem dX8_codeOf_1 : decode cX8_codeOf 1 = .ok (.ifCond .le 9, 3) := by decide +kernel
theorem dX8_codeOf_4 : decode cX8_codeOf 4 = .ok (.iconst 2, 1) := by decide +kernel
theorem dX8_codeOf_5 : decode cX8_codeOf 5 = .ok (.iload_n 0, 1) := by decide +kernel
theorem dX8_codeOf_6 : decode cX8_codeOf 6 = .ok (.imul, 1) := by decide +kernel
theorem dX8_codeOf_7 : decode cX8_codeOf 7 = .ok (.goto 9, 3) := by decide +kernel
theorem dX8_codeOf_10 : decode cX8_codeOf 10 = .ok (.bipush (-2), 2) := by decide +kernel
theorem dX8_codeOf_12 : decode cX8_codeOf 12 = .ok (.iload_n 0, 1) := by decide +kernel
theorem dX8_codeOf_13 : decode cX8_codeOf 13 = .ok (.imul, 1) := by decide +kernel
end
section
theorem dX8_codeOf_14 : decode cX8_codeOf 14 = .ok (.iconst 1, 1) := by decide +kernel
theorem dX8_codeOf_15 : decode cX8_codeOf 15 = .ok (.iadd, 1) := by decide +kernel
theorem dX8_codeOf_16 : decode cX8_codeOf 16 = .ok (.ireturn, 1) := by decide +kernel
theorem dX8_literalOf_0 : decode cX8_literalOf 0 = .ok (.iload_n 0, 1) := by decide +kernel
theorem dX8_literalOf_1 : decode cX8_literalOf 1 = .ok (.iconst 1, 1) := by decide +kernel
theorem dX8_literalOf_2 : decode cX8_literalOf 2 = .ok (.iand, 1) := by decide +kernel
theorem dX8_literalOf_3 : decode cX8_literalOf 3 = .ok (.ifCond .ne 9, 3) := by decide +kernel
theorem dX8_literalOf_6 : decode cX8_literalOf 6 = .ok (.iload_n 0, 1) := by decide +kernel
theorem dX8_literalOf_7 : decode cX8_literalOf 7 = .ok (.iconst 1, 1) := by decide +kernel
theorem dX8_literalOf_8 : decode cX8_literalOf 8 = .ok (.ishr, 1) := by decide +kernel
theorem dX8_literalOf_9 : decode cX8_literalOf 9 = .ok (.goto 7, 3) := by decide +kernel
theorem dX8_literalOf_12 : decode cX8_literalOf 12 = .ok (.iload_n 0, 1) := by decide +kernel
theorem dX8_literalOf_13 : decode cX8_literalOf 13 = .ok (.iconst 1, 1) := by decide +kernel
theorem dX8_literalOf_14 : decode cX8_literalOf 14 = .ok (.ishr, 1) := by decide +kernel
theorem dX8_literalOf_15 : decode cX8_literalOf 15 = .ok (.ineg, 1) := by decide +kernel
theorem dX8_literalOf_16 : decode cX8_literalOf 16 = .ok (.ireturn, 1) := by decide +kernel
theorem dX8_bitOf_0 : decode cX8_bitOf 0 = .ok (.iload_n 0, 1) := by decide +kernel
theorem dX8_bitOf_1 : decode cX8_bitOf 1 = .ok (.ifCond .ne 7, 3) := by decide +kernel
theorem dX8_bitOf_4 : decode cX8_bitOf 4 = .ok (.iconst 0, 1) := by decide +kernel
theorem dX8_bitOf_5 : decode cX8_bitOf 5 = .ok (.goto 9, 3) := by decide +kernel
theorem dX8_bitOf_8 : decode cX8_bitOf 8 = .ok (.iconst 1, 1) := by decide +kernel
theorem dX8_bitOf_9 : decode cX8_bitOf 9 = .ok (.iload_n 0, 1) := by decide +kernel
theorem dX8_bitOf_10 : decode cX8_bitOf 10 = .ok (.invokestatic 129, 3) := by decide +kernel
theorem dX8_bitOf_13 : decode cX8_bitOf 13 = .ok (.ishl, 1) := by decide +kernel
theorem dX8_bitOf_14 : decode cX8_bitOf 14 = .ok (.ireturn, 1) := by decide +kernel
theorem dX8_contains_0 : decode cX8_contains 0 = .ok (.iload_n 0, 1) := by decide +kernel
theorem dX8_contains_1 : decode cX8_contains 1 = .ok (.iload_n 1, 1) := by decide +kernel
theorem dX8_contains_2 : decode cX8_contains 2 = .ok (.ishr, 1) := by decide +kernel
theorem dX8_contains_3 : decode cX8_contains 3 = .ok (.iconst 1, 1) := by decide +kernel
theorem dX8_contains_4 : decode cX8_contains 4 = .ok (.iand, 1) := by decide +kernel
theorem dX8_contains_5 : decode cX8_contains 5 = .ok (.ifCond .eq 7, 3) := by decide +kernel
theorem dX8_contains_8 : decode cX8_contains 8 = .ok (.iconst 1, 1) := by decide +kernel
theorem dX8_contains_9 : decode cX8_contains 9 = .ok (.goto 4, 3) := by decide +kernel
theorem dX8_contains_12 : decode cX8_contains 12 = .ok (.iconst 0, 1) := by decide +kernel
theorem dX8_contains_13 : decode cX8_contains 13 = .ok (.ireturn, 1) := by decide +kernel
theorem dX8_variablesOf_0 : decode cX8_variablesOf 0 = .ok (.iload_n 0, 1) := by decide +kernel
theorem dX8_variablesOf_1 : decode cX8_variablesOf 1 = .ok (.iload_n 0, 1) := by decide +kernel
theorem dX8_variablesOf_2 : decode cX8_variablesOf 2 = .ok (.iconst 1, 1) := by decide +kernel
theorem dX8_variablesOf_3 : decode cX8_variablesOf 3 = .ok (.ishr, 1) := by decide +kernel
theorem dX8_variablesOf_4 : decode cX8_variablesOf 4 = .ok (.ior, 1) := by decide +kernel
theorem dX8_variablesOf_5 : decode cX8_variablesOf 5 = .ok (.ldc 238, 2) := by decide +kernel
theorem dX8_variablesOf_7 : decode cX8_variablesOf 7 = .ok (.iand, 1) := by decide +kernel
theorem dX8_variablesOf_8 : decode cX8_variablesOf 8 = .ok (.ireturn, 1) := by decide +kernel
theorem dX8_oppositesOf_0 : decode cX8_oppositesOf 0 = .ok (.iload_n 0, 1) := by decide +kernel
theorem dX8_oppositesOf_1 : decode cX8_oppositesOf 1 = .ok (.ldc 238, 2) := by decide +kernel
theorem dX8_oppositesOf_3 : decode cX8_oppositesOf 3 = .ok (.iand, 1) := by decide +kernel
theorem dX8_oppositesOf_4 : decode cX8_oppositesOf 4 = .ok (.iconst 1, 1) := by decide +kernel
theorem dX8_oppositesOf_5 : decode cX8_oppositesOf 5 = .ok (.ishl, 1) := by decide +kernel
theorem dX8_oppositesOf_6 : decode cX8_oppositesOf 6 = .ok (.iload_n 0, 1) := by decide +kernel
theorem dX8_oppositesOf_7 : decode cX8_oppositesOf 7 = .ok (.iconst 1, 1) := by decide +kernel
theorem dX8_oppositesOf_8 : decode cX8_oppositesOf 8 = .ok (.ishr, 1) := by decide +kernel
theorem dX8_oppositesOf_9 : decode cX8_oppositesOf 9 = .ok (.ldc 238, 2) := by decide +kernel
theorem dX8_oppositesOf_11 : decode cX8_oppositesOf 11 = .ok (.iand, 1) := by decide +kernel
theorem dX8_oppositesOf_12 : decode cX8_oppositesOf 12 = .ok (.ior, 1) := by decide +kernel
theorem dX8_oppositesOf_13 : decode cX8_oppositesOf 13 = .ok (.ireturn, 1) := by decide +kernel
theorem dX8_bitsOfShare_0 : decode cX8_bitsOfShare 0 = .ok (.iload_n 0, 1) := by decide +kernel
theorem dX8_bitsOfShare_1 : decode cX8_bitsOfShare 1 = .ok (.ifCond .gt 5, 3) := by decide +kernel
theorem dX8_bitsOfShare_4 : decode cX8_bitsOfShare 4 = .ok (.iconst 0, 1) := by decide +kernel
theorem dX8_bitsOfShare_5 : decode cX8_bitsOfShare 5 = .ok (.ireturn, 1) := by decide +kernel
theorem dX8_bitsOfShare_6 : decode cX8_bitsOfShare 6 = .ok (.bipush 31, 2) := by decide +kernel
theorem dX8_bitsOfShare_8 : decode cX8_bitsOfShare 8 = .ok (.iload_n 0, 1) := by decide +kernel
theorem dX8_bitsOfShare_9 : decode cX8_bitsOfShare 9 = .ok (.invokestatic 239, 3) := by decide +kernel
theorem dX8_bitsOfShare_12 : decode cX8_bitsOfShare 12 = .ok (.isub, 1) := by decide +kernel
theorem dX8_bitsOfShare_13 : decode cX8_bitsOfShare 13 = .ok (.istore_n 1, 1) := by decide +kernel
theorem dX8_bitsOfShare_14 : decode cX8_bitsOfShare 14 = .ok (.iload_n 1, 1) := by decide +kernel
theorem dX8_bitsOfShare_15 : decode cX8_bitsOfShare 15 = .ok (.bipush 10, 2) := by decide +kernel
theorem dX8_bitsOfShare_17 : decode cX8_bitsOfShare 17 = .ok (.isub, 1) := by decide +kernel
theorem dX8_bitsOfShare_18 : decode cX8_bitsOfShare 18 = .ok (.bipush 127, 2) := by decide +kernel
theorem dX8_bitsOfShare_20 : decode cX8_bitsOfShare 20 = .ok (.iadd, 1) := by decide +kernel
theorem dX8_bitsOfShare_21 : decode cX8_bitsOfShare 21 = .ok (.istore_n 2, 1) := by decide +kernel
theorem dX8_bitsOfShare_22 : decode cX8_bitsOfShare 22 = .ok (.iload_n 0, 1) := by decide +kernel
theorem dX8_bitsOfShare_23 : decode cX8_bitsOfShare 23 = .ok (.iconst 1, 1) := by decide +kernel
theorem dX8_bitsOfShare_24 : decode cX8_bitsOfShare 24 = .ok (.iload_n 1, 1) := by decide +kernel
theorem dX8_bitsOfShare_25 : decode cX8_bitsOfShare 25 = .ok (.ishl, 1) := by decide +kernel
theorem dX8_bitsOfShare_26 : decode cX8_bitsOfShare 26 = .ok (.isub, 1) := by decide +kernel
theorem dX8_bitsOfShare_27 : decode cX8_bitsOfShare 27 = .ok (.bipush 23, 2) := by decide +kernel
theorem dX8_bitsOfShare_29 : decode cX8_bitsOfShare 29 = .ok (.iload_n 1, 1) := by decide +kernel
theorem dX8_bitsOfShare_30 : decode cX8_bitsOfShare 30 = .ok (.isub, 1) := by decide +kernel
theorem dX8_bitsOfShare_31 : decode cX8_bitsOfShare 31 = .ok (.ishl, 1) := by decide +kernel
theorem dX8_bitsOfShare_32 : decode cX8_bitsOfShare 32 = .ok (.istore_n 3, 1) := by decide +kernel
theorem dX8_bitsOfShare_33 : decode cX8_bitsOfShare 33 = .ok (.iload_n 2, 1) := by decide +kernel
theorem dX8_bitsOfShare_34 : decode cX8_bitsOfShare 34 = .ok (.bipush 23, 2) := by decide +kernel
theorem dX8_bitsOfShare_36 : decode cX8_bitsOfShare 36 = .ok (.ishl, 1) := by decide +kernel
theorem dX8_bitsOfShare_37 : decode cX8_bitsOfShare 37 = .ok (.iload_n 3, 1) := by decide +kernel
theorem dX8_bitsOfShare_38 : decode cX8_bitsOfShare 38 = .ok (.ior, 1) := by decide +kernel
theorem dX8_bitsOfShare_39 : decode cX8_bitsOfShare 39 = .ok (.ireturn, 1) := by decide +kernel
theorem dX9_init_0 : decode cX9_init 0 = .ok (.aload_n 0, 1) := by decide +kernel
theorem dX9_init_1 : decode cX9_init 1 = .ok (.invokespecial 1, 3) := by decide +kernel
theorem dX9_init_4 : decode cX9_init 4 = .ok (.aload_n 0, 1) := by decide +kernel
theorem dX9_init_5 : decode cX9_init 5 = .ok (.bipush 39, 2) := by decide +kernel
theorem dX9_init_7 : decode cX9_init 7 = .ok (.newarray .int, 2) := by decide +kernel
theorem dX9_init_9 : decode cX9_init 9 = .ok (.putfield 7, 3) := by decide +kernel
theorem dX9_init_12 : decode cX9_init 12 = .ok (.aload_n 0, 1) := by decide +kernel
theorem dX9_init_13 : decode cX9_init 13 = .ok (.sipush 195, 3) := by decide +kernel
theorem dX9_init_16 : decode cX9_init 16 = .ok (.newarray .int, 2) := by decide +kernel
theorem dX9_init_18 : decode cX9_init 18 = .ok (.putfield 13, 3) := by decide +kernel
theorem dX9_init_21 : decode cX9_init 21 = .ok (.aload_n 0, 1) := by decide +kernel
theorem dX9_init_22 : decode cX9_init 22 = .ok (.iconst 4, 1) := by decide +kernel
theorem dX9_init_23 : decode cX9_init 23 = .ok (.newarray .int, 2) := by decide +kernel
theorem dX9_init_25 : decode cX9_init 25 = .ok (.putfield 16, 3) := by decide +kernel
theorem dX9_init_28 : decode cX9_init 28 = .ok (.aload_n 0, 1) := by decide +kernel
theorem dX9_init_29 : decode cX9_init 29 = .ok (.sipush 150, 3) := by decide +kernel
theorem dX9_init_32 : decode cX9_init 32 = .ok (.newarray .int, 2) := by decide +kernel
theorem dX9_init_34 : decode cX9_init 34 = .ok (.putfield 19, 3) := by decide +kernel
theorem dX9_init_37 : decode cX9_init 37 = .ok (.aload_n 0, 1) := by decide +kernel
theorem dX9_init_38 : decode cX9_init 38 = .ok (.sipush 4096, 3) := by decide +kernel
theorem dX9_init_41 : decode cX9_init 41 = .ok (.newarray .int, 2) := by decide +kernel
theorem dX9_init_43 : decode cX9_init 43 = .ok (.putfield 22, 3) := by decide +kernel
theorem dX9_init_46 : decode cX9_init 46 = .ok (.aload_n 0, 1) := by decide +kernel
theorem dX9_init_47 : decode cX9_init 47 = .ok (.sipush 4096, 3) := by decide +kernel
theorem dX9_init_50 : decode cX9_init 50 = .ok (.newarray .int, 2) := by decide +kernel
theorem dX9_init_52 : decode cX9_init 52 = .ok (.putfield 25, 3) := by decide +kernel
theorem dX9_init_55 : decode cX9_init 55 = .ok (.aload_n 0, 1) := by decide +kernel
theorem dX9_init_56 : decode cX9_init 56 = .ok (.sipush 4096, 3) := by decide +kernel
theorem dX9_init_59 : decode cX9_init 59 = .ok (.newarray .int, 2) := by decide +kernel
theorem dX9_init_61 : decode cX9_init 61 = .ok (.putfield 28, 3) := by decide +kernel
theorem dX9_init_64 : decode cX9_init 64 = .ok (.aload_n 0, 1) := by decide +kernel
theorem dX9_init_65 : decode cX9_init 65 = .ok (.sipush 4096, 3) := by decide +kernel
theorem dX9_init_68 : decode cX9_init 68 = .ok (.newarray .int, 2) := by decide +kernel
theorem dX9_init_70 : decode cX9_init 70 = .ok (.putfield 31, 3) := by decide +kernel
theorem dX9_init_73 : decode cX9_init 73 = .ok (.aload_n 0, 1) := by decide +kernel
theorem dX9_init_74 : decode cX9_init 74 = .ok (.sipush 4096, 3) := by decide +kernel
theorem dX9_init_77 : decode cX9_init 77 = .ok (.newarray .int, 2) := by decide +kernel
theorem dX9_init_79 : decode cX9_init 79 = .ok (.putfield 34, 3) := by decide +kernel
theorem dX9_init_82 : decode cX9_init 82 = .ok (.aload_n 0, 1) := by decide +kernel
theorem dX9_init_83 : decode cX9_init 83 = .ok (.ldc 37, 2) := by decide +kernel
theorem dX9_init_85 : decode cX9_init 85 = .ok (.newarray .int, 2) := by decide +kernel
theorem dX9_init_87 : decode cX9_init 87 = .ok (.putfield 38, 3) := by decide +kernel
theorem dX9_init_90 : decode cX9_init 90 = .ok (.aload_n 0, 1) := by decide +kernel
theorem dX9_init_91 : decode cX9_init 91 = .ok (.sipush 16384, 3) := by decide +kernel
theorem dX9_init_94 : decode cX9_init 94 = .ok (.newarray .int, 2) := by decide +kernel
theorem dX9_init_96 : decode cX9_init 96 = .ok (.putfield 41, 3) := by decide +kernel
theorem dX9_init_99 : decode cX9_init 99 = .ok (.aload_n 0, 1) := by decide +kernel
theorem dX9_init_100 : decode cX9_init 100 = .ok (.sipush 416, 3) := by decide +kernel
theorem dX9_init_103 : decode cX9_init 103 = .ok (.newarray .int, 2) := by decide +kernel
theorem dX9_init_105 : decode cX9_init 105 = .ok (.putfield 44, 3) := by decide +kernel
theorem dX9_init_108 : decode cX9_init 108 = .ok (.aload_n 0, 1) := by decide +kernel
theorem dX9_init_109 : decode cX9_init 109 = .ok (.bipush 26, 2) := by decide +kernel
theorem dX9_init_111 : decode cX9_init 111 = .ok (.newarray .int, 2) := by decide +kernel
theorem dX9_init_113 : decode cX9_init 113 = .ok (.putfield 47, 3) := by decide +kernel
theorem dX9_init_116 : decode cX9_init 116 = .ok (.aload_n 0, 1) := by decide +kernel
theorem dX9_init_117 : decode cX9_init 117 = .ok (.bipush 26, 2) := by decide +kernel
theorem dX9_init_119 : decode cX9_init 119 = .ok (.newarray .int, 2) := by decide +kernel
theorem dX9_init_121 : decode cX9_init 121 = .ok (.putfield 50, 3) := by decide +kernel
theorem dX9_init_124 : decode cX9_init 124 = .ok (.aload_n 0, 1) := by decide +kernel
theorem dX9_init_125 : decode cX9_init 125 = .ok (.bipush 26, 2) := by decide +kernel
theorem dX9_init_127 : decode cX9_init 127 = .ok (.newarray .int, 2) := by decide +kernel
theorem dX9_init_129 : decode cX9_init 129 = .ok (.putfield 53, 3) := by decide +kernel
theorem dX9_init_132 : decode cX9_init 132 = .ok (.aload_n 0, 1) := by decide +kernel
theorem dX9_init_133 : decode cX9_init 133 = .ok (.bipush 26, 2) := by decide +kernel
theorem dX9_init_135 : decode cX9_init 135 = .ok (.newarray .int, 2) := by decide +kernel
theorem dX9_init_137 : decode cX9_init 137 = .ok (.putfield 56, 3) := by decide +kernel
theorem dX9_init_140 : decode cX9_init 140 = .ok (.aload_n 0, 1) := by decide +kernel
theorem dX9_init_141 : decode cX9_init 141 = .ok (.sipush 1024, 3) := by decide +kernel
theorem dX9_init_144 : decode cX9_init 144 = .ok (.newarray .int, 2) := by decide +kernel
theorem dX9_init_146 : decode cX9_init 146 = .ok (.putfield 59, 3) := by decide +kernel
theorem dX9_init_149 : decode cX9_init 149 = .ok (.aload_n 0, 1) := by decide +kernel
theorem dX9_init_150 : decode cX9_init 150 = .ok (.bipush 16, 2) := by decide +kernel
theorem dX9_init_152 : decode cX9_init 152 = .ok (.newarray .int, 2) := by decide +kernel
theorem dX9_init_154 : decode cX9_init 154 = .ok (.putfield 62, 3) := by decide +kernel
theorem dX9_init_157 : decode cX9_init 157 = .ok (.iconst 0, 1) := by decide +kernel
theorem dX9_init_158 : decode cX9_init 158 = .ok (.istore_n 1, 1) := by decide +kernel
theorem dX9_init_159 : decode cX9_init 159 = .ok (.iload_n 1, 1) := by decide +kernel
theorem dX9_init_160 : decode cX9_init 160 = .ok (.bipush 20, 2) := by decide +kernel
theorem dX9_init_162 : decode cX9_init 162 = .ok (.if_icmp .ge 19, 3) := by decide +kernel
theorem dX9_init_165 : decode cX9_init 165 = .ok (.aload_n 0, 1) := by decide +kernel
theorem dX9_init_166 : decode cX9_init 166 = .ok (.getfield 7, 3) := by decide +kernel
theorem dX9_init_169 : decode cX9_init 169 = .ok (.bipush 19, 2) := by decide +kernel
theorem dX9_init_171 : decode cX9_init 171 = .ok (.iload_n 1, 1) := by decide +kernel
theorem dX9_init_172 : decode cX9_init 172 = .ok (.iadd, 1) := by decide +kernel
theorem dX9_init_173 : decode cX9_init 173 = .ok (.iconst 1, 1) := by decide +kernel
theorem dX9_init_174 : decode cX9_init 174 = .ok (.iastore, 1) := by decide +kernel
theorem dX9_init_175 : decode cX9_init 175 = .ok (.iinc 1 1, 3) := by decide +kernel
theorem dX9_init_178 : decode cX9_init 178 = .ok (.goto (-19), 3) := by decide +kernel
theorem dX9_init_181 : decode cX9_init 181 = .ok (.return_, 1) := by decide +kernel
theorem dX9_in_0 : decode cX9_in 0 = .ok (.lload_n 0, 1) := by decide +kernel
theorem dX9_in_1 : decode cX9_in 1 = .ok (.lload_n 2, 1) := by decide +kernel
theorem dX9_in_2 : decode cX9_in 2 = .ok (.lcmp, 1) := by decide +kernel
theorem dX9_in_3 : decode cX9_in 3 = .ok (.ifCond .lt 14, 3) := by decide +kernel
theorem dX9_in_6 : decode cX9_in 6 = .ok (.lload_n 0, 1) := by decide +kernel
theorem dX9_in_7 : decode cX9_in 7 = .ok (.lload 4, 2) := by decide +kernel
theorem dX9_in_9 : decode cX9_in 9 = .ok (.lcmp, 1) := by decide +kernel
theorem dX9_in_10 : decode cX9_in 10 = .ok (.ifCond .gt 7, 3) := by decide +kernel
theorem dX9_in_13 : decode cX9_in 13 = .ok (.iconst 1, 1) := by decide +kernel
theorem dX9_in_14 : decode cX9_in 14 = .ok (.goto 4, 3) := by decide +kernel
theorem dX9_in_17 : decode cX9_in 17 = .ok (.iconst 0, 1) := by decide +kernel
theorem dX9_in_18 : decode cX9_in 18 = .ok (.ireturn, 1) := by decide +kernel
theorem dX9_err_0 : decode cX9_err 0 = .ok (.aload_n 0, 1) := by decide +kernel
theorem dX9_err_1 : decode cX9_err 1 = .ok (.getfield 16, 3) := by decide +kernel
theorem dX9_err_4 : decode cX9_err 4 = .ok (.bipush (-2), 2) := by decide +kernel
theorem dX9_err_6 : decode cX9_err 6 = .ok (.iload_n 1, 1) := by decide +kernel
theorem dX9_err_7 : decode cX9_err 7 = .ok (.isub, 1) := by decide +kernel
theorem dX9_err_8 : decode cX9_err 8 = .ok (.dup2, 1) := by decide +kernel
theorem dX9_err_9 : decode cX9_err 9 = .ok (.iaload, 1) := by decide +kernel
theorem dX9_err_10 : decode cX9_err 10 = .ok (.iconst 1, 1) := by decide +kernel
theorem dX9_err_11 : decode cX9_err 11 = .ok (.iadd, 1) := by decide +kernel
theorem dX9_err_12 : decode cX9_err 12 = .ok (.iastore, 1) := by decide +kernel
theorem dX9_err_13 : decode cX9_err 13 = .ok (.iload_n 1, 1) := by decide +kernel
theorem dX9_err_14 : decode cX9_err 14 = .ok (.ireturn, 1) := by decide +kernel
theorem dX9_isLiteral_0 : decode cX9_isLiteral 0 = .ok (.iload_n 0, 1) := by decide +kernel
theorem dX9_isLiteral_1 : decode cX9_isLiteral 1 = .ok (.ifCond .eq 21, 3) := by decide +kernel
theorem dX9_isLiteral_4 : decode cX9_isLiteral 4 = .ok (.iload_n 0, 1) := by decide +kernel
theorem dX9_isLiteral_5 : decode cX9_isLiteral 5 = .ok (.i2l, 1) := by decide +kernel
theorem dX9_isLiteral_6 : decode cX9_isLiteral 6 = .ok (.ldc2_w 65, 3) := by decide +kernel
theorem dX9_isLiteral_9 : decode cX9_isLiteral 9 = .ok (.ldc2_w 67, 3) := by decide +kernel
theorem dX9_isLiteral_12 : decode cX9_isLiteral 12 = .ok (.invokestatic 69, 3) := by decide +kernel
theorem dX9_isLiteral_15 : decode cX9_isLiteral 15 = .ok (.ifCond .eq 7, 3) := by decide +kernel
theorem dX9_isLiteral_18 : decode cX9_isLiteral 18 = .ok (.iconst 1, 1) := by decide +kernel
theorem dX9_isLiteral_19 : decode cX9_isLiteral 19 = .ok (.goto 4, 3) := by decide +kernel
theorem dX9_isLiteral_22 : decode cX9_isLiteral 22 = .ok (.iconst 0, 1) := by decide +kernel
theorem dX9_isLiteral_23 : decode cX9_isLiteral 23 = .ok (.ireturn, 1) := by decide +kernel
theorem dX9_bitOf_0 : decode cX9_bitOf 0 = .ok (.iload_n 0, 1) := by decide +kernel
theorem dX9_bitOf_1 : decode cX9_bitOf 1 = .ok (.ifCond .le 11, 3) := by decide +kernel
theorem dX9_bitOf_4 : decode cX9_bitOf 4 = .ok (.iconst 1, 1) := by decide +kernel
theorem dX9_bitOf_5 : decode cX9_bitOf 5 = .ok (.iload_n 0, 1) := by decide +kernel
theorem dX9_bitOf_6 : decode cX9_bitOf 6 = .ok (.iconst 1, 1) := by decide +kernel
theorem dX9_bitOf_7 : decode cX9_bitOf 7 = .ok (.isub, 1) := by decide +kernel
theorem dX9_bitOf_8 : decode cX9_bitOf 8 = .ok (.ishl, 1) := by decide +kernel
theorem dX9_bitOf_9 : decode cX9_bitOf 9 = .ok (.goto 9, 3) := by decide +kernel
theorem dX9_bitOf_12 : decode cX9_bitOf 12 = .ok (.iconst 1, 1) := by decide +kernel
theorem dX9_bitOf_13 : decode cX9_bitOf 13 = .ok (.bipush 9, 2) := by decide +kernel
theorem dX9_bitOf_15 : decode cX9_bitOf 15 = .ok (.iload_n 0, 1) := by decide +kernel
theorem dX9_bitOf_16 : decode cX9_bitOf 16 = .ok (.isub, 1) := by decide +kernel
theorem dX9_bitOf_17 : decode cX9_bitOf 17 = .ok (.ishl, 1) := by decide +kernel
theorem dX9_bitOf_18 : decode cX9_bitOf 18 = .ok (.ireturn, 1) := by decide +kernel
theorem dX9_variables_0 : decode cX9_variables 0 = .ok (.iload_n 0, 1) := by decide +kernel
theorem dX9_variables_1 : decode cX9_variables 1 = .ok (.iload_n 0, 1) := by decide +kernel
theorem dX9_variables_2 : decode cX9_variables 2 = .ok (.bipush 10, 2) := by decide +kernel
theorem dX9_variables_4 : decode cX9_variables 4 = .ok (.ishr, 1) := by decide +kernel
theorem dX9_variables_5 : decode cX9_variables 5 = .ok (.ior, 1) := by decide +kernel
theorem dX9_variables_6 : decode cX9_variables 6 = .ok (.sipush 1023, 3) := by decide +kernel
theorem dX9_variables_9 : decode cX9_variables 9 = .ok (.iand, 1) := by decide +kernel
theorem dX9_variables_10 : decode cX9_variables 10 = .ok (.ireturn, 1) := by decide +kernel
theorem dX9_ones_0 : decode cX9_ones 0 = .ok (.iconst 0, 1) := by decide +kernel
theorem dX9_ones_1 : decode cX9_ones 1 = .ok (.istore_n 1, 1) := by decide +kernel
theorem dX9_ones_2 : decode cX9_ones 2 = .ok (.iload_n 0, 1) := by decide +kernel
theorem dX9_ones_3 : decode cX9_ones 3 = .ok (.istore_n 2, 1) := by decide +kernel
theorem dX9_ones_4 : decode cX9_ones 4 = .ok (.iload_n 2, 1) := by decide +kernel
theorem dX9_ones_5 : decode cX9_ones 5 = .ok (.ifCond .eq 15, 3) := by decide +kernel
theorem dX9_ones_8 : decode cX9_ones 8 = .ok (.iinc 1 1, 3) := by decide +kernel
theorem dX9_ones_11 : decode cX9_ones 11 = .ok (.iload_n 2, 1) := by decide +kernel
theorem dX9_ones_12 : decode cX9_ones 12 = .ok (.iload_n 2, 1) := by decide +kernel
theorem dX9_ones_13 : decode cX9_ones 13 = .ok (.iconst 1, 1) := by decide +kernel
theorem dX9_ones_14 : decode cX9_ones 14 = .ok (.isub, 1) := by decide +kernel
theorem dX9_ones_15 : decode cX9_ones 15 = .ok (.iand, 1) := by decide +kernel
theorem dX9_ones_16 : decode cX9_ones 16 = .ok (.istore_n 2, 1) := by decide +kernel
theorem dX9_ones_17 : decode cX9_ones 17 = .ok (.goto (-13), 3) := by decide +kernel
theorem dX9_ones_20 : decode cX9_ones 20 = .ok (.iload_n 1, 1) := by decide +kernel
theorem dX9_ones_21 : decode cX9_ones 21 = .ok (.ireturn, 1) := by decide +kernel
theorem dX9_saves_0 : decode cX9_saves 0 = .ok (.aload_n 0, 1) := by decide +kernel
theorem dX9_saves_1 : decode cX9_saves 1 = .ok (.getfield 73, 3) := by decide +kernel
theorem dX9_saves_4 : decode cX9_saves 4 = .ok (.iconst 5, 1) := by decide +kernel
theorem dX9_saves_5 : decode cX9_saves 5 = .ok (.if_icmp .ne 43, 3) := by decide +kernel
theorem dX9_saves_8 : decode cX9_saves 8 = .ok (.iconst 0, 1) := by decide +kernel
theorem dX9_saves_9 : decode cX9_saves 9 = .ok (.istore_n 1, 1) := by decide +kernel
theorem dX9_saves_10 : decode cX9_saves 10 = .ok (.iload_n 1, 1) := by decide +kernel
theorem dX9_saves_11 : decode cX9_saves 11 = .ok (.sipush 156, 3) := by decide +kernel
theorem dX9_saves_14 : decode cX9_saves 14 = .ok (.if_icmp .ge 24, 3) := by decide +kernel
theorem dX9_saves_17 : decode cX9_saves 17 = .ok (.aload_n 0, 1) := by decide +kernel
theorem dX9_saves_18 : decode cX9_saves 18 = .ok (.getfield 13, 3) := by decide +kernel
theorem dX9_saves_21 : decode cX9_saves 21 = .ok (.iload_n 1, 1) := by decide +kernel
theorem dX9_saves_22 : decode cX9_saves 22 = .ok (.aload_n 0, 1) := by decide +kernel
theorem dX9_saves_23 : decode cX9_saves 23 = .ok (.getfield 13, 3) := by decide +kernel
theorem dX9_saves_26 : decode cX9_saves 26 = .ok (.bipush 39, 2) := by decide +kernel
theorem dX9_saves_28 : decode cX9_saves 28 = .ok (.iload_n 1, 1) := by decide +kernel
theorem dX9_saves_29 : decode cX9_saves 29 = .ok (.iadd, 1) := by decide +kernel
theorem dX9_saves_30 : decode cX9_saves 30 = .ok (.iaload, 1) := by decide +kernel
theorem dX9_saves_31 : decode cX9_saves 31 = .ok (.iastore, 1) := by decide +kernel
theorem dX9_saves_32 : decode cX9_saves 32 = .ok (.iinc 1 1, 3) := by decide +kernel
theorem dX9_saves_35 : decode cX9_saves 35 = .ok (.goto (-25), 3) := by decide +kernel
theorem dX9_saves_38 : decode cX9_saves 38 = .ok (.aload_n 0, 1) := by decide +kernel
theorem dX9_saves_39 : decode cX9_saves 39 = .ok (.dup, 1) := by decide +kernel
theorem dX9_saves_40 : decode cX9_saves 40 = .ok (.getfield 73, 3) := by decide +kernel
theorem dX9_saves_43 : decode cX9_saves 43 = .ok (.iconst 1, 1) := by decide +kernel
theorem dX9_saves_44 : decode cX9_saves 44 = .ok (.isub, 1) := by decide +kernel
theorem dX9_saves_45 : decode cX9_saves 45 = .ok (.putfield 73, 3) := by decide +kernel
theorem dX9_saves_48 : decode cX9_saves 48 = .ok (.iconst 0, 1) := by decide +kernel
theorem dX9_saves_49 : decode cX9_saves 49 = .ok (.istore_n 1, 1) := by decide +kernel
theorem dX9_saves_50 : decode cX9_saves 50 = .ok (.iload_n 1, 1) := by decide +kernel
theorem dX9_saves_51 : decode cX9_saves 51 = .ok (.bipush 39, 2) := by decide +kernel
theorem dX9_saves_53 : decode cX9_saves 53 = .ok (.if_icmp .ge 29, 3) := by decide +kernel
theorem dX9_saves_56 : decode cX9_saves 56 = .ok (.aload_n 0, 1) := by decide +kernel
theorem dX9_saves_57 : decode cX9_saves 57 = .ok (.getfield 13, 3) := by decide +kernel
theorem dX9_saves_60 : decode cX9_saves 60 = .ok (.bipush 39, 2) := by decide +kernel
theorem dX9_saves_62 : decode cX9_saves 62 = .ok (.aload_n 0, 1) := by decide +kernel
theorem dX9_saves_63 : decode cX9_saves 63 = .ok (.getfield 73, 3) := by decide +kernel
theorem dX9_saves_66 : decode cX9_saves 66 = .ok (.imul, 1) := by decide +kernel
theorem dX9_saves_67 : decode cX9_saves 67 = .ok (.iload_n 1, 1) := by decide +kernel
theorem dX9_saves_68 : decode cX9_saves 68 = .ok (.iadd, 1) := by decide +kernel
theorem dX9_saves_69 : decode cX9_saves 69 = .ok (.aload_n 0, 1) := by decide +kernel
theorem dX9_saves_70 : decode cX9_saves 70 = .ok (.getfield 7, 3) := by decide +kernel
theorem dX9_saves_73 : decode cX9_saves 73 = .ok (.iload_n 1, 1) := by decide +kernel
theorem dX9_saves_74 : decode cX9_saves 74 = .ok (.iaload, 1) := by decide +kernel
theorem dX9_saves_75 : decode cX9_saves 75 = .ok (.iastore, 1) := by decide +kernel
theorem dX9_saves_76 : decode cX9_saves 76 = .ok (.iinc 1 1, 3) := by decide +kernel
theorem dX9_saves_79 : decode cX9_saves 79 = .ok (.goto (-29), 3) := by decide +kernel
theorem dX9_saves_82 : decode cX9_saves 82 = .ok (.aload_n 0, 1) := by decide +kernel
theorem dX9_saves_83 : decode cX9_saves 83 = .ok (.dup, 1) := by decide +kernel
theorem dX9_saves_84 : decode cX9_saves 84 = .ok (.getfield 73, 3) := by decide +kernel
theorem dX9_saves_87 : decode cX9_saves 87 = .ok (.iconst 1, 1) := by decide +kernel
theorem dX9_saves_88 : decode cX9_saves 88 = .ok (.iadd, 1) := by decide +kernel
theorem dX9_saves_89 : decode cX9_saves 89 = .ok (.putfield 73, 3) := by decide +kernel
theorem dX9_saves_92 : decode cX9_saves 92 = .ok (.aload_n 0, 1) := by decide +kernel
theorem dX9_saves_93 : decode cX9_saves 93 = .ok (.iconst 0, 1) := by decide +kernel
theorem dX9_saves_94 : decode cX9_saves 94 = .ok (.putfield 77, 3) := by decide +kernel
theorem dX9_saves_97 : decode cX9_saves 97 = .ok (.aload_n 0, 1) := by decide +kernel
theorem dX9_saves_98 : decode cX9_saves 98 = .ok (.iconst 0, 1) := by decide +kernel
theorem dX9_saves_99 : decode cX9_saves 99 = .ok (.putfield 81, 3) := by decide +kernel
theorem dX9_saves_102 : decode cX9_saves 102 = .ok (.return_, 1) := by decide +kernel
theorem dX9_undo_0 : decode cX9_undo 0 = .ok (.aload_n 0, 1) := by decide +kernel
theorem dX9_undo_1 : decode cX9_undo 1 = .ok (.getfield 73, 3) := by decide +kernel
theorem dX9_undo_4 : decode cX9_undo 4 = .ok (.ifCond .ne 10, 3) := by decide +kernel
theorem dX9_undo_7 : decode cX9_undo 7 = .ok (.aload_n 0, 1) := by decide +kernel
theorem dX9_undo_8 : decode cX9_undo 8 = .ok (.bipush (-5), 2) := by decide +kernel
theorem dX9_undo_10 : decode cX9_undo 10 = .ok (.invokevirtual 84, 3) := by decide +kernel
theorem dX9_undo_13 : decode cX9_undo 13 = .ok (.ireturn, 1) := by decide +kernel
theorem dX9_undo_14 : decode cX9_undo 14 = .ok (.aload_n 0, 1) := by decide +kernel
theorem dX9_undo_15 : decode cX9_undo 15 = .ok (.dup, 1) := by decide +kernel
theorem dX9_undo_16 : decode cX9_undo 16 = .ok (.getfield 73, 3) := by decide +kernel
theorem dX9_undo_19 : decode cX9_undo 19 = .ok (.iconst 1, 1) := by decide +kernel
theorem dX9_undo_20 : decode cX9_undo 20 = .ok (.isub, 1) := by decide +kernel
theorem dX9_undo_21 : decode cX9_undo 21 = .ok (.putfield 73, 3) := by decide +kernel
theorem dX9_undo_24 : decode cX9_undo 24 = .ok (.iconst 0, 1) := by decide +kernel
theorem dX9_undo_25 : decode cX9_undo 25 = .ok (.istore_n 1, 1) := by decide +kernel
theorem dX9_undo_26 : decode cX9_undo 26 = .ok (.iload_n 1, 1) := by decide +kernel
theorem dX9_undo_27 : decode cX9_undo 27 = .ok (.bipush 39, 2) := by decide +kernel
theorem dX9_undo_29 : decode cX9_undo 29 = .ok (.if_icmp .ge 29, 3) := by decide +kernel
theorem dX9_undo_32 : decode cX9_undo 32 = .ok (.aload_n 0, 1) := by decide +kernel
theorem dX9_undo_33 : decode cX9_undo 33 = .ok (.getfield 7, 3) := by decide +kernel
theorem dX9_undo_36 : decode cX9_undo 36 = .ok (.iload_n 1, 1) := by decide +kernel
theorem dX9_undo_37 : decode cX9_undo 37 = .ok (.aload_n 0, 1) := by decide +kernel
theorem dX9_undo_38 : decode cX9_undo 38 = .ok (.getfield 13, 3) := by decide +kernel
theorem dX9_undo_41 : decode cX9_undo 41 = .ok (.bipush 39, 2) := by decide +kernel
theorem dX9_undo_43 : decode cX9_undo 43 = .ok (.aload_n 0, 1) := by decide +kernel
theorem dX9_undo_44 : decode cX9_undo 44 = .ok (.getfield 73, 3) := by decide +kernel
theorem dX9_undo_47 : decode cX9_undo 47 = .ok (.imul, 1) := by decide +kernel
theorem dX9_undo_48 : decode cX9_undo 48 = .ok (.iload_n 1, 1) := by decide +kernel
theorem dX9_undo_49 : decode cX9_undo 49 = .ok (.iadd, 1) := by decide +kernel
theorem dX9_undo_50 : decode cX9_undo 50 = .ok (.iaload, 1) := by decide +kernel
theorem dX9_undo_51 : decode cX9_undo 51 = .ok (.iastore, 1) := by decide +kernel
theorem dX9_undo_52 : decode cX9_undo 52 = .ok (.iinc 1 1, 3) := by decide +kernel
theorem dX9_undo_55 : decode cX9_undo 55 = .ok (.goto (-29), 3) := by decide +kernel
theorem dX9_undo_58 : decode cX9_undo 58 = .ok (.aload_n 0, 1) := by decide +kernel
theorem dX9_undo_59 : decode cX9_undo 59 = .ok (.iconst 0, 1) := by decide +kernel
theorem dX9_undo_60 : decode cX9_undo 60 = .ok (.putfield 77, 3) := by decide +kernel
theorem dX9_undo_63 : decode cX9_undo 63 = .ok (.aload_n 0, 1) := by decide +kernel
theorem dX9_undo_64 : decode cX9_undo 64 = .ok (.iconst 0, 1) := by decide +kernel
theorem dX9_undo_65 : decode cX9_undo 65 = .ok (.putfield 81, 3) := by decide +kernel
theorem dX9_undo_68 : decode cX9_undo 68 = .ok (.aload_n 0, 1) := by decide +kernel
theorem dX9_undo_69 : decode cX9_undo 69 = .ok (.getfield 73, 3) := by decide +kernel
theorem dX9_undo_72 : decode cX9_undo 72 = .ok (.ireturn, 1) := by decide +kernel
theorem dX9_addClause_0 : decode cX9_addClause 0 = .ok (.iload_n 1, 1) := by decide +kernel
theorem dX9_addClause_1 : decode cX9_addClause 1 = .ok (.ifCond .eq 60, 3) := by decide +kernel
theorem dX9_addClause_4 : decode cX9_addClause 4 = .ok (.iload_n 1, 1) := by decide +kernel
theorem dX9_addClause_5 : decode cX9_addClause 5 = .ok (.i2l, 1) := by decide +kernel
theorem dX9_addClause_6 : decode cX9_addClause 6 = .ok (.ldc2_w 65, 3) := by decide +kernel
theorem dX9_addClause_9 : decode cX9_addClause 9 = .ok (.ldc2_w 67, 3) := by decide +kernel
theorem dX9_addClause_12 : decode cX9_addClause 12 = .ok (.invokestatic 69, 3) := by decide +kernel
theorem dX9_addClause_15 : decode cX9_addClause 15 = .ok (.ifCond .eq 46, 3) := by decide +kernel
theorem dX9_addClause_18 : decode cX9_addClause 18 = .ok (.iload_n 2, 1) := by decide +kernel
theorem dX9_addClause_19 : decode cX9_addClause 19 = .ok (.i2l, 1) := by decide +kernel
theorem dX9_addClause_20 : decode cX9_addClause 20 = .ok (.ldc2_w 65, 3) := by decide +kernel
theorem dX9_addClause_23 : decode cX9_addClause 23 = .ok (.ldc2_w 67, 3) := by decide +kernel
theorem dX9_addClause_26 : decode cX9_addClause 26 = .ok (.invokestatic 69, 3) := by decide +kernel
theorem dX9_addClause_29 : decode cX9_addClause 29 = .ok (.ifCond .eq 32, 3) := by decide +kernel
theorem dX9_addClause_32 : decode cX9_addClause 32 = .ok (.iload_n 3, 1) := by decide +kernel
theorem dX9_addClause_33 : decode cX9_addClause 33 = .ok (.i2l, 1) := by decide +kernel
theorem dX9_addClause_34 : decode cX9_addClause 34 = .ok (.ldc2_w 65, 3) := by decide +kernel
theorem dX9_addClause_37 : decode cX9_addClause 37 = .ok (.ldc2_w 67, 3) := by decide +kernel
theorem dX9_addClause_40 : decode cX9_addClause 40 = .ok (.invokestatic 69, 3) := by decide +kernel
theorem dX9_addClause_43 : decode cX9_addClause 43 = .ok (.ifCond .eq 18, 3) := by decide +kernel
theorem dX9_addClause_46 : decode cX9_addClause 46 = .ok (.iload 4, 2) := by decide +kernel
theorem dX9_addClause_48 : decode cX9_addClause 48 = .ok (.i2l, 1) := by decide +kernel
theorem dX9_addClause_49 : decode cX9_addClause 49 = .ok (.ldc2_w 65, 3) := by decide +kernel
theorem dX9_addClause_52 : decode cX9_addClause 52 = .ok (.ldc2_w 67, 3) := by decide +kernel
theorem dX9_addClause_55 : decode cX9_addClause 55 = .ok (.invokestatic 69, 3) := by decide +kernel
theorem dX9_addClause_58 : decode cX9_addClause 58 = .ok (.ifCond .ne 10, 3) := by decide +kernel
theorem dX9_addClause_61 : decode cX9_addClause 61 = .ok (.aload_n 0, 1) := by decide +kernel
theorem dX9_addClause_62 : decode cX9_addClause 62 = .ok (.bipush (-2), 2) := by decide +kernel
theorem dX9_addClause_64 : decode cX9_addClause 64 = .ok (.invokevirtual 84, 3) := by decide +kernel
theorem dX9_addClause_67 : decode cX9_addClause 67 = .ok (.ireturn, 1) := by decide +kernel
theorem dX9_addClause_68 : decode cX9_addClause 68 = .ok (.iload_n 1, 1) := by decide +kernel
theorem dX9_addClause_69 : decode cX9_addClause 69 = .ok (.invokestatic 88, 3) := by decide +kernel
theorem dX9_addClause_72 : decode cX9_addClause 72 = .ok (.istore 5, 2) := by decide +kernel
theorem dX9_addClause_74 : decode cX9_addClause 74 = .ok (.iconst 1, 1) := by decide +kernel
theorem dX9_addClause_75 : decode cX9_addClause 75 = .ok (.istore 6, 2) := by decide +kernel
theorem dX9_addClause_77 : decode cX9_addClause 77 = .ok (.iconst 0, 1) := by decide +kernel
theorem dX9_addClause_78 : decode cX9_addClause 78 = .ok (.istore 7, 2) := by decide +kernel
theorem dX9_addClause_80 : decode cX9_addClause 80 = .ok (.iload 7, 2) := by decide +kernel
theorem dX9_addClause_82 : decode cX9_addClause 82 = .ok (.iconst 3, 1) := by decide +kernel
theorem dX9_addClause_83 : decode cX9_addClause 83 = .ok (.if_icmp .ge 77, 3) := by decide +kernel
theorem dX9_addClause_86 : decode cX9_addClause 86 = .ok (.iload 7, 2) := by decide +kernel
theorem dX9_addClause_88 : decode cX9_addClause 88 = .ok (.ifCond .ne 7, 3) := by decide +kernel
theorem dX9_addClause_91 : decode cX9_addClause 91 = .ok (.iload_n 2, 1) := by decide +kernel
theorem dX9_addClause_92 : decode cX9_addClause 92 = .ok (.goto 15, 3) := by decide +kernel
theorem dX9_addClause_95 : decode cX9_addClause 95 = .ok (.iload 7, 2) := by decide +kernel
theorem dX9_addClause_97 : decode cX9_addClause 97 = .ok (.iconst 1, 1) := by decide +kernel
theorem dX9_addClause_98 : decode cX9_addClause 98 = .ok (.if_icmp .ne 7, 3) := by decide +kernel
theorem dX9_addClause_101 : decode cX9_addClause 101 = .ok (.iload_n 3, 1) := by decide +kernel
theorem dX9_addClause_102 : decode cX9_addClause 102 = .ok (.goto 5, 3) := by decide +kernel
theorem dX9_addClause_105 : decode cX9_addClause 105 = .ok (.iload 4, 2) := by decide +kernel
theorem dX9_addClause_107 : decode cX9_addClause 107 = .ok (.istore 8, 2) := by decide +kernel
theorem dX9_addClause_109 : decode cX9_addClause 109 = .ok (.iload 8, 2) := by decide +kernel
theorem dX9_addClause_111 : decode cX9_addClause 111 = .ok (.ifCond .eq 43, 3) := by decide +kernel
theorem dX9_addClause_114 : decode cX9_addClause 114 = .ok (.iload 8, 2) := by decide +kernel
theorem dX9_addClause_116 : decode cX9_addClause 116 = .ok (.invokestatic 88, 3) := by decide +kernel
theorem dX9_addClause_119 : decode cX9_addClause 119 = .ok (.istore 9, 2) := by decide +kernel
theorem dX9_addClause_121 : decode cX9_addClause 121 = .ok (.iload 6, 2) := by decide +kernel
theorem dX9_addClause_123 : decode cX9_addClause 123 = .ok (.ifCond .eq 21, 3) := by decide +kernel
theorem dX9_addClause_126 : decode cX9_addClause 126 = .ok (.iload 5, 2) := by decide +kernel
theorem dX9_addClause_128 : decode cX9_addClause 128 = .ok (.invokestatic 91, 3) := by decide +kernel
theorem dX9_addClause_131 : decode cX9_addClause 131 = .ok (.iload 9, 2) := by decide +kernel
theorem dX9_addClause_133 : decode cX9_addClause 133 = .ok (.invokestatic 91, 3) := by decide +kernel
theorem dX9_addClause_136 : decode cX9_addClause 136 = .ok (.iand, 1) := by decide +kernel
theorem dX9_addClause_137 : decode cX9_addClause 137 = .ok (.ifCond .ne 7, 3) := by decide +kernel
theorem dX9_addClause_140 : decode cX9_addClause 140 = .ok (.iconst 1, 1) := by decide +kernel
theorem dX9_addClause_141 : decode cX9_addClause 141 = .ok (.goto 4, 3) := by decide +kernel
theorem dX9_addClause_144 : decode cX9_addClause 144 = .ok (.iconst 0, 1) := by decide +kernel
theorem dX9_addClause_145 : decode cX9_addClause 145 = .ok (.istore 6, 2) := by decide +kernel
theorem dX9_addClause_147 : decode cX9_addClause 147 = .ok (.iload 5, 2) := by decide +kernel
theorem dX9_addClause_149 : decode cX9_addClause 149 = .ok (.iload 9, 2) := by decide +kernel
theorem dX9_addClause_151 : decode cX9_addClause 151 = .ok (.ior, 1) := by decide +kernel
theorem dX9_addClause_152 : decode cX9_addClause 152 = .ok (.istore 5, 2) := by decide +kernel
theorem dX9_addClause_154 : decode cX9_addClause 154 = .ok (.iinc 7 1, 3) := by decide +kernel
theorem dX9_addClause_157 : decode cX9_addClause 157 = .ok (.goto (-77), 3) := by decide +kernel
theorem dX9_addClause_160 : decode cX9_addClause 160 = .ok (.iload 6, 2) := by decide +kernel
theorem dX9_addClause_162 : decode cX9_addClause 162 = .ok (.ifCond .ne 10, 3) := by decide +kernel
theorem dX9_addClause_165 : decode cX9_addClause 165 = .ok (.aload_n 0, 1) := by decide +kernel
theorem dX9_addClause_166 : decode cX9_addClause 166 = .ok (.bipush (-3), 2) := by decide +kernel
theorem dX9_addClause_168 : decode cX9_addClause 168 = .ok (.invokevirtual 84, 3) := by decide +kernel
theorem dX9_addClause_171 : decode cX9_addClause 171 = .ok (.ireturn, 1) := by decide +kernel
theorem dX9_addClause_172 : decode cX9_addClause 172 = .ok (.aload_n 0, 1) := by decide +kernel
theorem dX9_addClause_173 : decode cX9_addClause 173 = .ok (.getfield 7, 3) := by decide +kernel
theorem dX9_addClause_176 : decode cX9_addClause 176 = .ok (.iconst 0, 1) := by decide +kernel
theorem dX9_addClause_177 : decode cX9_addClause 177 = .ok (.iaload, 1) := by decide +kernel
theorem dX9_addClause_178 : decode cX9_addClause 178 = .ok (.bipush 16, 2) := by decide +kernel
theorem dX9_addClause_180 : decode cX9_addClause 180 = .ok (.if_icmp .ne 10, 3) := by decide +kernel
theorem dX9_addClause_183 : decode cX9_addClause 183 = .ok (.aload_n 0, 1) := by decide +kernel
theorem dX9_addClause_184 : decode cX9_addClause 184 = .ok (.bipush (-4), 2) := by decide +kernel
theorem dX9_addClause_186 : decode cX9_addClause 186 = .ok (.invokevirtual 84, 3) := by decide +kernel
theorem dX9_addClause_189 : decode cX9_addClause 189 = .ok (.ireturn, 1) := by decide +kernel
theorem dX9_addClause_190 : decode cX9_addClause 190 = .ok (.aload_n 0, 1) := by decide +kernel
theorem dX9_addClause_191 : decode cX9_addClause 191 = .ok (.invokevirtual 94, 3) := by decide +kernel
theorem dX9_addClause_194 : decode cX9_addClause 194 = .ok (.aload_n 0, 1) := by decide +kernel
theorem dX9_addClause_195 : decode cX9_addClause 195 = .ok (.getfield 7, 3) := by decide +kernel
theorem dX9_addClause_198 : decode cX9_addClause 198 = .ok (.iconst 1, 1) := by decide +kernel
theorem dX9_addClause_199 : decode cX9_addClause 199 = .ok (.aload_n 0, 1) := by decide +kernel
theorem dX9_addClause_200 : decode cX9_addClause 200 = .ok (.getfield 7, 3) := by decide +kernel
theorem dX9_addClause_203 : decode cX9_addClause 203 = .ok (.iconst 0, 1) := by decide +kernel
theorem dX9_addClause_204 : decode cX9_addClause 204 = .ok (.iaload, 1) := by decide +kernel
theorem dX9_addClause_205 : decode cX9_addClause 205 = .ok (.iadd, 1) := by decide +kernel
theorem dX9_addClause_206 : decode cX9_addClause 206 = .ok (.iload 5, 2) := by decide +kernel
theorem dX9_addClause_208 : decode cX9_addClause 208 = .ok (.iastore, 1) := by decide +kernel
theorem dX9_addClause_209 : decode cX9_addClause 209 = .ok (.aload_n 0, 1) := by decide +kernel
theorem dX9_addClause_210 : decode cX9_addClause 210 = .ok (.getfield 7, 3) := by decide +kernel
theorem dX9_addClause_213 : decode cX9_addClause 213 = .ok (.iconst 0, 1) := by decide +kernel
theorem dX9_addClause_214 : decode cX9_addClause 214 = .ok (.dup2, 1) := by decide +kernel
theorem dX9_addClause_215 : decode cX9_addClause 215 = .ok (.iaload, 1) := by decide +kernel
theorem dX9_addClause_216 : decode cX9_addClause 216 = .ok (.iconst 1, 1) := by decide +kernel
theorem dX9_addClause_217 : decode cX9_addClause 217 = .ok (.iadd, 1) := by decide +kernel
theorem dX9_addClause_218 : decode cX9_addClause 218 = .ok (.iastore, 1) := by decide +kernel
theorem dX9_addClause_219 : decode cX9_addClause 219 = .ok (.aload_n 0, 1) := by decide +kernel
theorem dX9_addClause_220 : decode cX9_addClause 220 = .ok (.getfield 7, 3) := by decide +kernel
theorem dX9_addClause_223 : decode cX9_addClause 223 = .ok (.iconst 0, 1) := by decide +kernel
theorem dX9_addClause_224 : decode cX9_addClause 224 = .ok (.iaload, 1) := by decide +kernel
theorem dX9_addClause_225 : decode cX9_addClause 225 = .ok (.iconst 1, 1) := by decide +kernel
theorem dX9_addClause_226 : decode cX9_addClause 226 = .ok (.isub, 1) := by decide +kernel
theorem dX9_addClause_227 : decode cX9_addClause 227 = .ok (.ireturn, 1) := by decide +kernel
theorem dX9_isClause_0 : decode cX9_isClause 0 = .ok (.iload_n 1, 1) := by decide +kernel
theorem dX9_isClause_1 : decode cX9_isClause 1 = .ok (.i2l, 1) := by decide +kernel
theorem dX9_isClause_2 : decode cX9_isClause 2 = .ok (.lconst 0, 1) := by decide +kernel
theorem dX9_isClause_3 : decode cX9_isClause 3 = .ok (.aload_n 0, 1) := by decide +kernel
theorem dX9_isClause_4 : decode cX9_isClause 4 = .ok (.getfield 7, 3) := by decide +kernel
theorem dX9_isClause_7 : decode cX9_isClause 7 = .ok (.iconst 0, 1) := by decide +kernel
theorem dX9_isClause_8 : decode cX9_isClause 8 = .ok (.iaload, 1) := by decide +kernel
theorem dX9_isClause_9 : decode cX9_isClause 9 = .ok (.iconst 1, 1) := by decide +kernel
theorem dX9_isClause_10 : decode cX9_isClause 10 = .ok (.isub, 1) := by decide +kernel
theorem dX9_isClause_11 : decode cX9_isClause 11 = .ok (.i2l, 1) := by decide +kernel
theorem dX9_isClause_12 : decode cX9_isClause 12 = .ok (.invokestatic 69, 3) := by decide +kernel
theorem dX9_isClause_15 : decode cX9_isClause 15 = .ok (.ireturn, 1) := by decide +kernel
theorem dX9_removeClause_0 : decode cX9_removeClause 0 = .ok (.aload_n 0, 1) := by decide +kernel
theorem dX9_removeClause_1 : decode cX9_removeClause 1 = .ok (.iload_n 1, 1) := by decide +kernel
theorem dX9_removeClause_2 : decode cX9_removeClause 2 = .ok (.invokevirtual 97, 3) := by decide +kernel
theorem dX9_removeClause_5 : decode cX9_removeClause 5 = .ok (.ifCond .ne 10, 3) := by decide +kernel
theorem dX9_removeClause_8 : decode cX9_removeClause 8 = .ok (.aload_n 0, 1) := by decide +kernel
theorem dX9_removeClause_9 : decode cX9_removeClause 9 = .ok (.bipush (-2), 2) := by decide +kernel
theorem dX9_removeClause_11 : decode cX9_removeClause 11 = .ok (.invokevirtual 84, 3) := by decide +kernel
theorem dX9_removeClause_14 : decode cX9_removeClause 14 = .ok (.ireturn, 1) := by decide +kernel
theorem dX9_removeClause_15 : decode cX9_removeClause 15 = .ok (.aload_n 0, 1) := by decide +kernel
theorem dX9_removeClause_16 : decode cX9_removeClause 16 = .ok (.invokevirtual 94, 3) := by decide +kernel
theorem dX9_removeClause_19 : decode cX9_removeClause 19 = .ok (.aload_n 0, 1) := by decide +kernel
theorem dX9_removeClause_20 : decode cX9_removeClause 20 = .ok (.getfield 7, 3) := by decide +kernel
theorem dX9_removeClause_23 : decode cX9_removeClause 23 = .ok (.iconst 0, 1) := by decide +kernel
theorem dX9_removeClause_24 : decode cX9_removeClause 24 = .ok (.dup2, 1) := by decide +kernel
theorem dX9_removeClause_25 : decode cX9_removeClause 25 = .ok (.iaload, 1) := by decide +kernel
theorem dX9_removeClause_26 : decode cX9_removeClause 26 = .ok (.iconst 1, 1) := by decide +kernel
theorem dX9_removeClause_27 : decode cX9_removeClause 27 = .ok (.isub, 1) := by decide +kernel
theorem dX9_removeClause_28 : decode cX9_removeClause 28 = .ok (.iastore, 1) := by decide +kernel
theorem dX9_removeClause_29 : decode cX9_removeClause 29 = .ok (.iload_n 1, 1) := by decide +kernel
theorem dX9_removeClause_30 : decode cX9_removeClause 30 = .ok (.istore_n 2, 1) := by decide +kernel
theorem dX9_removeClause_31 : decode cX9_removeClause 31 = .ok (.iload_n 2, 1) := by decide +kernel
theorem dX9_removeClause_32 : decode cX9_removeClause 32 = .ok (.aload_n 0, 1) := by decide +kernel
theorem dX9_removeClause_33 : decode cX9_removeClause 33 = .ok (.getfield 7, 3) := by decide +kernel
theorem dX9_removeClause_36 : decode cX9_removeClause 36 = .ok (.iconst 0, 1) := by decide +kernel
theorem dX9_removeClause_37 : decode cX9_removeClause 37 = .ok (.iaload, 1) := by decide +kernel
theorem dX9_removeClause_38 : decode cX9_removeClause 38 = .ok (.if_icmp .ge 27, 3) := by decide +kernel
theorem dX9_removeClause_41 : decode cX9_removeClause 41 = .ok (.aload_n 0, 1) := by decide +kernel
theorem dX9_removeClause_42 : decode cX9_removeClause 42 = .ok (.getfield 7, 3) := by decide +kernel
theorem dX9_removeClause_45 : decode cX9_removeClause 45 = .ok (.iconst 1, 1) := by decide +kernel
theorem dX9_removeClause_46 : decode cX9_removeClause 46 = .ok (.iload_n 2, 1) := by decide +kernel
theorem dX9_removeClause_47 : decode cX9_removeClause 47 = .ok (.iadd, 1) := by decide +kernel
theorem dX9_removeClause_48 : decode cX9_removeClause 48 = .ok (.aload_n 0, 1) := by decide +kernel
theorem dX9_removeClause_49 : decode cX9_removeClause 49 = .ok (.getfield 7, 3) := by decide +kernel
theorem dX9_removeClause_52 : decode cX9_removeClause 52 = .ok (.iconst 1, 1) := by decide +kernel
theorem dX9_removeClause_53 : decode cX9_removeClause 53 = .ok (.iload_n 2, 1) := by decide +kernel
theorem dX9_removeClause_54 : decode cX9_removeClause 54 = .ok (.iadd, 1) := by decide +kernel
theorem dX9_removeClause_55 : decode cX9_removeClause 55 = .ok (.iconst 1, 1) := by decide +kernel
theorem dX9_removeClause_56 : decode cX9_removeClause 56 = .ok (.iadd, 1) := by decide +kernel
theorem dX9_removeClause_57 : decode cX9_removeClause 57 = .ok (.iaload, 1) := by decide +kernel
theorem dX9_removeClause_58 : decode cX9_removeClause 58 = .ok (.iastore, 1) := by decide +kernel
theorem dX9_removeClause_59 : decode cX9_removeClause 59 = .ok (.iinc 2 1, 3) := by decide +kernel
theorem dX9_removeClause_62 : decode cX9_removeClause 62 = .ok (.goto (-31), 3) := by decide +kernel
theorem dX9_removeClause_65 : decode cX9_removeClause 65 = .ok (.aload_n 0, 1) := by decide +kernel
theorem dX9_removeClause_66 : decode cX9_removeClause 66 = .ok (.getfield 7, 3) := by decide +kernel
theorem dX9_removeClause_69 : decode cX9_removeClause 69 = .ok (.iconst 0, 1) := by decide +kernel
theorem dX9_removeClause_70 : decode cX9_removeClause 70 = .ok (.iaload, 1) := by decide +kernel
theorem dX9_removeClause_71 : decode cX9_removeClause 71 = .ok (.ireturn, 1) := by decide +kernel
theorem dX9_clauses_0 : decode cX9_clauses 0 = .ok (.aload_n 0, 1) := by decide +kernel
theorem dX9_clauses_1 : decode cX9_clauses 1 = .ok (.getfield 7, 3) := by decide +kernel
theorem dX9_clauses_4 : decode cX9_clauses 4 = .ok (.iconst 0, 1) := by decide +kernel
theorem dX9_clauses_5 : decode cX9_clauses 5 = .ok (.iaload, 1) := by decide +kernel
theorem dX9_clauses_6 : decode cX9_clauses 6 = .ok (.ireturn, 1) := by decide +kernel
theorem dX9_clauseSize_0 : decode cX9_clauseSize 0 = .ok (.aload_n 0, 1) := by decide +kernel
theorem dX9_clauseSize_1 : decode cX9_clauseSize 1 = .ok (.iload_n 1, 1) := by decide +kernel
theorem dX9_clauseSize_2 : decode cX9_clauseSize 2 = .ok (.invokevirtual 97, 3) := by decide +kernel
theorem dX9_clauseSize_5 : decode cX9_clauseSize 5 = .ok (.ifCond .eq 17, 3) := by decide +kernel
theorem dX9_clauseSize_8 : decode cX9_clauseSize 8 = .ok (.aload_n 0, 1) := by decide +kernel
theorem dX9_clauseSize_9 : decode cX9_clauseSize 9 = .ok (.getfield 7, 3) := by decide +kernel
theorem dX9_clauseSize_12 : decode cX9_clauseSize 12 = .ok (.iconst 1, 1) := by decide +kernel
theorem dX9_clauseSize_13 : decode cX9_clauseSize 13 = .ok (.iload_n 1, 1) := by decide +kernel
theorem dX9_clauseSize_14 : decode cX9_clauseSize 14 = .ok (.iadd, 1) := by decide +kernel
theorem dX9_clauseSize_15 : decode cX9_clauseSize 15 = .ok (.iaload, 1) := by decide +kernel
theorem dX9_clauseSize_16 : decode cX9_clauseSize 16 = .ok (.invokestatic 101, 3) := by decide +kernel
theorem dX9_clauseSize_19 : decode cX9_clauseSize 19 = .ok (.goto 9, 3) := by decide +kernel
theorem dX9_clauseSize_22 : decode cX9_clauseSize 22 = .ok (.aload_n 0, 1) := by decide +kernel
theorem dX9_clauseSize_23 : decode cX9_clauseSize 23 = .ok (.bipush (-2), 2) := by decide +kernel
theorem dX9_clauseSize_25 : decode cX9_clauseSize 25 = .ok (.invokevirtual 84, 3) := by decide +kernel
theorem dX9_clauseSize_28 : decode cX9_clauseSize 28 = .ok (.ireturn, 1) := by decide +kernel
theorem dX9_assumed_0 : decode cX9_assumed 0 = .ok (.aload_n 0, 1) := by decide +kernel
theorem dX9_assumed_1 : decode cX9_assumed 1 = .ok (.getfield 7, 3) := by decide +kernel
theorem dX9_assumed_4 : decode cX9_assumed 4 = .ok (.bipush 17, 2) := by decide +kernel
theorem dX9_assumed_6 : decode cX9_assumed 6 = .ok (.iaload, 1) := by decide +kernel
theorem dX9_assumed_7 : decode cX9_assumed 7 = .ok (.aload_n 0, 1) := by decide +kernel
theorem dX9_assumed_8 : decode cX9_assumed 8 = .ok (.getfield 7, 3) := by decide +kernel
theorem dX9_assumed_11 : decode cX9_assumed 11 = .ok (.bipush 18, 2) := by decide +kernel
theorem dX9_assumed_13 : decode cX9_assumed 13 = .ok (.iaload, 1) := by decide +kernel
theorem dX9_assumed_14 : decode cX9_assumed 14 = .ok (.ior, 1) := by decide +kernel
theorem dX9_assumed_15 : decode cX9_assumed 15 = .ok (.ireturn, 1) := by decide +kernel
theorem dX9_assume_0 : decode cX9_assume 0 = .ok (.iload_n 1, 1) := by decide +kernel
theorem dX9_assume_1 : decode cX9_assume 1 = .ok (.invokestatic 104, 3) := by decide +kernel
theorem dX9_assume_4 : decode cX9_assume 4 = .ok (.ifCond .ne 10, 3) := by decide +kernel
theorem dX9_assume_7 : decode cX9_assume 7 = .ok (.aload_n 0, 1) := by decide +kernel
theorem dX9_assume_8 : decode cX9_assume 8 = .ok (.bipush (-2), 2) := by decide +kernel
theorem dX9_assume_10 : decode cX9_assume 10 = .ok (.invokevirtual 84, 3) := by decide +kernel
theorem dX9_assume_13 : decode cX9_assume 13 = .ok (.ireturn, 1) := by decide +kernel
theorem dX9_assume_14 : decode cX9_assume 14 = .ok (.iload_n 1, 1) := by decide +kernel
theorem dX9_assume_15 : decode cX9_assume 15 = .ok (.invokestatic 88, 3) := by decide +kernel
theorem dX9_assume_18 : decode cX9_assume 18 = .ok (.invokestatic 91, 3) := by decide +kernel
theorem dX9_assume_21 : decode cX9_assume 21 = .ok (.istore_n 2, 1) := by decide +kernel
theorem dX9_assume_22 : decode cX9_assume 22 = .ok (.aload_n 0, 1) := by decide +kernel
theorem dX9_assume_23 : decode cX9_assume 23 = .ok (.invokevirtual 107, 3) := by decide +kernel
theorem dX9_assume_26 : decode cX9_assume 26 = .ok (.iload_n 2, 1) := by decide +kernel
theorem dX9_assume_27 : decode cX9_assume 27 = .ok (.iand, 1) := by decide +kernel
theorem dX9_assume_28 : decode cX9_assume 28 = .ok (.ifCond .eq 10, 3) := by decide +kernel
theorem dX9_assume_31 : decode cX9_assume 31 = .ok (.aload_n 0, 1) := by decide +kernel
theorem dX9_assume_32 : decode cX9_assume 32 = .ok (.bipush (-3), 2) := by decide +kernel
theorem dX9_assume_34 : decode cX9_assume 34 = .ok (.invokevirtual 84, 3) := by decide +kernel
theorem dX9_assume_37 : decode cX9_assume 37 = .ok (.ireturn, 1) := by decide +kernel
theorem dX9_assume_38 : decode cX9_assume 38 = .ok (.aload_n 0, 1) := by decide +kernel
theorem dX9_assume_39 : decode cX9_assume 39 = .ok (.invokevirtual 94, 3) := by decide +kernel
theorem dX9_assume_42 : decode cX9_assume 42 = .ok (.aload_n 0, 1) := by decide +kernel
theorem dX9_assume_43 : decode cX9_assume 43 = .ok (.getfield 7, 3) := by decide +kernel
theorem dX9_assume_46 : decode cX9_assume 46 = .ok (.iload_n 1, 1) := by decide +kernel
theorem dX9_assume_47 : decode cX9_assume 47 = .ok (.ifCond .le 8, 3) := by decide +kernel
theorem dX9_assume_50 : decode cX9_assume 50 = .ok (.bipush 17, 2) := by decide +kernel
theorem dX9_assume_52 : decode cX9_assume 52 = .ok (.goto 5, 3) := by decide +kernel
theorem dX9_assume_55 : decode cX9_assume 55 = .ok (.bipush 18, 2) := by decide +kernel
theorem dX9_assume_57 : decode cX9_assume 57 = .ok (.dup2, 1) := by decide +kernel
theorem dX9_assume_58 : decode cX9_assume 58 = .ok (.iaload, 1) := by decide +kernel
theorem dX9_assume_59 : decode cX9_assume 59 = .ok (.iload_n 2, 1) := by decide +kernel
theorem dX9_assume_60 : decode cX9_assume 60 = .ok (.ior, 1) := by decide +kernel
theorem dX9_assume_61 : decode cX9_assume 61 = .ok (.iastore, 1) := by decide +kernel
theorem dX9_assume_62 : decode cX9_assume 62 = .ok (.aload_n 0, 1) := by decide +kernel
theorem dX9_assume_63 : decode cX9_assume 63 = .ok (.invokevirtual 107, 3) := by decide +kernel
theorem dX9_assume_66 : decode cX9_assume 66 = .ok (.invokestatic 101, 3) := by decide +kernel
theorem dX9_assume_69 : decode cX9_assume 69 = .ok (.ireturn, 1) := by decide +kernel
theorem dX9_retractAll_0 : decode cX9_retractAll 0 = .ok (.aload_n 0, 1) := by decide +kernel
theorem dX9_retractAll_1 : decode cX9_retractAll 1 = .ok (.invokevirtual 94, 3) := by decide +kernel
theorem dX9_retractAll_4 : decode cX9_retractAll 4 = .ok (.aload_n 0, 1) := by decide +kernel
theorem dX9_retractAll_5 : decode cX9_retractAll 5 = .ok (.invokevirtual 107, 3) := by decide +kernel
theorem dX9_retractAll_8 : decode cX9_retractAll 8 = .ok (.invokestatic 101, 3) := by decide +kernel
theorem dX9_retractAll_11 : decode cX9_retractAll 11 = .ok (.istore_n 1, 1) := by decide +kernel
theorem dX9_retractAll_12 : decode cX9_retractAll 12 = .ok (.aload_n 0, 1) := by decide +kernel
theorem dX9_retractAll_13 : decode cX9_retractAll 13 = .ok (.getfield 7, 3) := by decide +kernel
theorem dX9_retractAll_16 : decode cX9_retractAll 16 = .ok (.bipush 17, 2) := by decide +kernel
theorem dX9_retractAll_18 : decode cX9_retractAll 18 = .ok (.iconst 0, 1) := by decide +kernel
theorem dX9_retractAll_19 : decode cX9_retractAll 19 = .ok (.iastore, 1) := by decide +kernel
theorem dX9_retractAll_20 : decode cX9_retractAll 20 = .ok (.aload_n 0, 1) := by decide +kernel
theorem dX9_retractAll_21 : decode cX9_retractAll 21 = .ok (.getfield 7, 3) := by decide +kernel
theorem dX9_retractAll_24 : decode cX9_retractAll 24 = .ok (.bipush 18, 2) := by decide +kernel
theorem dX9_retractAll_26 : decode cX9_retractAll 26 = .ok (.iconst 0, 1) := by decide +kernel
theorem dX9_retractAll_27 : decode cX9_retractAll 27 = .ok (.iastore, 1) := by decide +kernel
theorem dX9_retractAll_28 : decode cX9_retractAll 28 = .ok (.iload_n 1, 1) := by decide +kernel
theorem dX9_retractAll_29 : decode cX9_retractAll 29 = .ok (.ireturn, 1) := by decide +kernel
theorem dX9_weightAt_0 : decode cX9_weightAt 0 = .ok (.bipush 19, 2) := by decide +kernel
theorem dX9_weightAt_2 : decode cX9_weightAt 2 = .ok (.iload_n 0, 1) := by decide +kernel
theorem dX9_weightAt_3 : decode cX9_weightAt 3 = .ok (.ifCond .le 11, 3) := by decide +kernel
theorem dX9_weightAt_6 : decode cX9_weightAt 6 = .ok (.iconst 2, 1) := by decide +kernel
theorem dX9_weightAt_7 : decode cX9_weightAt 7 = .ok (.iload_n 0, 1) := by decide +kernel
theorem dX9_weightAt_8 : decode cX9_weightAt 8 = .ok (.imul, 1) := by decide +kernel
theorem dX9_weightAt_9 : decode cX9_weightAt 9 = .ok (.iconst 2, 1) := by decide +kernel
theorem dX9_weightAt_10 : decode cX9_weightAt 10 = .ok (.isub, 1) := by decide +kernel
theorem dX9_weightAt_11 : decode cX9_weightAt 11 = .ok (.goto 9, 3) := by decide +kernel
theorem dX9_weightAt_14 : decode cX9_weightAt 14 = .ok (.bipush (-2), 2) := by decide +kernel
theorem dX9_weightAt_16 : decode cX9_weightAt 16 = .ok (.iload_n 0, 1) := by decide +kernel
theorem dX9_weightAt_17 : decode cX9_weightAt 17 = .ok (.imul, 1) := by decide +kernel
theorem dX9_weightAt_18 : decode cX9_weightAt 18 = .ok (.iconst 1, 1) := by decide +kernel
theorem dX9_weightAt_19 : decode cX9_weightAt 19 = .ok (.isub, 1) := by decide +kernel
theorem dX9_weightAt_20 : decode cX9_weightAt 20 = .ok (.iadd, 1) := by decide +kernel
theorem dX9_weightAt_21 : decode cX9_weightAt 21 = .ok (.ireturn, 1) := by decide +kernel
theorem dX9_setWeight_0 : decode cX9_setWeight 0 = .ok (.iload_n 1, 1) := by decide +kernel
theorem dX9_setWeight_1 : decode cX9_setWeight 1 = .ok (.invokestatic 104, 3) := by decide +kernel
theorem dX9_setWeight_4 : decode cX9_setWeight 4 = .ok (.ifCond .eq 15, 3) := by decide +kernel
theorem dX9_setWeight_7 : decode cX9_setWeight 7 = .ok (.iload_n 2, 1) := by decide +kernel
theorem dX9_setWeight_8 : decode cX9_setWeight 8 = .ok (.i2l, 1) := by decide +kernel
theorem dX9_setWeight_9 : decode cX9_setWeight 9 = .ok (.lconst 0, 1) := by decide +kernel
theorem dX9_setWeight_10 : decode cX9_setWeight 10 = .ok (.ldc2_w 111, 3) := by decide +kernel
theorem dX9_setWeight_13 : decode cX9_setWeight 13 = .ok (.invokestatic 69, 3) := by decide +kernel
theorem dX9_setWeight_16 : decode cX9_setWeight 16 = .ok (.ifCond .ne 10, 3) := by decide +kernel
theorem dX9_setWeight_19 : decode cX9_setWeight 19 = .ok (.aload_n 0, 1) := by decide +kernel
theorem dX9_setWeight_20 : decode cX9_setWeight 20 = .ok (.bipush (-2), 2) := by decide +kernel
theorem dX9_setWeight_22 : decode cX9_setWeight 22 = .ok (.invokevirtual 84, 3) := by decide +kernel
theorem dX9_setWeight_25 : decode cX9_setWeight 25 = .ok (.ireturn, 1) := by decide +kernel
theorem dX9_setWeight_26 : decode cX9_setWeight 26 = .ok (.aload_n 0, 1) := by decide +kernel
theorem dX9_setWeight_27 : decode cX9_setWeight 27 = .ok (.invokevirtual 94, 3) := by decide +kernel
theorem dX9_setWeight_30 : decode cX9_setWeight 30 = .ok (.aload_n 0, 1) := by decide +kernel
theorem dX9_setWeight_31 : decode cX9_setWeight 31 = .ok (.getfield 7, 3) := by decide +kernel
theorem dX9_setWeight_34 : decode cX9_setWeight 34 = .ok (.iload_n 1, 1) := by decide +kernel
theorem dX9_setWeight_35 : decode cX9_setWeight 35 = .ok (.invokestatic 113, 3) := by decide +kernel
theorem dX9_setWeight_38 : decode cX9_setWeight 38 = .ok (.iaload, 1) := by decide +kernel
theorem dX9_setWeight_39 : decode cX9_setWeight 39 = .ok (.istore_n 3, 1) := by decide +kernel
theorem dX9_setWeight_40 : decode cX9_setWeight 40 = .ok (.aload_n 0, 1) := by decide +kernel
theorem dX9_setWeight_41 : decode cX9_setWeight 41 = .ok (.getfield 7, 3) := by decide +kernel
theorem dX9_setWeight_44 : decode cX9_setWeight 44 = .ok (.iload_n 1, 1) := by decide +kernel
theorem dX9_setWeight_45 : decode cX9_setWeight 45 = .ok (.invokestatic 113, 3) := by decide +kernel
theorem dX9_setWeight_48 : decode cX9_setWeight 48 = .ok (.iload_n 2, 1) := by decide +kernel
theorem dX9_setWeight_49 : decode cX9_setWeight 49 = .ok (.iastore, 1) := by decide +kernel
theorem dX9_setWeight_50 : decode cX9_setWeight 50 = .ok (.iload_n 3, 1) := by decide +kernel
theorem dX9_setWeight_51 : decode cX9_setWeight 51 = .ok (.ireturn, 1) := by decide +kernel
theorem dX9_puts_0 : decode cX9_puts 0 = .ok (.bipush 16, 2) := by decide +kernel
theorem dX9_puts_2 : decode cX9_puts 2 = .ok (.iload_n 1, 1) := by decide +kernel
theorem dX9_puts_3 : decode cX9_puts 3 = .ok (.imul, 1) := by decide +kernel
theorem dX9_puts_4 : decode cX9_puts 4 = .ok (.aload_n 0, 1) := by decide +kernel
theorem dX9_puts_5 : decode cX9_puts 5 = .ok (.getfield 47, 3) := by decide +kernel
theorem dX9_puts_8 : decode cX9_puts 8 = .ok (.iload_n 1, 1) := by decide +kernel
theorem dX9_puts_9 : decode cX9_puts 9 = .ok (.iaload, 1) := by decide +kernel
theorem dX9_puts_10 : decode cX9_puts 10 = .ok (.iadd, 1) := by decide +kernel
theorem dX9_puts_11 : decode cX9_puts 11 = .ok (.istore_n 3, 1) := by decide +kernel
theorem dX9_puts_12 : decode cX9_puts 12 = .ok (.bipush 16, 2) := by decide +kernel
theorem dX9_puts_14 : decode cX9_puts 14 = .ok (.iload_n 1, 1) := by decide +kernel
theorem dX9_puts_15 : decode cX9_puts 15 = .ok (.imul, 1) := by decide +kernel
theorem dX9_puts_16 : decode cX9_puts 16 = .ok (.istore 4, 2) := by decide +kernel
theorem dX9_puts_18 : decode cX9_puts 18 = .ok (.iload 4, 2) := by decide +kernel
theorem dX9_puts_20 : decode cX9_puts 20 = .ok (.istore 5, 2) := by decide +kernel
theorem dX9_puts_22 : decode cX9_puts 22 = .ok (.iload 5, 2) := by decide +kernel
theorem dX9_puts_24 : decode cX9_puts 24 = .ok (.iload_n 3, 1) := by decide +kernel
theorem dX9_puts_25 : decode cX9_puts 25 = .ok (.if_icmp .ge 21, 3) := by decide +kernel
theorem dX9_puts_28 : decode cX9_puts 28 = .ok (.aload_n 0, 1) := by decide +kernel
theorem dX9_puts_29 : decode cX9_puts 29 = .ok (.getfield 44, 3) := by decide +kernel
theorem dX9_puts_32 : decode cX9_puts 32 = .ok (.iload 5, 2) := by decide +kernel
theorem dX9_puts_34 : decode cX9_puts 34 = .ok (.iaload, 1) := by decide +kernel
theorem dX9_puts_35 : decode cX9_puts 35 = .ok (.iload_n 2, 1) := by decide +kernel
theorem dX9_puts_36 : decode cX9_puts 36 = .ok (.if_icmp .ne 4, 3) := by decide +kernel
theorem dX9_puts_39 : decode cX9_puts 39 = .ok (.return_, 1) := by decide +kernel
theorem dX9_puts_40 : decode cX9_puts 40 = .ok (.iinc 5 1, 3) := by decide +kernel
theorem dX9_puts_43 : decode cX9_puts 43 = .ok (.goto (-21), 3) := by decide +kernel
theorem dX9_puts_46 : decode cX9_puts 46 = .ok (.iload_n 3, 1) := by decide +kernel
theorem dX9_puts_47 : decode cX9_puts 47 = .ok (.iload 4, 2) := by decide +kernel
theorem dX9_puts_49 : decode cX9_puts 49 = .ok (.if_icmp .le 35, 3) := by decide +kernel
theorem dX9_puts_52 : decode cX9_puts 52 = .ok (.aload_n 0, 1) := by decide +kernel
theorem dX9_puts_53 : decode cX9_puts 53 = .ok (.getfield 44, 3) := by decide +kernel
theorem dX9_puts_56 : decode cX9_puts 56 = .ok (.iload_n 3, 1) := by decide +kernel
theorem dX9_puts_57 : decode cX9_puts 57 = .ok (.iconst 1, 1) := by decide +kernel
theorem dX9_puts_58 : decode cX9_puts 58 = .ok (.isub, 1) := by decide +kernel
theorem dX9_puts_59 : decode cX9_puts 59 = .ok (.iaload, 1) := by decide +kernel
theorem dX9_puts_60 : decode cX9_puts 60 = .ok (.iload_n 2, 1) := by decide +kernel
theorem dX9_puts_61 : decode cX9_puts 61 = .ok (.if_icmp .le 23, 3) := by decide +kernel
theorem dX9_puts_64 : decode cX9_puts 64 = .ok (.aload_n 0, 1) := by decide +kernel
theorem dX9_puts_65 : decode cX9_puts 65 = .ok (.getfield 44, 3) := by decide +kernel
theorem dX9_puts_68 : decode cX9_puts 68 = .ok (.iload_n 3, 1) := by decide +kernel
end
section
theorem dX9_puts_69 : decode cX9_puts 69 = .ok (.aload_n 0, 1) := by decide +kernel
theorem dX9_puts_70 : decode cX9_puts 70 = .ok (.getfield 44, 3) := by decide +kernel
theorem dX9_puts_73 : decode cX9_puts 73 = .ok (.iload_n 3, 1) := by decide +kernel
theorem dX9_puts_74 : decode cX9_puts 74 = .ok (.iconst 1, 1) := by decide +kernel
theorem dX9_puts_75 : decode cX9_puts 75 = .ok (.isub, 1) := by decide +kernel
theorem dX9_puts_76 : decode cX9_puts 76 = .ok (.iaload, 1) := by decide +kernel
theorem dX9_puts_77 : decode cX9_puts 77 = .ok (.iastore, 1) := by decide +kernel
theorem dX9_puts_78 : decode cX9_puts 78 = .ok (.iinc 3 (-1), 3) := by decide +kernel
theorem dX9_puts_81 : decode cX9_puts 81 = .ok (.goto (-35), 3) := by decide +kernel
theorem dX9_puts_84 : decode cX9_puts 84 = .ok (.aload_n 0, 1) := by decide +kernel
theorem dX9_puts_85 : decode cX9_puts 85 = .ok (.getfield 44, 3) := by decide +kernel
theorem dX9_puts_88 : decode cX9_puts 88 = .ok (.iload_n 3, 1) := by decide +kernel
theorem dX9_puts_89 : decode cX9_puts 89 = .ok (.iload_n 2, 1) := by decide +kernel
theorem dX9_puts_90 : decode cX9_puts 90 = .ok (.iastore, 1) := by decide +kernel
theorem dX9_puts_91 : decode cX9_puts 91 = .ok (.aload_n 0, 1) := by decide +kernel
theorem dX9_puts_92 : decode cX9_puts 92 = .ok (.getfield 47, 3) := by decide +kernel
theorem dX9_puts_95 : decode cX9_puts 95 = .ok (.iload_n 1, 1) := by decide +kernel
theorem dX9_puts_96 : decode cX9_puts 96 = .ok (.dup2, 1) := by decide +kernel
theorem dX9_puts_97 : decode cX9_puts 97 = .ok (.iaload, 1) := by decide +kernel
theorem dX9_puts_98 : decode cX9_puts 98 = .ok (.iconst 1, 1) := by decide +kernel
theorem dX9_puts_99 : decode cX9_puts 99 = .ok (.iadd, 1) := by decide +kernel
theorem dX9_puts_100 : decode cX9_puts 100 = .ok (.iastore, 1) := by decide +kernel
theorem dX9_puts_101 : decode cX9_puts 101 = .ok (.return_, 1) := by decide +kernel
theorem dX9_finds_0 : decode cX9_finds 0 = .ok (.aload_n 0, 1) := by decide +kernel
theorem dX9_finds_1 : decode cX9_finds 1 = .ok (.getfield 47, 3) := by decide +kernel
theorem dX9_finds_4 : decode cX9_finds 4 = .ok (.iload_n 1, 1) := by decide +kernel
theorem dX9_finds_5 : decode cX9_finds 5 = .ok (.iaload, 1) := by decide +kernel
theorem dX9_finds_6 : decode cX9_finds 6 = .ok (.i2l, 1) := by decide +kernel
theorem dX9_finds_7 : decode cX9_finds 7 = .ok (.lstore_n 2, 1) := by decide +kernel
theorem dX9_finds_8 : decode cX9_finds 8 = .ok (.iconst 0, 1) := by decide +kernel
theorem dX9_finds_9 : decode cX9_finds 9 = .ok (.istore 4, 2) := by decide +kernel
theorem dX9_finds_11 : decode cX9_finds 11 = .ok (.iload 4, 2) := by decide +kernel
theorem dX9_finds_13 : decode cX9_finds 13 = .ok (.aload_n 0, 1) := by decide +kernel
theorem dX9_finds_14 : decode cX9_finds 14 = .ok (.getfield 47, 3) := by decide +kernel
theorem dX9_finds_17 : decode cX9_finds 17 = .ok (.iload_n 1, 1) := by decide +kernel
theorem dX9_finds_18 : decode cX9_finds 18 = .ok (.iaload, 1) := by decide +kernel
theorem dX9_finds_19 : decode cX9_finds 19 = .ok (.if_icmp .ge 33, 3) := by decide +kernel
theorem dX9_finds_22 : decode cX9_finds 22 = .ok (.lload_n 2, 1) := by decide +kernel
theorem dX9_finds_23 : decode cX9_finds 23 = .ok (.ldc2_w 116, 3) := by decide +kernel
theorem dX9_finds_26 : decode cX9_finds 26 = .ok (.lmul, 1) := by decide +kernel
theorem dX9_finds_27 : decode cX9_finds 27 = .ok (.aload_n 0, 1) := by decide +kernel
theorem dX9_finds_28 : decode cX9_finds 28 = .ok (.getfield 44, 3) := by decide +kernel
theorem dX9_finds_31 : decode cX9_finds 31 = .ok (.bipush 16, 2) := by decide +kernel
theorem dX9_finds_33 : decode cX9_finds 33 = .ok (.iload_n 1, 1) := by decide +kernel
theorem dX9_finds_34 : decode cX9_finds 34 = .ok (.imul, 1) := by decide +kernel
theorem dX9_finds_35 : decode cX9_finds 35 = .ok (.iload 4, 2) := by decide +kernel
theorem dX9_finds_37 : decode cX9_finds 37 = .ok (.iadd, 1) := by decide +kernel
theorem dX9_finds_38 : decode cX9_finds 38 = .ok (.iaload, 1) := by decide +kernel
theorem dX9_finds_39 : decode cX9_finds 39 = .ok (.i2l, 1) := by decide +kernel
theorem dX9_finds_40 : decode cX9_finds 40 = .ok (.ladd, 1) := by decide +kernel
theorem dX9_finds_41 : decode cX9_finds 41 = .ok (.ldc2_w 118, 3) := by decide +kernel
theorem dX9_finds_44 : decode cX9_finds 44 = .ok (.lrem, 1) := by decide +kernel
theorem dX9_finds_45 : decode cX9_finds 45 = .ok (.lstore_n 2, 1) := by decide +kernel
theorem dX9_finds_46 : decode cX9_finds 46 = .ok (.iinc 4 1, 3) := by decide +kernel
theorem dX9_finds_49 : decode cX9_finds 49 = .ok (.goto (-38), 3) := by decide +kernel
theorem dX9_finds_52 : decode cX9_finds 52 = .ok (.lload_n 2, 1) := by decide +kernel
theorem dX9_finds_53 : decode cX9_finds 53 = .ok (.ldc2_w 120, 3) := by decide +kernel
theorem dX9_finds_56 : decode cX9_finds 56 = .ok (.lrem, 1) := by decide +kernel
theorem dX9_finds_57 : decode cX9_finds 57 = .ok (.l2i, 1) := by decide +kernel
theorem dX9_finds_58 : decode cX9_finds 58 = .ok (.istore 4, 2) := by decide +kernel
theorem dX9_finds_60 : decode cX9_finds 60 = .ok (.aload_n 0, 1) := by decide +kernel
theorem dX9_finds_61 : decode cX9_finds 61 = .ok (.getfield 41, 3) := by decide +kernel
theorem dX9_finds_64 : decode cX9_finds 64 = .ok (.iload 4, 2) := by decide +kernel
theorem dX9_finds_66 : decode cX9_finds 66 = .ok (.iaload, 1) := by decide +kernel
theorem dX9_finds_67 : decode cX9_finds 67 = .ok (.ifCond .eq 118, 3) := by decide +kernel
theorem dX9_finds_70 : decode cX9_finds 70 = .ok (.aload_n 0, 1) := by decide +kernel
theorem dX9_finds_71 : decode cX9_finds 71 = .ok (.getfield 41, 3) := by decide +kernel
theorem dX9_finds_74 : decode cX9_finds 74 = .ok (.iload 4, 2) := by decide +kernel
theorem dX9_finds_76 : decode cX9_finds 76 = .ok (.iaload, 1) := by decide +kernel
theorem dX9_finds_77 : decode cX9_finds 77 = .ok (.istore 5, 2) := by decide +kernel
theorem dX9_finds_79 : decode cX9_finds 79 = .ok (.aload_n 0, 1) := by decide +kernel
theorem dX9_finds_80 : decode cX9_finds 80 = .ok (.getfield 25, 3) := by decide +kernel
theorem dX9_finds_83 : decode cX9_finds 83 = .ok (.iload 5, 2) := by decide +kernel
theorem dX9_finds_85 : decode cX9_finds 85 = .ok (.iaload, 1) := by decide +kernel
theorem dX9_finds_86 : decode cX9_finds 86 = .ok (.aload_n 0, 1) := by decide +kernel
theorem dX9_finds_87 : decode cX9_finds 87 = .ok (.getfield 47, 3) := by decide +kernel
theorem dX9_finds_90 : decode cX9_finds 90 = .ok (.iload_n 1, 1) := by decide +kernel
theorem dX9_finds_91 : decode cX9_finds 91 = .ok (.iaload, 1) := by decide +kernel
theorem dX9_finds_92 : decode cX9_finds 92 = .ok (.if_icmp .ne 7, 3) := by decide +kernel
theorem dX9_finds_95 : decode cX9_finds 95 = .ok (.iconst 1, 1) := by decide +kernel
theorem dX9_finds_96 : decode cX9_finds 96 = .ok (.goto 4, 3) := by decide +kernel
theorem dX9_finds_99 : decode cX9_finds 99 = .ok (.iconst 0, 1) := by decide +kernel
theorem dX9_finds_100 : decode cX9_finds 100 = .ok (.istore 6, 2) := by decide +kernel
theorem dX9_finds_102 : decode cX9_finds 102 = .ok (.iconst 0, 1) := by decide +kernel
theorem dX9_finds_103 : decode cX9_finds 103 = .ok (.istore 7, 2) := by decide +kernel
theorem dX9_finds_105 : decode cX9_finds 105 = .ok (.iload 7, 2) := by decide +kernel
theorem dX9_finds_107 : decode cX9_finds 107 = .ok (.aload_n 0, 1) := by decide +kernel
theorem dX9_finds_108 : decode cX9_finds 108 = .ok (.getfield 47, 3) := by decide +kernel
theorem dX9_finds_111 : decode cX9_finds 111 = .ok (.iload_n 1, 1) := by decide +kernel
theorem dX9_finds_112 : decode cX9_finds 112 = .ok (.iaload, 1) := by decide +kernel
theorem dX9_finds_113 : decode cX9_finds 113 = .ok (.if_icmp .ge 51, 3) := by decide +kernel
theorem dX9_finds_116 : decode cX9_finds 116 = .ok (.iload 6, 2) := by decide +kernel
theorem dX9_finds_118 : decode cX9_finds 118 = .ok (.ifCond .eq 46, 3) := by decide +kernel
theorem dX9_finds_121 : decode cX9_finds 121 = .ok (.aload_n 0, 1) := by decide +kernel
theorem dX9_finds_122 : decode cX9_finds 122 = .ok (.getfield 38, 3) := by decide +kernel
theorem dX9_finds_125 : decode cX9_finds 125 = .ok (.aload_n 0, 1) := by decide +kernel
theorem dX9_finds_126 : decode cX9_finds 126 = .ok (.getfield 22, 3) := by decide +kernel
theorem dX9_finds_129 : decode cX9_finds 129 = .ok (.iload 5, 2) := by decide +kernel
theorem dX9_finds_131 : decode cX9_finds 131 = .ok (.iaload, 1) := by decide +kernel
theorem dX9_finds_132 : decode cX9_finds 132 = .ok (.iload 7, 2) := by decide +kernel
theorem dX9_finds_134 : decode cX9_finds 134 = .ok (.iadd, 1) := by decide +kernel
theorem dX9_finds_135 : decode cX9_finds 135 = .ok (.iaload, 1) := by decide +kernel
theorem dX9_finds_136 : decode cX9_finds 136 = .ok (.aload_n 0, 1) := by decide +kernel
theorem dX9_finds_137 : decode cX9_finds 137 = .ok (.getfield 44, 3) := by decide +kernel
theorem dX9_finds_140 : decode cX9_finds 140 = .ok (.bipush 16, 2) := by decide +kernel
theorem dX9_finds_142 : decode cX9_finds 142 = .ok (.iload_n 1, 1) := by decide +kernel
theorem dX9_finds_143 : decode cX9_finds 143 = .ok (.imul, 1) := by decide +kernel
theorem dX9_finds_144 : decode cX9_finds 144 = .ok (.iload 7, 2) := by decide +kernel
theorem dX9_finds_146 : decode cX9_finds 146 = .ok (.iadd, 1) := by decide +kernel
theorem dX9_finds_147 : decode cX9_finds 147 = .ok (.iaload, 1) := by decide +kernel
theorem dX9_finds_148 : decode cX9_finds 148 = .ok (.if_icmp .ne 7, 3) := by decide +kernel
theorem dX9_finds_151 : decode cX9_finds 151 = .ok (.iconst 1, 1) := by decide +kernel
theorem dX9_finds_152 : decode cX9_finds 152 = .ok (.goto 4, 3) := by decide +kernel
theorem dX9_finds_155 : decode cX9_finds 155 = .ok (.iconst 0, 1) := by decide +kernel
theorem dX9_finds_156 : decode cX9_finds 156 = .ok (.istore 6, 2) := by decide +kernel
theorem dX9_finds_158 : decode cX9_finds 158 = .ok (.iinc 7 1, 3) := by decide +kernel
theorem dX9_finds_161 : decode cX9_finds 161 = .ok (.goto (-56), 3) := by decide +kernel
theorem dX9_finds_164 : decode cX9_finds 164 = .ok (.iload 6, 2) := by decide +kernel
theorem dX9_finds_166 : decode cX9_finds 166 = .ok (.ifCond .eq 6, 3) := by decide +kernel
theorem dX9_finds_169 : decode cX9_finds 169 = .ok (.iload 5, 2) := by decide +kernel
theorem dX9_finds_171 : decode cX9_finds 171 = .ok (.ireturn, 1) := by decide +kernel
theorem dX9_finds_172 : decode cX9_finds 172 = .ok (.iload 4, 2) := by decide +kernel
theorem dX9_finds_174 : decode cX9_finds 174 = .ok (.iconst 1, 1) := by decide +kernel
theorem dX9_finds_175 : decode cX9_finds 175 = .ok (.iadd, 1) := by decide +kernel
theorem dX9_finds_176 : decode cX9_finds 176 = .ok (.sipush 16384, 3) := by decide +kernel
theorem dX9_finds_179 : decode cX9_finds 179 = .ok (.irem, 1) := by decide +kernel
theorem dX9_finds_180 : decode cX9_finds 180 = .ok (.istore 4, 2) := by decide +kernel
theorem dX9_finds_182 : decode cX9_finds 182 = .ok (.goto (-122), 3) := by decide +kernel
theorem dX9_finds_185 : decode cX9_finds 185 = .ok (.iconst (-1), 1) := by decide +kernel
theorem dX9_finds_186 : decode cX9_finds 186 = .ok (.iload 4, 2) := by decide +kernel
theorem dX9_finds_188 : decode cX9_finds 188 = .ok (.isub, 1) := by decide +kernel
theorem dX9_finds_189 : decode cX9_finds 189 = .ok (.ireturn, 1) := by decide +kernel
theorem dX9_connected_0 : decode cX9_connected 0 = .ok (.aload_n 0, 1) := by decide +kernel
theorem dX9_connected_1 : decode cX9_connected 1 = .ok (.getfield 47, 3) := by decide +kernel
theorem dX9_connected_4 : decode cX9_connected 4 = .ok (.iload_n 1, 1) := by decide +kernel
theorem dX9_connected_5 : decode cX9_connected 5 = .ok (.iaload, 1) := by decide +kernel
theorem dX9_connected_6 : decode cX9_connected 6 = .ok (.istore_n 3, 1) := by decide +kernel
theorem dX9_connected_7 : decode cX9_connected 7 = .ok (.iconst 0, 1) := by decide +kernel
theorem dX9_connected_8 : decode cX9_connected 8 = .ok (.istore 4, 2) := by decide +kernel
theorem dX9_connected_10 : decode cX9_connected 10 = .ok (.iconst 0, 1) := by decide +kernel
theorem dX9_connected_11 : decode cX9_connected 11 = .ok (.istore 5, 2) := by decide +kernel
theorem dX9_connected_13 : decode cX9_connected 13 = .ok (.iconst 0, 1) := by decide +kernel
theorem dX9_connected_14 : decode cX9_connected 14 = .ok (.istore 6, 2) := by decide +kernel
theorem dX9_connected_16 : decode cX9_connected 16 = .ok (.iload 6, 2) := by decide +kernel
theorem dX9_connected_18 : decode cX9_connected 18 = .ok (.iload_n 3, 1) := by decide +kernel
theorem dX9_connected_19 : decode cX9_connected 19 = .ok (.if_icmp .ge 46, 3) := by decide +kernel
theorem dX9_connected_22 : decode cX9_connected 22 = .ok (.iload 4, 2) := by decide +kernel
theorem dX9_connected_24 : decode cX9_connected 24 = .ok (.ifCond .ne 41, 3) := by decide +kernel
theorem dX9_connected_27 : decode cX9_connected 27 = .ok (.iload_n 2, 1) := by decide +kernel
theorem dX9_connected_28 : decode cX9_connected 28 = .ok (.iload 6, 2) := by decide +kernel
theorem dX9_connected_30 : decode cX9_connected 30 = .ok (.ishr, 1) := by decide +kernel
theorem dX9_connected_31 : decode cX9_connected 31 = .ok (.iconst 1, 1) := by decide +kernel
theorem dX9_connected_32 : decode cX9_connected 32 = .ok (.iand, 1) := by decide +kernel
theorem dX9_connected_33 : decode cX9_connected 33 = .ok (.ifCond .ne 26, 3) := by decide +kernel
theorem dX9_connected_36 : decode cX9_connected 36 = .ok (.iconst 1, 1) := by decide +kernel
theorem dX9_connected_37 : decode cX9_connected 37 = .ok (.iload 6, 2) := by decide +kernel
theorem dX9_connected_39 : decode cX9_connected 39 = .ok (.ishl, 1) := by decide +kernel
theorem dX9_connected_40 : decode cX9_connected 40 = .ok (.istore 4, 2) := by decide +kernel
theorem dX9_connected_42 : decode cX9_connected 42 = .ok (.aload_n 0, 1) := by decide +kernel
theorem dX9_connected_43 : decode cX9_connected 43 = .ok (.getfield 44, 3) := by decide +kernel
theorem dX9_connected_46 : decode cX9_connected 46 = .ok (.bipush 16, 2) := by decide +kernel
theorem dX9_connected_48 : decode cX9_connected 48 = .ok (.iload_n 1, 1) := by decide +kernel
theorem dX9_connected_49 : decode cX9_connected 49 = .ok (.imul, 1) := by decide +kernel
theorem dX9_connected_50 : decode cX9_connected 50 = .ok (.iload 6, 2) := by decide +kernel
theorem dX9_connected_52 : decode cX9_connected 52 = .ok (.iadd, 1) := by decide +kernel
theorem dX9_connected_53 : decode cX9_connected 53 = .ok (.iaload, 1) := by decide +kernel
theorem dX9_connected_54 : decode cX9_connected 54 = .ok (.invokestatic 91, 3) := by decide +kernel
theorem dX9_connected_57 : decode cX9_connected 57 = .ok (.istore 5, 2) := by decide +kernel
theorem dX9_connected_59 : decode cX9_connected 59 = .ok (.iinc 6 1, 3) := by decide +kernel
theorem dX9_connected_62 : decode cX9_connected 62 = .ok (.goto (-46), 3) := by decide +kernel
theorem dX9_connected_65 : decode cX9_connected 65 = .ok (.iconst 1, 1) := by decide +kernel
theorem dX9_connected_66 : decode cX9_connected 66 = .ok (.istore 6, 2) := by decide +kernel
theorem dX9_connected_68 : decode cX9_connected 68 = .ok (.iload 6, 2) := by decide +kernel
theorem dX9_connected_70 : decode cX9_connected 70 = .ok (.ifCond .eq 78, 3) := by decide +kernel
theorem dX9_connected_73 : decode cX9_connected 73 = .ok (.iconst 0, 1) := by decide +kernel
theorem dX9_connected_74 : decode cX9_connected 74 = .ok (.istore 6, 2) := by decide +kernel
theorem dX9_connected_76 : decode cX9_connected 76 = .ok (.iconst 0, 1) := by decide +kernel
theorem dX9_connected_77 : decode cX9_connected 77 = .ok (.istore 7, 2) := by decide +kernel
theorem dX9_connected_79 : decode cX9_connected 79 = .ok (.iload 7, 2) := by decide +kernel
theorem dX9_connected_81 : decode cX9_connected 81 = .ok (.iload_n 3, 1) := by decide +kernel
theorem dX9_connected_82 : decode cX9_connected 82 = .ok (.if_icmp .ge 63, 3) := by decide +kernel
theorem dX9_connected_85 : decode cX9_connected 85 = .ok (.aload_n 0, 1) := by decide +kernel
theorem dX9_connected_86 : decode cX9_connected 86 = .ok (.getfield 44, 3) := by decide +kernel
theorem dX9_connected_89 : decode cX9_connected 89 = .ok (.bipush 16, 2) := by decide +kernel
theorem dX9_connected_91 : decode cX9_connected 91 = .ok (.iload_n 1, 1) := by decide +kernel
theorem dX9_connected_92 : decode cX9_connected 92 = .ok (.imul, 1) := by decide +kernel
theorem dX9_connected_93 : decode cX9_connected 93 = .ok (.iload 7, 2) := by decide +kernel
theorem dX9_connected_95 : decode cX9_connected 95 = .ok (.iadd, 1) := by decide +kernel
theorem dX9_connected_96 : decode cX9_connected 96 = .ok (.iaload, 1) := by decide +kernel
theorem dX9_connected_97 : decode cX9_connected 97 = .ok (.invokestatic 91, 3) := by decide +kernel
theorem dX9_connected_100 : decode cX9_connected 100 = .ok (.istore 8, 2) := by decide +kernel
theorem dX9_connected_102 : decode cX9_connected 102 = .ok (.iload 4, 2) := by decide +kernel
theorem dX9_connected_104 : decode cX9_connected 104 = .ok (.iload 7, 2) := by decide +kernel
theorem dX9_connected_106 : decode cX9_connected 106 = .ok (.ishr, 1) := by decide +kernel
theorem dX9_connected_107 : decode cX9_connected 107 = .ok (.iconst 1, 1) := by decide +kernel
theorem dX9_connected_108 : decode cX9_connected 108 = .ok (.iand, 1) := by decide +kernel
theorem dX9_connected_109 : decode cX9_connected 109 = .ok (.ifCond .ne 30, 3) := by decide +kernel
theorem dX9_connected_112 : decode cX9_connected 112 = .ok (.iload 8, 2) := by decide +kernel
theorem dX9_connected_114 : decode cX9_connected 114 = .ok (.iload 5, 2) := by decide +kernel
theorem dX9_connected_116 : decode cX9_connected 116 = .ok (.iand, 1) := by decide +kernel
theorem dX9_connected_117 : decode cX9_connected 117 = .ok (.ifCond .eq 22, 3) := by decide +kernel
theorem dX9_connected_120 : decode cX9_connected 120 = .ok (.iload 4, 2) := by decide +kernel
theorem dX9_connected_122 : decode cX9_connected 122 = .ok (.iconst 1, 1) := by decide +kernel
theorem dX9_connected_123 : decode cX9_connected 123 = .ok (.iload 7, 2) := by decide +kernel
theorem dX9_connected_125 : decode cX9_connected 125 = .ok (.ishl, 1) := by decide +kernel
theorem dX9_connected_126 : decode cX9_connected 126 = .ok (.ior, 1) := by decide +kernel
theorem dX9_connected_127 : decode cX9_connected 127 = .ok (.istore 4, 2) := by decide +kernel
theorem dX9_connected_129 : decode cX9_connected 129 = .ok (.iload 5, 2) := by decide +kernel
theorem dX9_connected_131 : decode cX9_connected 131 = .ok (.iload 8, 2) := by decide +kernel
theorem dX9_connected_133 : decode cX9_connected 133 = .ok (.ior, 1) := by decide +kernel
theorem dX9_connected_134 : decode cX9_connected 134 = .ok (.istore 5, 2) := by decide +kernel
theorem dX9_connected_136 : decode cX9_connected 136 = .ok (.iconst 1, 1) := by decide +kernel
theorem dX9_connected_137 : decode cX9_connected 137 = .ok (.istore 6, 2) := by decide +kernel
theorem dX9_connected_139 : decode cX9_connected 139 = .ok (.iinc 7 1, 3) := by decide +kernel
theorem dX9_connected_142 : decode cX9_connected 142 = .ok (.goto (-63), 3) := by decide +kernel
theorem dX9_connected_145 : decode cX9_connected 145 = .ok (.goto (-77), 3) := by decide +kernel
theorem dX9_connected_148 : decode cX9_connected 148 = .ok (.iload 4, 2) := by decide +kernel
theorem dX9_connected_150 : decode cX9_connected 150 = .ok (.ireturn, 1) := by decide +kernel
theorem dX9_deciding_0 : decode cX9_deciding 0 = .ok (.iconst 0, 1) := by decide +kernel
theorem dX9_deciding_1 : decode cX9_deciding 1 = .ok (.istore_n 2, 1) := by decide +kernel
theorem dX9_deciding_2 : decode cX9_deciding 2 = .ok (.iconst 0, 1) := by decide +kernel
theorem dX9_deciding_3 : decode cX9_deciding 3 = .ok (.istore_n 3, 1) := by decide +kernel
theorem dX9_deciding_4 : decode cX9_deciding 4 = .ok (.iconst 1, 1) := by decide +kernel
theorem dX9_deciding_5 : decode cX9_deciding 5 = .ok (.istore 4, 2) := by decide +kernel
theorem dX9_deciding_7 : decode cX9_deciding 7 = .ok (.iload 4, 2) := by decide +kernel
theorem dX9_deciding_9 : decode cX9_deciding 9 = .ok (.bipush 10, 2) := by decide +kernel
theorem dX9_deciding_11 : decode cX9_deciding 11 = .ok (.if_icmp .gt 85, 3) := by decide +kernel
theorem dX9_deciding_14 : decode cX9_deciding 14 = .ok (.iconst 0, 1) := by decide +kernel
theorem dX9_deciding_15 : decode cX9_deciding 15 = .ok (.istore 5, 2) := by decide +kernel
theorem dX9_deciding_17 : decode cX9_deciding 17 = .ok (.iconst 0, 1) := by decide +kernel
theorem dX9_deciding_18 : decode cX9_deciding 18 = .ok (.istore 6, 2) := by decide +kernel
theorem dX9_deciding_20 : decode cX9_deciding 20 = .ok (.iload 6, 2) := by decide +kernel
theorem dX9_deciding_22 : decode cX9_deciding 22 = .ok (.aload_n 0, 1) := by decide +kernel
theorem dX9_deciding_23 : decode cX9_deciding 23 = .ok (.getfield 47, 3) := by decide +kernel
theorem dX9_deciding_26 : decode cX9_deciding 26 = .ok (.iload_n 1, 1) := by decide +kernel
theorem dX9_deciding_27 : decode cX9_deciding 27 = .ok (.iaload, 1) := by decide +kernel
theorem dX9_deciding_28 : decode cX9_deciding 28 = .ok (.if_icmp .ge 36, 3) := by decide +kernel
theorem dX9_deciding_31 : decode cX9_deciding 31 = .ok (.iload 5, 2) := by decide +kernel
theorem dX9_deciding_33 : decode cX9_deciding 33 = .ok (.aload_n 0, 1) := by decide +kernel
theorem dX9_deciding_34 : decode cX9_deciding 34 = .ok (.getfield 44, 3) := by decide +kernel
theorem dX9_deciding_37 : decode cX9_deciding 37 = .ok (.bipush 16, 2) := by decide +kernel
theorem dX9_deciding_39 : decode cX9_deciding 39 = .ok (.iload_n 1, 1) := by decide +kernel
theorem dX9_deciding_40 : decode cX9_deciding 40 = .ok (.imul, 1) := by decide +kernel
theorem dX9_deciding_41 : decode cX9_deciding 41 = .ok (.iload 6, 2) := by decide +kernel
theorem dX9_deciding_43 : decode cX9_deciding 43 = .ok (.iadd, 1) := by decide +kernel
theorem dX9_deciding_44 : decode cX9_deciding 44 = .ok (.iaload, 1) := by decide +kernel
theorem dX9_deciding_45 : decode cX9_deciding 45 = .ok (.invokestatic 91, 3) := by decide +kernel
theorem dX9_deciding_48 : decode cX9_deciding 48 = .ok (.iload 4, 2) := by decide +kernel
theorem dX9_deciding_50 : decode cX9_deciding 50 = .ok (.iconst 1, 1) := by decide +kernel
theorem dX9_deciding_51 : decode cX9_deciding 51 = .ok (.isub, 1) := by decide +kernel
theorem dX9_deciding_52 : decode cX9_deciding 52 = .ok (.ishr, 1) := by decide +kernel
theorem dX9_deciding_53 : decode cX9_deciding 53 = .ok (.iconst 1, 1) := by decide +kernel
theorem dX9_deciding_54 : decode cX9_deciding 54 = .ok (.iand, 1) := by decide +kernel
theorem dX9_deciding_55 : decode cX9_deciding 55 = .ok (.iadd, 1) := by decide +kernel
theorem dX9_deciding_56 : decode cX9_deciding 56 = .ok (.istore 5, 2) := by decide +kernel
theorem dX9_deciding_58 : decode cX9_deciding 58 = .ok (.iinc 6 1, 3) := by decide +kernel
theorem dX9_deciding_61 : decode cX9_deciding 61 = .ok (.goto (-41), 3) := by decide +kernel
theorem dX9_deciding_64 : decode cX9_deciding 64 = .ok (.iload 5, 2) := by decide +kernel
theorem dX9_deciding_66 : decode cX9_deciding 66 = .ok (.iload_n 3, 1) := by decide +kernel
theorem dX9_deciding_67 : decode cX9_deciding 67 = .ok (.if_icmp .le 8, 3) := by decide +kernel
theorem dX9_deciding_70 : decode cX9_deciding 70 = .ok (.iload 4, 2) := by decide +kernel
theorem dX9_deciding_72 : decode cX9_deciding 72 = .ok (.goto 4, 3) := by decide +kernel
theorem dX9_deciding_75 : decode cX9_deciding 75 = .ok (.iload_n 2, 1) := by decide +kernel
theorem dX9_deciding_76 : decode cX9_deciding 76 = .ok (.istore_n 2, 1) := by decide +kernel
theorem dX9_deciding_77 : decode cX9_deciding 77 = .ok (.iload 5, 2) := by decide +kernel
theorem dX9_deciding_79 : decode cX9_deciding 79 = .ok (.iload_n 3, 1) := by decide +kernel
theorem dX9_deciding_80 : decode cX9_deciding 80 = .ok (.if_icmp .le 8, 3) := by decide +kernel
theorem dX9_deciding_83 : decode cX9_deciding 83 = .ok (.iload 5, 2) := by decide +kernel
theorem dX9_deciding_85 : decode cX9_deciding 85 = .ok (.goto 4, 3) := by decide +kernel
theorem dX9_deciding_88 : decode cX9_deciding 88 = .ok (.iload_n 3, 1) := by decide +kernel
theorem dX9_deciding_89 : decode cX9_deciding 89 = .ok (.istore_n 3, 1) := by decide +kernel
theorem dX9_deciding_90 : decode cX9_deciding 90 = .ok (.iinc 4 1, 3) := by decide +kernel
theorem dX9_deciding_93 : decode cX9_deciding 93 = .ok (.goto (-86), 3) := by decide +kernel
theorem dX9_deciding_96 : decode cX9_deciding 96 = .ok (.iload_n 2, 1) := by decide +kernel
theorem dX9_deciding_97 : decode cX9_deciding 97 = .ok (.ireturn, 1) := by decide +kernel
theorem dX9_sets_0 : decode cX9_sets 0 = .ok (.aload_n 0, 1) := by decide +kernel
theorem dX9_sets_1 : decode cX9_sets 1 = .ok (.getfield 47, 3) := by decide +kernel
theorem dX9_sets_4 : decode cX9_sets 4 = .ok (.iload_n 1, 1) := by decide +kernel
theorem dX9_sets_5 : decode cX9_sets 5 = .ok (.iconst 1, 1) := by decide +kernel
theorem dX9_sets_6 : decode cX9_sets 6 = .ok (.iadd, 1) := by decide +kernel
theorem dX9_sets_7 : decode cX9_sets 7 = .ok (.iconst 0, 1) := by decide +kernel
theorem dX9_sets_8 : decode cX9_sets 8 = .ok (.iastore, 1) := by decide +kernel
theorem dX9_sets_9 : decode cX9_sets 9 = .ok (.iconst 0, 1) := by decide +kernel
theorem dX9_sets_10 : decode cX9_sets 10 = .ok (.istore_n 3, 1) := by decide +kernel
theorem dX9_sets_11 : decode cX9_sets 11 = .ok (.iload_n 3, 1) := by decide +kernel
theorem dX9_sets_12 : decode cX9_sets 12 = .ok (.aload_n 0, 1) := by decide +kernel
theorem dX9_sets_13 : decode cX9_sets 13 = .ok (.getfield 47, 3) := by decide +kernel
theorem dX9_sets_16 : decode cX9_sets 16 = .ok (.iload_n 1, 1) := by decide +kernel
theorem dX9_sets_17 : decode cX9_sets 17 = .ok (.iaload, 1) := by decide +kernel
theorem dX9_sets_18 : decode cX9_sets 18 = .ok (.if_icmp .ge 49, 3) := by decide +kernel
theorem dX9_sets_21 : decode cX9_sets 21 = .ok (.aload_n 0, 1) := by decide +kernel
theorem dX9_sets_22 : decode cX9_sets 22 = .ok (.getfield 44, 3) := by decide +kernel
theorem dX9_sets_25 : decode cX9_sets 25 = .ok (.bipush 16, 2) := by decide +kernel
theorem dX9_sets_27 : decode cX9_sets 27 = .ok (.iload_n 1, 1) := by decide +kernel
theorem dX9_sets_28 : decode cX9_sets 28 = .ok (.imul, 1) := by decide +kernel
theorem dX9_sets_29 : decode cX9_sets 29 = .ok (.iload_n 3, 1) := by decide +kernel
theorem dX9_sets_30 : decode cX9_sets 30 = .ok (.iadd, 1) := by decide +kernel
theorem dX9_sets_31 : decode cX9_sets 31 = .ok (.iaload, 1) := by decide +kernel
theorem dX9_sets_32 : decode cX9_sets 32 = .ok (.istore 4, 2) := by decide +kernel
theorem dX9_sets_34 : decode cX9_sets 34 = .ok (.iload 4, 2) := by decide +kernel
theorem dX9_sets_36 : decode cX9_sets 36 = .ok (.iload_n 2, 1) := by decide +kernel
theorem dX9_sets_37 : decode cX9_sets 37 = .ok (.invokestatic 88, 3) := by decide +kernel
theorem dX9_sets_40 : decode cX9_sets 40 = .ok (.iand, 1) := by decide +kernel
theorem dX9_sets_41 : decode cX9_sets 41 = .ok (.ifCond .ne 20, 3) := by decide +kernel
theorem dX9_sets_44 : decode cX9_sets 44 = .ok (.aload_n 0, 1) := by decide +kernel
theorem dX9_sets_45 : decode cX9_sets 45 = .ok (.iload_n 1, 1) := by decide +kernel
theorem dX9_sets_46 : decode cX9_sets 46 = .ok (.iconst 1, 1) := by decide +kernel
theorem dX9_sets_47 : decode cX9_sets 47 = .ok (.iadd, 1) := by decide +kernel
theorem dX9_sets_48 : decode cX9_sets 48 = .ok (.iload 4, 2) := by decide +kernel
theorem dX9_sets_50 : decode cX9_sets 50 = .ok (.iload_n 2, 1) := by decide +kernel
theorem dX9_sets_51 : decode cX9_sets 51 = .ok (.ineg, 1) := by decide +kernel
theorem dX9_sets_52 : decode cX9_sets 52 = .ok (.invokestatic 88, 3) := by decide +kernel
theorem dX9_sets_55 : decode cX9_sets 55 = .ok (.iconst (-1), 1) := by decide +kernel
theorem dX9_sets_56 : decode cX9_sets 56 = .ok (.ixor, 1) := by decide +kernel
theorem dX9_sets_57 : decode cX9_sets 57 = .ok (.iand, 1) := by decide +kernel
theorem dX9_sets_58 : decode cX9_sets 58 = .ok (.invokevirtual 122, 3) := by decide +kernel
theorem dX9_sets_61 : decode cX9_sets 61 = .ok (.iinc 3 1, 3) := by decide +kernel
theorem dX9_sets_64 : decode cX9_sets 64 = .ok (.goto (-53), 3) := by decide +kernel
theorem dX9_sets_67 : decode cX9_sets 67 = .ok (.return_, 1) := by decide +kernel
theorem dX9_enters_0 : decode cX9_enters 0 = .ok (.aload_n 0, 1) := by decide +kernel
theorem dX9_enters_1 : decode cX9_enters 1 = .ok (.getfield 47, 3) := by decide +kernel
theorem dX9_enters_4 : decode cX9_enters 4 = .ok (.iload_n 1, 1) := by decide +kernel
theorem dX9_enters_5 : decode cX9_enters 5 = .ok (.iaload, 1) := by decide +kernel
theorem dX9_enters_6 : decode cX9_enters 6 = .ok (.ifCond .ne 10, 3) := by decide +kernel
theorem dX9_enters_9 : decode cX9_enters 9 = .ok (.aload_n 0, 1) := by decide +kernel
theorem dX9_enters_10 : decode cX9_enters 10 = .ok (.iconst 1, 1) := by decide +kernel
theorem dX9_enters_11 : decode cX9_enters 11 = .ok (.putfield 126, 3) := by decide +kernel
theorem dX9_enters_14 : decode cX9_enters 14 = .ok (.iconst 1, 1) := by decide +kernel
theorem dX9_enters_15 : decode cX9_enters 15 = .ok (.ireturn, 1) := by decide +kernel
theorem dX9_enters_16 : decode cX9_enters 16 = .ok (.aload_n 0, 1) := by decide +kernel
theorem dX9_enters_17 : decode cX9_enters 17 = .ok (.getfield 44, 3) := by decide +kernel
theorem dX9_enters_20 : decode cX9_enters 20 = .ok (.bipush 16, 2) := by decide +kernel
theorem dX9_enters_22 : decode cX9_enters 22 = .ok (.iload_n 1, 1) := by decide +kernel
theorem dX9_enters_23 : decode cX9_enters 23 = .ok (.imul, 1) := by decide +kernel
theorem dX9_enters_24 : decode cX9_enters 24 = .ok (.iaload, 1) := by decide +kernel
theorem dX9_enters_25 : decode cX9_enters 25 = .ok (.ifCond .ne 10, 3) := by decide +kernel
theorem dX9_enters_28 : decode cX9_enters 28 = .ok (.aload_n 0, 1) := by decide +kernel
theorem dX9_enters_29 : decode cX9_enters 29 = .ok (.iconst 1, 1) := by decide +kernel
theorem dX9_enters_30 : decode cX9_enters 30 = .ok (.putfield 129, 3) := by decide +kernel
theorem dX9_enters_33 : decode cX9_enters 33 = .ok (.iconst 0, 1) := by decide +kernel
theorem dX9_enters_34 : decode cX9_enters 34 = .ok (.ireturn, 1) := by decide +kernel
theorem dX9_enters_35 : decode cX9_enters 35 = .ok (.aload_n 0, 1) := by decide +kernel
theorem dX9_enters_36 : decode cX9_enters 36 = .ok (.iload_n 1, 1) := by decide +kernel
theorem dX9_enters_37 : decode cX9_enters 37 = .ok (.invokevirtual 132, 3) := by decide +kernel
theorem dX9_enters_40 : decode cX9_enters 40 = .ok (.istore_n 2, 1) := by decide +kernel
theorem dX9_enters_41 : decode cX9_enters 41 = .ok (.iload_n 2, 1) := by decide +kernel
theorem dX9_enters_42 : decode cX9_enters 42 = .ok (.ifCond .lt 5, 3) := by decide +kernel
theorem dX9_enters_45 : decode cX9_enters 45 = .ok (.iload_n 2, 1) := by decide +kernel
theorem dX9_enters_46 : decode cX9_enters 46 = .ok (.ireturn, 1) := by decide +kernel
theorem dX9_enters_47 : decode cX9_enters 47 = .ok (.aload_n 0, 1) := by decide +kernel
theorem dX9_enters_48 : decode cX9_enters 48 = .ok (.getfield 135, 3) := by decide +kernel
theorem dX9_enters_51 : decode cX9_enters 51 = .ok (.istore_n 3, 1) := by decide +kernel
theorem dX9_enters_52 : decode cX9_enters 52 = .ok (.aload_n 0, 1) := by decide +kernel
theorem dX9_enters_53 : decode cX9_enters 53 = .ok (.dup, 1) := by decide +kernel
theorem dX9_enters_54 : decode cX9_enters 54 = .ok (.getfield 135, 3) := by decide +kernel
theorem dX9_enters_57 : decode cX9_enters 57 = .ok (.iconst 1, 1) := by decide +kernel
theorem dX9_enters_58 : decode cX9_enters 58 = .ok (.iadd, 1) := by decide +kernel
theorem dX9_enters_59 : decode cX9_enters 59 = .ok (.putfield 135, 3) := by decide +kernel
theorem dX9_enters_62 : decode cX9_enters 62 = .ok (.aload_n 0, 1) := by decide +kernel
theorem dX9_enters_63 : decode cX9_enters 63 = .ok (.getfield 41, 3) := by decide +kernel
theorem dX9_enters_66 : decode cX9_enters 66 = .ok (.iconst (-1), 1) := by decide +kernel
theorem dX9_enters_67 : decode cX9_enters 67 = .ok (.iload_n 2, 1) := by decide +kernel
theorem dX9_enters_68 : decode cX9_enters 68 = .ok (.isub, 1) := by decide +kernel
theorem dX9_enters_69 : decode cX9_enters 69 = .ok (.iload_n 3, 1) := by decide +kernel
theorem dX9_enters_70 : decode cX9_enters 70 = .ok (.iastore, 1) := by decide +kernel
theorem dX9_enters_71 : decode cX9_enters 71 = .ok (.aload_n 0, 1) := by decide +kernel
theorem dX9_enters_72 : decode cX9_enters 72 = .ok (.getfield 22, 3) := by decide +kernel
theorem dX9_enters_75 : decode cX9_enters 75 = .ok (.iload_n 3, 1) := by decide +kernel
theorem dX9_enters_76 : decode cX9_enters 76 = .ok (.aload_n 0, 1) := by decide +kernel
theorem dX9_enters_77 : decode cX9_enters 77 = .ok (.getfield 138, 3) := by decide +kernel
theorem dX9_enters_80 : decode cX9_enters 80 = .ok (.iastore, 1) := by decide +kernel
theorem dX9_enters_81 : decode cX9_enters 81 = .ok (.aload_n 0, 1) := by decide +kernel
theorem dX9_enters_82 : decode cX9_enters 82 = .ok (.getfield 25, 3) := by decide +kernel
theorem dX9_enters_85 : decode cX9_enters 85 = .ok (.iload_n 3, 1) := by decide +kernel
theorem dX9_enters_86 : decode cX9_enters 86 = .ok (.aload_n 0, 1) := by decide +kernel
theorem dX9_enters_87 : decode cX9_enters 87 = .ok (.getfield 47, 3) := by decide +kernel
theorem dX9_enters_90 : decode cX9_enters 90 = .ok (.iload_n 1, 1) := by decide +kernel
theorem dX9_enters_91 : decode cX9_enters 91 = .ok (.iaload, 1) := by decide +kernel
theorem dX9_enters_92 : decode cX9_enters 92 = .ok (.iastore, 1) := by decide +kernel
theorem dX9_enters_93 : decode cX9_enters 93 = .ok (.iconst 0, 1) := by decide +kernel
theorem dX9_enters_94 : decode cX9_enters 94 = .ok (.istore 4, 2) := by decide +kernel
theorem dX9_enters_96 : decode cX9_enters 96 = .ok (.iload 4, 2) := by decide +kernel
theorem dX9_enters_98 : decode cX9_enters 98 = .ok (.aload_n 0, 1) := by decide +kernel
theorem dX9_enters_99 : decode cX9_enters 99 = .ok (.getfield 47, 3) := by decide +kernel
theorem dX9_enters_102 : decode cX9_enters 102 = .ok (.iload_n 1, 1) := by decide +kernel
theorem dX9_enters_103 : decode cX9_enters 103 = .ok (.iaload, 1) := by decide +kernel
theorem dX9_enters_104 : decode cX9_enters 104 = .ok (.if_icmp .ge 40, 3) := by decide +kernel
theorem dX9_enters_107 : decode cX9_enters 107 = .ok (.aload_n 0, 1) := by decide +kernel
theorem dX9_enters_108 : decode cX9_enters 108 = .ok (.getfield 38, 3) := by decide +kernel
theorem dX9_enters_111 : decode cX9_enters 111 = .ok (.aload_n 0, 1) := by decide +kernel
theorem dX9_enters_112 : decode cX9_enters 112 = .ok (.getfield 138, 3) := by decide +kernel
theorem dX9_enters_115 : decode cX9_enters 115 = .ok (.aload_n 0, 1) := by decide +kernel
theorem dX9_enters_116 : decode cX9_enters 116 = .ok (.getfield 44, 3) := by decide +kernel
theorem dX9_enters_119 : decode cX9_enters 119 = .ok (.bipush 16, 2) := by decide +kernel
theorem dX9_enters_121 : decode cX9_enters 121 = .ok (.iload_n 1, 1) := by decide +kernel
theorem dX9_enters_122 : decode cX9_enters 122 = .ok (.imul, 1) := by decide +kernel
theorem dX9_enters_123 : decode cX9_enters 123 = .ok (.iload 4, 2) := by decide +kernel
theorem dX9_enters_125 : decode cX9_enters 125 = .ok (.iadd, 1) := by decide +kernel
theorem dX9_enters_126 : decode cX9_enters 126 = .ok (.iaload, 1) := by decide +kernel
theorem dX9_enters_127 : decode cX9_enters 127 = .ok (.iastore, 1) := by decide +kernel
theorem dX9_enters_128 : decode cX9_enters 128 = .ok (.aload_n 0, 1) := by decide +kernel
theorem dX9_enters_129 : decode cX9_enters 129 = .ok (.dup, 1) := by decide +kernel
theorem dX9_enters_130 : decode cX9_enters 130 = .ok (.getfield 138, 3) := by decide +kernel
theorem dX9_enters_133 : decode cX9_enters 133 = .ok (.iconst 1, 1) := by decide +kernel
theorem dX9_enters_134 : decode cX9_enters 134 = .ok (.iadd, 1) := by decide +kernel
theorem dX9_enters_135 : decode cX9_enters 135 = .ok (.putfield 138, 3) := by decide +kernel
theorem dX9_enters_138 : decode cX9_enters 138 = .ok (.iinc 4 1, 3) := by decide +kernel
theorem dX9_enters_141 : decode cX9_enters 141 = .ok (.goto (-45), 3) := by decide +kernel
theorem dX9_enters_144 : decode cX9_enters 144 = .ok (.aload_n 0, 1) := by decide +kernel
theorem dX9_enters_145 : decode cX9_enters 145 = .ok (.getfield 28, 3) := by decide +kernel
theorem dX9_enters_148 : decode cX9_enters 148 = .ok (.iload_n 3, 1) := by decide +kernel
theorem dX9_enters_149 : decode cX9_enters 149 = .ok (.aload_n 0, 1) := by decide +kernel
theorem dX9_enters_150 : decode cX9_enters 150 = .ok (.iload_n 1, 1) := by decide +kernel
theorem dX9_enters_151 : decode cX9_enters 151 = .ok (.iconst 0, 1) := by decide +kernel
theorem dX9_enters_152 : decode cX9_enters 152 = .ok (.invokevirtual 141, 3) := by decide +kernel
theorem dX9_enters_155 : decode cX9_enters 155 = .ok (.iconst 1, 1) := by decide +kernel
theorem dX9_enters_156 : decode cX9_enters 156 = .ok (.aload_n 0, 1) := by decide +kernel
theorem dX9_enters_157 : decode cX9_enters 157 = .ok (.getfield 47, 3) := by decide +kernel
theorem dX9_enters_160 : decode cX9_enters 160 = .ok (.iload_n 1, 1) := by decide +kernel
theorem dX9_enters_161 : decode cX9_enters 161 = .ok (.iaload, 1) := by decide +kernel
theorem dX9_enters_162 : decode cX9_enters 162 = .ok (.ishl, 1) := by decide +kernel
theorem dX9_enters_163 : decode cX9_enters 163 = .ok (.iconst 1, 1) := by decide +kernel
theorem dX9_enters_164 : decode cX9_enters 164 = .ok (.isub, 1) := by decide +kernel
theorem dX9_enters_165 : decode cX9_enters 165 = .ok (.if_icmp .ne 11, 3) := by decide +kernel
theorem dX9_enters_168 : decode cX9_enters 168 = .ok (.aload_n 0, 1) := by decide +kernel
theorem dX9_enters_169 : decode cX9_enters 169 = .ok (.iload_n 1, 1) := by decide +kernel
theorem dX9_enters_170 : decode cX9_enters 170 = .ok (.invokevirtual 145, 3) := by decide +kernel
theorem dX9_enters_173 : decode cX9_enters 173 = .ok (.goto 4, 3) := by decide +kernel
theorem dX9_enters_176 : decode cX9_enters 176 = .ok (.iconst 0, 1) := by decide +kernel
theorem dX9_enters_177 : decode cX9_enters 177 = .ok (.iastore, 1) := by decide +kernel
theorem dX9_enters_178 : decode cX9_enters 178 = .ok (.aload_n 0, 1) := by decide +kernel
theorem dX9_enters_179 : decode cX9_enters 179 = .ok (.getfield 31, 3) := by decide +kernel
theorem dX9_enters_182 : decode cX9_enters 182 = .ok (.iload_n 3, 1) := by decide +kernel
theorem dX9_enters_183 : decode cX9_enters 183 = .ok (.aload_n 0, 1) := by decide +kernel
theorem dX9_enters_184 : decode cX9_enters 184 = .ok (.getfield 28, 3) := by decide +kernel
theorem dX9_enters_187 : decode cX9_enters 187 = .ok (.iload_n 3, 1) := by decide +kernel
theorem dX9_enters_188 : decode cX9_enters 188 = .ok (.iaload, 1) := by decide +kernel
theorem dX9_enters_189 : decode cX9_enters 189 = .ok (.ifCond .le 7, 3) := by decide +kernel
theorem dX9_enters_192 : decode cX9_enters 192 = .ok (.iconst 1, 1) := by decide +kernel
theorem dX9_enters_193 : decode cX9_enters 193 = .ok (.goto 4, 3) := by decide +kernel
theorem dX9_enters_196 : decode cX9_enters 196 = .ok (.iconst 0, 1) := by decide +kernel
theorem dX9_enters_197 : decode cX9_enters 197 = .ok (.iastore, 1) := by decide +kernel
theorem dX9_enters_198 : decode cX9_enters 198 = .ok (.aload_n 0, 1) := by decide +kernel
theorem dX9_enters_199 : decode cX9_enters 199 = .ok (.getfield 50, 3) := by decide +kernel
theorem dX9_enters_202 : decode cX9_enters 202 = .ok (.iload_n 1, 1) := by decide +kernel
theorem dX9_enters_203 : decode cX9_enters 203 = .ok (.iload_n 3, 1) := by decide +kernel
theorem dX9_enters_204 : decode cX9_enters 204 = .ok (.iastore, 1) := by decide +kernel
theorem dX9_enters_205 : decode cX9_enters 205 = .ok (.aload_n 0, 1) := by decide +kernel
theorem dX9_enters_206 : decode cX9_enters 206 = .ok (.getfield 53, 3) := by decide +kernel
theorem dX9_enters_209 : decode cX9_enters 209 = .ok (.iload_n 1, 1) := by decide +kernel
theorem dX9_enters_210 : decode cX9_enters 210 = .ok (.iconst 0, 1) := by decide +kernel
theorem dX9_enters_211 : decode cX9_enters 211 = .ok (.iastore, 1) := by decide +kernel
theorem dX9_enters_212 : decode cX9_enters 212 = .ok (.aload_n 0, 1) := by decide +kernel
theorem dX9_enters_213 : decode cX9_enters 213 = .ok (.getfield 56, 3) := by decide +kernel
theorem dX9_enters_216 : decode cX9_enters 216 = .ok (.iload_n 1, 1) := by decide +kernel
theorem dX9_enters_217 : decode cX9_enters 217 = .ok (.iconst 0, 1) := by decide +kernel
theorem dX9_enters_218 : decode cX9_enters 218 = .ok (.iastore, 1) := by decide +kernel
theorem dX9_enters_219 : decode cX9_enters 219 = .ok (.iconst (-1), 1) := by decide +kernel
theorem dX9_enters_220 : decode cX9_enters 220 = .ok (.ireturn, 1) := by decide +kernel
theorem dX9_goesDeeper_0 : decode cX9_goesDeeper 0 = .ok (.aload_n 0, 1) := by decide +kernel
theorem dX9_goesDeeper_1 : decode cX9_goesDeeper 1 = .ok (.getfield 50, 3) := by decide +kernel
theorem dX9_goesDeeper_4 : decode cX9_goesDeeper 4 = .ok (.iload_n 1, 1) := by decide +kernel
theorem dX9_goesDeeper_5 : decode cX9_goesDeeper 5 = .ok (.iaload, 1) := by decide +kernel
theorem dX9_goesDeeper_6 : decode cX9_goesDeeper 6 = .ok (.istore_n 2, 1) := by decide +kernel
theorem dX9_goesDeeper_7 : decode cX9_goesDeeper 7 = .ok (.aload_n 0, 1) := by decide +kernel
theorem dX9_goesDeeper_8 : decode cX9_goesDeeper 8 = .ok (.getfield 28, 3) := by decide +kernel
theorem dX9_goesDeeper_11 : decode cX9_goesDeeper 11 = .ok (.iload_n 2, 1) := by decide +kernel
theorem dX9_goesDeeper_12 : decode cX9_goesDeeper 12 = .ok (.iaload, 1) := by decide +kernel
theorem dX9_goesDeeper_13 : decode cX9_goesDeeper 13 = .ok (.istore_n 3, 1) := by decide +kernel
theorem dX9_goesDeeper_14 : decode cX9_goesDeeper 14 = .ok (.iload_n 3, 1) := by decide +kernel
theorem dX9_goesDeeper_15 : decode cX9_goesDeeper 15 = .ok (.ifCond .le 47, 3) := by decide +kernel
theorem dX9_goesDeeper_18 : decode cX9_goesDeeper 18 = .ok (.aload_n 0, 1) := by decide +kernel
theorem dX9_goesDeeper_19 : decode cX9_goesDeeper 19 = .ok (.getfield 53, 3) := by decide +kernel
theorem dX9_goesDeeper_22 : decode cX9_goesDeeper 22 = .ok (.iload_n 1, 1) := by decide +kernel
theorem dX9_goesDeeper_23 : decode cX9_goesDeeper 23 = .ok (.iaload, 1) := by decide +kernel
theorem dX9_goesDeeper_24 : decode cX9_goesDeeper 24 = .ok (.iconst 2, 1) := by decide +kernel
theorem dX9_goesDeeper_25 : decode cX9_goesDeeper 25 = .ok (.if_icmp .ne 5, 3) := by decide +kernel
theorem dX9_goesDeeper_28 : decode cX9_goesDeeper 28 = .ok (.iconst 0, 1) := by decide +kernel
theorem dX9_goesDeeper_29 : decode cX9_goesDeeper 29 = .ok (.ireturn, 1) := by decide +kernel
theorem dX9_goesDeeper_30 : decode cX9_goesDeeper 30 = .ok (.aload_n 0, 1) := by decide +kernel
theorem dX9_goesDeeper_31 : decode cX9_goesDeeper 31 = .ok (.iload_n 1, 1) := by decide +kernel
theorem dX9_goesDeeper_32 : decode cX9_goesDeeper 32 = .ok (.aload_n 0, 1) := by decide +kernel
theorem dX9_goesDeeper_33 : decode cX9_goesDeeper 33 = .ok (.getfield 53, 3) := by decide +kernel
theorem dX9_goesDeeper_36 : decode cX9_goesDeeper 36 = .ok (.iload_n 1, 1) := by decide +kernel
theorem dX9_goesDeeper_37 : decode cX9_goesDeeper 37 = .ok (.iaload, 1) := by decide +kernel
theorem dX9_goesDeeper_38 : decode cX9_goesDeeper 38 = .ok (.ifCond .ne 8, 3) := by decide +kernel
theorem dX9_goesDeeper_41 : decode cX9_goesDeeper 41 = .ok (.iload_n 3, 1) := by decide +kernel
theorem dX9_goesDeeper_42 : decode cX9_goesDeeper 42 = .ok (.ineg, 1) := by decide +kernel
theorem dX9_goesDeeper_43 : decode cX9_goesDeeper 43 = .ok (.goto 4, 3) := by decide +kernel
theorem dX9_goesDeeper_46 : decode cX9_goesDeeper 46 = .ok (.iload_n 3, 1) := by decide +kernel
theorem dX9_goesDeeper_47 : decode cX9_goesDeeper 47 = .ok (.invokevirtual 148, 3) := by decide +kernel
theorem dX9_goesDeeper_50 : decode cX9_goesDeeper 50 = .ok (.aload_n 0, 1) := by decide +kernel
theorem dX9_goesDeeper_51 : decode cX9_goesDeeper 51 = .ok (.getfield 53, 3) := by decide +kernel
theorem dX9_goesDeeper_54 : decode cX9_goesDeeper 54 = .ok (.iload_n 1, 1) := by decide +kernel
theorem dX9_goesDeeper_55 : decode cX9_goesDeeper 55 = .ok (.dup2, 1) := by decide +kernel
theorem dX9_goesDeeper_56 : decode cX9_goesDeeper 56 = .ok (.iaload, 1) := by decide +kernel
theorem dX9_goesDeeper_57 : decode cX9_goesDeeper 57 = .ok (.iconst 1, 1) := by decide +kernel
theorem dX9_goesDeeper_58 : decode cX9_goesDeeper 58 = .ok (.iadd, 1) := by decide +kernel
theorem dX9_goesDeeper_59 : decode cX9_goesDeeper 59 = .ok (.iastore, 1) := by decide +kernel
theorem dX9_goesDeeper_60 : decode cX9_goesDeeper 60 = .ok (.iconst 1, 1) := by decide +kernel
theorem dX9_goesDeeper_61 : decode cX9_goesDeeper 61 = .ok (.ireturn, 1) := by decide +kernel
theorem dX9_goesDeeper_62 : decode cX9_goesDeeper 62 = .ok (.aload_n 0, 1) := by decide +kernel
theorem dX9_goesDeeper_63 : decode cX9_goesDeeper 63 = .ok (.getfield 53, 3) := by decide +kernel
theorem dX9_goesDeeper_66 : decode cX9_goesDeeper 66 = .ok (.iload_n 1, 1) := by decide +kernel
theorem dX9_goesDeeper_67 : decode cX9_goesDeeper 67 = .ok (.iaload, 1) := by decide +kernel
theorem dX9_goesDeeper_68 : decode cX9_goesDeeper 68 = .ok (.iconst 1, 1) := by decide +kernel
theorem dX9_goesDeeper_69 : decode cX9_goesDeeper 69 = .ok (.aload_n 0, 1) := by decide +kernel
theorem dX9_goesDeeper_70 : decode cX9_goesDeeper 70 = .ok (.getfield 47, 3) := by decide +kernel
theorem dX9_goesDeeper_73 : decode cX9_goesDeeper 73 = .ok (.iload_n 1, 1) := by decide +kernel
theorem dX9_goesDeeper_74 : decode cX9_goesDeeper 74 = .ok (.iaload, 1) := by decide +kernel
theorem dX9_goesDeeper_75 : decode cX9_goesDeeper 75 = .ok (.ishl, 1) := by decide +kernel
theorem dX9_goesDeeper_76 : decode cX9_goesDeeper 76 = .ok (.iconst 1, 1) := by decide +kernel
theorem dX9_goesDeeper_77 : decode cX9_goesDeeper 77 = .ok (.isub, 1) := by decide +kernel
theorem dX9_goesDeeper_78 : decode cX9_goesDeeper 78 = .ok (.if_icmp .ne 5, 3) := by decide +kernel
theorem dX9_goesDeeper_81 : decode cX9_goesDeeper 81 = .ok (.iconst 0, 1) := by decide +kernel
theorem dX9_goesDeeper_82 : decode cX9_goesDeeper 82 = .ok (.ireturn, 1) := by decide +kernel
theorem dX9_goesDeeper_83 : decode cX9_goesDeeper 83 = .ok (.aload_n 0, 1) := by decide +kernel
theorem dX9_goesDeeper_84 : decode cX9_goesDeeper 84 = .ok (.iload_n 1, 1) := by decide +kernel
theorem dX9_goesDeeper_85 : decode cX9_goesDeeper 85 = .ok (.aload_n 0, 1) := by decide +kernel
theorem dX9_goesDeeper_86 : decode cX9_goesDeeper 86 = .ok (.getfield 53, 3) := by decide +kernel
theorem dX9_goesDeeper_89 : decode cX9_goesDeeper 89 = .ok (.iload_n 1, 1) := by decide +kernel
theorem dX9_goesDeeper_90 : decode cX9_goesDeeper 90 = .ok (.iaload, 1) := by decide +kernel
theorem dX9_goesDeeper_91 : decode cX9_goesDeeper 91 = .ok (.invokevirtual 141, 3) := by decide +kernel
theorem dX9_goesDeeper_94 : decode cX9_goesDeeper 94 = .ok (.istore 4, 2) := by decide +kernel
theorem dX9_goesDeeper_96 : decode cX9_goesDeeper 96 = .ok (.aload_n 0, 1) := by decide +kernel
theorem dX9_goesDeeper_97 : decode cX9_goesDeeper 97 = .ok (.getfield 47, 3) := by decide +kernel
theorem dX9_goesDeeper_100 : decode cX9_goesDeeper 100 = .ok (.iload_n 1, 1) := by decide +kernel
theorem dX9_goesDeeper_101 : decode cX9_goesDeeper 101 = .ok (.iconst 1, 1) := by decide +kernel
theorem dX9_goesDeeper_102 : decode cX9_goesDeeper 102 = .ok (.iadd, 1) := by decide +kernel
theorem dX9_goesDeeper_103 : decode cX9_goesDeeper 103 = .ok (.iconst 0, 1) := by decide +kernel
theorem dX9_goesDeeper_104 : decode cX9_goesDeeper 104 = .ok (.iastore, 1) := by decide +kernel
theorem dX9_goesDeeper_105 : decode cX9_goesDeeper 105 = .ok (.iconst 0, 1) := by decide +kernel
theorem dX9_goesDeeper_106 : decode cX9_goesDeeper 106 = .ok (.istore 5, 2) := by decide +kernel
theorem dX9_goesDeeper_108 : decode cX9_goesDeeper 108 = .ok (.iload 5, 2) := by decide +kernel
theorem dX9_goesDeeper_110 : decode cX9_goesDeeper 110 = .ok (.aload_n 0, 1) := by decide +kernel
theorem dX9_goesDeeper_111 : decode cX9_goesDeeper 111 = .ok (.getfield 47, 3) := by decide +kernel
theorem dX9_goesDeeper_114 : decode cX9_goesDeeper 114 = .ok (.iload_n 1, 1) := by decide +kernel
theorem dX9_goesDeeper_115 : decode cX9_goesDeeper 115 = .ok (.iaload, 1) := by decide +kernel
theorem dX9_goesDeeper_116 : decode cX9_goesDeeper 116 = .ok (.if_icmp .ge 39, 3) := by decide +kernel
theorem dX9_goesDeeper_119 : decode cX9_goesDeeper 119 = .ok (.iload 4, 2) := by decide +kernel
theorem dX9_goesDeeper_121 : decode cX9_goesDeeper 121 = .ok (.iload 5, 2) := by decide +kernel
theorem dX9_goesDeeper_123 : decode cX9_goesDeeper 123 = .ok (.ishr, 1) := by decide +kernel
theorem dX9_goesDeeper_124 : decode cX9_goesDeeper 124 = .ok (.iconst 1, 1) := by decide +kernel
theorem dX9_goesDeeper_125 : decode cX9_goesDeeper 125 = .ok (.iand, 1) := by decide +kernel
theorem dX9_goesDeeper_126 : decode cX9_goesDeeper 126 = .ok (.iconst 1, 1) := by decide +kernel
theorem dX9_goesDeeper_127 : decode cX9_goesDeeper 127 = .ok (.if_icmp .ne 22, 3) := by decide +kernel
theorem dX9_goesDeeper_130 : decode cX9_goesDeeper 130 = .ok (.aload_n 0, 1) := by decide +kernel
theorem dX9_goesDeeper_131 : decode cX9_goesDeeper 131 = .ok (.iload_n 1, 1) := by decide +kernel
theorem dX9_goesDeeper_132 : decode cX9_goesDeeper 132 = .ok (.iconst 1, 1) := by decide +kernel
theorem dX9_goesDeeper_133 : decode cX9_goesDeeper 133 = .ok (.iadd, 1) := by decide +kernel
theorem dX9_goesDeeper_134 : decode cX9_goesDeeper 134 = .ok (.aload_n 0, 1) := by decide +kernel
theorem dX9_goesDeeper_135 : decode cX9_goesDeeper 135 = .ok (.getfield 44, 3) := by decide +kernel
theorem dX9_goesDeeper_138 : decode cX9_goesDeeper 138 = .ok (.bipush 16, 2) := by decide +kernel
theorem dX9_goesDeeper_140 : decode cX9_goesDeeper 140 = .ok (.iload_n 1, 1) := by decide +kernel
theorem dX9_goesDeeper_141 : decode cX9_goesDeeper 141 = .ok (.imul, 1) := by decide +kernel
theorem dX9_goesDeeper_142 : decode cX9_goesDeeper 142 = .ok (.iload 5, 2) := by decide +kernel
theorem dX9_goesDeeper_144 : decode cX9_goesDeeper 144 = .ok (.iadd, 1) := by decide +kernel
theorem dX9_goesDeeper_145 : decode cX9_goesDeeper 145 = .ok (.iaload, 1) := by decide +kernel
theorem dX9_goesDeeper_146 : decode cX9_goesDeeper 146 = .ok (.invokevirtual 122, 3) := by decide +kernel
theorem dX9_goesDeeper_149 : decode cX9_goesDeeper 149 = .ok (.iinc 5 1, 3) := by decide +kernel
theorem dX9_goesDeeper_152 : decode cX9_goesDeeper 152 = .ok (.goto (-44), 3) := by decide +kernel
theorem dX9_goesDeeper_155 : decode cX9_goesDeeper 155 = .ok (.aload_n 0, 1) := by decide +kernel
theorem dX9_goesDeeper_156 : decode cX9_goesDeeper 156 = .ok (.getfield 53, 3) := by decide +kernel
theorem dX9_goesDeeper_159 : decode cX9_goesDeeper 159 = .ok (.iload_n 1, 1) := by decide +kernel
theorem dX9_goesDeeper_160 : decode cX9_goesDeeper 160 = .ok (.dup2, 1) := by decide +kernel
theorem dX9_goesDeeper_161 : decode cX9_goesDeeper 161 = .ok (.iaload, 1) := by decide +kernel
theorem dX9_goesDeeper_162 : decode cX9_goesDeeper 162 = .ok (.iload 4, 2) := by decide +kernel
theorem dX9_goesDeeper_164 : decode cX9_goesDeeper 164 = .ok (.ior, 1) := by decide +kernel
theorem dX9_goesDeeper_165 : decode cX9_goesDeeper 165 = .ok (.iastore, 1) := by decide +kernel
theorem dX9_goesDeeper_166 : decode cX9_goesDeeper 166 = .ok (.aload_n 0, 1) := by decide +kernel
theorem dX9_goesDeeper_167 : decode cX9_goesDeeper 167 = .ok (.getfield 31, 3) := by decide +kernel
theorem dX9_goesDeeper_170 : decode cX9_goesDeeper 170 = .ok (.iload_n 2, 1) := by decide +kernel
theorem dX9_goesDeeper_171 : decode cX9_goesDeeper 171 = .ok (.dup2, 1) := by decide +kernel
theorem dX9_goesDeeper_172 : decode cX9_goesDeeper 172 = .ok (.iaload, 1) := by decide +kernel
theorem dX9_goesDeeper_173 : decode cX9_goesDeeper 173 = .ok (.iconst 1, 1) := by decide +kernel
theorem dX9_goesDeeper_174 : decode cX9_goesDeeper 174 = .ok (.iadd, 1) := by decide +kernel
theorem dX9_goesDeeper_175 : decode cX9_goesDeeper 175 = .ok (.iastore, 1) := by decide +kernel
theorem dX9_goesDeeper_176 : decode cX9_goesDeeper 176 = .ok (.iconst 1, 1) := by decide +kernel
theorem dX9_goesDeeper_177 : decode cX9_goesDeeper 177 = .ok (.ireturn, 1) := by decide +kernel
theorem dX9_builds_0 : decode cX9_builds 0 = .ok (.iconst 0, 1) := by decide +kernel
theorem dX9_builds_1 : decode cX9_builds 1 = .ok (.istore_n 1, 1) := by decide +kernel
theorem dX9_builds_2 : decode cX9_builds 2 = .ok (.aload_n 0, 1) := by decide +kernel
theorem dX9_builds_3 : decode cX9_builds 3 = .ok (.iconst 0, 1) := by decide +kernel
theorem dX9_builds_4 : decode cX9_builds 4 = .ok (.invokevirtual 151, 3) := by decide +kernel
theorem dX9_builds_7 : decode cX9_builds 7 = .ok (.istore_n 2, 1) := by decide +kernel
theorem dX9_builds_8 : decode cX9_builds 8 = .ok (.iload_n 1, 1) := by decide +kernel
theorem dX9_builds_9 : decode cX9_builds 9 = .ok (.ifCond .gt 7, 3) := by decide +kernel
theorem dX9_builds_12 : decode cX9_builds 12 = .ok (.iload_n 2, 1) := by decide +kernel
theorem dX9_builds_13 : decode cX9_builds 13 = .ok (.ifCond .ge 95, 3) := by decide +kernel
theorem dX9_builds_16 : decode cX9_builds 16 = .ok (.iload_n 2, 1) := by decide +kernel
theorem dX9_builds_17 : decode cX9_builds 17 = .ok (.ifCond .lt 47, 3) := by decide +kernel
theorem dX9_builds_20 : decode cX9_builds 20 = .ok (.iinc 1 (-1), 3) := by decide +kernel
theorem dX9_builds_23 : decode cX9_builds 23 = .ok (.aload_n 0, 1) := by decide +kernel
theorem dX9_builds_24 : decode cX9_builds 24 = .ok (.getfield 56, 3) := by decide +kernel
theorem dX9_builds_27 : decode cX9_builds 27 = .ok (.iload_n 1, 1) := by decide +kernel
theorem dX9_builds_28 : decode cX9_builds 28 = .ok (.aload_n 0, 1) := by decide +kernel
theorem dX9_builds_29 : decode cX9_builds 29 = .ok (.getfield 34, 3) := by decide +kernel
theorem dX9_builds_32 : decode cX9_builds 32 = .ok (.iload_n 2, 1) := by decide +kernel
theorem dX9_builds_33 : decode cX9_builds 33 = .ok (.iaload, 1) := by decide +kernel
theorem dX9_builds_34 : decode cX9_builds 34 = .ok (.aload_n 0, 1) := by decide +kernel
theorem dX9_builds_35 : decode cX9_builds 35 = .ok (.getfield 56, 3) := by decide +kernel
theorem dX9_builds_38 : decode cX9_builds 38 = .ok (.iload_n 1, 1) := by decide +kernel
theorem dX9_builds_39 : decode cX9_builds 39 = .ok (.iaload, 1) := by decide +kernel
theorem dX9_builds_40 : decode cX9_builds 40 = .ok (.if_icmp .le 12, 3) := by decide +kernel
theorem dX9_builds_43 : decode cX9_builds 43 = .ok (.aload_n 0, 1) := by decide +kernel
theorem dX9_builds_44 : decode cX9_builds 44 = .ok (.getfield 34, 3) := by decide +kernel
theorem dX9_builds_47 : decode cX9_builds 47 = .ok (.iload_n 2, 1) := by decide +kernel
theorem dX9_builds_48 : decode cX9_builds 48 = .ok (.iaload, 1) := by decide +kernel
theorem dX9_builds_49 : decode cX9_builds 49 = .ok (.goto 9, 3) := by decide +kernel
theorem dX9_builds_52 : decode cX9_builds 52 = .ok (.aload_n 0, 1) := by decide +kernel
theorem dX9_builds_53 : decode cX9_builds 53 = .ok (.getfield 56, 3) := by decide +kernel
theorem dX9_builds_56 : decode cX9_builds 56 = .ok (.iload_n 1, 1) := by decide +kernel
theorem dX9_builds_57 : decode cX9_builds 57 = .ok (.iaload, 1) := by decide +kernel
theorem dX9_builds_58 : decode cX9_builds 58 = .ok (.iastore, 1) := by decide +kernel
theorem dX9_builds_59 : decode cX9_builds 59 = .ok (.iconst (-1), 1) := by decide +kernel
theorem dX9_builds_60 : decode cX9_builds 60 = .ok (.istore_n 2, 1) := by decide +kernel
theorem dX9_builds_61 : decode cX9_builds 61 = .ok (.goto (-53), 3) := by decide +kernel
theorem dX9_builds_64 : decode cX9_builds 64 = .ok (.aload_n 0, 1) := by decide +kernel
theorem dX9_builds_65 : decode cX9_builds 65 = .ok (.iload_n 1, 1) := by decide +kernel
theorem dX9_builds_66 : decode cX9_builds 66 = .ok (.invokevirtual 154, 3) := by decide +kernel
theorem dX9_builds_69 : decode cX9_builds 69 = .ok (.ifCond .eq 15, 3) := by decide +kernel
theorem dX9_builds_72 : decode cX9_builds 72 = .ok (.iinc 1 1, 3) := by decide +kernel
theorem dX9_builds_75 : decode cX9_builds 75 = .ok (.aload_n 0, 1) := by decide +kernel
theorem dX9_builds_76 : decode cX9_builds 76 = .ok (.iload_n 1, 1) := by decide +kernel
theorem dX9_builds_77 : decode cX9_builds 77 = .ok (.invokevirtual 151, 3) := by decide +kernel
theorem dX9_builds_80 : decode cX9_builds 80 = .ok (.istore_n 2, 1) := by decide +kernel
theorem dX9_builds_81 : decode cX9_builds 81 = .ok (.goto (-73), 3) := by decide +kernel
theorem dX9_builds_84 : decode cX9_builds 84 = .ok (.aload_n 0, 1) := by decide +kernel
theorem dX9_builds_85 : decode cX9_builds 85 = .ok (.getfield 50, 3) := by decide +kernel
theorem dX9_builds_88 : decode cX9_builds 88 = .ok (.iload_n 1, 1) := by decide +kernel
theorem dX9_builds_89 : decode cX9_builds 89 = .ok (.iaload, 1) := by decide +kernel
theorem dX9_builds_90 : decode cX9_builds 90 = .ok (.istore_n 2, 1) := by decide +kernel
theorem dX9_builds_91 : decode cX9_builds 91 = .ok (.aload_n 0, 1) := by decide +kernel
theorem dX9_builds_92 : decode cX9_builds 92 = .ok (.getfield 34, 3) := by decide +kernel
theorem dX9_builds_95 : decode cX9_builds 95 = .ok (.iload_n 2, 1) := by decide +kernel
theorem dX9_builds_96 : decode cX9_builds 96 = .ok (.aload_n 0, 1) := by decide +kernel
theorem dX9_builds_97 : decode cX9_builds 97 = .ok (.getfield 56, 3) := by decide +kernel
theorem dX9_builds_100 : decode cX9_builds 100 = .ok (.iload_n 1, 1) := by decide +kernel
theorem dX9_builds_101 : decode cX9_builds 101 = .ok (.iaload, 1) := by decide +kernel
theorem dX9_builds_102 : decode cX9_builds 102 = .ok (.iconst 1, 1) := by decide +kernel
theorem dX9_builds_103 : decode cX9_builds 103 = .ok (.iadd, 1) := by decide +kernel
theorem dX9_builds_104 : decode cX9_builds 104 = .ok (.iastore, 1) := by decide +kernel
theorem dX9_builds_105 : decode cX9_builds 105 = .ok (.goto (-97), 3) := by decide +kernel
theorem dX9_builds_108 : decode cX9_builds 108 = .ok (.iload_n 2, 1) := by decide +kernel
theorem dX9_builds_109 : decode cX9_builds 109 = .ok (.ireturn, 1) := by decide +kernel
theorem dX9_compiles_0 : decode cX9_compiles 0 = .ok (.aload_n 0, 1) := by decide +kernel
theorem dX9_compiles_1 : decode cX9_compiles 1 = .ok (.getfield 77, 3) := by decide +kernel
theorem dX9_compiles_4 : decode cX9_compiles 4 = .ok (.ifCond .eq 4, 3) := by decide +kernel
theorem dX9_compiles_7 : decode cX9_compiles 7 = .ok (.return_, 1) := by decide +kernel
theorem dX9_compiles_8 : decode cX9_compiles 8 = .ok (.aload_n 0, 1) := by decide +kernel
theorem dX9_compiles_9 : decode cX9_compiles 9 = .ok (.iconst 1, 1) := by decide +kernel
theorem dX9_compiles_10 : decode cX9_compiles 10 = .ok (.putfield 77, 3) := by decide +kernel
theorem dX9_compiles_13 : decode cX9_compiles 13 = .ok (.iconst 0, 1) := by decide +kernel
theorem dX9_compiles_14 : decode cX9_compiles 14 = .ok (.istore_n 1, 1) := by decide +kernel
theorem dX9_compiles_15 : decode cX9_compiles 15 = .ok (.iload_n 1, 1) := by decide +kernel
theorem dX9_compiles_16 : decode cX9_compiles 16 = .ok (.sipush 16384, 3) := by decide +kernel
theorem dX9_compiles_19 : decode cX9_compiles 19 = .ok (.if_icmp .ge 16, 3) := by decide +kernel
theorem dX9_compiles_22 : decode cX9_compiles 22 = .ok (.aload_n 0, 1) := by decide +kernel
theorem dX9_compiles_23 : decode cX9_compiles 23 = .ok (.getfield 41, 3) := by decide +kernel
theorem dX9_compiles_26 : decode cX9_compiles 26 = .ok (.iload_n 1, 1) := by decide +kernel
theorem dX9_compiles_27 : decode cX9_compiles 27 = .ok (.iconst 0, 1) := by decide +kernel
theorem dX9_compiles_28 : decode cX9_compiles 28 = .ok (.iastore, 1) := by decide +kernel
theorem dX9_compiles_29 : decode cX9_compiles 29 = .ok (.iinc 1 1, 3) := by decide +kernel
theorem dX9_compiles_32 : decode cX9_compiles 32 = .ok (.goto (-17), 3) := by decide +kernel
theorem dX9_compiles_35 : decode cX9_compiles 35 = .ok (.aload_n 0, 1) := by decide +kernel
theorem dX9_compiles_36 : decode cX9_compiles 36 = .ok (.iconst 2, 1) := by decide +kernel
theorem dX9_compiles_37 : decode cX9_compiles 37 = .ok (.putfield 135, 3) := by decide +kernel
theorem dX9_compiles_40 : decode cX9_compiles 40 = .ok (.aload_n 0, 1) := by decide +kernel
theorem dX9_compiles_41 : decode cX9_compiles 41 = .ok (.iconst 0, 1) := by decide +kernel
theorem dX9_compiles_42 : decode cX9_compiles 42 = .ok (.putfield 138, 3) := by decide +kernel
theorem dX9_compiles_45 : decode cX9_compiles 45 = .ok (.aload_n 0, 1) := by decide +kernel
theorem dX9_compiles_46 : decode cX9_compiles 46 = .ok (.iconst 0, 1) := by decide +kernel
theorem dX9_compiles_47 : decode cX9_compiles 47 = .ok (.putfield 129, 3) := by decide +kernel
theorem dX9_compiles_50 : decode cX9_compiles 50 = .ok (.aload_n 0, 1) := by decide +kernel
theorem dX9_compiles_51 : decode cX9_compiles 51 = .ok (.iconst 0, 1) := by decide +kernel
theorem dX9_compiles_52 : decode cX9_compiles 52 = .ok (.putfield 126, 3) := by decide +kernel
theorem dX9_compiles_55 : decode cX9_compiles 55 = .ok (.aload_n 0, 1) := by decide +kernel
theorem dX9_compiles_56 : decode cX9_compiles 56 = .ok (.getfield 47, 3) := by decide +kernel
theorem dX9_compiles_59 : decode cX9_compiles 59 = .ok (.iconst 0, 1) := by decide +kernel
theorem dX9_compiles_60 : decode cX9_compiles 60 = .ok (.iconst 0, 1) := by decide +kernel
theorem dX9_compiles_61 : decode cX9_compiles 61 = .ok (.iastore, 1) := by decide +kernel
theorem dX9_compiles_62 : decode cX9_compiles 62 = .ok (.aload_n 0, 1) := by decide +kernel
theorem dX9_compiles_63 : decode cX9_compiles 63 = .ok (.getfield 7, 3) := by decide +kernel
theorem dX9_compiles_66 : decode cX9_compiles 66 = .ok (.bipush 17, 2) := by decide +kernel
theorem dX9_compiles_68 : decode cX9_compiles 68 = .ok (.iaload, 1) := by decide +kernel
theorem dX9_compiles_69 : decode cX9_compiles 69 = .ok (.aload_n 0, 1) := by decide +kernel
theorem dX9_compiles_70 : decode cX9_compiles 70 = .ok (.getfield 7, 3) := by decide +kernel
theorem dX9_compiles_73 : decode cX9_compiles 73 = .ok (.bipush 18, 2) := by decide +kernel
theorem dX9_compiles_75 : decode cX9_compiles 75 = .ok (.iaload, 1) := by decide +kernel
theorem dX9_compiles_76 : decode cX9_compiles 76 = .ok (.bipush 10, 2) := by decide +kernel
theorem dX9_compiles_78 : decode cX9_compiles 78 = .ok (.ishl, 1) := by decide +kernel
theorem dX9_compiles_79 : decode cX9_compiles 79 = .ok (.ior, 1) := by decide +kernel
theorem dX9_compiles_80 : decode cX9_compiles 80 = .ok (.istore_n 1, 1) := by decide +kernel
theorem dX9_compiles_81 : decode cX9_compiles 81 = .ok (.aload_n 0, 1) := by decide +kernel
theorem dX9_compiles_82 : decode cX9_compiles 82 = .ok (.getfield 7, 3) := by decide +kernel
theorem dX9_compiles_85 : decode cX9_compiles 85 = .ok (.bipush 18, 2) := by decide +kernel
theorem dX9_compiles_87 : decode cX9_compiles 87 = .ok (.iaload, 1) := by decide +kernel
theorem dX9_compiles_88 : decode cX9_compiles 88 = .ok (.aload_n 0, 1) := by decide +kernel
theorem dX9_compiles_89 : decode cX9_compiles 89 = .ok (.getfield 7, 3) := by decide +kernel
theorem dX9_compiles_92 : decode cX9_compiles 92 = .ok (.bipush 17, 2) := by decide +kernel
end
section
theorem dX9_compiles_94 : decode cX9_compiles 94 = .ok (.iaload, 1) := by decide +kernel
theorem dX9_compiles_95 : decode cX9_compiles 95 = .ok (.bipush 10, 2) := by decide +kernel
theorem dX9_compiles_97 : decode cX9_compiles 97 = .ok (.ishl, 1) := by decide +kernel
theorem dX9_compiles_98 : decode cX9_compiles 98 = .ok (.ior, 1) := by decide +kernel
theorem dX9_compiles_99 : decode cX9_compiles 99 = .ok (.istore_n 2, 1) := by decide +kernel
theorem dX9_compiles_100 : decode cX9_compiles 100 = .ok (.iconst 0, 1) := by decide +kernel
theorem dX9_compiles_101 : decode cX9_compiles 101 = .ok (.istore_n 3, 1) := by decide +kernel
theorem dX9_compiles_102 : decode cX9_compiles 102 = .ok (.iload_n 3, 1) := by decide +kernel
theorem dX9_compiles_103 : decode cX9_compiles 103 = .ok (.aload_n 0, 1) := by decide +kernel
theorem dX9_compiles_104 : decode cX9_compiles 104 = .ok (.getfield 7, 3) := by decide +kernel
theorem dX9_compiles_107 : decode cX9_compiles 107 = .ok (.iconst 0, 1) := by decide +kernel
theorem dX9_compiles_108 : decode cX9_compiles 108 = .ok (.iaload, 1) := by decide +kernel
theorem dX9_compiles_109 : decode cX9_compiles 109 = .ok (.if_icmp .ge 39, 3) := by decide +kernel
theorem dX9_compiles_112 : decode cX9_compiles 112 = .ok (.aload_n 0, 1) := by decide +kernel
theorem dX9_compiles_113 : decode cX9_compiles 113 = .ok (.getfield 7, 3) := by decide +kernel
theorem dX9_compiles_116 : decode cX9_compiles 116 = .ok (.iconst 1, 1) := by decide +kernel
theorem dX9_compiles_117 : decode cX9_compiles 117 = .ok (.iload_n 3, 1) := by decide +kernel
theorem dX9_compiles_118 : decode cX9_compiles 118 = .ok (.iadd, 1) := by decide +kernel
theorem dX9_compiles_119 : decode cX9_compiles 119 = .ok (.iaload, 1) := by decide +kernel
theorem dX9_compiles_120 : decode cX9_compiles 120 = .ok (.iload_n 1, 1) := by decide +kernel
theorem dX9_compiles_121 : decode cX9_compiles 121 = .ok (.iand, 1) := by decide +kernel
theorem dX9_compiles_122 : decode cX9_compiles 122 = .ok (.ifCond .ne 20, 3) := by decide +kernel
theorem dX9_compiles_125 : decode cX9_compiles 125 = .ok (.aload_n 0, 1) := by decide +kernel
theorem dX9_compiles_126 : decode cX9_compiles 126 = .ok (.iconst 0, 1) := by decide +kernel
theorem dX9_compiles_127 : decode cX9_compiles 127 = .ok (.aload_n 0, 1) := by decide +kernel
theorem dX9_compiles_128 : decode cX9_compiles 128 = .ok (.getfield 7, 3) := by decide +kernel
theorem dX9_compiles_131 : decode cX9_compiles 131 = .ok (.iconst 1, 1) := by decide +kernel
theorem dX9_compiles_132 : decode cX9_compiles 132 = .ok (.iload_n 3, 1) := by decide +kernel
theorem dX9_compiles_133 : decode cX9_compiles 133 = .ok (.iadd, 1) := by decide +kernel
theorem dX9_compiles_134 : decode cX9_compiles 134 = .ok (.iaload, 1) := by decide +kernel
theorem dX9_compiles_135 : decode cX9_compiles 135 = .ok (.iload_n 2, 1) := by decide +kernel
theorem dX9_compiles_136 : decode cX9_compiles 136 = .ok (.iconst (-1), 1) := by decide +kernel
theorem dX9_compiles_137 : decode cX9_compiles 137 = .ok (.ixor, 1) := by decide +kernel
theorem dX9_compiles_138 : decode cX9_compiles 138 = .ok (.iand, 1) := by decide +kernel
theorem dX9_compiles_139 : decode cX9_compiles 139 = .ok (.invokevirtual 122, 3) := by decide +kernel
theorem dX9_compiles_142 : decode cX9_compiles 142 = .ok (.iinc 3 1, 3) := by decide +kernel
theorem dX9_compiles_145 : decode cX9_compiles 145 = .ok (.goto (-43), 3) := by decide +kernel
theorem dX9_compiles_148 : decode cX9_compiles 148 = .ok (.aload_n 0, 1) := by decide +kernel
theorem dX9_compiles_149 : decode cX9_compiles 149 = .ok (.aload_n 0, 1) := by decide +kernel
theorem dX9_compiles_150 : decode cX9_compiles 150 = .ok (.invokevirtual 157, 3) := by decide +kernel
theorem dX9_compiles_153 : decode cX9_compiles 153 = .ok (.putfield 160, 3) := by decide +kernel
theorem dX9_compiles_156 : decode cX9_compiles 156 = .ok (.return_, 1) := by decide +kernel
theorem dX9_nodes_0 : decode cX9_nodes 0 = .ok (.aload_n 0, 1) := by decide +kernel
theorem dX9_nodes_1 : decode cX9_nodes 1 = .ok (.invokevirtual 163, 3) := by decide +kernel
theorem dX9_nodes_4 : decode cX9_nodes 4 = .ok (.aload_n 0, 1) := by decide +kernel
theorem dX9_nodes_5 : decode cX9_nodes 5 = .ok (.getfield 135, 3) := by decide +kernel
theorem dX9_nodes_8 : decode cX9_nodes 8 = .ok (.iconst 2, 1) := by decide +kernel
theorem dX9_nodes_9 : decode cX9_nodes 9 = .ok (.isub, 1) := by decide +kernel
theorem dX9_nodes_10 : decode cX9_nodes 10 = .ok (.aload_n 0, 1) := by decide +kernel
theorem dX9_nodes_11 : decode cX9_nodes 11 = .ok (.getfield 129, 3) := by decide +kernel
theorem dX9_nodes_14 : decode cX9_nodes 14 = .ok (.ifCond .eq 7, 3) := by decide +kernel
theorem dX9_nodes_17 : decode cX9_nodes 17 = .ok (.iconst 1, 1) := by decide +kernel
theorem dX9_nodes_18 : decode cX9_nodes 18 = .ok (.goto 4, 3) := by decide +kernel
theorem dX9_nodes_21 : decode cX9_nodes 21 = .ok (.iconst 0, 1) := by decide +kernel
theorem dX9_nodes_22 : decode cX9_nodes 22 = .ok (.iadd, 1) := by decide +kernel
theorem dX9_nodes_23 : decode cX9_nodes 23 = .ok (.aload_n 0, 1) := by decide +kernel
theorem dX9_nodes_24 : decode cX9_nodes 24 = .ok (.getfield 126, 3) := by decide +kernel
theorem dX9_nodes_27 : decode cX9_nodes 27 = .ok (.ifCond .eq 7, 3) := by decide +kernel
theorem dX9_nodes_30 : decode cX9_nodes 30 = .ok (.iconst 1, 1) := by decide +kernel
theorem dX9_nodes_31 : decode cX9_nodes 31 = .ok (.goto 4, 3) := by decide +kernel
theorem dX9_nodes_34 : decode cX9_nodes 34 = .ok (.iconst 0, 1) := by decide +kernel
theorem dX9_nodes_35 : decode cX9_nodes 35 = .ok (.iadd, 1) := by decide +kernel
theorem dX9_nodes_36 : decode cX9_nodes 36 = .ok (.ireturn, 1) := by decide +kernel
theorem dX9_manyOf_0 : decode cX9_manyOf 0 = .ok (.aload_n 0, 1) := by decide +kernel
theorem dX9_manyOf_1 : decode cX9_manyOf 1 = .ok (.invokevirtual 163, 3) := by decide +kernel
theorem dX9_manyOf_4 : decode cX9_manyOf 4 = .ok (.iconst 0, 1) := by decide +kernel
theorem dX9_manyOf_5 : decode cX9_manyOf 5 = .ok (.istore_n 2, 1) := by decide +kernel
theorem dX9_manyOf_6 : decode cX9_manyOf 6 = .ok (.iconst 2, 1) := by decide +kernel
theorem dX9_manyOf_7 : decode cX9_manyOf 7 = .ok (.istore_n 3, 1) := by decide +kernel
theorem dX9_manyOf_8 : decode cX9_manyOf 8 = .ok (.iload_n 3, 1) := by decide +kernel
theorem dX9_manyOf_9 : decode cX9_manyOf 9 = .ok (.aload_n 0, 1) := by decide +kernel
theorem dX9_manyOf_10 : decode cX9_manyOf 10 = .ok (.getfield 135, 3) := by decide +kernel
theorem dX9_manyOf_13 : decode cX9_manyOf 13 = .ok (.if_icmp .ge 35, 3) := by decide +kernel
theorem dX9_manyOf_16 : decode cX9_manyOf 16 = .ok (.iload_n 2, 1) := by decide +kernel
theorem dX9_manyOf_17 : decode cX9_manyOf 17 = .ok (.aload_n 0, 1) := by decide +kernel
theorem dX9_manyOf_18 : decode cX9_manyOf 18 = .ok (.getfield 28, 3) := by decide +kernel
theorem dX9_manyOf_21 : decode cX9_manyOf 21 = .ok (.iload_n 3, 1) := by decide +kernel
theorem dX9_manyOf_22 : decode cX9_manyOf 22 = .ok (.iaload, 1) := by decide +kernel
theorem dX9_manyOf_23 : decode cX9_manyOf 23 = .ok (.ifCond .le 7, 3) := by decide +kernel
theorem dX9_manyOf_26 : decode cX9_manyOf 26 = .ok (.iconst 1, 1) := by decide +kernel
theorem dX9_manyOf_27 : decode cX9_manyOf 27 = .ok (.goto 4, 3) := by decide +kernel
theorem dX9_manyOf_30 : decode cX9_manyOf 30 = .ok (.iconst 0, 1) := by decide +kernel
theorem dX9_manyOf_31 : decode cX9_manyOf 31 = .ok (.iload_n 1, 1) := by decide +kernel
theorem dX9_manyOf_32 : decode cX9_manyOf 32 = .ok (.if_icmp .ne 7, 3) := by decide +kernel
theorem dX9_manyOf_35 : decode cX9_manyOf 35 = .ok (.iconst 1, 1) := by decide +kernel
theorem dX9_manyOf_36 : decode cX9_manyOf 36 = .ok (.goto 4, 3) := by decide +kernel
theorem dX9_manyOf_39 : decode cX9_manyOf 39 = .ok (.iconst 0, 1) := by decide +kernel
theorem dX9_manyOf_40 : decode cX9_manyOf 40 = .ok (.iadd, 1) := by decide +kernel
theorem dX9_manyOf_41 : decode cX9_manyOf 41 = .ok (.istore_n 2, 1) := by decide +kernel
theorem dX9_manyOf_42 : decode cX9_manyOf 42 = .ok (.iinc 3 1, 3) := by decide +kernel
theorem dX9_manyOf_45 : decode cX9_manyOf 45 = .ok (.goto (-37), 3) := by decide +kernel
theorem dX9_manyOf_48 : decode cX9_manyOf 48 = .ok (.iload_n 2, 1) := by decide +kernel
theorem dX9_manyOf_49 : decode cX9_manyOf 49 = .ok (.ireturn, 1) := by decide +kernel
theorem dX9_decisionNodes_0 : decode cX9_decisionNodes 0 = .ok (.aload_n 0, 1) := by decide +kernel
theorem dX9_decisionNodes_1 : decode cX9_decisionNodes 1 = .ok (.iconst 1, 1) := by decide +kernel
theorem dX9_decisionNodes_2 : decode cX9_decisionNodes 2 = .ok (.invokevirtual 166, 3) := by decide +kernel
theorem dX9_decisionNodes_5 : decode cX9_decisionNodes 5 = .ok (.ireturn, 1) := by decide +kernel
theorem dX9_andNodes_0 : decode cX9_andNodes 0 = .ok (.aload_n 0, 1) := by decide +kernel
theorem dX9_andNodes_1 : decode cX9_andNodes 1 = .ok (.iconst 0, 1) := by decide +kernel
theorem dX9_andNodes_2 : decode cX9_andNodes 2 = .ok (.invokevirtual 166, 3) := by decide +kernel
theorem dX9_andNodes_5 : decode cX9_andNodes 5 = .ok (.ireturn, 1) := by decide +kernel
theorem dX9_depth_0 : decode cX9_depth 0 = .ok (.aload_n 0, 1) := by decide +kernel
theorem dX9_depth_1 : decode cX9_depth 1 = .ok (.invokevirtual 163, 3) := by decide +kernel
theorem dX9_depth_4 : decode cX9_depth 4 = .ok (.aload_n 0, 1) := by decide +kernel
theorem dX9_depth_5 : decode cX9_depth 5 = .ok (.getfield 160, 3) := by decide +kernel
theorem dX9_depth_8 : decode cX9_depth 8 = .ok (.iconst 2, 1) := by decide +kernel
theorem dX9_depth_9 : decode cX9_depth 9 = .ok (.if_icmp .ge 7, 3) := by decide +kernel
theorem dX9_depth_12 : decode cX9_depth 12 = .ok (.iconst 0, 1) := by decide +kernel
theorem dX9_depth_13 : decode cX9_depth 13 = .ok (.goto 12, 3) := by decide +kernel
theorem dX9_depth_16 : decode cX9_depth 16 = .ok (.aload_n 0, 1) := by decide +kernel
theorem dX9_depth_17 : decode cX9_depth 17 = .ok (.getfield 34, 3) := by decide +kernel
theorem dX9_depth_20 : decode cX9_depth 20 = .ok (.aload_n 0, 1) := by decide +kernel
theorem dX9_depth_21 : decode cX9_depth 21 = .ok (.getfield 160, 3) := by decide +kernel
theorem dX9_depth_24 : decode cX9_depth 24 = .ok (.iaload, 1) := by decide +kernel
theorem dX9_depth_25 : decode cX9_depth 25 = .ok (.ireturn, 1) := by decide +kernel
theorem dX9_rootVariable_0 : decode cX9_rootVariable 0 = .ok (.aload_n 0, 1) := by decide +kernel
theorem dX9_rootVariable_1 : decode cX9_rootVariable 1 = .ok (.invokevirtual 163, 3) := by decide +kernel
theorem dX9_rootVariable_4 : decode cX9_rootVariable 4 = .ok (.aload_n 0, 1) := by decide +kernel
theorem dX9_rootVariable_5 : decode cX9_rootVariable 5 = .ok (.getfield 160, 3) := by decide +kernel
theorem dX9_rootVariable_8 : decode cX9_rootVariable 8 = .ok (.iconst 2, 1) := by decide +kernel
theorem dX9_rootVariable_9 : decode cX9_rootVariable 9 = .ok (.if_icmp .ge 12, 3) := by decide +kernel
theorem dX9_rootVariable_12 : decode cX9_rootVariable 12 = .ok (.aload_n 0, 1) := by decide +kernel
theorem dX9_rootVariable_13 : decode cX9_rootVariable 13 = .ok (.getfield 160, 3) := by decide +kernel
theorem dX9_rootVariable_16 : decode cX9_rootVariable 16 = .ok (.iconst 2, 1) := by decide +kernel
theorem dX9_rootVariable_17 : decode cX9_rootVariable 17 = .ok (.isub, 1) := by decide +kernel
theorem dX9_rootVariable_18 : decode cX9_rootVariable 18 = .ok (.goto 12, 3) := by decide +kernel
theorem dX9_rootVariable_21 : decode cX9_rootVariable 21 = .ok (.aload_n 0, 1) := by decide +kernel
theorem dX9_rootVariable_22 : decode cX9_rootVariable 22 = .ok (.getfield 28, 3) := by decide +kernel
theorem dX9_rootVariable_25 : decode cX9_rootVariable 25 = .ok (.aload_n 0, 1) := by decide +kernel
theorem dX9_rootVariable_26 : decode cX9_rootVariable 26 = .ok (.getfield 160, 3) := by decide +kernel
theorem dX9_rootVariable_29 : decode cX9_rootVariable 29 = .ok (.iaload, 1) := by decide +kernel
theorem dX9_rootVariable_30 : decode cX9_rootVariable 30 = .ok (.ireturn, 1) := by decide +kernel
theorem dX9_components_0 : decode cX9_components 0 = .ok (.aload_n 0, 1) := by decide +kernel
theorem dX9_components_1 : decode cX9_components 1 = .ok (.invokevirtual 163, 3) := by decide +kernel
theorem dX9_components_4 : decode cX9_components 4 = .ok (.aload_n 0, 1) := by decide +kernel
theorem dX9_components_5 : decode cX9_components 5 = .ok (.getfield 160, 3) := by decide +kernel
theorem dX9_components_8 : decode cX9_components 8 = .ok (.iconst 2, 1) := by decide +kernel
theorem dX9_components_9 : decode cX9_components 9 = .ok (.if_icmp .ge 7, 3) := by decide +kernel
theorem dX9_components_12 : decode cX9_components 12 = .ok (.iconst 0, 1) := by decide +kernel
theorem dX9_components_13 : decode cX9_components 13 = .ok (.goto 12, 3) := by decide +kernel
theorem dX9_components_16 : decode cX9_components 16 = .ok (.aload_n 0, 1) := by decide +kernel
theorem dX9_components_17 : decode cX9_components 17 = .ok (.getfield 31, 3) := by decide +kernel
theorem dX9_components_20 : decode cX9_components 20 = .ok (.aload_n 0, 1) := by decide +kernel
theorem dX9_components_21 : decode cX9_components 21 = .ok (.getfield 160, 3) := by decide +kernel
theorem dX9_components_24 : decode cX9_components 24 = .ok (.iaload, 1) := by decide +kernel
theorem dX9_components_25 : decode cX9_components 25 = .ok (.ireturn, 1) := by decide +kernel
theorem dX9_isModel_0 : decode cX9_isModel 0 = .ok (.iload_n 1, 1) := by decide +kernel
theorem dX9_isModel_1 : decode cX9_isModel 1 = .ok (.aload_n 0, 1) := by decide +kernel
theorem dX9_isModel_2 : decode cX9_isModel 2 = .ok (.getfield 7, 3) := by decide +kernel
theorem dX9_isModel_5 : decode cX9_isModel 5 = .ok (.bipush 18, 2) := by decide +kernel
theorem dX9_isModel_7 : decode cX9_isModel 7 = .ok (.iaload, 1) := by decide +kernel
theorem dX9_isModel_8 : decode cX9_isModel 8 = .ok (.iand, 1) := by decide +kernel
theorem dX9_isModel_9 : decode cX9_isModel 9 = .ok (.ifCond .ne 21, 3) := by decide +kernel
theorem dX9_isModel_12 : decode cX9_isModel 12 = .ok (.aload_n 0, 1) := by decide +kernel
theorem dX9_isModel_13 : decode cX9_isModel 13 = .ok (.getfield 7, 3) := by decide +kernel
theorem dX9_isModel_16 : decode cX9_isModel 16 = .ok (.bipush 17, 2) := by decide +kernel
theorem dX9_isModel_18 : decode cX9_isModel 18 = .ok (.iaload, 1) := by decide +kernel
theorem dX9_isModel_19 : decode cX9_isModel 19 = .ok (.iload_n 1, 1) := by decide +kernel
theorem dX9_isModel_20 : decode cX9_isModel 20 = .ok (.iconst (-1), 1) := by decide +kernel
theorem dX9_isModel_21 : decode cX9_isModel 21 = .ok (.ixor, 1) := by decide +kernel
theorem dX9_isModel_22 : decode cX9_isModel 22 = .ok (.iand, 1) := by decide +kernel
theorem dX9_isModel_23 : decode cX9_isModel 23 = .ok (.ifCond .ne 7, 3) := by decide +kernel
theorem dX9_isModel_26 : decode cX9_isModel 26 = .ok (.iconst 1, 1) := by decide +kernel
theorem dX9_isModel_27 : decode cX9_isModel 27 = .ok (.goto 4, 3) := by decide +kernel
theorem dX9_isModel_30 : decode cX9_isModel 30 = .ok (.iconst 0, 1) := by decide +kernel
theorem dX9_isModel_31 : decode cX9_isModel 31 = .ok (.istore_n 2, 1) := by decide +kernel
theorem dX9_isModel_32 : decode cX9_isModel 32 = .ok (.iconst 0, 1) := by decide +kernel
theorem dX9_isModel_33 : decode cX9_isModel 33 = .ok (.istore_n 3, 1) := by decide +kernel
theorem dX9_isModel_34 : decode cX9_isModel 34 = .ok (.iload_n 3, 1) := by decide +kernel
theorem dX9_isModel_35 : decode cX9_isModel 35 = .ok (.aload_n 0, 1) := by decide +kernel
theorem dX9_isModel_36 : decode cX9_isModel 36 = .ok (.getfield 7, 3) := by decide +kernel
theorem dX9_isModel_39 : decode cX9_isModel 39 = .ok (.iconst 0, 1) := by decide +kernel
theorem dX9_isModel_40 : decode cX9_isModel 40 = .ok (.iaload, 1) := by decide +kernel
theorem dX9_isModel_41 : decode cX9_isModel 41 = .ok (.if_icmp .ge 43, 3) := by decide +kernel
theorem dX9_isModel_44 : decode cX9_isModel 44 = .ok (.iload_n 2, 1) := by decide +kernel
theorem dX9_isModel_45 : decode cX9_isModel 45 = .ok (.ifCond .eq 39, 3) := by decide +kernel
theorem dX9_isModel_48 : decode cX9_isModel 48 = .ok (.aload_n 0, 1) := by decide +kernel
theorem dX9_isModel_49 : decode cX9_isModel 49 = .ok (.getfield 7, 3) := by decide +kernel
theorem dX9_isModel_52 : decode cX9_isModel 52 = .ok (.iconst 1, 1) := by decide +kernel
theorem dX9_isModel_53 : decode cX9_isModel 53 = .ok (.iload_n 3, 1) := by decide +kernel
theorem dX9_isModel_54 : decode cX9_isModel 54 = .ok (.iadd, 1) := by decide +kernel
theorem dX9_isModel_55 : decode cX9_isModel 55 = .ok (.iaload, 1) := by decide +kernel
theorem dX9_isModel_56 : decode cX9_isModel 56 = .ok (.iload_n 1, 1) := by decide +kernel
theorem dX9_isModel_57 : decode cX9_isModel 57 = .ok (.sipush 1023, 3) := by decide +kernel
theorem dX9_isModel_60 : decode cX9_isModel 60 = .ok (.iload_n 1, 1) := by decide +kernel
theorem dX9_isModel_61 : decode cX9_isModel 61 = .ok (.iconst (-1), 1) := by decide +kernel
theorem dX9_isModel_62 : decode cX9_isModel 62 = .ok (.ixor, 1) := by decide +kernel
theorem dX9_isModel_63 : decode cX9_isModel 63 = .ok (.iand, 1) := by decide +kernel
theorem dX9_isModel_64 : decode cX9_isModel 64 = .ok (.bipush 10, 2) := by decide +kernel
theorem dX9_isModel_66 : decode cX9_isModel 66 = .ok (.ishl, 1) := by decide +kernel
theorem dX9_isModel_67 : decode cX9_isModel 67 = .ok (.ior, 1) := by decide +kernel
theorem dX9_isModel_68 : decode cX9_isModel 68 = .ok (.iand, 1) := by decide +kernel
theorem dX9_isModel_69 : decode cX9_isModel 69 = .ok (.ifCond .eq 7, 3) := by decide +kernel
theorem dX9_isModel_72 : decode cX9_isModel 72 = .ok (.iconst 1, 1) := by decide +kernel
theorem dX9_isModel_73 : decode cX9_isModel 73 = .ok (.goto 4, 3) := by decide +kernel
theorem dX9_isModel_76 : decode cX9_isModel 76 = .ok (.iconst 0, 1) := by decide +kernel
theorem dX9_isModel_77 : decode cX9_isModel 77 = .ok (.istore_n 2, 1) := by decide +kernel
theorem dX9_isModel_78 : decode cX9_isModel 78 = .ok (.iinc 3 1, 3) := by decide +kernel
theorem dX9_isModel_81 : decode cX9_isModel 81 = .ok (.goto (-47), 3) := by decide +kernel
theorem dX9_isModel_84 : decode cX9_isModel 84 = .ok (.iload_n 2, 1) := by decide +kernel
theorem dX9_isModel_85 : decode cX9_isModel 85 = .ok (.ireturn, 1) := by decide +kernel
theorem dX9_lists_0 : decode cX9_lists 0 = .ok (.aload_n 0, 1) := by decide +kernel
theorem dX9_lists_1 : decode cX9_lists 1 = .ok (.getfield 81, 3) := by decide +kernel
theorem dX9_lists_4 : decode cX9_lists 4 = .ok (.ifCond .eq 4, 3) := by decide +kernel
theorem dX9_lists_7 : decode cX9_lists 7 = .ok (.return_, 1) := by decide +kernel
theorem dX9_lists_8 : decode cX9_lists 8 = .ok (.aload_n 0, 1) := by decide +kernel
theorem dX9_lists_9 : decode cX9_lists 9 = .ok (.iconst 1, 1) := by decide +kernel
theorem dX9_lists_10 : decode cX9_lists 10 = .ok (.putfield 81, 3) := by decide +kernel
theorem dX9_lists_13 : decode cX9_lists 13 = .ok (.aload_n 0, 1) := by decide +kernel
theorem dX9_lists_14 : decode cX9_lists 14 = .ok (.iconst 0, 1) := by decide +kernel
theorem dX9_lists_15 : decode cX9_lists 15 = .ok (.putfield 170, 3) := by decide +kernel
theorem dX9_lists_18 : decode cX9_lists 18 = .ok (.iconst 0, 1) := by decide +kernel
theorem dX9_lists_19 : decode cX9_lists 19 = .ok (.istore_n 1, 1) := by decide +kernel
theorem dX9_lists_20 : decode cX9_lists 20 = .ok (.iload_n 1, 1) := by decide +kernel
theorem dX9_lists_21 : decode cX9_lists 21 = .ok (.sipush 1023, 3) := by decide +kernel
theorem dX9_lists_24 : decode cX9_lists 24 = .ok (.if_icmp .gt 37, 3) := by decide +kernel
theorem dX9_lists_27 : decode cX9_lists 27 = .ok (.aload_n 0, 1) := by decide +kernel
theorem dX9_lists_28 : decode cX9_lists 28 = .ok (.iload_n 1, 1) := by decide +kernel
theorem dX9_lists_29 : decode cX9_lists 29 = .ok (.invokevirtual 173, 3) := by decide +kernel
theorem dX9_lists_32 : decode cX9_lists 32 = .ok (.ifCond .eq 23, 3) := by decide +kernel
theorem dX9_lists_35 : decode cX9_lists 35 = .ok (.aload_n 0, 1) := by decide +kernel
theorem dX9_lists_36 : decode cX9_lists 36 = .ok (.getfield 59, 3) := by decide +kernel
theorem dX9_lists_39 : decode cX9_lists 39 = .ok (.aload_n 0, 1) := by decide +kernel
theorem dX9_lists_40 : decode cX9_lists 40 = .ok (.getfield 170, 3) := by decide +kernel
theorem dX9_lists_43 : decode cX9_lists 43 = .ok (.iload_n 1, 1) := by decide +kernel
theorem dX9_lists_44 : decode cX9_lists 44 = .ok (.iastore, 1) := by decide +kernel
theorem dX9_lists_45 : decode cX9_lists 45 = .ok (.aload_n 0, 1) := by decide +kernel
theorem dX9_lists_46 : decode cX9_lists 46 = .ok (.dup, 1) := by decide +kernel
theorem dX9_lists_47 : decode cX9_lists 47 = .ok (.getfield 170, 3) := by decide +kernel
theorem dX9_lists_50 : decode cX9_lists 50 = .ok (.iconst 1, 1) := by decide +kernel
theorem dX9_lists_51 : decode cX9_lists 51 = .ok (.iadd, 1) := by decide +kernel
theorem dX9_lists_52 : decode cX9_lists 52 = .ok (.putfield 170, 3) := by decide +kernel
theorem dX9_lists_55 : decode cX9_lists 55 = .ok (.iinc 1 1, 3) := by decide +kernel
theorem dX9_lists_58 : decode cX9_lists 58 = .ok (.goto (-38), 3) := by decide +kernel
theorem dX9_lists_61 : decode cX9_lists 61 = .ok (.return_, 1) := by decide +kernel
theorem dX9_modelsBy_0 : decode cX9_modelsBy 0 = .ok (.aload_n 0, 1) := by decide +kernel
theorem dX9_modelsBy_1 : decode cX9_modelsBy 1 = .ok (.invokevirtual 176, 3) := by decide +kernel
theorem dX9_modelsBy_4 : decode cX9_modelsBy 4 = .ok (.iconst 0, 1) := by decide +kernel
theorem dX9_modelsBy_5 : decode cX9_modelsBy 5 = .ok (.istore_n 2, 1) := by decide +kernel
theorem dX9_modelsBy_6 : decode cX9_modelsBy 6 = .ok (.iconst 0, 1) := by decide +kernel
theorem dX9_modelsBy_7 : decode cX9_modelsBy 7 = .ok (.istore_n 3, 1) := by decide +kernel
theorem dX9_modelsBy_8 : decode cX9_modelsBy 8 = .ok (.iload_n 3, 1) := by decide +kernel
theorem dX9_modelsBy_9 : decode cX9_modelsBy 9 = .ok (.aload_n 0, 1) := by decide +kernel
theorem dX9_modelsBy_10 : decode cX9_modelsBy 10 = .ok (.getfield 170, 3) := by decide +kernel
theorem dX9_modelsBy_13 : decode cX9_modelsBy 13 = .ok (.if_icmp .ge 46, 3) := by decide +kernel
theorem dX9_modelsBy_16 : decode cX9_modelsBy 16 = .ok (.aload_n 0, 1) := by decide +kernel
theorem dX9_modelsBy_17 : decode cX9_modelsBy 17 = .ok (.getfield 59, 3) := by decide +kernel
theorem dX9_modelsBy_20 : decode cX9_modelsBy 20 = .ok (.iload_n 3, 1) := by decide +kernel
theorem dX9_modelsBy_21 : decode cX9_modelsBy 21 = .ok (.iaload, 1) := by decide +kernel
theorem dX9_modelsBy_22 : decode cX9_modelsBy 22 = .ok (.istore 4, 2) := by decide +kernel
theorem dX9_modelsBy_24 : decode cX9_modelsBy 24 = .ok (.iload_n 2, 1) := by decide +kernel
theorem dX9_modelsBy_25 : decode cX9_modelsBy 25 = .ok (.iload_n 1, 1) := by decide +kernel
theorem dX9_modelsBy_26 : decode cX9_modelsBy 26 = .ok (.iload 4, 2) := by decide +kernel
theorem dX9_modelsBy_28 : decode cX9_modelsBy 28 = .ok (.sipush 1023, 3) := by decide +kernel
theorem dX9_modelsBy_31 : decode cX9_modelsBy 31 = .ok (.iload 4, 2) := by decide +kernel
theorem dX9_modelsBy_33 : decode cX9_modelsBy 33 = .ok (.iconst (-1), 1) := by decide +kernel
theorem dX9_modelsBy_34 : decode cX9_modelsBy 34 = .ok (.ixor, 1) := by decide +kernel
theorem dX9_modelsBy_35 : decode cX9_modelsBy 35 = .ok (.iand, 1) := by decide +kernel
theorem dX9_modelsBy_36 : decode cX9_modelsBy 36 = .ok (.bipush 10, 2) := by decide +kernel
theorem dX9_modelsBy_38 : decode cX9_modelsBy 38 = .ok (.ishl, 1) := by decide +kernel
theorem dX9_modelsBy_39 : decode cX9_modelsBy 39 = .ok (.ior, 1) := by decide +kernel
theorem dX9_modelsBy_40 : decode cX9_modelsBy 40 = .ok (.iconst (-1), 1) := by decide +kernel
theorem dX9_modelsBy_41 : decode cX9_modelsBy 41 = .ok (.ixor, 1) := by decide +kernel
theorem dX9_modelsBy_42 : decode cX9_modelsBy 42 = .ok (.iand, 1) := by decide +kernel
theorem dX9_modelsBy_43 : decode cX9_modelsBy 43 = .ok (.ifCond .ne 7, 3) := by decide +kernel
theorem dX9_modelsBy_46 : decode cX9_modelsBy 46 = .ok (.iconst 1, 1) := by decide +kernel
theorem dX9_modelsBy_47 : decode cX9_modelsBy 47 = .ok (.goto 4, 3) := by decide +kernel
theorem dX9_modelsBy_50 : decode cX9_modelsBy 50 = .ok (.iconst 0, 1) := by decide +kernel
theorem dX9_modelsBy_51 : decode cX9_modelsBy 51 = .ok (.iadd, 1) := by decide +kernel
theorem dX9_modelsBy_52 : decode cX9_modelsBy 52 = .ok (.istore_n 2, 1) := by decide +kernel
theorem dX9_modelsBy_53 : decode cX9_modelsBy 53 = .ok (.iinc 3 1, 3) := by decide +kernel
theorem dX9_modelsBy_56 : decode cX9_modelsBy 56 = .ok (.goto (-48), 3) := by decide +kernel
theorem dX9_modelsBy_59 : decode cX9_modelsBy 59 = .ok (.iload_n 2, 1) := by decide +kernel
theorem dX9_modelsBy_60 : decode cX9_modelsBy 60 = .ok (.ireturn, 1) := by decide +kernel
theorem dX9_models_0 : decode cX9_models 0 = .ok (.aload_n 0, 1) := by decide +kernel
theorem dX9_models_1 : decode cX9_models 1 = .ok (.iconst 0, 1) := by decide +kernel
theorem dX9_models_2 : decode cX9_models 2 = .ok (.invokevirtual 179, 3) := by decide +kernel
theorem dX9_models_5 : decode cX9_models 5 = .ok (.ireturn, 1) := by decide +kernel
theorem dX9_modelsWith_0 : decode cX9_modelsWith 0 = .ok (.iload_n 1, 1) := by decide +kernel
theorem dX9_modelsWith_1 : decode cX9_modelsWith 1 = .ok (.invokestatic 104, 3) := by decide +kernel
theorem dX9_modelsWith_4 : decode cX9_modelsWith 4 = .ok (.ifCond .eq 14, 3) := by decide +kernel
theorem dX9_modelsWith_7 : decode cX9_modelsWith 7 = .ok (.aload_n 0, 1) := by decide +kernel
theorem dX9_modelsWith_8 : decode cX9_modelsWith 8 = .ok (.iload_n 1, 1) := by decide +kernel
theorem dX9_modelsWith_9 : decode cX9_modelsWith 9 = .ok (.invokestatic 88, 3) := by decide +kernel
theorem dX9_modelsWith_12 : decode cX9_modelsWith 12 = .ok (.invokevirtual 179, 3) := by decide +kernel
theorem dX9_modelsWith_15 : decode cX9_modelsWith 15 = .ok (.goto 9, 3) := by decide +kernel
theorem dX9_modelsWith_18 : decode cX9_modelsWith 18 = .ok (.aload_n 0, 1) := by decide +kernel
theorem dX9_modelsWith_19 : decode cX9_modelsWith 19 = .ok (.bipush (-2), 2) := by decide +kernel
theorem dX9_modelsWith_21 : decode cX9_modelsWith 21 = .ok (.invokevirtual 84, 3) := by decide +kernel
theorem dX9_modelsWith_24 : decode cX9_modelsWith 24 = .ok (.ireturn, 1) := by decide +kernel
theorem dX9_weightedCount_0 : decode cX9_weightedCount 0 = .ok (.lconst 0, 1) := by decide +kernel
theorem dX9_weightedCount_1 : decode cX9_weightedCount 1 = .ok (.lstore_n 1, 1) := by decide +kernel
theorem dX9_weightedCount_2 : decode cX9_weightedCount 2 = .ok (.iconst 0, 1) := by decide +kernel
theorem dX9_weightedCount_3 : decode cX9_weightedCount 3 = .ok (.istore_n 3, 1) := by decide +kernel
theorem dX9_weightedCount_4 : decode cX9_weightedCount 4 = .ok (.iload_n 3, 1) := by decide +kernel
theorem dX9_weightedCount_5 : decode cX9_weightedCount 5 = .ok (.sipush 1023, 3) := by decide +kernel
theorem dX9_weightedCount_8 : decode cX9_weightedCount 8 = .ok (.if_icmp .gt 68, 3) := by decide +kernel
theorem dX9_weightedCount_11 : decode cX9_weightedCount 11 = .ok (.aload_n 0, 1) := by decide +kernel
theorem dX9_weightedCount_12 : decode cX9_weightedCount 12 = .ok (.iload_n 3, 1) := by decide +kernel
theorem dX9_weightedCount_13 : decode cX9_weightedCount 13 = .ok (.invokevirtual 173, 3) := by decide +kernel
theorem dX9_weightedCount_16 : decode cX9_weightedCount 16 = .ok (.ifCond .eq 54, 3) := by decide +kernel
theorem dX9_weightedCount_19 : decode cX9_weightedCount 19 = .ok (.lconst 1, 1) := by decide +kernel
theorem dX9_weightedCount_20 : decode cX9_weightedCount 20 = .ok (.lstore 4, 2) := by decide +kernel
theorem dX9_weightedCount_22 : decode cX9_weightedCount 22 = .ok (.iconst 0, 1) := by decide +kernel
theorem dX9_weightedCount_23 : decode cX9_weightedCount 23 = .ok (.istore 6, 2) := by decide +kernel
theorem dX9_weightedCount_25 : decode cX9_weightedCount 25 = .ok (.iload 6, 2) := by decide +kernel
theorem dX9_weightedCount_27 : decode cX9_weightedCount 27 = .ok (.bipush 10, 2) := by decide +kernel
theorem dX9_weightedCount_29 : decode cX9_weightedCount 29 = .ok (.if_icmp .ge 36, 3) := by decide +kernel
theorem dX9_weightedCount_32 : decode cX9_weightedCount 32 = .ok (.lload 4, 2) := by decide +kernel
theorem dX9_weightedCount_34 : decode cX9_weightedCount 34 = .ok (.aload_n 0, 1) := by decide +kernel
theorem dX9_weightedCount_35 : decode cX9_weightedCount 35 = .ok (.getfield 7, 3) := by decide +kernel
theorem dX9_weightedCount_38 : decode cX9_weightedCount 38 = .ok (.bipush 19, 2) := by decide +kernel
theorem dX9_weightedCount_40 : decode cX9_weightedCount 40 = .ok (.iconst 2, 1) := by decide +kernel
theorem dX9_weightedCount_41 : decode cX9_weightedCount 41 = .ok (.iload 6, 2) := by decide +kernel
theorem dX9_weightedCount_43 : decode cX9_weightedCount 43 = .ok (.imul, 1) := by decide +kernel
theorem dX9_weightedCount_44 : decode cX9_weightedCount 44 = .ok (.iadd, 1) := by decide +kernel
theorem dX9_weightedCount_45 : decode cX9_weightedCount 45 = .ok (.iconst 1, 1) := by decide +kernel
theorem dX9_weightedCount_46 : decode cX9_weightedCount 46 = .ok (.iadd, 1) := by decide +kernel
theorem dX9_weightedCount_47 : decode cX9_weightedCount 47 = .ok (.iload_n 3, 1) := by decide +kernel
theorem dX9_weightedCount_48 : decode cX9_weightedCount 48 = .ok (.iload 6, 2) := by decide +kernel
theorem dX9_weightedCount_50 : decode cX9_weightedCount 50 = .ok (.ishr, 1) := by decide +kernel
theorem dX9_weightedCount_51 : decode cX9_weightedCount 51 = .ok (.iconst 1, 1) := by decide +kernel
theorem dX9_weightedCount_52 : decode cX9_weightedCount 52 = .ok (.iand, 1) := by decide +kernel
theorem dX9_weightedCount_53 : decode cX9_weightedCount 53 = .ok (.isub, 1) := by decide +kernel
theorem dX9_weightedCount_54 : decode cX9_weightedCount 54 = .ok (.iaload, 1) := by decide +kernel
theorem dX9_weightedCount_55 : decode cX9_weightedCount 55 = .ok (.i2l, 1) := by decide +kernel
theorem dX9_weightedCount_56 : decode cX9_weightedCount 56 = .ok (.lmul, 1) := by decide +kernel
theorem dX9_weightedCount_57 : decode cX9_weightedCount 57 = .ok (.lstore 4, 2) := by decide +kernel
theorem dX9_weightedCount_59 : decode cX9_weightedCount 59 = .ok (.iinc 6 1, 3) := by decide +kernel
theorem dX9_weightedCount_62 : decode cX9_weightedCount 62 = .ok (.goto (-37), 3) := by decide +kernel
theorem dX9_weightedCount_65 : decode cX9_weightedCount 65 = .ok (.lload_n 1, 1) := by decide +kernel
theorem dX9_weightedCount_66 : decode cX9_weightedCount 66 = .ok (.lload 4, 2) := by decide +kernel
theorem dX9_weightedCount_68 : decode cX9_weightedCount 68 = .ok (.ladd, 1) := by decide +kernel
theorem dX9_weightedCount_69 : decode cX9_weightedCount 69 = .ok (.lstore_n 1, 1) := by decide +kernel
theorem dX9_weightedCount_70 : decode cX9_weightedCount 70 = .ok (.iinc 3 1, 3) := by decide +kernel
theorem dX9_weightedCount_73 : decode cX9_weightedCount 73 = .ok (.goto (-69), 3) := by decide +kernel
theorem dX9_weightedCount_76 : decode cX9_weightedCount 76 = .ok (.lload_n 1, 1) := by decide +kernel
theorem dX9_weightedCount_77 : decode cX9_weightedCount 77 = .ok (.lreturn, 1) := by decide +kernel
theorem dX9_shareBits_0 : decode cX9_shareBits 0 = .ok (.aload_n 0, 1) := by decide +kernel
theorem dX9_shareBits_1 : decode cX9_shareBits 1 = .ok (.invokevirtual 182, 3) := by decide +kernel
theorem dX9_shareBits_4 : decode cX9_shareBits 4 = .ok (.i2f, 1) := by decide +kernel
theorem dX9_shareBits_5 : decode cX9_shareBits 5 = .ok (.ldc 185, 2) := by decide +kernel
theorem dX9_shareBits_7 : decode cX9_shareBits 7 = .ok (.fdiv, 1) := by decide +kernel
theorem dX9_shareBits_8 : decode cX9_shareBits 8 = .ok (.invokestatic 186, 3) := by decide +kernel
theorem dX9_shareBits_11 : decode cX9_shareBits 11 = .ok (.ireturn, 1) := by decide +kernel
theorem dX9_implied_0 : decode cX9_implied 0 = .ok (.iload_n 1, 1) := by decide +kernel
theorem dX9_implied_1 : decode cX9_implied 1 = .ok (.iconst 1, 1) := by decide +kernel
theorem dX9_implied_2 : decode cX9_implied 2 = .ok (.if_icmp .eq 15, 3) := by decide +kernel
theorem dX9_implied_5 : decode cX9_implied 5 = .ok (.iload_n 1, 1) := by decide +kernel
theorem dX9_implied_6 : decode cX9_implied 6 = .ok (.iconst (-1), 1) := by decide +kernel
theorem dX9_implied_7 : decode cX9_implied 7 = .ok (.if_icmp .eq 10, 3) := by decide +kernel
theorem dX9_implied_10 : decode cX9_implied 10 = .ok (.aload_n 0, 1) := by decide +kernel
theorem dX9_implied_11 : decode cX9_implied 11 = .ok (.bipush (-2), 2) := by decide +kernel
theorem dX9_implied_13 : decode cX9_implied 13 = .ok (.invokevirtual 84, 3) := by decide +kernel
theorem dX9_implied_16 : decode cX9_implied 16 = .ok (.ireturn, 1) := by decide +kernel
theorem dX9_implied_17 : decode cX9_implied 17 = .ok (.sipush 1023, 3) := by decide +kernel
theorem dX9_implied_20 : decode cX9_implied 20 = .ok (.istore_n 2, 1) := by decide +kernel
theorem dX9_implied_21 : decode cX9_implied 21 = .ok (.iconst 0, 1) := by decide +kernel
theorem dX9_implied_22 : decode cX9_implied 22 = .ok (.istore_n 3, 1) := by decide +kernel
theorem dX9_implied_23 : decode cX9_implied 23 = .ok (.iload_n 3, 1) := by decide +kernel
theorem dX9_implied_24 : decode cX9_implied 24 = .ok (.sipush 1023, 3) := by decide +kernel
theorem dX9_implied_27 : decode cX9_implied 27 = .ok (.if_icmp .gt 32, 3) := by decide +kernel
theorem dX9_implied_30 : decode cX9_implied 30 = .ok (.aload_n 0, 1) := by decide +kernel
theorem dX9_implied_31 : decode cX9_implied 31 = .ok (.iload_n 3, 1) := by decide +kernel
theorem dX9_implied_32 : decode cX9_implied 32 = .ok (.invokevirtual 173, 3) := by decide +kernel
theorem dX9_implied_35 : decode cX9_implied 35 = .ok (.ifCond .eq 18, 3) := by decide +kernel
theorem dX9_implied_38 : decode cX9_implied 38 = .ok (.iload_n 2, 1) := by decide +kernel
theorem dX9_implied_39 : decode cX9_implied 39 = .ok (.iload_n 1, 1) := by decide +kernel
theorem dX9_implied_40 : decode cX9_implied 40 = .ok (.iconst 1, 1) := by decide +kernel
theorem dX9_implied_41 : decode cX9_implied 41 = .ok (.if_icmp .ne 7, 3) := by decide +kernel
theorem dX9_implied_44 : decode cX9_implied 44 = .ok (.iload_n 3, 1) := by decide +kernel
theorem dX9_implied_45 : decode cX9_implied 45 = .ok (.goto 6, 3) := by decide +kernel
theorem dX9_implied_48 : decode cX9_implied 48 = .ok (.iload_n 3, 1) := by decide +kernel
theorem dX9_implied_49 : decode cX9_implied 49 = .ok (.iconst (-1), 1) := by decide +kernel
theorem dX9_implied_50 : decode cX9_implied 50 = .ok (.ixor, 1) := by decide +kernel
theorem dX9_implied_51 : decode cX9_implied 51 = .ok (.iand, 1) := by decide +kernel
theorem dX9_implied_52 : decode cX9_implied 52 = .ok (.istore_n 2, 1) := by decide +kernel
theorem dX9_implied_53 : decode cX9_implied 53 = .ok (.iinc 3 1, 3) := by decide +kernel
theorem dX9_implied_56 : decode cX9_implied 56 = .ok (.goto (-33), 3) := by decide +kernel
theorem dX9_implied_59 : decode cX9_implied 59 = .ok (.iload_n 2, 1) := by decide +kernel
theorem dX9_implied_60 : decode cX9_implied 60 = .ok (.ireturn, 1) := by decide +kernel
theorem dX9_leastModel_0 : decode cX9_leastModel 0 = .ok (.iconst 0, 1) := by decide +kernel
theorem dX9_leastModel_1 : decode cX9_leastModel 1 = .ok (.istore_n 1, 1) := by decide +kernel
theorem dX9_leastModel_2 : decode cX9_leastModel 2 = .ok (.iload_n 1, 1) := by decide +kernel
theorem dX9_leastModel_3 : decode cX9_leastModel 3 = .ok (.sipush 1023, 3) := by decide +kernel
theorem dX9_leastModel_6 : decode cX9_leastModel 6 = .ok (.if_icmp .gt 19, 3) := by decide +kernel
theorem dX9_leastModel_9 : decode cX9_leastModel 9 = .ok (.aload_n 0, 1) := by decide +kernel
theorem dX9_leastModel_10 : decode cX9_leastModel 10 = .ok (.iload_n 1, 1) := by decide +kernel
theorem dX9_leastModel_11 : decode cX9_leastModel 11 = .ok (.invokevirtual 173, 3) := by decide +kernel
theorem dX9_leastModel_14 : decode cX9_leastModel 14 = .ok (.ifCond .eq 5, 3) := by decide +kernel
theorem dX9_leastModel_17 : decode cX9_leastModel 17 = .ok (.iload_n 1, 1) := by decide +kernel
theorem dX9_leastModel_18 : decode cX9_leastModel 18 = .ok (.ireturn, 1) := by decide +kernel
theorem dX9_leastModel_19 : decode cX9_leastModel 19 = .ok (.iinc 1 1, 3) := by decide +kernel
theorem dX9_leastModel_22 : decode cX9_leastModel 22 = .ok (.goto (-20), 3) := by decide +kernel
theorem dX9_leastModel_25 : decode cX9_leastModel 25 = .ok (.iconst (-1), 1) := by decide +kernel
theorem dX9_leastModel_26 : decode cX9_leastModel 26 = .ok (.ireturn, 1) := by decide +kernel
theorem dX9_literalBy_0 : decode cX9_literalBy 0 = .ok (.iload_n 0, 1) := by decide +kernel
theorem dX9_literalBy_1 : decode cX9_literalBy 1 = .ok (.iconst 2, 1) := by decide +kernel
theorem dX9_literalBy_2 : decode cX9_literalBy 2 = .ok (.irem, 1) := by decide +kernel
theorem dX9_literalBy_3 : decode cX9_literalBy 3 = .ok (.ifCond .ne 9, 3) := by decide +kernel
theorem dX9_literalBy_6 : decode cX9_literalBy 6 = .ok (.iload_n 0, 1) := by decide +kernel
theorem dX9_literalBy_7 : decode cX9_literalBy 7 = .ok (.iconst 2, 1) := by decide +kernel
theorem dX9_literalBy_8 : decode cX9_literalBy 8 = .ok (.idiv, 1) := by decide +kernel
theorem dX9_literalBy_9 : decode cX9_literalBy 9 = .ok (.goto 7, 3) := by decide +kernel
theorem dX9_literalBy_12 : decode cX9_literalBy 12 = .ok (.iload_n 0, 1) := by decide +kernel
theorem dX9_literalBy_13 : decode cX9_literalBy 13 = .ok (.iconst 2, 1) := by decide +kernel
theorem dX9_literalBy_14 : decode cX9_literalBy 14 = .ok (.idiv, 1) := by decide +kernel
theorem dX9_literalBy_15 : decode cX9_literalBy 15 = .ok (.ineg, 1) := by decide +kernel
theorem dX9_literalBy_16 : decode cX9_literalBy 16 = .ok (.ireturn, 1) := by decide +kernel
theorem dX9_explains_0 : decode cX9_explains 0 = .ok (.aload_n 0, 1) := by decide +kernel
theorem dX9_explains_1 : decode cX9_explains 1 = .ok (.iload_n 1, 1) := by decide +kernel
theorem dX9_explains_2 : decode cX9_explains 2 = .ok (.invokevirtual 179, 3) := by decide +kernel
theorem dX9_explains_5 : decode cX9_explains 5 = .ok (.istore_n 3, 1) := by decide +kernel
theorem dX9_explains_6 : decode cX9_explains 6 = .ok (.iload_n 3, 1) := by decide +kernel
theorem dX9_explains_7 : decode cX9_explains 7 = .ok (.ifCond .le 21, 3) := by decide +kernel
theorem dX9_explains_10 : decode cX9_explains 10 = .ok (.aload_n 0, 1) := by decide +kernel
theorem dX9_explains_11 : decode cX9_explains 11 = .ok (.iload_n 1, 1) := by decide +kernel
theorem dX9_explains_12 : decode cX9_explains 12 = .ok (.iload_n 2, 1) := by decide +kernel
theorem dX9_explains_13 : decode cX9_explains 13 = .ok (.invokestatic 88, 3) := by decide +kernel
theorem dX9_explains_16 : decode cX9_explains 16 = .ok (.ior, 1) := by decide +kernel
theorem dX9_explains_17 : decode cX9_explains 17 = .ok (.invokevirtual 179, 3) := by decide +kernel
theorem dX9_explains_20 : decode cX9_explains 20 = .ok (.iload_n 3, 1) := by decide +kernel
theorem dX9_explains_21 : decode cX9_explains 21 = .ok (.if_icmp .ne 7, 3) := by decide +kernel
theorem dX9_explains_24 : decode cX9_explains 24 = .ok (.iconst 1, 1) := by decide +kernel
theorem dX9_explains_25 : decode cX9_explains 25 = .ok (.goto 4, 3) := by decide +kernel
theorem dX9_explains_28 : decode cX9_explains 28 = .ok (.iconst 0, 1) := by decide +kernel
theorem dX9_explains_29 : decode cX9_explains 29 = .ok (.ireturn, 1) := by decide +kernel
theorem dX9_mayBe_0 : decode cX9_mayBe 0 = .ok (.iload_n 1, 1) := by decide +kernel
theorem dX9_mayBe_1 : decode cX9_mayBe 1 = .ok (.invokestatic 192, 3) := by decide +kernel
theorem dX9_mayBe_4 : decode cX9_mayBe 4 = .ok (.invokestatic 88, 3) := by decide +kernel
theorem dX9_mayBe_7 : decode cX9_mayBe 7 = .ok (.invokestatic 91, 3) := by decide +kernel
theorem dX9_mayBe_10 : decode cX9_mayBe 10 = .ok (.istore 4, 2) := by decide +kernel
theorem dX9_mayBe_12 : decode cX9_mayBe 12 = .ok (.iload 4, 2) := by decide +kernel
theorem dX9_mayBe_14 : decode cX9_mayBe 14 = .ok (.iload_n 2, 1) := by decide +kernel
theorem dX9_mayBe_15 : decode cX9_mayBe 15 = .ok (.invokestatic 91, 3) := by decide +kernel
theorem dX9_mayBe_18 : decode cX9_mayBe 18 = .ok (.aload_n 0, 1) := by decide +kernel
theorem dX9_mayBe_19 : decode cX9_mayBe 19 = .ok (.invokevirtual 107, 3) := by decide +kernel
theorem dX9_mayBe_22 : decode cX9_mayBe 22 = .ok (.ior, 1) := by decide +kernel
theorem dX9_mayBe_23 : decode cX9_mayBe 23 = .ok (.iload_n 3, 1) := by decide +kernel
theorem dX9_mayBe_24 : decode cX9_mayBe 24 = .ok (.invokestatic 88, 3) := by decide +kernel
theorem dX9_mayBe_27 : decode cX9_mayBe 27 = .ok (.invokestatic 91, 3) := by decide +kernel
theorem dX9_mayBe_30 : decode cX9_mayBe 30 = .ok (.ior, 1) := by decide +kernel
theorem dX9_mayBe_31 : decode cX9_mayBe 31 = .ok (.iand, 1) := by decide +kernel
theorem dX9_mayBe_32 : decode cX9_mayBe 32 = .ok (.ifCond .ne 7, 3) := by decide +kernel
theorem dX9_mayBe_35 : decode cX9_mayBe 35 = .ok (.iconst 1, 1) := by decide +kernel
theorem dX9_mayBe_36 : decode cX9_mayBe 36 = .ok (.goto 4, 3) := by decide +kernel
theorem dX9_mayBe_39 : decode cX9_mayBe 39 = .ok (.iconst 0, 1) := by decide +kernel
theorem dX9_mayBe_40 : decode cX9_mayBe 40 = .ok (.ireturn, 1) := by decide +kernel
theorem dX9_explained_0 : decode cX9_explained 0 = .ok (.aload_n 0, 1) := by decide +kernel
theorem dX9_explained_1 : decode cX9_explained 1 = .ok (.iconst 0, 1) := by decide +kernel
theorem dX9_explained_2 : decode cX9_explained 2 = .ok (.iload_n 1, 1) := by decide +kernel
theorem dX9_explained_3 : decode cX9_explained 3 = .ok (.invokevirtual 195, 3) := by decide +kernel
theorem dX9_explained_6 : decode cX9_explained 6 = .ok (.ifCond .eq 5, 3) := by decide +kernel
theorem dX9_explained_9 : decode cX9_explained 9 = .ok (.iconst 0, 1) := by decide +kernel
theorem dX9_explained_10 : decode cX9_explained 10 = .ok (.ireturn, 1) := by decide +kernel
theorem dX9_explained_11 : decode cX9_explained 11 = .ok (.iconst 1, 1) := by decide +kernel
theorem dX9_explained_12 : decode cX9_explained 12 = .ok (.istore_n 2, 1) := by decide +kernel
theorem dX9_explained_13 : decode cX9_explained 13 = .ok (.iload_n 2, 1) := by decide +kernel
theorem dX9_explained_14 : decode cX9_explained 14 = .ok (.iconst 4, 1) := by decide +kernel
theorem dX9_explained_15 : decode cX9_explained 15 = .ok (.if_icmp .ge 90, 3) := by decide +kernel
theorem dX9_explained_18 : decode cX9_explained 18 = .ok (.iconst 2, 1) := by decide +kernel
theorem dX9_explained_19 : decode cX9_explained 19 = .ok (.istore_n 3, 1) := by decide +kernel
theorem dX9_explained_20 : decode cX9_explained 20 = .ok (.iload_n 3, 1) := by decide +kernel
theorem dX9_explained_21 : decode cX9_explained 21 = .ok (.bipush 22, 2) := by decide +kernel
theorem dX9_explained_23 : decode cX9_explained 23 = .ok (.if_icmp .ge 76, 3) := by decide +kernel
theorem dX9_explained_26 : decode cX9_explained 26 = .ok (.iload_n 3, 1) := by decide +kernel
theorem dX9_explained_27 : decode cX9_explained 27 = .ok (.invokestatic 192, 3) := by decide +kernel
theorem dX9_explained_30 : decode cX9_explained 30 = .ok (.invokestatic 88, 3) := by decide +kernel
theorem dX9_explained_33 : decode cX9_explained 33 = .ok (.istore 4, 2) := by decide +kernel
theorem dX9_explained_35 : decode cX9_explained 35 = .ok (.aload_n 0, 1) := by decide +kernel
theorem dX9_explained_36 : decode cX9_explained 36 = .ok (.iload_n 3, 1) := by decide +kernel
theorem dX9_explained_37 : decode cX9_explained 37 = .ok (.iconst 0, 1) := by decide +kernel
theorem dX9_explained_38 : decode cX9_explained 38 = .ok (.iload_n 1, 1) := by decide +kernel
theorem dX9_explained_39 : decode cX9_explained 39 = .ok (.invokevirtual 199, 3) := by decide +kernel
theorem dX9_explained_42 : decode cX9_explained 42 = .ok (.ifCond .eq 51, 3) := by decide +kernel
theorem dX9_explained_45 : decode cX9_explained 45 = .ok (.iload_n 2, 1) := by decide +kernel
theorem dX9_explained_46 : decode cX9_explained 46 = .ok (.iconst 1, 1) := by decide +kernel
theorem dX9_explained_47 : decode cX9_explained 47 = .ok (.if_icmp .ne 18, 3) := by decide +kernel
theorem dX9_explained_50 : decode cX9_explained 50 = .ok (.aload_n 0, 1) := by decide +kernel
theorem dX9_explained_51 : decode cX9_explained 51 = .ok (.iload 4, 2) := by decide +kernel
theorem dX9_explained_53 : decode cX9_explained 53 = .ok (.iload_n 1, 1) := by decide +kernel
theorem dX9_explained_54 : decode cX9_explained 54 = .ok (.invokevirtual 195, 3) := by decide +kernel
theorem dX9_explained_57 : decode cX9_explained 57 = .ok (.ifCond .eq 8, 3) := by decide +kernel
theorem dX9_explained_60 : decode cX9_explained 60 = .ok (.ldc 203, 2) := by decide +kernel
theorem dX9_explained_62 : decode cX9_explained 62 = .ok (.iload_n 3, 1) := by decide +kernel
theorem dX9_explained_63 : decode cX9_explained 63 = .ok (.iadd, 1) := by decide +kernel
theorem dX9_explained_64 : decode cX9_explained 64 = .ok (.ireturn, 1) := by decide +kernel
theorem dX9_explained_65 : decode cX9_explained 65 = .ok (.iload_n 2, 1) := by decide +kernel
theorem dX9_explained_66 : decode cX9_explained 66 = .ok (.iconst 1, 1) := by decide +kernel
theorem dX9_explained_67 : decode cX9_explained 67 = .ok (.if_icmp .ne 7, 3) := by decide +kernel
theorem dX9_explained_70 : decode cX9_explained 70 = .ok (.iconst (-1), 1) := by decide +kernel
theorem dX9_explained_71 : decode cX9_explained 71 = .ok (.goto 12, 3) := by decide +kernel
theorem dX9_explained_74 : decode cX9_explained 74 = .ok (.aload_n 0, 1) := by decide +kernel
theorem dX9_explained_75 : decode cX9_explained 75 = .ok (.iload_n 2, 1) := by decide +kernel
theorem dX9_explained_76 : decode cX9_explained 76 = .ok (.iload_n 3, 1) := by decide +kernel
theorem dX9_explained_77 : decode cX9_explained 77 = .ok (.iload 4, 2) := by decide +kernel
theorem dX9_explained_79 : decode cX9_explained 79 = .ok (.iload_n 1, 1) := by decide +kernel
theorem dX9_explained_80 : decode cX9_explained 80 = .ok (.invokevirtual 204, 3) := by decide +kernel
theorem dX9_explained_83 : decode cX9_explained 83 = .ok (.istore 5, 2) := by decide +kernel
theorem dX9_explained_85 : decode cX9_explained 85 = .ok (.iload 5, 2) := by decide +kernel
theorem dX9_explained_87 : decode cX9_explained 87 = .ok (.ifCond .lt 6, 3) := by decide +kernel
theorem dX9_explained_90 : decode cX9_explained 90 = .ok (.iload 5, 2) := by decide +kernel
theorem dX9_explained_92 : decode cX9_explained 92 = .ok (.ireturn, 1) := by decide +kernel
theorem dX9_explained_93 : decode cX9_explained 93 = .ok (.iinc 3 1, 3) := by decide +kernel
theorem dX9_explained_96 : decode cX9_explained 96 = .ok (.goto (-76), 3) := by decide +kernel
theorem dX9_explained_99 : decode cX9_explained 99 = .ok (.iinc 2 1, 3) := by decide +kernel
theorem dX9_explained_102 : decode cX9_explained 102 = .ok (.goto (-89), 3) := by decide +kernel
theorem dX9_explained_105 : decode cX9_explained 105 = .ok (.iconst (-1), 1) := by decide +kernel
theorem dX9_explained_106 : decode cX9_explained 106 = .ok (.ireturn, 1) := by decide +kernel
theorem dX9_explainedFrom_0 : decode cX9_explainedFrom 0 = .ok (.iload_n 2, 1) := by decide +kernel
theorem dX9_explainedFrom_1 : decode cX9_explainedFrom 1 = .ok (.iconst 1, 1) := by decide +kernel
theorem dX9_explainedFrom_2 : decode cX9_explainedFrom 2 = .ok (.iadd, 1) := by decide +kernel
theorem dX9_explainedFrom_3 : decode cX9_explainedFrom 3 = .ok (.istore 5, 2) := by decide +kernel
theorem dX9_explainedFrom_5 : decode cX9_explainedFrom 5 = .ok (.iload 5, 2) := by decide +kernel
theorem dX9_explainedFrom_7 : decode cX9_explainedFrom 7 = .ok (.bipush 22, 2) := by decide +kernel
theorem dX9_explainedFrom_9 : decode cX9_explainedFrom 9 = .ok (.if_icmp .ge 135, 3) := by decide +kernel
theorem dX9_explainedFrom_12 : decode cX9_explainedFrom 12 = .ok (.aload_n 0, 1) := by decide +kernel
theorem dX9_explainedFrom_13 : decode cX9_explainedFrom 13 = .ok (.iload 5, 2) := by decide +kernel
theorem dX9_explainedFrom_15 : decode cX9_explainedFrom 15 = .ok (.iload_n 3, 1) := by decide +kernel
theorem dX9_explainedFrom_16 : decode cX9_explainedFrom 16 = .ok (.iload 4, 2) := by decide +kernel
theorem dX9_explainedFrom_18 : decode cX9_explainedFrom 18 = .ok (.invokevirtual 199, 3) := by decide +kernel
theorem dX9_explainedFrom_21 : decode cX9_explainedFrom 21 = .ok (.ifCond .eq 117, 3) := by decide +kernel
theorem dX9_explainedFrom_24 : decode cX9_explainedFrom 24 = .ok (.iload_n 3, 1) := by decide +kernel
theorem dX9_explainedFrom_25 : decode cX9_explainedFrom 25 = .ok (.iload 5, 2) := by decide +kernel
theorem dX9_explainedFrom_27 : decode cX9_explainedFrom 27 = .ok (.invokestatic 192, 3) := by decide +kernel
theorem dX9_explainedFrom_30 : decode cX9_explainedFrom 30 = .ok (.invokestatic 88, 3) := by decide +kernel
theorem dX9_explainedFrom_33 : decode cX9_explainedFrom 33 = .ok (.ior, 1) := by decide +kernel
theorem dX9_explainedFrom_34 : decode cX9_explainedFrom 34 = .ok (.istore 6, 2) := by decide +kernel
theorem dX9_explainedFrom_36 : decode cX9_explainedFrom 36 = .ok (.iload_n 1, 1) := by decide +kernel
theorem dX9_explainedFrom_37 : decode cX9_explainedFrom 37 = .ok (.iconst 2, 1) := by decide +kernel
theorem dX9_explainedFrom_38 : decode cX9_explainedFrom 38 = .ok (.if_icmp .ne 25, 3) := by decide +kernel
theorem dX9_explainedFrom_41 : decode cX9_explainedFrom 41 = .ok (.aload_n 0, 1) := by decide +kernel
theorem dX9_explainedFrom_42 : decode cX9_explainedFrom 42 = .ok (.iload 6, 2) := by decide +kernel
theorem dX9_explainedFrom_44 : decode cX9_explainedFrom 44 = .ok (.iload 4, 2) := by decide +kernel
theorem dX9_explainedFrom_46 : decode cX9_explainedFrom 46 = .ok (.invokevirtual 195, 3) := by decide +kernel
theorem dX9_explainedFrom_49 : decode cX9_explainedFrom 49 = .ok (.ifCond .eq 14, 3) := by decide +kernel
theorem dX9_explainedFrom_52 : decode cX9_explainedFrom 52 = .ok (.ldc 208, 2) := by decide +kernel
theorem dX9_explainedFrom_54 : decode cX9_explainedFrom 54 = .ok (.bipush 32, 2) := by decide +kernel
theorem dX9_explainedFrom_56 : decode cX9_explainedFrom 56 = .ok (.iload 5, 2) := by decide +kernel
theorem dX9_explainedFrom_58 : decode cX9_explainedFrom 58 = .ok (.imul, 1) := by decide +kernel
theorem dX9_explainedFrom_59 : decode cX9_explainedFrom 59 = .ok (.iadd, 1) := by decide +kernel
theorem dX9_explainedFrom_60 : decode cX9_explainedFrom 60 = .ok (.iload_n 2, 1) := by decide +kernel
theorem dX9_explainedFrom_61 : decode cX9_explainedFrom 61 = .ok (.iadd, 1) := by decide +kernel
theorem dX9_explainedFrom_62 : decode cX9_explainedFrom 62 = .ok (.ireturn, 1) := by decide +kernel
theorem dX9_explainedFrom_63 : decode cX9_explainedFrom 63 = .ok (.iload 5, 2) := by decide +kernel
theorem dX9_explainedFrom_65 : decode cX9_explainedFrom 65 = .ok (.iconst 1, 1) := by decide +kernel
theorem dX9_explainedFrom_66 : decode cX9_explainedFrom 66 = .ok (.iadd, 1) := by decide +kernel
theorem dX9_explainedFrom_67 : decode cX9_explainedFrom 67 = .ok (.istore 7, 2) := by decide +kernel
theorem dX9_explainedFrom_69 : decode cX9_explainedFrom 69 = .ok (.iload 7, 2) := by decide +kernel
theorem dX9_explainedFrom_71 : decode cX9_explainedFrom 71 = .ok (.bipush 22, 2) := by decide +kernel
theorem dX9_explainedFrom_73 : decode cX9_explainedFrom 73 = .ok (.if_icmp .ge 65, 3) := by decide +kernel
theorem dX9_explainedFrom_76 : decode cX9_explainedFrom 76 = .ok (.iload_n 1, 1) := by decide +kernel
theorem dX9_explainedFrom_77 : decode cX9_explainedFrom 77 = .ok (.iconst 3, 1) := by decide +kernel
theorem dX9_explainedFrom_78 : decode cX9_explainedFrom 78 = .ok (.if_icmp .ne 60, 3) := by decide +kernel
theorem dX9_explainedFrom_81 : decode cX9_explainedFrom 81 = .ok (.aload_n 0, 1) := by decide +kernel
theorem dX9_explainedFrom_82 : decode cX9_explainedFrom 82 = .ok (.iload 7, 2) := by decide +kernel
theorem dX9_explainedFrom_84 : decode cX9_explainedFrom 84 = .ok (.iload 6, 2) := by decide +kernel
theorem dX9_explainedFrom_86 : decode cX9_explainedFrom 86 = .ok (.iload 4, 2) := by decide +kernel
theorem dX9_explainedFrom_88 : decode cX9_explainedFrom 88 = .ok (.invokevirtual 199, 3) := by decide +kernel
theorem dX9_explainedFrom_91 : decode cX9_explainedFrom 91 = .ok (.ifCond .eq 41, 3) := by decide +kernel
theorem dX9_explainedFrom_94 : decode cX9_explainedFrom 94 = .ok (.aload_n 0, 1) := by decide +kernel
theorem dX9_explainedFrom_95 : decode cX9_explainedFrom 95 = .ok (.iload 6, 2) := by decide +kernel
theorem dX9_explainedFrom_97 : decode cX9_explainedFrom 97 = .ok (.iload 7, 2) := by decide +kernel
theorem dX9_explainedFrom_99 : decode cX9_explainedFrom 99 = .ok (.invokestatic 192, 3) := by decide +kernel
theorem dX9_explainedFrom_102 : decode cX9_explainedFrom 102 = .ok (.invokestatic 88, 3) := by decide +kernel
theorem dX9_explainedFrom_105 : decode cX9_explainedFrom 105 = .ok (.ior, 1) := by decide +kernel
theorem dX9_explainedFrom_106 : decode cX9_explainedFrom 106 = .ok (.iload 4, 2) := by decide +kernel
theorem dX9_explainedFrom_108 : decode cX9_explainedFrom 108 = .ok (.invokevirtual 195, 3) := by decide +kernel
theorem dX9_explainedFrom_111 : decode cX9_explainedFrom 111 = .ok (.ifCond .eq 21, 3) := by decide +kernel
theorem dX9_explainedFrom_114 : decode cX9_explainedFrom 114 = .ok (.ldc 209, 2) := by decide +kernel
theorem dX9_explainedFrom_116 : decode cX9_explainedFrom 116 = .ok (.sipush 1024, 3) := by decide +kernel
theorem dX9_explainedFrom_119 : decode cX9_explainedFrom 119 = .ok (.iload 7, 2) := by decide +kernel
theorem dX9_explainedFrom_121 : decode cX9_explainedFrom 121 = .ok (.imul, 1) := by decide +kernel
theorem dX9_explainedFrom_122 : decode cX9_explainedFrom 122 = .ok (.iadd, 1) := by decide +kernel
theorem dX9_explainedFrom_123 : decode cX9_explainedFrom 123 = .ok (.bipush 32, 2) := by decide +kernel
theorem dX9_explainedFrom_125 : decode cX9_explainedFrom 125 = .ok (.iload 5, 2) := by decide +kernel
theorem dX9_explainedFrom_127 : decode cX9_explainedFrom 127 = .ok (.imul, 1) := by decide +kernel
theorem dX9_explainedFrom_128 : decode cX9_explainedFrom 128 = .ok (.iadd, 1) := by decide +kernel
theorem dX9_explainedFrom_129 : decode cX9_explainedFrom 129 = .ok (.iload_n 2, 1) := by decide +kernel
theorem dX9_explainedFrom_130 : decode cX9_explainedFrom 130 = .ok (.iadd, 1) := by decide +kernel
theorem dX9_explainedFrom_131 : decode cX9_explainedFrom 131 = .ok (.ireturn, 1) := by decide +kernel
theorem dX9_explainedFrom_132 : decode cX9_explainedFrom 132 = .ok (.iinc 7 1, 3) := by decide +kernel
theorem dX9_explainedFrom_135 : decode cX9_explainedFrom 135 = .ok (.goto (-66), 3) := by decide +kernel
theorem dX9_explainedFrom_138 : decode cX9_explainedFrom 138 = .ok (.iinc 5 1, 3) := by decide +kernel
theorem dX9_explainedFrom_141 : decode cX9_explainedFrom 141 = .ok (.goto (-136), 3) := by decide +kernel
theorem dX9_explainedFrom_144 : decode cX9_explainedFrom 144 = .ok (.iconst (-1), 1) := by decide +kernel
theorem dX9_explainedFrom_145 : decode cX9_explainedFrom 145 = .ok (.ireturn, 1) := by decide +kernel
theorem dX9_explanation_0 : decode cX9_explanation 0 = .ok (.iload_n 1, 1) := by decide +kernel
theorem dX9_explanation_1 : decode cX9_explanation 1 = .ok (.invokestatic 104, 3) := by decide +kernel
theorem dX9_explanation_4 : decode cX9_explanation 4 = .ok (.ifCond .eq 17, 3) := by decide +kernel
theorem dX9_explanation_7 : decode cX9_explanation 7 = .ok (.iload_n 2, 1) := by decide +kernel
theorem dX9_explanation_8 : decode cX9_explanation 8 = .ok (.i2l, 1) := by decide +kernel
theorem dX9_explanation_9 : decode cX9_explanation 9 = .ok (.ldc2_w 210, 3) := by decide +kernel
theorem dX9_explanation_12 : decode cX9_explanation 12 = .ok (.ldc2_w 212, 3) := by decide +kernel
theorem dX9_explanation_15 : decode cX9_explanation 15 = .ok (.invokestatic 69, 3) := by decide +kernel
theorem dX9_explanation_18 : decode cX9_explanation 18 = .ok (.ifCond .ne 16, 3) := by decide +kernel
theorem dX9_explanation_21 : decode cX9_explanation 21 = .ok (.aload_n 0, 1) := by decide +kernel
theorem dX9_explanation_22 : decode cX9_explanation 22 = .ok (.getfield 16, 3) := by decide +kernel
theorem dX9_explanation_25 : decode cX9_explanation 25 = .ok (.iconst 0, 1) := by decide +kernel
theorem dX9_explanation_26 : decode cX9_explanation 26 = .ok (.dup2, 1) := by decide +kernel
theorem dX9_explanation_27 : decode cX9_explanation 27 = .ok (.iaload, 1) := by decide +kernel
theorem dX9_explanation_28 : decode cX9_explanation 28 = .ok (.iconst 1, 1) := by decide +kernel
theorem dX9_explanation_29 : decode cX9_explanation 29 = .ok (.iadd, 1) := by decide +kernel
theorem dX9_explanation_30 : decode cX9_explanation 30 = .ok (.iastore, 1) := by decide +kernel
theorem dX9_explanation_31 : decode cX9_explanation 31 = .ok (.bipush (-102), 2) := by decide +kernel
theorem dX9_explanation_33 : decode cX9_explanation 33 = .ok (.ireturn, 1) := by decide +kernel
theorem dX9_explanation_34 : decode cX9_explanation 34 = .ok (.aload_n 0, 1) := by decide +kernel
theorem dX9_explanation_35 : decode cX9_explanation 35 = .ok (.iload_n 1, 1) := by decide +kernel
theorem dX9_explanation_36 : decode cX9_explanation 36 = .ok (.invokevirtual 214, 3) := by decide +kernel
theorem dX9_explanation_39 : decode cX9_explanation 39 = .ok (.istore_n 3, 1) := by decide +kernel
theorem dX9_explanation_40 : decode cX9_explanation 40 = .ok (.iload_n 2, 1) := by decide +kernel
theorem dX9_explanation_41 : decode cX9_explanation 41 = .ok (.ifCond .ge 16, 3) := by decide +kernel
theorem dX9_explanation_44 : decode cX9_explanation 44 = .ok (.iload_n 3, 1) := by decide +kernel
theorem dX9_explanation_45 : decode cX9_explanation 45 = .ok (.ifCond .ge 7, 3) := by decide +kernel
theorem dX9_explanation_48 : decode cX9_explanation 48 = .ok (.iconst (-1), 1) := by decide +kernel
theorem dX9_explanation_49 : decode cX9_explanation 49 = .ok (.goto 7, 3) := by decide +kernel
theorem dX9_explanation_52 : decode cX9_explanation 52 = .ok (.iload_n 3, 1) := by decide +kernel
theorem dX9_explanation_53 : decode cX9_explanation 53 = .ok (.ldc 203, 2) := by decide +kernel
theorem dX9_explanation_55 : decode cX9_explanation 55 = .ok (.idiv, 1) := by decide +kernel
theorem dX9_explanation_56 : decode cX9_explanation 56 = .ok (.ireturn, 1) := by decide +kernel
theorem dX9_explanation_57 : decode cX9_explanation 57 = .ok (.iload_n 3, 1) := by decide +kernel
theorem dX9_explanation_58 : decode cX9_explanation 58 = .ok (.ifCond .lt 11, 3) := by decide +kernel
theorem dX9_explanation_61 : decode cX9_explanation 61 = .ok (.iload_n 2, 1) := by decide +kernel
theorem dX9_explanation_62 : decode cX9_explanation 62 = .ok (.iload_n 3, 1) := by decide +kernel
theorem dX9_explanation_63 : decode cX9_explanation 63 = .ok (.ldc 203, 2) := by decide +kernel
theorem dX9_explanation_65 : decode cX9_explanation 65 = .ok (.idiv, 1) := by decide +kernel
theorem dX9_explanation_66 : decode cX9_explanation 66 = .ok (.if_icmp .lt 5, 3) := by decide +kernel
theorem dX9_explanation_69 : decode cX9_explanation 69 = .ok (.iconst 0, 1) := by decide +kernel
theorem dX9_explanation_70 : decode cX9_explanation 70 = .ok (.ireturn, 1) := by decide +kernel
theorem dX9_explanation_71 : decode cX9_explanation 71 = .ok (.iload_n 3, 1) := by decide +kernel
theorem dX9_explanation_72 : decode cX9_explanation 72 = .ok (.ldc 203, 2) := by decide +kernel
theorem dX9_explanation_74 : decode cX9_explanation 74 = .ok (.irem, 1) := by decide +kernel
theorem dX9_explanation_75 : decode cX9_explanation 75 = .ok (.iconst 5, 1) := by decide +kernel
theorem dX9_explanation_76 : decode cX9_explanation 76 = .ok (.iload_n 2, 1) := by decide +kernel
theorem dX9_explanation_77 : decode cX9_explanation 77 = .ok (.imul, 1) := by decide +kernel
theorem dX9_explanation_78 : decode cX9_explanation 78 = .ok (.ishr, 1) := by decide +kernel
theorem dX9_explanation_79 : decode cX9_explanation 79 = .ok (.bipush 31, 2) := by decide +kernel
theorem dX9_explanation_81 : decode cX9_explanation 81 = .ok (.iand, 1) := by decide +kernel
theorem dX9_explanation_82 : decode cX9_explanation 82 = .ok (.invokestatic 192, 3) := by decide +kernel
theorem dX9_explanation_85 : decode cX9_explanation 85 = .ok (.ireturn, 1) := by decide +kernel
theorem dX9_append_0 : decode cX9_append 0 = .ok (.iload_n 1, 1) := by decide +kernel
theorem dX9_append_1 : decode cX9_append 1 = .ok (.i2l, 1) := by decide +kernel
theorem dX9_append_2 : decode cX9_append 2 = .ok (.lconst 0, 1) := by decide +kernel
theorem dX9_append_3 : decode cX9_append 3 = .ok (.ldc2_w 217, 3) := by decide +kernel
theorem dX9_append_6 : decode cX9_append 6 = .ok (.invokestatic 69, 3) := by decide +kernel
theorem dX9_append_9 : decode cX9_append 9 = .ok (.ifCond .ne 10, 3) := by decide +kernel
theorem dX9_append_12 : decode cX9_append 12 = .ok (.aload_n 0, 1) := by decide +kernel
theorem dX9_append_13 : decode cX9_append 13 = .ok (.bipush (-2), 2) := by decide +kernel
theorem dX9_append_15 : decode cX9_append 15 = .ok (.invokevirtual 84, 3) := by decide +kernel
theorem dX9_append_18 : decode cX9_append 18 = .ok (.ireturn, 1) := by decide +kernel
theorem dX9_append_19 : decode cX9_append 19 = .ok (.aload_n 0, 1) := by decide +kernel
theorem dX9_append_20 : decode cX9_append 20 = .ok (.getfield 219, 3) := by decide +kernel
theorem dX9_append_23 : decode cX9_append 23 = .ok (.sipush 150, 3) := by decide +kernel
theorem dX9_append_26 : decode cX9_append 26 = .ok (.if_icmp .ne 10, 3) := by decide +kernel
theorem dX9_append_29 : decode cX9_append 29 = .ok (.aload_n 0, 1) := by decide +kernel
theorem dX9_append_30 : decode cX9_append 30 = .ok (.bipush (-4), 2) := by decide +kernel
theorem dX9_append_32 : decode cX9_append 32 = .ok (.invokevirtual 84, 3) := by decide +kernel
theorem dX9_append_35 : decode cX9_append 35 = .ok (.ireturn, 1) := by decide +kernel
theorem dX9_append_36 : decode cX9_append 36 = .ok (.aload_n 0, 1) := by decide +kernel
theorem dX9_append_37 : decode cX9_append 37 = .ok (.getfield 19, 3) := by decide +kernel
theorem dX9_append_40 : decode cX9_append 40 = .ok (.aload_n 0, 1) := by decide +kernel
theorem dX9_append_41 : decode cX9_append 41 = .ok (.getfield 219, 3) := by decide +kernel
theorem dX9_append_44 : decode cX9_append 44 = .ok (.iload_n 1, 1) := by decide +kernel
theorem dX9_append_45 : decode cX9_append 45 = .ok (.iastore, 1) := by decide +kernel
theorem dX9_append_46 : decode cX9_append 46 = .ok (.aload_n 0, 1) := by decide +kernel
theorem dX9_append_47 : decode cX9_append 47 = .ok (.dup, 1) := by decide +kernel
theorem dX9_append_48 : decode cX9_append 48 = .ok (.getfield 219, 3) := by decide +kernel
theorem dX9_append_51 : decode cX9_append 51 = .ok (.iconst 1, 1) := by decide +kernel
theorem dX9_append_52 : decode cX9_append 52 = .ok (.iadd, 1) := by decide +kernel
theorem dX9_append_53 : decode cX9_append 53 = .ok (.putfield 219, 3) := by decide +kernel
theorem dX9_append_56 : decode cX9_append 56 = .ok (.aload_n 0, 1) := by decide +kernel
theorem dX9_append_57 : decode cX9_append 57 = .ok (.getfield 219, 3) := by decide +kernel
theorem dX9_append_60 : decode cX9_append 60 = .ok (.ireturn, 1) := by decide +kernel
theorem dX9_clearText_0 : decode cX9_clearText 0 = .ok (.aload_n 0, 1) := by decide +kernel
theorem dX9_clearText_1 : decode cX9_clearText 1 = .ok (.getfield 219, 3) := by decide +kernel
theorem dX9_clearText_4 : decode cX9_clearText 4 = .ok (.istore_n 1, 1) := by decide +kernel
theorem dX9_clearText_5 : decode cX9_clearText 5 = .ok (.aload_n 0, 1) := by decide +kernel
theorem dX9_clearText_6 : decode cX9_clearText 6 = .ok (.iconst 0, 1) := by decide +kernel
theorem dX9_clearText_7 : decode cX9_clearText 7 = .ok (.putfield 219, 3) := by decide +kernel
theorem dX9_clearText_10 : decode cX9_clearText 10 = .ok (.iload_n 1, 1) := by decide +kernel
theorem dX9_clearText_11 : decode cX9_clearText 11 = .ok (.ireturn, 1) := by decide +kernel
theorem dX9_byteAt_0 : decode cX9_byteAt 0 = .ok (.iload_n 1, 1) := by decide +kernel
theorem dX9_byteAt_1 : decode cX9_byteAt 1 = .ok (.aload_n 0, 1) := by decide +kernel
theorem dX9_byteAt_2 : decode cX9_byteAt 2 = .ok (.getfield 219, 3) := by decide +kernel
theorem dX9_byteAt_5 : decode cX9_byteAt 5 = .ok (.if_icmp .ge 12, 3) := by decide +kernel
theorem dX9_byteAt_8 : decode cX9_byteAt 8 = .ok (.aload_n 0, 1) := by decide +kernel
theorem dX9_byteAt_9 : decode cX9_byteAt 9 = .ok (.getfield 19, 3) := by decide +kernel
theorem dX9_byteAt_12 : decode cX9_byteAt 12 = .ok (.iload_n 1, 1) := by decide +kernel
theorem dX9_byteAt_13 : decode cX9_byteAt 13 = .ok (.iaload, 1) := by decide +kernel
theorem dX9_byteAt_14 : decode cX9_byteAt 14 = .ok (.goto 4, 3) := by decide +kernel
theorem dX9_byteAt_17 : decode cX9_byteAt 17 = .ok (.iconst (-1), 1) := by decide +kernel
theorem dX9_byteAt_18 : decode cX9_byteAt 18 = .ok (.ireturn, 1) := by decide +kernel
theorem dX9_isFigure_0 : decode cX9_isFigure 0 = .ok (.iload_n 0, 1) := by decide +kernel
theorem dX9_isFigure_1 : decode cX9_isFigure 1 = .ok (.i2l, 1) := by decide +kernel
theorem dX9_isFigure_2 : decode cX9_isFigure 2 = .ok (.ldc2_w 222, 3) := by decide +kernel
theorem dX9_isFigure_5 : decode cX9_isFigure 5 = .ok (.ldc2_w 224, 3) := by decide +kernel
theorem dX9_isFigure_8 : decode cX9_isFigure 8 = .ok (.invokestatic 69, 3) := by decide +kernel
theorem dX9_isFigure_11 : decode cX9_isFigure 11 = .ok (.ireturn, 1) := by decide +kernel
theorem dX9_literalHere_0 : decode cX9_literalHere 0 = .ok (.aload_n 0, 1) := by decide +kernel
theorem dX9_literalHere_1 : decode cX9_literalHere 1 = .ok (.getfield 226, 3) := by decide +kernel
end
section
theorem dX9_literalHere_4 : decode cX9_literalHere 4 = .ok (.istore_n 2, 1) := by decide +kernel
theorem dX9_literalHere_5 : decode cX9_literalHere 5 = .ok (.aload_n 0, 1) := by decide +kernel
theorem dX9_literalHere_6 : decode cX9_literalHere 6 = .ok (.iload_n 2, 1) := by decide +kernel
theorem dX9_literalHere_7 : decode cX9_literalHere 7 = .ok (.invokevirtual 229, 3) := by decide +kernel
theorem dX9_literalHere_10 : decode cX9_literalHere 10 = .ok (.bipush 45, 2) := by decide +kernel
theorem dX9_literalHere_12 : decode cX9_literalHere 12 = .ok (.if_icmp .ne 9, 3) := by decide +kernel
theorem dX9_literalHere_15 : decode cX9_literalHere 15 = .ok (.iload_n 2, 1) := by decide +kernel
theorem dX9_literalHere_16 : decode cX9_literalHere 16 = .ok (.iconst 1, 1) := by decide +kernel
theorem dX9_literalHere_17 : decode cX9_literalHere 17 = .ok (.iadd, 1) := by decide +kernel
theorem dX9_literalHere_18 : decode cX9_literalHere 18 = .ok (.goto 4, 3) := by decide +kernel
theorem dX9_literalHere_21 : decode cX9_literalHere 21 = .ok (.iload_n 2, 1) := by decide +kernel
theorem dX9_literalHere_22 : decode cX9_literalHere 22 = .ok (.istore_n 3, 1) := by decide +kernel
theorem dX9_literalHere_23 : decode cX9_literalHere 23 = .ok (.aload_n 0, 1) := by decide +kernel
theorem dX9_literalHere_24 : decode cX9_literalHere 24 = .ok (.iload_n 3, 1) := by decide +kernel
theorem dX9_literalHere_25 : decode cX9_literalHere 25 = .ok (.invokevirtual 229, 3) := by decide +kernel
theorem dX9_literalHere_28 : decode cX9_literalHere 28 = .ok (.invokestatic 232, 3) := by decide +kernel
theorem dX9_literalHere_31 : decode cX9_literalHere 31 = .ok (.ifCond .ne 22, 3) := by decide +kernel
theorem dX9_literalHere_34 : decode cX9_literalHere 34 = .ok (.iconst (-1), 1) := by decide +kernel
theorem dX9_literalHere_35 : decode cX9_literalHere 35 = .ok (.iload_n 3, 1) := by decide +kernel
theorem dX9_literalHere_36 : decode cX9_literalHere 36 = .ok (.aload_n 0, 1) := by decide +kernel
theorem dX9_literalHere_37 : decode cX9_literalHere 37 = .ok (.getfield 219, 3) := by decide +kernel
theorem dX9_literalHere_40 : decode cX9_literalHere 40 = .ok (.if_icmp .ge 7, 3) := by decide +kernel
theorem dX9_literalHere_43 : decode cX9_literalHere 43 = .ok (.iload_n 3, 1) := by decide +kernel
theorem dX9_literalHere_44 : decode cX9_literalHere 44 = .ok (.goto 7, 3) := by decide +kernel
theorem dX9_literalHere_47 : decode cX9_literalHere 47 = .ok (.aload_n 0, 1) := by decide +kernel
theorem dX9_literalHere_48 : decode cX9_literalHere 48 = .ok (.getfield 219, 3) := by decide +kernel
theorem dX9_literalHere_51 : decode cX9_literalHere 51 = .ok (.isub, 1) := by decide +kernel
theorem dX9_literalHere_52 : decode cX9_literalHere 52 = .ok (.ireturn, 1) := by decide +kernel
theorem dX9_literalHere_53 : decode cX9_literalHere 53 = .ok (.aload_n 0, 1) := by decide +kernel
theorem dX9_literalHere_54 : decode cX9_literalHere 54 = .ok (.iload_n 3, 1) := by decide +kernel
theorem dX9_literalHere_55 : decode cX9_literalHere 55 = .ok (.iconst 1, 1) := by decide +kernel
theorem dX9_literalHere_56 : decode cX9_literalHere 56 = .ok (.iadd, 1) := by decide +kernel
theorem dX9_literalHere_57 : decode cX9_literalHere 57 = .ok (.invokevirtual 229, 3) := by decide +kernel
theorem dX9_literalHere_60 : decode cX9_literalHere 60 = .ok (.invokestatic 232, 3) := by decide +kernel
theorem dX9_literalHere_63 : decode cX9_literalHere 63 = .ok (.ifCond .eq 22, 3) := by decide +kernel
theorem dX9_literalHere_66 : decode cX9_literalHere 66 = .ok (.aload_n 0, 1) := by decide +kernel
theorem dX9_literalHere_67 : decode cX9_literalHere 67 = .ok (.iload_n 3, 1) := by decide +kernel
theorem dX9_literalHere_68 : decode cX9_literalHere 68 = .ok (.iconst 2, 1) := by decide +kernel
theorem dX9_literalHere_69 : decode cX9_literalHere 69 = .ok (.iadd, 1) := by decide +kernel
theorem dX9_literalHere_70 : decode cX9_literalHere 70 = .ok (.invokevirtual 229, 3) := by decide +kernel
theorem dX9_literalHere_73 : decode cX9_literalHere 73 = .ok (.invokestatic 232, 3) := by decide +kernel
theorem dX9_literalHere_76 : decode cX9_literalHere 76 = .ok (.ifCond .eq 9, 3) := by decide +kernel
theorem dX9_literalHere_79 : decode cX9_literalHere 79 = .ok (.iconst (-1), 1) := by decide +kernel
theorem dX9_literalHere_80 : decode cX9_literalHere 80 = .ok (.iload_n 3, 1) := by decide +kernel
theorem dX9_literalHere_81 : decode cX9_literalHere 81 = .ok (.iconst 2, 1) := by decide +kernel
theorem dX9_literalHere_82 : decode cX9_literalHere 82 = .ok (.iadd, 1) := by decide +kernel
theorem dX9_literalHere_83 : decode cX9_literalHere 83 = .ok (.isub, 1) := by decide +kernel
theorem dX9_literalHere_84 : decode cX9_literalHere 84 = .ok (.ireturn, 1) := by decide +kernel
theorem dX9_literalHere_85 : decode cX9_literalHere 85 = .ok (.aload_n 0, 1) := by decide +kernel
theorem dX9_literalHere_86 : decode cX9_literalHere 86 = .ok (.iload_n 3, 1) := by decide +kernel
theorem dX9_literalHere_87 : decode cX9_literalHere 87 = .ok (.invokevirtual 229, 3) := by decide +kernel
theorem dX9_literalHere_90 : decode cX9_literalHere 90 = .ok (.bipush 48, 2) := by decide +kernel
theorem dX9_literalHere_92 : decode cX9_literalHere 92 = .ok (.isub, 1) := by decide +kernel
theorem dX9_literalHere_93 : decode cX9_literalHere 93 = .ok (.istore 4, 2) := by decide +kernel
theorem dX9_literalHere_95 : decode cX9_literalHere 95 = .ok (.aload_n 0, 1) := by decide +kernel
theorem dX9_literalHere_96 : decode cX9_literalHere 96 = .ok (.iload_n 3, 1) := by decide +kernel
theorem dX9_literalHere_97 : decode cX9_literalHere 97 = .ok (.iconst 1, 1) := by decide +kernel
theorem dX9_literalHere_98 : decode cX9_literalHere 98 = .ok (.iadd, 1) := by decide +kernel
theorem dX9_literalHere_99 : decode cX9_literalHere 99 = .ok (.putfield 226, 3) := by decide +kernel
theorem dX9_literalHere_102 : decode cX9_literalHere 102 = .ok (.aload_n 0, 1) := by decide +kernel
theorem dX9_literalHere_103 : decode cX9_literalHere 103 = .ok (.aload_n 0, 1) := by decide +kernel
theorem dX9_literalHere_104 : decode cX9_literalHere 104 = .ok (.getfield 226, 3) := by decide +kernel
theorem dX9_literalHere_107 : decode cX9_literalHere 107 = .ok (.invokevirtual 229, 3) := by decide +kernel
theorem dX9_literalHere_110 : decode cX9_literalHere 110 = .ok (.invokestatic 232, 3) := by decide +kernel
theorem dX9_literalHere_113 : decode cX9_literalHere 113 = .ok (.ifCond .eq 32, 3) := by decide +kernel
theorem dX9_literalHere_116 : decode cX9_literalHere 116 = .ok (.bipush 10, 2) := by decide +kernel
theorem dX9_literalHere_118 : decode cX9_literalHere 118 = .ok (.iload 4, 2) := by decide +kernel
theorem dX9_literalHere_120 : decode cX9_literalHere 120 = .ok (.imul, 1) := by decide +kernel
theorem dX9_literalHere_121 : decode cX9_literalHere 121 = .ok (.aload_n 0, 1) := by decide +kernel
theorem dX9_literalHere_122 : decode cX9_literalHere 122 = .ok (.aload_n 0, 1) := by decide +kernel
theorem dX9_literalHere_123 : decode cX9_literalHere 123 = .ok (.getfield 226, 3) := by decide +kernel
theorem dX9_literalHere_126 : decode cX9_literalHere 126 = .ok (.invokevirtual 229, 3) := by decide +kernel
theorem dX9_literalHere_129 : decode cX9_literalHere 129 = .ok (.iadd, 1) := by decide +kernel
theorem dX9_literalHere_130 : decode cX9_literalHere 130 = .ok (.bipush 48, 2) := by decide +kernel
theorem dX9_literalHere_132 : decode cX9_literalHere 132 = .ok (.isub, 1) := by decide +kernel
theorem dX9_literalHere_133 : decode cX9_literalHere 133 = .ok (.istore 4, 2) := by decide +kernel
theorem dX9_literalHere_135 : decode cX9_literalHere 135 = .ok (.aload_n 0, 1) := by decide +kernel
theorem dX9_literalHere_136 : decode cX9_literalHere 136 = .ok (.dup, 1) := by decide +kernel
theorem dX9_literalHere_137 : decode cX9_literalHere 137 = .ok (.getfield 226, 3) := by decide +kernel
theorem dX9_literalHere_140 : decode cX9_literalHere 140 = .ok (.iconst 1, 1) := by decide +kernel
theorem dX9_literalHere_141 : decode cX9_literalHere 141 = .ok (.iadd, 1) := by decide +kernel
theorem dX9_literalHere_142 : decode cX9_literalHere 142 = .ok (.putfield 226, 3) := by decide +kernel
theorem dX9_literalHere_145 : decode cX9_literalHere 145 = .ok (.iload 4, 2) := by decide +kernel
theorem dX9_literalHere_147 : decode cX9_literalHere 147 = .ok (.i2l, 1) := by decide +kernel
theorem dX9_literalHere_148 : decode cX9_literalHere 148 = .ok (.lconst 1, 1) := by decide +kernel
theorem dX9_literalHere_149 : decode cX9_literalHere 149 = .ok (.ldc2_w 67, 3) := by decide +kernel
theorem dX9_literalHere_152 : decode cX9_literalHere 152 = .ok (.invokestatic 69, 3) := by decide +kernel
theorem dX9_literalHere_155 : decode cX9_literalHere 155 = .ok (.ifCond .ne 7, 3) := by decide +kernel
theorem dX9_literalHere_158 : decode cX9_literalHere 158 = .ok (.iconst (-1), 1) := by decide +kernel
theorem dX9_literalHere_159 : decode cX9_literalHere 159 = .ok (.iload_n 3, 1) := by decide +kernel
theorem dX9_literalHere_160 : decode cX9_literalHere 160 = .ok (.isub, 1) := by decide +kernel
theorem dX9_literalHere_161 : decode cX9_literalHere 161 = .ok (.ireturn, 1) := by decide +kernel
theorem dX9_literalHere_162 : decode cX9_literalHere 162 = .ok (.iload_n 3, 1) := by decide +kernel
theorem dX9_literalHere_163 : decode cX9_literalHere 163 = .ok (.iload_n 2, 1) := by decide +kernel
theorem dX9_literalHere_164 : decode cX9_literalHere 164 = .ok (.if_icmp .le 9, 3) := by decide +kernel
theorem dX9_literalHere_167 : decode cX9_literalHere 167 = .ok (.iload 4, 2) := by decide +kernel
theorem dX9_literalHere_169 : decode cX9_literalHere 169 = .ok (.ineg, 1) := by decide +kernel
theorem dX9_literalHere_170 : decode cX9_literalHere 170 = .ok (.goto 5, 3) := by decide +kernel
theorem dX9_literalHere_173 : decode cX9_literalHere 173 = .ok (.iload 4, 2) := by decide +kernel
theorem dX9_literalHere_175 : decode cX9_literalHere 175 = .ok (.invokestatic 88, 3) := by decide +kernel
theorem dX9_literalHere_178 : decode cX9_literalHere 178 = .ok (.istore 5, 2) := by decide +kernel
theorem dX9_literalHere_180 : decode cX9_literalHere 180 = .ok (.iload_n 1, 1) := by decide +kernel
theorem dX9_literalHere_181 : decode cX9_literalHere 181 = .ok (.invokestatic 91, 3) := by decide +kernel
theorem dX9_literalHere_184 : decode cX9_literalHere 184 = .ok (.iload 5, 2) := by decide +kernel
theorem dX9_literalHere_186 : decode cX9_literalHere 186 = .ok (.invokestatic 91, 3) := by decide +kernel
theorem dX9_literalHere_189 : decode cX9_literalHere 189 = .ok (.iand, 1) := by decide +kernel
theorem dX9_literalHere_190 : decode cX9_literalHere 190 = .ok (.ifCond .eq 9, 3) := by decide +kernel
theorem dX9_literalHere_193 : decode cX9_literalHere 193 = .ok (.iconst (-1), 1) := by decide +kernel
theorem dX9_literalHere_194 : decode cX9_literalHere 194 = .ok (.iload_n 2, 1) := by decide +kernel
theorem dX9_literalHere_195 : decode cX9_literalHere 195 = .ok (.isub, 1) := by decide +kernel
theorem dX9_literalHere_196 : decode cX9_literalHere 196 = .ok (.goto 5, 3) := by decide +kernel
theorem dX9_literalHere_199 : decode cX9_literalHere 199 = .ok (.iload 5, 2) := by decide +kernel
theorem dX9_literalHere_201 : decode cX9_literalHere 201 = .ok (.ireturn, 1) := by decide +kernel
theorem dX9_reads_0 : decode cX9_reads 0 = .ok (.aload_n 0, 1) := by decide +kernel
theorem dX9_reads_1 : decode cX9_reads 1 = .ok (.iconst 0, 1) := by decide +kernel
theorem dX9_reads_2 : decode cX9_reads 2 = .ok (.putfield 235, 3) := by decide +kernel
theorem dX9_reads_5 : decode cX9_reads 5 = .ok (.aload_n 0, 1) := by decide +kernel
theorem dX9_reads_6 : decode cX9_reads 6 = .ok (.iconst 0, 1) := by decide +kernel
theorem dX9_reads_7 : decode cX9_reads 7 = .ok (.putfield 226, 3) := by decide +kernel
theorem dX9_reads_10 : decode cX9_reads 10 = .ok (.iconst 0, 1) := by decide +kernel
theorem dX9_reads_11 : decode cX9_reads 11 = .ok (.istore_n 1, 1) := by decide +kernel
theorem dX9_reads_12 : decode cX9_reads 12 = .ok (.aload_n 0, 1) := by decide +kernel
theorem dX9_reads_13 : decode cX9_reads 13 = .ok (.getfield 226, 3) := by decide +kernel
theorem dX9_reads_16 : decode cX9_reads 16 = .ok (.aload_n 0, 1) := by decide +kernel
theorem dX9_reads_17 : decode cX9_reads 17 = .ok (.getfield 219, 3) := by decide +kernel
theorem dX9_reads_20 : decode cX9_reads 20 = .ok (.if_icmp .ge 152, 3) := by decide +kernel
theorem dX9_reads_23 : decode cX9_reads 23 = .ok (.aload_n 0, 1) := by decide +kernel
theorem dX9_reads_24 : decode cX9_reads 24 = .ok (.getfield 19, 3) := by decide +kernel
theorem dX9_reads_27 : decode cX9_reads 27 = .ok (.aload_n 0, 1) := by decide +kernel
theorem dX9_reads_28 : decode cX9_reads 28 = .ok (.getfield 226, 3) := by decide +kernel
theorem dX9_reads_31 : decode cX9_reads 31 = .ok (.iaload, 1) := by decide +kernel
theorem dX9_reads_32 : decode cX9_reads 32 = .ok (.istore_n 2, 1) := by decide +kernel
theorem dX9_reads_33 : decode cX9_reads 33 = .ok (.iload_n 2, 1) := by decide +kernel
theorem dX9_reads_34 : decode cX9_reads 34 = .ok (.bipush 59, 2) := by decide +kernel
theorem dX9_reads_36 : decode cX9_reads 36 = .ok (.if_icmp .ne 42, 3) := by decide +kernel
theorem dX9_reads_39 : decode cX9_reads 39 = .ok (.iload_n 1, 1) := by decide +kernel
theorem dX9_reads_40 : decode cX9_reads 40 = .ok (.ifCond .eq 38, 3) := by decide +kernel
theorem dX9_reads_43 : decode cX9_reads 43 = .ok (.aload_n 0, 1) := by decide +kernel
theorem dX9_reads_44 : decode cX9_reads 44 = .ok (.getfield 62, 3) := by decide +kernel
theorem dX9_reads_47 : decode cX9_reads 47 = .ok (.aload_n 0, 1) := by decide +kernel
theorem dX9_reads_48 : decode cX9_reads 48 = .ok (.getfield 235, 3) := by decide +kernel
theorem dX9_reads_51 : decode cX9_reads 51 = .ok (.iload_n 1, 1) := by decide +kernel
theorem dX9_reads_52 : decode cX9_reads 52 = .ok (.iastore, 1) := by decide +kernel
theorem dX9_reads_53 : decode cX9_reads 53 = .ok (.aload_n 0, 1) := by decide +kernel
theorem dX9_reads_54 : decode cX9_reads 54 = .ok (.dup, 1) := by decide +kernel
theorem dX9_reads_55 : decode cX9_reads 55 = .ok (.getfield 235, 3) := by decide +kernel
theorem dX9_reads_58 : decode cX9_reads 58 = .ok (.iconst 1, 1) := by decide +kernel
theorem dX9_reads_59 : decode cX9_reads 59 = .ok (.iadd, 1) := by decide +kernel
theorem dX9_reads_60 : decode cX9_reads 60 = .ok (.putfield 235, 3) := by decide +kernel
theorem dX9_reads_63 : decode cX9_reads 63 = .ok (.iconst 0, 1) := by decide +kernel
theorem dX9_reads_64 : decode cX9_reads 64 = .ok (.istore_n 1, 1) := by decide +kernel
theorem dX9_reads_65 : decode cX9_reads 65 = .ok (.aload_n 0, 1) := by decide +kernel
theorem dX9_reads_66 : decode cX9_reads 66 = .ok (.dup, 1) := by decide +kernel
theorem dX9_reads_67 : decode cX9_reads 67 = .ok (.getfield 226, 3) := by decide +kernel
theorem dX9_reads_70 : decode cX9_reads 70 = .ok (.iconst 1, 1) := by decide +kernel
theorem dX9_reads_71 : decode cX9_reads 71 = .ok (.iadd, 1) := by decide +kernel
theorem dX9_reads_72 : decode cX9_reads 72 = .ok (.putfield 226, 3) := by decide +kernel
theorem dX9_reads_75 : decode cX9_reads 75 = .ok (.goto 94, 3) := by decide +kernel
theorem dX9_reads_78 : decode cX9_reads 78 = .ok (.iload_n 2, 1) := by decide +kernel
theorem dX9_reads_79 : decode cX9_reads 79 = .ok (.bipush 32, 2) := by decide +kernel
theorem dX9_reads_81 : decode cX9_reads 81 = .ok (.if_icmp .ne 16, 3) := by decide +kernel
theorem dX9_reads_84 : decode cX9_reads 84 = .ok (.aload_n 0, 1) := by decide +kernel
theorem dX9_reads_85 : decode cX9_reads 85 = .ok (.dup, 1) := by decide +kernel
theorem dX9_reads_86 : decode cX9_reads 86 = .ok (.getfield 226, 3) := by decide +kernel
theorem dX9_reads_89 : decode cX9_reads 89 = .ok (.iconst 1, 1) := by decide +kernel
theorem dX9_reads_90 : decode cX9_reads 90 = .ok (.iadd, 1) := by decide +kernel
theorem dX9_reads_91 : decode cX9_reads 91 = .ok (.putfield 226, 3) := by decide +kernel
theorem dX9_reads_94 : decode cX9_reads 94 = .ok (.goto 75, 3) := by decide +kernel
theorem dX9_reads_97 : decode cX9_reads 97 = .ok (.iload_n 2, 1) := by decide +kernel
theorem dX9_reads_98 : decode cX9_reads 98 = .ok (.bipush 45, 2) := by decide +kernel
theorem dX9_reads_100 : decode cX9_reads 100 = .ok (.if_icmp .eq 10, 3) := by decide +kernel
theorem dX9_reads_103 : decode cX9_reads 103 = .ok (.iload_n 2, 1) := by decide +kernel
theorem dX9_reads_104 : decode cX9_reads 104 = .ok (.invokestatic 232, 3) := by decide +kernel
theorem dX9_reads_107 : decode cX9_reads 107 = .ok (.ifCond .eq 57, 3) := by decide +kernel
theorem dX9_reads_110 : decode cX9_reads 110 = .ok (.iload_n 1, 1) := by decide +kernel
theorem dX9_reads_111 : decode cX9_reads 111 = .ok (.invokestatic 101, 3) := by decide +kernel
theorem dX9_reads_114 : decode cX9_reads 114 = .ok (.iconst 4, 1) := by decide +kernel
theorem dX9_reads_115 : decode cX9_reads 115 = .ok (.if_icmp .eq 23, 3) := by decide +kernel
theorem dX9_reads_118 : decode cX9_reads 118 = .ok (.iload_n 1, 1) := by decide +kernel
theorem dX9_reads_119 : decode cX9_reads 119 = .ok (.ifCond .ne 24, 3) := by decide +kernel
theorem dX9_reads_122 : decode cX9_reads 122 = .ok (.aload_n 0, 1) := by decide +kernel
theorem dX9_reads_123 : decode cX9_reads 123 = .ok (.getfield 7, 3) := by decide +kernel
theorem dX9_reads_126 : decode cX9_reads 126 = .ok (.iconst 0, 1) := by decide +kernel
theorem dX9_reads_127 : decode cX9_reads 127 = .ok (.iaload, 1) := by decide +kernel
theorem dX9_reads_128 : decode cX9_reads 128 = .ok (.aload_n 0, 1) := by decide +kernel
theorem dX9_reads_129 : decode cX9_reads 129 = .ok (.getfield 235, 3) := by decide +kernel
theorem dX9_reads_132 : decode cX9_reads 132 = .ok (.iadd, 1) := by decide +kernel
theorem dX9_reads_133 : decode cX9_reads 133 = .ok (.bipush 16, 2) := by decide +kernel
theorem dX9_reads_135 : decode cX9_reads 135 = .ok (.if_icmp .ne 8, 3) := by decide +kernel
theorem dX9_reads_138 : decode cX9_reads 138 = .ok (.aload_n 0, 1) := by decide +kernel
theorem dX9_reads_139 : decode cX9_reads 139 = .ok (.getfield 226, 3) := by decide +kernel
theorem dX9_reads_142 : decode cX9_reads 142 = .ok (.ireturn, 1) := by decide +kernel
theorem dX9_reads_143 : decode cX9_reads 143 = .ok (.aload_n 0, 1) := by decide +kernel
theorem dX9_reads_144 : decode cX9_reads 144 = .ok (.iload_n 1, 1) := by decide +kernel
theorem dX9_reads_145 : decode cX9_reads 145 = .ok (.invokevirtual 238, 3) := by decide +kernel
theorem dX9_reads_148 : decode cX9_reads 148 = .ok (.istore_n 3, 1) := by decide +kernel
theorem dX9_reads_149 : decode cX9_reads 149 = .ok (.iload_n 3, 1) := by decide +kernel
theorem dX9_reads_150 : decode cX9_reads 150 = .ok (.ifCond .ge 7, 3) := by decide +kernel
theorem dX9_reads_153 : decode cX9_reads 153 = .ok (.iconst (-1), 1) := by decide +kernel
theorem dX9_reads_154 : decode cX9_reads 154 = .ok (.iload_n 3, 1) := by decide +kernel
theorem dX9_reads_155 : decode cX9_reads 155 = .ok (.isub, 1) := by decide +kernel
theorem dX9_reads_156 : decode cX9_reads 156 = .ok (.ireturn, 1) := by decide +kernel
theorem dX9_reads_157 : decode cX9_reads 157 = .ok (.iload_n 1, 1) := by decide +kernel
theorem dX9_reads_158 : decode cX9_reads 158 = .ok (.iload_n 3, 1) := by decide +kernel
theorem dX9_reads_159 : decode cX9_reads 159 = .ok (.ior, 1) := by decide +kernel
theorem dX9_reads_160 : decode cX9_reads 160 = .ok (.istore_n 1, 1) := by decide +kernel
theorem dX9_reads_161 : decode cX9_reads 161 = .ok (.goto 8, 3) := by decide +kernel
theorem dX9_reads_164 : decode cX9_reads 164 = .ok (.aload_n 0, 1) := by decide +kernel
theorem dX9_reads_165 : decode cX9_reads 165 = .ok (.getfield 226, 3) := by decide +kernel
theorem dX9_reads_168 : decode cX9_reads 168 = .ok (.ireturn, 1) := by decide +kernel
theorem dX9_reads_169 : decode cX9_reads 169 = .ok (.goto (-157), 3) := by decide +kernel
theorem dX9_reads_172 : decode cX9_reads 172 = .ok (.iload_n 1, 1) := by decide +kernel
theorem dX9_reads_173 : decode cX9_reads 173 = .ok (.ifCond .ne 7, 3) := by decide +kernel
theorem dX9_reads_176 : decode cX9_reads 176 = .ok (.iconst (-1), 1) := by decide +kernel
theorem dX9_reads_177 : decode cX9_reads 177 = .ok (.goto 7, 3) := by decide +kernel
theorem dX9_reads_180 : decode cX9_reads 180 = .ok (.aload_n 0, 1) := by decide +kernel
theorem dX9_reads_181 : decode cX9_reads 181 = .ok (.getfield 219, 3) := by decide +kernel
theorem dX9_reads_184 : decode cX9_reads 184 = .ok (.ireturn, 1) := by decide +kernel
theorem dX9_parse_0 : decode cX9_parse 0 = .ok (.aload_n 0, 1) := by decide +kernel
theorem dX9_parse_1 : decode cX9_parse 1 = .ok (.invokevirtual 241, 3) := by decide +kernel
theorem dX9_parse_4 : decode cX9_parse 4 = .ok (.istore_n 1, 1) := by decide +kernel
theorem dX9_parse_5 : decode cX9_parse 5 = .ok (.iload_n 1, 1) := by decide +kernel
theorem dX9_parse_6 : decode cX9_parse 6 = .ok (.ifCond .lt 8, 3) := by decide +kernel
theorem dX9_parse_9 : decode cX9_parse 9 = .ok (.bipush (-10), 2) := by decide +kernel
theorem dX9_parse_11 : decode cX9_parse 11 = .ok (.iload_n 1, 1) := by decide +kernel
theorem dX9_parse_12 : decode cX9_parse 12 = .ok (.isub, 1) := by decide +kernel
theorem dX9_parse_13 : decode cX9_parse 13 = .ok (.ireturn, 1) := by decide +kernel
theorem dX9_parse_14 : decode cX9_parse 14 = .ok (.aload_n 0, 1) := by decide +kernel
theorem dX9_parse_15 : decode cX9_parse 15 = .ok (.invokevirtual 94, 3) := by decide +kernel
theorem dX9_parse_18 : decode cX9_parse 18 = .ok (.iconst 0, 1) := by decide +kernel
theorem dX9_parse_19 : decode cX9_parse 19 = .ok (.istore_n 2, 1) := by decide +kernel
theorem dX9_parse_20 : decode cX9_parse 20 = .ok (.iload_n 2, 1) := by decide +kernel
theorem dX9_parse_21 : decode cX9_parse 21 = .ok (.aload_n 0, 1) := by decide +kernel
theorem dX9_parse_22 : decode cX9_parse 22 = .ok (.getfield 235, 3) := by decide +kernel
theorem dX9_parse_25 : decode cX9_parse 25 = .ok (.if_icmp .ge 38, 3) := by decide +kernel
theorem dX9_parse_28 : decode cX9_parse 28 = .ok (.aload_n 0, 1) := by decide +kernel
theorem dX9_parse_29 : decode cX9_parse 29 = .ok (.getfield 7, 3) := by decide +kernel
theorem dX9_parse_32 : decode cX9_parse 32 = .ok (.iconst 1, 1) := by decide +kernel
theorem dX9_parse_33 : decode cX9_parse 33 = .ok (.aload_n 0, 1) := by decide +kernel
theorem dX9_parse_34 : decode cX9_parse 34 = .ok (.getfield 7, 3) := by decide +kernel
theorem dX9_parse_37 : decode cX9_parse 37 = .ok (.iconst 0, 1) := by decide +kernel
theorem dX9_parse_38 : decode cX9_parse 38 = .ok (.iaload, 1) := by decide +kernel
theorem dX9_parse_39 : decode cX9_parse 39 = .ok (.iadd, 1) := by decide +kernel
theorem dX9_parse_40 : decode cX9_parse 40 = .ok (.aload_n 0, 1) := by decide +kernel
theorem dX9_parse_41 : decode cX9_parse 41 = .ok (.getfield 62, 3) := by decide +kernel
theorem dX9_parse_44 : decode cX9_parse 44 = .ok (.iload_n 2, 1) := by decide +kernel
theorem dX9_parse_45 : decode cX9_parse 45 = .ok (.iaload, 1) := by decide +kernel
theorem dX9_parse_46 : decode cX9_parse 46 = .ok (.iastore, 1) := by decide +kernel
theorem dX9_parse_47 : decode cX9_parse 47 = .ok (.aload_n 0, 1) := by decide +kernel
theorem dX9_parse_48 : decode cX9_parse 48 = .ok (.getfield 7, 3) := by decide +kernel
theorem dX9_parse_51 : decode cX9_parse 51 = .ok (.iconst 0, 1) := by decide +kernel
theorem dX9_parse_52 : decode cX9_parse 52 = .ok (.dup2, 1) := by decide +kernel
theorem dX9_parse_53 : decode cX9_parse 53 = .ok (.iaload, 1) := by decide +kernel
theorem dX9_parse_54 : decode cX9_parse 54 = .ok (.iconst 1, 1) := by decide +kernel
theorem dX9_parse_55 : decode cX9_parse 55 = .ok (.iadd, 1) := by decide +kernel
theorem dX9_parse_56 : decode cX9_parse 56 = .ok (.iastore, 1) := by decide +kernel
theorem dX9_parse_57 : decode cX9_parse 57 = .ok (.iinc 2 1, 3) := by decide +kernel
theorem dX9_parse_60 : decode cX9_parse 60 = .ok (.goto (-40), 3) := by decide +kernel
theorem dX9_parse_63 : decode cX9_parse 63 = .ok (.aload_n 0, 1) := by decide +kernel
theorem dX9_parse_64 : decode cX9_parse 64 = .ok (.getfield 235, 3) := by decide +kernel
theorem dX9_parse_67 : decode cX9_parse 67 = .ok (.ireturn, 1) := by decide +kernel
theorem dX9_errorCount_0 : decode cX9_errorCount 0 = .ok (.iload_n 1, 1) := by decide +kernel
theorem dX9_errorCount_1 : decode cX9_errorCount 1 = .ok (.i2l, 1) := by decide +kernel
theorem dX9_errorCount_2 : decode cX9_errorCount 2 = .ok (.ldc2_w 244, 3) := by decide +kernel
theorem dX9_errorCount_5 : decode cX9_errorCount 5 = .ok (.ldc2_w 246, 3) := by decide +kernel
theorem dX9_errorCount_8 : decode cX9_errorCount 8 = .ok (.invokestatic 69, 3) := by decide +kernel
theorem dX9_errorCount_11 : decode cX9_errorCount 11 = .ok (.ifCond .eq 15, 3) := by decide +kernel
theorem dX9_errorCount_14 : decode cX9_errorCount 14 = .ok (.aload_n 0, 1) := by decide +kernel
theorem dX9_errorCount_15 : decode cX9_errorCount 15 = .ok (.getfield 16, 3) := by decide +kernel
theorem dX9_errorCount_18 : decode cX9_errorCount 18 = .ok (.bipush (-2), 2) := by decide +kernel
theorem dX9_errorCount_20 : decode cX9_errorCount 20 = .ok (.iload_n 1, 1) := by decide +kernel
theorem dX9_errorCount_21 : decode cX9_errorCount 21 = .ok (.isub, 1) := by decide +kernel
theorem dX9_errorCount_22 : decode cX9_errorCount 22 = .ok (.iaload, 1) := by decide +kernel
theorem dX9_errorCount_23 : decode cX9_errorCount 23 = .ok (.goto 9, 3) := by decide +kernel
theorem dX9_errorCount_26 : decode cX9_errorCount 26 = .ok (.aload_n 0, 1) := by decide +kernel
theorem dX9_errorCount_27 : decode cX9_errorCount 27 = .ok (.bipush (-2), 2) := by decide +kernel
theorem dX9_errorCount_29 : decode cX9_errorCount 29 = .ok (.invokevirtual 84, 3) := by decide +kernel
theorem dX9_errorCount_32 : decode cX9_errorCount 32 = .ok (.ireturn, 1) := by decide +kernel
theorem dX9_mixed_0 : decode cX9_mixed 0 = .ok (.ldc2_w 248, 3) := by decide +kernel
theorem dX9_mixed_3 : decode cX9_mixed 3 = .ok (.lload_n 0, 1) := by decide +kernel
theorem dX9_mixed_4 : decode cX9_mixed 4 = .ok (.lmul, 1) := by decide +kernel
theorem dX9_mixed_5 : decode cX9_mixed 5 = .ok (.lload_n 2, 1) := by decide +kernel
theorem dX9_mixed_6 : decode cX9_mixed 6 = .ok (.ladd, 1) := by decide +kernel
theorem dX9_mixed_7 : decode cX9_mixed 7 = .ok (.lreturn, 1) := by decide +kernel
theorem dX9_digest_0 : decode cX9_digest 0 = .ok (.ldc2_w 250, 3) := by decide +kernel
theorem dX9_digest_3 : decode cX9_digest 3 = .ok (.lstore_n 1, 1) := by decide +kernel
theorem dX9_digest_4 : decode cX9_digest 4 = .ok (.iconst 0, 1) := by decide +kernel
theorem dX9_digest_5 : decode cX9_digest 5 = .ok (.istore_n 3, 1) := by decide +kernel
theorem dX9_digest_6 : decode cX9_digest 6 = .ok (.iload_n 3, 1) := by decide +kernel
theorem dX9_digest_7 : decode cX9_digest 7 = .ok (.iconst 4, 1) := by decide +kernel
theorem dX9_digest_8 : decode cX9_digest 8 = .ok (.if_icmp .ge 21, 3) := by decide +kernel
theorem dX9_digest_11 : decode cX9_digest 11 = .ok (.lload_n 1, 1) := by decide +kernel
theorem dX9_digest_12 : decode cX9_digest 12 = .ok (.aload_n 0, 1) := by decide +kernel
theorem dX9_digest_13 : decode cX9_digest 13 = .ok (.getfield 16, 3) := by decide +kernel
theorem dX9_digest_16 : decode cX9_digest 16 = .ok (.iload_n 3, 1) := by decide +kernel
theorem dX9_digest_17 : decode cX9_digest 17 = .ok (.iaload, 1) := by decide +kernel
theorem dX9_digest_18 : decode cX9_digest 18 = .ok (.i2l, 1) := by decide +kernel
theorem dX9_digest_19 : decode cX9_digest 19 = .ok (.invokestatic 252, 3) := by decide +kernel
theorem dX9_digest_22 : decode cX9_digest 22 = .ok (.lstore_n 1, 1) := by decide +kernel
theorem dX9_digest_23 : decode cX9_digest 23 = .ok (.iinc 3 1, 3) := by decide +kernel
theorem dX9_digest_26 : decode cX9_digest 26 = .ok (.goto (-20), 3) := by decide +kernel
theorem dX9_digest_29 : decode cX9_digest 29 = .ok (.lload_n 1, 1) := by decide +kernel
theorem dX9_digest_30 : decode cX9_digest 30 = .ok (.aload_n 0, 1) := by decide +kernel
theorem dX9_digest_31 : decode cX9_digest 31 = .ok (.getfield 219, 3) := by decide +kernel
theorem dX9_digest_34 : decode cX9_digest 34 = .ok (.i2l, 1) := by decide +kernel
theorem dX9_digest_35 : decode cX9_digest 35 = .ok (.invokestatic 252, 3) := by decide +kernel
theorem dX9_digest_38 : decode cX9_digest 38 = .ok (.aload_n 0, 1) := by decide +kernel
theorem dX9_digest_39 : decode cX9_digest 39 = .ok (.getfield 7, 3) := by decide +kernel
theorem dX9_digest_42 : decode cX9_digest 42 = .ok (.iconst 0, 1) := by decide +kernel
theorem dX9_digest_43 : decode cX9_digest 43 = .ok (.iaload, 1) := by decide +kernel
theorem dX9_digest_44 : decode cX9_digest 44 = .ok (.i2l, 1) := by decide +kernel
theorem dX9_digest_45 : decode cX9_digest 45 = .ok (.invokestatic 252, 3) := by decide +kernel
theorem dX9_digest_48 : decode cX9_digest 48 = .ok (.lstore_n 1, 1) := by decide +kernel
theorem dX9_digest_49 : decode cX9_digest 49 = .ok (.iconst 0, 1) := by decide +kernel
theorem dX9_digest_50 : decode cX9_digest 50 = .ok (.istore_n 3, 1) := by decide +kernel
theorem dX9_digest_51 : decode cX9_digest 51 = .ok (.iload_n 3, 1) := by decide +kernel
theorem dX9_digest_52 : decode cX9_digest 52 = .ok (.aload_n 0, 1) := by decide +kernel
theorem dX9_digest_53 : decode cX9_digest 53 = .ok (.getfield 7, 3) := by decide +kernel
theorem dX9_digest_56 : decode cX9_digest 56 = .ok (.iconst 0, 1) := by decide +kernel
theorem dX9_digest_57 : decode cX9_digest 57 = .ok (.iaload, 1) := by decide +kernel
theorem dX9_digest_58 : decode cX9_digest 58 = .ok (.if_icmp .ge 26, 3) := by decide +kernel
theorem dX9_digest_61 : decode cX9_digest 61 = .ok (.lload_n 1, 1) := by decide +kernel
theorem dX9_digest_62 : decode cX9_digest 62 = .ok (.aload_n 0, 1) := by decide +kernel
theorem dX9_digest_63 : decode cX9_digest 63 = .ok (.getfield 7, 3) := by decide +kernel
theorem dX9_digest_66 : decode cX9_digest 66 = .ok (.iconst 1, 1) := by decide +kernel
theorem dX9_digest_67 : decode cX9_digest 67 = .ok (.iload_n 3, 1) := by decide +kernel
theorem dX9_digest_68 : decode cX9_digest 68 = .ok (.iadd, 1) := by decide +kernel
theorem dX9_digest_69 : decode cX9_digest 69 = .ok (.iaload, 1) := by decide +kernel
theorem dX9_digest_70 : decode cX9_digest 70 = .ok (.invokestatic 101, 3) := by decide +kernel
theorem dX9_digest_73 : decode cX9_digest 73 = .ok (.i2l, 1) := by decide +kernel
theorem dX9_digest_74 : decode cX9_digest 74 = .ok (.invokestatic 252, 3) := by decide +kernel
theorem dX9_digest_77 : decode cX9_digest 77 = .ok (.lstore_n 1, 1) := by decide +kernel
theorem dX9_digest_78 : decode cX9_digest 78 = .ok (.iinc 3 1, 3) := by decide +kernel
theorem dX9_digest_81 : decode cX9_digest 81 = .ok (.goto (-30), 3) := by decide +kernel
theorem dX9_digest_84 : decode cX9_digest 84 = .ok (.lload_n 1, 1) := by decide +kernel
theorem dX9_digest_85 : decode cX9_digest 85 = .ok (.aload_n 0, 1) := by decide +kernel
theorem dX9_digest_86 : decode cX9_digest 86 = .ok (.invokevirtual 107, 3) := by decide +kernel
theorem dX9_digest_89 : decode cX9_digest 89 = .ok (.invokestatic 101, 3) := by decide +kernel
theorem dX9_digest_92 : decode cX9_digest 92 = .ok (.i2l, 1) := by decide +kernel
theorem dX9_digest_93 : decode cX9_digest 93 = .ok (.invokestatic 252, 3) := by decide +kernel
theorem dX9_digest_96 : decode cX9_digest 96 = .ok (.lstore_n 1, 1) := by decide +kernel
theorem dX9_digest_97 : decode cX9_digest 97 = .ok (.iconst 0, 1) := by decide +kernel
theorem dX9_digest_98 : decode cX9_digest 98 = .ok (.istore_n 3, 1) := by decide +kernel
theorem dX9_digest_99 : decode cX9_digest 99 = .ok (.iload_n 3, 1) := by decide +kernel
theorem dX9_digest_100 : decode cX9_digest 100 = .ok (.bipush 20, 2) := by decide +kernel
theorem dX9_digest_102 : decode cX9_digest 102 = .ok (.if_icmp .ge 24, 3) := by decide +kernel
theorem dX9_digest_105 : decode cX9_digest 105 = .ok (.lload_n 1, 1) := by decide +kernel
theorem dX9_digest_106 : decode cX9_digest 106 = .ok (.aload_n 0, 1) := by decide +kernel
theorem dX9_digest_107 : decode cX9_digest 107 = .ok (.getfield 7, 3) := by decide +kernel
theorem dX9_digest_110 : decode cX9_digest 110 = .ok (.bipush 19, 2) := by decide +kernel
theorem dX9_digest_112 : decode cX9_digest 112 = .ok (.iload_n 3, 1) := by decide +kernel
theorem dX9_digest_113 : decode cX9_digest 113 = .ok (.iadd, 1) := by decide +kernel
theorem dX9_digest_114 : decode cX9_digest 114 = .ok (.iaload, 1) := by decide +kernel
theorem dX9_digest_115 : decode cX9_digest 115 = .ok (.i2l, 1) := by decide +kernel
theorem dX9_digest_116 : decode cX9_digest 116 = .ok (.invokestatic 252, 3) := by decide +kernel
theorem dX9_digest_119 : decode cX9_digest 119 = .ok (.lstore_n 1, 1) := by decide +kernel
theorem dX9_digest_120 : decode cX9_digest 120 = .ok (.iinc 3 1, 3) := by decide +kernel
theorem dX9_digest_123 : decode cX9_digest 123 = .ok (.goto (-24), 3) := by decide +kernel
theorem dX9_digest_126 : decode cX9_digest 126 = .ok (.lload_n 1, 1) := by decide +kernel
theorem dX9_digest_127 : decode cX9_digest 127 = .ok (.aload_n 0, 1) := by decide +kernel
theorem dX9_digest_128 : decode cX9_digest 128 = .ok (.invokevirtual 256, 3) := by decide +kernel
theorem dX9_digest_131 : decode cX9_digest 131 = .ok (.i2l, 1) := by decide +kernel
theorem dX9_digest_132 : decode cX9_digest 132 = .ok (.invokestatic 252, 3) := by decide +kernel
theorem dX9_digest_135 : decode cX9_digest 135 = .ok (.aload_n 0, 1) := by decide +kernel
theorem dX9_digest_136 : decode cX9_digest 136 = .ok (.invokevirtual 259, 3) := by decide +kernel
theorem dX9_digest_139 : decode cX9_digest 139 = .ok (.i2l, 1) := by decide +kernel
theorem dX9_digest_140 : decode cX9_digest 140 = .ok (.invokestatic 252, 3) := by decide +kernel
theorem dX9_digest_143 : decode cX9_digest 143 = .ok (.aload_n 0, 1) := by decide +kernel
theorem dX9_digest_144 : decode cX9_digest 144 = .ok (.invokevirtual 262, 3) := by decide +kernel
theorem dX9_digest_147 : decode cX9_digest 147 = .ok (.i2l, 1) := by decide +kernel
theorem dX9_digest_148 : decode cX9_digest 148 = .ok (.invokestatic 252, 3) := by decide +kernel
theorem dX9_digest_151 : decode cX9_digest 151 = .ok (.lstore_n 1, 1) := by decide +kernel
theorem dX9_digest_152 : decode cX9_digest 152 = .ok (.lload_n 1, 1) := by decide +kernel
theorem dX9_digest_153 : decode cX9_digest 153 = .ok (.aload_n 0, 1) := by decide +kernel
theorem dX9_digest_154 : decode cX9_digest 154 = .ok (.invokevirtual 265, 3) := by decide +kernel
theorem dX9_digest_157 : decode cX9_digest 157 = .ok (.i2l, 1) := by decide +kernel
theorem dX9_digest_158 : decode cX9_digest 158 = .ok (.invokestatic 252, 3) := by decide +kernel
theorem dX9_digest_161 : decode cX9_digest 161 = .ok (.aload_n 0, 1) := by decide +kernel
theorem dX9_digest_162 : decode cX9_digest 162 = .ok (.invokevirtual 268, 3) := by decide +kernel
theorem dX9_digest_165 : decode cX9_digest 165 = .ok (.i2l, 1) := by decide +kernel
theorem dX9_digest_166 : decode cX9_digest 166 = .ok (.invokestatic 252, 3) := by decide +kernel
theorem dX9_digest_169 : decode cX9_digest 169 = .ok (.aload_n 0, 1) := by decide +kernel
theorem dX9_digest_170 : decode cX9_digest 170 = .ok (.invokevirtual 271, 3) := by decide +kernel
theorem dX9_digest_173 : decode cX9_digest 173 = .ok (.i2l, 1) := by decide +kernel
theorem dX9_digest_174 : decode cX9_digest 174 = .ok (.invokestatic 252, 3) := by decide +kernel
theorem dX9_digest_177 : decode cX9_digest 177 = .ok (.lstore_n 1, 1) := by decide +kernel
theorem dX9_digest_178 : decode cX9_digest 178 = .ok (.lload_n 1, 1) := by decide +kernel
theorem dX9_digest_179 : decode cX9_digest 179 = .ok (.aload_n 0, 1) := by decide +kernel
theorem dX9_digest_180 : decode cX9_digest 180 = .ok (.invokevirtual 182, 3) := by decide +kernel
theorem dX9_digest_183 : decode cX9_digest 183 = .ok (.i2l, 1) := by decide +kernel
theorem dX9_digest_184 : decode cX9_digest 184 = .ok (.invokestatic 252, 3) := by decide +kernel
theorem dX9_digest_187 : decode cX9_digest 187 = .ok (.aload_n 0, 1) := by decide +kernel
theorem dX9_digest_188 : decode cX9_digest 188 = .ok (.invokevirtual 274, 3) := by decide +kernel
theorem dX9_digest_191 : decode cX9_digest 191 = .ok (.invokestatic 252, 3) := by decide +kernel
theorem dX9_digest_194 : decode cX9_digest 194 = .ok (.aload_n 0, 1) := by decide +kernel
theorem dX9_digest_195 : decode cX9_digest 195 = .ok (.invokevirtual 278, 3) := by decide +kernel
theorem dX9_digest_198 : decode cX9_digest 198 = .ok (.i2l, 1) := by decide +kernel
theorem dX9_digest_199 : decode cX9_digest 199 = .ok (.invokestatic 252, 3) := by decide +kernel
theorem dX9_digest_202 : decode cX9_digest 202 = .ok (.lstore_n 1, 1) := by decide +kernel
theorem dX9_digest_203 : decode cX9_digest 203 = .ok (.lload_n 1, 1) := by decide +kernel
theorem dX9_digest_204 : decode cX9_digest 204 = .ok (.aload_n 0, 1) := by decide +kernel
theorem dX9_digest_205 : decode cX9_digest 205 = .ok (.getfield 73, 3) := by decide +kernel
theorem dX9_digest_208 : decode cX9_digest 208 = .ok (.i2l, 1) := by decide +kernel
theorem dX9_digest_209 : decode cX9_digest 209 = .ok (.invokestatic 252, 3) := by decide +kernel
theorem dX9_digest_212 : decode cX9_digest 212 = .ok (.lreturn, 1) := by decide +kernel
theorem dJxf58ca_isNaN_12338_0 : decode cJxf58ca_isNaN_12338 0 = .ok (.fload_n 0, 1) := by decide +kernel
theorem dJxf58ca_isNaN_12338_1 : decode cJxf58ca_isNaN_12338 1 = .ok (.fload_n 0, 1) := by decide +kernel
theorem dJxf58ca_isNaN_12338_2 : decode cJxf58ca_isNaN_12338 2 = .ok (.fcmp .l, 1) := by decide +kernel
theorem dJxf58ca_isNaN_12338_3 : decode cJxf58ca_isNaN_12338 3 = .ok (.ifCond .eq 7, 3) := by decide +kernel
theorem dJxf58ca_isNaN_12338_6 : decode cJxf58ca_isNaN_12338 6 = .ok (.iconst 1, 1) := by decide +kernel
theorem dJxf58ca_isNaN_12338_7 : decode cJxf58ca_isNaN_12338 7 = .ok (.goto 4, 3) := by decide +kernel
theorem dJxf58ca_isNaN_12338_10 : decode cJxf58ca_isNaN_12338 10 = .ok (.iconst 0, 1) := by decide +kernel
theorem dJxf58ca_isNaN_12338_11 : decode cJxf58ca_isNaN_12338 11 = .ok (.ireturn, 1) := by decide +kernel
theorem dJxf58ca_floatToIntBits_5c35a_0 : decode cJxf58ca_floatToIntBits_5c35a 0 = .ok (.fload_n 0, 1) := by decide +kernel
theorem dJxf58ca_floatToIntBits_5c35a_1 : decode cJxf58ca_floatToIntBits_5c35a 1 = .ok (.invokestatic 59, 3) := by decide +kernel
theorem dJxf58ca_floatToIntBits_5c35a_4 : decode cJxf58ca_floatToIntBits_5c35a 4 = .ok (.ifCond .ne 8, 3) := by decide +kernel
theorem dJxf58ca_floatToIntBits_5c35a_7 : decode cJxf58ca_floatToIntBits_5c35a 7 = .ok (.fload_n 0, 1) := by decide +kernel
theorem dJxf58ca_floatToIntBits_5c35a_8 : decode cJxf58ca_floatToIntBits_5c35a 8 = .ok (.invokestatic 74, 3) := by decide +kernel
theorem dJxf58ca_floatToIntBits_5c35a_11 : decode cJxf58ca_floatToIntBits_5c35a 11 = .ok (.ireturn, 1) := by decide +kernel
theorem dJxf58ca_floatToIntBits_5c35a_12 : decode cJxf58ca_floatToIntBits_5c35a 12 = .ok (.ldc 77, 2) := by decide +kernel
theorem dJxf58ca_floatToIntBits_5c35a_14 : decode cJxf58ca_floatToIntBits_5c35a 14 = .ok (.ireturn, 1) := by decide +kernel
theorem dJ6_numberOfLeadingZeros_0f7a4_0 : decode cJ6_numberOfLeadingZeros_0f7a4 0 = .ok (.iload_n 0, 1) := by decide +kernel
theorem dJ6_numberOfLeadingZeros_0f7a4_1 : decode cJ6_numberOfLeadingZeros_0f7a4 1 = .ok (.ifCond .gt 14, 3) := by decide +kernel
theorem dJ6_numberOfLeadingZeros_0f7a4_4 : decode cJ6_numberOfLeadingZeros_0f7a4 4 = .ok (.iload_n 0, 1) := by decide +kernel
theorem dJ6_numberOfLeadingZeros_0f7a4_5 : decode cJ6_numberOfLeadingZeros_0f7a4 5 = .ok (.ifCond .ne 8, 3) := by decide +kernel
theorem dJ6_numberOfLeadingZeros_0f7a4_8 : decode cJ6_numberOfLeadingZeros_0f7a4 8 = .ok (.bipush 32, 2) := by decide +kernel
theorem dJ6_numberOfLeadingZeros_0f7a4_10 : decode cJ6_numberOfLeadingZeros_0f7a4 10 = .ok (.goto 4, 3) := by decide +kernel
theorem dJ6_numberOfLeadingZeros_0f7a4_13 : decode cJ6_numberOfLeadingZeros_0f7a4 13 = .ok (.iconst 0, 1) := by decide +kernel
theorem dJ6_numberOfLeadingZeros_0f7a4_14 : decode cJ6_numberOfLeadingZeros_0f7a4 14 = .ok (.ireturn, 1) := by decide +kernel
theorem dJ6_numberOfLeadingZeros_0f7a4_15 : decode cJ6_numberOfLeadingZeros_0f7a4 15 = .ok (.bipush 31, 2) := by decide +kernel
theorem dJ6_numberOfLeadingZeros_0f7a4_17 : decode cJ6_numberOfLeadingZeros_0f7a4 17 = .ok (.istore_n 1, 1) := by decide +kernel
theorem dJ6_numberOfLeadingZeros_0f7a4_18 : decode cJ6_numberOfLeadingZeros_0f7a4 18 = .ok (.iload_n 0, 1) := by decide +kernel
theorem dJ6_numberOfLeadingZeros_0f7a4_19 : decode cJ6_numberOfLeadingZeros_0f7a4 19 = .ok (.ldc_w 264, 3) := by decide +kernel
theorem dJ6_numberOfLeadingZeros_0f7a4_22 : decode cJ6_numberOfLeadingZeros_0f7a4 22 = .ok (.if_icmp .lt 11, 3) := by decide +kernel
theorem dJ6_numberOfLeadingZeros_0f7a4_25 : decode cJ6_numberOfLeadingZeros_0f7a4 25 = .ok (.iinc 1 (-16), 3) := by decide +kernel
theorem dJ6_numberOfLeadingZeros_0f7a4_28 : decode cJ6_numberOfLeadingZeros_0f7a4 28 = .ok (.iload_n 0, 1) := by decide +kernel
theorem dJ6_numberOfLeadingZeros_0f7a4_29 : decode cJ6_numberOfLeadingZeros_0f7a4 29 = .ok (.bipush 16, 2) := by decide +kernel
theorem dJ6_numberOfLeadingZeros_0f7a4_31 : decode cJ6_numberOfLeadingZeros_0f7a4 31 = .ok (.iushr, 1) := by decide +kernel
theorem dJ6_numberOfLeadingZeros_0f7a4_32 : decode cJ6_numberOfLeadingZeros_0f7a4 32 = .ok (.istore_n 0, 1) := by decide +kernel
theorem dJ6_numberOfLeadingZeros_0f7a4_33 : decode cJ6_numberOfLeadingZeros_0f7a4 33 = .ok (.iload_n 0, 1) := by decide +kernel
theorem dJ6_numberOfLeadingZeros_0f7a4_34 : decode cJ6_numberOfLeadingZeros_0f7a4 34 = .ok (.sipush 256, 3) := by decide +kernel
theorem dJ6_numberOfLeadingZeros_0f7a4_37 : decode cJ6_numberOfLeadingZeros_0f7a4 37 = .ok (.if_icmp .lt 11, 3) := by decide +kernel
theorem dJ6_numberOfLeadingZeros_0f7a4_40 : decode cJ6_numberOfLeadingZeros_0f7a4 40 = .ok (.iinc 1 (-8), 3) := by decide +kernel
theorem dJ6_numberOfLeadingZeros_0f7a4_43 : decode cJ6_numberOfLeadingZeros_0f7a4 43 = .ok (.iload_n 0, 1) := by decide +kernel
theorem dJ6_numberOfLeadingZeros_0f7a4_44 : decode cJ6_numberOfLeadingZeros_0f7a4 44 = .ok (.bipush 8, 2) := by decide +kernel
theorem dJ6_numberOfLeadingZeros_0f7a4_46 : decode cJ6_numberOfLeadingZeros_0f7a4 46 = .ok (.iushr, 1) := by decide +kernel
theorem dJ6_numberOfLeadingZeros_0f7a4_47 : decode cJ6_numberOfLeadingZeros_0f7a4 47 = .ok (.istore_n 0, 1) := by decide +kernel
theorem dJ6_numberOfLeadingZeros_0f7a4_48 : decode cJ6_numberOfLeadingZeros_0f7a4 48 = .ok (.iload_n 0, 1) := by decide +kernel
theorem dJ6_numberOfLeadingZeros_0f7a4_49 : decode cJ6_numberOfLeadingZeros_0f7a4 49 = .ok (.bipush 16, 2) := by decide +kernel
theorem dJ6_numberOfLeadingZeros_0f7a4_51 : decode cJ6_numberOfLeadingZeros_0f7a4 51 = .ok (.if_icmp .lt 10, 3) := by decide +kernel
theorem dJ6_numberOfLeadingZeros_0f7a4_54 : decode cJ6_numberOfLeadingZeros_0f7a4 54 = .ok (.iinc 1 (-4), 3) := by decide +kernel
theorem dJ6_numberOfLeadingZeros_0f7a4_57 : decode cJ6_numberOfLeadingZeros_0f7a4 57 = .ok (.iload_n 0, 1) := by decide +kernel
theorem dJ6_numberOfLeadingZeros_0f7a4_58 : decode cJ6_numberOfLeadingZeros_0f7a4 58 = .ok (.iconst 4, 1) := by decide +kernel
theorem dJ6_numberOfLeadingZeros_0f7a4_59 : decode cJ6_numberOfLeadingZeros_0f7a4 59 = .ok (.iushr, 1) := by decide +kernel
theorem dJ6_numberOfLeadingZeros_0f7a4_60 : decode cJ6_numberOfLeadingZeros_0f7a4 60 = .ok (.istore_n 0, 1) := by decide +kernel
theorem dJ6_numberOfLeadingZeros_0f7a4_61 : decode cJ6_numberOfLeadingZeros_0f7a4 61 = .ok (.iload_n 0, 1) := by decide +kernel
theorem dJ6_numberOfLeadingZeros_0f7a4_62 : decode cJ6_numberOfLeadingZeros_0f7a4 62 = .ok (.iconst 4, 1) := by decide +kernel
theorem dJ6_numberOfLeadingZeros_0f7a4_63 : decode cJ6_numberOfLeadingZeros_0f7a4 63 = .ok (.if_icmp .lt 10, 3) := by decide +kernel
theorem dJ6_numberOfLeadingZeros_0f7a4_66 : decode cJ6_numberOfLeadingZeros_0f7a4 66 = .ok (.iinc 1 (-2), 3) := by decide +kernel
theorem dJ6_numberOfLeadingZeros_0f7a4_69 : decode cJ6_numberOfLeadingZeros_0f7a4 69 = .ok (.iload_n 0, 1) := by decide +kernel
theorem dJ6_numberOfLeadingZeros_0f7a4_70 : decode cJ6_numberOfLeadingZeros_0f7a4 70 = .ok (.iconst 2, 1) := by decide +kernel
theorem dJ6_numberOfLeadingZeros_0f7a4_71 : decode cJ6_numberOfLeadingZeros_0f7a4 71 = .ok (.iushr, 1) := by decide +kernel
theorem dJ6_numberOfLeadingZeros_0f7a4_72 : decode cJ6_numberOfLeadingZeros_0f7a4 72 = .ok (.istore_n 0, 1) := by decide +kernel
theorem dJ6_numberOfLeadingZeros_0f7a4_73 : decode cJ6_numberOfLeadingZeros_0f7a4 73 = .ok (.iload_n 1, 1) := by decide +kernel
theorem dJ6_numberOfLeadingZeros_0f7a4_74 : decode cJ6_numberOfLeadingZeros_0f7a4 74 = .ok (.iload_n 0, 1) := by decide +kernel
theorem dJ6_numberOfLeadingZeros_0f7a4_75 : decode cJ6_numberOfLeadingZeros_0f7a4 75 = .ok (.iconst 1, 1) := by decide +kernel
theorem dJ6_numberOfLeadingZeros_0f7a4_76 : decode cJ6_numberOfLeadingZeros_0f7a4 76 = .ok (.iushr, 1) := by decide +kernel
theorem dJ6_numberOfLeadingZeros_0f7a4_77 : decode cJ6_numberOfLeadingZeros_0f7a4 77 = .ok (.isub, 1) := by decide +kernel
theorem dJ6_numberOfLeadingZeros_0f7a4_78 : decode cJ6_numberOfLeadingZeros_0f7a4 78 = .ok (.ireturn, 1) := by decide +kernel
theorem dJ6_numberOfTrailingZeros_0f7a4_0 : decode cJ6_numberOfTrailingZeros_0f7a4 0 = .ok (.iload_n 0, 1) := by decide +kernel
theorem dJ6_numberOfTrailingZeros_0f7a4_1 : decode cJ6_numberOfTrailingZeros_0f7a4 1 = .ok (.iconst (-1), 1) := by decide +kernel
theorem dJ6_numberOfTrailingZeros_0f7a4_2 : decode cJ6_numberOfTrailingZeros_0f7a4 2 = .ok (.ixor, 1) := by decide +kernel
theorem dJ6_numberOfTrailingZeros_0f7a4_3 : decode cJ6_numberOfTrailingZeros_0f7a4 3 = .ok (.iload_n 0, 1) := by decide +kernel
theorem dJ6_numberOfTrailingZeros_0f7a4_4 : decode cJ6_numberOfTrailingZeros_0f7a4 4 = .ok (.iconst 1, 1) := by decide +kernel
theorem dJ6_numberOfTrailingZeros_0f7a4_5 : decode cJ6_numberOfTrailingZeros_0f7a4 5 = .ok (.isub, 1) := by decide +kernel
theorem dJ6_numberOfTrailingZeros_0f7a4_6 : decode cJ6_numberOfTrailingZeros_0f7a4 6 = .ok (.iand, 1) := by decide +kernel
theorem dJ6_numberOfTrailingZeros_0f7a4_7 : decode cJ6_numberOfTrailingZeros_0f7a4 7 = .ok (.istore_n 0, 1) := by decide +kernel
theorem dJ6_numberOfTrailingZeros_0f7a4_8 : decode cJ6_numberOfTrailingZeros_0f7a4 8 = .ok (.iload_n 0, 1) := by decide +kernel
theorem dJ6_numberOfTrailingZeros_0f7a4_9 : decode cJ6_numberOfTrailingZeros_0f7a4 9 = .ok (.ifCond .gt 8, 3) := by decide +kernel
theorem dJ6_numberOfTrailingZeros_0f7a4_12 : decode cJ6_numberOfTrailingZeros_0f7a4 12 = .ok (.iload_n 0, 1) := by decide +kernel
theorem dJ6_numberOfTrailingZeros_0f7a4_13 : decode cJ6_numberOfTrailingZeros_0f7a4 13 = .ok (.bipush 32, 2) := by decide +kernel
theorem dJ6_numberOfTrailingZeros_0f7a4_15 : decode cJ6_numberOfTrailingZeros_0f7a4 15 = .ok (.iand, 1) := by decide +kernel
theorem dJ6_numberOfTrailingZeros_0f7a4_16 : decode cJ6_numberOfTrailingZeros_0f7a4 16 = .ok (.ireturn, 1) := by decide +kernel
theorem dJ6_numberOfTrailingZeros_0f7a4_17 : decode cJ6_numberOfTrailingZeros_0f7a4 17 = .ok (.iconst 1, 1) := by decide +kernel
theorem dJ6_numberOfTrailingZeros_0f7a4_18 : decode cJ6_numberOfTrailingZeros_0f7a4 18 = .ok (.istore_n 1, 1) := by decide +kernel
theorem dJ6_numberOfTrailingZeros_0f7a4_19 : decode cJ6_numberOfTrailingZeros_0f7a4 19 = .ok (.iload_n 0, 1) := by decide +kernel
theorem dJ6_numberOfTrailingZeros_0f7a4_20 : decode cJ6_numberOfTrailingZeros_0f7a4 20 = .ok (.ldc_w 264, 3) := by decide +kernel
theorem dJ6_numberOfTrailingZeros_0f7a4_23 : decode cJ6_numberOfTrailingZeros_0f7a4 23 = .ok (.if_icmp .le 11, 3) := by decide +kernel
theorem dJ6_numberOfTrailingZeros_0f7a4_26 : decode cJ6_numberOfTrailingZeros_0f7a4 26 = .ok (.iinc 1 16, 3) := by decide +kernel
theorem dJ6_numberOfTrailingZeros_0f7a4_29 : decode cJ6_numberOfTrailingZeros_0f7a4 29 = .ok (.iload_n 0, 1) := by decide +kernel
theorem dJ6_numberOfTrailingZeros_0f7a4_30 : decode cJ6_numberOfTrailingZeros_0f7a4 30 = .ok (.bipush 16, 2) := by decide +kernel
theorem dJ6_numberOfTrailingZeros_0f7a4_32 : decode cJ6_numberOfTrailingZeros_0f7a4 32 = .ok (.iushr, 1) := by decide +kernel
theorem dJ6_numberOfTrailingZeros_0f7a4_33 : decode cJ6_numberOfTrailingZeros_0f7a4 33 = .ok (.istore_n 0, 1) := by decide +kernel
theorem dJ6_numberOfTrailingZeros_0f7a4_34 : decode cJ6_numberOfTrailingZeros_0f7a4 34 = .ok (.iload_n 0, 1) := by decide +kernel
theorem dJ6_numberOfTrailingZeros_0f7a4_35 : decode cJ6_numberOfTrailingZeros_0f7a4 35 = .ok (.sipush 256, 3) := by decide +kernel
theorem dJ6_numberOfTrailingZeros_0f7a4_38 : decode cJ6_numberOfTrailingZeros_0f7a4 38 = .ok (.if_icmp .le 11, 3) := by decide +kernel
theorem dJ6_numberOfTrailingZeros_0f7a4_41 : decode cJ6_numberOfTrailingZeros_0f7a4 41 = .ok (.iinc 1 8, 3) := by decide +kernel
theorem dJ6_numberOfTrailingZeros_0f7a4_44 : decode cJ6_numberOfTrailingZeros_0f7a4 44 = .ok (.iload_n 0, 1) := by decide +kernel
theorem dJ6_numberOfTrailingZeros_0f7a4_45 : decode cJ6_numberOfTrailingZeros_0f7a4 45 = .ok (.bipush 8, 2) := by decide +kernel
theorem dJ6_numberOfTrailingZeros_0f7a4_47 : decode cJ6_numberOfTrailingZeros_0f7a4 47 = .ok (.iushr, 1) := by decide +kernel
theorem dJ6_numberOfTrailingZeros_0f7a4_48 : decode cJ6_numberOfTrailingZeros_0f7a4 48 = .ok (.istore_n 0, 1) := by decide +kernel
theorem dJ6_numberOfTrailingZeros_0f7a4_49 : decode cJ6_numberOfTrailingZeros_0f7a4 49 = .ok (.iload_n 0, 1) := by decide +kernel
theorem dJ6_numberOfTrailingZeros_0f7a4_50 : decode cJ6_numberOfTrailingZeros_0f7a4 50 = .ok (.bipush 16, 2) := by decide +kernel
theorem dJ6_numberOfTrailingZeros_0f7a4_52 : decode cJ6_numberOfTrailingZeros_0f7a4 52 = .ok (.if_icmp .le 10, 3) := by decide +kernel
theorem dJ6_numberOfTrailingZeros_0f7a4_55 : decode cJ6_numberOfTrailingZeros_0f7a4 55 = .ok (.iinc 1 4, 3) := by decide +kernel
theorem dJ6_numberOfTrailingZeros_0f7a4_58 : decode cJ6_numberOfTrailingZeros_0f7a4 58 = .ok (.iload_n 0, 1) := by decide +kernel
theorem dJ6_numberOfTrailingZeros_0f7a4_59 : decode cJ6_numberOfTrailingZeros_0f7a4 59 = .ok (.iconst 4, 1) := by decide +kernel
theorem dJ6_numberOfTrailingZeros_0f7a4_60 : decode cJ6_numberOfTrailingZeros_0f7a4 60 = .ok (.iushr, 1) := by decide +kernel
theorem dJ6_numberOfTrailingZeros_0f7a4_61 : decode cJ6_numberOfTrailingZeros_0f7a4 61 = .ok (.istore_n 0, 1) := by decide +kernel
theorem dJ6_numberOfTrailingZeros_0f7a4_62 : decode cJ6_numberOfTrailingZeros_0f7a4 62 = .ok (.iload_n 0, 1) := by decide +kernel
theorem dJ6_numberOfTrailingZeros_0f7a4_63 : decode cJ6_numberOfTrailingZeros_0f7a4 63 = .ok (.iconst 4, 1) := by decide +kernel
theorem dJ6_numberOfTrailingZeros_0f7a4_64 : decode cJ6_numberOfTrailingZeros_0f7a4 64 = .ok (.if_icmp .le 10, 3) := by decide +kernel
theorem dJ6_numberOfTrailingZeros_0f7a4_67 : decode cJ6_numberOfTrailingZeros_0f7a4 67 = .ok (.iinc 1 2, 3) := by decide +kernel
theorem dJ6_numberOfTrailingZeros_0f7a4_70 : decode cJ6_numberOfTrailingZeros_0f7a4 70 = .ok (.iload_n 0, 1) := by decide +kernel
theorem dJ6_numberOfTrailingZeros_0f7a4_71 : decode cJ6_numberOfTrailingZeros_0f7a4 71 = .ok (.iconst 2, 1) := by decide +kernel
theorem dJ6_numberOfTrailingZeros_0f7a4_72 : decode cJ6_numberOfTrailingZeros_0f7a4 72 = .ok (.iushr, 1) := by decide +kernel
theorem dJ6_numberOfTrailingZeros_0f7a4_73 : decode cJ6_numberOfTrailingZeros_0f7a4 73 = .ok (.istore_n 0, 1) := by decide +kernel
theorem dJ6_numberOfTrailingZeros_0f7a4_74 : decode cJ6_numberOfTrailingZeros_0f7a4 74 = .ok (.iload_n 1, 1) := by decide +kernel
theorem dJ6_numberOfTrailingZeros_0f7a4_75 : decode cJ6_numberOfTrailingZeros_0f7a4 75 = .ok (.iload_n 0, 1) := by decide +kernel
theorem dJ6_numberOfTrailingZeros_0f7a4_76 : decode cJ6_numberOfTrailingZeros_0f7a4 76 = .ok (.iconst 1, 1) := by decide +kernel
theorem dJ6_numberOfTrailingZeros_0f7a4_77 : decode cJ6_numberOfTrailingZeros_0f7a4 77 = .ok (.iushr, 1) := by decide +kernel
theorem dJ6_numberOfTrailingZeros_0f7a4_78 : decode cJ6_numberOfTrailingZeros_0f7a4 78 = .ok (.iadd, 1) := by decide +kernel
theorem dJ6_numberOfTrailingZeros_0f7a4_79 : decode cJ6_numberOfTrailingZeros_0f7a4 79 = .ok (.ireturn, 1) := by decide +kernel
theorem dJ6_bitCount_0f7a4_0 : decode cJ6_bitCount_0f7a4 0 = .ok (.iload_n 0, 1) := by decide +kernel
theorem dJ6_bitCount_0f7a4_1 : decode cJ6_bitCount_0f7a4 1 = .ok (.iload_n 0, 1) := by decide +kernel
theorem dJ6_bitCount_0f7a4_2 : decode cJ6_bitCount_0f7a4 2 = .ok (.iconst 1, 1) := by decide +kernel
theorem dJ6_bitCount_0f7a4_3 : decode cJ6_bitCount_0f7a4 3 = .ok (.iushr, 1) := by decide +kernel
theorem dJ6_bitCount_0f7a4_4 : decode cJ6_bitCount_0f7a4 4 = .ok (.ldc_w 265, 3) := by decide +kernel
theorem dJ6_bitCount_0f7a4_7 : decode cJ6_bitCount_0f7a4 7 = .ok (.iand, 1) := by decide +kernel
theorem dJ6_bitCount_0f7a4_8 : decode cJ6_bitCount_0f7a4 8 = .ok (.isub, 1) := by decide +kernel
theorem dJ6_bitCount_0f7a4_9 : decode cJ6_bitCount_0f7a4 9 = .ok (.istore_n 0, 1) := by decide +kernel
theorem dJ6_bitCount_0f7a4_10 : decode cJ6_bitCount_0f7a4 10 = .ok (.iload_n 0, 1) := by decide +kernel
theorem dJ6_bitCount_0f7a4_11 : decode cJ6_bitCount_0f7a4 11 = .ok (.ldc_w 266, 3) := by decide +kernel
theorem dJ6_bitCount_0f7a4_14 : decode cJ6_bitCount_0f7a4 14 = .ok (.iand, 1) := by decide +kernel
theorem dJ6_bitCount_0f7a4_15 : decode cJ6_bitCount_0f7a4 15 = .ok (.iload_n 0, 1) := by decide +kernel
theorem dJ6_bitCount_0f7a4_16 : decode cJ6_bitCount_0f7a4 16 = .ok (.iconst 2, 1) := by decide +kernel
theorem dJ6_bitCount_0f7a4_17 : decode cJ6_bitCount_0f7a4 17 = .ok (.iushr, 1) := by decide +kernel
theorem dJ6_bitCount_0f7a4_18 : decode cJ6_bitCount_0f7a4 18 = .ok (.ldc_w 266, 3) := by decide +kernel
theorem dJ6_bitCount_0f7a4_21 : decode cJ6_bitCount_0f7a4 21 = .ok (.iand, 1) := by decide +kernel
theorem dJ6_bitCount_0f7a4_22 : decode cJ6_bitCount_0f7a4 22 = .ok (.iadd, 1) := by decide +kernel
theorem dJ6_bitCount_0f7a4_23 : decode cJ6_bitCount_0f7a4 23 = .ok (.istore_n 0, 1) := by decide +kernel
theorem dJ6_bitCount_0f7a4_24 : decode cJ6_bitCount_0f7a4 24 = .ok (.iload_n 0, 1) := by decide +kernel
theorem dJ6_bitCount_0f7a4_25 : decode cJ6_bitCount_0f7a4 25 = .ok (.iload_n 0, 1) := by decide +kernel
theorem dJ6_bitCount_0f7a4_26 : decode cJ6_bitCount_0f7a4 26 = .ok (.iconst 4, 1) := by decide +kernel
theorem dJ6_bitCount_0f7a4_27 : decode cJ6_bitCount_0f7a4 27 = .ok (.iushr, 1) := by decide +kernel
theorem dJ6_bitCount_0f7a4_28 : decode cJ6_bitCount_0f7a4 28 = .ok (.iadd, 1) := by decide +kernel
theorem dJ6_bitCount_0f7a4_29 : decode cJ6_bitCount_0f7a4 29 = .ok (.ldc_w 267, 3) := by decide +kernel
theorem dJ6_bitCount_0f7a4_32 : decode cJ6_bitCount_0f7a4 32 = .ok (.iand, 1) := by decide +kernel
theorem dJ6_bitCount_0f7a4_33 : decode cJ6_bitCount_0f7a4 33 = .ok (.istore_n 0, 1) := by decide +kernel
theorem dJ6_bitCount_0f7a4_34 : decode cJ6_bitCount_0f7a4 34 = .ok (.iload_n 0, 1) := by decide +kernel
theorem dJ6_bitCount_0f7a4_35 : decode cJ6_bitCount_0f7a4 35 = .ok (.iload_n 0, 1) := by decide +kernel
theorem dJ6_bitCount_0f7a4_36 : decode cJ6_bitCount_0f7a4 36 = .ok (.bipush 8, 2) := by decide +kernel
theorem dJ6_bitCount_0f7a4_38 : decode cJ6_bitCount_0f7a4 38 = .ok (.iushr, 1) := by decide +kernel
theorem dJ6_bitCount_0f7a4_39 : decode cJ6_bitCount_0f7a4 39 = .ok (.iadd, 1) := by decide +kernel
theorem dJ6_bitCount_0f7a4_40 : decode cJ6_bitCount_0f7a4 40 = .ok (.istore_n 0, 1) := by decide +kernel
theorem dJ6_bitCount_0f7a4_41 : decode cJ6_bitCount_0f7a4 41 = .ok (.iload_n 0, 1) := by decide +kernel
theorem dJ6_bitCount_0f7a4_42 : decode cJ6_bitCount_0f7a4 42 = .ok (.iload_n 0, 1) := by decide +kernel
theorem dJ6_bitCount_0f7a4_43 : decode cJ6_bitCount_0f7a4 43 = .ok (.bipush 16, 2) := by decide +kernel
theorem dJ6_bitCount_0f7a4_45 : decode cJ6_bitCount_0f7a4 45 = .ok (.iushr, 1) := by decide +kernel
theorem dJ6_bitCount_0f7a4_46 : decode cJ6_bitCount_0f7a4 46 = .ok (.iadd, 1) := by decide +kernel
theorem dJ6_bitCount_0f7a4_47 : decode cJ6_bitCount_0f7a4 47 = .ok (.istore_n 0, 1) := by decide +kernel
theorem dJ6_bitCount_0f7a4_48 : decode cJ6_bitCount_0f7a4 48 = .ok (.iload_n 0, 1) := by decide +kernel
theorem dJ6_bitCount_0f7a4_49 : decode cJ6_bitCount_0f7a4 49 = .ok (.bipush 63, 2) := by decide +kernel
theorem dJ6_bitCount_0f7a4_51 : decode cJ6_bitCount_0f7a4 51 = .ok (.iand, 1) := by decide +kernel
theorem dJ6_bitCount_0f7a4_52 : decode cJ6_bitCount_0f7a4 52 = .ok (.ireturn, 1) := by decide +kernel
theorem dJ13_numberOfTrailingZeros_95d88_0 : decode cJ13_numberOfTrailingZeros_95d88 0 = .ok (.lload_n 0, 1) := by decide +kernel
theorem dJ13_numberOfTrailingZeros_95d88_1 : decode cJ13_numberOfTrailingZeros_95d88 1 = .ok (.l2i, 1) := by decide +kernel
theorem dJ13_numberOfTrailingZeros_95d88_2 : decode cJ13_numberOfTrailingZeros_95d88 2 = .ok (.istore_n 2, 1) := by decide +kernel
theorem dJ13_numberOfTrailingZeros_95d88_3 : decode cJ13_numberOfTrailingZeros_95d88 3 = .ok (.iload_n 2, 1) := by decide +kernel
theorem dJ13_numberOfTrailingZeros_95d88_4 : decode cJ13_numberOfTrailingZeros_95d88 4 = .ok (.ifCond .ne 17, 3) := by decide +kernel
theorem dJ13_numberOfTrailingZeros_95d88_7 : decode cJ13_numberOfTrailingZeros_95d88 7 = .ok (.bipush 32, 2) := by decide +kernel
theorem dJ13_numberOfTrailingZeros_95d88_9 : decode cJ13_numberOfTrailingZeros_95d88 9 = .ok (.lload_n 0, 1) := by decide +kernel
theorem dJ13_numberOfTrailingZeros_95d88_10 : decode cJ13_numberOfTrailingZeros_95d88 10 = .ok (.bipush 32, 2) := by decide +kernel
theorem dJ13_numberOfTrailingZeros_95d88_12 : decode cJ13_numberOfTrailingZeros_95d88 12 = .ok (.lushr, 1) := by decide +kernel
theorem dJ13_numberOfTrailingZeros_95d88_13 : decode cJ13_numberOfTrailingZeros_95d88 13 = .ok (.l2i, 1) := by decide +kernel
theorem dJ13_numberOfTrailingZeros_95d88_14 : decode cJ13_numberOfTrailingZeros_95d88 14 = .ok (.invokestatic 311, 3) := by decide +kernel
theorem dJ13_numberOfTrailingZeros_95d88_17 : decode cJ13_numberOfTrailingZeros_95d88 17 = .ok (.iadd, 1) := by decide +kernel
theorem dJ13_numberOfTrailingZeros_95d88_18 : decode cJ13_numberOfTrailingZeros_95d88 18 = .ok (.goto 7, 3) := by decide +kernel
theorem dJ13_numberOfTrailingZeros_95d88_21 : decode cJ13_numberOfTrailingZeros_95d88 21 = .ok (.iload_n 2, 1) := by decide +kernel
theorem dJ13_numberOfTrailingZeros_95d88_22 : decode cJ13_numberOfTrailingZeros_95d88 22 = .ok (.invokestatic 311, 3) := by decide +kernel
theorem dJ13_numberOfTrailingZeros_95d88_25 : decode cJ13_numberOfTrailingZeros_95d88 25 = .ok (.ireturn, 1) := by decide +kernel
theorem dJ13_bitCount_95d88_0 : decode cJ13_bitCount_95d88 0 = .ok (.lload_n 0, 1) := by decide +kernel
theorem dJ13_bitCount_95d88_1 : decode cJ13_bitCount_95d88 1 = .ok (.lload_n 0, 1) := by decide +kernel
theorem dJ13_bitCount_95d88_2 : decode cJ13_bitCount_95d88 2 = .ok (.iconst 1, 1) := by decide +kernel
theorem dJ13_bitCount_95d88_3 : decode cJ13_bitCount_95d88 3 = .ok (.lushr, 1) := by decide +kernel
theorem dJ13_bitCount_95d88_4 : decode cJ13_bitCount_95d88 4 = .ok (.ldc2_w 314, 3) := by decide +kernel
theorem dJ13_bitCount_95d88_7 : decode cJ13_bitCount_95d88 7 = .ok (.land, 1) := by decide +kernel
theorem dJ13_bitCount_95d88_8 : decode cJ13_bitCount_95d88 8 = .ok (.lsub, 1) := by decide +kernel
theorem dJ13_bitCount_95d88_9 : decode cJ13_bitCount_95d88 9 = .ok (.lstore_n 0, 1) := by decide +kernel
theorem dJ13_bitCount_95d88_10 : decode cJ13_bitCount_95d88 10 = .ok (.lload_n 0, 1) := by decide +kernel
theorem dJ13_bitCount_95d88_11 : decode cJ13_bitCount_95d88 11 = .ok (.ldc2_w 316, 3) := by decide +kernel
theorem dJ13_bitCount_95d88_14 : decode cJ13_bitCount_95d88 14 = .ok (.land, 1) := by decide +kernel
theorem dJ13_bitCount_95d88_15 : decode cJ13_bitCount_95d88 15 = .ok (.lload_n 0, 1) := by decide +kernel
theorem dJ13_bitCount_95d88_16 : decode cJ13_bitCount_95d88 16 = .ok (.iconst 2, 1) := by decide +kernel
theorem dJ13_bitCount_95d88_17 : decode cJ13_bitCount_95d88 17 = .ok (.lushr, 1) := by decide +kernel
theorem dJ13_bitCount_95d88_18 : decode cJ13_bitCount_95d88 18 = .ok (.ldc2_w 316, 3) := by decide +kernel
theorem dJ13_bitCount_95d88_21 : decode cJ13_bitCount_95d88 21 = .ok (.land, 1) := by decide +kernel
theorem dJ13_bitCount_95d88_22 : decode cJ13_bitCount_95d88 22 = .ok (.ladd, 1) := by decide +kernel
theorem dJ13_bitCount_95d88_23 : decode cJ13_bitCount_95d88 23 = .ok (.lstore_n 0, 1) := by decide +kernel
theorem dJ13_bitCount_95d88_24 : decode cJ13_bitCount_95d88 24 = .ok (.lload_n 0, 1) := by decide +kernel
theorem dJ13_bitCount_95d88_25 : decode cJ13_bitCount_95d88 25 = .ok (.lload_n 0, 1) := by decide +kernel
theorem dJ13_bitCount_95d88_26 : decode cJ13_bitCount_95d88 26 = .ok (.iconst 4, 1) := by decide +kernel
theorem dJ13_bitCount_95d88_27 : decode cJ13_bitCount_95d88 27 = .ok (.lushr, 1) := by decide +kernel
theorem dJ13_bitCount_95d88_28 : decode cJ13_bitCount_95d88 28 = .ok (.ladd, 1) := by decide +kernel
theorem dJ13_bitCount_95d88_29 : decode cJ13_bitCount_95d88 29 = .ok (.ldc2_w 318, 3) := by decide +kernel
theorem dJ13_bitCount_95d88_32 : decode cJ13_bitCount_95d88 32 = .ok (.land, 1) := by decide +kernel
theorem dJ13_bitCount_95d88_33 : decode cJ13_bitCount_95d88 33 = .ok (.lstore_n 0, 1) := by decide +kernel
theorem dJ13_bitCount_95d88_34 : decode cJ13_bitCount_95d88 34 = .ok (.lload_n 0, 1) := by decide +kernel
theorem dJ13_bitCount_95d88_35 : decode cJ13_bitCount_95d88 35 = .ok (.lload_n 0, 1) := by decide +kernel
theorem dJ13_bitCount_95d88_36 : decode cJ13_bitCount_95d88 36 = .ok (.bipush 8, 2) := by decide +kernel
theorem dJ13_bitCount_95d88_38 : decode cJ13_bitCount_95d88 38 = .ok (.lushr, 1) := by decide +kernel
theorem dJ13_bitCount_95d88_39 : decode cJ13_bitCount_95d88 39 = .ok (.ladd, 1) := by decide +kernel
theorem dJ13_bitCount_95d88_40 : decode cJ13_bitCount_95d88 40 = .ok (.lstore_n 0, 1) := by decide +kernel
theorem dJ13_bitCount_95d88_41 : decode cJ13_bitCount_95d88 41 = .ok (.lload_n 0, 1) := by decide +kernel
theorem dJ13_bitCount_95d88_42 : decode cJ13_bitCount_95d88 42 = .ok (.lload_n 0, 1) := by decide +kernel
theorem dJ13_bitCount_95d88_43 : decode cJ13_bitCount_95d88 43 = .ok (.bipush 16, 2) := by decide +kernel
theorem dJ13_bitCount_95d88_45 : decode cJ13_bitCount_95d88 45 = .ok (.lushr, 1) := by decide +kernel
theorem dJ13_bitCount_95d88_46 : decode cJ13_bitCount_95d88 46 = .ok (.ladd, 1) := by decide +kernel
theorem dJ13_bitCount_95d88_47 : decode cJ13_bitCount_95d88 47 = .ok (.lstore_n 0, 1) := by decide +kernel
theorem dJ13_bitCount_95d88_48 : decode cJ13_bitCount_95d88 48 = .ok (.lload_n 0, 1) := by decide +kernel
theorem dJ13_bitCount_95d88_49 : decode cJ13_bitCount_95d88 49 = .ok (.lload_n 0, 1) := by decide +kernel
theorem dJ13_bitCount_95d88_50 : decode cJ13_bitCount_95d88 50 = .ok (.bipush 32, 2) := by decide +kernel
theorem dJ13_bitCount_95d88_52 : decode cJ13_bitCount_95d88 52 = .ok (.lushr, 1) := by decide +kernel
theorem dJ13_bitCount_95d88_53 : decode cJ13_bitCount_95d88 53 = .ok (.ladd, 1) := by decide +kernel
theorem dJ13_bitCount_95d88_54 : decode cJ13_bitCount_95d88 54 = .ok (.lstore_n 0, 1) := by decide +kernel
theorem dJ13_bitCount_95d88_55 : decode cJ13_bitCount_95d88 55 = .ok (.lload_n 0, 1) := by decide +kernel
theorem dJ13_bitCount_95d88_56 : decode cJ13_bitCount_95d88 56 = .ok (.l2i, 1) := by decide +kernel
theorem dJ13_bitCount_95d88_57 : decode cJ13_bitCount_95d88 57 = .ok (.bipush 127, 2) := by decide +kernel
theorem dJ13_bitCount_95d88_59 : decode cJ13_bitCount_95d88 59 = .ok (.iand, 1) := by decide +kernel
theorem dJ13_bitCount_95d88_60 : decode cJ13_bitCount_95d88 60 = .ok (.ireturn, 1) := by decide +kernel
theorem dJ9_max_7cf53_0 : decode cJ9_max_7cf53 0 = .ok (.iload_n 0, 1) := by decide +kernel
theorem dJ9_max_7cf53_1 : decode cJ9_max_7cf53 1 = .ok (.iload_n 1, 1) := by decide +kernel
theorem dJ9_max_7cf53_2 : decode cJ9_max_7cf53 2 = .ok (.if_icmp .lt 7, 3) := by decide +kernel
theorem dJ9_max_7cf53_5 : decode cJ9_max_7cf53 5 = .ok (.iload_n 0, 1) := by decide +kernel
theorem dJ9_max_7cf53_6 : decode cJ9_max_7cf53 6 = .ok (.goto 4, 3) := by decide +kernel
theorem dJ9_max_7cf53_9 : decode cJ9_max_7cf53 9 = .ok (.iload_n 1, 1) := by decide +kernel
theorem dJ9_max_7cf53_10 : decode cJ9_max_7cf53 10 = .ok (.ireturn, 1) := by decide +kernel
theorem dJ9_min_7cf53_0 : decode cJ9_min_7cf53 0 = .ok (.iload_n 0, 1) := by decide +kernel
theorem dJ9_min_7cf53_1 : decode cJ9_min_7cf53 1 = .ok (.iload_n 1, 1) := by decide +kernel
theorem dJ9_min_7cf53_2 : decode cJ9_min_7cf53 2 = .ok (.if_icmp .gt 7, 3) := by decide +kernel
theorem dJ9_min_7cf53_5 : decode cJ9_min_7cf53 5 = .ok (.iload_n 0, 1) := by decide +kernel
theorem dJ9_min_7cf53_6 : decode cJ9_min_7cf53 6 = .ok (.goto 4, 3) := by decide +kernel
theorem dJ9_min_7cf53_9 : decode cJ9_min_7cf53 9 = .ok (.iload_n 1, 1) := by decide +kernel
theorem dJ9_min_7cf53_10 : decode cJ9_min_7cf53 10 = .ok (.ireturn, 1) := by decide +kernel
theorem dJ7_fill_d0a16_0 : decode cJ7_fill_d0a16 0 = .ok (.iconst 0, 1) := by decide +kernel
theorem dJ7_fill_d0a16_1 : decode cJ7_fill_d0a16 1 = .ok (.istore_n 3, 1) := by decide +kernel
theorem dJ7_fill_d0a16_2 : decode cJ7_fill_d0a16 2 = .ok (.aload_n 0, 1) := by decide +kernel
theorem dJ7_fill_d0a16_3 : decode cJ7_fill_d0a16 3 = .ok (.arraylength, 1) := by decide +kernel
theorem dJ7_fill_d0a16_4 : decode cJ7_fill_d0a16 4 = .ok (.istore 4, 2) := by decide +kernel
theorem dJ7_fill_d0a16_6 : decode cJ7_fill_d0a16 6 = .ok (.iload_n 3, 1) := by decide +kernel
theorem dJ7_fill_d0a16_7 : decode cJ7_fill_d0a16 7 = .ok (.iload 4, 2) := by decide +kernel
theorem dJ7_fill_d0a16_9 : decode cJ7_fill_d0a16 9 = .ok (.if_icmp .ge 13, 3) := by decide +kernel
theorem dJ7_fill_d0a16_12 : decode cJ7_fill_d0a16 12 = .ok (.aload_n 0, 1) := by decide +kernel
theorem dJ7_fill_d0a16_13 : decode cJ7_fill_d0a16 13 = .ok (.iload_n 3, 1) := by decide +kernel
theorem dJ7_fill_d0a16_14 : decode cJ7_fill_d0a16 14 = .ok (.lload_n 1, 1) := by decide +kernel
theorem dJ7_fill_d0a16_15 : decode cJ7_fill_d0a16 15 = .ok (.lastore, 1) := by decide +kernel
theorem dJ7_fill_d0a16_16 : decode cJ7_fill_d0a16 16 = .ok (.iinc 3 1, 3) := by decide +kernel
theorem dJ7_fill_d0a16_19 : decode cJ7_fill_d0a16 19 = .ok (.goto (-13), 3) := by decide +kernel
theorem dJ7_fill_d0a16_22 : decode cJ7_fill_d0a16 22 = .ok (.return_, 1) := by decide +kernel
theorem dJ7_fill_53178_0 : decode cJ7_fill_53178 0 = .ok (.iconst 0, 1) := by decide +kernel
theorem dJ7_fill_53178_1 : decode cJ7_fill_53178 1 = .ok (.istore_n 2, 1) := by decide +kernel
theorem dJ7_fill_53178_2 : decode cJ7_fill_53178 2 = .ok (.aload_n 0, 1) := by decide +kernel
theorem dJ7_fill_53178_3 : decode cJ7_fill_53178 3 = .ok (.arraylength, 1) := by decide +kernel
theorem dJ7_fill_53178_4 : decode cJ7_fill_53178 4 = .ok (.istore_n 3, 1) := by decide +kernel
theorem dJ7_fill_53178_5 : decode cJ7_fill_53178 5 = .ok (.iload_n 2, 1) := by decide +kernel
theorem dJ7_fill_53178_6 : decode cJ7_fill_53178 6 = .ok (.iload_n 3, 1) := by decide +kernel
theorem dJ7_fill_53178_7 : decode cJ7_fill_53178 7 = .ok (.if_icmp .ge 13, 3) := by decide +kernel
theorem dJ7_fill_53178_10 : decode cJ7_fill_53178 10 = .ok (.aload_n 0, 1) := by decide +kernel
theorem dJ7_fill_53178_11 : decode cJ7_fill_53178 11 = .ok (.iload_n 2, 1) := by decide +kernel
theorem dJ7_fill_53178_12 : decode cJ7_fill_53178 12 = .ok (.iload_n 1, 1) := by decide +kernel
theorem dJ7_fill_53178_13 : decode cJ7_fill_53178 13 = .ok (.iastore, 1) := by decide +kernel
theorem dJ7_fill_53178_14 : decode cJ7_fill_53178 14 = .ok (.iinc 2 1, 3) := by decide +kernel
theorem dJ7_fill_53178_17 : decode cJ7_fill_53178 17 = .ok (.goto (-12), 3) := by decide +kernel
theorem dJ7_fill_53178_20 : decode cJ7_fill_53178 20 = .ok (.return_, 1) := by decide +kernel
theorem dJ7_copyOf_59c91_0 : decode cJ7_copyOf_59c91 0 = .ok (.iload_n 1, 1) := by decide +kernel
theorem dJ7_copyOf_59c91_1 : decode cJ7_copyOf_59c91 1 = .ok (.aload_n 0, 1) := by decide +kernel
theorem dJ7_copyOf_59c91_2 : decode cJ7_copyOf_59c91 2 = .ok (.arraylength, 1) := by decide +kernel
theorem dJ7_copyOf_59c91_3 : decode cJ7_copyOf_59c91 3 = .ok (.if_icmp .ne 11, 3) := by decide +kernel
theorem dJ7_copyOf_59c91_6 : decode cJ7_copyOf_59c91 6 = .ok (.aload_n 0, 1) := by decide +kernel
theorem dJ7_copyOf_59c91_7 : decode cJ7_copyOf_59c91 7 = .ok (.invokevirtual 316, 3) := by decide +kernel
theorem dJ7_copyOf_59c91_10 : decode cJ7_copyOf_59c91 10 = .ok (.checkcast 317, 3) := by decide +kernel
theorem dJ7_copyOf_59c91_13 : decode cJ7_copyOf_59c91 13 = .ok (.areturn, 1) := by decide +kernel
theorem dJ7_copyOf_59c91_14 : decode cJ7_copyOf_59c91 14 = .ok (.iload_n 1, 1) := by decide +kernel
theorem dJ7_copyOf_59c91_15 : decode cJ7_copyOf_59c91 15 = .ok (.newarray .int, 2) := by decide +kernel
theorem dJ7_copyOf_59c91_17 : decode cJ7_copyOf_59c91 17 = .ok (.astore_n 2, 1) := by decide +kernel
theorem dJ7_copyOf_59c91_18 : decode cJ7_copyOf_59c91 18 = .ok (.aload_n 0, 1) := by decide +kernel
theorem dJ7_copyOf_59c91_19 : decode cJ7_copyOf_59c91 19 = .ok (.iconst 0, 1) := by decide +kernel
theorem dJ7_copyOf_59c91_20 : decode cJ7_copyOf_59c91 20 = .ok (.aload_n 2, 1) := by decide +kernel
theorem dJ7_copyOf_59c91_21 : decode cJ7_copyOf_59c91 21 = .ok (.iconst 0, 1) := by decide +kernel
theorem dJ7_copyOf_59c91_22 : decode cJ7_copyOf_59c91 22 = .ok (.aload_n 0, 1) := by decide +kernel
theorem dJ7_copyOf_59c91_23 : decode cJ7_copyOf_59c91 23 = .ok (.arraylength, 1) := by decide +kernel
theorem dJ7_copyOf_59c91_24 : decode cJ7_copyOf_59c91 24 = .ok (.iload_n 1, 1) := by decide +kernel
theorem dJ7_copyOf_59c91_25 : decode cJ7_copyOf_59c91 25 = .ok (.invokestatic 304, 3) := by decide +kernel
theorem dJ7_copyOf_59c91_28 : decode cJ7_copyOf_59c91 28 = .ok (.invokestatic 150, 3) := by decide +kernel
theorem dJ7_copyOf_59c91_31 : decode cJ7_copyOf_59c91 31 = .ok (.aload_n 2, 1) := by decide +kernel
theorem dJ7_copyOf_59c91_32 : decode cJ7_copyOf_59c91 32 = .ok (.areturn, 1) := by decide +kernel
theorem dL_law_0 : decode cL_law 0 = .ok (.new 7, 3) := by decide +kernel
theorem dL_law_3 : decode cL_law 3 = .ok (.dup, 1) := by decide +kernel
theorem dL_law_4 : decode cL_law 4 = .ok (.invokespecial 9, 3) := by decide +kernel
theorem dL_law_7 : decode cL_law 7 = .ok (.astore_n 1, 1) := by decide +kernel
end
section
theorem dL_law_8 : decode cL_law 8 = .ok (.new 10, 3) := by decide +kernel
theorem dL_law_11 : decode cL_law 11 = .ok (.dup, 1) := by decide +kernel
theorem dL_law_12 : decode cL_law 12 = .ok (.invokespecial 12, 3) := by decide +kernel
theorem dL_law_15 : decode cL_law 15 = .ok (.astore_n 2, 1) := by decide +kernel
theorem dL_law_16 : decode cL_law 16 = .ok (.iconst 0, 1) := by decide +kernel
theorem dL_law_17 : decode cL_law 17 = .ok (.istore_n 3, 1) := by decide +kernel
theorem dL_law_18 : decode cL_law 18 = .ok (.iload_n 3, 1) := by decide +kernel
theorem dL_law_19 : decode cL_law 19 = .ok (.aload_n 0, 1) := by decide +kernel
theorem dL_law_20 : decode cL_law 20 = .ok (.arraylength, 1) := by decide +kernel
theorem dL_law_21 : decode cL_law 21 = .ok (.iconst 5, 1) := by decide +kernel
theorem dL_law_22 : decode cL_law 22 = .ok (.isub, 1) := by decide +kernel
theorem dL_law_23 : decode cL_law 23 = .ok (.if_icmp .gt 625, 3) := by decide +kernel
theorem dL_law_26 : decode cL_law 26 = .ok (.aload_n 0, 1) := by decide +kernel
theorem dL_law_27 : decode cL_law 27 = .ok (.iload_n 3, 1) := by decide +kernel
theorem dL_law_28 : decode cL_law 28 = .ok (.iaload, 1) := by decide +kernel
theorem dL_law_29 : decode cL_law 29 = .ok (.bipush 31, 2) := by decide +kernel
theorem dL_law_31 : decode cL_law 31 = .ok (.iand, 1) := by decide +kernel
theorem dL_law_32 : decode cL_law 32 = .ok (.tableswitch 610 0 25 #[120, 173, 196, 209, 232, 255, 268, 301, 314, 327, 340, 353, 366, 379, 392, 415, 429, 442, 465, 478, 511, 534, 547, 560, 573, 596], 120) := by decide +kernel
theorem dL_law_152 : decode cL_law 152 = .ok (.aload_n 1, 1) := by decide +kernel
theorem dL_law_153 : decode cL_law 153 = .ok (.aload_n 0, 1) := by decide +kernel
theorem dL_law_154 : decode cL_law 154 = .ok (.iload_n 3, 1) := by decide +kernel
theorem dL_law_155 : decode cL_law 155 = .ok (.iconst 1, 1) := by decide +kernel
theorem dL_law_156 : decode cL_law 156 = .ok (.iadd, 1) := by decide +kernel
theorem dL_law_157 : decode cL_law 157 = .ok (.iaload, 1) := by decide +kernel
theorem dL_law_158 : decode cL_law 158 = .ok (.aload_n 0, 1) := by decide +kernel
theorem dL_law_159 : decode cL_law 159 = .ok (.iload_n 3, 1) := by decide +kernel
theorem dL_law_160 : decode cL_law 160 = .ok (.iconst 2, 1) := by decide +kernel
theorem dL_law_161 : decode cL_law 161 = .ok (.iadd, 1) := by decide +kernel
theorem dL_law_162 : decode cL_law 162 = .ok (.iaload, 1) := by decide +kernel
theorem dL_law_163 : decode cL_law 163 = .ok (.aload_n 0, 1) := by decide +kernel
theorem dL_law_164 : decode cL_law 164 = .ok (.iload_n 3, 1) := by decide +kernel
theorem dL_law_165 : decode cL_law 165 = .ok (.iconst 3, 1) := by decide +kernel
theorem dL_law_166 : decode cL_law 166 = .ok (.iadd, 1) := by decide +kernel
theorem dL_law_167 : decode cL_law 167 = .ok (.iaload, 1) := by decide +kernel
theorem dL_law_168 : decode cL_law 168 = .ok (.aload_n 0, 1) := by decide +kernel
theorem dL_law_169 : decode cL_law 169 = .ok (.iload_n 3, 1) := by decide +kernel
theorem dL_law_170 : decode cL_law 170 = .ok (.iconst 4, 1) := by decide +kernel
theorem dL_law_171 : decode cL_law 171 = .ok (.iadd, 1) := by decide +kernel
theorem dL_law_172 : decode cL_law 172 = .ok (.iaload, 1) := by decide +kernel
theorem dL_law_173 : decode cL_law 173 = .ok (.invokevirtual 13, 3) := by decide +kernel
theorem dL_law_176 : decode cL_law 176 = .ok (.aload_n 2, 1) := by decide +kernel
theorem dL_law_177 : decode cL_law 177 = .ok (.aload_n 0, 1) := by decide +kernel
theorem dL_law_178 : decode cL_law 178 = .ok (.iload_n 3, 1) := by decide +kernel
theorem dL_law_179 : decode cL_law 179 = .ok (.iconst 1, 1) := by decide +kernel
theorem dL_law_180 : decode cL_law 180 = .ok (.iadd, 1) := by decide +kernel
theorem dL_law_181 : decode cL_law 181 = .ok (.iaload, 1) := by decide +kernel
theorem dL_law_182 : decode cL_law 182 = .ok (.aload_n 0, 1) := by decide +kernel
theorem dL_law_183 : decode cL_law 183 = .ok (.iload_n 3, 1) := by decide +kernel
theorem dL_law_184 : decode cL_law 184 = .ok (.iconst 2, 1) := by decide +kernel
theorem dL_law_185 : decode cL_law 185 = .ok (.iadd, 1) := by decide +kernel
theorem dL_law_186 : decode cL_law 186 = .ok (.iaload, 1) := by decide +kernel
theorem dL_law_187 : decode cL_law 187 = .ok (.aload_n 0, 1) := by decide +kernel
theorem dL_law_188 : decode cL_law 188 = .ok (.iload_n 3, 1) := by decide +kernel
theorem dL_law_189 : decode cL_law 189 = .ok (.iconst 3, 1) := by decide +kernel
theorem dL_law_190 : decode cL_law 190 = .ok (.iadd, 1) := by decide +kernel
theorem dL_law_191 : decode cL_law 191 = .ok (.iaload, 1) := by decide +kernel
theorem dL_law_192 : decode cL_law 192 = .ok (.aload_n 0, 1) := by decide +kernel
theorem dL_law_193 : decode cL_law 193 = .ok (.iload_n 3, 1) := by decide +kernel
theorem dL_law_194 : decode cL_law 194 = .ok (.iconst 4, 1) := by decide +kernel
theorem dL_law_195 : decode cL_law 195 = .ok (.iadd, 1) := by decide +kernel
theorem dL_law_196 : decode cL_law 196 = .ok (.iaload, 1) := by decide +kernel
theorem dL_law_197 : decode cL_law 197 = .ok (.invokevirtual 17, 3) := by decide +kernel
theorem dL_law_200 : decode cL_law 200 = .ok (.if_icmp .eq 442, 3) := by decide +kernel
theorem dL_law_203 : decode cL_law 203 = .ok (.iconst 0, 1) := by decide +kernel
theorem dL_law_204 : decode cL_law 204 = .ok (.ireturn, 1) := by decide +kernel
theorem dL_law_205 : decode cL_law 205 = .ok (.aload_n 1, 1) := by decide +kernel
theorem dL_law_206 : decode cL_law 206 = .ok (.aload_n 0, 1) := by decide +kernel
theorem dL_law_207 : decode cL_law 207 = .ok (.iload_n 3, 1) := by decide +kernel
theorem dL_law_208 : decode cL_law 208 = .ok (.iconst 1, 1) := by decide +kernel
theorem dL_law_209 : decode cL_law 209 = .ok (.iadd, 1) := by decide +kernel
theorem dL_law_210 : decode cL_law 210 = .ok (.iaload, 1) := by decide +kernel
theorem dL_law_211 : decode cL_law 211 = .ok (.invokevirtual 18, 3) := by decide +kernel
theorem dL_law_214 : decode cL_law 214 = .ok (.aload_n 2, 1) := by decide +kernel
theorem dL_law_215 : decode cL_law 215 = .ok (.aload_n 0, 1) := by decide +kernel
theorem dL_law_216 : decode cL_law 216 = .ok (.iload_n 3, 1) := by decide +kernel
theorem dL_law_217 : decode cL_law 217 = .ok (.iconst 1, 1) := by decide +kernel
theorem dL_law_218 : decode cL_law 218 = .ok (.iadd, 1) := by decide +kernel
theorem dL_law_219 : decode cL_law 219 = .ok (.iaload, 1) := by decide +kernel
theorem dL_law_220 : decode cL_law 220 = .ok (.invokevirtual 22, 3) := by decide +kernel
theorem dL_law_223 : decode cL_law 223 = .ok (.if_icmp .eq 419, 3) := by decide +kernel
theorem dL_law_226 : decode cL_law 226 = .ok (.iconst 0, 1) := by decide +kernel
theorem dL_law_227 : decode cL_law 227 = .ok (.ireturn, 1) := by decide +kernel
theorem dL_law_228 : decode cL_law 228 = .ok (.aload_n 1, 1) := by decide +kernel
theorem dL_law_229 : decode cL_law 229 = .ok (.invokevirtual 23, 3) := by decide +kernel
theorem dL_law_232 : decode cL_law 232 = .ok (.aload_n 2, 1) := by decide +kernel
theorem dL_law_233 : decode cL_law 233 = .ok (.invokevirtual 27, 3) := by decide +kernel
theorem dL_law_236 : decode cL_law 236 = .ok (.if_icmp .eq 406, 3) := by decide +kernel
theorem dL_law_239 : decode cL_law 239 = .ok (.iconst 0, 1) := by decide +kernel
theorem dL_law_240 : decode cL_law 240 = .ok (.ireturn, 1) := by decide +kernel
theorem dL_law_241 : decode cL_law 241 = .ok (.aload_n 1, 1) := by decide +kernel
theorem dL_law_242 : decode cL_law 242 = .ok (.aload_n 0, 1) := by decide +kernel
theorem dL_law_243 : decode cL_law 243 = .ok (.iload_n 3, 1) := by decide +kernel
theorem dL_law_244 : decode cL_law 244 = .ok (.iconst 1, 1) := by decide +kernel
theorem dL_law_245 : decode cL_law 245 = .ok (.iadd, 1) := by decide +kernel
theorem dL_law_246 : decode cL_law 246 = .ok (.iaload, 1) := by decide +kernel
theorem dL_law_247 : decode cL_law 247 = .ok (.invokevirtual 28, 3) := by decide +kernel
theorem dL_law_250 : decode cL_law 250 = .ok (.aload_n 2, 1) := by decide +kernel
theorem dL_law_251 : decode cL_law 251 = .ok (.aload_n 0, 1) := by decide +kernel
theorem dL_law_252 : decode cL_law 252 = .ok (.iload_n 3, 1) := by decide +kernel
theorem dL_law_253 : decode cL_law 253 = .ok (.iconst 1, 1) := by decide +kernel
theorem dL_law_254 : decode cL_law 254 = .ok (.iadd, 1) := by decide +kernel
theorem dL_law_255 : decode cL_law 255 = .ok (.iaload, 1) := by decide +kernel
theorem dL_law_256 : decode cL_law 256 = .ok (.invokevirtual 31, 3) := by decide +kernel
theorem dL_law_259 : decode cL_law 259 = .ok (.if_icmp .eq 383, 3) := by decide +kernel
theorem dL_law_262 : decode cL_law 262 = .ok (.iconst 0, 1) := by decide +kernel
theorem dL_law_263 : decode cL_law 263 = .ok (.ireturn, 1) := by decide +kernel
theorem dL_law_264 : decode cL_law 264 = .ok (.aload_n 1, 1) := by decide +kernel
theorem dL_law_265 : decode cL_law 265 = .ok (.aload_n 0, 1) := by decide +kernel
theorem dL_law_266 : decode cL_law 266 = .ok (.iload_n 3, 1) := by decide +kernel
theorem dL_law_267 : decode cL_law 267 = .ok (.iconst 1, 1) := by decide +kernel
theorem dL_law_268 : decode cL_law 268 = .ok (.iadd, 1) := by decide +kernel
theorem dL_law_269 : decode cL_law 269 = .ok (.iaload, 1) := by decide +kernel
theorem dL_law_270 : decode cL_law 270 = .ok (.invokevirtual 32, 3) := by decide +kernel
theorem dL_law_273 : decode cL_law 273 = .ok (.aload_n 2, 1) := by decide +kernel
theorem dL_law_274 : decode cL_law 274 = .ok (.aload_n 0, 1) := by decide +kernel
theorem dL_law_275 : decode cL_law 275 = .ok (.iload_n 3, 1) := by decide +kernel
theorem dL_law_276 : decode cL_law 276 = .ok (.iconst 1, 1) := by decide +kernel
theorem dL_law_277 : decode cL_law 277 = .ok (.iadd, 1) := by decide +kernel
theorem dL_law_278 : decode cL_law 278 = .ok (.iaload, 1) := by decide +kernel
theorem dL_law_279 : decode cL_law 279 = .ok (.invokevirtual 35, 3) := by decide +kernel
theorem dL_law_282 : decode cL_law 282 = .ok (.if_icmp .eq 360, 3) := by decide +kernel
theorem dL_law_285 : decode cL_law 285 = .ok (.iconst 0, 1) := by decide +kernel
theorem dL_law_286 : decode cL_law 286 = .ok (.ireturn, 1) := by decide +kernel
theorem dL_law_287 : decode cL_law 287 = .ok (.aload_n 1, 1) := by decide +kernel
theorem dL_law_288 : decode cL_law 288 = .ok (.invokevirtual 36, 3) := by decide +kernel
theorem dL_law_291 : decode cL_law 291 = .ok (.aload_n 2, 1) := by decide +kernel
theorem dL_law_292 : decode cL_law 292 = .ok (.invokevirtual 39, 3) := by decide +kernel
theorem dL_law_295 : decode cL_law 295 = .ok (.if_icmp .eq 347, 3) := by decide +kernel
theorem dL_law_298 : decode cL_law 298 = .ok (.iconst 0, 1) := by decide +kernel
theorem dL_law_299 : decode cL_law 299 = .ok (.ireturn, 1) := by decide +kernel
theorem dL_law_300 : decode cL_law 300 = .ok (.aload_n 1, 1) := by decide +kernel
theorem dL_law_301 : decode cL_law 301 = .ok (.aload_n 0, 1) := by decide +kernel
theorem dL_law_302 : decode cL_law 302 = .ok (.iload_n 3, 1) := by decide +kernel
theorem dL_law_303 : decode cL_law 303 = .ok (.iconst 1, 1) := by decide +kernel
theorem dL_law_304 : decode cL_law 304 = .ok (.iadd, 1) := by decide +kernel
theorem dL_law_305 : decode cL_law 305 = .ok (.iaload, 1) := by decide +kernel
theorem dL_law_306 : decode cL_law 306 = .ok (.aload_n 0, 1) := by decide +kernel
theorem dL_law_307 : decode cL_law 307 = .ok (.iload_n 3, 1) := by decide +kernel
theorem dL_law_308 : decode cL_law 308 = .ok (.iconst 2, 1) := by decide +kernel
theorem dL_law_309 : decode cL_law 309 = .ok (.iadd, 1) := by decide +kernel
theorem dL_law_310 : decode cL_law 310 = .ok (.iaload, 1) := by decide +kernel
theorem dL_law_311 : decode cL_law 311 = .ok (.invokevirtual 40, 3) := by decide +kernel
theorem dL_law_314 : decode cL_law 314 = .ok (.aload_n 2, 1) := by decide +kernel
theorem dL_law_315 : decode cL_law 315 = .ok (.aload_n 0, 1) := by decide +kernel
theorem dL_law_316 : decode cL_law 316 = .ok (.iload_n 3, 1) := by decide +kernel
theorem dL_law_317 : decode cL_law 317 = .ok (.iconst 1, 1) := by decide +kernel
theorem dL_law_318 : decode cL_law 318 = .ok (.iadd, 1) := by decide +kernel
theorem dL_law_319 : decode cL_law 319 = .ok (.iaload, 1) := by decide +kernel
theorem dL_law_320 : decode cL_law 320 = .ok (.aload_n 0, 1) := by decide +kernel
theorem dL_law_321 : decode cL_law 321 = .ok (.iload_n 3, 1) := by decide +kernel
theorem dL_law_322 : decode cL_law 322 = .ok (.iconst 2, 1) := by decide +kernel
theorem dL_law_323 : decode cL_law 323 = .ok (.iadd, 1) := by decide +kernel
theorem dL_law_324 : decode cL_law 324 = .ok (.iaload, 1) := by decide +kernel
theorem dL_law_325 : decode cL_law 325 = .ok (.invokevirtual 44, 3) := by decide +kernel
theorem dL_law_328 : decode cL_law 328 = .ok (.if_icmp .eq 314, 3) := by decide +kernel
theorem dL_law_331 : decode cL_law 331 = .ok (.iconst 0, 1) := by decide +kernel
theorem dL_law_332 : decode cL_law 332 = .ok (.ireturn, 1) := by decide +kernel
theorem dL_law_333 : decode cL_law 333 = .ok (.aload_n 1, 1) := by decide +kernel
theorem dL_law_334 : decode cL_law 334 = .ok (.invokevirtual 45, 3) := by decide +kernel
theorem dL_law_337 : decode cL_law 337 = .ok (.aload_n 2, 1) := by decide +kernel
theorem dL_law_338 : decode cL_law 338 = .ok (.invokevirtual 48, 3) := by decide +kernel
theorem dL_law_341 : decode cL_law 341 = .ok (.if_icmp .eq 301, 3) := by decide +kernel
theorem dL_law_344 : decode cL_law 344 = .ok (.iconst 0, 1) := by decide +kernel
theorem dL_law_345 : decode cL_law 345 = .ok (.ireturn, 1) := by decide +kernel
theorem dL_law_346 : decode cL_law 346 = .ok (.aload_n 1, 1) := by decide +kernel
theorem dL_law_347 : decode cL_law 347 = .ok (.invokevirtual 49, 3) := by decide +kernel
theorem dL_law_350 : decode cL_law 350 = .ok (.aload_n 2, 1) := by decide +kernel
theorem dL_law_351 : decode cL_law 351 = .ok (.invokevirtual 52, 3) := by decide +kernel
theorem dL_law_354 : decode cL_law 354 = .ok (.if_icmp .eq 288, 3) := by decide +kernel
theorem dL_law_357 : decode cL_law 357 = .ok (.iconst 0, 1) := by decide +kernel
theorem dL_law_358 : decode cL_law 358 = .ok (.ireturn, 1) := by decide +kernel
theorem dL_law_359 : decode cL_law 359 = .ok (.aload_n 1, 1) := by decide +kernel
theorem dL_law_360 : decode cL_law 360 = .ok (.invokevirtual 53, 3) := by decide +kernel
theorem dL_law_363 : decode cL_law 363 = .ok (.aload_n 2, 1) := by decide +kernel
theorem dL_law_364 : decode cL_law 364 = .ok (.invokevirtual 56, 3) := by decide +kernel
theorem dL_law_367 : decode cL_law 367 = .ok (.if_icmp .eq 275, 3) := by decide +kernel
theorem dL_law_370 : decode cL_law 370 = .ok (.iconst 0, 1) := by decide +kernel
theorem dL_law_371 : decode cL_law 371 = .ok (.ireturn, 1) := by decide +kernel
theorem dL_law_372 : decode cL_law 372 = .ok (.aload_n 1, 1) := by decide +kernel
theorem dL_law_373 : decode cL_law 373 = .ok (.invokevirtual 57, 3) := by decide +kernel
theorem dL_law_376 : decode cL_law 376 = .ok (.aload_n 2, 1) := by decide +kernel
theorem dL_law_377 : decode cL_law 377 = .ok (.invokevirtual 60, 3) := by decide +kernel
theorem dL_law_380 : decode cL_law 380 = .ok (.if_icmp .eq 262, 3) := by decide +kernel
theorem dL_law_383 : decode cL_law 383 = .ok (.iconst 0, 1) := by decide +kernel
theorem dL_law_384 : decode cL_law 384 = .ok (.ireturn, 1) := by decide +kernel
theorem dL_law_385 : decode cL_law 385 = .ok (.aload_n 1, 1) := by decide +kernel
theorem dL_law_386 : decode cL_law 386 = .ok (.invokevirtual 61, 3) := by decide +kernel
theorem dL_law_389 : decode cL_law 389 = .ok (.aload_n 2, 1) := by decide +kernel
theorem dL_law_390 : decode cL_law 390 = .ok (.invokevirtual 64, 3) := by decide +kernel
theorem dL_law_393 : decode cL_law 393 = .ok (.if_icmp .eq 249, 3) := by decide +kernel
theorem dL_law_396 : decode cL_law 396 = .ok (.iconst 0, 1) := by decide +kernel
theorem dL_law_397 : decode cL_law 397 = .ok (.ireturn, 1) := by decide +kernel
theorem dL_law_398 : decode cL_law 398 = .ok (.aload_n 1, 1) := by decide +kernel
theorem dL_law_399 : decode cL_law 399 = .ok (.invokevirtual 65, 3) := by decide +kernel
theorem dL_law_402 : decode cL_law 402 = .ok (.aload_n 2, 1) := by decide +kernel
theorem dL_law_403 : decode cL_law 403 = .ok (.invokevirtual 68, 3) := by decide +kernel
theorem dL_law_406 : decode cL_law 406 = .ok (.if_icmp .eq 236, 3) := by decide +kernel
theorem dL_law_409 : decode cL_law 409 = .ok (.iconst 0, 1) := by decide +kernel
theorem dL_law_410 : decode cL_law 410 = .ok (.ireturn, 1) := by decide +kernel
theorem dL_law_411 : decode cL_law 411 = .ok (.aload_n 1, 1) := by decide +kernel
theorem dL_law_412 : decode cL_law 412 = .ok (.invokevirtual 69, 3) := by decide +kernel
theorem dL_law_415 : decode cL_law 415 = .ok (.aload_n 2, 1) := by decide +kernel
theorem dL_law_416 : decode cL_law 416 = .ok (.invokevirtual 72, 3) := by decide +kernel
theorem dL_law_419 : decode cL_law 419 = .ok (.if_icmp .eq 223, 3) := by decide +kernel
theorem dL_law_422 : decode cL_law 422 = .ok (.iconst 0, 1) := by decide +kernel
theorem dL_law_423 : decode cL_law 423 = .ok (.ireturn, 1) := by decide +kernel
theorem dL_law_424 : decode cL_law 424 = .ok (.aload_n 1, 1) := by decide +kernel
theorem dL_law_425 : decode cL_law 425 = .ok (.aload_n 0, 1) := by decide +kernel
theorem dL_law_426 : decode cL_law 426 = .ok (.iload_n 3, 1) := by decide +kernel
theorem dL_law_427 : decode cL_law 427 = .ok (.iconst 1, 1) := by decide +kernel
theorem dL_law_428 : decode cL_law 428 = .ok (.iadd, 1) := by decide +kernel
theorem dL_law_429 : decode cL_law 429 = .ok (.iaload, 1) := by decide +kernel
theorem dL_law_430 : decode cL_law 430 = .ok (.invokevirtual 73, 3) := by decide +kernel
theorem dL_law_433 : decode cL_law 433 = .ok (.aload_n 2, 1) := by decide +kernel
theorem dL_law_434 : decode cL_law 434 = .ok (.aload_n 0, 1) := by decide +kernel
theorem dL_law_435 : decode cL_law 435 = .ok (.iload_n 3, 1) := by decide +kernel
theorem dL_law_436 : decode cL_law 436 = .ok (.iconst 1, 1) := by decide +kernel
theorem dL_law_437 : decode cL_law 437 = .ok (.iadd, 1) := by decide +kernel
theorem dL_law_438 : decode cL_law 438 = .ok (.iaload, 1) := by decide +kernel
theorem dL_law_439 : decode cL_law 439 = .ok (.invokevirtual 76, 3) := by decide +kernel
theorem dL_law_442 : decode cL_law 442 = .ok (.if_icmp .eq 200, 3) := by decide +kernel
theorem dL_law_445 : decode cL_law 445 = .ok (.iconst 0, 1) := by decide +kernel
theorem dL_law_446 : decode cL_law 446 = .ok (.ireturn, 1) := by decide +kernel
theorem dL_law_447 : decode cL_law 447 = .ok (.aload_n 1, 1) := by decide +kernel
theorem dL_law_448 : decode cL_law 448 = .ok (.invokevirtual 77, 3) := by decide +kernel
theorem dL_law_451 : decode cL_law 451 = .ok (.aload_n 2, 1) := by decide +kernel
theorem dL_law_452 : decode cL_law 452 = .ok (.invokevirtual 81, 3) := by decide +kernel
theorem dL_law_455 : decode cL_law 455 = .ok (.lcmp, 1) := by decide +kernel
theorem dL_law_456 : decode cL_law 456 = .ok (.ifCond .eq 186, 3) := by decide +kernel
theorem dL_law_459 : decode cL_law 459 = .ok (.iconst 0, 1) := by decide +kernel
theorem dL_law_460 : decode cL_law 460 = .ok (.ireturn, 1) := by decide +kernel
theorem dL_law_461 : decode cL_law 461 = .ok (.aload_n 1, 1) := by decide +kernel
theorem dL_law_462 : decode cL_law 462 = .ok (.invokevirtual 82, 3) := by decide +kernel
theorem dL_law_465 : decode cL_law 465 = .ok (.aload_n 2, 1) := by decide +kernel
theorem dL_law_466 : decode cL_law 466 = .ok (.invokevirtual 85, 3) := by decide +kernel
theorem dL_law_469 : decode cL_law 469 = .ok (.if_icmp .eq 173, 3) := by decide +kernel
theorem dL_law_472 : decode cL_law 472 = .ok (.iconst 0, 1) := by decide +kernel
theorem dL_law_473 : decode cL_law 473 = .ok (.ireturn, 1) := by decide +kernel
theorem dL_law_474 : decode cL_law 474 = .ok (.aload_n 1, 1) := by decide +kernel
theorem dL_law_475 : decode cL_law 475 = .ok (.aload_n 0, 1) := by decide +kernel
theorem dL_law_476 : decode cL_law 476 = .ok (.iload_n 3, 1) := by decide +kernel
theorem dL_law_477 : decode cL_law 477 = .ok (.iconst 1, 1) := by decide +kernel
theorem dL_law_478 : decode cL_law 478 = .ok (.iadd, 1) := by decide +kernel
theorem dL_law_479 : decode cL_law 479 = .ok (.iaload, 1) := by decide +kernel
theorem dL_law_480 : decode cL_law 480 = .ok (.invokevirtual 86, 3) := by decide +kernel
theorem dL_law_483 : decode cL_law 483 = .ok (.aload_n 2, 1) := by decide +kernel
theorem dL_law_484 : decode cL_law 484 = .ok (.aload_n 0, 1) := by decide +kernel
theorem dL_law_485 : decode cL_law 485 = .ok (.iload_n 3, 1) := by decide +kernel
theorem dL_law_486 : decode cL_law 486 = .ok (.iconst 1, 1) := by decide +kernel
theorem dL_law_487 : decode cL_law 487 = .ok (.iadd, 1) := by decide +kernel
theorem dL_law_488 : decode cL_law 488 = .ok (.iaload, 1) := by decide +kernel
theorem dL_law_489 : decode cL_law 489 = .ok (.invokevirtual 89, 3) := by decide +kernel
theorem dL_law_492 : decode cL_law 492 = .ok (.if_icmp .eq 150, 3) := by decide +kernel
theorem dL_law_495 : decode cL_law 495 = .ok (.iconst 0, 1) := by decide +kernel
theorem dL_law_496 : decode cL_law 496 = .ok (.ireturn, 1) := by decide +kernel
theorem dL_law_497 : decode cL_law 497 = .ok (.aload_n 1, 1) := by decide +kernel
theorem dL_law_498 : decode cL_law 498 = .ok (.invokevirtual 90, 3) := by decide +kernel
theorem dL_law_501 : decode cL_law 501 = .ok (.aload_n 2, 1) := by decide +kernel
theorem dL_law_502 : decode cL_law 502 = .ok (.invokevirtual 93, 3) := by decide +kernel
theorem dL_law_505 : decode cL_law 505 = .ok (.if_icmp .eq 137, 3) := by decide +kernel
theorem dL_law_508 : decode cL_law 508 = .ok (.iconst 0, 1) := by decide +kernel
theorem dL_law_509 : decode cL_law 509 = .ok (.ireturn, 1) := by decide +kernel
theorem dL_law_510 : decode cL_law 510 = .ok (.aload_n 1, 1) := by decide +kernel
theorem dL_law_511 : decode cL_law 511 = .ok (.aload_n 0, 1) := by decide +kernel
theorem dL_law_512 : decode cL_law 512 = .ok (.iload_n 3, 1) := by decide +kernel
theorem dL_law_513 : decode cL_law 513 = .ok (.iconst 1, 1) := by decide +kernel
theorem dL_law_514 : decode cL_law 514 = .ok (.iadd, 1) := by decide +kernel
theorem dL_law_515 : decode cL_law 515 = .ok (.iaload, 1) := by decide +kernel
theorem dL_law_516 : decode cL_law 516 = .ok (.aload_n 0, 1) := by decide +kernel
theorem dL_law_517 : decode cL_law 517 = .ok (.iload_n 3, 1) := by decide +kernel
theorem dL_law_518 : decode cL_law 518 = .ok (.iconst 2, 1) := by decide +kernel
theorem dL_law_519 : decode cL_law 519 = .ok (.iadd, 1) := by decide +kernel
theorem dL_law_520 : decode cL_law 520 = .ok (.iaload, 1) := by decide +kernel
theorem dL_law_521 : decode cL_law 521 = .ok (.invokevirtual 94, 3) := by decide +kernel
theorem dL_law_524 : decode cL_law 524 = .ok (.aload_n 2, 1) := by decide +kernel
theorem dL_law_525 : decode cL_law 525 = .ok (.aload_n 0, 1) := by decide +kernel
theorem dL_law_526 : decode cL_law 526 = .ok (.iload_n 3, 1) := by decide +kernel
theorem dL_law_527 : decode cL_law 527 = .ok (.iconst 1, 1) := by decide +kernel
theorem dL_law_528 : decode cL_law 528 = .ok (.iadd, 1) := by decide +kernel
theorem dL_law_529 : decode cL_law 529 = .ok (.iaload, 1) := by decide +kernel
theorem dL_law_530 : decode cL_law 530 = .ok (.aload_n 0, 1) := by decide +kernel
theorem dL_law_531 : decode cL_law 531 = .ok (.iload_n 3, 1) := by decide +kernel
theorem dL_law_532 : decode cL_law 532 = .ok (.iconst 2, 1) := by decide +kernel
theorem dL_law_533 : decode cL_law 533 = .ok (.iadd, 1) := by decide +kernel
theorem dL_law_534 : decode cL_law 534 = .ok (.iaload, 1) := by decide +kernel
theorem dL_law_535 : decode cL_law 535 = .ok (.invokevirtual 97, 3) := by decide +kernel
theorem dL_law_538 : decode cL_law 538 = .ok (.if_icmp .eq 104, 3) := by decide +kernel
theorem dL_law_541 : decode cL_law 541 = .ok (.iconst 0, 1) := by decide +kernel
theorem dL_law_542 : decode cL_law 542 = .ok (.ireturn, 1) := by decide +kernel
theorem dL_law_543 : decode cL_law 543 = .ok (.aload_n 1, 1) := by decide +kernel
theorem dL_law_544 : decode cL_law 544 = .ok (.aload_n 0, 1) := by decide +kernel
theorem dL_law_545 : decode cL_law 545 = .ok (.iload_n 3, 1) := by decide +kernel
theorem dL_law_546 : decode cL_law 546 = .ok (.iconst 1, 1) := by decide +kernel
theorem dL_law_547 : decode cL_law 547 = .ok (.iadd, 1) := by decide +kernel
theorem dL_law_548 : decode cL_law 548 = .ok (.iaload, 1) := by decide +kernel
theorem dL_law_549 : decode cL_law 549 = .ok (.invokevirtual 98, 3) := by decide +kernel
theorem dL_law_552 : decode cL_law 552 = .ok (.aload_n 2, 1) := by decide +kernel
theorem dL_law_553 : decode cL_law 553 = .ok (.aload_n 0, 1) := by decide +kernel
theorem dL_law_554 : decode cL_law 554 = .ok (.iload_n 3, 1) := by decide +kernel
theorem dL_law_555 : decode cL_law 555 = .ok (.iconst 1, 1) := by decide +kernel
theorem dL_law_556 : decode cL_law 556 = .ok (.iadd, 1) := by decide +kernel
theorem dL_law_557 : decode cL_law 557 = .ok (.iaload, 1) := by decide +kernel
theorem dL_law_558 : decode cL_law 558 = .ok (.invokevirtual 101, 3) := by decide +kernel
theorem dL_law_561 : decode cL_law 561 = .ok (.if_icmp .eq 81, 3) := by decide +kernel
theorem dL_law_564 : decode cL_law 564 = .ok (.iconst 0, 1) := by decide +kernel
theorem dL_law_565 : decode cL_law 565 = .ok (.ireturn, 1) := by decide +kernel
theorem dL_law_566 : decode cL_law 566 = .ok (.aload_n 1, 1) := by decide +kernel
theorem dL_law_567 : decode cL_law 567 = .ok (.invokevirtual 102, 3) := by decide +kernel
theorem dL_law_570 : decode cL_law 570 = .ok (.aload_n 2, 1) := by decide +kernel
theorem dL_law_571 : decode cL_law 571 = .ok (.invokevirtual 105, 3) := by decide +kernel
theorem dL_law_574 : decode cL_law 574 = .ok (.if_icmp .eq 68, 3) := by decide +kernel
theorem dL_law_577 : decode cL_law 577 = .ok (.iconst 0, 1) := by decide +kernel
theorem dL_law_578 : decode cL_law 578 = .ok (.ireturn, 1) := by decide +kernel
theorem dL_law_579 : decode cL_law 579 = .ok (.aload_n 1, 1) := by decide +kernel
theorem dL_law_580 : decode cL_law 580 = .ok (.invokevirtual 106, 3) := by decide +kernel
theorem dL_law_583 : decode cL_law 583 = .ok (.aload_n 2, 1) := by decide +kernel
theorem dL_law_584 : decode cL_law 584 = .ok (.invokevirtual 109, 3) := by decide +kernel
theorem dL_law_587 : decode cL_law 587 = .ok (.if_icmp .eq 55, 3) := by decide +kernel
theorem dL_law_590 : decode cL_law 590 = .ok (.iconst 0, 1) := by decide +kernel
theorem dL_law_591 : decode cL_law 591 = .ok (.ireturn, 1) := by decide +kernel
theorem dL_law_592 : decode cL_law 592 = .ok (.aload_n 1, 1) := by decide +kernel
theorem dL_law_593 : decode cL_law 593 = .ok (.invokevirtual 110, 3) := by decide +kernel
theorem dL_law_596 : decode cL_law 596 = .ok (.aload_n 2, 1) := by decide +kernel
theorem dL_law_597 : decode cL_law 597 = .ok (.invokevirtual 113, 3) := by decide +kernel
theorem dL_law_600 : decode cL_law 600 = .ok (.if_icmp .eq 42, 3) := by decide +kernel
theorem dL_law_603 : decode cL_law 603 = .ok (.iconst 0, 1) := by decide +kernel
theorem dL_law_604 : decode cL_law 604 = .ok (.ireturn, 1) := by decide +kernel
theorem dL_law_605 : decode cL_law 605 = .ok (.aload_n 1, 1) := by decide +kernel
theorem dL_law_606 : decode cL_law 606 = .ok (.aload_n 0, 1) := by decide +kernel
theorem dL_law_607 : decode cL_law 607 = .ok (.iload_n 3, 1) := by decide +kernel
theorem dL_law_608 : decode cL_law 608 = .ok (.iconst 1, 1) := by decide +kernel
theorem dL_law_609 : decode cL_law 609 = .ok (.iadd, 1) := by decide +kernel
theorem dL_law_610 : decode cL_law 610 = .ok (.iaload, 1) := by decide +kernel
theorem dL_law_611 : decode cL_law 611 = .ok (.invokevirtual 114, 3) := by decide +kernel
theorem dL_law_614 : decode cL_law 614 = .ok (.aload_n 2, 1) := by decide +kernel
theorem dL_law_615 : decode cL_law 615 = .ok (.aload_n 0, 1) := by decide +kernel
theorem dL_law_616 : decode cL_law 616 = .ok (.iload_n 3, 1) := by decide +kernel
theorem dL_law_617 : decode cL_law 617 = .ok (.iconst 1, 1) := by decide +kernel
theorem dL_law_618 : decode cL_law 618 = .ok (.iadd, 1) := by decide +kernel
theorem dL_law_619 : decode cL_law 619 = .ok (.iaload, 1) := by decide +kernel
theorem dL_law_620 : decode cL_law 620 = .ok (.invokevirtual 117, 3) := by decide +kernel
theorem dL_law_623 : decode cL_law 623 = .ok (.if_icmp .eq 19, 3) := by decide +kernel
theorem dL_law_626 : decode cL_law 626 = .ok (.iconst 0, 1) := by decide +kernel
theorem dL_law_627 : decode cL_law 627 = .ok (.ireturn, 1) := by decide +kernel
theorem dL_law_628 : decode cL_law 628 = .ok (.aload_n 1, 1) := by decide +kernel
theorem dL_law_629 : decode cL_law 629 = .ok (.invokevirtual 118, 3) := by decide +kernel
theorem dL_law_632 : decode cL_law 632 = .ok (.aload_n 2, 1) := by decide +kernel
theorem dL_law_633 : decode cL_law 633 = .ok (.invokevirtual 121, 3) := by decide +kernel
theorem dL_law_636 : decode cL_law 636 = .ok (.lcmp, 1) := by decide +kernel
theorem dL_law_637 : decode cL_law 637 = .ok (.ifCond .eq 5, 3) := by decide +kernel
theorem dL_law_640 : decode cL_law 640 = .ok (.iconst 0, 1) := by decide +kernel
theorem dL_law_641 : decode cL_law 641 = .ok (.ireturn, 1) := by decide +kernel
theorem dL_law_642 : decode cL_law 642 = .ok (.iinc 3 5, 3) := by decide +kernel
theorem dL_law_645 : decode cL_law 645 = .ok (.goto (-627), 3) := by decide +kernel
theorem dL_law_648 : decode cL_law 648 = .ok (.iconst 1, 1) := by decide +kernel
theorem dL_law_649 : decode cL_law 649 = .ok (.ireturn, 1) := by decide +kernel
end
section
/-! THE WALK'S OWN JUDGEMENT. A heap of ours is a list of cells, a reference a place in it; Rx M d pc ls st h r h': method M, at pc with locals ls, stack st and heap h,
returns r and leaves the heap h', with d frames to spare. Each rule turns Rx at an instruction into Rx at the next. Mx: the same of a whole call. -/
abbrev vwCl : List vw_C := [(RX0, TX0, 5), (RX1, TX1, 6), (RX2, TX2, 2), (RX3, TX3, 13), (RX4, TX4, 2), (RX5, TX5, 2), (RX6, TX6, 4), (RX7, TX7, 2), (RX8, TX8, 11), (RX9, TX9, 30)]
abbrev Mi : Type := MethodName × ByteArray × Nat × Option FieldType
abbrev Hp : Type := List va_E
abbrev aI (n : Nat) (f : Nat → Int32) : va_E := .inl (0, n, .inl f)
abbrev aL (n : Nat) (f : Nat → Int64) : va_E := .inl (1, n, .inr (.inl f))
abbrev aS (n : Nat) (f : Nat → Option Nat) : va_E := .inl (2, n, .inr (.inr (.inr (.inr f))))
abbrev ob (ci : Nat) (fs : List Value) : va_E := .inr (ci, fs)
def mp (b : Nat) (v : Value) : Value := match v with
  | .ref a => .ref (b + a)
  | v => v
def mE (cA : Nat → ClassId) (b : Nat) (e : va_E) : va_E := match e with
  | .inl (k, n, .inl f) => .inl (cA k, n, .inl f)
  | .inl (k, n, .inr (.inl f)) => .inl (cA k, n, .inr (.inl f))
  | .inl (k, n, .inr (.inr (.inl f))) => .inl (cA k, n, .inr (.inr (.inl f)))
  | .inl (k, n, .inr (.inr (.inr (.inl f)))) => .inl (cA k, n, .inr (.inr (.inr (.inl f))))
  | .inl (k, n, .inr (.inr (.inr (.inr f)))) => .inl (cA k, n, .inr (.inr (.inr (.inr (fun i => (f i).map (fun a => b + a))))))
  | .inr (ci, fs) => .inr (ci, fs.map (mp b))
def wz (cA : Nat → ClassId) (b : Nat) (h : Hp) : va_W := h.mapIdx (fun k e => (b + k, mE cA b e))
def esz (e : va_E) : Nat := match e with
  | .inl (_, n, _) => n
  | .inr (_, fs) => fs.length
def hsz (h : Hp) : Nat := (h.map esz).sum
abbrev tyz (cA : Nat → ClassId) : List (ClassId × FieldType) := [(cA 0, .int), (cA 1, .long), (cA 2, .object RX6)]
theorem mp_cat (b : Nat) (v : Value) : (mp b v).category = v.category := by cases v <;> rfl
theorem wz_at {cA : Nat → ClassId} {b : Nat} {h : Hp} {k : Nat} {e : va_E} (hk : h[k]? = some e) : (wz cA b h)[k]? = some (b + k, mE cA b e) := by
  simp [wz, List.getElem?_mapIdx, hk]
theorem wz_len (cA : Nat → ClassId) (b : Nat) (h : Hp) : (wz cA b h).length = h.length := by simp [wz]
theorem wz_inv {cA : Nat → ClassId} {b : Nat} {h : Hp} {k : Nat} {q : Nat × va_E} (hk : (wz cA b h)[k]? = some q) : ∃ e, h[k]? = some e ∧ q = (b + k, mE cA b e) := by
  simp only [wz, List.getElem?_mapIdx, Option.map_eq_some_iff] at hk
  obtain ⟨e, h1, h2⟩ := hk
  exact ⟨e, h1, h2.symm⟩
theorem wz_set {cA : Nat → ClassId} {b : Nat} {h : Hp} {k : Nat} {e : va_E} : wz cA b (h.set k e) = (wz cA b h).set k (b + k, mE cA b e) := by
  apply List.ext_getElem?
  intro i
  simp only [wz, List.getElem?_mapIdx, List.getElem?_set, List.length_mapIdx]
  by_cases hi : k = i
  · subst hi
    by_cases hl : k < h.length <;> simp [hl]
  · simp [hi]
theorem wz_push {cA : Nat → ClassId} {b : Nat} {h : Hp} {e : va_E} : wz cA b (h ++ [e]) = wz cA b h ++ [(b + h.length, mE cA b e)] := by
  simp [wz, List.mapIdx_append]
theorem wz_D (cA : Nat → ClassId) (b : Nat) (h : Hp) : va_D (fun q => b ≤ q) (wz cA b h) := by
  refine ⟨fun i j x y hi hj hxy => ?_, fun k q hk => ?_⟩
  · obtain ⟨_, _, rfl⟩ := wz_inv hi
    obtain ⟨_, _, rfl⟩ := wz_inv hj
    have : b + i = b + j := hxy
    omega
  · obtain ⟨_, _, rfl⟩ := wz_inv hk
    exact Nat.le_add_right _ _
theorem hsz_set {h : Hp} {k : Nat} {e e' : va_E} (hk : h[k]? = some e) (he : esz e' = esz e) : hsz (h.set k e') = hsz h := by
  induction h generalizing k with
  | nil => simp at hk
  | cons a l ih =>
    cases k with
    | zero =>
      simp only [List.getElem?_cons_zero, Option.some.injEq] at hk
      subst hk
      simp [hsz, he]
    | succ k =>
      simp only [List.getElem?_cons_succ] at hk
      have := ih hk
      simp only [hsz, List.set_cons_succ, List.map_cons, List.sum_cons] at this ⊢
      omega
theorem hsz_push (h : Hp) (e : va_E) : hsz (h ++ [e]) = hsz h + esz e := by simp [hsz]
/-! locals -/
def jn (v : Value) : Bool := match v with
  | .retAddr _ => true
  | _ => false
def lat : List Value → Nat → Option Value
  | [], _ => none
  | v :: _, 0 => some v
  | _ :: l, i + 1 => lat l i
def lse : List Value → Nat → Value → List Value
  | [], _, _ => []
  | _ :: l, 0, v => v :: l
  | w :: l, i + 1, v => w :: lse l i v
def nol (ls : List Value) (i : Nat) : Bool := match i with
  | 0 => true
  | k + 1 => match lat ls k with
    | some (.long _) => false
    | some (.double _) => false
    | _ => true
theorem lat_lt {ls : List Value} {k : Nat} {v : Value} (h : lat ls k = some v) : k < ls.length := by
  induction ls generalizing k with
  | nil => cases h
  | cons a l ih =>
    cases k with
    | zero => simp
    | succ k => have := ih h; simp only [List.length_cons]; omega
theorem lat_lse {ls : List Value} {i k : Nat} {v : Value} : lat (lse ls i v) k = if k = i then (if i < ls.length then some v else none) else lat ls k := by
  induction ls generalizing i k with
  | nil => cases k <;> cases i <;> simp [lse, lat]
  | cons a l ih =>
    cases i with
    | zero => cases k <;> simp [lse, lat]
    | succ i =>
      cases k with
      | zero => simp [lse, lat]
      | succ k => simp only [lse, lat, ih, List.length_cons]; simp
theorem nol_cat {ls : List Value} {i k : Nat} {v : Value} (h : nol ls i = true) (hk : k + 1 = i) (hv : lat ls k = some v) : v.category = 1 := by
  subst hk
  simp only [nol, hv] at h
  cases v <;> first | rfl | cases h
def LR (b n : Nat) (LS : Array Slot) (ls : List Value) : Prop := LS.size = n ∧ lv_wf LS ∧ ∀ k v, lat ls k = some v → jn v = false → LS[k]? = some (.val (mp b v))
def lvz (b : Nat) (ls : List Value) : List (Nat × Value) := (List.range ls.length).filterMap (fun k => (lat ls k).bind (fun v => if jn v = true then none else some (k, mp b v)))
theorem LR_mem {b : Nat} {ls : List Value} {k : Nat} {v : Value} (h : lat ls k = some v) (hj : jn v = false) : (k, mp b v) ∈ lvz b ls := by
  refine List.mem_filterMap.mpr ⟨k, List.mem_range.mpr (lat_lt h), ?_⟩
  simp [h, hj]
theorem LR_has {b n : Nat} {LS : Array Slot} {ls : List Value} (h : LR b n LS ls) : lv_has LS n (lvz b ls) := by
  refine ⟨h.1, h.2.1, fun q hq => ?_⟩
  obtain ⟨k, -, hk⟩ := List.mem_filterMap.mp hq
  cases hv : lat ls k with
  | none => rw [hv] at hk; cases hk
  | some v =>
    rw [hv] at hk
    simp only [Option.bind_some] at hk
    by_cases hj : jn v = true
    · rw [if_pos hj] at hk; cases hk
    · rw [if_neg hj] at hk
      cases hk
      exact h.2.2 k v hv (by simpa using hj)
theorem LR_sto1 {b n : Nat} {LS' : Array Slot} {ls : List Value} {i : Nat} {v : Value} (hn : nol ls i = true)
    (h : lv_has LS' n ((i, mp b v) :: (lvz b ls).filter (fun q => !(q.1 == i) && !(q.1 + 1 == i && q.2.category == 2)))) : LR b n LS' (lse ls i v) := by
  refine ⟨h.1, h.2.1, fun k w hk hj => ?_⟩
  rw [lat_lse] at hk
  by_cases hki : k = i
  · subst hki
    rw [if_pos rfl] at hk
    split at hk
    · cases hk
      exact h.2.2 (k, mp b v) List.mem_cons_self
    · cases hk
  · rw [if_neg hki] at hk
    refine h.2.2 (k, mp b w) (List.mem_cons_of_mem _ (List.mem_filter.mpr ⟨LR_mem hk hj, ?_⟩))
    by_cases h1 : k + 1 = i
    · have := nol_cat hn h1 hk
      simp [hki, mp_cat, this]
    · simp [hki, h1]
theorem LR_sto2 {b n : Nat} {LS' : Array Slot} {ls : List Value} {i : Nat} {v : Value} (hn : nol ls i = true)
    (h : lv_has LS' n ((i, mp b v) :: (lvz b ls).filter (fun q => !(q.1 == i) && (!(q.1 == i + 1) && !(q.1 + 1 == i && q.2.category == 2))))) : LR b n LS' (lse (lse ls i v) (i + 1) (.retAddr 0)) := by
  refine ⟨h.1, h.2.1, fun k w hk hj => ?_⟩
  rw [lat_lse] at hk
  by_cases hk1 : k = i + 1
  · subst hk1
    rw [if_pos rfl] at hk
    split at hk
    · cases hk
      cases hj
    · cases hk
  · rw [if_neg hk1, lat_lse] at hk
    by_cases hki : k = i
    · subst hki
      rw [if_pos rfl] at hk
      split at hk
      · cases hk
        exact h.2.2 (k, mp b v) List.mem_cons_self
      · cases hk
    · rw [if_neg hki] at hk
      refine h.2.2 (k, mp b w) (List.mem_cons_of_mem _ (List.mem_filter.mpr ⟨LR_mem hk hj, ?_⟩))
      by_cases h1 : k + 1 = i
      · have := nol_cat hn h1 hk
        simp [hki, hk1, mp_cat, this]
      · simp [hki, hk1, h1]
/-! the tables' words -/
def gtbl : List Cond := lw_tbl.filter goodWord
def isNest (w : Cond) : Bool := match w with
  | .fieldLinkNest .. => true
  | .methodLinkNest .. => true
  | _ => false
theorem gt_good : GoodIn gtbl gtbl := fun _ h => ⟨h, good_of_word (List.mem_filter.mp h).2⟩
theorem gt_mem {w : Cond} (h : w ∈ lw_tbl) (hg : goodWord w = true) : w ∈ gtbl := List.mem_filter.mpr ⟨h, hg⟩
theorem gt_at {w : Cond} (i : Nat) (h : lw_tbl[i]? = some w) (hg : goodWord w = true) : w ∈ gtbl := gt_mem (List.mem_of_getElem? h) hg
def inn (j : Nat) : Int64 := match j with
  | 0 => 0xAAAAAAAAAAAAAAAA
  | 1 => 0xCCCCCCCCCCCCCCCC
  | 2 => 0xF0F0F0F0F0F0F0F0
  | 3 => 0xFF00FF00FF00FF00
  | 4 => 0xFFFF0000FFFF0000
  | _ => 0xFFFFFFFF00000000
def SX (b : Nat) (U : State) (H : Heap) : Prop := ∃ t, va_Z RX5 "INNER_WORDS" "[J" (.ref t) (fun q => b ≤ q) U H ∧ va_T .long t 6 (fun j => .long (inn j)) (fun q => b ≤ q) U H
def NW (b : Nat) (U : State) : Prop := (∀ w ∈ lw_tbl, isNest w = true → va_Nw w U) ∧ va_AO RX6 U ∧ SX b U U.heap
theorem NW_warm {b : Nat} {s U : State} {H : Heap} {locs : List Loc} (h : NW b s) (hU : U.heap = H) (hS : va_S (fun q => b ≤ q) s.heap H locs) (hW : s.WarmedH U.vm) : NW b U := by
  obtain ⟨h1, h2, t, h3, h4⟩ := h
  refine ⟨fun w hw hn => ?_, h2.moved hW.alike, t, ?_, ?_⟩
  · have hz := h1 w hw hn
    cases w <;> first | exact va_Nw.warmF hW hz | exact va_Nw.warmM hW hz | cases hn
  · rw [hU]; exact (h3.moved hW.alike).kept (fun a ha hn => hS.2.1 a ha hn)
  · rw [hU]; exact (h4.moved hW.alike).kept (fun a ha hn => hS.2.1 a ha hn)
theorem NW_vm {b : Nat} {s U : State} (h : NW b s) (hU : U.heap = s.heap) (hv : s.vm = U.vm) : NW b U := by
  obtain ⟨h1, h2, t, h3, h4⟩ := h
  have hA : s.vm.Alike U.vm := by rw [hv]; exact Vm.Alike.refl _
  refine ⟨fun w hw hn => ?_, h2.moved hA, t, ?_, ?_⟩
  · have hz := h1 w hw hn
    cases w <;> first | exact va_Nw.same rfl hv hz | cases hn
  · rw [hU]; exact h3.moved hA
  · rw [hU]; exact h4.moved hA
/-! the judgement -/
def Cx (M : Mi) (p : Program) (s : State) (m : MethodId) (args : Array Value) (meth : Method) (c : Code) (D : va_G) (cA : Nat → ClassId) (b : Nat) : Prop :=
  p.tables.exec = Jvm.exec ∧ c.code = M.2.1 ∧ c.maxLocals = M.2.2.1 ∧ meth.sig.returnType = M.2.2.2 ∧ meth.locks = false ∧ meth.name = M.1.name ∧ s.vm.findClass M.1.cls = some m.cls ∧ (∀ w ∈ gtbl, w.before args s = true) ∧ va_K D vwCl (tyz cA) s ∧ NW b s
def Rm (d : Nat) (R : Room) (cells slots : Nat) (h h' : Hp) : Prop := d ≤ R.frames ∧ 64 * d ≤ R.locals ∧ cells + (h'.length - h.length) ≤ R.cells ∧ slots + (hsz h' - hsz h) ≤ R.slots
def Wd (D : va_G) (cA : Nat → ClassId) (b : Nat) (s : State) (cells : Nat) (h : Hp) (H : Heap) (locs : List Loc) : Prop :=
  va_P D vwCl (wz cA b h) H ∧ H.size = b + h.length ∧ va_S (fun q => b ≤ q) s.heap H locs ∧ b ≤ s.heap.size ∧ s.heap.size + cells = H.size
def QX (D : va_G) (cA : Nat → ClassId) (b : Nat) (r : Option Value) (h' : Hp) : Array Value → State → Outcome → State → Prop := fun _ st o t =>
  o = .returned (r.map (mp b)) ∧ va_P D vwCl (wz cA b h') t.heap ∧ t.heap.size = b + h'.length ∧ va_F (fun q => b ≤ q) st t
def Rx (M : Mi) (d pc : Nat) (ls st : List Value) (h : Hp) (r : Option Value) (h' : Hp) : Prop :=
  h.length ≤ h'.length ∧ hsz h ≤ hsz h' ∧
  ∀ (p : Program) (l : Launch) (e : Env) (R : Room) (s : State) (m : MethodId) (args : Array Value) (below : List Frame) (meth : Method) (c : Code) (D : va_G) (cA : Nat → ClassId) (b : Nat) (H : Heap) (locs : List Loc) (cells slots : Nat) (LS : Array Slot),
    Cx M p s m args meth c D cA b → Rm d R cells slots h h' → Wd D cA b s cells h H locs → LR b M.2.2.1 LS ls →
    W p l e R s m args below meth c H locs cells slots (MQ below (QX D cA b r h') args s (cells + (h'.length - h.length)) (slots + (hsz h' - hsz h)) (fun q => b ≤ q)) (F0 m pc LS (st.map (mp b)))
def PX (D : va_G) (cA : Nat → ClassId) (b : Nat) (as : List Value) (h : Hp) : Array Value → State → Prop :=
  va_Pc (as.map (mp b)) (fun U => va_P D vwCl (wz cA b h) U.heap ∧ U.heap.size = b + h.length ∧ va_K D vwCl (tyz cA) U ∧ NW b U)
def rmx (d : Nat) (h h' : Hp) : Room := { frames := d, cells := h'.length - h.length, slots := hsz h' - hsz h, locals := 64 * d }
def wsM (M : Mi) : List Cond := Cond.code M.1 M.2.1 M.2.2.1 M.2.2.2 :: gtbl
def Mx (M : Mi) (d : Nat) (as : List Value) (h : Hp) (r : Option Value) (h' : Hp) : Prop :=
  h.length ≤ h'.length ∧ hsz h ≤ hsz h' ∧ ∀ (l : Launch) (D : va_G) (cA : Nat → ClassId) (b : Nat),
    Met l M.1 (wsM M) (rmx d h h') (PX D cA b as h) (QX D cA b r h') (h'.length - h.length) (hsz h' - hsz h) (fun q => b ≤ q)
theorem Rx.step {M : Mi} {d pc pc' : Nat} {ls st st' : List Value} {h : Hp} {r : Option Value} {h' : Hp} (K : Rx M d pc' ls st' h r h')
    (f : ∀ {p : Program} {l : Launch} {e : Env} {R : Room} {s : State} {m : MethodId} {args : Array Value} {below : List Frame} {meth : Method} {c : Code} {D : va_G} {cA : Nat → ClassId} {b : Nat} {H : Heap} {locs : List Loc} {cells slots : Nat} {LS : Array Slot} {Q : State → Prop},
      Cx M p s m args meth c D cA b → Rm d R cells slots h h' → Wd D cA b s cells h H locs → LR b M.2.2.1 LS ls →
      W p l e R s m args below meth c H locs cells slots Q (F0 m pc' LS (st'.map (mp b))) → W p l e R s m args below meth c H locs cells slots Q (F0 m pc LS (st.map (mp b)))) : Rx M d pc ls st h r h' :=
  ⟨K.1, K.2.1, fun p l e R s m args below meth c D cA b H locs cells slots LS C hR hw hl => f C hR hw hl (K.2.2 p l e R s m args below meth c D cA b H locs cells slots LS C hR hw hl)⟩
theorem Rx.stepL {M : Mi} {d pc pc' : Nat} {ls ls' st st' : List Value} {h : Hp} {r : Option Value} {h' : Hp} (K : Rx M d pc' ls' st' h r h')
    (f : ∀ {p : Program} {l : Launch} {e : Env} {R : Room} {s : State} {m : MethodId} {args : Array Value} {below : List Frame} {meth : Method} {c : Code} {D : va_G} {cA : Nat → ClassId} {b : Nat} {H : Heap} {locs : List Loc} {cells slots : Nat} {LS : Array Slot} {Q : State → Prop},
      Cx M p s m args meth c D cA b → LR b M.2.2.1 LS ls →
      (∀ LS' : Array Slot, LR b M.2.2.1 LS' ls' → W p l e R s m args below meth c H locs cells slots Q (F0 m pc' LS' (st'.map (mp b)))) → W p l e R s m args below meth c H locs cells slots Q (F0 m pc LS (st.map (mp b)))) : Rx M d pc ls st h r h' :=
  ⟨K.1, K.2.1, fun p l e R s m args below meth c D cA b H locs cells slots LS C hR hw hl => f C hl (fun LS' hl' => K.2.2 p l e R s m args below meth c D cA b H locs cells slots LS' C hR hw hl')⟩
theorem Wd.size {p : Program} {l : Launch} {e : Env} {R : Room} {s : State} {m : MethodId} {args : Array Value} {below : List Frame} {meth : Method} {c : Code} {T : State} {locs : List Loc} {cells slots : Nat} (X : Stand p l e R s m args below meth c T locs cells slots) : T.heap.size ≤ s.heap.size + cells := X.same.2.2.1
/-- a row that writes one cell of the heap -/
theorem Rx.stepH {M : Mi} {d pc pc' : Nat} {ls st st' : List Value} {h : Hp} {r : Option Value} {h' : Hp} {k : Nat} {e0 e1 : va_E} (hk : h[k]? = some e0) (hz : esz e1 = esz e0) (K : Rx M d pc' ls st' (h.set k e1) r h')
    (f : ∀ {p : Program} {l : Launch} {e : Env} {R : Room} {s : State} {m : MethodId} {args : Array Value} {below : List Frame} {meth : Method} {c : Code} {D : va_G} {cA : Nat → ClassId} {b : Nat} {H : Heap} {locs : List Loc} {cells slots : Nat} {LS : Array Slot} {Q : State → Prop},
      Cx M p s m args meth c D cA b → Rm d R cells slots h h' → LR b M.2.2.1 LS ls → va_P D vwCl (wz cA b h) H → va_D (fun q => b ≤ q) (wz cA b h) → va_S (fun q => b ≤ q) H H locs →
      (∀ (H1 : Heap) (locs1 : List Loc), va_P D vwCl ((wz cA b h).set k (b + k, mE cA b e1)) H1 → va_D (fun q => b ≤ q) ((wz cA b h).set k (b + k, mE cA b e1)) → va_S (fun q => b ≤ q) H H1 locs1 → W p l e R s m args below meth c H1 locs1 cells slots Q (F0 m pc' LS (st'.map (mp b)))) →
      W p l e R s m args below meth c H locs cells slots Q (F0 m pc LS (st.map (mp b)))) : Rx M d pc ls st h r h' := by
  obtain ⟨k1, k2, k3⟩ := K
  have g1 : (h.set k e1).length = h.length := List.length_set
  have g2 := hsz_set (e' := e1) hk hz
  rw [g1] at k1
  rw [g2] at k2
  refine ⟨k1, k2, fun p l e R s m args below meth c D cA b H locs cells slots LS C hR hw hl => ?_⟩
  obtain ⟨hP, hs, hS, hb, hc⟩ := hw
  refine f C hR hl hP (wz_D cA b h) ⟨Nat.le_refl _, fun _ _ _ => rfl, hS.2.2⟩ (fun H1 locs1 hP1 _ hS1 => ?_)
  intro T hT X
  have hz1 : H1.size = H.size := by
    have h1 := Wd.size X
    rw [hT] at h1
    have h2 := hS1.1
    omega
  have hw1 : Wd D cA b s cells (h.set k e1) H1 locs1 := by
    refine ⟨by rw [wz_set]; exact hP1, by rw [hz1, hs, List.length_set], ⟨Nat.le_trans hS.1 hS1.1, fun q h1 h2 => ?_, hS1.2.2⟩, hb, by rw [hz1]; exact hc⟩
    rw [hS1.2.1 q (Nat.lt_of_lt_of_le h1 hS.1) h2]
    exact hS.2.1 q h1 h2
  have kk := k3 p l e R s m args below meth c D cA b H1 locs1 cells slots LS C (by simpa only [Rm, g1, g2] using hR) hw1 hl
  rw [g1, g2] at kk
  exact kk T hT X
/-- a row that makes one cell -/
theorem Rx.stepN {M : Mi} {d pc pc' : Nat} {ls st st' : List Value} {h : Hp} {r : Option Value} {h' : Hp} {e1 : va_E} (K : Rx M d pc' ls (.ref h.length :: st') (h ++ [e1]) r h')
    (f : ∀ {p : Program} {l : Launch} {e : Env} {R : Room} {s : State} {m : MethodId} {args : Array Value} {below : List Frame} {meth : Method} {c : Code} {D : va_G} {cA : Nat → ClassId} {b : Nat} {H : Heap} {locs : List Loc} {cells slots : Nat} {LS : Array Slot} {Q : State → Prop},
      Cx M p s m args meth c D cA b → LR b M.2.2.1 LS ls → cells + 1 ≤ R.cells → slots + esz e1 ≤ R.slots → va_P D vwCl (wz cA b h) H → va_D (fun q => b ≤ q) (wz cA b h) → va_S (fun q => b ≤ q) H H locs → (∀ q, H.size ≤ q → b ≤ q) →
      (∀ (q : Nat) (H1 : Heap), va_P D vwCl (wz cA b h ++ [(q, mE cA b e1)]) H1 → va_D (fun q => b ≤ q) (wz cA b h ++ [(q, mE cA b e1)]) → va_S (fun q => b ≤ q) H H1 locs → W p l e R s m args below meth c H1 locs (cells + 1) (slots + esz e1) Q (F0 m pc' LS (.ref q :: st'.map (mp b)))) →
      W p l e R s m args below meth c H locs cells slots Q (F0 m pc LS (st.map (mp b)))) : Rx M d pc ls st h r h' := by
  obtain ⟨k1, k2, k3⟩ := K
  have e1' : (h ++ [e1]).length = h.length + 1 := by simp
  have e2 := hsz_push h e1
  rw [e1'] at k1
  rw [e2] at k2
  refine ⟨by omega, by omega, fun p l e R s m args below meth c D cA b H locs cells slots LS C hR hw hl => ?_⟩
  obtain ⟨hP, hs, hS, hb, hc⟩ := hw
  obtain ⟨r1, r2, r3, r4⟩ := hR
  refine f C hl (by omega) (by omega) hP (wz_D cA b h) ⟨Nat.le_refl _, fun _ _ _ => rfl, hS.2.2⟩ (fun q hq => by omega) (fun q H1 hP1 hD1 hS1 => ?_)
  intro T hT X
  have hlast : (wz cA b h ++ [(q, mE cA b e1)])[h.length]? = some (q, mE cA b e1) := by
    rw [List.getElem?_append_right (by rw [wz_len]; exact Nat.le_refl _), wz_len, Nat.sub_self]; rfl
  have hz0 : H1.size ≤ s.heap.size + (cells + 1) := by rw [← hT]; exact Wd.size X
  have hq1 : q < H1.size := (hP1 _ _ hlast).lt
  have hq2 : b ≤ q := hD1.2 _ _ hlast
  have hq3 : q = b + h.length := by
    rcases Nat.lt_or_ge q (b + h.length) with hlt | hge
    · exfalso
      have hk : q - b < h.length := by omega
      obtain ⟨e0, he0⟩ : ∃ e0, h[q - b]? = some e0 := ⟨_, List.getElem?_eq_getElem hk⟩
      have hat : (wz cA b h ++ [(q, mE cA b e1)])[q - b]? = some (b + (q - b), mE cA b e0) := by
        rw [List.getElem?_append_left (by rw [wz_len]; exact hk)]
        exact wz_at he0
      have := hD1.1 _ _ _ _ hat hlast (by show b + (q - b) = q; omega)
      omega
    · omega
  have hz1 : H1.size = H.size + 1 := by omega
  subst hq3
  have hw1 : Wd D cA b s (cells + 1) (h ++ [e1]) H1 locs := by
    refine ⟨by rw [wz_push]; exact hP1, by rw [hz1, hs, e1']; omega, ⟨Nat.le_trans hS.1 hS1.1, fun q h1 h2 => ?_, hS1.2.2⟩, hb, by omega⟩
    rw [hS1.2.1 q (Nat.lt_of_lt_of_le h1 hS.1) h2]
    exact hS.2.1 q h1 h2
  have kk := k3 p l e R s m args below meth c D cA b H1 locs (cells + 1) (slots + esz e1) LS C ⟨r1, r2, by rw [e1']; omega, by rw [e2]; omega⟩ hw1 hl
  rw [e1', e2] at kk
  have g1 : cells + 1 + (h'.length - (h.length + 1)) = cells + (h'.length - h.length) := by omega
  have g2 : slots + esz e1 + (hsz h' - (hsz h + esz e1)) = slots + (hsz h' - hsz h) := by omega
  rw [g1, g2] at kk
  exact kk T hT X
end
section
theorem Rx_iconst {M : Mi} {d pc : Nat} {ls st : List Value} {h : Hp} {r : Option Value} {h' : Hp} {n : Int} (v : Int32) (hd : decode M.2.1 pc = .ok (.iconst n, 1)) (hv : Int32.ofInt n = v) (K : Rx M d (pc + 1) ls (.int v :: st) h r h') : Rx M d pc ls st h r h' :=
  K.step (fun C _ _ _ k => lv_iconst C.1 C.2.1 hd hv k)
theorem Rx_bipush {M : Mi} {d pc : Nat} {ls st : List Value} {h : Hp} {r : Option Value} {h' : Hp} {n : Int} (v : Int32) (hd : decode M.2.1 pc = .ok (.bipush n, 2)) (hv : (Int8.ofInt n).toInt32 = v) (K : Rx M d (pc + 2) ls (.int v :: st) h r h') : Rx M d pc ls st h r h' :=
  K.step (fun C _ _ _ k => lv_bipush C.1 C.2.1 hd hv k)
theorem Rx_sipush {M : Mi} {d pc : Nat} {ls st : List Value} {h : Hp} {r : Option Value} {h' : Hp} {n : Int} (v : Int32) (hd : decode M.2.1 pc = .ok (.sipush n, 3)) (hv : (Int16.ofInt n).toInt32 = v) (K : Rx M d (pc + 3) ls (.int v :: st) h r h') : Rx M d pc ls st h r h' :=
  K.step (fun C _ _ _ k => lv_sipush C.1 C.2.1 hd hv k)
theorem Rx_lconst {M : Mi} {d pc : Nat} {ls st : List Value} {h : Hp} {r : Option Value} {h' : Hp} {n : Fin 2} (v : Int64) (hd : decode M.2.1 pc = .ok (.lconst n, 1)) (hv : Int64.ofNat (n : Nat) = v) (K : Rx M d (pc + 1) ls (.long v :: st) h r h') : Rx M d pc ls st h r h' :=
  K.step (fun C _ _ _ k => lv_lconst C.1 C.2.1 hd hv k)
theorem Rx_ldc {M : Mi} {d pc : Nat} {ls st : List Value} {h : Hp} {r : Option Value} {h' : Hp} {idx : Nat} {v : Int32} (hd : decode M.2.1 pc = .ok (.ldc idx, 2)) (hc : Cond.constant M.1.cls idx v ∈ gtbl) (K : Rx M d (pc + 2) ls (.int v :: st) h r h') : Rx M d pc ls st h r h' :=
  K.step (fun C _ _ _ k => lv_ldc C.1 C.2.1 C.2.2.2.2.2.2.1 (C.2.2.2.2.2.2.2.1 _ hc) hd k)
theorem Rx_ldcw {M : Mi} {d pc : Nat} {ls st : List Value} {h : Hp} {r : Option Value} {h' : Hp} {idx : Nat} {v : Int32} (hd : decode M.2.1 pc = .ok (.ldc_w idx, 3)) (hc : Cond.constant M.1.cls idx v ∈ gtbl) (K : Rx M d (pc + 3) ls (.int v :: st) h r h') : Rx M d pc ls st h r h' :=
  K.step (fun C _ _ _ k => lv_ldcw C.1 C.2.1 C.2.2.2.2.2.2.1 (C.2.2.2.2.2.2.2.1 _ hc) hd k)
theorem Rx_ldc2 {M : Mi} {d pc : Nat} {ls st : List Value} {h : Hp} {r : Option Value} {h' : Hp} {idx : Nat} {v : Int64} (hd : decode M.2.1 pc = .ok (.ldc2_w idx, 3)) (hc : Cond.constantLong M.1.cls idx v ∈ gtbl) (K : Rx M d (pc + 3) ls (.long v :: st) h r h') : Rx M d pc ls st h r h' :=
  K.step (fun C _ _ _ k => lv_ldc2 C.1 C.2.1 C.2.2.2.2.2.2.1 (C.2.2.2.2.2.2.2.1 _ hc) hd k)
theorem Rx_ldcf {M : Mi} {d pc : Nat} {ls st : List Value} {h : Hp} {r : Option Value} {h' : Hp} {idx : Nat} {v : UInt32} (hd : decode M.2.1 pc = .ok (.ldc idx, 2)) (hc : Cond.constantFloat M.1.cls idx v ∈ gtbl) (K : Rx M d (pc + 2) ls (.float v :: st) h r h') : Rx M d pc ls st h r h' :=
  K.step (fun C _ _ _ k => lv_ldcf C.1 C.2.1 C.2.2.2.2.2.2.1 (C.2.2.2.2.2.2.2.1 _ hc) hd k)
theorem Rx_iload {M : Mi} {d pc : Nat} {ls st : List Value} {h : Hp} {r : Option Value} {h' : Hp} {i : Nat} {x : Int32} (hd : decode M.2.1 pc = .ok (.iload i, 2)) (hi : lat ls i = some (.int x)) (K : Rx M d (pc + 2) ls (.int x :: st) h r h') : Rx M d pc ls st h r h' :=
  K.step (fun C _ _ hl k => lv_iload C.1 C.2.1 hd (hl.2.2 i _ hi rfl) k)
theorem Rx_iload_n {M : Mi} {d pc : Nat} {ls st : List Value} {h : Hp} {r : Option Value} {h' : Hp} {i : Fin 4} {x : Int32} (hd : decode M.2.1 pc = .ok (.iload_n i, 1)) (hi : lat ls i.val = some (.int x)) (K : Rx M d (pc + 1) ls (.int x :: st) h r h') : Rx M d pc ls st h r h' :=
  K.step (fun C _ _ hl k => lv_iload_n C.1 C.2.1 hd rfl (hl.2.2 i.val _ hi rfl) k)
theorem Rx_lload {M : Mi} {d pc : Nat} {ls st : List Value} {h : Hp} {r : Option Value} {h' : Hp} {i : Nat} {x : Int64} (hd : decode M.2.1 pc = .ok (.lload i, 2)) (hi : lat ls i = some (.long x)) (K : Rx M d (pc + 2) ls (.long x :: st) h r h') : Rx M d pc ls st h r h' :=
  K.step (fun C _ _ hl k => lv_lload C.1 C.2.1 hd (hl.2.2 i _ hi rfl) k)
theorem Rx_lload_n {M : Mi} {d pc : Nat} {ls st : List Value} {h : Hp} {r : Option Value} {h' : Hp} {i : Fin 4} {x : Int64} (hd : decode M.2.1 pc = .ok (.lload_n i, 1)) (hi : lat ls i.val = some (.long x)) (K : Rx M d (pc + 1) ls (.long x :: st) h r h') : Rx M d pc ls st h r h' :=
  K.step (fun C _ _ hl k => lv_lload_n C.1 C.2.1 hd rfl (hl.2.2 i.val _ hi rfl) k)
theorem Rx_aload {M : Mi} {d pc : Nat} {ls st : List Value} {h : Hp} {r : Option Value} {h' : Hp} {i : Nat} {x : Nat} (hd : decode M.2.1 pc = .ok (.aload i, 2)) (hi : lat ls i = some (.ref x)) (K : Rx M d (pc + 2) ls (.ref x :: st) h r h') : Rx M d pc ls st h r h' :=
  K.step (fun C _ _ hl k => lv_aload C.1 C.2.1 hd (hl.2.2 i _ hi rfl) k)
theorem Rx_aload_n {M : Mi} {d pc : Nat} {ls st : List Value} {h : Hp} {r : Option Value} {h' : Hp} {i : Fin 4} {x : Nat} (hd : decode M.2.1 pc = .ok (.aload_n i, 1)) (hi : lat ls i.val = some (.ref x)) (K : Rx M d (pc + 1) ls (.ref x :: st) h r h') : Rx M d pc ls st h r h' :=
  K.step (fun C _ _ hl k => lv_aload_n C.1 C.2.1 hd rfl (hl.2.2 i.val _ hi rfl) k)
theorem Rx_fload_n {M : Mi} {d pc : Nat} {ls st : List Value} {h : Hp} {r : Option Value} {h' : Hp} {i : Fin 4} {x : UInt32} (hd : decode M.2.1 pc = .ok (.fload_n i, 1)) (hi : lat ls i.val = some (.float x)) (K : Rx M d (pc + 1) ls (.float x :: st) h r h') : Rx M d pc ls st h r h' :=
  K.step (fun C _ _ hl k => lv_fload_n C.1 C.2.1 hd rfl (hl.2.2 i.val _ hi rfl) k)
theorem Rx_istore {M : Mi} {d pc : Nat} {ls st : List Value} {h : Hp} {r : Option Value} {h' : Hp} {i : Nat} {x : Int32} (ls' : List Value) (hd : decode M.2.1 pc = .ok (.istore i, 2)) (hn : nol ls i = true) (hi : Nat.ble (i + 1) M.2.2.1 = true) (hs : lse ls i (.int x) = ls') (K : Rx M d (pc + 2) ls' st h r h') : Rx M d pc ls (.int x :: st) h r h' := by
  subst hs
  exact K.stepL (fun {_ _ _ _ _ _ _ _ _ _ _ _ b _ _ _ _ _ _} C hl k => lv_istore (nL := M.2.2.1) C.1 C.2.1 hd (LR_has hl) (Nat.le_of_ble_eq_true hi) rfl (fun LS' h' => k LS' (LR_sto1 (b := b) (v := .int x) hn h')))
theorem Rx_istore_n {M : Mi} {d pc : Nat} {ls st : List Value} {h : Hp} {r : Option Value} {h' : Hp} {i : Fin 4} {x : Int32} (ls' : List Value) (hd : decode M.2.1 pc = .ok (.istore_n i, 1)) (hn : nol ls i.val = true) (hi : Nat.ble (i.val + 1) M.2.2.1 = true) (hs : lse ls i.val (.int x) = ls') (K : Rx M d (pc + 1) ls' st h r h') : Rx M d pc ls (.int x :: st) h r h' := by
  subst hs
  exact K.stepL (fun {_ _ _ _ _ _ _ _ _ _ _ _ b _ _ _ _ _ _} C hl k => lv_istore_n (nL := M.2.2.1) C.1 C.2.1 hd rfl (LR_has hl) (Nat.le_of_ble_eq_true hi) rfl (fun LS' h' => k LS' (LR_sto1 (b := b) (v := .int x) hn h')))
theorem Rx_astore {M : Mi} {d pc : Nat} {ls st : List Value} {h : Hp} {r : Option Value} {h' : Hp} {i : Nat} {x : Nat} (ls' : List Value) (hd : decode M.2.1 pc = .ok (.astore i, 2)) (hn : nol ls i = true) (hi : Nat.ble (i + 1) M.2.2.1 = true) (hs : lse ls i (.ref x) = ls') (K : Rx M d (pc + 2) ls' st h r h') : Rx M d pc ls (.ref x :: st) h r h' := by
  subst hs
  exact K.stepL (fun {_ _ _ _ _ _ _ _ _ _ _ _ b _ _ _ _ _ _} C hl k => lv_astore (nL := M.2.2.1) C.1 C.2.1 hd (LR_has hl) (Nat.le_of_ble_eq_true hi) rfl (fun LS' h' => k LS' (LR_sto1 (b := b) (v := .ref x) hn h')))
theorem Rx_astore_n {M : Mi} {d pc : Nat} {ls st : List Value} {h : Hp} {r : Option Value} {h' : Hp} {i : Fin 4} {x : Nat} (ls' : List Value) (hd : decode M.2.1 pc = .ok (.astore_n i, 1)) (hn : nol ls i.val = true) (hi : Nat.ble (i.val + 1) M.2.2.1 = true) (hs : lse ls i.val (.ref x) = ls') (K : Rx M d (pc + 1) ls' st h r h') : Rx M d pc ls (.ref x :: st) h r h' := by
  subst hs
  exact K.stepL (fun {_ _ _ _ _ _ _ _ _ _ _ _ b _ _ _ _ _ _} C hl k => lv_astore_n (nL := M.2.2.1) C.1 C.2.1 hd rfl (LR_has hl) (Nat.le_of_ble_eq_true hi) rfl (fun LS' h' => k LS' (LR_sto1 (b := b) (v := .ref x) hn h')))
theorem Rx_lstore {M : Mi} {d pc : Nat} {ls st : List Value} {h : Hp} {r : Option Value} {h' : Hp} {i : Nat} {x : Int64} (ls' : List Value) (hd : decode M.2.1 pc = .ok (.lstore i, 2)) (hn : nol ls i = true) (hi : Nat.ble (i + 2) M.2.2.1 = true) (hs : lse (lse ls i (.long x)) (i + 1) (.retAddr 0) = ls') (K : Rx M d (pc + 2) ls' st h r h') : Rx M d pc ls (.long x :: st) h r h' := by
  subst hs
  exact K.stepL (fun {_ _ _ _ _ _ _ _ _ _ _ _ b _ _ _ _ _ _} C hl k => lv_lstore (nL := M.2.2.1) C.1 C.2.1 hd (LR_has hl) (Nat.le_of_ble_eq_true hi) rfl (fun LS' h' => k LS' (LR_sto2 (b := b) (v := .long x) hn h')))
theorem Rx_lstore_n {M : Mi} {d pc : Nat} {ls st : List Value} {h : Hp} {r : Option Value} {h' : Hp} {i : Fin 4} {x : Int64} (ls' : List Value) (hd : decode M.2.1 pc = .ok (.lstore_n i, 1)) (hn : nol ls i.val = true) (hi : Nat.ble (i.val + 2) M.2.2.1 = true) (hs : lse (lse ls i.val (.long x)) (i.val + 1) (.retAddr 0) = ls') (K : Rx M d (pc + 1) ls' st h r h') : Rx M d pc ls (.long x :: st) h r h' := by
  subst hs
  exact K.stepL (fun {_ _ _ _ _ _ _ _ _ _ _ _ b _ _ _ _ _ _} C hl k => lv_lstore_n (nL := M.2.2.1) C.1 C.2.1 hd rfl (LR_has hl) (Nat.le_of_ble_eq_true hi) rfl (fun LS' h' => k LS' (LR_sto2 (b := b) (v := .long x) hn h')))
theorem Rx_iinc {M : Mi} {d pc : Nat} {ls st : List Value} {h : Hp} {r : Option Value} {h' : Hp} {i : Nat} {n : Int} {x : Int32} (ls' : List Value) (c : Int32) (hd : decode M.2.1 pc = .ok (.iinc i n, 3)) (hx : lat ls i = some (.int x)) (hc : Int32.ofInt n = c) (hn : nol ls i = true) (hi : Nat.ble (i + 1) M.2.2.1 = true) (hs : lse ls i (.int (x + c)) = ls') (K : Rx M d (pc + 3) ls' st h r h') : Rx M d pc ls st h r h' := by
  subst hs
  exact K.stepL (fun {_ _ _ _ _ _ _ _ _ _ _ _ b _ _ _ _ _ _} C hl k => by
    obtain ⟨j, hj⟩ := List.getElem?_of_mem (LR_mem (b := b) hx rfl)
    exact lv_iinc (nL := M.2.2.1) C.1 C.2.1 hd (LR_has hl) hj (by rw [hc]) (Nat.le_of_ble_eq_true hi) rfl (fun LS' h' => k LS' (LR_sto1 (b := b) (v := .int (x + c)) hn h')))
theorem Rx_iadd {M : Mi} {d pc : Nat} {ls st : List Value} {h : Hp} {r : Option Value} {h' : Hp} {x y : Int32} (hd : decode M.2.1 pc = .ok (.iadd, 1)) (K : Rx M d (pc + 1) ls (.int (x + y) :: st) h r h') : Rx M d pc ls (.int y :: .int x :: st) h r h' :=
  K.step (fun C _ _ hl k => lv_iadd C.1 C.2.1 hd k)
theorem Rx_isub {M : Mi} {d pc : Nat} {ls st : List Value} {h : Hp} {r : Option Value} {h' : Hp} {x y : Int32} (hd : decode M.2.1 pc = .ok (.isub, 1)) (K : Rx M d (pc + 1) ls (.int (x - y) :: st) h r h') : Rx M d pc ls (.int y :: .int x :: st) h r h' :=
  K.step (fun C _ _ hl k => lv_isub C.1 C.2.1 hd k)
theorem Rx_imul {M : Mi} {d pc : Nat} {ls st : List Value} {h : Hp} {r : Option Value} {h' : Hp} {x y : Int32} (hd : decode M.2.1 pc = .ok (.imul, 1)) (K : Rx M d (pc + 1) ls (.int (x * y) :: st) h r h') : Rx M d pc ls (.int y :: .int x :: st) h r h' :=
  K.step (fun C _ _ hl k => lv_imul C.1 C.2.1 hd k)
theorem Rx_iand {M : Mi} {d pc : Nat} {ls st : List Value} {h : Hp} {r : Option Value} {h' : Hp} {x y : Int32} (hd : decode M.2.1 pc = .ok (.iand, 1)) (K : Rx M d (pc + 1) ls (.int (x &&& y) :: st) h r h') : Rx M d pc ls (.int y :: .int x :: st) h r h' :=
  K.step (fun C _ _ hl k => lv_iand C.1 C.2.1 hd k)
theorem Rx_ior {M : Mi} {d pc : Nat} {ls st : List Value} {h : Hp} {r : Option Value} {h' : Hp} {x y : Int32} (hd : decode M.2.1 pc = .ok (.ior, 1)) (K : Rx M d (pc + 1) ls (.int (x ||| y) :: st) h r h') : Rx M d pc ls (.int y :: .int x :: st) h r h' :=
  K.step (fun C _ _ hl k => lv_ior C.1 C.2.1 hd k)
theorem Rx_ixor {M : Mi} {d pc : Nat} {ls st : List Value} {h : Hp} {r : Option Value} {h' : Hp} {x y : Int32} (hd : decode M.2.1 pc = .ok (.ixor, 1)) (K : Rx M d (pc + 1) ls (.int (x ^^^ y) :: st) h r h') : Rx M d pc ls (.int y :: .int x :: st) h r h' :=
  K.step (fun C _ _ hl k => lv_ixor C.1 C.2.1 hd k)
theorem Rx_ishl {M : Mi} {d pc : Nat} {ls st : List Value} {h : Hp} {r : Option Value} {h' : Hp} {x y : Int32} (hd : decode M.2.1 pc = .ok (.ishl, 1)) (K : Rx M d (pc + 1) ls (.int (x <<< (y &&& 31)) :: st) h r h') : Rx M d pc ls (.int y :: .int x :: st) h r h' :=
  K.step (fun C _ _ hl k => lv_ishl C.1 C.2.1 hd k)
theorem Rx_ishr {M : Mi} {d pc : Nat} {ls st : List Value} {h : Hp} {r : Option Value} {h' : Hp} {x y : Int32} (hd : decode M.2.1 pc = .ok (.ishr, 1)) (K : Rx M d (pc + 1) ls (.int (x >>> (y &&& 31)) :: st) h r h') : Rx M d pc ls (.int y :: .int x :: st) h r h' :=
  K.step (fun C _ _ hl k => lv_ishr C.1 C.2.1 hd k)
theorem Rx_iushr {M : Mi} {d pc : Nat} {ls st : List Value} {h : Hp} {r : Option Value} {h' : Hp} {x y : Int32} (hd : decode M.2.1 pc = .ok (.iushr, 1)) (K : Rx M d (pc + 1) ls (.int ((x.toUInt32 >>> (y.toUInt32 &&& Int32.toUInt32 31)).toInt32) :: st) h r h') : Rx M d pc ls (.int y :: .int x :: st) h r h' :=
  K.step (fun C _ _ hl k => lv_iushr C.1 C.2.1 hd rfl k)
theorem Rx_ladd {M : Mi} {d pc : Nat} {ls st : List Value} {h : Hp} {r : Option Value} {h' : Hp} {x y : Int64} (hd : decode M.2.1 pc = .ok (.ladd, 1)) (K : Rx M d (pc + 1) ls (.long (x + y) :: st) h r h') : Rx M d pc ls (.long y :: .long x :: st) h r h' :=
  K.step (fun C _ _ hl k => lv_ladd C.1 C.2.1 hd k)
theorem Rx_lsub {M : Mi} {d pc : Nat} {ls st : List Value} {h : Hp} {r : Option Value} {h' : Hp} {x y : Int64} (hd : decode M.2.1 pc = .ok (.lsub, 1)) (K : Rx M d (pc + 1) ls (.long (x - y) :: st) h r h') : Rx M d pc ls (.long y :: .long x :: st) h r h' :=
  K.step (fun C _ _ hl k => lv_lsub C.1 C.2.1 hd k)
theorem Rx_lmul {M : Mi} {d pc : Nat} {ls st : List Value} {h : Hp} {r : Option Value} {h' : Hp} {x y : Int64} (hd : decode M.2.1 pc = .ok (.lmul, 1)) (K : Rx M d (pc + 1) ls (.long (x * y) :: st) h r h') : Rx M d pc ls (.long y :: .long x :: st) h r h' :=
  K.step (fun C _ _ hl k => lv_lmul C.1 C.2.1 hd k)
theorem Rx_land {M : Mi} {d pc : Nat} {ls st : List Value} {h : Hp} {r : Option Value} {h' : Hp} {x y : Int64} (hd : decode M.2.1 pc = .ok (.land, 1)) (K : Rx M d (pc + 1) ls (.long (x &&& y) :: st) h r h') : Rx M d pc ls (.long y :: .long x :: st) h r h' :=
  K.step (fun C _ _ hl k => lv_land C.1 C.2.1 hd k)
theorem Rx_lor {M : Mi} {d pc : Nat} {ls st : List Value} {h : Hp} {r : Option Value} {h' : Hp} {x y : Int64} (hd : decode M.2.1 pc = .ok (.lor, 1)) (K : Rx M d (pc + 1) ls (.long (x ||| y) :: st) h r h') : Rx M d pc ls (.long y :: .long x :: st) h r h' :=
  K.step (fun C _ _ hl k => lv_lor C.1 C.2.1 hd k)
theorem Rx_lxor {M : Mi} {d pc : Nat} {ls st : List Value} {h : Hp} {r : Option Value} {h' : Hp} {x y : Int64} (hd : decode M.2.1 pc = .ok (.lxor, 1)) (K : Rx M d (pc + 1) ls (.long (x ^^^ y) :: st) h r h') : Rx M d pc ls (.long y :: .long x :: st) h r h' :=
  K.step (fun C _ _ hl k => lv_lxor C.1 C.2.1 hd k)
theorem Rx_lushr {M : Mi} {d pc : Nat} {ls st : List Value} {h : Hp} {r : Option Value} {h' : Hp} {x : Int64} {y : Int32} (hd : decode M.2.1 pc = .ok (.lushr, 1)) (K : Rx M d (pc + 1) ls (.long ((x.toUInt64 >>> (y.toInt64.toUInt64 &&& Int64.toUInt64 63)).toInt64) :: st) h r h') : Rx M d pc ls (.int y :: .long x :: st) h r h' :=
  K.step (fun C _ _ hl k => lv_lushr C.1 C.2.1 hd rfl k)
theorem Rx_lcmp {M : Mi} {d pc : Nat} {ls st : List Value} {h : Hp} {r : Option Value} {h' : Hp} {x y : Int64} (hd : decode M.2.1 pc = .ok (.lcmp, 1)) (K : Rx M d (pc + 1) ls (.int (lg_cmp x y) :: st) h r h') : Rx M d pc ls (.long y :: .long x :: st) h r h' :=
  K.step (fun C _ _ hl k => W.lcmp C.1 C.2.1 hd k)
theorem Rx_ineg {M : Mi} {d pc : Nat} {ls st : List Value} {h : Hp} {r : Option Value} {h' : Hp} {x : Int32} (hd : decode M.2.1 pc = .ok (.ineg, 1)) (K : Rx M d (pc + 1) ls (.int (-x) :: st) h r h') : Rx M d pc ls (.int x :: st) h r h' :=
  K.step (fun C _ _ hl k => lv_ineg C.1 C.2.1 hd k)
theorem Rx_i2l {M : Mi} {d pc : Nat} {ls st : List Value} {h : Hp} {r : Option Value} {h' : Hp} {x : Int32} (hd : decode M.2.1 pc = .ok (.i2l, 1)) (K : Rx M d (pc + 1) ls (.long x.toInt64 :: st) h r h') : Rx M d pc ls (.int x :: st) h r h' :=
  K.step (fun C _ _ hl k => lv_i2l C.1 C.2.1 hd rfl k)
theorem Rx_l2i {M : Mi} {d pc : Nat} {ls st : List Value} {h : Hp} {r : Option Value} {h' : Hp} {x : Int64} (hd : decode M.2.1 pc = .ok (.l2i, 1)) (K : Rx M d (pc + 1) ls (.int x.toInt32 :: st) h r h') : Rx M d pc ls (.long x :: st) h r h' :=
  K.step (fun C _ _ hl k => lv_l2i C.1 C.2.1 hd rfl k)
theorem Rx_i2f {M : Mi} {d pc : Nat} {ls st : List Value} {h : Hp} {r : Option Value} {h' : Hp} {x : Int32} (hd : decode M.2.1 pc = .ok (.i2f, 1)) (K : Rx M d (pc + 1) ls (.float (FP.i2f x) :: st) h r h') : Rx M d pc ls (.int x :: st) h r h' :=
  K.step (fun C _ _ hl k => lv_i2f C.1 C.2.1 hd k)
theorem Rx_fcmp {M : Mi} {d pc : Nat} {ls st : List Value} {h : Hp} {r : Option Value} {h' : Hp} {x y : UInt32} {op : CmpOp} (hd : decode M.2.1 pc = .ok (.fcmp op, 1)) (K : Rx M d (pc + 1) ls (.int (Op.cmpValue (FP.fcmp x y) op) :: st) h r h') : Rx M d pc ls (.float y :: .float x :: st) h r h' :=
  K.step (fun C _ _ hl k => lv_fcmp C.1 C.2.1 hd k)
theorem Rx_idiv {M : Mi} {d pc : Nat} {ls st : List Value} {h : Hp} {r : Option Value} {h' : Hp} {x y : Int32} (hd : decode M.2.1 pc = .ok (.idiv, 1)) (hy : ¬ y = 0) (K : Rx M d (pc + 1) ls (.int (x / y) :: st) h r h') : Rx M d pc ls (.int y :: .int x :: st) h r h' :=
  K.step (fun C _ _ _ k => lv_idiv C.1 C.2.1 hd hy k)
theorem Rx_irem {M : Mi} {d pc : Nat} {ls st : List Value} {h : Hp} {r : Option Value} {h' : Hp} {x y : Int32} (hd : decode M.2.1 pc = .ok (.irem, 1)) (hy : ¬ y = 0) (K : Rx M d (pc + 1) ls (.int (x - x / y * y) :: st) h r h') : Rx M d pc ls (.int y :: .int x :: st) h r h' :=
  K.step (fun C _ _ _ k => lv_irem C.1 C.2.1 hd hy k)
theorem Rx_lrem {M : Mi} {d pc : Nat} {ls st : List Value} {h : Hp} {r : Option Value} {h' : Hp} {x y : Int64} (hd : decode M.2.1 pc = .ok (.lrem, 1)) (hy : ¬ y = 0) (K : Rx M d (pc + 1) ls (.long (x - x / y * y) :: st) h r h') : Rx M d pc ls (.long y :: .long x :: st) h r h' :=
  K.step (fun C _ _ _ k => lv_lrem C.1 C.2.1 hd hy k)
theorem Rx_ldiv {M : Mi} {d pc : Nat} {ls st : List Value} {h : Hp} {r : Option Value} {h' : Hp} {x y : Int64} (hd : decode M.2.1 pc = .ok (.ldiv, 1)) (hy : ¬ y = 0) (K : Rx M d (pc + 1) ls (.long (x / y) :: st) h r h') : Rx M d pc ls (.long y :: .long x :: st) h r h' :=
  K.step (fun C _ _ _ k => lv_ldiv C.1 C.2.1 hd hy k)
theorem Rx_fdiv {M : Mi} {d pc : Nat} {ls st : List Value} {h : Hp} {r : Option Value} {h' : Hp} {x y : UInt32} (hd : decode M.2.1 pc = .ok (.fdiv, 1)) (hy : vf_n32 (FP.fdiv x y)) (K : Rx M d (pc + 1) ls (.float (FP.fdiv x y) :: st) h r h') : Rx M d pc ls (.float y :: .float x :: st) h r h' :=
  K.step (fun C _ _ _ k => lv_fdiv C.1 C.2.1 hd hy k)
theorem Rx_dup {M : Mi} {d pc : Nat} {ls st : List Value} {h : Hp} {r : Option Value} {h' : Hp} {v : Value} (hd : decode M.2.1 pc = .ok (.dup, 1)) (hv : v.category = 1) (K : Rx M d (pc + 1) ls (v :: v :: st) h r h') : Rx M d pc ls (v :: st) h r h' :=
  K.step (fun {_ _ _ _ _ _ _ _ _ _ _ _ b _ _ _ _ _ _} C _ _ _ k => lv_dup C.1 C.2.1 hd ((mp_cat b v).trans hv) k)
theorem Rx_pop {M : Mi} {d pc : Nat} {ls st : List Value} {h : Hp} {r : Option Value} {h' : Hp} {v : Value} (hd : decode M.2.1 pc = .ok (.pop, 1)) (hv : v.category = 1) (K : Rx M d (pc + 1) ls st h r h') : Rx M d pc ls (v :: st) h r h' :=
  K.step (fun {_ _ _ _ _ _ _ _ _ _ _ _ b _ _ _ _ _ _} C _ _ _ k => lv_pop C.1 C.2.1 hd ((mp_cat b v).trans hv) k)
theorem Rx_dup2 {M : Mi} {d pc : Nat} {ls st : List Value} {h : Hp} {r : Option Value} {h' : Hp} {v w : Value} (hd : decode M.2.1 pc = .ok (.dup2, 1)) (hv : v.category = 1) (hw : w.category = 1) (K : Rx M d (pc + 1) ls (v :: w :: v :: w :: st) h r h') : Rx M d pc ls (v :: w :: st) h r h' :=
  K.step (fun {_ _ _ _ _ _ _ _ _ _ _ _ b _ _ _ _ _ _} C _ _ _ k => lv_dup2_11 C.1 C.2.1 hd ((mp_cat b v).trans hv) ((mp_cat b w).trans hw) k)
theorem Rx_dup_x1 {M : Mi} {d pc : Nat} {ls st : List Value} {h : Hp} {r : Option Value} {h' : Hp} {v w : Value} (hd : decode M.2.1 pc = .ok (.dup_x1, 1)) (hv : v.category = 1) (hw : w.category = 1) (K : Rx M d (pc + 1) ls (v :: w :: v :: st) h r h') : Rx M d pc ls (v :: w :: st) h r h' :=
  K.step (fun {_ _ _ _ _ _ _ _ _ _ _ _ b _ _ _ _ _ _} C _ _ _ k => lv_dup_x1 C.1 C.2.1 hd ((mp_cat b v).trans hv) ((mp_cat b w).trans hw) k)
theorem Rx_goto {M : Mi} {d pc : Nat} {ls st : List Value} {h : Hp} {r : Option Value} {h' : Hp} {off : Int} (tgt : Nat) (hd : decode M.2.1 pc = .ok (.goto off, 3)) (ht : (pc : Int) + off = (tgt : Int)) (K : Rx M d tgt ls st h r h') : Rx M d pc ls st h r h' :=
  K.step (fun C _ _ _ k => lv_goto C.1 C.2.1 hd ht k)
theorem Rx_icmp_eq_t {M : Mi} {d pc : Nat} {ls st : List Value} {h : Hp} {r : Option Value} {h' : Hp} {x y : Int32} {off : Int} (tgt : Nat) (hd : decode M.2.1 pc = .ok (.if_icmp .eq off, 3)) (ht : (pc : Int) + off = (tgt : Int)) (hc : x = y) (K : Rx M d tgt ls st h r h') : Rx M d pc ls (.int y :: .int x :: st) h r h' :=
  K.step (fun C _ _ _ k => lv_icmp_eq C.1 C.2.1 hd ht (fun _ => k) (fun z => absurd hc z))
theorem Rx_icmp_eq_f {M : Mi} {d pc : Nat} {ls st : List Value} {h : Hp} {r : Option Value} {h' : Hp} {x y : Int32} {off : Int} (tgt : Nat) (hd : decode M.2.1 pc = .ok (.if_icmp .eq off, 3)) (ht : (pc : Int) + off = (tgt : Int)) (hc : ¬ x = y) (K : Rx M d (pc + 3) ls st h r h') : Rx M d pc ls (.int y :: .int x :: st) h r h' :=
  K.step (fun C _ _ _ k => lv_icmp_eq C.1 C.2.1 hd ht (fun z => absurd z hc) (fun _ => k))
theorem Rx_if_eq_t {M : Mi} {d pc : Nat} {ls st : List Value} {h : Hp} {r : Option Value} {h' : Hp} {x : Int32} {off : Int} (tgt : Nat) (hd : decode M.2.1 pc = .ok (.ifCond .eq off, 3)) (ht : (pc : Int) + off = (tgt : Int)) (hc : x = 0) (K : Rx M d tgt ls st h r h') : Rx M d pc ls (.int x :: st) h r h' :=
  K.step (fun C _ _ _ k => lv_if_eq C.1 C.2.1 hd ht (fun _ => k) (fun z => absurd hc z))
theorem Rx_if_eq_f {M : Mi} {d pc : Nat} {ls st : List Value} {h : Hp} {r : Option Value} {h' : Hp} {x : Int32} {off : Int} (tgt : Nat) (hd : decode M.2.1 pc = .ok (.ifCond .eq off, 3)) (ht : (pc : Int) + off = (tgt : Int)) (hc : ¬ x = 0) (K : Rx M d (pc + 3) ls st h r h') : Rx M d pc ls (.int x :: st) h r h' :=
  K.step (fun C _ _ _ k => lv_if_eq C.1 C.2.1 hd ht (fun z => absurd z hc) (fun _ => k))
theorem Rx_icmp_ne_t {M : Mi} {d pc : Nat} {ls st : List Value} {h : Hp} {r : Option Value} {h' : Hp} {x y : Int32} {off : Int} (tgt : Nat) (hd : decode M.2.1 pc = .ok (.if_icmp .ne off, 3)) (ht : (pc : Int) + off = (tgt : Int)) (hc : ¬ x = y) (K : Rx M d tgt ls st h r h') : Rx M d pc ls (.int y :: .int x :: st) h r h' :=
  K.step (fun C _ _ _ k => lv_icmp_ne C.1 C.2.1 hd ht (fun _ => k) (fun z => absurd z hc))
theorem Rx_icmp_ne_f {M : Mi} {d pc : Nat} {ls st : List Value} {h : Hp} {r : Option Value} {h' : Hp} {x y : Int32} {off : Int} (tgt : Nat) (hd : decode M.2.1 pc = .ok (.if_icmp .ne off, 3)) (ht : (pc : Int) + off = (tgt : Int)) (hc : x = y) (K : Rx M d (pc + 3) ls st h r h') : Rx M d pc ls (.int y :: .int x :: st) h r h' :=
  K.step (fun C _ _ _ k => lv_icmp_ne C.1 C.2.1 hd ht (fun z => absurd hc z) (fun _ => k))
theorem Rx_if_ne_t {M : Mi} {d pc : Nat} {ls st : List Value} {h : Hp} {r : Option Value} {h' : Hp} {x : Int32} {off : Int} (tgt : Nat) (hd : decode M.2.1 pc = .ok (.ifCond .ne off, 3)) (ht : (pc : Int) + off = (tgt : Int)) (hc : ¬ x = 0) (K : Rx M d tgt ls st h r h') : Rx M d pc ls (.int x :: st) h r h' :=
  K.step (fun C _ _ _ k => lv_if_ne C.1 C.2.1 hd ht (fun _ => k) (fun z => absurd z hc))
theorem Rx_if_ne_f {M : Mi} {d pc : Nat} {ls st : List Value} {h : Hp} {r : Option Value} {h' : Hp} {x : Int32} {off : Int} (tgt : Nat) (hd : decode M.2.1 pc = .ok (.ifCond .ne off, 3)) (ht : (pc : Int) + off = (tgt : Int)) (hc : x = 0) (K : Rx M d (pc + 3) ls st h r h') : Rx M d pc ls (.int x :: st) h r h' :=
  K.step (fun C _ _ _ k => lv_if_ne C.1 C.2.1 hd ht (fun z => absurd hc z) (fun _ => k))
theorem Rx_icmp_lt_t {M : Mi} {d pc : Nat} {ls st : List Value} {h : Hp} {r : Option Value} {h' : Hp} {x y : Int32} {off : Int} (tgt : Nat) (hd : decode M.2.1 pc = .ok (.if_icmp .lt off, 3)) (ht : (pc : Int) + off = (tgt : Int)) (hc : x < y) (K : Rx M d tgt ls st h r h') : Rx M d pc ls (.int y :: .int x :: st) h r h' :=
  K.step (fun C _ _ _ k => lv_icmp_lt C.1 C.2.1 hd ht (fun _ => k) (fun z => absurd hc z))
theorem Rx_icmp_lt_f {M : Mi} {d pc : Nat} {ls st : List Value} {h : Hp} {r : Option Value} {h' : Hp} {x y : Int32} {off : Int} (tgt : Nat) (hd : decode M.2.1 pc = .ok (.if_icmp .lt off, 3)) (ht : (pc : Int) + off = (tgt : Int)) (hc : ¬ x < y) (K : Rx M d (pc + 3) ls st h r h') : Rx M d pc ls (.int y :: .int x :: st) h r h' :=
  K.step (fun C _ _ _ k => lv_icmp_lt C.1 C.2.1 hd ht (fun z => absurd z hc) (fun _ => k))
theorem Rx_if_lt_t {M : Mi} {d pc : Nat} {ls st : List Value} {h : Hp} {r : Option Value} {h' : Hp} {x : Int32} {off : Int} (tgt : Nat) (hd : decode M.2.1 pc = .ok (.ifCond .lt off, 3)) (ht : (pc : Int) + off = (tgt : Int)) (hc : x < 0) (K : Rx M d tgt ls st h r h') : Rx M d pc ls (.int x :: st) h r h' :=
  K.step (fun C _ _ _ k => lv_if_lt C.1 C.2.1 hd ht (fun _ => k) (fun z => absurd hc z))
theorem Rx_if_lt_f {M : Mi} {d pc : Nat} {ls st : List Value} {h : Hp} {r : Option Value} {h' : Hp} {x : Int32} {off : Int} (tgt : Nat) (hd : decode M.2.1 pc = .ok (.ifCond .lt off, 3)) (ht : (pc : Int) + off = (tgt : Int)) (hc : ¬ x < 0) (K : Rx M d (pc + 3) ls st h r h') : Rx M d pc ls (.int x :: st) h r h' :=
  K.step (fun C _ _ _ k => lv_if_lt C.1 C.2.1 hd ht (fun z => absurd z hc) (fun _ => k))
theorem Rx_icmp_ge_t {M : Mi} {d pc : Nat} {ls st : List Value} {h : Hp} {r : Option Value} {h' : Hp} {x y : Int32} {off : Int} (tgt : Nat) (hd : decode M.2.1 pc = .ok (.if_icmp .ge off, 3)) (ht : (pc : Int) + off = (tgt : Int)) (hc : y ≤ x) (K : Rx M d tgt ls st h r h') : Rx M d pc ls (.int y :: .int x :: st) h r h' :=
  K.step (fun C _ _ _ k => lv_icmp_ge C.1 C.2.1 hd ht (fun _ => k) (fun z => absurd hc z))
theorem Rx_icmp_ge_f {M : Mi} {d pc : Nat} {ls st : List Value} {h : Hp} {r : Option Value} {h' : Hp} {x y : Int32} {off : Int} (tgt : Nat) (hd : decode M.2.1 pc = .ok (.if_icmp .ge off, 3)) (ht : (pc : Int) + off = (tgt : Int)) (hc : ¬ y ≤ x) (K : Rx M d (pc + 3) ls st h r h') : Rx M d pc ls (.int y :: .int x :: st) h r h' :=
  K.step (fun C _ _ _ k => lv_icmp_ge C.1 C.2.1 hd ht (fun z => absurd z hc) (fun _ => k))
theorem Rx_if_ge_t {M : Mi} {d pc : Nat} {ls st : List Value} {h : Hp} {r : Option Value} {h' : Hp} {x : Int32} {off : Int} (tgt : Nat) (hd : decode M.2.1 pc = .ok (.ifCond .ge off, 3)) (ht : (pc : Int) + off = (tgt : Int)) (hc : 0 ≤ x) (K : Rx M d tgt ls st h r h') : Rx M d pc ls (.int x :: st) h r h' :=
  K.step (fun C _ _ _ k => lv_if_ge C.1 C.2.1 hd ht (fun _ => k) (fun z => absurd hc z))
theorem Rx_if_ge_f {M : Mi} {d pc : Nat} {ls st : List Value} {h : Hp} {r : Option Value} {h' : Hp} {x : Int32} {off : Int} (tgt : Nat) (hd : decode M.2.1 pc = .ok (.ifCond .ge off, 3)) (ht : (pc : Int) + off = (tgt : Int)) (hc : ¬ 0 ≤ x) (K : Rx M d (pc + 3) ls st h r h') : Rx M d pc ls (.int x :: st) h r h' :=
  K.step (fun C _ _ _ k => lv_if_ge C.1 C.2.1 hd ht (fun z => absurd z hc) (fun _ => k))
theorem Rx_icmp_gt_t {M : Mi} {d pc : Nat} {ls st : List Value} {h : Hp} {r : Option Value} {h' : Hp} {x y : Int32} {off : Int} (tgt : Nat) (hd : decode M.2.1 pc = .ok (.if_icmp .gt off, 3)) (ht : (pc : Int) + off = (tgt : Int)) (hc : y < x) (K : Rx M d tgt ls st h r h') : Rx M d pc ls (.int y :: .int x :: st) h r h' :=
  K.step (fun C _ _ _ k => lv_icmp_gt C.1 C.2.1 hd ht (fun _ => k) (fun z => absurd hc z))
theorem Rx_icmp_gt_f {M : Mi} {d pc : Nat} {ls st : List Value} {h : Hp} {r : Option Value} {h' : Hp} {x y : Int32} {off : Int} (tgt : Nat) (hd : decode M.2.1 pc = .ok (.if_icmp .gt off, 3)) (ht : (pc : Int) + off = (tgt : Int)) (hc : ¬ y < x) (K : Rx M d (pc + 3) ls st h r h') : Rx M d pc ls (.int y :: .int x :: st) h r h' :=
  K.step (fun C _ _ _ k => lv_icmp_gt C.1 C.2.1 hd ht (fun z => absurd z hc) (fun _ => k))
theorem Rx_if_gt_t {M : Mi} {d pc : Nat} {ls st : List Value} {h : Hp} {r : Option Value} {h' : Hp} {x : Int32} {off : Int} (tgt : Nat) (hd : decode M.2.1 pc = .ok (.ifCond .gt off, 3)) (ht : (pc : Int) + off = (tgt : Int)) (hc : 0 < x) (K : Rx M d tgt ls st h r h') : Rx M d pc ls (.int x :: st) h r h' :=
  K.step (fun C _ _ _ k => lv_if_gt C.1 C.2.1 hd ht (fun _ => k) (fun z => absurd hc z))
theorem Rx_if_gt_f {M : Mi} {d pc : Nat} {ls st : List Value} {h : Hp} {r : Option Value} {h' : Hp} {x : Int32} {off : Int} (tgt : Nat) (hd : decode M.2.1 pc = .ok (.ifCond .gt off, 3)) (ht : (pc : Int) + off = (tgt : Int)) (hc : ¬ 0 < x) (K : Rx M d (pc + 3) ls st h r h') : Rx M d pc ls (.int x :: st) h r h' :=
  K.step (fun C _ _ _ k => lv_if_gt C.1 C.2.1 hd ht (fun z => absurd z hc) (fun _ => k))
theorem Rx_icmp_le_t {M : Mi} {d pc : Nat} {ls st : List Value} {h : Hp} {r : Option Value} {h' : Hp} {x y : Int32} {off : Int} (tgt : Nat) (hd : decode M.2.1 pc = .ok (.if_icmp .le off, 3)) (ht : (pc : Int) + off = (tgt : Int)) (hc : x ≤ y) (K : Rx M d tgt ls st h r h') : Rx M d pc ls (.int y :: .int x :: st) h r h' :=
  K.step (fun C _ _ _ k => lv_icmp_le C.1 C.2.1 hd ht (fun _ => k) (fun z => absurd hc z))
theorem Rx_icmp_le_f {M : Mi} {d pc : Nat} {ls st : List Value} {h : Hp} {r : Option Value} {h' : Hp} {x y : Int32} {off : Int} (tgt : Nat) (hd : decode M.2.1 pc = .ok (.if_icmp .le off, 3)) (ht : (pc : Int) + off = (tgt : Int)) (hc : ¬ x ≤ y) (K : Rx M d (pc + 3) ls st h r h') : Rx M d pc ls (.int y :: .int x :: st) h r h' :=
  K.step (fun C _ _ _ k => lv_icmp_le C.1 C.2.1 hd ht (fun z => absurd z hc) (fun _ => k))
theorem Rx_if_le_t {M : Mi} {d pc : Nat} {ls st : List Value} {h : Hp} {r : Option Value} {h' : Hp} {x : Int32} {off : Int} (tgt : Nat) (hd : decode M.2.1 pc = .ok (.ifCond .le off, 3)) (ht : (pc : Int) + off = (tgt : Int)) (hc : x ≤ 0) (K : Rx M d tgt ls st h r h') : Rx M d pc ls (.int x :: st) h r h' :=
  K.step (fun C _ _ _ k => lv_if_le C.1 C.2.1 hd ht (fun _ => k) (fun z => absurd hc z))
theorem Rx_if_le_f {M : Mi} {d pc : Nat} {ls st : List Value} {h : Hp} {r : Option Value} {h' : Hp} {x : Int32} {off : Int} (tgt : Nat) (hd : decode M.2.1 pc = .ok (.ifCond .le off, 3)) (ht : (pc : Int) + off = (tgt : Int)) (hc : ¬ x ≤ 0) (K : Rx M d (pc + 3) ls st h r h') : Rx M d pc ls (.int x :: st) h r h' :=
  K.step (fun C _ _ _ k => lv_if_le C.1 C.2.1 hd ht (fun z => absurd z hc) (fun _ => k))
theorem Rx_ifnull {M : Mi} {d pc : Nat} {ls st : List Value} {h : Hp} {r : Option Value} {h' : Hp} {a : Nat} {off : Int} (hd : decode M.2.1 pc = .ok (.ifnull off, 3)) (K : Rx M d (pc + 3) ls st h r h') : Rx M d pc ls (.ref a :: st) h r h' :=
  K.step (fun C _ _ _ k => lv_ifnull C.1 C.2.1 hd k)
end
section
/-! rules of the heap -/
theorem lat_eq (fs : List Value) (k : Nat) : lat fs k = fs[k]? := by
  induction fs generalizing k with
  | nil => simp [lat]
  | cons a l ih => cases k <;> simp [lat, ih]
theorem lse_eq (fs : List Value) (k : Nat) (v : Value) : lse fs k v = fs.set k v := by
  induction fs generalizing k with
  | nil => simp [lse]
  | cons a l ih => cases k <;> simp [lse, ih]
theorem lse_len (fs : List Value) (k : Nat) (v : Value) : (lse fs k v).length = fs.length := by rw [lse_eq, List.length_set]
theorem cl_in0 : ∀ q ∈ vwCl, ∀ w ∈ u_ws q.1 q.2.1 q.2.2, w ∈ gtbl := by
  refine List.forall_mem_cons.mpr ⟨by decide +kernel, List.forall_mem_cons.mpr ⟨by decide +kernel, List.forall_mem_cons.mpr ⟨by decide +kernel, List.forall_mem_cons.mpr ⟨by decide +kernel, List.forall_mem_cons.mpr ⟨by decide +kernel, List.forall_mem_cons.mpr ⟨by decide +kernel, List.forall_mem_cons.mpr ⟨by decide +kernel, List.forall_mem_cons.mpr ⟨by decide +kernel, List.forall_mem_cons.mpr ⟨by decide +kernel, List.forall_mem_cons.mpr ⟨by decide +kernel, fun _ h => absurd h List.not_mem_nil⟩⟩⟩⟩⟩⟩⟩⟩⟩⟩
theorem cl_in {ci : Nat} {q : vw_C} (h : vwCl[ci]? = some q) : ∀ w ∈ u_ws q.1 q.2.1 q.2.2, w ∈ gtbl := cl_in0 q (List.mem_of_getElem? h)
theorem cl_ty0 : ∀ q ∈ vwCl, (∃ ty0 : Nat → FieldType, ∀ k, k < q.2.2 → parseFieldDescriptor (q.2.1 k).2.2.1 = some (ty0 k)) ∧ (∀ a, a < q.2.2 → ∀ b, b < q.2.2 → a ≠ b → (q.2.1 a).2.1 ≠ (q.2.1 b).2.1) := by
  refine List.forall_mem_cons.mpr ⟨⟨⟨tyX0, tyX0_ok⟩, nmX0⟩, List.forall_mem_cons.mpr ⟨⟨⟨tyX1, tyX1_ok⟩, nmX1⟩, List.forall_mem_cons.mpr ⟨⟨⟨tyX2, tyX2_ok⟩, nmX2⟩, List.forall_mem_cons.mpr ⟨⟨⟨tyX3, tyX3_ok⟩, nmX3⟩, List.forall_mem_cons.mpr ⟨⟨⟨tyX4, tyX4_ok⟩, nmX4⟩, List.forall_mem_cons.mpr ⟨⟨⟨tyX5, tyX5_ok⟩, nmX5⟩, List.forall_mem_cons.mpr ⟨⟨⟨tyX6, tyX6_ok⟩, nmX6⟩, List.forall_mem_cons.mpr ⟨⟨⟨tyX7, tyX7_ok⟩, nmX7⟩, List.forall_mem_cons.mpr ⟨⟨⟨tyX8, tyX8_ok⟩, nmX8⟩, List.forall_mem_cons.mpr ⟨⟨⟨tyX9, tyX9_ok⟩, nmX9⟩, fun _ h => absurd h List.not_mem_nil⟩⟩⟩⟩⟩⟩⟩⟩⟩⟩
theorem cl_ty {ci : Nat} {q : vw_C} (h : vwCl[ci]? = some q) : (∃ ty0 : Nat → FieldType, ∀ k, k < q.2.2 → parseFieldDescriptor (q.2.1 k).2.2.1 = some (ty0 k)) ∧ (∀ a, a < q.2.2 → ∀ b, b < q.2.2 → a ≠ b → (q.2.1 a).2.1 ≠ (q.2.1 b).2.1) := cl_ty0 q (List.mem_of_getElem? h)
def FL (own : String) (idx ci k : Nat) : Prop := ∃ q : vw_C, vwCl[ci]? = some q ∧ k < q.2.2 ∧ (Cond.fieldLink own idx (q.2.1 k).1 (q.2.1 k).2.1 (q.2.1 k).2.2.1 ∈ gtbl ∨ ∃ host, Cond.fieldLinkNest own idx (q.2.1 k).1 (q.2.1 k).2.1 (q.2.1 k).2.2.1 host ∈ lw_tbl)
def FP (own : String) (idx ci k : Nat) (ty : FieldType) : Prop := ∃ q : vw_C, vwCl[ci]? = some q ∧ k < q.2.2 ∧ (q.2.1 k).2.2.2 = false ∧ parseFieldDescriptor (q.2.1 k).2.2.1 = some ty ∧ (Cond.fieldLink own idx (q.2.1 k).1 (q.2.1 k).2.1 (q.2.1 k).2.2.1 ∈ gtbl ∨ ∃ host, Cond.fieldLinkNest own idx (q.2.1 k).1 (q.2.1 k).2.1 (q.2.1 k).2.2.1 host ∈ lw_tbl)
def FF (own : String) (idx ci k : Nat) (ty : FieldType) : Prop := ∃ q : vw_C, vwCl[ci]? = some q ∧ k < q.2.2 ∧ (q.2.1 k).2.2.2 = true ∧ (q.2.1 k).1 = own ∧ parseFieldDescriptor (q.2.1 k).2.2.1 = some ty ∧ Cond.fieldLink own idx (q.2.1 k).1 (q.2.1 k).2.1 (q.2.1 k).2.2.1 ∈ gtbl
def okv (ty : FieldType) (v : Value) : Prop := ∀ b, narrow ty (mp b v) = mp b v ∧ fits ty (mp b v) = true
theorem okv_i (x : Int32) : okv .int (.int x) := fun _ => ⟨rfl, rfl⟩
theorem okv_z (x : Int32) (h1 : narrow .boolean (.int x) = .int x) (h2 : fits .boolean (.int x) = true) : okv .boolean (.int x) := fun _ => ⟨h1, h2⟩
theorem okv_0 : okv .boolean (.int 0) := okv_z 0 (by decide +kernel) (by decide +kernel)
theorem okv_1 : okv .boolean (.int 1) := okv_z 1 (by decide +kernel) (by decide +kernel)
theorem okv_a (t : FieldType) (a : Nat) : okv (.array t) (.ref a) := fun _ => ⟨rfl, rfl⟩
theorem okv_o (C : String) (a : Nat) : okv (.object C) (.ref a) := fun _ => ⟨rfl, rfl⟩
section RULES
variable {M : Mi} {d pc : Nat} {ls st : List Value} {h : Hp} {r : Option Value} {h' : Hp}
theorem Rx_get {idx ci k a : Nat} {fs : List Value} {v : Value} (hd : decode M.2.1 pc = .ok (.getfield idx, 3)) (hl : FL M.1.cls idx ci k) (hh : h[a]? = some (.inr (ci, fs))) (hv : lat fs k = some v) (K : Rx M d (pc + 3) ls (v :: st) h r h') : Rx M d pc ls (.ref a :: st) h r h' := by
  refine K.step (fun {_ _ _ _ _ _ _ _ _ _ D cA b _ _ _ _ _ _} C _ w _ k0 => ?_)
  obtain ⟨q, hq, hk, hlink⟩ := hl
  obtain ⟨c1, c2, c3, c4, c5, c6, c7, c8, c9, c10⟩ := C
  have hv' : (fs.map (mp b))[k]? = some (mp b v) := by rw [lat_eq] at hv; simp [hv]
  have he : (wz cA b h)[a]? = some (b + a, .inr (ci, fs.map (mp b))) := wz_at hh
  rcases hlink with hlink | ⟨host, hlink⟩
  · exact va_get (ci := ci) c1 c2 c8 (cl_in hq) c7 c9 w.1 a he hq k hk (c8 _ hlink) (fun _ z => z) hv' hd k0
  · exact va_getN (ci := ci) c1 c2 c8 (cl_in hq) c7 c9 w.1 a he hq k hk (va_Nw.use rfl (c10.1 _ hlink rfl)) (fun _ z => z) hv' hd k0
theorem Rx_put {idx ci k a : Nat} {fs : List Value} {v : Value} {ty : FieldType} (fs' : List Value) (hd : decode M.2.1 pc = .ok (.putfield idx, 3)) (hl : FP M.1.cls idx ci k ty) (hh : h[a]? = some (.inr (ci, fs))) (hkl : Nat.ble (k + 1) fs.length = true) (hv : okv ty v) (hs : lse fs k v = fs') (K : Rx M d (pc + 3) ls st (h.set a (.inr (ci, fs'))) r h') : Rx M d pc ls (v :: .ref a :: st) h r h' := by
  subst hs
  refine Rx.stepH (e1 := .inr (ci, lse fs k v)) hh (lse_len fs k v) K (fun {_ _ _ _ _ _ _ _ _ _ D cA b _ _ _ _ _ _} C _ _ hP hD hS k0 => ?_)
  obtain ⟨q, hq, hk, hfin, hty, hlink⟩ := hl
  obtain ⟨c1, c2, c3, c4, c5, c6, c7, c8, c9, c10⟩ := C
  obtain ⟨⟨ty0, hty0⟩, hnm⟩ := cl_ty hq
  have he : (wz cA b h)[a]? = some (b + a, .inr (ci, fs.map (mp b))) := wz_at hh
  have em : mE cA b (.inr (ci, lse fs k v)) = .inr (ci, (fs.map (mp b)).set k (mp b v)) := by rw [lse_eq]; simp [mE, List.map_set]
  rw [em] at k0
  have hkl' : k < (fs.map (mp b)).length := by rw [List.length_map]; exact Nat.le_of_ble_eq_true hkl
  rcases hlink with hlink | ⟨host, hlink⟩
  · exact va_put (ci := ci) c1 c2 c8 (cl_in hq) ty0 hty0 hnm c7 c9 hP hD hS a he hq k hk (c8 _ hlink) (fun _ z => z) hfin hty (hv b).1 (hv b).2 hkl' hd k0
  · exact va_putN (ci := ci) c1 c2 c8 (cl_in hq) ty0 hty0 hnm c7 c9 hP hD hS a he hq k hk (va_Nw.use rfl (c10.1 _ hlink rfl)) (fun _ z => z) hfin hty (hv b).1 (hv b).2 hkl' hd k0
theorem Rx_putF {idx ci k a : Nat} {fs : List Value} {v : Value} {ty : FieldType} (fs' : List Value) (hd : decode M.2.1 pc = .ok (.putfield idx, 3)) (hl : FF M.1.cls idx ci k ty) (hi : M.1.name = "<init>") (hh : h[a]? = some (.inr (ci, fs))) (hkl : Nat.ble (k + 1) fs.length = true) (hv : okv ty v) (hs : lse fs k v = fs') (K : Rx M d (pc + 3) ls st (h.set a (.inr (ci, fs'))) r h') : Rx M d pc ls (v :: .ref a :: st) h r h' := by
  subst hs
  refine Rx.stepH (e1 := .inr (ci, lse fs k v)) hh (lse_len fs k v) K (fun {_ _ _ _ _ _ _ _ _ _ D cA b _ _ _ _ _ _} C _ _ hP hD hS k0 => ?_)
  obtain ⟨q, hq, hk, hfin, hown, hty, hlink⟩ := hl
  obtain ⟨c1, c2, c3, c4, c5, c6, c7, c8, c9, c10⟩ := C
  obtain ⟨⟨ty0, hty0⟩, hnm⟩ := cl_ty hq
  have he : (wz cA b h)[a]? = some (b + a, .inr (ci, fs.map (mp b))) := wz_at hh
  have em : mE cA b (.inr (ci, lse fs k v)) = .inr (ci, (fs.map (mp b)).set k (mp b v)) := by rw [lse_eq]; simp [mE, List.map_set]
  rw [em] at k0
  have hkl' : k < (fs.map (mp b)).length := by rw [List.length_map]; exact Nat.le_of_ble_eq_true hkl
  exact va_putF (ci := ci) c1 c2 c8 (cl_in hq) ty0 hty0 hnm c7 c9 hP hD hS a he hq k hk (c8 _ hlink) (fun _ z => z) hfin (c6.trans hi) hown hty (hv b).1 (hv b).2 hkl' hd k0
theorem Rx_iald {a n : Nat} {f : Nat → Int32} {i : Int32} (j : Nat) (hd : decode M.2.1 pc = .ok (.iaload, 1)) (hh : h[a]? = some (aI n f)) (hj : j < n) (hn : n < 2 ^ 31) (hi : i = nI j) (K : Rx M d (pc + 1) ls (.int (f j) :: st) h r h') : Rx M d pc ls (.int i :: .ref a :: st) h r h' := by
  subst hi
  refine K.step (fun {_ _ _ _ _ _ _ _ _ _ D cA b _ _ _ _ _ _} C _ w _ k0 => ?_)
  have he : (wz cA b h)[a]? = some (b + a, .inl (cA 0, n, .inl f)) := wz_at hh
  refine va_iald C.1 C.2.1 C.2.2.2.2.2.2.2.2.1 w.1 a 0 he rfl (vp_in_nI hj hn) hd ?_
  rw [nI_clamp (Nat.lt_trans hj hn)]
  exact k0
theorem Rx_lald {a n : Nat} {f : Nat → Int64} {i : Int32} (j : Nat) (hd : decode M.2.1 pc = .ok (.laload, 1)) (hh : h[a]? = some (aL n f)) (hj : j < n) (hn : n < 2 ^ 31) (hi : i = nI j) (K : Rx M d (pc + 1) ls (.long (f j) :: st) h r h') : Rx M d pc ls (.int i :: .ref a :: st) h r h' := by
  subst hi
  refine K.step (fun {_ _ _ _ _ _ _ _ _ _ D cA b _ _ _ _ _ _} C _ w _ k0 => ?_)
  have he : (wz cA b h)[a]? = some (b + a, .inl (cA 1, n, .inr (.inl f))) := wz_at hh
  refine va_lald C.1 C.2.1 C.2.2.2.2.2.2.2.2.1 w.1 a 1 he rfl (vp_in_nI hj hn) hd ?_
  rw [nI_clamp (Nat.lt_trans hj hn)]
  exact k0
theorem Rx_aald {a n q : Nat} {f : Nat → Option Nat} {i : Int32} (j : Nat) (hd : decode M.2.1 pc = .ok (.aaload, 1)) (hh : h[a]? = some (aS n f)) (hj : j < n) (hn : n < 2 ^ 31) (hi : i = nI j) (hf : f j = some q) (K : Rx M d (pc + 1) ls (.ref q :: st) h r h') : Rx M d pc ls (.int i :: .ref a :: st) h r h' := by
  subst hi
  refine K.step (fun {_ _ _ _ _ _ _ _ _ _ D cA b _ _ _ _ _ _} C _ w _ k0 => ?_)
  have he : (wz cA b h)[a]? = some (b + a, .inl (cA 2, n, .inr (.inr (.inr (.inr (fun i => (f i).map (fun a => b + a))))))) := wz_at hh
  refine va_aldq (C := RX6) C.1 C.2.1 C.2.2.2.2.2.2.2.2.1 w.1 a 2 he rfl (vp_in_nI hj hn) hd ?_
  rw [nI_clamp (Nat.lt_trans hj hn)]
  simp only [hf, Option.map_some]
  exact k0
theorem Rx_iast {a n : Nat} {f : Nat → Int32} {i x : Int32} (j : Nat) (hd : decode M.2.1 pc = .ok (.iastore, 1)) (hh : h[a]? = some (aI n f)) (hj : j < n) (hn : n < 2 ^ 31) (hi : i = nI j) (K : Rx M d (pc + 1) ls st (h.set a (aI n (upd f j x))) r h') : Rx M d pc ls (.int x :: .int i :: .ref a :: st) h r h' := by
  subst hi
  refine Rx.stepH (e1 := aI n (upd f j x)) hh rfl K (fun {_ _ _ _ _ _ _ _ _ _ D cA b _ _ _ _ _ _} C _ _ hP hD hS k0 => ?_)
  have he : (wz cA b h)[a]? = some (b + a, .inl (cA 0, n, .inl f)) := wz_at hh
  refine va_iast C.1 C.2.1 C.2.2.2.2.2.2.2.2.1 hP hD hS a 0 he rfl (vp_in_nI hj hn) hd ?_
  rw [nI_clamp (Nat.lt_trans hj hn)]
  exact k0
theorem Rx_last {a n : Nat} {f : Nat → Int64} {i : Int32} {x : Int64} (j : Nat) (hd : decode M.2.1 pc = .ok (.lastore, 1)) (hh : h[a]? = some (aL n f)) (hj : j < n) (hn : n < 2 ^ 31) (hi : i = nI j) (K : Rx M d (pc + 1) ls st (h.set a (aL n (vp_updL f j x))) r h') : Rx M d pc ls (.long x :: .int i :: .ref a :: st) h r h' := by
  subst hi
  refine Rx.stepH (e1 := aL n (vp_updL f j x)) hh rfl K (fun {_ _ _ _ _ _ _ _ _ _ D cA b _ _ _ _ _ _} C _ _ hP hD hS k0 => ?_)
  have he : (wz cA b h)[a]? = some (b + a, .inl (cA 1, n, .inr (.inl f))) := wz_at hh
  refine va_last C.1 C.2.1 C.2.2.2.2.2.2.2.2.1 hP hD hS a 1 he rfl (vp_in_nI hj hn) hd ?_
  rw [nI_clamp (Nat.lt_trans hj hn)]
  exact k0
theorem Rx_aast {a n v : Nat} {f : Nat → Option Nat} {i : Int32} {vs : List Value} (j : Nat) (hd : decode M.2.1 pc = .ok (.aastore, 1)) (hh : h[a]? = some (aS n f)) (hj : j < n) (hn : n < 2 ^ 31) (hi : i = nI j) (hv : h[v]? = some (.inr (6, vs))) (K : Rx M d (pc + 1) ls st (h.set a (aS n (va_up f j (some v)))) r h') : Rx M d pc ls (.ref v :: .int i :: .ref a :: st) h r h' := by
  subst hi
  refine Rx.stepH (e1 := aS n (va_up f j (some v))) hh rfl K (fun {_ _ _ _ _ _ _ _ _ _ D cA b _ _ _ _ _ _} C _ _ hP hD hS k0 => ?_)
  have he : (wz cA b h)[a]? = some (b + a, .inl (cA 2, n, .inr (.inr (.inr (.inr (fun i => (f i).map (fun a => b + a))))))) := wz_at hh
  have hv' : (wz cA b h)[v]? = some (b + v, .inr (6, vs.map (mp b))) := wz_at hv
  refine va_astq (r := (RX6, TX6, 4)) C.1 C.2.1 C.2.2.2.2.2.2.2.2.1 hP hD hS a 2 v 6 he rfl hv' rfl (vp_in_nI hj hn) hd ?_
  rw [nI_clamp (Nat.lt_trans hj hn)]
  have ef : (fun i => (va_up f j (some v) i).map (fun a => b + a)) = va_up (fun i => (f i).map (fun a => b + a)) j (some (b + v)) := by
    funext z
    by_cases hz : z = j <;> simp [va_up, hz]
  have em : mE cA b (aS n (va_up f j (some v))) = .inl (cA 2, n, .inr (.inr (.inr (.inr (va_up (fun i => (f i).map (fun a => b + a)) j (some (b + v))))))) := by rw [← ef]; rfl
  rw [em] at k0
  exact k0
theorem Rx_alenI {a n : Nat} {f : Nat → Int32} (hd : decode M.2.1 pc = .ok (.arraylength, 1)) (hh : h[a]? = some (aI n f)) (K : Rx M d (pc + 1) ls (.int (nI n) :: st) h r h') : Rx M d pc ls (.ref a :: st) h r h' := by
  refine K.step (fun {_ _ _ _ _ _ _ _ _ _ D cA b _ _ _ _ _ _} C _ w _ k0 => ?_)
  have he : (wz cA b h)[a]? = some (b + a, .inl (cA 0, n, .inl f)) := wz_at hh
  exact va_alen C.1 C.2.1 C.2.2.2.2.2.2.2.2.1 w.1 a 0 he rfl rfl hd k0
theorem Rx_alenL {a n : Nat} {f : Nat → Int64} (hd : decode M.2.1 pc = .ok (.arraylength, 1)) (hh : h[a]? = some (aL n f)) (K : Rx M d (pc + 1) ls (.int (nI n) :: st) h r h') : Rx M d pc ls (.ref a :: st) h r h' := by
  refine K.step (fun {_ _ _ _ _ _ _ _ _ _ D cA b _ _ _ _ _ _} C _ w _ k0 => ?_)
  have he : (wz cA b h)[a]? = some (b + a, .inl (cA 1, n, .inr (.inl f))) := wz_at hh
  exact va_alen C.1 C.2.1 C.2.2.2.2.2.2.2.2.1 w.1 a 1 he rfl rfl hd k0
theorem Rx_newI {i : Int32} (n : Nat) (hd : decode M.2.1 pc = .ok (.newarray .int, 2)) (hw : Cond.arrayClass .int ∈ gtbl) (hi : i = nI n) (hn : n * 4 ≤ 536870912) (K : Rx M d (pc + 2) ls (.ref h.length :: st) (h ++ [aI n (fun _ => 0)]) r h') : Rx M d pc ls (.int i :: st) h r h' := by
  subst hi
  refine Rx.stepN (e1 := aI n (fun _ => 0)) K (fun {_ _ _ _ _ _ _ _ _ _ D cA b _ _ _ _ _ _} C _ hc hs hP hD hS hA k0 => ?_)
  obtain ⟨c1, c2, c3, c4, c5, c6, c7, c8, c9, c10⟩ := C
  refine va_newa (atype := .int) (ty := .int) (N' := n) (a0 := (n, .inl (fun _ => 0))) c1 c2 (c8 _ hw) rfl c9 hP hD hS hA (fun _ => rfl) (nI_pos (by omega)) (nI_clamp (by omega)) hn hc hs hd (fun q cB H1 hK1 hP1 hD1 hS1 => ?_)
  have e : cB = cA 0 := by
    have h1 : _ = some cB := (hK1.2 3 _ rfl).2
    have h2 : _ = some (cA 0) := (c9.2 0 _ rfl).2
    exact Option.some.inj (h1.symm.trans h2)
  subst e
  exact k0 q H1 hP1 hD1 hS1
theorem Rx_newL {i : Int32} (n : Nat) (hd : decode M.2.1 pc = .ok (.newarray .long, 2)) (hw : Cond.arrayClass .long ∈ gtbl) (hi : i = nI n) (hn : n * 8 ≤ 536870912) (K : Rx M d (pc + 2) ls (.ref h.length :: st) (h ++ [aL n (fun _ => 0)]) r h') : Rx M d pc ls (.int i :: st) h r h' := by
  subst hi
  refine Rx.stepN (e1 := aL n (fun _ => 0)) K (fun {_ _ _ _ _ _ _ _ _ _ D cA b _ _ _ _ _ _} C _ hc hs hP hD hS hA k0 => ?_)
  obtain ⟨c1, c2, c3, c4, c5, c6, c7, c8, c9, c10⟩ := C
  refine va_newa (atype := .long) (ty := .long) (N' := n) (a0 := (n, .inr (.inl (fun _ => 0)))) c1 c2 (c8 _ hw) rfl c9 hP hD hS hA (fun _ => rfl) (nI_pos (by omega)) (nI_clamp (by omega)) hn hc hs hd (fun q cB H1 hK1 hP1 hD1 hS1 => ?_)
  have e : cB = cA 1 := by
    have h1 : _ = some cB := (hK1.2 3 _ rfl).2
    have h2 : _ = some (cA 1) := (c9.2 1 _ rfl).2
    exact Option.some.inj (h1.symm.trans h2)
  subst e
  exact k0 q H1 hP1 hD1 hS1
theorem Rx_newS {i : Int32} {idx : Nat} (n : Nat) (hd : decode M.2.1 pc = .ok (.anewarray idx, 3)) (hl : Cond.classLink M.1.cls idx RX6 ∈ gtbl) (hi : i = nI n) (hn : n * 4 ≤ 536870912) (K : Rx M d (pc + 3) ls (.ref h.length :: st) (h ++ [aS n (fun _ => none)]) r h') : Rx M d pc ls (.int i :: st) h r h' := by
  subst hi
  refine Rx.stepN (e1 := aS n (fun _ => none)) K (fun {_ _ _ _ _ _ _ _ _ _ D cA b _ _ _ _ _ _} C _ hc hs hP hD hS hA k0 => ?_)
  obtain ⟨c1, c2, c3, c4, c5, c6, c7, c8, c9, c10⟩ := C
  refine va_newq (C := RX6) (N' := n) c1 c2 c7 (c8 _ hl) c10.2.1 c9 hP hD hS hA (nI_pos (by omega)) (nI_clamp (by omega)) hn hc hs hd (fun q cB H1 hK1 hP1 hD1 hS1 => ?_)
  have e : cB = cA 2 := by
    obtain ⟨_, _, _, _, _, h1⟩ := (hK1.2 3 _ rfl).2
    obtain ⟨_, _, _, _, _, h2⟩ := (c9.2 2 _ rfl).2
    exact Option.some.inj (h1.symm.trans h2)
  subst e
  exact k0 q H1 hP1 hD1 hS1
def NL (own : String) (idx ci : Nat) (fs : List Value) : Prop := ∃ (q : vw_C) (ty : Nat → FieldType), vwCl[ci]? = some q ∧ (∀ k, k < q.2.2 → parseFieldDescriptor (q.2.1 k).2.2.1 = some (ty k)) ∧ (∀ j, j < q.2.2 → defaultValue (ty j) = vp_V fs j) ∧ fs.length = q.2.2 ∧ (∀ b, fs.map (mp b) = fs) ∧ Cond.classLink own idx q.1 ∈ gtbl ∧ Cond.instantiable q.1 q.2.2 ∈ gtbl ∧ Cond.initialized q.1 ∈ gtbl
theorem Rx_new {idx ci : Nat} {fs : List Value} (hd : decode M.2.1 pc = .ok (.new idx, 3)) (hl : NL M.1.cls idx ci fs) (K : Rx M d (pc + 3) ls (.ref h.length :: st) (h ++ [.inr (ci, fs)]) r h') : Rx M d pc ls st h r h' := by
  refine Rx.stepN (e1 := .inr (ci, fs)) K (fun {_ _ _ _ _ _ _ _ _ _ D cA b _ _ _ _ _ _} C _ hc hs hP hD hS hA k0 => ?_)
  obtain ⟨c1, c2, c3, c4, c5, c6, c7, c8, c9, c10⟩ := C
  obtain ⟨q, ty, h1, h2, h3, h4, h5, h6, h7, h8⟩ := hl
  have em : mE cA b (.inr (ci, fs)) = .inr (ci, fs) := by show Sum.inr (ci, fs.map (mp b)) = _; rw [h5]
  have es : esz (.inr (ci, fs)) = q.2.2 := h4
  rw [em, es] at k0
  rw [es] at hs
  exact va_new (ci := ci) c1 c2 c8 (cl_in h1) ty h2 c7 (c8 _ h6) (c8 _ h7) (c8 _ h8) c9 hP hD hS hA h1 h3 hc hs hd k0
/-! ends of a method -/
theorem Rx_iret {v : Int32} (hd : decode M.2.1 pc = .ok (.ireturn, 1)) (hr : M.2.2.2 = some .int) : Rx M d pc ls [.int v] h (some (.int v)) h := by
  refine ⟨Nat.le_refl _, Nat.le_refl _, fun p l e R s m args below meth c D cA b H locs cells slots LS C hR hw hl => ?_⟩
  obtain ⟨c1, c2, c3, c4, c5, c6, c7, c8, c9, c10⟩ := C
  obtain ⟨w1, w2, w3, w4, w5⟩ := hw
  rw [Nat.sub_self, Nat.sub_self, Nat.add_zero, Nat.add_zero]
  exact W.iret (v := v) c1 c2 (c4.trans hr) (fun t ht _ => ⟨rfl, by rw [ht]; exact w1, by rw [ht]; exact w2, w3.F ht⟩) w3.2.2 hd c5
theorem Rx_zret {v : Int32} {ty : FieldType} (hd : decode M.2.1 pc = .ok (.ireturn, 1)) (hr : M.2.2.2 = some ty) (hn : narrow ty (.int v) = .int v) : Rx M d pc ls [.int v] h (some (.int v)) h := by
  refine ⟨Nat.le_refl _, Nat.le_refl _, fun p l e R s m args below meth c D cA b H locs cells slots LS C hR hw hl => ?_⟩
  obtain ⟨c1, c2, c3, c4, c5, c6, c7, c8, c9, c10⟩ := C
  obtain ⟨w1, w2, w3, w4, w5⟩ := hw
  rw [Nat.sub_self, Nat.sub_self, Nat.add_zero, Nat.add_zero]
  exact W.zret (v := v) c1 c2 (c4.trans hr) hn (fun t ht _ => ⟨rfl, by rw [ht]; exact w1, by rw [ht]; exact w2, w3.F ht⟩) w3.2.2 hd c5
theorem nz_0 : narrow .boolean (.int 0) = .int 0 := by decide +kernel
theorem nz_1 : narrow .boolean (.int 1) = .int 1 := by decide +kernel
theorem Rx_lret {v : Int64} (hd : decode M.2.1 pc = .ok (.lreturn, 1)) (hr : M.2.2.2 = some .long) : Rx M d pc ls [.long v] h (some (.long v)) h := by
  refine ⟨Nat.le_refl _, Nat.le_refl _, fun p l e R s m args below meth c D cA b H locs cells slots LS C hR hw hl => ?_⟩
  obtain ⟨c1, c2, c3, c4, c5, c6, c7, c8, c9, c10⟩ := C
  obtain ⟨w1, w2, w3, w4, w5⟩ := hw
  rw [Nat.sub_self, Nat.sub_self, Nat.add_zero, Nat.add_zero]
  exact W.lret (v := v) c1 c2 (c4.trans hr) (fun t ht _ => ⟨rfl, by rw [ht]; exact w1, by rw [ht]; exact w2, w3.F ht⟩) w3.2.2 hd c5
theorem Rx_vret (hd : decode M.2.1 pc = .ok (.return_, 1)) (hr : M.2.2.2 = none) : Rx M d pc ls [] h none h := by
  refine ⟨Nat.le_refl _, Nat.le_refl _, fun p l e R s m args below meth c D cA b H locs cells slots LS C hR hw hl => ?_⟩
  obtain ⟨c1, c2, c3, c4, c5, c6, c7, c8, c9, c10⟩ := C
  obtain ⟨w1, w2, w3, w4, w5⟩ := hw
  rw [Nat.sub_self, Nat.sub_self, Nat.add_zero, Nat.add_zero]
  exact W.vret c1 c2 (c4.trans hr) (fun t ht _ => ⟨rfl, by rw [ht]; exact w1, by rw [ht]; exact w2, w3.F ht⟩) w3.2.2 hd c5
theorem Rx_aret {a : Nat} {ty : FieldType} (hd : decode M.2.1 pc = .ok (.areturn, 1)) (hr : M.2.2.2 = some ty) (hty : (∃ n, ty = .object n) ∨ ∃ t, ty = .array t) : Rx M d pc ls [.ref a] h (some (.ref a)) h := by
  refine ⟨Nat.le_refl _, Nat.le_refl _, fun p l e R s m args below meth c D cA b H locs cells slots LS C hR hw hl => ?_⟩
  obtain ⟨c1, c2, c3, c4, c5, c6, c7, c8, c9, c10⟩ := C
  obtain ⟨w1, w2, w3, w4, w5⟩ := hw
  rw [Nat.sub_self, Nat.sub_self, Nat.add_zero, Nat.add_zero]
  exact W.aret (v := .ref (b + a)) c1 c2 (c4.trans hr) hty (Or.inr ⟨_, rfl⟩) (fun t ht _ => ⟨rfl, by rw [ht]; exact w1, by rw [ht]; exact w2, w3.F ht⟩) w3.2.2 hd c5
end RULES
end
section
/-! a whole call, and the rules of calls -/
def ent : List Value → List Value
  | [] => []
  | v :: vs => match v with
    | .long x => .long x :: .retAddr 0 :: ent vs
    | .double x => .double x :: .retAddr 0 :: ent vs
    | v => v :: ent vs
def pad : Nat → List Value → List Value
  | 0, _ => []
  | n + 1, [] => .retAddr 0 :: pad n []
  | n + 1, v :: l => v :: pad n l
theorem lat_pad {n : Nat} : ∀ {l : List Value} {k : Nat} {v : Value}, lat (pad n l) k = some v → jn v = false → lat l k = some v := by
  induction n with
  | zero => intro l k v h; cases h
  | succ n ih =>
    intro l k v h hj
    cases l with
    | nil =>
      cases k with
      | zero =>
        simp only [pad, lat, Option.some.injEq] at h
        subst h
        cases hj
      | succ k =>
        have := ih (l := []) (k := k) (v := v) h hj
        simp [lat] at this
    | cons a l =>
      cases k with
      | zero => exact h
      | succ k => exact ih (l := l) (k := k) (v := v) h hj
theorem ent_len (b : Nat) (as : List Value) : (lg_sl (as.map (mp b))).length = (ent as).length := by
  induction as with
  | nil => rfl
  | cons v vs ih =>
    have e : lg_sl ((v :: vs).map (mp b)) = (if (mp b v).category = 2 then [.val (mp b v), .second] else [.val (mp b v)]) ++ lg_sl (vs.map (mp b)) := by simp [lg_sl]
    rw [e, List.length_append, ih]
    cases v <;> simp [mp, ent, Value.category] <;> omega
theorem ent_args (b : Nat) : ∀ (as : List Value) (i k : Nat) (v : Value), lat (ent as) k = some v → jn v = false → (i + k, mp b v) ∈ lv_args i (as.map (mp b)) := by
  intro as
  induction as with
  | nil => intro i k v h; cases h
  | cons a as ih =>
    intro i k v h hj
    have two : ∀ (w : Value), (mp b w).category = 2 → lat (w :: .retAddr 0 :: ent as) k = some v → (i + k, mp b v) ∈ lv_args i (mp b w :: as.map (mp b)) := by
      intro w hw h
      simp only [lv_args, hw, if_true]
      cases k with
      | zero => cases h; exact List.mem_cons_self
      | succ k =>
        cases k with
        | zero => cases h; cases hj
        | succ k =>
          have := ih (i + 2) k v h hj
          refine List.mem_cons_of_mem _ ?_
          rwa [show i + (k + 1 + 1) = i + 2 + k by omega]
    have one : ∀ (w : Value), ¬ (mp b w).category = 2 → lat (w :: ent as) k = some v → (i + k, mp b v) ∈ lv_args i (mp b w :: as.map (mp b)) := by
      intro w hw h
      simp only [lv_args, if_neg hw]
      cases k with
      | zero => cases h; exact List.mem_cons_self
      | succ k =>
        have := ih (i + 1) k v h hj
        refine List.mem_cons_of_mem _ ?_
        rwa [show i + (k + 1) = i + 1 + k by omega]
    cases a with
    | long x => exact two (.long x) rfl h
    | double x => exact two (.double x) rfl h
    | int x => exact one (.int x) (by intro z; cases z) h
    | float x => exact one (.float x) (by intro z; cases z) h
    | null => exact one .null (by intro z; cases z) h
    | ref x => exact one (.ref x) (by intro z; cases z) h
    | retAddr x => exact one (.retAddr x) (by intro z; cases z) h
theorem Mx_of {M : Mi} {d : Nat} {as : List Value} {h : Hp} {r : Option Value} {h' : Hp} (ls : List Value) (hp : plainName M.1.cls = true) (hen : Nat.ble (ent as).length M.2.2.1 = true) (hls : pad M.2.2.1 (ent as) = ls) (K : Rx M d 0 ls [] h r h') : Mx M d as h r h' := by
  subst hls
  obtain ⟨k1, k2, k3⟩ := K
  refine ⟨k1, k2, fun l D cA b => ?_⟩
  refine Met.ofW (cc := M.2.1) (maxL := M.2.2.1) (ret := M.2.2.2) hp rfl ?_
  intro p e s m args below meth c s₁ B hml hv
  obtain ⟨rfl, hP, hsz, hK, hN⟩ := hv
  have hts := atoms_spec (ws := wsM M) B.pre
  have hl := lv_entry (as.map (mp b)) (n := M.2.2.1) (by rw [ent_len]; exact Nat.le_of_ble_eq_true hen)
  rw [lg_entry_eq]
  generalize (lg_sl (as.map (mp b)) ++ List.replicate (M.2.2.1 - (lg_sl (as.map (mp b))).length) Slot.unset).toArray = LS at hl ⊢
  have C : Cx M p s m (as.map (mp b)).toArray meth c D cA b := ⟨B.exec, B.bytes, hml, B.returns, B.notSynchronized, (name_of_methodNamed B.named B.method).1, findClass_of_methodNamed B.named, fun w hw => hts w (List.mem_cons_of_mem _ hw), hK, hN⟩
  have hL : LR b M.2.2.1 LS (pad M.2.2.1 (ent as)) := ⟨hl.1, hl.2.1, fun k v hk hj => by
    have := hl.2.2 _ (ent_args b as 0 k v (lat_pad hk hj) hj)
    rwa [Nat.zero_add] at this⟩
  have kk := k3 p l e (rmx d h h') s m (as.map (mp b)).toArray below meth c D cA b s.heap [] 0 0 LS C ⟨Nat.le_refl _, Nat.le_refl _, by simp [rmx], by simp [rmx]⟩ ⟨hP, hsz, va_S.rf, by omega, rfl⟩ hL
  rw [Nat.zero_add, Nat.zero_add] at kk
  exact kk
theorem Rx.call {M : Mi} {d pc : Nat} {ls st rest : List Value} {h h1 h' : Hp} {r rv : Option Value} (g1 : h.length ≤ h1.length) (g2 : hsz h ≤ hsz h1) (K : Rx M d (pc + 3) ls (rv.toList ++ rest) h1 r h')
    (f : ∀ {p : Program} {l : Launch} {e : Env} {R : Room} {s : State} {m : MethodId} {args : Array Value} {below : List Frame} {meth : Method} {c : Code} {D : va_G} {cA : Nat → ClassId} {b : Nat} {H : Heap} {locs : List Loc} {cells slots : Nat} {LS : Array Slot},
      Cx M p s m args meth c D cA b → d ≤ R.frames → 64 * d ≤ R.locals → Wd D cA b s cells h H locs → LR b M.2.2.1 LS ls → (cells + (h1.length - h.length) ≤ R.cells ∧ slots + (hsz h1 - hsz h) ≤ R.slots) →
      ∃ a, va_Run p l e R s m args below meth c H locs cells slots (h1.length - h.length) (hsz h1 - hsz h) (F0 m pc LS (st.map (mp b))) (rest.map (mp b)) (QX D cA b rv h1 a) (fun q => b ≤ q)) : Rx M d pc ls st h r h' := by
  obtain ⟨k1, k2, k3⟩ := K
  refine ⟨Nat.le_trans g1 k1, Nat.le_trans g2 k2, fun p l e R s m args below meth c D cA b H locs cells slots LS C hR hw hl => ?_⟩
  obtain ⟨r1, r2, r3, r4⟩ := hR
  have hff : cells + (h1.length - h.length) ≤ R.cells ∧ slots + (hsz h1 - hsz h) ≤ R.slots := ⟨by omega, by omega⟩
  obtain ⟨a, hrun⟩ := f (l := l) (e := e) (below := below) C r1 r2 hw hl hff
  intro T hT X
  obtain ⟨v, st₀, t, T', L, h0, X', hL, e1, e2, ⟨hv, q1, q2, q3⟩, stp⟩ := hrun T hT X
  have hv' : v = rv.map (mp b) := by cases hv; rfl
  subst hv'
  obtain ⟨w1, w2, w3, w4, w5⟩ := hw
  have hw' : Wd D cA b s (cells + (h1.length - h.length)) h1 T'.heap (locs ++ L) := by
    refine ⟨by rw [e1]; exact q1, by rw [e1]; exact q2, ⟨?_, fun q z1 z2 => ?_, fun q hq => ?_⟩, w4, by rw [e1, q2]; omega⟩
    · rw [e1]
      have := q3.1
      rw [h0] at this
      exact Nat.le_trans w3.1 this
    · rw [e1, q3.2 q (by rw [h0]; exact Nat.lt_of_lt_of_le z1 w3.1) z2, h0]
      exact w3.2.1 q z1 z2
    · rcases List.mem_append.mp hq with z | z
      · exact w3.2.2 q z
      · exact hL q z
  have kk := k3 p l e R s m args below meth c D cA b T'.heap (locs ++ L) (cells + (h1.length - h.length)) (slots + (hsz h1 - hsz h)) LS C ⟨r1, r2, by omega, by omega⟩ hw' hl
  have g3 : cells + (h1.length - h.length) + (h'.length - h1.length) = cells + (h'.length - h.length) := by omega
  have g4 : slots + (hsz h1 - hsz h) + (hsz h' - hsz h1) = slots + (hsz h' - hsz h) := by omega
  rw [g3, g4] at kk
  have es : (rv.toList ++ rest).map (mp b) = (rv.map (mp b)).toList ++ rest.map (mp b) := by cases rv <;> simp
  rw [es] at kk
  obtain ⟨t2, a1, b1⟩ := kk T' rfl X'
  exact ⟨t2, stp t2 a1, b1⟩
def CL (own : String) (idx : Nat) (M' : Mi) (n : Nat) : Prop := Cond.code M'.1 M'.2.1 M'.2.2.1 M'.2.2.2 ∈ gtbl ∧ Cond.initialized M'.1.cls ∈ gtbl ∧ (M'.1.cls ≠ "java/lang/invoke/MethodHandle" ∧ M'.1.cls ≠ "java/lang/invoke/VarHandle" ∧ (parseMethodDescriptor M'.1.desc).map (fun d => d.parameters.length) = some n) ∧ Nat.ble M'.2.2.1 40 = true ∧ (Cond.methodLink own idx M'.1 ∈ gtbl ∨ ∃ host, Cond.methodLinkNest own idx M'.1 host ∈ lw_tbl)
def CLv (own : String) (idx : Nat) (M' : Mi) (n : Nat) : Prop := CL own idx M' n ∧ Cond.instanceMethod M'.1 ∈ gtbl ∧ Cond.selects M'.1.cls M'.1 M'.1 ∈ gtbl
def CLs (own : String) (idx : Nat) (M' : Mi) (n : Nat) : Prop := CL own idx M' n ∧ Cond.static M'.1 ∈ gtbl
def CLi (own : String) (idx : Nat) (M' : Mi) (n : Nat) : Prop := CL own idx M' n ∧ Cond.instanceMethod M'.1 ∈ gtbl ∧ M'.1.name = "<init>" ∧ M'.2.2.2 = none
theorem ws_good {M' : Mi} (h : Cond.code M'.1 M'.2.1 M'.2.2.1 M'.2.2.2 ∈ gtbl) : GoodIn gtbl (wsM M') := by
  intro w hw
  rcases List.mem_cons.mp hw with rfl | hw
  · exact gt_good _ h
  · exact gt_good _ hw
theorem PX_blind {D : va_G} {cA : Nat → ClassId} {b : Nat} {as : List Value} {h : Hp} : FrameBlind (PX D cA b as h) := by
  intro a U g mk q
  obtain ⟨q0, qP, qs, qK, qN⟩ := q
  exact ⟨q0, qP, qs, va_K.moved (u := U) (U := U.calling g mk a) (Vm.Alike.refl U.vm) qK, NW_vm qN rfl rfl⟩
theorem PX_pre {M : Mi} {p : Program} {s : State} {m : MethodId} {args : Array Value} {meth : Method} {c : Code} {D : va_G} {cA : Nat → ClassId} {b cells : Nat} {as : List Value} {h : Hp} {H : Heap} {locs : List Loc} (C : Cx M p s m args meth c D cA b) (w : Wd D cA b s cells h H locs) : ∀ U : State, U.heap = H → s.WarmedH U.vm → PX D cA b as h (as.map (mp b)).toArray U := by
  intro U hU hW
  obtain ⟨c1, c2, c3, c4, c5, c6, c7, c8, c9, c10⟩ := C
  exact ⟨rfl, by rw [hU]; exact w.1, by rw [hU]; exact w.2.1, va_K.moved hW.alike c9, NW_warm c10 hU w.2.2.1 hW⟩
theorem cat_sum (b : Nat) (l : List Value) : ((l.map (mp b)).map fun v => v.category) = l.map fun v => v.category := by
  rw [List.map_map]
  exact List.map_congr_left (fun v _ => mp_cat b v)
section CALLS
variable {M M' : Mi} {d pc : Nat} {ls st : List Value} {h h1 h' : Hp} {r : Option Value}
theorem Rx_runV {idx n a ci : Nat} {fs As rest : List Value} {rv : Option Value} (hd : decode M.2.1 pc = .ok (.invokevirtual idx, 3)) (hl : CLv M.1.cls idx M' n) (hci : vwCl[ci]?.map (fun q => q.1) = some M'.1.cls) (hrec : h[a]? = some (.inr (ci, fs))) (hM : Mx M' d (.ref a :: As) h rv h1) (hn : As.length = n) (hst : As.reverse ++ .ref a :: rest = st) (hroom : Nat.ble (rest.map fun v => v.category).sum 8 = true) (K : Rx M (d + 1) (pc + 3) ls (rv.toList ++ rest) h1 r h') : Rx M (d + 1) pc ls st h r h' := by
  subst hst
  obtain ⟨⟨l1, l2, l3, l4, l5⟩, l6, l7⟩ := hl
  refine Rx.call hM.1 hM.2.1 K (fun {p l e R s m args below meth c D cA b H locs cells slots LS} C r1 r2 w hl hf => ⟨((Value.ref a :: As).map (mp b)).toArray, ?_⟩)
  have C0 := C
  obtain ⟨c1, c2, c3, c4, c5, c6, c7, c8, c9, c10⟩ := C
  have l4' := Nat.le_of_ble_eq_true l4
  have hR : (rmx d h h1).frames + 1 ≤ R.frames ∧ 8 + (M'.2.2.1 + 11) + (rmx d h h1).locals ≤ R.locals := ⟨r1, by show 8 + (M'.2.2.1 + 11) + 64 * d ≤ R.locals; omega⟩
  obtain ⟨q, hq, hq2⟩ : ∃ q, vwCl[ci]? = some q ∧ q.1 = M'.1.cls := by
    cases hx : vwCl[ci]? with
    | none => rw [hx] at hci; cases hci
    | some q => rw [hx] at hci; exact ⟨q, rfl, Option.some.inj hci⟩
  have hrecv := va_recv (ci := ci) (q0 := a) c9 w.1 hq (wz_at (cA := cA) (b := b) hrec)
  rw [hq2] at hrecv
  have hstack : (As.reverse ++ Value.ref a :: rest).map (mp b) = (As.map (mp b)).reverse ++ .ref (b + a) :: rest.map (mp b) := by simp [mp]
  have hcat : 2 * (F0 m pc LS ((As.reverse ++ Value.ref a :: rest).map (mp b))).monitorRoom + ((rest.map (mp b)).map fun v => v.category).sum ≤ 8 := lv_room (by rw [cat_sum]; exact Nat.le_of_ble_eq_true hroom)
  have hpre : PreV s H M'.1.cls (b + a) (PX D cA b (Value.ref a :: As) h) (As.map (mp b)) := ⟨PX_blind, hrecv, PX_pre C0 w⟩
  rcases l5 with l5 | ⟨host, l5⟩
  · exact va_runV (own := M.1.cls) (C := M'.1.cls) (Ts := gtbl) (nL := M.2.2.1) ⟨c1, c2, c3, c7, c8⟩ (hM.2.2 l D cA b) ⟨callB_of n c8 (ws_good l1) rfl rfl rfl (c8 _ l2) (c8 _ l5) l3 hR, c8 _ l6, c8 _ l7⟩ hpre rfl (by rw [List.length_map]; exact hn) hl.1 hstack hcat hd hf
  · exact va_runVN (own := M.1.cls) (C := M'.1.cls) (Ts := gtbl) (nL := M.2.2.1) ⟨c1, c2, c3, c7, c8⟩ (hM.2.2 l D cA b) ⟨va_cnB n c8 (ws_good l1) rfl rfl rfl (c10.1 _ l5 rfl) (c8 _ l2) l3 hR, c8 _ l6, c8 _ l7⟩ hpre rfl (by rw [List.length_map]; exact hn) hl.1 hstack hcat hd hf
theorem Rx_runS {idx n : Nat} {As rest : List Value} {rv : Option Value} (hd : decode M.2.1 pc = .ok (.invokestatic idx, 3)) (hl : CLs M.1.cls idx M' n) (hM : Mx M' d As h rv h1) (hn : As.length = n) (hst : As.reverse ++ rest = st) (hroom : Nat.ble (rest.map fun v => v.category).sum 8 = true) (K : Rx M (d + 1) (pc + 3) ls (rv.toList ++ rest) h1 r h') : Rx M (d + 1) pc ls st h r h' := by
  subst hst
  obtain ⟨⟨l1, l2, l3, l4, l5⟩, l6⟩ := hl
  refine Rx.call hM.1 hM.2.1 K (fun {p l e R s m args below meth c D cA b H locs cells slots LS} C r1 r2 w hl hf => ⟨(As.map (mp b)).toArray, ?_⟩)
  have C0 := C
  obtain ⟨c1, c2, c3, c4, c5, c6, c7, c8, c9, c10⟩ := C
  have l4' := Nat.le_of_ble_eq_true l4
  have hR : (rmx d h h1).frames + 1 ≤ R.frames ∧ 8 + (M'.2.2.1 + 11) + (rmx d h h1).locals ≤ R.locals := ⟨r1, by show 8 + (M'.2.2.1 + 11) + 64 * d ≤ R.locals; omega⟩
  have hstack : (As.reverse ++ rest).map (mp b) = (As.map (mp b)).reverse ++ rest.map (mp b) := by simp
  have hcat : 2 * (F0 m pc LS ((As.reverse ++ rest).map (mp b))).monitorRoom + ((rest.map (mp b)).map fun v => v.category).sum ≤ 8 := lv_room (by rw [cat_sum]; exact Nat.le_of_ble_eq_true hroom)
  have hpre : PreS s H (PX D cA b As h) (As.map (mp b)) := ⟨PX_blind, PX_pre C0 w⟩
  rcases l5 with l5 | ⟨host, l5⟩
  · exact va_runS (own := M.1.cls) (Ts := gtbl) (nL := M.2.2.1) ⟨c1, c2, c3, c7, c8⟩ (hM.2.2 l D cA b) ⟨callB_of n c8 (ws_good l1) rfl rfl rfl (c8 _ l2) (c8 _ l5) l3 hR, c8 _ l6⟩ hpre rfl (by rw [List.length_map]; exact hn) hl.1 hstack hcat hd hf
  · exact va_runSN (own := M.1.cls) (Ts := gtbl) (nL := M.2.2.1) ⟨c1, c2, c3, c7, c8⟩ (hM.2.2 l D cA b) ⟨va_cnB n c8 (ws_good l1) rfl rfl rfl (c10.1 _ l5 rfl) (c8 _ l2) l3 hR, c8 _ l6, trivial⟩ hpre rfl (by rw [List.length_map]; exact hn) hl.1 hstack hcat hd hf
theorem Rx_runI {idx n a : Nat} {As rest : List Value} {rv : Option Value} (hd : decode M.2.1 pc = .ok (.invokespecial idx, 3)) (hl : CLi M.1.cls idx M' n) (hM : Mx M' d (.ref a :: As) h rv h1) (hn : As.length = n) (hst : As.reverse ++ .ref a :: rest = st) (hroom : Nat.ble (rest.map fun v => v.category).sum 8 = true) (K : Rx M (d + 1) (pc + 3) ls (rv.toList ++ rest) h1 r h') : Rx M (d + 1) pc ls st h r h' := by
  subst hst
  obtain ⟨⟨l1, l2, l3, l4, l5⟩, l6, l7, l8⟩ := hl
  refine Rx.call hM.1 hM.2.1 K (fun {p l e R s m args below meth c D cA b H locs cells slots LS} C r1 r2 w hl hf => ⟨((Value.ref a :: As).map (mp b)).toArray, ?_⟩)
  have C0 := C
  obtain ⟨c1, c2, c3, c4, c5, c6, c7, c8, c9, c10⟩ := C
  have l4' := Nat.le_of_ble_eq_true l4
  have hR : (rmx d h h1).frames + 1 ≤ R.frames ∧ 8 + (M'.2.2.1 + 11) + (rmx d h h1).locals ≤ R.locals := ⟨r1, by show 8 + (M'.2.2.1 + 11) + 64 * d ≤ R.locals; omega⟩
  have hstack : (As.reverse ++ Value.ref a :: rest).map (mp b) = (As.map (mp b)).reverse ++ .ref (b + a) :: rest.map (mp b) := by simp [mp]
  have hcat : 2 * (F0 m pc LS ((As.reverse ++ Value.ref a :: rest).map (mp b))).monitorRoom + ((rest.map (mp b)).map fun v => v.category).sum ≤ 8 := lv_room (by rw [cat_sum]; exact Nat.le_of_ble_eq_true hroom)
  have hpre : PreS s H (PX D cA b (Value.ref a :: As) h) (.ref (b + a) :: As.map (mp b)) := ⟨PX_blind, PX_pre C0 w⟩
  have hw : wsM M' = Cond.code M'.1 M'.2.1 M'.2.2.1 none :: gtbl := by rw [← l8]; rfl
  rcases l5 with l5 | ⟨host, l5⟩
  · exact va_runI (own := M.1.cls) (Ts := gtbl) (nL := M.2.2.1) ⟨c1, c2, c3, c7, c8⟩ (hM.2.2 l D cA b) ⟨callB_of n c8 (ws_good l1) hw rfl rfl (c8 _ l2) (c8 _ l5) l3 hR, l7, c8 _ l6⟩ hpre rfl (by rw [List.length_map]; exact hn) hl.1 hstack hcat hd hf
  · exact va_runIN (own := M.1.cls) (Ts := gtbl) (nL := M.2.2.1) ⟨c1, c2, c3, c7, c8⟩ (hM.2.2 l D cA b) ⟨va_cnB n c8 (ws_good l1) hw rfl rfl (c10.1 _ l5 rfl) (c8 _ l2) l3 hR, l7, c8 _ l6⟩ hpre rfl (by rw [List.length_map]; exact hn) hl.1 hstack hcat hd hf
theorem Rx_callV {idx n a ci : Nat} {fs rest : List Value} {v : Value} (As : List Value) (hd : decode M.2.1 pc = .ok (.invokevirtual idx, 3)) (hl : CLv M.1.cls idx M' n) (hci : vwCl[ci]?.map (fun q => q.1) = some M'.1.cls) (hrec : h[a]? = some (.inr (ci, fs))) (hM : Mx M' d (.ref a :: As) h (some v) h1) (hn : As.length = n) (hst : As.reverse ++ .ref a :: rest = st) (hroom : Nat.ble (rest.map fun v => v.category).sum 8 = true) (K : Rx M (d + 1) (pc + 3) ls (v :: rest) h1 r h') : Rx M (d + 1) pc ls st h r h' := Rx_runV hd hl hci hrec hM hn hst hroom K
theorem Rx_callVv {idx n a ci : Nat} {fs rest : List Value} (As : List Value) (hd : decode M.2.1 pc = .ok (.invokevirtual idx, 3)) (hl : CLv M.1.cls idx M' n) (hci : vwCl[ci]?.map (fun q => q.1) = some M'.1.cls) (hrec : h[a]? = some (.inr (ci, fs))) (hM : Mx M' d (.ref a :: As) h none h1) (hn : As.length = n) (hst : As.reverse ++ .ref a :: rest = st) (hroom : Nat.ble (rest.map fun v => v.category).sum 8 = true) (K : Rx M (d + 1) (pc + 3) ls rest h1 r h') : Rx M (d + 1) pc ls st h r h' := Rx_runV hd hl hci hrec hM hn hst hroom K
theorem Rx_callS {idx n : Nat} {rest : List Value} {v : Value} (As : List Value) (hd : decode M.2.1 pc = .ok (.invokestatic idx, 3)) (hl : CLs M.1.cls idx M' n) (hM : Mx M' d As h (some v) h1) (hn : As.length = n) (hst : As.reverse ++ rest = st) (hroom : Nat.ble (rest.map fun v => v.category).sum 8 = true) (K : Rx M (d + 1) (pc + 3) ls (v :: rest) h1 r h') : Rx M (d + 1) pc ls st h r h' := Rx_runS hd hl hM hn hst hroom K
theorem Rx_callSv {idx n : Nat} {rest : List Value} (As : List Value) (hd : decode M.2.1 pc = .ok (.invokestatic idx, 3)) (hl : CLs M.1.cls idx M' n) (hM : Mx M' d As h none h1) (hn : As.length = n) (hst : As.reverse ++ rest = st) (hroom : Nat.ble (rest.map fun v => v.category).sum 8 = true) (K : Rx M (d + 1) (pc + 3) ls rest h1 r h') : Rx M (d + 1) pc ls st h r h' := Rx_runS hd hl hM hn hst hroom K
theorem Rx_callI {idx n a : Nat} {rest : List Value} (As : List Value) (hd : decode M.2.1 pc = .ok (.invokespecial idx, 3)) (hl : CLi M.1.cls idx M' n) (hM : Mx M' d (.ref a :: As) h none h1) (hn : As.length = n) (hst : As.reverse ++ .ref a :: rest = st) (hroom : Nat.ble (rest.map fun v => v.category).sum 8 = true) (K : Rx M (d + 1) (pc + 3) ls rest h1 r h') : Rx M (d + 1) pc ls st h r h' := Rx_runI hd hl hM hn hst hroom K
theorem Rx_objInit {idx a : Nat} {rest : List Value} (hd : decode M.2.1 pc = .ok (.invokespecial idx, 3)) (hl : Cond.methodLink M.1.cls idx objectInit ∈ gtbl) (h2 : Cond.instanceMethod objectInit ∈ gtbl) (h3 : Cond.code objectInit ⟨#[0xb1]⟩ 1 none ∈ gtbl) (hroom : Nat.ble (rest.map fun v => v.category).sum 8 = true) (K : Rx M (d + 1) (pc + 3) ls rest h r h') : Rx M (d + 1) pc ls (.ref a :: rest) h r h' :=
  K.step (fun {_ _ _ _ _ m _ _ _ _ _ _ b _ _ _ _ LS _} C hR _ hlr k => by
    obtain ⟨c1, c2, c3, c4, c5, c6, c7, c8, c9, c10⟩ := C
    have hcat : 2 * (F0 m pc LS ((Value.ref a :: rest).map (mp b))).monitorRoom + ((rest.map (mp b)).map fun v => v.category).sum ≤ 8 := lv_room (by rw [cat_sum]; exact Nat.le_of_ble_eq_true hroom)
    have h1 := hR.1
    have h2' := hR.2.1
    exact W.objInit c1 c2 c7 (c8 _ hl) (c8 _ h2) (c8 _ h3) rfl (hlr.1.trans c3.symm) rfl hd (by omega) (by omega) k)
theorem Rx_mmax {idx : Nat} {x y : Int32} {rest : List Value} (hd : decode M.2.1 pc = .ok (.invokestatic idx, 3)) (hl : Cond.methodLink M.1.cls idx Lib.Math.max.name ∈ gtbl) (h1 : Cond.static Lib.Math.max.name ∈ gtbl) (h2 : Cond.initialized "java/lang/Math" ∈ gtbl) (h3 : Cond.code Lib.Math.max.name Lib.Math.max.code 2 (some .int) ∈ gtbl) (hroom : Nat.ble (rest.map fun v => v.category).sum 8 = true) (K : Rx M (d + 1) (pc + 3) ls (.int (if x < y then y else x) :: rest) h r h') : Rx M (d + 1) pc ls (.int y :: .int x :: rest) h r h' :=
  K.step (fun {_ _ _ _ _ m _ _ _ _ _ _ b _ _ _ _ LS _} C hR _ hlr k => by
    obtain ⟨c1, c2, c3, c4, c5, c6, c7, c8, c9, c10⟩ := C
    have g0 := Nat.le_of_ble_eq_true hroom
    obtain ⟨r1, r2, r3, r4⟩ := hR
    exact va_mmax c1 c2 (c3.trans hlr.1.symm) c7 (c8 _ hl) (c8 _ h1) (c8 _ h2) (c8 _ h3) (by omega) (by rw [cat_sum]; omega) (by omega) (by omega) hd k)
theorem Rx_mmin {idx : Nat} {x y : Int32} {rest : List Value} (hd : decode M.2.1 pc = .ok (.invokestatic idx, 3)) (hl : Cond.methodLink M.1.cls idx Lib.Math.min.name ∈ gtbl) (h1 : Cond.static Lib.Math.min.name ∈ gtbl) (h2 : Cond.initialized "java/lang/Math" ∈ gtbl) (h3 : Cond.code Lib.Math.min.name Lib.Math.min.code 2 (some .int) ∈ gtbl) (hroom : Nat.ble (rest.map fun v => v.category).sum 8 = true) (K : Rx M (d + 1) (pc + 3) ls (.int (if y < x then y else x) :: rest) h r h') : Rx M (d + 1) pc ls (.int y :: .int x :: rest) h r h' :=
  K.step (fun {_ _ _ _ _ m _ _ _ _ _ _ b _ _ _ _ LS _} C hR _ hlr k => by
    obtain ⟨c1, c2, c3, c4, c5, c6, c7, c8, c9, c10⟩ := C
    have g0 := Nat.le_of_ble_eq_true hroom
    obtain ⟨r1, r2, r3, r4⟩ := hR
    exact va_mmin c1 c2 (c3.trans hlr.1.symm) c7 (c8 _ hl) (c8 _ h1) (c8 _ h2) (c8 _ h3) (by omega) (by rw [cat_sum]; omega) (by omega) (by omega) hd k)
/-- System.arraycopy between two rows of ints -/
theorem Rx_acopy {idx a0 a1 n0 n1 : Nat} {f g : Nat → Int32} {x y z : Int32} {rest : List Value} (sp dp n : Nat) (hd : decode M.2.1 pc = .ok (.invokestatic idx, 3)) (hl : Cond.methodLink M.1.cls idx arraycopyName ∈ gtbl) (h1 : Cond.native arraycopyName ∈ gtbl) (h2 : Cond.static arraycopyName ∈ gtbl) (h3 : Cond.initialized "java/lang/System" ∈ gtbl)
    (ha0 : h[a0]? = some (aI n0 f)) (ha1 : h[a1]? = some (aI n1 g)) (e0 : n0 < 2 ^ 31) (e1 : n1 < 2 ^ 31) (hx : x = nI sp) (hy : y = nI dp) (hz : z = nI n) (g0 : sp + n ≤ n0) (g1 : dp + n ≤ n1) (hroom : Nat.ble (rest.map fun v => v.category).sum 8 = true) (K : Rx M (d + 1) (pc + 3) ls rest (h.set a1 (aI n1 (va_cpy f g sp dp n))) r h') : Rx M (d + 1) pc ls (.int z :: .int y :: .ref a1 :: .int x :: .ref a0 :: rest) h r h' := by
  subst hx; subst hy; subst hz
  refine Rx.stepH (e1 := aI n1 (va_cpy f g sp dp n)) ha1 rfl K (fun {_ _ _ _ _ _ _ _ _ _ D cA b _ _ _ _ _ _} C hR hlr hP hD hS k0 => ?_)
  obtain ⟨c1, c2, c3, c4, c5, c6, c7, c8, c9, c10⟩ := C
  obtain ⟨r1, r2, r3, r4⟩ := hR
  have gr := Nat.le_of_ble_eq_true hroom
  have q0 : (wz cA b h)[a0]? = some (b + a0, .inl (cA 0, n0, .inl f)) := wz_at ha0
  have q1 : (wz cA b h)[a1]? = some (b + a1, .inl (cA 0, n1, .inl g)) := wz_at ha1
  have cs : (nI sp).toNatClampNeg = sp := nI_clamp (by omega)
  have cd : (nI dp).toNatClampNeg = dp := nI_clamp (by omega)
  have cn : (nI n).toNatClampNeg = n := nI_clamp (by omega)
  refine va_copyi (ty := .int) c1 c2 (c3.trans hlr.1.symm) c7 (c8 _ hl) (c8 _ h1) (c8 _ h2) (c8 _ h3) c9 hP hD hS a0 a1 0 0 q0 q1 rfl rfl rfl (nI_pos (by omega)) (nI_pos (by omega)) (nI_pos (by omega)) (by rw [cs, cn]; exact g0) (by rw [cd, cn]; exact g1) (fun _ _ => rfl) (by omega) (by rw [cat_sum, show nativeFrameWords "java/lang/System" "arraycopy" 5 = 7 by decide +kernel]; omega) hd ?_
  rw [cs, cd, cn]
  exact k0
end CALLS
end
section
/-! the judgement with a postcondition: from here the method returns some r and heap h' with Q r h' -/
def Rq (M : Mi) (d pc : Nat) (ls st : List Value) (h : Hp) (Q : Option Value → Hp → Prop) : Prop := ∃ r h', Q r h' ∧ Rx M d pc ls st h r h'
def Mq (M : Mi) (d : Nat) (as : List Value) (h : Hp) (Q : Option Value → Hp → Prop) : Prop := ∃ r h', Q r h' ∧ Mx M d as h r h'
theorem Mq_of {M : Mi} {d : Nat} {as : List Value} {h : Hp} {Q : Option Value → Hp → Prop} (ls : List Value) (hp : plainName M.1.cls = true) (hen : Nat.ble (ent as).length M.2.2.1 = true) (hls : pad M.2.2.1 (ent as) = ls) (K : Rq M d 0 ls [] h Q) : Mq M d as h Q := by
  obtain ⟨r, h', q, K⟩ := K
  exact ⟨r, h', q, Mx_of ls hp hen hls K⟩
theorem Mq.mono {M : Mi} {d : Nat} {as : List Value} {h : Hp} {Q Q' : Option Value → Hp → Prop} (K : Mq M d as h Q) (hQ : ∀ r h', Q r h' → Q' r h') : Mq M d as h Q' := by
  obtain ⟨r, h', q, K⟩ := K
  exact ⟨r, h', hQ r h' q, K⟩
theorem Rq.mono {M : Mi} {d pc : Nat} {ls st : List Value} {h : Hp} {Q Q' : Option Value → Hp → Prop} (K : Rq M d pc ls st h Q) (hQ : ∀ r h', Q r h' → Q' r h') : Rq M d pc ls st h Q' := by
  obtain ⟨r, h', q, K⟩ := K
  exact ⟨r, h', hQ r h' q, K⟩
theorem Rx.q {M : Mi} {d pc : Nat} {ls st : List Value} {h : Hp} {r : Option Value} {h' : Hp} {Q : Option Value → Hp → Prop} (K : Rx M d pc ls st h r h') (q : Q r h') : Rq M d pc ls st h Q := ⟨r, h', q, K⟩
theorem Mx.q {M : Mi} {d : Nat} {as : List Value} {h : Hp} {r : Option Value} {h' : Hp} {Q : Option Value → Hp → Prop} (K : Mx M d as h r h') (q : Q r h') : Mq M d as h Q := ⟨r, h', q, K⟩
theorem Rq_iconst {Q : Option Value → Hp → Prop} {M : Mi} {d pc : Nat} {ls st : List Value} {h : Hp} {n : Int} (v : Int32) (hd : decode M.2.1 pc = .ok (.iconst n, 1)) (hv : Int32.ofInt n = v) (K : Rq M d (pc + 1) ls (.int v :: st) h Q) : Rq M d pc ls st h Q := by
  obtain ⟨r, h', q, K⟩ := K
  exact ⟨r, h', q, Rx_iconst v hd hv K⟩
theorem Rq_bipush {Q : Option Value → Hp → Prop} {M : Mi} {d pc : Nat} {ls st : List Value} {h : Hp} {n : Int} (v : Int32) (hd : decode M.2.1 pc = .ok (.bipush n, 2)) (hv : (Int8.ofInt n).toInt32 = v) (K : Rq M d (pc + 2) ls (.int v :: st) h Q) : Rq M d pc ls st h Q := by
  obtain ⟨r, h', q, K⟩ := K
  exact ⟨r, h', q, Rx_bipush v hd hv K⟩
theorem Rq_sipush {Q : Option Value → Hp → Prop} {M : Mi} {d pc : Nat} {ls st : List Value} {h : Hp} {n : Int} (v : Int32) (hd : decode M.2.1 pc = .ok (.sipush n, 3)) (hv : (Int16.ofInt n).toInt32 = v) (K : Rq M d (pc + 3) ls (.int v :: st) h Q) : Rq M d pc ls st h Q := by
  obtain ⟨r, h', q, K⟩ := K
  exact ⟨r, h', q, Rx_sipush v hd hv K⟩
theorem Rq_lconst {Q : Option Value → Hp → Prop} {M : Mi} {d pc : Nat} {ls st : List Value} {h : Hp} {n : Fin 2} (v : Int64) (hd : decode M.2.1 pc = .ok (.lconst n, 1)) (hv : Int64.ofNat (n : Nat) = v) (K : Rq M d (pc + 1) ls (.long v :: st) h Q) : Rq M d pc ls st h Q := by
  obtain ⟨r, h', q, K⟩ := K
  exact ⟨r, h', q, Rx_lconst v hd hv K⟩
theorem Rq_ldc {Q : Option Value → Hp → Prop} {M : Mi} {d pc : Nat} {ls st : List Value} {h : Hp} {idx : Nat} {v : Int32} (hd : decode M.2.1 pc = .ok (.ldc idx, 2)) (hc : Cond.constant M.1.cls idx v ∈ gtbl) (K : Rq M d (pc + 2) ls (.int v :: st) h Q) : Rq M d pc ls st h Q := by
  obtain ⟨r, h', q, K⟩ := K
  exact ⟨r, h', q, Rx_ldc hd hc K⟩
theorem Rq_ldcw {Q : Option Value → Hp → Prop} {M : Mi} {d pc : Nat} {ls st : List Value} {h : Hp} {idx : Nat} {v : Int32} (hd : decode M.2.1 pc = .ok (.ldc_w idx, 3)) (hc : Cond.constant M.1.cls idx v ∈ gtbl) (K : Rq M d (pc + 3) ls (.int v :: st) h Q) : Rq M d pc ls st h Q := by
  obtain ⟨r, h', q, K⟩ := K
  exact ⟨r, h', q, Rx_ldcw hd hc K⟩
theorem Rq_ldc2 {Q : Option Value → Hp → Prop} {M : Mi} {d pc : Nat} {ls st : List Value} {h : Hp} {idx : Nat} {v : Int64} (hd : decode M.2.1 pc = .ok (.ldc2_w idx, 3)) (hc : Cond.constantLong M.1.cls idx v ∈ gtbl) (K : Rq M d (pc + 3) ls (.long v :: st) h Q) : Rq M d pc ls st h Q := by
  obtain ⟨r, h', q, K⟩ := K
  exact ⟨r, h', q, Rx_ldc2 hd hc K⟩
theorem Rq_ldcf {Q : Option Value → Hp → Prop} {M : Mi} {d pc : Nat} {ls st : List Value} {h : Hp} {idx : Nat} {v : UInt32} (hd : decode M.2.1 pc = .ok (.ldc idx, 2)) (hc : Cond.constantFloat M.1.cls idx v ∈ gtbl) (K : Rq M d (pc + 2) ls (.float v :: st) h Q) : Rq M d pc ls st h Q := by
  obtain ⟨r, h', q, K⟩ := K
  exact ⟨r, h', q, Rx_ldcf hd hc K⟩
theorem Rq_iload {Q : Option Value → Hp → Prop} {M : Mi} {d pc : Nat} {ls st : List Value} {h : Hp} {i : Nat} {x : Int32} (hd : decode M.2.1 pc = .ok (.iload i, 2)) (hi : lat ls i = some (.int x)) (K : Rq M d (pc + 2) ls (.int x :: st) h Q) : Rq M d pc ls st h Q := by
  obtain ⟨r, h', q, K⟩ := K
  exact ⟨r, h', q, Rx_iload hd hi K⟩
theorem Rq_iload_n {Q : Option Value → Hp → Prop} {M : Mi} {d pc : Nat} {ls st : List Value} {h : Hp} {i : Fin 4} {x : Int32} (hd : decode M.2.1 pc = .ok (.iload_n i, 1)) (hi : lat ls i.val = some (.int x)) (K : Rq M d (pc + 1) ls (.int x :: st) h Q) : Rq M d pc ls st h Q := by
  obtain ⟨r, h', q, K⟩ := K
  exact ⟨r, h', q, Rx_iload_n hd hi K⟩
theorem Rq_lload {Q : Option Value → Hp → Prop} {M : Mi} {d pc : Nat} {ls st : List Value} {h : Hp} {i : Nat} {x : Int64} (hd : decode M.2.1 pc = .ok (.lload i, 2)) (hi : lat ls i = some (.long x)) (K : Rq M d (pc + 2) ls (.long x :: st) h Q) : Rq M d pc ls st h Q := by
  obtain ⟨r, h', q, K⟩ := K
  exact ⟨r, h', q, Rx_lload hd hi K⟩
theorem Rq_lload_n {Q : Option Value → Hp → Prop} {M : Mi} {d pc : Nat} {ls st : List Value} {h : Hp} {i : Fin 4} {x : Int64} (hd : decode M.2.1 pc = .ok (.lload_n i, 1)) (hi : lat ls i.val = some (.long x)) (K : Rq M d (pc + 1) ls (.long x :: st) h Q) : Rq M d pc ls st h Q := by
  obtain ⟨r, h', q, K⟩ := K
  exact ⟨r, h', q, Rx_lload_n hd hi K⟩
theorem Rq_aload {Q : Option Value → Hp → Prop} {M : Mi} {d pc : Nat} {ls st : List Value} {h : Hp} {i : Nat} {x : Nat} (hd : decode M.2.1 pc = .ok (.aload i, 2)) (hi : lat ls i = some (.ref x)) (K : Rq M d (pc + 2) ls (.ref x :: st) h Q) : Rq M d pc ls st h Q := by
  obtain ⟨r, h', q, K⟩ := K
  exact ⟨r, h', q, Rx_aload hd hi K⟩
theorem Rq_aload_n {Q : Option Value → Hp → Prop} {M : Mi} {d pc : Nat} {ls st : List Value} {h : Hp} {i : Fin 4} {x : Nat} (hd : decode M.2.1 pc = .ok (.aload_n i, 1)) (hi : lat ls i.val = some (.ref x)) (K : Rq M d (pc + 1) ls (.ref x :: st) h Q) : Rq M d pc ls st h Q := by
  obtain ⟨r, h', q, K⟩ := K
  exact ⟨r, h', q, Rx_aload_n hd hi K⟩
theorem Rq_fload_n {Q : Option Value → Hp → Prop} {M : Mi} {d pc : Nat} {ls st : List Value} {h : Hp} {i : Fin 4} {x : UInt32} (hd : decode M.2.1 pc = .ok (.fload_n i, 1)) (hi : lat ls i.val = some (.float x)) (K : Rq M d (pc + 1) ls (.float x :: st) h Q) : Rq M d pc ls st h Q := by
  obtain ⟨r, h', q, K⟩ := K
  exact ⟨r, h', q, Rx_fload_n hd hi K⟩
theorem Rq_istore {Q : Option Value → Hp → Prop} {M : Mi} {d pc : Nat} {ls st : List Value} {h : Hp} {i : Nat} {x : Int32} (ls' : List Value) (hd : decode M.2.1 pc = .ok (.istore i, 2)) (hn : nol ls i = true) (hi : Nat.ble (i + 1) M.2.2.1 = true) (hs : lse ls i (.int x) = ls') (K : Rq M d (pc + 2) ls' st h Q) : Rq M d pc ls (.int x :: st) h Q := by
  obtain ⟨r, h', q, K⟩ := K
  exact ⟨r, h', q, Rx_istore ls' hd hn hi hs K⟩
theorem Rq_istore_n {Q : Option Value → Hp → Prop} {M : Mi} {d pc : Nat} {ls st : List Value} {h : Hp} {i : Fin 4} {x : Int32} (ls' : List Value) (hd : decode M.2.1 pc = .ok (.istore_n i, 1)) (hn : nol ls i.val = true) (hi : Nat.ble (i.val + 1) M.2.2.1 = true) (hs : lse ls i.val (.int x) = ls') (K : Rq M d (pc + 1) ls' st h Q) : Rq M d pc ls (.int x :: st) h Q := by
  obtain ⟨r, h', q, K⟩ := K
  exact ⟨r, h', q, Rx_istore_n ls' hd hn hi hs K⟩
theorem Rq_astore {Q : Option Value → Hp → Prop} {M : Mi} {d pc : Nat} {ls st : List Value} {h : Hp} {i : Nat} {x : Nat} (ls' : List Value) (hd : decode M.2.1 pc = .ok (.astore i, 2)) (hn : nol ls i = true) (hi : Nat.ble (i + 1) M.2.2.1 = true) (hs : lse ls i (.ref x) = ls') (K : Rq M d (pc + 2) ls' st h Q) : Rq M d pc ls (.ref x :: st) h Q := by
  obtain ⟨r, h', q, K⟩ := K
  exact ⟨r, h', q, Rx_astore ls' hd hn hi hs K⟩
theorem Rq_astore_n {Q : Option Value → Hp → Prop} {M : Mi} {d pc : Nat} {ls st : List Value} {h : Hp} {i : Fin 4} {x : Nat} (ls' : List Value) (hd : decode M.2.1 pc = .ok (.astore_n i, 1)) (hn : nol ls i.val = true) (hi : Nat.ble (i.val + 1) M.2.2.1 = true) (hs : lse ls i.val (.ref x) = ls') (K : Rq M d (pc + 1) ls' st h Q) : Rq M d pc ls (.ref x :: st) h Q := by
  obtain ⟨r, h', q, K⟩ := K
  exact ⟨r, h', q, Rx_astore_n ls' hd hn hi hs K⟩
theorem Rq_lstore {Q : Option Value → Hp → Prop} {M : Mi} {d pc : Nat} {ls st : List Value} {h : Hp} {i : Nat} {x : Int64} (ls' : List Value) (hd : decode M.2.1 pc = .ok (.lstore i, 2)) (hn : nol ls i = true) (hi : Nat.ble (i + 2) M.2.2.1 = true) (hs : lse (lse ls i (.long x)) (i + 1) (.retAddr 0) = ls') (K : Rq M d (pc + 2) ls' st h Q) : Rq M d pc ls (.long x :: st) h Q := by
  obtain ⟨r, h', q, K⟩ := K
  exact ⟨r, h', q, Rx_lstore ls' hd hn hi hs K⟩
theorem Rq_lstore_n {Q : Option Value → Hp → Prop} {M : Mi} {d pc : Nat} {ls st : List Value} {h : Hp} {i : Fin 4} {x : Int64} (ls' : List Value) (hd : decode M.2.1 pc = .ok (.lstore_n i, 1)) (hn : nol ls i.val = true) (hi : Nat.ble (i.val + 2) M.2.2.1 = true) (hs : lse (lse ls i.val (.long x)) (i.val + 1) (.retAddr 0) = ls') (K : Rq M d (pc + 1) ls' st h Q) : Rq M d pc ls (.long x :: st) h Q := by
  obtain ⟨r, h', q, K⟩ := K
  exact ⟨r, h', q, Rx_lstore_n ls' hd hn hi hs K⟩
theorem Rq_iinc {Q : Option Value → Hp → Prop} {M : Mi} {d pc : Nat} {ls st : List Value} {h : Hp} {i : Nat} {n : Int} {x : Int32} (ls' : List Value) (c : Int32) (hd : decode M.2.1 pc = .ok (.iinc i n, 3)) (hx : lat ls i = some (.int x)) (hc : Int32.ofInt n = c) (hn : nol ls i = true) (hi : Nat.ble (i + 1) M.2.2.1 = true) (hs : lse ls i (.int (x + c)) = ls') (K : Rq M d (pc + 3) ls' st h Q) : Rq M d pc ls st h Q := by
  obtain ⟨r, h', q, K⟩ := K
  exact ⟨r, h', q, Rx_iinc ls' c hd hx hc hn hi hs K⟩
theorem Rq_iadd {Q : Option Value → Hp → Prop} {M : Mi} {d pc : Nat} {ls st : List Value} {h : Hp} {x y : Int32} (hd : decode M.2.1 pc = .ok (.iadd, 1)) (K : Rq M d (pc + 1) ls (.int (x + y) :: st) h Q) : Rq M d pc ls (.int y :: .int x :: st) h Q := by
  obtain ⟨r, h', q, K⟩ := K
  exact ⟨r, h', q, Rx_iadd hd K⟩
theorem Rq_isub {Q : Option Value → Hp → Prop} {M : Mi} {d pc : Nat} {ls st : List Value} {h : Hp} {x y : Int32} (hd : decode M.2.1 pc = .ok (.isub, 1)) (K : Rq M d (pc + 1) ls (.int (x - y) :: st) h Q) : Rq M d pc ls (.int y :: .int x :: st) h Q := by
  obtain ⟨r, h', q, K⟩ := K
  exact ⟨r, h', q, Rx_isub hd K⟩
theorem Rq_imul {Q : Option Value → Hp → Prop} {M : Mi} {d pc : Nat} {ls st : List Value} {h : Hp} {x y : Int32} (hd : decode M.2.1 pc = .ok (.imul, 1)) (K : Rq M d (pc + 1) ls (.int (x * y) :: st) h Q) : Rq M d pc ls (.int y :: .int x :: st) h Q := by
  obtain ⟨r, h', q, K⟩ := K
  exact ⟨r, h', q, Rx_imul hd K⟩
theorem Rq_iand {Q : Option Value → Hp → Prop} {M : Mi} {d pc : Nat} {ls st : List Value} {h : Hp} {x y : Int32} (hd : decode M.2.1 pc = .ok (.iand, 1)) (K : Rq M d (pc + 1) ls (.int (x &&& y) :: st) h Q) : Rq M d pc ls (.int y :: .int x :: st) h Q := by
  obtain ⟨r, h', q, K⟩ := K
  exact ⟨r, h', q, Rx_iand hd K⟩
theorem Rq_ior {Q : Option Value → Hp → Prop} {M : Mi} {d pc : Nat} {ls st : List Value} {h : Hp} {x y : Int32} (hd : decode M.2.1 pc = .ok (.ior, 1)) (K : Rq M d (pc + 1) ls (.int (x ||| y) :: st) h Q) : Rq M d pc ls (.int y :: .int x :: st) h Q := by
  obtain ⟨r, h', q, K⟩ := K
  exact ⟨r, h', q, Rx_ior hd K⟩
theorem Rq_ixor {Q : Option Value → Hp → Prop} {M : Mi} {d pc : Nat} {ls st : List Value} {h : Hp} {x y : Int32} (hd : decode M.2.1 pc = .ok (.ixor, 1)) (K : Rq M d (pc + 1) ls (.int (x ^^^ y) :: st) h Q) : Rq M d pc ls (.int y :: .int x :: st) h Q := by
  obtain ⟨r, h', q, K⟩ := K
  exact ⟨r, h', q, Rx_ixor hd K⟩
theorem Rq_ishl {Q : Option Value → Hp → Prop} {M : Mi} {d pc : Nat} {ls st : List Value} {h : Hp} {x y : Int32} (hd : decode M.2.1 pc = .ok (.ishl, 1)) (K : Rq M d (pc + 1) ls (.int (x <<< (y &&& 31)) :: st) h Q) : Rq M d pc ls (.int y :: .int x :: st) h Q := by
  obtain ⟨r, h', q, K⟩ := K
  exact ⟨r, h', q, Rx_ishl hd K⟩
theorem Rq_ishr {Q : Option Value → Hp → Prop} {M : Mi} {d pc : Nat} {ls st : List Value} {h : Hp} {x y : Int32} (hd : decode M.2.1 pc = .ok (.ishr, 1)) (K : Rq M d (pc + 1) ls (.int (x >>> (y &&& 31)) :: st) h Q) : Rq M d pc ls (.int y :: .int x :: st) h Q := by
  obtain ⟨r, h', q, K⟩ := K
  exact ⟨r, h', q, Rx_ishr hd K⟩
theorem Rq_iushr {Q : Option Value → Hp → Prop} {M : Mi} {d pc : Nat} {ls st : List Value} {h : Hp} {x y : Int32} (hd : decode M.2.1 pc = .ok (.iushr, 1)) (K : Rq M d (pc + 1) ls (.int ((x.toUInt32 >>> (y.toUInt32 &&& Int32.toUInt32 31)).toInt32) :: st) h Q) : Rq M d pc ls (.int y :: .int x :: st) h Q := by
  obtain ⟨r, h', q, K⟩ := K
  exact ⟨r, h', q, Rx_iushr hd K⟩
theorem Rq_ladd {Q : Option Value → Hp → Prop} {M : Mi} {d pc : Nat} {ls st : List Value} {h : Hp} {x y : Int64} (hd : decode M.2.1 pc = .ok (.ladd, 1)) (K : Rq M d (pc + 1) ls (.long (x + y) :: st) h Q) : Rq M d pc ls (.long y :: .long x :: st) h Q := by
  obtain ⟨r, h', q, K⟩ := K
  exact ⟨r, h', q, Rx_ladd hd K⟩
theorem Rq_lsub {Q : Option Value → Hp → Prop} {M : Mi} {d pc : Nat} {ls st : List Value} {h : Hp} {x y : Int64} (hd : decode M.2.1 pc = .ok (.lsub, 1)) (K : Rq M d (pc + 1) ls (.long (x - y) :: st) h Q) : Rq M d pc ls (.long y :: .long x :: st) h Q := by
  obtain ⟨r, h', q, K⟩ := K
  exact ⟨r, h', q, Rx_lsub hd K⟩
theorem Rq_lmul {Q : Option Value → Hp → Prop} {M : Mi} {d pc : Nat} {ls st : List Value} {h : Hp} {x y : Int64} (hd : decode M.2.1 pc = .ok (.lmul, 1)) (K : Rq M d (pc + 1) ls (.long (x * y) :: st) h Q) : Rq M d pc ls (.long y :: .long x :: st) h Q := by
  obtain ⟨r, h', q, K⟩ := K
  exact ⟨r, h', q, Rx_lmul hd K⟩
theorem Rq_land {Q : Option Value → Hp → Prop} {M : Mi} {d pc : Nat} {ls st : List Value} {h : Hp} {x y : Int64} (hd : decode M.2.1 pc = .ok (.land, 1)) (K : Rq M d (pc + 1) ls (.long (x &&& y) :: st) h Q) : Rq M d pc ls (.long y :: .long x :: st) h Q := by
  obtain ⟨r, h', q, K⟩ := K
  exact ⟨r, h', q, Rx_land hd K⟩
theorem Rq_lor {Q : Option Value → Hp → Prop} {M : Mi} {d pc : Nat} {ls st : List Value} {h : Hp} {x y : Int64} (hd : decode M.2.1 pc = .ok (.lor, 1)) (K : Rq M d (pc + 1) ls (.long (x ||| y) :: st) h Q) : Rq M d pc ls (.long y :: .long x :: st) h Q := by
  obtain ⟨r, h', q, K⟩ := K
  exact ⟨r, h', q, Rx_lor hd K⟩
theorem Rq_lxor {Q : Option Value → Hp → Prop} {M : Mi} {d pc : Nat} {ls st : List Value} {h : Hp} {x y : Int64} (hd : decode M.2.1 pc = .ok (.lxor, 1)) (K : Rq M d (pc + 1) ls (.long (x ^^^ y) :: st) h Q) : Rq M d pc ls (.long y :: .long x :: st) h Q := by
  obtain ⟨r, h', q, K⟩ := K
  exact ⟨r, h', q, Rx_lxor hd K⟩
theorem Rq_lushr {Q : Option Value → Hp → Prop} {M : Mi} {d pc : Nat} {ls st : List Value} {h : Hp} {x : Int64} {y : Int32} (hd : decode M.2.1 pc = .ok (.lushr, 1)) (K : Rq M d (pc + 1) ls (.long ((x.toUInt64 >>> (y.toInt64.toUInt64 &&& Int64.toUInt64 63)).toInt64) :: st) h Q) : Rq M d pc ls (.int y :: .long x :: st) h Q := by
  obtain ⟨r, h', q, K⟩ := K
  exact ⟨r, h', q, Rx_lushr hd K⟩
theorem Rq_lcmp {Q : Option Value → Hp → Prop} {M : Mi} {d pc : Nat} {ls st : List Value} {h : Hp} {x y : Int64} (hd : decode M.2.1 pc = .ok (.lcmp, 1)) (K : Rq M d (pc + 1) ls (.int (lg_cmp x y) :: st) h Q) : Rq M d pc ls (.long y :: .long x :: st) h Q := by
  obtain ⟨r, h', q, K⟩ := K
  exact ⟨r, h', q, Rx_lcmp hd K⟩
theorem Rq_ineg {Q : Option Value → Hp → Prop} {M : Mi} {d pc : Nat} {ls st : List Value} {h : Hp} {x : Int32} (hd : decode M.2.1 pc = .ok (.ineg, 1)) (K : Rq M d (pc + 1) ls (.int (-x) :: st) h Q) : Rq M d pc ls (.int x :: st) h Q := by
  obtain ⟨r, h', q, K⟩ := K
  exact ⟨r, h', q, Rx_ineg hd K⟩
theorem Rq_i2l {Q : Option Value → Hp → Prop} {M : Mi} {d pc : Nat} {ls st : List Value} {h : Hp} {x : Int32} (hd : decode M.2.1 pc = .ok (.i2l, 1)) (K : Rq M d (pc + 1) ls (.long x.toInt64 :: st) h Q) : Rq M d pc ls (.int x :: st) h Q := by
  obtain ⟨r, h', q, K⟩ := K
  exact ⟨r, h', q, Rx_i2l hd K⟩
theorem Rq_l2i {Q : Option Value → Hp → Prop} {M : Mi} {d pc : Nat} {ls st : List Value} {h : Hp} {x : Int64} (hd : decode M.2.1 pc = .ok (.l2i, 1)) (K : Rq M d (pc + 1) ls (.int x.toInt32 :: st) h Q) : Rq M d pc ls (.long x :: st) h Q := by
  obtain ⟨r, h', q, K⟩ := K
  exact ⟨r, h', q, Rx_l2i hd K⟩
theorem Rq_i2f {Q : Option Value → Hp → Prop} {M : Mi} {d pc : Nat} {ls st : List Value} {h : Hp} {x : Int32} (hd : decode M.2.1 pc = .ok (.i2f, 1)) (K : Rq M d (pc + 1) ls (.float (FP.i2f x) :: st) h Q) : Rq M d pc ls (.int x :: st) h Q := by
  obtain ⟨r, h', q, K⟩ := K
  exact ⟨r, h', q, Rx_i2f hd K⟩
theorem Rq_fcmp {Q : Option Value → Hp → Prop} {M : Mi} {d pc : Nat} {ls st : List Value} {h : Hp} {x y : UInt32} {op : CmpOp} (hd : decode M.2.1 pc = .ok (.fcmp op, 1)) (K : Rq M d (pc + 1) ls (.int (Op.cmpValue (FP.fcmp x y) op) :: st) h Q) : Rq M d pc ls (.float y :: .float x :: st) h Q := by
  obtain ⟨r, h', q, K⟩ := K
  exact ⟨r, h', q, Rx_fcmp hd K⟩
theorem Rq_idiv {Q : Option Value → Hp → Prop} {M : Mi} {d pc : Nat} {ls st : List Value} {h : Hp} {x y : Int32} (hd : decode M.2.1 pc = .ok (.idiv, 1)) (hy : ¬ y = 0) (K : Rq M d (pc + 1) ls (.int (x / y) :: st) h Q) : Rq M d pc ls (.int y :: .int x :: st) h Q := by
  obtain ⟨r, h', q, K⟩ := K
  exact ⟨r, h', q, Rx_idiv hd hy K⟩
theorem Rq_irem {Q : Option Value → Hp → Prop} {M : Mi} {d pc : Nat} {ls st : List Value} {h : Hp} {x y : Int32} (hd : decode M.2.1 pc = .ok (.irem, 1)) (hy : ¬ y = 0) (K : Rq M d (pc + 1) ls (.int (x - x / y * y) :: st) h Q) : Rq M d pc ls (.int y :: .int x :: st) h Q := by
  obtain ⟨r, h', q, K⟩ := K
  exact ⟨r, h', q, Rx_irem hd hy K⟩
theorem Rq_lrem {Q : Option Value → Hp → Prop} {M : Mi} {d pc : Nat} {ls st : List Value} {h : Hp} {x y : Int64} (hd : decode M.2.1 pc = .ok (.lrem, 1)) (hy : ¬ y = 0) (K : Rq M d (pc + 1) ls (.long (x - x / y * y) :: st) h Q) : Rq M d pc ls (.long y :: .long x :: st) h Q := by
  obtain ⟨r, h', q, K⟩ := K
  exact ⟨r, h', q, Rx_lrem hd hy K⟩
theorem Rq_ldiv {Q : Option Value → Hp → Prop} {M : Mi} {d pc : Nat} {ls st : List Value} {h : Hp} {x y : Int64} (hd : decode M.2.1 pc = .ok (.ldiv, 1)) (hy : ¬ y = 0) (K : Rq M d (pc + 1) ls (.long (x / y) :: st) h Q) : Rq M d pc ls (.long y :: .long x :: st) h Q := by
  obtain ⟨r, h', q, K⟩ := K
  exact ⟨r, h', q, Rx_ldiv hd hy K⟩
theorem Rq_fdiv {Q : Option Value → Hp → Prop} {M : Mi} {d pc : Nat} {ls st : List Value} {h : Hp} {x y : UInt32} (hd : decode M.2.1 pc = .ok (.fdiv, 1)) (hy : vf_n32 (FP.fdiv x y)) (K : Rq M d (pc + 1) ls (.float (FP.fdiv x y) :: st) h Q) : Rq M d pc ls (.float y :: .float x :: st) h Q := by
  obtain ⟨r, h', q, K⟩ := K
  exact ⟨r, h', q, Rx_fdiv hd hy K⟩
theorem Rq_dup {Q : Option Value → Hp → Prop} {M : Mi} {d pc : Nat} {ls st : List Value} {h : Hp} {v : Value} (hd : decode M.2.1 pc = .ok (.dup, 1)) (hv : v.category = 1) (K : Rq M d (pc + 1) ls (v :: v :: st) h Q) : Rq M d pc ls (v :: st) h Q := by
  obtain ⟨r, h', q, K⟩ := K
  exact ⟨r, h', q, Rx_dup hd hv K⟩
theorem Rq_pop {Q : Option Value → Hp → Prop} {M : Mi} {d pc : Nat} {ls st : List Value} {h : Hp} {v : Value} (hd : decode M.2.1 pc = .ok (.pop, 1)) (hv : v.category = 1) (K : Rq M d (pc + 1) ls st h Q) : Rq M d pc ls (v :: st) h Q := by
  obtain ⟨r, h', q, K⟩ := K
  exact ⟨r, h', q, Rx_pop hd hv K⟩
theorem Rq_dup2 {Q : Option Value → Hp → Prop} {M : Mi} {d pc : Nat} {ls st : List Value} {h : Hp} {v w : Value} (hd : decode M.2.1 pc = .ok (.dup2, 1)) (hv : v.category = 1) (hw : w.category = 1) (K : Rq M d (pc + 1) ls (v :: w :: v :: w :: st) h Q) : Rq M d pc ls (v :: w :: st) h Q := by
  obtain ⟨r, h', q, K⟩ := K
  exact ⟨r, h', q, Rx_dup2 hd hv hw K⟩
theorem Rq_dup_x1 {Q : Option Value → Hp → Prop} {M : Mi} {d pc : Nat} {ls st : List Value} {h : Hp} {v w : Value} (hd : decode M.2.1 pc = .ok (.dup_x1, 1)) (hv : v.category = 1) (hw : w.category = 1) (K : Rq M d (pc + 1) ls (v :: w :: v :: st) h Q) : Rq M d pc ls (v :: w :: st) h Q := by
  obtain ⟨r, h', q, K⟩ := K
  exact ⟨r, h', q, Rx_dup_x1 hd hv hw K⟩
theorem Rq_goto {Q : Option Value → Hp → Prop} {M : Mi} {d pc : Nat} {ls st : List Value} {h : Hp} {off : Int} (tgt : Nat) (hd : decode M.2.1 pc = .ok (.goto off, 3)) (ht : (pc : Int) + off = (tgt : Int)) (K : Rq M d tgt ls st h Q) : Rq M d pc ls st h Q := by
  obtain ⟨r, h', q, K⟩ := K
  exact ⟨r, h', q, Rx_goto tgt hd ht K⟩
theorem Rq_icmp_eq_t {Q : Option Value → Hp → Prop} {M : Mi} {d pc : Nat} {ls st : List Value} {h : Hp} {x y : Int32} {off : Int} (tgt : Nat) (hd : decode M.2.1 pc = .ok (.if_icmp .eq off, 3)) (ht : (pc : Int) + off = (tgt : Int)) (hc : x = y) (K : Rq M d tgt ls st h Q) : Rq M d pc ls (.int y :: .int x :: st) h Q := by
  obtain ⟨r, h', q, K⟩ := K
  exact ⟨r, h', q, Rx_icmp_eq_t tgt hd ht hc K⟩
theorem Rq_icmp_eq_f {Q : Option Value → Hp → Prop} {M : Mi} {d pc : Nat} {ls st : List Value} {h : Hp} {x y : Int32} {off : Int} (tgt : Nat) (hd : decode M.2.1 pc = .ok (.if_icmp .eq off, 3)) (ht : (pc : Int) + off = (tgt : Int)) (hc : ¬ x = y) (K : Rq M d (pc + 3) ls st h Q) : Rq M d pc ls (.int y :: .int x :: st) h Q := by
  obtain ⟨r, h', q, K⟩ := K
  exact ⟨r, h', q, Rx_icmp_eq_f tgt hd ht hc K⟩
theorem Rq_if_eq_t {Q : Option Value → Hp → Prop} {M : Mi} {d pc : Nat} {ls st : List Value} {h : Hp} {x : Int32} {off : Int} (tgt : Nat) (hd : decode M.2.1 pc = .ok (.ifCond .eq off, 3)) (ht : (pc : Int) + off = (tgt : Int)) (hc : x = 0) (K : Rq M d tgt ls st h Q) : Rq M d pc ls (.int x :: st) h Q := by
  obtain ⟨r, h', q, K⟩ := K
  exact ⟨r, h', q, Rx_if_eq_t tgt hd ht hc K⟩
theorem Rq_if_eq_f {Q : Option Value → Hp → Prop} {M : Mi} {d pc : Nat} {ls st : List Value} {h : Hp} {x : Int32} {off : Int} (tgt : Nat) (hd : decode M.2.1 pc = .ok (.ifCond .eq off, 3)) (ht : (pc : Int) + off = (tgt : Int)) (hc : ¬ x = 0) (K : Rq M d (pc + 3) ls st h Q) : Rq M d pc ls (.int x :: st) h Q := by
  obtain ⟨r, h', q, K⟩ := K
  exact ⟨r, h', q, Rx_if_eq_f tgt hd ht hc K⟩
theorem Rq_icmp_ne_t {Q : Option Value → Hp → Prop} {M : Mi} {d pc : Nat} {ls st : List Value} {h : Hp} {x y : Int32} {off : Int} (tgt : Nat) (hd : decode M.2.1 pc = .ok (.if_icmp .ne off, 3)) (ht : (pc : Int) + off = (tgt : Int)) (hc : ¬ x = y) (K : Rq M d tgt ls st h Q) : Rq M d pc ls (.int y :: .int x :: st) h Q := by
  obtain ⟨r, h', q, K⟩ := K
  exact ⟨r, h', q, Rx_icmp_ne_t tgt hd ht hc K⟩
theorem Rq_icmp_ne_f {Q : Option Value → Hp → Prop} {M : Mi} {d pc : Nat} {ls st : List Value} {h : Hp} {x y : Int32} {off : Int} (tgt : Nat) (hd : decode M.2.1 pc = .ok (.if_icmp .ne off, 3)) (ht : (pc : Int) + off = (tgt : Int)) (hc : x = y) (K : Rq M d (pc + 3) ls st h Q) : Rq M d pc ls (.int y :: .int x :: st) h Q := by
  obtain ⟨r, h', q, K⟩ := K
  exact ⟨r, h', q, Rx_icmp_ne_f tgt hd ht hc K⟩
theorem Rq_if_ne_t {Q : Option Value → Hp → Prop} {M : Mi} {d pc : Nat} {ls st : List Value} {h : Hp} {x : Int32} {off : Int} (tgt : Nat) (hd : decode M.2.1 pc = .ok (.ifCond .ne off, 3)) (ht : (pc : Int) + off = (tgt : Int)) (hc : ¬ x = 0) (K : Rq M d tgt ls st h Q) : Rq M d pc ls (.int x :: st) h Q := by
  obtain ⟨r, h', q, K⟩ := K
  exact ⟨r, h', q, Rx_if_ne_t tgt hd ht hc K⟩
theorem Rq_if_ne_f {Q : Option Value → Hp → Prop} {M : Mi} {d pc : Nat} {ls st : List Value} {h : Hp} {x : Int32} {off : Int} (tgt : Nat) (hd : decode M.2.1 pc = .ok (.ifCond .ne off, 3)) (ht : (pc : Int) + off = (tgt : Int)) (hc : x = 0) (K : Rq M d (pc + 3) ls st h Q) : Rq M d pc ls (.int x :: st) h Q := by
  obtain ⟨r, h', q, K⟩ := K
  exact ⟨r, h', q, Rx_if_ne_f tgt hd ht hc K⟩
theorem Rq_icmp_lt_t {Q : Option Value → Hp → Prop} {M : Mi} {d pc : Nat} {ls st : List Value} {h : Hp} {x y : Int32} {off : Int} (tgt : Nat) (hd : decode M.2.1 pc = .ok (.if_icmp .lt off, 3)) (ht : (pc : Int) + off = (tgt : Int)) (hc : x < y) (K : Rq M d tgt ls st h Q) : Rq M d pc ls (.int y :: .int x :: st) h Q := by
  obtain ⟨r, h', q, K⟩ := K
  exact ⟨r, h', q, Rx_icmp_lt_t tgt hd ht hc K⟩
theorem Rq_icmp_lt_f {Q : Option Value → Hp → Prop} {M : Mi} {d pc : Nat} {ls st : List Value} {h : Hp} {x y : Int32} {off : Int} (tgt : Nat) (hd : decode M.2.1 pc = .ok (.if_icmp .lt off, 3)) (ht : (pc : Int) + off = (tgt : Int)) (hc : ¬ x < y) (K : Rq M d (pc + 3) ls st h Q) : Rq M d pc ls (.int y :: .int x :: st) h Q := by
  obtain ⟨r, h', q, K⟩ := K
  exact ⟨r, h', q, Rx_icmp_lt_f tgt hd ht hc K⟩
theorem Rq_if_lt_t {Q : Option Value → Hp → Prop} {M : Mi} {d pc : Nat} {ls st : List Value} {h : Hp} {x : Int32} {off : Int} (tgt : Nat) (hd : decode M.2.1 pc = .ok (.ifCond .lt off, 3)) (ht : (pc : Int) + off = (tgt : Int)) (hc : x < 0) (K : Rq M d tgt ls st h Q) : Rq M d pc ls (.int x :: st) h Q := by
  obtain ⟨r, h', q, K⟩ := K
  exact ⟨r, h', q, Rx_if_lt_t tgt hd ht hc K⟩
theorem Rq_if_lt_f {Q : Option Value → Hp → Prop} {M : Mi} {d pc : Nat} {ls st : List Value} {h : Hp} {x : Int32} {off : Int} (tgt : Nat) (hd : decode M.2.1 pc = .ok (.ifCond .lt off, 3)) (ht : (pc : Int) + off = (tgt : Int)) (hc : ¬ x < 0) (K : Rq M d (pc + 3) ls st h Q) : Rq M d pc ls (.int x :: st) h Q := by
  obtain ⟨r, h', q, K⟩ := K
  exact ⟨r, h', q, Rx_if_lt_f tgt hd ht hc K⟩
theorem Rq_icmp_ge_t {Q : Option Value → Hp → Prop} {M : Mi} {d pc : Nat} {ls st : List Value} {h : Hp} {x y : Int32} {off : Int} (tgt : Nat) (hd : decode M.2.1 pc = .ok (.if_icmp .ge off, 3)) (ht : (pc : Int) + off = (tgt : Int)) (hc : y ≤ x) (K : Rq M d tgt ls st h Q) : Rq M d pc ls (.int y :: .int x :: st) h Q := by
  obtain ⟨r, h', q, K⟩ := K
  exact ⟨r, h', q, Rx_icmp_ge_t tgt hd ht hc K⟩
theorem Rq_icmp_ge_f {Q : Option Value → Hp → Prop} {M : Mi} {d pc : Nat} {ls st : List Value} {h : Hp} {x y : Int32} {off : Int} (tgt : Nat) (hd : decode M.2.1 pc = .ok (.if_icmp .ge off, 3)) (ht : (pc : Int) + off = (tgt : Int)) (hc : ¬ y ≤ x) (K : Rq M d (pc + 3) ls st h Q) : Rq M d pc ls (.int y :: .int x :: st) h Q := by
  obtain ⟨r, h', q, K⟩ := K
  exact ⟨r, h', q, Rx_icmp_ge_f tgt hd ht hc K⟩
theorem Rq_if_ge_t {Q : Option Value → Hp → Prop} {M : Mi} {d pc : Nat} {ls st : List Value} {h : Hp} {x : Int32} {off : Int} (tgt : Nat) (hd : decode M.2.1 pc = .ok (.ifCond .ge off, 3)) (ht : (pc : Int) + off = (tgt : Int)) (hc : 0 ≤ x) (K : Rq M d tgt ls st h Q) : Rq M d pc ls (.int x :: st) h Q := by
  obtain ⟨r, h', q, K⟩ := K
  exact ⟨r, h', q, Rx_if_ge_t tgt hd ht hc K⟩
theorem Rq_if_ge_f {Q : Option Value → Hp → Prop} {M : Mi} {d pc : Nat} {ls st : List Value} {h : Hp} {x : Int32} {off : Int} (tgt : Nat) (hd : decode M.2.1 pc = .ok (.ifCond .ge off, 3)) (ht : (pc : Int) + off = (tgt : Int)) (hc : ¬ 0 ≤ x) (K : Rq M d (pc + 3) ls st h Q) : Rq M d pc ls (.int x :: st) h Q := by
  obtain ⟨r, h', q, K⟩ := K
  exact ⟨r, h', q, Rx_if_ge_f tgt hd ht hc K⟩
theorem Rq_icmp_gt_t {Q : Option Value → Hp → Prop} {M : Mi} {d pc : Nat} {ls st : List Value} {h : Hp} {x y : Int32} {off : Int} (tgt : Nat) (hd : decode M.2.1 pc = .ok (.if_icmp .gt off, 3)) (ht : (pc : Int) + off = (tgt : Int)) (hc : y < x) (K : Rq M d tgt ls st h Q) : Rq M d pc ls (.int y :: .int x :: st) h Q := by
  obtain ⟨r, h', q, K⟩ := K
  exact ⟨r, h', q, Rx_icmp_gt_t tgt hd ht hc K⟩
theorem Rq_icmp_gt_f {Q : Option Value → Hp → Prop} {M : Mi} {d pc : Nat} {ls st : List Value} {h : Hp} {x y : Int32} {off : Int} (tgt : Nat) (hd : decode M.2.1 pc = .ok (.if_icmp .gt off, 3)) (ht : (pc : Int) + off = (tgt : Int)) (hc : ¬ y < x) (K : Rq M d (pc + 3) ls st h Q) : Rq M d pc ls (.int y :: .int x :: st) h Q := by
  obtain ⟨r, h', q, K⟩ := K
  exact ⟨r, h', q, Rx_icmp_gt_f tgt hd ht hc K⟩
theorem Rq_if_gt_t {Q : Option Value → Hp → Prop} {M : Mi} {d pc : Nat} {ls st : List Value} {h : Hp} {x : Int32} {off : Int} (tgt : Nat) (hd : decode M.2.1 pc = .ok (.ifCond .gt off, 3)) (ht : (pc : Int) + off = (tgt : Int)) (hc : 0 < x) (K : Rq M d tgt ls st h Q) : Rq M d pc ls (.int x :: st) h Q := by
  obtain ⟨r, h', q, K⟩ := K
  exact ⟨r, h', q, Rx_if_gt_t tgt hd ht hc K⟩
theorem Rq_if_gt_f {Q : Option Value → Hp → Prop} {M : Mi} {d pc : Nat} {ls st : List Value} {h : Hp} {x : Int32} {off : Int} (tgt : Nat) (hd : decode M.2.1 pc = .ok (.ifCond .gt off, 3)) (ht : (pc : Int) + off = (tgt : Int)) (hc : ¬ 0 < x) (K : Rq M d (pc + 3) ls st h Q) : Rq M d pc ls (.int x :: st) h Q := by
  obtain ⟨r, h', q, K⟩ := K
  exact ⟨r, h', q, Rx_if_gt_f tgt hd ht hc K⟩
theorem Rq_icmp_le_t {Q : Option Value → Hp → Prop} {M : Mi} {d pc : Nat} {ls st : List Value} {h : Hp} {x y : Int32} {off : Int} (tgt : Nat) (hd : decode M.2.1 pc = .ok (.if_icmp .le off, 3)) (ht : (pc : Int) + off = (tgt : Int)) (hc : x ≤ y) (K : Rq M d tgt ls st h Q) : Rq M d pc ls (.int y :: .int x :: st) h Q := by
  obtain ⟨r, h', q, K⟩ := K
  exact ⟨r, h', q, Rx_icmp_le_t tgt hd ht hc K⟩
theorem Rq_icmp_le_f {Q : Option Value → Hp → Prop} {M : Mi} {d pc : Nat} {ls st : List Value} {h : Hp} {x y : Int32} {off : Int} (tgt : Nat) (hd : decode M.2.1 pc = .ok (.if_icmp .le off, 3)) (ht : (pc : Int) + off = (tgt : Int)) (hc : ¬ x ≤ y) (K : Rq M d (pc + 3) ls st h Q) : Rq M d pc ls (.int y :: .int x :: st) h Q := by
  obtain ⟨r, h', q, K⟩ := K
  exact ⟨r, h', q, Rx_icmp_le_f tgt hd ht hc K⟩
theorem Rq_if_le_t {Q : Option Value → Hp → Prop} {M : Mi} {d pc : Nat} {ls st : List Value} {h : Hp} {x : Int32} {off : Int} (tgt : Nat) (hd : decode M.2.1 pc = .ok (.ifCond .le off, 3)) (ht : (pc : Int) + off = (tgt : Int)) (hc : x ≤ 0) (K : Rq M d tgt ls st h Q) : Rq M d pc ls (.int x :: st) h Q := by
  obtain ⟨r, h', q, K⟩ := K
  exact ⟨r, h', q, Rx_if_le_t tgt hd ht hc K⟩
theorem Rq_if_le_f {Q : Option Value → Hp → Prop} {M : Mi} {d pc : Nat} {ls st : List Value} {h : Hp} {x : Int32} {off : Int} (tgt : Nat) (hd : decode M.2.1 pc = .ok (.ifCond .le off, 3)) (ht : (pc : Int) + off = (tgt : Int)) (hc : ¬ x ≤ 0) (K : Rq M d (pc + 3) ls st h Q) : Rq M d pc ls (.int x :: st) h Q := by
  obtain ⟨r, h', q, K⟩ := K
  exact ⟨r, h', q, Rx_if_le_f tgt hd ht hc K⟩
theorem Rq_ifnull {Q : Option Value → Hp → Prop} {M : Mi} {d pc : Nat} {ls st : List Value} {h : Hp} {a : Nat} {off : Int} (hd : decode M.2.1 pc = .ok (.ifnull off, 3)) (K : Rq M d (pc + 3) ls st h Q) : Rq M d pc ls (.ref a :: st) h Q := by
  obtain ⟨r, h', q, K⟩ := K
  exact ⟨r, h', q, Rx_ifnull hd K⟩
theorem Rq_get {M : Mi} {d : Nat} {pc : Nat} {ls : List Value} {st : List Value} {h : Hp} {Q : Option Value → Hp → Prop} {idx ci k a : Nat} {fs : List Value} {v : Value} (hd : decode M.2.1 pc = .ok (.getfield idx, 3)) (hl : FL M.1.cls idx ci k) (hh : h[a]? = some (.inr (ci, fs))) (hv : lat fs k = some v) (K : Rq M d (pc + 3) ls (v :: st) h Q) : Rq M d pc ls (.ref a :: st) h Q := by
  obtain ⟨r, h', q, K⟩ := K
  exact ⟨r, h', q, Rx_get hd hl hh hv K⟩
theorem Rq_put {M : Mi} {d : Nat} {pc : Nat} {ls : List Value} {st : List Value} {h : Hp} {Q : Option Value → Hp → Prop} {idx ci k a : Nat} {fs : List Value} {v : Value} {ty : FieldType} (fs' : List Value) (hd : decode M.2.1 pc = .ok (.putfield idx, 3)) (hl : FP M.1.cls idx ci k ty) (hh : h[a]? = some (.inr (ci, fs))) (hkl : Nat.ble (k + 1) fs.length = true) (hv : okv ty v) (hs : lse fs k v = fs') (K : Rq M d (pc + 3) ls st (h.set a (.inr (ci, fs'))) Q) : Rq M d pc ls (v :: .ref a :: st) h Q := by
  obtain ⟨r, h', q, K⟩ := K
  exact ⟨r, h', q, Rx_put fs' hd hl hh hkl hv hs K⟩
theorem Rq_putF {M : Mi} {d : Nat} {pc : Nat} {ls : List Value} {st : List Value} {h : Hp} {Q : Option Value → Hp → Prop} {idx ci k a : Nat} {fs : List Value} {v : Value} {ty : FieldType} (fs' : List Value) (hd : decode M.2.1 pc = .ok (.putfield idx, 3)) (hl : FF M.1.cls idx ci k ty) (hi : M.1.name = "<init>") (hh : h[a]? = some (.inr (ci, fs))) (hkl : Nat.ble (k + 1) fs.length = true) (hv : okv ty v) (hs : lse fs k v = fs') (K : Rq M d (pc + 3) ls st (h.set a (.inr (ci, fs'))) Q) : Rq M d pc ls (v :: .ref a :: st) h Q := by
  obtain ⟨r, h', q, K⟩ := K
  exact ⟨r, h', q, Rx_putF fs' hd hl hi hh hkl hv hs K⟩
theorem Rq_iald {M : Mi} {d : Nat} {pc : Nat} {ls : List Value} {st : List Value} {h : Hp} {Q : Option Value → Hp → Prop} {a n : Nat} {f : Nat → Int32} {i : Int32} (j : Nat) (hd : decode M.2.1 pc = .ok (.iaload, 1)) (hh : h[a]? = some (aI n f)) (hj : j < n) (hn : n < 2 ^ 31) (hi : i = nI j) (K : Rq M d (pc + 1) ls (.int (f j) :: st) h Q) : Rq M d pc ls (.int i :: .ref a :: st) h Q := by
  obtain ⟨r, h', q, K⟩ := K
  exact ⟨r, h', q, Rx_iald j hd hh hj hn hi K⟩
theorem Rq_lald {M : Mi} {d : Nat} {pc : Nat} {ls : List Value} {st : List Value} {h : Hp} {Q : Option Value → Hp → Prop} {a n : Nat} {f : Nat → Int64} {i : Int32} (j : Nat) (hd : decode M.2.1 pc = .ok (.laload, 1)) (hh : h[a]? = some (aL n f)) (hj : j < n) (hn : n < 2 ^ 31) (hi : i = nI j) (K : Rq M d (pc + 1) ls (.long (f j) :: st) h Q) : Rq M d pc ls (.int i :: .ref a :: st) h Q := by
  obtain ⟨r, h', q, K⟩ := K
  exact ⟨r, h', q, Rx_lald j hd hh hj hn hi K⟩
theorem Rq_aald {M : Mi} {d : Nat} {pc : Nat} {ls : List Value} {st : List Value} {h : Hp} {Q : Option Value → Hp → Prop} {a n q : Nat} {f : Nat → Option Nat} {i : Int32} (j : Nat) (hd : decode M.2.1 pc = .ok (.aaload, 1)) (hh : h[a]? = some (aS n f)) (hj : j < n) (hn : n < 2 ^ 31) (hi : i = nI j) (hf : f j = some q) (K : Rq M d (pc + 1) ls (.ref q :: st) h Q) : Rq M d pc ls (.int i :: .ref a :: st) h Q := by
  obtain ⟨r, h', q, K⟩ := K
  exact ⟨r, h', q, Rx_aald j hd hh hj hn hi hf K⟩
theorem Rq_iast {M : Mi} {d : Nat} {pc : Nat} {ls : List Value} {st : List Value} {h : Hp} {Q : Option Value → Hp → Prop} {a n : Nat} {f : Nat → Int32} {i x : Int32} (j : Nat) (hd : decode M.2.1 pc = .ok (.iastore, 1)) (hh : h[a]? = some (aI n f)) (hj : j < n) (hn : n < 2 ^ 31) (hi : i = nI j) (K : Rq M d (pc + 1) ls st (h.set a (aI n (upd f j x))) Q) : Rq M d pc ls (.int x :: .int i :: .ref a :: st) h Q := by
  obtain ⟨r, h', q, K⟩ := K
  exact ⟨r, h', q, Rx_iast j hd hh hj hn hi K⟩
theorem Rq_last {M : Mi} {d : Nat} {pc : Nat} {ls : List Value} {st : List Value} {h : Hp} {Q : Option Value → Hp → Prop} {a n : Nat} {f : Nat → Int64} {i : Int32} {x : Int64} (j : Nat) (hd : decode M.2.1 pc = .ok (.lastore, 1)) (hh : h[a]? = some (aL n f)) (hj : j < n) (hn : n < 2 ^ 31) (hi : i = nI j) (K : Rq M d (pc + 1) ls st (h.set a (aL n (vp_updL f j x))) Q) : Rq M d pc ls (.long x :: .int i :: .ref a :: st) h Q := by
  obtain ⟨r, h', q, K⟩ := K
  exact ⟨r, h', q, Rx_last j hd hh hj hn hi K⟩
theorem Rq_aast {M : Mi} {d : Nat} {pc : Nat} {ls : List Value} {st : List Value} {h : Hp} {Q : Option Value → Hp → Prop} {a n v : Nat} {f : Nat → Option Nat} {i : Int32} {vs : List Value} (j : Nat) (hd : decode M.2.1 pc = .ok (.aastore, 1)) (hh : h[a]? = some (aS n f)) (hj : j < n) (hn : n < 2 ^ 31) (hi : i = nI j) (hv : h[v]? = some (.inr (6, vs))) (K : Rq M d (pc + 1) ls st (h.set a (aS n (va_up f j (some v)))) Q) : Rq M d pc ls (.ref v :: .int i :: .ref a :: st) h Q := by
  obtain ⟨r, h', q, K⟩ := K
  exact ⟨r, h', q, Rx_aast j hd hh hj hn hi hv K⟩
theorem Rq_alenI {M : Mi} {d : Nat} {pc : Nat} {ls : List Value} {st : List Value} {h : Hp} {Q : Option Value → Hp → Prop} {a n : Nat} {f : Nat → Int32} (hd : decode M.2.1 pc = .ok (.arraylength, 1)) (hh : h[a]? = some (aI n f)) (K : Rq M d (pc + 1) ls (.int (nI n) :: st) h Q) : Rq M d pc ls (.ref a :: st) h Q := by
  obtain ⟨r, h', q, K⟩ := K
  exact ⟨r, h', q, Rx_alenI hd hh K⟩
theorem Rq_alenL {M : Mi} {d : Nat} {pc : Nat} {ls : List Value} {st : List Value} {h : Hp} {Q : Option Value → Hp → Prop} {a n : Nat} {f : Nat → Int64} (hd : decode M.2.1 pc = .ok (.arraylength, 1)) (hh : h[a]? = some (aL n f)) (K : Rq M d (pc + 1) ls (.int (nI n) :: st) h Q) : Rq M d pc ls (.ref a :: st) h Q := by
  obtain ⟨r, h', q, K⟩ := K
  exact ⟨r, h', q, Rx_alenL hd hh K⟩
theorem Rq_newI {M : Mi} {d : Nat} {pc : Nat} {ls : List Value} {st : List Value} {h : Hp} {Q : Option Value → Hp → Prop} {i : Int32} (n : Nat) (hd : decode M.2.1 pc = .ok (.newarray .int, 2)) (hw : Cond.arrayClass .int ∈ gtbl) (hi : i = nI n) (hn : n * 4 ≤ 536870912) (K : Rq M d (pc + 2) ls (.ref h.length :: st) (h ++ [aI n (fun _ => 0)]) Q) : Rq M d pc ls (.int i :: st) h Q := by
  obtain ⟨r, h', q, K⟩ := K
  exact ⟨r, h', q, Rx_newI n hd hw hi hn K⟩
theorem Rq_newL {M : Mi} {d : Nat} {pc : Nat} {ls : List Value} {st : List Value} {h : Hp} {Q : Option Value → Hp → Prop} {i : Int32} (n : Nat) (hd : decode M.2.1 pc = .ok (.newarray .long, 2)) (hw : Cond.arrayClass .long ∈ gtbl) (hi : i = nI n) (hn : n * 8 ≤ 536870912) (K : Rq M d (pc + 2) ls (.ref h.length :: st) (h ++ [aL n (fun _ => 0)]) Q) : Rq M d pc ls (.int i :: st) h Q := by
  obtain ⟨r, h', q, K⟩ := K
  exact ⟨r, h', q, Rx_newL n hd hw hi hn K⟩
theorem Rq_newS {M : Mi} {d : Nat} {pc : Nat} {ls : List Value} {st : List Value} {h : Hp} {Q : Option Value → Hp → Prop} {i : Int32} {idx : Nat} (n : Nat) (hd : decode M.2.1 pc = .ok (.anewarray idx, 3)) (hl : Cond.classLink M.1.cls idx RX6 ∈ gtbl) (hi : i = nI n) (hn : n * 4 ≤ 536870912) (K : Rq M d (pc + 3) ls (.ref h.length :: st) (h ++ [aS n (fun _ => none)]) Q) : Rq M d pc ls (.int i :: st) h Q := by
  obtain ⟨r, h', q, K⟩ := K
  exact ⟨r, h', q, Rx_newS n hd hl hi hn K⟩
theorem Rq_new {M : Mi} {d : Nat} {pc : Nat} {ls : List Value} {st : List Value} {h : Hp} {Q : Option Value → Hp → Prop} {idx ci : Nat} {fs : List Value} (hd : decode M.2.1 pc = .ok (.new idx, 3)) (hl : NL M.1.cls idx ci fs) (K : Rq M d (pc + 3) ls (.ref h.length :: st) (h ++ [.inr (ci, fs)]) Q) : Rq M d pc ls st h Q := by
  obtain ⟨r, h', q, K⟩ := K
  exact ⟨r, h', q, Rx_new hd hl K⟩
theorem Rq_iret {M : Mi} {d : Nat} {pc : Nat} {ls : List Value} {h : Hp} {Q : Option Value → Hp → Prop} {v : Int32} (hd : decode M.2.1 pc = .ok (.ireturn, 1)) (hr : M.2.2.2 = some .int) (q : Q (some (.int v)) h) : Rq M d pc ls [.int v] h Q :=
  ⟨_, _, q, Rx_iret hd hr⟩
theorem Rq_zret {M : Mi} {d : Nat} {pc : Nat} {ls : List Value} {h : Hp} {Q : Option Value → Hp → Prop} {v : Int32} {ty : FieldType} (hd : decode M.2.1 pc = .ok (.ireturn, 1)) (hr : M.2.2.2 = some ty) (hn : narrow ty (.int v) = .int v) (q : Q (some (.int v)) h) : Rq M d pc ls [.int v] h Q :=
  ⟨_, _, q, Rx_zret hd hr hn⟩
theorem Rq_lret {M : Mi} {d : Nat} {pc : Nat} {ls : List Value} {h : Hp} {Q : Option Value → Hp → Prop} {v : Int64} (hd : decode M.2.1 pc = .ok (.lreturn, 1)) (hr : M.2.2.2 = some .long) (q : Q (some (.long v)) h) : Rq M d pc ls [.long v] h Q :=
  ⟨_, _, q, Rx_lret hd hr⟩
theorem Rq_vret {M : Mi} {d : Nat} {pc : Nat} {ls : List Value} {h : Hp} {Q : Option Value → Hp → Prop} (hd : decode M.2.1 pc = .ok (.return_, 1)) (hr : M.2.2.2 = none) (q : Q none h) : Rq M d pc ls [] h Q :=
  ⟨_, _, q, Rx_vret hd hr⟩
theorem Rq_aret {M : Mi} {d : Nat} {pc : Nat} {ls : List Value} {h : Hp} {Q : Option Value → Hp → Prop} {a : Nat} {ty : FieldType} (hd : decode M.2.1 pc = .ok (.areturn, 1)) (hr : M.2.2.2 = some ty) (hty : (∃ n, ty = .object n) ∨ ∃ t, ty = .array t) (q : Q (some (.ref a)) h) : Rq M d pc ls [.ref a] h Q :=
  ⟨_, _, q, Rx_aret hd hr hty⟩
theorem Rq_callV {M : Mi} {M' : Mi} {d : Nat} {pc : Nat} {ls : List Value} {st : List Value} {h : Hp} {h1 : Hp} {Q : Option Value → Hp → Prop} {idx n a ci : Nat} {fs rest : List Value} {v : Value} (As : List Value) (hd : decode M.2.1 pc = .ok (.invokevirtual idx, 3)) (hl : CLv M.1.cls idx M' n) (hci : vwCl[ci]?.map (fun q => q.1) = some M'.1.cls) (hrec : h[a]? = some (.inr (ci, fs))) (hM : Mx M' d (.ref a :: As) h (some v) h1) (hn : As.length = n) (hst : As.reverse ++ .ref a :: rest = st) (hroom : Nat.ble (rest.map fun v => v.category).sum 8 = true) (K : Rq M (d + 1) (pc + 3) ls (v :: rest) h1 Q) : Rq M (d + 1) pc ls st h Q := by
  obtain ⟨r, h', q, K⟩ := K
  exact ⟨r, h', q, Rx_callV As hd hl hci hrec hM hn hst hroom K⟩
theorem Rq_callVv {M : Mi} {M' : Mi} {d : Nat} {pc : Nat} {ls : List Value} {st : List Value} {h : Hp} {h1 : Hp} {Q : Option Value → Hp → Prop} {idx n a ci : Nat} {fs rest : List Value} (As : List Value) (hd : decode M.2.1 pc = .ok (.invokevirtual idx, 3)) (hl : CLv M.1.cls idx M' n) (hci : vwCl[ci]?.map (fun q => q.1) = some M'.1.cls) (hrec : h[a]? = some (.inr (ci, fs))) (hM : Mx M' d (.ref a :: As) h none h1) (hn : As.length = n) (hst : As.reverse ++ .ref a :: rest = st) (hroom : Nat.ble (rest.map fun v => v.category).sum 8 = true) (K : Rq M (d + 1) (pc + 3) ls rest h1 Q) : Rq M (d + 1) pc ls st h Q := by
  obtain ⟨r, h', q, K⟩ := K
  exact ⟨r, h', q, Rx_callVv As hd hl hci hrec hM hn hst hroom K⟩
theorem Rq_callS {M : Mi} {M' : Mi} {d : Nat} {pc : Nat} {ls : List Value} {st : List Value} {h : Hp} {h1 : Hp} {Q : Option Value → Hp → Prop} {idx n : Nat} {rest : List Value} {v : Value} (As : List Value) (hd : decode M.2.1 pc = .ok (.invokestatic idx, 3)) (hl : CLs M.1.cls idx M' n) (hM : Mx M' d As h (some v) h1) (hn : As.length = n) (hst : As.reverse ++ rest = st) (hroom : Nat.ble (rest.map fun v => v.category).sum 8 = true) (K : Rq M (d + 1) (pc + 3) ls (v :: rest) h1 Q) : Rq M (d + 1) pc ls st h Q := by
  obtain ⟨r, h', q, K⟩ := K
  exact ⟨r, h', q, Rx_callS As hd hl hM hn hst hroom K⟩
theorem Rq_callSv {M : Mi} {M' : Mi} {d : Nat} {pc : Nat} {ls : List Value} {st : List Value} {h : Hp} {h1 : Hp} {Q : Option Value → Hp → Prop} {idx n : Nat} {rest : List Value} (As : List Value) (hd : decode M.2.1 pc = .ok (.invokestatic idx, 3)) (hl : CLs M.1.cls idx M' n) (hM : Mx M' d As h none h1) (hn : As.length = n) (hst : As.reverse ++ rest = st) (hroom : Nat.ble (rest.map fun v => v.category).sum 8 = true) (K : Rq M (d + 1) (pc + 3) ls rest h1 Q) : Rq M (d + 1) pc ls st h Q := by
  obtain ⟨r, h', q, K⟩ := K
  exact ⟨r, h', q, Rx_callSv As hd hl hM hn hst hroom K⟩
theorem Rq_callI {M : Mi} {M' : Mi} {d : Nat} {pc : Nat} {ls : List Value} {st : List Value} {h : Hp} {h1 : Hp} {Q : Option Value → Hp → Prop} {idx n a : Nat} {rest : List Value} (As : List Value) (hd : decode M.2.1 pc = .ok (.invokespecial idx, 3)) (hl : CLi M.1.cls idx M' n) (hM : Mx M' d (.ref a :: As) h none h1) (hn : As.length = n) (hst : As.reverse ++ .ref a :: rest = st) (hroom : Nat.ble (rest.map fun v => v.category).sum 8 = true) (K : Rq M (d + 1) (pc + 3) ls rest h1 Q) : Rq M (d + 1) pc ls st h Q := by
  obtain ⟨r, h', q, K⟩ := K
  exact ⟨r, h', q, Rx_callI As hd hl hM hn hst hroom K⟩
theorem Rq_objInit {M : Mi} {d : Nat} {pc : Nat} {ls : List Value} {h : Hp} {Q : Option Value → Hp → Prop} {idx a : Nat} {rest : List Value} (hd : decode M.2.1 pc = .ok (.invokespecial idx, 3)) (hl : Cond.methodLink M.1.cls idx objectInit ∈ gtbl) (h2 : Cond.instanceMethod objectInit ∈ gtbl) (h3 : Cond.code objectInit ⟨#[0xb1]⟩ 1 none ∈ gtbl) (hroom : Nat.ble (rest.map fun v => v.category).sum 8 = true) (K : Rq M (d + 1) (pc + 3) ls rest h Q) : Rq M (d + 1) pc ls (.ref a :: rest) h Q := by
  obtain ⟨r, h', q, K⟩ := K
  exact ⟨r, h', q, Rx_objInit hd hl h2 h3 hroom K⟩
theorem Rq_mmax {M : Mi} {d : Nat} {pc : Nat} {ls : List Value} {h : Hp} {Q : Option Value → Hp → Prop} {idx : Nat} {x y : Int32} {rest : List Value} (hd : decode M.2.1 pc = .ok (.invokestatic idx, 3)) (hl : Cond.methodLink M.1.cls idx Lib.Math.max.name ∈ gtbl) (h1 : Cond.static Lib.Math.max.name ∈ gtbl) (h2 : Cond.initialized "java/lang/Math" ∈ gtbl) (h3 : Cond.code Lib.Math.max.name Lib.Math.max.code 2 (some .int) ∈ gtbl) (hroom : Nat.ble (rest.map fun v => v.category).sum 8 = true) (K : Rq M (d + 1) (pc + 3) ls (.int (if x < y then y else x) :: rest) h Q) : Rq M (d + 1) pc ls (.int y :: .int x :: rest) h Q := by
  obtain ⟨r, h', q, K⟩ := K
  exact ⟨r, h', q, Rx_mmax hd hl h1 h2 h3 hroom K⟩
theorem Rq_mmin {M : Mi} {d : Nat} {pc : Nat} {ls : List Value} {h : Hp} {Q : Option Value → Hp → Prop} {idx : Nat} {x y : Int32} {rest : List Value} (hd : decode M.2.1 pc = .ok (.invokestatic idx, 3)) (hl : Cond.methodLink M.1.cls idx Lib.Math.min.name ∈ gtbl) (h1 : Cond.static Lib.Math.min.name ∈ gtbl) (h2 : Cond.initialized "java/lang/Math" ∈ gtbl) (h3 : Cond.code Lib.Math.min.name Lib.Math.min.code 2 (some .int) ∈ gtbl) (hroom : Nat.ble (rest.map fun v => v.category).sum 8 = true) (K : Rq M (d + 1) (pc + 3) ls (.int (if y < x then y else x) :: rest) h Q) : Rq M (d + 1) pc ls (.int y :: .int x :: rest) h Q := by
  obtain ⟨r, h', q, K⟩ := K
  exact ⟨r, h', q, Rx_mmin hd hl h1 h2 h3 hroom K⟩
theorem Rq_acopy {M : Mi} {d pc : Nat} {ls : List Value} {h : Hp} {Q : Option Value → Hp → Prop} {idx a0 a1 n0 n1 : Nat} {f g : Nat → Int32} {x y z : Int32} {rest : List Value} (sp dp n : Nat) (hd : decode M.2.1 pc = .ok (.invokestatic idx, 3)) (hl : Cond.methodLink M.1.cls idx arraycopyName ∈ gtbl) (h1 : Cond.native arraycopyName ∈ gtbl) (h2 : Cond.static arraycopyName ∈ gtbl) (h3 : Cond.initialized "java/lang/System" ∈ gtbl)
    (ha0 : h[a0]? = some (aI n0 f)) (ha1 : h[a1]? = some (aI n1 g)) (e0 : n0 < 2 ^ 31) (e1 : n1 < 2 ^ 31) (hx : x = nI sp) (hy : y = nI dp) (hz : z = nI n) (g0 : sp + n ≤ n0) (g1 : dp + n ≤ n1) (hroom : Nat.ble (rest.map fun v => v.category).sum 8 = true) (K : Rq M (d + 1) (pc + 3) ls rest (h.set a1 (aI n1 (va_cpy f g sp dp n))) Q) : Rq M (d + 1) pc ls (.int z :: .int y :: .ref a1 :: .int x :: .ref a0 :: rest) h Q := by
  obtain ⟨r, h', q, K⟩ := K
  exact ⟨r, h', q, Rx_acopy sp dp n hd hl h1 h2 h3 ha0 ha1 e0 e1 hx hy hz g0 g1 hroom K⟩
theorem Rq_callVq {M M' : Mi} {d pc : Nat} {ls st : List Value} {h : Hp} {Q Q' : Option Value → Hp → Prop} {idx n a ci : Nat} {fs rest : List Value} (As : List Value) (hd : decode M.2.1 pc = .ok (.invokevirtual idx, 3)) (hl : CLv M.1.cls idx M' n) (hci : vwCl[ci]?.map (fun q => q.1) = some M'.1.cls) (hrec : h[a]? = some (.inr (ci, fs))) (hM : Mq M' d (.ref a :: As) h Q') (hn : As.length = n) (hst : As.reverse ++ .ref a :: rest = st) (hroom : Nat.ble (rest.map fun v => v.category).sum 8 = true) (K : ∀ rv h1, Q' rv h1 → Rq M (d + 1) (pc + 3) ls (rv.toList ++ rest) h1 Q) : Rq M (d + 1) pc ls st h Q := by
  obtain ⟨rv, h1, q1, hM⟩ := hM
  obtain ⟨r, h', q, K⟩ := K rv h1 q1
  exact ⟨r, h', q, Rx_runV hd hl hci hrec hM hn hst hroom K⟩
theorem Rq_callSq {M M' : Mi} {d pc : Nat} {ls st : List Value} {h : Hp} {Q Q' : Option Value → Hp → Prop} {idx n : Nat} {rest : List Value} (As : List Value) (hd : decode M.2.1 pc = .ok (.invokestatic idx, 3)) (hl : CLs M.1.cls idx M' n) (hM : Mq M' d As h Q') (hn : As.length = n) (hst : As.reverse ++ rest = st) (hroom : Nat.ble (rest.map fun v => v.category).sum 8 = true) (K : ∀ rv h1, Q' rv h1 → Rq M (d + 1) (pc + 3) ls (rv.toList ++ rest) h1 Q) : Rq M (d + 1) pc ls st h Q := by
  obtain ⟨rv, h1, q1, hM⟩ := hM
  obtain ⟨r, h', q, K⟩ := K rv h1 q1
  exact ⟨r, h', q, Rx_runS hd hl hM hn hst hroom K⟩
end
section
abbrev mX0_init : Mi := (yX0_init, cX0_init, 1, none)
abbrev mX0_clauseAt : Mi := (yX0_clauseAt, cX0_clauseAt, 2, (some FieldType.int))
abbrev mX0_read : Mi := (yX0_read, cX0_read, 4, (some FieldType.int))
abbrev mX0_readToken : Mi := (yX0_readToken, cX0_readToken, 4, none)
abbrev mX0_closeClause : Mi := (yX0_closeClause, cX0_closeClause, 1, none)
abbrev mX0_readLiteral : Mi := (yX0_readLiteral, cX0_readLiteral, 10, none)
abbrev mX0_countDigits : Mi := (yX0_countDigits, cX0_countDigits, 3, (some FieldType.int))
abbrev mX0_numberAt : Mi := (yX0_numberAt, cX0_numberAt, 5, (some FieldType.int))
abbrev mX1_init : Mi := (yX1_init, cX1_init, 1, none)
abbrev mX1_forget : Mi := (yX1_forget, cX1_forget, 1, none)
abbrev mX1_explain : Mi := (yX1_explain, cX1_explain, 7, none)
abbrev mX1_complete : Mi := (yX1_complete, cX1_complete, 6, (some FieldType.boolean))
abbrev mX1_explains : Mi := (yX1_explains, cX1_explains, 7, (some FieldType.boolean))
abbrev mX1_literalAt : Mi := (yX1_literalAt, cX1_literalAt, 3, (some FieldType.int))
abbrev mX2_init : Mi := (yX2_init, cX2_init, 1, none)
abbrev mX2_addByte : Mi := (yX2_addByte, cX2_addByte, 2, none)
abbrev mX2_byteAt : Mi := (yX2_byteAt, cX2_byteAt, 2, (some FieldType.int))
abbrev mX2_hasDigitAt : Mi := (yX2_hasDigitAt, cX2_hasDigitAt, 3, (some FieldType.boolean))
abbrev mX3_init : Mi := (yX3_init, cX3_init, 1, none)
abbrev mX3_compile : Mi := (yX3_compile, cX3_compile, 3, none)
abbrev mX3_nodeTotal : Mi := (yX3_nodeTotal, cX3_nodeTotal, 1, (some FieldType.int))
abbrev mX3_variableAtRoot : Mi := (yX3_variableAtRoot, cX3_variableAtRoot, 1, (some FieldType.int))
abbrev mX3_partsAtRoot : Mi := (yX3_partsAtRoot, cX3_partsAtRoot, 4, (some FieldType.int))
abbrev mX3_explore : Mi := (yX3_explore, cX3_explore, 9, (some FieldType.int))
abbrev mX3_exploreDecision : Mi := (yX3_exploreDecision, cX3_exploreDecision, 6, (some FieldType.int))
abbrev mX3_exploreParts : Mi := (yX3_exploreParts, cX3_exploreParts, 8, (some FieldType.int))
abbrev mX3_setLiteral : Mi := (yX3_setLiteral, cX3_setLiteral, 7, (some FieldType.int))
abbrev mX3_takePart : Mi := (yX3_takePart, cX3_takePart, 7, (some FieldType.int))
abbrev mX3_addResidual : Mi := (yX3_addResidual, cX3_addResidual, 5, (some FieldType.int))
abbrev mX3_insert : Mi := (yX3_insert, cX3_insert, 7, (some FieldType.int))
abbrev mX3_variablesIn : Mi := (yX3_variablesIn, cX3_variablesIn, 5, (some FieldType.int))
abbrev mX3_variablesConnectedTo : Mi := (yX3_variablesConnectedTo, cX3_variablesConnectedTo, 9, (some FieldType.int))
abbrev mX3_mostFrequentVariable : Mi := (yX3_mostFrequentVariable, cX3_mostFrequentVariable, 9, (some FieldType.int))
abbrev mX3_bucketOf : Mi := (yX3_bucketOf, cX3_bucketOf, 5, (some FieldType.int))
abbrev mX3_findNode : Mi := (yX3_findNode, cX3_findNode, 6, (some FieldType.int))
abbrev mX3_hasRow : Mi := (yX3_hasRow, cX3_hasRow, 5, (some FieldType.boolean))
abbrev mX3_addNode : Mi := (yX3_addNode, cX3_addNode, 5, none)
abbrev mX3_makeRoom : Mi := (yX3_makeRoom, cX3_makeRoom, 2, none)
abbrev mX4_init : Mi := (yX4_init, cX4_init, 2, none)
abbrev mX4_save : Mi := (yX4_save, cX4_save, 3, none)
abbrev mX4_dropOldest : Mi := (yX4_dropOldest, cX4_dropOldest, 3, none)
abbrev mX4_restoreInto : Mi := (yX4_restoreInto, cX4_restoreInto, 3, none)
abbrev mX5_init : Mi := (yX5_init, cX5_init, 1, none)
abbrev mX5_literalWord : Mi := (yX5_literalWord, cX5_literalWord, 5, (some FieldType.long))
abbrev mX5_fill : Mi := (yX5_fill, cX5_fill, 3, none)
abbrev mX5_keepSatisfying : Mi := (yX5_keepSatisfying, cX5_keepSatisfying, 4, none)
abbrev mX5_wordAt : Mi := (yX5_wordAt, cX5_wordAt, 2, (some FieldType.long))
abbrev mX5_has : Mi := (yX5_has, cX5_has, 2, (some FieldType.boolean))
abbrev mX5_size : Mi := (yX5_size, cX5_size, 3, (some FieldType.int))
abbrev mX5_sizeWith : Mi := (yX5_sizeWith, cX5_sizeWith, 4, (some FieldType.int))
abbrev mX5_least : Mi := (yX5_least, cX5_least, 2, (some FieldType.int))
abbrev mX6_init : Mi := (yX6_init, cX6_init, 1, none)
abbrev mX6_hasClause : Mi := (yX6_hasClause, cX6_hasClause, 2, (some FieldType.boolean))
abbrev mX6_clauseAt : Mi := (yX6_clauseAt, cX6_clauseAt, 2, (some FieldType.int))
abbrev mX6_appendClause : Mi := (yX6_appendClause, cX6_appendClause, 2, none)
abbrev mX6_deleteClause : Mi := (yX6_deleteClause, cX6_deleteClause, 3, none)
abbrev mX6_weightOf : Mi := (yX6_weightOf, cX6_weightOf, 2, (some FieldType.int))
abbrev mX6_replaceWeight : Mi := (yX6_replaceWeight, cX6_replaceWeight, 4, (some FieldType.int))
abbrev mX6_copyFrom : Mi := (yX6_copyFrom, cX6_copyFrom, 2, none)
abbrev mX7_init : Mi := (yX7_init, cX7_init, 1, none)
abbrev mX7_over : Mi := (yX7_over, cX7_over, 9, (some FieldType.long))
abbrev mX7_fillProducts : Mi := (yX7_fillProducts, cX7_fillProducts, 8, none)
abbrev mX8_init : Mi := (yX8_init, cX8_init, 1, none)
abbrev mX8_addClause : Mi := (yX8_addClause, cX8_addClause, 5, (some FieldType.int))
abbrev mX8_removeClause : Mi := (yX8_removeClause, cX8_removeClause, 2, (some FieldType.int))
abbrev mX8_clauses : Mi := (yX8_clauses, cX8_clauses, 1, (some FieldType.int))
abbrev mX8_clauseSize : Mi := (yX8_clauseSize, cX8_clauseSize, 2, (some FieldType.int))
abbrev mX8_assume : Mi := (yX8_assume, cX8_assume, 2, (some FieldType.int))
abbrev mX8_retractAll : Mi := (yX8_retractAll, cX8_retractAll, 2, (some FieldType.int))
abbrev mX8_setWeight : Mi := (yX8_setWeight, cX8_setWeight, 3, (some FieldType.int))
abbrev mX8_nodes : Mi := (yX8_nodes, cX8_nodes, 1, (some FieldType.int))
abbrev mX8_decisionNodes : Mi := (yX8_decisionNodes, cX8_decisionNodes, 1, (some FieldType.int))
abbrev mX8_andNodes : Mi := (yX8_andNodes, cX8_andNodes, 1, (some FieldType.int))
abbrev mX8_depth : Mi := (yX8_depth, cX8_depth, 1, (some FieldType.int))
abbrev mX8_rootVariable : Mi := (yX8_rootVariable, cX8_rootVariable, 1, (some FieldType.int))
abbrev mX8_components : Mi := (yX8_components, cX8_components, 1, (some FieldType.int))
abbrev mX8_models : Mi := (yX8_models, cX8_models, 1, (some FieldType.int))
abbrev mX8_modelsWith : Mi := (yX8_modelsWith, cX8_modelsWith, 2, (some FieldType.int))
abbrev mX8_weightedCount : Mi := (yX8_weightedCount, cX8_weightedCount, 1, (some FieldType.long))
abbrev mX8_shareBits : Mi := (yX8_shareBits, cX8_shareBits, 1, (some FieldType.int))
abbrev mX8_implied : Mi := (yX8_implied, cX8_implied, 5, (some FieldType.int))
abbrev mX8_leastModel : Mi := (yX8_leastModel, cX8_leastModel, 1, (some FieldType.int))
abbrev mX8_explanation : Mi := (yX8_explanation, cX8_explanation, 3, (some FieldType.int))
abbrev mX8_append : Mi := (yX8_append, cX8_append, 2, (some FieldType.int))
abbrev mX8_clearText : Mi := (yX8_clearText, cX8_clearText, 2, (some FieldType.int))
abbrev mX8_parse : Mi := (yX8_parse, cX8_parse, 3, (some FieldType.int))
abbrev mX8_undo : Mi := (yX8_undo, cX8_undo, 1, (some FieldType.int))
abbrev mX8_errorCount : Mi := (yX8_errorCount, cX8_errorCount, 2, (some FieldType.int))
abbrev mX8_digest : Mi := (yX8_digest, cX8_digest, 4, (some FieldType.long))
abbrev mX8_fail : Mi := (yX8_fail, cX8_fail, 2, (some FieldType.int))
abbrev mX8_digestOfGraph : Mi := (yX8_digestOfGraph, cX8_digestOfGraph, 5, (some FieldType.long))
abbrev mX8_formulaHasChanged : Mi := (yX8_formulaHasChanged, cX8_formulaHasChanged, 1, none)
abbrev mX8_freshGraph : Mi := (yX8_freshGraph, cX8_freshGraph, 1, (some (FieldType.object "CnfCompiler$Graph")))
abbrev mX8_freshModelSet : Mi := (yX8_freshModelSet, cX8_freshModelSet, 1, (some (FieldType.object "CnfCompiler$ModelSet")))
abbrev mX8_isErrorCode : Mi := (yX8_isErrorCode, cX8_isErrorCode, 1, (some FieldType.boolean))
abbrev mX8_isLiteralOrZero : Mi := (yX8_isLiteralOrZero, cX8_isLiteralOrZero, 1, (some FieldType.boolean))
abbrev mX8_isLiteral : Mi := (yX8_isLiteral, cX8_isLiteral, 1, (some FieldType.boolean))
abbrev mX8_sameVariable : Mi := (yX8_sameVariable, cX8_sameVariable, 2, (some FieldType.boolean))
abbrev mX8_codeOf : Mi := (yX8_codeOf, cX8_codeOf, 1, (some FieldType.int))
abbrev mX8_literalOf : Mi := (yX8_literalOf, cX8_literalOf, 1, (some FieldType.int))
abbrev mX8_bitOf : Mi := (yX8_bitOf, cX8_bitOf, 1, (some FieldType.int))
abbrev mX8_contains : Mi := (yX8_contains, cX8_contains, 2, (some FieldType.boolean))
abbrev mX8_variablesOf : Mi := (yX8_variablesOf, cX8_variablesOf, 1, (some FieldType.int))
abbrev mX8_oppositesOf : Mi := (yX8_oppositesOf, cX8_oppositesOf, 1, (some FieldType.int))
abbrev mX8_bitsOfShare : Mi := (yX8_bitsOfShare, cX8_bitsOfShare, 4, (some FieldType.int))
abbrev mX9_init : Mi := (yX9_init, cX9_init, 2, none)
abbrev mX9_in : Mi := (yX9_in, cX9_in, 6, (some FieldType.boolean))
abbrev mX9_err : Mi := (yX9_err, cX9_err, 2, (some FieldType.int))
abbrev mX9_isLiteral : Mi := (yX9_isLiteral, cX9_isLiteral, 1, (some FieldType.boolean))
abbrev mX9_bitOf : Mi := (yX9_bitOf, cX9_bitOf, 1, (some FieldType.int))
abbrev mX9_variables : Mi := (yX9_variables, cX9_variables, 1, (some FieldType.int))
abbrev mX9_ones : Mi := (yX9_ones, cX9_ones, 3, (some FieldType.int))
abbrev mX9_saves : Mi := (yX9_saves, cX9_saves, 2, none)
abbrev mX9_undo : Mi := (yX9_undo, cX9_undo, 2, (some FieldType.int))
abbrev mX9_addClause : Mi := (yX9_addClause, cX9_addClause, 10, (some FieldType.int))
abbrev mX9_isClause : Mi := (yX9_isClause, cX9_isClause, 2, (some FieldType.boolean))
abbrev mX9_removeClause : Mi := (yX9_removeClause, cX9_removeClause, 3, (some FieldType.int))
abbrev mX9_clauses : Mi := (yX9_clauses, cX9_clauses, 1, (some FieldType.int))
abbrev mX9_clauseSize : Mi := (yX9_clauseSize, cX9_clauseSize, 2, (some FieldType.int))
abbrev mX9_assumed : Mi := (yX9_assumed, cX9_assumed, 1, (some FieldType.int))
abbrev mX9_assume : Mi := (yX9_assume, cX9_assume, 3, (some FieldType.int))
abbrev mX9_retractAll : Mi := (yX9_retractAll, cX9_retractAll, 2, (some FieldType.int))
abbrev mX9_weightAt : Mi := (yX9_weightAt, cX9_weightAt, 1, (some FieldType.int))
abbrev mX9_setWeight : Mi := (yX9_setWeight, cX9_setWeight, 4, (some FieldType.int))
abbrev mX9_puts : Mi := (yX9_puts, cX9_puts, 6, none)
abbrev mX9_finds : Mi := (yX9_finds, cX9_finds, 8, (some FieldType.int))
abbrev mX9_connected : Mi := (yX9_connected, cX9_connected, 9, (some FieldType.int))
abbrev mX9_deciding : Mi := (yX9_deciding, cX9_deciding, 7, (some FieldType.int))
abbrev mX9_sets : Mi := (yX9_sets, cX9_sets, 5, none)
abbrev mX9_enters : Mi := (yX9_enters, cX9_enters, 5, (some FieldType.int))
abbrev mX9_goesDeeper : Mi := (yX9_goesDeeper, cX9_goesDeeper, 6, (some FieldType.boolean))
abbrev mX9_builds : Mi := (yX9_builds, cX9_builds, 3, (some FieldType.int))
abbrev mX9_compiles : Mi := (yX9_compiles, cX9_compiles, 4, none)
abbrev mX9_nodes : Mi := (yX9_nodes, cX9_nodes, 1, (some FieldType.int))
abbrev mX9_manyOf : Mi := (yX9_manyOf, cX9_manyOf, 4, (some FieldType.int))
abbrev mX9_decisionNodes : Mi := (yX9_decisionNodes, cX9_decisionNodes, 1, (some FieldType.int))
abbrev mX9_andNodes : Mi := (yX9_andNodes, cX9_andNodes, 1, (some FieldType.int))
abbrev mX9_depth : Mi := (yX9_depth, cX9_depth, 1, (some FieldType.int))
abbrev mX9_rootVariable : Mi := (yX9_rootVariable, cX9_rootVariable, 1, (some FieldType.int))
abbrev mX9_components : Mi := (yX9_components, cX9_components, 1, (some FieldType.int))
abbrev mX9_isModel : Mi := (yX9_isModel, cX9_isModel, 4, (some FieldType.boolean))
abbrev mX9_lists : Mi := (yX9_lists, cX9_lists, 2, none)
abbrev mX9_modelsBy : Mi := (yX9_modelsBy, cX9_modelsBy, 5, (some FieldType.int))
abbrev mX9_models : Mi := (yX9_models, cX9_models, 1, (some FieldType.int))
abbrev mX9_modelsWith : Mi := (yX9_modelsWith, cX9_modelsWith, 2, (some FieldType.int))
abbrev mX9_weightedCount : Mi := (yX9_weightedCount, cX9_weightedCount, 7, (some FieldType.long))
abbrev mX9_shareBits : Mi := (yX9_shareBits, cX9_shareBits, 1, (some FieldType.int))
abbrev mX9_implied : Mi := (yX9_implied, cX9_implied, 4, (some FieldType.int))
abbrev mX9_leastModel : Mi := (yX9_leastModel, cX9_leastModel, 2, (some FieldType.int))
abbrev mX9_literalBy : Mi := (yX9_literalBy, cX9_literalBy, 1, (some FieldType.int))
abbrev mX9_explains : Mi := (yX9_explains, cX9_explains, 4, (some FieldType.boolean))
abbrev mX9_mayBe : Mi := (yX9_mayBe, cX9_mayBe, 5, (some FieldType.boolean))
abbrev mX9_explained : Mi := (yX9_explained, cX9_explained, 6, (some FieldType.int))
abbrev mX9_explainedFrom : Mi := (yX9_explainedFrom, cX9_explainedFrom, 8, (some FieldType.int))
abbrev mX9_explanation : Mi := (yX9_explanation, cX9_explanation, 4, (some FieldType.int))
abbrev mX9_append : Mi := (yX9_append, cX9_append, 2, (some FieldType.int))
abbrev mX9_clearText : Mi := (yX9_clearText, cX9_clearText, 2, (some FieldType.int))
abbrev mX9_byteAt : Mi := (yX9_byteAt, cX9_byteAt, 2, (some FieldType.int))
abbrev mX9_isFigure : Mi := (yX9_isFigure, cX9_isFigure, 1, (some FieldType.boolean))
abbrev mX9_literalHere : Mi := (yX9_literalHere, cX9_literalHere, 6, (some FieldType.int))
abbrev mX9_reads : Mi := (yX9_reads, cX9_reads, 4, (some FieldType.int))
abbrev mX9_parse : Mi := (yX9_parse, cX9_parse, 3, (some FieldType.int))
abbrev mX9_errorCount : Mi := (yX9_errorCount, cX9_errorCount, 2, (some FieldType.int))
abbrev mX9_mixed : Mi := (yX9_mixed, cX9_mixed, 4, (some FieldType.long))
abbrev mX9_digest : Mi := (yX9_digest, cX9_digest, 4, (some FieldType.long))
abbrev mJxf58ca_isNaN_12338 : Mi := (yJxf58ca_isNaN_12338, cJxf58ca_isNaN_12338, 1, (some FieldType.boolean))
abbrev mJxf58ca_floatToIntBits_5c35a : Mi := (yJxf58ca_floatToIntBits_5c35a, cJxf58ca_floatToIntBits_5c35a, 1, (some FieldType.int))
abbrev mJ6_numberOfLeadingZeros_0f7a4 : Mi := (yJ6_numberOfLeadingZeros_0f7a4, cJ6_numberOfLeadingZeros_0f7a4, 2, (some FieldType.int))
abbrev mJ6_numberOfTrailingZeros_0f7a4 : Mi := (yJ6_numberOfTrailingZeros_0f7a4, cJ6_numberOfTrailingZeros_0f7a4, 2, (some FieldType.int))
abbrev mJ6_bitCount_0f7a4 : Mi := (yJ6_bitCount_0f7a4, cJ6_bitCount_0f7a4, 1, (some FieldType.int))
abbrev mJ13_numberOfTrailingZeros_95d88 : Mi := (yJ13_numberOfTrailingZeros_95d88, cJ13_numberOfTrailingZeros_95d88, 3, (some FieldType.int))
abbrev mJ13_bitCount_95d88 : Mi := (yJ13_bitCount_95d88, cJ13_bitCount_95d88, 2, (some FieldType.int))
abbrev mJ9_max_7cf53 : Mi := (yJ9_max_7cf53, cJ9_max_7cf53, 2, (some FieldType.int))
abbrev mJ9_min_7cf53 : Mi := (yJ9_min_7cf53, cJ9_min_7cf53, 2, (some FieldType.int))
abbrev mJ7_fill_d0a16 : Mi := (yJ7_fill_d0a16, cJ7_fill_d0a16, 5, none)
abbrev mJ7_fill_53178 : Mi := (yJ7_fill_53178, cJ7_fill_53178, 4, none)
abbrev mJ7_copyOf_59c91 : Mi := (yJ7_copyOf_59c91, cJ7_copyOf_59c91, 3, (some (FieldType.array FieldType.int)))
theorem kcJ13_314 : Cond.constantLong RJ13 314 (6148914691236517205) ∈ gtbl := (gt_at 599 (by decide +kernel) (by decide +kernel))
theorem kcJ13_316 : Cond.constantLong RJ13 316 (3689348814741910323) ∈ gtbl := (gt_at 600 (by decide +kernel) (by decide +kernel))
theorem kcJ13_318 : Cond.constantLong RJ13 318 (1085102592571150095) ∈ gtbl := (gt_at 601 (by decide +kernel) (by decide +kernel))
theorem clJ13_311 : CLs RJ13 311 mJ6_numberOfTrailingZeros_0f7a4 1 := ⟨⟨(gt_at 659 (by decide +kernel) (by decide +kernel)), (gt_at 92 (by decide +kernel) (by decide +kernel)), ⟨by decide +kernel, by decide +kernel, by decide +kernel⟩, rfl, Or.inl (gt_at 657 (by decide +kernel) (by decide +kernel))⟩, (gt_at 658 (by decide +kernel) (by decide +kernel))⟩
theorem kcJ6_265 : Cond.constant RJ6 265 (1431655765) ∈ gtbl := (gt_at 406 (by decide +kernel) (by decide +kernel))
theorem kcJ6_266 : Cond.constant RJ6 266 (858993459) ∈ gtbl := (gt_at 407 (by decide +kernel) (by decide +kernel))
theorem kcJ6_267 : Cond.constant RJ6 267 (252645135) ∈ gtbl := (gt_at 408 (by decide +kernel) (by decide +kernel))
theorem kcJ6_264 : Cond.constant RJ6 264 (65536) ∈ gtbl := (gt_at 641 (by decide +kernel) (by decide +kernel))
theorem clJ7_304 : Cond.methodLink RJ7 304 Lib.Math.min.name ∈ gtbl := (gt_at 525 (by decide +kernel) (by decide +kernel))
theorem clJ7_150 : Cond.methodLink RJ7 150 arraycopyName ∈ gtbl := (gt_at 528 (by decide +kernel) (by decide +kernel))
theorem clJxf58ca_59 : CLs RJxf58ca 59 mJxf58ca_isNaN_12338 1 := ⟨⟨(gt_at 1033 (by decide +kernel) (by decide +kernel)), (gt_at 95 (by decide +kernel) (by decide +kernel)), ⟨by decide +kernel, by decide +kernel, by decide +kernel⟩, rfl, Or.inl (gt_at 1031 (by decide +kernel) (by decide +kernel))⟩, (gt_at 1032 (by decide +kernel) (by decide +kernel))⟩
theorem kcJxf58ca_77 : Cond.constant RJxf58ca 77 (2143289344) ∈ gtbl := (gt_at 1037 (by decide +kernel) (by decide +kernel))
theorem flX0_15 : FL RX0 15 0 1 := ⟨_, rfl, by decide, Or.inl (gt_at 172 (by decide +kernel) (by decide +kernel))⟩
theorem flX0_9 : FL RX0 9 0 0 := ⟨_, rfl, by decide, Or.inl (gt_at 171 (by decide +kernel) (by decide +kernel))⟩
theorem flX0_22 : FL RX0 22 0 3 := ⟨_, rfl, by decide, Or.inl (gt_at 175 (by decide +kernel) (by decide +kernel))⟩
theorem flX0_19 : FL RX0 19 0 2 := ⟨_, rfl, by decide, Or.inl (gt_at 174 (by decide +kernel) (by decide +kernel))⟩
theorem fpX0_25 : FP RX0 25 0 4 .int := ⟨_, rfl, by decide, rfl, by decide +kernel, Or.inl (gt_at 176 (by decide +kernel) (by decide +kernel))⟩
theorem fpX0_15 : FP RX0 15 0 1 .int := ⟨_, rfl, by decide, rfl, by decide +kernel, Or.inl (gt_at 172 (by decide +kernel) (by decide +kernel))⟩
theorem fpX0_22 : FP RX0 22 0 3 .int := ⟨_, rfl, by decide, rfl, by decide +kernel, Or.inl (gt_at 175 (by decide +kernel) (by decide +kernel))⟩
theorem fpX0_19 : FP RX0 19 0 2 .int := ⟨_, rfl, by decide, rfl, by decide +kernel, Or.inl (gt_at 174 (by decide +kernel) (by decide +kernel))⟩
theorem clX0_44 : CLv RX0 44 mX2_hasDigitAt 1 := ⟨⟨(gt_at 723 (by decide +kernel) (by decide +kernel)), (gt_at 83 (by decide +kernel) (by decide +kernel)), ⟨by decide +kernel, by decide +kernel, by decide +kernel⟩, rfl, Or.inr ⟨"CnfCompiler", List.mem_of_getElem? (i := 720) (by decide +kernel)⟩⟩, (gt_at 722 (by decide +kernel) (by decide +kernel)), (gt_at 50 (by decide +kernel) (by decide +kernel))⟩
theorem clX0_3 : Cond.methodLink RX0 3 objectInit ∈ gtbl := (gt_at 170 (by decide +kernel) (by decide +kernel))
theorem fpX0_9 : FF RX0 9 0 0 (.array .int) := ⟨_, rfl, by decide, rfl, rfl, by decide +kernel, (gt_at 171 (by decide +kernel) (by decide +kernel))⟩
theorem clX0_37 : CLv RX0 37 mX2_byteAt 1 := ⟨⟨(gt_at 715 (by decide +kernel) (by decide +kernel)), (gt_at 83 (by decide +kernel) (by decide +kernel)), ⟨by decide +kernel, by decide +kernel, by decide +kernel⟩, rfl, Or.inr ⟨"CnfCompiler", List.mem_of_getElem? (i := 712) (by decide +kernel)⟩⟩, (gt_at 714 (by decide +kernel) (by decide +kernel)), (gt_at 48 (by decide +kernel) (by decide +kernel))⟩
theorem flX0_28 : FL RX0 28 2 1 := ⟨_, rfl, by decide, Or.inr ⟨"CnfCompiler", List.mem_of_getElem? (i := 158) (by decide +kernel)⟩⟩
theorem flX0_25 : FL RX0 25 0 4 := ⟨_, rfl, by decide, Or.inl (gt_at 176 (by decide +kernel) (by decide +kernel))⟩
theorem clX0_33 : CLv RX0 33 mX0_readToken 2 := ⟨⟨(gt_at 711 (by decide +kernel) (by decide +kernel)), (gt_at 84 (by decide +kernel) (by decide +kernel)), ⟨by decide +kernel, by decide +kernel, by decide +kernel⟩, rfl, Or.inl (gt_at 708 (by decide +kernel) (by decide +kernel))⟩, (gt_at 710 (by decide +kernel) (by decide +kernel)), (gt_at 47 (by decide +kernel) (by decide +kernel))⟩
theorem clX0_51 : CLs RX0 51 mJ6_bitCount_0f7a4 1 := ⟨⟨(gt_at 405 (by decide +kernel) (by decide +kernel)), (gt_at 92 (by decide +kernel) (by decide +kernel)), ⟨by decide +kernel, by decide +kernel, by decide +kernel⟩, rfl, Or.inl (gt_at 729 (by decide +kernel) (by decide +kernel))⟩, (gt_at 404 (by decide +kernel) (by decide +kernel))⟩
theorem clX0_56 : CLs RX0 56 mX0_countDigits 2 := ⟨⟨(gt_at 732 (by decide +kernel) (by decide +kernel)), (gt_at 84 (by decide +kernel) (by decide +kernel)), ⟨by decide +kernel, by decide +kernel, by decide +kernel⟩, rfl, Or.inl (gt_at 730 (by decide +kernel) (by decide +kernel))⟩, (gt_at 731 (by decide +kernel) (by decide +kernel))⟩
theorem clX0_60 : CLs RX0 60 mX0_numberAt 3 := ⟨⟨(gt_at 735 (by decide +kernel) (by decide +kernel)), (gt_at 84 (by decide +kernel) (by decide +kernel)), ⟨by decide +kernel, by decide +kernel, by decide +kernel⟩, rfl, Or.inl (gt_at 733 (by decide +kernel) (by decide +kernel))⟩, (gt_at 734 (by decide +kernel) (by decide +kernel))⟩
theorem clX0_64 : CLs RX0 64 mX8_bitOf 1 := ⟨⟨(gt_at 362 (by decide +kernel) (by decide +kernel)), (gt_at 79 (by decide +kernel) (by decide +kernel)), ⟨by decide +kernel, by decide +kernel, by decide +kernel⟩, rfl, Or.inr ⟨"CnfCompiler", List.mem_of_getElem? (i := 736) (by decide +kernel)⟩⟩, (gt_at 361 (by decide +kernel) (by decide +kernel))⟩
theorem clX0_67 : CLs RX0 67 mX8_variablesOf 1 := ⟨⟨(gt_at 415 (by decide +kernel) (by decide +kernel)), (gt_at 79 (by decide +kernel) (by decide +kernel)), ⟨by decide +kernel, by decide +kernel, by decide +kernel⟩, rfl, Or.inr ⟨"CnfCompiler", List.mem_of_getElem? (i := 737) (by decide +kernel)⟩⟩, (gt_at 414 (by decide +kernel) (by decide +kernel))⟩
theorem clX0_41 : CLv RX0 41 mX0_closeClause 0 := ⟨⟨(gt_at 719 (by decide +kernel) (by decide +kernel)), (gt_at 84 (by decide +kernel) (by decide +kernel)), ⟨by decide +kernel, by decide +kernel, by decide +kernel⟩, rfl, Or.inl (gt_at 716 (by decide +kernel) (by decide +kernel))⟩, (gt_at 718 (by decide +kernel) (by decide +kernel)), (gt_at 49 (by decide +kernel) (by decide +kernel))⟩
theorem clX0_48 : CLv RX0 48 mX0_readLiteral 2 := ⟨⟨(gt_at 728 (by decide +kernel) (by decide +kernel)), (gt_at 84 (by decide +kernel) (by decide +kernel)), ⟨by decide +kernel, by decide +kernel, by decide +kernel⟩, rfl, Or.inl (gt_at 725 (by decide +kernel) (by decide +kernel))⟩, (gt_at 727 (by decide +kernel) (by decide +kernel)), (gt_at 51 (by decide +kernel) (by decide +kernel))⟩
theorem clX1_52 : CLv RX1 52 mX1_explains 1 := ⟨⟨(gt_at 679 (by decide +kernel) (by decide +kernel)), (gt_at 88 (by decide +kernel) (by decide +kernel)), ⟨by decide +kernel, by decide +kernel, by decide +kernel⟩, rfl, Or.inl (gt_at 676 (by decide +kernel) (by decide +kernel))⟩, (gt_at 678 (by decide +kernel) (by decide +kernel)), (gt_at 43 (by decide +kernel) (by decide +kernel))⟩
theorem flX1_22 : FL RX1 22 1 3 := ⟨_, rfl, by decide, Or.inl (gt_at 273 (by decide +kernel) (by decide +kernel))⟩
theorem clX1_56 : CLs RX1 56 mX8_contains 2 := ⟨⟨(gt_at 586 (by decide +kernel) (by decide +kernel)), (gt_at 79 (by decide +kernel) (by decide +kernel)), ⟨by decide +kernel, by decide +kernel, by decide +kernel⟩, rfl, Or.inr ⟨"CnfCompiler", List.mem_of_getElem? (i := 680) (by decide +kernel)⟩⟩, (gt_at 585 (by decide +kernel) (by decide +kernel))⟩
theorem flX1_18 : FL RX1 18 1 2 := ⟨_, rfl, by decide, Or.inl (gt_at 272 (by decide +kernel) (by decide +kernel))⟩
theorem clX1_48 : CLv RX1 48 mX1_complete 3 := ⟨⟨(gt_at 675 (by decide +kernel) (by decide +kernel)), (gt_at 88 (by decide +kernel) (by decide +kernel)), ⟨by decide +kernel, by decide +kernel, by decide +kernel⟩, rfl, Or.inl (gt_at 672 (by decide +kernel) (by decide +kernel))⟩, (gt_at 674 (by decide +kernel) (by decide +kernel)), (gt_at 42 (by decide +kernel) (by decide +kernel))⟩
theorem fpX1_26 : FP RX1 26 1 4 .int := ⟨_, rfl, by decide, rfl, by decide +kernel, Or.inl (gt_at 274 (by decide +kernel) (by decide +kernel))⟩
theorem flX1_26 : FL RX1 26 1 4 := ⟨_, rfl, by decide, Or.inl (gt_at 274 (by decide +kernel) (by decide +kernel))⟩
theorem clX1_32 : CLs RX1 32 mX5_literalWord 2 := ⟨⟨(gt_at 589 (by decide +kernel) (by decide +kernel)), (gt_at 86 (by decide +kernel) (by decide +kernel)), ⟨by decide +kernel, by decide +kernel, by decide +kernel⟩, rfl, Or.inr ⟨"CnfCompiler", List.mem_of_getElem? (i := 668) (by decide +kernel)⟩⟩, (gt_at 588 (by decide +kernel) (by decide +kernel))⟩
theorem flX1_9 : FL RX1 9 1 0 := ⟨_, rfl, by decide, Or.inl (gt_at 270 (by decide +kernel) (by decide +kernel))⟩
theorem clX1_38 : CLv RX1 38 mX5_wordAt 1 := ⟨⟨(gt_at 629 (by decide +kernel) (by decide +kernel)), (gt_at 86 (by decide +kernel) (by decide +kernel)), ⟨by decide +kernel, by decide +kernel, by decide +kernel⟩, rfl, Or.inr ⟨"CnfCompiler", List.mem_of_getElem? (i := 669) (by decide +kernel)⟩⟩, (gt_at 628 (by decide +kernel) (by decide +kernel)), (gt_at 39 (by decide +kernel) (by decide +kernel))⟩
theorem flX1_15 : FL RX1 15 1 1 := ⟨_, rfl, by decide, Or.inl (gt_at 271 (by decide +kernel) (by decide +kernel))⟩
theorem kcX1_42 : Cond.constantLong RX1 42 (-1) ∈ gtbl := (gt_at 670 (by decide +kernel) (by decide +kernel))
theorem clX1_44 : CLs RX1 44 mX8_variablesOf 1 := ⟨⟨(gt_at 415 (by decide +kernel) (by decide +kernel)), (gt_at 79 (by decide +kernel) (by decide +kernel)), ⟨by decide +kernel, by decide +kernel, by decide +kernel⟩, rfl, Or.inr ⟨"CnfCompiler", List.mem_of_getElem? (i := 671) (by decide +kernel)⟩⟩, (gt_at 414 (by decide +kernel) (by decide +kernel))⟩
theorem fpX1_22 : FP RX1 22 1 3 .int := ⟨_, rfl, by decide, rfl, by decide +kernel, Or.inl (gt_at 273 (by decide +kernel) (by decide +kernel))⟩
theorem fpX1_29 : FP RX1 29 1 5 .int := ⟨_, rfl, by decide, rfl, by decide +kernel, Or.inl (gt_at 276 (by decide +kernel) (by decide +kernel))⟩
theorem flX1_29 : FL RX1 29 1 5 := ⟨_, rfl, by decide, Or.inl (gt_at 276 (by decide +kernel) (by decide +kernel))⟩
theorem clX1_3 : Cond.methodLink RX1 3 objectInit ∈ gtbl := (gt_at 269 (by decide +kernel) (by decide +kernel))
theorem fpX1_9 : FF RX1 9 1 0 (.array .long) := ⟨_, rfl, by decide, rfl, rfl, by decide +kernel, (gt_at 270 (by decide +kernel) (by decide +kernel))⟩
theorem fpX1_15 : FF RX1 15 1 1 (.array .long) := ⟨_, rfl, by decide, rfl, rfl, by decide +kernel, (gt_at 271 (by decide +kernel) (by decide +kernel))⟩
theorem fpX1_18 : FF RX1 18 1 2 (.array .int) := ⟨_, rfl, by decide, rfl, rfl, by decide +kernel, (gt_at 272 (by decide +kernel) (by decide +kernel))⟩
theorem clX1_60 : CLs RX1 60 mX8_literalOf 1 := ⟨⟨(gt_at 687 (by decide +kernel) (by decide +kernel)), (gt_at 79 (by decide +kernel) (by decide +kernel)), ⟨by decide +kernel, by decide +kernel, by decide +kernel⟩, rfl, Or.inr ⟨"CnfCompiler", List.mem_of_getElem? (i := 685) (by decide +kernel)⟩⟩, (gt_at 686 (by decide +kernel) (by decide +kernel))⟩
theorem flX2_15 : FL RX2 15 2 1 := ⟨_, rfl, by decide, Or.inl (gt_at 157 (by decide +kernel) (by decide +kernel))⟩
theorem flX2_9 : FL RX2 9 2 0 := ⟨_, rfl, by decide, Or.inl (gt_at 156 (by decide +kernel) (by decide +kernel))⟩
theorem fpX2_15 : FP RX2 15 2 1 .int := ⟨_, rfl, by decide, rfl, by decide +kernel, Or.inl (gt_at 157 (by decide +kernel) (by decide +kernel))⟩
theorem clX2_19 : CLv RX2 19 mX2_byteAt 1 := ⟨⟨(gt_at 715 (by decide +kernel) (by decide +kernel)), (gt_at 83 (by decide +kernel) (by decide +kernel)), ⟨by decide +kernel, by decide +kernel, by decide +kernel⟩, rfl, Or.inl (gt_at 724 (by decide +kernel) (by decide +kernel))⟩, (gt_at 714 (by decide +kernel) (by decide +kernel)), (gt_at 48 (by decide +kernel) (by decide +kernel))⟩
theorem clX2_3 : Cond.methodLink RX2 3 objectInit ∈ gtbl := (gt_at 155 (by decide +kernel) (by decide +kernel))
theorem fpX2_9 : FF RX2 9 2 0 (.array .int) := ⟨_, rfl, by decide, rfl, rfl, by decide +kernel, (gt_at 156 (by decide +kernel) (by decide +kernel))⟩
theorem flX3_36 : FL RX3 36 3 6 := ⟨_, rfl, by decide, Or.inl (gt_at 200 (by decide +kernel) (by decide +kernel))⟩
theorem flX3_21 : FL RX3 21 3 3 := ⟨_, rfl, by decide, Or.inl (gt_at 197 (by decide +kernel) (by decide +kernel))⟩
theorem clX3_136 : CLv RX3 136 mX3_makeRoom 0 := ⟨⟨(gt_at 514 (by decide +kernel) (by decide +kernel)), (gt_at 85 (by decide +kernel) (by decide +kernel)), ⟨by decide +kernel, by decide +kernel, by decide +kernel⟩, rfl, Or.inl (gt_at 511 (by decide +kernel) (by decide +kernel))⟩, (gt_at 513 (by decide +kernel) (by decide +kernel)), (gt_at 28 (by decide +kernel) (by decide +kernel))⟩
theorem flX3_11 : FL RX3 11 3 0 := ⟨_, rfl, by decide, Or.inl (gt_at 194 (by decide +kernel) (by decide +kernel))⟩
theorem flX3_18 : FL RX3 18 3 2 := ⟨_, rfl, by decide, Or.inl (gt_at 196 (by decide +kernel) (by decide +kernel))⟩
theorem clX3_139 : Cond.methodLink RX3 139 arraycopyName ∈ gtbl := (gt_at 529 (by decide +kernel) (by decide +kernel))
theorem flX3_24 : FL RX3 24 3 4 := ⟨_, rfl, by decide, Or.inl (gt_at 198 (by decide +kernel) (by decide +kernel))⟩
theorem flX3_27 : FL RX3 27 3 5 := ⟨_, rfl, by decide, Or.inl (gt_at 199 (by decide +kernel) (by decide +kernel))⟩
theorem flX3_15 : FL RX3 15 3 1 := ⟨_, rfl, by decide, Or.inl (gt_at 195 (by decide +kernel) (by decide +kernel))⟩
theorem fpX3_36 : FP RX3 36 3 6 .int := ⟨_, rfl, by decide, rfl, by decide +kernel, Or.inl (gt_at 200 (by decide +kernel) (by decide +kernel))⟩
theorem clX3_115 : CLs RX3 115 mX8_oppositesOf 1 := ⟨⟨(gt_at 453 (by decide +kernel) (by decide +kernel)), (gt_at 79 (by decide +kernel) (by decide +kernel)), ⟨by decide +kernel, by decide +kernel, by decide +kernel⟩, rfl, Or.inr ⟨"CnfCompiler", List.mem_of_getElem? (i := 451) (by decide +kernel)⟩⟩, (gt_at 452 (by decide +kernel) (by decide +kernel))⟩
theorem clX3_129 : CLv RX3 129 mX3_insert 3 := ⟨⟨(gt_at 457 (by decide +kernel) (by decide +kernel)), (gt_at 85 (by decide +kernel) (by decide +kernel)), ⟨by decide +kernel, by decide +kernel, by decide +kernel⟩, rfl, Or.inl (gt_at 454 (by decide +kernel) (by decide +kernel))⟩, (gt_at 456 (by decide +kernel) (by decide +kernel)), (gt_at 15 (by decide +kernel) (by decide +kernel))⟩
theorem clX3_30 : CLs RX3 30 mJ7_fill_53178 2 := ⟨⟨(gt_at 112 (by decide +kernel) (by decide +kernel)), (gt_at 81 (by decide +kernel) (by decide +kernel)), ⟨by decide +kernel, by decide +kernel, by decide +kernel⟩, rfl, Or.inl (gt_at 445 (by decide +kernel) (by decide +kernel))⟩, (gt_at 111 (by decide +kernel) (by decide +kernel))⟩
theorem fpX3_40 : FP RX3 40 3 9 .int := ⟨_, rfl, by decide, rfl, by decide +kernel, Or.inl (gt_at 204 (by decide +kernel) (by decide +kernel))⟩
theorem fpX3_43 : FP RX3 43 3 10 .int := ⟨_, rfl, by decide, rfl, by decide +kernel, Or.inl (gt_at 206 (by decide +kernel) (by decide +kernel))⟩
theorem fpX3_46 : FP RX3 46 3 11 .boolean := ⟨_, rfl, by decide, rfl, by decide +kernel, Or.inl (gt_at 208 (by decide +kernel) (by decide +kernel))⟩
theorem fpX3_50 : FP RX3 50 3 12 .boolean := ⟨_, rfl, by decide, rfl, by decide +kernel, Or.inl (gt_at 209 (by decide +kernel) (by decide +kernel))⟩
theorem fpX3_53 : FP RX3 53 3 7 .int := ⟨_, rfl, by decide, rfl, by decide +kernel, Or.inl (gt_at 201 (by decide +kernel) (by decide +kernel))⟩
theorem flX3_56 : FL RX3 56 6 1 := ⟨_, rfl, by decide, Or.inr ⟨"CnfCompiler", List.mem_of_getElem? (i := 115) (by decide +kernel)⟩⟩
theorem flX3_53 : FL RX3 53 3 7 := ⟨_, rfl, by decide, Or.inl (gt_at 201 (by decide +kernel) (by decide +kernel))⟩
theorem clX3_61 : CLv RX3 61 mX6_clauseAt 1 := ⟨⟨(gt_at 402 (by decide +kernel) (by decide +kernel)), (gt_at 80 (by decide +kernel) (by decide +kernel)), ⟨by decide +kernel, by decide +kernel, by decide +kernel⟩, rfl, Or.inr ⟨"CnfCompiler", List.mem_of_getElem? (i := 446) (by decide +kernel)⟩⟩, (gt_at 401 (by decide +kernel) (by decide +kernel)), (gt_at 9 (by decide +kernel) (by decide +kernel))⟩
theorem flX3_65 : FL RX3 65 6 2 := ⟨_, rfl, by decide, Or.inr ⟨"CnfCompiler", List.mem_of_getElem? (i := 119) (by decide +kernel)⟩⟩
theorem clX3_68 : CLv RX3 68 mX3_addResidual 4 := ⟨⟨(gt_at 450 (by decide +kernel) (by decide +kernel)), (gt_at 85 (by decide +kernel) (by decide +kernel)), ⟨by decide +kernel, by decide +kernel, by decide +kernel⟩, rfl, Or.inl (gt_at 447 (by decide +kernel) (by decide +kernel))⟩, (gt_at 449 (by decide +kernel) (by decide +kernel)), (gt_at 14 (by decide +kernel) (by decide +kernel))⟩
theorem clX3_72 : CLv RX3 72 mX3_explore 2 := ⟨⟨(gt_at 461 (by decide +kernel) (by decide +kernel)), (gt_at 85 (by decide +kernel) (by decide +kernel)), ⟨by decide +kernel, by decide +kernel, by decide +kernel⟩, rfl, Or.inl (gt_at 458 (by decide +kernel) (by decide +kernel))⟩, (gt_at 460 (by decide +kernel) (by decide +kernel)), (gt_at 16 (by decide +kernel) (by decide +kernel))⟩
theorem fpX3_76 : FP RX3 76 3 8 .int := ⟨_, rfl, by decide, rfl, by decide +kernel, Or.inl (gt_at 202 (by decide +kernel) (by decide +kernel))⟩
theorem clX3_93 : CLv RX3 93 mX3_bucketOf 2 := ⟨⟨(gt_at 465 (by decide +kernel) (by decide +kernel)), (gt_at 85 (by decide +kernel) (by decide +kernel)), ⟨by decide +kernel, by decide +kernel, by decide +kernel⟩, rfl, Or.inl (gt_at 462 (by decide +kernel) (by decide +kernel))⟩, (gt_at 464 (by decide +kernel) (by decide +kernel)), (gt_at 17 (by decide +kernel) (by decide +kernel))⟩
theorem clX3_96 : CLv RX3 96 mX3_findNode 3 := ⟨⟨(gt_at 469 (by decide +kernel) (by decide +kernel)), (gt_at 85 (by decide +kernel) (by decide +kernel)), ⟨by decide +kernel, by decide +kernel, by decide +kernel⟩, rfl, Or.inl (gt_at 466 (by decide +kernel) (by decide +kernel))⟩, (gt_at 468 (by decide +kernel) (by decide +kernel)), (gt_at 18 (by decide +kernel) (by decide +kernel))⟩
theorem clX3_89 : CLv RX3 89 mX3_variablesConnectedTo 3 := ⟨⟨(gt_at 477 (by decide +kernel) (by decide +kernel)), (gt_at 85 (by decide +kernel) (by decide +kernel)), ⟨by decide +kernel, by decide +kernel, by decide +kernel⟩, rfl, Or.inl (gt_at 474 (by decide +kernel) (by decide +kernel))⟩, (gt_at 476 (by decide +kernel) (by decide +kernel)), (gt_at 20 (by decide +kernel) (by decide +kernel))⟩
theorem clX3_99 : CLv RX3 99 mX3_variablesIn 2 := ⟨⟨(gt_at 482 (by decide +kernel) (by decide +kernel)), (gt_at 85 (by decide +kernel) (by decide +kernel)), ⟨by decide +kernel, by decide +kernel, by decide +kernel⟩, rfl, Or.inl (gt_at 479 (by decide +kernel) (by decide +kernel))⟩, (gt_at 481 (by decide +kernel) (by decide +kernel)), (gt_at 21 (by decide +kernel) (by decide +kernel))⟩
theorem clX3_102 : CLv RX3 102 mX3_exploreDecision 2 := ⟨⟨(gt_at 486 (by decide +kernel) (by decide +kernel)), (gt_at 85 (by decide +kernel) (by decide +kernel)), ⟨by decide +kernel, by decide +kernel, by decide +kernel⟩, rfl, Or.inl (gt_at 483 (by decide +kernel) (by decide +kernel))⟩, (gt_at 485 (by decide +kernel) (by decide +kernel)), (gt_at 22 (by decide +kernel) (by decide +kernel))⟩
theorem clX3_105 : CLv RX3 105 mX3_exploreParts 2 := ⟨⟨(gt_at 502 (by decide +kernel) (by decide +kernel)), (gt_at 85 (by decide +kernel) (by decide +kernel)), ⟨by decide +kernel, by decide +kernel, by decide +kernel⟩, rfl, Or.inl (gt_at 499 (by decide +kernel) (by decide +kernel))⟩, (gt_at 501 (by decide +kernel) (by decide +kernel)), (gt_at 25 (by decide +kernel) (by decide +kernel))⟩
theorem clX3_108 : CLv RX3 108 mX3_addNode 4 := ⟨⟨(gt_at 510 (by decide +kernel) (by decide +kernel)), (gt_at 85 (by decide +kernel) (by decide +kernel)), ⟨by decide +kernel, by decide +kernel, by decide +kernel⟩, rfl, Or.inl (gt_at 507 (by decide +kernel) (by decide +kernel))⟩, (gt_at 509 (by decide +kernel) (by decide +kernel)), (gt_at 27 (by decide +kernel) (by decide +kernel))⟩
theorem flX3_40 : FL RX3 40 3 9 := ⟨_, rfl, by decide, Or.inl (gt_at 204 (by decide +kernel) (by decide +kernel))⟩
theorem clX3_83 : CLv RX3 83 mX3_mostFrequentVariable 2 := ⟨⟨(gt_at 490 (by decide +kernel) (by decide +kernel)), (gt_at 85 (by decide +kernel) (by decide +kernel)), ⟨by decide +kernel, by decide +kernel, by decide +kernel⟩, rfl, Or.inl (gt_at 487 (by decide +kernel) (by decide +kernel))⟩, (gt_at 489 (by decide +kernel) (by decide +kernel)), (gt_at 23 (by decide +kernel) (by decide +kernel))⟩
theorem clX3_112 : CLs RX3 112 mX8_bitOf 1 := ⟨⟨(gt_at 362 (by decide +kernel) (by decide +kernel)), (gt_at 79 (by decide +kernel) (by decide +kernel)), ⟨by decide +kernel, by decide +kernel, by decide +kernel⟩, rfl, Or.inr ⟨"CnfCompiler", List.mem_of_getElem? (i := 491) (by decide +kernel)⟩⟩, (gt_at 361 (by decide +kernel) (by decide +kernel))⟩
theorem clX3_118 : CLv RX3 118 mX3_setLiteral 3 := ⟨⟨(gt_at 495 (by decide +kernel) (by decide +kernel)), (gt_at 85 (by decide +kernel) (by decide +kernel)), ⟨by decide +kernel, by decide +kernel, by decide +kernel⟩, rfl, Or.inl (gt_at 492 (by decide +kernel) (by decide +kernel))⟩, (gt_at 494 (by decide +kernel) (by decide +kernel)), (gt_at 24 (by decide +kernel) (by decide +kernel))⟩
theorem clX3_121 : Cond.methodLink RX3 121 Lib.Math.max.name ∈ gtbl := (gt_at 496 (by decide +kernel) (by decide +kernel))
theorem flX3_43 : FL RX3 43 3 10 := ⟨_, rfl, by decide, Or.inl (gt_at 206 (by decide +kernel) (by decide +kernel))⟩
theorem clX3_86 : CLs RX3 86 mX8_variablesOf 1 := ⟨⟨(gt_at 415 (by decide +kernel) (by decide +kernel)), (gt_at 79 (by decide +kernel) (by decide +kernel)), ⟨by decide +kernel, by decide +kernel, by decide +kernel⟩, rfl, Or.inr ⟨"CnfCompiler", List.mem_of_getElem? (i := 478) (by decide +kernel)⟩⟩, (gt_at 414 (by decide +kernel) (by decide +kernel))⟩
theorem clX3_126 : CLv RX3 126 mX3_takePart 3 := ⟨⟨(gt_at 506 (by decide +kernel) (by decide +kernel)), (gt_at 85 (by decide +kernel) (by decide +kernel)), ⟨by decide +kernel, by decide +kernel, by decide +kernel⟩, rfl, Or.inl (gt_at 503 (by decide +kernel) (by decide +kernel))⟩, (gt_at 505 (by decide +kernel) (by decide +kernel)), (gt_at 26 (by decide +kernel) (by decide +kernel))⟩
theorem clX3_132 : CLv RX3 132 mX3_hasRow 3 := ⟨⟨(gt_at 473 (by decide +kernel) (by decide +kernel)), (gt_at 85 (by decide +kernel) (by decide +kernel)), ⟨by decide +kernel, by decide +kernel, by decide +kernel⟩, rfl, Or.inl (gt_at 470 (by decide +kernel) (by decide +kernel))⟩, (gt_at 472 (by decide +kernel) (by decide +kernel)), (gt_at 19 (by decide +kernel) (by decide +kernel))⟩
theorem clX3_3 : Cond.methodLink RX3 3 objectInit ∈ gtbl := (gt_at 193 (by decide +kernel) (by decide +kernel))
theorem fpX3_11 : FF RX3 11 3 0 (.array .int) := ⟨_, rfl, by decide, rfl, rfl, by decide +kernel, (gt_at 194 (by decide +kernel) (by decide +kernel))⟩
theorem fpX3_15 : FF RX3 15 3 1 (.array .int) := ⟨_, rfl, by decide, rfl, rfl, by decide +kernel, (gt_at 195 (by decide +kernel) (by decide +kernel))⟩
theorem fpX3_18 : FP RX3 18 3 2 (.array .int) := ⟨_, rfl, by decide, rfl, by decide +kernel, Or.inl (gt_at 196 (by decide +kernel) (by decide +kernel))⟩
theorem fpX3_21 : FP RX3 21 3 3 (.array .int) := ⟨_, rfl, by decide, rfl, by decide +kernel, Or.inl (gt_at 197 (by decide +kernel) (by decide +kernel))⟩
theorem fpX3_24 : FP RX3 24 3 4 (.array .int) := ⟨_, rfl, by decide, rfl, by decide +kernel, Or.inl (gt_at 198 (by decide +kernel) (by decide +kernel))⟩
theorem fpX3_27 : FP RX3 27 3 5 (.array .int) := ⟨_, rfl, by decide, rfl, by decide +kernel, Or.inl (gt_at 199 (by decide +kernel) (by decide +kernel))⟩
theorem clX3_145 : CLs RX3 145 mJ7_copyOf_59c91 2 := ⟨⟨(gt_at 517 (by decide +kernel) (by decide +kernel)), (gt_at 81 (by decide +kernel) (by decide +kernel)), ⟨by decide +kernel, by decide +kernel, by decide +kernel⟩, rfl, Or.inl (gt_at 515 (by decide +kernel) (by decide +kernel))⟩, (gt_at 516 (by decide +kernel) (by decide +kernel))⟩
theorem flX3_46 : FL RX3 46 3 11 := ⟨_, rfl, by decide, Or.inl (gt_at 208 (by decide +kernel) (by decide +kernel))⟩
theorem flX3_50 : FL RX3 50 3 12 := ⟨_, rfl, by decide, Or.inl (gt_at 209 (by decide +kernel) (by decide +kernel))⟩
theorem clX3_79 : CLv RX3 79 mX3_partsAtRoot 0 := ⟨⟨(gt_at 557 (by decide +kernel) (by decide +kernel)), (gt_at 85 (by decide +kernel) (by decide +kernel)), ⟨by decide +kernel, by decide +kernel, by decide +kernel⟩, rfl, Or.inl (gt_at 554 (by decide +kernel) (by decide +kernel))⟩, (gt_at 556 (by decide +kernel) (by decide +kernel)), (gt_at 31 (by decide +kernel) (by decide +kernel))⟩
theorem flX4_11 : FL RX4 11 4 0 := ⟨_, rfl, by decide, Or.inl (gt_at 142 (by decide +kernel) (by decide +kernel))⟩
theorem fpX4_18 : FP RX4 18 4 1 .int := ⟨_, rfl, by decide, rfl, by decide +kernel, Or.inl (gt_at 143 (by decide +kernel) (by decide +kernel))⟩
theorem clX4_3 : Cond.methodLink RX4 3 objectInit ∈ gtbl := (gt_at 138 (by decide +kernel) (by decide +kernel))
theorem alX4_9 : Cond.classLink RX4 9 RX6 ∈ gtbl := (gt_at 139 (by decide +kernel) (by decide +kernel))
theorem fpX4_11 : FF RX4 11 4 0 (.array (.object "CnfCompiler$State")) := ⟨_, rfl, by decide, rfl, rfl, by decide +kernel, (gt_at 142 (by decide +kernel) (by decide +kernel))⟩
theorem nlX4_9 : NL RX4 9 6 [.null, .int 0, .int 0, .null] := ⟨_, tyX6, rfl, tyX6_ok, by decide +kernel, rfl, fun _ => rfl, (gt_at 139 (by decide +kernel) (by decide +kernel)), (gt_at 105 (by decide +kernel) (by decide +kernel)), (gt_at 80 (by decide +kernel) (by decide +kernel))⟩
theorem clX4_17 : CLi RX4 17 mX6_init 0 := ⟨⟨(gt_at 108 (by decide +kernel) (by decide +kernel)), (gt_at 80 (by decide +kernel) (by decide +kernel)), ⟨by decide +kernel, by decide +kernel, by decide +kernel⟩, rfl, Or.inr ⟨"CnfCompiler", List.mem_of_getElem? (i := 141) (by decide +kernel)⟩⟩, (gt_at 107 (by decide +kernel) (by decide +kernel)), rfl, rfl⟩
theorem flX4_18 : FL RX4 18 4 1 := ⟨_, rfl, by decide, Or.inl (gt_at 143 (by decide +kernel) (by decide +kernel))⟩
theorem clX4_25 : CLv RX4 25 mX6_copyFrom 1 := ⟨⟨(gt_at 356 (by decide +kernel) (by decide +kernel)), (gt_at 80 (by decide +kernel) (by decide +kernel)), ⟨by decide +kernel, by decide +kernel, by decide +kernel⟩, rfl, Or.inr ⟨"CnfCompiler", List.mem_of_getElem? (i := 353) (by decide +kernel)⟩⟩, (gt_at 355 (by decide +kernel) (by decide +kernel)), (gt_at 3 (by decide +kernel) (by decide +kernel))⟩
theorem clX4_22 : CLv RX4 22 mX4_dropOldest 0 := ⟨⟨(gt_at 352 (by decide +kernel) (by decide +kernel)), (gt_at 82 (by decide +kernel) (by decide +kernel)), ⟨by decide +kernel, by decide +kernel, by decide +kernel⟩, rfl, Or.inl (gt_at 349 (by decide +kernel) (by decide +kernel))⟩, (gt_at 351 (by decide +kernel) (by decide +kernel)), (gt_at 2 (by decide +kernel) (by decide +kernel))⟩
theorem flX5_9 : FL RX5 9 5 0 := ⟨_, rfl, by decide, Or.inl (gt_at 243 (by decide +kernel) (by decide +kernel))⟩
theorem kcX5_21 : Cond.constantLong RX5 21 (-1) ∈ gtbl := (gt_at 575 (by decide +kernel) (by decide +kernel))
theorem clX5_23 : CLs RX5 23 mJ7_fill_d0a16 2 := ⟨⟨(gt_at 578 (by decide +kernel) (by decide +kernel)), (gt_at 81 (by decide +kernel) (by decide +kernel)), ⟨by decide +kernel, by decide +kernel, by decide +kernel⟩, rfl, Or.inl (gt_at 576 (by decide +kernel) (by decide +kernel))⟩, (gt_at 577 (by decide +kernel) (by decide +kernel))⟩
theorem flX5_29 : FL RX5 29 6 1 := ⟨_, rfl, by decide, Or.inr ⟨"CnfCompiler", List.mem_of_getElem? (i := 117) (by decide +kernel)⟩⟩
theorem clX5_35 : CLv RX5 35 mX6_clauseAt 1 := ⟨⟨(gt_at 402 (by decide +kernel) (by decide +kernel)), (gt_at 80 (by decide +kernel) (by decide +kernel)), ⟨by decide +kernel, by decide +kernel, by decide +kernel⟩, rfl, Or.inr ⟨"CnfCompiler", List.mem_of_getElem? (i := 579) (by decide +kernel)⟩⟩, (gt_at 401 (by decide +kernel) (by decide +kernel)), (gt_at 9 (by decide +kernel) (by decide +kernel))⟩
theorem clX5_39 : CLv RX5 39 mX5_keepSatisfying 1 := ⟨⟨(gt_at 583 (by decide +kernel) (by decide +kernel)), (gt_at 86 (by decide +kernel) (by decide +kernel)), ⟨by decide +kernel, by decide +kernel, by decide +kernel⟩, rfl, Or.inl (gt_at 580 (by decide +kernel) (by decide +kernel))⟩, (gt_at 582 (by decide +kernel) (by decide +kernel)), (gt_at 34 (by decide +kernel) (by decide +kernel))⟩
theorem flX5_43 : FL RX5 43 6 2 := ⟨_, rfl, by decide, Or.inr ⟨"CnfCompiler", List.mem_of_getElem? (i := 120) (by decide +kernel)⟩⟩
theorem clX5_46 : CLs RX5 46 mX8_contains 2 := ⟨⟨(gt_at 586 (by decide +kernel) (by decide +kernel)), (gt_at 79 (by decide +kernel) (by decide +kernel)), ⟨by decide +kernel, by decide +kernel, by decide +kernel⟩, rfl, Or.inr ⟨"CnfCompiler", List.mem_of_getElem? (i := 584) (by decide +kernel)⟩⟩, (gt_at 585 (by decide +kernel) (by decide +kernel))⟩
theorem clX5_54 : CLv RX5 54 mX5_wordAt 1 := ⟨⟨(gt_at 629 (by decide +kernel) (by decide +kernel)), (gt_at 86 (by decide +kernel) (by decide +kernel)), ⟨by decide +kernel, by decide +kernel, by decide +kernel⟩, rfl, Or.inl (gt_at 626 (by decide +kernel) (by decide +kernel))⟩, (gt_at 628 (by decide +kernel) (by decide +kernel)), (gt_at 39 (by decide +kernel) (by decide +kernel))⟩
theorem clX5_3 : Cond.methodLink RX5 3 objectInit ∈ gtbl := (gt_at 242 (by decide +kernel) (by decide +kernel))
theorem fpX5_9 : FF RX5 9 5 0 (.array .long) := ⟨_, rfl, by decide, rfl, rfl, by decide +kernel, (gt_at 243 (by decide +kernel) (by decide +kernel))⟩
theorem fpX5_15 : FF RX5 15 5 1 (.array .long) := ⟨_, rfl, by decide, rfl, rfl, by decide +kernel, (gt_at 244 (by decide +kernel) (by decide +kernel))⟩
theorem flX5_15 : FL RX5 15 5 1 := ⟨_, rfl, by decide, Or.inl (gt_at 244 (by decide +kernel) (by decide +kernel))⟩
theorem clX5_50 : CLs RX5 50 mX5_literalWord 2 := ⟨⟨(gt_at 589 (by decide +kernel) (by decide +kernel)), (gt_at 86 (by decide +kernel) (by decide +kernel)), ⟨by decide +kernel, by decide +kernel, by decide +kernel⟩, rfl, Or.inl (gt_at 587 (by decide +kernel) (by decide +kernel))⟩, (gt_at 588 (by decide +kernel) (by decide +kernel))⟩
theorem clX5_64 : CLs RX5 64 mJ13_numberOfTrailingZeros_95d88 1 := ⟨⟨(gt_at 656 (by decide +kernel) (by decide +kernel)), (gt_at 94 (by decide +kernel) (by decide +kernel)), ⟨by decide +kernel, by decide +kernel, by decide +kernel⟩, rfl, Or.inl (gt_at 654 (by decide +kernel) (by decide +kernel))⟩, (gt_at 655 (by decide +kernel) (by decide +kernel))⟩
theorem clX5_58 : CLs RX5 58 mJ13_bitCount_95d88 1 := ⟨⟨(gt_at 598 (by decide +kernel) (by decide +kernel)), (gt_at 94 (by decide +kernel) (by decide +kernel)), ⟨by decide +kernel, by decide +kernel, by decide +kernel⟩, rfl, Or.inl (gt_at 596 (by decide +kernel) (by decide +kernel))⟩, (gt_at 597 (by decide +kernel) (by decide +kernel))⟩
theorem flX6_15 : FL RX6 15 6 1 := ⟨_, rfl, by decide, Or.inl (gt_at 114 (by decide +kernel) (by decide +kernel))⟩
theorem flX6_9 : FL RX6 9 6 0 := ⟨_, rfl, by decide, Or.inl (gt_at 113 (by decide +kernel) (by decide +kernel))⟩
theorem fpX6_15 : FP RX6 15 6 1 .int := ⟨_, rfl, by decide, rfl, by decide +kernel, Or.inl (gt_at 114 (by decide +kernel) (by decide +kernel))⟩
theorem clX6_31 : CLv RX6 31 mX6_hasClause 1 := ⟨⟨(gt_at 385 (by decide +kernel) (by decide +kernel)), (gt_at 80 (by decide +kernel) (by decide +kernel)), ⟨by decide +kernel, by decide +kernel, by decide +kernel⟩, rfl, Or.inl (gt_at 390 (by decide +kernel) (by decide +kernel))⟩, (gt_at 384 (by decide +kernel) (by decide +kernel)), (gt_at 7 (by decide +kernel) (by decide +kernel))⟩
theorem clX6_39 : Cond.methodLink RX6 39 arraycopyName ∈ gtbl := (gt_at 357 (by decide +kernel) (by decide +kernel))
theorem flX6_19 : FL RX6 19 6 2 := ⟨_, rfl, by decide, Or.inl (gt_at 118 (by decide +kernel) (by decide +kernel))⟩
theorem fpX6_19 : FP RX6 19 6 2 .int := ⟨_, rfl, by decide, rfl, by decide +kernel, Or.inl (gt_at 118 (by decide +kernel) (by decide +kernel))⟩
theorem flX6_22 : FL RX6 22 6 3 := ⟨_, rfl, by decide, Or.inl (gt_at 122 (by decide +kernel) (by decide +kernel))⟩
theorem clX6_3 : Cond.methodLink RX6 3 objectInit ∈ gtbl := (gt_at 109 (by decide +kernel) (by decide +kernel))
theorem fpX6_9 : FF RX6 9 6 0 (.array .int) := ⟨_, rfl, by decide, rfl, rfl, by decide +kernel, (gt_at 113 (by decide +kernel) (by decide +kernel))⟩
theorem fpX6_22 : FF RX6 22 6 3 (.array .int) := ⟨_, rfl, by decide, rfl, rfl, by decide +kernel, (gt_at 122 (by decide +kernel) (by decide +kernel))⟩
theorem clX6_25 : CLs RX6 25 mJ7_fill_53178 2 := ⟨⟨(gt_at 112 (by decide +kernel) (by decide +kernel)), (gt_at 81 (by decide +kernel) (by decide +kernel)), ⟨by decide +kernel, by decide +kernel, by decide +kernel⟩, rfl, Or.inl (gt_at 110 (by decide +kernel) (by decide +kernel))⟩, (gt_at 111 (by decide +kernel) (by decide +kernel))⟩
theorem clX6_35 : CLv RX6 35 mX6_weightOf 1 := ⟨⟨(gt_at 432 (by decide +kernel) (by decide +kernel)), (gt_at 80 (by decide +kernel) (by decide +kernel)), ⟨by decide +kernel, by decide +kernel, by decide +kernel⟩, rfl, Or.inl (gt_at 429 (by decide +kernel) (by decide +kernel))⟩, (gt_at 431 (by decide +kernel) (by decide +kernel)), (gt_at 11 (by decide +kernel) (by decide +kernel))⟩
theorem clX7_28 : CLv RX7 28 mX6_weightOf 1 := ⟨⟨(gt_at 432 (by decide +kernel) (by decide +kernel)), (gt_at 80 (by decide +kernel) (by decide +kernel)), ⟨by decide +kernel, by decide +kernel, by decide +kernel⟩, rfl, Or.inr ⟨"CnfCompiler", List.mem_of_getElem? (i := 621) (by decide +kernel)⟩⟩, (gt_at 431 (by decide +kernel) (by decide +kernel)), (gt_at 11 (by decide +kernel) (by decide +kernel))⟩
theorem clX7_5 : Cond.methodLink RX7 5 objectInit ∈ gtbl := (gt_at 256 (by decide +kernel) (by decide +kernel))
theorem fpX7_11 : FF RX7 11 7 0 (.array .long) := ⟨_, rfl, by decide, rfl, rfl, by decide +kernel, (gt_at 257 (by decide +kernel) (by decide +kernel))⟩
theorem fpX7_15 : FF RX7 15 7 1 (.array .long) := ⟨_, rfl, by decide, rfl, rfl, by decide +kernel, (gt_at 258 (by decide +kernel) (by decide +kernel))⟩
theorem flX7_11 : FL RX7 11 7 0 := ⟨_, rfl, by decide, Or.inl (gt_at 257 (by decide +kernel) (by decide +kernel))⟩
theorem clX7_18 : CLs RX7 18 mX7_fillProducts 3 := ⟨⟨(gt_at 620 (by decide +kernel) (by decide +kernel)), (gt_at 87 (by decide +kernel) (by decide +kernel)), ⟨by decide +kernel, by decide +kernel, by decide +kernel⟩, rfl, Or.inl (gt_at 618 (by decide +kernel) (by decide +kernel))⟩, (gt_at 619 (by decide +kernel) (by decide +kernel))⟩
theorem flX7_15 : FL RX7 15 7 1 := ⟨_, rfl, by decide, Or.inl (gt_at 258 (by decide +kernel) (by decide +kernel))⟩
theorem clX7_22 : CLv RX7 22 mX5_has 1 := ⟨⟨(gt_at 625 (by decide +kernel) (by decide +kernel)), (gt_at 86 (by decide +kernel) (by decide +kernel)), ⟨by decide +kernel, by decide +kernel, by decide +kernel⟩, rfl, Or.inr ⟨"CnfCompiler", List.mem_of_getElem? (i := 622) (by decide +kernel)⟩⟩, (gt_at 624 (by decide +kernel) (by decide +kernel)), (gt_at 38 (by decide +kernel) (by decide +kernel))⟩
theorem clX8_76 : CLs RX8 76 mX8_isLiteral 1 := ⟨⟨(gt_at 331 (by decide +kernel) (by decide +kernel)), (gt_at 79 (by decide +kernel) (by decide +kernel)), ⟨by decide +kernel, by decide +kernel, by decide +kernel⟩, rfl, Or.inl (gt_at 329 (by decide +kernel) (by decide +kernel))⟩, (gt_at 330 (by decide +kernel) (by decide +kernel))⟩
theorem clX8_80 : CLs RX8 80 mX8_isLiteralOrZero 1 := ⟨⟨(gt_at 334 (by decide +kernel) (by decide +kernel)), (gt_at 79 (by decide +kernel) (by decide +kernel)), ⟨by decide +kernel, by decide +kernel, by decide +kernel⟩, rfl, Or.inl (gt_at 332 (by decide +kernel) (by decide +kernel))⟩, (gt_at 333 (by decide +kernel) (by decide +kernel))⟩
theorem clX8_83 : CLv RX8 83 mX8_fail 1 := ⟨⟨(gt_at 338 (by decide +kernel) (by decide +kernel)), (gt_at 79 (by decide +kernel) (by decide +kernel)), ⟨by decide +kernel, by decide +kernel, by decide +kernel⟩, rfl, Or.inl (gt_at 335 (by decide +kernel) (by decide +kernel))⟩, (gt_at 337 (by decide +kernel) (by decide +kernel)), (gt_at 0 (by decide +kernel) (by decide +kernel))⟩
theorem clX8_87 : CLs RX8 87 mX8_sameVariable 2 := ⟨⟨(gt_at 344 (by decide +kernel) (by decide +kernel)), (gt_at 79 (by decide +kernel) (by decide +kernel)), ⟨by decide +kernel, by decide +kernel, by decide +kernel⟩, rfl, Or.inl (gt_at 342 (by decide +kernel) (by decide +kernel))⟩, (gt_at 343 (by decide +kernel) (by decide +kernel))⟩
theorem flX8_12 : FL RX8 12 8 0 := ⟨_, rfl, by decide, Or.inl (gt_at 291 (by decide +kernel) (by decide +kernel))⟩
theorem flX8_91 : FL RX8 91 6 1 := ⟨_, rfl, by decide, Or.inr ⟨"CnfCompiler", List.mem_of_getElem? (i := 116) (by decide +kernel)⟩⟩
theorem flX8_19 : FL RX8 19 8 1 := ⟨_, rfl, by decide, Or.inl (gt_at 292 (by decide +kernel) (by decide +kernel))⟩
theorem clX8_95 : CLv RX8 95 mX4_save 1 := ⟨⟨(gt_at 348 (by decide +kernel) (by decide +kernel)), (gt_at 82 (by decide +kernel) (by decide +kernel)), ⟨by decide +kernel, by decide +kernel, by decide +kernel⟩, rfl, Or.inr ⟨"CnfCompiler", List.mem_of_getElem? (i := 345) (by decide +kernel)⟩⟩, (gt_at 347 (by decide +kernel) (by decide +kernel)), (gt_at 1 (by decide +kernel) (by decide +kernel))⟩
theorem clX8_99 : CLs RX8 99 mX8_bitOf 1 := ⟨⟨(gt_at 362 (by decide +kernel) (by decide +kernel)), (gt_at 79 (by decide +kernel) (by decide +kernel)), ⟨by decide +kernel, by decide +kernel, by decide +kernel⟩, rfl, Or.inl (gt_at 360 (by decide +kernel) (by decide +kernel))⟩, (gt_at 361 (by decide +kernel) (by decide +kernel))⟩
theorem clX8_102 : CLv RX8 102 mX6_appendClause 1 := ⟨⟨(gt_at 369 (by decide +kernel) (by decide +kernel)), (gt_at 80 (by decide +kernel) (by decide +kernel)), ⟨by decide +kernel, by decide +kernel, by decide +kernel⟩, rfl, Or.inr ⟨"CnfCompiler", List.mem_of_getElem? (i := 366) (by decide +kernel)⟩⟩, (gt_at 368 (by decide +kernel) (by decide +kernel)), (gt_at 4 (by decide +kernel) (by decide +kernel))⟩
theorem clX8_106 : CLv RX8 106 mX8_formulaHasChanged 0 := ⟨⟨(gt_at 373 (by decide +kernel) (by decide +kernel)), (gt_at 79 (by decide +kernel) (by decide +kernel)), ⟨by decide +kernel, by decide +kernel, by decide +kernel⟩, rfl, Or.inl (gt_at 370 (by decide +kernel) (by decide +kernel))⟩, (gt_at 372 (by decide +kernel) (by decide +kernel)), (gt_at 5 (by decide +kernel) (by decide +kernel))⟩
theorem clX8_136 : CLv RX8 136 mX8_freshGraph 0 := ⟨⟨(gt_at 440 (by decide +kernel) (by decide +kernel)), (gt_at 79 (by decide +kernel) (by decide +kernel)), ⟨by decide +kernel, by decide +kernel, by decide +kernel⟩, rfl, Or.inl (gt_at 437 (by decide +kernel) (by decide +kernel))⟩, (gt_at 439 (by decide +kernel) (by decide +kernel)), (gt_at 12 (by decide +kernel) (by decide +kernel))⟩
theorem flX8_147 : FL RX8 147 3 10 := ⟨_, rfl, by decide, Or.inr ⟨"CnfCompiler", List.mem_of_getElem? (i := 207) (by decide +kernel)⟩⟩
theorem flX8_26 : FL RX8 26 8 2 := ⟨_, rfl, by decide, Or.inl (gt_at 293 (by decide +kernel) (by decide +kernel))⟩
theorem flX8_195 : FL RX8 195 2 1 := ⟨_, rfl, by decide, Or.inr ⟨"CnfCompiler", List.mem_of_getElem? (i := 159) (by decide +kernel)⟩⟩
theorem clX8_198 : CLv RX8 198 mX2_addByte 1 := ⟨⟨(gt_at 695 (by decide +kernel) (by decide +kernel)), (gt_at 83 (by decide +kernel) (by decide +kernel)), ⟨by decide +kernel, by decide +kernel, by decide +kernel⟩, rfl, Or.inr ⟨"CnfCompiler", List.mem_of_getElem? (i := 692) (by decide +kernel)⟩⟩, (gt_at 694 (by decide +kernel) (by decide +kernel)), (gt_at 45 (by decide +kernel) (by decide +kernel))⟩
theorem flX8_123 : FL RX8 123 6 2 := ⟨_, rfl, by decide, Or.inr ⟨"CnfCompiler", List.mem_of_getElem? (i := 121) (by decide +kernel)⟩⟩
theorem clX8_126 : CLs RX8 126 mX8_variablesOf 1 := ⟨⟨(gt_at 415 (by decide +kernel) (by decide +kernel)), (gt_at 79 (by decide +kernel) (by decide +kernel)), ⟨by decide +kernel, by decide +kernel, by decide +kernel⟩, rfl, Or.inl (gt_at 413 (by decide +kernel) (by decide +kernel))⟩, (gt_at 414 (by decide +kernel) (by decide +kernel))⟩
theorem fpX8_123 : FP RX8 123 6 2 .int := ⟨_, rfl, by decide, rfl, by decide +kernel, Or.inr ⟨"CnfCompiler", List.mem_of_getElem? (i := 121) (by decide +kernel)⟩⟩
theorem clX8_118 : CLs RX8 118 mJ6_bitCount_0f7a4 1 := ⟨⟨(gt_at 405 (by decide +kernel) (by decide +kernel)), (gt_at 92 (by decide +kernel) (by decide +kernel)), ⟨by decide +kernel, by decide +kernel, by decide +kernel⟩, rfl, Or.inl (gt_at 403 (by decide +kernel) (by decide +kernel))⟩, (gt_at 404 (by decide +kernel) (by decide +kernel))⟩
theorem clX8_129 : CLs RX8 129 mX8_codeOf 1 := ⟨⟨(gt_at 365 (by decide +kernel) (by decide +kernel)), (gt_at 79 (by decide +kernel) (by decide +kernel)), ⟨by decide +kernel, by decide +kernel, by decide +kernel⟩, rfl, Or.inl (gt_at 363 (by decide +kernel) (by decide +kernel))⟩, (gt_at 364 (by decide +kernel) (by decide +kernel))⟩
theorem clX8_239 : CLs RX8 239 mJ6_numberOfLeadingZeros_0f7a4 1 := ⟨⟨(gt_at 640 (by decide +kernel) (by decide +kernel)), (gt_at 92 (by decide +kernel) (by decide +kernel)), ⟨by decide +kernel, by decide +kernel, by decide +kernel⟩, rfl, Or.inl (gt_at 638 (by decide +kernel) (by decide +kernel))⟩, (gt_at 639 (by decide +kernel) (by decide +kernel))⟩
theorem clX8_109 : CLv RX8 109 mX6_hasClause 1 := ⟨⟨(gt_at 385 (by decide +kernel) (by decide +kernel)), (gt_at 80 (by decide +kernel) (by decide +kernel)), ⟨by decide +kernel, by decide +kernel, by decide +kernel⟩, rfl, Or.inr ⟨"CnfCompiler", List.mem_of_getElem? (i := 382) (by decide +kernel)⟩⟩, (gt_at 384 (by decide +kernel) (by decide +kernel)), (gt_at 7 (by decide +kernel) (by decide +kernel))⟩
theorem clX8_115 : CLv RX8 115 mX6_clauseAt 1 := ⟨⟨(gt_at 402 (by decide +kernel) (by decide +kernel)), (gt_at 80 (by decide +kernel) (by decide +kernel)), ⟨by decide +kernel, by decide +kernel, by decide +kernel⟩, rfl, Or.inr ⟨"CnfCompiler", List.mem_of_getElem? (i := 399) (by decide +kernel)⟩⟩, (gt_at 401 (by decide +kernel) (by decide +kernel)), (gt_at 9 (by decide +kernel) (by decide +kernel))⟩
theorem fpX8_195 : FP RX8 195 2 1 .int := ⟨_, rfl, by decide, rfl, by decide +kernel, Or.inr ⟨"CnfCompiler", List.mem_of_getElem? (i := 159) (by decide +kernel)⟩⟩
theorem clX8_156 : CLv RX8 156 mX3_partsAtRoot 0 := ⟨⟨(gt_at 557 (by decide +kernel) (by decide +kernel)), (gt_at 85 (by decide +kernel) (by decide +kernel)), ⟨by decide +kernel, by decide +kernel, by decide +kernel⟩, rfl, Or.inr ⟨"CnfCompiler", List.mem_of_getElem? (i := 562) (by decide +kernel)⟩⟩, (gt_at 556 (by decide +kernel) (by decide +kernel)), (gt_at 31 (by decide +kernel) (by decide +kernel))⟩
theorem flX8_144 : FL RX8 144 3 9 := ⟨_, rfl, by decide, Or.inr ⟨"CnfCompiler", List.mem_of_getElem? (i := 205) (by decide +kernel)⟩⟩
theorem flX8_150 : FL RX8 150 3 8 := ⟨_, rfl, by decide, Or.inr ⟨"CnfCompiler", List.mem_of_getElem? (i := 203) (by decide +kernel)⟩⟩
theorem kcX8_218 : Cond.constantLong RX8 218 (2671) ∈ gtbl := (gt_at 758 (by decide +kernel) (by decide +kernel))
theorem kcX8_220 : Cond.constantLong RX8 220 (31) ∈ gtbl := (gt_at 759 (by decide +kernel) (by decide +kernel))
theorem flX8_65 : FL RX8 65 8 8 := ⟨_, rfl, by decide, Or.inl (gt_at 299 (by decide +kernel) (by decide +kernel))⟩
theorem clX8_222 : CLv RX8 222 mX6_weightOf 1 := ⟨⟨(gt_at 432 (by decide +kernel) (by decide +kernel)), (gt_at 80 (by decide +kernel) (by decide +kernel)), ⟨by decide +kernel, by decide +kernel, by decide +kernel⟩, rfl, Or.inr ⟨"CnfCompiler", List.mem_of_getElem? (i := 760) (by decide +kernel)⟩⟩, (gt_at 431 (by decide +kernel) (by decide +kernel)), (gt_at 11 (by decide +kernel) (by decide +kernel))⟩
theorem clX8_225 : CLs RX8 225 mX8_digestOfGraph 2 := ⟨⟨(gt_at 763 (by decide +kernel) (by decide +kernel)), (gt_at 79 (by decide +kernel) (by decide +kernel)), ⟨by decide +kernel, by decide +kernel, by decide +kernel⟩, rfl, Or.inl (gt_at 761 (by decide +kernel) (by decide +kernel))⟩, (gt_at 762 (by decide +kernel) (by decide +kernel))⟩
theorem clX8_159 : CLv RX8 159 mX8_freshModelSet 0 := ⟨⟨(gt_at 570 (by decide +kernel) (by decide +kernel)), (gt_at 79 (by decide +kernel) (by decide +kernel)), ⟨by decide +kernel, by decide +kernel, by decide +kernel⟩, rfl, Or.inl (gt_at 567 (by decide +kernel) (by decide +kernel))⟩, (gt_at 569 (by decide +kernel) (by decide +kernel)), (gt_at 32 (by decide +kernel) (by decide +kernel))⟩
theorem clX8_163 : CLv RX8 163 mX5_size 0 := ⟨⟨(gt_at 595 (by decide +kernel) (by decide +kernel)), (gt_at 86 (by decide +kernel) (by decide +kernel)), ⟨by decide +kernel, by decide +kernel, by decide +kernel⟩, rfl, Or.inr ⟨"CnfCompiler", List.mem_of_getElem? (i := 592) (by decide +kernel)⟩⟩, (gt_at 594 (by decide +kernel) (by decide +kernel)), (gt_at 35 (by decide +kernel) (by decide +kernel))⟩
theorem flX8_54 : FL RX8 54 8 6 := ⟨_, rfl, by decide, Or.inl (gt_at 297 (by decide +kernel) (by decide +kernel))⟩
theorem clX8_169 : CLv RX8 169 mX7_over 2 := ⟨⟨(gt_at 617 (by decide +kernel) (by decide +kernel)), (gt_at 87 (by decide +kernel) (by decide +kernel)), ⟨by decide +kernel, by decide +kernel, by decide +kernel⟩, rfl, Or.inr ⟨"CnfCompiler", List.mem_of_getElem? (i := 614) (by decide +kernel)⟩⟩, (gt_at 616 (by decide +kernel) (by decide +kernel)), (gt_at 37 (by decide +kernel) (by decide +kernel))⟩
theorem clX8_179 : CLv RX8 179 mX5_least 0 := ⟨⟨(gt_at 653 (by decide +kernel) (by decide +kernel)), (gt_at 86 (by decide +kernel) (by decide +kernel)), ⟨by decide +kernel, by decide +kernel, by decide +kernel⟩, rfl, Or.inr ⟨"CnfCompiler", List.mem_of_getElem? (i := 650) (by decide +kernel)⟩⟩, (gt_at 652 (by decide +kernel) (by decide +kernel)), (gt_at 40 (by decide +kernel) (by decide +kernel))⟩
theorem flX8_209 : FL RX8 209 4 1 := ⟨_, rfl, by decide, Or.inr ⟨"CnfCompiler", List.mem_of_getElem? (i := 144) (by decide +kernel)⟩⟩
theorem clX8_140 : CLv RX8 140 mX3_nodeTotal 0 := ⟨⟨(gt_at 533 (by decide +kernel) (by decide +kernel)), (gt_at 85 (by decide +kernel) (by decide +kernel)), ⟨by decide +kernel, by decide +kernel, by decide +kernel⟩, rfl, Or.inr ⟨"CnfCompiler", List.mem_of_getElem? (i := 530) (by decide +kernel)⟩⟩, (gt_at 532 (by decide +kernel) (by decide +kernel)), (gt_at 29 (by decide +kernel) (by decide +kernel))⟩
theorem clX8_153 : CLv RX8 153 mX3_variableAtRoot 0 := ⟨⟨(gt_at 553 (by decide +kernel) (by decide +kernel)), (gt_at 85 (by decide +kernel) (by decide +kernel)), ⟨by decide +kernel, by decide +kernel, by decide +kernel⟩, rfl, Or.inr ⟨"CnfCompiler", List.mem_of_getElem? (i := 550) (by decide +kernel)⟩⟩, (gt_at 552 (by decide +kernel) (by decide +kernel)), (gt_at 30 (by decide +kernel) (by decide +kernel))⟩
theorem clX8_215 : CLs RX8 215 mX8_isErrorCode 1 := ⟨⟨(gt_at 341 (by decide +kernel) (by decide +kernel)), (gt_at 79 (by decide +kernel) (by decide +kernel)), ⟨by decide +kernel, by decide +kernel, by decide +kernel⟩, rfl, Or.inl (gt_at 339 (by decide +kernel) (by decide +kernel))⟩, (gt_at 340 (by decide +kernel) (by decide +kernel))⟩
theorem flX8_61 : FL RX8 61 8 7 := ⟨_, rfl, by decide, Or.inl (gt_at 298 (by decide +kernel) (by decide +kernel))⟩
theorem flX8_182 : FL RX8 182 1 4 := ⟨_, rfl, by decide, Or.inr ⟨"CnfCompiler", List.mem_of_getElem? (i := 275) (by decide +kernel)⟩⟩
theorem clX8_185 : CLv RX8 185 mX1_explain 3 := ⟨⟨(gt_at 667 (by decide +kernel) (by decide +kernel)), (gt_at 88 (by decide +kernel) (by decide +kernel)), ⟨by decide +kernel, by decide +kernel, by decide +kernel⟩, rfl, Or.inr ⟨"CnfCompiler", List.mem_of_getElem? (i := 664) (by decide +kernel)⟩⟩, (gt_at 666 (by decide +kernel) (by decide +kernel)), (gt_at 41 (by decide +kernel) (by decide +kernel))⟩
theorem flX8_189 : FL RX8 189 1 5 := ⟨_, rfl, by decide, Or.inr ⟨"CnfCompiler", List.mem_of_getElem? (i := 277) (by decide +kernel)⟩⟩
theorem clX8_192 : CLv RX8 192 mX1_literalAt 1 := ⟨⟨(gt_at 684 (by decide +kernel) (by decide +kernel)), (gt_at 88 (by decide +kernel) (by decide +kernel)), ⟨by decide +kernel, by decide +kernel, by decide +kernel⟩, rfl, Or.inr ⟨"CnfCompiler", List.mem_of_getElem? (i := 681) (by decide +kernel)⟩⟩, (gt_at 683 (by decide +kernel) (by decide +kernel)), (gt_at 44 (by decide +kernel) (by decide +kernel))⟩
theorem fpX8_69 : FP RX8 69 8 9 .boolean := ⟨_, rfl, by decide, rfl, by decide +kernel, Or.inl (gt_at 300 (by decide +kernel) (by decide +kernel))⟩
theorem fpX8_73 : FP RX8 73 8 10 .boolean := ⟨_, rfl, by decide, rfl, by decide +kernel, Or.inl (gt_at 301 (by decide +kernel) (by decide +kernel))⟩
theorem clX8_229 : CLv RX8 229 mX1_forget 0 := ⟨⟨(gt_at 377 (by decide +kernel) (by decide +kernel)), (gt_at 88 (by decide +kernel) (by decide +kernel)), ⟨by decide +kernel, by decide +kernel, by decide +kernel⟩, rfl, Or.inr ⟨"CnfCompiler", List.mem_of_getElem? (i := 374) (by decide +kernel)⟩⟩, (gt_at 376 (by decide +kernel) (by decide +kernel)), (gt_at 6 (by decide +kernel) (by decide +kernel))⟩
theorem flX8_69 : FL RX8 69 8 9 := ⟨_, rfl, by decide, Or.inl (gt_at 300 (by decide +kernel) (by decide +kernel))⟩
theorem flX8_40 : FL RX8 40 8 4 := ⟨_, rfl, by decide, Or.inl (gt_at 295 (by decide +kernel) (by decide +kernel))⟩
theorem clX8_232 : CLv RX8 232 mX3_compile 1 := ⟨⟨(gt_at 444 (by decide +kernel) (by decide +kernel)), (gt_at 85 (by decide +kernel) (by decide +kernel)), ⟨by decide +kernel, by decide +kernel, by decide +kernel⟩, rfl, Or.inr ⟨"CnfCompiler", List.mem_of_getElem? (i := 441) (by decide +kernel)⟩⟩, (gt_at 443 (by decide +kernel) (by decide +kernel)), (gt_at 13 (by decide +kernel) (by decide +kernel))⟩
theorem flX8_73 : FL RX8 73 8 10 := ⟨_, rfl, by decide, Or.inl (gt_at 301 (by decide +kernel) (by decide +kernel))⟩
theorem flX8_47 : FL RX8 47 8 5 := ⟨_, rfl, by decide, Or.inl (gt_at 296 (by decide +kernel) (by decide +kernel))⟩
theorem clX8_235 : CLv RX8 235 mX5_fill 1 := ⟨⟨(gt_at 574 (by decide +kernel) (by decide +kernel)), (gt_at 86 (by decide +kernel) (by decide +kernel)), ⟨by decide +kernel, by decide +kernel, by decide +kernel⟩, rfl, Or.inr ⟨"CnfCompiler", List.mem_of_getElem? (i := 571) (by decide +kernel)⟩⟩, (gt_at 573 (by decide +kernel) (by decide +kernel)), (gt_at 33 (by decide +kernel) (by decide +kernel))⟩
theorem clX8_166 : CLv RX8 166 mX5_sizeWith 1 := ⟨⟨(gt_at 609 (by decide +kernel) (by decide +kernel)), (gt_at 86 (by decide +kernel) (by decide +kernel)), ⟨by decide +kernel, by decide +kernel, by decide +kernel⟩, rfl, Or.inr ⟨"CnfCompiler", List.mem_of_getElem? (i := 606) (by decide +kernel)⟩⟩, (gt_at 608 (by decide +kernel) (by decide +kernel)), (gt_at 36 (by decide +kernel) (by decide +kernel))⟩
theorem clX8_3 : Cond.methodLink RX8 3 objectInit ∈ gtbl := (gt_at 101 (by decide +kernel) (by decide +kernel))
theorem nlX8_9 : NL RX8 9 6 [.null, .int 0, .int 0, .null] := ⟨_, tyX6, rfl, tyX6_ok, by decide +kernel, rfl, fun _ => rfl, (gt_at 104 (by decide +kernel) (by decide +kernel)), (gt_at 105 (by decide +kernel) (by decide +kernel)), (gt_at 80 (by decide +kernel) (by decide +kernel))⟩
theorem clX8_11 : CLi RX8 11 mX6_init 0 := ⟨⟨(gt_at 108 (by decide +kernel) (by decide +kernel)), (gt_at 80 (by decide +kernel) (by decide +kernel)), ⟨by decide +kernel, by decide +kernel, by decide +kernel⟩, rfl, Or.inr ⟨"CnfCompiler", List.mem_of_getElem? (i := 106) (by decide +kernel)⟩⟩, (gt_at 107 (by decide +kernel) (by decide +kernel)), rfl, rfl⟩
theorem fpX8_12 : FF RX8 12 8 0 (.object "CnfCompiler$State") := ⟨_, rfl, by decide, rfl, rfl, by decide +kernel, (gt_at 291 (by decide +kernel) (by decide +kernel))⟩
theorem nlX8_16 : NL RX8 16 4 [.null, .int 0] := ⟨_, tyX4, rfl, tyX4_ok, by decide +kernel, rfl, fun _ => rfl, (gt_at 133 (by decide +kernel) (by decide +kernel)), (gt_at 134 (by decide +kernel) (by decide +kernel)), (gt_at 82 (by decide +kernel) (by decide +kernel))⟩
theorem clX8_18 : CLi RX8 18 mX4_init 0 := ⟨⟨(gt_at 137 (by decide +kernel) (by decide +kernel)), (gt_at 82 (by decide +kernel) (by decide +kernel)), ⟨by decide +kernel, by decide +kernel, by decide +kernel⟩, rfl, Or.inr ⟨"CnfCompiler", List.mem_of_getElem? (i := 135) (by decide +kernel)⟩⟩, (gt_at 136 (by decide +kernel) (by decide +kernel)), rfl, rfl⟩
theorem fpX8_19 : FF RX8 19 8 1 (.object "CnfCompiler$History") := ⟨_, rfl, by decide, rfl, rfl, by decide +kernel, (gt_at 292 (by decide +kernel) (by decide +kernel))⟩
theorem nlX8_23 : NL RX8 23 2 [.null, .int 0] := ⟨_, tyX2, rfl, tyX2_ok, by decide +kernel, rfl, fun _ => rfl, (gt_at 150 (by decide +kernel) (by decide +kernel)), (gt_at 151 (by decide +kernel) (by decide +kernel)), (gt_at 83 (by decide +kernel) (by decide +kernel))⟩
theorem clX8_25 : CLi RX8 25 mX2_init 0 := ⟨⟨(gt_at 154 (by decide +kernel) (by decide +kernel)), (gt_at 83 (by decide +kernel) (by decide +kernel)), ⟨by decide +kernel, by decide +kernel, by decide +kernel⟩, rfl, Or.inr ⟨"CnfCompiler", List.mem_of_getElem? (i := 152) (by decide +kernel)⟩⟩, (gt_at 153 (by decide +kernel) (by decide +kernel)), rfl, rfl⟩
theorem fpX8_26 : FF RX8 26 8 2 (.object "CnfCompiler$FormulaText") := ⟨_, rfl, by decide, rfl, rfl, by decide +kernel, (gt_at 293 (by decide +kernel) (by decide +kernel))⟩
theorem nlX8_30 : NL RX8 30 0 [.null, .int 0, .int 0, .int 0, .int 0] := ⟨_, tyX0, rfl, tyX0_ok, by decide +kernel, rfl, fun _ => rfl, (gt_at 165 (by decide +kernel) (by decide +kernel)), (gt_at 166 (by decide +kernel) (by decide +kernel)), (gt_at 84 (by decide +kernel) (by decide +kernel))⟩
theorem clX8_32 : CLi RX8 32 mX0_init 0 := ⟨⟨(gt_at 169 (by decide +kernel) (by decide +kernel)), (gt_at 84 (by decide +kernel) (by decide +kernel)), ⟨by decide +kernel, by decide +kernel, by decide +kernel⟩, rfl, Or.inr ⟨"CnfCompiler", List.mem_of_getElem? (i := 167) (by decide +kernel)⟩⟩, (gt_at 168 (by decide +kernel) (by decide +kernel)), rfl, rfl⟩
theorem fpX8_33 : FF RX8 33 8 3 (.object "CnfCompiler$ClauseReader") := ⟨_, rfl, by decide, rfl, rfl, by decide +kernel, (gt_at 294 (by decide +kernel) (by decide +kernel))⟩
theorem nlX8_37 : NL RX8 37 3 [.null, .null, .null, .null, .null, .null, .int 0, .int 0, .int 0, .int 0, .int 0, .int 0, .int 0] := ⟨_, tyX3, rfl, tyX3_ok, by decide +kernel, rfl, fun _ => rfl, (gt_at 188 (by decide +kernel) (by decide +kernel)), (gt_at 189 (by decide +kernel) (by decide +kernel)), (gt_at 85 (by decide +kernel) (by decide +kernel))⟩
theorem clX8_39 : CLi RX8 39 mX3_init 0 := ⟨⟨(gt_at 192 (by decide +kernel) (by decide +kernel)), (gt_at 85 (by decide +kernel) (by decide +kernel)), ⟨by decide +kernel, by decide +kernel, by decide +kernel⟩, rfl, Or.inr ⟨"CnfCompiler", List.mem_of_getElem? (i := 190) (by decide +kernel)⟩⟩, (gt_at 191 (by decide +kernel) (by decide +kernel)), rfl, rfl⟩
theorem fpX8_40 : FF RX8 40 8 4 (.object "CnfCompiler$Graph") := ⟨_, rfl, by decide, rfl, rfl, by decide +kernel, (gt_at 295 (by decide +kernel) (by decide +kernel))⟩
theorem nlX8_44 : NL RX8 44 5 [.null, .null] := ⟨_, tyX5, rfl, tyX5_ok, by decide +kernel, rfl, fun _ => rfl, (gt_at 237 (by decide +kernel) (by decide +kernel)), (gt_at 238 (by decide +kernel) (by decide +kernel)), (gt_at 86 (by decide +kernel) (by decide +kernel))⟩
theorem clX8_46 : CLi RX8 46 mX5_init 0 := ⟨⟨(gt_at 241 (by decide +kernel) (by decide +kernel)), (gt_at 86 (by decide +kernel) (by decide +kernel)), ⟨by decide +kernel, by decide +kernel, by decide +kernel⟩, rfl, Or.inr ⟨"CnfCompiler", List.mem_of_getElem? (i := 239) (by decide +kernel)⟩⟩, (gt_at 240 (by decide +kernel) (by decide +kernel)), rfl, rfl⟩
theorem fpX8_47 : FF RX8 47 8 5 (.object "CnfCompiler$ModelSet") := ⟨_, rfl, by decide, rfl, rfl, by decide +kernel, (gt_at 296 (by decide +kernel) (by decide +kernel))⟩
theorem nlX8_51 : NL RX8 51 7 [.null, .null] := ⟨_, tyX7, rfl, tyX7_ok, by decide +kernel, rfl, fun _ => rfl, (gt_at 251 (by decide +kernel) (by decide +kernel)), (gt_at 252 (by decide +kernel) (by decide +kernel)), (gt_at 87 (by decide +kernel) (by decide +kernel))⟩
theorem clX8_53 : CLi RX8 53 mX7_init 0 := ⟨⟨(gt_at 255 (by decide +kernel) (by decide +kernel)), (gt_at 87 (by decide +kernel) (by decide +kernel)), ⟨by decide +kernel, by decide +kernel, by decide +kernel⟩, rfl, Or.inr ⟨"CnfCompiler", List.mem_of_getElem? (i := 253) (by decide +kernel)⟩⟩, (gt_at 254 (by decide +kernel) (by decide +kernel)), rfl, rfl⟩
theorem fpX8_54 : FF RX8 54 8 6 (.object "CnfCompiler$WeightedSum") := ⟨_, rfl, by decide, rfl, rfl, by decide +kernel, (gt_at 297 (by decide +kernel) (by decide +kernel))⟩
theorem nlX8_58 : NL RX8 58 1 [.null, .null, .null, .int 0, .int 0, .int 0] := ⟨_, tyX1, rfl, tyX1_ok, by decide +kernel, rfl, fun _ => rfl, (gt_at 264 (by decide +kernel) (by decide +kernel)), (gt_at 265 (by decide +kernel) (by decide +kernel)), (gt_at 88 (by decide +kernel) (by decide +kernel))⟩
theorem clX8_60 : CLi RX8 60 mX1_init 0 := ⟨⟨(gt_at 268 (by decide +kernel) (by decide +kernel)), (gt_at 88 (by decide +kernel) (by decide +kernel)), ⟨by decide +kernel, by decide +kernel, by decide +kernel⟩, rfl, Or.inr ⟨"CnfCompiler", List.mem_of_getElem? (i := 266) (by decide +kernel)⟩⟩, (gt_at 267 (by decide +kernel) (by decide +kernel)), rfl, rfl⟩
theorem fpX8_61 : FF RX8 61 8 7 (.object "CnfCompiler$Explainer") := ⟨_, rfl, by decide, rfl, rfl, by decide +kernel, (gt_at 298 (by decide +kernel) (by decide +kernel))⟩
theorem fpX8_65 : FF RX8 65 8 8 (.array .int) := ⟨_, rfl, by decide, rfl, rfl, by decide +kernel, (gt_at 299 (by decide +kernel) (by decide +kernel))⟩
theorem kcX8_238 : Cond.constant RX8 238 (1398100) ∈ gtbl := (gt_at 416 (by decide +kernel) (by decide +kernel))
theorem flX8_33 : FL RX8 33 8 3 := ⟨_, rfl, by decide, Or.inl (gt_at 294 (by decide +kernel) (by decide +kernel))⟩
theorem clX8_201 : CLv RX8 201 mX0_read 2 := ⟨⟨(gt_at 707 (by decide +kernel) (by decide +kernel)), (gt_at 84 (by decide +kernel) (by decide +kernel)), ⟨by decide +kernel, by decide +kernel, by decide +kernel⟩, rfl, Or.inr ⟨"CnfCompiler", List.mem_of_getElem? (i := 704) (by decide +kernel)⟩⟩, (gt_at 706 (by decide +kernel) (by decide +kernel)), (gt_at 46 (by decide +kernel) (by decide +kernel))⟩
theorem flX8_205 : FL RX8 205 0 1 := ⟨_, rfl, by decide, Or.inr ⟨"CnfCompiler", List.mem_of_getElem? (i := 173) (by decide +kernel)⟩⟩
theorem clX8_208 : CLv RX8 208 mX0_clauseAt 1 := ⟨⟨(gt_at 741 (by decide +kernel) (by decide +kernel)), (gt_at 84 (by decide +kernel) (by decide +kernel)), ⟨by decide +kernel, by decide +kernel, by decide +kernel⟩, rfl, Or.inr ⟨"CnfCompiler", List.mem_of_getElem? (i := 738) (by decide +kernel)⟩⟩, (gt_at 740 (by decide +kernel) (by decide +kernel)), (gt_at 52 (by decide +kernel) (by decide +kernel))⟩
theorem clX8_112 : CLv RX8 112 mX6_deleteClause 1 := ⟨⟨(gt_at 389 (by decide +kernel) (by decide +kernel)), (gt_at 80 (by decide +kernel) (by decide +kernel)), ⟨by decide +kernel, by decide +kernel, by decide +kernel⟩, rfl, Or.inr ⟨"CnfCompiler", List.mem_of_getElem? (i := 386) (by decide +kernel)⟩⟩, (gt_at 388 (by decide +kernel) (by decide +kernel)), (gt_at 8 (by decide +kernel) (by decide +kernel))⟩
theorem clX8_132 : CLv RX8 132 mX6_replaceWeight 2 := ⟨⟨(gt_at 428 (by decide +kernel) (by decide +kernel)), (gt_at 80 (by decide +kernel) (by decide +kernel)), ⟨by decide +kernel, by decide +kernel, by decide +kernel⟩, rfl, Or.inr ⟨"CnfCompiler", List.mem_of_getElem? (i := 425) (by decide +kernel)⟩⟩, (gt_at 427 (by decide +kernel) (by decide +kernel)), (gt_at 10 (by decide +kernel) (by decide +kernel))⟩
theorem clX8_173 : CLv RX8 173 mX8_models 0 := ⟨⟨(gt_at 566 (by decide +kernel) (by decide +kernel)), (gt_at 79 (by decide +kernel) (by decide +kernel)), ⟨by decide +kernel, by decide +kernel, by decide +kernel⟩, rfl, Or.inl (gt_at 634 (by decide +kernel) (by decide +kernel))⟩, (gt_at 564 (by decide +kernel) (by decide +kernel)), (gt_at 565 (by decide +kernel) (by decide +kernel))⟩
theorem clX8_176 : CLs RX8 176 mX8_bitsOfShare 1 := ⟨⟨(gt_at 637 (by decide +kernel) (by decide +kernel)), (gt_at 79 (by decide +kernel) (by decide +kernel)), ⟨by decide +kernel, by decide +kernel, by decide +kernel⟩, rfl, Or.inl (gt_at 635 (by decide +kernel) (by decide +kernel))⟩, (gt_at 636 (by decide +kernel) (by decide +kernel))⟩
theorem clX8_212 : CLv RX8 212 mX4_restoreInto 1 := ⟨⟨(gt_at 749 (by decide +kernel) (by decide +kernel)), (gt_at 82 (by decide +kernel) (by decide +kernel)), ⟨by decide +kernel, by decide +kernel, by decide +kernel⟩, rfl, Or.inr ⟨"CnfCompiler", List.mem_of_getElem? (i := 746) (by decide +kernel)⟩⟩, (gt_at 748 (by decide +kernel) (by decide +kernel)), (gt_at 53 (by decide +kernel) (by decide +kernel))⟩
theorem kcX9_65 : Cond.constantLong RX9 65 (-10) ∈ gtbl := (gt_at 874 (by decide +kernel) (by decide +kernel))
theorem kcX9_67 : Cond.constantLong RX9 67 (10) ∈ gtbl := (gt_at 875 (by decide +kernel) (by decide +kernel))
theorem clX9_69 : CLs RX9 69 mX9_in 3 := ⟨⟨(gt_at 878 (by decide +kernel) (by decide +kernel)), (gt_at 89 (by decide +kernel) (by decide +kernel)), ⟨by decide +kernel, by decide +kernel, by decide +kernel⟩, rfl, Or.inl (gt_at 876 (by decide +kernel) (by decide +kernel))⟩, (gt_at 877 (by decide +kernel) (by decide +kernel))⟩
theorem clX9_84 : CLv RX9 84 mX9_err 1 := ⟨⟨(gt_at 869 (by decide +kernel) (by decide +kernel)), (gt_at 89 (by decide +kernel) (by decide +kernel)), ⟨by decide +kernel, by decide +kernel, by decide +kernel⟩, rfl, Or.inl (gt_at 866 (by decide +kernel) (by decide +kernel))⟩, (gt_at 868 (by decide +kernel) (by decide +kernel)), (gt_at 54 (by decide +kernel) (by decide +kernel))⟩
theorem clX9_88 : CLs RX9 88 mX9_bitOf 1 := ⟨⟨(gt_at 881 (by decide +kernel) (by decide +kernel)), (gt_at 89 (by decide +kernel) (by decide +kernel)), ⟨by decide +kernel, by decide +kernel, by decide +kernel⟩, rfl, Or.inl (gt_at 879 (by decide +kernel) (by decide +kernel))⟩, (gt_at 880 (by decide +kernel) (by decide +kernel))⟩
theorem clX9_91 : CLs RX9 91 mX9_variables 1 := ⟨⟨(gt_at 884 (by decide +kernel) (by decide +kernel)), (gt_at 89 (by decide +kernel) (by decide +kernel)), ⟨by decide +kernel, by decide +kernel, by decide +kernel⟩, rfl, Or.inl (gt_at 882 (by decide +kernel) (by decide +kernel))⟩, (gt_at 883 (by decide +kernel) (by decide +kernel))⟩
theorem flX9_7 : FL RX9 7 9 0 := ⟨_, rfl, by decide, Or.inl (gt_at 771 (by decide +kernel) (by decide +kernel))⟩
theorem clX9_94 : CLv RX9 94 mX9_saves 0 := ⟨⟨(gt_at 888 (by decide +kernel) (by decide +kernel)), (gt_at 89 (by decide +kernel) (by decide +kernel)), ⟨by decide +kernel, by decide +kernel, by decide +kernel⟩, rfl, Or.inl (gt_at 885 (by decide +kernel) (by decide +kernel))⟩, (gt_at 887 (by decide +kernel) (by decide +kernel)), (gt_at 55 (by decide +kernel) (by decide +kernel))⟩
theorem clX9_166 : CLv RX9 166 mX9_manyOf 1 := ⟨⟨(gt_at 981 (by decide +kernel) (by decide +kernel)), (gt_at 89 (by decide +kernel) (by decide +kernel)), ⟨by decide +kernel, by decide +kernel, by decide +kernel⟩, rfl, Or.inl (gt_at 978 (by decide +kernel) (by decide +kernel))⟩, (gt_at 980 (by decide +kernel) (by decide +kernel)), (gt_at 67 (by decide +kernel) (by decide +kernel))⟩
theorem kcX9_217 : Cond.constantLong RX9 217 (127) ∈ gtbl := (gt_at 1078 (by decide +kernel) (by decide +kernel))
theorem flX9_219 : FL RX9 219 9 5 := ⟨_, rfl, by decide, Or.inl (gt_at 776 (by decide +kernel) (by decide +kernel))⟩
theorem flX9_19 : FL RX9 19 9 4 := ⟨_, rfl, by decide, Or.inl (gt_at 775 (by decide +kernel) (by decide +kernel))⟩
theorem fpX9_219 : FP RX9 219 9 5 .int := ⟨_, rfl, by decide, rfl, by decide +kernel, Or.inl (gt_at 776 (by decide +kernel) (by decide +kernel))⟩
theorem clX9_104 : CLs RX9 104 mX9_isLiteral 1 := ⟨⟨(gt_at 914 (by decide +kernel) (by decide +kernel)), (gt_at 89 (by decide +kernel) (by decide +kernel)), ⟨by decide +kernel, by decide +kernel, by decide +kernel⟩, rfl, Or.inl (gt_at 912 (by decide +kernel) (by decide +kernel))⟩, (gt_at 913 (by decide +kernel) (by decide +kernel))⟩
theorem clX9_107 : CLv RX9 107 mX9_assumed 0 := ⟨⟨(gt_at 918 (by decide +kernel) (by decide +kernel)), (gt_at 89 (by decide +kernel) (by decide +kernel)), ⟨by decide +kernel, by decide +kernel, by decide +kernel⟩, rfl, Or.inl (gt_at 915 (by decide +kernel) (by decide +kernel))⟩, (gt_at 917 (by decide +kernel) (by decide +kernel)), (gt_at 57 (by decide +kernel) (by decide +kernel))⟩
theorem clX9_101 : CLs RX9 101 mX9_ones 1 := ⟨⟨(gt_at 907 (by decide +kernel) (by decide +kernel)), (gt_at 89 (by decide +kernel) (by decide +kernel)), ⟨by decide +kernel, by decide +kernel, by decide +kernel⟩, rfl, Or.inl (gt_at 905 (by decide +kernel) (by decide +kernel))⟩, (gt_at 906 (by decide +kernel) (by decide +kernel))⟩
theorem clX9_151 : CLv RX9 151 mX9_enters 1 := ⟨⟨(gt_at 950 (by decide +kernel) (by decide +kernel)), (gt_at 89 (by decide +kernel) (by decide +kernel)), ⟨by decide +kernel, by decide +kernel, by decide +kernel⟩, rfl, Or.inl (gt_at 947 (by decide +kernel) (by decide +kernel))⟩, (gt_at 949 (by decide +kernel) (by decide +kernel)), (gt_at 61 (by decide +kernel) (by decide +kernel))⟩
theorem flX9_56 : FL RX9 56 9 23 := ⟨_, rfl, by decide, Or.inl (gt_at 794 (by decide +kernel) (by decide +kernel))⟩
theorem flX9_34 : FL RX9 34 9 11 := ⟨_, rfl, by decide, Or.inl (gt_at 782 (by decide +kernel) (by decide +kernel))⟩
theorem clX9_154 : CLv RX9 154 mX9_goesDeeper 1 := ⟨⟨(gt_at 969 (by decide +kernel) (by decide +kernel)), (gt_at 89 (by decide +kernel) (by decide +kernel)), ⟨by decide +kernel, by decide +kernel, by decide +kernel⟩, rfl, Or.inl (gt_at 966 (by decide +kernel) (by decide +kernel))⟩, (gt_at 968 (by decide +kernel) (by decide +kernel)), (gt_at 65 (by decide +kernel) (by decide +kernel))⟩
theorem flX9_50 : FL RX9 50 9 21 := ⟨_, rfl, by decide, Or.inl (gt_at 792 (by decide +kernel) (by decide +kernel))⟩
theorem clX9_97 : CLv RX9 97 mX9_isClause 1 := ⟨⟨(gt_at 896 (by decide +kernel) (by decide +kernel)), (gt_at 89 (by decide +kernel) (by decide +kernel)), ⟨by decide +kernel, by decide +kernel, by decide +kernel⟩, rfl, Or.inl (gt_at 893 (by decide +kernel) (by decide +kernel))⟩, (gt_at 895 (by decide +kernel) (by decide +kernel)), (gt_at 56 (by decide +kernel) (by decide +kernel))⟩
theorem flX9_77 : FL RX9 77 9 6 := ⟨_, rfl, by decide, Or.inl (gt_at 777 (by decide +kernel) (by decide +kernel))⟩
theorem fpX9_77 : FP RX9 77 9 6 .boolean := ⟨_, rfl, by decide, rfl, by decide +kernel, Or.inl (gt_at 777 (by decide +kernel) (by decide +kernel))⟩
theorem flX9_41 : FL RX9 41 9 13 := ⟨_, rfl, by decide, Or.inl (gt_at 784 (by decide +kernel) (by decide +kernel))⟩
theorem fpX9_135 : FP RX9 135 9 14 .int := ⟨_, rfl, by decide, rfl, by decide +kernel, Or.inl (gt_at 785 (by decide +kernel) (by decide +kernel))⟩
theorem fpX9_138 : FP RX9 138 9 15 .int := ⟨_, rfl, by decide, rfl, by decide +kernel, Or.inl (gt_at 786 (by decide +kernel) (by decide +kernel))⟩
theorem fpX9_129 : FP RX9 129 9 16 .boolean := ⟨_, rfl, by decide, rfl, by decide +kernel, Or.inl (gt_at 787 (by decide +kernel) (by decide +kernel))⟩
theorem fpX9_126 : FP RX9 126 9 17 .boolean := ⟨_, rfl, by decide, rfl, by decide +kernel, Or.inl (gt_at 788 (by decide +kernel) (by decide +kernel))⟩
theorem flX9_47 : FL RX9 47 9 20 := ⟨_, rfl, by decide, Or.inl (gt_at 791 (by decide +kernel) (by decide +kernel))⟩
theorem clX9_122 : CLv RX9 122 mX9_puts 2 := ⟨⟨(gt_at 942 (by decide +kernel) (by decide +kernel)), (gt_at 89 (by decide +kernel) (by decide +kernel)), ⟨by decide +kernel, by decide +kernel, by decide +kernel⟩, rfl, Or.inl (gt_at 939 (by decide +kernel) (by decide +kernel))⟩, (gt_at 941 (by decide +kernel) (by decide +kernel)), (gt_at 59 (by decide +kernel) (by decide +kernel))⟩
theorem clX9_157 : CLv RX9 157 mX9_builds 0 := ⟨⟨(gt_at 946 (by decide +kernel) (by decide +kernel)), (gt_at 89 (by decide +kernel) (by decide +kernel)), ⟨by decide +kernel, by decide +kernel, by decide +kernel⟩, rfl, Or.inl (gt_at 943 (by decide +kernel) (by decide +kernel))⟩, (gt_at 945 (by decide +kernel) (by decide +kernel)), (gt_at 60 (by decide +kernel) (by decide +kernel))⟩
theorem fpX9_160 : FP RX9 160 9 18 .int := ⟨_, rfl, by decide, rfl, by decide +kernel, Or.inl (gt_at 789 (by decide +kernel) (by decide +kernel))⟩
theorem clX9_163 : CLv RX9 163 mX9_compiles 0 := ⟨⟨(gt_at 938 (by decide +kernel) (by decide +kernel)), (gt_at 89 (by decide +kernel) (by decide +kernel)), ⟨by decide +kernel, by decide +kernel, by decide +kernel⟩, rfl, Or.inl (gt_at 935 (by decide +kernel) (by decide +kernel))⟩, (gt_at 937 (by decide +kernel) (by decide +kernel)), (gt_at 58 (by decide +kernel) (by decide +kernel))⟩
theorem flX9_160 : FL RX9 160 9 18 := ⟨_, rfl, by decide, Or.inl (gt_at 789 (by decide +kernel) (by decide +kernel))⟩
theorem flX9_31 : FL RX9 31 9 10 := ⟨_, rfl, by decide, Or.inl (gt_at 781 (by decide +kernel) (by decide +kernel))⟩
theorem flX9_44 : FL RX9 44 9 19 := ⟨_, rfl, by decide, Or.inl (gt_at 790 (by decide +kernel) (by decide +kernel))⟩
theorem kcX9_250 : Cond.constantLong RX9 250 (2671) ∈ gtbl := (gt_at 1114 (by decide +kernel) (by decide +kernel))
theorem flX9_16 : FL RX9 16 9 3 := ⟨_, rfl, by decide, Or.inl (gt_at 774 (by decide +kernel) (by decide +kernel))⟩
theorem clX9_252 : CLs RX9 252 mX9_mixed 2 := ⟨⟨(gt_at 1117 (by decide +kernel) (by decide +kernel)), (gt_at 89 (by decide +kernel) (by decide +kernel)), ⟨by decide +kernel, by decide +kernel, by decide +kernel⟩, rfl, Or.inl (gt_at 1115 (by decide +kernel) (by decide +kernel))⟩, (gt_at 1116 (by decide +kernel) (by decide +kernel))⟩
theorem clX9_256 : CLv RX9 256 mX9_nodes 0 := ⟨⟨(gt_at 934 (by decide +kernel) (by decide +kernel)), (gt_at 89 (by decide +kernel) (by decide +kernel)), ⟨by decide +kernel, by decide +kernel, by decide +kernel⟩, rfl, Or.inl (gt_at 1119 (by decide +kernel) (by decide +kernel))⟩, (gt_at 932 (by decide +kernel) (by decide +kernel)), (gt_at 933 (by decide +kernel) (by decide +kernel))⟩
theorem clX9_259 : CLv RX9 259 mX9_decisionNodes 0 := ⟨⟨(gt_at 977 (by decide +kernel) (by decide +kernel)), (gt_at 89 (by decide +kernel) (by decide +kernel)), ⟨by decide +kernel, by decide +kernel, by decide +kernel⟩, rfl, Or.inl (gt_at 1120 (by decide +kernel) (by decide +kernel))⟩, (gt_at 975 (by decide +kernel) (by decide +kernel)), (gt_at 976 (by decide +kernel) (by decide +kernel))⟩
theorem clX9_262 : CLv RX9 262 mX9_andNodes 0 := ⟨⟨(gt_at 985 (by decide +kernel) (by decide +kernel)), (gt_at 89 (by decide +kernel) (by decide +kernel)), ⟨by decide +kernel, by decide +kernel, by decide +kernel⟩, rfl, Or.inl (gt_at 1121 (by decide +kernel) (by decide +kernel))⟩, (gt_at 983 (by decide +kernel) (by decide +kernel)), (gt_at 984 (by decide +kernel) (by decide +kernel))⟩
theorem clX9_265 : CLv RX9 265 mX9_depth 0 := ⟨⟨(gt_at 989 (by decide +kernel) (by decide +kernel)), (gt_at 89 (by decide +kernel) (by decide +kernel)), ⟨by decide +kernel, by decide +kernel, by decide +kernel⟩, rfl, Or.inl (gt_at 1122 (by decide +kernel) (by decide +kernel))⟩, (gt_at 987 (by decide +kernel) (by decide +kernel)), (gt_at 988 (by decide +kernel) (by decide +kernel))⟩
theorem clX9_268 : CLv RX9 268 mX9_rootVariable 0 := ⟨⟨(gt_at 993 (by decide +kernel) (by decide +kernel)), (gt_at 89 (by decide +kernel) (by decide +kernel)), ⟨by decide +kernel, by decide +kernel, by decide +kernel⟩, rfl, Or.inl (gt_at 1123 (by decide +kernel) (by decide +kernel))⟩, (gt_at 991 (by decide +kernel) (by decide +kernel)), (gt_at 992 (by decide +kernel) (by decide +kernel))⟩
theorem clX9_271 : CLv RX9 271 mX9_components 0 := ⟨⟨(gt_at 997 (by decide +kernel) (by decide +kernel)), (gt_at 89 (by decide +kernel) (by decide +kernel)), ⟨by decide +kernel, by decide +kernel, by decide +kernel⟩, rfl, Or.inl (gt_at 1124 (by decide +kernel) (by decide +kernel))⟩, (gt_at 995 (by decide +kernel) (by decide +kernel)), (gt_at 996 (by decide +kernel) (by decide +kernel))⟩
theorem clX9_182 : CLv RX9 182 mX9_models 0 := ⟨⟨(gt_at 1001 (by decide +kernel) (by decide +kernel)), (gt_at 89 (by decide +kernel) (by decide +kernel)), ⟨by decide +kernel, by decide +kernel, by decide +kernel⟩, rfl, Or.inl (gt_at 1026 (by decide +kernel) (by decide +kernel))⟩, (gt_at 999 (by decide +kernel) (by decide +kernel)), (gt_at 1000 (by decide +kernel) (by decide +kernel))⟩
theorem clX9_274 : CLv RX9 274 mX9_weightedCount 0 := ⟨⟨(gt_at 1021 (by decide +kernel) (by decide +kernel)), (gt_at 89 (by decide +kernel) (by decide +kernel)), ⟨by decide +kernel, by decide +kernel, by decide +kernel⟩, rfl, Or.inl (gt_at 1125 (by decide +kernel) (by decide +kernel))⟩, (gt_at 1019 (by decide +kernel) (by decide +kernel)), (gt_at 1020 (by decide +kernel) (by decide +kernel))⟩
theorem clX9_278 : CLv RX9 278 mX9_leastModel 0 := ⟨⟨(gt_at 1045 (by decide +kernel) (by decide +kernel)), (gt_at 89 (by decide +kernel) (by decide +kernel)), ⟨by decide +kernel, by decide +kernel, by decide +kernel⟩, rfl, Or.inl (gt_at 1126 (by decide +kernel) (by decide +kernel))⟩, (gt_at 1043 (by decide +kernel) (by decide +kernel)), (gt_at 1044 (by decide +kernel) (by decide +kernel))⟩
theorem flX9_73 : FL RX9 73 9 2 := ⟨_, rfl, by decide, Or.inl (gt_at 773 (by decide +kernel) (by decide +kernel))⟩
theorem clX9_132 : CLv RX9 132 mX9_finds 1 := ⟨⟨(gt_at 954 (by decide +kernel) (by decide +kernel)), (gt_at 89 (by decide +kernel) (by decide +kernel)), ⟨by decide +kernel, by decide +kernel, by decide +kernel⟩, rfl, Or.inl (gt_at 951 (by decide +kernel) (by decide +kernel))⟩, (gt_at 953 (by decide +kernel) (by decide +kernel)), (gt_at 62 (by decide +kernel) (by decide +kernel))⟩
theorem flX9_135 : FL RX9 135 9 14 := ⟨_, rfl, by decide, Or.inl (gt_at 785 (by decide +kernel) (by decide +kernel))⟩
theorem flX9_22 : FL RX9 22 9 7 := ⟨_, rfl, by decide, Or.inl (gt_at 778 (by decide +kernel) (by decide +kernel))⟩
theorem flX9_138 : FL RX9 138 9 15 := ⟨_, rfl, by decide, Or.inl (gt_at 786 (by decide +kernel) (by decide +kernel))⟩
theorem flX9_25 : FL RX9 25 9 8 := ⟨_, rfl, by decide, Or.inl (gt_at 779 (by decide +kernel) (by decide +kernel))⟩
theorem flX9_38 : FL RX9 38 9 12 := ⟨_, rfl, by decide, Or.inl (gt_at 783 (by decide +kernel) (by decide +kernel))⟩
theorem flX9_28 : FL RX9 28 9 9 := ⟨_, rfl, by decide, Or.inl (gt_at 780 (by decide +kernel) (by decide +kernel))⟩
theorem clX9_141 : CLv RX9 141 mX9_connected 2 := ⟨⟨(gt_at 961 (by decide +kernel) (by decide +kernel)), (gt_at 89 (by decide +kernel) (by decide +kernel)), ⟨by decide +kernel, by decide +kernel, by decide +kernel⟩, rfl, Or.inl (gt_at 958 (by decide +kernel) (by decide +kernel))⟩, (gt_at 960 (by decide +kernel) (by decide +kernel)), (gt_at 63 (by decide +kernel) (by decide +kernel))⟩
theorem clX9_145 : CLv RX9 145 mX9_deciding 1 := ⟨⟨(gt_at 965 (by decide +kernel) (by decide +kernel)), (gt_at 89 (by decide +kernel) (by decide +kernel)), ⟨by decide +kernel, by decide +kernel, by decide +kernel⟩, rfl, Or.inl (gt_at 962 (by decide +kernel) (by decide +kernel))⟩, (gt_at 964 (by decide +kernel) (by decide +kernel)), (gt_at 64 (by decide +kernel) (by decide +kernel))⟩
theorem flX9_53 : FL RX9 53 9 22 := ⟨_, rfl, by decide, Or.inl (gt_at 793 (by decide +kernel) (by decide +kernel))⟩
theorem kcX9_244 : Cond.constantLong RX9 244 (-5) ∈ gtbl := (gt_at 1108 (by decide +kernel) (by decide +kernel))
theorem kcX9_246 : Cond.constantLong RX9 246 (-2) ∈ gtbl := (gt_at 1109 (by decide +kernel) (by decide +kernel))
theorem clX9_195 : CLv RX9 195 mX9_explains 2 := ⟨⟨(gt_at 1059 (by decide +kernel) (by decide +kernel)), (gt_at 89 (by decide +kernel) (by decide +kernel)), ⟨by decide +kernel, by decide +kernel, by decide +kernel⟩, rfl, Or.inl (gt_at 1056 (by decide +kernel) (by decide +kernel))⟩, (gt_at 1058 (by decide +kernel) (by decide +kernel)), (gt_at 72 (by decide +kernel) (by decide +kernel))⟩
theorem clX9_192 : CLs RX9 192 mX9_literalBy 1 := ⟨⟨(gt_at 1062 (by decide +kernel) (by decide +kernel)), (gt_at 89 (by decide +kernel) (by decide +kernel)), ⟨by decide +kernel, by decide +kernel, by decide +kernel⟩, rfl, Or.inl (gt_at 1060 (by decide +kernel) (by decide +kernel))⟩, (gt_at 1061 (by decide +kernel) (by decide +kernel))⟩
theorem clX9_199 : CLv RX9 199 mX9_mayBe 3 := ⟨⟨(gt_at 1066 (by decide +kernel) (by decide +kernel)), (gt_at 89 (by decide +kernel) (by decide +kernel)), ⟨by decide +kernel, by decide +kernel, by decide +kernel⟩, rfl, Or.inl (gt_at 1063 (by decide +kernel) (by decide +kernel))⟩, (gt_at 1065 (by decide +kernel) (by decide +kernel)), (gt_at 73 (by decide +kernel) (by decide +kernel))⟩
theorem kcX9_203 : Cond.constant RX9 203 (100000) ∈ gtbl := (gt_at 1067 (by decide +kernel) (by decide +kernel))
theorem clX9_204 : CLv RX9 204 mX9_explainedFrom 4 := ⟨⟨(gt_at 1071 (by decide +kernel) (by decide +kernel)), (gt_at 89 (by decide +kernel) (by decide +kernel)), ⟨by decide +kernel, by decide +kernel, by decide +kernel⟩, rfl, Or.inl (gt_at 1068 (by decide +kernel) (by decide +kernel))⟩, (gt_at 1070 (by decide +kernel) (by decide +kernel)), (gt_at 74 (by decide +kernel) (by decide +kernel))⟩
theorem kcX9_208 : Cond.constant RX9 208 (200000) ∈ gtbl := (gt_at 1072 (by decide +kernel) (by decide +kernel))
theorem kcX9_209 : Cond.constant RX9 209 (300000) ∈ gtbl := (gt_at 1073 (by decide +kernel) (by decide +kernel))
theorem clX9_179 : CLv RX9 179 mX9_modelsBy 1 := ⟨⟨(gt_at 1005 (by decide +kernel) (by decide +kernel)), (gt_at 89 (by decide +kernel) (by decide +kernel)), ⟨by decide +kernel, by decide +kernel, by decide +kernel⟩, rfl, Or.inl (gt_at 1002 (by decide +kernel) (by decide +kernel))⟩, (gt_at 1004 (by decide +kernel) (by decide +kernel)), (gt_at 68 (by decide +kernel) (by decide +kernel))⟩
theorem kcX9_210 : Cond.constantLong RX9 210 (-1) ∈ gtbl := (gt_at 1050 (by decide +kernel) (by decide +kernel))
theorem kcX9_212 : Cond.constantLong RX9 212 (2) ∈ gtbl := (gt_at 1051 (by decide +kernel) (by decide +kernel))
theorem clX9_214 : CLv RX9 214 mX9_explained 1 := ⟨⟨(gt_at 1055 (by decide +kernel) (by decide +kernel)), (gt_at 89 (by decide +kernel) (by decide +kernel)), ⟨by decide +kernel, by decide +kernel, by decide +kernel⟩, rfl, Or.inl (gt_at 1052 (by decide +kernel) (by decide +kernel))⟩, (gt_at 1054 (by decide +kernel) (by decide +kernel)), (gt_at 71 (by decide +kernel) (by decide +kernel))⟩
theorem kcX9_116 : Cond.constantLong RX9 116 (1048583) ∈ gtbl := (gt_at 955 (by decide +kernel) (by decide +kernel))
theorem kcX9_118 : Cond.constantLong RX9 118 (2147483647) ∈ gtbl := (gt_at 956 (by decide +kernel) (by decide +kernel))
theorem kcX9_120 : Cond.constantLong RX9 120 (16384) ∈ gtbl := (gt_at 957 (by decide +kernel) (by decide +kernel))
theorem clX9_148 : CLv RX9 148 mX9_sets 2 := ⟨⟨(gt_at 973 (by decide +kernel) (by decide +kernel)), (gt_at 89 (by decide +kernel) (by decide +kernel)), ⟨by decide +kernel, by decide +kernel, by decide +kernel⟩, rfl, Or.inl (gt_at 970 (by decide +kernel) (by decide +kernel))⟩, (gt_at 972 (by decide +kernel) (by decide +kernel)), (gt_at 66 (by decide +kernel) (by decide +kernel))⟩
theorem clX9_173 : CLv RX9 173 mX9_isModel 1 := ⟨⟨(gt_at 1013 (by decide +kernel) (by decide +kernel)), (gt_at 89 (by decide +kernel) (by decide +kernel)), ⟨by decide +kernel, by decide +kernel, by decide +kernel⟩, rfl, Or.inl (gt_at 1010 (by decide +kernel) (by decide +kernel))⟩, (gt_at 1012 (by decide +kernel) (by decide +kernel)), (gt_at 70 (by decide +kernel) (by decide +kernel))⟩
theorem clX9_1 : Cond.methodLink RX9 1 objectInit ∈ gtbl := (gt_at 769 (by decide +kernel) (by decide +kernel))
theorem fpX9_7 : FF RX9 7 9 0 (.array .int) := ⟨_, rfl, by decide, rfl, rfl, by decide +kernel, (gt_at 771 (by decide +kernel) (by decide +kernel))⟩
theorem fpX9_13 : FF RX9 13 9 1 (.array .int) := ⟨_, rfl, by decide, rfl, rfl, by decide +kernel, (gt_at 772 (by decide +kernel) (by decide +kernel))⟩
theorem fpX9_16 : FF RX9 16 9 3 (.array .int) := ⟨_, rfl, by decide, rfl, rfl, by decide +kernel, (gt_at 774 (by decide +kernel) (by decide +kernel))⟩
theorem fpX9_19 : FF RX9 19 9 4 (.array .int) := ⟨_, rfl, by decide, rfl, rfl, by decide +kernel, (gt_at 775 (by decide +kernel) (by decide +kernel))⟩
theorem fpX9_22 : FF RX9 22 9 7 (.array .int) := ⟨_, rfl, by decide, rfl, rfl, by decide +kernel, (gt_at 778 (by decide +kernel) (by decide +kernel))⟩
theorem fpX9_25 : FF RX9 25 9 8 (.array .int) := ⟨_, rfl, by decide, rfl, rfl, by decide +kernel, (gt_at 779 (by decide +kernel) (by decide +kernel))⟩
theorem fpX9_28 : FF RX9 28 9 9 (.array .int) := ⟨_, rfl, by decide, rfl, rfl, by decide +kernel, (gt_at 780 (by decide +kernel) (by decide +kernel))⟩
theorem fpX9_31 : FF RX9 31 9 10 (.array .int) := ⟨_, rfl, by decide, rfl, rfl, by decide +kernel, (gt_at 781 (by decide +kernel) (by decide +kernel))⟩
theorem fpX9_34 : FF RX9 34 9 11 (.array .int) := ⟨_, rfl, by decide, rfl, rfl, by decide +kernel, (gt_at 782 (by decide +kernel) (by decide +kernel))⟩
theorem kcX9_37 : Cond.constant RX9 37 (65536) ∈ gtbl := (gt_at 770 (by decide +kernel) (by decide +kernel))
theorem fpX9_38 : FF RX9 38 9 12 (.array .int) := ⟨_, rfl, by decide, rfl, rfl, by decide +kernel, (gt_at 783 (by decide +kernel) (by decide +kernel))⟩
theorem fpX9_41 : FF RX9 41 9 13 (.array .int) := ⟨_, rfl, by decide, rfl, rfl, by decide +kernel, (gt_at 784 (by decide +kernel) (by decide +kernel))⟩
theorem fpX9_44 : FF RX9 44 9 19 (.array .int) := ⟨_, rfl, by decide, rfl, rfl, by decide +kernel, (gt_at 790 (by decide +kernel) (by decide +kernel))⟩
theorem fpX9_47 : FF RX9 47 9 20 (.array .int) := ⟨_, rfl, by decide, rfl, rfl, by decide +kernel, (gt_at 791 (by decide +kernel) (by decide +kernel))⟩
theorem fpX9_50 : FF RX9 50 9 21 (.array .int) := ⟨_, rfl, by decide, rfl, rfl, by decide +kernel, (gt_at 792 (by decide +kernel) (by decide +kernel))⟩
theorem fpX9_53 : FF RX9 53 9 22 (.array .int) := ⟨_, rfl, by decide, rfl, rfl, by decide +kernel, (gt_at 793 (by decide +kernel) (by decide +kernel))⟩
theorem fpX9_56 : FF RX9 56 9 23 (.array .int) := ⟨_, rfl, by decide, rfl, rfl, by decide +kernel, (gt_at 794 (by decide +kernel) (by decide +kernel))⟩
theorem fpX9_59 : FF RX9 59 9 24 (.array .int) := ⟨_, rfl, by decide, rfl, rfl, by decide +kernel, (gt_at 795 (by decide +kernel) (by decide +kernel))⟩
theorem fpX9_62 : FF RX9 62 9 28 (.array .int) := ⟨_, rfl, by decide, rfl, rfl, by decide +kernel, (gt_at 799 (by decide +kernel) (by decide +kernel))⟩
theorem kcX9_222 : Cond.constantLong RX9 222 (48) ∈ gtbl := (gt_at 1094 (by decide +kernel) (by decide +kernel))
theorem kcX9_224 : Cond.constantLong RX9 224 (57) ∈ gtbl := (gt_at 1095 (by decide +kernel) (by decide +kernel))
theorem flX9_81 : FL RX9 81 9 26 := ⟨_, rfl, by decide, Or.inl (gt_at 797 (by decide +kernel) (by decide +kernel))⟩
theorem fpX9_81 : FP RX9 81 9 26 .boolean := ⟨_, rfl, by decide, rfl, by decide +kernel, Or.inl (gt_at 797 (by decide +kernel) (by decide +kernel))⟩
theorem fpX9_170 : FP RX9 170 9 25 .int := ⟨_, rfl, by decide, rfl, by decide +kernel, Or.inl (gt_at 796 (by decide +kernel) (by decide +kernel))⟩
theorem flX9_59 : FL RX9 59 9 24 := ⟨_, rfl, by decide, Or.inl (gt_at 795 (by decide +kernel) (by decide +kernel))⟩
theorem flX9_170 : FL RX9 170 9 25 := ⟨_, rfl, by decide, Or.inl (gt_at 796 (by decide +kernel) (by decide +kernel))⟩
theorem flX9_226 : FL RX9 226 9 27 := ⟨_, rfl, by decide, Or.inl (gt_at 798 (by decide +kernel) (by decide +kernel))⟩
theorem clX9_229 : CLv RX9 229 mX9_byteAt 1 := ⟨⟨(gt_at 1103 (by decide +kernel) (by decide +kernel)), (gt_at 89 (by decide +kernel) (by decide +kernel)), ⟨by decide +kernel, by decide +kernel, by decide +kernel⟩, rfl, Or.inl (gt_at 1100 (by decide +kernel) (by decide +kernel))⟩, (gt_at 1102 (by decide +kernel) (by decide +kernel)), (gt_at 77 (by decide +kernel) (by decide +kernel))⟩
theorem clX9_232 : CLs RX9 232 mX9_isFigure 1 := ⟨⟨(gt_at 1093 (by decide +kernel) (by decide +kernel)), (gt_at 89 (by decide +kernel) (by decide +kernel)), ⟨by decide +kernel, by decide +kernel, by decide +kernel⟩, rfl, Or.inl (gt_at 1091 (by decide +kernel) (by decide +kernel))⟩, (gt_at 1092 (by decide +kernel) (by decide +kernel))⟩
theorem fpX9_226 : FP RX9 226 9 27 .int := ⟨_, rfl, by decide, rfl, by decide +kernel, Or.inl (gt_at 798 (by decide +kernel) (by decide +kernel))⟩
theorem kcX9_248 : Cond.constantLong RX9 248 (31) ∈ gtbl := (gt_at 1118 (by decide +kernel) (by decide +kernel))
theorem clX9_176 : CLv RX9 176 mX9_lists 0 := ⟨⟨(gt_at 1009 (by decide +kernel) (by decide +kernel)), (gt_at 89 (by decide +kernel) (by decide +kernel)), ⟨by decide +kernel, by decide +kernel, by decide +kernel⟩, rfl, Or.inl (gt_at 1006 (by decide +kernel) (by decide +kernel))⟩, (gt_at 1008 (by decide +kernel) (by decide +kernel)), (gt_at 69 (by decide +kernel) (by decide +kernel))⟩
theorem flX9_129 : FL RX9 129 9 16 := ⟨_, rfl, by decide, Or.inl (gt_at 787 (by decide +kernel) (by decide +kernel))⟩
theorem flX9_126 : FL RX9 126 9 17 := ⟨_, rfl, by decide, Or.inl (gt_at 788 (by decide +kernel) (by decide +kernel))⟩
theorem clX9_241 : CLv RX9 241 mX9_reads 0 := ⟨⟨(gt_at 1090 (by decide +kernel) (by decide +kernel)), (gt_at 89 (by decide +kernel) (by decide +kernel)), ⟨by decide +kernel, by decide +kernel, by decide +kernel⟩, rfl, Or.inl (gt_at 1087 (by decide +kernel) (by decide +kernel))⟩, (gt_at 1089 (by decide +kernel) (by decide +kernel)), (gt_at 75 (by decide +kernel) (by decide +kernel))⟩
theorem flX9_235 : FL RX9 235 9 29 := ⟨_, rfl, by decide, Or.inl (gt_at 800 (by decide +kernel) (by decide +kernel))⟩
theorem flX9_62 : FL RX9 62 9 28 := ⟨_, rfl, by decide, Or.inl (gt_at 799 (by decide +kernel) (by decide +kernel))⟩
theorem fpX9_235 : FP RX9 235 9 29 .int := ⟨_, rfl, by decide, rfl, by decide +kernel, Or.inl (gt_at 800 (by decide +kernel) (by decide +kernel))⟩
theorem clX9_238 : CLv RX9 238 mX9_literalHere 1 := ⟨⟨(gt_at 1099 (by decide +kernel) (by decide +kernel)), (gt_at 89 (by decide +kernel) (by decide +kernel)), ⟨by decide +kernel, by decide +kernel, by decide +kernel⟩, rfl, Or.inl (gt_at 1096 (by decide +kernel) (by decide +kernel))⟩, (gt_at 1098 (by decide +kernel) (by decide +kernel)), (gt_at 76 (by decide +kernel) (by decide +kernel))⟩
theorem flX9_13 : FL RX9 13 9 1 := ⟨_, rfl, by decide, Or.inl (gt_at 772 (by decide +kernel) (by decide +kernel))⟩
theorem fpX9_73 : FP RX9 73 9 2 .int := ⟨_, rfl, by decide, rfl, by decide +kernel, Or.inl (gt_at 773 (by decide +kernel) (by decide +kernel))⟩
theorem kcX9_111 : Cond.constantLong RX9 111 (9) ∈ gtbl := (gt_at 927 (by decide +kernel) (by decide +kernel))
theorem clX9_113 : CLs RX9 113 mX9_weightAt 1 := ⟨⟨(gt_at 930 (by decide +kernel) (by decide +kernel)), (gt_at 89 (by decide +kernel) (by decide +kernel)), ⟨by decide +kernel, by decide +kernel, by decide +kernel⟩, rfl, Or.inl (gt_at 928 (by decide +kernel) (by decide +kernel))⟩, (gt_at 929 (by decide +kernel) (by decide +kernel))⟩
theorem kcX9_185 : Cond.constantFloat RX9 185 (1149239296) ∈ gtbl := (gt_at 1027 (by decide +kernel) (by decide +kernel))
theorem clX9_186 : CLs RX9 186 mJxf58ca_floatToIntBits_5c35a 1 := ⟨⟨(gt_at 1030 (by decide +kernel) (by decide +kernel)), (gt_at 95 (by decide +kernel) (by decide +kernel)), ⟨by decide +kernel, by decide +kernel, by decide +kernel⟩, rfl, Or.inl (gt_at 1028 (by decide +kernel) (by decide +kernel))⟩, (gt_at 1029 (by decide +kernel) (by decide +kernel))⟩
theorem ac_int : Cond.arrayClass .int ∈ gtbl := (gt_at 132 (by decide +kernel) (by decide +kernel))
theorem ac_long : Cond.arrayClass .long ∈ gtbl := (gt_at 250 (by decide +kernel) (by decide +kernel))
theorem oi_1 : Cond.instanceMethod objectInit ∈ gtbl := (gt_at 102 (by decide +kernel) (by decide +kernel))
theorem oi_2 : Cond.code objectInit ⟨#[0xb1]⟩ 1 none ∈ gtbl := (gt_at 103 (by decide +kernel) (by decide +kernel))
theorem mmax_1 : Cond.static Lib.Math.max.name ∈ gtbl := (gt_at 497 (by decide +kernel) (by decide +kernel))
theorem mmax_2 : Cond.code Lib.Math.max.name Lib.Math.max.code 2 (some .int) ∈ gtbl := (gt_at 498 (by decide +kernel) (by decide +kernel))
theorem mmin_1 : Cond.static Lib.Math.min.name ∈ gtbl := (gt_at 526 (by decide +kernel) (by decide +kernel))
theorem mmin_2 : Cond.code Lib.Math.min.name Lib.Math.min.code 2 (some .int) ∈ gtbl := (gt_at 527 (by decide +kernel) (by decide +kernel))
theorem mi_1 : Cond.initialized "java/lang/Math" ∈ gtbl := (gt_at 93 (by decide +kernel) (by decide +kernel))
theorem ac_1 : Cond.native arraycopyName ∈ gtbl := (gt_at 359 (by decide +kernel) (by decide +kernel))
theorem ac_2 : Cond.static arraycopyName ∈ gtbl := (gt_at 358 (by decide +kernel) (by decide +kernel))
theorem ac_3 : Cond.initialized "java/lang/System" ∈ gtbl := (gt_at 90 (by decide +kernel) (by decide +kernel))
end
section
/-! CnfCompiler's static helpers -/
section ST
variable (d : Nat) (h : Hp)
theorem sp_isErr_t {x : Int32} (h1 : -6 < x) (h2 : x ≤ -2) : Mx mX8_isErrorCode d [.int x] h (some (.int 1)) h := by
  refine Mx_of [_] (by decide +kernel) rfl rfl ?_
  refine Rx_iload_n dX8_isErrorCode_0 rfl ?_
  refine Rx_bipush (-2) dX8_isErrorCode_1 (by decide) ?_
  refine Rx_icmp_gt_f 16 dX8_isErrorCode_3 (by decide) (Int32.not_lt.mpr h2) ?_
  refine Rx_iload_n dX8_isErrorCode_6 rfl ?_
  refine Rx_bipush (-6) dX8_isErrorCode_7 (by decide) ?_
  refine Rx_icmp_le_f 16 dX8_isErrorCode_9 (by decide) (Int32.not_le.mpr h1) ?_
  refine Rx_iconst (1) dX8_isErrorCode_12 (by decide) ?_
  refine Rx_goto 17 dX8_isErrorCode_13 (by decide) ?_
  exact Rx_zret dX8_isErrorCode_17 rfl nz_1
theorem sp_isErr_f {x : Int32} (h1 : ¬ (-6 < x ∧ x ≤ -2)) : Mx mX8_isErrorCode d [.int x] h (some (.int 0)) h := by
  refine Mx_of [_] (by decide +kernel) rfl rfl ?_
  by_cases c : -2 < x
  · refine Rx_iload_n dX8_isErrorCode_0 rfl ?_
    refine Rx_bipush (-2) dX8_isErrorCode_1 (by decide) ?_
    refine Rx_icmp_gt_t 16 dX8_isErrorCode_3 (by decide) c ?_
    refine Rx_iconst (0) dX8_isErrorCode_16 (by decide) ?_
    exact Rx_zret dX8_isErrorCode_17 rfl nz_0
  · have c2 : x ≤ -6 := Int32.not_lt.mp (fun z => h1 ⟨z, Int32.not_lt.mp c⟩)
    refine Rx_iload_n dX8_isErrorCode_0 rfl ?_
    refine Rx_bipush (-2) dX8_isErrorCode_1 (by decide) ?_
    refine Rx_icmp_gt_f 16 dX8_isErrorCode_3 (by decide) c ?_
    refine Rx_iload_n dX8_isErrorCode_6 rfl ?_
    refine Rx_bipush (-6) dX8_isErrorCode_7 (by decide) ?_
    refine Rx_icmp_le_t 16 dX8_isErrorCode_9 (by decide) c2 ?_
    refine Rx_iconst (0) dX8_isErrorCode_16 (by decide) ?_
    exact Rx_zret dX8_isErrorCode_17 rfl nz_0
theorem sp_isLz_t {x : Int32} (h1 : -10 ≤ x) (h2 : x ≤ 10) : Mx mX8_isLiteralOrZero d [.int x] h (some (.int 1)) h := by
  refine Mx_of [_] (by decide +kernel) rfl rfl ?_
  refine Rx_iload_n dX8_isLiteralOrZero_0 rfl ?_
  refine Rx_bipush (-10) dX8_isLiteralOrZero_1 (by decide) ?_
  refine Rx_icmp_lt_f 16 dX8_isLiteralOrZero_3 (by decide) (Int32.not_lt.mpr h1) ?_
  refine Rx_iload_n dX8_isLiteralOrZero_6 rfl ?_
  refine Rx_bipush (10) dX8_isLiteralOrZero_7 (by decide) ?_
  refine Rx_icmp_gt_f 16 dX8_isLiteralOrZero_9 (by decide) (Int32.not_lt.mpr h2) ?_
  refine Rx_iconst (1) dX8_isLiteralOrZero_12 (by decide) ?_
  refine Rx_goto 17 dX8_isLiteralOrZero_13 (by decide) ?_
  exact Rx_zret dX8_isLiteralOrZero_17 rfl nz_1
theorem sp_isLz_f {x : Int32} (h1 : ¬ (-10 ≤ x ∧ x ≤ 10)) : Mx mX8_isLiteralOrZero d [.int x] h (some (.int 0)) h := by
  refine Mx_of [_] (by decide +kernel) rfl rfl ?_
  by_cases c : x < -10
  · refine Rx_iload_n dX8_isLiteralOrZero_0 rfl ?_
    refine Rx_bipush (-10) dX8_isLiteralOrZero_1 (by decide) ?_
    refine Rx_icmp_lt_t 16 dX8_isLiteralOrZero_3 (by decide) c ?_
    refine Rx_iconst (0) dX8_isLiteralOrZero_16 (by decide) ?_
    exact Rx_zret dX8_isLiteralOrZero_17 rfl nz_0
  · have c2 : 10 < x := Int32.not_le.mp (fun z => h1 ⟨Int32.not_lt.mp c, z⟩)
    refine Rx_iload_n dX8_isLiteralOrZero_0 rfl ?_
    refine Rx_bipush (-10) dX8_isLiteralOrZero_1 (by decide) ?_
    refine Rx_icmp_lt_f 16 dX8_isLiteralOrZero_3 (by decide) c ?_
    refine Rx_iload_n dX8_isLiteralOrZero_6 rfl ?_
    refine Rx_bipush (10) dX8_isLiteralOrZero_7 (by decide) ?_
    refine Rx_icmp_gt_t 16 dX8_isLiteralOrZero_9 (by decide) c2 ?_
    refine Rx_iconst (0) dX8_isLiteralOrZero_16 (by decide) ?_
    exact Rx_zret dX8_isLiteralOrZero_17 rfl nz_0
theorem sp_isLit_t {x : Int32} (h0 : ¬ x = 0) (h1 : -10 ≤ x) (h2 : x ≤ 10) : Mx mX8_isLiteral (d + 1) [.int x] h (some (.int 1)) h := by
  refine Mx_of [_] (by decide +kernel) rfl rfl ?_
  refine Rx_iload_n dX8_isLiteral_0 rfl ?_
  refine Rx_if_eq_f 15 dX8_isLiteral_1 (by decide) h0 ?_
  refine Rx_iload_n dX8_isLiteral_4 rfl ?_
  refine Rx_callS [_] dX8_isLiteral_5 clX8_80 (sp_isLz_t d h h1 h2) rfl rfl rfl ?_
  refine Rx_if_eq_f 15 dX8_isLiteral_8 (by decide) (by decide) ?_
  refine Rx_iconst (1) dX8_isLiteral_11 (by decide) ?_
  refine Rx_goto 16 dX8_isLiteral_12 (by decide) ?_
  exact Rx_zret dX8_isLiteral_16 rfl nz_1
theorem sp_isLit_f {x : Int32} (h1 : ¬ (¬ x = 0 ∧ -10 ≤ x ∧ x ≤ 10)) : Mx mX8_isLiteral (d + 1) [.int x] h (some (.int 0)) h := by
  refine Mx_of [_] (by decide +kernel) rfl rfl ?_
  by_cases c : x = 0
  · refine Rx_iload_n dX8_isLiteral_0 rfl ?_
    refine Rx_if_eq_t 15 dX8_isLiteral_1 (by decide) c ?_
    refine Rx_iconst (0) dX8_isLiteral_15 (by decide) ?_
    exact Rx_zret dX8_isLiteral_16 rfl nz_0
  · refine Rx_iload_n dX8_isLiteral_0 rfl ?_
    refine Rx_if_eq_f 15 dX8_isLiteral_1 (by decide) c ?_
    refine Rx_iload_n dX8_isLiteral_4 rfl ?_
    refine Rx_callS [_] dX8_isLiteral_5 clX8_80 (sp_isLz_f d h (fun z => h1 ⟨c, z⟩)) rfl rfl rfl ?_
    refine Rx_if_eq_t 15 dX8_isLiteral_8 (by decide) rfl ?_
    refine Rx_iconst (0) dX8_isLiteral_15 (by decide) ?_
    exact Rx_zret dX8_isLiteral_16 rfl nz_0
theorem sp_same_t {x y : Int32} (h0 : ¬ x = 0) (h1 : x = y ∨ x = -y) : Mx mX8_sameVariable d [.int x, .int y] h (some (.int 1)) h := by
  refine Mx_of [_, _] (by decide +kernel) rfl rfl ?_
  by_cases c : x = y
  · refine Rx_iload_n dX8_sameVariable_0 rfl ?_
    refine Rx_if_eq_f 19 dX8_sameVariable_1 (by decide) h0 ?_
    refine Rx_iload_n dX8_sameVariable_4 rfl ?_
    refine Rx_iload_n dX8_sameVariable_5 rfl ?_
    refine Rx_icmp_eq_t 15 dX8_sameVariable_6 (by decide) c ?_
    refine Rx_iconst (1) dX8_sameVariable_15 (by decide) ?_
    refine Rx_goto 20 dX8_sameVariable_16 (by decide) ?_
    exact Rx_zret dX8_sameVariable_20 rfl nz_1
  · have c2 : x = -y := h1.resolve_left c
    refine Rx_iload_n dX8_sameVariable_0 rfl ?_
    refine Rx_if_eq_f 19 dX8_sameVariable_1 (by decide) h0 ?_
    refine Rx_iload_n dX8_sameVariable_4 rfl ?_
    refine Rx_iload_n dX8_sameVariable_5 rfl ?_
    refine Rx_icmp_eq_f 15 dX8_sameVariable_6 (by decide) c ?_
    refine Rx_iload_n dX8_sameVariable_9 rfl ?_
    refine Rx_iload_n dX8_sameVariable_10 rfl ?_
    refine Rx_ineg dX8_sameVariable_11 ?_
    refine Rx_icmp_ne_f 19 dX8_sameVariable_12 (by decide) c2 ?_
    refine Rx_iconst (1) dX8_sameVariable_15 (by decide) ?_
    refine Rx_goto 20 dX8_sameVariable_16 (by decide) ?_
    exact Rx_zret dX8_sameVariable_20 rfl nz_1
theorem sp_same_f {x y : Int32} (h1 : x = 0 ∨ (¬ x = y ∧ ¬ x = -y)) : Mx mX8_sameVariable d [.int x, .int y] h (some (.int 0)) h := by
  refine Mx_of [_, _] (by decide +kernel) rfl rfl ?_
  by_cases c : x = 0
  · refine Rx_iload_n dX8_sameVariable_0 rfl ?_
    refine Rx_if_eq_t 19 dX8_sameVariable_1 (by decide) c ?_
    refine Rx_iconst (0) dX8_sameVariable_19 (by decide) ?_
    exact Rx_zret dX8_sameVariable_20 rfl nz_0
  · have c2 := h1.resolve_left c
    refine Rx_iload_n dX8_sameVariable_0 rfl ?_
    refine Rx_if_eq_f 19 dX8_sameVariable_1 (by decide) c ?_
    refine Rx_iload_n dX8_sameVariable_4 rfl ?_
    refine Rx_iload_n dX8_sameVariable_5 rfl ?_
    refine Rx_icmp_eq_f 15 dX8_sameVariable_6 (by decide) c2.1 ?_
    refine Rx_iload_n dX8_sameVariable_9 rfl ?_
    refine Rx_iload_n dX8_sameVariable_10 rfl ?_
    refine Rx_ineg dX8_sameVariable_11 ?_
    refine Rx_icmp_ne_t 19 dX8_sameVariable_12 (by decide) c2.2 ?_
    refine Rx_iconst (0) dX8_sameVariable_19 (by decide) ?_
    exact Rx_zret dX8_sameVariable_20 rfl nz_0
def fCode (x : Int32) : Int32 := if 0 < x then 2 * x else -2 * x + 1
theorem sp_codeOf (x : Int32) : Mx mX8_codeOf d [.int x] h (some (.int (fCode x))) h := by
  refine Mx_of [_] (by decide +kernel) rfl rfl ?_
  unfold fCode
  by_cases c : 0 < x
  · rw [if_pos c]
    refine Rx_iload_n dX8_codeOf_0 rfl ?_
    refine Rx_if_le_f 10 dX8_codeOf_1 (by decide) (Int32.not_le.mpr c) ?_
    refine Rx_iconst (2) dX8_codeOf_4 (by decide) ?_
    refine Rx_iload_n dX8_codeOf_5 rfl ?_
    refine Rx_imul dX8_codeOf_6 ?_
    refine Rx_goto 16 dX8_codeOf_7 (by decide) ?_
    exact Rx_iret dX8_codeOf_16 rfl
  · rw [if_neg c]
    refine Rx_iload_n dX8_codeOf_0 rfl ?_
    refine Rx_if_le_t 10 dX8_codeOf_1 (by decide) (Int32.not_lt.mp c) ?_
    refine Rx_bipush (-2) dX8_codeOf_10 (by decide) ?_
    refine Rx_iload_n dX8_codeOf_12 rfl ?_
    refine Rx_imul dX8_codeOf_13 ?_
    refine Rx_iconst (1) dX8_codeOf_14 (by decide) ?_
    refine Rx_iadd dX8_codeOf_15 ?_
    exact Rx_iret dX8_codeOf_16 rfl
def fLit (x : Int32) : Int32 := if x &&& 1 = 0 then x >>> ((1 : Int32) &&& 31) else -(x >>> ((1 : Int32) &&& 31))
theorem sp_literalOf (x : Int32) : Mx mX8_literalOf d [.int x] h (some (.int (fLit x))) h := by
  refine Mx_of [_] (by decide +kernel) rfl rfl ?_
  unfold fLit
  by_cases c : x &&& 1 = 0
  · rw [if_pos c]
    refine Rx_iload_n dX8_literalOf_0 rfl ?_
    refine Rx_iconst (1) dX8_literalOf_1 (by decide) ?_
    refine Rx_iand dX8_literalOf_2 ?_
    refine Rx_if_ne_f 12 dX8_literalOf_3 (by decide) c ?_
    refine Rx_iload_n dX8_literalOf_6 rfl ?_
    refine Rx_iconst (1) dX8_literalOf_7 (by decide) ?_
    refine Rx_ishr dX8_literalOf_8 ?_
    refine Rx_goto 16 dX8_literalOf_9 (by decide) ?_
    exact Rx_iret dX8_literalOf_16 rfl
  · rw [if_neg c]
    refine Rx_iload_n dX8_literalOf_0 rfl ?_
    refine Rx_iconst (1) dX8_literalOf_1 (by decide) ?_
    refine Rx_iand dX8_literalOf_2 ?_
    refine Rx_if_ne_t 12 dX8_literalOf_3 (by decide) c ?_
    refine Rx_iload_n dX8_literalOf_12 rfl ?_
    refine Rx_iconst (1) dX8_literalOf_13 (by decide) ?_
    refine Rx_ishr dX8_literalOf_14 ?_
    refine Rx_ineg dX8_literalOf_15 ?_
    exact Rx_iret dX8_literalOf_16 rfl
def fBit (x : Int32) : Int32 := if x = 0 then 0 else (1 : Int32) <<< (fCode x &&& 31)
theorem sp_bitOf (x : Int32) : Mx mX8_bitOf (d + 1) [.int x] h (some (.int (fBit x))) h := by
  refine Mx_of [_] (by decide +kernel) rfl rfl ?_
  unfold fBit
  by_cases c : x = 0
  · rw [if_pos c]
    refine Rx_iload_n dX8_bitOf_0 rfl ?_
    refine Rx_if_ne_f 8 dX8_bitOf_1 (by decide) c ?_
    refine Rx_iconst (0) dX8_bitOf_4 (by decide) ?_
    refine Rx_goto 14 dX8_bitOf_5 (by decide) ?_
    exact Rx_iret dX8_bitOf_14 rfl
  · rw [if_neg c]
    refine Rx_iload_n dX8_bitOf_0 rfl ?_
    refine Rx_if_ne_t 8 dX8_bitOf_1 (by decide) c ?_
    refine Rx_iconst (1) dX8_bitOf_8 (by decide) ?_
    refine Rx_iload_n dX8_bitOf_9 rfl ?_
    refine Rx_callS [_] dX8_bitOf_10 clX8_129 (sp_codeOf d h x) rfl rfl rfl ?_
    refine Rx_ishl dX8_bitOf_13 ?_
    exact Rx_iret dX8_bitOf_14 rfl
def fCon (x y : Int32) : Prop := ¬ (x >>> (y &&& 31)) &&& 1 = 0
theorem sp_contains_t {x y : Int32} (h1 : fCon x y) : Mx mX8_contains d [.int x, .int y] h (some (.int 1)) h := by
  refine Mx_of [_, _] (by decide +kernel) rfl rfl ?_
  refine Rx_iload_n dX8_contains_0 rfl ?_
  refine Rx_iload_n dX8_contains_1 rfl ?_
  refine Rx_ishr dX8_contains_2 ?_
  refine Rx_iconst (1) dX8_contains_3 (by decide) ?_
  refine Rx_iand dX8_contains_4 ?_
  refine Rx_if_eq_f 12 dX8_contains_5 (by decide) h1 ?_
  refine Rx_iconst (1) dX8_contains_8 (by decide) ?_
  refine Rx_goto 13 dX8_contains_9 (by decide) ?_
  exact Rx_zret dX8_contains_13 rfl nz_1
theorem sp_contains_f {x y : Int32} (h1 : ¬ fCon x y) : Mx mX8_contains d [.int x, .int y] h (some (.int 0)) h := by
  refine Mx_of [_, _] (by decide +kernel) rfl rfl ?_
  refine Rx_iload_n dX8_contains_0 rfl ?_
  refine Rx_iload_n dX8_contains_1 rfl ?_
  refine Rx_ishr dX8_contains_2 ?_
  refine Rx_iconst (1) dX8_contains_3 (by decide) ?_
  refine Rx_iand dX8_contains_4 ?_
  refine Rx_if_eq_t 12 dX8_contains_5 (by decide) (Decidable.not_not.mp h1) ?_
  refine Rx_iconst (0) dX8_contains_12 (by decide) ?_
  exact Rx_zret dX8_contains_13 rfl nz_0
def fVars (x : Int32) : Int32 := (x ||| x >>> ((1 : Int32) &&& 31)) &&& 1398100
theorem sp_varsOf (x : Int32) : Mx mX8_variablesOf d [.int x] h (some (.int (fVars x))) h := by
  refine Mx_of [_] (by decide +kernel) rfl rfl ?_
  refine Rx_iload_n dX8_variablesOf_0 rfl ?_
  refine Rx_iload_n dX8_variablesOf_1 rfl ?_
  refine Rx_iconst (1) dX8_variablesOf_2 (by decide) ?_
  refine Rx_ishr dX8_variablesOf_3 ?_
  refine Rx_ior dX8_variablesOf_4 ?_
  refine Rx_ldc dX8_variablesOf_5 kcX8_238 ?_
  refine Rx_iand dX8_variablesOf_7 ?_
  exact Rx_iret dX8_variablesOf_8 rfl
def fOpp (x : Int32) : Int32 := (x &&& 1398100) <<< ((1 : Int32) &&& 31) ||| x >>> ((1 : Int32) &&& 31) &&& 1398100
theorem sp_oppOf (x : Int32) : Mx mX8_oppositesOf d [.int x] h (some (.int (fOpp x))) h := by
  refine Mx_of [_] (by decide +kernel) rfl rfl ?_
  refine Rx_iload_n dX8_oppositesOf_0 rfl ?_
  refine Rx_ldc dX8_oppositesOf_1 kcX8_238 ?_
  refine Rx_iand dX8_oppositesOf_3 ?_
  refine Rx_iconst (1) dX8_oppositesOf_4 (by decide) ?_
  refine Rx_ishl dX8_oppositesOf_5 ?_
  refine Rx_iload_n dX8_oppositesOf_6 rfl ?_
  refine Rx_iconst (1) dX8_oppositesOf_7 (by decide) ?_
  refine Rx_ishr dX8_oppositesOf_8 ?_
  refine Rx_ldc dX8_oppositesOf_9 kcX8_238 ?_
  refine Rx_iand dX8_oppositesOf_11 ?_
  refine Rx_ior dX8_oppositesOf_12 ?_
  exact Rx_iret dX8_oppositesOf_13 rfl
end ST
end
section
/-! heaps: one cell written, others kept -/
theorem hS {h : Hp} {k : Nat} {e : va_E} (e' : va_E) (hk : h[k]? = some e) : (h.set k e')[k]? = some e' := by
  rw [List.getElem?_set, if_pos rfl, if_pos (List.getElem?_eq_some_iff.mp hk).1]
theorem ex_and {α : Type} {P Q : α → Prop} (x : α) (h1 : P x) (h2 : Q x) : ∃ x, P x ∧ Q x := ⟨x, h1, h2⟩
theorem hN {h : Hp} {k j : Nat} {e' : va_E} (hj : k ≠ j) : (h.set k e')[j]? = h[j]? := List.getElem?_set_ne hj
theorem hNs {h : Hp} {k j : Nat} {e e' : va_E} (hj : k ≠ j) (h1 : h[j]? = some e) : (h.set k e')[j]? = some e := by rw [hN hj]; exact h1
def Fr (S : List Nat) (h h' : Hp) : Prop := h'.length = h.length ∧ ∀ k, k ∉ S → h'[k]? = h[k]?
theorem Fr.rfl' {S : List Nat} {h : Hp} : Fr S h h := ⟨rfl, fun _ _ => rfl⟩
theorem Fr.set {S : List Nat} {h : Hp} {a : Nat} {e : va_E} (ha : a ∈ S) : Fr S h (h.set a e) := ⟨List.length_set, fun _ hk => hN (fun z => hk (z ▸ ha))⟩
theorem Fr.trans {S : List Nat} {h h1 h2 : Hp} (x : Fr S h h1) (y : Fr S h1 h2) : Fr S h h2 := ⟨y.1.trans x.1, fun k hk => (y.2 k hk).trans (x.2 k hk)⟩
theorem Fr.mono {S T : List Nat} {h h1 : Hp} (x : Fr S h h1) (hs : ∀ k, k ∈ S → k ∈ T) : Fr T h h1 := ⟨x.1, fun k hk => x.2 k (fun z => hk (hs k z))⟩
theorem Fr.at {S : List Nat} {h h1 : Hp} (x : Fr S h h1) {k : Nat} {e : va_E} (hk : k ∉ S) (he : h[k]? = some e) : h1[k]? = some e := (x.2 k hk).trans he
def fillf {α : Type} (f : Nat → α) (i : Nat) (v : α) : Nat → α := fun j => if j < i then v else f j
theorem fillf_0 {α : Type} (f : Nat → α) (v : α) : fillf f 0 v = f := by funext j; simp [fillf]
theorem fillf_s (f : Nat → Int32) (i : Nat) (v : Int32) : upd (fillf f i v) i v = fillf f (i + 1) v := by
  funext j
  simp only [upd, fillf]
  by_cases h1 : j = i
  · subst h1; simp
  · by_cases h2 : j < i
    · rw [if_neg h1, if_pos h2, if_pos (by omega)]
    · rw [if_neg h1, if_neg h2, if_neg (by omega)]
theorem fillf_sL (f : Nat → Int64) (i : Nat) (v : Int64) : vp_updL (fillf f i v) i v = fillf f (i + 1) v := by
  funext j
  simp only [vp_updL, fillf]
  by_cases h1 : j = i
  · subst h1; simp
  · by_cases h2 : j < i
    · rw [if_neg h1, if_pos h2, if_pos (by omega)]
    · rw [if_neg h1, if_neg h2, if_neg (by omega)]
theorem fill_loop (d : Nat) (h : Hp) {a n : Nat} {f : Nat → Int32} (v : Int32) (ha : h[a]? = some (aI n f)) (hn : n < 2 ^ 31) : ∀ (k i : Nat), i + k = n → Rx mJ7_fill_53178 d 5 [.ref a, .int v, .int (nI i), .int (nI n)] [] (h.set a (aI n (fillf f i v))) none (h.set a (aI n (fillf f n v))) := by
  intro k
  induction k with
  | zero =>
    intro i hi
    have e : i = n := by omega
    subst e
    refine Rx_iload_n dJ7_fill_53178_5 rfl ?_
    refine Rx_iload_n dJ7_fill_53178_6 rfl ?_
    refine Rx_icmp_ge_t 20 dJ7_fill_53178_7 (by decide) (nI_le (Nat.le_refl _) hn) ?_
    exact Rx_vret dJ7_fill_53178_20 rfl
  | succ k ih =>
    intro i hi
    refine Rx_iload_n dJ7_fill_53178_5 rfl ?_
    refine Rx_iload_n dJ7_fill_53178_6 rfl ?_
    refine Rx_icmp_ge_f 20 dJ7_fill_53178_7 (by decide) (nI_ge (by omega) hn) ?_
    refine Rx_aload_n dJ7_fill_53178_10 rfl ?_
    refine Rx_iload_n dJ7_fill_53178_11 rfl ?_
    refine Rx_iload_n dJ7_fill_53178_12 rfl ?_
    refine Rx_iast i dJ7_fill_53178_13 (hS _ ha) (by omega) hn rfl ?_
    rw [List.set_set, fillf_s]
    refine Rx_iinc [_, _, _, _] (1) dJ7_fill_53178_14 rfl (by decide) rfl rfl rfl ?_
    refine Rx_goto 5 dJ7_fill_53178_17 (by decide) ?_
    rw [nI_1]
    exact ih (i + 1) (by omega)
theorem sp_fill (d : Nat) {h : Hp} {a n : Nat} {f : Nat → Int32} (v : Int32) (ha : h[a]? = some (aI n f)) (hn : n < 2 ^ 31) : Mx mJ7_fill_53178 d [.ref a, .int v] h none (h.set a (aI n (fillf f n v))) := by
  refine Mx_of [_, _, _, _] (by decide +kernel) rfl rfl ?_
  refine Rx_iconst (0) dJ7_fill_53178_0 (by decide) ?_
  refine Rx_istore_n [_, _, _, _] dJ7_fill_53178_1 rfl rfl rfl ?_
  refine Rx_aload_n dJ7_fill_53178_2 rfl ?_
  refine Rx_alenI dJ7_fill_53178_3 ha ?_
  refine Rx_istore_n [_, _, _, _] dJ7_fill_53178_4 rfl rfl rfl ?_
  have := fill_loop d h v ha hn n 0 (by omega)
  rw [fillf_0, show h.set a (aI n f) = h from by
    apply List.ext_getElem?
    intro k
    by_cases hk : a = k
    · subst hk; rw [hS _ ha]; exact ha.symm
    · rw [hN hk]] at this
  exact this
theorem fillL_loop (d : Nat) (h : Hp) {a n : Nat} {f : Nat → Int64} (v : Int64) (ha : h[a]? = some (aL n f)) (hn : n < 2 ^ 31) : ∀ (k i : Nat), i + k = n → Rx mJ7_fill_d0a16 d 6 [.ref a, .long v, .retAddr 0, .int (nI i), .int (nI n)] [] (h.set a (aL n (fillf f i v))) none (h.set a (aL n (fillf f n v))) := by
  intro k
  induction k with
  | zero =>
    intro i hi
    have e : i = n := by omega
    subst e
    refine Rx_iload_n dJ7_fill_d0a16_6 rfl ?_
    refine Rx_iload dJ7_fill_d0a16_7 rfl ?_
    refine Rx_icmp_ge_t 22 dJ7_fill_d0a16_9 (by decide) (nI_le (Nat.le_refl _) hn) ?_
    exact Rx_vret dJ7_fill_d0a16_22 rfl
  | succ k ih =>
    intro i hi
    refine Rx_iload_n dJ7_fill_d0a16_6 rfl ?_
    refine Rx_iload dJ7_fill_d0a16_7 rfl ?_
    refine Rx_icmp_ge_f 22 dJ7_fill_d0a16_9 (by decide) (nI_ge (by omega) hn) ?_
    refine Rx_aload_n dJ7_fill_d0a16_12 rfl ?_
    refine Rx_iload_n dJ7_fill_d0a16_13 rfl ?_
    refine Rx_lload_n dJ7_fill_d0a16_14 rfl ?_
    refine Rx_last i dJ7_fill_d0a16_15 (hS _ ha) (by omega) hn rfl ?_
    rw [List.set_set, fillf_sL]
    refine Rx_iinc [_, _, _, _, _] (1) dJ7_fill_d0a16_16 rfl (by decide) rfl rfl rfl ?_
    refine Rx_goto 6 dJ7_fill_d0a16_19 (by decide) ?_
    rw [nI_1]
    exact ih (i + 1) (by omega)
theorem hset_id {h : Hp} {a : Nat} {e : va_E} (ha : h[a]? = some e) : h.set a e = h := by
  apply List.ext_getElem?
  intro k
  by_cases hk : a = k
  · subst hk; rw [hS _ ha]; exact ha.symm
  · rw [hN hk]
theorem sp_fillL (d : Nat) {h : Hp} {a n : Nat} {f : Nat → Int64} (v : Int64) (ha : h[a]? = some (aL n f)) (hn : n < 2 ^ 31) : Mx mJ7_fill_d0a16 d [.ref a, .long v] h none (h.set a (aL n (fillf f n v))) := by
  refine Mx_of [_, _, _, _, _] (by decide +kernel) rfl rfl ?_
  refine Rx_iconst (0) dJ7_fill_d0a16_0 (by decide) ?_
  refine Rx_istore_n [_, _, _, _, _] dJ7_fill_d0a16_1 rfl rfl rfl ?_
  refine Rx_aload_n dJ7_fill_d0a16_2 rfl ?_
  refine Rx_alenL dJ7_fill_d0a16_3 ha ?_
  refine Rx_istore [_, _, _, _, _] dJ7_fill_d0a16_4 rfl rfl rfl ?_
  have := fillL_loop d h v ha hn n 0 (by omega)
  rw [fillf_0, hset_id ha] at this
  exact this
/-! CnfCompiler.State: St h a ca wa cs n as w: its cells at a, its clauses, count, assumed, weights -/
abbrev obS (ca : Nat) (n as : Int32) (wa : Nat) : va_E := .inr (6, [.ref ca, .int n, .int as, .ref wa])
theorem sp_hasCl_t (d : Nat) {h : Hp} {a ca wa : Nat} {n as i : Int32} (ha : h[a]? = some (obS ca n as wa)) (h1 : 0 ≤ i) (h2 : i < n) : Mx mX6_hasClause d [.ref a, .int i] h (some (.int 1)) h := by
  refine Mx_of [_, _] (by decide +kernel) rfl rfl ?_
  refine Rx_iload_n dX6_hasClause_0 rfl ?_
  refine Rx_if_lt_f 16 dX6_hasClause_1 (by decide) (Int32.not_lt.mpr h1) ?_
  refine Rx_iload_n dX6_hasClause_4 rfl ?_
  refine Rx_aload_n dX6_hasClause_5 rfl ?_
  refine Rx_get dX6_hasClause_6 flX6_15 ha rfl ?_
  refine Rx_icmp_ge_f 16 dX6_hasClause_9 (by decide) (Int32.not_le.mpr h2) ?_
  refine Rx_iconst (1) dX6_hasClause_12 (by decide) ?_
  refine Rx_goto 17 dX6_hasClause_13 (by decide) ?_
  exact Rx_zret dX6_hasClause_17 rfl nz_1
theorem sp_hasCl_f (d : Nat) {h : Hp} {a ca wa : Nat} {n as i : Int32} (ha : h[a]? = some (obS ca n as wa)) (h1 : ¬ (0 ≤ i ∧ i < n)) : Mx mX6_hasClause d [.ref a, .int i] h (some (.int 0)) h := by
  refine Mx_of [_, _] (by decide +kernel) rfl rfl ?_
  by_cases c : i < 0
  · refine Rx_iload_n dX6_hasClause_0 rfl ?_
    refine Rx_if_lt_t 16 dX6_hasClause_1 (by decide) c ?_
    refine Rx_iconst (0) dX6_hasClause_16 (by decide) ?_
    exact Rx_zret dX6_hasClause_17 rfl nz_0
  · have c2 : n ≤ i := Int32.not_lt.mp (fun z => h1 ⟨Int32.not_lt.mp c, z⟩)
    refine Rx_iload_n dX6_hasClause_0 rfl ?_
    refine Rx_if_lt_f 16 dX6_hasClause_1 (by decide) c ?_
    refine Rx_iload_n dX6_hasClause_4 rfl ?_
    refine Rx_aload_n dX6_hasClause_5 rfl ?_
    refine Rx_get dX6_hasClause_6 flX6_15 ha rfl ?_
    refine Rx_icmp_ge_t 16 dX6_hasClause_9 (by decide) c2 ?_
    refine Rx_iconst (0) dX6_hasClause_16 (by decide) ?_
    exact Rx_zret dX6_hasClause_17 rfl nz_0
theorem sp_clauseAt (d : Nat) {h : Hp} {a ca wa i n : Nat} {as : Int32} {cs : Nat → Int32} (ha : h[a]? = some (obS ca (nI n) as wa)) (hc : h[ca]? = some (aI 16 cs)) (hi : i < n) (hn : n ≤ 16) : Mx mX6_clauseAt (d + 1) [.ref a, .int (nI i)] h (some (.int (cs i))) h := by
  refine Mx_of [_, _] (by decide +kernel) rfl rfl ?_
  refine Rx_aload_n dX6_clauseAt_0 rfl ?_
  refine Rx_iload_n dX6_clauseAt_1 rfl ?_
  refine Rx_callV [_] dX6_clauseAt_2 clX6_31 rfl ha (sp_hasCl_t d ha (nI_pos' (by omega)) (nI_lt hi (by omega))) rfl rfl rfl ?_
  refine Rx_if_eq_f 17 dX6_clauseAt_5 (by decide) (by decide) ?_
  refine Rx_aload_n dX6_clauseAt_8 rfl ?_
  refine Rx_get dX6_clauseAt_9 flX6_9 ha rfl ?_
  refine Rx_iload_n dX6_clauseAt_12 rfl ?_
  refine Rx_iald i dX6_clauseAt_13 hc (by omega) (by decide) rfl ?_
  refine Rx_goto 18 dX6_clauseAt_14 (by decide) ?_
  exact Rx_iret dX6_clauseAt_18 rfl
theorem sp_appendClause (d : Nat) {h : Hp} {a ca wa n : Nat} {as x : Int32} {cs : Nat → Int32} (ha : h[a]? = some (obS ca (nI n) as wa)) (hc : h[ca]? = some (aI 16 cs)) (hne : ca ≠ a) (hn : n < 16) : Mx mX6_appendClause d [.ref a, .int x] h none ((h.set ca (aI 16 (upd cs n x))).set a (obS ca (nI (n + 1)) as wa)) := by
  refine Mx_of [_, _] (by decide +kernel) rfl rfl ?_
  refine Rx_aload_n dX6_appendClause_0 rfl ?_
  refine Rx_get dX6_appendClause_1 flX6_15 ha rfl ?_
  refine Rx_bipush (16) dX6_appendClause_4 (by decide) ?_
  refine Rx_icmp_ge_f 29 dX6_appendClause_6 (by decide) (nI_ge hn (by decide)) ?_
  refine Rx_aload_n dX6_appendClause_9 rfl ?_
  refine Rx_get dX6_appendClause_10 flX6_9 ha rfl ?_
  refine Rx_aload_n dX6_appendClause_13 rfl ?_
  refine Rx_get dX6_appendClause_14 flX6_15 ha rfl ?_
  refine Rx_iload_n dX6_appendClause_17 rfl ?_
  refine Rx_iast n dX6_appendClause_18 hc hn (by decide) rfl ?_
  refine Rx_aload_n dX6_appendClause_19 rfl ?_
  refine Rx_dup dX6_appendClause_20 rfl ?_
  refine Rx_get dX6_appendClause_21 flX6_15 (hNs hne ha) rfl ?_
  refine Rx_iconst (1) dX6_appendClause_24 (by decide) ?_
  refine Rx_iadd dX6_appendClause_25 ?_
  refine Rx_put [_, _, _, _] dX6_appendClause_26 fpX6_15 (hNs hne ha) rfl (okv_i _) rfl ?_
  rw [nI_1]
  exact Rx_vret dX6_appendClause_29 rfl
theorem sp_weightOf (d : Nat) {h : Hp} {a ca wa i : Nat} {n as : Int32} {w : Nat → Int32} (ha : h[a]? = some (obS ca n as wa)) (hw : h[wa]? = some (aI 22 w)) (hi : i < 22) : Mx mX6_weightOf d [.ref a, .int (nI i)] h (some (.int (w i))) h := by
  refine Mx_of [_, _] (by decide +kernel) rfl rfl ?_
  refine Rx_iload_n dX6_weightOf_0 rfl ?_
  refine Rx_if_lt_f 19 dX6_weightOf_1 (by decide) (nI_pos (by omega)) ?_
  refine Rx_iload_n dX6_weightOf_4 rfl ?_
  refine Rx_bipush (22) dX6_weightOf_5 (by decide) ?_
  refine Rx_icmp_ge_f 19 dX6_weightOf_7 (by decide) (nI_ge hi (by decide)) ?_
  refine Rx_aload_n dX6_weightOf_10 rfl ?_
  refine Rx_get dX6_weightOf_11 flX6_22 ha rfl ?_
  refine Rx_iload_n dX6_weightOf_14 rfl ?_
  refine Rx_iald i dX6_weightOf_15 hw hi (by decide) rfl ?_
  refine Rx_goto 20 dX6_weightOf_16 (by decide) ?_
  exact Rx_iret dX6_weightOf_20 rfl
theorem sp_replaceWeight (d : Nat) {h : Hp} {a ca wa i : Nat} {n as x : Int32} {w : Nat → Int32} (ha : h[a]? = some (obS ca n as wa)) (hw : h[wa]? = some (aI 22 w)) (hi : i < 22) : Mx mX6_replaceWeight (d + 1) [.ref a, .int (nI i), .int x] h (some (.int (w i))) (h.set wa (aI 22 (upd w i x))) := by
  refine Mx_of [_, _, _, _] (by decide +kernel) rfl rfl ?_
  refine Rx_aload_n dX6_replaceWeight_0 rfl ?_
  refine Rx_iload_n dX6_replaceWeight_1 rfl ?_
  refine Rx_callV [_] dX6_replaceWeight_2 clX6_35 rfl ha (sp_weightOf d ha hw hi) rfl rfl rfl ?_
  refine Rx_istore_n [_, _, _, _] dX6_replaceWeight_5 rfl rfl rfl ?_
  refine Rx_iload_n dX6_replaceWeight_6 rfl ?_
  refine Rx_if_lt_f 23 dX6_replaceWeight_7 (by decide) (nI_pos (by omega)) ?_
  refine Rx_iload_n dX6_replaceWeight_10 rfl ?_
  refine Rx_bipush (22) dX6_replaceWeight_11 (by decide) ?_
  refine Rx_icmp_ge_f 23 dX6_replaceWeight_13 (by decide) (nI_ge hi (by decide)) ?_
  refine Rx_aload_n dX6_replaceWeight_16 rfl ?_
  refine Rx_get dX6_replaceWeight_17 flX6_22 ha rfl ?_
  refine Rx_iload_n dX6_replaceWeight_20 rfl ?_
  refine Rx_iload_n dX6_replaceWeight_21 rfl ?_
  refine Rx_iast i dX6_replaceWeight_22 hw hi (by decide) rfl ?_
  refine Rx_iload_n dX6_replaceWeight_23 rfl ?_
  exact Rx_iret dX6_replaceWeight_24 rfl
theorem sp_copyFrom (d : Nat) {h : Hp} {a ca wa b cb wb : Nat} {n as n' as' : Int32} {cs w cs' w' : Nat → Int32} (ha : h[a]? = some (obS ca n as wa)) (hca : h[ca]? = some (aI 16 cs)) (hwa : h[wa]? = some (aI 22 w))
    (hb : h[b]? = some (obS cb n' as' wb)) (hcb : h[cb]? = some (aI 16 cs')) (hwb : h[wb]? = some (aI 22 w')) (e1 : ca ≠ a) (e2 : ca ≠ b) (e3 : a ≠ b) (e4 : ca ≠ wb) (e5 : a ≠ wb) (e6 : ca ≠ wa) (e7 : a ≠ wa) :
    Mq mX6_copyFrom (d + 1) [.ref a, .ref b] h (fun r h' => r = none ∧ Fr [a, ca, wa] h h' ∧ h'[a]? = some (obS ca n' as' wa) ∧ h'[ca]? = some (aI 16 (va_cpy cs' cs 0 0 16)) ∧ h'[wa]? = some (aI 22 (va_cpy w' w 0 0 22))) := by
  refine Mq_of [_, _] (by decide +kernel) rfl rfl ?_
  refine Rq_aload_n dX6_copyFrom_0 rfl ?_
  refine Rq_get dX6_copyFrom_1 flX6_9 hb rfl ?_
  refine Rq_iconst (0) dX6_copyFrom_4 (by decide) ?_
  refine Rq_aload_n dX6_copyFrom_5 rfl ?_
  refine Rq_get dX6_copyFrom_6 flX6_9 ha rfl ?_
  refine Rq_iconst (0) dX6_copyFrom_9 (by decide) ?_
  refine Rq_bipush (16) dX6_copyFrom_10 (by decide) ?_
  refine Rq_acopy 0 0 16 dX6_copyFrom_12 clX6_39 ac_1 ac_2 ac_3 hcb hca (by decide) (by decide) rfl rfl rfl (by decide) (by decide) rfl ?_
  have hb1 := hNs (e' := aI 16 (va_cpy cs' cs 0 0 16)) e2 hb
  have ha1 := hNs (e' := aI 16 (va_cpy cs' cs 0 0 16)) e1 ha
  refine Rq_aload_n dX6_copyFrom_15 rfl ?_
  refine Rq_aload_n dX6_copyFrom_16 rfl ?_
  refine Rq_get dX6_copyFrom_17 flX6_15 hb1 rfl ?_
  refine Rq_put [_, _, _, _] dX6_copyFrom_20 fpX6_15 ha1 rfl (okv_i _) rfl ?_
  have hb2 := hNs (e' := obS ca n' as wa) e3 hb1
  have ha2 := hS (obS ca n' as wa) ha1
  refine Rq_aload_n dX6_copyFrom_23 rfl ?_
  refine Rq_aload_n dX6_copyFrom_24 rfl ?_
  refine Rq_get dX6_copyFrom_25 flX6_19 hb2 rfl ?_
  refine Rq_put [_, _, _, _] dX6_copyFrom_28 fpX6_19 ha2 rfl (okv_i _) rfl ?_
  have hb3 := hNs (e' := obS ca n' as' wa) e3 hb2
  have ha3 := hS (obS ca n' as' wa) ha2
  have hwb3 := hNs (e' := obS ca n' as' wa) e5 (hNs (e' := obS ca n' as wa) e5 (hNs (e' := aI 16 (va_cpy cs' cs 0 0 16)) e4 hwb))
  have hwa3 := hNs (e' := obS ca n' as' wa) e7 (hNs (e' := obS ca n' as wa) e7 (hNs (e' := aI 16 (va_cpy cs' cs 0 0 16)) e6 hwa))
  refine Rq_aload_n dX6_copyFrom_31 rfl ?_
  refine Rq_get dX6_copyFrom_32 flX6_22 hb3 rfl ?_
  refine Rq_iconst (0) dX6_copyFrom_35 (by decide) ?_
  refine Rq_aload_n dX6_copyFrom_36 rfl ?_
  refine Rq_get dX6_copyFrom_37 flX6_22 ha3 rfl ?_
  refine Rq_iconst (0) dX6_copyFrom_40 (by decide) ?_
  refine Rq_bipush (22) dX6_copyFrom_41 (by decide) ?_
  refine Rq_acopy 0 0 22 dX6_copyFrom_43 clX6_39 ac_1 ac_2 ac_3 hwb3 hwa3 (by decide) (by decide) rfl rfl rfl (by decide) (by decide) rfl ?_
  refine Rq_vret dX6_copyFrom_46 rfl ?_
  refine ⟨rfl, ?_, hNs (Ne.symm e7) ha3, hNs (Ne.symm e6) (hNs (Ne.symm e1) (hNs (Ne.symm e1) (hS _ hca))), hS _ hwa3⟩
  exact Fr.trans (Fr.set (by simp)) (Fr.trans (Fr.set (by simp)) (Fr.trans (Fr.set (by simp)) (Fr.set (by simp))))
def delf (f : Nat → Int32) (c i : Nat) : Nat → Int32 := fun j => if c ≤ j ∧ j < i then f (j + 1) else f j
theorem delf_s (f : Nat → Int32) (c i : Nat) (hc : c ≤ i) : upd (delf f c i) i (delf f c i (i + 1)) = delf f c (i + 1) := by
  funext j
  simp only [upd, delf]
  by_cases h1 : j = i
  · subst h1
    rw [if_pos rfl, if_neg (by omega), if_pos (by omega)]
  · rw [if_neg h1]
    by_cases h2 : c ≤ j ∧ j < i
    · rw [if_pos h2, if_pos (by omega)]
    · rw [if_neg h2, if_neg (by omega)]
theorem delete_loop (d : Nat) (h : Hp) {a ca wa n c : Nat} {as : Int32} {cs : Nat → Int32} (ha : h[a]? = some (obS ca (nI n) as wa)) (hca : h[ca]? = some (aI 16 cs)) (hne : ca ≠ a) (hn : n ≤ 16) : ∀ (k i : Nat), c ≤ i → i + 1 + k = n → Rx mX6_deleteClause d 11 [.ref a, .int (nI c), .int (nI i)] [] (h.set ca (aI 16 (delf cs c i))) none ((h.set ca (aI 16 (delf cs c (n - 1)))).set a (obS ca (nI (n - 1)) as wa)) := by
  intro k
  induction k with
  | zero =>
    intro i hc hi
    have e : n - 1 = i := by omega
    rw [e]
    have ha1 := hNs (e' := aI 16 (delf cs c i)) hne ha
    refine Rx_iload_n dX6_deleteClause_11 rfl ?_
    refine Rx_iconst (1) dX6_deleteClause_12 (by decide) ?_
    refine Rx_iadd dX6_deleteClause_13 ?_
    refine Rx_aload_n dX6_deleteClause_14 rfl ?_
    refine Rx_get dX6_deleteClause_15 flX6_15 ha1 rfl ?_
    refine Rx_icmp_ge_t 41 dX6_deleteClause_18 (by decide) (by rw [nI_1]; exact nI_le (by omega) (by omega)) ?_
    refine Rx_aload_n dX6_deleteClause_41 rfl ?_
    refine Rx_dup dX6_deleteClause_42 rfl ?_
    refine Rx_get dX6_deleteClause_43 flX6_15 ha1 rfl ?_
    refine Rx_iconst (1) dX6_deleteClause_46 (by decide) ?_
    refine Rx_isub dX6_deleteClause_47 ?_
    refine Rx_put [_, _, _, _] dX6_deleteClause_48 fpX6_15 ha1 rfl (okv_i _) rfl ?_
    rw [show nI n - 1 = nI i from by rw [← hi]; exact nI_pred i]
    exact Rx_vret dX6_deleteClause_51 rfl
  | succ k ih =>
    intro i hc hi
    have ha1 := hNs (e' := aI 16 (delf cs c i)) hne ha
    have hc1 := hS (aI 16 (delf cs c i)) hca
    refine Rx_iload_n dX6_deleteClause_11 rfl ?_
    refine Rx_iconst (1) dX6_deleteClause_12 (by decide) ?_
    refine Rx_iadd dX6_deleteClause_13 ?_
    refine Rx_aload_n dX6_deleteClause_14 rfl ?_
    refine Rx_get dX6_deleteClause_15 flX6_15 ha1 rfl ?_
    refine Rx_icmp_ge_f 41 dX6_deleteClause_18 (by decide) (by rw [nI_1]; exact nI_ge (by omega) (by omega)) ?_
    refine Rx_aload_n dX6_deleteClause_21 rfl ?_
    refine Rx_get dX6_deleteClause_22 flX6_9 ha1 rfl ?_
    refine Rx_iload_n dX6_deleteClause_25 rfl ?_
    refine Rx_aload_n dX6_deleteClause_26 rfl ?_
    refine Rx_get dX6_deleteClause_27 flX6_9 ha1 rfl ?_
    refine Rx_iload_n dX6_deleteClause_30 rfl ?_
    refine Rx_iconst (1) dX6_deleteClause_31 (by decide) ?_
    refine Rx_iadd dX6_deleteClause_32 ?_
    refine Rx_iald (i + 1) dX6_deleteClause_33 hc1 (by omega) (by decide) (nI_1 i) ?_
    refine Rx_iast i dX6_deleteClause_34 hc1 (by omega) (by decide) rfl ?_
    rw [List.set_set, delf_s cs c i hc]
    refine Rx_iinc [_, _, _] (1) dX6_deleteClause_35 rfl (by decide) rfl rfl rfl ?_
    refine Rx_goto 11 dX6_deleteClause_38 (by decide) ?_
    rw [nI_1]
    exact ih (i + 1) (by omega) (by omega)
theorem sp_deleteClause (d : Nat) {h : Hp} {a ca wa n c : Nat} {as : Int32} {cs : Nat → Int32} (ha : h[a]? = some (obS ca (nI n) as wa)) (hca : h[ca]? = some (aI 16 cs)) (hne : ca ≠ a) (hn : n ≤ 16) (hc : c < n) : Mx mX6_deleteClause (d + 1) [.ref a, .int (nI c)] h none ((h.set ca (aI 16 (delf cs c (n - 1)))).set a (obS ca (nI (n - 1)) as wa)) := by
  refine Mx_of [_, _, _] (by decide +kernel) rfl rfl ?_
  refine Rx_aload_n dX6_deleteClause_0 rfl ?_
  refine Rx_iload_n dX6_deleteClause_1 rfl ?_
  refine Rx_callV [_] dX6_deleteClause_2 clX6_31 rfl ha (sp_hasCl_t d ha (nI_pos' (by omega)) (nI_lt hc (by omega))) rfl rfl rfl ?_
  refine Rx_if_ne_t 9 dX6_deleteClause_5 (by decide) (by decide) ?_
  refine Rx_iload_n dX6_deleteClause_9 rfl ?_
  refine Rx_istore_n [_, _, _] dX6_deleteClause_10 rfl rfl rfl ?_
  have := delete_loop (d + 1) h (c := c) ha hca hne hn (n - 1 - c) c (Nat.le_refl _) (by omega)
  rw [show delf cs c c = cs from by funext j; simp only [delf]; rw [if_neg (by omega)], hset_id hca] at this
  exact this
end
section
/-! CnfCompiler.History: its cells are 4 (itself), 5 (its row) and five States at 6, 9, 12, 15, 18 -/
abbrev SC : Type := Int32 × Int32 × (Nat → Int32) × (Nat → Int32)
/-- a State at a holds count, assumed, clauses and weights -/
def SV (h : Hp) (a : Nat) (S : SC) : Prop := h[a]? = some (obS (a + 1) S.1 S.2.1 (a + 2)) ∧ (∃ f, h[a + 1]? = some (aI 16 f) ∧ ∀ j, j < 16 → f j = S.2.2.1 j) ∧ (∃ g, h[a + 2]? = some (aI 22 g) ∧ ∀ j, j < 22 → g j = S.2.2.2 j)
theorem SV.fr {T : List Nat} {h h' : Hp} {a : Nat} {S : SC} (x : SV h a S) (F : Fr T h h') (h1 : a ∉ T) (h2 : a + 1 ∉ T) (h3 : a + 2 ∉ T) : SV h' a S := by
  obtain ⟨x1, ⟨f, x2, x3⟩, g, x4, x5⟩ := x
  exact ⟨F.at h1 x1, ⟨f, F.at h2 x2, x3⟩, g, F.at h3 x4, x5⟩
theorem SV.keep {h h' : Hp} {a : Nat} {S : SC} (x : SV h a S) (h1 : h'[a]? = h[a]?) (h2 : h'[a + 1]? = h[a + 1]?) (h3 : h'[a + 2]? = h[a + 2]?) : SV h' a S := by
  obtain ⟨x1, ⟨f, x2, x3⟩, g, x4, x5⟩ := x
  exact ⟨h1.trans x1, ⟨f, h2.trans x2, x3⟩, g, h3.trans x4, x5⟩
theorem sp_copyFrom' (d : Nat) {h : Hp} {a b : Nat} {S S' : SC} (ha : SV h a S) (hb : SV h b S') (hab : a + 3 ≤ b ∨ b + 3 ≤ a) :
    Mq mX6_copyFrom (d + 1) [.ref a, .ref b] h (fun r h' => r = none ∧ Fr [a, a + 1, a + 2] h h' ∧ SV h' a S') := by
  obtain ⟨a1, ⟨f, a2, a3⟩, g, a4, a5⟩ := ha
  obtain ⟨b1, ⟨f', b2, b3⟩, g', b4, b5⟩ := hb
  refine (sp_copyFrom d a1 a2 a4 b1 b2 b4 (by omega) (by omega) (by omega) (by omega) (by omega) (by omega) (by omega)).mono ?_
  rintro r h' ⟨e1, e2, e3, e4, e5⟩
  refine ⟨e1, e2, e3, ⟨_, e4, fun j hj => ?_⟩, _, e5, fun j hj => ?_⟩
  · rw [pk_cpy_in (by omega) (by omega)]
    simpa using b3 j hj
  · rw [pk_cpy_in (by omega) (by omega)]
    simpa using b5 j hj
/-- which States may be saved ones -/
def sOK (a : Nat) : Prop := a = 6 ∨ a = 9 ∨ a = 12 ∨ a = 15 ∨ a = 18
abbrev hCells : List Nat := [4, 5, 6, 7, 8, 9, 10, 11, 12, 13, 14, 15, 16, 17, 18, 19, 20]
def HI (h : Hp) (q : Nat → Nat) (k : Nat) (sv : Nat → SC) : Prop :=
  h[4]? = some (.inr (4, [.ref 5, .int (nI k)])) ∧ (∃ f, h[5]? = some (aS 5 f) ∧ ∀ i, i < 5 → f i = some (q i)) ∧ (∀ i, i < 5 → sOK (q i)) ∧ (∀ i j, i < 5 → j < 5 → q i = q j → i = j) ∧ ∀ i, i < 5 → SV h (q i) (sv i)
def rotf {α : Type} (f : Nat → α) (i : Nat) : Nat → α := fun j => if j < i then f (j + 1) else f j
theorem rotf_s (f : Nat → Option Nat) (i : Nat) {v : Nat} (hv : f (i + 1) = some v) : va_up (rotf f i) i (some v) = rotf f (i + 1) := by
  funext j
  simp only [va_up, rotf]
  by_cases h1 : j = i
  · subst h1; rw [if_pos rfl, if_pos (by omega), hv]
  · by_cases h2 : j < i
    · rw [if_neg h1, if_pos h2, if_pos (by omega)]
    · rw [if_neg h1, if_neg h2, if_neg (by omega)]
/-- the row turned by one -/
def rot5 {α : Type} (f : Nat → α) : Nat → α := fun j => if j < 4 then f (j + 1) else f 0
theorem drop_loop (d : Nat) (h : Hp) {k : Nat} {f : Nat → Option Nat} {q : Nat → Nat} (h4 : h[4]? = some (.inr (4, [.ref 5, .int (nI k)]))) (h5 : h[5]? = some (aS 5 f)) (hf : ∀ i, i < 5 → f i = some (q i)) (hq : ∀ i, i < 5 → ∃ vs, h[q i]? = some (.inr (6, vs)) ∧ q i ≠ 5) : ∀ (n i : Nat), i + n = 4 → Rx mX4_dropOldest d 9 [.ref 4, .ref (q 0), .int (nI i)] [] (h.set 5 (aS 5 (rotf f i))) none ((h.set 5 (aS 5 (va_up (rotf f 4) 4 (some (q 0))))).set 4 (.inr (4, [.ref 5, .int 4]))) := by
  intro n
  induction n with
  | zero =>
    intro i hi
    have e : i = 4 := by omega
    subst e
    have h41 := hNs (e' := aS 5 (rotf f 4)) (by decide : (5 : Nat) ≠ 4) h4
    have h51 := hS (aS 5 (rotf f 4)) h5
    obtain ⟨vs, v1, v2⟩ := hq 0 (by decide)
    have v3 := hNs (e' := aS 5 (rotf f 4)) (Ne.symm v2) v1
    refine Rx_iload_n dX4_dropOldest_9 rfl ?_
    refine Rx_iconst (1) dX4_dropOldest_10 (by decide) ?_
    refine Rx_iadd dX4_dropOldest_11 ?_
    refine Rx_iconst (5) dX4_dropOldest_12 (by decide) ?_
    refine Rx_icmp_ge_t 36 dX4_dropOldest_13 (by decide) (by rw [nI_1]; exact nI_le (by decide) (by decide)) ?_
    refine Rx_aload_n dX4_dropOldest_36 rfl ?_
    refine Rx_get dX4_dropOldest_37 flX4_11 h41 rfl ?_
    refine Rx_iconst (4) dX4_dropOldest_40 (by decide) ?_
    refine Rx_aload_n dX4_dropOldest_41 rfl ?_
    refine Rx_aast 4 dX4_dropOldest_42 h51 (by decide) (by decide) rfl v3 ?_
    rw [List.set_set]
    have h42 := hNs (e' := aS 5 (va_up (rotf f 4) 4 (some (q 0)))) (by decide : (5 : Nat) ≠ 4) h4
    refine Rx_aload_n dX4_dropOldest_43 rfl ?_
    refine Rx_iconst (4) dX4_dropOldest_44 (by decide) ?_
    refine Rx_put [_, _] dX4_dropOldest_45 fpX4_18 h42 rfl (okv_i _) rfl ?_
    exact Rx_vret dX4_dropOldest_48 rfl
  | succ n ih =>
    intro i hi
    have h41 := hNs (e' := aS 5 (rotf f i)) (by decide : (5 : Nat) ≠ 4) h4
    have h51 := hS (aS 5 (rotf f i)) h5
    obtain ⟨vs, v1, v2⟩ := hq (i + 1) (by omega)
    have v3 := hNs (e' := aS 5 (rotf f i)) (Ne.symm v2) v1
    have e1 : rotf f i (i + 1) = some (q (i + 1)) := by simp only [rotf]; rw [if_neg (by omega)]; exact hf _ (by omega)
    refine Rx_iload_n dX4_dropOldest_9 rfl ?_
    refine Rx_iconst (1) dX4_dropOldest_10 (by decide) ?_
    refine Rx_iadd dX4_dropOldest_11 ?_
    refine Rx_iconst (5) dX4_dropOldest_12 (by decide) ?_
    refine Rx_icmp_ge_f 36 dX4_dropOldest_13 (by decide) (by rw [nI_1]; exact nI_ge (b := 5) (by omega) (by decide)) ?_
    refine Rx_aload_n dX4_dropOldest_16 rfl ?_
    refine Rx_get dX4_dropOldest_17 flX4_11 h41 rfl ?_
    refine Rx_iload_n dX4_dropOldest_20 rfl ?_
    refine Rx_aload_n dX4_dropOldest_21 rfl ?_
    refine Rx_get dX4_dropOldest_22 flX4_11 h41 rfl ?_
    refine Rx_iload_n dX4_dropOldest_25 rfl ?_
    refine Rx_iconst (1) dX4_dropOldest_26 (by decide) ?_
    refine Rx_iadd dX4_dropOldest_27 ?_
    refine Rx_aald (i + 1) dX4_dropOldest_28 h51 (by omega) (by decide) (nI_1 i) e1 ?_
    refine Rx_aast i dX4_dropOldest_29 h51 (by omega) (by decide) rfl v3 ?_
    rw [List.set_set, rotf_s f i (hf _ (by omega))]
    refine Rx_iinc [_, _, _] (1) dX4_dropOldest_30 rfl (by decide) rfl rfl rfl ?_
    refine Rx_goto 9 dX4_dropOldest_33 (by decide) ?_
    rw [nI_1]
    exact ih (i + 1) (by omega)
theorem sp_drop (d : Nat) {h : Hp} {k : Nat} {f : Nat → Option Nat} {q : Nat → Nat} (h4 : h[4]? = some (.inr (4, [.ref 5, .int (nI k)]))) (h5 : h[5]? = some (aS 5 f)) (hf : ∀ i, i < 5 → f i = some (q i)) (hq : ∀ i, i < 5 → ∃ vs, h[q i]? = some (.inr (6, vs)) ∧ q i ≠ 5) :
    Mx mX4_dropOldest d [.ref 4] h none ((h.set 5 (aS 5 (va_up (rotf f 4) 4 (some (q 0))))).set 4 (.inr (4, [.ref 5, .int 4]))) := by
  refine Mx_of [_, _, _] (by decide +kernel) rfl rfl ?_
  refine Rx_aload_n dX4_dropOldest_0 rfl ?_
  refine Rx_get dX4_dropOldest_1 flX4_11 h4 rfl ?_
  refine Rx_iconst (0) dX4_dropOldest_4 (by decide) ?_
  refine Rx_aald 0 dX4_dropOldest_5 h5 (by decide) (by decide) rfl (hf 0 (by decide)) ?_
  refine Rx_astore_n [_, _, _] dX4_dropOldest_6 rfl rfl rfl ?_
  refine Rx_iconst (0) dX4_dropOldest_7 (by decide) ?_
  refine Rx_istore_n [_, _, _] dX4_dropOldest_8 rfl rfl rfl ?_
  have := drop_loop d h h4 h5 hf hq 4 0 (by decide)
  rw [show rotf f 0 = f from by funext j; simp [rotf], hset_id h5] at this
  exact this
theorem sOK.lo {a : Nat} (h : sOK a) : 6 ≤ a ∧ a ≤ 18 := by rcases h with h | h | h | h | h <;> omega
theorem sOK.apart {a b : Nat} (h : sOK a) (h' : sOK b) (hne : a ≠ b) : a + 3 ≤ b ∨ b + 3 ≤ a := by
  rcases h with h | h | h | h | h <;> rcases h' with h' | h' | h' | h' | h' <;> omega
theorem HI_drop {h : Hp} {q : Nat → Nat} {k : Nat} {sv : Nat → SC} (x : HI h q k sv) (d : Nat) : Mq mX4_dropOldest d [.ref 4] h (fun r h' => r = none ∧ Fr hCells h h' ∧ HI h' (rot5 q) 4 (rot5 sv)) := by
  obtain ⟨h4, ⟨f, h5, hf⟩, ho, hi, hs⟩ := x
  have hq : ∀ i, i < 5 → ∃ vs, h[q i]? = some (.inr (6, vs)) ∧ q i ≠ 5 := fun i hh => ⟨_, (hs i hh).1, by have := (ho i hh).lo; omega⟩
  refine Mx.q (sp_drop d h4 h5 hf hq) ⟨rfl, Fr.trans (Fr.set (by decide)) (Fr.set (by decide)), hS _ (hNs (by decide) h4), ⟨_, hNs (by decide) (hS _ h5), fun i hh => ?_⟩, fun i hh => ?_, fun i j h1 h2 e => ?_, fun i hh => ?_⟩
  · by_cases c : i = 4
    · subst c; simp [va_up, rot5]
    · simp only [va_up, rot5, rotf]
      rw [if_neg c, if_pos (by omega), if_pos (by omega)]
      exact hf _ (by omega)
  · simp only [rot5]
    split
    · exact ho _ (by omega)
    · exact ho _ (by decide)
  · simp only [rot5] at e
    split at e <;> split at e
    · have := hi _ _ (by omega) (by omega) e; omega
    · have := hi _ _ (by omega) (by omega) e; omega
    · have := hi _ _ (by omega) (by omega) e; omega
    · omega
  · have key : ∀ j, j < 5 → SV ((h.set 5 (aS 5 (va_up (rotf f 4) 4 (some (q 0))))).set 4 (.inr (4, [.ref 5, .int 4]))) (q j) (sv j) := by
      intro j hj
      have l := (ho j hj).lo
      exact (hs j hj).keep (by rw [hN (by omega), hN (by omega)]) (by rw [hN (by omega), hN (by omega)]) (by rw [hN (by omega), hN (by omega)])
    simp only [rot5]
    split
    · exact key _ (by omega)
    · exact key _ (by decide)
/-- a state is written behind the last saved one -/
theorem HI_put {h : Hp} {q : Nat → Nat} {k : Nat} {sv : Nat → SC} {S : SC} {f : Nat → Option Nat} (h4 : h[4]? = some (.inr (4, [.ref 5, .int (nI k)]))) (h5 : h[5]? = some (aS 5 f)) (hf : ∀ i, i < 5 → f i = some (q i)) (ho : ∀ i, i < 5 → sOK (q i)) (hi : ∀ i j, i < 5 → j < 5 → q i = q j → i = j) (hs : ∀ i, i < 5 → SV h (q i) (sv i)) (hk : k < 5) {h1 : Hp} (F : Fr [q k, q k + 1, q k + 2] h h1) (hn : SV h1 (q k) S) :
    HI (h1.set 4 (.inr (4, [.ref 5, .int (nI (k + 1))]))) q (k + 1) (va_up sv k S) ∧ Fr hCells h (h1.set 4 (.inr (4, [.ref 5, .int (nI (k + 1))]))) := by
  have lk := (ho k hk).lo
  have n4 : (4 : Nat) ∉ [q k, q k + 1, q k + 2] := by simp; omega
  have n5 : (5 : Nat) ∉ [q k, q k + 1, q k + 2] := by simp; omega
  refine ⟨⟨hS _ (F.at n4 h4), ⟨f, hNs (by decide) (F.at n5 h5), hf⟩, ho, hi, fun i hh => ?_⟩, Fr.trans (F.mono (fun z hz => ?_)) (Fr.set (by decide))⟩
  · have li := (ho i hh).lo
    simp only [va_up]
    by_cases c : i = k
    · subst c
      rw [if_pos rfl]
      exact hn.keep (hN (by omega)) (hN (by omega)) (hN (by omega))
    · rw [if_neg c]
      have ap := (ho i hh).apart (ho k hk) (fun z => c (hi i k hh hk z))
      have x := (hs i hh).fr F (by simp; omega) (by simp; omega) (by simp; omega)
      exact x.keep (hN (by omega)) (hN (by omega)) (hN (by omega))
  · have : z = q k ∨ z = q k + 1 ∨ z = q k + 2 := by simpa using hz
    rcases ho k hk with e | e | e | e | e <;> rcases this with t | t | t <;> (rw [t, e]; decide)
/-- what the saved states are behind a save -/
def svSave (k : Nat) (sv : Nat → SC) (S : SC) : Nat → SC := if k < 5 then va_up sv k S else va_up (rot5 sv) 4 S
theorem sp_save (d : Nat) {h : Hp} {q : Nat → Nat} {k : Nat} {sv : Nat → SC} {S : SC} (x : HI h q k sv) (hk : k ≤ 5) (hS1 : SV h 1 S) : Mq mX4_save (d + 2) [.ref 4, .ref 1] h (fun r h' => r = none ∧ Fr hCells h h' ∧ ∃ q', HI h' q' (min k 4 + 1) (svSave k sv S)) := by
  by_cases c : k < 5
  · obtain ⟨h4, ⟨f, h5, hf⟩, ho, hi, hs⟩ := x
    have lk := (ho k c).lo
    refine Mq_of [_, _, _] (by decide +kernel) rfl rfl ?_
    refine Rq_aload_n dX4_save_0 rfl ?_
    refine Rq_get dX4_save_1 flX4_18 h4 rfl ?_
    refine Rq_iconst (5) dX4_save_4 (by decide) ?_
    refine Rq_icmp_lt_t 12 dX4_save_5 (by decide) (nI_lt c (by decide)) ?_
    refine Rq_aload_n dX4_save_12 rfl ?_
    refine Rq_get dX4_save_13 flX4_11 h4 rfl ?_
    refine Rq_aload_n dX4_save_16 rfl ?_
    refine Rq_get dX4_save_17 flX4_18 h4 rfl ?_
    refine Rq_aald k dX4_save_20 h5 c (by decide) rfl (hf k c) ?_
    refine Rq_astore_n [_, _, _] dX4_save_21 rfl rfl rfl ?_
    refine Rq_aload_n dX4_save_22 rfl ?_
    refine Rq_ifnull dX4_save_23 ?_
    refine Rq_aload_n dX4_save_26 rfl ?_
    refine Rq_aload_n dX4_save_27 rfl ?_
    refine Rq_callVq [_] dX4_save_28 clX4_25 rfl ((hs k c).1) (sp_copyFrom' d (hs k c) hS1 (by omega)) rfl rfl rfl (fun rv h1 hq => ?_)
    obtain ⟨rfl, F, hn⟩ := hq
    have h41 : h1[4]? = some (.inr (4, [.ref 5, .int (nI k)])) := F.at (by simp; omega) h4
    refine Rq_aload_n dX4_save_31 rfl ?_
    refine Rq_dup dX4_save_32 rfl ?_
    refine Rq_get dX4_save_33 flX4_18 h41 rfl ?_
    refine Rq_iconst (1) dX4_save_36 (by decide) ?_
    refine Rq_iadd dX4_save_37 ?_
    refine Rq_put [_, _] dX4_save_38 fpX4_18 h41 rfl (okv_i _) rfl ?_
    rw [nI_1]
    refine Rq_vret dX4_save_41 rfl ?_
    obtain ⟨g1, g2⟩ := HI_put h4 h5 hf ho hi hs c F hn
    exact ⟨rfl, g2, q, by rw [show min k 4 = k by omega]; simp only [svSave, if_pos c]; exact g1⟩
  · have e : k = 5 := by omega
    subst e
    have h40 := x.1
    refine Mq_of [_, _, _] (by decide +kernel) rfl rfl ?_
    refine Rq_aload_n dX4_save_0 rfl ?_
    refine Rq_get dX4_save_1 flX4_18 h40 rfl ?_
    refine Rq_iconst (5) dX4_save_4 (by decide) ?_
    refine Rq_icmp_lt_f 12 dX4_save_5 (by decide) (nI_nlt (by decide) (by decide)) ?_
    refine Rq_aload_n dX4_save_8 rfl ?_
    refine Rq_callVq [] dX4_save_9 clX4_22 rfl h40 (HI_drop x (d + 1)) rfl rfl rfl (fun rv h1 hq => ?_)
    obtain ⟨rfl, F0, h4, ⟨f, h5, hf⟩, ho, hi, hs⟩ := hq
    have lk := (ho 4 (by decide)).lo
    have hS2 : SV h1 1 S := hS1.fr F0 (by decide) (by decide) (by decide)
    refine Rq_aload_n dX4_save_12 rfl ?_
    refine Rq_get dX4_save_13 flX4_11 h4 rfl ?_
    refine Rq_aload_n dX4_save_16 rfl ?_
    refine Rq_get dX4_save_17 flX4_18 h4 rfl ?_
    refine Rq_aald 4 dX4_save_20 h5 (by decide) (by decide) rfl (hf 4 (by decide)) ?_
    refine Rq_astore_n [_, _, _] dX4_save_21 rfl rfl rfl ?_
    refine Rq_aload_n dX4_save_22 rfl ?_
    refine Rq_ifnull dX4_save_23 ?_
    refine Rq_aload_n dX4_save_26 rfl ?_
    refine Rq_aload_n dX4_save_27 rfl ?_
    refine Rq_callVq [_] dX4_save_28 clX4_25 rfl ((hs 4 (by decide)).1) (sp_copyFrom' d (hs 4 (by decide)) hS2 (by omega)) rfl rfl rfl (fun rv h2 hq => ?_)
    obtain ⟨rfl, F, hn⟩ := hq
    have h41 : h2[4]? = some (.inr (4, [.ref 5, .int (nI 4)])) := F.at (by simp; omega) h4
    refine Rq_aload_n dX4_save_31 rfl ?_
    refine Rq_dup dX4_save_32 rfl ?_
    refine Rq_get dX4_save_33 flX4_18 h41 rfl ?_
    refine Rq_iconst (1) dX4_save_36 (by decide) ?_
    refine Rq_iadd dX4_save_37 ?_
    refine Rq_put [_, _] dX4_save_38 fpX4_18 h41 rfl (okv_i _) rfl ?_
    rw [nI_1]
    refine Rq_vret dX4_save_41 rfl ?_
    obtain ⟨g1, g2⟩ := HI_put h4 h5 hf ho hi hs (by decide) F hn
    exact ⟨rfl, F0.trans g2, rot5 q, by simp only [svSave]; exact g1⟩
theorem sp_restore (d : Nat) {h : Hp} {q : Nat → Nat} {k : Nat} {sv : Nat → SC} {S : SC} (x : HI h q (k + 1) sv) (hk : k < 5) (hS1 : SV h 1 S) : Mq mX4_restoreInto (d + 2) [.ref 4, .ref 1] h (fun r h' => r = none ∧ Fr [1, 2, 3, 4] h h' ∧ HI h' q k sv ∧ SV h' 1 (sv k)) := by
  obtain ⟨h4, ⟨f, h5, hf⟩, ho, hi, hs⟩ := x
  have lk := (ho k hk).lo
  refine Mq_of [_, _, _] (by decide +kernel) rfl rfl ?_
  refine Rq_aload_n dX4_restoreInto_0 rfl ?_
  refine Rq_get dX4_restoreInto_1 flX4_18 h4 rfl ?_
  refine Rq_if_gt_t 8 dX4_restoreInto_4 (by decide) (nI_lt (a := 0) (by omega) (by omega)) ?_
  refine Rq_aload_n dX4_restoreInto_8 rfl ?_
  refine Rq_dup dX4_restoreInto_9 rfl ?_
  refine Rq_get dX4_restoreInto_10 flX4_18 h4 rfl ?_
  refine Rq_iconst (1) dX4_restoreInto_13 (by decide) ?_
  refine Rq_isub dX4_restoreInto_14 ?_
  refine Rq_put [_, _] dX4_restoreInto_15 fpX4_18 h4 rfl (okv_i _) rfl ?_
  rw [nI_pred]
  have h41 := hS (.inr (4, [.ref 5, .int (nI k)])) h4
  have h51 := hNs (e' := .inr (4, [.ref 5, .int (nI k)])) (by decide : (4 : Nat) ≠ 5) h5
  have hs1 : ∀ i, i < 5 → SV (h.set 4 (.inr (4, [.ref 5, .int (nI k)]))) (q i) (sv i) := fun i hh => by
    have := (ho i hh).lo
    exact (hs i hh).keep (hN (by omega)) (hN (by omega)) (hN (by omega))
  have hS2 : SV (h.set 4 (.inr (4, [.ref 5, .int (nI k)]))) 1 S := hS1.keep (hN (by decide)) (hN (by decide)) (hN (by decide))
  refine Rq_aload_n dX4_restoreInto_18 rfl ?_
  refine Rq_get dX4_restoreInto_19 flX4_11 h41 rfl ?_
  refine Rq_aload_n dX4_restoreInto_22 rfl ?_
  refine Rq_get dX4_restoreInto_23 flX4_18 h41 rfl ?_
  refine Rq_aald k dX4_restoreInto_26 h51 hk (by decide) rfl (hf k hk) ?_
  refine Rq_astore_n [_, _, _] dX4_restoreInto_27 rfl rfl rfl ?_
  refine Rq_aload_n dX4_restoreInto_28 rfl ?_
  refine Rq_ifnull dX4_restoreInto_29 ?_
  refine Rq_aload_n dX4_restoreInto_32 rfl ?_
  refine Rq_aload_n dX4_restoreInto_33 rfl ?_
  refine Rq_callVq [_] dX4_restoreInto_34 clX4_25 rfl hS2.1 (sp_copyFrom' d hS2 (hs1 k hk) (by omega)) rfl rfl rfl (fun rv h1 hq => ?_)
  obtain ⟨rfl, F, hn⟩ := hq
  refine Rq_vret dX4_restoreInto_37 rfl ?_
  refine ⟨rfl, Fr.trans (Fr.set (by decide)) (F.mono (by decide)), ⟨F.at (by decide) h41, ⟨f, F.at (by decide) h51, hf⟩, ho, hi, fun i hh => ?_⟩, hn⟩
  have := (ho i hh).lo
  exact (hs1 i hh).fr F (by simp; omega) (by simp; omega) (by simp; omega)
end
section
/-! the JDK's bitCount, as it is written -/
abbrev ush (x : Int32) (k : Int32) : Int32 := (x.toUInt32 >>> (k.toUInt32 &&& Int32.toUInt32 31)).toInt32
abbrev ushL (x : Int64) (k : Int32) : Int64 := (x.toUInt64 >>> (k.toInt64.toUInt64 &&& Int64.toUInt64 63)).toInt64
def bc1 (x : Int32) : Int32 := x - (ush x 1 &&& 1431655765)
def bc2 (x : Int32) : Int32 := (x &&& 858993459) + (ush x 2 &&& 858993459)
def bc3 (x : Int32) : Int32 := (x + ush x 4) &&& 252645135
def bc4 (x : Int32) : Int32 := x + ush x 8
def bc5 (x : Int32) : Int32 := x + ush x 16
def bcI (x : Int32) : Int32 := bc5 (bc4 (bc3 (bc2 (bc1 x)))) &&& 63
theorem sp_bitCount (d : Nat) (h : Hp) (x : Int32) : Mx mJ6_bitCount_0f7a4 d [.int x] h (some (.int (bcI x))) h := by
  refine Mx_of [_] (by decide +kernel) rfl rfl ?_
  refine Rx_iload_n dJ6_bitCount_0f7a4_0 rfl ?_
  refine Rx_iload_n dJ6_bitCount_0f7a4_1 rfl ?_
  refine Rx_iconst (1) dJ6_bitCount_0f7a4_2 (by decide) ?_
  refine Rx_iushr dJ6_bitCount_0f7a4_3 ?_
  refine Rx_ldcw dJ6_bitCount_0f7a4_4 kcJ6_265 ?_
  refine Rx_iand dJ6_bitCount_0f7a4_7 ?_
  refine Rx_isub dJ6_bitCount_0f7a4_8 ?_
  refine Rx_istore_n [_] dJ6_bitCount_0f7a4_9 rfl rfl rfl ?_
  show Rx _ _ _ [.int (bc1 x)] [] _ _ _
  refine Rx_iload_n dJ6_bitCount_0f7a4_10 rfl ?_
  refine Rx_ldcw dJ6_bitCount_0f7a4_11 kcJ6_266 ?_
  refine Rx_iand dJ6_bitCount_0f7a4_14 ?_
  refine Rx_iload_n dJ6_bitCount_0f7a4_15 rfl ?_
  refine Rx_iconst (2) dJ6_bitCount_0f7a4_16 (by decide) ?_
  refine Rx_iushr dJ6_bitCount_0f7a4_17 ?_
  refine Rx_ldcw dJ6_bitCount_0f7a4_18 kcJ6_266 ?_
  refine Rx_iand dJ6_bitCount_0f7a4_21 ?_
  refine Rx_iadd dJ6_bitCount_0f7a4_22 ?_
  refine Rx_istore_n [_] dJ6_bitCount_0f7a4_23 rfl rfl rfl ?_
  show Rx _ _ _ [.int (bc2 (bc1 x))] [] _ _ _
  refine Rx_iload_n dJ6_bitCount_0f7a4_24 rfl ?_
  refine Rx_iload_n dJ6_bitCount_0f7a4_25 rfl ?_
  refine Rx_iconst (4) dJ6_bitCount_0f7a4_26 (by decide) ?_
  refine Rx_iushr dJ6_bitCount_0f7a4_27 ?_
  refine Rx_iadd dJ6_bitCount_0f7a4_28 ?_
  refine Rx_ldcw dJ6_bitCount_0f7a4_29 kcJ6_267 ?_
  refine Rx_iand dJ6_bitCount_0f7a4_32 ?_
  refine Rx_istore_n [_] dJ6_bitCount_0f7a4_33 rfl rfl rfl ?_
  show Rx _ _ _ [.int (bc3 (bc2 (bc1 x)))] [] _ _ _
  refine Rx_iload_n dJ6_bitCount_0f7a4_34 rfl ?_
  refine Rx_iload_n dJ6_bitCount_0f7a4_35 rfl ?_
  refine Rx_bipush (8) dJ6_bitCount_0f7a4_36 (by decide) ?_
  refine Rx_iushr dJ6_bitCount_0f7a4_38 ?_
  refine Rx_iadd dJ6_bitCount_0f7a4_39 ?_
  refine Rx_istore_n [_] dJ6_bitCount_0f7a4_40 rfl rfl rfl ?_
  show Rx _ _ _ [.int (bc4 (bc3 (bc2 (bc1 x))))] [] _ _ _
  refine Rx_iload_n dJ6_bitCount_0f7a4_41 rfl ?_
  refine Rx_iload_n dJ6_bitCount_0f7a4_42 rfl ?_
  refine Rx_bipush (16) dJ6_bitCount_0f7a4_43 (by decide) ?_
  refine Rx_iushr dJ6_bitCount_0f7a4_45 ?_
  refine Rx_iadd dJ6_bitCount_0f7a4_46 ?_
  refine Rx_istore_n [_] dJ6_bitCount_0f7a4_47 rfl rfl rfl ?_
  show Rx _ _ _ [.int (bc5 (bc4 (bc3 (bc2 (bc1 x)))))] [] _ _ _
  refine Rx_iload_n dJ6_bitCount_0f7a4_48 rfl ?_
  refine Rx_bipush (63) dJ6_bitCount_0f7a4_49 (by decide) ?_
  refine Rx_iand dJ6_bitCount_0f7a4_51 ?_
  exact Rx_iret dJ6_bitCount_0f7a4_52 rfl
def lc1 (x : Int64) : Int64 := x - (ushL x 1 &&& 6148914691236517205)
def lc2 (x : Int64) : Int64 := (x &&& 3689348814741910323) + (ushL x 2 &&& 3689348814741910323)
def lc3 (x : Int64) : Int64 := (x + ushL x 4) &&& 1085102592571150095
def lc4 (x : Int64) : Int64 := x + ushL x 8
def lc5 (x : Int64) : Int64 := x + ushL x 16
def lc6 (x : Int64) : Int64 := x + ushL x 32
def bcL (x : Int64) : Int32 := (lc6 (lc5 (lc4 (lc3 (lc2 (lc1 x)))))).toInt32 &&& 127
theorem sp_bitCountL (d : Nat) (h : Hp) (x : Int64) : Mx mJ13_bitCount_95d88 d [.long x] h (some (.int (bcL x))) h := by
  refine Mx_of [_, _] (by decide +kernel) rfl rfl ?_
  refine Rx_lload_n dJ13_bitCount_95d88_0 rfl ?_
  refine Rx_lload_n dJ13_bitCount_95d88_1 rfl ?_
  refine Rx_iconst (1) dJ13_bitCount_95d88_2 (by decide) ?_
  refine Rx_lushr dJ13_bitCount_95d88_3 ?_
  refine Rx_ldc2 dJ13_bitCount_95d88_4 kcJ13_314 ?_
  refine Rx_land dJ13_bitCount_95d88_7 ?_
  refine Rx_lsub dJ13_bitCount_95d88_8 ?_
  refine Rx_lstore_n [_, _] dJ13_bitCount_95d88_9 rfl rfl rfl ?_
  show Rx _ _ _ [.long (lc1 x), .retAddr 0] [] _ _ _
  refine Rx_lload_n dJ13_bitCount_95d88_10 rfl ?_
  refine Rx_ldc2 dJ13_bitCount_95d88_11 kcJ13_316 ?_
  refine Rx_land dJ13_bitCount_95d88_14 ?_
  refine Rx_lload_n dJ13_bitCount_95d88_15 rfl ?_
  refine Rx_iconst (2) dJ13_bitCount_95d88_16 (by decide) ?_
  refine Rx_lushr dJ13_bitCount_95d88_17 ?_
  refine Rx_ldc2 dJ13_bitCount_95d88_18 kcJ13_316 ?_
  refine Rx_land dJ13_bitCount_95d88_21 ?_
  refine Rx_ladd dJ13_bitCount_95d88_22 ?_
  refine Rx_lstore_n [_, _] dJ13_bitCount_95d88_23 rfl rfl rfl ?_
  show Rx _ _ _ [.long (lc2 (lc1 x)), .retAddr 0] [] _ _ _
  refine Rx_lload_n dJ13_bitCount_95d88_24 rfl ?_
  refine Rx_lload_n dJ13_bitCount_95d88_25 rfl ?_
  refine Rx_iconst (4) dJ13_bitCount_95d88_26 (by decide) ?_
  refine Rx_lushr dJ13_bitCount_95d88_27 ?_
  refine Rx_ladd dJ13_bitCount_95d88_28 ?_
  refine Rx_ldc2 dJ13_bitCount_95d88_29 kcJ13_318 ?_
  refine Rx_land dJ13_bitCount_95d88_32 ?_
  refine Rx_lstore_n [_, _] dJ13_bitCount_95d88_33 rfl rfl rfl ?_
  show Rx _ _ _ [.long (lc3 (lc2 (lc1 x))), .retAddr 0] [] _ _ _
  refine Rx_lload_n dJ13_bitCount_95d88_34 rfl ?_
  refine Rx_lload_n dJ13_bitCount_95d88_35 rfl ?_
  refine Rx_bipush (8) dJ13_bitCount_95d88_36 (by decide) ?_
  refine Rx_lushr dJ13_bitCount_95d88_38 ?_
  refine Rx_ladd dJ13_bitCount_95d88_39 ?_
  refine Rx_lstore_n [_, _] dJ13_bitCount_95d88_40 rfl rfl rfl ?_
  show Rx _ _ _ [.long (lc4 (lc3 (lc2 (lc1 x)))), .retAddr 0] [] _ _ _
  refine Rx_lload_n dJ13_bitCount_95d88_41 rfl ?_
  refine Rx_lload_n dJ13_bitCount_95d88_42 rfl ?_
  refine Rx_bipush (16) dJ13_bitCount_95d88_43 (by decide) ?_
  refine Rx_lushr dJ13_bitCount_95d88_45 ?_
  refine Rx_ladd dJ13_bitCount_95d88_46 ?_
  refine Rx_lstore_n [_, _] dJ13_bitCount_95d88_47 rfl rfl rfl ?_
  show Rx _ _ _ [.long (lc5 (lc4 (lc3 (lc2 (lc1 x))))), .retAddr 0] [] _ _ _
  refine Rx_lload_n dJ13_bitCount_95d88_48 rfl ?_
  refine Rx_lload_n dJ13_bitCount_95d88_49 rfl ?_
  refine Rx_bipush (32) dJ13_bitCount_95d88_50 (by decide) ?_
  refine Rx_lushr dJ13_bitCount_95d88_52 ?_
  refine Rx_ladd dJ13_bitCount_95d88_53 ?_
  refine Rx_lstore_n [_, _] dJ13_bitCount_95d88_54 rfl rfl rfl ?_
  show Rx _ _ _ [.long (lc6 (lc5 (lc4 (lc3 (lc2 (lc1 x)))))), .retAddr 0] [] _ _ _
  refine Rx_lload_n dJ13_bitCount_95d88_55 rfl ?_
  refine Rx_l2i dJ13_bitCount_95d88_56 ?_
  refine Rx_bipush (127) dJ13_bitCount_95d88_57 (by decide) ?_
  refine Rx_iand dJ13_bitCount_95d88_59 ?_
  exact Rx_iret dJ13_bitCount_95d88_60 rfl
/-! CnfCompiler.FormulaText: cells 21 and 22 -/
abbrev obT (n : Nat) : va_E := .inr (2, [.ref 22, .int (nI n)])
def TI (h : Hp) (n : Nat) (t : Nat → Int32) : Prop := h[21]? = some (obT n) ∧ h[22]? = some (aI 150 t) ∧ n ≤ 150
theorem sp_addByte (d : Nat) {h : Hp} {n : Nat} {t : Nat → Int32} (x : TI h n t) (hn : n < 150) (v : Int32) : Mx mX2_addByte d [.ref 21, .int v] h none ((h.set 22 (aI 150 (upd t n v))).set 21 (obT (n + 1))) := by
  obtain ⟨h1, h2, -⟩ := x
  refine Mx_of [_, _] (by decide +kernel) rfl rfl ?_
  refine Rx_aload_n dX2_addByte_0 rfl ?_
  refine Rx_get dX2_addByte_1 flX2_15 h1 rfl ?_
  refine Rx_sipush (150) dX2_addByte_4 (by decide) ?_
  refine Rx_icmp_ge_f 30 dX2_addByte_7 (by decide) (nI_ge hn (by decide)) ?_
  refine Rx_aload_n dX2_addByte_10 rfl ?_
  refine Rx_get dX2_addByte_11 flX2_9 h1 rfl ?_
  refine Rx_aload_n dX2_addByte_14 rfl ?_
  refine Rx_get dX2_addByte_15 flX2_15 h1 rfl ?_
  refine Rx_iload_n dX2_addByte_18 rfl ?_
  refine Rx_iast n dX2_addByte_19 h2 hn (by decide) rfl ?_
  have h11 := hNs (e' := aI 150 (upd t n v)) (by decide : (22 : Nat) ≠ 21) h1
  refine Rx_aload_n dX2_addByte_20 rfl ?_
  refine Rx_dup dX2_addByte_21 rfl ?_
  refine Rx_get dX2_addByte_22 flX2_15 h11 rfl ?_
  refine Rx_iconst (1) dX2_addByte_25 (by decide) ?_
  refine Rx_iadd dX2_addByte_26 ?_
  refine Rx_put [_, _] dX2_addByte_27 fpX2_15 h11 rfl (okv_i _) rfl ?_
  rw [nI_1]
  exact Rx_vret dX2_addByte_30 rfl
theorem sp_byteAt (d : Nat) {h : Hp} {n p : Nat} {t : Nat → Int32} (x : TI h n t) (hp : p < n) : Mx mX2_byteAt d [.ref 21, .int (nI p)] h (some (.int (t p))) h := by
  obtain ⟨h1, h2, h3⟩ := x
  refine Mx_of [_, _] (by decide +kernel) rfl rfl ?_
  refine Rx_iload_n dX2_byteAt_0 rfl ?_
  refine Rx_if_lt_f 21 dX2_byteAt_1 (by decide) (nI_pos (by omega)) ?_
  refine Rx_iload_n dX2_byteAt_4 rfl ?_
  refine Rx_aload_n dX2_byteAt_5 rfl ?_
  refine Rx_get dX2_byteAt_6 flX2_15 h1 rfl ?_
  refine Rx_icmp_ge_f 21 dX2_byteAt_9 (by decide) (nI_ge hp (by omega)) ?_
  refine Rx_aload_n dX2_byteAt_12 rfl ?_
  refine Rx_get dX2_byteAt_13 flX2_9 h1 rfl ?_
  refine Rx_iload_n dX2_byteAt_16 rfl ?_
  refine Rx_iald p dX2_byteAt_17 h2 (by omega) (by decide) rfl ?_
  refine Rx_goto 22 dX2_byteAt_18 (by decide) ?_
  exact Rx_iret dX2_byteAt_22 rfl
theorem sp_byteAt_e (d : Nat) {h : Hp} {n p : Nat} {t : Nat → Int32} (x : TI h n t) (hp : n ≤ p) (hp2 : p < 1000) : Mx mX2_byteAt d [.ref 21, .int (nI p)] h (some (.int (-1))) h := by
  obtain ⟨h1, h2, h3⟩ := x
  refine Mx_of [_, _] (by decide +kernel) rfl rfl ?_
  refine Rx_iload_n dX2_byteAt_0 rfl ?_
  refine Rx_if_lt_f 21 dX2_byteAt_1 (by decide) (nI_pos (by omega)) ?_
  refine Rx_iload_n dX2_byteAt_4 rfl ?_
  refine Rx_aload_n dX2_byteAt_5 rfl ?_
  refine Rx_get dX2_byteAt_6 flX2_15 h1 rfl ?_
  refine Rx_icmp_ge_t 21 dX2_byteAt_9 (by decide) (nI_le hp (by omega)) ?_
  refine Rx_iconst (-1) dX2_byteAt_21 (by decide) ?_
  exact Rx_iret dX2_byteAt_22 rfl
/-- there is a digit at p -/
def dig (n : Nat) (t : Nat → Int32) (p : Nat) : Prop := p < n ∧ 48 ≤ t p ∧ t p ≤ 57
theorem sp_hasDig_t (d : Nat) {h : Hp} {n p : Nat} {t : Nat → Int32} (x : TI h n t) (hp : dig n t p) : Mx mX2_hasDigitAt (d + 1) [.ref 21, .int (nI p)] h (some (.int 1)) h := by
  refine Mx_of [_, _, _] (by decide +kernel) rfl rfl ?_
  refine Rx_aload_n dX2_hasDigitAt_0 rfl ?_
  refine Rx_iload_n dX2_hasDigitAt_1 rfl ?_
  refine Rx_callV [_] dX2_hasDigitAt_2 clX2_19 rfl x.1 (sp_byteAt d x hp.1) rfl rfl rfl ?_
  refine Rx_istore_n [_, _, _] dX2_hasDigitAt_5 rfl rfl rfl ?_
  refine Rx_iload_n dX2_hasDigitAt_6 rfl ?_
  refine Rx_bipush (48) dX2_hasDigitAt_7 (by decide) ?_
  refine Rx_icmp_lt_f 22 dX2_hasDigitAt_9 (by decide) (Int32.not_lt.mpr hp.2.1) ?_
  refine Rx_iload_n dX2_hasDigitAt_12 rfl ?_
  refine Rx_bipush (57) dX2_hasDigitAt_13 (by decide) ?_
  refine Rx_icmp_gt_f 22 dX2_hasDigitAt_15 (by decide) (Int32.not_lt.mpr hp.2.2) ?_
  refine Rx_iconst (1) dX2_hasDigitAt_18 (by decide) ?_
  refine Rx_goto 23 dX2_hasDigitAt_19 (by decide) ?_
  exact Rx_zret dX2_hasDigitAt_23 rfl nz_1
theorem sp_hasDig_f (d : Nat) {h : Hp} {n p : Nat} {t : Nat → Int32} (x : TI h n t) (hp : ¬ dig n t p) (hp2 : p < 1000) : Mx mX2_hasDigitAt (d + 1) [.ref 21, .int (nI p)] h (some (.int 0)) h := by
  refine Mx_of [_, _, _] (by decide +kernel) rfl rfl ?_
  by_cases c : p < n
  · by_cases c2 : t p < 48
    · refine Rx_aload_n dX2_hasDigitAt_0 rfl ?_
      refine Rx_iload_n dX2_hasDigitAt_1 rfl ?_
      refine Rx_callV [_] dX2_hasDigitAt_2 clX2_19 rfl x.1 (sp_byteAt d x c) rfl rfl rfl ?_
      refine Rx_istore_n [_, _, _] dX2_hasDigitAt_5 rfl rfl rfl ?_
      refine Rx_iload_n dX2_hasDigitAt_6 rfl ?_
      refine Rx_bipush (48) dX2_hasDigitAt_7 (by decide) ?_
      refine Rx_icmp_lt_t 22 dX2_hasDigitAt_9 (by decide) c2 ?_
      refine Rx_iconst (0) dX2_hasDigitAt_22 (by decide) ?_
      exact Rx_zret dX2_hasDigitAt_23 rfl nz_0
    · have c3 : 57 < t p := Int32.not_le.mp (fun z => hp ⟨c, Int32.not_lt.mp c2, z⟩)
      refine Rx_aload_n dX2_hasDigitAt_0 rfl ?_
      refine Rx_iload_n dX2_hasDigitAt_1 rfl ?_
      refine Rx_callV [_] dX2_hasDigitAt_2 clX2_19 rfl x.1 (sp_byteAt d x c) rfl rfl rfl ?_
      refine Rx_istore_n [_, _, _] dX2_hasDigitAt_5 rfl rfl rfl ?_
      refine Rx_iload_n dX2_hasDigitAt_6 rfl ?_
      refine Rx_bipush (48) dX2_hasDigitAt_7 (by decide) ?_
      refine Rx_icmp_lt_f 22 dX2_hasDigitAt_9 (by decide) c2 ?_
      refine Rx_iload_n dX2_hasDigitAt_12 rfl ?_
      refine Rx_bipush (57) dX2_hasDigitAt_13 (by decide) ?_
      refine Rx_icmp_gt_t 22 dX2_hasDigitAt_15 (by decide) c3 ?_
      refine Rx_iconst (0) dX2_hasDigitAt_22 (by decide) ?_
      exact Rx_zret dX2_hasDigitAt_23 rfl nz_0
  · refine Rx_aload_n dX2_hasDigitAt_0 rfl ?_
    refine Rx_iload_n dX2_hasDigitAt_1 rfl ?_
    refine Rx_callV [_] dX2_hasDigitAt_2 clX2_19 rfl x.1 (sp_byteAt_e d x (Nat.not_lt.mp c) hp2) rfl rfl rfl ?_
    refine Rx_istore_n [_, _, _] dX2_hasDigitAt_5 rfl rfl rfl ?_
    refine Rx_iload_n dX2_hasDigitAt_6 rfl ?_
    refine Rx_bipush (48) dX2_hasDigitAt_7 (by decide) ?_
    refine Rx_icmp_lt_t 22 dX2_hasDigitAt_9 (by decide) (by decide) ?_
    refine Rx_iconst (0) dX2_hasDigitAt_22 (by decide) ?_
    exact Rx_zret dX2_hasDigitAt_23 rfl nz_0
/-! CnfCompiler.ClauseReader: cells 23 and 24 -/

def digb (n : Nat) (t : Nat → Int32) (p : Nat) : Bool := decide (p < n) && decide (48 ≤ t p) && decide (t p ≤ 57)
theorem digb_iff {n : Nat} {t : Nat → Int32} {p : Nat} : digb n t p = true ↔ dig n t p := by simp [digb, dig, and_assoc]
theorem digb_not {n : Nat} {t : Nat → Int32} {p : Nat} : digb n t p = false ↔ ¬ dig n t p := by rw [← digb_iff]; simp
/-- how many digits stand at q, three at most -/
def cntD (n : Nat) (t : Nat → Int32) (q : Nat) : Nat := if digb n t q then (if digb n t (q + 1) then (if digb n t (q + 2) then 3 else 2) else 1) else 0
theorem sp_countDigits (d : Nat) {h : Hp} {n q : Nat} {t : Nat → Int32} (x : TI h n t) (hq : q < 900) : Mx mX0_countDigits (d + 2) [.ref 21, .int (nI q)] h (some (.int (nI (cntD n t q)))) h := by
  have e0 : nI q + (0 : Int32) = nI q := by rw [show (0 : Int32) = nI 0 from rfl, nI_add]; rfl
  have e1 : nI q + ((0 : Int32) + 1) = nI (q + 1) := by rw [show (0 : Int32) + 1 = nI 1 from rfl, nI_add]
  have e2 : nI q + ((0 : Int32) + 1 + 1) = nI (q + 2) := by rw [show (0 : Int32) + 1 + 1 = nI 2 from rfl, nI_add]
  refine Mx_of [_, _, _] (by decide +kernel) rfl rfl ?_
  unfold cntD
  cases c0 : digb n t q with
  | false =>
    refine Rx_iconst (0) dX0_countDigits_0 (by decide) ?_
    refine Rx_istore_n [_, _, _] dX0_countDigits_1 rfl rfl rfl ?_
    refine Rx_iload_n dX0_countDigits_2 rfl ?_
    refine Rx_iconst (2) dX0_countDigits_3 (by decide) ?_
    refine Rx_icmp_gt_f 23 dX0_countDigits_4 (by decide) (by decide) ?_
    refine Rx_aload_n dX0_countDigits_7 rfl ?_
    refine Rx_iload_n dX0_countDigits_8 rfl ?_
    refine Rx_iload_n dX0_countDigits_9 rfl ?_
    refine Rx_iadd dX0_countDigits_10 ?_
    rw [e0]
    refine Rx_callV [_] dX0_countDigits_11 clX0_44 rfl x.1 (sp_hasDig_f d x (digb_not.mp c0) (by omega)) rfl rfl rfl ?_
    refine Rx_if_eq_t 23 dX0_countDigits_14 (by decide) rfl ?_
    refine Rx_iload_n dX0_countDigits_23 rfl ?_
    exact Rx_iret dX0_countDigits_24 rfl
  | true =>
    refine Rx_iconst (0) dX0_countDigits_0 (by decide) ?_
    refine Rx_istore_n [_, _, _] dX0_countDigits_1 rfl rfl rfl ?_
    refine Rx_iload_n dX0_countDigits_2 rfl ?_
    refine Rx_iconst (2) dX0_countDigits_3 (by decide) ?_
    refine Rx_icmp_gt_f 23 dX0_countDigits_4 (by decide) (by decide) ?_
    refine Rx_aload_n dX0_countDigits_7 rfl ?_
    refine Rx_iload_n dX0_countDigits_8 rfl ?_
    refine Rx_iload_n dX0_countDigits_9 rfl ?_
    refine Rx_iadd dX0_countDigits_10 ?_
    rw [e0]
    refine Rx_callV [_] dX0_countDigits_11 clX0_44 rfl x.1 (sp_hasDig_t d x (digb_iff.mp c0)) rfl rfl rfl ?_
    refine Rx_if_eq_f 23 dX0_countDigits_14 (by decide) (by decide) ?_
    refine Rx_iinc [_, _, _] (1) dX0_countDigits_17 rfl (by decide) rfl rfl rfl ?_
    refine Rx_goto 2 dX0_countDigits_20 (by decide) ?_
    cases c1 : digb n t (q + 1) with
    | false =>
      refine Rx_iload_n dX0_countDigits_2 rfl ?_
      refine Rx_iconst (2) dX0_countDigits_3 (by decide) ?_
      refine Rx_icmp_gt_f 23 dX0_countDigits_4 (by decide) (by decide) ?_
      refine Rx_aload_n dX0_countDigits_7 rfl ?_
      refine Rx_iload_n dX0_countDigits_8 rfl ?_
      refine Rx_iload_n dX0_countDigits_9 rfl ?_
      refine Rx_iadd dX0_countDigits_10 ?_
      rw [e1]
      refine Rx_callV [_] dX0_countDigits_11 clX0_44 rfl x.1 (sp_hasDig_f d x (digb_not.mp c1) (by omega)) rfl rfl rfl ?_
      refine Rx_if_eq_t 23 dX0_countDigits_14 (by decide) rfl ?_
      refine Rx_iload_n dX0_countDigits_23 rfl ?_
      exact Rx_iret dX0_countDigits_24 rfl
    | true =>
      refine Rx_iload_n dX0_countDigits_2 rfl ?_
      refine Rx_iconst (2) dX0_countDigits_3 (by decide) ?_
      refine Rx_icmp_gt_f 23 dX0_countDigits_4 (by decide) (by decide) ?_
      refine Rx_aload_n dX0_countDigits_7 rfl ?_
      refine Rx_iload_n dX0_countDigits_8 rfl ?_
      refine Rx_iload_n dX0_countDigits_9 rfl ?_
      refine Rx_iadd dX0_countDigits_10 ?_
      rw [e1]
      refine Rx_callV [_] dX0_countDigits_11 clX0_44 rfl x.1 (sp_hasDig_t d x (digb_iff.mp c1)) rfl rfl rfl ?_
      refine Rx_if_eq_f 23 dX0_countDigits_14 (by decide) (by decide) ?_
      refine Rx_iinc [_, _, _] (1) dX0_countDigits_17 rfl (by decide) rfl rfl rfl ?_
      refine Rx_goto 2 dX0_countDigits_20 (by decide) ?_
      cases c2 : digb n t (q + 2) with
      | false =>
        refine Rx_iload_n dX0_countDigits_2 rfl ?_
        refine Rx_iconst (2) dX0_countDigits_3 (by decide) ?_
        refine Rx_icmp_gt_f 23 dX0_countDigits_4 (by decide) (by decide) ?_
        refine Rx_aload_n dX0_countDigits_7 rfl ?_
        refine Rx_iload_n dX0_countDigits_8 rfl ?_
        refine Rx_iload_n dX0_countDigits_9 rfl ?_
        refine Rx_iadd dX0_countDigits_10 ?_
        rw [e2]
        refine Rx_callV [_] dX0_countDigits_11 clX0_44 rfl x.1 (sp_hasDig_f d x (digb_not.mp c2) (by omega)) rfl rfl rfl ?_
        refine Rx_if_eq_t 23 dX0_countDigits_14 (by decide) rfl ?_
        refine Rx_iload_n dX0_countDigits_23 rfl ?_
        exact Rx_iret dX0_countDigits_24 rfl
      | true =>
        refine Rx_iload_n dX0_countDigits_2 rfl ?_
        refine Rx_iconst (2) dX0_countDigits_3 (by decide) ?_
        refine Rx_icmp_gt_f 23 dX0_countDigits_4 (by decide) (by decide) ?_
        refine Rx_aload_n dX0_countDigits_7 rfl ?_
        refine Rx_iload_n dX0_countDigits_8 rfl ?_
        refine Rx_iload_n dX0_countDigits_9 rfl ?_
        refine Rx_iadd dX0_countDigits_10 ?_
        rw [e2]
        refine Rx_callV [_] dX0_countDigits_11 clX0_44 rfl x.1 (sp_hasDig_t d x (digb_iff.mp c2)) rfl rfl rfl ?_
        refine Rx_if_eq_f 23 dX0_countDigits_14 (by decide) (by decide) ?_
        refine Rx_iinc [_, _, _] (1) dX0_countDigits_17 rfl (by decide) rfl rfl rfl ?_
        refine Rx_goto 2 dX0_countDigits_20 (by decide) ?_
        refine Rx_iload_n dX0_countDigits_2 rfl ?_
        refine Rx_iconst (2) dX0_countDigits_3 (by decide) ?_
        refine Rx_icmp_gt_t 23 dX0_countDigits_4 (by decide) (by decide) ?_
        refine Rx_iload_n dX0_countDigits_23 rfl ?_
        exact Rx_iret dX0_countDigits_24 rfl
/-- the number of one or two digits at q -/
def numv (t : Nat → Int32) (q c : Nat) : Int32 := if c = 1 then t q - 48 else 10 * (t q - 48) + t (q + 1) - 48
theorem sp_numberAt1 (d : Nat) {h : Hp} {n q : Nat} {t : Nat → Int32} (x : TI h n t) (hq : q < n) : Mx mX0_numberAt (d + 1) [.ref 21, .int (nI q), .int 1] h (some (.int (t q - 48))) h := by
  have e0 : nI q + (0 : Int32) = nI q := by rw [show (0 : Int32) = nI 0 from rfl, nI_add]; rfl
  refine Mx_of [_, _, _, _, _] (by decide +kernel) rfl rfl ?_
  refine Rx_iconst (0) dX0_numberAt_0 (by decide) ?_
  refine Rx_istore_n [_, _, _, _, _] dX0_numberAt_1 rfl rfl rfl ?_
  refine Rx_iconst (0) dX0_numberAt_2 (by decide) ?_
  refine Rx_istore [_, _, _, _, _] dX0_numberAt_3 rfl rfl rfl ?_
  refine Rx_iload dX0_numberAt_5 rfl ?_
  refine Rx_iload_n dX0_numberAt_7 rfl ?_
  refine Rx_icmp_ge_f 34 dX0_numberAt_8 (by decide) (by decide) ?_
  refine Rx_bipush (10) dX0_numberAt_11 (by decide) ?_
  refine Rx_iload_n dX0_numberAt_13 rfl ?_
  refine Rx_imul dX0_numberAt_14 ?_
  refine Rx_aload_n dX0_numberAt_15 rfl ?_
  refine Rx_iload_n dX0_numberAt_16 rfl ?_
  refine Rx_iload dX0_numberAt_17 rfl ?_
  refine Rx_iadd dX0_numberAt_19 ?_
  rw [e0]
  refine Rx_callV [_] dX0_numberAt_20 clX0_37 rfl x.1 (sp_byteAt d x hq) rfl rfl rfl ?_
  refine Rx_iadd dX0_numberAt_23 ?_
  refine Rx_bipush (48) dX0_numberAt_24 (by decide) ?_
  refine Rx_isub dX0_numberAt_26 ?_
  refine Rx_istore_n [_, _, _, _, _] dX0_numberAt_27 rfl rfl rfl ?_
  refine Rx_iinc [_, _, _, _, _] (1) dX0_numberAt_28 rfl (by decide) rfl rfl rfl ?_
  refine Rx_goto 5 dX0_numberAt_31 (by decide) ?_
  rw [show (10 : Int32) * 0 + t q - 48 = t q - 48 from by rw [show (10 : Int32) * 0 = 0 from by decide, Int32.zero_add]]
  refine Rx_iload dX0_numberAt_5 rfl ?_
  refine Rx_iload_n dX0_numberAt_7 rfl ?_
  refine Rx_icmp_ge_t 34 dX0_numberAt_8 (by decide) (by decide) ?_
  refine Rx_iload_n dX0_numberAt_34 rfl ?_
  exact Rx_iret dX0_numberAt_35 rfl
theorem sp_numberAt2 (d : Nat) {h : Hp} {n q : Nat} {t : Nat → Int32} (x : TI h n t) (hq : q + 1 < n) : Mx mX0_numberAt (d + 1) [.ref 21, .int (nI q), .int 2] h (some (.int (10 * (t q - 48) + t (q + 1) - 48))) h := by
  have e0 : nI q + (0 : Int32) = nI q := by rw [show (0 : Int32) = nI 0 from rfl, nI_add]; rfl
  have e1 : nI q + ((0 : Int32) + 1) = nI (q + 1) := by rw [show (0 : Int32) + 1 = nI 1 from rfl, nI_add]
  refine Mx_of [_, _, _, _, _] (by decide +kernel) rfl rfl ?_
  refine Rx_iconst (0) dX0_numberAt_0 (by decide) ?_
  refine Rx_istore_n [_, _, _, _, _] dX0_numberAt_1 rfl rfl rfl ?_
  refine Rx_iconst (0) dX0_numberAt_2 (by decide) ?_
  refine Rx_istore [_, _, _, _, _] dX0_numberAt_3 rfl rfl rfl ?_
  refine Rx_iload dX0_numberAt_5 rfl ?_
  refine Rx_iload_n dX0_numberAt_7 rfl ?_
  refine Rx_icmp_ge_f 34 dX0_numberAt_8 (by decide) (by decide) ?_
  refine Rx_bipush (10) dX0_numberAt_11 (by decide) ?_
  refine Rx_iload_n dX0_numberAt_13 rfl ?_
  refine Rx_imul dX0_numberAt_14 ?_
  refine Rx_aload_n dX0_numberAt_15 rfl ?_
  refine Rx_iload_n dX0_numberAt_16 rfl ?_
  refine Rx_iload dX0_numberAt_17 rfl ?_
  refine Rx_iadd dX0_numberAt_19 ?_
  rw [e0]
  refine Rx_callV [_] dX0_numberAt_20 clX0_37 rfl x.1 (sp_byteAt d x (by omega)) rfl rfl rfl ?_
  refine Rx_iadd dX0_numberAt_23 ?_
  refine Rx_bipush (48) dX0_numberAt_24 (by decide) ?_
  refine Rx_isub dX0_numberAt_26 ?_
  refine Rx_istore_n [_, _, _, _, _] dX0_numberAt_27 rfl rfl rfl ?_
  refine Rx_iinc [_, _, _, _, _] (1) dX0_numberAt_28 rfl (by decide) rfl rfl rfl ?_
  refine Rx_goto 5 dX0_numberAt_31 (by decide) ?_
  rw [show (10 : Int32) * 0 + t q - 48 = t q - 48 from by rw [show (10 : Int32) * 0 = 0 from by decide, Int32.zero_add]]
  refine Rx_iload dX0_numberAt_5 rfl ?_
  refine Rx_iload_n dX0_numberAt_7 rfl ?_
  refine Rx_icmp_ge_f 34 dX0_numberAt_8 (by decide) (by decide) ?_
  refine Rx_bipush (10) dX0_numberAt_11 (by decide) ?_
  refine Rx_iload_n dX0_numberAt_13 rfl ?_
  refine Rx_imul dX0_numberAt_14 ?_
  refine Rx_aload_n dX0_numberAt_15 rfl ?_
  refine Rx_iload_n dX0_numberAt_16 rfl ?_
  refine Rx_iload dX0_numberAt_17 rfl ?_
  refine Rx_iadd dX0_numberAt_19 ?_
  rw [e1]
  refine Rx_callV [_] dX0_numberAt_20 clX0_37 rfl x.1 (sp_byteAt d x (by omega)) rfl rfl rfl ?_
  refine Rx_iadd dX0_numberAt_23 ?_
  refine Rx_bipush (48) dX0_numberAt_24 (by decide) ?_
  refine Rx_isub dX0_numberAt_26 ?_
  refine Rx_istore_n [_, _, _, _, _] dX0_numberAt_27 rfl rfl rfl ?_
  refine Rx_iinc [_, _, _, _, _] (1) dX0_numberAt_28 rfl (by decide) rfl rfl rfl ?_
  refine Rx_goto 5 dX0_numberAt_31 (by decide) ?_
  refine Rx_iload dX0_numberAt_5 rfl ?_
  refine Rx_iload_n dX0_numberAt_7 rfl ?_
  refine Rx_icmp_ge_t 34 dX0_numberAt_8 (by decide) (by decide) ?_
  refine Rx_iload_n dX0_numberAt_34 rfl ?_
  exact Rx_iret dX0_numberAt_35 rfl
end
section
/-! one token of the text: an error's place, or where it goes on. full, bit, vars: how a clause is coded -/
def gLit (bit vars : Int32 → Int32) (n : Nat) (t : Nat → Int32) (p : Nat) (c : Int32) : Nat ⊕ (Nat × Int32) :=
  if cntD n t (if t p = 45 then p + 1 else p) = 0 then .inl (if t p = 45 then p + 1 else p)
  else if cntD n t (if t p = 45 then p + 1 else p) = 3 then .inl ((if t p = 45 then p + 1 else p) + 2)
  else if 1 ≤ numv t (if t p = 45 then p + 1 else p) (cntD n t (if t p = 45 then p + 1 else p)) ∧ numv t (if t p = 45 then p + 1 else p) (cntD n t (if t p = 45 then p + 1 else p)) ≤ 10 then
    (if vars c &&& vars (bit (if t p = 45 then -numv t (if t p = 45 then p + 1 else p) (cntD n t (if t p = 45 then p + 1 else p)) else numv t (if t p = 45 then p + 1 else p) (cntD n t (if t p = 45 then p + 1 else p)))) = 0 then
      .inr ((if t p = 45 then p + 1 else p) + cntD n t (if t p = 45 then p + 1 else p), c ||| bit (if t p = 45 then -numv t (if t p = 45 then p + 1 else p) (cntD n t (if t p = 45 then p + 1 else p)) else numv t (if t p = 45 then p + 1 else p) (cntD n t (if t p = 45 then p + 1 else p))))
    else .inl p)
  else .inl (if t p = 45 then p + 1 else p)
def gTok (full : Int32 → Bool) (bit vars : Int32 → Int32) (n : Nat) (t : Nat → Int32) (room p k : Nat) (c : Int32) : Nat ⊕ (Nat × Int32 × Bool) :=
  if t p = 32 then .inr (p + 1, c, false)
  else if t p = 59 then (if c = 0 then .inl p else .inr (p + 1, 0, true))
  else if t p = 45 ∨ digb n t p = true then
    (if full c = true ∨ (c = 0 ∧ room ≤ k) then .inl p else match gLit bit vars n t p c with
      | .inl e => .inl e
      | .inr (p', c') => .inr (p', c', false))
  else .inl p
def fullC (c : Int32) : Bool := decide (4 ≤ bcI c)
abbrev obR (k p : Nat) (c e : Int32) : va_E := .inr (0, [.ref 24, .int (nI k), .int (nI p), .int c, .int e])
def rdCell (k p : Nat) (c : Int32) (r : Nat ⊕ (Nat × Int32)) : va_E := match r with
  | .inl e => obR k p c (nI e)
  | .inr (p', c') => obR k p' c' (-1)
theorem cntD_le (n : Nat) (t : Nat → Int32) (q : Nat) : cntD n t q ≤ 3 := by unfold cntD; split <;> (try split) <;> (try split) <;> omega
theorem cntD_1 {n : Nat} {t : Nat → Int32} {q : Nat} (h : ¬ cntD n t q = 0) : dig n t q := by
  cases c : digb n t q with
  | true => exact digb_iff.mp c
  | false => exfalso; apply h; simp [cntD, c]
theorem cntD_2 {n : Nat} {t : Nat → Int32} {q : Nat} (h : cntD n t q = 2) : dig n t (q + 1) := by
  cases c : digb n t (q + 1) with
  | true => exact digb_iff.mp c
  | false => exfalso; cases c0 : digb n t q <;> simp [cntD, c, c0] at h
/-- behind the sign: q is where the digits begin -/
theorem lit_digits (d : Nat) {h : Hp} {n p q k : Nat} {t : Nat → Int32} {c : Int32} (x : TI h n t) (hr : h[23]? = some (obR k p c (-1))) (hp : p < n) (ng : Int32) (hng : ng = if t p = 45 then 1 else 0) (hq : q = if t p = 45 then p + 1 else p) (x0 x1 x2 : Int32) :
    Rx mX0_readLiteral (d + 3) 97 [.ref 23, .ref 21, .int x0, .int x1, .int x2, .int ng, .int (nI q), .retAddr 0, .retAddr 0, .retAddr 0] [] h none (h.set 23 (rdCell k p c (gLit fBit fVars n t p c))) := by
  have hn := x.2.2
  have hq2 : q ≤ n := by rw [hq]; split <;> omega
  have hcl := cntD_le n t q
  unfold gLit
  rw [← hq]
  by_cases c0 : cntD n t q = 0
  · rw [if_pos c0]
    refine Rx_aload_n dX0_readLiteral_97 rfl ?_
    refine Rx_iload dX0_readLiteral_98 rfl ?_
    refine Rx_callS [_, _] dX0_readLiteral_100 clX0_56 (sp_countDigits d x (by omega)) rfl rfl rfl ?_
    refine Rx_istore [_, _, _, _, _, _, _, _, _, _] dX0_readLiteral_103 rfl rfl rfl ?_
    rw [c0]
    refine Rx_iload dX0_readLiteral_105 rfl ?_
    refine Rx_if_eq_t 116 dX0_readLiteral_107 (by decide) rfl ?_
    refine Rx_aload_n dX0_readLiteral_116 rfl ?_
    refine Rx_iload dX0_readLiteral_117 rfl ?_
    refine Rx_if_ne_f 127 dX0_readLiteral_119 (by decide) rfl ?_
    refine Rx_iload dX0_readLiteral_122 rfl ?_
    refine Rx_goto 131 dX0_readLiteral_124 (by decide) ?_
    refine Rx_put [_, _, _, _, _] dX0_readLiteral_131 fpX0_25 hr rfl (okv_i _) rfl ?_
    exact Rx_vret dX0_readLiteral_134 rfl
  · rw [if_neg c0]
    by_cases c3 : cntD n t q = 3
    · rw [if_pos c3]
      refine Rx_aload_n dX0_readLiteral_97 rfl ?_
      refine Rx_iload dX0_readLiteral_98 rfl ?_
      refine Rx_callS [_, _] dX0_readLiteral_100 clX0_56 (sp_countDigits d x (by omega)) rfl rfl rfl ?_
      refine Rx_istore [_, _, _, _, _, _, _, _, _, _] dX0_readLiteral_103 rfl rfl rfl ?_
      rw [c3]
      refine Rx_iload dX0_readLiteral_105 rfl ?_
      refine Rx_if_eq_f 116 dX0_readLiteral_107 (by decide) (by decide) ?_
      refine Rx_iload dX0_readLiteral_110 rfl ?_
      refine Rx_iconst (2) dX0_readLiteral_112 (by decide) ?_
      refine Rx_icmp_le_f 135 dX0_readLiteral_113 (by decide) (by decide) ?_
      refine Rx_aload_n dX0_readLiteral_116 rfl ?_
      refine Rx_iload dX0_readLiteral_117 rfl ?_
      refine Rx_if_ne_t 127 dX0_readLiteral_119 (by decide) (by decide) ?_
      refine Rx_iload dX0_readLiteral_127 rfl ?_
      refine Rx_iconst (2) dX0_readLiteral_129 (by decide) ?_
      refine Rx_iadd dX0_readLiteral_130 ?_
      rw [show nI q + (2 : Int32) = nI (q + 2) from by rw [show (2 : Int32) = nI 2 from rfl, nI_add]]
      refine Rx_put [_, _, _, _, _] dX0_readLiteral_131 fpX0_25 hr rfl (okv_i _) rfl ?_
      exact Rx_vret dX0_readLiteral_134 rfl
    · rw [if_neg c3]
      have key : Rx mX0_readLiteral (d + 3) 145 [.ref 23, .ref 21, .int x0, .int x1, .int x2, .int ng, .int (nI q), .int (nI (cntD n t q)), .int (numv t q (cntD n t q)), .retAddr 0] [] h none (h.set 23 (rdCell k p c (if 1 ≤ numv t q (cntD n t q) ∧ numv t q (cntD n t q) ≤ 10 then (if fVars c &&& fVars (fBit (if t p = 45 then -numv t q (cntD n t q) else numv t q (cntD n t q))) = 0 then .inr (q + cntD n t q, c ||| fBit (if t p = 45 then -numv t q (cntD n t q) else numv t q (cntD n t q))) else .inl p) else .inl q))) := by
        generalize numv t q (cntD n t q) = v
        by_cases r1 : 1 ≤ v
        · by_cases r2 : v ≤ 10
          · rw [if_pos ⟨r1, r2⟩]
            have key2 : Rx mX0_readLiteral (d + 3) 178 [.ref 23, .ref 21, .int x0, .int x1, .int x2, .int ng, .int (nI q), .int (nI (cntD n t q)), .int v, .retAddr 0] [.int (if t p = 45 then -v else v)] h none (h.set 23 (rdCell k p c (if fVars c &&& fVars (fBit (if t p = 45 then -v else v)) = 0 then .inr (q + cntD n t q, c ||| fBit (if t p = 45 then -v else v)) else .inl p))) := by
              generalize (if t p = 45 then -v else v) = w
              refine Rx_callS [_] dX0_readLiteral_178 clX0_64 (sp_bitOf (d + 1) h w) rfl rfl rfl ?_
              refine Rx_istore [_, _, _, _, _, _, _, _, _, _] dX0_readLiteral_181 rfl rfl rfl ?_
              refine Rx_aload_n dX0_readLiteral_183 rfl ?_
              refine Rx_get dX0_readLiteral_184 flX0_22 hr rfl ?_
              refine Rx_callS [_] dX0_readLiteral_187 clX0_67 (sp_varsOf (d + 2) h c) rfl rfl rfl ?_
              refine Rx_iload dX0_readLiteral_190 rfl ?_
              refine Rx_callS [_] dX0_readLiteral_192 clX0_67 (sp_varsOf (d + 2) h (fBit w)) rfl rfl rfl ?_
              refine Rx_iand dX0_readLiteral_195 ?_
              by_cases r3 : fVars c &&& fVars (fBit w) = 0
              · rw [if_pos r3]
                refine Rx_if_eq_t 208 dX0_readLiteral_196 (by decide) r3 ?_
                refine Rx_aload_n dX0_readLiteral_208 rfl ?_
                refine Rx_dup dX0_readLiteral_209 rfl ?_
                refine Rx_get dX0_readLiteral_210 flX0_22 hr rfl ?_
                refine Rx_iload dX0_readLiteral_213 rfl ?_
                refine Rx_ior dX0_readLiteral_215 ?_
                refine Rx_put [_, _, _, _, _] dX0_readLiteral_216 fpX0_22 hr rfl (okv_i _) rfl ?_
                refine Rx_aload_n dX0_readLiteral_219 rfl ?_
                refine Rx_iload dX0_readLiteral_220 rfl ?_
                refine Rx_iload dX0_readLiteral_222 rfl ?_
                refine Rx_iadd dX0_readLiteral_224 ?_
                refine Rx_put [_, _, _, _, _] dX0_readLiteral_225 fpX0_19 (hS _ hr) rfl (okv_i _) rfl ?_
                rw [List.set_set, nI_add]
                exact Rx_vret dX0_readLiteral_228 rfl
              · rw [if_neg r3]
                refine Rx_if_eq_f 208 dX0_readLiteral_196 (by decide) r3 ?_
                refine Rx_aload_n dX0_readLiteral_199 rfl ?_
                refine Rx_aload_n dX0_readLiteral_200 rfl ?_
                refine Rx_get dX0_readLiteral_201 flX0_19 hr rfl ?_
                refine Rx_put [_, _, _, _, _] dX0_readLiteral_204 fpX0_25 hr rfl (okv_i _) rfl ?_
                exact Rx_vret dX0_readLiteral_207 rfl
            by_cases s : t p = 45
            · rw [if_pos s] at hng key2
              subst hng
              refine Rx_iload dX0_readLiteral_145 rfl ?_
              refine Rx_iconst (1) dX0_readLiteral_147 (by decide) ?_
              refine Rx_icmp_lt_f 158 dX0_readLiteral_148 (by decide) (Int32.not_lt.mpr r1) ?_
              refine Rx_iload dX0_readLiteral_151 rfl ?_
              refine Rx_bipush (10) dX0_readLiteral_153 (by decide) ?_
              refine Rx_icmp_le_t 165 dX0_readLiteral_155 (by decide) r2 ?_
              refine Rx_iload dX0_readLiteral_165 rfl ?_
              refine Rx_if_eq_f 176 dX0_readLiteral_167 (by decide) (by decide) ?_
              refine Rx_iload dX0_readLiteral_170 rfl ?_
              refine Rx_ineg dX0_readLiteral_172 ?_
              refine Rx_goto 178 dX0_readLiteral_173 (by decide) ?_
              simpa only [if_pos s] using key2
            · rw [if_neg s] at hng key2
              subst hng
              refine Rx_iload dX0_readLiteral_145 rfl ?_
              refine Rx_iconst (1) dX0_readLiteral_147 (by decide) ?_
              refine Rx_icmp_lt_f 158 dX0_readLiteral_148 (by decide) (Int32.not_lt.mpr r1) ?_
              refine Rx_iload dX0_readLiteral_151 rfl ?_
              refine Rx_bipush (10) dX0_readLiteral_153 (by decide) ?_
              refine Rx_icmp_le_t 165 dX0_readLiteral_155 (by decide) r2 ?_
              refine Rx_iload dX0_readLiteral_165 rfl ?_
              refine Rx_if_eq_t 176 dX0_readLiteral_167 (by decide) rfl ?_
              refine Rx_iload dX0_readLiteral_176 rfl ?_
              simpa only [if_neg s] using key2
          · rw [if_neg (fun z => r2 z.2)]
            refine Rx_iload dX0_readLiteral_145 rfl ?_
            refine Rx_iconst (1) dX0_readLiteral_147 (by decide) ?_
            refine Rx_icmp_lt_f 158 dX0_readLiteral_148 (by decide) (Int32.not_lt.mpr r1) ?_
            refine Rx_iload dX0_readLiteral_151 rfl ?_
            refine Rx_bipush (10) dX0_readLiteral_153 (by decide) ?_
            refine Rx_icmp_le_f 165 dX0_readLiteral_155 (by decide) r2 ?_
            refine Rx_aload_n dX0_readLiteral_158 rfl ?_
            refine Rx_iload dX0_readLiteral_159 rfl ?_
            refine Rx_put [_, _, _, _, _] dX0_readLiteral_161 fpX0_25 hr rfl (okv_i _) rfl ?_
            exact Rx_vret dX0_readLiteral_164 rfl
        · rw [if_neg (fun z => r1 z.1)]
          refine Rx_iload dX0_readLiteral_145 rfl ?_
          refine Rx_iconst (1) dX0_readLiteral_147 (by decide) ?_
          refine Rx_icmp_lt_t 158 dX0_readLiteral_148 (by decide) (Int32.not_le.mp r1) ?_
          refine Rx_aload_n dX0_readLiteral_158 rfl ?_
          refine Rx_iload dX0_readLiteral_159 rfl ?_
          refine Rx_put [_, _, _, _, _] dX0_readLiteral_161 fpX0_25 hr rfl (okv_i _) rfl ?_
          exact Rx_vret dX0_readLiteral_164 rfl
      have d1 := cntD_1 c0
      by_cases c1 : cntD n t q = 1
      · rw [c1] at key ⊢
        refine Rx_aload_n dX0_readLiteral_97 rfl ?_
        refine Rx_iload dX0_readLiteral_98 rfl ?_
        refine Rx_callS [_, _] dX0_readLiteral_100 clX0_56 (sp_countDigits d x (by omega)) rfl rfl rfl ?_
        refine Rx_istore [_, _, _, _, _, _, _, _, _, _] dX0_readLiteral_103 rfl rfl rfl ?_
        rw [c1]
        refine Rx_iload dX0_readLiteral_105 rfl ?_
        refine Rx_if_eq_f 116 dX0_readLiteral_107 (by decide) (by decide) ?_
        refine Rx_iload dX0_readLiteral_110 rfl ?_
        refine Rx_iconst (2) dX0_readLiteral_112 (by decide) ?_
        refine Rx_icmp_le_t 135 dX0_readLiteral_113 (by decide) (by decide) ?_
        refine Rx_aload_n dX0_readLiteral_135 rfl ?_
        refine Rx_iload dX0_readLiteral_136 rfl ?_
        refine Rx_iload dX0_readLiteral_138 rfl ?_
        refine Rx_callS [_, _, _] dX0_readLiteral_140 clX0_60 (sp_numberAt1 (d + 1) x d1.1) rfl rfl rfl ?_
        refine Rx_istore [_, _, _, _, _, _, _, _, _, _] dX0_readLiteral_143 rfl rfl rfl ?_
        exact key
      · have c2 : cntD n t q = 2 := by omega
        have d2 := cntD_2 c2
        rw [c2] at key ⊢
        refine Rx_aload_n dX0_readLiteral_97 rfl ?_
        refine Rx_iload dX0_readLiteral_98 rfl ?_
        refine Rx_callS [_, _] dX0_readLiteral_100 clX0_56 (sp_countDigits d x (by omega)) rfl rfl rfl ?_
        refine Rx_istore [_, _, _, _, _, _, _, _, _, _] dX0_readLiteral_103 rfl rfl rfl ?_
        rw [c2]
        refine Rx_iload dX0_readLiteral_105 rfl ?_
        refine Rx_if_eq_f 116 dX0_readLiteral_107 (by decide) (by decide) ?_
        refine Rx_iload dX0_readLiteral_110 rfl ?_
        refine Rx_iconst (2) dX0_readLiteral_112 (by decide) ?_
        refine Rx_icmp_le_t 135 dX0_readLiteral_113 (by decide) (by decide) ?_
        refine Rx_aload_n dX0_readLiteral_135 rfl ?_
        refine Rx_iload dX0_readLiteral_136 rfl ?_
        refine Rx_iload dX0_readLiteral_138 rfl ?_
        refine Rx_callS [_, _, _] dX0_readLiteral_140 clX0_60 (sp_numberAt2 (d + 1) x d2.1) rfl rfl rfl ?_
        refine Rx_istore [_, _, _, _, _, _, _, _, _, _] dX0_readLiteral_143 rfl rfl rfl ?_
        exact key
theorem lit_57 (d : Nat) {h : Hp} {n p k : Nat} {t : Nat → Int32} {c : Int32} (x : TI h n t) (hr : h[23]? = some (obR k p c (-1))) (hp : p < n) (x0 x1 x2 : Int32) :
    Rx mX0_readLiteral (d + 3) 57 [.ref 23, .ref 21, .int x0, .int x1, .int x2, .retAddr 0, .retAddr 0, .retAddr 0, .retAddr 0, .retAddr 0] [] h none (h.set 23 (rdCell k p c (gLit fBit fVars n t p c))) := by
  by_cases s : t p = 45
  · refine Rx_aload_n dX0_readLiteral_57 rfl ?_
    refine Rx_aload_n dX0_readLiteral_58 rfl ?_
    refine Rx_get dX0_readLiteral_59 flX0_19 hr rfl ?_
    refine Rx_callV [_] dX0_readLiteral_62 clX0_37 rfl x.1 (sp_byteAt (d + 2) x hp) rfl rfl rfl ?_
    refine Rx_bipush (45) dX0_readLiteral_65 (by decide) ?_
    refine Rx_icmp_ne_f 74 dX0_readLiteral_67 (by decide) s ?_
    refine Rx_iconst (1) dX0_readLiteral_70 (by decide) ?_
    refine Rx_goto 75 dX0_readLiteral_71 (by decide) ?_
    refine Rx_istore [_, _, _, _, _, _, _, _, _, _] dX0_readLiteral_75 rfl rfl rfl ?_
    refine Rx_iload dX0_readLiteral_77 rfl ?_
    refine Rx_if_eq_f 91 dX0_readLiteral_79 (by decide) (by decide) ?_
    refine Rx_aload_n dX0_readLiteral_82 rfl ?_
    refine Rx_get dX0_readLiteral_83 flX0_19 hr rfl ?_
    refine Rx_iconst (1) dX0_readLiteral_86 (by decide) ?_
    refine Rx_iadd dX0_readLiteral_87 ?_
    refine Rx_goto 95 dX0_readLiteral_88 (by decide) ?_
    rw [nI_1]
    refine Rx_istore [_, _, _, _, _, _, _, _, _, _] dX0_readLiteral_95 rfl rfl rfl ?_
    exact lit_digits d x hr hp 1 (by rw [if_pos s]) (by rw [if_pos s]) x0 x1 x2
  · refine Rx_aload_n dX0_readLiteral_57 rfl ?_
    refine Rx_aload_n dX0_readLiteral_58 rfl ?_
    refine Rx_get dX0_readLiteral_59 flX0_19 hr rfl ?_
    refine Rx_callV [_] dX0_readLiteral_62 clX0_37 rfl x.1 (sp_byteAt (d + 2) x hp) rfl rfl rfl ?_
    refine Rx_bipush (45) dX0_readLiteral_65 (by decide) ?_
    refine Rx_icmp_ne_t 74 dX0_readLiteral_67 (by decide) s ?_
    refine Rx_iconst (0) dX0_readLiteral_74 (by decide) ?_
    refine Rx_istore [_, _, _, _, _, _, _, _, _, _] dX0_readLiteral_75 rfl rfl rfl ?_
    refine Rx_iload dX0_readLiteral_77 rfl ?_
    refine Rx_if_eq_t 91 dX0_readLiteral_79 (by decide) rfl ?_
    refine Rx_aload_n dX0_readLiteral_91 rfl ?_
    refine Rx_get dX0_readLiteral_92 flX0_19 hr rfl ?_
    refine Rx_istore [_, _, _, _, _, _, _, _, _, _] dX0_readLiteral_95 rfl rfl rfl ?_
    exact lit_digits d x hr hp 0 (by rw [if_neg s]) (by rw [if_neg s]) x0 x1 x2
theorem sp_readLiteral (d : Nat) {h : Hp} {n p k room : Nat} {t : Nat → Int32} {c : Int32} (x : TI h n t) (hr : h[23]? = some (obR k p c (-1))) (hp : p < n) (hk : k ≤ 16) (hroom : room ≤ 16) :
    Mx mX0_readLiteral (d + 3) [.ref 23, .ref 21, .int (nI room)] h none (h.set 23 (rdCell k p c (if fullC c = true ∨ (c = 0 ∧ room ≤ k) then .inl p else gLit fBit fVars n t p c))) := by
  refine Mx_of [_, _, _, _, _, _, _, _, _, _] (by decide +kernel) rfl rfl ?_
  by_cases f5 : 4 ≤ bcI c
  · rw [if_pos (Or.inl (by simpa [fullC] using f5))]
    by_cases z : c = 0
    · by_cases rk : room ≤ k
      · refine Rx_aload_n dX0_readLiteral_0 rfl ?_
        refine Rx_get dX0_readLiteral_1 flX0_22 hr rfl ?_
        refine Rx_callS [_] dX0_readLiteral_4 clX0_51 (sp_bitCount (d + 2) h c) rfl rfl rfl ?_
        refine Rx_iconst (4) dX0_readLiteral_7 (by decide) ?_
        refine Rx_icmp_lt_f 15 dX0_readLiteral_8 (by decide) (Int32.not_lt.mpr f5) ?_
        refine Rx_iconst (1) dX0_readLiteral_11 (by decide) ?_
        refine Rx_goto 16 dX0_readLiteral_12 (by decide) ?_
        refine Rx_istore_n [_, _, _, _, _, _, _, _, _, _] dX0_readLiteral_16 rfl rfl rfl ?_
        refine Rx_aload_n dX0_readLiteral_17 rfl ?_
        refine Rx_get dX0_readLiteral_18 flX0_22 hr rfl ?_
        refine Rx_if_ne_f 36 dX0_readLiteral_21 (by decide) z ?_
        refine Rx_aload_n dX0_readLiteral_24 rfl ?_
        refine Rx_get dX0_readLiteral_25 flX0_15 hr rfl ?_
        refine Rx_iload_n dX0_readLiteral_28 rfl ?_
        refine Rx_icmp_lt_f 36 dX0_readLiteral_29 (by decide) (nI_nlt rk (by omega)) ?_
        refine Rx_iconst (1) dX0_readLiteral_32 (by decide) ?_
        refine Rx_goto 37 dX0_readLiteral_33 (by decide) ?_
        refine Rx_istore [_, _, _, _, _, _, _, _, _, _] dX0_readLiteral_37 rfl rfl rfl ?_
        refine Rx_iload_n dX0_readLiteral_39 rfl ?_
        refine Rx_if_ne_t 48 dX0_readLiteral_40 (by decide) (by decide) ?_
        refine Rx_aload_n dX0_readLiteral_48 rfl ?_
        refine Rx_aload_n dX0_readLiteral_49 rfl ?_
        refine Rx_get dX0_readLiteral_50 flX0_19 hr rfl ?_
        refine Rx_put [_, _, _, _, _] dX0_readLiteral_53 fpX0_25 hr rfl (okv_i _) rfl ?_
        exact Rx_vret dX0_readLiteral_56 rfl
      · refine Rx_aload_n dX0_readLiteral_0 rfl ?_
        refine Rx_get dX0_readLiteral_1 flX0_22 hr rfl ?_
        refine Rx_callS [_] dX0_readLiteral_4 clX0_51 (sp_bitCount (d + 2) h c) rfl rfl rfl ?_
        refine Rx_iconst (4) dX0_readLiteral_7 (by decide) ?_
        refine Rx_icmp_lt_f 15 dX0_readLiteral_8 (by decide) (Int32.not_lt.mpr f5) ?_
        refine Rx_iconst (1) dX0_readLiteral_11 (by decide) ?_
        refine Rx_goto 16 dX0_readLiteral_12 (by decide) ?_
        refine Rx_istore_n [_, _, _, _, _, _, _, _, _, _] dX0_readLiteral_16 rfl rfl rfl ?_
        refine Rx_aload_n dX0_readLiteral_17 rfl ?_
        refine Rx_get dX0_readLiteral_18 flX0_22 hr rfl ?_
        refine Rx_if_ne_f 36 dX0_readLiteral_21 (by decide) z ?_
        refine Rx_aload_n dX0_readLiteral_24 rfl ?_
        refine Rx_get dX0_readLiteral_25 flX0_15 hr rfl ?_
        refine Rx_iload_n dX0_readLiteral_28 rfl ?_
        refine Rx_icmp_lt_t 36 dX0_readLiteral_29 (by decide) (nI_lt (by omega) (by omega)) ?_
        refine Rx_iconst (0) dX0_readLiteral_36 (by decide) ?_
        refine Rx_istore [_, _, _, _, _, _, _, _, _, _] dX0_readLiteral_37 rfl rfl rfl ?_
        refine Rx_iload_n dX0_readLiteral_39 rfl ?_
        refine Rx_if_ne_t 48 dX0_readLiteral_40 (by decide) (by decide) ?_
        refine Rx_aload_n dX0_readLiteral_48 rfl ?_
        refine Rx_aload_n dX0_readLiteral_49 rfl ?_
        refine Rx_get dX0_readLiteral_50 flX0_19 hr rfl ?_
        refine Rx_put [_, _, _, _, _] dX0_readLiteral_53 fpX0_25 hr rfl (okv_i _) rfl ?_
        exact Rx_vret dX0_readLiteral_56 rfl
    · refine Rx_aload_n dX0_readLiteral_0 rfl ?_
      refine Rx_get dX0_readLiteral_1 flX0_22 hr rfl ?_
      refine Rx_callS [_] dX0_readLiteral_4 clX0_51 (sp_bitCount (d + 2) h c) rfl rfl rfl ?_
      refine Rx_iconst (4) dX0_readLiteral_7 (by decide) ?_
      refine Rx_icmp_lt_f 15 dX0_readLiteral_8 (by decide) (Int32.not_lt.mpr f5) ?_
      refine Rx_iconst (1) dX0_readLiteral_11 (by decide) ?_
      refine Rx_goto 16 dX0_readLiteral_12 (by decide) ?_
      refine Rx_istore_n [_, _, _, _, _, _, _, _, _, _] dX0_readLiteral_16 rfl rfl rfl ?_
      refine Rx_aload_n dX0_readLiteral_17 rfl ?_
      refine Rx_get dX0_readLiteral_18 flX0_22 hr rfl ?_
      refine Rx_if_ne_t 36 dX0_readLiteral_21 (by decide) z ?_
      refine Rx_iconst (0) dX0_readLiteral_36 (by decide) ?_
      refine Rx_istore [_, _, _, _, _, _, _, _, _, _] dX0_readLiteral_37 rfl rfl rfl ?_
      refine Rx_iload_n dX0_readLiteral_39 rfl ?_
      refine Rx_if_ne_t 48 dX0_readLiteral_40 (by decide) (by decide) ?_
      refine Rx_aload_n dX0_readLiteral_48 rfl ?_
      refine Rx_aload_n dX0_readLiteral_49 rfl ?_
      refine Rx_get dX0_readLiteral_50 flX0_19 hr rfl ?_
      refine Rx_put [_, _, _, _, _] dX0_readLiteral_53 fpX0_25 hr rfl (okv_i _) rfl ?_
      exact Rx_vret dX0_readLiteral_56 rfl
  · have f5' : ¬ fullC c = true := by simpa [fullC] using f5
    by_cases z : c = 0
    · by_cases rk : room ≤ k
      · rw [if_pos (Or.inr ⟨z, rk⟩)]
        refine Rx_aload_n dX0_readLiteral_0 rfl ?_
        refine Rx_get dX0_readLiteral_1 flX0_22 hr rfl ?_
        refine Rx_callS [_] dX0_readLiteral_4 clX0_51 (sp_bitCount (d + 2) h c) rfl rfl rfl ?_
        refine Rx_iconst (4) dX0_readLiteral_7 (by decide) ?_
        refine Rx_icmp_lt_t 15 dX0_readLiteral_8 (by decide) (Int32.not_le.mp f5) ?_
        refine Rx_iconst (0) dX0_readLiteral_15 (by decide) ?_
        refine Rx_istore_n [_, _, _, _, _, _, _, _, _, _] dX0_readLiteral_16 rfl rfl rfl ?_
        refine Rx_aload_n dX0_readLiteral_17 rfl ?_
        refine Rx_get dX0_readLiteral_18 flX0_22 hr rfl ?_
        refine Rx_if_ne_f 36 dX0_readLiteral_21 (by decide) z ?_
        refine Rx_aload_n dX0_readLiteral_24 rfl ?_
        refine Rx_get dX0_readLiteral_25 flX0_15 hr rfl ?_
        refine Rx_iload_n dX0_readLiteral_28 rfl ?_
        refine Rx_icmp_lt_f 36 dX0_readLiteral_29 (by decide) (nI_nlt rk (by omega)) ?_
        refine Rx_iconst (1) dX0_readLiteral_32 (by decide) ?_
        refine Rx_goto 37 dX0_readLiteral_33 (by decide) ?_
        refine Rx_istore [_, _, _, _, _, _, _, _, _, _] dX0_readLiteral_37 rfl rfl rfl ?_
        refine Rx_iload_n dX0_readLiteral_39 rfl ?_
        refine Rx_if_ne_f 48 dX0_readLiteral_40 (by decide) rfl ?_
        refine Rx_iload dX0_readLiteral_43 rfl ?_
        refine Rx_if_eq_f 57 dX0_readLiteral_45 (by decide) (by decide) ?_
        refine Rx_aload_n dX0_readLiteral_48 rfl ?_
        refine Rx_aload_n dX0_readLiteral_49 rfl ?_
        refine Rx_get dX0_readLiteral_50 flX0_19 hr rfl ?_
        refine Rx_put [_, _, _, _, _] dX0_readLiteral_53 fpX0_25 hr rfl (okv_i _) rfl ?_
        exact Rx_vret dX0_readLiteral_56 rfl
      · rw [if_neg (fun q => q.elim f5' (fun q => rk q.2))]
        refine Rx_aload_n dX0_readLiteral_0 rfl ?_
        refine Rx_get dX0_readLiteral_1 flX0_22 hr rfl ?_
        refine Rx_callS [_] dX0_readLiteral_4 clX0_51 (sp_bitCount (d + 2) h c) rfl rfl rfl ?_
        refine Rx_iconst (4) dX0_readLiteral_7 (by decide) ?_
        refine Rx_icmp_lt_t 15 dX0_readLiteral_8 (by decide) (Int32.not_le.mp f5) ?_
        refine Rx_iconst (0) dX0_readLiteral_15 (by decide) ?_
        refine Rx_istore_n [_, _, _, _, _, _, _, _, _, _] dX0_readLiteral_16 rfl rfl rfl ?_
        refine Rx_aload_n dX0_readLiteral_17 rfl ?_
        refine Rx_get dX0_readLiteral_18 flX0_22 hr rfl ?_
        refine Rx_if_ne_f 36 dX0_readLiteral_21 (by decide) z ?_
        refine Rx_aload_n dX0_readLiteral_24 rfl ?_
        refine Rx_get dX0_readLiteral_25 flX0_15 hr rfl ?_
        refine Rx_iload_n dX0_readLiteral_28 rfl ?_
        refine Rx_icmp_lt_t 36 dX0_readLiteral_29 (by decide) (nI_lt (by omega) (by omega)) ?_
        refine Rx_iconst (0) dX0_readLiteral_36 (by decide) ?_
        refine Rx_istore [_, _, _, _, _, _, _, _, _, _] dX0_readLiteral_37 rfl rfl rfl ?_
        refine Rx_iload_n dX0_readLiteral_39 rfl ?_
        refine Rx_if_ne_f 48 dX0_readLiteral_40 (by decide) rfl ?_
        refine Rx_iload dX0_readLiteral_43 rfl ?_
        refine Rx_if_eq_t 57 dX0_readLiteral_45 (by decide) rfl ?_
        exact lit_57 d x hr hp _ _ _
    · rw [if_neg (fun q => q.elim f5' (fun q => z q.1))]
      refine Rx_aload_n dX0_readLiteral_0 rfl ?_
      refine Rx_get dX0_readLiteral_1 flX0_22 hr rfl ?_
      refine Rx_callS [_] dX0_readLiteral_4 clX0_51 (sp_bitCount (d + 2) h c) rfl rfl rfl ?_
      refine Rx_iconst (4) dX0_readLiteral_7 (by decide) ?_
      refine Rx_icmp_lt_t 15 dX0_readLiteral_8 (by decide) (Int32.not_le.mp f5) ?_
      refine Rx_iconst (0) dX0_readLiteral_15 (by decide) ?_
      refine Rx_istore_n [_, _, _, _, _, _, _, _, _, _] dX0_readLiteral_16 rfl rfl rfl ?_
      refine Rx_aload_n dX0_readLiteral_17 rfl ?_
      refine Rx_get dX0_readLiteral_18 flX0_22 hr rfl ?_
      refine Rx_if_ne_t 36 dX0_readLiteral_21 (by decide) z ?_
      refine Rx_iconst (0) dX0_readLiteral_36 (by decide) ?_
      refine Rx_istore [_, _, _, _, _, _, _, _, _, _] dX0_readLiteral_37 rfl rfl rfl ?_
      refine Rx_iload_n dX0_readLiteral_39 rfl ?_
      refine Rx_if_ne_f 48 dX0_readLiteral_40 (by decide) rfl ?_
      refine Rx_iload dX0_readLiteral_43 rfl ?_
      refine Rx_if_eq_t 57 dX0_readLiteral_45 (by decide) rfl ?_
      exact lit_57 d x hr hp _ _ _
/-- the reader's cells behind a token -/
def tkHeap (h : Hp) (k p : Nat) (c : Int32) (rc : Nat → Int32) (r : Nat ⊕ (Nat × Int32 × Bool)) : Hp := match r with
  | .inl e => h.set 23 (obR k p c (nI e))
  | .inr (p', c', false) => h.set 23 (obR k p' c' (-1))
  | .inr (p', c', true) => (h.set 24 (aI 16 (upd rc k c))).set 23 (obR (k + 1) p' c' (-1))
theorem sp_close (d : Nat) {h : Hp} {p k : Nat} {c : Int32} {rc : Nat → Int32} (hr : h[23]? = some (obR k p c (-1))) (hc : h[24]? = some (aI 16 rc)) (hk : ¬ c = 0 → k < 16) :
    Mx mX0_closeClause d [.ref 23] h none (tkHeap h k p c rc (if c = 0 then .inl p else .inr (p + 1, 0, true))) := by
  refine Mx_of [_] (by decide +kernel) rfl rfl ?_
  by_cases z : c = 0
  · rw [if_pos z]
    refine Rx_aload_n dX0_closeClause_0 rfl ?_
    refine Rx_get dX0_closeClause_1 flX0_22 hr rfl ?_
    refine Rx_if_eq_t 16 dX0_closeClause_4 (by decide) z ?_
    refine Rx_aload_n dX0_closeClause_16 rfl ?_
    refine Rx_aload_n dX0_closeClause_17 rfl ?_
    refine Rx_get dX0_closeClause_18 flX0_19 hr rfl ?_
    refine Rx_put [_, _, _, _, _] dX0_closeClause_21 fpX0_25 hr rfl (okv_i _) rfl ?_
    exact Rx_vret dX0_closeClause_24 rfl
  · rw [if_neg z]
    have k16 := hk z
    refine Rx_aload_n dX0_closeClause_0 rfl ?_
    refine Rx_get dX0_closeClause_1 flX0_22 hr rfl ?_
    refine Rx_if_eq_f 16 dX0_closeClause_4 (by decide) z ?_
    refine Rx_aload_n dX0_closeClause_7 rfl ?_
    refine Rx_get dX0_closeClause_8 flX0_15 hr rfl ?_
    refine Rx_bipush (16) dX0_closeClause_11 (by decide) ?_
    refine Rx_icmp_lt_t 25 dX0_closeClause_13 (by decide) (nI_lt k16 (by decide)) ?_
    refine Rx_aload_n dX0_closeClause_25 rfl ?_
    refine Rx_get dX0_closeClause_26 flX0_9 hr rfl ?_
    refine Rx_aload_n dX0_closeClause_29 rfl ?_
    refine Rx_get dX0_closeClause_30 flX0_15 hr rfl ?_
    refine Rx_aload_n dX0_closeClause_33 rfl ?_
    refine Rx_get dX0_closeClause_34 flX0_22 hr rfl ?_
    refine Rx_iast k dX0_closeClause_37 hc k16 (by decide) rfl ?_
    have r1 := hNs (e' := aI 16 (upd rc k c)) (by decide : (24 : Nat) ≠ 23) hr
    refine Rx_aload_n dX0_closeClause_38 rfl ?_
    refine Rx_dup dX0_closeClause_39 rfl ?_
    refine Rx_get dX0_closeClause_40 flX0_15 r1 rfl ?_
    refine Rx_iconst (1) dX0_closeClause_43 (by decide) ?_
    refine Rx_iadd dX0_closeClause_44 ?_
    refine Rx_put [_, _, _, _, _] dX0_closeClause_45 fpX0_15 r1 rfl (okv_i _) rfl ?_
    rw [nI_1]
    have r2 := hS (obR (k + 1) p c (-1)) r1
    refine Rx_aload_n dX0_closeClause_48 rfl ?_
    refine Rx_iconst (0) dX0_closeClause_49 (by decide) ?_
    refine Rx_put [_, _, _, _, _] dX0_closeClause_50 fpX0_22 r2 rfl (okv_i _) rfl ?_
    have r3 := hS (obR (k + 1) p 0 (-1)) r2
    refine Rx_aload_n dX0_closeClause_53 rfl ?_
    refine Rx_dup dX0_closeClause_54 rfl ?_
    refine Rx_get dX0_closeClause_55 flX0_19 r3 rfl ?_
    refine Rx_iconst (1) dX0_closeClause_58 (by decide) ?_
    refine Rx_iadd dX0_closeClause_59 ?_
    refine Rx_put [_, _, _, _, _] dX0_closeClause_60 fpX0_19 r3 rfl (okv_i _) rfl ?_
    rw [nI_1, List.set_set, List.set_set]
    exact Rx_vret dX0_closeClause_63 rfl
theorem sp_readToken (d : Nat) {h : Hp} {n p k room : Nat} {t : Nat → Int32} {c : Int32} {rc : Nat → Int32} (x : TI h n t) (hr : h[23]? = some (obR k p c (-1))) (hc : h[24]? = some (aI 16 rc)) (hp : p < n) (hk : k ≤ 16) (hk2 : ¬ c = 0 → k < 16) (hroom : room ≤ 16) :
    Mx mX0_readToken (d + 4) [.ref 23, .ref 21, .int (nI room)] h none (tkHeap h k p c rc (gTok fullC fBit fVars n t room p k c)) := by
  have lit : tkHeap h k p c rc (if fullC c = true ∨ (c = 0 ∧ room ≤ k) then .inl p else match gLit fBit fVars n t p c with
      | .inl e => .inl e
      | .inr (p', c') => .inr (p', c', false)) = h.set 23 (rdCell k p c (if fullC c = true ∨ (c = 0 ∧ room ≤ k) then .inl p else gLit fBit fVars n t p c)) := by
    split
    · rfl
    · cases gLit fBit fVars n t p c <;> rfl
  refine Mx_of [_, _, _, _] (by decide +kernel) rfl rfl ?_
  unfold gTok
  by_cases s1 : t p = 32
  · rw [if_pos s1]
    refine Rx_aload_n dX0_readToken_0 rfl ?_
    refine Rx_aload_n dX0_readToken_1 rfl ?_
    refine Rx_get dX0_readToken_2 flX0_19 hr rfl ?_
    refine Rx_callV [_] dX0_readToken_5 clX0_37 rfl x.1 (sp_byteAt (d + 3) x hp) rfl rfl rfl ?_
    refine Rx_istore_n [_, _, _, _] dX0_readToken_8 rfl rfl rfl ?_
    refine Rx_iload_n dX0_readToken_9 rfl ?_
    refine Rx_bipush (32) dX0_readToken_10 (by decide) ?_
    refine Rx_icmp_ne_f 28 dX0_readToken_12 (by decide) s1 ?_
    refine Rx_aload_n dX0_readToken_15 rfl ?_
    refine Rx_dup dX0_readToken_16 rfl ?_
    refine Rx_get dX0_readToken_17 flX0_19 hr rfl ?_
    refine Rx_iconst (1) dX0_readToken_20 (by decide) ?_
    refine Rx_iadd dX0_readToken_21 ?_
    refine Rx_put [_, _, _, _, _] dX0_readToken_22 fpX0_19 hr rfl (okv_i _) rfl ?_
    rw [nI_1]
    refine Rx_goto 75 dX0_readToken_25 (by decide) ?_
    exact Rx_vret dX0_readToken_75 rfl
  · rw [if_neg s1]
    by_cases s2 : t p = 59
    · rw [if_pos s2]
      refine Rx_aload_n dX0_readToken_0 rfl ?_
      refine Rx_aload_n dX0_readToken_1 rfl ?_
      refine Rx_get dX0_readToken_2 flX0_19 hr rfl ?_
      refine Rx_callV [_] dX0_readToken_5 clX0_37 rfl x.1 (sp_byteAt (d + 3) x hp) rfl rfl rfl ?_
      refine Rx_istore_n [_, _, _, _] dX0_readToken_8 rfl rfl rfl ?_
      refine Rx_iload_n dX0_readToken_9 rfl ?_
      refine Rx_bipush (32) dX0_readToken_10 (by decide) ?_
      refine Rx_icmp_ne_t 28 dX0_readToken_12 (by decide) s1 ?_
      refine Rx_iload_n dX0_readToken_28 rfl ?_
      refine Rx_bipush (59) dX0_readToken_29 (by decide) ?_
      refine Rx_icmp_ne_f 41 dX0_readToken_31 (by decide) s2 ?_
      refine Rx_aload_n dX0_readToken_34 rfl ?_
      refine Rx_callVv [] dX0_readToken_35 clX0_41 rfl hr (sp_close (d + 3) hr hc hk2) rfl rfl rfl ?_
      refine Rx_goto 75 dX0_readToken_38 (by decide) ?_
      exact Rx_vret dX0_readToken_75 rfl
    · rw [if_neg s2]
      by_cases s3 : t p = 45
      · rw [if_pos (Or.inl s3), lit]
        refine Rx_aload_n dX0_readToken_0 rfl ?_
        refine Rx_aload_n dX0_readToken_1 rfl ?_
        refine Rx_get dX0_readToken_2 flX0_19 hr rfl ?_
        refine Rx_callV [_] dX0_readToken_5 clX0_37 rfl x.1 (sp_byteAt (d + 3) x hp) rfl rfl rfl ?_
        refine Rx_istore_n [_, _, _, _] dX0_readToken_8 rfl rfl rfl ?_
        refine Rx_iload_n dX0_readToken_9 rfl ?_
        refine Rx_bipush (32) dX0_readToken_10 (by decide) ?_
        refine Rx_icmp_ne_t 28 dX0_readToken_12 (by decide) s1 ?_
        refine Rx_iload_n dX0_readToken_28 rfl ?_
        refine Rx_bipush (59) dX0_readToken_29 (by decide) ?_
        refine Rx_icmp_ne_t 41 dX0_readToken_31 (by decide) s2 ?_
        refine Rx_iload_n dX0_readToken_41 rfl ?_
        refine Rx_bipush (45) dX0_readToken_42 (by decide) ?_
        refine Rx_icmp_eq_t 58 dX0_readToken_44 (by decide) s3 ?_
        refine Rx_aload_n dX0_readToken_58 rfl ?_
        refine Rx_aload_n dX0_readToken_59 rfl ?_
        refine Rx_iload_n dX0_readToken_60 rfl ?_
        refine Rx_callVv [_, _] dX0_readToken_61 clX0_48 rfl hr (sp_readLiteral d x hr hp hk hroom) rfl rfl rfl ?_
        refine Rx_goto 75 dX0_readToken_64 (by decide) ?_
        exact Rx_vret dX0_readToken_75 rfl
      · by_cases s4 : digb n t p = true
        · rw [if_pos (Or.inr s4), lit]
          refine Rx_aload_n dX0_readToken_0 rfl ?_
          refine Rx_aload_n dX0_readToken_1 rfl ?_
          refine Rx_get dX0_readToken_2 flX0_19 hr rfl ?_
          refine Rx_callV [_] dX0_readToken_5 clX0_37 rfl x.1 (sp_byteAt (d + 3) x hp) rfl rfl rfl ?_
          refine Rx_istore_n [_, _, _, _] dX0_readToken_8 rfl rfl rfl ?_
          refine Rx_iload_n dX0_readToken_9 rfl ?_
          refine Rx_bipush (32) dX0_readToken_10 (by decide) ?_
          refine Rx_icmp_ne_t 28 dX0_readToken_12 (by decide) s1 ?_
          refine Rx_iload_n dX0_readToken_28 rfl ?_
          refine Rx_bipush (59) dX0_readToken_29 (by decide) ?_
          refine Rx_icmp_ne_t 41 dX0_readToken_31 (by decide) s2 ?_
          refine Rx_iload_n dX0_readToken_41 rfl ?_
          refine Rx_bipush (45) dX0_readToken_42 (by decide) ?_
          refine Rx_icmp_eq_f 58 dX0_readToken_44 (by decide) s3 ?_
          refine Rx_aload_n dX0_readToken_47 rfl ?_
          refine Rx_aload_n dX0_readToken_48 rfl ?_
          refine Rx_get dX0_readToken_49 flX0_19 hr rfl ?_
          refine Rx_callV [_] dX0_readToken_52 clX0_44 rfl x.1 (sp_hasDig_t (d + 2) x (digb_iff.mp s4)) rfl rfl rfl ?_
          refine Rx_if_eq_f 67 dX0_readToken_55 (by decide) (by decide) ?_
          refine Rx_aload_n dX0_readToken_58 rfl ?_
          refine Rx_aload_n dX0_readToken_59 rfl ?_
          refine Rx_iload_n dX0_readToken_60 rfl ?_
          refine Rx_callVv [_, _] dX0_readToken_61 clX0_48 rfl hr (sp_readLiteral d x hr hp hk hroom) rfl rfl rfl ?_
          refine Rx_goto 75 dX0_readToken_64 (by decide) ?_
          exact Rx_vret dX0_readToken_75 rfl
        · rw [if_neg (fun q => q.elim s3 s4)]
          have hn := x.2.2
          refine Rx_aload_n dX0_readToken_0 rfl ?_
          refine Rx_aload_n dX0_readToken_1 rfl ?_
          refine Rx_get dX0_readToken_2 flX0_19 hr rfl ?_
          refine Rx_callV [_] dX0_readToken_5 clX0_37 rfl x.1 (sp_byteAt (d + 3) x hp) rfl rfl rfl ?_
          refine Rx_istore_n [_, _, _, _] dX0_readToken_8 rfl rfl rfl ?_
          refine Rx_iload_n dX0_readToken_9 rfl ?_
          refine Rx_bipush (32) dX0_readToken_10 (by decide) ?_
          refine Rx_icmp_ne_t 28 dX0_readToken_12 (by decide) s1 ?_
          refine Rx_iload_n dX0_readToken_28 rfl ?_
          refine Rx_bipush (59) dX0_readToken_29 (by decide) ?_
          refine Rx_icmp_ne_t 41 dX0_readToken_31 (by decide) s2 ?_
          refine Rx_iload_n dX0_readToken_41 rfl ?_
          refine Rx_bipush (45) dX0_readToken_42 (by decide) ?_
          refine Rx_icmp_eq_f 58 dX0_readToken_44 (by decide) s3 ?_
          refine Rx_aload_n dX0_readToken_47 rfl ?_
          refine Rx_aload_n dX0_readToken_48 rfl ?_
          refine Rx_get dX0_readToken_49 flX0_19 hr rfl ?_
          refine Rx_callV [_] dX0_readToken_52 clX0_44 rfl x.1 (sp_hasDig_f (d + 2) x (digb_not.mp (by simpa using s4)) (by omega)) rfl rfl rfl ?_
          refine Rx_if_eq_t 67 dX0_readToken_55 (by decide) rfl ?_
          refine Rx_aload_n dX0_readToken_67 rfl ?_
          refine Rx_aload_n dX0_readToken_68 rfl ?_
          refine Rx_get dX0_readToken_69 flX0_19 hr rfl ?_
          refine Rx_put [_, _, _, _, _] dX0_readToken_72 fpX0_25 hr rfl (okv_i _) rfl ?_
          exact Rx_vret dX0_readToken_75 rfl
end
section
/-! the whole text -/
def gRun (full : Int32 → Bool) (bit vars : Int32 → Int32) (n : Nat) (t : Nat → Int32) (room : Nat) : Nat → Nat → Nat → Int32 → (Nat → Int32) → Nat ⊕ (Nat × Int32 × (Nat → Int32))
  | 0, _, k, c, rc => .inr (k, c, rc)
  | f + 1, p, k, c, rc => if p < n then (match gTok full bit vars n t room p k c with
      | .inl e => .inl e
      | .inr (p', c', false) => gRun full bit vars n t room f p' k c' rc
      | .inr (p', c', true) => gRun full bit vars n t room f p' (k + 1) c' (upd rc k c)) else .inr (k, c, rc)
def gRead (full : Int32 → Bool) (bit vars : Int32 → Int32) (n : Nat) (t : Nat → Int32) (room : Nat) (rc : Nat → Int32) : Nat ⊕ (Nat × (Nat → Int32)) :=
  match gRun full bit vars n t room 150 0 0 0 rc with
  | .inl e => .inl e
  | .inr (k, c, rc') => if c = 0 then .inr (k, rc') else .inl n
theorem gTok_inv {full : Int32 → Bool} {bit vars : Int32 → Int32} {n : Nat} {t : Nat → Int32} {room p k p' : Nat} {c c' : Int32} {b : Bool} (hroom : room ≤ 16) (hk : k ≤ 16) (hk2 : ¬ c = 0 → k < 16) (e : gTok full bit vars n t room p k c = .inr (p', c', b)) :
    (b = false → ¬ c' = 0 → k < 16) ∧ (b = true → c' = 0 ∧ k < 16) := by
  unfold gTok at e
  split at e
  · cases e
    exact ⟨fun _ => hk2, fun h => by cases h⟩
  · split at e
    · split at e
      · cases e
      · next z =>
        cases e
        exact ⟨(fun h => by cases h), fun _ => ⟨rfl, hk2 z⟩⟩
    · split at e
      · split at e
        · cases e
        · next hf =>
          cases hg : gLit bit vars n t p c with
          | inl e' => rw [hg] at e; cases e
          | inr w =>
            obtain ⟨p1, c1⟩ := w
            rw [hg] at e
            cases e
            refine ⟨fun _ _ => ?_, fun h => by cases h⟩
            by_cases z : c = 0
            · have : ¬ room ≤ k := fun q => hf (Or.inr ⟨z, q⟩)
              omega
            · exact hk2 z
      · cases e
def RD (h : Hp) : Prop := ∃ (k p c e : Int32) (rc : Nat → Int32), h[23]? = some (.inr (0, [.ref 24, .int k, .int p, .int c, .int e])) ∧ h[24]? = some (aI 16 rc)
theorem TI.fr {T : List Nat} {h h' : Hp} {n : Nat} {t : Nat → Int32} (x : TI h n t) (F : Fr T h h') (h1 : 21 ∉ T) (h2 : 22 ∉ T) : TI h' n t := ⟨F.at h1 x.1, F.at h2 x.2.1, x.2.2⟩
theorem read_end (d : Nat) {h : Hp} {n p k : Nat} {t : Nat → Int32} {c : Int32} {rc : Nat → Int32} (x : TI h n t) (hr : h[23]? = some (obR k p c (-1))) (hc : h[24]? = some (aI 16 rc)) (x2 x3 : Int32) {Q : Option Value → Hp → Prop}
    (q1 : c = 0 → Q (some (.int (-1))) h) (q2 : ¬ c = 0 → Q (some (.int (nI n))) (h.set 23 (obR k p c (nI n)))) : Rq mX0_read d 60 [.ref 23, .ref 21, .int x2, .int x3] [] h Q := by
  by_cases z : c = 0
  · refine Rq_aload_n dX0_read_60 rfl ?_
    refine Rq_get dX0_read_61 flX0_25 hr rfl ?_
    refine Rq_iconst (-1) dX0_read_64 (by decide) ?_
    refine Rq_icmp_ne_f 83 dX0_read_65 (by decide) rfl ?_
    refine Rq_aload_n dX0_read_68 rfl ?_
    refine Rq_get dX0_read_69 flX0_22 hr rfl ?_
    refine Rq_if_eq_t 83 dX0_read_72 (by decide) z ?_
    refine Rq_aload_n dX0_read_83 rfl ?_
    refine Rq_get dX0_read_84 flX0_25 hr rfl ?_
    refine Rq_iret dX0_read_87 rfl ?_
    exact q1 z
  · refine Rq_aload_n dX0_read_60 rfl ?_
    refine Rq_get dX0_read_61 flX0_25 hr rfl ?_
    refine Rq_iconst (-1) dX0_read_64 (by decide) ?_
    refine Rq_icmp_ne_f 83 dX0_read_65 (by decide) rfl ?_
    refine Rq_aload_n dX0_read_68 rfl ?_
    refine Rq_get dX0_read_69 flX0_22 hr rfl ?_
    refine Rq_if_eq_f 83 dX0_read_72 (by decide) z ?_
    refine Rq_aload_n dX0_read_75 rfl ?_
    refine Rq_aload_n dX0_read_76 rfl ?_
    refine Rq_get dX0_read_77 flX0_28 x.1 rfl ?_
    refine Rq_put [_, _, _, _, _] dX0_read_80 fpX0_25 hr rfl (okv_i _) rfl ?_
    refine Rq_aload_n dX0_read_83 rfl ?_
    refine Rq_get dX0_read_84 flX0_25 (hS _ hr) rfl ?_
    refine Rq_iret dX0_read_87 rfl ?_
    exact q2 z
theorem read_err (d : Nat) {h : Hp} {p k e : Nat} {c : Int32} (hr : h[23]? = some (obR k p c (nI e))) (he : e < 1000) (x2 x3 : Int32) {Q : Option Value → Hp → Prop} (q1 : Q (some (.int (nI e))) h) : Rq mX0_read d 60 [.ref 23, .ref 21, .int x2, .int x3] [] h Q := by
  have ne : ¬ nI e = -1 := fun z => by
    have := congrArg Int32.toInt z
    rw [nI_toInt (by omega)] at this
    have h2 : (-1 : Int32).toInt = -1 := by decide
    omega
  refine Rq_aload_n dX0_read_60 rfl ?_
  refine Rq_get dX0_read_61 flX0_25 hr rfl ?_
  refine Rq_iconst (-1) dX0_read_64 (by decide) ?_
  refine Rq_icmp_ne_t 83 dX0_read_65 (by decide) ne ?_
  refine Rq_aload_n dX0_read_83 rfl ?_
  refine Rq_get dX0_read_84 flX0_25 hr rfl ?_
  refine Rq_iret dX0_read_87 rfl ?_
  exact q1
theorem gLit_lt {bit vars : Int32 → Int32} {n : Nat} {t : Nat → Int32} {p : Nat} {c : Int32} (hp : p < n) (hn : n ≤ 150) : (∀ e, gLit bit vars n t p c = .inl e → e < 1000) ∧ (∀ p' c', gLit bit vars n t p c = .inr (p', c') → p < p' ∧ p' ≤ n) := by
  have hq : p ≤ (if t p = 45 then p + 1 else p) ∧ (if t p = 45 then p + 1 else p) ≤ p + 1 := by split <;> omega
  unfold gLit
  generalize (if t p = 45 then p + 1 else p) = q at hq ⊢
  generalize (if t p = 45 then -numv t q (cntD n t q) else numv t q (cntD n t q)) = w
  refine ⟨fun e h => ?_, fun p' c' h => ?_⟩
  · split at h
    · cases h; omega
    · split at h
      · cases h; omega
      · split at h
        · split at h
          · cases h
          · cases h; omega
        · cases h; omega
  · split at h
    · cases h
    · next h0 =>
      split at h
      · cases h
      · next h3 =>
        split at h
        · split at h
          · cases h
            have d1 := cntD_1 h0
            have l3 := cntD_le n t q
            by_cases c1 : cntD n t q = 1
            · have := d1.1; omega
            · have c2 : cntD n t q = 2 := by omega
              have := (cntD_2 c2).1; omega
          · cases h
        · cases h
theorem gTok_lt {full : Int32 → Bool} {bit vars : Int32 → Int32} {n : Nat} {t : Nat → Int32} {room p k : Nat} {c : Int32} (hp : p < n) (hn : n ≤ 150) : (∀ e, gTok full bit vars n t room p k c = .inl e → e < 1000) ∧ (∀ p' c' b, gTok full bit vars n t room p k c = .inr (p', c', b) → p < p' ∧ p' ≤ n) := by
  have hg := gLit_lt (bit := bit) (vars := vars) (t := t) (c := c) hp hn
  unfold gTok
  refine ⟨fun e h => ?_, fun p' c' b h => ?_⟩
  · split at h
    · cases h
    · split at h
      · split at h
        · cases h; omega
        · cases h
      · split at h
        · split at h
          · cases h; omega
          · cases hh : gLit bit vars n t p c with
            | inl e' => rw [hh] at h; cases h; exact hg.1 _ hh
            | inr w => rw [hh] at h; cases h
        · cases h; omega
  · split at h
    · cases h; omega
    · split at h
      · split at h
        · cases h
        · cases h; omega
      · split at h
        · split at h
          · cases h
          · cases hh : gLit bit vars n t p c with
            | inl e' => rw [hh] at h; cases h
            | inr w => obtain ⟨p1, c1⟩ := w; rw [hh] at h; cases h; exact hg.2 _ _ hh
        · cases h
/-- what read leaves -/
def rdPost (h : Hp) (n : Nat) (g : Nat ⊕ (Nat × Int32 × (Nat → Int32))) (r : Option Value) (h' : Hp) : Prop := Fr [23, 24] h h' ∧ RD h' ∧ match g with
  | .inl e => r = some (.int (nI e))
  | .inr (k, c, rc) => (c = 0 → r = some (.int (-1)) ∧ k ≤ 16 ∧ (∃ p, h'[23]? = some (obR k p 0 (-1))) ∧ h'[24]? = some (aI 16 rc)) ∧ (¬ c = 0 → r = some (.int (nI n)))
theorem read_loop (d : Nat) {n room : Nat} {t : Nat → Int32} (hroom : room ≤ 16) : ∀ (f i : Nat) (h : Hp) (p k : Nat) (c : Int32) (rc : Nat → Int32), i + f = 150 → TI h n t → h[23]? = some (obR k p c (-1)) → h[24]? = some (aI 16 rc) → p ≤ n → k ≤ 16 → (¬ c = 0 → k < 16) →
    Rq mX0_read (d + 5) 22 [.ref 23, .ref 21, .int (nI room), .int (nI i)] [] h (rdPost h n (gRun fullC fBit fVars n t room f p k c rc)) := by
  intro f
  induction f with
  | zero =>
    intro i h p k c rc hi x hr hc hp hk hk2
    have e : i = 150 := by omega
    subst e
    refine Rq_iload_n dX0_read_22 rfl ?_
    refine Rq_sipush (150) dX0_read_23 (by decide) ?_
    refine Rq_icmp_ge_t 60 dX0_read_26 (by decide) (nI_le (Nat.le_refl _) (by decide)) ?_
    refine read_end (d + 5) x hr hc _ _ (fun z => ?_) (fun z => ?_)
    · subst z
      exact ⟨Fr.rfl', ⟨_, _, _, _, _, hr, hc⟩, fun _ => ⟨rfl, hk, ⟨p, hr⟩, hc⟩, fun z => absurd rfl z⟩
    · exact ⟨Fr.set (by decide), ⟨_, _, _, _, _, hS _ hr, hNs (by decide) hc⟩, fun q => absurd q z, fun _ => rfl⟩
  | succ f ih =>
    intro i h p k c rc hi x hr hc hp hk hk2
    have hn := x.2.2
    unfold gRun
    by_cases hpn : p < n
    · rw [if_pos hpn]
      refine Rq_iload_n dX0_read_22 rfl ?_
      refine Rq_sipush (150) dX0_read_23 (by decide) ?_
      refine Rq_icmp_ge_f 60 dX0_read_26 (by decide) (nI_ge (b := 150) (by omega) (by decide)) ?_
      refine Rq_aload_n dX0_read_29 rfl ?_
      refine Rq_get dX0_read_30 flX0_19 hr rfl ?_
      refine Rq_aload_n dX0_read_33 rfl ?_
      refine Rq_get dX0_read_34 flX0_28 x.1 rfl ?_
      refine Rq_icmp_ge_f 60 dX0_read_37 (by decide) (nI_ge hpn (by omega)) ?_
      refine Rq_aload_n dX0_read_40 rfl ?_
      refine Rq_get dX0_read_41 flX0_25 hr rfl ?_
      refine Rq_iconst (-1) dX0_read_44 (by decide) ?_
      refine Rq_icmp_ne_f 60 dX0_read_45 (by decide) rfl ?_
      refine Rq_aload_n dX0_read_48 rfl ?_
      refine Rq_aload_n dX0_read_49 rfl ?_
      refine Rq_iload_n dX0_read_50 rfl ?_
      refine Rq_callVv [_, _] dX0_read_51 clX0_33 rfl hr (sp_readToken d x hr hc hpn hk hk2 hroom) rfl rfl rfl ?_
      have hl := gTok_lt (full := fullC) (bit := fBit) (vars := fVars) (t := t) (room := room) (k := k) (c := c) hpn hn
      have hv := fun p' c' b => gTok_inv (full := fullC) (bit := fBit) (vars := fVars) (n := n) (t := t) (room := room) (p := p) (k := k) (p' := p') (c := c) (c' := c') (b := b) hroom hk hk2
      generalize hg : gTok fullC fBit fVars n t room p k c = g at hl hv ⊢
      match g with
      | .inl e =>
        have he := hl.1 e rfl
        have r1 := hS (obR k p c (nI e)) hr
        simp only [tkHeap]
        have ne : ¬ nI e = -1 := fun z => by
          have := congrArg Int32.toInt z
          rw [nI_toInt (by omega)] at this
          have h2 : (-1 : Int32).toInt = -1 := by decide
          omega
        by_cases i1 : i + 1 < 150
        · refine Rq_iinc [_, _, _, _] (1) dX0_read_54 rfl (by decide) rfl rfl rfl ?_
          refine Rq_goto 22 dX0_read_57 (by decide) ?_
          rw [nI_1]
          refine Rq_iload_n dX0_read_22 rfl ?_
          refine Rq_sipush (150) dX0_read_23 (by decide) ?_
          refine Rq_icmp_ge_f 60 dX0_read_26 (by decide) (nI_ge (b := 150) i1 (by decide)) ?_
          refine Rq_aload_n dX0_read_29 rfl ?_
          refine Rq_get dX0_read_30 flX0_19 r1 rfl ?_
          refine Rq_aload_n dX0_read_33 rfl ?_
          refine Rq_get dX0_read_34 flX0_28 (hNs (by decide) x.1) rfl ?_
          refine Rq_icmp_ge_f 60 dX0_read_37 (by decide) (nI_ge hpn (by omega)) ?_
          refine Rq_aload_n dX0_read_40 rfl ?_
          refine Rq_get dX0_read_41 flX0_25 r1 rfl ?_
          refine Rq_iconst (-1) dX0_read_44 (by decide) ?_
          refine Rq_icmp_ne_t 60 dX0_read_45 (by decide) ne ?_
          exact read_err (d + 5) r1 he _ _ ⟨Fr.set (by decide), ⟨_, _, _, _, _, r1, hNs (by decide) hc⟩, rfl⟩
        · refine Rq_iinc [_, _, _, _] (1) dX0_read_54 rfl (by decide) rfl rfl rfl ?_
          refine Rq_goto 22 dX0_read_57 (by decide) ?_
          rw [nI_1]
          refine Rq_iload_n dX0_read_22 rfl ?_
          refine Rq_sipush (150) dX0_read_23 (by decide) ?_
          refine Rq_icmp_ge_t 60 dX0_read_26 (by decide) (nI_le (a := 150) (by omega) (by omega)) ?_
          exact read_err (d + 5) r1 he _ _ ⟨Fr.set (by decide), ⟨_, _, _, _, _, r1, hNs (by decide) hc⟩, rfl⟩
      | .inr (p', c', false) =>
        have he := hl.2 p' c' false rfl
        have r1 := hS (obR k p' c' (-1)) hr
        simp only [tkHeap]
        refine Rq_iinc [_, _, _, _] (1) dX0_read_54 rfl (by decide) rfl rfl rfl ?_
        refine Rq_goto 22 dX0_read_57 (by decide) ?_
        rw [nI_1]
        refine (ih (i + 1) _ p' k c' rc (by omega) (x.fr (T := [23]) (Fr.set (by decide)) (by decide) (by decide)) r1 (hNs (by decide) hc) (by omega) hk ((hv p' c' false rfl).1 rfl)).mono ?_
        rintro r h' ⟨y1, y2, y3⟩
        exact ⟨Fr.trans (Fr.set (by decide)) y1, y2, y3⟩
      | .inr (p', c', true) =>
        have he := hl.2 p' c' true rfl
        obtain ⟨z1, z2⟩ := (hv p' c' true rfl).2 rfl
        have r1 := hS (obR (k + 1) p' c' (-1)) (hNs (e' := aI 16 (upd rc k c)) (by decide : (24 : Nat) ≠ 23) hr)
        simp only [tkHeap]
        refine Rq_iinc [_, _, _, _] (1) dX0_read_54 rfl (by decide) rfl rfl rfl ?_
        refine Rq_goto 22 dX0_read_57 (by decide) ?_
        rw [nI_1]
        refine (ih (i + 1) _ p' (k + 1) c' (upd rc k c) (by omega) (x.fr (T := [23, 24]) (Fr.trans (Fr.set (by decide)) (Fr.set (by decide))) (by decide) (by decide)) r1 (hNs (by decide) (hS _ hc)) (by omega) (by omega) (fun z => absurd z1 z)).mono ?_
        rintro r h' ⟨y1, y2, y3⟩
        exact ⟨Fr.trans (Fr.trans (Fr.set (by decide)) (Fr.set (by decide))) y1, y2, y3⟩
    · rw [if_neg hpn]
      refine Rq_iload_n dX0_read_22 rfl ?_
      refine Rq_sipush (150) dX0_read_23 (by decide) ?_
      refine Rq_icmp_ge_f 60 dX0_read_26 (by decide) (nI_ge (b := 150) (by omega) (by decide)) ?_
      refine Rq_aload_n dX0_read_29 rfl ?_
      refine Rq_get dX0_read_30 flX0_19 hr rfl ?_
      refine Rq_aload_n dX0_read_33 rfl ?_
      refine Rq_get dX0_read_34 flX0_28 x.1 rfl ?_
      refine Rq_icmp_ge_t 60 dX0_read_37 (by decide) (nI_le (by omega) (by omega)) ?_
      refine read_end (d + 5) x hr hc _ _ (fun z => ?_) (fun z => ?_)
      · subst z
        exact ⟨Fr.rfl', ⟨_, _, _, _, _, hr, hc⟩, fun _ => ⟨rfl, hk, ⟨p, hr⟩, hc⟩, fun z => absurd rfl z⟩
      · exact ⟨Fr.set (by decide), ⟨_, _, _, _, _, hS _ hr, hNs (by decide) hc⟩, fun q => absurd q z, fun _ => rfl⟩
theorem sp_read (d : Nat) {h : Hp} {n room : Nat} {t : Nat → Int32} (x : TI h n t) (y : RD h) (hroom : room ≤ 16) : ∃ rc, Mq mX0_read (d + 5) [.ref 23, .ref 21, .int (nI room)] h (rdPost h n (gRun fullC fBit fVars n t room 150 0 0 0 rc)) := by
  obtain ⟨k, p, c, e, rc, hr, hc⟩ := y
  refine ⟨rc, ?_⟩
  refine Mq_of [_, _, _, _] (by decide +kernel) rfl rfl ?_
  refine Rq_aload_n dX0_read_0 rfl ?_
  refine Rq_iconst (0) dX0_read_1 (by decide) ?_
  refine Rq_put [_, _, _, _, _] dX0_read_2 fpX0_15 hr rfl (okv_i _) rfl ?_
  refine Rq_aload_n dX0_read_5 rfl ?_
  refine Rq_iconst (0) dX0_read_6 (by decide) ?_
  refine Rq_put [_, _, _, _, _] dX0_read_7 fpX0_19 (hS _ hr) rfl (okv_i _) rfl ?_
  refine Rq_aload_n dX0_read_10 rfl ?_
  refine Rq_iconst (0) dX0_read_11 (by decide) ?_
  refine Rq_put [_, _, _, _, _] dX0_read_12 fpX0_22 (hS _ (hS _ hr)) rfl (okv_i _) rfl ?_
  refine Rq_aload_n dX0_read_15 rfl ?_
  refine Rq_iconst (-1) dX0_read_16 (by decide) ?_
  refine Rq_put [_, _, _, _, _] dX0_read_17 fpX0_25 (hS _ (hS _ (hS _ hr))) rfl (okv_i _) rfl ?_
  refine Rq_iconst (0) dX0_read_20 (by decide) ?_
  refine Rq_istore_n [_, _, _, _] dX0_read_21 rfl rfl rfl ?_
  rw [List.set_set, List.set_set, List.set_set]
  refine (read_loop d hroom 150 0 _ 0 0 0 rc rfl (x.fr (T := [23]) (Fr.set (by decide)) (by decide) (by decide)) (hS (obR 0 0 0 (-1)) hr) (hNs (by decide) hc) (Nat.zero_le _) (by decide) (fun z => absurd rfl z)).mono ?_
  rintro r h' ⟨y1, y2, y3⟩
  exact ⟨Fr.trans (Fr.set (by decide)) y1, y2, y3⟩
theorem sp_rdClauseAt (d : Nat) {h : Hp} {k i : Nat} {p c e : Int32} {rc : Nat → Int32} (hr : h[23]? = some (.inr (0, [.ref 24, .int (nI k), .int p, .int c, .int e]))) (hc : h[24]? = some (aI 16 rc)) (hi : i < k) (hk : k ≤ 16) : Mx mX0_clauseAt d [.ref 23, .int (nI i)] h (some (.int (rc i))) h := by
  refine Mx_of [_, _] (by decide +kernel) rfl rfl ?_
  refine Rx_iload_n dX0_clauseAt_0 rfl ?_
  refine Rx_if_lt_f 27 dX0_clauseAt_1 (by decide) (nI_pos (by omega)) ?_
  refine Rx_iload_n dX0_clauseAt_4 rfl ?_
  refine Rx_aload_n dX0_clauseAt_5 rfl ?_
  refine Rx_get dX0_clauseAt_6 flX0_15 hr rfl ?_
  refine Rx_icmp_ge_f 27 dX0_clauseAt_9 (by decide) (nI_ge hi (by omega)) ?_
  refine Rx_iload_n dX0_clauseAt_12 rfl ?_
  refine Rx_bipush (16) dX0_clauseAt_13 (by decide) ?_
  refine Rx_icmp_ge_f 27 dX0_clauseAt_15 (by decide) (nI_ge (b := 16) (by omega) (by decide)) ?_
  refine Rx_aload_n dX0_clauseAt_18 rfl ?_
  refine Rx_get dX0_clauseAt_19 flX0_9 hr rfl ?_
  refine Rx_iload_n dX0_clauseAt_22 rfl ?_
  refine Rx_iald i dX0_clauseAt_23 hc (by omega) (by decide) rfl ?_
  refine Rx_goto 28 dX0_clauseAt_24 (by decide) ?_
  exact Rx_iret dX0_clauseAt_28 rfl
end
