section
-- ===== PART A: goes FIRST, ahead of the names: the tables' words, and 'selects' of the private methods out of them =====
/-- a private method of a class that the tables say can be made, by its rows of tables_1 -/
def lw_okq (q : MethodName × Nat) : Prop := (q.1.cls ≠ "java/lang/invoke/MethodHandle" ∧ q.1.cls ≠ "java/lang/invoke/VarHandle") ∧ Cond.instantiable q.1.cls q.2 ∈ tables_1 ∧ Cond.privateMethod q.1 ∈ tables_1 ∧ Cond.instanceMethod q.1 ∈ tables_1
theorem lw_p0 : lw_okq (⟨"ModalKeys$Desk", "begin", "([II)V"⟩, 13) := ⟨⟨by decide +kernel, by decide +kernel⟩, List.mem_of_getElem? (i := 22) (by decide +kernel), List.mem_of_getElem? (i := 266) (by decide +kernel), List.mem_of_getElem? (i := 267) (by decide +kernel)⟩
theorem lw_p1 : lw_okq (⟨"ModalKeys$Command", "clear", "()V"⟩, 9) := ⟨⟨by decide +kernel, by decide +kernel⟩, List.mem_of_getElem? (i := 77) (by decide +kernel), List.mem_of_getElem? (i := 276) (by decide +kernel), List.mem_of_getElem? (i := 277) (by decide +kernel)⟩
theorem lw_p2 : lw_okq (⟨"ModalKeys$Text", "has", "(I)Z"⟩, 3) := ⟨⟨by decide +kernel, by decide +kernel⟩, List.mem_of_getElem? (i := 28) (by decide +kernel), List.mem_of_getElem? (i := 284) (by decide +kernel), List.mem_of_getElem? (i := 285) (by decide +kernel)⟩
theorem lw_p3 : lw_okq (⟨"ModalKeys$Text", "at", "(I)I"⟩, 3) := ⟨⟨by decide +kernel, by decide +kernel⟩, List.mem_of_getElem? (i := 28) (by decide +kernel), List.mem_of_getElem? (i := 288) (by decide +kernel), List.mem_of_getElem? (i := 289) (by decide +kernel)⟩
theorem lw_p4 : lw_okq (⟨"ModalKeys$Desk", "isPending", "()Z"⟩, 13) := ⟨⟨by decide +kernel, by decide +kernel⟩, List.mem_of_getElem? (i := 22) (by decide +kernel), List.mem_of_getElem? (i := 305) (by decide +kernel), List.mem_of_getElem? (i := 306) (by decide +kernel)⟩
theorem lw_p5 : lw_okq (⟨"ModalKeys$Desk", "markSet", "()I"⟩, 13) := ⟨⟨by decide +kernel, by decide +kernel⟩, List.mem_of_getElem? (i := 22) (by decide +kernel), List.mem_of_getElem? (i := 309) (by decide +kernel), List.mem_of_getElem? (i := 310) (by decide +kernel)⟩
theorem lw_p6 : lw_okq (⟨"ModalKeys$Text", "words", "()I"⟩, 3) := ⟨⟨by decide +kernel, by decide +kernel⟩, List.mem_of_getElem? (i := 28) (by decide +kernel), List.mem_of_getElem? (i := 313) (by decide +kernel), List.mem_of_getElem? (i := 314) (by decide +kernel)⟩
theorem lw_p7 : lw_okq (⟨"ModalKeys$Text", "kindAt", "(I)I"⟩, 3) := ⟨⟨by decide +kernel, by decide +kernel⟩, List.mem_of_getElem? (i := 28) (by decide +kernel), List.mem_of_getElem? (i := 317) (by decide +kernel), List.mem_of_getElem? (i := 318) (by decide +kernel)⟩
theorem lw_p8 : lw_okq (⟨"ModalKeys$Desk", "press", "(I)I"⟩, 13) := ⟨⟨by decide +kernel, by decide +kernel⟩, List.mem_of_getElem? (i := 22) (by decide +kernel), List.mem_of_getElem? (i := 325) (by decide +kernel), List.mem_of_getElem? (i := 326) (by decide +kernel)⟩
theorem lw_p9 : lw_okq (⟨"ModalKeys$Desk", "strike", "(IZ)I"⟩, 13) := ⟨⟨by decide +kernel, by decide +kernel⟩, List.mem_of_getElem? (i := 22) (by decide +kernel), List.mem_of_getElem? (i := 329) (by decide +kernel), List.mem_of_getElem? (i := 330) (by decide +kernel)⟩
theorem lw_p10 : lw_okq (⟨"ModalKeys$Desk", "typeIn", "(IZ)I"⟩, 13) := ⟨⟨by decide +kernel, by decide +kernel⟩, List.mem_of_getElem? (i := 22) (by decide +kernel), List.mem_of_getElem? (i := 333) (by decide +kernel), List.mem_of_getElem? (i := 334) (by decide +kernel)⟩
theorem lw_p11 : lw_okq (⟨"ModalKeys$KeyRow", "add", "(I)V"⟩, 2) := ⟨⟨by decide +kernel, by decide +kernel⟩, List.mem_of_getElem? (i := 83) (by decide +kernel), List.mem_of_getElem? (i := 337) (by decide +kernel), List.mem_of_getElem? (i := 338) (by decide +kernel)⟩
theorem lw_p12 : lw_okq (⟨"ModalKeys$Desk", "remember", "(Z)V"⟩, 13) := ⟨⟨by decide +kernel, by decide +kernel⟩, List.mem_of_getElem? (i := 22) (by decide +kernel), List.mem_of_getElem? (i := 347) (by decide +kernel), List.mem_of_getElem? (i := 348) (by decide +kernel)⟩
theorem lw_p13 : lw_okq (⟨"ModalKeys$Past", "keep", "(LModalKeys$Text;)V"⟩, 5) := ⟨⟨by decide +kernel, by decide +kernel⟩, List.mem_of_getElem? (i := 53) (by decide +kernel), List.mem_of_getElem? (i := 351) (by decide +kernel), List.mem_of_getElem? (i := 352) (by decide +kernel)⟩
theorem lw_p14 : lw_okq (⟨"ModalKeys$KeyRow", "become", "(LModalKeys$KeyRow;)V"⟩, 2) := ⟨⟨by decide +kernel, by decide +kernel⟩, List.mem_of_getElem? (i := 83) (by decide +kernel), List.mem_of_getElem? (i := 357) (by decide +kernel), List.mem_of_getElem? (i := 358) (by decide +kernel)⟩
theorem lw_p15 : lw_okq (⟨"ModalKeys$Text", "makeRoom", "(II)V"⟩, 3) := ⟨⟨by decide +kernel, by decide +kernel⟩, List.mem_of_getElem? (i := 28) (by decide +kernel), List.mem_of_getElem? (i := 362) (by decide +kernel), List.mem_of_getElem? (i := 363) (by decide +kernel)⟩
def lw_privs_1 : List (MethodName × Nat) := [(⟨"ModalKeys$Desk", "begin", "([II)V"⟩, 13), (⟨"ModalKeys$Command", "clear", "()V"⟩, 9), (⟨"ModalKeys$Text", "has", "(I)Z"⟩, 3), (⟨"ModalKeys$Text", "at", "(I)I"⟩, 3), (⟨"ModalKeys$Desk", "isPending", "()Z"⟩, 13), (⟨"ModalKeys$Desk", "markSet", "()I"⟩, 13), (⟨"ModalKeys$Text", "words", "()I"⟩, 3), (⟨"ModalKeys$Text", "kindAt", "(I)I"⟩, 3), (⟨"ModalKeys$Desk", "press", "(I)I"⟩, 13), (⟨"ModalKeys$Desk", "strike", "(IZ)I"⟩, 13), (⟨"ModalKeys$Desk", "typeIn", "(IZ)I"⟩, 13), (⟨"ModalKeys$KeyRow", "add", "(I)V"⟩, 2), (⟨"ModalKeys$Desk", "remember", "(Z)V"⟩, 13), (⟨"ModalKeys$Past", "keep", "(LModalKeys$Text;)V"⟩, 5), (⟨"ModalKeys$KeyRow", "become", "(LModalKeys$KeyRow;)V"⟩, 2), (⟨"ModalKeys$Text", "makeRoom", "(II)V"⟩, 3)]
theorem lw_r1 : ∀ q ∈ lw_privs_1, lw_okq q := List.forall_mem_cons.mpr ⟨lw_p0, List.forall_mem_cons.mpr ⟨lw_p1, List.forall_mem_cons.mpr ⟨lw_p2, List.forall_mem_cons.mpr ⟨lw_p3, List.forall_mem_cons.mpr ⟨lw_p4, List.forall_mem_cons.mpr ⟨lw_p5, List.forall_mem_cons.mpr ⟨lw_p6, List.forall_mem_cons.mpr ⟨lw_p7, List.forall_mem_cons.mpr ⟨lw_p8, List.forall_mem_cons.mpr ⟨lw_p9, List.forall_mem_cons.mpr ⟨lw_p10, List.forall_mem_cons.mpr ⟨lw_p11, List.forall_mem_cons.mpr ⟨lw_p12, List.forall_mem_cons.mpr ⟨lw_p13, List.forall_mem_cons.mpr ⟨lw_p14, List.forall_mem_cons.mpr ⟨lw_p15, fun _ h => absurd h List.not_mem_nil⟩⟩⟩⟩⟩⟩⟩⟩⟩⟩⟩⟩⟩⟩⟩⟩
theorem lw_p16 : lw_okq (⟨"ModalKeys$Command", "take", "(I)I"⟩, 9) := ⟨⟨by decide +kernel, by decide +kernel⟩, List.mem_of_getElem? (i := 77) (by decide +kernel), List.mem_of_getElem? (i := 367) (by decide +kernel), List.mem_of_getElem? (i := 368) (by decide +kernel)⟩
theorem lw_p17 : lw_okq (⟨"ModalKeys$Command", "takeVerb", "(I)I"⟩, 9) := ⟨⟨by decide +kernel, by decide +kernel⟩, List.mem_of_getElem? (i := 77) (by decide +kernel), List.mem_of_getElem? (i := 372) (by decide +kernel), List.mem_of_getElem? (i := 373) (by decide +kernel)⟩
theorem lw_p18 : lw_okq (⟨"ModalKeys$Command", "waitWith", "(II)I"⟩, 9) := ⟨⟨by decide +kernel, by decide +kernel⟩, List.mem_of_getElem? (i := 77) (by decide +kernel), List.mem_of_getElem? (i := 383) (by decide +kernel), List.mem_of_getElem? (i := 384) (by decide +kernel)⟩
theorem lw_p19 : lw_okq (⟨"ModalKeys$Command", "takeMotion", "(I)I"⟩, 9) := ⟨⟨by decide +kernel, by decide +kernel⟩, List.mem_of_getElem? (i := 77) (by decide +kernel), List.mem_of_getElem? (i := 387) (by decide +kernel), List.mem_of_getElem? (i := 388) (by decide +kernel)⟩
theorem lw_p20 : lw_okq (⟨"ModalKeys$Command", "takeReach", "(I)I"⟩, 9) := ⟨⟨by decide +kernel, by decide +kernel⟩, List.mem_of_getElem? (i := 77) (by decide +kernel), List.mem_of_getElem? (i := 394) (by decide +kernel), List.mem_of_getElem? (i := 395) (by decide +kernel)⟩
theorem lw_p21 : lw_okq (⟨"ModalKeys$Command", "takeObject", "(I)I"⟩, 9) := ⟨⟨by decide +kernel, by decide +kernel⟩, List.mem_of_getElem? (i := 77) (by decide +kernel), List.mem_of_getElem? (i := 398) (by decide +kernel), List.mem_of_getElem? (i := 399) (by decide +kernel)⟩
theorem lw_p22 : lw_okq (⟨"ModalKeys$Text", "become", "(LModalKeys$Text;)V"⟩, 3) := ⟨⟨by decide +kernel, by decide +kernel⟩, List.mem_of_getElem? (i := 28) (by decide +kernel), List.mem_of_getElem? (i := 402) (by decide +kernel), List.mem_of_getElem? (i := 403) (by decide +kernel)⟩
theorem lw_p23 : lw_okq (⟨"ModalKeys$Desk", "aim", "()Z"⟩, 13) := ⟨⟨by decide +kernel, by decide +kernel⟩, List.mem_of_getElem? (i := 22) (by decide +kernel), List.mem_of_getElem? (i := 406) (by decide +kernel), List.mem_of_getElem? (i := 407) (by decide +kernel)⟩
theorem lw_p24 : lw_okq (⟨"ModalKeys$Command", "times", "()I"⟩, 9) := ⟨⟨by decide +kernel, by decide +kernel⟩, List.mem_of_getElem? (i := 77) (by decide +kernel), List.mem_of_getElem? (i := 410) (by decide +kernel), List.mem_of_getElem? (i := 411) (by decide +kernel)⟩
theorem lw_p25 : lw_okq (⟨"ModalKeys$Desk", "aimByMotion", "(III)Z"⟩, 13) := ⟨⟨by decide +kernel, by decide +kernel⟩, List.mem_of_getElem? (i := 22) (by decide +kernel), List.mem_of_getElem? (i := 415) (by decide +kernel), List.mem_of_getElem? (i := 416) (by decide +kernel)⟩
theorem lw_p26 : lw_okq (⟨"ModalKeys$Text", "standing", "()I"⟩, 3) := ⟨⟨by decide +kernel, by decide +kernel⟩, List.mem_of_getElem? (i := 28) (by decide +kernel), List.mem_of_getElem? (i := 419) (by decide +kernel), List.mem_of_getElem? (i := 420) (by decide +kernel)⟩
theorem lw_p27 : lw_okq (⟨"ModalKeys$Text", "last", "()I"⟩, 3) := ⟨⟨by decide +kernel, by decide +kernel⟩, List.mem_of_getElem? (i := 28) (by decide +kernel), List.mem_of_getElem? (i := 423) (by decide +kernel), List.mem_of_getElem? (i := 424) (by decide +kernel)⟩
theorem lw_p28 : lw_okq (⟨"ModalKeys$Desk", "placeOfMark", "(I)I"⟩, 13) := ⟨⟨by decide +kernel, by decide +kernel⟩, List.mem_of_getElem? (i := 22) (by decide +kernel), List.mem_of_getElem? (i := 428) (by decide +kernel), List.mem_of_getElem? (i := 429) (by decide +kernel)⟩
theorem lw_p29 : lw_okq (⟨"ModalKeys$Text", "findBehind", "(III)I"⟩, 3) := ⟨⟨by decide +kernel, by decide +kernel⟩, List.mem_of_getElem? (i := 28) (by decide +kernel), List.mem_of_getElem? (i := 433) (by decide +kernel), List.mem_of_getElem? (i := 434) (by decide +kernel)⟩
theorem lw_p30 : lw_okq (⟨"ModalKeys$Text", "lead", "(II)I"⟩, 3) := ⟨⟨by decide +kernel, by decide +kernel⟩, List.mem_of_getElem? (i := 28) (by decide +kernel), List.mem_of_getElem? (i := 437) (by decide +kernel), List.mem_of_getElem? (i := 438) (by decide +kernel)⟩
theorem lw_p31 : lw_okq (⟨"ModalKeys$Text", "behindKind", "(II)I"⟩, 3) := ⟨⟨by decide +kernel, by decide +kernel⟩, List.mem_of_getElem? (i := 28) (by decide +kernel), List.mem_of_getElem? (i := 442) (by decide +kernel), List.mem_of_getElem? (i := 443) (by decide +kernel)⟩
def lw_privs_2 : List (MethodName × Nat) := [(⟨"ModalKeys$Command", "take", "(I)I"⟩, 9), (⟨"ModalKeys$Command", "takeVerb", "(I)I"⟩, 9), (⟨"ModalKeys$Command", "waitWith", "(II)I"⟩, 9), (⟨"ModalKeys$Command", "takeMotion", "(I)I"⟩, 9), (⟨"ModalKeys$Command", "takeReach", "(I)I"⟩, 9), (⟨"ModalKeys$Command", "takeObject", "(I)I"⟩, 9), (⟨"ModalKeys$Text", "become", "(LModalKeys$Text;)V"⟩, 3), (⟨"ModalKeys$Desk", "aim", "()Z"⟩, 13), (⟨"ModalKeys$Command", "times", "()I"⟩, 9), (⟨"ModalKeys$Desk", "aimByMotion", "(III)Z"⟩, 13), (⟨"ModalKeys$Text", "standing", "()I"⟩, 3), (⟨"ModalKeys$Text", "last", "()I"⟩, 3), (⟨"ModalKeys$Desk", "placeOfMark", "(I)I"⟩, 13), (⟨"ModalKeys$Text", "findBehind", "(III)I"⟩, 3), (⟨"ModalKeys$Text", "lead", "(II)I"⟩, 3), (⟨"ModalKeys$Text", "behindKind", "(II)I"⟩, 3)]
theorem lw_r2 : ∀ q ∈ lw_privs_2, lw_okq q := List.forall_mem_cons.mpr ⟨lw_p16, List.forall_mem_cons.mpr ⟨lw_p17, List.forall_mem_cons.mpr ⟨lw_p18, List.forall_mem_cons.mpr ⟨lw_p19, List.forall_mem_cons.mpr ⟨lw_p20, List.forall_mem_cons.mpr ⟨lw_p21, List.forall_mem_cons.mpr ⟨lw_p22, List.forall_mem_cons.mpr ⟨lw_p23, List.forall_mem_cons.mpr ⟨lw_p24, List.forall_mem_cons.mpr ⟨lw_p25, List.forall_mem_cons.mpr ⟨lw_p26, List.forall_mem_cons.mpr ⟨lw_p27, List.forall_mem_cons.mpr ⟨lw_p28, List.forall_mem_cons.mpr ⟨lw_p29, List.forall_mem_cons.mpr ⟨lw_p30, List.forall_mem_cons.mpr ⟨lw_p31, fun _ h => absurd h List.not_mem_nil⟩⟩⟩⟩⟩⟩⟩⟩⟩⟩⟩⟩⟩⟩⟩⟩
theorem lw_p32 : lw_okq (⟨"ModalKeys$Text", "beginOfKind", "(II)I"⟩, 3) := ⟨⟨by decide +kernel, by decide +kernel⟩, List.mem_of_getElem? (i := 28) (by decide +kernel), List.mem_of_getElem? (i := 446) (by decide +kernel), List.mem_of_getElem? (i := 447) (by decide +kernel)⟩
theorem lw_p33 : lw_okq (⟨"ModalKeys$Desk", "aimByWord", "()Z"⟩, 13) := ⟨⟨by decide +kernel, by decide +kernel⟩, List.mem_of_getElem? (i := 22) (by decide +kernel), List.mem_of_getElem? (i := 453) (by decide +kernel), List.mem_of_getElem? (i := 454) (by decide +kernel)⟩
theorem lw_p34 : lw_okq (⟨"ModalKeys$Desk", "aimByBrackets", "()Z"⟩, 13) := ⟨⟨by decide +kernel, by decide +kernel⟩, List.mem_of_getElem? (i := 22) (by decide +kernel), List.mem_of_getElem? (i := 460) (by decide +kernel), List.mem_of_getElem? (i := 461) (by decide +kernel)⟩
theorem lw_p35 : lw_okq (⟨"ModalKeys$Text", "openingRound", "(I)I"⟩, 3) := ⟨⟨by decide +kernel, by decide +kernel⟩, List.mem_of_getElem? (i := 28) (by decide +kernel), List.mem_of_getElem? (i := 464) (by decide +kernel), List.mem_of_getElem? (i := 465) (by decide +kernel)⟩
theorem lw_p36 : lw_okq (⟨"ModalKeys$Text", "closingOf", "(I)I"⟩, 3) := ⟨⟨by decide +kernel, by decide +kernel⟩, List.mem_of_getElem? (i := 28) (by decide +kernel), List.mem_of_getElem? (i := 469) (by decide +kernel), List.mem_of_getElem? (i := 470) (by decide +kernel)⟩
theorem lw_p37 : lw_okq (⟨"ModalKeys$Desk", "aimByLetters", "(I)Z"⟩, 13) := ⟨⟨by decide +kernel, by decide +kernel⟩, List.mem_of_getElem? (i := 22) (by decide +kernel), List.mem_of_getElem? (i := 473) (by decide +kernel), List.mem_of_getElem? (i := 474) (by decide +kernel)⟩
theorem lw_p38 : lw_okq (⟨"ModalKeys$Desk", "perform", "(I)I"⟩, 13) := ⟨⟨by decide +kernel, by decide +kernel⟩, List.mem_of_getElem? (i := 22) (by decide +kernel), List.mem_of_getElem? (i := 477) (by decide +kernel), List.mem_of_getElem? (i := 478) (by decide +kernel)⟩
theorem lw_p39 : lw_okq (⟨"ModalKeys$Text", "goTo", "(I)V"⟩, 3) := ⟨⟨by decide +kernel, by decide +kernel⟩, List.mem_of_getElem? (i := 28) (by decide +kernel), List.mem_of_getElem? (i := 481) (by decide +kernel), List.mem_of_getElem? (i := 482) (by decide +kernel)⟩
theorem lw_p40 : lw_okq (⟨"ModalKeys$Desk", "cutRange", "()I"⟩, 13) := ⟨⟨by decide +kernel, by decide +kernel⟩, List.mem_of_getElem? (i := 22) (by decide +kernel), List.mem_of_getElem? (i := 485) (by decide +kernel), List.mem_of_getElem? (i := 486) (by decide +kernel)⟩
theorem lw_p41 : lw_okq (⟨"ModalKeys$Desk", "storeRange", "()V"⟩, 13) := ⟨⟨by decide +kernel, by decide +kernel⟩, List.mem_of_getElem? (i := 22) (by decide +kernel), List.mem_of_getElem? (i := 489) (by decide +kernel), List.mem_of_getElem? (i := 490) (by decide +kernel)⟩
theorem lw_p42 : lw_okq (⟨"ModalKeys$Text", "takeOut", "(II)V"⟩, 3) := ⟨⟨by decide +kernel, by decide +kernel⟩, List.mem_of_getElem? (i := 28) (by decide +kernel), List.mem_of_getElem? (i := 493) (by decide +kernel), List.mem_of_getElem? (i := 494) (by decide +kernel)⟩
theorem lw_p43 : lw_okq (⟨"ModalKeys$Desk", "typeAt", "(I)I"⟩, 13) := ⟨⟨by decide +kernel, by decide +kernel⟩, List.mem_of_getElem? (i := 22) (by decide +kernel), List.mem_of_getElem? (i := 497) (by decide +kernel), List.mem_of_getElem? (i := 498) (by decide +kernel)⟩
theorem lw_p44 : lw_okq (⟨"ModalKeys$Desk", "overwrite", "(I)I"⟩, 13) := ⟨⟨by decide +kernel, by decide +kernel⟩, List.mem_of_getElem? (i := 22) (by decide +kernel), List.mem_of_getElem? (i := 501) (by decide +kernel), List.mem_of_getElem? (i := 502) (by decide +kernel)⟩
theorem lw_p45 : lw_okq (⟨"ModalKeys$Desk", "swapCases", "(I)I"⟩, 13) := ⟨⟨by decide +kernel, by decide +kernel⟩, List.mem_of_getElem? (i := 22) (by decide +kernel), List.mem_of_getElem? (i := 505) (by decide +kernel), List.mem_of_getElem? (i := 506) (by decide +kernel)⟩
theorem lw_p46 : lw_okq (⟨"ModalKeys$Text", "swapCase", "(I)V"⟩, 3) := ⟨⟨by decide +kernel, by decide +kernel⟩, List.mem_of_getElem? (i := 28) (by decide +kernel), List.mem_of_getElem? (i := 509) (by decide +kernel), List.mem_of_getElem? (i := 510) (by decide +kernel)⟩
theorem lw_p47 : lw_okq (⟨"ModalKeys$Desk", "putIn", "(II)I"⟩, 13) := ⟨⟨by decide +kernel, by decide +kernel⟩, List.mem_of_getElem? (i := 22) (by decide +kernel), List.mem_of_getElem? (i := 513) (by decide +kernel), List.mem_of_getElem? (i := 514) (by decide +kernel)⟩
def lw_privs_3 : List (MethodName × Nat) := [(⟨"ModalKeys$Text", "beginOfKind", "(II)I"⟩, 3), (⟨"ModalKeys$Desk", "aimByWord", "()Z"⟩, 13), (⟨"ModalKeys$Desk", "aimByBrackets", "()Z"⟩, 13), (⟨"ModalKeys$Text", "openingRound", "(I)I"⟩, 3), (⟨"ModalKeys$Text", "closingOf", "(I)I"⟩, 3), (⟨"ModalKeys$Desk", "aimByLetters", "(I)Z"⟩, 13), (⟨"ModalKeys$Desk", "perform", "(I)I"⟩, 13), (⟨"ModalKeys$Text", "goTo", "(I)V"⟩, 3), (⟨"ModalKeys$Desk", "cutRange", "()I"⟩, 13), (⟨"ModalKeys$Desk", "storeRange", "()V"⟩, 13), (⟨"ModalKeys$Text", "takeOut", "(II)V"⟩, 3), (⟨"ModalKeys$Desk", "typeAt", "(I)I"⟩, 13), (⟨"ModalKeys$Desk", "overwrite", "(I)I"⟩, 13), (⟨"ModalKeys$Desk", "swapCases", "(I)I"⟩, 13), (⟨"ModalKeys$Text", "swapCase", "(I)V"⟩, 3), (⟨"ModalKeys$Desk", "putIn", "(II)I"⟩, 13)]
theorem lw_r3 : ∀ q ∈ lw_privs_3, lw_okq q := List.forall_mem_cons.mpr ⟨lw_p32, List.forall_mem_cons.mpr ⟨lw_p33, List.forall_mem_cons.mpr ⟨lw_p34, List.forall_mem_cons.mpr ⟨lw_p35, List.forall_mem_cons.mpr ⟨lw_p36, List.forall_mem_cons.mpr ⟨lw_p37, List.forall_mem_cons.mpr ⟨lw_p38, List.forall_mem_cons.mpr ⟨lw_p39, List.forall_mem_cons.mpr ⟨lw_p40, List.forall_mem_cons.mpr ⟨lw_p41, List.forall_mem_cons.mpr ⟨lw_p42, List.forall_mem_cons.mpr ⟨lw_p43, List.forall_mem_cons.mpr ⟨lw_p44, List.forall_mem_cons.mpr ⟨lw_p45, List.forall_mem_cons.mpr ⟨lw_p46, List.forall_mem_cons.mpr ⟨lw_p47, fun _ h => absurd h List.not_mem_nil⟩⟩⟩⟩⟩⟩⟩⟩⟩⟩⟩⟩⟩⟩⟩⟩
theorem lw_p48 : lw_okq (⟨"ModalKeys$Past", "bringBack", "(LModalKeys$Text;I)Z"⟩, 5) := ⟨⟨by decide +kernel, by decide +kernel⟩, List.mem_of_getElem? (i := 53) (by decide +kernel), List.mem_of_getElem? (i := 517) (by decide +kernel), List.mem_of_getElem? (i := 518) (by decide +kernel)⟩
theorem lw_p49 : lw_okq (⟨"ModalKeys$Desk", "setMark", "(I)I"⟩, 13) := ⟨⟨by decide +kernel, by decide +kernel⟩, List.mem_of_getElem? (i := 22) (by decide +kernel), List.mem_of_getElem? (i := 524) (by decide +kernel), List.mem_of_getElem? (i := 525) (by decide +kernel)⟩
theorem lw_p50 : lw_okq (⟨"ModalKeys$KeyRow", "canBeRepeated", "()Z"⟩, 2) := ⟨⟨by decide +kernel, by decide +kernel⟩, List.mem_of_getElem? (i := 83) (by decide +kernel), List.mem_of_getElem? (i := 528) (by decide +kernel), List.mem_of_getElem? (i := 529) (by decide +kernel)⟩
theorem lw_p51 : lw_okq (⟨"ModalKeys$Text", "canStand", "(I)Z"⟩, 3) := ⟨⟨by decide +kernel, by decide +kernel⟩, List.mem_of_getElem? (i := 28) (by decide +kernel), List.mem_of_getElem? (i := 548) (by decide +kernel), List.mem_of_getElem? (i := 549) (by decide +kernel)⟩
theorem lw_p52 : lw_okq (⟨"ModalKeys$Ways", "survey", "(LModalKeys$Text;)V"⟩, 5) := ⟨⟨by decide +kernel, by decide +kernel⟩, List.mem_of_getElem? (i := 187) (by decide +kernel), List.mem_of_getElem? (i := 552) (by decide +kernel), List.mem_of_getElem? (i := 553) (by decide +kernel)⟩
theorem lw_p53 : lw_okq (⟨"ModalKeys$Text", "deed", "(II)I"⟩, 3) := ⟨⟨by decide +kernel, by decide +kernel⟩, List.mem_of_getElem? (i := 28) (by decide +kernel), List.mem_of_getElem? (i := 557) (by decide +kernel), List.mem_of_getElem? (i := 558) (by decide +kernel)⟩
theorem lw_p54 : lw_okq (⟨"ModalKeys$Ways", "reckon", "(IZ[I)V"⟩, 5) := ⟨⟨by decide +kernel, by decide +kernel⟩, List.mem_of_getElem? (i := 187) (by decide +kernel), List.mem_of_getElem? (i := 562) (by decide +kernel), List.mem_of_getElem? (i := 563) (by decide +kernel)⟩
theorem lw_p55 : lw_okq (⟨"ModalKeys$Ways", "stepOf", "(III[I)I"⟩, 5) := ⟨⟨by decide +kernel, by decide +kernel⟩, List.mem_of_getElem? (i := 187) (by decide +kernel), List.mem_of_getElem? (i := 569) (by decide +kernel), List.mem_of_getElem? (i := 570) (by decide +kernel)⟩
theorem lw_p56 : lw_okq (⟨"ModalKeys$Ways", "firstOnWay", "(I[I)I"⟩, 5) := ⟨⟨by decide +kernel, by decide +kernel⟩, List.mem_of_getElem? (i := 187) (by decide +kernel), List.mem_of_getElem? (i := 573) (by decide +kernel), List.mem_of_getElem? (i := 574) (by decide +kernel)⟩
theorem lw_p57 : lw_okq (⟨"ModalKeys$Ways", "dearest", "()I"⟩, 5) := ⟨⟨by decide +kernel, by decide +kernel⟩, List.mem_of_getElem? (i := 187) (by decide +kernel), List.mem_of_getElem? (i := 581) (by decide +kernel), List.mem_of_getElem? (i := 582) (by decide +kernel)⟩
theorem lw_p58 : lw_okq (⟨"ModalKeys$Ways", "rowsTo", "(III)I"⟩, 5) := ⟨⟨by decide +kernel, by decide +kernel⟩, List.mem_of_getElem? (i := 187) (by decide +kernel), List.mem_of_getElem? (i := 599) (by decide +kernel), List.mem_of_getElem? (i := 600) (by decide +kernel)⟩
theorem lw_p59 : lw_okq (⟨"ModalKeys$Desk", "become", "(LModalKeys$Desk;)V"⟩, 13) := ⟨⟨by decide +kernel, by decide +kernel⟩, List.mem_of_getElem? (i := 22) (by decide +kernel), List.mem_of_getElem? (i := 608) (by decide +kernel), List.mem_of_getElem? (i := 609) (by decide +kernel)⟩
theorem lw_p60 : lw_okq (⟨"ModalKeys$Past", "become", "(LModalKeys$Past;)V"⟩, 5) := ⟨⟨by decide +kernel, by decide +kernel⟩, List.mem_of_getElem? (i := 53) (by decide +kernel), List.mem_of_getElem? (i := 612) (by decide +kernel), List.mem_of_getElem? (i := 613) (by decide +kernel)⟩
theorem lw_p61 : lw_okq (⟨"ModalKeys$Command", "become", "(LModalKeys$Command;)V"⟩, 9) := ⟨⟨by decide +kernel, by decide +kernel⟩, List.mem_of_getElem? (i := 77) (by decide +kernel), List.mem_of_getElem? (i := 616) (by decide +kernel), List.mem_of_getElem? (i := 617) (by decide +kernel)⟩
theorem lw_p62 : lw_okq (⟨"ModalKeys", "sheetAt", "(I)LModalKeys$Sheet;"⟩, 7) := ⟨⟨by decide +kernel, by decide +kernel⟩, List.mem_of_getElem? (i := 14) (by decide +kernel), List.mem_of_getElem? (i := 629) (by decide +kernel), List.mem_of_getElem? (i := 630) (by decide +kernel)⟩
theorem lw_p63 : lw_okq (⟨"ModalKeys$Sheet", "faultAs", "(III)I"⟩, 3) := ⟨⟨by decide +kernel, by decide +kernel⟩, List.mem_of_getElem? (i := 213) (by decide +kernel), List.mem_of_getElem? (i := 639) (by decide +kernel), List.mem_of_getElem? (i := 640) (by decide +kernel)⟩
def lw_privs_4 : List (MethodName × Nat) := [(⟨"ModalKeys$Past", "bringBack", "(LModalKeys$Text;I)Z"⟩, 5), (⟨"ModalKeys$Desk", "setMark", "(I)I"⟩, 13), (⟨"ModalKeys$KeyRow", "canBeRepeated", "()Z"⟩, 2), (⟨"ModalKeys$Text", "canStand", "(I)Z"⟩, 3), (⟨"ModalKeys$Ways", "survey", "(LModalKeys$Text;)V"⟩, 5), (⟨"ModalKeys$Text", "deed", "(II)I"⟩, 3), (⟨"ModalKeys$Ways", "reckon", "(IZ[I)V"⟩, 5), (⟨"ModalKeys$Ways", "stepOf", "(III[I)I"⟩, 5), (⟨"ModalKeys$Ways", "firstOnWay", "(I[I)I"⟩, 5), (⟨"ModalKeys$Ways", "dearest", "()I"⟩, 5), (⟨"ModalKeys$Ways", "rowsTo", "(III)I"⟩, 5), (⟨"ModalKeys$Desk", "become", "(LModalKeys$Desk;)V"⟩, 13), (⟨"ModalKeys$Past", "become", "(LModalKeys$Past;)V"⟩, 5), (⟨"ModalKeys$Command", "become", "(LModalKeys$Command;)V"⟩, 9), (⟨"ModalKeys", "sheetAt", "(I)LModalKeys$Sheet;"⟩, 7), (⟨"ModalKeys$Sheet", "faultAs", "(III)I"⟩, 3)]
theorem lw_r4 : ∀ q ∈ lw_privs_4, lw_okq q := List.forall_mem_cons.mpr ⟨lw_p48, List.forall_mem_cons.mpr ⟨lw_p49, List.forall_mem_cons.mpr ⟨lw_p50, List.forall_mem_cons.mpr ⟨lw_p51, List.forall_mem_cons.mpr ⟨lw_p52, List.forall_mem_cons.mpr ⟨lw_p53, List.forall_mem_cons.mpr ⟨lw_p54, List.forall_mem_cons.mpr ⟨lw_p55, List.forall_mem_cons.mpr ⟨lw_p56, List.forall_mem_cons.mpr ⟨lw_p57, List.forall_mem_cons.mpr ⟨lw_p58, List.forall_mem_cons.mpr ⟨lw_p59, List.forall_mem_cons.mpr ⟨lw_p60, List.forall_mem_cons.mpr ⟨lw_p61, List.forall_mem_cons.mpr ⟨lw_p62, List.forall_mem_cons.mpr ⟨lw_p63, fun _ h => absurd h List.not_mem_nil⟩⟩⟩⟩⟩⟩⟩⟩⟩⟩⟩⟩⟩⟩⟩⟩
theorem lw_p64 : lw_okq (⟨"ModalKeys$Sheet", "isNothing", "()Z"⟩, 3) := ⟨⟨by decide +kernel, by decide +kernel⟩, List.mem_of_getElem? (i := 213) (by decide +kernel), List.mem_of_getElem? (i := 643) (by decide +kernel), List.mem_of_getElem? (i := 644) (by decide +kernel)⟩
theorem lw_p65 : lw_okq (⟨"ModalKeys$Sheet", "reaches", "(II)Z"⟩, 3) := ⟨⟨by decide +kernel, by decide +kernel⟩, List.mem_of_getElem? (i := 213) (by decide +kernel), List.mem_of_getElem? (i := 647) (by decide +kernel), List.mem_of_getElem? (i := 648) (by decide +kernel)⟩
theorem lw_p66 : lw_okq (⟨"ModalKeys$Sheet", "put", "(IJ)V"⟩, 3) := ⟨⟨by decide +kernel, by decide +kernel⟩, List.mem_of_getElem? (i := 213) (by decide +kernel), List.mem_of_getElem? (i := 657) (by decide +kernel), List.mem_of_getElem? (i := 658) (by decide +kernel)⟩
theorem lw_p67 : lw_okq (⟨"ModalKeys$Sheet", "hold", "(II)V"⟩, 3) := ⟨⟨by decide +kernel, by decide +kernel⟩, List.mem_of_getElem? (i := 213) (by decide +kernel), List.mem_of_getElem? (i := 665) (by decide +kernel), List.mem_of_getElem? (i := 666) (by decide +kernel)⟩
theorem lw_p68 : lw_okq (⟨"ModalKeysModel", "keyed", "(I)I"⟩, 16) := ⟨⟨by decide +kernel, by decide +kernel⟩, List.mem_of_getElem? (i := 687) (by decide +kernel), List.mem_of_getElem? (i := 751) (by decide +kernel), List.mem_of_getElem? (i := 752) (by decide +kernel)⟩
theorem lw_p69 : lw_okq (⟨"ModalKeysModel", "strikes", "(I)I"⟩, 16) := ⟨⟨by decide +kernel, by decide +kernel⟩, List.mem_of_getElem? (i := 687) (by decide +kernel), List.mem_of_getElem? (i := 755) (by decide +kernel), List.mem_of_getElem? (i := 756) (by decide +kernel)⟩
theorem lw_p70 : lw_okq (⟨"ModalKeysModel", "inserted", "(I)I"⟩, 16) := ⟨⟨by decide +kernel, by decide +kernel⟩, List.mem_of_getElem? (i := 687) (by decide +kernel), List.mem_of_getElem? (i := 759) (by decide +kernel), List.mem_of_getElem? (i := 760) (by decide +kernel)⟩
theorem lw_p71 : lw_okq (⟨"ModalKeysModel", "records", "(I)V"⟩, 16) := ⟨⟨by decide +kernel, by decide +kernel⟩, List.mem_of_getElem? (i := 687) (by decide +kernel), List.mem_of_getElem? (i := 763) (by decide +kernel), List.mem_of_getElem? (i := 764) (by decide +kernel)⟩
theorem lw_p72 : lw_okq (⟨"ModalKeysModel", "changes", "()V"⟩, 16) := ⟨⟨by decide +kernel, by decide +kernel⟩, List.mem_of_getElem? (i := 687) (by decide +kernel), List.mem_of_getElem? (i := 770) (by decide +kernel), List.mem_of_getElem? (i := 771) (by decide +kernel)⟩
theorem lw_p73 : lw_okq (⟨"ModalKeysModel", "ends", "()V"⟩, 16) := ⟨⟨by decide +kernel, by decide +kernel⟩, List.mem_of_getElem? (i := 687) (by decide +kernel), List.mem_of_getElem? (i := 774) (by decide +kernel), List.mem_of_getElem? (i := 775) (by decide +kernel)⟩
theorem lw_p74 : lw_okq (⟨"ModalKeysModel", "commands", "(I)I"⟩, 16) := ⟨⟨by decide +kernel, by decide +kernel⟩, List.mem_of_getElem? (i := 687) (by decide +kernel), List.mem_of_getElem? (i := 778) (by decide +kernel), List.mem_of_getElem? (i := 779) (by decide +kernel)⟩
theorem lw_p75 : lw_okq (⟨"ModalKeysModel", "waited", "(I)I"⟩, 16) := ⟨⟨by decide +kernel, by decide +kernel⟩, List.mem_of_getElem? (i := 687) (by decide +kernel), List.mem_of_getElem? (i := 782) (by decide +kernel), List.mem_of_getElem? (i := 783) (by decide +kernel)⟩
theorem lw_p76 : lw_okq (⟨"ModalKeysModel", "often", "()I"⟩, 16) := ⟨⟨by decide +kernel, by decide +kernel⟩, List.mem_of_getElem? (i := 687) (by decide +kernel), List.mem_of_getElem? (i := 786) (by decide +kernel), List.mem_of_getElem? (i := 787) (by decide +kernel)⟩
theorem lw_p77 : lw_okq (⟨"ModalKeysModel", "findsTo", "(II)I"⟩, 16) := ⟨⟨by decide +kernel, by decide +kernel⟩, List.mem_of_getElem? (i := 687) (by decide +kernel), List.mem_of_getElem? (i := 790) (by decide +kernel), List.mem_of_getElem? (i := 791) (by decide +kernel)⟩
theorem lw_p78 : lw_okq (⟨"ModalKeysModel", "nextOf", "(II)I"⟩, 16) := ⟨⟨by decide +kernel, by decide +kernel⟩, List.mem_of_getElem? (i := 687) (by decide +kernel), List.mem_of_getElem? (i := 794) (by decide +kernel), List.mem_of_getElem? (i := 795) (by decide +kernel)⟩
theorem lw_p79 : lw_okq (⟨"ModalKeysModel", "goesTo", "(IZ)I"⟩, 16) := ⟨⟨by decide +kernel, by decide +kernel⟩, List.mem_of_getElem? (i := 687) (by decide +kernel), List.mem_of_getElem? (i := 798) (by decide +kernel), List.mem_of_getElem? (i := 799) (by decide +kernel)⟩
def lw_privs_5 : List (MethodName × Nat) := [(⟨"ModalKeys$Sheet", "isNothing", "()Z"⟩, 3), (⟨"ModalKeys$Sheet", "reaches", "(II)Z"⟩, 3), (⟨"ModalKeys$Sheet", "put", "(IJ)V"⟩, 3), (⟨"ModalKeys$Sheet", "hold", "(II)V"⟩, 3), (⟨"ModalKeysModel", "keyed", "(I)I"⟩, 16), (⟨"ModalKeysModel", "strikes", "(I)I"⟩, 16), (⟨"ModalKeysModel", "inserted", "(I)I"⟩, 16), (⟨"ModalKeysModel", "records", "(I)V"⟩, 16), (⟨"ModalKeysModel", "changes", "()V"⟩, 16), (⟨"ModalKeysModel", "ends", "()V"⟩, 16), (⟨"ModalKeysModel", "commands", "(I)I"⟩, 16), (⟨"ModalKeysModel", "waited", "(I)I"⟩, 16), (⟨"ModalKeysModel", "often", "()I"⟩, 16), (⟨"ModalKeysModel", "findsTo", "(II)I"⟩, 16), (⟨"ModalKeysModel", "nextOf", "(II)I"⟩, 16), (⟨"ModalKeysModel", "goesTo", "(IZ)I"⟩, 16)]
theorem lw_r5 : ∀ q ∈ lw_privs_5, lw_okq q := List.forall_mem_cons.mpr ⟨lw_p64, List.forall_mem_cons.mpr ⟨lw_p65, List.forall_mem_cons.mpr ⟨lw_p66, List.forall_mem_cons.mpr ⟨lw_p67, List.forall_mem_cons.mpr ⟨lw_p68, List.forall_mem_cons.mpr ⟨lw_p69, List.forall_mem_cons.mpr ⟨lw_p70, List.forall_mem_cons.mpr ⟨lw_p71, List.forall_mem_cons.mpr ⟨lw_p72, List.forall_mem_cons.mpr ⟨lw_p73, List.forall_mem_cons.mpr ⟨lw_p74, List.forall_mem_cons.mpr ⟨lw_p75, List.forall_mem_cons.mpr ⟨lw_p76, List.forall_mem_cons.mpr ⟨lw_p77, List.forall_mem_cons.mpr ⟨lw_p78, List.forall_mem_cons.mpr ⟨lw_p79, fun _ h => absurd h List.not_mem_nil⟩⟩⟩⟩⟩⟩⟩⟩⟩⟩⟩⟩⟩⟩⟩⟩
theorem lw_p80 : lw_okq (⟨"ModalKeysModel", "last", "()I"⟩, 16) := ⟨⟨by decide +kernel, by decide +kernel⟩, List.mem_of_getElem? (i := 687) (by decide +kernel), List.mem_of_getElem? (i := 802) (by decide +kernel), List.mem_of_getElem? (i := 803) (by decide +kernel)⟩
theorem lw_p81 : lw_okq (⟨"ModalKeysModel", "ranged", "(II)I"⟩, 16) := ⟨⟨by decide +kernel, by decide +kernel⟩, List.mem_of_getElem? (i := 687) (by decide +kernel), List.mem_of_getElem? (i := 806) (by decide +kernel), List.mem_of_getElem? (i := 807) (by decide +kernel)⟩
theorem lw_p82 : lw_okq (⟨"ModalKeysModel", "keeps", "(II)V"⟩, 16) := ⟨⟨by decide +kernel, by decide +kernel⟩, List.mem_of_getElem? (i := 687) (by decide +kernel), List.mem_of_getElem? (i := 810) (by decide +kernel), List.mem_of_getElem? (i := 811) (by decide +kernel)⟩
theorem lw_p83 : lw_okq (⟨"ModalKeysModel", "cuts", "(II)V"⟩, 16) := ⟨⟨by decide +kernel, by decide +kernel⟩, List.mem_of_getElem? (i := 687) (by decide +kernel), List.mem_of_getElem? (i := 814) (by decide +kernel), List.mem_of_getElem? (i := 815) (by decide +kernel)⟩
theorem lw_p84 : lw_okq (⟨"ModalKeysModel", "inserts", "(I)I"⟩, 16) := ⟨⟨by decide +kernel, by decide +kernel⟩, List.mem_of_getElem? (i := 687) (by decide +kernel), List.mem_of_getElem? (i := 818) (by decide +kernel), List.mem_of_getElem? (i := 819) (by decide +kernel)⟩
theorem lw_p85 : lw_okq (⟨"ModalKeysModel", "replaces", "(II)I"⟩, 16) := ⟨⟨by decide +kernel, by decide +kernel⟩, List.mem_of_getElem? (i := 687) (by decide +kernel), List.mem_of_getElem? (i := 824) (by decide +kernel), List.mem_of_getElem? (i := 825) (by decide +kernel)⟩
theorem lw_p86 : lw_okq (⟨"ModalKeysModel", "objects", "(ZI)I"⟩, 16) := ⟨⟨by decide +kernel, by decide +kernel⟩, List.mem_of_getElem? (i := 687) (by decide +kernel), List.mem_of_getElem? (i := 828) (by decide +kernel), List.mem_of_getElem? (i := 829) (by decide +kernel)⟩
theorem lw_p87 : lw_okq (⟨"ModalKeysModel", "words", "(Z)I"⟩, 16) := ⟨⟨by decide +kernel, by decide +kernel⟩, List.mem_of_getElem? (i := 687) (by decide +kernel), List.mem_of_getElem? (i := 832) (by decide +kernel), List.mem_of_getElem? (i := 833) (by decide +kernel)⟩
theorem lw_p88 : lw_okq (⟨"ModalKeysModel", "classAt", "(I)I"⟩, 16) := ⟨⟨by decide +kernel, by decide +kernel⟩, List.mem_of_getElem? (i := 687) (by decide +kernel), List.mem_of_getElem? (i := 836) (by decide +kernel), List.mem_of_getElem? (i := 837) (by decide +kernel)⟩
theorem lw_p89 : lw_okq (⟨"ModalKeysModel", "brackets", "(Z)I"⟩, 16) := ⟨⟨by decide +kernel, by decide +kernel⟩, List.mem_of_getElem? (i := 687) (by decide +kernel), List.mem_of_getElem? (i := 848) (by decide +kernel), List.mem_of_getElem? (i := 849) (by decide +kernel)⟩
theorem lw_p90 : lw_okq (⟨"ModalKeysModel", "bracket", "(IIII)I"⟩, 16) := ⟨⟨by decide +kernel, by decide +kernel⟩, List.mem_of_getElem? (i := 687) (by decide +kernel), List.mem_of_getElem? (i := 852) (by decide +kernel), List.mem_of_getElem? (i := 853) (by decide +kernel)⟩
theorem lw_p91 : lw_okq (⟨"ModalKeysModel", "motionOf", "(I)I"⟩, 16) := ⟨⟨by decide +kernel, by decide +kernel⟩, List.mem_of_getElem? (i := 687) (by decide +kernel), List.mem_of_getElem? (i := 857) (by decide +kernel), List.mem_of_getElem? (i := 858) (by decide +kernel)⟩
theorem lw_p92 : lw_okq (⟨"ModalKeysModel", "moves", "(I)I"⟩, 16) := ⟨⟨by decide +kernel, by decide +kernel⟩, List.mem_of_getElem? (i := 687) (by decide +kernel), List.mem_of_getElem? (i := 861) (by decide +kernel), List.mem_of_getElem? (i := 862) (by decide +kernel)⟩
theorem lw_p93 : lw_okq (⟨"ModalKeysModel", "leadsTo", "(II)I"⟩, 16) := ⟨⟨by decide +kernel, by decide +kernel⟩, List.mem_of_getElem? (i := 687) (by decide +kernel), List.mem_of_getElem? (i := 865) (by decide +kernel), List.mem_of_getElem? (i := 866) (by decide +kernel)⟩
theorem lw_p94 : lw_okq (⟨"ModalKeysModel", "wordOn", "(I)I"⟩, 16) := ⟨⟨by decide +kernel, by decide +kernel⟩, List.mem_of_getElem? (i := 687) (by decide +kernel), List.mem_of_getElem? (i := 869) (by decide +kernel), List.mem_of_getElem? (i := 870) (by decide +kernel)⟩
theorem lw_p95 : lw_okq (⟨"ModalKeysModel", "wordBack", "(I)I"⟩, 16) := ⟨⟨by decide +kernel, by decide +kernel⟩, List.mem_of_getElem? (i := 687) (by decide +kernel), List.mem_of_getElem? (i := 873) (by decide +kernel), List.mem_of_getElem? (i := 874) (by decide +kernel)⟩
def lw_privs_6 : List (MethodName × Nat) := [(⟨"ModalKeysModel", "last", "()I"⟩, 16), (⟨"ModalKeysModel", "ranged", "(II)I"⟩, 16), (⟨"ModalKeysModel", "keeps", "(II)V"⟩, 16), (⟨"ModalKeysModel", "cuts", "(II)V"⟩, 16), (⟨"ModalKeysModel", "inserts", "(I)I"⟩, 16), (⟨"ModalKeysModel", "replaces", "(II)I"⟩, 16), (⟨"ModalKeysModel", "objects", "(ZI)I"⟩, 16), (⟨"ModalKeysModel", "words", "(Z)I"⟩, 16), (⟨"ModalKeysModel", "classAt", "(I)I"⟩, 16), (⟨"ModalKeysModel", "brackets", "(Z)I"⟩, 16), (⟨"ModalKeysModel", "bracket", "(IIII)I"⟩, 16), (⟨"ModalKeysModel", "motionOf", "(I)I"⟩, 16), (⟨"ModalKeysModel", "moves", "(I)I"⟩, 16), (⟨"ModalKeysModel", "leadsTo", "(II)I"⟩, 16), (⟨"ModalKeysModel", "wordOn", "(I)I"⟩, 16), (⟨"ModalKeysModel", "wordBack", "(I)I"⟩, 16)]
theorem lw_r6 : ∀ q ∈ lw_privs_6, lw_okq q := List.forall_mem_cons.mpr ⟨lw_p80, List.forall_mem_cons.mpr ⟨lw_p81, List.forall_mem_cons.mpr ⟨lw_p82, List.forall_mem_cons.mpr ⟨lw_p83, List.forall_mem_cons.mpr ⟨lw_p84, List.forall_mem_cons.mpr ⟨lw_p85, List.forall_mem_cons.mpr ⟨lw_p86, List.forall_mem_cons.mpr ⟨lw_p87, List.forall_mem_cons.mpr ⟨lw_p88, List.forall_mem_cons.mpr ⟨lw_p89, List.forall_mem_cons.mpr ⟨lw_p90, List.forall_mem_cons.mpr ⟨lw_p91, List.forall_mem_cons.mpr ⟨lw_p92, List.forall_mem_cons.mpr ⟨lw_p93, List.forall_mem_cons.mpr ⟨lw_p94, List.forall_mem_cons.mpr ⟨lw_p95, fun _ h => absurd h List.not_mem_nil⟩⟩⟩⟩⟩⟩⟩⟩⟩⟩⟩⟩⟩⟩⟩⟩
theorem lw_p96 : lw_okq (⟨"ModalKeysModel", "wordEnd", "(I)I"⟩, 16) := ⟨⟨by decide +kernel, by decide +kernel⟩, List.mem_of_getElem? (i := 687) (by decide +kernel), List.mem_of_getElem? (i := 877) (by decide +kernel), List.mem_of_getElem? (i := 878) (by decide +kernel)⟩
theorem lw_p97 : lw_okq (⟨"ModalKeysModel", "waits", "(I)I"⟩, 16) := ⟨⟨by decide +kernel, by decide +kernel⟩, List.mem_of_getElem? (i := 687) (by decide +kernel), List.mem_of_getElem? (i := 881) (by decide +kernel), List.mem_of_getElem? (i := 882) (by decide +kernel)⟩
theorem lw_p98 : lw_okq (⟨"ModalKeysModel", "deed", "(I)I"⟩, 16) := ⟨⟨by decide +kernel, by decide +kernel⟩, List.mem_of_getElem? (i := 687) (by decide +kernel), List.mem_of_getElem? (i := 885) (by decide +kernel), List.mem_of_getElem? (i := 886) (by decide +kernel)⟩
theorem lw_p99 : lw_okq (⟨"ModalKeysModel", "crosses", "(I)I"⟩, 16) := ⟨⟨by decide +kernel, by decide +kernel⟩, List.mem_of_getElem? (i := 687) (by decide +kernel), List.mem_of_getElem? (i := 889) (by decide +kernel), List.mem_of_getElem? (i := 890) (by decide +kernel)⟩
theorem lw_p100 : lw_okq (⟨"ModalKeysModel", "turns", "(I)I"⟩, 16) := ⟨⟨by decide +kernel, by decide +kernel⟩, List.mem_of_getElem? (i := 687) (by decide +kernel), List.mem_of_getElem? (i := 893) (by decide +kernel), List.mem_of_getElem? (i := 894) (by decide +kernel)⟩
theorem lw_p101 : lw_okq (⟨"ModalKeysModel", "puts", "(ZI)I"⟩, 16) := ⟨⟨by decide +kernel, by decide +kernel⟩, List.mem_of_getElem? (i := 687) (by decide +kernel), List.mem_of_getElem? (i := 897) (by decide +kernel), List.mem_of_getElem? (i := 898) (by decide +kernel)⟩
theorem lw_p102 : lw_okq (⟨"ModalKeysModel", "undoes", "(I)I"⟩, 16) := ⟨⟨by decide +kernel, by decide +kernel⟩, List.mem_of_getElem? (i := 687) (by decide +kernel), List.mem_of_getElem? (i := 901) (by decide +kernel), List.mem_of_getElem? (i := 902) (by decide +kernel)⟩
theorem lw_p103 : lw_okq (⟨"ModalKeysModel", "marks", "()I"⟩, 16) := ⟨⟨by decide +kernel, by decide +kernel⟩, List.mem_of_getElem? (i := 687) (by decide +kernel), List.mem_of_getElem? (i := 931) (by decide +kernel), List.mem_of_getElem? (i := 932) (by decide +kernel)⟩
theorem lw_p104 : lw_okq (⟨"ModalKeysModel", "wordsOf", "()I"⟩, 16) := ⟨⟨by decide +kernel, by decide +kernel⟩, List.mem_of_getElem? (i := 687) (by decide +kernel), List.mem_of_getElem? (i := 935) (by decide +kernel), List.mem_of_getElem? (i := 936) (by decide +kernel)⟩
theorem lw_p105 : lw_okq (⟨"ModalKeysModel", "isPlace", "(I)Z"⟩, 16) := ⟨⟨by decide +kernel, by decide +kernel⟩, List.mem_of_getElem? (i := 687) (by decide +kernel), List.mem_of_getElem? (i := 956) (by decide +kernel), List.mem_of_getElem? (i := 957) (by decide +kernel)⟩
theorem lw_p106 : lw_okq (⟨"ModalKeysModel", "costsTo", "(I)V"⟩, 16) := ⟨⟨by decide +kernel, by decide +kernel⟩, List.mem_of_getElem? (i := 687) (by decide +kernel), List.mem_of_getElem? (i := 960) (by decide +kernel), List.mem_of_getElem? (i := 961) (by decide +kernel)⟩
theorem lw_p107 : lw_okq (⟨"ModalKeysModel", "lands", "(II)I"⟩, 16) := ⟨⟨by decide +kernel, by decide +kernel⟩, List.mem_of_getElem? (i := 687) (by decide +kernel), List.mem_of_getElem? (i := 965) (by decide +kernel), List.mem_of_getElem? (i := 966) (by decide +kernel)⟩
theorem lw_p108 : lw_okq (⟨"ModalKeysModel", "start", "()I"⟩, 16) := ⟨⟨by decide +kernel, by decide +kernel⟩, List.mem_of_getElem? (i := 687) (by decide +kernel), List.mem_of_getElem? (i := 969) (by decide +kernel), List.mem_of_getElem? (i := 970) (by decide +kernel)⟩
theorem lw_p109 : lw_okq (⟨"ModalKeysModel", "why", "(IIII)I"⟩, 16) := ⟨⟨by decide +kernel, by decide +kernel⟩, List.mem_of_getElem? (i := 687) (by decide +kernel), List.mem_of_getElem? (i := 1014) (by decide +kernel), List.mem_of_getElem? (i := 1015) (by decide +kernel)⟩
def lw_privs_7 : List (MethodName × Nat) := [(⟨"ModalKeysModel", "wordEnd", "(I)I"⟩, 16), (⟨"ModalKeysModel", "waits", "(I)I"⟩, 16), (⟨"ModalKeysModel", "deed", "(I)I"⟩, 16), (⟨"ModalKeysModel", "crosses", "(I)I"⟩, 16), (⟨"ModalKeysModel", "turns", "(I)I"⟩, 16), (⟨"ModalKeysModel", "puts", "(ZI)I"⟩, 16), (⟨"ModalKeysModel", "undoes", "(I)I"⟩, 16), (⟨"ModalKeysModel", "marks", "()I"⟩, 16), (⟨"ModalKeysModel", "wordsOf", "()I"⟩, 16), (⟨"ModalKeysModel", "isPlace", "(I)Z"⟩, 16), (⟨"ModalKeysModel", "costsTo", "(I)V"⟩, 16), (⟨"ModalKeysModel", "lands", "(II)I"⟩, 16), (⟨"ModalKeysModel", "start", "()I"⟩, 16), (⟨"ModalKeysModel", "why", "(IIII)I"⟩, 16)]
theorem lw_r7 : ∀ q ∈ lw_privs_7, lw_okq q := List.forall_mem_cons.mpr ⟨lw_p96, List.forall_mem_cons.mpr ⟨lw_p97, List.forall_mem_cons.mpr ⟨lw_p98, List.forall_mem_cons.mpr ⟨lw_p99, List.forall_mem_cons.mpr ⟨lw_p100, List.forall_mem_cons.mpr ⟨lw_p101, List.forall_mem_cons.mpr ⟨lw_p102, List.forall_mem_cons.mpr ⟨lw_p103, List.forall_mem_cons.mpr ⟨lw_p104, List.forall_mem_cons.mpr ⟨lw_p105, List.forall_mem_cons.mpr ⟨lw_p106, List.forall_mem_cons.mpr ⟨lw_p107, List.forall_mem_cons.mpr ⟨lw_p108, List.forall_mem_cons.mpr ⟨lw_p109, fun _ h => absurd h List.not_mem_nil⟩⟩⟩⟩⟩⟩⟩⟩⟩⟩⟩⟩⟩⟩
def lw_privs : List (MethodName × Nat) := lw_privs_1 ++ (lw_privs_2 ++ (lw_privs_3 ++ (lw_privs_4 ++ (lw_privs_5 ++ (lw_privs_6 ++ (lw_privs_7))))))
def lw_tbl : List Cond := k2_sels lw_privs ++ tables_1
theorem lw_privs_ok : ∀ q ∈ lw_privs, lw_okq q := by
  show ∀ q ∈ lw_privs_1 ++ (lw_privs_2 ++ (lw_privs_3 ++ (lw_privs_4 ++ (lw_privs_5 ++ (lw_privs_6 ++ (lw_privs_7)))))), lw_okq q
  exact List.forall_mem_append.mpr ⟨lw_r1, List.forall_mem_append.mpr ⟨lw_r2, List.forall_mem_append.mpr ⟨lw_r3, List.forall_mem_append.mpr ⟨lw_r4, List.forall_mem_append.mpr ⟨lw_r5, List.forall_mem_append.mpr ⟨lw_r6, lw_r7⟩⟩⟩⟩⟩⟩
end
section
def RX0 : String := "ModalKeys$Command"
def TX0 : u_T := fun k => match k with
  | 0 => ("ModalKeys$Command", "keys", "LModalKeys$KeyRow;", true)
  | 1 => ("ModalKeys$Command", "phase", "I", false)
  | 2 => ("ModalKeys$Command", "verb", "I", false)
  | 3 => ("ModalKeys$Command", "number", "I", false)
  | 4 => ("ModalKeys$Command", "secondNumber", "I", false)
  | 5 => ("ModalKeys$Command", "reach", "I", false)
  | 6 => ("ModalKeys$Command", "motion", "I", false)
  | 7 => ("ModalKeys$Command", "around", "Z", false)
  | _ => ("ModalKeys$Command", "argument", "I", false)
def tyX0 : Nat → FieldType := fun k => match k with
  | 0 => .object "ModalKeys$KeyRow"
  | 1 => .int
  | 2 => .int
  | 3 => .int
  | 4 => .int
  | 5 => .int
  | 6 => .int
  | 7 => .boolean
  | _ => .int
abbrev wsX00 : List Cond := u_ws RX0 TX0 9
theorem nmX0 : ∀ a, a < 9 → ∀ b, b < 9 → a ≠ b → (TX0 a).2.1 ≠ (TX0 b).2.1 := by decide +kernel
theorem tyX0_ok : ∀ k, k < 9 → parseFieldDescriptor (TX0 k).2.2.1 = some (tyX0 k) := by decide +kernel
abbrev cX0_init : ByteArray := prog_2_method_1_code
def yX0_init : MethodName := ⟨RX0, "<init>", "()V"⟩
abbrev cX0_clear : ByteArray := prog_2_method_2_code
def yX0_clear : MethodName := ⟨RX0, "clear", "()V"⟩
abbrev cX0_become : ByteArray := prog_2_method_3_code
def yX0_become : MethodName := ⟨RX0, "become", "(LModalKeys$Command;)V"⟩
abbrev cX0_times : ByteArray := prog_2_method_4_code
def yX0_times : MethodName := ⟨RX0, "times", "()I"⟩
abbrev cX0_take : ByteArray := prog_2_method_5_code
def yX0_take : MethodName := ⟨RX0, "take", "(I)I"⟩
abbrev cX0_takeVerb : ByteArray := prog_2_method_6_code
def yX0_takeVerb : MethodName := ⟨RX0, "takeVerb", "(I)I"⟩
abbrev cX0_waitWith : ByteArray := prog_2_method_7_code
def yX0_waitWith : MethodName := ⟨RX0, "waitWith", "(II)I"⟩
abbrev cX0_takeReach : ByteArray := prog_2_method_8_code
def yX0_takeReach : MethodName := ⟨RX0, "takeReach", "(I)I"⟩
abbrev cX0_takeObject : ByteArray := prog_2_method_9_code
def yX0_takeObject : MethodName := ⟨RX0, "takeObject", "(I)I"⟩
abbrev cX0_takeMotion : ByteArray := prog_2_method_10_code
def yX0_takeMotion : MethodName := ⟨RX0, "takeMotion", "(I)I"⟩
abbrev cX0_motionOf : ByteArray := prog_2_method_11_code
def yX0_motionOf : MethodName := ⟨RX0, "motionOf", "(I)I"⟩
abbrev cX0_isFigure : ByteArray := prog_2_method_12_code
def yX0_isFigure : MethodName := ⟨RX0, "isFigure", "(II)Z"⟩
abbrev cX0_withFigure : ByteArray := prog_2_method_13_code
def yX0_withFigure : MethodName := ⟨RX0, "withFigure", "(II)I"⟩
def RX1 : String := "ModalKeys$Desk"
def TX1 : u_T := fun k => match k with
  | 0 => ("ModalKeys$Desk", "text", "LModalKeys$Text;", true)
  | 1 => ("ModalKeys$Desk", "before", "LModalKeys$Text;", true)
  | 2 => ("ModalKeys$Desk", "past", "LModalKeys$Past;", true)
  | 3 => ("ModalKeys$Desk", "command", "LModalKeys$Command;", true)
  | 4 => ("ModalKeys$Desk", "latest", "LModalKeys$KeyRow;", true)
  | 5 => ("ModalKeys$Desk", "stored", "[I", true)
  | 6 => ("ModalKeys$Desk", "storedLength", "I", false)
  | 7 => ("ModalKeys$Desk", "marks", "[I", true)
  | 8 => ("ModalKeys$Desk", "prices", "[I", true)
  | 9 => ("ModalKeys$Desk", "typing", "Z", false)
  | 10 => ("ModalKeys$Desk", "place", "I", false)
  | 11 => ("ModalKeys$Desk", "from", "I", false)
  | _ => ("ModalKeys$Desk", "to", "I", false)
def tyX1 : Nat → FieldType := fun k => match k with
  | 0 => .object "ModalKeys$Text"
  | 1 => .object "ModalKeys$Text"
  | 2 => .object "ModalKeys$Past"
  | 3 => .object "ModalKeys$Command"
  | 4 => .object "ModalKeys$KeyRow"
  | 5 => .array .int
  | 6 => .int
  | 7 => .array .int
  | 8 => .array .int
  | 9 => .boolean
  | 10 => .int
  | 11 => .int
  | _ => .int
abbrev wsX10 : List Cond := u_ws RX1 TX1 13
theorem nmX1 : ∀ a, a < 13 → ∀ b, b < 13 → a ≠ b → (TX1 a).2.1 ≠ (TX1 b).2.1 := by decide +kernel
theorem tyX1_ok : ∀ k, k < 13 → parseFieldDescriptor (TX1 k).2.2.1 = some (tyX1 k) := by decide +kernel
abbrev cX1_init : ByteArray := prog_3_method_1_code
def yX1_init : MethodName := ⟨RX1, "<init>", "()V"⟩
abbrev cX1_become : ByteArray := prog_3_method_2_code
def yX1_become : MethodName := ⟨RX1, "become", "(LModalKeys$Desk;)V"⟩
abbrev cX1_begin : ByteArray := prog_3_method_3_code
def yX1_begin : MethodName := ⟨RX1, "begin", "([II)V"⟩
abbrev cX1_isPending : ByteArray := prog_3_method_4_code
def yX1_isPending : MethodName := ⟨RX1, "isPending", "()Z"⟩
abbrev cX1_markSet : ByteArray := prog_3_method_5_code
def yX1_markSet : MethodName := ⟨RX1, "markSet", "()I"⟩
abbrev cX1_press : ByteArray := prog_3_method_6_code
def yX1_press : MethodName := ⟨RX1, "press", "(I)I"⟩
abbrev cX1_strike : ByteArray := prog_3_method_7_code
def yX1_strike : MethodName := ⟨RX1, "strike", "(IZ)I"⟩
abbrev cX1_typeIn : ByteArray := prog_3_method_8_code
def yX1_typeIn : MethodName := ⟨RX1, "typeIn", "(IZ)I"⟩
abbrev cX1_remember : ByteArray := prog_3_method_9_code
def yX1_remember : MethodName := ⟨RX1, "remember", "(Z)V"⟩
abbrev cX1_aim : ByteArray := prog_3_method_10_code
def yX1_aim : MethodName := ⟨RX1, "aim", "()Z"⟩
abbrev cX1_aimByMotion : ByteArray := prog_3_method_11_code
def yX1_aimByMotion : MethodName := ⟨RX1, "aimByMotion", "(III)Z"⟩
abbrev cX1_takesPlace : ByteArray := prog_3_method_12_code
def yX1_takesPlace : MethodName := ⟨RX1, "takesPlace", "(I)Z"⟩
abbrev cX1_placeOfMark : ByteArray := prog_3_method_13_code
def yX1_placeOfMark : MethodName := ⟨RX1, "placeOfMark", "(I)I"⟩
abbrev cX1_aimByWord : ByteArray := prog_3_method_14_code
def yX1_aimByWord : MethodName := ⟨RX1, "aimByWord", "()Z"⟩
abbrev cX1_aimByBrackets : ByteArray := prog_3_method_15_code
def yX1_aimByBrackets : MethodName := ⟨RX1, "aimByBrackets", "()Z"⟩
abbrev cX1_aimByLetters : ByteArray := prog_3_method_16_code
def yX1_aimByLetters : MethodName := ⟨RX1, "aimByLetters", "(I)Z"⟩
abbrev cX1_perform : ByteArray := prog_3_method_17_code
def yX1_perform : MethodName := ⟨RX1, "perform", "(I)I"⟩
abbrev cX1_storeRange : ByteArray := prog_3_method_18_code
def yX1_storeRange : MethodName := ⟨RX1, "storeRange", "()V"⟩
abbrev cX1_cutRange : ByteArray := prog_3_method_19_code
def yX1_cutRange : MethodName := ⟨RX1, "cutRange", "()I"⟩
abbrev cX1_overwrite : ByteArray := prog_3_method_20_code
def yX1_overwrite : MethodName := ⟨RX1, "overwrite", "(I)I"⟩
abbrev cX1_swapCases : ByteArray := prog_3_method_21_code
def yX1_swapCases : MethodName := ⟨RX1, "swapCases", "(I)I"⟩
abbrev cX1_putIn : ByteArray := prog_3_method_22_code
def yX1_putIn : MethodName := ⟨RX1, "putIn", "(II)I"⟩
abbrev cX1_typeAt : ByteArray := prog_3_method_23_code
def yX1_typeAt : MethodName := ⟨RX1, "typeAt", "(I)I"⟩
abbrev cX1_setMark : ByteArray := prog_3_method_24_code
def yX1_setMark : MethodName := ⟨RX1, "setMark", "(I)I"⟩
def RX2 : String := "ModalKeys$KeyRow"
def TX2 : u_T := fun k => match k with
  | 0 => ("ModalKeys$KeyRow", "keys", "[I", true)
  | _ => ("ModalKeys$KeyRow", "size", "I", false)
def tyX2 : Nat → FieldType := fun k => match k with
  | 0 => .array .int
  | _ => .int
abbrev wsX20 : List Cond := u_ws RX2 TX2 2
theorem nmX2 : ∀ a, a < 2 → ∀ b, b < 2 → a ≠ b → (TX2 a).2.1 ≠ (TX2 b).2.1 := by decide +kernel
theorem tyX2_ok : ∀ k, k < 2 → parseFieldDescriptor (TX2 k).2.2.1 = some (tyX2 k) := by decide +kernel
abbrev cX2_init : ByteArray := prog_4_method_1_code
def yX2_init : MethodName := ⟨RX2, "<init>", "()V"⟩
abbrev cX2_become : ByteArray := prog_4_method_2_code
def yX2_become : MethodName := ⟨RX2, "become", "(LModalKeys$KeyRow;)V"⟩
abbrev cX2_add : ByteArray := prog_4_method_3_code
def yX2_add : MethodName := ⟨RX2, "add", "(I)V"⟩
abbrev cX2_canBeRepeated : ByteArray := prog_4_method_4_code
def yX2_canBeRepeated : MethodName := ⟨RX2, "canBeRepeated", "()Z"⟩
def RX3 : String := "ModalKeys$Past"
def TX3 : u_T := fun k => match k with
  | 0 => ("ModalKeys$Past", "letters", "[I", true)
  | 1 => ("ModalKeys$Past", "lengths", "[I", true)
  | 2 => ("ModalKeys$Past", "cursors", "[I", true)
  | 3 => ("ModalKeys$Past", "next", "I", false)
  | _ => ("ModalKeys$Past", "size", "I", false)
def tyX3 : Nat → FieldType := fun k => match k with
  | 0 => .array .int
  | 1 => .array .int
  | 2 => .array .int
  | 3 => .int
  | _ => .int
abbrev wsX30 : List Cond := u_ws RX3 TX3 5
theorem nmX3 : ∀ a, a < 5 → ∀ b, b < 5 → a ≠ b → (TX3 a).2.1 ≠ (TX3 b).2.1 := by decide +kernel
theorem tyX3_ok : ∀ k, k < 5 → parseFieldDescriptor (TX3 k).2.2.1 = some (tyX3 k) := by decide +kernel
abbrev cX3_init : ByteArray := prog_5_method_1_code
def yX3_init : MethodName := ⟨RX3, "<init>", "()V"⟩
abbrev cX3_become : ByteArray := prog_5_method_2_code
def yX3_become : MethodName := ⟨RX3, "become", "(LModalKeys$Past;)V"⟩
abbrev cX3_keep : ByteArray := prog_5_method_3_code
def yX3_keep : MethodName := ⟨RX3, "keep", "(LModalKeys$Text;)V"⟩
abbrev cX3_bringBack : ByteArray := prog_5_method_4_code
def yX3_bringBack : MethodName := ⟨RX3, "bringBack", "(LModalKeys$Text;I)Z"⟩
def RX4 : String := "ModalKeys$Sheet"
def TX4 : u_T := fun k => match k with
  | 0 => ("ModalKeys$Sheet", "items", "[J", true)
  | 1 => ("ModalKeys$Sheet", "lane", "I", false)
  | _ => ("ModalKeys$Sheet", "size", "I", false)
def tyX4 : Nat → FieldType := fun k => match k with
  | 0 => .array .long
  | 1 => .int
  | _ => .int
abbrev wsX40 : List Cond := u_ws RX4 TX4 3
theorem nmX4 : ∀ a, a < 3 → ∀ b, b < 3 → a ≠ b → (TX4 a).2.1 ≠ (TX4 b).2.1 := by decide +kernel
theorem tyX4_ok : ∀ k, k < 3 → parseFieldDescriptor (TX4 k).2.2.1 = some (tyX4 k) := by decide +kernel
abbrev cX4_init : ByteArray := prog_6_method_1_code
def yX4_init : MethodName := ⟨RX4, "<init>", "()V"⟩
abbrev cX4_isNothing : ByteArray := prog_6_method_2_code
def yX4_isNothing : MethodName := ⟨RX4, "isNothing", "()Z"⟩
abbrev cX4_hold : ByteArray := prog_6_method_3_code
def yX4_hold : MethodName := ⟨RX4, "hold", "(II)V"⟩
abbrev cX4_reaches : ByteArray := prog_6_method_4_code
def yX4_reaches : MethodName := ⟨RX4, "reaches", "(II)Z"⟩
abbrev cX4_faultAs : ByteArray := prog_6_method_5_code
def yX4_faultAs : MethodName := ⟨RX4, "faultAs", "(III)I"⟩
abbrev cX4_put : ByteArray := prog_6_method_6_code
def yX4_put : MethodName := ⟨RX4, "put", "(IJ)V"⟩
def RX5 : String := "ModalKeys$Text"
def TX5 : u_T := fun k => match k with
  | 0 => ("ModalKeys$Text", "letters", "[I", true)
  | 1 => ("ModalKeys$Text", "length", "I", false)
  | _ => ("ModalKeys$Text", "cursor", "I", false)
def tyX5 : Nat → FieldType := fun k => match k with
  | 0 => .array .int
  | 1 => .int
  | _ => .int
abbrev wsX50 : List Cond := u_ws RX5 TX5 3
theorem nmX5 : ∀ a, a < 3 → ∀ b, b < 3 → a ≠ b → (TX5 a).2.1 ≠ (TX5 b).2.1 := by decide +kernel
theorem tyX5_ok : ∀ k, k < 3 → parseFieldDescriptor (TX5 k).2.2.1 = some (tyX5 k) := by decide +kernel
abbrev cX5_init : ByteArray := prog_7_method_1_code
def yX5_init : MethodName := ⟨RX5, "<init>", "()V"⟩
abbrev cX5_become : ByteArray := prog_7_method_2_code
def yX5_become : MethodName := ⟨RX5, "become", "(LModalKeys$Text;)V"⟩
abbrev cX5_has : ByteArray := prog_7_method_3_code
def yX5_has : MethodName := ⟨RX5, "has", "(I)Z"⟩
abbrev cX5_at : ByteArray := prog_7_method_4_code
def yX5_at : MethodName := ⟨RX5, "at", "(I)I"⟩
abbrev cX5_last : ByteArray := prog_7_method_5_code
def yX5_last : MethodName := ⟨RX5, "last", "()I"⟩
abbrev cX5_canStand : ByteArray := prog_7_method_6_code
def yX5_canStand : MethodName := ⟨RX5, "canStand", "(I)Z"⟩
abbrev cX5_standing : ByteArray := prog_7_method_7_code
def yX5_standing : MethodName := ⟨RX5, "standing", "()I"⟩
abbrev cX5_goTo : ByteArray := prog_7_method_8_code
def yX5_goTo : MethodName := ⟨RX5, "goTo", "(I)V"⟩
abbrev cX5_kindAt : ByteArray := prog_7_method_9_code
def yX5_kindAt : MethodName := ⟨RX5, "kindAt", "(I)I"⟩
abbrev cX5_behindKind : ByteArray := prog_7_method_10_code
def yX5_behindKind : MethodName := ⟨RX5, "behindKind", "(II)I"⟩
abbrev cX5_beginOfKind : ByteArray := prog_7_method_11_code
def yX5_beginOfKind : MethodName := ⟨RX5, "beginOfKind", "(II)I"⟩
abbrev cX5_lead : ByteArray := prog_7_method_12_code
def yX5_lead : MethodName := ⟨RX5, "lead", "(II)I"⟩
abbrev cX5_deed : ByteArray := prog_7_method_13_code
def yX5_deed : MethodName := ⟨RX5, "deed", "(II)I"⟩
abbrev cX5_findBehind : ByteArray := prog_7_method_14_code
def yX5_findBehind : MethodName := ⟨RX5, "findBehind", "(III)I"⟩
abbrev cX5_openingRound : ByteArray := prog_7_method_15_code
def yX5_openingRound : MethodName := ⟨RX5, "openingRound", "(I)I"⟩
abbrev cX5_closingOf : ByteArray := prog_7_method_16_code
def yX5_closingOf : MethodName := ⟨RX5, "closingOf", "(I)I"⟩
abbrev cX5_words : ByteArray := prog_7_method_17_code
def yX5_words : MethodName := ⟨RX5, "words", "()I"⟩
abbrev cX5_takeOut : ByteArray := prog_7_method_18_code
def yX5_takeOut : MethodName := ⟨RX5, "takeOut", "(II)V"⟩
abbrev cX5_makeRoom : ByteArray := prog_7_method_19_code
def yX5_makeRoom : MethodName := ⟨RX5, "makeRoom", "(II)V"⟩
abbrev cX5_swapCase : ByteArray := prog_7_method_20_code
def yX5_swapCase : MethodName := ⟨RX5, "swapCase", "(I)V"⟩
def RX6 : String := "ModalKeys$Ways"
def TX6 : u_T := fun k => match k with
  | 0 => ("ModalKeys$Ways", "leadsTo", "[[I", true)
  | 1 => ("ModalKeys$Ways", "cost", "[I", true)
  | 2 => ("ModalKeys$Ways", "rows", "[I", true)
  | 3 => ("ModalKeys$Ways", "longerRows", "[I", true)
  | _ => ("ModalKeys$Ways", "places", "I", false)
def tyX6 : Nat → FieldType := fun k => match k with
  | 0 => .array (.array .int)
  | 1 => .array .int
  | 2 => .array .int
  | 3 => .array .int
  | _ => .int
abbrev wsX60 : List Cond := u_ws RX6 TX6 5
theorem nmX6 : ∀ a, a < 5 → ∀ b, b < 5 → a ≠ b → (TX6 a).2.1 ≠ (TX6 b).2.1 := by decide +kernel
theorem tyX6_ok : ∀ k, k < 5 → parseFieldDescriptor (TX6 k).2.2.1 = some (tyX6 k) := by decide +kernel
abbrev cX6_init : ByteArray := prog_8_method_1_code
def yX6_init : MethodName := ⟨RX6, "<init>", "()V"⟩
abbrev cX6_survey : ByteArray := prog_8_method_2_code
def yX6_survey : MethodName := ⟨RX6, "survey", "(LModalKeys$Text;)V"⟩
abbrev cX6_reckon : ByteArray := prog_8_method_3_code
def yX6_reckon : MethodName := ⟨RX6, "reckon", "(IZ[I)V"⟩
abbrev cX6_stepOf : ByteArray := prog_8_method_4_code
def yX6_stepOf : MethodName := ⟨RX6, "stepOf", "(III[I)I"⟩
abbrev cX6_firstOnWay : ByteArray := prog_8_method_5_code
def yX6_firstOnWay : MethodName := ⟨RX6, "firstOnWay", "(I[I)I"⟩
abbrev cX6_dearest : ByteArray := prog_8_method_6_code
def yX6_dearest : MethodName := ⟨RX6, "dearest", "()I"⟩
abbrev cX6_rowsTo : ByteArray := prog_8_method_7_code
def yX6_rowsTo : MethodName := ⟨RX6, "rowsTo", "(III)I"⟩
def RX7 : String := "ModalKeys"
def TX7 : u_T := fun k => match k with
  | 0 => ("ModalKeys", "tape", "[I", true)
  | 1 => ("ModalKeys", "taped", "I", false)
  | 2 => ("ModalKeys", "desk", "LModalKeys$Desk;", true)
  | 3 => ("ModalKeys", "kept", "LModalKeys$Desk;", true)
  | 4 => ("ModalKeys", "hasImage", "Z", false)
  | 5 => ("ModalKeys", "ways", "LModalKeys$Ways;", true)
  | _ => ("ModalKeys", "sheets", "[LModalKeys$Sheet;", true)
def tyX7 : Nat → FieldType := fun k => match k with
  | 0 => .array .int
  | 1 => .int
  | 2 => .object "ModalKeys$Desk"
  | 3 => .object "ModalKeys$Desk"
  | 4 => .boolean
  | 5 => .object "ModalKeys$Ways"
  | _ => .array (.object "ModalKeys$Sheet")
abbrev wsX70 : List Cond := u_ws RX7 TX7 7
theorem nmX7 : ∀ a, a < 7 → ∀ b, b < 7 → a ≠ b → (TX7 a).2.1 ≠ (TX7 b).2.1 := by decide +kernel
theorem tyX7_ok : ∀ k, k < 7 → parseFieldDescriptor (TX7 k).2.2.1 = some (tyX7 k) := by decide +kernel
abbrev cX7_init : ByteArray := prog_1_method_1_code
def yX7_init : MethodName := ⟨RX7, "<init>", "()V"⟩
abbrev cX7_type : ByteArray := prog_1_method_2_code
def yX7_type : MethodName := ⟨RX7, "type", "(I)I"⟩
abbrev cX7_line : ByteArray := prog_1_method_3_code
def yX7_line : MethodName := ⟨RX7, "line", "()I"⟩
abbrev cX7_letter : ByteArray := prog_1_method_4_code
def yX7_letter : MethodName := ⟨RX7, "letter", "(I)I"⟩
abbrev cX7_store : ByteArray := prog_1_method_5_code
def yX7_store : MethodName := ⟨RX7, "store", "(I)I"⟩
abbrev cX7_mark : ByteArray := prog_1_method_6_code
def yX7_mark : MethodName := ⟨RX7, "mark", "(I)I"⟩
abbrev cX7_count : ByteArray := prog_1_method_7_code
def yX7_count : MethodName := ⟨RX7, "count", "(I)I"⟩
abbrev cX7_key : ByteArray := prog_1_method_8_code
def yX7_key : MethodName := ⟨RX7, "key", "(I)I"⟩
abbrev cX7_price : ByteArray := prog_1_method_9_code
def yX7_price : MethodName := ⟨RX7, "price", "(II)I"⟩
abbrev cX7_leads : ByteArray := prog_1_method_10_code
def yX7_leads : MethodName := ⟨RX7, "leads", "(II)I"⟩
abbrev cX7_steps : ByteArray := prog_1_method_11_code
def yX7_steps : MethodName := ⟨RX7, "steps", "(II)I"⟩
abbrev cX7_farthest : ByteArray := prog_1_method_12_code
def yX7_farthest : MethodName := ⟨RX7, "farthest", "(I)I"⟩
abbrev cX7_once : ByteArray := prog_1_method_13_code
def yX7_once : MethodName := ⟨RX7, "once", "(I)I"⟩
abbrev cX7_goes : ByteArray := prog_1_method_14_code
def yX7_goes : MethodName := ⟨RX7, "goes", "(II)I"⟩
abbrev cX7_struck : ByteArray := prog_1_method_15_code
def yX7_struck : MethodName := ⟨RX7, "struck", "(III)I"⟩
abbrev cX7_image : ByteArray := prog_1_method_16_code
def yX7_image : MethodName := ⟨RX7, "image", "()I"⟩
abbrev cX7_restore : ByteArray := prog_1_method_17_code
def yX7_restore : MethodName := ⟨RX7, "restore", "()I"⟩
abbrev cX7_play : ByteArray := prog_1_method_18_code
def yX7_play : MethodName := ⟨RX7, "play", "(IIII)I"⟩
abbrev cX7_film : ByteArray := prog_1_method_19_code
def yX7_film : MethodName := ⟨RX7, "film", "(IIIII)I"⟩
abbrev cX7_sheet : ByteArray := prog_1_method_20_code
def yX7_sheet : MethodName := ⟨RX7, "sheet", "(III)I"⟩
abbrev cX7_drop : ByteArray := prog_1_method_21_code
def yX7_drop : MethodName := ⟨RX7, "drop", "(I)I"⟩
abbrev cX7_item : ByteArray := prog_1_method_22_code
def yX7_item : MethodName := ⟨RX7, "item", "(IIIJ)I"⟩
abbrev cX7_copy : ByteArray := prog_1_method_23_code
def yX7_copy : MethodName := ⟨RX7, "copy", "(IIIII)I"⟩
abbrev cX7_sheetAt : ByteArray := prog_1_method_24_code
def yX7_sheetAt : MethodName := ⟨RX7, "sheetAt", "(I)LModalKeys$Sheet;"⟩
abbrev cX7_isLetter : ByteArray := prog_1_method_25_code
def yX7_isLetter : MethodName := ⟨RX7, "isLetter", "(I)Z"⟩
abbrev cX7_isMotion : ByteArray := prog_1_method_26_code
def yX7_isMotion : MethodName := ⟨RX7, "isMotion", "(I)Z"⟩
abbrev cX7_isLane : ByteArray := prog_1_method_27_code
def yX7_isLane : MethodName := ⟨RX7, "isLane", "(I)Z"⟩
abbrev cX7_isPortion : ByteArray := prog_1_method_28_code
def yX7_isPortion : MethodName := ⟨RX7, "isPortion", "(I)Z"⟩
def RX8 : String := "ModalKeysModel"
def TX8 : u_T := fun k => match k with
  | 0 => ("ModalKeysModel", "now", "[I", true)
  | 1 => ("ModalKeysModel", "ahead", "[I", true)
  | 2 => ("ModalKeysModel", "undos", "I", false)
  | 3 => ("ModalKeysModel", "again", "[I", true)
  | 4 => ("ModalKeysModel", "tape", "[I", true)
  | 5 => ("ModalKeysModel", "taped", "I", false)
  | 6 => ("ModalKeysModel", "costs", "[I", true)
  | 7 => ("ModalKeysModel", "ways", "[I", true)
  | 8 => ("ModalKeysModel", "then", "[I", true)
  | 9 => ("ModalKeysModel", "kept", "[I", true)
  | 10 => ("ModalKeysModel", "keptAhead", "[I", true)
  | 11 => ("ModalKeysModel", "keptUndos", "I", false)
  | 12 => ("ModalKeysModel", "lanes", "[I", true)
  | 13 => ("ModalKeysModel", "sizes", "[I", true)
  | 14 => ("ModalKeysModel", "items", "[J", true)
  | _ => ("ModalKeysModel", "moved", "[J", true)
def tyX8 : Nat → FieldType := fun k => match k with
  | 0 => .array .int
  | 1 => .array .int
  | 2 => .int
  | 3 => .array .int
  | 4 => .array .int
  | 5 => .int
  | 6 => .array .int
  | 7 => .array .int
  | 8 => .array .int
  | 9 => .array .int
  | 10 => .array .int
  | 11 => .int
  | 12 => .array .int
  | 13 => .array .int
  | 14 => .array .long
  | _ => .array .long
abbrev wsX80 : List Cond := u_ws RX8 TX8 16
theorem nmX8 : ∀ a, a < 16 → ∀ b, b < 16 → a ≠ b → (TX8 a).2.1 ≠ (TX8 b).2.1 := by decide +kernel
theorem tyX8_ok : ∀ k, k < 16 → parseFieldDescriptor (TX8 k).2.2.1 = some (tyX8 k) := by decide +kernel
abbrev cX8_in : ByteArray := prog_10_method_2_code
def yX8_in : MethodName := ⟨RX8, "in", "(JJJ)Z"⟩
abbrev cX8_init : ByteArray := prog_10_method_3_code
def yX8_init : MethodName := ⟨RX8, "<init>", "()V"⟩
abbrev cX8_lesser : ByteArray := prog_10_method_4_code
def yX8_lesser : MethodName := ⟨RX8, "lesser", "(II)I"⟩
abbrev cX8_last : ByteArray := prog_10_method_5_code
def yX8_last : MethodName := ⟨RX8, "last", "()I"⟩
abbrev cX8_classOf : ByteArray := prog_10_method_6_code
def yX8_classOf : MethodName := ⟨RX8, "classOf", "(I)I"⟩
abbrev cX8_classAt : ByteArray := prog_10_method_7_code
def yX8_classAt : MethodName := ⟨RX8, "classAt", "(I)I"⟩
abbrev cX8_wordOn : ByteArray := prog_10_method_8_code
def yX8_wordOn : MethodName := ⟨RX8, "wordOn", "(I)I"⟩
abbrev cX8_wordBack : ByteArray := prog_10_method_9_code
def yX8_wordBack : MethodName := ⟨RX8, "wordBack", "(I)I"⟩
abbrev cX8_wordEnd : ByteArray := prog_10_method_10_code
def yX8_wordEnd : MethodName := ⟨RX8, "wordEnd", "(I)I"⟩
abbrev cX8_leadsTo : ByteArray := prog_10_method_11_code
def yX8_leadsTo : MethodName := ⟨RX8, "leadsTo", "(II)I"⟩
abbrev cX8_nextOf : ByteArray := prog_10_method_12_code
def yX8_nextOf : MethodName := ⟨RX8, "nextOf", "(II)I"⟩
abbrev cX8_findsTo : ByteArray := prog_10_method_13_code
def yX8_findsTo : MethodName := ⟨RX8, "findsTo", "(II)I"⟩
abbrev cX8_often : ByteArray := prog_10_method_14_code
def yX8_often : MethodName := ⟨RX8, "often", "()I"⟩
abbrev cX8_ends : ByteArray := prog_10_method_15_code
def yX8_ends : MethodName := ⟨RX8, "ends", "()V"⟩
abbrev cX8_records : ByteArray := prog_10_method_16_code
def yX8_records : MethodName := ⟨RX8, "records", "(I)V"⟩
abbrev cX8_changes : ByteArray := prog_10_method_17_code
def yX8_changes : MethodName := ⟨RX8, "changes", "()V"⟩
abbrev cX8_undoes : ByteArray := prog_10_method_18_code
def yX8_undoes : MethodName := ⟨RX8, "undoes", "(I)I"⟩
abbrev cX8_keeps : ByteArray := prog_10_method_19_code
def yX8_keeps : MethodName := ⟨RX8, "keeps", "(II)V"⟩
abbrev cX8_cuts : ByteArray := prog_10_method_20_code
def yX8_cuts : MethodName := ⟨RX8, "cuts", "(II)V"⟩
abbrev cX8_inserts : ByteArray := prog_10_method_21_code
def yX8_inserts : MethodName := ⟨RX8, "inserts", "(I)I"⟩
abbrev cX8_ranged : ByteArray := prog_10_method_22_code
def yX8_ranged : MethodName := ⟨RX8, "ranged", "(II)I"⟩
abbrev cX8_goesTo : ByteArray := prog_10_method_23_code
def yX8_goesTo : MethodName := ⟨RX8, "goesTo", "(IZ)I"⟩
abbrev cX8_moves : ByteArray := prog_10_method_24_code
def yX8_moves : MethodName := ⟨RX8, "moves", "(I)I"⟩
abbrev cX8_objects : ByteArray := prog_10_method_25_code
def yX8_objects : MethodName := ⟨RX8, "objects", "(ZI)I"⟩
abbrev cX8_words : ByteArray := prog_10_method_26_code
def yX8_words : MethodName := ⟨RX8, "words", "(Z)I"⟩
abbrev cX8_bracket : ByteArray := prog_10_method_27_code
def yX8_bracket : MethodName := ⟨RX8, "bracket", "(IIII)I"⟩
abbrev cX8_brackets : ByteArray := prog_10_method_28_code
def yX8_brackets : MethodName := ⟨RX8, "brackets", "(Z)I"⟩
abbrev cX8_crosses : ByteArray := prog_10_method_29_code
def yX8_crosses : MethodName := ⟨RX8, "crosses", "(I)I"⟩
abbrev cX8_replaces : ByteArray := prog_10_method_30_code
def yX8_replaces : MethodName := ⟨RX8, "replaces", "(II)I"⟩
abbrev cX8_turns : ByteArray := prog_10_method_31_code
def yX8_turns : MethodName := ⟨RX8, "turns", "(I)I"⟩
abbrev cX8_puts : ByteArray := prog_10_method_32_code
def yX8_puts : MethodName := ⟨RX8, "puts", "(ZI)I"⟩
abbrev cX8_motionOf : ByteArray := prog_10_method_33_code
def yX8_motionOf : MethodName := ⟨RX8, "motionOf", "(I)I"⟩
abbrev cX8_waited : ByteArray := prog_10_method_34_code
def yX8_waited : MethodName := ⟨RX8, "waited", "(I)I"⟩
abbrev cX8_waits : ByteArray := prog_10_method_35_code
def yX8_waits : MethodName := ⟨RX8, "waits", "(I)I"⟩
abbrev cX8_deed : ByteArray := prog_10_method_36_code
def yX8_deed : MethodName := ⟨RX8, "deed", "(I)I"⟩
abbrev cX8_commands : ByteArray := prog_10_method_37_code
def yX8_commands : MethodName := ⟨RX8, "commands", "(I)I"⟩
abbrev cX8_inserted : ByteArray := prog_10_method_38_code
def yX8_inserted : MethodName := ⟨RX8, "inserted", "(I)I"⟩
abbrev cX8_strikes : ByteArray := prog_10_method_39_code
def yX8_strikes : MethodName := ⟨RX8, "strikes", "(I)I"⟩
abbrev cX8_keyed : ByteArray := prog_10_method_40_code
def yX8_keyed : MethodName := ⟨RX8, "keyed", "(I)I"⟩
abbrev cX8_key : ByteArray := prog_10_method_41_code
def yX8_key : MethodName := ⟨RX8, "key", "(I)I"⟩
abbrev cX8_type : ByteArray := prog_10_method_42_code
def yX8_type : MethodName := ⟨RX8, "type", "(I)I"⟩
abbrev cX8_line : ByteArray := prog_10_method_43_code
def yX8_line : MethodName := ⟨RX8, "line", "()I"⟩
abbrev cX8_letter : ByteArray := prog_10_method_44_code
def yX8_letter : MethodName := ⟨RX8, "letter", "(I)I"⟩
abbrev cX8_store : ByteArray := prog_10_method_45_code
def yX8_store : MethodName := ⟨RX8, "store", "(I)I"⟩
abbrev cX8_mark : ByteArray := prog_10_method_46_code
def yX8_mark : MethodName := ⟨RX8, "mark", "(I)I"⟩
abbrev cX8_marks : ByteArray := prog_10_method_47_code
def yX8_marks : MethodName := ⟨RX8, "marks", "()I"⟩
abbrev cX8_wordsOf : ByteArray := prog_10_method_48_code
def yX8_wordsOf : MethodName := ⟨RX8, "wordsOf", "()I"⟩
abbrev cX8_count : ByteArray := prog_10_method_49_code
def yX8_count : MethodName := ⟨RX8, "count", "(I)I"⟩
abbrev cX8_isMotion : ByteArray := prog_10_method_50_code
def yX8_isMotion : MethodName := ⟨RX8, "isMotion", "(I)Z"⟩
abbrev cX8_price : ByteArray := prog_10_method_51_code
def yX8_price : MethodName := ⟨RX8, "price", "(II)I"⟩
abbrev cX8_start : ByteArray := prog_10_method_52_code
def yX8_start : MethodName := ⟨RX8, "start", "()I"⟩
abbrev cX8_lands : ByteArray := prog_10_method_53_code
def yX8_lands : MethodName := ⟨RX8, "lands", "(II)I"⟩
abbrev cX8_isPlace : ByteArray := prog_10_method_54_code
def yX8_isPlace : MethodName := ⟨RX8, "isPlace", "(I)Z"⟩
abbrev cX8_leads : ByteArray := prog_10_method_55_code
def yX8_leads : MethodName := ⟨RX8, "leads", "(II)I"⟩
abbrev cX8_costsTo : ByteArray := prog_10_method_56_code
def yX8_costsTo : MethodName := ⟨RX8, "costsTo", "(I)V"⟩
abbrev cX8_steps : ByteArray := prog_10_method_57_code
def yX8_steps : MethodName := ⟨RX8, "steps", "(II)I"⟩
abbrev cX8_farthest : ByteArray := prog_10_method_58_code
def yX8_farthest : MethodName := ⟨RX8, "farthest", "(I)I"⟩
abbrev cX8_once : ByteArray := prog_10_method_59_code
def yX8_once : MethodName := ⟨RX8, "once", "(I)I"⟩
abbrev cX8_goes : ByteArray := prog_10_method_60_code
def yX8_goes : MethodName := ⟨RX8, "goes", "(II)I"⟩
abbrev cX8_struck : ByteArray := prog_10_method_61_code
def yX8_struck : MethodName := ⟨RX8, "struck", "(III)I"⟩
abbrev cX8_image : ByteArray := prog_10_method_62_code
def yX8_image : MethodName := ⟨RX8, "image", "()I"⟩
abbrev cX8_restore : ByteArray := prog_10_method_63_code
def yX8_restore : MethodName := ⟨RX8, "restore", "()I"⟩
abbrev cX8_isSheet : ByteArray := prog_10_method_64_code
def yX8_isSheet : MethodName := ⟨RX8, "isSheet", "(I)Z"⟩
abbrev cX8_cut : ByteArray := prog_10_method_65_code
def yX8_cut : MethodName := ⟨RX8, "cut", "(JI)J"⟩
abbrev cX8_sheet : ByteArray := prog_10_method_66_code
def yX8_sheet : MethodName := ⟨RX8, "sheet", "(III)I"⟩
abbrev cX8_drop : ByteArray := prog_10_method_67_code
def yX8_drop : MethodName := ⟨RX8, "drop", "(I)I"⟩
abbrev cX8_why : ByteArray := prog_10_method_68_code
def yX8_why : MethodName := ⟨RX8, "why", "(IIII)I"⟩
abbrev cX8_item : ByteArray := prog_10_method_69_code
def yX8_item : MethodName := ⟨RX8, "item", "(IIIJ)I"⟩
abbrev cX8_copy : ByteArray := prog_10_method_70_code
def yX8_copy : MethodName := ⟨RX8, "copy", "(IIIII)I"⟩
abbrev cX8_play : ByteArray := prog_10_method_71_code
def yX8_play : MethodName := ⟨RX8, "play", "(IIII)I"⟩
abbrev cX8_film : ByteArray := prog_10_method_72_code
def yX8_film : MethodName := ⟨RX8, "film", "(IIIII)I"⟩
def RJ9 : String := "java/lang/Math"
abbrev cJ9_floorMod_7cf53 : ByteArray := prog_11_method_50_code
def yJ9_floorMod_7cf53 : MethodName := ⟨RJ9, "floorMod", "(II)I"⟩
abbrev cJ9_max_7cf53 : ByteArray := prog_11_method_65_code
def yJ9_max_7cf53 : MethodName := ⟨RJ9, "max", "(II)I"⟩
abbrev cJ9_min_7cf53 : ByteArray := prog_11_method_69_code
def yJ9_min_7cf53 : MethodName := ⟨RJ9, "min", "(II)I"⟩
def RJ10 : String := "java/lang/System"
def RJ7 : String := "java/util/Arrays"
abbrev cJ7_fill_d0a16 : ByteArray := prog_13_method_101_code
def yJ7_fill_d0a16 : MethodName := ⟨RJ7, "fill", "([JJ)V"⟩
abbrev cJ7_fill_53178 : ByteArray := prog_13_method_103_code
def yJ7_fill_53178 : MethodName := ⟨RJ7, "fill", "([II)V"⟩
def RL : String := "ModalKeysLaw"
abbrev cL_law : ByteArray := code
def yL_law : MethodName := ⟨RL, "law", "([I)Z"⟩
abbrev vwCl : List vw_C := [(RX0, TX0, 9), (RX1, TX1, 13), (RX2, TX2, 2), (RX3, TX3, 5), (RX4, TX4, 3), (RX5, TX5, 3), (RX6, TX6, 5), (RX7, TX7, 7), (RX8, TX8, 16)]
end
section
theorem dX0_init_0 : decode cX0_init 0 = .ok (.aload_n 0, 1) := by decide +kernel
theorem dX0_init_1 : decode cX0_init 1 = .ok (.invokespecial 3, 3) := by decide +kernel
theorem dX0_init_4 : decode cX0_init 4 = .ok (.aload_n 0, 1) := by decide +kernel
theorem dX0_init_5 : decode cX0_init 5 = .ok (.new 9, 3) := by decide +kernel
theorem dX0_init_8 : decode cX0_init 8 = .ok (.dup, 1) := by decide +kernel
theorem dX0_init_9 : decode cX0_init 9 = .ok (.invokespecial 11, 3) := by decide +kernel
theorem dX0_init_12 : decode cX0_init 12 = .ok (.putfield 12, 3) := by decide +kernel
theorem dX0_init_15 : decode cX0_init 15 = .ok (.return_, 1) := by decide +kernel
theorem dX0_clear_0 : decode cX0_clear 0 = .ok (.aload_n 0, 1) := by decide +kernel
theorem dX0_clear_1 : decode cX0_clear 1 = .ok (.getfield 12, 3) := by decide +kernel
theorem dX0_clear_4 : decode cX0_clear 4 = .ok (.iconst 0, 1) := by decide +kernel
theorem dX0_clear_5 : decode cX0_clear 5 = .ok (.putfield 18, 3) := by decide +kernel
theorem dX0_clear_8 : decode cX0_clear 8 = .ok (.aload_n 0, 1) := by decide +kernel
theorem dX0_clear_9 : decode cX0_clear 9 = .ok (.iconst 0, 1) := by decide +kernel
theorem dX0_clear_10 : decode cX0_clear 10 = .ok (.putfield 22, 3) := by decide +kernel
theorem dX0_clear_13 : decode cX0_clear 13 = .ok (.aload_n 0, 1) := by decide +kernel
theorem dX0_clear_14 : decode cX0_clear 14 = .ok (.iconst 0, 1) := by decide +kernel
theorem dX0_clear_15 : decode cX0_clear 15 = .ok (.putfield 25, 3) := by decide +kernel
theorem dX0_clear_18 : decode cX0_clear 18 = .ok (.aload_n 0, 1) := by decide +kernel
theorem dX0_clear_19 : decode cX0_clear 19 = .ok (.iconst 0, 1) := by decide +kernel
theorem dX0_clear_20 : decode cX0_clear 20 = .ok (.putfield 28, 3) := by decide +kernel
theorem dX0_clear_23 : decode cX0_clear 23 = .ok (.aload_n 0, 1) := by decide +kernel
theorem dX0_clear_24 : decode cX0_clear 24 = .ok (.iconst 0, 1) := by decide +kernel
theorem dX0_clear_25 : decode cX0_clear 25 = .ok (.putfield 31, 3) := by decide +kernel
theorem dX0_clear_28 : decode cX0_clear 28 = .ok (.aload_n 0, 1) := by decide +kernel
theorem dX0_clear_29 : decode cX0_clear 29 = .ok (.iconst 0, 1) := by decide +kernel
theorem dX0_clear_30 : decode cX0_clear 30 = .ok (.putfield 34, 3) := by decide +kernel
theorem dX0_clear_33 : decode cX0_clear 33 = .ok (.aload_n 0, 1) := by decide +kernel
theorem dX0_clear_34 : decode cX0_clear 34 = .ok (.iconst 0, 1) := by decide +kernel
theorem dX0_clear_35 : decode cX0_clear 35 = .ok (.putfield 37, 3) := by decide +kernel
theorem dX0_clear_38 : decode cX0_clear 38 = .ok (.aload_n 0, 1) := by decide +kernel
theorem dX0_clear_39 : decode cX0_clear 39 = .ok (.iconst 0, 1) := by decide +kernel
theorem dX0_clear_40 : decode cX0_clear 40 = .ok (.putfield 40, 3) := by decide +kernel
theorem dX0_clear_43 : decode cX0_clear 43 = .ok (.aload_n 0, 1) := by decide +kernel
theorem dX0_clear_44 : decode cX0_clear 44 = .ok (.iconst 0, 1) := by decide +kernel
theorem dX0_clear_45 : decode cX0_clear 45 = .ok (.putfield 44, 3) := by decide +kernel
theorem dX0_clear_48 : decode cX0_clear 48 = .ok (.return_, 1) := by decide +kernel
theorem dX0_become_0 : decode cX0_become 0 = .ok (.aload_n 0, 1) := by decide +kernel
theorem dX0_become_1 : decode cX0_become 1 = .ok (.getfield 12, 3) := by decide +kernel
theorem dX0_become_4 : decode cX0_become 4 = .ok (.aload_n 1, 1) := by decide +kernel
theorem dX0_become_5 : decode cX0_become 5 = .ok (.getfield 12, 3) := by decide +kernel
theorem dX0_become_8 : decode cX0_become 8 = .ok (.invokevirtual 47, 3) := by decide +kernel
theorem dX0_become_11 : decode cX0_become 11 = .ok (.aload_n 0, 1) := by decide +kernel
theorem dX0_become_12 : decode cX0_become 12 = .ok (.aload_n 1, 1) := by decide +kernel
theorem dX0_become_13 : decode cX0_become 13 = .ok (.getfield 22, 3) := by decide +kernel
theorem dX0_become_16 : decode cX0_become 16 = .ok (.putfield 22, 3) := by decide +kernel
theorem dX0_become_19 : decode cX0_become 19 = .ok (.aload_n 0, 1) := by decide +kernel
theorem dX0_become_20 : decode cX0_become 20 = .ok (.aload_n 1, 1) := by decide +kernel
theorem dX0_become_21 : decode cX0_become 21 = .ok (.getfield 25, 3) := by decide +kernel
theorem dX0_become_24 : decode cX0_become 24 = .ok (.putfield 25, 3) := by decide +kernel
theorem dX0_become_27 : decode cX0_become 27 = .ok (.aload_n 0, 1) := by decide +kernel
theorem dX0_become_28 : decode cX0_become 28 = .ok (.aload_n 1, 1) := by decide +kernel
theorem dX0_become_29 : decode cX0_become 29 = .ok (.getfield 28, 3) := by decide +kernel
theorem dX0_become_32 : decode cX0_become 32 = .ok (.putfield 28, 3) := by decide +kernel
theorem dX0_become_35 : decode cX0_become 35 = .ok (.aload_n 0, 1) := by decide +kernel
theorem dX0_become_36 : decode cX0_become 36 = .ok (.aload_n 1, 1) := by decide +kernel
theorem dX0_become_37 : decode cX0_become 37 = .ok (.getfield 31, 3) := by decide +kernel
theorem dX0_become_40 : decode cX0_become 40 = .ok (.putfield 31, 3) := by decide +kernel
theorem dX0_become_43 : decode cX0_become 43 = .ok (.aload_n 0, 1) := by decide +kernel
theorem dX0_become_44 : decode cX0_become 44 = .ok (.aload_n 1, 1) := by decide +kernel
theorem dX0_become_45 : decode cX0_become 45 = .ok (.getfield 34, 3) := by decide +kernel
theorem dX0_become_48 : decode cX0_become 48 = .ok (.putfield 34, 3) := by decide +kernel
theorem dX0_become_51 : decode cX0_become 51 = .ok (.aload_n 0, 1) := by decide +kernel
theorem dX0_become_52 : decode cX0_become 52 = .ok (.aload_n 1, 1) := by decide +kernel
theorem dX0_become_53 : decode cX0_become 53 = .ok (.getfield 37, 3) := by decide +kernel
theorem dX0_become_56 : decode cX0_become 56 = .ok (.putfield 37, 3) := by decide +kernel
theorem dX0_become_59 : decode cX0_become 59 = .ok (.aload_n 0, 1) := by decide +kernel
theorem dX0_become_60 : decode cX0_become 60 = .ok (.aload_n 1, 1) := by decide +kernel
theorem dX0_become_61 : decode cX0_become 61 = .ok (.getfield 40, 3) := by decide +kernel
theorem dX0_become_64 : decode cX0_become 64 = .ok (.putfield 40, 3) := by decide +kernel
theorem dX0_become_67 : decode cX0_become 67 = .ok (.aload_n 0, 1) := by decide +kernel
theorem dX0_become_68 : decode cX0_become 68 = .ok (.aload_n 1, 1) := by decide +kernel
theorem dX0_become_69 : decode cX0_become 69 = .ok (.getfield 44, 3) := by decide +kernel
theorem dX0_become_72 : decode cX0_become 72 = .ok (.putfield 44, 3) := by decide +kernel
theorem dX0_become_75 : decode cX0_become 75 = .ok (.return_, 1) := by decide +kernel
theorem dX0_times_0 : decode cX0_times 0 = .ok (.aload_n 0, 1) := by decide +kernel
theorem dX0_times_1 : decode cX0_times 1 = .ok (.getfield 28, 3) := by decide +kernel
theorem dX0_times_4 : decode cX0_times 4 = .ok (.iconst 1, 1) := by decide +kernel
theorem dX0_times_5 : decode cX0_times 5 = .ok (.invokestatic 51, 3) := by decide +kernel
theorem dX0_times_8 : decode cX0_times 8 = .ok (.aload_n 0, 1) := by decide +kernel
theorem dX0_times_9 : decode cX0_times 9 = .ok (.getfield 31, 3) := by decide +kernel
theorem dX0_times_12 : decode cX0_times 12 = .ok (.iconst 1, 1) := by decide +kernel
theorem dX0_times_13 : decode cX0_times 13 = .ok (.invokestatic 51, 3) := by decide +kernel
theorem dX0_times_16 : decode cX0_times 16 = .ok (.imul, 1) := by decide +kernel
theorem dX0_times_17 : decode cX0_times 17 = .ok (.bipush 99, 2) := by decide +kernel
theorem dX0_times_19 : decode cX0_times 19 = .ok (.invokestatic 57, 3) := by decide +kernel
theorem dX0_times_22 : decode cX0_times 22 = .ok (.ireturn, 1) := by decide +kernel
theorem dX0_take_0 : decode cX0_take 0 = .ok (.aload_n 0, 1) := by decide +kernel
theorem dX0_take_1 : decode cX0_take 1 = .ok (.getfield 12, 3) := by decide +kernel
theorem dX0_take_4 : decode cX0_take 4 = .ok (.iload_n 1, 1) := by decide +kernel
theorem dX0_take_5 : decode cX0_take 5 = .ok (.invokevirtual 60, 3) := by decide +kernel
theorem dX0_take_8 : decode cX0_take 8 = .ok (.aload_n 0, 1) := by decide +kernel
theorem dX0_take_9 : decode cX0_take 9 = .ok (.getfield 22, 3) := by decide +kernel
theorem dX0_take_12 : decode cX0_take 12 = .ok (.tableswitch 57 0 3 #[32, 38, 44, 50], 32) := by decide +kernel
theorem dX0_take_44 : decode cX0_take 44 = .ok (.aload_n 0, 1) := by decide +kernel
theorem dX0_take_45 : decode cX0_take 45 = .ok (.iload_n 1, 1) := by decide +kernel
theorem dX0_take_46 : decode cX0_take 46 = .ok (.invokevirtual 64, 3) := by decide +kernel
theorem dX0_take_49 : decode cX0_take 49 = .ok (.ireturn, 1) := by decide +kernel
theorem dX0_take_50 : decode cX0_take 50 = .ok (.aload_n 0, 1) := by decide +kernel
theorem dX0_take_51 : decode cX0_take 51 = .ok (.iload_n 1, 1) := by decide +kernel
theorem dX0_take_52 : decode cX0_take 52 = .ok (.invokevirtual 68, 3) := by decide +kernel
theorem dX0_take_55 : decode cX0_take 55 = .ok (.ireturn, 1) := by decide +kernel
theorem dX0_take_56 : decode cX0_take 56 = .ok (.aload_n 0, 1) := by decide +kernel
theorem dX0_take_57 : decode cX0_take 57 = .ok (.iload_n 1, 1) := by decide +kernel
theorem dX0_take_58 : decode cX0_take 58 = .ok (.invokevirtual 71, 3) := by decide +kernel
theorem dX0_take_61 : decode cX0_take 61 = .ok (.ireturn, 1) := by decide +kernel
theorem dX0_take_62 : decode cX0_take 62 = .ok (.aload_n 0, 1) := by decide +kernel
theorem dX0_take_63 : decode cX0_take 63 = .ok (.iload_n 1, 1) := by decide +kernel
theorem dX0_take_64 : decode cX0_take 64 = .ok (.putfield 44, 3) := by decide +kernel
theorem dX0_take_67 : decode cX0_take 67 = .ok (.iconst 1, 1) := by decide +kernel
theorem dX0_take_68 : decode cX0_take 68 = .ok (.ireturn, 1) := by decide +kernel
theorem dX0_take_69 : decode cX0_take 69 = .ok (.aload_n 0, 1) := by decide +kernel
theorem dX0_take_70 : decode cX0_take 70 = .ok (.iload_n 1, 1) := by decide +kernel
theorem dX0_take_71 : decode cX0_take 71 = .ok (.bipush 97, 2) := by decide +kernel
theorem dX0_take_73 : decode cX0_take 73 = .ok (.isub, 1) := by decide +kernel
theorem dX0_take_74 : decode cX0_take 74 = .ok (.putfield 44, 3) := by decide +kernel
theorem dX0_take_77 : decode cX0_take 77 = .ok (.aload_n 0, 1) := by decide +kernel
theorem dX0_take_78 : decode cX0_take 78 = .ok (.getfield 44, 3) := by decide +kernel
theorem dX0_take_81 : decode cX0_take 81 = .ok (.ifCond .lt 15, 3) := by decide +kernel
theorem dX0_take_84 : decode cX0_take 84 = .ok (.aload_n 0, 1) := by decide +kernel
theorem dX0_take_85 : decode cX0_take 85 = .ok (.getfield 44, 3) := by decide +kernel
theorem dX0_take_88 : decode cX0_take 88 = .ok (.iconst 4, 1) := by decide +kernel
theorem dX0_take_89 : decode cX0_take 89 = .ok (.if_icmp .ge 7, 3) := by decide +kernel
theorem dX0_take_92 : decode cX0_take 92 = .ok (.iconst 1, 1) := by decide +kernel
theorem dX0_take_93 : decode cX0_take 93 = .ok (.goto 4, 3) := by decide +kernel
theorem dX0_take_96 : decode cX0_take 96 = .ok (.iconst 2, 1) := by decide +kernel
theorem dX0_take_97 : decode cX0_take 97 = .ok (.ireturn, 1) := by decide +kernel
theorem dX0_takeVerb_0 : decode cX0_takeVerb 0 = .ok (.iload_n 1, 1) := by decide +kernel
theorem dX0_takeVerb_1 : decode cX0_takeVerb 1 = .ok (.aload_n 0, 1) := by decide +kernel
theorem dX0_takeVerb_2 : decode cX0_takeVerb 2 = .ok (.getfield 28, 3) := by decide +kernel
theorem dX0_takeVerb_5 : decode cX0_takeVerb 5 = .ok (.invokestatic 74, 3) := by decide +kernel
theorem dX0_takeVerb_8 : decode cX0_takeVerb 8 = .ok (.ifCond .eq 17, 3) := by decide +kernel
theorem dX0_takeVerb_11 : decode cX0_takeVerb 11 = .ok (.aload_n 0, 1) := by decide +kernel
theorem dX0_takeVerb_12 : decode cX0_takeVerb 12 = .ok (.aload_n 0, 1) := by decide +kernel
theorem dX0_takeVerb_13 : decode cX0_takeVerb 13 = .ok (.getfield 28, 3) := by decide +kernel
theorem dX0_takeVerb_16 : decode cX0_takeVerb 16 = .ok (.iload_n 1, 1) := by decide +kernel
theorem dX0_takeVerb_17 : decode cX0_takeVerb 17 = .ok (.invokestatic 78, 3) := by decide +kernel
theorem dX0_takeVerb_20 : decode cX0_takeVerb 20 = .ok (.putfield 28, 3) := by decide +kernel
theorem dX0_takeVerb_23 : decode cX0_takeVerb 23 = .ok (.iconst 0, 1) := by decide +kernel
theorem dX0_takeVerb_24 : decode cX0_takeVerb 24 = .ok (.ireturn, 1) := by decide +kernel
theorem dX0_takeVerb_25 : decode cX0_takeVerb 25 = .ok (.iload_n 1, 1) := by decide +kernel
theorem dX0_takeVerb_26 : decode cX0_takeVerb 26 = .ok (.lookupswitch 163 #[(65, 156), (73, 156), (80, 156), (97, 156), (99, 122), (100, 122), (105, 156), (109, 136), (112, 156), (114, 129), (117, 156), (120, 143), (121, 122), (126, 156)], 122) := by decide +kernel
theorem dX0_takeVerb_148 : decode cX0_takeVerb 148 = .ok (.aload_n 0, 1) := by decide +kernel
theorem dX0_takeVerb_149 : decode cX0_takeVerb 149 = .ok (.iload_n 1, 1) := by decide +kernel
theorem dX0_takeVerb_150 : decode cX0_takeVerb 150 = .ok (.iconst 1, 1) := by decide +kernel
theorem dX0_takeVerb_151 : decode cX0_takeVerb 151 = .ok (.invokevirtual 81, 3) := by decide +kernel
theorem dX0_takeVerb_154 : decode cX0_takeVerb 154 = .ok (.ireturn, 1) := by decide +kernel
theorem dX0_takeVerb_155 : decode cX0_takeVerb 155 = .ok (.aload_n 0, 1) := by decide +kernel
theorem dX0_takeVerb_156 : decode cX0_takeVerb 156 = .ok (.iload_n 1, 1) := by decide +kernel
theorem dX0_takeVerb_157 : decode cX0_takeVerb 157 = .ok (.iconst 3, 1) := by decide +kernel
theorem dX0_takeVerb_158 : decode cX0_takeVerb 158 = .ok (.invokevirtual 81, 3) := by decide +kernel
theorem dX0_takeVerb_161 : decode cX0_takeVerb 161 = .ok (.ireturn, 1) := by decide +kernel
theorem dX0_takeVerb_162 : decode cX0_takeVerb 162 = .ok (.aload_n 0, 1) := by decide +kernel
theorem dX0_takeVerb_163 : decode cX0_takeVerb 163 = .ok (.iload_n 1, 1) := by decide +kernel
theorem dX0_takeVerb_164 : decode cX0_takeVerb 164 = .ok (.iconst 4, 1) := by decide +kernel
theorem dX0_takeVerb_165 : decode cX0_takeVerb 165 = .ok (.invokevirtual 81, 3) := by decide +kernel
theorem dX0_takeVerb_168 : decode cX0_takeVerb 168 = .ok (.ireturn, 1) := by decide +kernel
theorem dX0_takeVerb_169 : decode cX0_takeVerb 169 = .ok (.aload_n 0, 1) := by decide +kernel
theorem dX0_takeVerb_170 : decode cX0_takeVerb 170 = .ok (.bipush 100, 2) := by decide +kernel
theorem dX0_takeVerb_172 : decode cX0_takeVerb 172 = .ok (.putfield 25, 3) := by decide +kernel
theorem dX0_takeVerb_175 : decode cX0_takeVerb 175 = .ok (.aload_n 0, 1) := by decide +kernel
theorem dX0_takeVerb_176 : decode cX0_takeVerb 176 = .ok (.iconst 4, 1) := by decide +kernel
theorem dX0_takeVerb_177 : decode cX0_takeVerb 177 = .ok (.putfield 34, 3) := by decide +kernel
theorem dX0_takeVerb_180 : decode cX0_takeVerb 180 = .ok (.iconst 1, 1) := by decide +kernel
theorem dX0_takeVerb_181 : decode cX0_takeVerb 181 = .ok (.ireturn, 1) := by decide +kernel
theorem dX0_takeVerb_182 : decode cX0_takeVerb 182 = .ok (.aload_n 0, 1) := by decide +kernel
theorem dX0_takeVerb_183 : decode cX0_takeVerb 183 = .ok (.iload_n 1, 1) := by decide +kernel
theorem dX0_takeVerb_184 : decode cX0_takeVerb 184 = .ok (.putfield 25, 3) := by decide +kernel
theorem dX0_takeVerb_187 : decode cX0_takeVerb 187 = .ok (.iconst 1, 1) := by decide +kernel
theorem dX0_takeVerb_188 : decode cX0_takeVerb 188 = .ok (.ireturn, 1) := by decide +kernel
theorem dX0_takeVerb_189 : decode cX0_takeVerb 189 = .ok (.aload_n 0, 1) := by decide +kernel
theorem dX0_takeVerb_190 : decode cX0_takeVerb 190 = .ok (.iload_n 1, 1) := by decide +kernel
theorem dX0_takeVerb_191 : decode cX0_takeVerb 191 = .ok (.invokevirtual 84, 3) := by decide +kernel
theorem dX0_takeVerb_194 : decode cX0_takeVerb 194 = .ok (.ireturn, 1) := by decide +kernel
theorem dX0_waitWith_0 : decode cX0_waitWith 0 = .ok (.aload_n 0, 1) := by decide +kernel
theorem dX0_waitWith_1 : decode cX0_waitWith 1 = .ok (.iload_n 1, 1) := by decide +kernel
theorem dX0_waitWith_2 : decode cX0_waitWith 2 = .ok (.putfield 25, 3) := by decide +kernel
theorem dX0_waitWith_5 : decode cX0_waitWith 5 = .ok (.aload_n 0, 1) := by decide +kernel
theorem dX0_waitWith_6 : decode cX0_waitWith 6 = .ok (.iload_n 2, 1) := by decide +kernel
theorem dX0_waitWith_7 : decode cX0_waitWith 7 = .ok (.putfield 22, 3) := by decide +kernel
theorem dX0_waitWith_10 : decode cX0_waitWith 10 = .ok (.iconst 0, 1) := by decide +kernel
theorem dX0_waitWith_11 : decode cX0_waitWith 11 = .ok (.ireturn, 1) := by decide +kernel
theorem dX0_takeReach_0 : decode cX0_takeReach 0 = .ok (.iload_n 1, 1) := by decide +kernel
theorem dX0_takeReach_1 : decode cX0_takeReach 1 = .ok (.aload_n 0, 1) := by decide +kernel
theorem dX0_takeReach_2 : decode cX0_takeReach 2 = .ok (.getfield 31, 3) := by decide +kernel
theorem dX0_takeReach_5 : decode cX0_takeReach 5 = .ok (.invokestatic 74, 3) := by decide +kernel
theorem dX0_takeReach_8 : decode cX0_takeReach 8 = .ok (.ifCond .eq 17, 3) := by decide +kernel
theorem dX0_takeReach_11 : decode cX0_takeReach 11 = .ok (.aload_n 0, 1) := by decide +kernel
theorem dX0_takeReach_12 : decode cX0_takeReach 12 = .ok (.aload_n 0, 1) := by decide +kernel
theorem dX0_takeReach_13 : decode cX0_takeReach 13 = .ok (.getfield 31, 3) := by decide +kernel
theorem dX0_takeReach_16 : decode cX0_takeReach 16 = .ok (.iload_n 1, 1) := by decide +kernel
theorem dX0_takeReach_17 : decode cX0_takeReach 17 = .ok (.invokestatic 78, 3) := by decide +kernel
theorem dX0_takeReach_20 : decode cX0_takeReach 20 = .ok (.putfield 31, 3) := by decide +kernel
theorem dX0_takeReach_23 : decode cX0_takeReach 23 = .ok (.iconst 0, 1) := by decide +kernel
theorem dX0_takeReach_24 : decode cX0_takeReach 24 = .ok (.ireturn, 1) := by decide +kernel
theorem dX0_takeReach_25 : decode cX0_takeReach 25 = .ok (.iload_n 1, 1) := by decide +kernel
theorem dX0_takeReach_26 : decode cX0_takeReach 26 = .ok (.aload_n 0, 1) := by decide +kernel
theorem dX0_takeReach_27 : decode cX0_takeReach 27 = .ok (.getfield 25, 3) := by decide +kernel
theorem dX0_takeReach_30 : decode cX0_takeReach 30 = .ok (.if_icmp .ne 10, 3) := by decide +kernel
theorem dX0_takeReach_33 : decode cX0_takeReach 33 = .ok (.aload_n 0, 1) := by decide +kernel
theorem dX0_takeReach_34 : decode cX0_takeReach 34 = .ok (.iconst 5, 1) := by decide +kernel
theorem dX0_takeReach_35 : decode cX0_takeReach 35 = .ok (.putfield 34, 3) := by decide +kernel
theorem dX0_takeReach_38 : decode cX0_takeReach 38 = .ok (.iconst 1, 1) := by decide +kernel
theorem dX0_takeReach_39 : decode cX0_takeReach 39 = .ok (.ireturn, 1) := by decide +kernel
theorem dX0_takeReach_40 : decode cX0_takeReach 40 = .ok (.iload_n 1, 1) := by decide +kernel
theorem dX0_takeReach_41 : decode cX0_takeReach 41 = .ok (.bipush 105, 2) := by decide +kernel
theorem dX0_takeReach_43 : decode cX0_takeReach 43 = .ok (.if_icmp .eq 9, 3) := by decide +kernel
theorem dX0_takeReach_46 : decode cX0_takeReach 46 = .ok (.iload_n 1, 1) := by decide +kernel
theorem dX0_takeReach_47 : decode cX0_takeReach 47 = .ok (.bipush 97, 2) := by decide +kernel
theorem dX0_takeReach_49 : decode cX0_takeReach 49 = .ok (.if_icmp .ne 25, 3) := by decide +kernel
theorem dX0_takeReach_52 : decode cX0_takeReach 52 = .ok (.aload_n 0, 1) := by decide +kernel
theorem dX0_takeReach_53 : decode cX0_takeReach 53 = .ok (.iload_n 1, 1) := by decide +kernel
theorem dX0_takeReach_54 : decode cX0_takeReach 54 = .ok (.bipush 97, 2) := by decide +kernel
theorem dX0_takeReach_56 : decode cX0_takeReach 56 = .ok (.if_icmp .ne 7, 3) := by decide +kernel
theorem dX0_takeReach_59 : decode cX0_takeReach 59 = .ok (.iconst 1, 1) := by decide +kernel
theorem dX0_takeReach_60 : decode cX0_takeReach 60 = .ok (.goto 4, 3) := by decide +kernel
theorem dX0_takeReach_63 : decode cX0_takeReach 63 = .ok (.iconst 0, 1) := by decide +kernel
theorem dX0_takeReach_64 : decode cX0_takeReach 64 = .ok (.putfield 40, 3) := by decide +kernel
theorem dX0_takeReach_67 : decode cX0_takeReach 67 = .ok (.aload_n 0, 1) := by decide +kernel
theorem dX0_takeReach_68 : decode cX0_takeReach 68 = .ok (.iconst 2, 1) := by decide +kernel
theorem dX0_takeReach_69 : decode cX0_takeReach 69 = .ok (.putfield 22, 3) := by decide +kernel
theorem dX0_takeReach_72 : decode cX0_takeReach 72 = .ok (.iconst 0, 1) := by decide +kernel
theorem dX0_takeReach_73 : decode cX0_takeReach 73 = .ok (.ireturn, 1) := by decide +kernel
theorem dX0_takeReach_74 : decode cX0_takeReach 74 = .ok (.aload_n 0, 1) := by decide +kernel
theorem dX0_takeReach_75 : decode cX0_takeReach 75 = .ok (.iload_n 1, 1) := by decide +kernel
theorem dX0_takeReach_76 : decode cX0_takeReach 76 = .ok (.invokevirtual 84, 3) := by decide +kernel
theorem dX0_takeReach_79 : decode cX0_takeReach 79 = .ok (.ireturn, 1) := by decide +kernel
theorem dX0_takeObject_0 : decode cX0_takeObject 0 = .ok (.iload_n 1, 1) := by decide +kernel
theorem dX0_takeObject_1 : decode cX0_takeObject 1 = .ok (.bipush 119, 2) := by decide +kernel
theorem dX0_takeObject_3 : decode cX0_takeObject 3 = .ok (.if_icmp .eq 11, 3) := by decide +kernel
theorem dX0_takeObject_6 : decode cX0_takeObject 6 = .ok (.iload_n 1, 1) := by decide +kernel
theorem dX0_takeObject_7 : decode cX0_takeObject 7 = .ok (.bipush 98, 2) := by decide +kernel
theorem dX0_takeObject_9 : decode cX0_takeObject 9 = .ok (.if_icmp .eq 5, 3) := by decide +kernel
theorem dX0_takeObject_12 : decode cX0_takeObject 12 = .ok (.iconst 2, 1) := by decide +kernel
theorem dX0_takeObject_13 : decode cX0_takeObject 13 = .ok (.ireturn, 1) := by decide +kernel
theorem dX0_takeObject_14 : decode cX0_takeObject 14 = .ok (.aload_n 0, 1) := by decide +kernel
theorem dX0_takeObject_15 : decode cX0_takeObject 15 = .ok (.iload_n 1, 1) := by decide +kernel
theorem dX0_takeObject_16 : decode cX0_takeObject 16 = .ok (.bipush 119, 2) := by decide +kernel
theorem dX0_takeObject_18 : decode cX0_takeObject 18 = .ok (.if_icmp .ne 7, 3) := by decide +kernel
theorem dX0_takeObject_21 : decode cX0_takeObject 21 = .ok (.iconst 2, 1) := by decide +kernel
theorem dX0_takeObject_22 : decode cX0_takeObject 22 = .ok (.goto 4, 3) := by decide +kernel
theorem dX0_takeObject_25 : decode cX0_takeObject 25 = .ok (.iconst 3, 1) := by decide +kernel
theorem dX0_takeObject_26 : decode cX0_takeObject 26 = .ok (.putfield 34, 3) := by decide +kernel
theorem dX0_takeObject_29 : decode cX0_takeObject 29 = .ok (.iconst 1, 1) := by decide +kernel
theorem dX0_takeObject_30 : decode cX0_takeObject 30 = .ok (.ireturn, 1) := by decide +kernel
theorem dX0_takeMotion_0 : decode cX0_takeMotion 0 = .ok (.aload_n 0, 1) := by decide +kernel
theorem dX0_takeMotion_1 : decode cX0_takeMotion 1 = .ok (.iconst 1, 1) := by decide +kernel
theorem dX0_takeMotion_2 : decode cX0_takeMotion 2 = .ok (.putfield 34, 3) := by decide +kernel
theorem dX0_takeMotion_5 : decode cX0_takeMotion 5 = .ok (.aload_n 0, 1) := by decide +kernel
theorem dX0_takeMotion_6 : decode cX0_takeMotion 6 = .ok (.iload_n 1, 1) := by decide +kernel
theorem dX0_takeMotion_7 : decode cX0_takeMotion 7 = .ok (.invokestatic 87, 3) := by decide +kernel
theorem dX0_takeMotion_10 : decode cX0_takeMotion 10 = .ok (.putfield 37, 3) := by decide +kernel
theorem dX0_takeMotion_13 : decode cX0_takeMotion 13 = .ok (.aload_n 0, 1) := by decide +kernel
theorem dX0_takeMotion_14 : decode cX0_takeMotion 14 = .ok (.getfield 37, 3) := by decide +kernel
theorem dX0_takeMotion_17 : decode cX0_takeMotion 17 = .ok (.iconst (-1), 1) := by decide +kernel
theorem dX0_takeMotion_18 : decode cX0_takeMotion 18 = .ok (.if_icmp .ne 5, 3) := by decide +kernel
theorem dX0_takeMotion_21 : decode cX0_takeMotion 21 = .ok (.iconst 2, 1) := by decide +kernel
theorem dX0_takeMotion_22 : decode cX0_takeMotion 22 = .ok (.ireturn, 1) := by decide +kernel
theorem dX0_takeMotion_23 : decode cX0_takeMotion 23 = .ok (.aload_n 0, 1) := by decide +kernel
theorem dX0_takeMotion_24 : decode cX0_takeMotion 24 = .ok (.getfield 37, 3) := by decide +kernel
theorem dX0_takeMotion_27 : decode cX0_takeMotion 27 = .ok (.bipush 7, 2) := by decide +kernel
theorem dX0_takeMotion_29 : decode cX0_takeMotion 29 = .ok (.if_icmp .ge 5, 3) := by decide +kernel
theorem dX0_takeMotion_32 : decode cX0_takeMotion 32 = .ok (.iconst 1, 1) := by decide +kernel
theorem dX0_takeMotion_33 : decode cX0_takeMotion 33 = .ok (.ireturn, 1) := by decide +kernel
theorem dX0_takeMotion_34 : decode cX0_takeMotion 34 = .ok (.aload_n 0, 1) := by decide +kernel
theorem dX0_takeMotion_35 : decode cX0_takeMotion 35 = .ok (.aload_n 0, 1) := by decide +kernel
theorem dX0_takeMotion_36 : decode cX0_takeMotion 36 = .ok (.getfield 37, 3) := by decide +kernel
theorem dX0_takeMotion_39 : decode cX0_takeMotion 39 = .ok (.bipush 9, 2) := by decide +kernel
theorem dX0_takeMotion_41 : decode cX0_takeMotion 41 = .ok (.if_icmp .ne 7, 3) := by decide +kernel
theorem dX0_takeMotion_44 : decode cX0_takeMotion 44 = .ok (.iconst 4, 1) := by decide +kernel
theorem dX0_takeMotion_45 : decode cX0_takeMotion 45 = .ok (.goto 4, 3) := by decide +kernel
theorem dX0_takeMotion_48 : decode cX0_takeMotion 48 = .ok (.iconst 3, 1) := by decide +kernel
theorem dX0_takeMotion_49 : decode cX0_takeMotion 49 = .ok (.putfield 22, 3) := by decide +kernel
theorem dX0_takeMotion_52 : decode cX0_takeMotion 52 = .ok (.iconst 0, 1) := by decide +kernel
theorem dX0_takeMotion_53 : decode cX0_takeMotion 53 = .ok (.ireturn, 1) := by decide +kernel
theorem dX0_motionOf_0 : decode cX0_motionOf 0 = .ok (.iload_n 0, 1) := by decide +kernel
theorem dX0_motionOf_1 : decode cX0_motionOf 1 = .ok (.lookupswitch 115 #[(36, 97), (39, 112), (48, 95), (98, 101), (101, 103), (102, 106), (104, 91), (108, 93), (116, 109), (119, 99)], 91) := by decide +kernel
theorem dX0_motionOf_92 : decode cX0_motionOf 92 = .ok (.iconst 0, 1) := by decide +kernel
theorem dX0_motionOf_93 : decode cX0_motionOf 93 = .ok (.ireturn, 1) := by decide +kernel
theorem dX0_motionOf_94 : decode cX0_motionOf 94 = .ok (.iconst 1, 1) := by decide +kernel
theorem dX0_motionOf_95 : decode cX0_motionOf 95 = .ok (.ireturn, 1) := by decide +kernel
theorem dX0_motionOf_96 : decode cX0_motionOf 96 = .ok (.iconst 2, 1) := by decide +kernel
theorem dX0_motionOf_97 : decode cX0_motionOf 97 = .ok (.ireturn, 1) := by decide +kernel
theorem dX0_motionOf_98 : decode cX0_motionOf 98 = .ok (.iconst 3, 1) := by decide +kernel
theorem dX0_motionOf_99 : decode cX0_motionOf 99 = .ok (.ireturn, 1) := by decide +kernel
theorem dX0_motionOf_100 : decode cX0_motionOf 100 = .ok (.iconst 4, 1) := by decide +kernel
theorem dX0_motionOf_101 : decode cX0_motionOf 101 = .ok (.ireturn, 1) := by decide +kernel
theorem dX0_motionOf_102 : decode cX0_motionOf 102 = .ok (.iconst 5, 1) := by decide +kernel
theorem dX0_motionOf_103 : decode cX0_motionOf 103 = .ok (.ireturn, 1) := by decide +kernel
theorem dX0_motionOf_104 : decode cX0_motionOf 104 = .ok (.bipush 6, 2) := by decide +kernel
theorem dX0_motionOf_106 : decode cX0_motionOf 106 = .ok (.ireturn, 1) := by decide +kernel
theorem dX0_motionOf_107 : decode cX0_motionOf 107 = .ok (.bipush 7, 2) := by decide +kernel
theorem dX0_motionOf_109 : decode cX0_motionOf 109 = .ok (.ireturn, 1) := by decide +kernel
theorem dX0_motionOf_110 : decode cX0_motionOf 110 = .ok (.bipush 8, 2) := by decide +kernel
theorem dX0_motionOf_112 : decode cX0_motionOf 112 = .ok (.ireturn, 1) := by decide +kernel
theorem dX0_motionOf_113 : decode cX0_motionOf 113 = .ok (.bipush 9, 2) := by decide +kernel
theorem dX0_motionOf_115 : decode cX0_motionOf 115 = .ok (.ireturn, 1) := by decide +kernel
theorem dX0_motionOf_116 : decode cX0_motionOf 116 = .ok (.iconst (-1), 1) := by decide +kernel
theorem dX0_motionOf_117 : decode cX0_motionOf 117 = .ok (.ireturn, 1) := by decide +kernel
theorem dX0_isFigure_0 : decode cX0_isFigure 0 = .ok (.iload_n 0, 1) := by decide +kernel
theorem dX0_isFigure_1 : decode cX0_isFigure 1 = .ok (.bipush 49, 2) := by decide +kernel
theorem dX0_isFigure_3 : decode cX0_isFigure 3 = .ok (.if_icmp .lt 9, 3) := by decide +kernel
theorem dX0_isFigure_6 : decode cX0_isFigure 6 = .ok (.iload_n 0, 1) := by decide +kernel
theorem dX0_isFigure_7 : decode cX0_isFigure 7 = .ok (.bipush 57, 2) := by decide +kernel
theorem dX0_isFigure_9 : decode cX0_isFigure 9 = .ok (.if_icmp .le 13, 3) := by decide +kernel
theorem dX0_isFigure_12 : decode cX0_isFigure 12 = .ok (.iload_n 0, 1) := by decide +kernel
theorem dX0_isFigure_13 : decode cX0_isFigure 13 = .ok (.bipush 48, 2) := by decide +kernel
theorem dX0_isFigure_15 : decode cX0_isFigure 15 = .ok (.if_icmp .ne 11, 3) := by decide +kernel
theorem dX0_isFigure_18 : decode cX0_isFigure 18 = .ok (.iload_n 1, 1) := by decide +kernel
theorem dX0_isFigure_19 : decode cX0_isFigure 19 = .ok (.ifCond .le 7, 3) := by decide +kernel
theorem dX0_isFigure_22 : decode cX0_isFigure 22 = .ok (.iconst 1, 1) := by decide +kernel
theorem dX0_isFigure_23 : decode cX0_isFigure 23 = .ok (.goto 4, 3) := by decide +kernel
theorem dX0_isFigure_26 : decode cX0_isFigure 26 = .ok (.iconst 0, 1) := by decide +kernel
theorem dX0_isFigure_27 : decode cX0_isFigure 27 = .ok (.ireturn, 1) := by decide +kernel
theorem dX0_withFigure_0 : decode cX0_withFigure 0 = .ok (.iload_n 0, 1) := by decide +kernel
theorem dX0_withFigure_1 : decode cX0_withFigure 1 = .ok (.bipush 10, 2) := by decide +kernel
theorem dX0_withFigure_3 : decode cX0_withFigure 3 = .ok (.imul, 1) := by decide +kernel
theorem dX0_withFigure_4 : decode cX0_withFigure 4 = .ok (.iload_n 1, 1) := by decide +kernel
theorem dX0_withFigure_5 : decode cX0_withFigure 5 = .ok (.iadd, 1) := by decide +kernel
theorem dX0_withFigure_6 : decode cX0_withFigure 6 = .ok (.bipush 48, 2) := by decide +kernel
theorem dX0_withFigure_8 : decode cX0_withFigure 8 = .ok (.isub, 1) := by decide +kernel
theorem dX0_withFigure_9 : decode cX0_withFigure 9 = .ok (.bipush 99, 2) := by decide +kernel
theorem dX0_withFigure_11 : decode cX0_withFigure 11 = .ok (.invokestatic 57, 3) := by decide +kernel
theorem dX0_withFigure_14 : decode cX0_withFigure 14 = .ok (.ireturn, 1) := by decide +kernel
theorem dX1_init_0 : decode cX1_init 0 = .ok (.aload_n 0, 1) := by decide +kernel
theorem dX1_init_1 : decode cX1_init 1 = .ok (.invokespecial 3, 3) := by decide +kernel
theorem dX1_init_4 : decode cX1_init 4 = .ok (.aload_n 0, 1) := by decide +kernel
theorem dX1_init_5 : decode cX1_init 5 = .ok (.new 9, 3) := by decide +kernel
theorem dX1_init_8 : decode cX1_init 8 = .ok (.dup, 1) := by decide +kernel
theorem dX1_init_9 : decode cX1_init 9 = .ok (.invokespecial 11, 3) := by decide +kernel
theorem dX1_init_12 : decode cX1_init 12 = .ok (.putfield 12, 3) := by decide +kernel
theorem dX1_init_15 : decode cX1_init 15 = .ok (.aload_n 0, 1) := by decide +kernel
theorem dX1_init_16 : decode cX1_init 16 = .ok (.new 9, 3) := by decide +kernel
theorem dX1_init_19 : decode cX1_init 19 = .ok (.dup, 1) := by decide +kernel
theorem dX1_init_20 : decode cX1_init 20 = .ok (.invokespecial 11, 3) := by decide +kernel
theorem dX1_init_23 : decode cX1_init 23 = .ok (.putfield 18, 3) := by decide +kernel
theorem dX1_init_26 : decode cX1_init 26 = .ok (.aload_n 0, 1) := by decide +kernel
theorem dX1_init_27 : decode cX1_init 27 = .ok (.new 21, 3) := by decide +kernel
theorem dX1_init_30 : decode cX1_init 30 = .ok (.dup, 1) := by decide +kernel
theorem dX1_init_31 : decode cX1_init 31 = .ok (.invokespecial 23, 3) := by decide +kernel
theorem dX1_init_34 : decode cX1_init 34 = .ok (.putfield 24, 3) := by decide +kernel
theorem dX1_init_37 : decode cX1_init 37 = .ok (.aload_n 0, 1) := by decide +kernel
theorem dX1_init_38 : decode cX1_init 38 = .ok (.new 28, 3) := by decide +kernel
theorem dX1_init_41 : decode cX1_init 41 = .ok (.dup, 1) := by decide +kernel
theorem dX1_init_42 : decode cX1_init 42 = .ok (.invokespecial 30, 3) := by decide +kernel
theorem dX1_init_45 : decode cX1_init 45 = .ok (.putfield 31, 3) := by decide +kernel
theorem dX1_init_48 : decode cX1_init 48 = .ok (.aload_n 0, 1) := by decide +kernel
theorem dX1_init_49 : decode cX1_init 49 = .ok (.new 35, 3) := by decide +kernel
theorem dX1_init_52 : decode cX1_init 52 = .ok (.dup, 1) := by decide +kernel
theorem dX1_init_53 : decode cX1_init 53 = .ok (.invokespecial 37, 3) := by decide +kernel
theorem dX1_init_56 : decode cX1_init 56 = .ok (.putfield 38, 3) := by decide +kernel
theorem dX1_init_59 : decode cX1_init 59 = .ok (.aload_n 0, 1) := by decide +kernel
theorem dX1_init_60 : decode cX1_init 60 = .ok (.bipush 60, 2) := by decide +kernel
theorem dX1_init_62 : decode cX1_init 62 = .ok (.newarray .int, 2) := by decide +kernel
theorem dX1_init_64 : decode cX1_init 64 = .ok (.putfield 42, 3) := by decide +kernel
theorem dX1_init_67 : decode cX1_init 67 = .ok (.aload_n 0, 1) := by decide +kernel
theorem dX1_init_68 : decode cX1_init 68 = .ok (.iconst 4, 1) := by decide +kernel
theorem dX1_init_69 : decode cX1_init 69 = .ok (.newarray .int, 2) := by decide +kernel
theorem dX1_init_71 : decode cX1_init 71 = .ok (.dup, 1) := by decide +kernel
theorem dX1_init_72 : decode cX1_init 72 = .ok (.iconst 0, 1) := by decide +kernel
theorem dX1_init_73 : decode cX1_init 73 = .ok (.iconst (-1), 1) := by decide +kernel
theorem dX1_init_74 : decode cX1_init 74 = .ok (.iastore, 1) := by decide +kernel
theorem dX1_init_75 : decode cX1_init 75 = .ok (.dup, 1) := by decide +kernel
theorem dX1_init_76 : decode cX1_init 76 = .ok (.iconst 1, 1) := by decide +kernel
theorem dX1_init_77 : decode cX1_init 77 = .ok (.iconst (-1), 1) := by decide +kernel
theorem dX1_init_78 : decode cX1_init 78 = .ok (.iastore, 1) := by decide +kernel
theorem dX1_init_79 : decode cX1_init 79 = .ok (.dup, 1) := by decide +kernel
theorem dX1_init_80 : decode cX1_init 80 = .ok (.iconst 2, 1) := by decide +kernel
theorem dX1_init_81 : decode cX1_init 81 = .ok (.iconst (-1), 1) := by decide +kernel
theorem dX1_init_82 : decode cX1_init 82 = .ok (.iastore, 1) := by decide +kernel
theorem dX1_init_83 : decode cX1_init 83 = .ok (.dup, 1) := by decide +kernel
theorem dX1_init_84 : decode cX1_init 84 = .ok (.iconst 3, 1) := by decide +kernel
theorem dX1_init_85 : decode cX1_init 85 = .ok (.iconst (-1), 1) := by decide +kernel
theorem dX1_init_86 : decode cX1_init 86 = .ok (.iastore, 1) := by decide +kernel
theorem dX1_init_87 : decode cX1_init 87 = .ok (.putfield 46, 3) := by decide +kernel
theorem dX1_init_90 : decode cX1_init 90 = .ok (.aload_n 0, 1) := by decide +kernel
theorem dX1_init_91 : decode cX1_init 91 = .ok (.bipush 7, 2) := by decide +kernel
theorem dX1_init_93 : decode cX1_init 93 = .ok (.newarray .int, 2) := by decide +kernel
theorem dX1_init_95 : decode cX1_init 95 = .ok (.dup, 1) := by decide +kernel
theorem dX1_init_96 : decode cX1_init 96 = .ok (.iconst 0, 1) := by decide +kernel
theorem dX1_init_97 : decode cX1_init 97 = .ok (.iconst 1, 1) := by decide +kernel
theorem dX1_init_98 : decode cX1_init 98 = .ok (.iastore, 1) := by decide +kernel
theorem dX1_init_99 : decode cX1_init 99 = .ok (.dup, 1) := by decide +kernel
theorem dX1_init_100 : decode cX1_init 100 = .ok (.iconst 1, 1) := by decide +kernel
theorem dX1_init_101 : decode cX1_init 101 = .ok (.iconst 1, 1) := by decide +kernel
theorem dX1_init_102 : decode cX1_init 102 = .ok (.iastore, 1) := by decide +kernel
theorem dX1_init_103 : decode cX1_init 103 = .ok (.dup, 1) := by decide +kernel
theorem dX1_init_104 : decode cX1_init 104 = .ok (.iconst 2, 1) := by decide +kernel
theorem dX1_init_105 : decode cX1_init 105 = .ok (.iconst 1, 1) := by decide +kernel
theorem dX1_init_106 : decode cX1_init 106 = .ok (.iastore, 1) := by decide +kernel
theorem dX1_init_107 : decode cX1_init 107 = .ok (.dup, 1) := by decide +kernel
theorem dX1_init_108 : decode cX1_init 108 = .ok (.iconst 3, 1) := by decide +kernel
theorem dX1_init_109 : decode cX1_init 109 = .ok (.iconst 1, 1) := by decide +kernel
theorem dX1_init_110 : decode cX1_init 110 = .ok (.iastore, 1) := by decide +kernel
theorem dX1_init_111 : decode cX1_init 111 = .ok (.dup, 1) := by decide +kernel
theorem dX1_init_112 : decode cX1_init 112 = .ok (.iconst 4, 1) := by decide +kernel
theorem dX1_init_113 : decode cX1_init 113 = .ok (.iconst 1, 1) := by decide +kernel
theorem dX1_init_114 : decode cX1_init 114 = .ok (.iastore, 1) := by decide +kernel
theorem dX1_init_115 : decode cX1_init 115 = .ok (.dup, 1) := by decide +kernel
theorem dX1_init_116 : decode cX1_init 116 = .ok (.iconst 5, 1) := by decide +kernel
theorem dX1_init_117 : decode cX1_init 117 = .ok (.iconst 1, 1) := by decide +kernel
theorem dX1_init_118 : decode cX1_init 118 = .ok (.iastore, 1) := by decide +kernel
theorem dX1_init_119 : decode cX1_init 119 = .ok (.dup, 1) := by decide +kernel
theorem dX1_init_120 : decode cX1_init 120 = .ok (.bipush 6, 2) := by decide +kernel
theorem dX1_init_122 : decode cX1_init 122 = .ok (.iconst 1, 1) := by decide +kernel
theorem dX1_init_123 : decode cX1_init 123 = .ok (.iastore, 1) := by decide +kernel
theorem dX1_init_124 : decode cX1_init 124 = .ok (.putfield 49, 3) := by decide +kernel
theorem dX1_init_127 : decode cX1_init 127 = .ok (.return_, 1) := by decide +kernel
theorem dX1_become_0 : decode cX1_become 0 = .ok (.aload_n 0, 1) := by decide +kernel
theorem dX1_become_1 : decode cX1_become 1 = .ok (.getfield 12, 3) := by decide +kernel
theorem dX1_become_4 : decode cX1_become 4 = .ok (.aload_n 1, 1) := by decide +kernel
theorem dX1_become_5 : decode cX1_become 5 = .ok (.getfield 12, 3) := by decide +kernel
theorem dX1_become_8 : decode cX1_become 8 = .ok (.invokevirtual 52, 3) := by decide +kernel
theorem dX1_become_11 : decode cX1_become 11 = .ok (.aload_n 0, 1) := by decide +kernel
theorem dX1_become_12 : decode cX1_become 12 = .ok (.getfield 18, 3) := by decide +kernel
theorem dX1_become_15 : decode cX1_become 15 = .ok (.aload_n 1, 1) := by decide +kernel
theorem dX1_become_16 : decode cX1_become 16 = .ok (.getfield 18, 3) := by decide +kernel
theorem dX1_become_19 : decode cX1_become 19 = .ok (.invokevirtual 52, 3) := by decide +kernel
theorem dX1_become_22 : decode cX1_become 22 = .ok (.aload_n 0, 1) := by decide +kernel
theorem dX1_become_23 : decode cX1_become 23 = .ok (.getfield 24, 3) := by decide +kernel
theorem dX1_become_26 : decode cX1_become 26 = .ok (.aload_n 1, 1) := by decide +kernel
theorem dX1_become_27 : decode cX1_become 27 = .ok (.getfield 24, 3) := by decide +kernel
theorem dX1_become_30 : decode cX1_become 30 = .ok (.invokevirtual 56, 3) := by decide +kernel
theorem dX1_become_33 : decode cX1_become 33 = .ok (.aload_n 0, 1) := by decide +kernel
theorem dX1_become_34 : decode cX1_become 34 = .ok (.getfield 31, 3) := by decide +kernel
theorem dX1_become_37 : decode cX1_become 37 = .ok (.aload_n 1, 1) := by decide +kernel
theorem dX1_become_38 : decode cX1_become 38 = .ok (.getfield 31, 3) := by decide +kernel
theorem dX1_become_41 : decode cX1_become 41 = .ok (.invokevirtual 59, 3) := by decide +kernel
theorem dX1_become_44 : decode cX1_become 44 = .ok (.aload_n 0, 1) := by decide +kernel
theorem dX1_become_45 : decode cX1_become 45 = .ok (.getfield 38, 3) := by decide +kernel
theorem dX1_become_48 : decode cX1_become 48 = .ok (.aload_n 1, 1) := by decide +kernel
theorem dX1_become_49 : decode cX1_become 49 = .ok (.getfield 38, 3) := by decide +kernel
theorem dX1_become_52 : decode cX1_become 52 = .ok (.invokevirtual 62, 3) := by decide +kernel
theorem dX1_become_55 : decode cX1_become 55 = .ok (.aload_n 1, 1) := by decide +kernel
theorem dX1_become_56 : decode cX1_become 56 = .ok (.getfield 42, 3) := by decide +kernel
theorem dX1_become_59 : decode cX1_become 59 = .ok (.iconst 0, 1) := by decide +kernel
theorem dX1_become_60 : decode cX1_become 60 = .ok (.aload_n 0, 1) := by decide +kernel
theorem dX1_become_61 : decode cX1_become 61 = .ok (.getfield 42, 3) := by decide +kernel
theorem dX1_become_64 : decode cX1_become 64 = .ok (.iconst 0, 1) := by decide +kernel
theorem dX1_become_65 : decode cX1_become 65 = .ok (.bipush 60, 2) := by decide +kernel
theorem dX1_become_67 : decode cX1_become 67 = .ok (.invokestatic 65, 3) := by decide +kernel
theorem dX1_become_70 : decode cX1_become 70 = .ok (.aload_n 0, 1) := by decide +kernel
theorem dX1_become_71 : decode cX1_become 71 = .ok (.aload_n 1, 1) := by decide +kernel
theorem dX1_become_72 : decode cX1_become 72 = .ok (.getfield 71, 3) := by decide +kernel
theorem dX1_become_75 : decode cX1_become 75 = .ok (.putfield 71, 3) := by decide +kernel
theorem dX1_become_78 : decode cX1_become 78 = .ok (.aload_n 1, 1) := by decide +kernel
theorem dX1_become_79 : decode cX1_become 79 = .ok (.getfield 46, 3) := by decide +kernel
theorem dX1_become_82 : decode cX1_become 82 = .ok (.iconst 0, 1) := by decide +kernel
theorem dX1_become_83 : decode cX1_become 83 = .ok (.aload_n 0, 1) := by decide +kernel
theorem dX1_become_84 : decode cX1_become 84 = .ok (.getfield 46, 3) := by decide +kernel
theorem dX1_become_87 : decode cX1_become 87 = .ok (.iconst 0, 1) := by decide +kernel
theorem dX1_become_88 : decode cX1_become 88 = .ok (.iconst 4, 1) := by decide +kernel
theorem dX1_become_89 : decode cX1_become 89 = .ok (.invokestatic 65, 3) := by decide +kernel
theorem dX1_become_92 : decode cX1_become 92 = .ok (.aload_n 1, 1) := by decide +kernel
theorem dX1_become_93 : decode cX1_become 93 = .ok (.getfield 49, 3) := by decide +kernel
theorem dX1_become_96 : decode cX1_become 96 = .ok (.iconst 0, 1) := by decide +kernel
theorem dX1_become_97 : decode cX1_become 97 = .ok (.aload_n 0, 1) := by decide +kernel
theorem dX1_become_98 : decode cX1_become 98 = .ok (.getfield 49, 3) := by decide +kernel
theorem dX1_become_101 : decode cX1_become 101 = .ok (.iconst 0, 1) := by decide +kernel
theorem dX1_become_102 : decode cX1_become 102 = .ok (.bipush 7, 2) := by decide +kernel
theorem dX1_become_104 : decode cX1_become 104 = .ok (.invokestatic 65, 3) := by decide +kernel
theorem dX1_become_107 : decode cX1_become 107 = .ok (.aload_n 0, 1) := by decide +kernel
theorem dX1_become_108 : decode cX1_become 108 = .ok (.aload_n 1, 1) := by decide +kernel
theorem dX1_become_109 : decode cX1_become 109 = .ok (.getfield 75, 3) := by decide +kernel
theorem dX1_become_112 : decode cX1_become 112 = .ok (.putfield 75, 3) := by decide +kernel
theorem dX1_become_115 : decode cX1_become 115 = .ok (.return_, 1) := by decide +kernel
theorem dX1_begin_0 : decode cX1_begin 0 = .ok (.aload_n 1, 1) := by decide +kernel
theorem dX1_begin_1 : decode cX1_begin 1 = .ok (.iconst 0, 1) := by decide +kernel
theorem dX1_begin_2 : decode cX1_begin 2 = .ok (.aload_n 0, 1) := by decide +kernel
theorem dX1_begin_3 : decode cX1_begin 3 = .ok (.getfield 12, 3) := by decide +kernel
theorem dX1_begin_6 : decode cX1_begin 6 = .ok (.getfield 79, 3) := by decide +kernel
theorem dX1_begin_9 : decode cX1_begin 9 = .ok (.iconst 0, 1) := by decide +kernel
theorem dX1_begin_10 : decode cX1_begin 10 = .ok (.iload_n 2, 1) := by decide +kernel
theorem dX1_begin_11 : decode cX1_begin 11 = .ok (.invokestatic 65, 3) := by decide +kernel
theorem dX1_begin_14 : decode cX1_begin 14 = .ok (.aload_n 0, 1) := by decide +kernel
theorem dX1_begin_15 : decode cX1_begin 15 = .ok (.getfield 12, 3) := by decide +kernel
theorem dX1_begin_18 : decode cX1_begin 18 = .ok (.iload_n 2, 1) := by decide +kernel
theorem dX1_begin_19 : decode cX1_begin 19 = .ok (.putfield 82, 3) := by decide +kernel
theorem dX1_begin_22 : decode cX1_begin 22 = .ok (.aload_n 0, 1) := by decide +kernel
theorem dX1_begin_23 : decode cX1_begin 23 = .ok (.getfield 12, 3) := by decide +kernel
theorem dX1_begin_26 : decode cX1_begin 26 = .ok (.iconst 0, 1) := by decide +kernel
theorem dX1_begin_27 : decode cX1_begin 27 = .ok (.putfield 85, 3) := by decide +kernel
theorem dX1_begin_30 : decode cX1_begin 30 = .ok (.aload_n 0, 1) := by decide +kernel
theorem dX1_begin_31 : decode cX1_begin 31 = .ok (.iconst 0, 1) := by decide +kernel
theorem dX1_begin_32 : decode cX1_begin 32 = .ok (.putfield 71, 3) := by decide +kernel
theorem dX1_begin_35 : decode cX1_begin 35 = .ok (.aload_n 0, 1) := by decide +kernel
theorem dX1_begin_36 : decode cX1_begin 36 = .ok (.getfield 46, 3) := by decide +kernel
theorem dX1_begin_39 : decode cX1_begin 39 = .ok (.iconst (-1), 1) := by decide +kernel
theorem dX1_begin_40 : decode cX1_begin 40 = .ok (.invokestatic 88, 3) := by decide +kernel
theorem dX1_begin_43 : decode cX1_begin 43 = .ok (.aload_n 0, 1) := by decide +kernel
theorem dX1_begin_44 : decode cX1_begin 44 = .ok (.getfield 24, 3) := by decide +kernel
theorem dX1_begin_47 : decode cX1_begin 47 = .ok (.iconst 0, 1) := by decide +kernel
theorem dX1_begin_48 : decode cX1_begin 48 = .ok (.putfield 94, 3) := by decide +kernel
theorem dX1_begin_51 : decode cX1_begin 51 = .ok (.aload_n 0, 1) := by decide +kernel
theorem dX1_begin_52 : decode cX1_begin 52 = .ok (.getfield 38, 3) := by decide +kernel
theorem dX1_begin_55 : decode cX1_begin 55 = .ok (.iconst 0, 1) := by decide +kernel
theorem dX1_begin_56 : decode cX1_begin 56 = .ok (.putfield 97, 3) := by decide +kernel
theorem dX1_begin_59 : decode cX1_begin 59 = .ok (.aload_n 0, 1) := by decide +kernel
theorem dX1_begin_60 : decode cX1_begin 60 = .ok (.getfield 31, 3) := by decide +kernel
theorem dX1_begin_63 : decode cX1_begin 63 = .ok (.invokevirtual 98, 3) := by decide +kernel
theorem dX1_begin_66 : decode cX1_begin 66 = .ok (.aload_n 0, 1) := by decide +kernel
theorem dX1_begin_67 : decode cX1_begin 67 = .ok (.iconst 0, 1) := by decide +kernel
theorem dX1_begin_68 : decode cX1_begin 68 = .ok (.putfield 75, 3) := by decide +kernel
theorem dX1_begin_71 : decode cX1_begin 71 = .ok (.return_, 1) := by decide +kernel
theorem dX1_isPending_0 : decode cX1_isPending 0 = .ok (.aload_n 0, 1) := by decide +kernel
theorem dX1_isPending_1 : decode cX1_isPending 1 = .ok (.getfield 75, 3) := by decide +kernel
theorem dX1_isPending_4 : decode cX1_isPending 4 = .ok (.ifCond .ne 20, 3) := by decide +kernel
theorem dX1_isPending_7 : decode cX1_isPending 7 = .ok (.aload_n 0, 1) := by decide +kernel
theorem dX1_isPending_8 : decode cX1_isPending 8 = .ok (.getfield 31, 3) := by decide +kernel
theorem dX1_isPending_11 : decode cX1_isPending 11 = .ok (.getfield 101, 3) := by decide +kernel
theorem dX1_isPending_14 : decode cX1_isPending 14 = .ok (.getfield 97, 3) := by decide +kernel
theorem dX1_isPending_17 : decode cX1_isPending 17 = .ok (.ifCond .le 7, 3) := by decide +kernel
theorem dX1_isPending_20 : decode cX1_isPending 20 = .ok (.iconst 1, 1) := by decide +kernel
theorem dX1_isPending_21 : decode cX1_isPending 21 = .ok (.goto 4, 3) := by decide +kernel
theorem dX1_isPending_24 : decode cX1_isPending 24 = .ok (.iconst 0, 1) := by decide +kernel
theorem dX1_isPending_25 : decode cX1_isPending 25 = .ok (.ireturn, 1) := by decide +kernel
theorem dX1_markSet_0 : decode cX1_markSet 0 = .ok (.iconst 0, 1) := by decide +kernel
theorem dX1_markSet_1 : decode cX1_markSet 1 = .ok (.istore_n 1, 1) := by decide +kernel
theorem dX1_markSet_2 : decode cX1_markSet 2 = .ok (.iconst 0, 1) := by decide +kernel
theorem dX1_markSet_3 : decode cX1_markSet 3 = .ok (.istore_n 2, 1) := by decide +kernel
theorem dX1_markSet_4 : decode cX1_markSet 4 = .ok (.iload_n 2, 1) := by decide +kernel
theorem dX1_markSet_5 : decode cX1_markSet 5 = .ok (.iconst 4, 1) := by decide +kernel
theorem dX1_markSet_6 : decode cX1_markSet 6 = .ok (.if_icmp .ge 25, 3) := by decide +kernel
theorem dX1_markSet_9 : decode cX1_markSet 9 = .ok (.aload_n 0, 1) := by decide +kernel
theorem dX1_markSet_10 : decode cX1_markSet 10 = .ok (.getfield 46, 3) := by decide +kernel
theorem dX1_markSet_13 : decode cX1_markSet 13 = .ok (.iload_n 2, 1) := by decide +kernel
theorem dX1_markSet_14 : decode cX1_markSet 14 = .ok (.iaload, 1) := by decide +kernel
theorem dX1_markSet_15 : decode cX1_markSet 15 = .ok (.iconst (-1), 1) := by decide +kernel
theorem dX1_markSet_16 : decode cX1_markSet 16 = .ok (.if_icmp .eq 9, 3) := by decide +kernel
theorem dX1_markSet_19 : decode cX1_markSet 19 = .ok (.iload_n 1, 1) := by decide +kernel
theorem dX1_markSet_20 : decode cX1_markSet 20 = .ok (.iconst 1, 1) := by decide +kernel
theorem dX1_markSet_21 : decode cX1_markSet 21 = .ok (.iload_n 2, 1) := by decide +kernel
theorem dX1_markSet_22 : decode cX1_markSet 22 = .ok (.ishl, 1) := by decide +kernel
theorem dX1_markSet_23 : decode cX1_markSet 23 = .ok (.ior, 1) := by decide +kernel
theorem dX1_markSet_24 : decode cX1_markSet 24 = .ok (.istore_n 1, 1) := by decide +kernel
theorem dX1_markSet_25 : decode cX1_markSet 25 = .ok (.iinc 2 1, 3) := by decide +kernel
theorem dX1_markSet_28 : decode cX1_markSet 28 = .ok (.goto (-24), 3) := by decide +kernel
theorem dX1_markSet_31 : decode cX1_markSet 31 = .ok (.iload_n 1, 1) := by decide +kernel
theorem dX1_markSet_32 : decode cX1_markSet 32 = .ok (.ireturn, 1) := by decide +kernel
theorem dX1_press_0 : decode cX1_press 0 = .ok (.iload_n 1, 1) := by decide +kernel
theorem dX1_press_1 : decode cX1_press 1 = .ok (.bipush 46, 2) := by decide +kernel
theorem dX1_press_3 : decode cX1_press 3 = .ok (.if_icmp .ne 24, 3) := by decide +kernel
theorem dX1_press_6 : decode cX1_press 6 = .ok (.aload_n 0, 1) := by decide +kernel
theorem dX1_press_7 : decode cX1_press 7 = .ok (.getfield 75, 3) := by decide +kernel
theorem dX1_press_10 : decode cX1_press 10 = .ok (.ifCond .ne 17, 3) := by decide +kernel
theorem dX1_press_13 : decode cX1_press 13 = .ok (.aload_n 0, 1) := by decide +kernel
theorem dX1_press_14 : decode cX1_press 14 = .ok (.getfield 31, 3) := by decide +kernel
theorem dX1_press_17 : decode cX1_press 17 = .ok (.getfield 104, 3) := by decide +kernel
theorem dX1_press_20 : decode cX1_press 20 = .ok (.ifCond .ne 7, 3) := by decide +kernel
theorem dX1_press_23 : decode cX1_press 23 = .ok (.iconst 1, 1) := by decide +kernel
theorem dX1_press_24 : decode cX1_press 24 = .ok (.goto 4, 3) := by decide +kernel
theorem dX1_press_27 : decode cX1_press 27 = .ok (.iconst 0, 1) := by decide +kernel
theorem dX1_press_28 : decode cX1_press 28 = .ok (.istore_n 2, 1) := by decide +kernel
theorem dX1_press_29 : decode cX1_press 29 = .ok (.iload_n 2, 1) := by decide +kernel
theorem dX1_press_30 : decode cX1_press 30 = .ok (.ifCond .ne 10, 3) := by decide +kernel
theorem dX1_press_33 : decode cX1_press 33 = .ok (.aload_n 0, 1) := by decide +kernel
theorem dX1_press_34 : decode cX1_press 34 = .ok (.iload_n 1, 1) := by decide +kernel
theorem dX1_press_35 : decode cX1_press 35 = .ok (.iconst 0, 1) := by decide +kernel
theorem dX1_press_36 : decode cX1_press 36 = .ok (.invokevirtual 107, 3) := by decide +kernel
theorem dX1_press_39 : decode cX1_press 39 = .ok (.ireturn, 1) := by decide +kernel
theorem dX1_press_40 : decode cX1_press 40 = .ok (.aload_n 0, 1) := by decide +kernel
theorem dX1_press_41 : decode cX1_press 41 = .ok (.getfield 31, 3) := by decide +kernel
theorem dX1_press_44 : decode cX1_press 44 = .ok (.invokevirtual 98, 3) := by decide +kernel
theorem dX1_press_47 : decode cX1_press 47 = .ok (.aload_n 0, 1) := by decide +kernel
theorem dX1_press_48 : decode cX1_press 48 = .ok (.getfield 38, 3) := by decide +kernel
theorem dX1_press_51 : decode cX1_press 51 = .ok (.invokevirtual 111, 3) := by decide +kernel
theorem dX1_press_54 : decode cX1_press 54 = .ok (.ifCond .ne 6, 3) := by decide +kernel
theorem dX1_press_57 : decode cX1_press 57 = .ok (.bipush (-2), 2) := by decide +kernel
theorem dX1_press_59 : decode cX1_press 59 = .ok (.ireturn, 1) := by decide +kernel
theorem dX1_press_60 : decode cX1_press 60 = .ok (.iconst 0, 1) := by decide +kernel
theorem dX1_press_61 : decode cX1_press 61 = .ok (.istore_n 3, 1) := by decide +kernel
theorem dX1_press_62 : decode cX1_press 62 = .ok (.iconst 0, 1) := by decide +kernel
theorem dX1_press_63 : decode cX1_press 63 = .ok (.istore 4, 2) := by decide +kernel
theorem dX1_press_65 : decode cX1_press 65 = .ok (.iload 4, 2) := by decide +kernel
theorem dX1_press_67 : decode cX1_press 67 = .ok (.aload_n 0, 1) := by decide +kernel
theorem dX1_press_68 : decode cX1_press 68 = .ok (.getfield 38, 3) := by decide +kernel
theorem dX1_press_71 : decode cX1_press 71 = .ok (.getfield 97, 3) := by decide +kernel
theorem dX1_press_74 : decode cX1_press 74 = .ok (.if_icmp .ge 31, 3) := by decide +kernel
theorem dX1_press_77 : decode cX1_press 77 = .ok (.iload_n 3, 1) := by decide +kernel
theorem dX1_press_78 : decode cX1_press 78 = .ok (.bipush (-2), 2) := by decide +kernel
theorem dX1_press_80 : decode cX1_press 80 = .ok (.if_icmp .eq 25, 3) := by decide +kernel
theorem dX1_press_83 : decode cX1_press 83 = .ok (.aload_n 0, 1) := by decide +kernel
theorem dX1_press_84 : decode cX1_press 84 = .ok (.aload_n 0, 1) := by decide +kernel
theorem dX1_press_85 : decode cX1_press 85 = .ok (.getfield 38, 3) := by decide +kernel
theorem dX1_press_88 : decode cX1_press 88 = .ok (.getfield 115, 3) := by decide +kernel
theorem dX1_press_91 : decode cX1_press 91 = .ok (.iload 4, 2) := by decide +kernel
theorem dX1_press_93 : decode cX1_press 93 = .ok (.iaload, 1) := by decide +kernel
theorem dX1_press_94 : decode cX1_press 94 = .ok (.iconst 1, 1) := by decide +kernel
theorem dX1_press_95 : decode cX1_press 95 = .ok (.invokevirtual 107, 3) := by decide +kernel
theorem dX1_press_98 : decode cX1_press 98 = .ok (.istore_n 3, 1) := by decide +kernel
theorem dX1_press_99 : decode cX1_press 99 = .ok (.iinc 4 1, 3) := by decide +kernel
theorem dX1_press_102 : decode cX1_press 102 = .ok (.goto (-37), 3) := by decide +kernel
theorem dX1_press_105 : decode cX1_press 105 = .ok (.iload_n 3, 1) := by decide +kernel
theorem dX1_press_106 : decode cX1_press 106 = .ok (.ireturn, 1) := by decide +kernel
theorem dX1_strike_0 : decode cX1_strike 0 = .ok (.aload_n 0, 1) := by decide +kernel
theorem dX1_strike_1 : decode cX1_strike 1 = .ok (.getfield 75, 3) := by decide +kernel
theorem dX1_strike_4 : decode cX1_strike 4 = .ok (.ifCond .eq 10, 3) := by decide +kernel
theorem dX1_strike_7 : decode cX1_strike 7 = .ok (.aload_n 0, 1) := by decide +kernel
theorem dX1_strike_8 : decode cX1_strike 8 = .ok (.iload_n 1, 1) := by decide +kernel
theorem dX1_strike_9 : decode cX1_strike 9 = .ok (.iload_n 2, 1) := by decide +kernel
theorem dX1_strike_10 : decode cX1_strike 10 = .ok (.invokevirtual 117, 3) := by decide +kernel
theorem dX1_strike_13 : decode cX1_strike 13 = .ok (.ireturn, 1) := by decide +kernel
theorem dX1_strike_14 : decode cX1_strike 14 = .ok (.aload_n 0, 1) := by decide +kernel
theorem dX1_strike_15 : decode cX1_strike 15 = .ok (.getfield 31, 3) := by decide +kernel
theorem dX1_strike_18 : decode cX1_strike 18 = .ok (.iload_n 1, 1) := by decide +kernel
theorem dX1_strike_19 : decode cX1_strike 19 = .ok (.invokevirtual 120, 3) := by decide +kernel
theorem dX1_strike_22 : decode cX1_strike 22 = .ok (.istore_n 3, 1) := by decide +kernel
theorem dX1_strike_23 : decode cX1_strike 23 = .ok (.iload_n 3, 1) := by decide +kernel
theorem dX1_strike_24 : decode cX1_strike 24 = .ok (.ifCond .ne 5, 3) := by decide +kernel
theorem dX1_strike_27 : decode cX1_strike 27 = .ok (.iconst 1, 1) := by decide +kernel
theorem dX1_strike_28 : decode cX1_strike 28 = .ok (.ireturn, 1) := by decide +kernel
theorem dX1_strike_29 : decode cX1_strike 29 = .ok (.aload_n 0, 1) := by decide +kernel
theorem dX1_strike_30 : decode cX1_strike 30 = .ok (.getfield 18, 3) := by decide +kernel
theorem dX1_strike_33 : decode cX1_strike 33 = .ok (.aload_n 0, 1) := by decide +kernel
theorem dX1_strike_34 : decode cX1_strike 34 = .ok (.getfield 12, 3) := by decide +kernel
theorem dX1_strike_37 : decode cX1_strike 37 = .ok (.invokevirtual 52, 3) := by decide +kernel
theorem dX1_strike_40 : decode cX1_strike 40 = .ok (.iload_n 3, 1) := by decide +kernel
theorem dX1_strike_41 : decode cX1_strike 41 = .ok (.iconst 1, 1) := by decide +kernel
theorem dX1_strike_42 : decode cX1_strike 42 = .ok (.if_icmp .ne 24, 3) := by decide +kernel
theorem dX1_strike_45 : decode cX1_strike 45 = .ok (.aload_n 0, 1) := by decide +kernel
theorem dX1_strike_46 : decode cX1_strike 46 = .ok (.invokevirtual 124, 3) := by decide +kernel
theorem dX1_strike_49 : decode cX1_strike 49 = .ok (.ifCond .eq 17, 3) := by decide +kernel
theorem dX1_strike_52 : decode cX1_strike 52 = .ok (.aload_n 0, 1) := by decide +kernel
theorem dX1_strike_53 : decode cX1_strike 53 = .ok (.aload_n 0, 1) := by decide +kernel
theorem dX1_strike_54 : decode cX1_strike 54 = .ok (.getfield 31, 3) := by decide +kernel
theorem dX1_strike_57 : decode cX1_strike 57 = .ok (.invokevirtual 127, 3) := by decide +kernel
theorem dX1_strike_60 : decode cX1_strike 60 = .ok (.invokevirtual 131, 3) := by decide +kernel
theorem dX1_strike_63 : decode cX1_strike 63 = .ok (.goto 4, 3) := by decide +kernel
theorem dX1_strike_66 : decode cX1_strike 66 = .ok (.iconst 0, 1) := by decide +kernel
theorem dX1_strike_67 : decode cX1_strike 67 = .ok (.istore 4, 2) := by decide +kernel
theorem dX1_strike_69 : decode cX1_strike 69 = .ok (.iload 4, 2) := by decide +kernel
theorem dX1_strike_71 : decode cX1_strike 71 = .ok (.iconst 3, 1) := by decide +kernel
theorem dX1_strike_72 : decode cX1_strike 72 = .ok (.if_icmp .ne 10, 3) := by decide +kernel
theorem dX1_strike_75 : decode cX1_strike 75 = .ok (.aload_n 0, 1) := by decide +kernel
theorem dX1_strike_76 : decode cX1_strike 76 = .ok (.iconst 1, 1) := by decide +kernel
theorem dX1_strike_77 : decode cX1_strike 77 = .ok (.putfield 75, 3) := by decide +kernel
theorem dX1_strike_80 : decode cX1_strike 80 = .ok (.iconst 2, 1) := by decide +kernel
theorem dX1_strike_81 : decode cX1_strike 81 = .ok (.ireturn, 1) := by decide +kernel
theorem dX1_strike_82 : decode cX1_strike 82 = .ok (.iload 4, 2) := by decide +kernel
theorem dX1_strike_84 : decode cX1_strike 84 = .ok (.iconst 2, 1) := by decide +kernel
theorem dX1_strike_85 : decode cX1_strike 85 = .ok (.if_icmp .ne 8, 3) := by decide +kernel
theorem dX1_strike_88 : decode cX1_strike 88 = .ok (.aload_n 0, 1) := by decide +kernel
theorem dX1_strike_89 : decode cX1_strike 89 = .ok (.iload_n 2, 1) := by decide +kernel
theorem dX1_strike_90 : decode cX1_strike 90 = .ok (.invokevirtual 134, 3) := by decide +kernel
theorem dX1_strike_93 : decode cX1_strike 93 = .ok (.aload_n 0, 1) := by decide +kernel
theorem dX1_strike_94 : decode cX1_strike 94 = .ok (.getfield 31, 3) := by decide +kernel
theorem dX1_strike_97 : decode cX1_strike 97 = .ok (.invokevirtual 98, 3) := by decide +kernel
theorem dX1_strike_100 : decode cX1_strike 100 = .ok (.iload 4, 2) := by decide +kernel
theorem dX1_strike_102 : decode cX1_strike 102 = .ok (.ifCond .ne 8, 3) := by decide +kernel
theorem dX1_strike_105 : decode cX1_strike 105 = .ok (.bipush (-2), 2) := by decide +kernel
theorem dX1_strike_107 : decode cX1_strike 107 = .ok (.goto 4, 3) := by decide +kernel
theorem dX1_strike_110 : decode cX1_strike 110 = .ok (.iconst 0, 1) := by decide +kernel
theorem dX1_strike_111 : decode cX1_strike 111 = .ok (.ireturn, 1) := by decide +kernel
theorem dX1_typeIn_0 : decode cX1_typeIn 0 = .ok (.aload_n 0, 1) := by decide +kernel
theorem dX1_typeIn_1 : decode cX1_typeIn 1 = .ok (.getfield 31, 3) := by decide +kernel
theorem dX1_typeIn_4 : decode cX1_typeIn 4 = .ok (.getfield 101, 3) := by decide +kernel
theorem dX1_typeIn_7 : decode cX1_typeIn 7 = .ok (.iload_n 1, 1) := by decide +kernel
theorem dX1_typeIn_8 : decode cX1_typeIn 8 = .ok (.invokevirtual 138, 3) := by decide +kernel
theorem dX1_typeIn_11 : decode cX1_typeIn 11 = .ok (.iload_n 1, 1) := by decide +kernel
theorem dX1_typeIn_12 : decode cX1_typeIn 12 = .ok (.bipush 33, 2) := by decide +kernel
theorem dX1_typeIn_14 : decode cX1_typeIn 14 = .ok (.if_icmp .ne 42, 3) := by decide +kernel
theorem dX1_typeIn_17 : decode cX1_typeIn 17 = .ok (.aload_n 0, 1) := by decide +kernel
theorem dX1_typeIn_18 : decode cX1_typeIn 18 = .ok (.iconst 0, 1) := by decide +kernel
theorem dX1_typeIn_19 : decode cX1_typeIn 19 = .ok (.putfield 75, 3) := by decide +kernel
theorem dX1_typeIn_22 : decode cX1_typeIn 22 = .ok (.aload_n 0, 1) := by decide +kernel
theorem dX1_typeIn_23 : decode cX1_typeIn 23 = .ok (.getfield 12, 3) := by decide +kernel
theorem dX1_typeIn_26 : decode cX1_typeIn 26 = .ok (.iconst 0, 1) := by decide +kernel
theorem dX1_typeIn_27 : decode cX1_typeIn 27 = .ok (.aload_n 0, 1) := by decide +kernel
theorem dX1_typeIn_28 : decode cX1_typeIn 28 = .ok (.getfield 12, 3) := by decide +kernel
theorem dX1_typeIn_31 : decode cX1_typeIn 31 = .ok (.getfield 85, 3) := by decide +kernel
theorem dX1_typeIn_34 : decode cX1_typeIn 34 = .ok (.iconst 1, 1) := by decide +kernel
theorem dX1_typeIn_35 : decode cX1_typeIn 35 = .ok (.isub, 1) := by decide +kernel
theorem dX1_typeIn_36 : decode cX1_typeIn 36 = .ok (.invokestatic 142, 3) := by decide +kernel
theorem dX1_typeIn_39 : decode cX1_typeIn 39 = .ok (.putfield 85, 3) := by decide +kernel
theorem dX1_typeIn_42 : decode cX1_typeIn 42 = .ok (.aload_n 0, 1) := by decide +kernel
theorem dX1_typeIn_43 : decode cX1_typeIn 43 = .ok (.iload_n 2, 1) := by decide +kernel
theorem dX1_typeIn_44 : decode cX1_typeIn 44 = .ok (.invokevirtual 134, 3) := by decide +kernel
theorem dX1_typeIn_47 : decode cX1_typeIn 47 = .ok (.aload_n 0, 1) := by decide +kernel
theorem dX1_typeIn_48 : decode cX1_typeIn 48 = .ok (.getfield 31, 3) := by decide +kernel
theorem dX1_typeIn_51 : decode cX1_typeIn 51 = .ok (.invokevirtual 98, 3) := by decide +kernel
theorem dX1_typeIn_54 : decode cX1_typeIn 54 = .ok (.iconst 0, 1) := by decide +kernel
theorem dX1_typeIn_55 : decode cX1_typeIn 55 = .ok (.ireturn, 1) := by decide +kernel
theorem dX1_typeIn_56 : decode cX1_typeIn 56 = .ok (.aload_n 0, 1) := by decide +kernel
theorem dX1_typeIn_57 : decode cX1_typeIn 57 = .ok (.getfield 12, 3) := by decide +kernel
theorem dX1_typeIn_60 : decode cX1_typeIn 60 = .ok (.getfield 82, 3) := by decide +kernel
theorem dX1_typeIn_63 : decode cX1_typeIn 63 = .ok (.bipush 60, 2) := by decide +kernel
theorem dX1_typeIn_65 : decode cX1_typeIn 65 = .ok (.if_icmp .lt 6, 3) := by decide +kernel
theorem dX1_typeIn_68 : decode cX1_typeIn 68 = .ok (.bipush (-3), 2) := by decide +kernel
theorem dX1_typeIn_70 : decode cX1_typeIn 70 = .ok (.ireturn, 1) := by decide +kernel
theorem dX1_typeIn_71 : decode cX1_typeIn 71 = .ok (.aload_n 0, 1) := by decide +kernel
theorem dX1_typeIn_72 : decode cX1_typeIn 72 = .ok (.getfield 12, 3) := by decide +kernel
theorem dX1_typeIn_75 : decode cX1_typeIn 75 = .ok (.aload_n 0, 1) := by decide +kernel
theorem dX1_typeIn_76 : decode cX1_typeIn 76 = .ok (.getfield 12, 3) := by decide +kernel
theorem dX1_typeIn_79 : decode cX1_typeIn 79 = .ok (.getfield 85, 3) := by decide +kernel
theorem dX1_typeIn_82 : decode cX1_typeIn 82 = .ok (.iconst 1, 1) := by decide +kernel
theorem dX1_typeIn_83 : decode cX1_typeIn 83 = .ok (.invokevirtual 148, 3) := by decide +kernel
theorem dX1_typeIn_86 : decode cX1_typeIn 86 = .ok (.aload_n 0, 1) := by decide +kernel
theorem dX1_typeIn_87 : decode cX1_typeIn 87 = .ok (.getfield 12, 3) := by decide +kernel
theorem dX1_typeIn_90 : decode cX1_typeIn 90 = .ok (.getfield 79, 3) := by decide +kernel
theorem dX1_typeIn_93 : decode cX1_typeIn 93 = .ok (.aload_n 0, 1) := by decide +kernel
theorem dX1_typeIn_94 : decode cX1_typeIn 94 = .ok (.getfield 12, 3) := by decide +kernel
theorem dX1_typeIn_97 : decode cX1_typeIn 97 = .ok (.getfield 85, 3) := by decide +kernel
theorem dX1_typeIn_100 : decode cX1_typeIn 100 = .ok (.iload_n 1, 1) := by decide +kernel
theorem dX1_typeIn_101 : decode cX1_typeIn 101 = .ok (.iastore, 1) := by decide +kernel
theorem dX1_typeIn_102 : decode cX1_typeIn 102 = .ok (.aload_n 0, 1) := by decide +kernel
theorem dX1_typeIn_103 : decode cX1_typeIn 103 = .ok (.getfield 12, 3) := by decide +kernel
theorem dX1_typeIn_106 : decode cX1_typeIn 106 = .ok (.dup, 1) := by decide +kernel
theorem dX1_typeIn_107 : decode cX1_typeIn 107 = .ok (.getfield 85, 3) := by decide +kernel
theorem dX1_typeIn_110 : decode cX1_typeIn 110 = .ok (.iconst 1, 1) := by decide +kernel
theorem dX1_typeIn_111 : decode cX1_typeIn 111 = .ok (.iadd, 1) := by decide +kernel
theorem dX1_typeIn_112 : decode cX1_typeIn 112 = .ok (.putfield 85, 3) := by decide +kernel
theorem dX1_typeIn_115 : decode cX1_typeIn 115 = .ok (.iconst 2, 1) := by decide +kernel
theorem dX1_typeIn_116 : decode cX1_typeIn 116 = .ok (.ireturn, 1) := by decide +kernel
theorem dX1_remember_0 : decode cX1_remember 0 = .ok (.aload_n 0, 1) := by decide +kernel
theorem dX1_remember_1 : decode cX1_remember 1 = .ok (.getfield 24, 3) := by decide +kernel
theorem dX1_remember_4 : decode cX1_remember 4 = .ok (.aload_n 0, 1) := by decide +kernel
theorem dX1_remember_5 : decode cX1_remember 5 = .ok (.getfield 18, 3) := by decide +kernel
theorem dX1_remember_8 : decode cX1_remember 8 = .ok (.invokevirtual 152, 3) := by decide +kernel
theorem dX1_remember_11 : decode cX1_remember 11 = .ok (.iload_n 1, 1) := by decide +kernel
theorem dX1_remember_12 : decode cX1_remember 12 = .ok (.ifCond .ne 17, 3) := by decide +kernel
theorem dX1_remember_15 : decode cX1_remember 15 = .ok (.aload_n 0, 1) := by decide +kernel
theorem dX1_remember_16 : decode cX1_remember 16 = .ok (.getfield 38, 3) := by decide +kernel
theorem dX1_remember_19 : decode cX1_remember 19 = .ok (.aload_n 0, 1) := by decide +kernel
theorem dX1_remember_20 : decode cX1_remember 20 = .ok (.getfield 31, 3) := by decide +kernel
theorem dX1_remember_23 : decode cX1_remember 23 = .ok (.getfield 101, 3) := by decide +kernel
theorem dX1_remember_26 : decode cX1_remember 26 = .ok (.invokevirtual 62, 3) := by decide +kernel
theorem dX1_remember_29 : decode cX1_remember 29 = .ok (.return_, 1) := by decide +kernel
theorem dX1_aim_0 : decode cX1_aim 0 = .ok (.aload_n 0, 1) := by decide +kernel
theorem dX1_aim_1 : decode cX1_aim 1 = .ok (.getfield 31, 3) := by decide +kernel
theorem dX1_aim_4 : decode cX1_aim 4 = .ok (.getfield 155, 3) := by decide +kernel
theorem dX1_aim_7 : decode cX1_aim 7 = .ok (.tableswitch 99 1 5 #[33, 59, 64, 69, 81], 33) := by decide +kernel
theorem dX1_aim_40 : decode cX1_aim 40 = .ok (.aload_n 0, 1) := by decide +kernel
theorem dX1_aim_41 : decode cX1_aim 41 = .ok (.aload_n 0, 1) := by decide +kernel
theorem dX1_aim_42 : decode cX1_aim 42 = .ok (.getfield 31, 3) := by decide +kernel
theorem dX1_aim_45 : decode cX1_aim 45 = .ok (.getfield 158, 3) := by decide +kernel
theorem dX1_aim_48 : decode cX1_aim 48 = .ok (.aload_n 0, 1) := by decide +kernel
theorem dX1_aim_49 : decode cX1_aim 49 = .ok (.getfield 31, 3) := by decide +kernel
theorem dX1_aim_52 : decode cX1_aim 52 = .ok (.invokevirtual 127, 3) := by decide +kernel
theorem dX1_aim_55 : decode cX1_aim 55 = .ok (.aload_n 0, 1) := by decide +kernel
theorem dX1_aim_56 : decode cX1_aim 56 = .ok (.getfield 31, 3) := by decide +kernel
theorem dX1_aim_59 : decode cX1_aim 59 = .ok (.getfield 161, 3) := by decide +kernel
theorem dX1_aim_62 : decode cX1_aim 62 = .ok (.invokevirtual 164, 3) := by decide +kernel
theorem dX1_aim_65 : decode cX1_aim 65 = .ok (.ireturn, 1) := by decide +kernel
theorem dX1_aim_66 : decode cX1_aim 66 = .ok (.aload_n 0, 1) := by decide +kernel
theorem dX1_aim_67 : decode cX1_aim 67 = .ok (.invokevirtual 168, 3) := by decide +kernel
theorem dX1_aim_70 : decode cX1_aim 70 = .ok (.ireturn, 1) := by decide +kernel
theorem dX1_aim_71 : decode cX1_aim 71 = .ok (.aload_n 0, 1) := by decide +kernel
theorem dX1_aim_72 : decode cX1_aim 72 = .ok (.invokevirtual 171, 3) := by decide +kernel
theorem dX1_aim_75 : decode cX1_aim 75 = .ok (.ireturn, 1) := by decide +kernel
theorem dX1_aim_76 : decode cX1_aim 76 = .ok (.aload_n 0, 1) := by decide +kernel
theorem dX1_aim_77 : decode cX1_aim 77 = .ok (.aload_n 0, 1) := by decide +kernel
theorem dX1_aim_78 : decode cX1_aim 78 = .ok (.getfield 31, 3) := by decide +kernel
theorem dX1_aim_81 : decode cX1_aim 81 = .ok (.invokevirtual 127, 3) := by decide +kernel
theorem dX1_aim_84 : decode cX1_aim 84 = .ok (.invokevirtual 174, 3) := by decide +kernel
theorem dX1_aim_87 : decode cX1_aim 87 = .ok (.ireturn, 1) := by decide +kernel
theorem dX1_aim_88 : decode cX1_aim 88 = .ok (.aload_n 0, 1) := by decide +kernel
theorem dX1_aim_89 : decode cX1_aim 89 = .ok (.iconst 0, 1) := by decide +kernel
theorem dX1_aim_90 : decode cX1_aim 90 = .ok (.putfield 178, 3) := by decide +kernel
theorem dX1_aim_93 : decode cX1_aim 93 = .ok (.aload_n 0, 1) := by decide +kernel
theorem dX1_aim_94 : decode cX1_aim 94 = .ok (.aload_n 0, 1) := by decide +kernel
theorem dX1_aim_95 : decode cX1_aim 95 = .ok (.getfield 12, 3) := by decide +kernel
theorem dX1_aim_98 : decode cX1_aim 98 = .ok (.getfield 82, 3) := by decide +kernel
theorem dX1_aim_101 : decode cX1_aim 101 = .ok (.putfield 181, 3) := by decide +kernel
theorem dX1_aim_104 : decode cX1_aim 104 = .ok (.iconst 1, 1) := by decide +kernel
theorem dX1_aim_105 : decode cX1_aim 105 = .ok (.ireturn, 1) := by decide +kernel
theorem dX1_aim_106 : decode cX1_aim 106 = .ok (.iconst 1, 1) := by decide +kernel
theorem dX1_aim_107 : decode cX1_aim 107 = .ok (.ireturn, 1) := by decide +kernel
theorem dX1_aimByMotion_0 : decode cX1_aimByMotion 0 = .ok (.aload_n 0, 1) := by decide +kernel
theorem dX1_aimByMotion_1 : decode cX1_aimByMotion 1 = .ok (.getfield 12, 3) := by decide +kernel
theorem dX1_aimByMotion_4 : decode cX1_aimByMotion 4 = .ok (.invokevirtual 184, 3) := by decide +kernel
theorem dX1_aimByMotion_7 : decode cX1_aimByMotion 7 = .ok (.istore 4, 2) := by decide +kernel
theorem dX1_aimByMotion_9 : decode cX1_aimByMotion 9 = .ok (.aload_n 0, 1) := by decide +kernel
theorem dX1_aimByMotion_10 : decode cX1_aimByMotion 10 = .ok (.iload 4, 2) := by decide +kernel
theorem dX1_aimByMotion_12 : decode cX1_aimByMotion 12 = .ok (.putfield 187, 3) := by decide +kernel
theorem dX1_aimByMotion_15 : decode cX1_aimByMotion 15 = .ok (.iload_n 1, 1) := by decide +kernel
theorem dX1_aimByMotion_16 : decode cX1_aimByMotion 16 = .ok (.bipush 9, 2) := by decide +kernel
theorem dX1_aimByMotion_18 : decode cX1_aimByMotion 18 = .ok (.if_icmp .ne 15, 3) := by decide +kernel
theorem dX1_aimByMotion_21 : decode cX1_aimByMotion 21 = .ok (.aload_n 0, 1) := by decide +kernel
theorem dX1_aimByMotion_22 : decode cX1_aimByMotion 22 = .ok (.aload_n 0, 1) := by decide +kernel
theorem dX1_aimByMotion_23 : decode cX1_aimByMotion 23 = .ok (.iload_n 3, 1) := by decide +kernel
theorem dX1_aimByMotion_24 : decode cX1_aimByMotion 24 = .ok (.invokevirtual 190, 3) := by decide +kernel
theorem dX1_aimByMotion_27 : decode cX1_aimByMotion 27 = .ok (.putfield 187, 3) := by decide +kernel
theorem dX1_aimByMotion_30 : decode cX1_aimByMotion 30 = .ok (.goto 58, 3) := by decide +kernel
theorem dX1_aimByMotion_33 : decode cX1_aimByMotion 33 = .ok (.iload_n 1, 1) := by decide +kernel
theorem dX1_aimByMotion_34 : decode cX1_aimByMotion 34 = .ok (.bipush 7, 2) := by decide +kernel
theorem dX1_aimByMotion_36 : decode cX1_aimByMotion 36 = .ok (.if_icmp .lt 21, 3) := by decide +kernel
theorem dX1_aimByMotion_39 : decode cX1_aimByMotion 39 = .ok (.aload_n 0, 1) := by decide +kernel
theorem dX1_aimByMotion_40 : decode cX1_aimByMotion 40 = .ok (.aload_n 0, 1) := by decide +kernel
theorem dX1_aimByMotion_41 : decode cX1_aimByMotion 41 = .ok (.getfield 12, 3) := by decide +kernel
theorem dX1_aimByMotion_44 : decode cX1_aimByMotion 44 = .ok (.iload 4, 2) := by decide +kernel
theorem dX1_aimByMotion_46 : decode cX1_aimByMotion 46 = .ok (.iload_n 3, 1) := by decide +kernel
theorem dX1_aimByMotion_47 : decode cX1_aimByMotion 47 = .ok (.iload_n 2, 1) := by decide +kernel
theorem dX1_aimByMotion_48 : decode cX1_aimByMotion 48 = .ok (.invokevirtual 193, 3) := by decide +kernel
theorem dX1_aimByMotion_51 : decode cX1_aimByMotion 51 = .ok (.putfield 187, 3) := by decide +kernel
theorem dX1_aimByMotion_54 : decode cX1_aimByMotion 54 = .ok (.goto 34, 3) := by decide +kernel
theorem dX1_aimByMotion_57 : decode cX1_aimByMotion 57 = .ok (.iconst 0, 1) := by decide +kernel
theorem dX1_aimByMotion_58 : decode cX1_aimByMotion 58 = .ok (.istore 5, 2) := by decide +kernel
theorem dX1_aimByMotion_60 : decode cX1_aimByMotion 60 = .ok (.iload 5, 2) := by decide +kernel
theorem dX1_aimByMotion_62 : decode cX1_aimByMotion 62 = .ok (.iload_n 2, 1) := by decide +kernel
theorem dX1_aimByMotion_63 : decode cX1_aimByMotion 63 = .ok (.if_icmp .ge 25, 3) := by decide +kernel
theorem dX1_aimByMotion_66 : decode cX1_aimByMotion 66 = .ok (.aload_n 0, 1) := by decide +kernel
theorem dX1_aimByMotion_67 : decode cX1_aimByMotion 67 = .ok (.aload_n 0, 1) := by decide +kernel
theorem dX1_aimByMotion_68 : decode cX1_aimByMotion 68 = .ok (.getfield 12, 3) := by decide +kernel
theorem dX1_aimByMotion_71 : decode cX1_aimByMotion 71 = .ok (.iload_n 1, 1) := by decide +kernel
theorem dX1_aimByMotion_72 : decode cX1_aimByMotion 72 = .ok (.aload_n 0, 1) := by decide +kernel
theorem dX1_aimByMotion_73 : decode cX1_aimByMotion 73 = .ok (.getfield 187, 3) := by decide +kernel
theorem dX1_aimByMotion_76 : decode cX1_aimByMotion 76 = .ok (.invokevirtual 197, 3) := by decide +kernel
theorem dX1_aimByMotion_79 : decode cX1_aimByMotion 79 = .ok (.putfield 187, 3) := by decide +kernel
theorem dX1_aimByMotion_82 : decode cX1_aimByMotion 82 = .ok (.iinc 5 1, 3) := by decide +kernel
theorem dX1_aimByMotion_85 : decode cX1_aimByMotion 85 = .ok (.goto (-25), 3) := by decide +kernel
theorem dX1_aimByMotion_88 : decode cX1_aimByMotion 88 = .ok (.aload_n 0, 1) := by decide +kernel
theorem dX1_aimByMotion_89 : decode cX1_aimByMotion 89 = .ok (.getfield 187, 3) := by decide +kernel
theorem dX1_aimByMotion_92 : decode cX1_aimByMotion 92 = .ok (.iconst (-1), 1) := by decide +kernel
theorem dX1_aimByMotion_93 : decode cX1_aimByMotion 93 = .ok (.if_icmp .ne 5, 3) := by decide +kernel
theorem dX1_aimByMotion_96 : decode cX1_aimByMotion 96 = .ok (.iconst 0, 1) := by decide +kernel
theorem dX1_aimByMotion_97 : decode cX1_aimByMotion 97 = .ok (.ireturn, 1) := by decide +kernel
theorem dX1_aimByMotion_98 : decode cX1_aimByMotion 98 = .ok (.iload_n 1, 1) := by decide +kernel
theorem dX1_aimByMotion_99 : decode cX1_aimByMotion 99 = .ok (.bipush 8, 2) := by decide +kernel
theorem dX1_aimByMotion_101 : decode cX1_aimByMotion 101 = .ok (.if_icmp .ne 13, 3) := by decide +kernel
theorem dX1_aimByMotion_104 : decode cX1_aimByMotion 104 = .ok (.aload_n 0, 1) := by decide +kernel
theorem dX1_aimByMotion_105 : decode cX1_aimByMotion 105 = .ok (.dup, 1) := by decide +kernel
theorem dX1_aimByMotion_106 : decode cX1_aimByMotion 106 = .ok (.getfield 187, 3) := by decide +kernel
theorem dX1_aimByMotion_109 : decode cX1_aimByMotion 109 = .ok (.iconst 1, 1) := by decide +kernel
theorem dX1_aimByMotion_110 : decode cX1_aimByMotion 110 = .ok (.isub, 1) := by decide +kernel
theorem dX1_aimByMotion_111 : decode cX1_aimByMotion 111 = .ok (.putfield 187, 3) := by decide +kernel
theorem dX1_aimByMotion_114 : decode cX1_aimByMotion 114 = .ok (.aload_n 0, 1) := by decide +kernel
theorem dX1_aimByMotion_115 : decode cX1_aimByMotion 115 = .ok (.iload 4, 2) := by decide +kernel
theorem dX1_aimByMotion_117 : decode cX1_aimByMotion 117 = .ok (.aload_n 0, 1) := by decide +kernel
theorem dX1_aimByMotion_118 : decode cX1_aimByMotion 118 = .ok (.getfield 187, 3) := by decide +kernel
theorem dX1_aimByMotion_121 : decode cX1_aimByMotion 121 = .ok (.invokestatic 200, 3) := by decide +kernel
theorem dX1_aimByMotion_124 : decode cX1_aimByMotion 124 = .ok (.putfield 178, 3) := by decide +kernel
theorem dX1_aimByMotion_127 : decode cX1_aimByMotion 127 = .ok (.aload_n 0, 1) := by decide +kernel
theorem dX1_aimByMotion_128 : decode cX1_aimByMotion 128 = .ok (.aload_n 0, 1) := by decide +kernel
theorem dX1_aimByMotion_129 : decode cX1_aimByMotion 129 = .ok (.getfield 12, 3) := by decide +kernel
theorem dX1_aimByMotion_132 : decode cX1_aimByMotion 132 = .ok (.getfield 82, 3) := by decide +kernel
theorem dX1_aimByMotion_135 : decode cX1_aimByMotion 135 = .ok (.iload 4, 2) := by decide +kernel
theorem dX1_aimByMotion_137 : decode cX1_aimByMotion 137 = .ok (.aload_n 0, 1) := by decide +kernel
theorem dX1_aimByMotion_138 : decode cX1_aimByMotion 138 = .ok (.getfield 187, 3) := by decide +kernel
theorem dX1_aimByMotion_141 : decode cX1_aimByMotion 141 = .ok (.invokestatic 142, 3) := by decide +kernel
theorem dX1_aimByMotion_144 : decode cX1_aimByMotion 144 = .ok (.iload_n 1, 1) := by decide +kernel
theorem dX1_aimByMotion_145 : decode cX1_aimByMotion 145 = .ok (.invokestatic 203, 3) := by decide +kernel
theorem dX1_aimByMotion_148 : decode cX1_aimByMotion 148 = .ok (.ifCond .eq 7, 3) := by decide +kernel
theorem dX1_aimByMotion_151 : decode cX1_aimByMotion 151 = .ok (.iconst 1, 1) := by decide +kernel
theorem dX1_aimByMotion_152 : decode cX1_aimByMotion 152 = .ok (.goto 4, 3) := by decide +kernel
theorem dX1_aimByMotion_155 : decode cX1_aimByMotion 155 = .ok (.iconst 0, 1) := by decide +kernel
theorem dX1_aimByMotion_156 : decode cX1_aimByMotion 156 = .ok (.iadd, 1) := by decide +kernel
theorem dX1_aimByMotion_157 : decode cX1_aimByMotion 157 = .ok (.invokestatic 200, 3) := by decide +kernel
theorem dX1_aimByMotion_160 : decode cX1_aimByMotion 160 = .ok (.putfield 181, 3) := by decide +kernel
theorem dX1_aimByMotion_163 : decode cX1_aimByMotion 163 = .ok (.iconst 1, 1) := by decide +kernel
theorem dX1_aimByMotion_164 : decode cX1_aimByMotion 164 = .ok (.ireturn, 1) := by decide +kernel
theorem dX1_takesPlace_0 : decode cX1_takesPlace 0 = .ok (.iload_n 0, 1) := by decide +kernel
theorem dX1_takesPlace_1 : decode cX1_takesPlace 1 = .ok (.iconst 3, 1) := by decide +kernel
theorem dX1_takesPlace_2 : decode cX1_takesPlace 2 = .ok (.if_icmp .eq 21, 3) := by decide +kernel
theorem dX1_takesPlace_5 : decode cX1_takesPlace 5 = .ok (.iload_n 0, 1) := by decide +kernel
theorem dX1_takesPlace_6 : decode cX1_takesPlace 6 = .ok (.bipush 6, 2) := by decide +kernel
theorem dX1_takesPlace_8 : decode cX1_takesPlace 8 = .ok (.if_icmp .eq 15, 3) := by decide +kernel
theorem dX1_takesPlace_11 : decode cX1_takesPlace 11 = .ok (.iload_n 0, 1) := by decide +kernel
theorem dX1_takesPlace_12 : decode cX1_takesPlace 12 = .ok (.bipush 7, 2) := by decide +kernel
theorem dX1_takesPlace_14 : decode cX1_takesPlace 14 = .ok (.if_icmp .eq 9, 3) := by decide +kernel
theorem dX1_takesPlace_17 : decode cX1_takesPlace 17 = .ok (.iload_n 0, 1) := by decide +kernel
theorem dX1_takesPlace_18 : decode cX1_takesPlace 18 = .ok (.bipush 8, 2) := by decide +kernel
theorem dX1_takesPlace_20 : decode cX1_takesPlace 20 = .ok (.if_icmp .ne 7, 3) := by decide +kernel
theorem dX1_takesPlace_23 : decode cX1_takesPlace 23 = .ok (.iconst 1, 1) := by decide +kernel
theorem dX1_takesPlace_24 : decode cX1_takesPlace 24 = .ok (.goto 4, 3) := by decide +kernel
theorem dX1_takesPlace_27 : decode cX1_takesPlace 27 = .ok (.iconst 0, 1) := by decide +kernel
theorem dX1_takesPlace_28 : decode cX1_takesPlace 28 = .ok (.ireturn, 1) := by decide +kernel
theorem dX1_placeOfMark_0 : decode cX1_placeOfMark 0 = .ok (.iload_n 1, 1) := by decide +kernel
theorem dX1_placeOfMark_1 : decode cX1_placeOfMark 1 = .ok (.ifCond .lt 22, 3) := by decide +kernel
theorem dX1_placeOfMark_4 : decode cX1_placeOfMark 4 = .ok (.iload_n 1, 1) := by decide +kernel
theorem dX1_placeOfMark_5 : decode cX1_placeOfMark 5 = .ok (.iconst 4, 1) := by decide +kernel
theorem dX1_placeOfMark_6 : decode cX1_placeOfMark 6 = .ok (.if_icmp .ge 17, 3) := by decide +kernel
theorem dX1_placeOfMark_9 : decode cX1_placeOfMark 9 = .ok (.aload_n 0, 1) := by decide +kernel
theorem dX1_placeOfMark_10 : decode cX1_placeOfMark 10 = .ok (.getfield 46, 3) := by decide +kernel
theorem dX1_placeOfMark_13 : decode cX1_placeOfMark 13 = .ok (.iload_n 1, 1) := by decide +kernel
theorem dX1_placeOfMark_14 : decode cX1_placeOfMark 14 = .ok (.iaload, 1) := by decide +kernel
theorem dX1_placeOfMark_15 : decode cX1_placeOfMark 15 = .ok (.iconst (-1), 1) := by decide +kernel
theorem dX1_placeOfMark_16 : decode cX1_placeOfMark 16 = .ok (.if_icmp .eq 7, 3) := by decide +kernel
theorem dX1_placeOfMark_19 : decode cX1_placeOfMark 19 = .ok (.iconst 1, 1) := by decide +kernel
theorem dX1_placeOfMark_20 : decode cX1_placeOfMark 20 = .ok (.goto 4, 3) := by decide +kernel
theorem dX1_placeOfMark_23 : decode cX1_placeOfMark 23 = .ok (.iconst 0, 1) := by decide +kernel
theorem dX1_placeOfMark_24 : decode cX1_placeOfMark 24 = .ok (.istore_n 2, 1) := by decide +kernel
theorem dX1_placeOfMark_25 : decode cX1_placeOfMark 25 = .ok (.iload_n 2, 1) := by decide +kernel
theorem dX1_placeOfMark_26 : decode cX1_placeOfMark 26 = .ok (.ifCond .eq 22, 3) := by decide +kernel
theorem dX1_placeOfMark_29 : decode cX1_placeOfMark 29 = .ok (.aload_n 0, 1) := by decide +kernel
theorem dX1_placeOfMark_30 : decode cX1_placeOfMark 30 = .ok (.getfield 46, 3) := by decide +kernel
theorem dX1_placeOfMark_33 : decode cX1_placeOfMark 33 = .ok (.iload_n 1, 1) := by decide +kernel
theorem dX1_placeOfMark_34 : decode cX1_placeOfMark 34 = .ok (.iaload, 1) := by decide +kernel
theorem dX1_placeOfMark_35 : decode cX1_placeOfMark 35 = .ok (.aload_n 0, 1) := by decide +kernel
theorem dX1_placeOfMark_36 : decode cX1_placeOfMark 36 = .ok (.getfield 12, 3) := by decide +kernel
theorem dX1_placeOfMark_39 : decode cX1_placeOfMark 39 = .ok (.getfield 82, 3) := by decide +kernel
theorem dX1_placeOfMark_42 : decode cX1_placeOfMark 42 = .ok (.invokestatic 200, 3) := by decide +kernel
theorem dX1_placeOfMark_45 : decode cX1_placeOfMark 45 = .ok (.goto 4, 3) := by decide +kernel
theorem dX1_placeOfMark_48 : decode cX1_placeOfMark 48 = .ok (.iconst (-1), 1) := by decide +kernel
theorem dX1_placeOfMark_49 : decode cX1_placeOfMark 49 = .ok (.ireturn, 1) := by decide +kernel
theorem dX1_aimByWord_0 : decode cX1_aimByWord 0 = .ok (.aload_n 0, 1) := by decide +kernel
theorem dX1_aimByWord_1 : decode cX1_aimByWord 1 = .ok (.getfield 12, 3) := by decide +kernel
theorem dX1_aimByWord_4 : decode cX1_aimByWord 4 = .ok (.getfield 82, 3) := by decide +kernel
theorem dX1_aimByWord_7 : decode cX1_aimByWord 7 = .ok (.ifCond .ne 5, 3) := by decide +kernel
theorem dX1_aimByWord_10 : decode cX1_aimByWord 10 = .ok (.iconst 0, 1) := by decide +kernel
theorem dX1_aimByWord_11 : decode cX1_aimByWord 11 = .ok (.ireturn, 1) := by decide +kernel
end
section
theorem dX1_aimByWord_12 : decode cX1_aimByWord 12 = .ok (.aload_n 0, 1) := by decide +kernel
theorem dX1_aimByWord_13 : decode cX1_aimByWord 13 = .ok (.getfield 12, 3) := by decide +kernel
theorem dX1_aimByWord_16 : decode cX1_aimByWord 16 = .ok (.aload_n 0, 1) := by decide +kernel
theorem dX1_aimByWord_17 : decode cX1_aimByWord 17 = .ok (.getfield 12, 3) := by decide +kernel
theorem dX1_aimByWord_20 : decode cX1_aimByWord 20 = .ok (.getfield 85, 3) := by decide +kernel
theorem dX1_aimByWord_23 : decode cX1_aimByWord 23 = .ok (.invokevirtual 206, 3) := by decide +kernel
theorem dX1_aimByWord_26 : decode cX1_aimByWord 26 = .ok (.istore_n 1, 1) := by decide +kernel
theorem dX1_aimByWord_27 : decode cX1_aimByWord 27 = .ok (.aload_n 0, 1) := by decide +kernel
theorem dX1_aimByWord_28 : decode cX1_aimByWord 28 = .ok (.aload_n 0, 1) := by decide +kernel
theorem dX1_aimByWord_29 : decode cX1_aimByWord 29 = .ok (.getfield 12, 3) := by decide +kernel
theorem dX1_aimByWord_32 : decode cX1_aimByWord 32 = .ok (.aload_n 0, 1) := by decide +kernel
theorem dX1_aimByWord_33 : decode cX1_aimByWord 33 = .ok (.getfield 12, 3) := by decide +kernel
theorem dX1_aimByWord_36 : decode cX1_aimByWord 36 = .ok (.getfield 85, 3) := by decide +kernel
theorem dX1_aimByWord_39 : decode cX1_aimByWord 39 = .ok (.iload_n 1, 1) := by decide +kernel
theorem dX1_aimByWord_40 : decode cX1_aimByWord 40 = .ok (.invokevirtual 209, 3) := by decide +kernel
theorem dX1_aimByWord_43 : decode cX1_aimByWord 43 = .ok (.putfield 178, 3) := by decide +kernel
theorem dX1_aimByWord_46 : decode cX1_aimByWord 46 = .ok (.aload_n 0, 1) := by decide +kernel
theorem dX1_aimByWord_47 : decode cX1_aimByWord 47 = .ok (.aload_n 0, 1) := by decide +kernel
theorem dX1_aimByWord_48 : decode cX1_aimByWord 48 = .ok (.getfield 12, 3) := by decide +kernel
theorem dX1_aimByWord_51 : decode cX1_aimByWord 51 = .ok (.aload_n 0, 1) := by decide +kernel
theorem dX1_aimByWord_52 : decode cX1_aimByWord 52 = .ok (.getfield 12, 3) := by decide +kernel
theorem dX1_aimByWord_55 : decode cX1_aimByWord 55 = .ok (.getfield 85, 3) := by decide +kernel
theorem dX1_aimByWord_58 : decode cX1_aimByWord 58 = .ok (.iload_n 1, 1) := by decide +kernel
theorem dX1_aimByWord_59 : decode cX1_aimByWord 59 = .ok (.invokevirtual 212, 3) := by decide +kernel
theorem dX1_aimByWord_62 : decode cX1_aimByWord 62 = .ok (.putfield 181, 3) := by decide +kernel
theorem dX1_aimByWord_65 : decode cX1_aimByWord 65 = .ok (.aload_n 0, 1) := by decide +kernel
theorem dX1_aimByWord_66 : decode cX1_aimByWord 66 = .ok (.getfield 31, 3) := by decide +kernel
theorem dX1_aimByWord_69 : decode cX1_aimByWord 69 = .ok (.getfield 215, 3) := by decide +kernel
theorem dX1_aimByWord_72 : decode cX1_aimByWord 72 = .ok (.ifCond .eq 19, 3) := by decide +kernel
theorem dX1_aimByWord_75 : decode cX1_aimByWord 75 = .ok (.aload_n 0, 1) := by decide +kernel
theorem dX1_aimByWord_76 : decode cX1_aimByWord 76 = .ok (.aload_n 0, 1) := by decide +kernel
theorem dX1_aimByWord_77 : decode cX1_aimByWord 77 = .ok (.getfield 12, 3) := by decide +kernel
theorem dX1_aimByWord_80 : decode cX1_aimByWord 80 = .ok (.aload_n 0, 1) := by decide +kernel
theorem dX1_aimByWord_81 : decode cX1_aimByWord 81 = .ok (.getfield 181, 3) := by decide +kernel
theorem dX1_aimByWord_84 : decode cX1_aimByWord 84 = .ok (.iconst 0, 1) := by decide +kernel
theorem dX1_aimByWord_85 : decode cX1_aimByWord 85 = .ok (.invokevirtual 212, 3) := by decide +kernel
theorem dX1_aimByWord_88 : decode cX1_aimByWord 88 = .ok (.putfield 181, 3) := by decide +kernel
theorem dX1_aimByWord_91 : decode cX1_aimByWord 91 = .ok (.iconst 1, 1) := by decide +kernel
theorem dX1_aimByWord_92 : decode cX1_aimByWord 92 = .ok (.ireturn, 1) := by decide +kernel
theorem dX1_aimByBrackets_0 : decode cX1_aimByBrackets 0 = .ok (.aload_n 0, 1) := by decide +kernel
theorem dX1_aimByBrackets_1 : decode cX1_aimByBrackets 1 = .ok (.getfield 12, 3) := by decide +kernel
theorem dX1_aimByBrackets_4 : decode cX1_aimByBrackets 4 = .ok (.aload_n 0, 1) := by decide +kernel
theorem dX1_aimByBrackets_5 : decode cX1_aimByBrackets 5 = .ok (.getfield 12, 3) := by decide +kernel
theorem dX1_aimByBrackets_8 : decode cX1_aimByBrackets 8 = .ok (.getfield 85, 3) := by decide +kernel
theorem dX1_aimByBrackets_11 : decode cX1_aimByBrackets 11 = .ok (.invokevirtual 218, 3) := by decide +kernel
theorem dX1_aimByBrackets_14 : decode cX1_aimByBrackets 14 = .ok (.istore_n 1, 1) := by decide +kernel
theorem dX1_aimByBrackets_15 : decode cX1_aimByBrackets 15 = .ok (.iload_n 1, 1) := by decide +kernel
theorem dX1_aimByBrackets_16 : decode cX1_aimByBrackets 16 = .ok (.iconst (-1), 1) := by decide +kernel
theorem dX1_aimByBrackets_17 : decode cX1_aimByBrackets 17 = .ok (.if_icmp .ne 7, 3) := by decide +kernel
theorem dX1_aimByBrackets_20 : decode cX1_aimByBrackets 20 = .ok (.iconst (-1), 1) := by decide +kernel
theorem dX1_aimByBrackets_21 : decode cX1_aimByBrackets 21 = .ok (.goto 11, 3) := by decide +kernel
theorem dX1_aimByBrackets_24 : decode cX1_aimByBrackets 24 = .ok (.aload_n 0, 1) := by decide +kernel
theorem dX1_aimByBrackets_25 : decode cX1_aimByBrackets 25 = .ok (.getfield 12, 3) := by decide +kernel
theorem dX1_aimByBrackets_28 : decode cX1_aimByBrackets 28 = .ok (.iload_n 1, 1) := by decide +kernel
theorem dX1_aimByBrackets_29 : decode cX1_aimByBrackets 29 = .ok (.invokevirtual 221, 3) := by decide +kernel
theorem dX1_aimByBrackets_32 : decode cX1_aimByBrackets 32 = .ok (.istore_n 2, 1) := by decide +kernel
theorem dX1_aimByBrackets_33 : decode cX1_aimByBrackets 33 = .ok (.iload_n 2, 1) := by decide +kernel
theorem dX1_aimByBrackets_34 : decode cX1_aimByBrackets 34 = .ok (.iconst (-1), 1) := by decide +kernel
theorem dX1_aimByBrackets_35 : decode cX1_aimByBrackets 35 = .ok (.if_icmp .ne 5, 3) := by decide +kernel
theorem dX1_aimByBrackets_38 : decode cX1_aimByBrackets 38 = .ok (.iconst 0, 1) := by decide +kernel
theorem dX1_aimByBrackets_39 : decode cX1_aimByBrackets 39 = .ok (.ireturn, 1) := by decide +kernel
theorem dX1_aimByBrackets_40 : decode cX1_aimByBrackets 40 = .ok (.aload_n 0, 1) := by decide +kernel
theorem dX1_aimByBrackets_41 : decode cX1_aimByBrackets 41 = .ok (.aload_n 0, 1) := by decide +kernel
theorem dX1_aimByBrackets_42 : decode cX1_aimByBrackets 42 = .ok (.getfield 31, 3) := by decide +kernel
theorem dX1_aimByBrackets_45 : decode cX1_aimByBrackets 45 = .ok (.getfield 215, 3) := by decide +kernel
theorem dX1_aimByBrackets_48 : decode cX1_aimByBrackets 48 = .ok (.ifCond .eq 7, 3) := by decide +kernel
theorem dX1_aimByBrackets_51 : decode cX1_aimByBrackets 51 = .ok (.iload_n 1, 1) := by decide +kernel
theorem dX1_aimByBrackets_52 : decode cX1_aimByBrackets 52 = .ok (.goto 6, 3) := by decide +kernel
theorem dX1_aimByBrackets_55 : decode cX1_aimByBrackets 55 = .ok (.iload_n 1, 1) := by decide +kernel
theorem dX1_aimByBrackets_56 : decode cX1_aimByBrackets 56 = .ok (.iconst 1, 1) := by decide +kernel
theorem dX1_aimByBrackets_57 : decode cX1_aimByBrackets 57 = .ok (.iadd, 1) := by decide +kernel
theorem dX1_aimByBrackets_58 : decode cX1_aimByBrackets 58 = .ok (.putfield 178, 3) := by decide +kernel
theorem dX1_aimByBrackets_61 : decode cX1_aimByBrackets 61 = .ok (.aload_n 0, 1) := by decide +kernel
theorem dX1_aimByBrackets_62 : decode cX1_aimByBrackets 62 = .ok (.aload_n 0, 1) := by decide +kernel
theorem dX1_aimByBrackets_63 : decode cX1_aimByBrackets 63 = .ok (.getfield 31, 3) := by decide +kernel
theorem dX1_aimByBrackets_66 : decode cX1_aimByBrackets 66 = .ok (.getfield 215, 3) := by decide +kernel
theorem dX1_aimByBrackets_69 : decode cX1_aimByBrackets 69 = .ok (.ifCond .eq 9, 3) := by decide +kernel
theorem dX1_aimByBrackets_72 : decode cX1_aimByBrackets 72 = .ok (.iload_n 2, 1) := by decide +kernel
theorem dX1_aimByBrackets_73 : decode cX1_aimByBrackets 73 = .ok (.iconst 1, 1) := by decide +kernel
theorem dX1_aimByBrackets_74 : decode cX1_aimByBrackets 74 = .ok (.iadd, 1) := by decide +kernel
theorem dX1_aimByBrackets_75 : decode cX1_aimByBrackets 75 = .ok (.goto 4, 3) := by decide +kernel
theorem dX1_aimByBrackets_78 : decode cX1_aimByBrackets 78 = .ok (.iload_n 2, 1) := by decide +kernel
theorem dX1_aimByBrackets_79 : decode cX1_aimByBrackets 79 = .ok (.putfield 181, 3) := by decide +kernel
theorem dX1_aimByBrackets_82 : decode cX1_aimByBrackets 82 = .ok (.iconst 1, 1) := by decide +kernel
theorem dX1_aimByBrackets_83 : decode cX1_aimByBrackets 83 = .ok (.ireturn, 1) := by decide +kernel
theorem dX1_aimByLetters_0 : decode cX1_aimByLetters 0 = .ok (.aload_n 0, 1) := by decide +kernel
theorem dX1_aimByLetters_1 : decode cX1_aimByLetters 1 = .ok (.aload_n 0, 1) := by decide +kernel
theorem dX1_aimByLetters_2 : decode cX1_aimByLetters 2 = .ok (.getfield 12, 3) := by decide +kernel
theorem dX1_aimByLetters_5 : decode cX1_aimByLetters 5 = .ok (.getfield 85, 3) := by decide +kernel
theorem dX1_aimByLetters_8 : decode cX1_aimByLetters 8 = .ok (.putfield 178, 3) := by decide +kernel
theorem dX1_aimByLetters_11 : decode cX1_aimByLetters 11 = .ok (.aload_n 0, 1) := by decide +kernel
theorem dX1_aimByLetters_12 : decode cX1_aimByLetters 12 = .ok (.aload_n 0, 1) := by decide +kernel
theorem dX1_aimByLetters_13 : decode cX1_aimByLetters 13 = .ok (.getfield 12, 3) := by decide +kernel
theorem dX1_aimByLetters_16 : decode cX1_aimByLetters 16 = .ok (.getfield 82, 3) := by decide +kernel
theorem dX1_aimByLetters_19 : decode cX1_aimByLetters 19 = .ok (.aload_n 0, 1) := by decide +kernel
theorem dX1_aimByLetters_20 : decode cX1_aimByLetters 20 = .ok (.getfield 178, 3) := by decide +kernel
theorem dX1_aimByLetters_23 : decode cX1_aimByLetters 23 = .ok (.iload_n 1, 1) := by decide +kernel
theorem dX1_aimByLetters_24 : decode cX1_aimByLetters 24 = .ok (.iadd, 1) := by decide +kernel
theorem dX1_aimByLetters_25 : decode cX1_aimByLetters 25 = .ok (.invokestatic 200, 3) := by decide +kernel
theorem dX1_aimByLetters_28 : decode cX1_aimByLetters 28 = .ok (.putfield 181, 3) := by decide +kernel
theorem dX1_aimByLetters_31 : decode cX1_aimByLetters 31 = .ok (.aload_n 0, 1) := by decide +kernel
theorem dX1_aimByLetters_32 : decode cX1_aimByLetters 32 = .ok (.getfield 12, 3) := by decide +kernel
theorem dX1_aimByLetters_35 : decode cX1_aimByLetters 35 = .ok (.getfield 82, 3) := by decide +kernel
theorem dX1_aimByLetters_38 : decode cX1_aimByLetters 38 = .ok (.ifCond .le 7, 3) := by decide +kernel
theorem dX1_aimByLetters_41 : decode cX1_aimByLetters 41 = .ok (.iconst 1, 1) := by decide +kernel
theorem dX1_aimByLetters_42 : decode cX1_aimByLetters 42 = .ok (.goto 4, 3) := by decide +kernel
theorem dX1_aimByLetters_45 : decode cX1_aimByLetters 45 = .ok (.iconst 0, 1) := by decide +kernel
theorem dX1_aimByLetters_46 : decode cX1_aimByLetters 46 = .ok (.ireturn, 1) := by decide +kernel
theorem dX1_perform_0 : decode cX1_perform 0 = .ok (.aload_n 0, 1) := by decide +kernel
theorem dX1_perform_1 : decode cX1_perform 1 = .ok (.getfield 31, 3) := by decide +kernel
theorem dX1_perform_4 : decode cX1_perform 4 = .ok (.getfield 224, 3) := by decide +kernel
theorem dX1_perform_7 : decode cX1_perform 7 = .ok (.lookupswitch 307 #[(0, 121), (65, 262), (73, 256), (80, 207), (97, 232), (99, 156), (100, 134), (105, 220), (109, 295), (112, 182), (114, 170), (117, 274), (121, 139), (126, 176)], 121) := by decide +kernel
theorem dX1_perform_128 : decode cX1_perform 128 = .ok (.aload_n 0, 1) := by decide +kernel
theorem dX1_perform_129 : decode cX1_perform 129 = .ok (.getfield 12, 3) := by decide +kernel
theorem dX1_perform_132 : decode cX1_perform 132 = .ok (.aload_n 0, 1) := by decide +kernel
theorem dX1_perform_133 : decode cX1_perform 133 = .ok (.getfield 187, 3) := by decide +kernel
theorem dX1_perform_136 : decode cX1_perform 136 = .ok (.invokevirtual 227, 3) := by decide +kernel
theorem dX1_perform_139 : decode cX1_perform 139 = .ok (.iconst 1, 1) := by decide +kernel
theorem dX1_perform_140 : decode cX1_perform 140 = .ok (.ireturn, 1) := by decide +kernel
theorem dX1_perform_141 : decode cX1_perform 141 = .ok (.aload_n 0, 1) := by decide +kernel
theorem dX1_perform_142 : decode cX1_perform 142 = .ok (.invokevirtual 230, 3) := by decide +kernel
theorem dX1_perform_145 : decode cX1_perform 145 = .ok (.ireturn, 1) := by decide +kernel
theorem dX1_perform_146 : decode cX1_perform 146 = .ok (.aload_n 0, 1) := by decide +kernel
theorem dX1_perform_147 : decode cX1_perform 147 = .ok (.invokevirtual 233, 3) := by decide +kernel
theorem dX1_perform_150 : decode cX1_perform 150 = .ok (.aload_n 0, 1) := by decide +kernel
theorem dX1_perform_151 : decode cX1_perform 151 = .ok (.getfield 12, 3) := by decide +kernel
theorem dX1_perform_154 : decode cX1_perform 154 = .ok (.aload_n 0, 1) := by decide +kernel
theorem dX1_perform_155 : decode cX1_perform 155 = .ok (.getfield 178, 3) := by decide +kernel
theorem dX1_perform_158 : decode cX1_perform 158 = .ok (.invokevirtual 227, 3) := by decide +kernel
theorem dX1_perform_161 : decode cX1_perform 161 = .ok (.iconst 1, 1) := by decide +kernel
theorem dX1_perform_162 : decode cX1_perform 162 = .ok (.ireturn, 1) := by decide +kernel
theorem dX1_perform_163 : decode cX1_perform 163 = .ok (.aload_n 0, 1) := by decide +kernel
theorem dX1_perform_164 : decode cX1_perform 164 = .ok (.invokevirtual 230, 3) := by decide +kernel
theorem dX1_perform_167 : decode cX1_perform 167 = .ok (.pop, 1) := by decide +kernel
theorem dX1_perform_168 : decode cX1_perform 168 = .ok (.aload_n 0, 1) := by decide +kernel
theorem dX1_perform_169 : decode cX1_perform 169 = .ok (.aload_n 0, 1) := by decide +kernel
theorem dX1_perform_170 : decode cX1_perform 170 = .ok (.getfield 178, 3) := by decide +kernel
theorem dX1_perform_173 : decode cX1_perform 173 = .ok (.invokevirtual 236, 3) := by decide +kernel
theorem dX1_perform_176 : decode cX1_perform 176 = .ok (.ireturn, 1) := by decide +kernel
theorem dX1_perform_177 : decode cX1_perform 177 = .ok (.aload_n 0, 1) := by decide +kernel
theorem dX1_perform_178 : decode cX1_perform 178 = .ok (.iload_n 1, 1) := by decide +kernel
theorem dX1_perform_179 : decode cX1_perform 179 = .ok (.invokevirtual 239, 3) := by decide +kernel
theorem dX1_perform_182 : decode cX1_perform 182 = .ok (.ireturn, 1) := by decide +kernel
theorem dX1_perform_183 : decode cX1_perform 183 = .ok (.aload_n 0, 1) := by decide +kernel
theorem dX1_perform_184 : decode cX1_perform 184 = .ok (.iload_n 1, 1) := by decide +kernel
theorem dX1_perform_185 : decode cX1_perform 185 = .ok (.invokevirtual 242, 3) := by decide +kernel
theorem dX1_perform_188 : decode cX1_perform 188 = .ok (.ireturn, 1) := by decide +kernel
theorem dX1_perform_189 : decode cX1_perform 189 = .ok (.aload_n 0, 1) := by decide +kernel
theorem dX1_perform_190 : decode cX1_perform 190 = .ok (.iload_n 1, 1) := by decide +kernel
theorem dX1_perform_191 : decode cX1_perform 191 = .ok (.aload_n 0, 1) := by decide +kernel
theorem dX1_perform_192 : decode cX1_perform 192 = .ok (.getfield 12, 3) := by decide +kernel
theorem dX1_perform_195 : decode cX1_perform 195 = .ok (.getfield 85, 3) := by decide +kernel
theorem dX1_perform_198 : decode cX1_perform 198 = .ok (.iconst 1, 1) := by decide +kernel
theorem dX1_perform_199 : decode cX1_perform 199 = .ok (.iadd, 1) := by decide +kernel
theorem dX1_perform_200 : decode cX1_perform 200 = .ok (.aload_n 0, 1) := by decide +kernel
theorem dX1_perform_201 : decode cX1_perform 201 = .ok (.getfield 12, 3) := by decide +kernel
theorem dX1_perform_204 : decode cX1_perform 204 = .ok (.getfield 82, 3) := by decide +kernel
theorem dX1_perform_207 : decode cX1_perform 207 = .ok (.invokestatic 200, 3) := by decide +kernel
theorem dX1_perform_210 : decode cX1_perform 210 = .ok (.invokevirtual 245, 3) := by decide +kernel
theorem dX1_perform_213 : decode cX1_perform 213 = .ok (.ireturn, 1) := by decide +kernel
theorem dX1_perform_214 : decode cX1_perform 214 = .ok (.aload_n 0, 1) := by decide +kernel
theorem dX1_perform_215 : decode cX1_perform 215 = .ok (.iload_n 1, 1) := by decide +kernel
theorem dX1_perform_216 : decode cX1_perform 216 = .ok (.aload_n 0, 1) := by decide +kernel
theorem dX1_perform_217 : decode cX1_perform 217 = .ok (.getfield 12, 3) := by decide +kernel
theorem dX1_perform_220 : decode cX1_perform 220 = .ok (.getfield 85, 3) := by decide +kernel
theorem dX1_perform_223 : decode cX1_perform 223 = .ok (.invokevirtual 245, 3) := by decide +kernel
theorem dX1_perform_226 : decode cX1_perform 226 = .ok (.ireturn, 1) := by decide +kernel
theorem dX1_perform_227 : decode cX1_perform 227 = .ok (.aload_n 0, 1) := by decide +kernel
theorem dX1_perform_228 : decode cX1_perform 228 = .ok (.aload_n 0, 1) := by decide +kernel
theorem dX1_perform_229 : decode cX1_perform 229 = .ok (.getfield 12, 3) := by decide +kernel
theorem dX1_perform_232 : decode cX1_perform 232 = .ok (.getfield 85, 3) := by decide +kernel
theorem dX1_perform_235 : decode cX1_perform 235 = .ok (.invokevirtual 236, 3) := by decide +kernel
theorem dX1_perform_238 : decode cX1_perform 238 = .ok (.ireturn, 1) := by decide +kernel
theorem dX1_perform_239 : decode cX1_perform 239 = .ok (.aload_n 0, 1) := by decide +kernel
theorem dX1_perform_240 : decode cX1_perform 240 = .ok (.aload_n 0, 1) := by decide +kernel
theorem dX1_perform_241 : decode cX1_perform 241 = .ok (.getfield 12, 3) := by decide +kernel
theorem dX1_perform_244 : decode cX1_perform 244 = .ok (.getfield 85, 3) := by decide +kernel
theorem dX1_perform_247 : decode cX1_perform 247 = .ok (.iconst 1, 1) := by decide +kernel
theorem dX1_perform_248 : decode cX1_perform 248 = .ok (.iadd, 1) := by decide +kernel
theorem dX1_perform_249 : decode cX1_perform 249 = .ok (.aload_n 0, 1) := by decide +kernel
theorem dX1_perform_250 : decode cX1_perform 250 = .ok (.getfield 12, 3) := by decide +kernel
theorem dX1_perform_253 : decode cX1_perform 253 = .ok (.getfield 82, 3) := by decide +kernel
theorem dX1_perform_256 : decode cX1_perform 256 = .ok (.invokestatic 200, 3) := by decide +kernel
theorem dX1_perform_259 : decode cX1_perform 259 = .ok (.invokevirtual 236, 3) := by decide +kernel
theorem dX1_perform_262 : decode cX1_perform 262 = .ok (.ireturn, 1) := by decide +kernel
theorem dX1_perform_263 : decode cX1_perform 263 = .ok (.aload_n 0, 1) := by decide +kernel
theorem dX1_perform_264 : decode cX1_perform 264 = .ok (.iconst 0, 1) := by decide +kernel
theorem dX1_perform_265 : decode cX1_perform 265 = .ok (.invokevirtual 236, 3) := by decide +kernel
theorem dX1_perform_268 : decode cX1_perform 268 = .ok (.ireturn, 1) := by decide +kernel
theorem dX1_perform_269 : decode cX1_perform 269 = .ok (.aload_n 0, 1) := by decide +kernel
theorem dX1_perform_270 : decode cX1_perform 270 = .ok (.aload_n 0, 1) := by decide +kernel
theorem dX1_perform_271 : decode cX1_perform 271 = .ok (.getfield 12, 3) := by decide +kernel
theorem dX1_perform_274 : decode cX1_perform 274 = .ok (.getfield 82, 3) := by decide +kernel
theorem dX1_perform_277 : decode cX1_perform 277 = .ok (.invokevirtual 236, 3) := by decide +kernel
theorem dX1_perform_280 : decode cX1_perform 280 = .ok (.ireturn, 1) := by decide +kernel
theorem dX1_perform_281 : decode cX1_perform 281 = .ok (.aload_n 0, 1) := by decide +kernel
theorem dX1_perform_282 : decode cX1_perform 282 = .ok (.getfield 24, 3) := by decide +kernel
theorem dX1_perform_285 : decode cX1_perform 285 = .ok (.aload_n 0, 1) := by decide +kernel
theorem dX1_perform_286 : decode cX1_perform 286 = .ok (.getfield 12, 3) := by decide +kernel
theorem dX1_perform_289 : decode cX1_perform 289 = .ok (.iload_n 1, 1) := by decide +kernel
theorem dX1_perform_290 : decode cX1_perform 290 = .ok (.invokevirtual 248, 3) := by decide +kernel
theorem dX1_perform_293 : decode cX1_perform 293 = .ok (.ifCond .eq 7, 3) := by decide +kernel
theorem dX1_perform_296 : decode cX1_perform 296 = .ok (.iconst 1, 1) := by decide +kernel
theorem dX1_perform_297 : decode cX1_perform 297 = .ok (.goto 4, 3) := by decide +kernel
theorem dX1_perform_300 : decode cX1_perform 300 = .ok (.iconst 0, 1) := by decide +kernel
theorem dX1_perform_301 : decode cX1_perform 301 = .ok (.ireturn, 1) := by decide +kernel
theorem dX1_perform_302 : decode cX1_perform 302 = .ok (.aload_n 0, 1) := by decide +kernel
theorem dX1_perform_303 : decode cX1_perform 303 = .ok (.aload_n 0, 1) := by decide +kernel
theorem dX1_perform_304 : decode cX1_perform 304 = .ok (.getfield 31, 3) := by decide +kernel
theorem dX1_perform_307 : decode cX1_perform 307 = .ok (.getfield 161, 3) := by decide +kernel
theorem dX1_perform_310 : decode cX1_perform 310 = .ok (.invokevirtual 252, 3) := by decide +kernel
theorem dX1_perform_313 : decode cX1_perform 313 = .ok (.ireturn, 1) := by decide +kernel
theorem dX1_perform_314 : decode cX1_perform 314 = .ok (.iconst 0, 1) := by decide +kernel
theorem dX1_perform_315 : decode cX1_perform 315 = .ok (.ireturn, 1) := by decide +kernel
theorem dX1_storeRange_0 : decode cX1_storeRange 0 = .ok (.aload_n 0, 1) := by decide +kernel
theorem dX1_storeRange_1 : decode cX1_storeRange 1 = .ok (.getfield 178, 3) := by decide +kernel
theorem dX1_storeRange_4 : decode cX1_storeRange 4 = .ok (.aload_n 0, 1) := by decide +kernel
theorem dX1_storeRange_5 : decode cX1_storeRange 5 = .ok (.getfield 181, 3) := by decide +kernel
theorem dX1_storeRange_8 : decode cX1_storeRange 8 = .ok (.if_icmp .ge 39, 3) := by decide +kernel
theorem dX1_storeRange_11 : decode cX1_storeRange 11 = .ok (.aload_n 0, 1) := by decide +kernel
theorem dX1_storeRange_12 : decode cX1_storeRange 12 = .ok (.aload_n 0, 1) := by decide +kernel
theorem dX1_storeRange_13 : decode cX1_storeRange 13 = .ok (.getfield 181, 3) := by decide +kernel
theorem dX1_storeRange_16 : decode cX1_storeRange 16 = .ok (.aload_n 0, 1) := by decide +kernel
theorem dX1_storeRange_17 : decode cX1_storeRange 17 = .ok (.getfield 178, 3) := by decide +kernel
theorem dX1_storeRange_20 : decode cX1_storeRange 20 = .ok (.isub, 1) := by decide +kernel
theorem dX1_storeRange_21 : decode cX1_storeRange 21 = .ok (.putfield 71, 3) := by decide +kernel
theorem dX1_storeRange_24 : decode cX1_storeRange 24 = .ok (.aload_n 0, 1) := by decide +kernel
theorem dX1_storeRange_25 : decode cX1_storeRange 25 = .ok (.getfield 12, 3) := by decide +kernel
theorem dX1_storeRange_28 : decode cX1_storeRange 28 = .ok (.getfield 79, 3) := by decide +kernel
theorem dX1_storeRange_31 : decode cX1_storeRange 31 = .ok (.aload_n 0, 1) := by decide +kernel
theorem dX1_storeRange_32 : decode cX1_storeRange 32 = .ok (.getfield 178, 3) := by decide +kernel
theorem dX1_storeRange_35 : decode cX1_storeRange 35 = .ok (.aload_n 0, 1) := by decide +kernel
theorem dX1_storeRange_36 : decode cX1_storeRange 36 = .ok (.getfield 42, 3) := by decide +kernel
theorem dX1_storeRange_39 : decode cX1_storeRange 39 = .ok (.iconst 0, 1) := by decide +kernel
theorem dX1_storeRange_40 : decode cX1_storeRange 40 = .ok (.aload_n 0, 1) := by decide +kernel
theorem dX1_storeRange_41 : decode cX1_storeRange 41 = .ok (.getfield 71, 3) := by decide +kernel
theorem dX1_storeRange_44 : decode cX1_storeRange 44 = .ok (.invokestatic 65, 3) := by decide +kernel
theorem dX1_storeRange_47 : decode cX1_storeRange 47 = .ok (.return_, 1) := by decide +kernel
theorem dX1_cutRange_0 : decode cX1_cutRange 0 = .ok (.aload_n 0, 1) := by decide +kernel
theorem dX1_cutRange_1 : decode cX1_cutRange 1 = .ok (.invokevirtual 233, 3) := by decide +kernel
theorem dX1_cutRange_4 : decode cX1_cutRange 4 = .ok (.aload_n 0, 1) := by decide +kernel
theorem dX1_cutRange_5 : decode cX1_cutRange 5 = .ok (.getfield 178, 3) := by decide +kernel
theorem dX1_cutRange_8 : decode cX1_cutRange 8 = .ok (.aload_n 0, 1) := by decide +kernel
theorem dX1_cutRange_9 : decode cX1_cutRange 9 = .ok (.getfield 181, 3) := by decide +kernel
theorem dX1_cutRange_12 : decode cX1_cutRange 12 = .ok (.if_icmp .ge 7, 3) := by decide +kernel
theorem dX1_cutRange_15 : decode cX1_cutRange 15 = .ok (.iconst 1, 1) := by decide +kernel
theorem dX1_cutRange_16 : decode cX1_cutRange 16 = .ok (.goto 4, 3) := by decide +kernel
theorem dX1_cutRange_19 : decode cX1_cutRange 19 = .ok (.iconst 0, 1) := by decide +kernel
theorem dX1_cutRange_20 : decode cX1_cutRange 20 = .ok (.istore_n 1, 1) := by decide +kernel
theorem dX1_cutRange_21 : decode cX1_cutRange 21 = .ok (.iload_n 1, 1) := by decide +kernel
theorem dX1_cutRange_22 : decode cX1_cutRange 22 = .ok (.ifCond .eq 18, 3) := by decide +kernel
theorem dX1_cutRange_25 : decode cX1_cutRange 25 = .ok (.aload_n 0, 1) := by decide +kernel
theorem dX1_cutRange_26 : decode cX1_cutRange 26 = .ok (.getfield 12, 3) := by decide +kernel
theorem dX1_cutRange_29 : decode cX1_cutRange 29 = .ok (.aload_n 0, 1) := by decide +kernel
theorem dX1_cutRange_30 : decode cX1_cutRange 30 = .ok (.getfield 178, 3) := by decide +kernel
theorem dX1_cutRange_33 : decode cX1_cutRange 33 = .ok (.aload_n 0, 1) := by decide +kernel
theorem dX1_cutRange_34 : decode cX1_cutRange 34 = .ok (.getfield 181, 3) := by decide +kernel
theorem dX1_cutRange_37 : decode cX1_cutRange 37 = .ok (.invokevirtual 255, 3) := by decide +kernel
theorem dX1_cutRange_40 : decode cX1_cutRange 40 = .ok (.aload_n 0, 1) := by decide +kernel
theorem dX1_cutRange_41 : decode cX1_cutRange 41 = .ok (.getfield 12, 3) := by decide +kernel
theorem dX1_cutRange_44 : decode cX1_cutRange 44 = .ok (.aload_n 0, 1) := by decide +kernel
theorem dX1_cutRange_45 : decode cX1_cutRange 45 = .ok (.getfield 178, 3) := by decide +kernel
theorem dX1_cutRange_48 : decode cX1_cutRange 48 = .ok (.invokevirtual 227, 3) := by decide +kernel
theorem dX1_cutRange_51 : decode cX1_cutRange 51 = .ok (.iload_n 1, 1) := by decide +kernel
theorem dX1_cutRange_52 : decode cX1_cutRange 52 = .ok (.ifCond .eq 7, 3) := by decide +kernel
theorem dX1_cutRange_55 : decode cX1_cutRange 55 = .ok (.iconst 2, 1) := by decide +kernel
theorem dX1_cutRange_56 : decode cX1_cutRange 56 = .ok (.goto 4, 3) := by decide +kernel
theorem dX1_cutRange_59 : decode cX1_cutRange 59 = .ok (.iconst 1, 1) := by decide +kernel
theorem dX1_cutRange_60 : decode cX1_cutRange 60 = .ok (.ireturn, 1) := by decide +kernel
theorem dX1_overwrite_0 : decode cX1_overwrite 0 = .ok (.aload_n 0, 1) := by decide +kernel
theorem dX1_overwrite_1 : decode cX1_overwrite 1 = .ok (.getfield 12, 3) := by decide +kernel
theorem dX1_overwrite_4 : decode cX1_overwrite 4 = .ok (.getfield 85, 3) := by decide +kernel
theorem dX1_overwrite_7 : decode cX1_overwrite 7 = .ok (.iload_n 1, 1) := by decide +kernel
theorem dX1_overwrite_8 : decode cX1_overwrite 8 = .ok (.iadd, 1) := by decide +kernel
theorem dX1_overwrite_9 : decode cX1_overwrite 9 = .ok (.istore_n 2, 1) := by decide +kernel
theorem dX1_overwrite_10 : decode cX1_overwrite 10 = .ok (.iload_n 2, 1) := by decide +kernel
theorem dX1_overwrite_11 : decode cX1_overwrite 11 = .ok (.aload_n 0, 1) := by decide +kernel
theorem dX1_overwrite_12 : decode cX1_overwrite 12 = .ok (.getfield 12, 3) := by decide +kernel
theorem dX1_overwrite_15 : decode cX1_overwrite 15 = .ok (.getfield 82, 3) := by decide +kernel
theorem dX1_overwrite_18 : decode cX1_overwrite 18 = .ok (.if_icmp .le 5, 3) := by decide +kernel
theorem dX1_overwrite_21 : decode cX1_overwrite 21 = .ok (.iconst 0, 1) := by decide +kernel
theorem dX1_overwrite_22 : decode cX1_overwrite 22 = .ok (.ireturn, 1) := by decide +kernel
theorem dX1_overwrite_23 : decode cX1_overwrite 23 = .ok (.aload_n 0, 1) := by decide +kernel
theorem dX1_overwrite_24 : decode cX1_overwrite 24 = .ok (.getfield 12, 3) := by decide +kernel
theorem dX1_overwrite_27 : decode cX1_overwrite 27 = .ok (.getfield 85, 3) := by decide +kernel
theorem dX1_overwrite_30 : decode cX1_overwrite 30 = .ok (.istore_n 3, 1) := by decide +kernel
theorem dX1_overwrite_31 : decode cX1_overwrite 31 = .ok (.iload_n 3, 1) := by decide +kernel
theorem dX1_overwrite_32 : decode cX1_overwrite 32 = .ok (.iload_n 2, 1) := by decide +kernel
theorem dX1_overwrite_33 : decode cX1_overwrite 33 = .ok (.if_icmp .ge 25, 3) := by decide +kernel
theorem dX1_overwrite_36 : decode cX1_overwrite 36 = .ok (.aload_n 0, 1) := by decide +kernel
theorem dX1_overwrite_37 : decode cX1_overwrite 37 = .ok (.getfield 12, 3) := by decide +kernel
theorem dX1_overwrite_40 : decode cX1_overwrite 40 = .ok (.getfield 79, 3) := by decide +kernel
theorem dX1_overwrite_43 : decode cX1_overwrite 43 = .ok (.iload_n 3, 1) := by decide +kernel
theorem dX1_overwrite_44 : decode cX1_overwrite 44 = .ok (.aload_n 0, 1) := by decide +kernel
theorem dX1_overwrite_45 : decode cX1_overwrite 45 = .ok (.getfield 31, 3) := by decide +kernel
theorem dX1_overwrite_48 : decode cX1_overwrite 48 = .ok (.getfield 161, 3) := by decide +kernel
theorem dX1_overwrite_51 : decode cX1_overwrite 51 = .ok (.iastore, 1) := by decide +kernel
theorem dX1_overwrite_52 : decode cX1_overwrite 52 = .ok (.iinc 3 1, 3) := by decide +kernel
theorem dX1_overwrite_55 : decode cX1_overwrite 55 = .ok (.goto (-24), 3) := by decide +kernel
theorem dX1_overwrite_58 : decode cX1_overwrite 58 = .ok (.aload_n 0, 1) := by decide +kernel
theorem dX1_overwrite_59 : decode cX1_overwrite 59 = .ok (.getfield 12, 3) := by decide +kernel
theorem dX1_overwrite_62 : decode cX1_overwrite 62 = .ok (.iload_n 2, 1) := by decide +kernel
theorem dX1_overwrite_63 : decode cX1_overwrite 63 = .ok (.iconst 1, 1) := by decide +kernel
theorem dX1_overwrite_64 : decode cX1_overwrite 64 = .ok (.isub, 1) := by decide +kernel
theorem dX1_overwrite_65 : decode cX1_overwrite 65 = .ok (.putfield 85, 3) := by decide +kernel
theorem dX1_overwrite_68 : decode cX1_overwrite 68 = .ok (.iconst 2, 1) := by decide +kernel
theorem dX1_overwrite_69 : decode cX1_overwrite 69 = .ok (.ireturn, 1) := by decide +kernel
theorem dX1_swapCases_0 : decode cX1_swapCases 0 = .ok (.aload_n 0, 1) := by decide +kernel
theorem dX1_swapCases_1 : decode cX1_swapCases 1 = .ok (.getfield 12, 3) := by decide +kernel
theorem dX1_swapCases_4 : decode cX1_swapCases 4 = .ok (.getfield 82, 3) := by decide +kernel
theorem dX1_swapCases_7 : decode cX1_swapCases 7 = .ok (.ifCond .ne 5, 3) := by decide +kernel
theorem dX1_swapCases_10 : decode cX1_swapCases 10 = .ok (.iconst 0, 1) := by decide +kernel
theorem dX1_swapCases_11 : decode cX1_swapCases 11 = .ok (.ireturn, 1) := by decide +kernel
theorem dX1_swapCases_12 : decode cX1_swapCases 12 = .ok (.aload_n 0, 1) := by decide +kernel
theorem dX1_swapCases_13 : decode cX1_swapCases 13 = .ok (.getfield 12, 3) := by decide +kernel
theorem dX1_swapCases_16 : decode cX1_swapCases 16 = .ok (.getfield 82, 3) := by decide +kernel
theorem dX1_swapCases_19 : decode cX1_swapCases 19 = .ok (.aload_n 0, 1) := by decide +kernel
theorem dX1_swapCases_20 : decode cX1_swapCases 20 = .ok (.getfield 12, 3) := by decide +kernel
theorem dX1_swapCases_23 : decode cX1_swapCases 23 = .ok (.getfield 85, 3) := by decide +kernel
theorem dX1_swapCases_26 : decode cX1_swapCases 26 = .ok (.iload_n 1, 1) := by decide +kernel
theorem dX1_swapCases_27 : decode cX1_swapCases 27 = .ok (.iadd, 1) := by decide +kernel
theorem dX1_swapCases_28 : decode cX1_swapCases 28 = .ok (.invokestatic 200, 3) := by decide +kernel
theorem dX1_swapCases_31 : decode cX1_swapCases 31 = .ok (.istore_n 2, 1) := by decide +kernel
theorem dX1_swapCases_32 : decode cX1_swapCases 32 = .ok (.aload_n 0, 1) := by decide +kernel
theorem dX1_swapCases_33 : decode cX1_swapCases 33 = .ok (.getfield 12, 3) := by decide +kernel
theorem dX1_swapCases_36 : decode cX1_swapCases 36 = .ok (.getfield 85, 3) := by decide +kernel
theorem dX1_swapCases_39 : decode cX1_swapCases 39 = .ok (.istore_n 3, 1) := by decide +kernel
theorem dX1_swapCases_40 : decode cX1_swapCases 40 = .ok (.iload_n 3, 1) := by decide +kernel
theorem dX1_swapCases_41 : decode cX1_swapCases 41 = .ok (.iload_n 2, 1) := by decide +kernel
theorem dX1_swapCases_42 : decode cX1_swapCases 42 = .ok (.if_icmp .ge 17, 3) := by decide +kernel
theorem dX1_swapCases_45 : decode cX1_swapCases 45 = .ok (.aload_n 0, 1) := by decide +kernel
theorem dX1_swapCases_46 : decode cX1_swapCases 46 = .ok (.getfield 12, 3) := by decide +kernel
theorem dX1_swapCases_49 : decode cX1_swapCases 49 = .ok (.iload_n 3, 1) := by decide +kernel
theorem dX1_swapCases_50 : decode cX1_swapCases 50 = .ok (.invokevirtual 258, 3) := by decide +kernel
theorem dX1_swapCases_53 : decode cX1_swapCases 53 = .ok (.iinc 3 1, 3) := by decide +kernel
theorem dX1_swapCases_56 : decode cX1_swapCases 56 = .ok (.goto (-16), 3) := by decide +kernel
theorem dX1_swapCases_59 : decode cX1_swapCases 59 = .ok (.aload_n 0, 1) := by decide +kernel
theorem dX1_swapCases_60 : decode cX1_swapCases 60 = .ok (.getfield 12, 3) := by decide +kernel
theorem dX1_swapCases_63 : decode cX1_swapCases 63 = .ok (.iload_n 2, 1) := by decide +kernel
theorem dX1_swapCases_64 : decode cX1_swapCases 64 = .ok (.invokevirtual 227, 3) := by decide +kernel
theorem dX1_swapCases_67 : decode cX1_swapCases 67 = .ok (.iconst 2, 1) := by decide +kernel
theorem dX1_swapCases_68 : decode cX1_swapCases 68 = .ok (.ireturn, 1) := by decide +kernel
theorem dX1_putIn_0 : decode cX1_putIn 0 = .ok (.iload_n 1, 1) := by decide +kernel
theorem dX1_putIn_1 : decode cX1_putIn 1 = .ok (.aload_n 0, 1) := by decide +kernel
theorem dX1_putIn_2 : decode cX1_putIn 2 = .ok (.getfield 71, 3) := by decide +kernel
theorem dX1_putIn_5 : decode cX1_putIn 5 = .ok (.imul, 1) := by decide +kernel
theorem dX1_putIn_6 : decode cX1_putIn 6 = .ok (.istore_n 3, 1) := by decide +kernel
theorem dX1_putIn_7 : decode cX1_putIn 7 = .ok (.iload_n 3, 1) := by decide +kernel
theorem dX1_putIn_8 : decode cX1_putIn 8 = .ok (.ifCond .eq 17, 3) := by decide +kernel
theorem dX1_putIn_11 : decode cX1_putIn 11 = .ok (.iload_n 3, 1) := by decide +kernel
theorem dX1_putIn_12 : decode cX1_putIn 12 = .ok (.bipush 60, 2) := by decide +kernel
theorem dX1_putIn_14 : decode cX1_putIn 14 = .ok (.aload_n 0, 1) := by decide +kernel
theorem dX1_putIn_15 : decode cX1_putIn 15 = .ok (.getfield 12, 3) := by decide +kernel
theorem dX1_putIn_18 : decode cX1_putIn 18 = .ok (.getfield 82, 3) := by decide +kernel
theorem dX1_putIn_21 : decode cX1_putIn 21 = .ok (.isub, 1) := by decide +kernel
theorem dX1_putIn_22 : decode cX1_putIn 22 = .ok (.if_icmp .le 5, 3) := by decide +kernel
theorem dX1_putIn_25 : decode cX1_putIn 25 = .ok (.iconst 0, 1) := by decide +kernel
theorem dX1_putIn_26 : decode cX1_putIn 26 = .ok (.ireturn, 1) := by decide +kernel
theorem dX1_putIn_27 : decode cX1_putIn 27 = .ok (.aload_n 0, 1) := by decide +kernel
theorem dX1_putIn_28 : decode cX1_putIn 28 = .ok (.getfield 12, 3) := by decide +kernel
theorem dX1_putIn_31 : decode cX1_putIn 31 = .ok (.iload_n 2, 1) := by decide +kernel
theorem dX1_putIn_32 : decode cX1_putIn 32 = .ok (.iload_n 3, 1) := by decide +kernel
theorem dX1_putIn_33 : decode cX1_putIn 33 = .ok (.invokevirtual 148, 3) := by decide +kernel
theorem dX1_putIn_36 : decode cX1_putIn 36 = .ok (.iconst 0, 1) := by decide +kernel
theorem dX1_putIn_37 : decode cX1_putIn 37 = .ok (.istore 4, 2) := by decide +kernel
theorem dX1_putIn_39 : decode cX1_putIn 39 = .ok (.iload 4, 2) := by decide +kernel
theorem dX1_putIn_41 : decode cX1_putIn 41 = .ok (.iload_n 1, 1) := by decide +kernel
theorem dX1_putIn_42 : decode cX1_putIn 42 = .ok (.if_icmp .ge 37, 3) := by decide +kernel
theorem dX1_putIn_45 : decode cX1_putIn 45 = .ok (.aload_n 0, 1) := by decide +kernel
theorem dX1_putIn_46 : decode cX1_putIn 46 = .ok (.getfield 42, 3) := by decide +kernel
theorem dX1_putIn_49 : decode cX1_putIn 49 = .ok (.iconst 0, 1) := by decide +kernel
theorem dX1_putIn_50 : decode cX1_putIn 50 = .ok (.aload_n 0, 1) := by decide +kernel
theorem dX1_putIn_51 : decode cX1_putIn 51 = .ok (.getfield 12, 3) := by decide +kernel
theorem dX1_putIn_54 : decode cX1_putIn 54 = .ok (.getfield 79, 3) := by decide +kernel
theorem dX1_putIn_57 : decode cX1_putIn 57 = .ok (.iload_n 2, 1) := by decide +kernel
theorem dX1_putIn_58 : decode cX1_putIn 58 = .ok (.iload 4, 2) := by decide +kernel
theorem dX1_putIn_60 : decode cX1_putIn 60 = .ok (.aload_n 0, 1) := by decide +kernel
theorem dX1_putIn_61 : decode cX1_putIn 61 = .ok (.getfield 71, 3) := by decide +kernel
theorem dX1_putIn_64 : decode cX1_putIn 64 = .ok (.imul, 1) := by decide +kernel
theorem dX1_putIn_65 : decode cX1_putIn 65 = .ok (.iadd, 1) := by decide +kernel
theorem dX1_putIn_66 : decode cX1_putIn 66 = .ok (.aload_n 0, 1) := by decide +kernel
theorem dX1_putIn_67 : decode cX1_putIn 67 = .ok (.getfield 71, 3) := by decide +kernel
theorem dX1_putIn_70 : decode cX1_putIn 70 = .ok (.invokestatic 65, 3) := by decide +kernel
theorem dX1_putIn_73 : decode cX1_putIn 73 = .ok (.iinc 4 1, 3) := by decide +kernel
theorem dX1_putIn_76 : decode cX1_putIn 76 = .ok (.goto (-37), 3) := by decide +kernel
theorem dX1_putIn_79 : decode cX1_putIn 79 = .ok (.aload_n 0, 1) := by decide +kernel
theorem dX1_putIn_80 : decode cX1_putIn 80 = .ok (.getfield 12, 3) := by decide +kernel
theorem dX1_putIn_83 : decode cX1_putIn 83 = .ok (.iload_n 2, 1) := by decide +kernel
theorem dX1_putIn_84 : decode cX1_putIn 84 = .ok (.iload_n 3, 1) := by decide +kernel
theorem dX1_putIn_85 : decode cX1_putIn 85 = .ok (.iadd, 1) := by decide +kernel
theorem dX1_putIn_86 : decode cX1_putIn 86 = .ok (.iconst 1, 1) := by decide +kernel
theorem dX1_putIn_87 : decode cX1_putIn 87 = .ok (.isub, 1) := by decide +kernel
theorem dX1_putIn_88 : decode cX1_putIn 88 = .ok (.putfield 85, 3) := by decide +kernel
theorem dX1_putIn_91 : decode cX1_putIn 91 = .ok (.iconst 2, 1) := by decide +kernel
theorem dX1_putIn_92 : decode cX1_putIn 92 = .ok (.ireturn, 1) := by decide +kernel
theorem dX1_typeAt_0 : decode cX1_typeAt 0 = .ok (.aload_n 0, 1) := by decide +kernel
theorem dX1_typeAt_1 : decode cX1_typeAt 1 = .ok (.getfield 12, 3) := by decide +kernel
theorem dX1_typeAt_4 : decode cX1_typeAt 4 = .ok (.iload_n 1, 1) := by decide +kernel
theorem dX1_typeAt_5 : decode cX1_typeAt 5 = .ok (.putfield 85, 3) := by decide +kernel
theorem dX1_typeAt_8 : decode cX1_typeAt 8 = .ok (.iconst 3, 1) := by decide +kernel
theorem dX1_typeAt_9 : decode cX1_typeAt 9 = .ok (.ireturn, 1) := by decide +kernel
theorem dX1_setMark_0 : decode cX1_setMark 0 = .ok (.iload_n 1, 1) := by decide +kernel
theorem dX1_setMark_1 : decode cX1_setMark 1 = .ok (.ifCond .lt 8, 3) := by decide +kernel
theorem dX1_setMark_4 : decode cX1_setMark 4 = .ok (.iload_n 1, 1) := by decide +kernel
theorem dX1_setMark_5 : decode cX1_setMark 5 = .ok (.iconst 4, 1) := by decide +kernel
theorem dX1_setMark_6 : decode cX1_setMark 6 = .ok (.if_icmp .lt 5, 3) := by decide +kernel
theorem dX1_setMark_9 : decode cX1_setMark 9 = .ok (.iconst 0, 1) := by decide +kernel
theorem dX1_setMark_10 : decode cX1_setMark 10 = .ok (.ireturn, 1) := by decide +kernel
theorem dX1_setMark_11 : decode cX1_setMark 11 = .ok (.aload_n 0, 1) := by decide +kernel
theorem dX1_setMark_12 : decode cX1_setMark 12 = .ok (.getfield 46, 3) := by decide +kernel
theorem dX1_setMark_15 : decode cX1_setMark 15 = .ok (.iload_n 1, 1) := by decide +kernel
theorem dX1_setMark_16 : decode cX1_setMark 16 = .ok (.aload_n 0, 1) := by decide +kernel
theorem dX1_setMark_17 : decode cX1_setMark 17 = .ok (.getfield 12, 3) := by decide +kernel
theorem dX1_setMark_20 : decode cX1_setMark 20 = .ok (.getfield 85, 3) := by decide +kernel
theorem dX1_setMark_23 : decode cX1_setMark 23 = .ok (.iastore, 1) := by decide +kernel
theorem dX1_setMark_24 : decode cX1_setMark 24 = .ok (.iconst 1, 1) := by decide +kernel
theorem dX1_setMark_25 : decode cX1_setMark 25 = .ok (.ireturn, 1) := by decide +kernel
theorem dX2_init_0 : decode cX2_init 0 = .ok (.aload_n 0, 1) := by decide +kernel
theorem dX2_init_1 : decode cX2_init 1 = .ok (.invokespecial 1, 3) := by decide +kernel
theorem dX2_init_4 : decode cX2_init 4 = .ok (.aload_n 0, 1) := by decide +kernel
theorem dX2_init_5 : decode cX2_init 5 = .ok (.bipush 30, 2) := by decide +kernel
theorem dX2_init_7 : decode cX2_init 7 = .ok (.newarray .int, 2) := by decide +kernel
theorem dX2_init_9 : decode cX2_init 9 = .ok (.putfield 9, 3) := by decide +kernel
theorem dX2_init_12 : decode cX2_init 12 = .ok (.return_, 1) := by decide +kernel
theorem dX2_become_0 : decode cX2_become 0 = .ok (.aload_n 1, 1) := by decide +kernel
theorem dX2_become_1 : decode cX2_become 1 = .ok (.getfield 9, 3) := by decide +kernel
theorem dX2_become_4 : decode cX2_become 4 = .ok (.iconst 0, 1) := by decide +kernel
theorem dX2_become_5 : decode cX2_become 5 = .ok (.aload_n 0, 1) := by decide +kernel
theorem dX2_become_6 : decode cX2_become 6 = .ok (.getfield 9, 3) := by decide +kernel
theorem dX2_become_9 : decode cX2_become 9 = .ok (.iconst 0, 1) := by decide +kernel
theorem dX2_become_10 : decode cX2_become 10 = .ok (.bipush 30, 2) := by decide +kernel
theorem dX2_become_12 : decode cX2_become 12 = .ok (.invokestatic 13, 3) := by decide +kernel
theorem dX2_become_15 : decode cX2_become 15 = .ok (.aload_n 0, 1) := by decide +kernel
theorem dX2_become_16 : decode cX2_become 16 = .ok (.aload_n 1, 1) := by decide +kernel
theorem dX2_become_17 : decode cX2_become 17 = .ok (.getfield 19, 3) := by decide +kernel
theorem dX2_become_20 : decode cX2_become 20 = .ok (.putfield 19, 3) := by decide +kernel
theorem dX2_become_23 : decode cX2_become 23 = .ok (.return_, 1) := by decide +kernel
theorem dX2_add_0 : decode cX2_add 0 = .ok (.aload_n 0, 1) := by decide +kernel
theorem dX2_add_1 : decode cX2_add 1 = .ok (.getfield 19, 3) := by decide +kernel
theorem dX2_add_4 : decode cX2_add 4 = .ok (.bipush 30, 2) := by decide +kernel
theorem dX2_add_6 : decode cX2_add 6 = .ok (.if_icmp .ge 13, 3) := by decide +kernel
theorem dX2_add_9 : decode cX2_add 9 = .ok (.aload_n 0, 1) := by decide +kernel
theorem dX2_add_10 : decode cX2_add 10 = .ok (.getfield 9, 3) := by decide +kernel
theorem dX2_add_13 : decode cX2_add 13 = .ok (.aload_n 0, 1) := by decide +kernel
theorem dX2_add_14 : decode cX2_add 14 = .ok (.getfield 19, 3) := by decide +kernel
theorem dX2_add_17 : decode cX2_add 17 = .ok (.iload_n 1, 1) := by decide +kernel
theorem dX2_add_18 : decode cX2_add 18 = .ok (.iastore, 1) := by decide +kernel
theorem dX2_add_19 : decode cX2_add 19 = .ok (.aload_n 0, 1) := by decide +kernel
theorem dX2_add_20 : decode cX2_add 20 = .ok (.aload_n 0, 1) := by decide +kernel
theorem dX2_add_21 : decode cX2_add 21 = .ok (.getfield 19, 3) := by decide +kernel
theorem dX2_add_24 : decode cX2_add 24 = .ok (.iconst 1, 1) := by decide +kernel
theorem dX2_add_25 : decode cX2_add 25 = .ok (.iadd, 1) := by decide +kernel
theorem dX2_add_26 : decode cX2_add 26 = .ok (.bipush 31, 2) := by decide +kernel
theorem dX2_add_28 : decode cX2_add 28 = .ok (.invokestatic 23, 3) := by decide +kernel
theorem dX2_add_31 : decode cX2_add 31 = .ok (.putfield 19, 3) := by decide +kernel
theorem dX2_add_34 : decode cX2_add 34 = .ok (.return_, 1) := by decide +kernel
theorem dX2_canBeRepeated_0 : decode cX2_canBeRepeated 0 = .ok (.aload_n 0, 1) := by decide +kernel
theorem dX2_canBeRepeated_1 : decode cX2_canBeRepeated 1 = .ok (.getfield 19, 3) := by decide +kernel
theorem dX2_canBeRepeated_4 : decode cX2_canBeRepeated 4 = .ok (.ifCond .le 16, 3) := by decide +kernel
theorem dX2_canBeRepeated_7 : decode cX2_canBeRepeated 7 = .ok (.aload_n 0, 1) := by decide +kernel
theorem dX2_canBeRepeated_8 : decode cX2_canBeRepeated 8 = .ok (.getfield 19, 3) := by decide +kernel
theorem dX2_canBeRepeated_11 : decode cX2_canBeRepeated 11 = .ok (.bipush 30, 2) := by decide +kernel
theorem dX2_canBeRepeated_13 : decode cX2_canBeRepeated 13 = .ok (.if_icmp .gt 7, 3) := by decide +kernel
theorem dX2_canBeRepeated_16 : decode cX2_canBeRepeated 16 = .ok (.iconst 1, 1) := by decide +kernel
theorem dX2_canBeRepeated_17 : decode cX2_canBeRepeated 17 = .ok (.goto 4, 3) := by decide +kernel
theorem dX2_canBeRepeated_20 : decode cX2_canBeRepeated 20 = .ok (.iconst 0, 1) := by decide +kernel
theorem dX2_canBeRepeated_21 : decode cX2_canBeRepeated 21 = .ok (.ireturn, 1) := by decide +kernel
theorem dX3_init_0 : decode cX3_init 0 = .ok (.aload_n 0, 1) := by decide +kernel
theorem dX3_init_1 : decode cX3_init 1 = .ok (.invokespecial 3, 3) := by decide +kernel
theorem dX3_init_4 : decode cX3_init 4 = .ok (.aload_n 0, 1) := by decide +kernel
theorem dX3_init_5 : decode cX3_init 5 = .ok (.sipush 480, 3) := by decide +kernel
theorem dX3_init_8 : decode cX3_init 8 = .ok (.newarray .int, 2) := by decide +kernel
theorem dX3_init_10 : decode cX3_init 10 = .ok (.putfield 11, 3) := by decide +kernel
theorem dX3_init_13 : decode cX3_init 13 = .ok (.aload_n 0, 1) := by decide +kernel
theorem dX3_init_14 : decode cX3_init 14 = .ok (.bipush 8, 2) := by decide +kernel
theorem dX3_init_16 : decode cX3_init 16 = .ok (.newarray .int, 2) := by decide +kernel
theorem dX3_init_18 : decode cX3_init 18 = .ok (.putfield 15, 3) := by decide +kernel
theorem dX3_init_21 : decode cX3_init 21 = .ok (.aload_n 0, 1) := by decide +kernel
theorem dX3_init_22 : decode cX3_init 22 = .ok (.bipush 8, 2) := by decide +kernel
theorem dX3_init_24 : decode cX3_init 24 = .ok (.newarray .int, 2) := by decide +kernel
theorem dX3_init_26 : decode cX3_init 26 = .ok (.putfield 18, 3) := by decide +kernel
theorem dX3_init_29 : decode cX3_init 29 = .ok (.return_, 1) := by decide +kernel
theorem dX3_become_0 : decode cX3_become 0 = .ok (.aload_n 1, 1) := by decide +kernel
theorem dX3_become_1 : decode cX3_become 1 = .ok (.getfield 11, 3) := by decide +kernel
theorem dX3_become_4 : decode cX3_become 4 = .ok (.iconst 0, 1) := by decide +kernel
theorem dX3_become_5 : decode cX3_become 5 = .ok (.aload_n 0, 1) := by decide +kernel
theorem dX3_become_6 : decode cX3_become 6 = .ok (.getfield 11, 3) := by decide +kernel
theorem dX3_become_9 : decode cX3_become 9 = .ok (.iconst 0, 1) := by decide +kernel
theorem dX3_become_10 : decode cX3_become 10 = .ok (.aload_n 0, 1) := by decide +kernel
theorem dX3_become_11 : decode cX3_become 11 = .ok (.getfield 11, 3) := by decide +kernel
theorem dX3_become_14 : decode cX3_become 14 = .ok (.arraylength, 1) := by decide +kernel
theorem dX3_become_15 : decode cX3_become 15 = .ok (.invokestatic 21, 3) := by decide +kernel
theorem dX3_become_18 : decode cX3_become 18 = .ok (.aload_n 1, 1) := by decide +kernel
theorem dX3_become_19 : decode cX3_become 19 = .ok (.getfield 15, 3) := by decide +kernel
theorem dX3_become_22 : decode cX3_become 22 = .ok (.iconst 0, 1) := by decide +kernel
theorem dX3_become_23 : decode cX3_become 23 = .ok (.aload_n 0, 1) := by decide +kernel
theorem dX3_become_24 : decode cX3_become 24 = .ok (.getfield 15, 3) := by decide +kernel
theorem dX3_become_27 : decode cX3_become 27 = .ok (.iconst 0, 1) := by decide +kernel
theorem dX3_become_28 : decode cX3_become 28 = .ok (.bipush 8, 2) := by decide +kernel
theorem dX3_become_30 : decode cX3_become 30 = .ok (.invokestatic 21, 3) := by decide +kernel
theorem dX3_become_33 : decode cX3_become 33 = .ok (.aload_n 1, 1) := by decide +kernel
theorem dX3_become_34 : decode cX3_become 34 = .ok (.getfield 18, 3) := by decide +kernel
theorem dX3_become_37 : decode cX3_become 37 = .ok (.iconst 0, 1) := by decide +kernel
theorem dX3_become_38 : decode cX3_become 38 = .ok (.aload_n 0, 1) := by decide +kernel
theorem dX3_become_39 : decode cX3_become 39 = .ok (.getfield 18, 3) := by decide +kernel
theorem dX3_become_42 : decode cX3_become 42 = .ok (.iconst 0, 1) := by decide +kernel
theorem dX3_become_43 : decode cX3_become 43 = .ok (.bipush 8, 2) := by decide +kernel
theorem dX3_become_45 : decode cX3_become 45 = .ok (.invokestatic 21, 3) := by decide +kernel
theorem dX3_become_48 : decode cX3_become 48 = .ok (.aload_n 0, 1) := by decide +kernel
theorem dX3_become_49 : decode cX3_become 49 = .ok (.aload_n 1, 1) := by decide +kernel
theorem dX3_become_50 : decode cX3_become 50 = .ok (.getfield 27, 3) := by decide +kernel
theorem dX3_become_53 : decode cX3_become 53 = .ok (.putfield 27, 3) := by decide +kernel
theorem dX3_become_56 : decode cX3_become 56 = .ok (.aload_n 0, 1) := by decide +kernel
theorem dX3_become_57 : decode cX3_become 57 = .ok (.aload_n 1, 1) := by decide +kernel
theorem dX3_become_58 : decode cX3_become 58 = .ok (.getfield 31, 3) := by decide +kernel
theorem dX3_become_61 : decode cX3_become 61 = .ok (.putfield 31, 3) := by decide +kernel
theorem dX3_become_64 : decode cX3_become 64 = .ok (.return_, 1) := by decide +kernel
theorem dX3_keep_0 : decode cX3_keep 0 = .ok (.aload_n 1, 1) := by decide +kernel
theorem dX3_keep_1 : decode cX3_keep 1 = .ok (.getfield 34, 3) := by decide +kernel
theorem dX3_keep_4 : decode cX3_keep 4 = .ok (.iconst 0, 1) := by decide +kernel
theorem dX3_keep_5 : decode cX3_keep 5 = .ok (.aload_n 0, 1) := by decide +kernel
theorem dX3_keep_6 : decode cX3_keep 6 = .ok (.getfield 11, 3) := by decide +kernel
theorem dX3_keep_9 : decode cX3_keep 9 = .ok (.aload_n 0, 1) := by decide +kernel
theorem dX3_keep_10 : decode cX3_keep 10 = .ok (.getfield 27, 3) := by decide +kernel
theorem dX3_keep_13 : decode cX3_keep 13 = .ok (.bipush 60, 2) := by decide +kernel
theorem dX3_keep_15 : decode cX3_keep 15 = .ok (.imul, 1) := by decide +kernel
theorem dX3_keep_16 : decode cX3_keep 16 = .ok (.bipush 60, 2) := by decide +kernel
theorem dX3_keep_18 : decode cX3_keep 18 = .ok (.invokestatic 21, 3) := by decide +kernel
theorem dX3_keep_21 : decode cX3_keep 21 = .ok (.aload_n 0, 1) := by decide +kernel
theorem dX3_keep_22 : decode cX3_keep 22 = .ok (.getfield 15, 3) := by decide +kernel
theorem dX3_keep_25 : decode cX3_keep 25 = .ok (.aload_n 0, 1) := by decide +kernel
theorem dX3_keep_26 : decode cX3_keep 26 = .ok (.getfield 27, 3) := by decide +kernel
theorem dX3_keep_29 : decode cX3_keep 29 = .ok (.aload_n 1, 1) := by decide +kernel
theorem dX3_keep_30 : decode cX3_keep 30 = .ok (.getfield 37, 3) := by decide +kernel
theorem dX3_keep_33 : decode cX3_keep 33 = .ok (.iastore, 1) := by decide +kernel
theorem dX3_keep_34 : decode cX3_keep 34 = .ok (.aload_n 0, 1) := by decide +kernel
theorem dX3_keep_35 : decode cX3_keep 35 = .ok (.getfield 18, 3) := by decide +kernel
theorem dX3_keep_38 : decode cX3_keep 38 = .ok (.aload_n 0, 1) := by decide +kernel
theorem dX3_keep_39 : decode cX3_keep 39 = .ok (.getfield 27, 3) := by decide +kernel
theorem dX3_keep_42 : decode cX3_keep 42 = .ok (.aload_n 1, 1) := by decide +kernel
theorem dX3_keep_43 : decode cX3_keep 43 = .ok (.getfield 40, 3) := by decide +kernel
theorem dX3_keep_46 : decode cX3_keep 46 = .ok (.iastore, 1) := by decide +kernel
theorem dX3_keep_47 : decode cX3_keep 47 = .ok (.aload_n 0, 1) := by decide +kernel
theorem dX3_keep_48 : decode cX3_keep 48 = .ok (.aload_n 0, 1) := by decide +kernel
theorem dX3_keep_49 : decode cX3_keep 49 = .ok (.getfield 27, 3) := by decide +kernel
theorem dX3_keep_52 : decode cX3_keep 52 = .ok (.iconst 1, 1) := by decide +kernel
theorem dX3_keep_53 : decode cX3_keep 53 = .ok (.iadd, 1) := by decide +kernel
theorem dX3_keep_54 : decode cX3_keep 54 = .ok (.bipush 8, 2) := by decide +kernel
theorem dX3_keep_56 : decode cX3_keep 56 = .ok (.irem, 1) := by decide +kernel
theorem dX3_keep_57 : decode cX3_keep 57 = .ok (.putfield 27, 3) := by decide +kernel
theorem dX3_keep_60 : decode cX3_keep 60 = .ok (.aload_n 0, 1) := by decide +kernel
theorem dX3_keep_61 : decode cX3_keep 61 = .ok (.aload_n 0, 1) := by decide +kernel
theorem dX3_keep_62 : decode cX3_keep 62 = .ok (.getfield 31, 3) := by decide +kernel
theorem dX3_keep_65 : decode cX3_keep 65 = .ok (.iconst 1, 1) := by decide +kernel
theorem dX3_keep_66 : decode cX3_keep 66 = .ok (.iadd, 1) := by decide +kernel
theorem dX3_keep_67 : decode cX3_keep 67 = .ok (.bipush 8, 2) := by decide +kernel
theorem dX3_keep_69 : decode cX3_keep 69 = .ok (.invokestatic 43, 3) := by decide +kernel
theorem dX3_keep_72 : decode cX3_keep 72 = .ok (.putfield 31, 3) := by decide +kernel
theorem dX3_keep_75 : decode cX3_keep 75 = .ok (.return_, 1) := by decide +kernel
theorem dX3_bringBack_0 : decode cX3_bringBack 0 = .ok (.aload_n 0, 1) := by decide +kernel
theorem dX3_bringBack_1 : decode cX3_bringBack 1 = .ok (.getfield 31, 3) := by decide +kernel
theorem dX3_bringBack_4 : decode cX3_bringBack 4 = .ok (.ifCond .ne 5, 3) := by decide +kernel
theorem dX3_bringBack_7 : decode cX3_bringBack 7 = .ok (.iconst 0, 1) := by decide +kernel
theorem dX3_bringBack_8 : decode cX3_bringBack 8 = .ok (.ireturn, 1) := by decide +kernel
theorem dX3_bringBack_9 : decode cX3_bringBack 9 = .ok (.iload_n 2, 1) := by decide +kernel
theorem dX3_bringBack_10 : decode cX3_bringBack 10 = .ok (.aload_n 0, 1) := by decide +kernel
theorem dX3_bringBack_11 : decode cX3_bringBack 11 = .ok (.getfield 31, 3) := by decide +kernel
theorem dX3_bringBack_14 : decode cX3_bringBack 14 = .ok (.invokestatic 43, 3) := by decide +kernel
theorem dX3_bringBack_17 : decode cX3_bringBack 17 = .ok (.istore_n 3, 1) := by decide +kernel
theorem dX3_bringBack_18 : decode cX3_bringBack 18 = .ok (.aload_n 0, 1) := by decide +kernel
theorem dX3_bringBack_19 : decode cX3_bringBack 19 = .ok (.aload_n 0, 1) := by decide +kernel
theorem dX3_bringBack_20 : decode cX3_bringBack 20 = .ok (.getfield 27, 3) := by decide +kernel
theorem dX3_bringBack_23 : decode cX3_bringBack 23 = .ok (.iload_n 3, 1) := by decide +kernel
theorem dX3_bringBack_24 : decode cX3_bringBack 24 = .ok (.isub, 1) := by decide +kernel
theorem dX3_bringBack_25 : decode cX3_bringBack 25 = .ok (.bipush 8, 2) := by decide +kernel
theorem dX3_bringBack_27 : decode cX3_bringBack 27 = .ok (.invokestatic 49, 3) := by decide +kernel
theorem dX3_bringBack_30 : decode cX3_bringBack 30 = .ok (.putfield 27, 3) := by decide +kernel
theorem dX3_bringBack_33 : decode cX3_bringBack 33 = .ok (.aload_n 0, 1) := by decide +kernel
theorem dX3_bringBack_34 : decode cX3_bringBack 34 = .ok (.dup, 1) := by decide +kernel
theorem dX3_bringBack_35 : decode cX3_bringBack 35 = .ok (.getfield 31, 3) := by decide +kernel
theorem dX3_bringBack_38 : decode cX3_bringBack 38 = .ok (.iload_n 3, 1) := by decide +kernel
theorem dX3_bringBack_39 : decode cX3_bringBack 39 = .ok (.isub, 1) := by decide +kernel
theorem dX3_bringBack_40 : decode cX3_bringBack 40 = .ok (.putfield 31, 3) := by decide +kernel
theorem dX3_bringBack_43 : decode cX3_bringBack 43 = .ok (.aload_n 0, 1) := by decide +kernel
theorem dX3_bringBack_44 : decode cX3_bringBack 44 = .ok (.getfield 11, 3) := by decide +kernel
theorem dX3_bringBack_47 : decode cX3_bringBack 47 = .ok (.aload_n 0, 1) := by decide +kernel
theorem dX3_bringBack_48 : decode cX3_bringBack 48 = .ok (.getfield 27, 3) := by decide +kernel
theorem dX3_bringBack_51 : decode cX3_bringBack 51 = .ok (.bipush 60, 2) := by decide +kernel
theorem dX3_bringBack_53 : decode cX3_bringBack 53 = .ok (.imul, 1) := by decide +kernel
theorem dX3_bringBack_54 : decode cX3_bringBack 54 = .ok (.aload_n 1, 1) := by decide +kernel
theorem dX3_bringBack_55 : decode cX3_bringBack 55 = .ok (.getfield 34, 3) := by decide +kernel
theorem dX3_bringBack_58 : decode cX3_bringBack 58 = .ok (.iconst 0, 1) := by decide +kernel
theorem dX3_bringBack_59 : decode cX3_bringBack 59 = .ok (.bipush 60, 2) := by decide +kernel
theorem dX3_bringBack_61 : decode cX3_bringBack 61 = .ok (.invokestatic 21, 3) := by decide +kernel
theorem dX3_bringBack_64 : decode cX3_bringBack 64 = .ok (.aload_n 1, 1) := by decide +kernel
theorem dX3_bringBack_65 : decode cX3_bringBack 65 = .ok (.aload_n 0, 1) := by decide +kernel
theorem dX3_bringBack_66 : decode cX3_bringBack 66 = .ok (.getfield 15, 3) := by decide +kernel
theorem dX3_bringBack_69 : decode cX3_bringBack 69 = .ok (.aload_n 0, 1) := by decide +kernel
theorem dX3_bringBack_70 : decode cX3_bringBack 70 = .ok (.getfield 27, 3) := by decide +kernel
theorem dX3_bringBack_73 : decode cX3_bringBack 73 = .ok (.iaload, 1) := by decide +kernel
theorem dX3_bringBack_74 : decode cX3_bringBack 74 = .ok (.putfield 37, 3) := by decide +kernel
theorem dX3_bringBack_77 : decode cX3_bringBack 77 = .ok (.aload_n 1, 1) := by decide +kernel
theorem dX3_bringBack_78 : decode cX3_bringBack 78 = .ok (.aload_n 0, 1) := by decide +kernel
theorem dX3_bringBack_79 : decode cX3_bringBack 79 = .ok (.getfield 18, 3) := by decide +kernel
theorem dX3_bringBack_82 : decode cX3_bringBack 82 = .ok (.aload_n 0, 1) := by decide +kernel
theorem dX3_bringBack_83 : decode cX3_bringBack 83 = .ok (.getfield 27, 3) := by decide +kernel
theorem dX3_bringBack_86 : decode cX3_bringBack 86 = .ok (.iaload, 1) := by decide +kernel
theorem dX3_bringBack_87 : decode cX3_bringBack 87 = .ok (.putfield 40, 3) := by decide +kernel
theorem dX3_bringBack_90 : decode cX3_bringBack 90 = .ok (.iconst 1, 1) := by decide +kernel
theorem dX3_bringBack_91 : decode cX3_bringBack 91 = .ok (.ireturn, 1) := by decide +kernel
theorem dX4_init_0 : decode cX4_init 0 = .ok (.aload_n 0, 1) := by decide +kernel
theorem dX4_init_1 : decode cX4_init 1 = .ok (.invokespecial 3, 3) := by decide +kernel
theorem dX4_init_4 : decode cX4_init 4 = .ok (.aload_n 0, 1) := by decide +kernel
theorem dX4_init_5 : decode cX4_init 5 = .ok (.bipush 24, 2) := by decide +kernel
theorem dX4_init_7 : decode cX4_init 7 = .ok (.newarray .long, 2) := by decide +kernel
theorem dX4_init_9 : decode cX4_init 9 = .ok (.putfield 9, 3) := by decide +kernel
theorem dX4_init_12 : decode cX4_init 12 = .ok (.aload_n 0, 1) := by decide +kernel
theorem dX4_init_13 : decode cX4_init 13 = .ok (.iconst (-1), 1) := by decide +kernel
theorem dX4_init_14 : decode cX4_init 14 = .ok (.putfield 15, 3) := by decide +kernel
theorem dX4_init_17 : decode cX4_init 17 = .ok (.return_, 1) := by decide +kernel
theorem dX4_isNothing_0 : decode cX4_isNothing 0 = .ok (.aload_n 0, 1) := by decide +kernel
theorem dX4_isNothing_1 : decode cX4_isNothing 1 = .ok (.getfield 15, 3) := by decide +kernel
theorem dX4_isNothing_4 : decode cX4_isNothing 4 = .ok (.iconst (-1), 1) := by decide +kernel
theorem dX4_isNothing_5 : decode cX4_isNothing 5 = .ok (.if_icmp .ne 7, 3) := by decide +kernel
theorem dX4_isNothing_8 : decode cX4_isNothing 8 = .ok (.iconst 1, 1) := by decide +kernel
theorem dX4_isNothing_9 : decode cX4_isNothing 9 = .ok (.goto 4, 3) := by decide +kernel
theorem dX4_isNothing_12 : decode cX4_isNothing 12 = .ok (.iconst 0, 1) := by decide +kernel
theorem dX4_isNothing_13 : decode cX4_isNothing 13 = .ok (.ireturn, 1) := by decide +kernel
theorem dX4_hold_0 : decode cX4_hold 0 = .ok (.aload_n 0, 1) := by decide +kernel
theorem dX4_hold_1 : decode cX4_hold 1 = .ok (.iload_n 1, 1) := by decide +kernel
theorem dX4_hold_2 : decode cX4_hold 2 = .ok (.putfield 15, 3) := by decide +kernel
theorem dX4_hold_5 : decode cX4_hold 5 = .ok (.aload_n 0, 1) := by decide +kernel
theorem dX4_hold_6 : decode cX4_hold 6 = .ok (.iload_n 2, 1) := by decide +kernel
theorem dX4_hold_7 : decode cX4_hold 7 = .ok (.putfield 19, 3) := by decide +kernel
theorem dX4_hold_10 : decode cX4_hold 10 = .ok (.aload_n 0, 1) := by decide +kernel
theorem dX4_hold_11 : decode cX4_hold 11 = .ok (.getfield 9, 3) := by decide +kernel
theorem dX4_hold_14 : decode cX4_hold 14 = .ok (.lconst 0, 1) := by decide +kernel
theorem dX4_hold_15 : decode cX4_hold 15 = .ok (.invokestatic 22, 3) := by decide +kernel
theorem dX4_hold_18 : decode cX4_hold 18 = .ok (.return_, 1) := by decide +kernel
theorem dX4_reaches_0 : decode cX4_reaches 0 = .ok (.iload_n 1, 1) := by decide +kernel
theorem dX4_reaches_1 : decode cX4_reaches 1 = .ok (.ifCond .lt 21, 3) := by decide +kernel
theorem dX4_reaches_4 : decode cX4_reaches 4 = .ok (.iload_n 2, 1) := by decide +kernel
theorem dX4_reaches_5 : decode cX4_reaches 5 = .ok (.ifCond .lt 17, 3) := by decide +kernel
theorem dX4_reaches_8 : decode cX4_reaches 8 = .ok (.iload_n 1, 1) := by decide +kernel
theorem dX4_reaches_9 : decode cX4_reaches 9 = .ok (.aload_n 0, 1) := by decide +kernel
theorem dX4_reaches_10 : decode cX4_reaches 10 = .ok (.getfield 19, 3) := by decide +kernel
theorem dX4_reaches_13 : decode cX4_reaches 13 = .ok (.iload_n 2, 1) := by decide +kernel
theorem dX4_reaches_14 : decode cX4_reaches 14 = .ok (.isub, 1) := by decide +kernel
theorem dX4_reaches_15 : decode cX4_reaches 15 = .ok (.if_icmp .gt 7, 3) := by decide +kernel
theorem dX4_reaches_18 : decode cX4_reaches 18 = .ok (.iconst 1, 1) := by decide +kernel
theorem dX4_reaches_19 : decode cX4_reaches 19 = .ok (.goto 4, 3) := by decide +kernel
theorem dX4_reaches_22 : decode cX4_reaches 22 = .ok (.iconst 0, 1) := by decide +kernel
theorem dX4_reaches_23 : decode cX4_reaches 23 = .ok (.ireturn, 1) := by decide +kernel
theorem dX4_faultAs_0 : decode cX4_faultAs 0 = .ok (.aload_n 0, 1) := by decide +kernel
theorem dX4_faultAs_1 : decode cX4_faultAs 1 = .ok (.invokevirtual 28, 3) := by decide +kernel
theorem dX4_faultAs_4 : decode cX4_faultAs 4 = .ok (.ifCond .eq 6, 3) := by decide +kernel
theorem dX4_faultAs_7 : decode cX4_faultAs 7 = .ok (.bipush (-11), 2) := by decide +kernel
theorem dX4_faultAs_9 : decode cX4_faultAs 9 = .ok (.ireturn, 1) := by decide +kernel
theorem dX4_faultAs_10 : decode cX4_faultAs 10 = .ok (.aload_n 0, 1) := by decide +kernel
theorem dX4_faultAs_11 : decode cX4_faultAs 11 = .ok (.getfield 15, 3) := by decide +kernel
theorem dX4_faultAs_14 : decode cX4_faultAs 14 = .ok (.iload_n 1, 1) := by decide +kernel
theorem dX4_faultAs_15 : decode cX4_faultAs 15 = .ok (.if_icmp .eq 6, 3) := by decide +kernel
theorem dX4_faultAs_18 : decode cX4_faultAs 18 = .ok (.bipush (-12), 2) := by decide +kernel
theorem dX4_faultAs_20 : decode cX4_faultAs 20 = .ok (.ireturn, 1) := by decide +kernel
theorem dX4_faultAs_21 : decode cX4_faultAs 21 = .ok (.aload_n 0, 1) := by decide +kernel
theorem dX4_faultAs_22 : decode cX4_faultAs 22 = .ok (.iload_n 2, 1) := by decide +kernel
theorem dX4_faultAs_23 : decode cX4_faultAs 23 = .ok (.iload_n 3, 1) := by decide +kernel
theorem dX4_faultAs_24 : decode cX4_faultAs 24 = .ok (.invokevirtual 32, 3) := by decide +kernel
theorem dX4_faultAs_27 : decode cX4_faultAs 27 = .ok (.ifCond .eq 7, 3) := by decide +kernel
theorem dX4_faultAs_30 : decode cX4_faultAs 30 = .ok (.iconst 0, 1) := by decide +kernel
theorem dX4_faultAs_31 : decode cX4_faultAs 31 = .ok (.goto 5, 3) := by decide +kernel
theorem dX4_faultAs_34 : decode cX4_faultAs 34 = .ok (.bipush (-13), 2) := by decide +kernel
theorem dX4_faultAs_36 : decode cX4_faultAs 36 = .ok (.ireturn, 1) := by decide +kernel
theorem dX4_put_0 : decode cX4_put 0 = .ok (.aload_n 0, 1) := by decide +kernel
theorem dX4_put_1 : decode cX4_put 1 = .ok (.getfield 15, 3) := by decide +kernel
theorem dX4_put_4 : decode cX4_put 4 = .ok (.tableswitch 66 0 2 #[28, 41, 54], 28) := by decide +kernel
theorem dX4_put_32 : decode cX4_put 32 = .ok (.aload_n 0, 1) := by decide +kernel
theorem dX4_put_33 : decode cX4_put 33 = .ok (.getfield 9, 3) := by decide +kernel
theorem dX4_put_36 : decode cX4_put 36 = .ok (.iload_n 1, 1) := by decide +kernel
theorem dX4_put_37 : decode cX4_put 37 = .ok (.lload_n 2, 1) := by decide +kernel
theorem dX4_put_38 : decode cX4_put 38 = .ok (.l2i, 1) := by decide +kernel
theorem dX4_put_39 : decode cX4_put 39 = .ok (.i2b, 1) := by decide +kernel
theorem dX4_put_40 : decode cX4_put 40 = .ok (.i2l, 1) := by decide +kernel
theorem dX4_put_41 : decode cX4_put 41 = .ok (.lastore, 1) := by decide +kernel
theorem dX4_put_42 : decode cX4_put 42 = .ok (.goto 35, 3) := by decide +kernel
theorem dX4_put_45 : decode cX4_put 45 = .ok (.aload_n 0, 1) := by decide +kernel
theorem dX4_put_46 : decode cX4_put 46 = .ok (.getfield 9, 3) := by decide +kernel
theorem dX4_put_49 : decode cX4_put 49 = .ok (.iload_n 1, 1) := by decide +kernel
theorem dX4_put_50 : decode cX4_put 50 = .ok (.lload_n 2, 1) := by decide +kernel
theorem dX4_put_51 : decode cX4_put 51 = .ok (.l2i, 1) := by decide +kernel
theorem dX4_put_52 : decode cX4_put 52 = .ok (.i2s, 1) := by decide +kernel
theorem dX4_put_53 : decode cX4_put 53 = .ok (.i2l, 1) := by decide +kernel
theorem dX4_put_54 : decode cX4_put 54 = .ok (.lastore, 1) := by decide +kernel
theorem dX4_put_55 : decode cX4_put 55 = .ok (.goto 22, 3) := by decide +kernel
theorem dX4_put_58 : decode cX4_put 58 = .ok (.aload_n 0, 1) := by decide +kernel
theorem dX4_put_59 : decode cX4_put 59 = .ok (.getfield 9, 3) := by decide +kernel
theorem dX4_put_62 : decode cX4_put 62 = .ok (.iload_n 1, 1) := by decide +kernel
theorem dX4_put_63 : decode cX4_put 63 = .ok (.lload_n 2, 1) := by decide +kernel
theorem dX4_put_64 : decode cX4_put 64 = .ok (.l2i, 1) := by decide +kernel
theorem dX4_put_65 : decode cX4_put 65 = .ok (.i2l, 1) := by decide +kernel
theorem dX4_put_66 : decode cX4_put 66 = .ok (.lastore, 1) := by decide +kernel
theorem dX4_put_67 : decode cX4_put 67 = .ok (.goto 10, 3) := by decide +kernel
theorem dX4_put_70 : decode cX4_put 70 = .ok (.aload_n 0, 1) := by decide +kernel
theorem dX4_put_71 : decode cX4_put 71 = .ok (.getfield 9, 3) := by decide +kernel
theorem dX4_put_74 : decode cX4_put 74 = .ok (.iload_n 1, 1) := by decide +kernel
theorem dX4_put_75 : decode cX4_put 75 = .ok (.lload_n 2, 1) := by decide +kernel
theorem dX4_put_76 : decode cX4_put 76 = .ok (.lastore, 1) := by decide +kernel
theorem dX4_put_77 : decode cX4_put 77 = .ok (.return_, 1) := by decide +kernel
theorem dX5_init_0 : decode cX5_init 0 = .ok (.aload_n 0, 1) := by decide +kernel
theorem dX5_init_1 : decode cX5_init 1 = .ok (.invokespecial 3, 3) := by decide +kernel
theorem dX5_init_4 : decode cX5_init 4 = .ok (.aload_n 0, 1) := by decide +kernel
theorem dX5_init_5 : decode cX5_init 5 = .ok (.bipush 60, 2) := by decide +kernel
theorem dX5_init_7 : decode cX5_init 7 = .ok (.newarray .int, 2) := by decide +kernel
theorem dX5_init_9 : decode cX5_init 9 = .ok (.putfield 9, 3) := by decide +kernel
theorem dX5_init_12 : decode cX5_init 12 = .ok (.return_, 1) := by decide +kernel
theorem dX5_become_0 : decode cX5_become 0 = .ok (.aload_n 1, 1) := by decide +kernel
theorem dX5_become_1 : decode cX5_become 1 = .ok (.getfield 9, 3) := by decide +kernel
theorem dX5_become_4 : decode cX5_become 4 = .ok (.iconst 0, 1) := by decide +kernel
theorem dX5_become_5 : decode cX5_become 5 = .ok (.aload_n 0, 1) := by decide +kernel
theorem dX5_become_6 : decode cX5_become 6 = .ok (.getfield 9, 3) := by decide +kernel
theorem dX5_become_9 : decode cX5_become 9 = .ok (.iconst 0, 1) := by decide +kernel
theorem dX5_become_10 : decode cX5_become 10 = .ok (.bipush 60, 2) := by decide +kernel
theorem dX5_become_12 : decode cX5_become 12 = .ok (.invokestatic 15, 3) := by decide +kernel
theorem dX5_become_15 : decode cX5_become 15 = .ok (.aload_n 0, 1) := by decide +kernel
theorem dX5_become_16 : decode cX5_become 16 = .ok (.aload_n 1, 1) := by decide +kernel
theorem dX5_become_17 : decode cX5_become 17 = .ok (.getfield 21, 3) := by decide +kernel
theorem dX5_become_20 : decode cX5_become 20 = .ok (.putfield 21, 3) := by decide +kernel
theorem dX5_become_23 : decode cX5_become 23 = .ok (.aload_n 0, 1) := by decide +kernel
theorem dX5_become_24 : decode cX5_become 24 = .ok (.aload_n 1, 1) := by decide +kernel
theorem dX5_become_25 : decode cX5_become 25 = .ok (.getfield 25, 3) := by decide +kernel
theorem dX5_become_28 : decode cX5_become 28 = .ok (.putfield 25, 3) := by decide +kernel
theorem dX5_become_31 : decode cX5_become 31 = .ok (.return_, 1) := by decide +kernel
theorem dX5_has_0 : decode cX5_has 0 = .ok (.iload_n 1, 1) := by decide +kernel
theorem dX5_has_1 : decode cX5_has 1 = .ok (.ifCond .lt 15, 3) := by decide +kernel
theorem dX5_has_4 : decode cX5_has 4 = .ok (.iload_n 1, 1) := by decide +kernel
theorem dX5_has_5 : decode cX5_has 5 = .ok (.aload_n 0, 1) := by decide +kernel
theorem dX5_has_6 : decode cX5_has 6 = .ok (.getfield 21, 3) := by decide +kernel
theorem dX5_has_9 : decode cX5_has 9 = .ok (.if_icmp .ge 7, 3) := by decide +kernel
theorem dX5_has_12 : decode cX5_has 12 = .ok (.iconst 1, 1) := by decide +kernel
theorem dX5_has_13 : decode cX5_has 13 = .ok (.goto 4, 3) := by decide +kernel
theorem dX5_has_16 : decode cX5_has 16 = .ok (.iconst 0, 1) := by decide +kernel
theorem dX5_has_17 : decode cX5_has 17 = .ok (.ireturn, 1) := by decide +kernel
theorem dX5_at_0 : decode cX5_at 0 = .ok (.aload_n 0, 1) := by decide +kernel
theorem dX5_at_1 : decode cX5_at 1 = .ok (.iload_n 1, 1) := by decide +kernel
theorem dX5_at_2 : decode cX5_at 2 = .ok (.invokevirtual 28, 3) := by decide +kernel
theorem dX5_at_5 : decode cX5_at 5 = .ok (.ifCond .eq 12, 3) := by decide +kernel
theorem dX5_at_8 : decode cX5_at 8 = .ok (.aload_n 0, 1) := by decide +kernel
theorem dX5_at_9 : decode cX5_at 9 = .ok (.getfield 9, 3) := by decide +kernel
theorem dX5_at_12 : decode cX5_at 12 = .ok (.iload_n 1, 1) := by decide +kernel
theorem dX5_at_13 : decode cX5_at 13 = .ok (.iaload, 1) := by decide +kernel
theorem dX5_at_14 : decode cX5_at 14 = .ok (.goto 4, 3) := by decide +kernel
theorem dX5_at_17 : decode cX5_at 17 = .ok (.iconst (-1), 1) := by decide +kernel
theorem dX5_at_18 : decode cX5_at 18 = .ok (.ireturn, 1) := by decide +kernel
theorem dX5_last_0 : decode cX5_last 0 = .ok (.aload_n 0, 1) := by decide +kernel
theorem dX5_last_1 : decode cX5_last 1 = .ok (.getfield 21, 3) := by decide +kernel
theorem dX5_last_4 : decode cX5_last 4 = .ok (.ifCond .le 12, 3) := by decide +kernel
theorem dX5_last_7 : decode cX5_last 7 = .ok (.aload_n 0, 1) := by decide +kernel
theorem dX5_last_8 : decode cX5_last 8 = .ok (.getfield 21, 3) := by decide +kernel
theorem dX5_last_11 : decode cX5_last 11 = .ok (.iconst 1, 1) := by decide +kernel
theorem dX5_last_12 : decode cX5_last 12 = .ok (.isub, 1) := by decide +kernel
theorem dX5_last_13 : decode cX5_last 13 = .ok (.goto 4, 3) := by decide +kernel
theorem dX5_last_16 : decode cX5_last 16 = .ok (.iconst 0, 1) := by decide +kernel
theorem dX5_last_17 : decode cX5_last 17 = .ok (.ireturn, 1) := by decide +kernel
theorem dX5_canStand_0 : decode cX5_canStand 0 = .ok (.iload_n 1, 1) := by decide +kernel
theorem dX5_canStand_1 : decode cX5_canStand 1 = .ok (.ifCond .lt 15, 3) := by decide +kernel
theorem dX5_canStand_4 : decode cX5_canStand 4 = .ok (.iload_n 1, 1) := by decide +kernel
theorem dX5_canStand_5 : decode cX5_canStand 5 = .ok (.aload_n 0, 1) := by decide +kernel
theorem dX5_canStand_6 : decode cX5_canStand 6 = .ok (.invokevirtual 32, 3) := by decide +kernel
theorem dX5_canStand_9 : decode cX5_canStand 9 = .ok (.if_icmp .gt 7, 3) := by decide +kernel
theorem dX5_canStand_12 : decode cX5_canStand 12 = .ok (.iconst 1, 1) := by decide +kernel
theorem dX5_canStand_13 : decode cX5_canStand 13 = .ok (.goto 4, 3) := by decide +kernel
theorem dX5_canStand_16 : decode cX5_canStand 16 = .ok (.iconst 0, 1) := by decide +kernel
theorem dX5_canStand_17 : decode cX5_canStand 17 = .ok (.ireturn, 1) := by decide +kernel
theorem dX5_standing_0 : decode cX5_standing 0 = .ok (.aload_n 0, 1) := by decide +kernel
theorem dX5_standing_1 : decode cX5_standing 1 = .ok (.getfield 25, 3) := by decide +kernel
theorem dX5_standing_4 : decode cX5_standing 4 = .ok (.aload_n 0, 1) := by decide +kernel
theorem dX5_standing_5 : decode cX5_standing 5 = .ok (.invokevirtual 32, 3) := by decide +kernel
theorem dX5_standing_8 : decode cX5_standing 8 = .ok (.invokestatic 36, 3) := by decide +kernel
theorem dX5_standing_11 : decode cX5_standing 11 = .ok (.ireturn, 1) := by decide +kernel
theorem dX5_goTo_0 : decode cX5_goTo 0 = .ok (.aload_n 0, 1) := by decide +kernel
theorem dX5_goTo_1 : decode cX5_goTo 1 = .ok (.iload_n 1, 1) := by decide +kernel
theorem dX5_goTo_2 : decode cX5_goTo 2 = .ok (.aload_n 0, 1) := by decide +kernel
theorem dX5_goTo_3 : decode cX5_goTo 3 = .ok (.invokevirtual 32, 3) := by decide +kernel
theorem dX5_goTo_6 : decode cX5_goTo 6 = .ok (.invokestatic 36, 3) := by decide +kernel
theorem dX5_goTo_9 : decode cX5_goTo 9 = .ok (.putfield 25, 3) := by decide +kernel
theorem dX5_goTo_12 : decode cX5_goTo 12 = .ok (.return_, 1) := by decide +kernel
theorem dX5_kindAt_0 : decode cX5_kindAt 0 = .ok (.iload_n 1, 1) := by decide +kernel
theorem dX5_kindAt_1 : decode cX5_kindAt 1 = .ok (.ifCond .lt 11, 3) := by decide +kernel
theorem dX5_kindAt_4 : decode cX5_kindAt 4 = .ok (.iload_n 1, 1) := by decide +kernel
theorem dX5_kindAt_5 : decode cX5_kindAt 5 = .ok (.aload_n 0, 1) := by decide +kernel
theorem dX5_kindAt_6 : decode cX5_kindAt 6 = .ok (.getfield 21, 3) := by decide +kernel
theorem dX5_kindAt_9 : decode cX5_kindAt 9 = .ok (.if_icmp .lt 5, 3) := by decide +kernel
theorem dX5_kindAt_12 : decode cX5_kindAt 12 = .ok (.iconst (-1), 1) := by decide +kernel
theorem dX5_kindAt_13 : decode cX5_kindAt 13 = .ok (.ireturn, 1) := by decide +kernel
theorem dX5_kindAt_14 : decode cX5_kindAt 14 = .ok (.aload_n 0, 1) := by decide +kernel
theorem dX5_kindAt_15 : decode cX5_kindAt 15 = .ok (.getfield 9, 3) := by decide +kernel
theorem dX5_kindAt_18 : decode cX5_kindAt 18 = .ok (.iload_n 1, 1) := by decide +kernel
theorem dX5_kindAt_19 : decode cX5_kindAt 19 = .ok (.iaload, 1) := by decide +kernel
theorem dX5_kindAt_20 : decode cX5_kindAt 20 = .ok (.istore_n 2, 1) := by decide +kernel
theorem dX5_kindAt_21 : decode cX5_kindAt 21 = .ok (.iload_n 2, 1) := by decide +kernel
theorem dX5_kindAt_22 : decode cX5_kindAt 22 = .ok (.bipush 32, 2) := by decide +kernel
theorem dX5_kindAt_24 : decode cX5_kindAt 24 = .ok (.if_icmp .ne 5, 3) := by decide +kernel
theorem dX5_kindAt_27 : decode cX5_kindAt 27 = .ok (.iconst 0, 1) := by decide +kernel
theorem dX5_kindAt_28 : decode cX5_kindAt 28 = .ok (.ireturn, 1) := by decide +kernel
theorem dX5_kindAt_29 : decode cX5_kindAt 29 = .ok (.iload_n 2, 1) := by decide +kernel
theorem dX5_kindAt_30 : decode cX5_kindAt 30 = .ok (.bipush 97, 2) := by decide +kernel
theorem dX5_kindAt_32 : decode cX5_kindAt 32 = .ok (.if_icmp .lt 13, 3) := by decide +kernel
theorem dX5_kindAt_35 : decode cX5_kindAt 35 = .ok (.iload_n 2, 1) := by decide +kernel
theorem dX5_kindAt_36 : decode cX5_kindAt 36 = .ok (.bipush 122, 2) := by decide +kernel
theorem dX5_kindAt_38 : decode cX5_kindAt 38 = .ok (.if_icmp .gt 7, 3) := by decide +kernel
theorem dX5_kindAt_41 : decode cX5_kindAt 41 = .ok (.iconst 1, 1) := by decide +kernel
theorem dX5_kindAt_42 : decode cX5_kindAt 42 = .ok (.goto 4, 3) := by decide +kernel
theorem dX5_kindAt_45 : decode cX5_kindAt 45 = .ok (.iconst 0, 1) := by decide +kernel
theorem dX5_kindAt_46 : decode cX5_kindAt 46 = .ok (.istore_n 3, 1) := by decide +kernel
theorem dX5_kindAt_47 : decode cX5_kindAt 47 = .ok (.iload_n 2, 1) := by decide +kernel
theorem dX5_kindAt_48 : decode cX5_kindAt 48 = .ok (.bipush 65, 2) := by decide +kernel
theorem dX5_kindAt_50 : decode cX5_kindAt 50 = .ok (.if_icmp .lt 13, 3) := by decide +kernel
theorem dX5_kindAt_53 : decode cX5_kindAt 53 = .ok (.iload_n 2, 1) := by decide +kernel
theorem dX5_kindAt_54 : decode cX5_kindAt 54 = .ok (.bipush 90, 2) := by decide +kernel
theorem dX5_kindAt_56 : decode cX5_kindAt 56 = .ok (.if_icmp .gt 7, 3) := by decide +kernel
theorem dX5_kindAt_59 : decode cX5_kindAt 59 = .ok (.iconst 1, 1) := by decide +kernel
theorem dX5_kindAt_60 : decode cX5_kindAt 60 = .ok (.goto 4, 3) := by decide +kernel
theorem dX5_kindAt_63 : decode cX5_kindAt 63 = .ok (.iconst 0, 1) := by decide +kernel
theorem dX5_kindAt_64 : decode cX5_kindAt 64 = .ok (.istore 4, 2) := by decide +kernel
theorem dX5_kindAt_66 : decode cX5_kindAt 66 = .ok (.iload_n 2, 1) := by decide +kernel
theorem dX5_kindAt_67 : decode cX5_kindAt 67 = .ok (.bipush 48, 2) := by decide +kernel
theorem dX5_kindAt_69 : decode cX5_kindAt 69 = .ok (.if_icmp .lt 13, 3) := by decide +kernel
theorem dX5_kindAt_72 : decode cX5_kindAt 72 = .ok (.iload_n 2, 1) := by decide +kernel
theorem dX5_kindAt_73 : decode cX5_kindAt 73 = .ok (.bipush 57, 2) := by decide +kernel
theorem dX5_kindAt_75 : decode cX5_kindAt 75 = .ok (.if_icmp .gt 7, 3) := by decide +kernel
theorem dX5_kindAt_78 : decode cX5_kindAt 78 = .ok (.iconst 1, 1) := by decide +kernel
theorem dX5_kindAt_79 : decode cX5_kindAt 79 = .ok (.goto 4, 3) := by decide +kernel
theorem dX5_kindAt_82 : decode cX5_kindAt 82 = .ok (.iconst 0, 1) := by decide +kernel
theorem dX5_kindAt_83 : decode cX5_kindAt 83 = .ok (.istore 5, 2) := by decide +kernel
theorem dX5_kindAt_85 : decode cX5_kindAt 85 = .ok (.iload_n 3, 1) := by decide +kernel
theorem dX5_kindAt_86 : decode cX5_kindAt 86 = .ok (.ifCond .ne 13, 3) := by decide +kernel
theorem dX5_kindAt_89 : decode cX5_kindAt 89 = .ok (.iload 4, 2) := by decide +kernel
theorem dX5_kindAt_91 : decode cX5_kindAt 91 = .ok (.ifCond .ne 8, 3) := by decide +kernel
theorem dX5_kindAt_94 : decode cX5_kindAt 94 = .ok (.iload 5, 2) := by decide +kernel
theorem dX5_kindAt_96 : decode cX5_kindAt 96 = .ok (.ifCond .eq 7, 3) := by decide +kernel
theorem dX5_kindAt_99 : decode cX5_kindAt 99 = .ok (.iconst 1, 1) := by decide +kernel
theorem dX5_kindAt_100 : decode cX5_kindAt 100 = .ok (.goto 4, 3) := by decide +kernel
theorem dX5_kindAt_103 : decode cX5_kindAt 103 = .ok (.iconst 2, 1) := by decide +kernel
theorem dX5_kindAt_104 : decode cX5_kindAt 104 = .ok (.ireturn, 1) := by decide +kernel
theorem dX5_behindKind_0 : decode cX5_behindKind 0 = .ok (.iload_n 1, 1) := by decide +kernel
theorem dX5_behindKind_1 : decode cX5_behindKind 1 = .ok (.istore_n 3, 1) := by decide +kernel
theorem dX5_behindKind_2 : decode cX5_behindKind 2 = .ok (.iload_n 3, 1) := by decide +kernel
theorem dX5_behindKind_3 : decode cX5_behindKind 3 = .ok (.aload_n 0, 1) := by decide +kernel
theorem dX5_behindKind_4 : decode cX5_behindKind 4 = .ok (.getfield 21, 3) := by decide +kernel
theorem dX5_behindKind_7 : decode cX5_behindKind 7 = .ok (.if_icmp .ge 18, 3) := by decide +kernel
theorem dX5_behindKind_10 : decode cX5_behindKind 10 = .ok (.aload_n 0, 1) := by decide +kernel
theorem dX5_behindKind_11 : decode cX5_behindKind 11 = .ok (.iload_n 3, 1) := by decide +kernel
theorem dX5_behindKind_12 : decode cX5_behindKind 12 = .ok (.invokevirtual 42, 3) := by decide +kernel
theorem dX5_behindKind_15 : decode cX5_behindKind 15 = .ok (.iload_n 2, 1) := by decide +kernel
theorem dX5_behindKind_16 : decode cX5_behindKind 16 = .ok (.if_icmp .ne 9, 3) := by decide +kernel
theorem dX5_behindKind_19 : decode cX5_behindKind 19 = .ok (.iinc 3 1, 3) := by decide +kernel
theorem dX5_behindKind_22 : decode cX5_behindKind 22 = .ok (.goto (-20), 3) := by decide +kernel
theorem dX5_behindKind_25 : decode cX5_behindKind 25 = .ok (.iload_n 3, 1) := by decide +kernel
theorem dX5_behindKind_26 : decode cX5_behindKind 26 = .ok (.ireturn, 1) := by decide +kernel
theorem dX5_beginOfKind_0 : decode cX5_beginOfKind 0 = .ok (.iload_n 1, 1) := by decide +kernel
theorem dX5_beginOfKind_1 : decode cX5_beginOfKind 1 = .ok (.istore_n 3, 1) := by decide +kernel
theorem dX5_beginOfKind_2 : decode cX5_beginOfKind 2 = .ok (.iload_n 3, 1) := by decide +kernel
theorem dX5_beginOfKind_3 : decode cX5_beginOfKind 3 = .ok (.ifCond .le 20, 3) := by decide +kernel
theorem dX5_beginOfKind_6 : decode cX5_beginOfKind 6 = .ok (.aload_n 0, 1) := by decide +kernel
theorem dX5_beginOfKind_7 : decode cX5_beginOfKind 7 = .ok (.iload_n 3, 1) := by decide +kernel
theorem dX5_beginOfKind_8 : decode cX5_beginOfKind 8 = .ok (.iconst 1, 1) := by decide +kernel
theorem dX5_beginOfKind_9 : decode cX5_beginOfKind 9 = .ok (.isub, 1) := by decide +kernel
theorem dX5_beginOfKind_10 : decode cX5_beginOfKind 10 = .ok (.invokevirtual 42, 3) := by decide +kernel
theorem dX5_beginOfKind_13 : decode cX5_beginOfKind 13 = .ok (.iload_n 2, 1) := by decide +kernel
theorem dX5_beginOfKind_14 : decode cX5_beginOfKind 14 = .ok (.if_icmp .ne 9, 3) := by decide +kernel
theorem dX5_beginOfKind_17 : decode cX5_beginOfKind 17 = .ok (.iinc 3 (-1), 3) := by decide +kernel
theorem dX5_beginOfKind_20 : decode cX5_beginOfKind 20 = .ok (.goto (-18), 3) := by decide +kernel
theorem dX5_beginOfKind_23 : decode cX5_beginOfKind 23 = .ok (.iload_n 3, 1) := by decide +kernel
theorem dX5_beginOfKind_24 : decode cX5_beginOfKind 24 = .ok (.ireturn, 1) := by decide +kernel
theorem dX5_lead_0 : decode cX5_lead 0 = .ok (.iload_n 1, 1) := by decide +kernel
theorem dX5_lead_1 : decode cX5_lead 1 = .ok (.tableswitch 115 0 5 #[39, 47, 58, 60, 65, 95], 39) := by decide +kernel
theorem dX5_lead_40 : decode cX5_lead 40 = .ok (.iconst 0, 1) := by decide +kernel
theorem dX5_lead_41 : decode cX5_lead 41 = .ok (.iload_n 2, 1) := by decide +kernel
theorem dX5_lead_42 : decode cX5_lead 42 = .ok (.iconst 1, 1) := by decide +kernel
theorem dX5_lead_43 : decode cX5_lead 43 = .ok (.isub, 1) := by decide +kernel
theorem dX5_lead_44 : decode cX5_lead 44 = .ok (.invokestatic 46, 3) := by decide +kernel
theorem dX5_lead_47 : decode cX5_lead 47 = .ok (.ireturn, 1) := by decide +kernel
theorem dX5_lead_48 : decode cX5_lead 48 = .ok (.aload_n 0, 1) := by decide +kernel
theorem dX5_lead_49 : decode cX5_lead 49 = .ok (.getfield 21, 3) := by decide +kernel
theorem dX5_lead_52 : decode cX5_lead 52 = .ok (.iload_n 2, 1) := by decide +kernel
theorem dX5_lead_53 : decode cX5_lead 53 = .ok (.iconst 1, 1) := by decide +kernel
theorem dX5_lead_54 : decode cX5_lead 54 = .ok (.iadd, 1) := by decide +kernel
theorem dX5_lead_55 : decode cX5_lead 55 = .ok (.invokestatic 36, 3) := by decide +kernel
theorem dX5_lead_58 : decode cX5_lead 58 = .ok (.ireturn, 1) := by decide +kernel
theorem dX5_lead_59 : decode cX5_lead 59 = .ok (.iconst 0, 1) := by decide +kernel
theorem dX5_lead_60 : decode cX5_lead 60 = .ok (.ireturn, 1) := by decide +kernel
theorem dX5_lead_61 : decode cX5_lead 61 = .ok (.aload_n 0, 1) := by decide +kernel
theorem dX5_lead_62 : decode cX5_lead 62 = .ok (.invokevirtual 32, 3) := by decide +kernel
theorem dX5_lead_65 : decode cX5_lead 65 = .ok (.ireturn, 1) := by decide +kernel
theorem dX5_lead_66 : decode cX5_lead 66 = .ok (.aload_n 0, 1) := by decide +kernel
theorem dX5_lead_67 : decode cX5_lead 67 = .ok (.iload_n 2, 1) := by decide +kernel
theorem dX5_lead_68 : decode cX5_lead 68 = .ok (.invokevirtual 42, 3) := by decide +kernel
theorem dX5_lead_71 : decode cX5_lead 71 = .ok (.ifCond .ne 7, 3) := by decide +kernel
theorem dX5_lead_74 : decode cX5_lead 74 = .ok (.iload_n 2, 1) := by decide +kernel
theorem dX5_lead_75 : decode cX5_lead 75 = .ok (.goto 13, 3) := by decide +kernel
end
section
theorem dX5_lead_78 : decode cX5_lead 78 = .ok (.aload_n 0, 1) := by decide +kernel
theorem dX5_lead_79 : decode cX5_lead 79 = .ok (.iload_n 2, 1) := by decide +kernel
theorem dX5_lead_80 : decode cX5_lead 80 = .ok (.aload_n 0, 1) := by decide +kernel
theorem dX5_lead_81 : decode cX5_lead 81 = .ok (.iload_n 2, 1) := by decide +kernel
theorem dX5_lead_82 : decode cX5_lead 82 = .ok (.invokevirtual 42, 3) := by decide +kernel
theorem dX5_lead_85 : decode cX5_lead 85 = .ok (.invokevirtual 49, 3) := by decide +kernel
theorem dX5_lead_88 : decode cX5_lead 88 = .ok (.istore_n 3, 1) := by decide +kernel
theorem dX5_lead_89 : decode cX5_lead 89 = .ok (.aload_n 0, 1) := by decide +kernel
theorem dX5_lead_90 : decode cX5_lead 90 = .ok (.iload_n 3, 1) := by decide +kernel
theorem dX5_lead_91 : decode cX5_lead 91 = .ok (.iconst 0, 1) := by decide +kernel
theorem dX5_lead_92 : decode cX5_lead 92 = .ok (.invokevirtual 49, 3) := by decide +kernel
theorem dX5_lead_95 : decode cX5_lead 95 = .ok (.ireturn, 1) := by decide +kernel
theorem dX5_lead_96 : decode cX5_lead 96 = .ok (.aload_n 0, 1) := by decide +kernel
theorem dX5_lead_97 : decode cX5_lead 97 = .ok (.iload_n 2, 1) := by decide +kernel
theorem dX5_lead_98 : decode cX5_lead 98 = .ok (.iconst 0, 1) := by decide +kernel
theorem dX5_lead_99 : decode cX5_lead 99 = .ok (.invokevirtual 52, 3) := by decide +kernel
theorem dX5_lead_102 : decode cX5_lead 102 = .ok (.istore_n 3, 1) := by decide +kernel
theorem dX5_lead_103 : decode cX5_lead 103 = .ok (.aload_n 0, 1) := by decide +kernel
theorem dX5_lead_104 : decode cX5_lead 104 = .ok (.iload_n 3, 1) := by decide +kernel
theorem dX5_lead_105 : decode cX5_lead 105 = .ok (.aload_n 0, 1) := by decide +kernel
theorem dX5_lead_106 : decode cX5_lead 106 = .ok (.iload_n 3, 1) := by decide +kernel
theorem dX5_lead_107 : decode cX5_lead 107 = .ok (.iconst 1, 1) := by decide +kernel
theorem dX5_lead_108 : decode cX5_lead 108 = .ok (.isub, 1) := by decide +kernel
theorem dX5_lead_109 : decode cX5_lead 109 = .ok (.invokevirtual 42, 3) := by decide +kernel
theorem dX5_lead_112 : decode cX5_lead 112 = .ok (.invokevirtual 52, 3) := by decide +kernel
theorem dX5_lead_115 : decode cX5_lead 115 = .ok (.ireturn, 1) := by decide +kernel
theorem dX5_lead_116 : decode cX5_lead 116 = .ok (.aload_n 0, 1) := by decide +kernel
theorem dX5_lead_117 : decode cX5_lead 117 = .ok (.iload_n 2, 1) := by decide +kernel
theorem dX5_lead_118 : decode cX5_lead 118 = .ok (.iconst 1, 1) := by decide +kernel
theorem dX5_lead_119 : decode cX5_lead 119 = .ok (.iadd, 1) := by decide +kernel
theorem dX5_lead_120 : decode cX5_lead 120 = .ok (.iconst 0, 1) := by decide +kernel
theorem dX5_lead_121 : decode cX5_lead 121 = .ok (.invokevirtual 49, 3) := by decide +kernel
theorem dX5_lead_124 : decode cX5_lead 124 = .ok (.istore_n 3, 1) := by decide +kernel
theorem dX5_lead_125 : decode cX5_lead 125 = .ok (.iload_n 3, 1) := by decide +kernel
theorem dX5_lead_126 : decode cX5_lead 126 = .ok (.aload_n 0, 1) := by decide +kernel
theorem dX5_lead_127 : decode cX5_lead 127 = .ok (.getfield 21, 3) := by decide +kernel
theorem dX5_lead_130 : decode cX5_lead 130 = .ok (.if_icmp .ge 18, 3) := by decide +kernel
theorem dX5_lead_133 : decode cX5_lead 133 = .ok (.aload_n 0, 1) := by decide +kernel
theorem dX5_lead_134 : decode cX5_lead 134 = .ok (.iload_n 3, 1) := by decide +kernel
theorem dX5_lead_135 : decode cX5_lead 135 = .ok (.aload_n 0, 1) := by decide +kernel
theorem dX5_lead_136 : decode cX5_lead 136 = .ok (.iload_n 3, 1) := by decide +kernel
theorem dX5_lead_137 : decode cX5_lead 137 = .ok (.invokevirtual 42, 3) := by decide +kernel
theorem dX5_lead_140 : decode cX5_lead 140 = .ok (.invokevirtual 49, 3) := by decide +kernel
theorem dX5_lead_143 : decode cX5_lead 143 = .ok (.iconst 1, 1) := by decide +kernel
theorem dX5_lead_144 : decode cX5_lead 144 = .ok (.isub, 1) := by decide +kernel
theorem dX5_lead_145 : decode cX5_lead 145 = .ok (.goto 7, 3) := by decide +kernel
theorem dX5_lead_148 : decode cX5_lead 148 = .ok (.aload_n 0, 1) := by decide +kernel
theorem dX5_lead_149 : decode cX5_lead 149 = .ok (.invokevirtual 32, 3) := by decide +kernel
theorem dX5_lead_152 : decode cX5_lead 152 = .ok (.ireturn, 1) := by decide +kernel
theorem dX5_deed_0 : decode cX5_deed 0 = .ok (.aload_n 0, 1) := by decide +kernel
theorem dX5_deed_1 : decode cX5_deed 1 = .ok (.iload_n 1, 1) := by decide +kernel
theorem dX5_deed_2 : decode cX5_deed 2 = .ok (.iload_n 2, 1) := by decide +kernel
theorem dX5_deed_3 : decode cX5_deed 3 = .ok (.invokevirtual 55, 3) := by decide +kernel
theorem dX5_deed_6 : decode cX5_deed 6 = .ok (.aload_n 0, 1) := by decide +kernel
theorem dX5_deed_7 : decode cX5_deed 7 = .ok (.invokevirtual 32, 3) := by decide +kernel
theorem dX5_deed_10 : decode cX5_deed 10 = .ok (.invokestatic 36, 3) := by decide +kernel
theorem dX5_deed_13 : decode cX5_deed 13 = .ok (.ireturn, 1) := by decide +kernel
theorem dX5_findBehind_0 : decode cX5_findBehind 0 = .ok (.iconst 0, 1) := by decide +kernel
theorem dX5_findBehind_1 : decode cX5_findBehind 1 = .ok (.istore 4, 2) := by decide +kernel
theorem dX5_findBehind_3 : decode cX5_findBehind 3 = .ok (.iload_n 1, 1) := by decide +kernel
theorem dX5_findBehind_4 : decode cX5_findBehind 4 = .ok (.iconst 1, 1) := by decide +kernel
theorem dX5_findBehind_5 : decode cX5_findBehind 5 = .ok (.iadd, 1) := by decide +kernel
theorem dX5_findBehind_6 : decode cX5_findBehind 6 = .ok (.istore 5, 2) := by decide +kernel
theorem dX5_findBehind_8 : decode cX5_findBehind 8 = .ok (.iload 5, 2) := by decide +kernel
theorem dX5_findBehind_10 : decode cX5_findBehind 10 = .ok (.aload_n 0, 1) := by decide +kernel
theorem dX5_findBehind_11 : decode cX5_findBehind 11 = .ok (.getfield 21, 3) := by decide +kernel
theorem dX5_findBehind_14 : decode cX5_findBehind 14 = .ok (.if_icmp .ge 32, 3) := by decide +kernel
theorem dX5_findBehind_17 : decode cX5_findBehind 17 = .ok (.aload_n 0, 1) := by decide +kernel
theorem dX5_findBehind_18 : decode cX5_findBehind 18 = .ok (.getfield 9, 3) := by decide +kernel
theorem dX5_findBehind_21 : decode cX5_findBehind 21 = .ok (.iload 5, 2) := by decide +kernel
theorem dX5_findBehind_23 : decode cX5_findBehind 23 = .ok (.iaload, 1) := by decide +kernel
theorem dX5_findBehind_24 : decode cX5_findBehind 24 = .ok (.iload_n 2, 1) := by decide +kernel
theorem dX5_findBehind_25 : decode cX5_findBehind 25 = .ok (.if_icmp .ne 6, 3) := by decide +kernel
theorem dX5_findBehind_28 : decode cX5_findBehind 28 = .ok (.iinc 4 1, 3) := by decide +kernel
theorem dX5_findBehind_31 : decode cX5_findBehind 31 = .ok (.iload 4, 2) := by decide +kernel
theorem dX5_findBehind_33 : decode cX5_findBehind 33 = .ok (.iload_n 3, 1) := by decide +kernel
theorem dX5_findBehind_34 : decode cX5_findBehind 34 = .ok (.if_icmp .ne 6, 3) := by decide +kernel
theorem dX5_findBehind_37 : decode cX5_findBehind 37 = .ok (.iload 5, 2) := by decide +kernel
theorem dX5_findBehind_39 : decode cX5_findBehind 39 = .ok (.ireturn, 1) := by decide +kernel
theorem dX5_findBehind_40 : decode cX5_findBehind 40 = .ok (.iinc 5 1, 3) := by decide +kernel
theorem dX5_findBehind_43 : decode cX5_findBehind 43 = .ok (.goto (-35), 3) := by decide +kernel
theorem dX5_findBehind_46 : decode cX5_findBehind 46 = .ok (.iconst (-1), 1) := by decide +kernel
theorem dX5_findBehind_47 : decode cX5_findBehind 47 = .ok (.ireturn, 1) := by decide +kernel
theorem dX5_openingRound_0 : decode cX5_openingRound 0 = .ok (.iconst 0, 1) := by decide +kernel
theorem dX5_openingRound_1 : decode cX5_openingRound 1 = .ok (.istore_n 2, 1) := by decide +kernel
theorem dX5_openingRound_2 : decode cX5_openingRound 2 = .ok (.iload_n 1, 1) := by decide +kernel
theorem dX5_openingRound_3 : decode cX5_openingRound 3 = .ok (.istore_n 3, 1) := by decide +kernel
theorem dX5_openingRound_4 : decode cX5_openingRound 4 = .ok (.iload_n 3, 1) := by decide +kernel
theorem dX5_openingRound_5 : decode cX5_openingRound 5 = .ok (.ifCond .lt 49, 3) := by decide +kernel
theorem dX5_openingRound_8 : decode cX5_openingRound 8 = .ok (.aload_n 0, 1) := by decide +kernel
theorem dX5_openingRound_9 : decode cX5_openingRound 9 = .ok (.iload_n 3, 1) := by decide +kernel
theorem dX5_openingRound_10 : decode cX5_openingRound 10 = .ok (.invokevirtual 58, 3) := by decide +kernel
theorem dX5_openingRound_13 : decode cX5_openingRound 13 = .ok (.bipush 40, 2) := by decide +kernel
theorem dX5_openingRound_15 : decode cX5_openingRound 15 = .ok (.if_icmp .ne 15, 3) := by decide +kernel
theorem dX5_openingRound_18 : decode cX5_openingRound 18 = .ok (.iload_n 2, 1) := by decide +kernel
theorem dX5_openingRound_19 : decode cX5_openingRound 19 = .ok (.ifCond .ne 5, 3) := by decide +kernel
theorem dX5_openingRound_22 : decode cX5_openingRound 22 = .ok (.iload_n 3, 1) := by decide +kernel
theorem dX5_openingRound_23 : decode cX5_openingRound 23 = .ok (.ireturn, 1) := by decide +kernel
theorem dX5_openingRound_24 : decode cX5_openingRound 24 = .ok (.iinc 2 (-1), 3) := by decide +kernel
theorem dX5_openingRound_27 : decode cX5_openingRound 27 = .ok (.goto 21, 3) := by decide +kernel
theorem dX5_openingRound_30 : decode cX5_openingRound 30 = .ok (.aload_n 0, 1) := by decide +kernel
theorem dX5_openingRound_31 : decode cX5_openingRound 31 = .ok (.iload_n 3, 1) := by decide +kernel
theorem dX5_openingRound_32 : decode cX5_openingRound 32 = .ok (.invokevirtual 58, 3) := by decide +kernel
theorem dX5_openingRound_35 : decode cX5_openingRound 35 = .ok (.bipush 41, 2) := by decide +kernel
theorem dX5_openingRound_37 : decode cX5_openingRound 37 = .ok (.if_icmp .ne 11, 3) := by decide +kernel
theorem dX5_openingRound_40 : decode cX5_openingRound 40 = .ok (.iload_n 3, 1) := by decide +kernel
theorem dX5_openingRound_41 : decode cX5_openingRound 41 = .ok (.iload_n 1, 1) := by decide +kernel
theorem dX5_openingRound_42 : decode cX5_openingRound 42 = .ok (.if_icmp .eq 6, 3) := by decide +kernel
theorem dX5_openingRound_45 : decode cX5_openingRound 45 = .ok (.iinc 2 1, 3) := by decide +kernel
theorem dX5_openingRound_48 : decode cX5_openingRound 48 = .ok (.iinc 3 (-1), 3) := by decide +kernel
theorem dX5_openingRound_51 : decode cX5_openingRound 51 = .ok (.goto (-47), 3) := by decide +kernel
theorem dX5_openingRound_54 : decode cX5_openingRound 54 = .ok (.iconst (-1), 1) := by decide +kernel
theorem dX5_openingRound_55 : decode cX5_openingRound 55 = .ok (.ireturn, 1) := by decide +kernel
theorem dX5_closingOf_0 : decode cX5_closingOf 0 = .ok (.iconst 0, 1) := by decide +kernel
theorem dX5_closingOf_1 : decode cX5_closingOf 1 = .ok (.istore_n 2, 1) := by decide +kernel
theorem dX5_closingOf_2 : decode cX5_closingOf 2 = .ok (.iload_n 1, 1) := by decide +kernel
theorem dX5_closingOf_3 : decode cX5_closingOf 3 = .ok (.iconst 1, 1) := by decide +kernel
theorem dX5_closingOf_4 : decode cX5_closingOf 4 = .ok (.iadd, 1) := by decide +kernel
theorem dX5_closingOf_5 : decode cX5_closingOf 5 = .ok (.istore_n 3, 1) := by decide +kernel
theorem dX5_closingOf_6 : decode cX5_closingOf 6 = .ok (.iload_n 3, 1) := by decide +kernel
theorem dX5_closingOf_7 : decode cX5_closingOf 7 = .ok (.aload_n 0, 1) := by decide +kernel
theorem dX5_closingOf_8 : decode cX5_closingOf 8 = .ok (.getfield 21, 3) := by decide +kernel
theorem dX5_closingOf_11 : decode cX5_closingOf 11 = .ok (.if_icmp .ge 44, 3) := by decide +kernel
theorem dX5_closingOf_14 : decode cX5_closingOf 14 = .ok (.aload_n 0, 1) := by decide +kernel
theorem dX5_closingOf_15 : decode cX5_closingOf 15 = .ok (.iload_n 3, 1) := by decide +kernel
theorem dX5_closingOf_16 : decode cX5_closingOf 16 = .ok (.invokevirtual 58, 3) := by decide +kernel
theorem dX5_closingOf_19 : decode cX5_closingOf 19 = .ok (.bipush 41, 2) := by decide +kernel
theorem dX5_closingOf_21 : decode cX5_closingOf 21 = .ok (.if_icmp .ne 15, 3) := by decide +kernel
theorem dX5_closingOf_24 : decode cX5_closingOf 24 = .ok (.iload_n 2, 1) := by decide +kernel
theorem dX5_closingOf_25 : decode cX5_closingOf 25 = .ok (.ifCond .ne 5, 3) := by decide +kernel
theorem dX5_closingOf_28 : decode cX5_closingOf 28 = .ok (.iload_n 3, 1) := by decide +kernel
theorem dX5_closingOf_29 : decode cX5_closingOf 29 = .ok (.ireturn, 1) := by decide +kernel
theorem dX5_closingOf_30 : decode cX5_closingOf 30 = .ok (.iinc 2 (-1), 3) := by decide +kernel
theorem dX5_closingOf_33 : decode cX5_closingOf 33 = .ok (.goto 16, 3) := by decide +kernel
theorem dX5_closingOf_36 : decode cX5_closingOf 36 = .ok (.aload_n 0, 1) := by decide +kernel
theorem dX5_closingOf_37 : decode cX5_closingOf 37 = .ok (.iload_n 3, 1) := by decide +kernel
theorem dX5_closingOf_38 : decode cX5_closingOf 38 = .ok (.invokevirtual 58, 3) := by decide +kernel
theorem dX5_closingOf_41 : decode cX5_closingOf 41 = .ok (.bipush 40, 2) := by decide +kernel
theorem dX5_closingOf_43 : decode cX5_closingOf 43 = .ok (.if_icmp .ne 6, 3) := by decide +kernel
theorem dX5_closingOf_46 : decode cX5_closingOf 46 = .ok (.iinc 2 1, 3) := by decide +kernel
theorem dX5_closingOf_49 : decode cX5_closingOf 49 = .ok (.iinc 3 1, 3) := by decide +kernel
theorem dX5_closingOf_52 : decode cX5_closingOf 52 = .ok (.goto (-46), 3) := by decide +kernel
theorem dX5_closingOf_55 : decode cX5_closingOf 55 = .ok (.iconst (-1), 1) := by decide +kernel
theorem dX5_closingOf_56 : decode cX5_closingOf 56 = .ok (.ireturn, 1) := by decide +kernel
theorem dX5_words_0 : decode cX5_words 0 = .ok (.iconst 0, 1) := by decide +kernel
theorem dX5_words_1 : decode cX5_words 1 = .ok (.istore_n 1, 1) := by decide +kernel
theorem dX5_words_2 : decode cX5_words 2 = .ok (.iconst 0, 1) := by decide +kernel
theorem dX5_words_3 : decode cX5_words 3 = .ok (.istore_n 2, 1) := by decide +kernel
theorem dX5_words_4 : decode cX5_words 4 = .ok (.iload_n 2, 1) := by decide +kernel
theorem dX5_words_5 : decode cX5_words 5 = .ok (.aload_n 0, 1) := by decide +kernel
theorem dX5_words_6 : decode cX5_words 6 = .ok (.getfield 21, 3) := by decide +kernel
theorem dX5_words_9 : decode cX5_words 9 = .ok (.if_icmp .ge 32, 3) := by decide +kernel
theorem dX5_words_12 : decode cX5_words 12 = .ok (.aload_n 0, 1) := by decide +kernel
theorem dX5_words_13 : decode cX5_words 13 = .ok (.iload_n 2, 1) := by decide +kernel
theorem dX5_words_14 : decode cX5_words 14 = .ok (.invokevirtual 42, 3) := by decide +kernel
theorem dX5_words_17 : decode cX5_words 17 = .ok (.iconst 1, 1) := by decide +kernel
theorem dX5_words_18 : decode cX5_words 18 = .ok (.if_icmp .ne 17, 3) := by decide +kernel
theorem dX5_words_21 : decode cX5_words 21 = .ok (.aload_n 0, 1) := by decide +kernel
theorem dX5_words_22 : decode cX5_words 22 = .ok (.iload_n 2, 1) := by decide +kernel
theorem dX5_words_23 : decode cX5_words 23 = .ok (.iconst 1, 1) := by decide +kernel
theorem dX5_words_24 : decode cX5_words 24 = .ok (.isub, 1) := by decide +kernel
theorem dX5_words_25 : decode cX5_words 25 = .ok (.invokevirtual 42, 3) := by decide +kernel
theorem dX5_words_28 : decode cX5_words 28 = .ok (.iconst 1, 1) := by decide +kernel
theorem dX5_words_29 : decode cX5_words 29 = .ok (.if_icmp .eq 6, 3) := by decide +kernel
theorem dX5_words_32 : decode cX5_words 32 = .ok (.iinc 1 1, 3) := by decide +kernel
theorem dX5_words_35 : decode cX5_words 35 = .ok (.iinc 2 1, 3) := by decide +kernel
theorem dX5_words_38 : decode cX5_words 38 = .ok (.goto (-34), 3) := by decide +kernel
theorem dX5_words_41 : decode cX5_words 41 = .ok (.iload_n 1, 1) := by decide +kernel
theorem dX5_words_42 : decode cX5_words 42 = .ok (.ireturn, 1) := by decide +kernel
theorem dX5_takeOut_0 : decode cX5_takeOut 0 = .ok (.aload_n 0, 1) := by decide +kernel
theorem dX5_takeOut_1 : decode cX5_takeOut 1 = .ok (.getfield 9, 3) := by decide +kernel
theorem dX5_takeOut_4 : decode cX5_takeOut 4 = .ok (.iload_n 2, 1) := by decide +kernel
theorem dX5_takeOut_5 : decode cX5_takeOut 5 = .ok (.aload_n 0, 1) := by decide +kernel
theorem dX5_takeOut_6 : decode cX5_takeOut 6 = .ok (.getfield 9, 3) := by decide +kernel
theorem dX5_takeOut_9 : decode cX5_takeOut 9 = .ok (.iload_n 1, 1) := by decide +kernel
theorem dX5_takeOut_10 : decode cX5_takeOut 10 = .ok (.aload_n 0, 1) := by decide +kernel
theorem dX5_takeOut_11 : decode cX5_takeOut 11 = .ok (.getfield 21, 3) := by decide +kernel
theorem dX5_takeOut_14 : decode cX5_takeOut 14 = .ok (.iload_n 2, 1) := by decide +kernel
theorem dX5_takeOut_15 : decode cX5_takeOut 15 = .ok (.isub, 1) := by decide +kernel
theorem dX5_takeOut_16 : decode cX5_takeOut 16 = .ok (.invokestatic 15, 3) := by decide +kernel
theorem dX5_takeOut_19 : decode cX5_takeOut 19 = .ok (.aload_n 0, 1) := by decide +kernel
theorem dX5_takeOut_20 : decode cX5_takeOut 20 = .ok (.dup, 1) := by decide +kernel
theorem dX5_takeOut_21 : decode cX5_takeOut 21 = .ok (.getfield 21, 3) := by decide +kernel
theorem dX5_takeOut_24 : decode cX5_takeOut 24 = .ok (.iload_n 2, 1) := by decide +kernel
theorem dX5_takeOut_25 : decode cX5_takeOut 25 = .ok (.iload_n 1, 1) := by decide +kernel
theorem dX5_takeOut_26 : decode cX5_takeOut 26 = .ok (.isub, 1) := by decide +kernel
theorem dX5_takeOut_27 : decode cX5_takeOut 27 = .ok (.isub, 1) := by decide +kernel
theorem dX5_takeOut_28 : decode cX5_takeOut 28 = .ok (.putfield 21, 3) := by decide +kernel
theorem dX5_takeOut_31 : decode cX5_takeOut 31 = .ok (.return_, 1) := by decide +kernel
theorem dX5_makeRoom_0 : decode cX5_makeRoom 0 = .ok (.aload_n 0, 1) := by decide +kernel
theorem dX5_makeRoom_1 : decode cX5_makeRoom 1 = .ok (.getfield 9, 3) := by decide +kernel
theorem dX5_makeRoom_4 : decode cX5_makeRoom 4 = .ok (.iload_n 1, 1) := by decide +kernel
theorem dX5_makeRoom_5 : decode cX5_makeRoom 5 = .ok (.aload_n 0, 1) := by decide +kernel
theorem dX5_makeRoom_6 : decode cX5_makeRoom 6 = .ok (.getfield 9, 3) := by decide +kernel
theorem dX5_makeRoom_9 : decode cX5_makeRoom 9 = .ok (.iload_n 1, 1) := by decide +kernel
theorem dX5_makeRoom_10 : decode cX5_makeRoom 10 = .ok (.iload_n 2, 1) := by decide +kernel
theorem dX5_makeRoom_11 : decode cX5_makeRoom 11 = .ok (.iadd, 1) := by decide +kernel
theorem dX5_makeRoom_12 : decode cX5_makeRoom 12 = .ok (.aload_n 0, 1) := by decide +kernel
theorem dX5_makeRoom_13 : decode cX5_makeRoom 13 = .ok (.getfield 21, 3) := by decide +kernel
theorem dX5_makeRoom_16 : decode cX5_makeRoom 16 = .ok (.iload_n 1, 1) := by decide +kernel
theorem dX5_makeRoom_17 : decode cX5_makeRoom 17 = .ok (.isub, 1) := by decide +kernel
theorem dX5_makeRoom_18 : decode cX5_makeRoom 18 = .ok (.invokestatic 15, 3) := by decide +kernel
theorem dX5_makeRoom_21 : decode cX5_makeRoom 21 = .ok (.aload_n 0, 1) := by decide +kernel
theorem dX5_makeRoom_22 : decode cX5_makeRoom 22 = .ok (.dup, 1) := by decide +kernel
theorem dX5_makeRoom_23 : decode cX5_makeRoom 23 = .ok (.getfield 21, 3) := by decide +kernel
theorem dX5_makeRoom_26 : decode cX5_makeRoom 26 = .ok (.iload_n 2, 1) := by decide +kernel
theorem dX5_makeRoom_27 : decode cX5_makeRoom 27 = .ok (.iadd, 1) := by decide +kernel
theorem dX5_makeRoom_28 : decode cX5_makeRoom 28 = .ok (.putfield 21, 3) := by decide +kernel
theorem dX5_makeRoom_31 : decode cX5_makeRoom 31 = .ok (.return_, 1) := by decide +kernel
theorem dX5_swapCase_0 : decode cX5_swapCase 0 = .ok (.aload_n 0, 1) := by decide +kernel
theorem dX5_swapCase_1 : decode cX5_swapCase 1 = .ok (.getfield 9, 3) := by decide +kernel
theorem dX5_swapCase_4 : decode cX5_swapCase 4 = .ok (.iload_n 1, 1) := by decide +kernel
theorem dX5_swapCase_5 : decode cX5_swapCase 5 = .ok (.iaload, 1) := by decide +kernel
theorem dX5_swapCase_6 : decode cX5_swapCase 6 = .ok (.istore_n 2, 1) := by decide +kernel
theorem dX5_swapCase_7 : decode cX5_swapCase 7 = .ok (.iload_n 2, 1) := by decide +kernel
theorem dX5_swapCase_8 : decode cX5_swapCase 8 = .ok (.bipush 97, 2) := by decide +kernel
theorem dX5_swapCase_10 : decode cX5_swapCase 10 = .ok (.if_icmp .lt 25, 3) := by decide +kernel
theorem dX5_swapCase_13 : decode cX5_swapCase 13 = .ok (.iload_n 2, 1) := by decide +kernel
theorem dX5_swapCase_14 : decode cX5_swapCase 14 = .ok (.bipush 122, 2) := by decide +kernel
theorem dX5_swapCase_16 : decode cX5_swapCase 16 = .ok (.if_icmp .gt 19, 3) := by decide +kernel
theorem dX5_swapCase_19 : decode cX5_swapCase 19 = .ok (.aload_n 0, 1) := by decide +kernel
theorem dX5_swapCase_20 : decode cX5_swapCase 20 = .ok (.getfield 9, 3) := by decide +kernel
theorem dX5_swapCase_23 : decode cX5_swapCase 23 = .ok (.iload_n 1, 1) := by decide +kernel
theorem dX5_swapCase_24 : decode cX5_swapCase 24 = .ok (.iload_n 2, 1) := by decide +kernel
theorem dX5_swapCase_25 : decode cX5_swapCase 25 = .ok (.bipush 97, 2) := by decide +kernel
theorem dX5_swapCase_27 : decode cX5_swapCase 27 = .ok (.isub, 1) := by decide +kernel
theorem dX5_swapCase_28 : decode cX5_swapCase 28 = .ok (.bipush 65, 2) := by decide +kernel
theorem dX5_swapCase_30 : decode cX5_swapCase 30 = .ok (.iadd, 1) := by decide +kernel
theorem dX5_swapCase_31 : decode cX5_swapCase 31 = .ok (.iastore, 1) := by decide +kernel
theorem dX5_swapCase_32 : decode cX5_swapCase 32 = .ok (.goto 28, 3) := by decide +kernel
theorem dX5_swapCase_35 : decode cX5_swapCase 35 = .ok (.iload_n 2, 1) := by decide +kernel
theorem dX5_swapCase_36 : decode cX5_swapCase 36 = .ok (.bipush 65, 2) := by decide +kernel
theorem dX5_swapCase_38 : decode cX5_swapCase 38 = .ok (.if_icmp .lt 22, 3) := by decide +kernel
theorem dX5_swapCase_41 : decode cX5_swapCase 41 = .ok (.iload_n 2, 1) := by decide +kernel
theorem dX5_swapCase_42 : decode cX5_swapCase 42 = .ok (.bipush 90, 2) := by decide +kernel
theorem dX5_swapCase_44 : decode cX5_swapCase 44 = .ok (.if_icmp .gt 16, 3) := by decide +kernel
theorem dX5_swapCase_47 : decode cX5_swapCase 47 = .ok (.aload_n 0, 1) := by decide +kernel
theorem dX5_swapCase_48 : decode cX5_swapCase 48 = .ok (.getfield 9, 3) := by decide +kernel
theorem dX5_swapCase_51 : decode cX5_swapCase 51 = .ok (.iload_n 1, 1) := by decide +kernel
theorem dX5_swapCase_52 : decode cX5_swapCase 52 = .ok (.iload_n 2, 1) := by decide +kernel
theorem dX5_swapCase_53 : decode cX5_swapCase 53 = .ok (.bipush 65, 2) := by decide +kernel
theorem dX5_swapCase_55 : decode cX5_swapCase 55 = .ok (.isub, 1) := by decide +kernel
theorem dX5_swapCase_56 : decode cX5_swapCase 56 = .ok (.bipush 97, 2) := by decide +kernel
theorem dX5_swapCase_58 : decode cX5_swapCase 58 = .ok (.iadd, 1) := by decide +kernel
theorem dX5_swapCase_59 : decode cX5_swapCase 59 = .ok (.iastore, 1) := by decide +kernel
theorem dX5_swapCase_60 : decode cX5_swapCase 60 = .ok (.return_, 1) := by decide +kernel
theorem dX6_init_0 : decode cX6_init 0 = .ok (.aload_n 0, 1) := by decide +kernel
theorem dX6_init_1 : decode cX6_init 1 = .ok (.invokespecial 3, 3) := by decide +kernel
theorem dX6_init_4 : decode cX6_init 4 = .ok (.aload_n 0, 1) := by decide +kernel
theorem dX6_init_5 : decode cX6_init 5 = .ok (.bipush 7, 2) := by decide +kernel
theorem dX6_init_7 : decode cX6_init 7 = .ok (.bipush 60, 2) := by decide +kernel
theorem dX6_init_9 : decode cX6_init 9 = .ok (.multianewarray 9 2, 4) := by decide +kernel
theorem dX6_init_13 : decode cX6_init 13 = .ok (.putfield 11, 3) := by decide +kernel
theorem dX6_init_16 : decode cX6_init 16 = .ok (.aload_n 0, 1) := by decide +kernel
theorem dX6_init_17 : decode cX6_init 17 = .ok (.bipush 60, 2) := by decide +kernel
theorem dX6_init_19 : decode cX6_init 19 = .ok (.newarray .int, 2) := by decide +kernel
theorem dX6_init_21 : decode cX6_init 21 = .ok (.putfield 16, 3) := by decide +kernel
theorem dX6_init_24 : decode cX6_init 24 = .ok (.aload_n 0, 1) := by decide +kernel
theorem dX6_init_25 : decode cX6_init 25 = .ok (.bipush 60, 2) := by decide +kernel
theorem dX6_init_27 : decode cX6_init 27 = .ok (.newarray .int, 2) := by decide +kernel
theorem dX6_init_29 : decode cX6_init 29 = .ok (.putfield 20, 3) := by decide +kernel
theorem dX6_init_32 : decode cX6_init 32 = .ok (.aload_n 0, 1) := by decide +kernel
theorem dX6_init_33 : decode cX6_init 33 = .ok (.bipush 60, 2) := by decide +kernel
theorem dX6_init_35 : decode cX6_init 35 = .ok (.newarray .int, 2) := by decide +kernel
theorem dX6_init_37 : decode cX6_init 37 = .ok (.putfield 23, 3) := by decide +kernel
theorem dX6_init_40 : decode cX6_init 40 = .ok (.return_, 1) := by decide +kernel
theorem dX6_survey_0 : decode cX6_survey 0 = .ok (.aload_n 0, 1) := by decide +kernel
theorem dX6_survey_1 : decode cX6_survey 1 = .ok (.aload_n 1, 1) := by decide +kernel
theorem dX6_survey_2 : decode cX6_survey 2 = .ok (.invokevirtual 26, 3) := by decide +kernel
theorem dX6_survey_5 : decode cX6_survey 5 = .ok (.iconst 1, 1) := by decide +kernel
theorem dX6_survey_6 : decode cX6_survey 6 = .ok (.iadd, 1) := by decide +kernel
theorem dX6_survey_7 : decode cX6_survey 7 = .ok (.putfield 32, 3) := by decide +kernel
theorem dX6_survey_10 : decode cX6_survey 10 = .ok (.iconst 0, 1) := by decide +kernel
theorem dX6_survey_11 : decode cX6_survey 11 = .ok (.istore_n 2, 1) := by decide +kernel
theorem dX6_survey_12 : decode cX6_survey 12 = .ok (.iload_n 2, 1) := by decide +kernel
theorem dX6_survey_13 : decode cX6_survey 13 = .ok (.bipush 7, 2) := by decide +kernel
theorem dX6_survey_15 : decode cX6_survey 15 = .ok (.if_icmp .ge 39, 3) := by decide +kernel
theorem dX6_survey_18 : decode cX6_survey 18 = .ok (.iconst 0, 1) := by decide +kernel
theorem dX6_survey_19 : decode cX6_survey 19 = .ok (.istore_n 3, 1) := by decide +kernel
theorem dX6_survey_20 : decode cX6_survey 20 = .ok (.iload_n 3, 1) := by decide +kernel
theorem dX6_survey_21 : decode cX6_survey 21 = .ok (.aload_n 0, 1) := by decide +kernel
theorem dX6_survey_22 : decode cX6_survey 22 = .ok (.getfield 32, 3) := by decide +kernel
theorem dX6_survey_25 : decode cX6_survey 25 = .ok (.if_icmp .ge 23, 3) := by decide +kernel
theorem dX6_survey_28 : decode cX6_survey 28 = .ok (.aload_n 0, 1) := by decide +kernel
theorem dX6_survey_29 : decode cX6_survey 29 = .ok (.getfield 11, 3) := by decide +kernel
theorem dX6_survey_32 : decode cX6_survey 32 = .ok (.iload_n 2, 1) := by decide +kernel
theorem dX6_survey_33 : decode cX6_survey 33 = .ok (.aaload, 1) := by decide +kernel
theorem dX6_survey_34 : decode cX6_survey 34 = .ok (.iload_n 3, 1) := by decide +kernel
theorem dX6_survey_35 : decode cX6_survey 35 = .ok (.aload_n 1, 1) := by decide +kernel
theorem dX6_survey_36 : decode cX6_survey 36 = .ok (.iload_n 2, 1) := by decide +kernel
theorem dX6_survey_37 : decode cX6_survey 37 = .ok (.iload_n 3, 1) := by decide +kernel
theorem dX6_survey_38 : decode cX6_survey 38 = .ok (.invokevirtual 36, 3) := by decide +kernel
theorem dX6_survey_41 : decode cX6_survey 41 = .ok (.iastore, 1) := by decide +kernel
theorem dX6_survey_42 : decode cX6_survey 42 = .ok (.iinc 3 1, 3) := by decide +kernel
theorem dX6_survey_45 : decode cX6_survey 45 = .ok (.goto (-25), 3) := by decide +kernel
theorem dX6_survey_48 : decode cX6_survey 48 = .ok (.iinc 2 1, 3) := by decide +kernel
theorem dX6_survey_51 : decode cX6_survey 51 = .ok (.goto (-39), 3) := by decide +kernel
theorem dX6_survey_54 : decode cX6_survey 54 = .ok (.return_, 1) := by decide +kernel
theorem dX6_reckon_0 : decode cX6_reckon 0 = .ok (.aload_n 0, 1) := by decide +kernel
theorem dX6_reckon_1 : decode cX6_reckon 1 = .ok (.getfield 16, 3) := by decide +kernel
theorem dX6_reckon_4 : decode cX6_reckon 4 = .ok (.ldc 40, 2) := by decide +kernel
theorem dX6_reckon_6 : decode cX6_reckon 6 = .ok (.invokestatic 41, 3) := by decide +kernel
theorem dX6_reckon_9 : decode cX6_reckon 9 = .ok (.aload_n 0, 1) := by decide +kernel
theorem dX6_reckon_10 : decode cX6_reckon 10 = .ok (.getfield 16, 3) := by decide +kernel
theorem dX6_reckon_13 : decode cX6_reckon 13 = .ok (.iload_n 1, 1) := by decide +kernel
theorem dX6_reckon_14 : decode cX6_reckon 14 = .ok (.iconst 0, 1) := by decide +kernel
theorem dX6_reckon_15 : decode cX6_reckon 15 = .ok (.iastore, 1) := by decide +kernel
theorem dX6_reckon_16 : decode cX6_reckon 16 = .ok (.iconst 1, 1) := by decide +kernel
theorem dX6_reckon_17 : decode cX6_reckon 17 = .ok (.istore 4, 2) := by decide +kernel
theorem dX6_reckon_19 : decode cX6_reckon 19 = .ok (.iconst 0, 1) := by decide +kernel
theorem dX6_reckon_20 : decode cX6_reckon 20 = .ok (.istore 5, 2) := by decide +kernel
theorem dX6_reckon_22 : decode cX6_reckon 22 = .ok (.iload 5, 2) := by decide +kernel
theorem dX6_reckon_24 : decode cX6_reckon 24 = .ok (.aload_n 0, 1) := by decide +kernel
theorem dX6_reckon_25 : decode cX6_reckon 25 = .ok (.getfield 32, 3) := by decide +kernel
theorem dX6_reckon_28 : decode cX6_reckon 28 = .ok (.if_icmp .ge 133, 3) := by decide +kernel
theorem dX6_reckon_31 : decode cX6_reckon 31 = .ok (.iload 4, 2) := by decide +kernel
theorem dX6_reckon_33 : decode cX6_reckon 33 = .ok (.ifCond .eq 128, 3) := by decide +kernel
theorem dX6_reckon_36 : decode cX6_reckon 36 = .ok (.iconst 0, 1) := by decide +kernel
theorem dX6_reckon_37 : decode cX6_reckon 37 = .ok (.istore 4, 2) := by decide +kernel
theorem dX6_reckon_39 : decode cX6_reckon 39 = .ok (.iconst 0, 1) := by decide +kernel
theorem dX6_reckon_40 : decode cX6_reckon 40 = .ok (.istore 6, 2) := by decide +kernel
theorem dX6_reckon_42 : decode cX6_reckon 42 = .ok (.iload 6, 2) := by decide +kernel
theorem dX6_reckon_44 : decode cX6_reckon 44 = .ok (.aload_n 0, 1) := by decide +kernel
theorem dX6_reckon_45 : decode cX6_reckon 45 = .ok (.getfield 32, 3) := by decide +kernel
theorem dX6_reckon_48 : decode cX6_reckon 48 = .ok (.if_icmp .ge 107, 3) := by decide +kernel
theorem dX6_reckon_51 : decode cX6_reckon 51 = .ok (.iconst 0, 1) := by decide +kernel
theorem dX6_reckon_52 : decode cX6_reckon 52 = .ok (.istore 7, 2) := by decide +kernel
theorem dX6_reckon_54 : decode cX6_reckon 54 = .ok (.iload 7, 2) := by decide +kernel
theorem dX6_reckon_56 : decode cX6_reckon 56 = .ok (.bipush 7, 2) := by decide +kernel
theorem dX6_reckon_58 : decode cX6_reckon 58 = .ok (.if_icmp .ge 91, 3) := by decide +kernel
theorem dX6_reckon_61 : decode cX6_reckon 61 = .ok (.aload_n 0, 1) := by decide +kernel
theorem dX6_reckon_62 : decode cX6_reckon 62 = .ok (.getfield 11, 3) := by decide +kernel
theorem dX6_reckon_65 : decode cX6_reckon 65 = .ok (.iload 7, 2) := by decide +kernel
theorem dX6_reckon_67 : decode cX6_reckon 67 = .ok (.aaload, 1) := by decide +kernel
theorem dX6_reckon_68 : decode cX6_reckon 68 = .ok (.iload 6, 2) := by decide +kernel
theorem dX6_reckon_70 : decode cX6_reckon 70 = .ok (.iaload, 1) := by decide +kernel
theorem dX6_reckon_71 : decode cX6_reckon 71 = .ok (.istore 8, 2) := by decide +kernel
theorem dX6_reckon_73 : decode cX6_reckon 73 = .ok (.iload_n 2, 1) := by decide +kernel
theorem dX6_reckon_74 : decode cX6_reckon 74 = .ok (.ifCond .eq 8, 3) := by decide +kernel
theorem dX6_reckon_77 : decode cX6_reckon 77 = .ok (.iload 8, 2) := by decide +kernel
theorem dX6_reckon_79 : decode cX6_reckon 79 = .ok (.goto 5, 3) := by decide +kernel
theorem dX6_reckon_82 : decode cX6_reckon 82 = .ok (.iload 6, 2) := by decide +kernel
theorem dX6_reckon_84 : decode cX6_reckon 84 = .ok (.istore 9, 2) := by decide +kernel
theorem dX6_reckon_86 : decode cX6_reckon 86 = .ok (.iload_n 2, 1) := by decide +kernel
theorem dX6_reckon_87 : decode cX6_reckon 87 = .ok (.ifCond .eq 8, 3) := by decide +kernel
theorem dX6_reckon_90 : decode cX6_reckon 90 = .ok (.iload 6, 2) := by decide +kernel
theorem dX6_reckon_92 : decode cX6_reckon 92 = .ok (.goto 5, 3) := by decide +kernel
theorem dX6_reckon_95 : decode cX6_reckon 95 = .ok (.iload 8, 2) := by decide +kernel
theorem dX6_reckon_97 : decode cX6_reckon 97 = .ok (.istore 10, 2) := by decide +kernel
theorem dX6_reckon_99 : decode cX6_reckon 99 = .ok (.aload_n 0, 1) := by decide +kernel
theorem dX6_reckon_100 : decode cX6_reckon 100 = .ok (.getfield 16, 3) := by decide +kernel
theorem dX6_reckon_103 : decode cX6_reckon 103 = .ok (.iload 9, 2) := by decide +kernel
theorem dX6_reckon_105 : decode cX6_reckon 105 = .ok (.iaload, 1) := by decide +kernel
theorem dX6_reckon_106 : decode cX6_reckon 106 = .ok (.aload_n 3, 1) := by decide +kernel
theorem dX6_reckon_107 : decode cX6_reckon 107 = .ok (.iload 7, 2) := by decide +kernel
theorem dX6_reckon_109 : decode cX6_reckon 109 = .ok (.iaload, 1) := by decide +kernel
theorem dX6_reckon_110 : decode cX6_reckon 110 = .ok (.iadd, 1) := by decide +kernel
theorem dX6_reckon_111 : decode cX6_reckon 111 = .ok (.aload_n 0, 1) := by decide +kernel
theorem dX6_reckon_112 : decode cX6_reckon 112 = .ok (.getfield 16, 3) := by decide +kernel
theorem dX6_reckon_115 : decode cX6_reckon 115 = .ok (.iload 10, 2) := by decide +kernel
theorem dX6_reckon_117 : decode cX6_reckon 117 = .ok (.iaload, 1) := by decide +kernel
theorem dX6_reckon_118 : decode cX6_reckon 118 = .ok (.if_icmp .ge 25, 3) := by decide +kernel
theorem dX6_reckon_121 : decode cX6_reckon 121 = .ok (.aload_n 0, 1) := by decide +kernel
theorem dX6_reckon_122 : decode cX6_reckon 122 = .ok (.getfield 16, 3) := by decide +kernel
theorem dX6_reckon_125 : decode cX6_reckon 125 = .ok (.iload 10, 2) := by decide +kernel
theorem dX6_reckon_127 : decode cX6_reckon 127 = .ok (.aload_n 0, 1) := by decide +kernel
theorem dX6_reckon_128 : decode cX6_reckon 128 = .ok (.getfield 16, 3) := by decide +kernel
theorem dX6_reckon_131 : decode cX6_reckon 131 = .ok (.iload 9, 2) := by decide +kernel
theorem dX6_reckon_133 : decode cX6_reckon 133 = .ok (.iaload, 1) := by decide +kernel
theorem dX6_reckon_134 : decode cX6_reckon 134 = .ok (.aload_n 3, 1) := by decide +kernel
theorem dX6_reckon_135 : decode cX6_reckon 135 = .ok (.iload 7, 2) := by decide +kernel
theorem dX6_reckon_137 : decode cX6_reckon 137 = .ok (.iaload, 1) := by decide +kernel
theorem dX6_reckon_138 : decode cX6_reckon 138 = .ok (.iadd, 1) := by decide +kernel
theorem dX6_reckon_139 : decode cX6_reckon 139 = .ok (.iastore, 1) := by decide +kernel
theorem dX6_reckon_140 : decode cX6_reckon 140 = .ok (.iconst 1, 1) := by decide +kernel
theorem dX6_reckon_141 : decode cX6_reckon 141 = .ok (.istore 4, 2) := by decide +kernel
theorem dX6_reckon_143 : decode cX6_reckon 143 = .ok (.iinc 7 1, 3) := by decide +kernel
theorem dX6_reckon_146 : decode cX6_reckon 146 = .ok (.goto (-92), 3) := by decide +kernel
theorem dX6_reckon_149 : decode cX6_reckon 149 = .ok (.iinc 6 1, 3) := by decide +kernel
theorem dX6_reckon_152 : decode cX6_reckon 152 = .ok (.goto (-110), 3) := by decide +kernel
theorem dX6_reckon_155 : decode cX6_reckon 155 = .ok (.iinc 5 1, 3) := by decide +kernel
theorem dX6_reckon_158 : decode cX6_reckon 158 = .ok (.goto (-136), 3) := by decide +kernel
theorem dX6_reckon_161 : decode cX6_reckon 161 = .ok (.return_, 1) := by decide +kernel
theorem dX6_stepOf_0 : decode cX6_stepOf 0 = .ok (.iload_n 1, 1) := by decide +kernel
theorem dX6_stepOf_1 : decode cX6_stepOf 1 = .ok (.istore 5, 2) := by decide +kernel
theorem dX6_stepOf_3 : decode cX6_stepOf 3 = .ok (.iconst 0, 1) := by decide +kernel
theorem dX6_stepOf_4 : decode cX6_stepOf 4 = .ok (.istore 6, 2) := by decide +kernel
theorem dX6_stepOf_6 : decode cX6_stepOf 6 = .ok (.iload 5, 2) := by decide +kernel
theorem dX6_stepOf_8 : decode cX6_stepOf 8 = .ok (.iload_n 2, 1) := by decide +kernel
theorem dX6_stepOf_9 : decode cX6_stepOf 9 = .ok (.if_icmp .eq 49, 3) := by decide +kernel
theorem dX6_stepOf_12 : decode cX6_stepOf 12 = .ok (.iload 6, 2) := by decide +kernel
theorem dX6_stepOf_14 : decode cX6_stepOf 14 = .ok (.aload_n 0, 1) := by decide +kernel
theorem dX6_stepOf_15 : decode cX6_stepOf 15 = .ok (.getfield 32, 3) := by decide +kernel
theorem dX6_stepOf_18 : decode cX6_stepOf 18 = .ok (.if_icmp .ge 40, 3) := by decide +kernel
theorem dX6_stepOf_21 : decode cX6_stepOf 21 = .ok (.aload_n 0, 1) := by decide +kernel
theorem dX6_stepOf_22 : decode cX6_stepOf 22 = .ok (.iload 5, 2) := by decide +kernel
theorem dX6_stepOf_24 : decode cX6_stepOf 24 = .ok (.aload 4, 2) := by decide +kernel
theorem dX6_stepOf_26 : decode cX6_stepOf 26 = .ok (.invokevirtual 47, 3) := by decide +kernel
theorem dX6_stepOf_29 : decode cX6_stepOf 29 = .ok (.istore 7, 2) := by decide +kernel
theorem dX6_stepOf_31 : decode cX6_stepOf 31 = .ok (.iload 6, 2) := by decide +kernel
theorem dX6_stepOf_33 : decode cX6_stepOf 33 = .ok (.iload_n 3, 1) := by decide +kernel
theorem dX6_stepOf_34 : decode cX6_stepOf 34 = .ok (.if_icmp .ne 6, 3) := by decide +kernel
theorem dX6_stepOf_37 : decode cX6_stepOf 37 = .ok (.iload 7, 2) := by decide +kernel
theorem dX6_stepOf_39 : decode cX6_stepOf 39 = .ok (.ireturn, 1) := by decide +kernel
theorem dX6_stepOf_40 : decode cX6_stepOf 40 = .ok (.aload_n 0, 1) := by decide +kernel
theorem dX6_stepOf_41 : decode cX6_stepOf 41 = .ok (.getfield 11, 3) := by decide +kernel
theorem dX6_stepOf_44 : decode cX6_stepOf 44 = .ok (.iload 7, 2) := by decide +kernel
theorem dX6_stepOf_46 : decode cX6_stepOf 46 = .ok (.aaload, 1) := by decide +kernel
theorem dX6_stepOf_47 : decode cX6_stepOf 47 = .ok (.iload 5, 2) := by decide +kernel
theorem dX6_stepOf_49 : decode cX6_stepOf 49 = .ok (.iaload, 1) := by decide +kernel
theorem dX6_stepOf_50 : decode cX6_stepOf 50 = .ok (.istore 5, 2) := by decide +kernel
theorem dX6_stepOf_52 : decode cX6_stepOf 52 = .ok (.iinc 6 1, 3) := by decide +kernel
theorem dX6_stepOf_55 : decode cX6_stepOf 55 = .ok (.goto (-49), 3) := by decide +kernel
theorem dX6_stepOf_58 : decode cX6_stepOf 58 = .ok (.iload_n 3, 1) := by decide +kernel
theorem dX6_stepOf_59 : decode cX6_stepOf 59 = .ok (.iconst (-1), 1) := by decide +kernel
theorem dX6_stepOf_60 : decode cX6_stepOf 60 = .ok (.if_icmp .ne 8, 3) := by decide +kernel
theorem dX6_stepOf_63 : decode cX6_stepOf 63 = .ok (.iload 6, 2) := by decide +kernel
theorem dX6_stepOf_65 : decode cX6_stepOf 65 = .ok (.goto 5, 3) := by decide +kernel
theorem dX6_stepOf_68 : decode cX6_stepOf 68 = .ok (.bipush (-4), 2) := by decide +kernel
theorem dX6_stepOf_70 : decode cX6_stepOf 70 = .ok (.ireturn, 1) := by decide +kernel
theorem dX6_firstOnWay_0 : decode cX6_firstOnWay 0 = .ok (.iconst 0, 1) := by decide +kernel
theorem dX6_firstOnWay_1 : decode cX6_firstOnWay 1 = .ok (.istore_n 3, 1) := by decide +kernel
theorem dX6_firstOnWay_2 : decode cX6_firstOnWay 2 = .ok (.iload_n 3, 1) := by decide +kernel
theorem dX6_firstOnWay_3 : decode cX6_firstOnWay 3 = .ok (.bipush 6, 2) := by decide +kernel
theorem dX6_firstOnWay_5 : decode cX6_firstOnWay 5 = .ok (.if_icmp .ge 35, 3) := by decide +kernel
theorem dX6_firstOnWay_8 : decode cX6_firstOnWay 8 = .ok (.aload_n 0, 1) := by decide +kernel
theorem dX6_firstOnWay_9 : decode cX6_firstOnWay 9 = .ok (.getfield 16, 3) := by decide +kernel
theorem dX6_firstOnWay_12 : decode cX6_firstOnWay 12 = .ok (.aload_n 0, 1) := by decide +kernel
theorem dX6_firstOnWay_13 : decode cX6_firstOnWay 13 = .ok (.getfield 11, 3) := by decide +kernel
theorem dX6_firstOnWay_16 : decode cX6_firstOnWay 16 = .ok (.iload_n 3, 1) := by decide +kernel
theorem dX6_firstOnWay_17 : decode cX6_firstOnWay 17 = .ok (.aaload, 1) := by decide +kernel
theorem dX6_firstOnWay_18 : decode cX6_firstOnWay 18 = .ok (.iload_n 1, 1) := by decide +kernel
theorem dX6_firstOnWay_19 : decode cX6_firstOnWay 19 = .ok (.iaload, 1) := by decide +kernel
theorem dX6_firstOnWay_20 : decode cX6_firstOnWay 20 = .ok (.iaload, 1) := by decide +kernel
theorem dX6_firstOnWay_21 : decode cX6_firstOnWay 21 = .ok (.aload_n 2, 1) := by decide +kernel
theorem dX6_firstOnWay_22 : decode cX6_firstOnWay 22 = .ok (.iload_n 3, 1) := by decide +kernel
theorem dX6_firstOnWay_23 : decode cX6_firstOnWay 23 = .ok (.iaload, 1) := by decide +kernel
theorem dX6_firstOnWay_24 : decode cX6_firstOnWay 24 = .ok (.iadd, 1) := by decide +kernel
theorem dX6_firstOnWay_25 : decode cX6_firstOnWay 25 = .ok (.aload_n 0, 1) := by decide +kernel
theorem dX6_firstOnWay_26 : decode cX6_firstOnWay 26 = .ok (.getfield 16, 3) := by decide +kernel
theorem dX6_firstOnWay_29 : decode cX6_firstOnWay 29 = .ok (.iload_n 1, 1) := by decide +kernel
theorem dX6_firstOnWay_30 : decode cX6_firstOnWay 30 = .ok (.iaload, 1) := by decide +kernel
theorem dX6_firstOnWay_31 : decode cX6_firstOnWay 31 = .ok (.if_icmp .eq 9, 3) := by decide +kernel
theorem dX6_firstOnWay_34 : decode cX6_firstOnWay 34 = .ok (.iinc 3 1, 3) := by decide +kernel
theorem dX6_firstOnWay_37 : decode cX6_firstOnWay 37 = .ok (.goto (-35), 3) := by decide +kernel
theorem dX6_firstOnWay_40 : decode cX6_firstOnWay 40 = .ok (.iload_n 3, 1) := by decide +kernel
theorem dX6_firstOnWay_41 : decode cX6_firstOnWay 41 = .ok (.ireturn, 1) := by decide +kernel
theorem dX6_dearest_0 : decode cX6_dearest 0 = .ok (.iconst 0, 1) := by decide +kernel
theorem dX6_dearest_1 : decode cX6_dearest 1 = .ok (.istore_n 1, 1) := by decide +kernel
theorem dX6_dearest_2 : decode cX6_dearest 2 = .ok (.iconst 1, 1) := by decide +kernel
theorem dX6_dearest_3 : decode cX6_dearest 3 = .ok (.istore_n 2, 1) := by decide +kernel
theorem dX6_dearest_4 : decode cX6_dearest 4 = .ok (.iload_n 2, 1) := by decide +kernel
theorem dX6_dearest_5 : decode cX6_dearest 5 = .ok (.aload_n 0, 1) := by decide +kernel
theorem dX6_dearest_6 : decode cX6_dearest 6 = .ok (.getfield 32, 3) := by decide +kernel
theorem dX6_dearest_9 : decode cX6_dearest 9 = .ok (.if_icmp .ge 26, 3) := by decide +kernel
theorem dX6_dearest_12 : decode cX6_dearest 12 = .ok (.aload_n 0, 1) := by decide +kernel
theorem dX6_dearest_13 : decode cX6_dearest 13 = .ok (.getfield 16, 3) := by decide +kernel
theorem dX6_dearest_16 : decode cX6_dearest 16 = .ok (.iload_n 2, 1) := by decide +kernel
theorem dX6_dearest_17 : decode cX6_dearest 17 = .ok (.iaload, 1) := by decide +kernel
theorem dX6_dearest_18 : decode cX6_dearest 18 = .ok (.aload_n 0, 1) := by decide +kernel
theorem dX6_dearest_19 : decode cX6_dearest 19 = .ok (.getfield 16, 3) := by decide +kernel
theorem dX6_dearest_22 : decode cX6_dearest 22 = .ok (.iload_n 1, 1) := by decide +kernel
theorem dX6_dearest_23 : decode cX6_dearest 23 = .ok (.iaload, 1) := by decide +kernel
theorem dX6_dearest_24 : decode cX6_dearest 24 = .ok (.if_icmp .le 5, 3) := by decide +kernel
theorem dX6_dearest_27 : decode cX6_dearest 27 = .ok (.iload_n 2, 1) := by decide +kernel
theorem dX6_dearest_28 : decode cX6_dearest 28 = .ok (.istore_n 1, 1) := by decide +kernel
theorem dX6_dearest_29 : decode cX6_dearest 29 = .ok (.iinc 2 1, 3) := by decide +kernel
theorem dX6_dearest_32 : decode cX6_dearest 32 = .ok (.goto (-28), 3) := by decide +kernel
theorem dX6_dearest_35 : decode cX6_dearest 35 = .ok (.iload_n 1, 1) := by decide +kernel
theorem dX6_dearest_36 : decode cX6_dearest 36 = .ok (.ireturn, 1) := by decide +kernel
theorem dX6_rowsTo_0 : decode cX6_rowsTo 0 = .ok (.aload_n 0, 1) := by decide +kernel
theorem dX6_rowsTo_1 : decode cX6_rowsTo 1 = .ok (.getfield 20, 3) := by decide +kernel
theorem dX6_rowsTo_4 : decode cX6_rowsTo 4 = .ok (.iconst 0, 1) := by decide +kernel
theorem dX6_rowsTo_5 : decode cX6_rowsTo 5 = .ok (.invokestatic 41, 3) := by decide +kernel
theorem dX6_rowsTo_8 : decode cX6_rowsTo 8 = .ok (.aload_n 0, 1) := by decide +kernel
theorem dX6_rowsTo_9 : decode cX6_rowsTo 9 = .ok (.getfield 20, 3) := by decide +kernel
theorem dX6_rowsTo_12 : decode cX6_rowsTo 12 = .ok (.iload_n 2, 1) := by decide +kernel
theorem dX6_rowsTo_13 : decode cX6_rowsTo 13 = .ok (.iconst 1, 1) := by decide +kernel
theorem dX6_rowsTo_14 : decode cX6_rowsTo 14 = .ok (.iastore, 1) := by decide +kernel
theorem dX6_rowsTo_15 : decode cX6_rowsTo 15 = .ok (.iconst 0, 1) := by decide +kernel
theorem dX6_rowsTo_16 : decode cX6_rowsTo 16 = .ok (.istore 4, 2) := by decide +kernel
theorem dX6_rowsTo_18 : decode cX6_rowsTo 18 = .ok (.iload 4, 2) := by decide +kernel
theorem dX6_rowsTo_20 : decode cX6_rowsTo 20 = .ok (.iload_n 3, 1) := by decide +kernel
theorem dX6_rowsTo_21 : decode cX6_rowsTo 21 = .ok (.if_icmp .ge 91, 3) := by decide +kernel
theorem dX6_rowsTo_24 : decode cX6_rowsTo 24 = .ok (.aload_n 0, 1) := by decide +kernel
theorem dX6_rowsTo_25 : decode cX6_rowsTo 25 = .ok (.getfield 23, 3) := by decide +kernel
theorem dX6_rowsTo_28 : decode cX6_rowsTo 28 = .ok (.iconst 0, 1) := by decide +kernel
theorem dX6_rowsTo_29 : decode cX6_rowsTo 29 = .ok (.invokestatic 41, 3) := by decide +kernel
theorem dX6_rowsTo_32 : decode cX6_rowsTo 32 = .ok (.iconst 0, 1) := by decide +kernel
theorem dX6_rowsTo_33 : decode cX6_rowsTo 33 = .ok (.istore 5, 2) := by decide +kernel
theorem dX6_rowsTo_35 : decode cX6_rowsTo 35 = .ok (.iload 5, 2) := by decide +kernel
theorem dX6_rowsTo_37 : decode cX6_rowsTo 37 = .ok (.aload_n 0, 1) := by decide +kernel
theorem dX6_rowsTo_38 : decode cX6_rowsTo 38 = .ok (.getfield 32, 3) := by decide +kernel
theorem dX6_rowsTo_41 : decode cX6_rowsTo 41 = .ok (.if_icmp .ge 50, 3) := by decide +kernel
theorem dX6_rowsTo_44 : decode cX6_rowsTo 44 = .ok (.iconst 0, 1) := by decide +kernel
theorem dX6_rowsTo_45 : decode cX6_rowsTo 45 = .ok (.istore 6, 2) := by decide +kernel
theorem dX6_rowsTo_47 : decode cX6_rowsTo 47 = .ok (.iload 6, 2) := by decide +kernel
theorem dX6_rowsTo_49 : decode cX6_rowsTo 49 = .ok (.bipush 7, 2) := by decide +kernel
theorem dX6_rowsTo_51 : decode cX6_rowsTo 51 = .ok (.if_icmp .ge 34, 3) := by decide +kernel
theorem dX6_rowsTo_54 : decode cX6_rowsTo 54 = .ok (.aload_n 0, 1) := by decide +kernel
theorem dX6_rowsTo_55 : decode cX6_rowsTo 55 = .ok (.getfield 23, 3) := by decide +kernel
theorem dX6_rowsTo_58 : decode cX6_rowsTo 58 = .ok (.aload_n 0, 1) := by decide +kernel
theorem dX6_rowsTo_59 : decode cX6_rowsTo 59 = .ok (.getfield 11, 3) := by decide +kernel
theorem dX6_rowsTo_62 : decode cX6_rowsTo 62 = .ok (.iload 6, 2) := by decide +kernel
theorem dX6_rowsTo_64 : decode cX6_rowsTo 64 = .ok (.aaload, 1) := by decide +kernel
theorem dX6_rowsTo_65 : decode cX6_rowsTo 65 = .ok (.iload 5, 2) := by decide +kernel
theorem dX6_rowsTo_67 : decode cX6_rowsTo 67 = .ok (.iaload, 1) := by decide +kernel
theorem dX6_rowsTo_68 : decode cX6_rowsTo 68 = .ok (.dup2, 1) := by decide +kernel
theorem dX6_rowsTo_69 : decode cX6_rowsTo 69 = .ok (.iaload, 1) := by decide +kernel
theorem dX6_rowsTo_70 : decode cX6_rowsTo 70 = .ok (.aload_n 0, 1) := by decide +kernel
theorem dX6_rowsTo_71 : decode cX6_rowsTo 71 = .ok (.getfield 20, 3) := by decide +kernel
theorem dX6_rowsTo_74 : decode cX6_rowsTo 74 = .ok (.iload 5, 2) := by decide +kernel
theorem dX6_rowsTo_76 : decode cX6_rowsTo 76 = .ok (.iaload, 1) := by decide +kernel
theorem dX6_rowsTo_77 : decode cX6_rowsTo 77 = .ok (.iadd, 1) := by decide +kernel
theorem dX6_rowsTo_78 : decode cX6_rowsTo 78 = .ok (.iastore, 1) := by decide +kernel
theorem dX6_rowsTo_79 : decode cX6_rowsTo 79 = .ok (.iinc 6 1, 3) := by decide +kernel
theorem dX6_rowsTo_82 : decode cX6_rowsTo 82 = .ok (.goto (-35), 3) := by decide +kernel
theorem dX6_rowsTo_85 : decode cX6_rowsTo 85 = .ok (.iinc 5 1, 3) := by decide +kernel
theorem dX6_rowsTo_88 : decode cX6_rowsTo 88 = .ok (.goto (-53), 3) := by decide +kernel
theorem dX6_rowsTo_91 : decode cX6_rowsTo 91 = .ok (.aload_n 0, 1) := by decide +kernel
theorem dX6_rowsTo_92 : decode cX6_rowsTo 92 = .ok (.getfield 23, 3) := by decide +kernel
theorem dX6_rowsTo_95 : decode cX6_rowsTo 95 = .ok (.iconst 0, 1) := by decide +kernel
theorem dX6_rowsTo_96 : decode cX6_rowsTo 96 = .ok (.aload_n 0, 1) := by decide +kernel
theorem dX6_rowsTo_97 : decode cX6_rowsTo 97 = .ok (.getfield 20, 3) := by decide +kernel
theorem dX6_rowsTo_100 : decode cX6_rowsTo 100 = .ok (.iconst 0, 1) := by decide +kernel
theorem dX6_rowsTo_101 : decode cX6_rowsTo 101 = .ok (.bipush 60, 2) := by decide +kernel
theorem dX6_rowsTo_103 : decode cX6_rowsTo 103 = .ok (.invokestatic 51, 3) := by decide +kernel
theorem dX6_rowsTo_106 : decode cX6_rowsTo 106 = .ok (.iinc 4 1, 3) := by decide +kernel
theorem dX6_rowsTo_109 : decode cX6_rowsTo 109 = .ok (.goto (-91), 3) := by decide +kernel
theorem dX6_rowsTo_112 : decode cX6_rowsTo 112 = .ok (.aload_n 0, 1) := by decide +kernel
theorem dX6_rowsTo_113 : decode cX6_rowsTo 113 = .ok (.getfield 20, 3) := by decide +kernel
theorem dX6_rowsTo_116 : decode cX6_rowsTo 116 = .ok (.iload_n 1, 1) := by decide +kernel
theorem dX6_rowsTo_117 : decode cX6_rowsTo 117 = .ok (.iaload, 1) := by decide +kernel
theorem dX6_rowsTo_118 : decode cX6_rowsTo 118 = .ok (.ireturn, 1) := by decide +kernel
theorem dX7_init_0 : decode cX7_init 0 = .ok (.aload_n 0, 1) := by decide +kernel
theorem dX7_init_1 : decode cX7_init 1 = .ok (.invokespecial 1, 3) := by decide +kernel
theorem dX7_init_4 : decode cX7_init 4 = .ok (.aload_n 0, 1) := by decide +kernel
theorem dX7_init_5 : decode cX7_init 5 = .ok (.bipush 60, 2) := by decide +kernel
theorem dX7_init_7 : decode cX7_init 7 = .ok (.newarray .int, 2) := by decide +kernel
theorem dX7_init_9 : decode cX7_init 9 = .ok (.putfield 9, 3) := by decide +kernel
theorem dX7_init_12 : decode cX7_init 12 = .ok (.aload_n 0, 1) := by decide +kernel
theorem dX7_init_13 : decode cX7_init 13 = .ok (.new 13, 3) := by decide +kernel
theorem dX7_init_16 : decode cX7_init 16 = .ok (.dup, 1) := by decide +kernel
theorem dX7_init_17 : decode cX7_init 17 = .ok (.invokespecial 15, 3) := by decide +kernel
theorem dX7_init_20 : decode cX7_init 20 = .ok (.putfield 16, 3) := by decide +kernel
theorem dX7_init_23 : decode cX7_init 23 = .ok (.aload_n 0, 1) := by decide +kernel
theorem dX7_init_24 : decode cX7_init 24 = .ok (.new 13, 3) := by decide +kernel
theorem dX7_init_27 : decode cX7_init 27 = .ok (.dup, 1) := by decide +kernel
theorem dX7_init_28 : decode cX7_init 28 = .ok (.invokespecial 15, 3) := by decide +kernel
theorem dX7_init_31 : decode cX7_init 31 = .ok (.putfield 20, 3) := by decide +kernel
theorem dX7_init_34 : decode cX7_init 34 = .ok (.aload_n 0, 1) := by decide +kernel
theorem dX7_init_35 : decode cX7_init 35 = .ok (.new 23, 3) := by decide +kernel
theorem dX7_init_38 : decode cX7_init 38 = .ok (.dup, 1) := by decide +kernel
theorem dX7_init_39 : decode cX7_init 39 = .ok (.invokespecial 25, 3) := by decide +kernel
theorem dX7_init_42 : decode cX7_init 42 = .ok (.putfield 26, 3) := by decide +kernel
theorem dX7_init_45 : decode cX7_init 45 = .ok (.aload_n 0, 1) := by decide +kernel
theorem dX7_init_46 : decode cX7_init 46 = .ok (.iconst 4, 1) := by decide +kernel
theorem dX7_init_47 : decode cX7_init 47 = .ok (.anewarray 30, 3) := by decide +kernel
theorem dX7_init_50 : decode cX7_init 50 = .ok (.putfield 32, 3) := by decide +kernel
theorem dX7_init_53 : decode cX7_init 53 = .ok (.iconst 0, 1) := by decide +kernel
theorem dX7_init_54 : decode cX7_init 54 = .ok (.istore_n 1, 1) := by decide +kernel
theorem dX7_init_55 : decode cX7_init 55 = .ok (.iload_n 1, 1) := by decide +kernel
theorem dX7_init_56 : decode cX7_init 56 = .ok (.iconst 4, 1) := by decide +kernel
theorem dX7_init_57 : decode cX7_init 57 = .ok (.if_icmp .ge 22, 3) := by decide +kernel
theorem dX7_init_60 : decode cX7_init 60 = .ok (.aload_n 0, 1) := by decide +kernel
theorem dX7_init_61 : decode cX7_init 61 = .ok (.getfield 32, 3) := by decide +kernel
theorem dX7_init_64 : decode cX7_init 64 = .ok (.iload_n 1, 1) := by decide +kernel
theorem dX7_init_65 : decode cX7_init 65 = .ok (.new 30, 3) := by decide +kernel
theorem dX7_init_68 : decode cX7_init 68 = .ok (.dup, 1) := by decide +kernel
theorem dX7_init_69 : decode cX7_init 69 = .ok (.invokespecial 36, 3) := by decide +kernel
theorem dX7_init_72 : decode cX7_init 72 = .ok (.aastore, 1) := by decide +kernel
theorem dX7_init_73 : decode cX7_init 73 = .ok (.iinc 1 1, 3) := by decide +kernel
theorem dX7_init_76 : decode cX7_init 76 = .ok (.goto (-21), 3) := by decide +kernel
theorem dX7_init_79 : decode cX7_init 79 = .ok (.return_, 1) := by decide +kernel
theorem dX7_type_0 : decode cX7_type 0 = .ok (.iload_n 1, 1) := by decide +kernel
theorem dX7_type_1 : decode cX7_type 1 = .ok (.invokestatic 37, 3) := by decide +kernel
theorem dX7_type_4 : decode cX7_type 4 = .ok (.ifCond .ne 5, 3) := by decide +kernel
theorem dX7_type_7 : decode cX7_type 7 = .ok (.iconst (-1), 1) := by decide +kernel
theorem dX7_type_8 : decode cX7_type 8 = .ok (.ireturn, 1) := by decide +kernel
theorem dX7_type_9 : decode cX7_type 9 = .ok (.aload_n 0, 1) := by decide +kernel
theorem dX7_type_10 : decode cX7_type 10 = .ok (.getfield 41, 3) := by decide +kernel
theorem dX7_type_13 : decode cX7_type 13 = .ok (.bipush 60, 2) := by decide +kernel
theorem dX7_type_15 : decode cX7_type 15 = .ok (.if_icmp .lt 6, 3) := by decide +kernel
theorem dX7_type_18 : decode cX7_type 18 = .ok (.bipush (-3), 2) := by decide +kernel
theorem dX7_type_20 : decode cX7_type 20 = .ok (.ireturn, 1) := by decide +kernel
theorem dX7_type_21 : decode cX7_type 21 = .ok (.aload_n 0, 1) := by decide +kernel
theorem dX7_type_22 : decode cX7_type 22 = .ok (.getfield 9, 3) := by decide +kernel
theorem dX7_type_25 : decode cX7_type 25 = .ok (.aload_n 0, 1) := by decide +kernel
theorem dX7_type_26 : decode cX7_type 26 = .ok (.getfield 41, 3) := by decide +kernel
theorem dX7_type_29 : decode cX7_type 29 = .ok (.iload_n 1, 1) := by decide +kernel
theorem dX7_type_30 : decode cX7_type 30 = .ok (.iastore, 1) := by decide +kernel
theorem dX7_type_31 : decode cX7_type 31 = .ok (.aload_n 0, 1) := by decide +kernel
theorem dX7_type_32 : decode cX7_type 32 = .ok (.dup, 1) := by decide +kernel
theorem dX7_type_33 : decode cX7_type 33 = .ok (.getfield 41, 3) := by decide +kernel
theorem dX7_type_36 : decode cX7_type 36 = .ok (.iconst 1, 1) := by decide +kernel
theorem dX7_type_37 : decode cX7_type 37 = .ok (.iadd, 1) := by decide +kernel
theorem dX7_type_38 : decode cX7_type 38 = .ok (.putfield 41, 3) := by decide +kernel
theorem dX7_type_41 : decode cX7_type 41 = .ok (.aload_n 0, 1) := by decide +kernel
theorem dX7_type_42 : decode cX7_type 42 = .ok (.getfield 41, 3) := by decide +kernel
theorem dX7_type_45 : decode cX7_type 45 = .ok (.ireturn, 1) := by decide +kernel
theorem dX7_line_0 : decode cX7_line 0 = .ok (.aload_n 0, 1) := by decide +kernel
theorem dX7_line_1 : decode cX7_line 1 = .ok (.getfield 16, 3) := by decide +kernel
theorem dX7_line_4 : decode cX7_line 4 = .ok (.aload_n 0, 1) := by decide +kernel
theorem dX7_line_5 : decode cX7_line 5 = .ok (.getfield 9, 3) := by decide +kernel
theorem dX7_line_8 : decode cX7_line 8 = .ok (.aload_n 0, 1) := by decide +kernel
theorem dX7_line_9 : decode cX7_line 9 = .ok (.getfield 41, 3) := by decide +kernel
theorem dX7_line_12 : decode cX7_line 12 = .ok (.invokevirtual 45, 3) := by decide +kernel
theorem dX7_line_15 : decode cX7_line 15 = .ok (.aload_n 0, 1) := by decide +kernel
theorem dX7_line_16 : decode cX7_line 16 = .ok (.iconst 0, 1) := by decide +kernel
theorem dX7_line_17 : decode cX7_line 17 = .ok (.putfield 41, 3) := by decide +kernel
theorem dX7_line_20 : decode cX7_line 20 = .ok (.aload_n 0, 1) := by decide +kernel
theorem dX7_line_21 : decode cX7_line 21 = .ok (.getfield 16, 3) := by decide +kernel
theorem dX7_line_24 : decode cX7_line 24 = .ok (.getfield 49, 3) := by decide +kernel
theorem dX7_line_27 : decode cX7_line 27 = .ok (.getfield 53, 3) := by decide +kernel
theorem dX7_line_30 : decode cX7_line 30 = .ok (.ireturn, 1) := by decide +kernel
theorem dX7_letter_0 : decode cX7_letter 0 = .ok (.aload_n 0, 1) := by decide +kernel
theorem dX7_letter_1 : decode cX7_letter 1 = .ok (.getfield 16, 3) := by decide +kernel
theorem dX7_letter_4 : decode cX7_letter 4 = .ok (.getfield 49, 3) := by decide +kernel
theorem dX7_letter_7 : decode cX7_letter 7 = .ok (.iload_n 1, 1) := by decide +kernel
theorem dX7_letter_8 : decode cX7_letter 8 = .ok (.invokevirtual 58, 3) := by decide +kernel
theorem dX7_letter_11 : decode cX7_letter 11 = .ok (.ifCond .eq 17, 3) := by decide +kernel
theorem dX7_letter_14 : decode cX7_letter 14 = .ok (.aload_n 0, 1) := by decide +kernel
theorem dX7_letter_15 : decode cX7_letter 15 = .ok (.getfield 16, 3) := by decide +kernel
theorem dX7_letter_18 : decode cX7_letter 18 = .ok (.getfield 49, 3) := by decide +kernel
theorem dX7_letter_21 : decode cX7_letter 21 = .ok (.iload_n 1, 1) := by decide +kernel
theorem dX7_letter_22 : decode cX7_letter 22 = .ok (.invokevirtual 61, 3) := by decide +kernel
theorem dX7_letter_25 : decode cX7_letter 25 = .ok (.goto 4, 3) := by decide +kernel
theorem dX7_letter_28 : decode cX7_letter 28 = .ok (.iconst (-1), 1) := by decide +kernel
theorem dX7_letter_29 : decode cX7_letter 29 = .ok (.ireturn, 1) := by decide +kernel
theorem dX7_store_0 : decode cX7_store 0 = .ok (.iload_n 1, 1) := by decide +kernel
theorem dX7_store_1 : decode cX7_store 1 = .ok (.ifCond .lt 26, 3) := by decide +kernel
theorem dX7_store_4 : decode cX7_store 4 = .ok (.iload_n 1, 1) := by decide +kernel
theorem dX7_store_5 : decode cX7_store 5 = .ok (.aload_n 0, 1) := by decide +kernel
theorem dX7_store_6 : decode cX7_store 6 = .ok (.getfield 16, 3) := by decide +kernel
theorem dX7_store_9 : decode cX7_store 9 = .ok (.getfield 65, 3) := by decide +kernel
theorem dX7_store_12 : decode cX7_store 12 = .ok (.if_icmp .ge 15, 3) := by decide +kernel
theorem dX7_store_15 : decode cX7_store 15 = .ok (.aload_n 0, 1) := by decide +kernel
theorem dX7_store_16 : decode cX7_store 16 = .ok (.getfield 16, 3) := by decide +kernel
theorem dX7_store_19 : decode cX7_store 19 = .ok (.getfield 68, 3) := by decide +kernel
theorem dX7_store_22 : decode cX7_store 22 = .ok (.iload_n 1, 1) := by decide +kernel
theorem dX7_store_23 : decode cX7_store 23 = .ok (.iaload, 1) := by decide +kernel
theorem dX7_store_24 : decode cX7_store 24 = .ok (.goto 4, 3) := by decide +kernel
theorem dX7_store_27 : decode cX7_store 27 = .ok (.iconst (-1), 1) := by decide +kernel
theorem dX7_store_28 : decode cX7_store 28 = .ok (.ireturn, 1) := by decide +kernel
theorem dX7_mark_0 : decode cX7_mark 0 = .ok (.iload_n 1, 1) := by decide +kernel
theorem dX7_mark_1 : decode cX7_mark 1 = .ok (.ifCond .lt 8, 3) := by decide +kernel
theorem dX7_mark_4 : decode cX7_mark 4 = .ok (.iload_n 1, 1) := by decide +kernel
theorem dX7_mark_5 : decode cX7_mark 5 = .ok (.iconst 4, 1) := by decide +kernel
theorem dX7_mark_6 : decode cX7_mark 6 = .ok (.if_icmp .lt 5, 3) := by decide +kernel
theorem dX7_mark_9 : decode cX7_mark 9 = .ok (.iconst (-1), 1) := by decide +kernel
theorem dX7_mark_10 : decode cX7_mark 10 = .ok (.ireturn, 1) := by decide +kernel
theorem dX7_mark_11 : decode cX7_mark 11 = .ok (.aload_n 0, 1) := by decide +kernel
theorem dX7_mark_12 : decode cX7_mark 12 = .ok (.getfield 16, 3) := by decide +kernel
theorem dX7_mark_15 : decode cX7_mark 15 = .ok (.getfield 71, 3) := by decide +kernel
theorem dX7_mark_18 : decode cX7_mark 18 = .ok (.iload_n 1, 1) := by decide +kernel
theorem dX7_mark_19 : decode cX7_mark 19 = .ok (.iaload, 1) := by decide +kernel
theorem dX7_mark_20 : decode cX7_mark 20 = .ok (.iconst (-1), 1) := by decide +kernel
theorem dX7_mark_21 : decode cX7_mark 21 = .ok (.if_icmp .ne 8, 3) := by decide +kernel
theorem dX7_mark_24 : decode cX7_mark 24 = .ok (.bipush (-4), 2) := by decide +kernel
theorem dX7_mark_26 : decode cX7_mark 26 = .ok (.goto 12, 3) := by decide +kernel
theorem dX7_mark_29 : decode cX7_mark 29 = .ok (.aload_n 0, 1) := by decide +kernel
theorem dX7_mark_30 : decode cX7_mark 30 = .ok (.getfield 16, 3) := by decide +kernel
theorem dX7_mark_33 : decode cX7_mark 33 = .ok (.getfield 71, 3) := by decide +kernel
theorem dX7_mark_36 : decode cX7_mark 36 = .ok (.iload_n 1, 1) := by decide +kernel
theorem dX7_mark_37 : decode cX7_mark 37 = .ok (.iaload, 1) := by decide +kernel
theorem dX7_mark_38 : decode cX7_mark 38 = .ok (.ireturn, 1) := by decide +kernel
theorem dX7_count_0 : decode cX7_count 0 = .ok (.iload_n 1, 1) := by decide +kernel
theorem dX7_count_1 : decode cX7_count 1 = .ok (.tableswitch 154 0 8 #[51, 62, 73, 89, 105, 113, 121, 132, 143], 51) := by decide +kernel
theorem dX7_count_52 : decode cX7_count 52 = .ok (.aload_n 0, 1) := by decide +kernel
theorem dX7_count_53 : decode cX7_count 53 = .ok (.getfield 16, 3) := by decide +kernel
theorem dX7_count_56 : decode cX7_count 56 = .ok (.getfield 49, 3) := by decide +kernel
theorem dX7_count_59 : decode cX7_count 59 = .ok (.getfield 53, 3) := by decide +kernel
theorem dX7_count_62 : decode cX7_count 62 = .ok (.ireturn, 1) := by decide +kernel
theorem dX7_count_63 : decode cX7_count 63 = .ok (.aload_n 0, 1) := by decide +kernel
theorem dX7_count_64 : decode cX7_count 64 = .ok (.getfield 16, 3) := by decide +kernel
theorem dX7_count_67 : decode cX7_count 67 = .ok (.getfield 49, 3) := by decide +kernel
theorem dX7_count_70 : decode cX7_count 70 = .ok (.getfield 74, 3) := by decide +kernel
theorem dX7_count_73 : decode cX7_count 73 = .ok (.ireturn, 1) := by decide +kernel
theorem dX7_count_74 : decode cX7_count 74 = .ok (.aload_n 0, 1) := by decide +kernel
theorem dX7_count_75 : decode cX7_count 75 = .ok (.getfield 16, 3) := by decide +kernel
theorem dX7_count_78 : decode cX7_count 78 = .ok (.getfield 77, 3) := by decide +kernel
theorem dX7_count_81 : decode cX7_count 81 = .ok (.ifCond .eq 7, 3) := by decide +kernel
theorem dX7_count_84 : decode cX7_count 84 = .ok (.iconst 1, 1) := by decide +kernel
theorem dX7_count_85 : decode cX7_count 85 = .ok (.goto 4, 3) := by decide +kernel
theorem dX7_count_88 : decode cX7_count 88 = .ok (.iconst 0, 1) := by decide +kernel
theorem dX7_count_89 : decode cX7_count 89 = .ok (.ireturn, 1) := by decide +kernel
theorem dX7_count_90 : decode cX7_count 90 = .ok (.aload_n 0, 1) := by decide +kernel
theorem dX7_count_91 : decode cX7_count 91 = .ok (.getfield 16, 3) := by decide +kernel
theorem dX7_count_94 : decode cX7_count 94 = .ok (.invokevirtual 81, 3) := by decide +kernel
theorem dX7_count_97 : decode cX7_count 97 = .ok (.ifCond .eq 7, 3) := by decide +kernel
theorem dX7_count_100 : decode cX7_count 100 = .ok (.iconst 1, 1) := by decide +kernel
theorem dX7_count_101 : decode cX7_count 101 = .ok (.goto 4, 3) := by decide +kernel
theorem dX7_count_104 : decode cX7_count 104 = .ok (.iconst 0, 1) := by decide +kernel
theorem dX7_count_105 : decode cX7_count 105 = .ok (.ireturn, 1) := by decide +kernel
theorem dX7_count_106 : decode cX7_count 106 = .ok (.aload_n 0, 1) := by decide +kernel
theorem dX7_count_107 : decode cX7_count 107 = .ok (.getfield 16, 3) := by decide +kernel
theorem dX7_count_110 : decode cX7_count 110 = .ok (.getfield 65, 3) := by decide +kernel
theorem dX7_count_113 : decode cX7_count 113 = .ok (.ireturn, 1) := by decide +kernel
theorem dX7_count_114 : decode cX7_count 114 = .ok (.aload_n 0, 1) := by decide +kernel
theorem dX7_count_115 : decode cX7_count 115 = .ok (.getfield 16, 3) := by decide +kernel
theorem dX7_count_118 : decode cX7_count 118 = .ok (.invokevirtual 85, 3) := by decide +kernel
theorem dX7_count_121 : decode cX7_count 121 = .ok (.ireturn, 1) := by decide +kernel
theorem dX7_count_122 : decode cX7_count 122 = .ok (.aload_n 0, 1) := by decide +kernel
theorem dX7_count_123 : decode cX7_count 123 = .ok (.getfield 16, 3) := by decide +kernel
theorem dX7_count_126 : decode cX7_count 126 = .ok (.getfield 89, 3) := by decide +kernel
theorem dX7_count_129 : decode cX7_count 129 = .ok (.getfield 93, 3) := by decide +kernel
theorem dX7_count_132 : decode cX7_count 132 = .ok (.ireturn, 1) := by decide +kernel
theorem dX7_count_133 : decode cX7_count 133 = .ok (.aload_n 0, 1) := by decide +kernel
theorem dX7_count_134 : decode cX7_count 134 = .ok (.getfield 16, 3) := by decide +kernel
theorem dX7_count_137 : decode cX7_count 137 = .ok (.getfield 49, 3) := by decide +kernel
theorem dX7_count_140 : decode cX7_count 140 = .ok (.invokevirtual 98, 3) := by decide +kernel
theorem dX7_count_143 : decode cX7_count 143 = .ok (.ireturn, 1) := by decide +kernel
theorem dX7_count_144 : decode cX7_count 144 = .ok (.aload_n 0, 1) := by decide +kernel
theorem dX7_count_145 : decode cX7_count 145 = .ok (.getfield 16, 3) := by decide +kernel
theorem dX7_count_148 : decode cX7_count 148 = .ok (.getfield 101, 3) := by decide +kernel
theorem dX7_count_151 : decode cX7_count 151 = .ok (.getfield 105, 3) := by decide +kernel
theorem dX7_count_154 : decode cX7_count 154 = .ok (.ireturn, 1) := by decide +kernel
theorem dX7_count_155 : decode cX7_count 155 = .ok (.iconst (-1), 1) := by decide +kernel
theorem dX7_count_156 : decode cX7_count 156 = .ok (.ireturn, 1) := by decide +kernel
theorem dX7_key_0 : decode cX7_key 0 = .ok (.iload_n 1, 1) := by decide +kernel
theorem dX7_key_1 : decode cX7_key 1 = .ok (.invokestatic 37, 3) := by decide +kernel
theorem dX7_key_4 : decode cX7_key 4 = .ok (.ifCond .eq 14, 3) := by decide +kernel
theorem dX7_key_7 : decode cX7_key 7 = .ok (.aload_n 0, 1) := by decide +kernel
theorem dX7_key_8 : decode cX7_key 8 = .ok (.getfield 16, 3) := by decide +kernel
theorem dX7_key_11 : decode cX7_key 11 = .ok (.iload_n 1, 1) := by decide +kernel
theorem dX7_key_12 : decode cX7_key 12 = .ok (.invokevirtual 108, 3) := by decide +kernel
theorem dX7_key_15 : decode cX7_key 15 = .ok (.goto 4, 3) := by decide +kernel
theorem dX7_key_18 : decode cX7_key 18 = .ok (.iconst (-1), 1) := by decide +kernel
theorem dX7_key_19 : decode cX7_key 19 = .ok (.ireturn, 1) := by decide +kernel
theorem dX7_price_0 : decode cX7_price 0 = .ok (.iload_n 1, 1) := by decide +kernel
theorem dX7_price_1 : decode cX7_price 1 = .ok (.invokestatic 111, 3) := by decide +kernel
theorem dX7_price_4 : decode cX7_price 4 = .ok (.ifCond .eq 14, 3) := by decide +kernel
theorem dX7_price_7 : decode cX7_price 7 = .ok (.iload_n 2, 1) := by decide +kernel
theorem dX7_price_8 : decode cX7_price 8 = .ok (.iconst 1, 1) := by decide +kernel
theorem dX7_price_9 : decode cX7_price 9 = .ok (.if_icmp .lt 9, 3) := by decide +kernel
theorem dX7_price_12 : decode cX7_price 12 = .ok (.iload_n 2, 1) := by decide +kernel
theorem dX7_price_13 : decode cX7_price 13 = .ok (.bipush 9, 2) := by decide +kernel
theorem dX7_price_15 : decode cX7_price 15 = .ok (.if_icmp .le 5, 3) := by decide +kernel
theorem dX7_price_18 : decode cX7_price 18 = .ok (.iconst (-1), 1) := by decide +kernel
theorem dX7_price_19 : decode cX7_price 19 = .ok (.ireturn, 1) := by decide +kernel
theorem dX7_price_20 : decode cX7_price 20 = .ok (.aload_n 0, 1) := by decide +kernel
theorem dX7_price_21 : decode cX7_price 21 = .ok (.getfield 16, 3) := by decide +kernel
theorem dX7_price_24 : decode cX7_price 24 = .ok (.getfield 114, 3) := by decide +kernel
theorem dX7_price_27 : decode cX7_price 27 = .ok (.iload_n 1, 1) := by decide +kernel
theorem dX7_price_28 : decode cX7_price 28 = .ok (.iaload, 1) := by decide +kernel
theorem dX7_price_29 : decode cX7_price 29 = .ok (.istore_n 3, 1) := by decide +kernel
theorem dX7_price_30 : decode cX7_price 30 = .ok (.iload_n 3, 1) := by decide +kernel
theorem dX7_price_31 : decode cX7_price 31 = .ok (.iload_n 2, 1) := by decide +kernel
theorem dX7_price_32 : decode cX7_price 32 = .ok (.if_icmp .ne 6, 3) := by decide +kernel
theorem dX7_price_35 : decode cX7_price 35 = .ok (.bipush (-2), 2) := by decide +kernel
theorem dX7_price_37 : decode cX7_price 37 = .ok (.ireturn, 1) := by decide +kernel
theorem dX7_price_38 : decode cX7_price 38 = .ok (.aload_n 0, 1) := by decide +kernel
theorem dX7_price_39 : decode cX7_price 39 = .ok (.getfield 16, 3) := by decide +kernel
theorem dX7_price_42 : decode cX7_price 42 = .ok (.getfield 114, 3) := by decide +kernel
theorem dX7_price_45 : decode cX7_price 45 = .ok (.iload_n 1, 1) := by decide +kernel
theorem dX7_price_46 : decode cX7_price 46 = .ok (.iload_n 2, 1) := by decide +kernel
theorem dX7_price_47 : decode cX7_price 47 = .ok (.iastore, 1) := by decide +kernel
theorem dX7_price_48 : decode cX7_price 48 = .ok (.iload_n 3, 1) := by decide +kernel
theorem dX7_price_49 : decode cX7_price 49 = .ok (.ireturn, 1) := by decide +kernel
theorem dX7_leads_0 : decode cX7_leads 0 = .ok (.iload_n 1, 1) := by decide +kernel
theorem dX7_leads_1 : decode cX7_leads 1 = .ok (.invokestatic 111, 3) := by decide +kernel
theorem dX7_leads_4 : decode cX7_leads 4 = .ok (.ifCond .eq 21, 3) := by decide +kernel
theorem dX7_leads_7 : decode cX7_leads 7 = .ok (.iload_n 2, 1) := by decide +kernel
theorem dX7_leads_8 : decode cX7_leads 8 = .ok (.ifCond .lt 17, 3) := by decide +kernel
theorem dX7_leads_11 : decode cX7_leads 11 = .ok (.iload_n 2, 1) := by decide +kernel
theorem dX7_leads_12 : decode cX7_leads 12 = .ok (.aload_n 0, 1) := by decide +kernel
theorem dX7_leads_13 : decode cX7_leads 13 = .ok (.getfield 16, 3) := by decide +kernel
theorem dX7_leads_16 : decode cX7_leads 16 = .ok (.getfield 49, 3) := by decide +kernel
theorem dX7_leads_19 : decode cX7_leads 19 = .ok (.getfield 53, 3) := by decide +kernel
theorem dX7_leads_22 : decode cX7_leads 22 = .ok (.if_icmp .le 5, 3) := by decide +kernel
theorem dX7_leads_25 : decode cX7_leads 25 = .ok (.iconst (-1), 1) := by decide +kernel
theorem dX7_leads_26 : decode cX7_leads 26 = .ok (.ireturn, 1) := by decide +kernel
theorem dX7_leads_27 : decode cX7_leads 27 = .ok (.aload_n 0, 1) := by decide +kernel
theorem dX7_leads_28 : decode cX7_leads 28 = .ok (.getfield 16, 3) := by decide +kernel
theorem dX7_leads_31 : decode cX7_leads 31 = .ok (.getfield 49, 3) := by decide +kernel
theorem dX7_leads_34 : decode cX7_leads 34 = .ok (.iload_n 1, 1) := by decide +kernel
theorem dX7_leads_35 : decode cX7_leads 35 = .ok (.iload_n 2, 1) := by decide +kernel
theorem dX7_leads_36 : decode cX7_leads 36 = .ok (.invokevirtual 117, 3) := by decide +kernel
theorem dX7_leads_39 : decode cX7_leads 39 = .ok (.ireturn, 1) := by decide +kernel
theorem dX7_steps_0 : decode cX7_steps 0 = .ok (.iload_n 2, 1) := by decide +kernel
theorem dX7_steps_1 : decode cX7_steps 1 = .ok (.bipush (-2), 2) := by decide +kernel
theorem dX7_steps_3 : decode cX7_steps 3 = .ok (.if_icmp .lt 17, 3) := by decide +kernel
theorem dX7_steps_6 : decode cX7_steps 6 = .ok (.aload_n 0, 1) := by decide +kernel
theorem dX7_steps_7 : decode cX7_steps 7 = .ok (.getfield 16, 3) := by decide +kernel
theorem dX7_steps_10 : decode cX7_steps 10 = .ok (.getfield 49, 3) := by decide +kernel
theorem dX7_steps_13 : decode cX7_steps 13 = .ok (.iload_n 1, 1) := by decide +kernel
theorem dX7_steps_14 : decode cX7_steps 14 = .ok (.invokevirtual 121, 3) := by decide +kernel
theorem dX7_steps_17 : decode cX7_steps 17 = .ok (.ifCond .ne 5, 3) := by decide +kernel
theorem dX7_steps_20 : decode cX7_steps 20 = .ok (.iconst (-1), 1) := by decide +kernel
theorem dX7_steps_21 : decode cX7_steps 21 = .ok (.ireturn, 1) := by decide +kernel
theorem dX7_steps_22 : decode cX7_steps 22 = .ok (.aload_n 0, 1) := by decide +kernel
theorem dX7_steps_23 : decode cX7_steps 23 = .ok (.getfield 26, 3) := by decide +kernel
theorem dX7_steps_26 : decode cX7_steps 26 = .ok (.aload_n 0, 1) := by decide +kernel
theorem dX7_steps_27 : decode cX7_steps 27 = .ok (.getfield 16, 3) := by decide +kernel
theorem dX7_steps_30 : decode cX7_steps 30 = .ok (.getfield 49, 3) := by decide +kernel
theorem dX7_steps_33 : decode cX7_steps 33 = .ok (.invokevirtual 124, 3) := by decide +kernel
theorem dX7_steps_36 : decode cX7_steps 36 = .ok (.aload_n 0, 1) := by decide +kernel
theorem dX7_steps_37 : decode cX7_steps 37 = .ok (.getfield 26, 3) := by decide +kernel
theorem dX7_steps_40 : decode cX7_steps 40 = .ok (.iload_n 1, 1) := by decide +kernel
theorem dX7_steps_41 : decode cX7_steps 41 = .ok (.iconst 1, 1) := by decide +kernel
theorem dX7_steps_42 : decode cX7_steps 42 = .ok (.aload_n 0, 1) := by decide +kernel
theorem dX7_steps_43 : decode cX7_steps 43 = .ok (.getfield 16, 3) := by decide +kernel
theorem dX7_steps_46 : decode cX7_steps 46 = .ok (.getfield 114, 3) := by decide +kernel
theorem dX7_steps_49 : decode cX7_steps 49 = .ok (.invokevirtual 128, 3) := by decide +kernel
theorem dX7_steps_52 : decode cX7_steps 52 = .ok (.iload_n 2, 1) := by decide +kernel
theorem dX7_steps_53 : decode cX7_steps 53 = .ok (.bipush (-2), 2) := by decide +kernel
theorem dX7_steps_55 : decode cX7_steps 55 = .ok (.if_icmp .ne 22, 3) := by decide +kernel
theorem dX7_steps_58 : decode cX7_steps 58 = .ok (.aload_n 0, 1) := by decide +kernel
theorem dX7_steps_59 : decode cX7_steps 59 = .ok (.getfield 26, 3) := by decide +kernel
theorem dX7_steps_62 : decode cX7_steps 62 = .ok (.getfield 132, 3) := by decide +kernel
theorem dX7_steps_65 : decode cX7_steps 65 = .ok (.aload_n 0, 1) := by decide +kernel
theorem dX7_steps_66 : decode cX7_steps 66 = .ok (.getfield 16, 3) := by decide +kernel
theorem dX7_steps_69 : decode cX7_steps 69 = .ok (.getfield 49, 3) := by decide +kernel
theorem dX7_steps_72 : decode cX7_steps 72 = .ok (.invokevirtual 135, 3) := by decide +kernel
theorem dX7_steps_75 : decode cX7_steps 75 = .ok (.iaload, 1) := by decide +kernel
theorem dX7_steps_76 : decode cX7_steps 76 = .ok (.ireturn, 1) := by decide +kernel
theorem dX7_steps_77 : decode cX7_steps 77 = .ok (.aload_n 0, 1) := by decide +kernel
theorem dX7_steps_78 : decode cX7_steps 78 = .ok (.getfield 26, 3) := by decide +kernel
theorem dX7_steps_81 : decode cX7_steps 81 = .ok (.aload_n 0, 1) := by decide +kernel
theorem dX7_steps_82 : decode cX7_steps 82 = .ok (.getfield 16, 3) := by decide +kernel
theorem dX7_steps_85 : decode cX7_steps 85 = .ok (.getfield 49, 3) := by decide +kernel
theorem dX7_steps_88 : decode cX7_steps 88 = .ok (.invokevirtual 135, 3) := by decide +kernel
theorem dX7_steps_91 : decode cX7_steps 91 = .ok (.iload_n 1, 1) := by decide +kernel
theorem dX7_steps_92 : decode cX7_steps 92 = .ok (.iload_n 2, 1) := by decide +kernel
theorem dX7_steps_93 : decode cX7_steps 93 = .ok (.aload_n 0, 1) := by decide +kernel
theorem dX7_steps_94 : decode cX7_steps 94 = .ok (.getfield 16, 3) := by decide +kernel
theorem dX7_steps_97 : decode cX7_steps 97 = .ok (.getfield 114, 3) := by decide +kernel
theorem dX7_steps_100 : decode cX7_steps 100 = .ok (.invokevirtual 138, 3) := by decide +kernel
theorem dX7_steps_103 : decode cX7_steps 103 = .ok (.ireturn, 1) := by decide +kernel
theorem dX7_farthest_0 : decode cX7_farthest 0 = .ok (.iload_n 1, 1) := by decide +kernel
theorem dX7_farthest_1 : decode cX7_farthest 1 = .ok (.ifCond .eq 10, 3) := by decide +kernel
theorem dX7_farthest_4 : decode cX7_farthest 4 = .ok (.iload_n 1, 1) := by decide +kernel
theorem dX7_farthest_5 : decode cX7_farthest 5 = .ok (.iconst 1, 1) := by decide +kernel
theorem dX7_farthest_6 : decode cX7_farthest 6 = .ok (.if_icmp .eq 5, 3) := by decide +kernel
theorem dX7_farthest_9 : decode cX7_farthest 9 = .ok (.iconst (-1), 1) := by decide +kernel
theorem dX7_farthest_10 : decode cX7_farthest 10 = .ok (.ireturn, 1) := by decide +kernel
theorem dX7_farthest_11 : decode cX7_farthest 11 = .ok (.aload_n 0, 1) := by decide +kernel
theorem dX7_farthest_12 : decode cX7_farthest 12 = .ok (.getfield 26, 3) := by decide +kernel
theorem dX7_farthest_15 : decode cX7_farthest 15 = .ok (.aload_n 0, 1) := by decide +kernel
theorem dX7_farthest_16 : decode cX7_farthest 16 = .ok (.getfield 16, 3) := by decide +kernel
theorem dX7_farthest_19 : decode cX7_farthest 19 = .ok (.getfield 49, 3) := by decide +kernel
theorem dX7_farthest_22 : decode cX7_farthest 22 = .ok (.invokevirtual 124, 3) := by decide +kernel
theorem dX7_farthest_25 : decode cX7_farthest 25 = .ok (.aload_n 0, 1) := by decide +kernel
theorem dX7_farthest_26 : decode cX7_farthest 26 = .ok (.getfield 26, 3) := by decide +kernel
theorem dX7_farthest_29 : decode cX7_farthest 29 = .ok (.aload_n 0, 1) := by decide +kernel
theorem dX7_farthest_30 : decode cX7_farthest 30 = .ok (.getfield 16, 3) := by decide +kernel
theorem dX7_farthest_33 : decode cX7_farthest 33 = .ok (.getfield 49, 3) := by decide +kernel
theorem dX7_farthest_36 : decode cX7_farthest 36 = .ok (.invokevirtual 135, 3) := by decide +kernel
theorem dX7_farthest_39 : decode cX7_farthest 39 = .ok (.iconst 0, 1) := by decide +kernel
theorem dX7_farthest_40 : decode cX7_farthest 40 = .ok (.aload_n 0, 1) := by decide +kernel
theorem dX7_farthest_41 : decode cX7_farthest 41 = .ok (.getfield 16, 3) := by decide +kernel
theorem dX7_farthest_44 : decode cX7_farthest 44 = .ok (.getfield 114, 3) := by decide +kernel
theorem dX7_farthest_47 : decode cX7_farthest 47 = .ok (.invokevirtual 128, 3) := by decide +kernel
theorem dX7_farthest_50 : decode cX7_farthest 50 = .ok (.aload_n 0, 1) := by decide +kernel
theorem dX7_farthest_51 : decode cX7_farthest 51 = .ok (.getfield 26, 3) := by decide +kernel
theorem dX7_farthest_54 : decode cX7_farthest 54 = .ok (.invokevirtual 142, 3) := by decide +kernel
theorem dX7_farthest_57 : decode cX7_farthest 57 = .ok (.istore_n 2, 1) := by decide +kernel
theorem dX7_farthest_58 : decode cX7_farthest 58 = .ok (.iload_n 1, 1) := by decide +kernel
theorem dX7_farthest_59 : decode cX7_farthest 59 = .ok (.ifCond .ne 15, 3) := by decide +kernel
theorem dX7_farthest_62 : decode cX7_farthest 62 = .ok (.aload_n 0, 1) := by decide +kernel
theorem dX7_farthest_63 : decode cX7_farthest 63 = .ok (.getfield 26, 3) := by decide +kernel
theorem dX7_farthest_66 : decode cX7_farthest 66 = .ok (.getfield 132, 3) := by decide +kernel
theorem dX7_farthest_69 : decode cX7_farthest 69 = .ok (.iload_n 2, 1) := by decide +kernel
theorem dX7_farthest_70 : decode cX7_farthest 70 = .ok (.iaload, 1) := by decide +kernel
theorem dX7_farthest_71 : decode cX7_farthest 71 = .ok (.goto 4, 3) := by decide +kernel
theorem dX7_farthest_74 : decode cX7_farthest 74 = .ok (.iload_n 2, 1) := by decide +kernel
theorem dX7_farthest_75 : decode cX7_farthest 75 = .ok (.ireturn, 1) := by decide +kernel
theorem dX7_once_0 : decode cX7_once 0 = .ok (.aload_n 0, 1) := by decide +kernel
theorem dX7_once_1 : decode cX7_once 1 = .ok (.getfield 16, 3) := by decide +kernel
theorem dX7_once_4 : decode cX7_once 4 = .ok (.getfield 49, 3) := by decide +kernel
theorem dX7_once_7 : decode cX7_once 7 = .ok (.iload_n 1, 1) := by decide +kernel
theorem dX7_once_8 : decode cX7_once 8 = .ok (.invokevirtual 121, 3) := by decide +kernel
theorem dX7_once_11 : decode cX7_once 11 = .ok (.ifCond .ne 5, 3) := by decide +kernel
theorem dX7_once_14 : decode cX7_once 14 = .ok (.iconst (-1), 1) := by decide +kernel
theorem dX7_once_15 : decode cX7_once 15 = .ok (.ireturn, 1) := by decide +kernel
theorem dX7_once_16 : decode cX7_once 16 = .ok (.iconst 0, 1) := by decide +kernel
theorem dX7_once_17 : decode cX7_once 17 = .ok (.istore_n 2, 1) := by decide +kernel
theorem dX7_once_18 : decode cX7_once 18 = .ok (.iconst 0, 1) := by decide +kernel
theorem dX7_once_19 : decode cX7_once 19 = .ok (.istore_n 3, 1) := by decide +kernel
theorem dX7_once_20 : decode cX7_once 20 = .ok (.iload_n 3, 1) := by decide +kernel
theorem dX7_once_21 : decode cX7_once 21 = .ok (.bipush 7, 2) := by decide +kernel
theorem dX7_once_23 : decode cX7_once 23 = .ok (.if_icmp .ge 40, 3) := by decide +kernel
theorem dX7_once_26 : decode cX7_once 26 = .ok (.aload_n 0, 1) := by decide +kernel
theorem dX7_once_27 : decode cX7_once 27 = .ok (.getfield 16, 3) := by decide +kernel
theorem dX7_once_30 : decode cX7_once 30 = .ok (.getfield 49, 3) := by decide +kernel
theorem dX7_once_33 : decode cX7_once 33 = .ok (.iload_n 3, 1) := by decide +kernel
theorem dX7_once_34 : decode cX7_once 34 = .ok (.aload_n 0, 1) := by decide +kernel
theorem dX7_once_35 : decode cX7_once 35 = .ok (.getfield 16, 3) := by decide +kernel
theorem dX7_once_38 : decode cX7_once 38 = .ok (.getfield 49, 3) := by decide +kernel
theorem dX7_once_41 : decode cX7_once 41 = .ok (.invokevirtual 135, 3) := by decide +kernel
theorem dX7_once_44 : decode cX7_once 44 = .ok (.invokevirtual 145, 3) := by decide +kernel
theorem dX7_once_47 : decode cX7_once 47 = .ok (.iload_n 1, 1) := by decide +kernel
theorem dX7_once_48 : decode cX7_once 48 = .ok (.if_icmp .ne 9, 3) := by decide +kernel
theorem dX7_once_51 : decode cX7_once 51 = .ok (.iload_n 2, 1) := by decide +kernel
theorem dX7_once_52 : decode cX7_once 52 = .ok (.iconst 1, 1) := by decide +kernel
theorem dX7_once_53 : decode cX7_once 53 = .ok (.iload_n 3, 1) := by decide +kernel
theorem dX7_once_54 : decode cX7_once 54 = .ok (.ishl, 1) := by decide +kernel
theorem dX7_once_55 : decode cX7_once 55 = .ok (.ior, 1) := by decide +kernel
theorem dX7_once_56 : decode cX7_once 56 = .ok (.istore_n 2, 1) := by decide +kernel
theorem dX7_once_57 : decode cX7_once 57 = .ok (.iinc 3 1, 3) := by decide +kernel
end
section
theorem dX7_once_60 : decode cX7_once 60 = .ok (.goto (-40), 3) := by decide +kernel
theorem dX7_once_63 : decode cX7_once 63 = .ok (.iload_n 2, 1) := by decide +kernel
theorem dX7_once_64 : decode cX7_once 64 = .ok (.ireturn, 1) := by decide +kernel
theorem dX7_goes_0 : decode cX7_goes 0 = .ok (.iload_n 1, 1) := by decide +kernel
theorem dX7_goes_1 : decode cX7_goes 1 = .ok (.invokestatic 111, 3) := by decide +kernel
theorem dX7_goes_4 : decode cX7_goes 4 = .ok (.ifCond .eq 14, 3) := by decide +kernel
theorem dX7_goes_7 : decode cX7_goes 7 = .ok (.iload_n 2, 1) := by decide +kernel
theorem dX7_goes_8 : decode cX7_goes 8 = .ok (.iconst 1, 1) := by decide +kernel
theorem dX7_goes_9 : decode cX7_goes 9 = .ok (.if_icmp .lt 9, 3) := by decide +kernel
theorem dX7_goes_12 : decode cX7_goes 12 = .ok (.iload_n 2, 1) := by decide +kernel
theorem dX7_goes_13 : decode cX7_goes 13 = .ok (.bipush 99, 2) := by decide +kernel
theorem dX7_goes_15 : decode cX7_goes 15 = .ok (.if_icmp .le 5, 3) := by decide +kernel
theorem dX7_goes_18 : decode cX7_goes 18 = .ok (.iconst (-1), 1) := by decide +kernel
theorem dX7_goes_19 : decode cX7_goes 19 = .ok (.ireturn, 1) := by decide +kernel
theorem dX7_goes_20 : decode cX7_goes 20 = .ok (.aload_n 0, 1) := by decide +kernel
theorem dX7_goes_21 : decode cX7_goes 21 = .ok (.getfield 16, 3) := by decide +kernel
theorem dX7_goes_24 : decode cX7_goes 24 = .ok (.iload_n 1, 1) := by decide +kernel
theorem dX7_goes_25 : decode cX7_goes 25 = .ok (.iload_n 2, 1) := by decide +kernel
theorem dX7_goes_26 : decode cX7_goes 26 = .ok (.iconst 0, 1) := by decide +kernel
theorem dX7_goes_27 : decode cX7_goes 27 = .ok (.invokevirtual 148, 3) := by decide +kernel
theorem dX7_goes_30 : decode cX7_goes 30 = .ok (.pop, 1) := by decide +kernel
theorem dX7_goes_31 : decode cX7_goes 31 = .ok (.aload_n 0, 1) := by decide +kernel
theorem dX7_goes_32 : decode cX7_goes 32 = .ok (.getfield 16, 3) := by decide +kernel
theorem dX7_goes_35 : decode cX7_goes 35 = .ok (.getfield 152, 3) := by decide +kernel
theorem dX7_goes_38 : decode cX7_goes 38 = .ok (.aload_n 0, 1) := by decide +kernel
theorem dX7_goes_39 : decode cX7_goes 39 = .ok (.getfield 16, 3) := by decide +kernel
theorem dX7_goes_42 : decode cX7_goes 42 = .ok (.getfield 155, 3) := by decide +kernel
theorem dX7_goes_45 : decode cX7_goes 45 = .ok (.isub, 1) := by decide +kernel
theorem dX7_goes_46 : decode cX7_goes 46 = .ok (.ireturn, 1) := by decide +kernel
theorem dX7_struck_0 : decode cX7_struck 0 = .ok (.iload_n 2, 1) := by decide +kernel
theorem dX7_struck_1 : decode cX7_struck 1 = .ok (.ifCond .lt 21, 3) := by decide +kernel
theorem dX7_struck_4 : decode cX7_struck 4 = .ok (.iload_n 2, 1) := by decide +kernel
theorem dX7_struck_5 : decode cX7_struck 5 = .ok (.iconst 4, 1) := by decide +kernel
theorem dX7_struck_6 : decode cX7_struck 6 = .ok (.if_icmp .gt 16, 3) := by decide +kernel
theorem dX7_struck_9 : decode cX7_struck 9 = .ok (.iload_n 3, 1) := by decide +kernel
theorem dX7_struck_10 : decode cX7_struck 10 = .ok (.ifCond .eq 8, 3) := by decide +kernel
theorem dX7_struck_13 : decode cX7_struck 13 = .ok (.iload_n 3, 1) := by decide +kernel
theorem dX7_struck_14 : decode cX7_struck 14 = .ok (.iconst 1, 1) := by decide +kernel
theorem dX7_struck_15 : decode cX7_struck 15 = .ok (.if_icmp .ne 7, 3) := by decide +kernel
theorem dX7_struck_18 : decode cX7_struck 18 = .ok (.iconst 1, 1) := by decide +kernel
theorem dX7_struck_19 : decode cX7_struck 19 = .ok (.goto 4, 3) := by decide +kernel
theorem dX7_struck_22 : decode cX7_struck 22 = .ok (.iconst 0, 1) := by decide +kernel
theorem dX7_struck_23 : decode cX7_struck 23 = .ok (.istore 4, 2) := by decide +kernel
theorem dX7_struck_25 : decode cX7_struck 25 = .ok (.iload 4, 2) := by decide +kernel
theorem dX7_struck_27 : decode cX7_struck 27 = .ok (.ifCond .eq 17, 3) := by decide +kernel
theorem dX7_struck_30 : decode cX7_struck 30 = .ok (.aload_n 0, 1) := by decide +kernel
theorem dX7_struck_31 : decode cX7_struck 31 = .ok (.getfield 16, 3) := by decide +kernel
theorem dX7_struck_34 : decode cX7_struck 34 = .ok (.getfield 49, 3) := by decide +kernel
theorem dX7_struck_37 : decode cX7_struck 37 = .ok (.iload_n 1, 1) := by decide +kernel
theorem dX7_struck_38 : decode cX7_struck 38 = .ok (.invokevirtual 121, 3) := by decide +kernel
theorem dX7_struck_41 : decode cX7_struck 41 = .ok (.ifCond .ne 5, 3) := by decide +kernel
theorem dX7_struck_44 : decode cX7_struck 44 = .ok (.iconst (-1), 1) := by decide +kernel
theorem dX7_struck_45 : decode cX7_struck 45 = .ok (.ireturn, 1) := by decide +kernel
theorem dX7_struck_46 : decode cX7_struck 46 = .ok (.aload_n 0, 1) := by decide +kernel
theorem dX7_struck_47 : decode cX7_struck 47 = .ok (.getfield 26, 3) := by decide +kernel
theorem dX7_struck_50 : decode cX7_struck 50 = .ok (.aload_n 0, 1) := by decide +kernel
theorem dX7_struck_51 : decode cX7_struck 51 = .ok (.getfield 16, 3) := by decide +kernel
theorem dX7_struck_54 : decode cX7_struck 54 = .ok (.getfield 49, 3) := by decide +kernel
theorem dX7_struck_57 : decode cX7_struck 57 = .ok (.invokevirtual 124, 3) := by decide +kernel
theorem dX7_struck_60 : decode cX7_struck 60 = .ok (.aload_n 0, 1) := by decide +kernel
theorem dX7_struck_61 : decode cX7_struck 61 = .ok (.getfield 26, 3) := by decide +kernel
theorem dX7_struck_64 : decode cX7_struck 64 = .ok (.iload_n 1, 1) := by decide +kernel
theorem dX7_struck_65 : decode cX7_struck 65 = .ok (.aload_n 0, 1) := by decide +kernel
theorem dX7_struck_66 : decode cX7_struck 66 = .ok (.getfield 16, 3) := by decide +kernel
theorem dX7_struck_69 : decode cX7_struck 69 = .ok (.getfield 49, 3) := by decide +kernel
theorem dX7_struck_72 : decode cX7_struck 72 = .ok (.invokevirtual 135, 3) := by decide +kernel
theorem dX7_struck_75 : decode cX7_struck 75 = .ok (.iload_n 2, 1) := by decide +kernel
theorem dX7_struck_76 : decode cX7_struck 76 = .ok (.invokevirtual 158, 3) := by decide +kernel
theorem dX7_struck_79 : decode cX7_struck 79 = .ok (.istore 5, 2) := by decide +kernel
theorem dX7_struck_81 : decode cX7_struck 81 = .ok (.iconst 1, 1) := by decide +kernel
theorem dX7_struck_82 : decode cX7_struck 82 = .ok (.istore 6, 2) := by decide +kernel
theorem dX7_struck_84 : decode cX7_struck 84 = .ok (.iconst 0, 1) := by decide +kernel
theorem dX7_struck_85 : decode cX7_struck 85 = .ok (.istore 7, 2) := by decide +kernel
theorem dX7_struck_87 : decode cX7_struck 87 = .ok (.iload 7, 2) := by decide +kernel
theorem dX7_struck_89 : decode cX7_struck 89 = .ok (.iload_n 2, 1) := by decide +kernel
theorem dX7_struck_90 : decode cX7_struck 90 = .ok (.if_icmp .ge 34, 3) := by decide +kernel
theorem dX7_struck_93 : decode cX7_struck 93 = .ok (.iload 5, 2) := by decide +kernel
theorem dX7_struck_95 : decode cX7_struck 95 = .ok (.bipush 7, 2) := by decide +kernel
theorem dX7_struck_97 : decode cX7_struck 97 = .ok (.irem, 1) := by decide +kernel
theorem dX7_struck_98 : decode cX7_struck 98 = .ok (.ifCond .ne 13, 3) := by decide +kernel
theorem dX7_struck_101 : decode cX7_struck 101 = .ok (.iload 5, 2) := by decide +kernel
theorem dX7_struck_103 : decode cX7_struck 103 = .ok (.bipush 7, 2) := by decide +kernel
theorem dX7_struck_105 : decode cX7_struck 105 = .ok (.idiv, 1) := by decide +kernel
theorem dX7_struck_106 : decode cX7_struck 106 = .ok (.istore 5, 2) := by decide +kernel
theorem dX7_struck_108 : decode cX7_struck 108 = .ok (.goto 10, 3) := by decide +kernel
theorem dX7_struck_111 : decode cX7_struck 111 = .ok (.iload 6, 2) := by decide +kernel
theorem dX7_struck_113 : decode cX7_struck 113 = .ok (.bipush 7, 2) := by decide +kernel
theorem dX7_struck_115 : decode cX7_struck 115 = .ok (.imul, 1) := by decide +kernel
theorem dX7_struck_116 : decode cX7_struck 116 = .ok (.istore 6, 2) := by decide +kernel
theorem dX7_struck_118 : decode cX7_struck 118 = .ok (.iinc 7 1, 3) := by decide +kernel
theorem dX7_struck_121 : decode cX7_struck 121 = .ok (.goto (-34), 3) := by decide +kernel
theorem dX7_struck_124 : decode cX7_struck 124 = .ok (.iload_n 3, 1) := by decide +kernel
theorem dX7_struck_125 : decode cX7_struck 125 = .ok (.ifCond .ne 8, 3) := by decide +kernel
theorem dX7_struck_128 : decode cX7_struck 128 = .ok (.iload 5, 2) := by decide +kernel
theorem dX7_struck_130 : decode cX7_struck 130 = .ok (.goto 5, 3) := by decide +kernel
theorem dX7_struck_133 : decode cX7_struck 133 = .ok (.iload 6, 2) := by decide +kernel
theorem dX7_struck_135 : decode cX7_struck 135 = .ok (.ireturn, 1) := by decide +kernel
theorem dX7_image_0 : decode cX7_image 0 = .ok (.aload_n 0, 1) := by decide +kernel
theorem dX7_image_1 : decode cX7_image 1 = .ok (.getfield 20, 3) := by decide +kernel
theorem dX7_image_4 : decode cX7_image 4 = .ok (.aload_n 0, 1) := by decide +kernel
theorem dX7_image_5 : decode cX7_image 5 = .ok (.getfield 16, 3) := by decide +kernel
theorem dX7_image_8 : decode cX7_image 8 = .ok (.invokevirtual 162, 3) := by decide +kernel
theorem dX7_image_11 : decode cX7_image 11 = .ok (.aload_n 0, 1) := by decide +kernel
theorem dX7_image_12 : decode cX7_image 12 = .ok (.iconst 1, 1) := by decide +kernel
theorem dX7_image_13 : decode cX7_image 13 = .ok (.putfield 166, 3) := by decide +kernel
theorem dX7_image_16 : decode cX7_image 16 = .ok (.iconst 1, 1) := by decide +kernel
theorem dX7_image_17 : decode cX7_image 17 = .ok (.ireturn, 1) := by decide +kernel
theorem dX7_restore_0 : decode cX7_restore 0 = .ok (.aload_n 0, 1) := by decide +kernel
theorem dX7_restore_1 : decode cX7_restore 1 = .ok (.getfield 166, 3) := by decide +kernel
theorem dX7_restore_4 : decode cX7_restore 4 = .ok (.ifCond .ne 6, 3) := by decide +kernel
theorem dX7_restore_7 : decode cX7_restore 7 = .ok (.bipush (-4), 2) := by decide +kernel
theorem dX7_restore_9 : decode cX7_restore 9 = .ok (.ireturn, 1) := by decide +kernel
theorem dX7_restore_10 : decode cX7_restore 10 = .ok (.aload_n 0, 1) := by decide +kernel
theorem dX7_restore_11 : decode cX7_restore 11 = .ok (.getfield 16, 3) := by decide +kernel
theorem dX7_restore_14 : decode cX7_restore 14 = .ok (.aload_n 0, 1) := by decide +kernel
theorem dX7_restore_15 : decode cX7_restore 15 = .ok (.getfield 20, 3) := by decide +kernel
theorem dX7_restore_18 : decode cX7_restore 18 = .ok (.invokevirtual 162, 3) := by decide +kernel
theorem dX7_restore_21 : decode cX7_restore 21 = .ok (.iconst 1, 1) := by decide +kernel
theorem dX7_restore_22 : decode cX7_restore 22 = .ok (.ireturn, 1) := by decide +kernel
theorem dX7_play_0 : decode cX7_play 0 = .ok (.aload_n 0, 1) := by decide +kernel
theorem dX7_play_1 : decode cX7_play 1 = .ok (.iload_n 1, 1) := by decide +kernel
theorem dX7_play_2 : decode cX7_play 2 = .ok (.invokevirtual 169, 3) := by decide +kernel
theorem dX7_play_5 : decode cX7_play 5 = .ok (.astore 5, 2) := by decide +kernel
theorem dX7_play_7 : decode cX7_play 7 = .ok (.aload 5, 2) := by decide +kernel
theorem dX7_play_9 : decode cX7_play 9 = .ok (.ifnull 18, 3) := by decide +kernel
theorem dX7_play_12 : decode cX7_play 12 = .ok (.iload_n 2, 1) := by decide +kernel
theorem dX7_play_13 : decode cX7_play 13 = .ok (.invokestatic 173, 3) := by decide +kernel
theorem dX7_play_16 : decode cX7_play 16 = .ok (.ifCond .eq 11, 3) := by decide +kernel
theorem dX7_play_19 : decode cX7_play 19 = .ok (.iload 4, 2) := by decide +kernel
theorem dX7_play_21 : decode cX7_play 21 = .ok (.invokestatic 176, 3) := by decide +kernel
theorem dX7_play_24 : decode cX7_play 24 = .ok (.ifCond .ne 5, 3) := by decide +kernel
theorem dX7_play_27 : decode cX7_play 27 = .ok (.iconst (-1), 1) := by decide +kernel
theorem dX7_play_28 : decode cX7_play 28 = .ok (.ireturn, 1) := by decide +kernel
theorem dX7_play_29 : decode cX7_play 29 = .ok (.aload 5, 2) := by decide +kernel
theorem dX7_play_31 : decode cX7_play 31 = .ok (.iload_n 2, 1) := by decide +kernel
theorem dX7_play_32 : decode cX7_play 32 = .ok (.iload_n 3, 1) := by decide +kernel
theorem dX7_play_33 : decode cX7_play 33 = .ok (.iload 4, 2) := by decide +kernel
theorem dX7_play_35 : decode cX7_play 35 = .ok (.invokevirtual 179, 3) := by decide +kernel
theorem dX7_play_38 : decode cX7_play 38 = .ok (.istore 6, 2) := by decide +kernel
theorem dX7_play_40 : decode cX7_play 40 = .ok (.iload 6, 2) := by decide +kernel
theorem dX7_play_42 : decode cX7_play 42 = .ok (.ifCond .eq 6, 3) := by decide +kernel
theorem dX7_play_45 : decode cX7_play 45 = .ok (.iload 6, 2) := by decide +kernel
theorem dX7_play_47 : decode cX7_play 47 = .ok (.ireturn, 1) := by decide +kernel
theorem dX7_play_48 : decode cX7_play 48 = .ok (.iload_n 3, 1) := by decide +kernel
theorem dX7_play_49 : decode cX7_play 49 = .ok (.istore 7, 2) := by decide +kernel
theorem dX7_play_51 : decode cX7_play 51 = .ok (.iload 7, 2) := by decide +kernel
theorem dX7_play_53 : decode cX7_play 53 = .ok (.iload_n 3, 1) := by decide +kernel
theorem dX7_play_54 : decode cX7_play 54 = .ok (.iload 4, 2) := by decide +kernel
theorem dX7_play_56 : decode cX7_play 56 = .ok (.iadd, 1) := by decide +kernel
theorem dX7_play_57 : decode cX7_play 57 = .ok (.if_icmp .ge 42, 3) := by decide +kernel
theorem dX7_play_60 : decode cX7_play 60 = .ok (.aload 5, 2) := by decide +kernel
theorem dX7_play_62 : decode cX7_play 62 = .ok (.getfield 182, 3) := by decide +kernel
theorem dX7_play_65 : decode cX7_play 65 = .ok (.iload 7, 2) := by decide +kernel
theorem dX7_play_67 : decode cX7_play 67 = .ok (.laload, 1) := by decide +kernel
theorem dX7_play_68 : decode cX7_play 68 = .ok (.ldc2_w 186, 3) := by decide +kernel
theorem dX7_play_71 : decode cX7_play 71 = .ok (.lcmp, 1) := by decide +kernel
theorem dX7_play_72 : decode cX7_play 72 = .ok (.ifCond .lt 18, 3) := by decide +kernel
theorem dX7_play_75 : decode cX7_play 75 = .ok (.aload 5, 2) := by decide +kernel
theorem dX7_play_77 : decode cX7_play 77 = .ok (.getfield 182, 3) := by decide +kernel
theorem dX7_play_80 : decode cX7_play 80 = .ok (.iload 7, 2) := by decide +kernel
theorem dX7_play_82 : decode cX7_play 82 = .ok (.laload, 1) := by decide +kernel
theorem dX7_play_83 : decode cX7_play 83 = .ok (.ldc2_w 188, 3) := by decide +kernel
theorem dX7_play_86 : decode cX7_play 86 = .ok (.lcmp, 1) := by decide +kernel
theorem dX7_play_87 : decode cX7_play 87 = .ok (.ifCond .le 6, 3) := by decide +kernel
theorem dX7_play_90 : decode cX7_play 90 = .ok (.bipush (-2), 2) := by decide +kernel
theorem dX7_play_92 : decode cX7_play 92 = .ok (.ireturn, 1) := by decide +kernel
theorem dX7_play_93 : decode cX7_play 93 = .ok (.iinc 7 1, 3) := by decide +kernel
theorem dX7_play_96 : decode cX7_play 96 = .ok (.goto (-45), 3) := by decide +kernel
theorem dX7_play_99 : decode cX7_play 99 = .ok (.iconst 0, 1) := by decide +kernel
theorem dX7_play_100 : decode cX7_play 100 = .ok (.istore 7, 2) := by decide +kernel
theorem dX7_play_102 : decode cX7_play 102 = .ok (.iload_n 3, 1) := by decide +kernel
theorem dX7_play_103 : decode cX7_play 103 = .ok (.istore 8, 2) := by decide +kernel
theorem dX7_play_105 : decode cX7_play 105 = .ok (.iload 8, 2) := by decide +kernel
theorem dX7_play_107 : decode cX7_play 107 = .ok (.iload_n 3, 1) := by decide +kernel
theorem dX7_play_108 : decode cX7_play 108 = .ok (.iload 4, 2) := by decide +kernel
theorem dX7_play_110 : decode cX7_play 110 = .ok (.iadd, 1) := by decide +kernel
theorem dX7_play_111 : decode cX7_play 111 = .ok (.if_icmp .ge 31, 3) := by decide +kernel
theorem dX7_play_114 : decode cX7_play 114 = .ok (.aload_n 0, 1) := by decide +kernel
theorem dX7_play_115 : decode cX7_play 115 = .ok (.getfield 16, 3) := by decide +kernel
theorem dX7_play_118 : decode cX7_play 118 = .ok (.aload 5, 2) := by decide +kernel
theorem dX7_play_120 : decode cX7_play 120 = .ok (.getfield 182, 3) := by decide +kernel
theorem dX7_play_123 : decode cX7_play 123 = .ok (.iload 8, 2) := by decide +kernel
theorem dX7_play_125 : decode cX7_play 125 = .ok (.laload, 1) := by decide +kernel
theorem dX7_play_126 : decode cX7_play 126 = .ok (.l2i, 1) := by decide +kernel
theorem dX7_play_127 : decode cX7_play 127 = .ok (.invokevirtual 108, 3) := by decide +kernel
theorem dX7_play_130 : decode cX7_play 130 = .ok (.ifCond .ge 6, 3) := by decide +kernel
theorem dX7_play_133 : decode cX7_play 133 = .ok (.iinc 7 1, 3) := by decide +kernel
theorem dX7_play_136 : decode cX7_play 136 = .ok (.iinc 8 1, 3) := by decide +kernel
theorem dX7_play_139 : decode cX7_play 139 = .ok (.goto (-34), 3) := by decide +kernel
theorem dX7_play_142 : decode cX7_play 142 = .ok (.iload 7, 2) := by decide +kernel
theorem dX7_play_144 : decode cX7_play 144 = .ok (.ireturn, 1) := by decide +kernel
theorem dX7_film_0 : decode cX7_film 0 = .ok (.aload_n 0, 1) := by decide +kernel
theorem dX7_film_1 : decode cX7_film 1 = .ok (.iload_n 3, 1) := by decide +kernel
theorem dX7_film_2 : decode cX7_film 2 = .ok (.invokevirtual 169, 3) := by decide +kernel
theorem dX7_film_5 : decode cX7_film 5 = .ok (.astore 6, 2) := by decide +kernel
theorem dX7_film_7 : decode cX7_film 7 = .ok (.aload 6, 2) := by decide +kernel
theorem dX7_film_9 : decode cX7_film 9 = .ok (.ifnull 38, 3) := by decide +kernel
theorem dX7_film_12 : decode cX7_film 12 = .ok (.iload 4, 2) := by decide +kernel
theorem dX7_film_14 : decode cX7_film 14 = .ok (.invokestatic 173, 3) := by decide +kernel
theorem dX7_film_17 : decode cX7_film 17 = .ok (.ifCond .eq 30, 3) := by decide +kernel
theorem dX7_film_20 : decode cX7_film 20 = .ok (.iload_n 2, 1) := by decide +kernel
theorem dX7_film_21 : decode cX7_film 21 = .ok (.invokestatic 176, 3) := by decide +kernel
theorem dX7_film_24 : decode cX7_film 24 = .ok (.ifCond .eq 23, 3) := by decide +kernel
theorem dX7_film_27 : decode cX7_film 27 = .ok (.iload_n 1, 1) := by decide +kernel
theorem dX7_film_28 : decode cX7_film 28 = .ok (.ifCond .lt 19, 3) := by decide +kernel
theorem dX7_film_31 : decode cX7_film 31 = .ok (.iload_n 1, 1) := by decide +kernel
theorem dX7_film_32 : decode cX7_film 32 = .ok (.aload_n 0, 1) := by decide +kernel
theorem dX7_film_33 : decode cX7_film 33 = .ok (.getfield 16, 3) := by decide +kernel
theorem dX7_film_36 : decode cX7_film 36 = .ok (.getfield 49, 3) := by decide +kernel
theorem dX7_film_39 : decode cX7_film 39 = .ok (.getfield 53, 3) := by decide +kernel
theorem dX7_film_42 : decode cX7_film 42 = .ok (.iload_n 2, 1) := by decide +kernel
theorem dX7_film_43 : decode cX7_film 43 = .ok (.isub, 1) := by decide +kernel
theorem dX7_film_44 : decode cX7_film 44 = .ok (.if_icmp .le 5, 3) := by decide +kernel
theorem dX7_film_47 : decode cX7_film 47 = .ok (.iconst (-1), 1) := by decide +kernel
theorem dX7_film_48 : decode cX7_film 48 = .ok (.ireturn, 1) := by decide +kernel
theorem dX7_film_49 : decode cX7_film 49 = .ok (.aload 6, 2) := by decide +kernel
theorem dX7_film_51 : decode cX7_film 51 = .ok (.iload 4, 2) := by decide +kernel
theorem dX7_film_53 : decode cX7_film 53 = .ok (.iload 5, 2) := by decide +kernel
theorem dX7_film_55 : decode cX7_film 55 = .ok (.iload_n 2, 1) := by decide +kernel
theorem dX7_film_56 : decode cX7_film 56 = .ok (.invokevirtual 179, 3) := by decide +kernel
theorem dX7_film_59 : decode cX7_film 59 = .ok (.istore 7, 2) := by decide +kernel
theorem dX7_film_61 : decode cX7_film 61 = .ok (.iload 7, 2) := by decide +kernel
theorem dX7_film_63 : decode cX7_film 63 = .ok (.ifCond .eq 6, 3) := by decide +kernel
theorem dX7_film_66 : decode cX7_film 66 = .ok (.iload 7, 2) := by decide +kernel
theorem dX7_film_68 : decode cX7_film 68 = .ok (.ireturn, 1) := by decide +kernel
theorem dX7_film_69 : decode cX7_film 69 = .ok (.iconst 0, 1) := by decide +kernel
theorem dX7_film_70 : decode cX7_film 70 = .ok (.istore 8, 2) := by decide +kernel
theorem dX7_film_72 : decode cX7_film 72 = .ok (.iload 8, 2) := by decide +kernel
theorem dX7_film_74 : decode cX7_film 74 = .ok (.iload_n 2, 1) := by decide +kernel
theorem dX7_film_75 : decode cX7_film 75 = .ok (.if_icmp .ge 34, 3) := by decide +kernel
theorem dX7_film_78 : decode cX7_film 78 = .ok (.aload 6, 2) := by decide +kernel
theorem dX7_film_80 : decode cX7_film 80 = .ok (.iload 5, 2) := by decide +kernel
theorem dX7_film_82 : decode cX7_film 82 = .ok (.iload 8, 2) := by decide +kernel
theorem dX7_film_84 : decode cX7_film 84 = .ok (.iadd, 1) := by decide +kernel
theorem dX7_film_85 : decode cX7_film 85 = .ok (.aload_n 0, 1) := by decide +kernel
theorem dX7_film_86 : decode cX7_film 86 = .ok (.getfield 16, 3) := by decide +kernel
theorem dX7_film_89 : decode cX7_film 89 = .ok (.getfield 49, 3) := by decide +kernel
theorem dX7_film_92 : decode cX7_film 92 = .ok (.iload_n 1, 1) := by decide +kernel
theorem dX7_film_93 : decode cX7_film 93 = .ok (.iload 8, 2) := by decide +kernel
theorem dX7_film_95 : decode cX7_film 95 = .ok (.iadd, 1) := by decide +kernel
theorem dX7_film_96 : decode cX7_film 96 = .ok (.invokevirtual 61, 3) := by decide +kernel
theorem dX7_film_99 : decode cX7_film 99 = .ok (.i2l, 1) := by decide +kernel
theorem dX7_film_100 : decode cX7_film 100 = .ok (.invokevirtual 190, 3) := by decide +kernel
theorem dX7_film_103 : decode cX7_film 103 = .ok (.iinc 8 1, 3) := by decide +kernel
theorem dX7_film_106 : decode cX7_film 106 = .ok (.goto (-34), 3) := by decide +kernel
theorem dX7_film_109 : decode cX7_film 109 = .ok (.iload_n 2, 1) := by decide +kernel
theorem dX7_film_110 : decode cX7_film 110 = .ok (.ireturn, 1) := by decide +kernel
theorem dX7_sheet_0 : decode cX7_sheet 0 = .ok (.aload_n 0, 1) := by decide +kernel
theorem dX7_sheet_1 : decode cX7_sheet 1 = .ok (.iload_n 1, 1) := by decide +kernel
theorem dX7_sheet_2 : decode cX7_sheet 2 = .ok (.invokevirtual 169, 3) := by decide +kernel
theorem dX7_sheet_5 : decode cX7_sheet 5 = .ok (.astore 4, 2) := by decide +kernel
theorem dX7_sheet_7 : decode cX7_sheet 7 = .ok (.aload 4, 2) := by decide +kernel
theorem dX7_sheet_9 : decode cX7_sheet 9 = .ok (.ifnull 16, 3) := by decide +kernel
theorem dX7_sheet_12 : decode cX7_sheet 12 = .ok (.iload_n 2, 1) := by decide +kernel
theorem dX7_sheet_13 : decode cX7_sheet 13 = .ok (.invokestatic 173, 3) := by decide +kernel
theorem dX7_sheet_16 : decode cX7_sheet 16 = .ok (.ifCond .eq 9, 3) := by decide +kernel
theorem dX7_sheet_19 : decode cX7_sheet 19 = .ok (.iload_n 3, 1) := by decide +kernel
theorem dX7_sheet_20 : decode cX7_sheet 20 = .ok (.bipush 24, 2) := by decide +kernel
theorem dX7_sheet_22 : decode cX7_sheet 22 = .ok (.if_icmp .le 5, 3) := by decide +kernel
theorem dX7_sheet_25 : decode cX7_sheet 25 = .ok (.iconst (-1), 1) := by decide +kernel
theorem dX7_sheet_26 : decode cX7_sheet 26 = .ok (.ireturn, 1) := by decide +kernel
theorem dX7_sheet_27 : decode cX7_sheet 27 = .ok (.iload_n 3, 1) := by decide +kernel
theorem dX7_sheet_28 : decode cX7_sheet 28 = .ok (.ifCond .ge 6, 3) := by decide +kernel
theorem dX7_sheet_31 : decode cX7_sheet 31 = .ok (.bipush (-14), 2) := by decide +kernel
theorem dX7_sheet_33 : decode cX7_sheet 33 = .ok (.ireturn, 1) := by decide +kernel
theorem dX7_sheet_34 : decode cX7_sheet 34 = .ok (.aload 4, 2) := by decide +kernel
theorem dX7_sheet_36 : decode cX7_sheet 36 = .ok (.iload_n 2, 1) := by decide +kernel
theorem dX7_sheet_37 : decode cX7_sheet 37 = .ok (.iload_n 3, 1) := by decide +kernel
theorem dX7_sheet_38 : decode cX7_sheet 38 = .ok (.invokevirtual 194, 3) := by decide +kernel
theorem dX7_sheet_41 : decode cX7_sheet 41 = .ok (.iload_n 3, 1) := by decide +kernel
theorem dX7_sheet_42 : decode cX7_sheet 42 = .ok (.ireturn, 1) := by decide +kernel
theorem dX7_drop_0 : decode cX7_drop 0 = .ok (.aload_n 0, 1) := by decide +kernel
theorem dX7_drop_1 : decode cX7_drop 1 = .ok (.iload_n 1, 1) := by decide +kernel
theorem dX7_drop_2 : decode cX7_drop 2 = .ok (.invokevirtual 169, 3) := by decide +kernel
theorem dX7_drop_5 : decode cX7_drop 5 = .ok (.astore_n 2, 1) := by decide +kernel
theorem dX7_drop_6 : decode cX7_drop 6 = .ok (.aload_n 2, 1) := by decide +kernel
theorem dX7_drop_7 : decode cX7_drop 7 = .ok (.ifnonnull 5, 3) := by decide +kernel
theorem dX7_drop_10 : decode cX7_drop 10 = .ok (.iconst (-1), 1) := by decide +kernel
theorem dX7_drop_11 : decode cX7_drop 11 = .ok (.ireturn, 1) := by decide +kernel
theorem dX7_drop_12 : decode cX7_drop 12 = .ok (.aload_n 2, 1) := by decide +kernel
theorem dX7_drop_13 : decode cX7_drop 13 = .ok (.invokevirtual 198, 3) := by decide +kernel
theorem dX7_drop_16 : decode cX7_drop 16 = .ok (.ifCond .eq 6, 3) := by decide +kernel
theorem dX7_drop_19 : decode cX7_drop 19 = .ok (.bipush (-11), 2) := by decide +kernel
theorem dX7_drop_21 : decode cX7_drop 21 = .ok (.ireturn, 1) := by decide +kernel
theorem dX7_drop_22 : decode cX7_drop 22 = .ok (.aload_n 2, 1) := by decide +kernel
theorem dX7_drop_23 : decode cX7_drop 23 = .ok (.getfield 201, 3) := by decide +kernel
theorem dX7_drop_26 : decode cX7_drop 26 = .ok (.istore_n 3, 1) := by decide +kernel
theorem dX7_drop_27 : decode cX7_drop 27 = .ok (.aload_n 2, 1) := by decide +kernel
theorem dX7_drop_28 : decode cX7_drop 28 = .ok (.iconst (-1), 1) := by decide +kernel
theorem dX7_drop_29 : decode cX7_drop 29 = .ok (.iconst 0, 1) := by decide +kernel
theorem dX7_drop_30 : decode cX7_drop 30 = .ok (.invokevirtual 194, 3) := by decide +kernel
theorem dX7_drop_33 : decode cX7_drop 33 = .ok (.iload_n 3, 1) := by decide +kernel
theorem dX7_drop_34 : decode cX7_drop 34 = .ok (.ireturn, 1) := by decide +kernel
theorem dX7_item_0 : decode cX7_item 0 = .ok (.aload_n 0, 1) := by decide +kernel
theorem dX7_item_1 : decode cX7_item 1 = .ok (.iload_n 1, 1) := by decide +kernel
theorem dX7_item_2 : decode cX7_item 2 = .ok (.invokevirtual 169, 3) := by decide +kernel
theorem dX7_item_5 : decode cX7_item 5 = .ok (.astore 6, 2) := by decide +kernel
theorem dX7_item_7 : decode cX7_item 7 = .ok (.aload 6, 2) := by decide +kernel
theorem dX7_item_9 : decode cX7_item 9 = .ok (.ifnull 10, 3) := by decide +kernel
theorem dX7_item_12 : decode cX7_item 12 = .ok (.iload_n 2, 1) := by decide +kernel
theorem dX7_item_13 : decode cX7_item 13 = .ok (.invokestatic 173, 3) := by decide +kernel
theorem dX7_item_16 : decode cX7_item 16 = .ok (.ifCond .ne 5, 3) := by decide +kernel
theorem dX7_item_19 : decode cX7_item 19 = .ok (.iconst (-1), 1) := by decide +kernel
theorem dX7_item_20 : decode cX7_item 20 = .ok (.ireturn, 1) := by decide +kernel
theorem dX7_item_21 : decode cX7_item 21 = .ok (.aload 6, 2) := by decide +kernel
theorem dX7_item_23 : decode cX7_item 23 = .ok (.iload_n 2, 1) := by decide +kernel
theorem dX7_item_24 : decode cX7_item 24 = .ok (.iload_n 3, 1) := by decide +kernel
theorem dX7_item_25 : decode cX7_item 25 = .ok (.iconst 1, 1) := by decide +kernel
theorem dX7_item_26 : decode cX7_item 26 = .ok (.invokevirtual 179, 3) := by decide +kernel
theorem dX7_item_29 : decode cX7_item 29 = .ok (.istore 7, 2) := by decide +kernel
theorem dX7_item_31 : decode cX7_item 31 = .ok (.iload 7, 2) := by decide +kernel
theorem dX7_item_33 : decode cX7_item 33 = .ok (.ifCond .eq 6, 3) := by decide +kernel
theorem dX7_item_36 : decode cX7_item 36 = .ok (.iload 7, 2) := by decide +kernel
theorem dX7_item_38 : decode cX7_item 38 = .ok (.ireturn, 1) := by decide +kernel
theorem dX7_item_39 : decode cX7_item 39 = .ok (.aload 6, 2) := by decide +kernel
theorem dX7_item_41 : decode cX7_item 41 = .ok (.iload_n 3, 1) := by decide +kernel
theorem dX7_item_42 : decode cX7_item 42 = .ok (.lload 4, 2) := by decide +kernel
theorem dX7_item_44 : decode cX7_item 44 = .ok (.invokevirtual 190, 3) := by decide +kernel
theorem dX7_item_47 : decode cX7_item 47 = .ok (.iconst 1, 1) := by decide +kernel
theorem dX7_item_48 : decode cX7_item 48 = .ok (.ireturn, 1) := by decide +kernel
theorem dX7_copy_0 : decode cX7_copy 0 = .ok (.aload_n 0, 1) := by decide +kernel
theorem dX7_copy_1 : decode cX7_copy 1 = .ok (.iload_n 1, 1) := by decide +kernel
theorem dX7_copy_2 : decode cX7_copy 2 = .ok (.invokevirtual 169, 3) := by decide +kernel
theorem dX7_copy_5 : decode cX7_copy 5 = .ok (.astore 6, 2) := by decide +kernel
theorem dX7_copy_7 : decode cX7_copy 7 = .ok (.aload_n 0, 1) := by decide +kernel
theorem dX7_copy_8 : decode cX7_copy 8 = .ok (.iload_n 3, 1) := by decide +kernel
theorem dX7_copy_9 : decode cX7_copy 9 = .ok (.invokevirtual 169, 3) := by decide +kernel
theorem dX7_copy_12 : decode cX7_copy 12 = .ok (.astore 7, 2) := by decide +kernel
theorem dX7_copy_14 : decode cX7_copy 14 = .ok (.aload 6, 2) := by decide +kernel
theorem dX7_copy_16 : decode cX7_copy 16 = .ok (.ifnull 8, 3) := by decide +kernel
theorem dX7_copy_19 : decode cX7_copy 19 = .ok (.aload 7, 2) := by decide +kernel
theorem dX7_copy_21 : decode cX7_copy 21 = .ok (.ifnonnull 5, 3) := by decide +kernel
theorem dX7_copy_24 : decode cX7_copy 24 = .ok (.iconst (-1), 1) := by decide +kernel
theorem dX7_copy_25 : decode cX7_copy 25 = .ok (.ireturn, 1) := by decide +kernel
theorem dX7_copy_26 : decode cX7_copy 26 = .ok (.aload 6, 2) := by decide +kernel
theorem dX7_copy_28 : decode cX7_copy 28 = .ok (.invokevirtual 198, 3) := by decide +kernel
theorem dX7_copy_31 : decode cX7_copy 31 = .ok (.ifCond .ne 11, 3) := by decide +kernel
theorem dX7_copy_34 : decode cX7_copy 34 = .ok (.aload 7, 2) := by decide +kernel
theorem dX7_copy_36 : decode cX7_copy 36 = .ok (.invokevirtual 198, 3) := by decide +kernel
theorem dX7_copy_39 : decode cX7_copy 39 = .ok (.ifCond .eq 6, 3) := by decide +kernel
theorem dX7_copy_42 : decode cX7_copy 42 = .ok (.bipush (-11), 2) := by decide +kernel
theorem dX7_copy_44 : decode cX7_copy 44 = .ok (.ireturn, 1) := by decide +kernel
theorem dX7_copy_45 : decode cX7_copy 45 = .ok (.aload 6, 2) := by decide +kernel
theorem dX7_copy_47 : decode cX7_copy 47 = .ok (.getfield 202, 3) := by decide +kernel
theorem dX7_copy_50 : decode cX7_copy 50 = .ok (.aload 7, 2) := by decide +kernel
theorem dX7_copy_52 : decode cX7_copy 52 = .ok (.getfield 202, 3) := by decide +kernel
theorem dX7_copy_55 : decode cX7_copy 55 = .ok (.if_icmp .eq 6, 3) := by decide +kernel
theorem dX7_copy_58 : decode cX7_copy 58 = .ok (.bipush (-12), 2) := by decide +kernel
theorem dX7_copy_60 : decode cX7_copy 60 = .ok (.ireturn, 1) := by decide +kernel
theorem dX7_copy_61 : decode cX7_copy 61 = .ok (.aload 6, 2) := by decide +kernel
theorem dX7_copy_63 : decode cX7_copy 63 = .ok (.iload_n 2, 1) := by decide +kernel
theorem dX7_copy_64 : decode cX7_copy 64 = .ok (.iload 5, 2) := by decide +kernel
theorem dX7_copy_66 : decode cX7_copy 66 = .ok (.invokevirtual 205, 3) := by decide +kernel
theorem dX7_copy_69 : decode cX7_copy 69 = .ok (.ifCond .eq 15, 3) := by decide +kernel
theorem dX7_copy_72 : decode cX7_copy 72 = .ok (.aload 7, 2) := by decide +kernel
theorem dX7_copy_74 : decode cX7_copy 74 = .ok (.iload 4, 2) := by decide +kernel
theorem dX7_copy_76 : decode cX7_copy 76 = .ok (.iload 5, 2) := by decide +kernel
theorem dX7_copy_78 : decode cX7_copy 78 = .ok (.invokevirtual 205, 3) := by decide +kernel
theorem dX7_copy_81 : decode cX7_copy 81 = .ok (.ifCond .ne 6, 3) := by decide +kernel
theorem dX7_copy_84 : decode cX7_copy 84 = .ok (.bipush (-13), 2) := by decide +kernel
theorem dX7_copy_86 : decode cX7_copy 86 = .ok (.ireturn, 1) := by decide +kernel
theorem dX7_copy_87 : decode cX7_copy 87 = .ok (.aload 6, 2) := by decide +kernel
theorem dX7_copy_89 : decode cX7_copy 89 = .ok (.getfield 182, 3) := by decide +kernel
theorem dX7_copy_92 : decode cX7_copy 92 = .ok (.iload_n 2, 1) := by decide +kernel
theorem dX7_copy_93 : decode cX7_copy 93 = .ok (.aload 7, 2) := by decide +kernel
theorem dX7_copy_95 : decode cX7_copy 95 = .ok (.getfield 182, 3) := by decide +kernel
theorem dX7_copy_98 : decode cX7_copy 98 = .ok (.iload 4, 2) := by decide +kernel
theorem dX7_copy_100 : decode cX7_copy 100 = .ok (.iload 5, 2) := by decide +kernel
theorem dX7_copy_102 : decode cX7_copy 102 = .ok (.invokestatic 209, 3) := by decide +kernel
theorem dX7_copy_105 : decode cX7_copy 105 = .ok (.iload 5, 2) := by decide +kernel
theorem dX7_copy_107 : decode cX7_copy 107 = .ok (.ireturn, 1) := by decide +kernel
theorem dX7_sheetAt_0 : decode cX7_sheetAt 0 = .ok (.iload_n 1, 1) := by decide +kernel
theorem dX7_sheetAt_1 : decode cX7_sheetAt 1 = .ok (.ifCond .lt 17, 3) := by decide +kernel
theorem dX7_sheetAt_4 : decode cX7_sheetAt 4 = .ok (.iload_n 1, 1) := by decide +kernel
theorem dX7_sheetAt_5 : decode cX7_sheetAt 5 = .ok (.iconst 4, 1) := by decide +kernel
theorem dX7_sheetAt_6 : decode cX7_sheetAt 6 = .ok (.if_icmp .ge 12, 3) := by decide +kernel
theorem dX7_sheetAt_9 : decode cX7_sheetAt 9 = .ok (.aload_n 0, 1) := by decide +kernel
theorem dX7_sheetAt_10 : decode cX7_sheetAt 10 = .ok (.getfield 32, 3) := by decide +kernel
theorem dX7_sheetAt_13 : decode cX7_sheetAt 13 = .ok (.iload_n 1, 1) := by decide +kernel
theorem dX7_sheetAt_14 : decode cX7_sheetAt 14 = .ok (.aaload, 1) := by decide +kernel
theorem dX7_sheetAt_15 : decode cX7_sheetAt 15 = .ok (.goto 4, 3) := by decide +kernel
theorem dX7_sheetAt_18 : decode cX7_sheetAt 18 = .ok (.aconst_null, 1) := by decide +kernel
theorem dX7_sheetAt_19 : decode cX7_sheetAt 19 = .ok (.areturn, 1) := by decide +kernel
theorem dX7_isLetter_0 : decode cX7_isLetter 0 = .ok (.iload_n 0, 1) := by decide +kernel
theorem dX7_isLetter_1 : decode cX7_isLetter 1 = .ok (.bipush 32, 2) := by decide +kernel
theorem dX7_isLetter_3 : decode cX7_isLetter 3 = .ok (.if_icmp .lt 13, 3) := by decide +kernel
theorem dX7_isLetter_6 : decode cX7_isLetter 6 = .ok (.iload_n 0, 1) := by decide +kernel
theorem dX7_isLetter_7 : decode cX7_isLetter 7 = .ok (.bipush 126, 2) := by decide +kernel
theorem dX7_isLetter_9 : decode cX7_isLetter 9 = .ok (.if_icmp .gt 7, 3) := by decide +kernel
theorem dX7_isLetter_12 : decode cX7_isLetter 12 = .ok (.iconst 1, 1) := by decide +kernel
theorem dX7_isLetter_13 : decode cX7_isLetter 13 = .ok (.goto 4, 3) := by decide +kernel
theorem dX7_isLetter_16 : decode cX7_isLetter 16 = .ok (.iconst 0, 1) := by decide +kernel
theorem dX7_isLetter_17 : decode cX7_isLetter 17 = .ok (.ireturn, 1) := by decide +kernel
theorem dX7_isMotion_0 : decode cX7_isMotion 0 = .ok (.iload_n 0, 1) := by decide +kernel
theorem dX7_isMotion_1 : decode cX7_isMotion 1 = .ok (.ifCond .lt 13, 3) := by decide +kernel
theorem dX7_isMotion_4 : decode cX7_isMotion 4 = .ok (.iload_n 0, 1) := by decide +kernel
theorem dX7_isMotion_5 : decode cX7_isMotion 5 = .ok (.bipush 7, 2) := by decide +kernel
theorem dX7_isMotion_7 : decode cX7_isMotion 7 = .ok (.if_icmp .ge 7, 3) := by decide +kernel
theorem dX7_isMotion_10 : decode cX7_isMotion 10 = .ok (.iconst 1, 1) := by decide +kernel
theorem dX7_isMotion_11 : decode cX7_isMotion 11 = .ok (.goto 4, 3) := by decide +kernel
theorem dX7_isMotion_14 : decode cX7_isMotion 14 = .ok (.iconst 0, 1) := by decide +kernel
theorem dX7_isMotion_15 : decode cX7_isMotion 15 = .ok (.ireturn, 1) := by decide +kernel
theorem dX7_isLane_0 : decode cX7_isLane 0 = .ok (.iload_n 0, 1) := by decide +kernel
theorem dX7_isLane_1 : decode cX7_isLane 1 = .ok (.ifCond .lt 12, 3) := by decide +kernel
theorem dX7_isLane_4 : decode cX7_isLane 4 = .ok (.iload_n 0, 1) := by decide +kernel
theorem dX7_isLane_5 : decode cX7_isLane 5 = .ok (.iconst 4, 1) := by decide +kernel
theorem dX7_isLane_6 : decode cX7_isLane 6 = .ok (.if_icmp .ge 7, 3) := by decide +kernel
theorem dX7_isLane_9 : decode cX7_isLane 9 = .ok (.iconst 1, 1) := by decide +kernel
theorem dX7_isLane_10 : decode cX7_isLane 10 = .ok (.goto 4, 3) := by decide +kernel
theorem dX7_isLane_13 : decode cX7_isLane 13 = .ok (.iconst 0, 1) := by decide +kernel
theorem dX7_isLane_14 : decode cX7_isLane 14 = .ok (.ireturn, 1) := by decide +kernel
theorem dX7_isPortion_0 : decode cX7_isPortion 0 = .ok (.iload_n 0, 1) := by decide +kernel
theorem dX7_isPortion_1 : decode cX7_isPortion 1 = .ok (.iconst 1, 1) := by decide +kernel
theorem dX7_isPortion_2 : decode cX7_isPortion 2 = .ok (.if_icmp .lt 13, 3) := by decide +kernel
theorem dX7_isPortion_5 : decode cX7_isPortion 5 = .ok (.iload_n 0, 1) := by decide +kernel
theorem dX7_isPortion_6 : decode cX7_isPortion 6 = .ok (.bipush 24, 2) := by decide +kernel
theorem dX7_isPortion_8 : decode cX7_isPortion 8 = .ok (.if_icmp .gt 7, 3) := by decide +kernel
theorem dX7_isPortion_11 : decode cX7_isPortion 11 = .ok (.iconst 1, 1) := by decide +kernel
theorem dX7_isPortion_12 : decode cX7_isPortion 12 = .ok (.goto 4, 3) := by decide +kernel
theorem dX7_isPortion_15 : decode cX7_isPortion 15 = .ok (.iconst 0, 1) := by decide +kernel
theorem dX7_isPortion_16 : decode cX7_isPortion 16 = .ok (.ireturn, 1) := by decide +kernel
theorem dX8_in_0 : decode cX8_in 0 = .ok (.lload_n 0, 1) := by decide +kernel
theorem dX8_in_1 : decode cX8_in 1 = .ok (.lload_n 2, 1) := by decide +kernel
theorem dX8_in_2 : decode cX8_in 2 = .ok (.lcmp, 1) := by decide +kernel
theorem dX8_in_3 : decode cX8_in 3 = .ok (.ifCond .lt 14, 3) := by decide +kernel
theorem dX8_in_6 : decode cX8_in 6 = .ok (.lload_n 0, 1) := by decide +kernel
theorem dX8_in_7 : decode cX8_in 7 = .ok (.lload 4, 2) := by decide +kernel
theorem dX8_in_9 : decode cX8_in 9 = .ok (.lcmp, 1) := by decide +kernel
theorem dX8_in_10 : decode cX8_in 10 = .ok (.ifCond .gt 7, 3) := by decide +kernel
theorem dX8_in_13 : decode cX8_in 13 = .ok (.iconst 1, 1) := by decide +kernel
theorem dX8_in_14 : decode cX8_in 14 = .ok (.goto 4, 3) := by decide +kernel
theorem dX8_in_17 : decode cX8_in 17 = .ok (.iconst 0, 1) := by decide +kernel
theorem dX8_in_18 : decode cX8_in 18 = .ok (.ireturn, 1) := by decide +kernel
theorem dX8_init_0 : decode cX8_init 0 = .ok (.aload_n 0, 1) := by decide +kernel
theorem dX8_init_1 : decode cX8_init 1 = .ok (.invokespecial 1, 3) := by decide +kernel
theorem dX8_init_4 : decode cX8_init 4 = .ok (.aload_n 0, 1) := by decide +kernel
theorem dX8_init_5 : decode cX8_init 5 = .ok (.sipush 263, 3) := by decide +kernel
theorem dX8_init_8 : decode cX8_init 8 = .ok (.newarray .int, 2) := by decide +kernel
theorem dX8_init_10 : decode cX8_init 10 = .ok (.putfield 7, 3) := by decide +kernel
theorem dX8_init_13 : decode cX8_init 13 = .ok (.aload_n 0, 1) := by decide +kernel
theorem dX8_init_14 : decode cX8_init 14 = .ok (.sipush 496, 3) := by decide +kernel
theorem dX8_init_17 : decode cX8_init 17 = .ok (.newarray .int, 2) := by decide +kernel
theorem dX8_init_19 : decode cX8_init 19 = .ok (.putfield 13, 3) := by decide +kernel
theorem dX8_init_22 : decode cX8_init 22 = .ok (.aload_n 0, 1) := by decide +kernel
theorem dX8_init_23 : decode cX8_init 23 = .ok (.bipush 30, 2) := by decide +kernel
theorem dX8_init_25 : decode cX8_init 25 = .ok (.newarray .int, 2) := by decide +kernel
theorem dX8_init_27 : decode cX8_init 27 = .ok (.putfield 16, 3) := by decide +kernel
theorem dX8_init_30 : decode cX8_init 30 = .ok (.aload_n 0, 1) := by decide +kernel
theorem dX8_init_31 : decode cX8_init 31 = .ok (.bipush 60, 2) := by decide +kernel
theorem dX8_init_33 : decode cX8_init 33 = .ok (.newarray .int, 2) := by decide +kernel
theorem dX8_init_35 : decode cX8_init 35 = .ok (.putfield 19, 3) := by decide +kernel
theorem dX8_init_38 : decode cX8_init 38 = .ok (.aload_n 0, 1) := by decide +kernel
theorem dX8_init_39 : decode cX8_init 39 = .ok (.bipush 60, 2) := by decide +kernel
theorem dX8_init_41 : decode cX8_init 41 = .ok (.newarray .int, 2) := by decide +kernel
theorem dX8_init_43 : decode cX8_init 43 = .ok (.putfield 22, 3) := by decide +kernel
theorem dX8_init_46 : decode cX8_init 46 = .ok (.aload_n 0, 1) := by decide +kernel
theorem dX8_init_47 : decode cX8_init 47 = .ok (.bipush 60, 2) := by decide +kernel
theorem dX8_init_49 : decode cX8_init 49 = .ok (.newarray .int, 2) := by decide +kernel
theorem dX8_init_51 : decode cX8_init 51 = .ok (.putfield 25, 3) := by decide +kernel
theorem dX8_init_54 : decode cX8_init 54 = .ok (.aload_n 0, 1) := by decide +kernel
theorem dX8_init_55 : decode cX8_init 55 = .ok (.bipush 60, 2) := by decide +kernel
theorem dX8_init_57 : decode cX8_init 57 = .ok (.newarray .int, 2) := by decide +kernel
theorem dX8_init_59 : decode cX8_init 59 = .ok (.putfield 28, 3) := by decide +kernel
theorem dX8_init_62 : decode cX8_init 62 = .ok (.aload_n 0, 1) := by decide +kernel
theorem dX8_init_63 : decode cX8_init 63 = .ok (.sipush 263, 3) := by decide +kernel
theorem dX8_init_66 : decode cX8_init 66 = .ok (.newarray .int, 2) := by decide +kernel
theorem dX8_init_68 : decode cX8_init 68 = .ok (.putfield 31, 3) := by decide +kernel
theorem dX8_init_71 : decode cX8_init 71 = .ok (.aload_n 0, 1) := by decide +kernel
theorem dX8_init_72 : decode cX8_init 72 = .ok (.sipush 496, 3) := by decide +kernel
theorem dX8_init_75 : decode cX8_init 75 = .ok (.newarray .int, 2) := by decide +kernel
theorem dX8_init_77 : decode cX8_init 77 = .ok (.putfield 34, 3) := by decide +kernel
theorem dX8_init_80 : decode cX8_init 80 = .ok (.aload_n 0, 1) := by decide +kernel
theorem dX8_init_81 : decode cX8_init 81 = .ok (.iconst (-1), 1) := by decide +kernel
theorem dX8_init_82 : decode cX8_init 82 = .ok (.putfield 37, 3) := by decide +kernel
theorem dX8_init_85 : decode cX8_init 85 = .ok (.aload_n 0, 1) := by decide +kernel
theorem dX8_init_86 : decode cX8_init 86 = .ok (.iconst 4, 1) := by decide +kernel
theorem dX8_init_87 : decode cX8_init 87 = .ok (.newarray .int, 2) := by decide +kernel
theorem dX8_init_89 : decode cX8_init 89 = .ok (.putfield 41, 3) := by decide +kernel
theorem dX8_init_92 : decode cX8_init 92 = .ok (.aload_n 0, 1) := by decide +kernel
theorem dX8_init_93 : decode cX8_init 93 = .ok (.iconst 4, 1) := by decide +kernel
theorem dX8_init_94 : decode cX8_init 94 = .ok (.newarray .int, 2) := by decide +kernel
theorem dX8_init_96 : decode cX8_init 96 = .ok (.putfield 44, 3) := by decide +kernel
theorem dX8_init_99 : decode cX8_init 99 = .ok (.aload_n 0, 1) := by decide +kernel
theorem dX8_init_100 : decode cX8_init 100 = .ok (.bipush 96, 2) := by decide +kernel
theorem dX8_init_102 : decode cX8_init 102 = .ok (.newarray .long, 2) := by decide +kernel
theorem dX8_init_104 : decode cX8_init 104 = .ok (.putfield 47, 3) := by decide +kernel
theorem dX8_init_107 : decode cX8_init 107 = .ok (.aload_n 0, 1) := by decide +kernel
theorem dX8_init_108 : decode cX8_init 108 = .ok (.bipush 24, 2) := by decide +kernel
theorem dX8_init_110 : decode cX8_init 110 = .ok (.newarray .long, 2) := by decide +kernel
theorem dX8_init_112 : decode cX8_init 112 = .ok (.putfield 51, 3) := by decide +kernel
theorem dX8_init_115 : decode cX8_init 115 = .ok (.iconst 0, 1) := by decide +kernel
theorem dX8_init_116 : decode cX8_init 116 = .ok (.istore_n 1, 1) := by decide +kernel
theorem dX8_init_117 : decode cX8_init 117 = .ok (.iload_n 1, 1) := by decide +kernel
theorem dX8_init_118 : decode cX8_init 118 = .ok (.iconst 4, 1) := by decide +kernel
theorem dX8_init_119 : decode cX8_init 119 = .ok (.if_icmp .ge 27, 3) := by decide +kernel
theorem dX8_init_122 : decode cX8_init 122 = .ok (.aload_n 0, 1) := by decide +kernel
theorem dX8_init_123 : decode cX8_init 123 = .ok (.getfield 7, 3) := by decide +kernel
theorem dX8_init_126 : decode cX8_init 126 = .ok (.bipush 124, 2) := by decide +kernel
theorem dX8_init_128 : decode cX8_init 128 = .ok (.iload_n 1, 1) := by decide +kernel
theorem dX8_init_129 : decode cX8_init 129 = .ok (.iadd, 1) := by decide +kernel
theorem dX8_init_130 : decode cX8_init 130 = .ok (.bipush (-4), 2) := by decide +kernel
theorem dX8_init_132 : decode cX8_init 132 = .ok (.iastore, 1) := by decide +kernel
theorem dX8_init_133 : decode cX8_init 133 = .ok (.aload_n 0, 1) := by decide +kernel
theorem dX8_init_134 : decode cX8_init 134 = .ok (.getfield 41, 3) := by decide +kernel
theorem dX8_init_137 : decode cX8_init 137 = .ok (.iload_n 1, 1) := by decide +kernel
theorem dX8_init_138 : decode cX8_init 138 = .ok (.iconst (-1), 1) := by decide +kernel
theorem dX8_init_139 : decode cX8_init 139 = .ok (.iastore, 1) := by decide +kernel
theorem dX8_init_140 : decode cX8_init 140 = .ok (.iinc 1 1, 3) := by decide +kernel
theorem dX8_init_143 : decode cX8_init 143 = .ok (.goto (-26), 3) := by decide +kernel
theorem dX8_init_146 : decode cX8_init 146 = .ok (.iconst 0, 1) := by decide +kernel
theorem dX8_init_147 : decode cX8_init 147 = .ok (.istore_n 1, 1) := by decide +kernel
theorem dX8_init_148 : decode cX8_init 148 = .ok (.iload_n 1, 1) := by decide +kernel
theorem dX8_init_149 : decode cX8_init 149 = .ok (.bipush 7, 2) := by decide +kernel
theorem dX8_init_151 : decode cX8_init 151 = .ok (.if_icmp .ge 20, 3) := by decide +kernel
theorem dX8_init_154 : decode cX8_init 154 = .ok (.aload_n 0, 1) := by decide +kernel
theorem dX8_init_155 : decode cX8_init 155 = .ok (.getfield 7, 3) := by decide +kernel
theorem dX8_init_158 : decode cX8_init 158 = .ok (.sipush 256, 3) := by decide +kernel
theorem dX8_init_161 : decode cX8_init 161 = .ok (.iload_n 1, 1) := by decide +kernel
theorem dX8_init_162 : decode cX8_init 162 = .ok (.iadd, 1) := by decide +kernel
theorem dX8_init_163 : decode cX8_init 163 = .ok (.iconst 1, 1) := by decide +kernel
theorem dX8_init_164 : decode cX8_init 164 = .ok (.iastore, 1) := by decide +kernel
theorem dX8_init_165 : decode cX8_init 165 = .ok (.iinc 1 1, 3) := by decide +kernel
theorem dX8_init_168 : decode cX8_init 168 = .ok (.goto (-20), 3) := by decide +kernel
theorem dX8_init_171 : decode cX8_init 171 = .ok (.return_, 1) := by decide +kernel
theorem dX8_lesser_0 : decode cX8_lesser 0 = .ok (.iload_n 0, 1) := by decide +kernel
theorem dX8_lesser_1 : decode cX8_lesser 1 = .ok (.iload_n 1, 1) := by decide +kernel
theorem dX8_lesser_2 : decode cX8_lesser 2 = .ok (.if_icmp .ge 7, 3) := by decide +kernel
theorem dX8_lesser_5 : decode cX8_lesser 5 = .ok (.iload_n 0, 1) := by decide +kernel
theorem dX8_lesser_6 : decode cX8_lesser 6 = .ok (.goto 4, 3) := by decide +kernel
theorem dX8_lesser_9 : decode cX8_lesser 9 = .ok (.iload_n 1, 1) := by decide +kernel
theorem dX8_lesser_10 : decode cX8_lesser 10 = .ok (.ireturn, 1) := by decide +kernel
theorem dX8_last_0 : decode cX8_last 0 = .ok (.aload_n 0, 1) := by decide +kernel
theorem dX8_last_1 : decode cX8_last 1 = .ok (.getfield 7, 3) := by decide +kernel
theorem dX8_last_4 : decode cX8_last 4 = .ok (.iconst 0, 1) := by decide +kernel
theorem dX8_last_5 : decode cX8_last 5 = .ok (.iaload, 1) := by decide +kernel
theorem dX8_last_6 : decode cX8_last 6 = .ok (.ifCond .ne 7, 3) := by decide +kernel
theorem dX8_last_9 : decode cX8_last 9 = .ok (.iconst 0, 1) := by decide +kernel
theorem dX8_last_10 : decode cX8_last 10 = .ok (.goto 11, 3) := by decide +kernel
theorem dX8_last_13 : decode cX8_last 13 = .ok (.aload_n 0, 1) := by decide +kernel
theorem dX8_last_14 : decode cX8_last 14 = .ok (.getfield 7, 3) := by decide +kernel
theorem dX8_last_17 : decode cX8_last 17 = .ok (.iconst 0, 1) := by decide +kernel
theorem dX8_last_18 : decode cX8_last 18 = .ok (.iaload, 1) := by decide +kernel
theorem dX8_last_19 : decode cX8_last 19 = .ok (.iconst 1, 1) := by decide +kernel
theorem dX8_last_20 : decode cX8_last 20 = .ok (.isub, 1) := by decide +kernel
theorem dX8_last_21 : decode cX8_last 21 = .ok (.ireturn, 1) := by decide +kernel
theorem dX8_classOf_0 : decode cX8_classOf 0 = .ok (.iload_n 0, 1) := by decide +kernel
theorem dX8_classOf_1 : decode cX8_classOf 1 = .ok (.i2l, 1) := by decide +kernel
theorem dX8_classOf_2 : decode cX8_classOf 2 = .ok (.ldc2_w 54, 3) := by decide +kernel
theorem dX8_classOf_5 : decode cX8_classOf 5 = .ok (.ldc2_w 56, 3) := by decide +kernel
theorem dX8_classOf_8 : decode cX8_classOf 8 = .ok (.invokestatic 58, 3) := by decide +kernel
theorem dX8_classOf_11 : decode cX8_classOf 11 = .ok (.ifCond .ne 31, 3) := by decide +kernel
theorem dX8_classOf_14 : decode cX8_classOf 14 = .ok (.iload_n 0, 1) := by decide +kernel
theorem dX8_classOf_15 : decode cX8_classOf 15 = .ok (.i2l, 1) := by decide +kernel
theorem dX8_classOf_16 : decode cX8_classOf 16 = .ok (.ldc2_w 62, 3) := by decide +kernel
theorem dX8_classOf_19 : decode cX8_classOf 19 = .ok (.ldc2_w 64, 3) := by decide +kernel
theorem dX8_classOf_22 : decode cX8_classOf 22 = .ok (.invokestatic 58, 3) := by decide +kernel
theorem dX8_classOf_25 : decode cX8_classOf 25 = .ok (.ifCond .ne 17, 3) := by decide +kernel
theorem dX8_classOf_28 : decode cX8_classOf 28 = .ok (.iload_n 0, 1) := by decide +kernel
theorem dX8_classOf_29 : decode cX8_classOf 29 = .ok (.i2l, 1) := by decide +kernel
theorem dX8_classOf_30 : decode cX8_classOf 30 = .ok (.ldc2_w 66, 3) := by decide +kernel
theorem dX8_classOf_33 : decode cX8_classOf 33 = .ok (.ldc2_w 68, 3) := by decide +kernel
theorem dX8_classOf_36 : decode cX8_classOf 36 = .ok (.invokestatic 58, 3) := by decide +kernel
theorem dX8_classOf_39 : decode cX8_classOf 39 = .ok (.ifCond .eq 7, 3) := by decide +kernel
theorem dX8_classOf_42 : decode cX8_classOf 42 = .ok (.iconst 1, 1) := by decide +kernel
theorem dX8_classOf_43 : decode cX8_classOf 43 = .ok (.goto 4, 3) := by decide +kernel
theorem dX8_classOf_46 : decode cX8_classOf 46 = .ok (.iconst 0, 1) := by decide +kernel
theorem dX8_classOf_47 : decode cX8_classOf 47 = .ok (.istore_n 1, 1) := by decide +kernel
theorem dX8_classOf_48 : decode cX8_classOf 48 = .ok (.iload_n 0, 1) := by decide +kernel
theorem dX8_classOf_49 : decode cX8_classOf 49 = .ok (.bipush 32, 2) := by decide +kernel
theorem dX8_classOf_51 : decode cX8_classOf 51 = .ok (.if_icmp .ne 7, 3) := by decide +kernel
theorem dX8_classOf_54 : decode cX8_classOf 54 = .ok (.iconst 0, 1) := by decide +kernel
theorem dX8_classOf_55 : decode cX8_classOf 55 = .ok (.goto 12, 3) := by decide +kernel
theorem dX8_classOf_58 : decode cX8_classOf 58 = .ok (.iload_n 1, 1) := by decide +kernel
theorem dX8_classOf_59 : decode cX8_classOf 59 = .ok (.ifCond .eq 7, 3) := by decide +kernel
theorem dX8_classOf_62 : decode cX8_classOf 62 = .ok (.iconst 1, 1) := by decide +kernel
theorem dX8_classOf_63 : decode cX8_classOf 63 = .ok (.goto 4, 3) := by decide +kernel
theorem dX8_classOf_66 : decode cX8_classOf 66 = .ok (.iconst 2, 1) := by decide +kernel
theorem dX8_classOf_67 : decode cX8_classOf 67 = .ok (.ireturn, 1) := by decide +kernel
theorem dX8_classAt_0 : decode cX8_classAt 0 = .ok (.iload_n 1, 1) := by decide +kernel
theorem dX8_classAt_1 : decode cX8_classAt 1 = .ok (.i2l, 1) := by decide +kernel
theorem dX8_classAt_2 : decode cX8_classAt 2 = .ok (.lconst 0, 1) := by decide +kernel
theorem dX8_classAt_3 : decode cX8_classAt 3 = .ok (.aload_n 0, 1) := by decide +kernel
theorem dX8_classAt_4 : decode cX8_classAt 4 = .ok (.getfield 7, 3) := by decide +kernel
theorem dX8_classAt_7 : decode cX8_classAt 7 = .ok (.iconst 0, 1) := by decide +kernel
theorem dX8_classAt_8 : decode cX8_classAt 8 = .ok (.iaload, 1) := by decide +kernel
theorem dX8_classAt_9 : decode cX8_classAt 9 = .ok (.iconst 1, 1) := by decide +kernel
theorem dX8_classAt_10 : decode cX8_classAt 10 = .ok (.isub, 1) := by decide +kernel
theorem dX8_classAt_11 : decode cX8_classAt 11 = .ok (.i2l, 1) := by decide +kernel
theorem dX8_classAt_12 : decode cX8_classAt 12 = .ok (.invokestatic 58, 3) := by decide +kernel
theorem dX8_classAt_15 : decode cX8_classAt 15 = .ok (.ifCond .eq 17, 3) := by decide +kernel
theorem dX8_classAt_18 : decode cX8_classAt 18 = .ok (.aload_n 0, 1) := by decide +kernel
theorem dX8_classAt_19 : decode cX8_classAt 19 = .ok (.getfield 7, 3) := by decide +kernel
theorem dX8_classAt_22 : decode cX8_classAt 22 = .ok (.iconst 1, 1) := by decide +kernel
theorem dX8_classAt_23 : decode cX8_classAt 23 = .ok (.iload_n 1, 1) := by decide +kernel
theorem dX8_classAt_24 : decode cX8_classAt 24 = .ok (.iadd, 1) := by decide +kernel
theorem dX8_classAt_25 : decode cX8_classAt 25 = .ok (.iaload, 1) := by decide +kernel
theorem dX8_classAt_26 : decode cX8_classAt 26 = .ok (.invokestatic 70, 3) := by decide +kernel
theorem dX8_classAt_29 : decode cX8_classAt 29 = .ok (.goto 4, 3) := by decide +kernel
theorem dX8_classAt_32 : decode cX8_classAt 32 = .ok (.iconst (-1), 1) := by decide +kernel
theorem dX8_classAt_33 : decode cX8_classAt 33 = .ok (.ireturn, 1) := by decide +kernel
theorem dX8_wordOn_0 : decode cX8_wordOn 0 = .ok (.iload_n 1, 1) := by decide +kernel
theorem dX8_wordOn_1 : decode cX8_wordOn 1 = .ok (.istore_n 2, 1) := by decide +kernel
theorem dX8_wordOn_2 : decode cX8_wordOn 2 = .ok (.aload_n 0, 1) := by decide +kernel
theorem dX8_wordOn_3 : decode cX8_wordOn 3 = .ok (.iload_n 1, 1) := by decide +kernel
theorem dX8_wordOn_4 : decode cX8_wordOn 4 = .ok (.invokevirtual 74, 3) := by decide +kernel
theorem dX8_wordOn_7 : decode cX8_wordOn 7 = .ok (.istore_n 3, 1) := by decide +kernel
theorem dX8_wordOn_8 : decode cX8_wordOn 8 = .ok (.iload_n 3, 1) := by decide +kernel
theorem dX8_wordOn_9 : decode cX8_wordOn 9 = .ok (.ifCond .le 18, 3) := by decide +kernel
theorem dX8_wordOn_12 : decode cX8_wordOn 12 = .ok (.aload_n 0, 1) := by decide +kernel
theorem dX8_wordOn_13 : decode cX8_wordOn 13 = .ok (.iload_n 2, 1) := by decide +kernel
theorem dX8_wordOn_14 : decode cX8_wordOn 14 = .ok (.invokevirtual 74, 3) := by decide +kernel
theorem dX8_wordOn_17 : decode cX8_wordOn 17 = .ok (.iload_n 3, 1) := by decide +kernel
theorem dX8_wordOn_18 : decode cX8_wordOn 18 = .ok (.if_icmp .ne 9, 3) := by decide +kernel
theorem dX8_wordOn_21 : decode cX8_wordOn 21 = .ok (.iinc 2 1, 3) := by decide +kernel
theorem dX8_wordOn_24 : decode cX8_wordOn 24 = .ok (.goto (-16), 3) := by decide +kernel
theorem dX8_wordOn_27 : decode cX8_wordOn 27 = .ok (.aload_n 0, 1) := by decide +kernel
theorem dX8_wordOn_28 : decode cX8_wordOn 28 = .ok (.iload_n 2, 1) := by decide +kernel
theorem dX8_wordOn_29 : decode cX8_wordOn 29 = .ok (.invokevirtual 74, 3) := by decide +kernel
theorem dX8_wordOn_32 : decode cX8_wordOn 32 = .ok (.ifCond .ne 9, 3) := by decide +kernel
theorem dX8_wordOn_35 : decode cX8_wordOn 35 = .ok (.iinc 2 1, 3) := by decide +kernel
theorem dX8_wordOn_38 : decode cX8_wordOn 38 = .ok (.goto (-11), 3) := by decide +kernel
theorem dX8_wordOn_41 : decode cX8_wordOn 41 = .ok (.iload_n 2, 1) := by decide +kernel
theorem dX8_wordOn_42 : decode cX8_wordOn 42 = .ok (.ireturn, 1) := by decide +kernel
theorem dX8_wordBack_0 : decode cX8_wordBack 0 = .ok (.iload_n 1, 1) := by decide +kernel
theorem dX8_wordBack_1 : decode cX8_wordBack 1 = .ok (.istore_n 2, 1) := by decide +kernel
theorem dX8_wordBack_2 : decode cX8_wordBack 2 = .ok (.aload_n 0, 1) := by decide +kernel
theorem dX8_wordBack_3 : decode cX8_wordBack 3 = .ok (.iload_n 2, 1) := by decide +kernel
theorem dX8_wordBack_4 : decode cX8_wordBack 4 = .ok (.iconst 1, 1) := by decide +kernel
theorem dX8_wordBack_5 : decode cX8_wordBack 5 = .ok (.isub, 1) := by decide +kernel
theorem dX8_wordBack_6 : decode cX8_wordBack 6 = .ok (.invokevirtual 74, 3) := by decide +kernel
theorem dX8_wordBack_9 : decode cX8_wordBack 9 = .ok (.ifCond .ne 9, 3) := by decide +kernel
theorem dX8_wordBack_12 : decode cX8_wordBack 12 = .ok (.iinc 2 (-1), 3) := by decide +kernel
theorem dX8_wordBack_15 : decode cX8_wordBack 15 = .ok (.goto (-13), 3) := by decide +kernel
theorem dX8_wordBack_18 : decode cX8_wordBack 18 = .ok (.aload_n 0, 1) := by decide +kernel
theorem dX8_wordBack_19 : decode cX8_wordBack 19 = .ok (.iload_n 2, 1) := by decide +kernel
theorem dX8_wordBack_20 : decode cX8_wordBack 20 = .ok (.iconst 1, 1) := by decide +kernel
theorem dX8_wordBack_21 : decode cX8_wordBack 21 = .ok (.isub, 1) := by decide +kernel
theorem dX8_wordBack_22 : decode cX8_wordBack 22 = .ok (.invokevirtual 74, 3) := by decide +kernel
theorem dX8_wordBack_25 : decode cX8_wordBack 25 = .ok (.istore_n 3, 1) := by decide +kernel
theorem dX8_wordBack_26 : decode cX8_wordBack 26 = .ok (.iload_n 2, 1) := by decide +kernel
theorem dX8_wordBack_27 : decode cX8_wordBack 27 = .ok (.ifCond .le 20, 3) := by decide +kernel
theorem dX8_wordBack_30 : decode cX8_wordBack 30 = .ok (.aload_n 0, 1) := by decide +kernel
theorem dX8_wordBack_31 : decode cX8_wordBack 31 = .ok (.iload_n 2, 1) := by decide +kernel
theorem dX8_wordBack_32 : decode cX8_wordBack 32 = .ok (.iconst 1, 1) := by decide +kernel
theorem dX8_wordBack_33 : decode cX8_wordBack 33 = .ok (.isub, 1) := by decide +kernel
theorem dX8_wordBack_34 : decode cX8_wordBack 34 = .ok (.invokevirtual 74, 3) := by decide +kernel
theorem dX8_wordBack_37 : decode cX8_wordBack 37 = .ok (.iload_n 3, 1) := by decide +kernel
theorem dX8_wordBack_38 : decode cX8_wordBack 38 = .ok (.if_icmp .ne 9, 3) := by decide +kernel
theorem dX8_wordBack_41 : decode cX8_wordBack 41 = .ok (.iinc 2 (-1), 3) := by decide +kernel
theorem dX8_wordBack_44 : decode cX8_wordBack 44 = .ok (.goto (-18), 3) := by decide +kernel
theorem dX8_wordBack_47 : decode cX8_wordBack 47 = .ok (.iload_n 2, 1) := by decide +kernel
theorem dX8_wordBack_48 : decode cX8_wordBack 48 = .ok (.ireturn, 1) := by decide +kernel
theorem dX8_wordEnd_0 : decode cX8_wordEnd 0 = .ok (.iload_n 1, 1) := by decide +kernel
theorem dX8_wordEnd_1 : decode cX8_wordEnd 1 = .ok (.iconst 1, 1) := by decide +kernel
theorem dX8_wordEnd_2 : decode cX8_wordEnd 2 = .ok (.iadd, 1) := by decide +kernel
theorem dX8_wordEnd_3 : decode cX8_wordEnd 3 = .ok (.istore_n 2, 1) := by decide +kernel
theorem dX8_wordEnd_4 : decode cX8_wordEnd 4 = .ok (.aload_n 0, 1) := by decide +kernel
theorem dX8_wordEnd_5 : decode cX8_wordEnd 5 = .ok (.iload_n 2, 1) := by decide +kernel
theorem dX8_wordEnd_6 : decode cX8_wordEnd 6 = .ok (.invokevirtual 74, 3) := by decide +kernel
theorem dX8_wordEnd_9 : decode cX8_wordEnd 9 = .ok (.ifCond .ne 9, 3) := by decide +kernel
theorem dX8_wordEnd_12 : decode cX8_wordEnd 12 = .ok (.iinc 2 1, 3) := by decide +kernel
theorem dX8_wordEnd_15 : decode cX8_wordEnd 15 = .ok (.goto (-11), 3) := by decide +kernel
theorem dX8_wordEnd_18 : decode cX8_wordEnd 18 = .ok (.iload_n 2, 1) := by decide +kernel
theorem dX8_wordEnd_19 : decode cX8_wordEnd 19 = .ok (.aload_n 0, 1) := by decide +kernel
theorem dX8_wordEnd_20 : decode cX8_wordEnd 20 = .ok (.getfield 7, 3) := by decide +kernel
theorem dX8_wordEnd_23 : decode cX8_wordEnd 23 = .ok (.iconst 0, 1) := by decide +kernel
theorem dX8_wordEnd_24 : decode cX8_wordEnd 24 = .ok (.iaload, 1) := by decide +kernel
theorem dX8_wordEnd_25 : decode cX8_wordEnd 25 = .ok (.if_icmp .lt 8, 3) := by decide +kernel
theorem dX8_wordEnd_28 : decode cX8_wordEnd 28 = .ok (.aload_n 0, 1) := by decide +kernel
theorem dX8_wordEnd_29 : decode cX8_wordEnd 29 = .ok (.invokevirtual 77, 3) := by decide +kernel
theorem dX8_wordEnd_32 : decode cX8_wordEnd 32 = .ok (.ireturn, 1) := by decide +kernel
theorem dX8_wordEnd_33 : decode cX8_wordEnd 33 = .ok (.aload_n 0, 1) := by decide +kernel
theorem dX8_wordEnd_34 : decode cX8_wordEnd 34 = .ok (.iload_n 2, 1) := by decide +kernel
theorem dX8_wordEnd_35 : decode cX8_wordEnd 35 = .ok (.invokevirtual 74, 3) := by decide +kernel
theorem dX8_wordEnd_38 : decode cX8_wordEnd 38 = .ok (.istore_n 3, 1) := by decide +kernel
theorem dX8_wordEnd_39 : decode cX8_wordEnd 39 = .ok (.aload_n 0, 1) := by decide +kernel
theorem dX8_wordEnd_40 : decode cX8_wordEnd 40 = .ok (.iload_n 2, 1) := by decide +kernel
theorem dX8_wordEnd_41 : decode cX8_wordEnd 41 = .ok (.iconst 1, 1) := by decide +kernel
theorem dX8_wordEnd_42 : decode cX8_wordEnd 42 = .ok (.iadd, 1) := by decide +kernel
theorem dX8_wordEnd_43 : decode cX8_wordEnd 43 = .ok (.invokevirtual 74, 3) := by decide +kernel
theorem dX8_wordEnd_46 : decode cX8_wordEnd 46 = .ok (.iload_n 3, 1) := by decide +kernel
theorem dX8_wordEnd_47 : decode cX8_wordEnd 47 = .ok (.if_icmp .ne 9, 3) := by decide +kernel
theorem dX8_wordEnd_50 : decode cX8_wordEnd 50 = .ok (.iinc 2 1, 3) := by decide +kernel
theorem dX8_wordEnd_53 : decode cX8_wordEnd 53 = .ok (.goto (-14), 3) := by decide +kernel
theorem dX8_wordEnd_56 : decode cX8_wordEnd 56 = .ok (.iload_n 2, 1) := by decide +kernel
theorem dX8_wordEnd_57 : decode cX8_wordEnd 57 = .ok (.ireturn, 1) := by decide +kernel
theorem dX8_leadsTo_0 : decode cX8_leadsTo 0 = .ok (.iload_n 1, 1) := by decide +kernel
theorem dX8_leadsTo_1 : decode cX8_leadsTo 1 = .ok (.tableswitch 88 0 5 #[39, 51, 69, 71, 76, 82], 39) := by decide +kernel
theorem dX8_leadsTo_40 : decode cX8_leadsTo 40 = .ok (.iload_n 2, 1) := by decide +kernel
theorem dX8_leadsTo_41 : decode cX8_leadsTo 41 = .ok (.ifCond .ne 7, 3) := by decide +kernel
theorem dX8_leadsTo_44 : decode cX8_leadsTo 44 = .ok (.iconst 0, 1) := by decide +kernel
theorem dX8_leadsTo_45 : decode cX8_leadsTo 45 = .ok (.goto 6, 3) := by decide +kernel
theorem dX8_leadsTo_48 : decode cX8_leadsTo 48 = .ok (.iload_n 2, 1) := by decide +kernel
theorem dX8_leadsTo_49 : decode cX8_leadsTo 49 = .ok (.iconst 1, 1) := by decide +kernel
theorem dX8_leadsTo_50 : decode cX8_leadsTo 50 = .ok (.isub, 1) := by decide +kernel
theorem dX8_leadsTo_51 : decode cX8_leadsTo 51 = .ok (.ireturn, 1) := by decide +kernel
theorem dX8_leadsTo_52 : decode cX8_leadsTo 52 = .ok (.iload_n 2, 1) := by decide +kernel
theorem dX8_leadsTo_53 : decode cX8_leadsTo 53 = .ok (.aload_n 0, 1) := by decide +kernel
theorem dX8_leadsTo_54 : decode cX8_leadsTo 54 = .ok (.getfield 7, 3) := by decide +kernel
theorem dX8_leadsTo_57 : decode cX8_leadsTo 57 = .ok (.iconst 0, 1) := by decide +kernel
theorem dX8_leadsTo_58 : decode cX8_leadsTo 58 = .ok (.iaload, 1) := by decide +kernel
theorem dX8_leadsTo_59 : decode cX8_leadsTo 59 = .ok (.if_icmp .ne 7, 3) := by decide +kernel
theorem dX8_leadsTo_62 : decode cX8_leadsTo 62 = .ok (.iload_n 2, 1) := by decide +kernel
theorem dX8_leadsTo_63 : decode cX8_leadsTo 63 = .ok (.goto 6, 3) := by decide +kernel
theorem dX8_leadsTo_66 : decode cX8_leadsTo 66 = .ok (.iload_n 2, 1) := by decide +kernel
theorem dX8_leadsTo_67 : decode cX8_leadsTo 67 = .ok (.iconst 1, 1) := by decide +kernel
theorem dX8_leadsTo_68 : decode cX8_leadsTo 68 = .ok (.iadd, 1) := by decide +kernel
theorem dX8_leadsTo_69 : decode cX8_leadsTo 69 = .ok (.ireturn, 1) := by decide +kernel
theorem dX8_leadsTo_70 : decode cX8_leadsTo 70 = .ok (.iconst 0, 1) := by decide +kernel
theorem dX8_leadsTo_71 : decode cX8_leadsTo 71 = .ok (.ireturn, 1) := by decide +kernel
theorem dX8_leadsTo_72 : decode cX8_leadsTo 72 = .ok (.aload_n 0, 1) := by decide +kernel
theorem dX8_leadsTo_73 : decode cX8_leadsTo 73 = .ok (.invokevirtual 77, 3) := by decide +kernel
theorem dX8_leadsTo_76 : decode cX8_leadsTo 76 = .ok (.ireturn, 1) := by decide +kernel
theorem dX8_leadsTo_77 : decode cX8_leadsTo 77 = .ok (.aload_n 0, 1) := by decide +kernel
theorem dX8_leadsTo_78 : decode cX8_leadsTo 78 = .ok (.iload_n 2, 1) := by decide +kernel
theorem dX8_leadsTo_79 : decode cX8_leadsTo 79 = .ok (.invokevirtual 81, 3) := by decide +kernel
theorem dX8_leadsTo_82 : decode cX8_leadsTo 82 = .ok (.ireturn, 1) := by decide +kernel
theorem dX8_leadsTo_83 : decode cX8_leadsTo 83 = .ok (.aload_n 0, 1) := by decide +kernel
theorem dX8_leadsTo_84 : decode cX8_leadsTo 84 = .ok (.iload_n 2, 1) := by decide +kernel
theorem dX8_leadsTo_85 : decode cX8_leadsTo 85 = .ok (.invokevirtual 84, 3) := by decide +kernel
theorem dX8_leadsTo_88 : decode cX8_leadsTo 88 = .ok (.ireturn, 1) := by decide +kernel
theorem dX8_leadsTo_89 : decode cX8_leadsTo 89 = .ok (.aload_n 0, 1) := by decide +kernel
theorem dX8_leadsTo_90 : decode cX8_leadsTo 90 = .ok (.iload_n 2, 1) := by decide +kernel
theorem dX8_leadsTo_91 : decode cX8_leadsTo 91 = .ok (.invokevirtual 87, 3) := by decide +kernel
theorem dX8_leadsTo_94 : decode cX8_leadsTo 94 = .ok (.ireturn, 1) := by decide +kernel
theorem dX8_nextOf_0 : decode cX8_nextOf 0 = .ok (.bipush (-4), 2) := by decide +kernel
theorem dX8_nextOf_2 : decode cX8_nextOf 2 = .ok (.istore_n 3, 1) := by decide +kernel
theorem dX8_nextOf_3 : decode cX8_nextOf 3 = .ok (.aload_n 0, 1) := by decide +kernel
theorem dX8_nextOf_4 : decode cX8_nextOf 4 = .ok (.getfield 7, 3) := by decide +kernel
theorem dX8_nextOf_7 : decode cX8_nextOf 7 = .ok (.iconst 0, 1) := by decide +kernel
theorem dX8_nextOf_8 : decode cX8_nextOf 8 = .ok (.iaload, 1) := by decide +kernel
theorem dX8_nextOf_9 : decode cX8_nextOf 9 = .ok (.iconst 1, 1) := by decide +kernel
theorem dX8_nextOf_10 : decode cX8_nextOf 10 = .ok (.isub, 1) := by decide +kernel
theorem dX8_nextOf_11 : decode cX8_nextOf 11 = .ok (.istore 4, 2) := by decide +kernel
theorem dX8_nextOf_13 : decode cX8_nextOf 13 = .ok (.iload 4, 2) := by decide +kernel
theorem dX8_nextOf_15 : decode cX8_nextOf 15 = .ok (.iload_n 1, 1) := by decide +kernel
theorem dX8_nextOf_16 : decode cX8_nextOf 16 = .ok (.if_icmp .le 29, 3) := by decide +kernel
theorem dX8_nextOf_19 : decode cX8_nextOf 19 = .ok (.aload_n 0, 1) := by decide +kernel
theorem dX8_nextOf_20 : decode cX8_nextOf 20 = .ok (.getfield 7, 3) := by decide +kernel
theorem dX8_nextOf_23 : decode cX8_nextOf 23 = .ok (.iconst 1, 1) := by decide +kernel
theorem dX8_nextOf_24 : decode cX8_nextOf 24 = .ok (.iload 4, 2) := by decide +kernel
theorem dX8_nextOf_26 : decode cX8_nextOf 26 = .ok (.iadd, 1) := by decide +kernel
theorem dX8_nextOf_27 : decode cX8_nextOf 27 = .ok (.iaload, 1) := by decide +kernel
theorem dX8_nextOf_28 : decode cX8_nextOf 28 = .ok (.iload_n 2, 1) := by decide +kernel
theorem dX8_nextOf_29 : decode cX8_nextOf 29 = .ok (.if_icmp .ne 8, 3) := by decide +kernel
theorem dX8_nextOf_32 : decode cX8_nextOf 32 = .ok (.iload 4, 2) := by decide +kernel
theorem dX8_nextOf_34 : decode cX8_nextOf 34 = .ok (.goto 4, 3) := by decide +kernel
theorem dX8_nextOf_37 : decode cX8_nextOf 37 = .ok (.iload_n 3, 1) := by decide +kernel
theorem dX8_nextOf_38 : decode cX8_nextOf 38 = .ok (.istore_n 3, 1) := by decide +kernel
theorem dX8_nextOf_39 : decode cX8_nextOf 39 = .ok (.iinc 4 (-1), 3) := by decide +kernel
theorem dX8_nextOf_42 : decode cX8_nextOf 42 = .ok (.goto (-29), 3) := by decide +kernel
theorem dX8_nextOf_45 : decode cX8_nextOf 45 = .ok (.iload_n 3, 1) := by decide +kernel
theorem dX8_nextOf_46 : decode cX8_nextOf 46 = .ok (.ireturn, 1) := by decide +kernel
theorem dX8_findsTo_0 : decode cX8_findsTo 0 = .ok (.aload_n 0, 1) := by decide +kernel
theorem dX8_findsTo_1 : decode cX8_findsTo 1 = .ok (.getfield 7, 3) := by decide +kernel
theorem dX8_findsTo_4 : decode cX8_findsTo 4 = .ok (.bipush 61, 2) := by decide +kernel
theorem dX8_findsTo_6 : decode cX8_findsTo 6 = .ok (.iaload, 1) := by decide +kernel
theorem dX8_findsTo_7 : decode cX8_findsTo 7 = .ok (.istore_n 3, 1) := by decide +kernel
theorem dX8_findsTo_8 : decode cX8_findsTo 8 = .ok (.iconst 0, 1) := by decide +kernel
theorem dX8_findsTo_9 : decode cX8_findsTo 9 = .ok (.istore 4, 2) := by decide +kernel
theorem dX8_findsTo_11 : decode cX8_findsTo 11 = .ok (.iload 4, 2) := by decide +kernel
theorem dX8_findsTo_13 : decode cX8_findsTo 13 = .ok (.iload_n 2, 1) := by decide +kernel
theorem dX8_findsTo_14 : decode cX8_findsTo 14 = .ok (.if_icmp .ge 22, 3) := by decide +kernel
theorem dX8_findsTo_17 : decode cX8_findsTo 17 = .ok (.iload_n 3, 1) := by decide +kernel
theorem dX8_findsTo_18 : decode cX8_findsTo 18 = .ok (.bipush (-4), 2) := by decide +kernel
theorem dX8_findsTo_20 : decode cX8_findsTo 20 = .ok (.if_icmp .eq 16, 3) := by decide +kernel
theorem dX8_findsTo_23 : decode cX8_findsTo 23 = .ok (.aload_n 0, 1) := by decide +kernel
theorem dX8_findsTo_24 : decode cX8_findsTo 24 = .ok (.iload_n 3, 1) := by decide +kernel
theorem dX8_findsTo_25 : decode cX8_findsTo 25 = .ok (.iload_n 1, 1) := by decide +kernel
theorem dX8_findsTo_26 : decode cX8_findsTo 26 = .ok (.invokevirtual 90, 3) := by decide +kernel
theorem dX8_findsTo_29 : decode cX8_findsTo 29 = .ok (.istore_n 3, 1) := by decide +kernel
theorem dX8_findsTo_30 : decode cX8_findsTo 30 = .ok (.iinc 4 1, 3) := by decide +kernel
theorem dX8_findsTo_33 : decode cX8_findsTo 33 = .ok (.goto (-22), 3) := by decide +kernel
theorem dX8_findsTo_36 : decode cX8_findsTo 36 = .ok (.iload_n 3, 1) := by decide +kernel
theorem dX8_findsTo_37 : decode cX8_findsTo 37 = .ok (.ireturn, 1) := by decide +kernel
theorem dX8_often_0 : decode cX8_often 0 = .ok (.aload_n 0, 1) := by decide +kernel
theorem dX8_often_1 : decode cX8_often 1 = .ok (.getfield 7, 3) := by decide +kernel
theorem dX8_often_4 : decode cX8_often 4 = .ok (.sipush 191, 3) := by decide +kernel
theorem dX8_often_7 : decode cX8_often 7 = .ok (.iaload, 1) := by decide +kernel
theorem dX8_often_8 : decode cX8_often 8 = .ok (.ifCond .ne 7, 3) := by decide +kernel
theorem dX8_often_11 : decode cX8_often 11 = .ok (.iconst 1, 1) := by decide +kernel
theorem dX8_often_12 : decode cX8_often 12 = .ok (.goto 11, 3) := by decide +kernel
theorem dX8_often_15 : decode cX8_often 15 = .ok (.aload_n 0, 1) := by decide +kernel
theorem dX8_often_16 : decode cX8_often 16 = .ok (.getfield 7, 3) := by decide +kernel
theorem dX8_often_19 : decode cX8_often 19 = .ok (.sipush 191, 3) := by decide +kernel
theorem dX8_often_22 : decode cX8_often 22 = .ok (.iaload, 1) := by decide +kernel
theorem dX8_often_23 : decode cX8_often 23 = .ok (.istore_n 1, 1) := by decide +kernel
theorem dX8_often_24 : decode cX8_often 24 = .ok (.aload_n 0, 1) := by decide +kernel
theorem dX8_often_25 : decode cX8_often 25 = .ok (.getfield 7, 3) := by decide +kernel
theorem dX8_often_28 : decode cX8_often 28 = .ok (.sipush 192, 3) := by decide +kernel
theorem dX8_often_31 : decode cX8_often 31 = .ok (.iaload, 1) := by decide +kernel
theorem dX8_often_32 : decode cX8_often 32 = .ok (.ifCond .ne 7, 3) := by decide +kernel
theorem dX8_often_35 : decode cX8_often 35 = .ok (.iconst 1, 1) := by decide +kernel
theorem dX8_often_36 : decode cX8_often 36 = .ok (.goto 11, 3) := by decide +kernel
theorem dX8_often_39 : decode cX8_often 39 = .ok (.aload_n 0, 1) := by decide +kernel
theorem dX8_often_40 : decode cX8_often 40 = .ok (.getfield 7, 3) := by decide +kernel
theorem dX8_often_43 : decode cX8_often 43 = .ok (.sipush 192, 3) := by decide +kernel
theorem dX8_often_46 : decode cX8_often 46 = .ok (.iaload, 1) := by decide +kernel
theorem dX8_often_47 : decode cX8_often 47 = .ok (.istore_n 2, 1) := by decide +kernel
theorem dX8_often_48 : decode cX8_often 48 = .ok (.iload_n 1, 1) := by decide +kernel
theorem dX8_often_49 : decode cX8_often 49 = .ok (.iload_n 2, 1) := by decide +kernel
theorem dX8_often_50 : decode cX8_often 50 = .ok (.imul, 1) := by decide +kernel
theorem dX8_often_51 : decode cX8_often 51 = .ok (.bipush 99, 2) := by decide +kernel
theorem dX8_often_53 : decode cX8_often 53 = .ok (.invokestatic 94, 3) := by decide +kernel
theorem dX8_often_56 : decode cX8_often 56 = .ok (.ireturn, 1) := by decide +kernel
theorem dX8_ends_0 : decode cX8_ends 0 = .ok (.aload_n 0, 1) := by decide +kernel
theorem dX8_ends_1 : decode cX8_ends 1 = .ok (.getfield 7, 3) := by decide +kernel
theorem dX8_ends_4 : decode cX8_ends 4 = .ok (.sipush 159, 3) := by decide +kernel
theorem dX8_ends_7 : decode cX8_ends 7 = .ok (.iconst 0, 1) := by decide +kernel
theorem dX8_ends_8 : decode cX8_ends 8 = .ok (.iastore, 1) := by decide +kernel
theorem dX8_ends_9 : decode cX8_ends 9 = .ok (.aload_n 0, 1) := by decide +kernel
theorem dX8_ends_10 : decode cX8_ends 10 = .ok (.getfield 7, 3) := by decide +kernel
theorem dX8_ends_13 : decode cX8_ends 13 = .ok (.sipush 190, 3) := by decide +kernel
theorem dX8_ends_16 : decode cX8_ends 16 = .ok (.iconst 0, 1) := by decide +kernel
theorem dX8_ends_17 : decode cX8_ends 17 = .ok (.iastore, 1) := by decide +kernel
theorem dX8_ends_18 : decode cX8_ends 18 = .ok (.aload_n 0, 1) := by decide +kernel
theorem dX8_ends_19 : decode cX8_ends 19 = .ok (.getfield 7, 3) := by decide +kernel
theorem dX8_ends_22 : decode cX8_ends 22 = .ok (.sipush 191, 3) := by decide +kernel
theorem dX8_ends_25 : decode cX8_ends 25 = .ok (.iconst 0, 1) := by decide +kernel
theorem dX8_ends_26 : decode cX8_ends 26 = .ok (.iastore, 1) := by decide +kernel
theorem dX8_ends_27 : decode cX8_ends 27 = .ok (.aload_n 0, 1) := by decide +kernel
theorem dX8_ends_28 : decode cX8_ends 28 = .ok (.getfield 7, 3) := by decide +kernel
theorem dX8_ends_31 : decode cX8_ends 31 = .ok (.sipush 192, 3) := by decide +kernel
theorem dX8_ends_34 : decode cX8_ends 34 = .ok (.iconst 0, 1) := by decide +kernel
theorem dX8_ends_35 : decode cX8_ends 35 = .ok (.iastore, 1) := by decide +kernel
theorem dX8_ends_36 : decode cX8_ends 36 = .ok (.aload_n 0, 1) := by decide +kernel
theorem dX8_ends_37 : decode cX8_ends 37 = .ok (.getfield 7, 3) := by decide +kernel
theorem dX8_ends_40 : decode cX8_ends 40 = .ok (.sipush 193, 3) := by decide +kernel
theorem dX8_ends_43 : decode cX8_ends 43 = .ok (.iconst 0, 1) := by decide +kernel
theorem dX8_ends_44 : decode cX8_ends 44 = .ok (.iastore, 1) := by decide +kernel
theorem dX8_ends_45 : decode cX8_ends 45 = .ok (.return_, 1) := by decide +kernel
theorem dX8_records_0 : decode cX8_records 0 = .ok (.aload_n 0, 1) := by decide +kernel
theorem dX8_records_1 : decode cX8_records 1 = .ok (.getfield 7, 3) := by decide +kernel
theorem dX8_records_4 : decode cX8_records 4 = .ok (.sipush 159, 3) := by decide +kernel
theorem dX8_records_7 : decode cX8_records 7 = .ok (.iaload, 1) := by decide +kernel
theorem dX8_records_8 : decode cX8_records 8 = .ok (.bipush 30, 2) := by decide +kernel
theorem dX8_records_10 : decode cX8_records 10 = .ok (.if_icmp .ge 21, 3) := by decide +kernel
theorem dX8_records_13 : decode cX8_records 13 = .ok (.aload_n 0, 1) := by decide +kernel
theorem dX8_records_14 : decode cX8_records 14 = .ok (.getfield 7, 3) := by decide +kernel
theorem dX8_records_17 : decode cX8_records 17 = .ok (.sipush 160, 3) := by decide +kernel
theorem dX8_records_20 : decode cX8_records 20 = .ok (.aload_n 0, 1) := by decide +kernel
theorem dX8_records_21 : decode cX8_records 21 = .ok (.getfield 7, 3) := by decide +kernel
theorem dX8_records_24 : decode cX8_records 24 = .ok (.sipush 159, 3) := by decide +kernel
theorem dX8_records_27 : decode cX8_records 27 = .ok (.iaload, 1) := by decide +kernel
theorem dX8_records_28 : decode cX8_records 28 = .ok (.iadd, 1) := by decide +kernel
theorem dX8_records_29 : decode cX8_records 29 = .ok (.iload_n 1, 1) := by decide +kernel
theorem dX8_records_30 : decode cX8_records 30 = .ok (.iastore, 1) := by decide +kernel
theorem dX8_records_31 : decode cX8_records 31 = .ok (.aload_n 0, 1) := by decide +kernel
theorem dX8_records_32 : decode cX8_records 32 = .ok (.getfield 7, 3) := by decide +kernel
theorem dX8_records_35 : decode cX8_records 35 = .ok (.sipush 159, 3) := by decide +kernel
theorem dX8_records_38 : decode cX8_records 38 = .ok (.aload_n 0, 1) := by decide +kernel
theorem dX8_records_39 : decode cX8_records 39 = .ok (.getfield 7, 3) := by decide +kernel
theorem dX8_records_42 : decode cX8_records 42 = .ok (.sipush 159, 3) := by decide +kernel
theorem dX8_records_45 : decode cX8_records 45 = .ok (.iaload, 1) := by decide +kernel
theorem dX8_records_46 : decode cX8_records 46 = .ok (.iconst 1, 1) := by decide +kernel
theorem dX8_records_47 : decode cX8_records 47 = .ok (.iadd, 1) := by decide +kernel
theorem dX8_records_48 : decode cX8_records 48 = .ok (.bipush 31, 2) := by decide +kernel
theorem dX8_records_50 : decode cX8_records 50 = .ok (.invokestatic 94, 3) := by decide +kernel
theorem dX8_records_53 : decode cX8_records 53 = .ok (.iastore, 1) := by decide +kernel
theorem dX8_records_54 : decode cX8_records 54 = .ok (.return_, 1) := by decide +kernel
theorem dX8_changes_0 : decode cX8_changes 0 = .ok (.aload_n 0, 1) := by decide +kernel
theorem dX8_changes_1 : decode cX8_changes 1 = .ok (.getfield 97, 3) := by decide +kernel
theorem dX8_changes_4 : decode cX8_changes 4 = .ok (.bipush 8, 2) := by decide +kernel
theorem dX8_changes_6 : decode cX8_changes 6 = .ok (.if_icmp .ne 40, 3) := by decide +kernel
theorem dX8_changes_9 : decode cX8_changes 9 = .ok (.bipush 62, 2) := by decide +kernel
theorem dX8_changes_11 : decode cX8_changes 11 = .ok (.istore_n 1, 1) := by decide +kernel
theorem dX8_changes_12 : decode cX8_changes 12 = .ok (.iload_n 1, 1) := by decide +kernel
theorem dX8_changes_13 : decode cX8_changes 13 = .ok (.sipush 496, 3) := by decide +kernel
theorem dX8_changes_16 : decode cX8_changes 16 = .ok (.if_icmp .ge 24, 3) := by decide +kernel
theorem dX8_changes_19 : decode cX8_changes 19 = .ok (.aload_n 0, 1) := by decide +kernel
theorem dX8_changes_20 : decode cX8_changes 20 = .ok (.getfield 13, 3) := by decide +kernel
theorem dX8_changes_23 : decode cX8_changes 23 = .ok (.iload_n 1, 1) := by decide +kernel
theorem dX8_changes_24 : decode cX8_changes 24 = .ok (.bipush 62, 2) := by decide +kernel
theorem dX8_changes_26 : decode cX8_changes 26 = .ok (.isub, 1) := by decide +kernel
theorem dX8_changes_27 : decode cX8_changes 27 = .ok (.aload_n 0, 1) := by decide +kernel
theorem dX8_changes_28 : decode cX8_changes 28 = .ok (.getfield 13, 3) := by decide +kernel
theorem dX8_changes_31 : decode cX8_changes 31 = .ok (.iload_n 1, 1) := by decide +kernel
theorem dX8_changes_32 : decode cX8_changes 32 = .ok (.iaload, 1) := by decide +kernel
theorem dX8_changes_33 : decode cX8_changes 33 = .ok (.iastore, 1) := by decide +kernel
theorem dX8_changes_34 : decode cX8_changes 34 = .ok (.iinc 1 1, 3) := by decide +kernel
theorem dX8_changes_37 : decode cX8_changes 37 = .ok (.goto (-25), 3) := by decide +kernel
theorem dX8_changes_40 : decode cX8_changes 40 = .ok (.aload_n 0, 1) := by decide +kernel
theorem dX8_changes_41 : decode cX8_changes 41 = .ok (.bipush 7, 2) := by decide +kernel
theorem dX8_changes_43 : decode cX8_changes 43 = .ok (.putfield 97, 3) := by decide +kernel
theorem dX8_changes_46 : decode cX8_changes 46 = .ok (.iconst 0, 1) := by decide +kernel
theorem dX8_changes_47 : decode cX8_changes 47 = .ok (.istore_n 1, 1) := by decide +kernel
theorem dX8_changes_48 : decode cX8_changes 48 = .ok (.iload_n 1, 1) := by decide +kernel
theorem dX8_changes_49 : decode cX8_changes 49 = .ok (.bipush 62, 2) := by decide +kernel
theorem dX8_changes_51 : decode cX8_changes 51 = .ok (.if_icmp .ge 33, 3) := by decide +kernel
theorem dX8_changes_54 : decode cX8_changes 54 = .ok (.aload_n 0, 1) := by decide +kernel
theorem dX8_changes_55 : decode cX8_changes 55 = .ok (.getfield 13, 3) := by decide +kernel
theorem dX8_changes_58 : decode cX8_changes 58 = .ok (.bipush 62, 2) := by decide +kernel
theorem dX8_changes_60 : decode cX8_changes 60 = .ok (.aload_n 0, 1) := by decide +kernel
theorem dX8_changes_61 : decode cX8_changes 61 = .ok (.getfield 97, 3) := by decide +kernel
theorem dX8_changes_64 : decode cX8_changes 64 = .ok (.imul, 1) := by decide +kernel
theorem dX8_changes_65 : decode cX8_changes 65 = .ok (.iload_n 1, 1) := by decide +kernel
theorem dX8_changes_66 : decode cX8_changes 66 = .ok (.iadd, 1) := by decide +kernel
theorem dX8_changes_67 : decode cX8_changes 67 = .ok (.aload_n 0, 1) := by decide +kernel
theorem dX8_changes_68 : decode cX8_changes 68 = .ok (.getfield 7, 3) := by decide +kernel
theorem dX8_changes_71 : decode cX8_changes 71 = .ok (.sipush 194, 3) := by decide +kernel
end
section
theorem dX8_changes_74 : decode cX8_changes 74 = .ok (.iload_n 1, 1) := by decide +kernel
theorem dX8_changes_75 : decode cX8_changes 75 = .ok (.iadd, 1) := by decide +kernel
theorem dX8_changes_76 : decode cX8_changes 76 = .ok (.iaload, 1) := by decide +kernel
theorem dX8_changes_77 : decode cX8_changes 77 = .ok (.iastore, 1) := by decide +kernel
theorem dX8_changes_78 : decode cX8_changes 78 = .ok (.iinc 1 1, 3) := by decide +kernel
theorem dX8_changes_81 : decode cX8_changes 81 = .ok (.goto (-33), 3) := by decide +kernel
theorem dX8_changes_84 : decode cX8_changes 84 = .ok (.aload_n 0, 1) := by decide +kernel
theorem dX8_changes_85 : decode cX8_changes 85 = .ok (.dup, 1) := by decide +kernel
theorem dX8_changes_86 : decode cX8_changes 86 = .ok (.getfield 97, 3) := by decide +kernel
theorem dX8_changes_89 : decode cX8_changes 89 = .ok (.iconst 1, 1) := by decide +kernel
theorem dX8_changes_90 : decode cX8_changes 90 = .ok (.iadd, 1) := by decide +kernel
theorem dX8_changes_91 : decode cX8_changes 91 = .ok (.putfield 97, 3) := by decide +kernel
theorem dX8_changes_94 : decode cX8_changes 94 = .ok (.aload_n 0, 1) := by decide +kernel
theorem dX8_changes_95 : decode cX8_changes 95 = .ok (.getfield 7, 3) := by decide +kernel
theorem dX8_changes_98 : decode cX8_changes 98 = .ok (.sipush 128, 3) := by decide +kernel
theorem dX8_changes_101 : decode cX8_changes 101 = .ok (.aload_n 0, 1) := by decide +kernel
theorem dX8_changes_102 : decode cX8_changes 102 = .ok (.getfield 7, 3) := by decide +kernel
theorem dX8_changes_105 : decode cX8_changes 105 = .ok (.sipush 159, 3) := by decide +kernel
theorem dX8_changes_108 : decode cX8_changes 108 = .ok (.iaload, 1) := by decide +kernel
theorem dX8_changes_109 : decode cX8_changes 109 = .ok (.iastore, 1) := by decide +kernel
theorem dX8_changes_110 : decode cX8_changes 110 = .ok (.iconst 0, 1) := by decide +kernel
theorem dX8_changes_111 : decode cX8_changes 111 = .ok (.istore_n 1, 1) := by decide +kernel
theorem dX8_changes_112 : decode cX8_changes 112 = .ok (.iload_n 1, 1) := by decide +kernel
theorem dX8_changes_113 : decode cX8_changes 113 = .ok (.bipush 30, 2) := by decide +kernel
theorem dX8_changes_115 : decode cX8_changes 115 = .ok (.if_icmp .ge 29, 3) := by decide +kernel
theorem dX8_changes_118 : decode cX8_changes 118 = .ok (.aload_n 0, 1) := by decide +kernel
theorem dX8_changes_119 : decode cX8_changes 119 = .ok (.getfield 7, 3) := by decide +kernel
theorem dX8_changes_122 : decode cX8_changes 122 = .ok (.sipush 129, 3) := by decide +kernel
theorem dX8_changes_125 : decode cX8_changes 125 = .ok (.iload_n 1, 1) := by decide +kernel
theorem dX8_changes_126 : decode cX8_changes 126 = .ok (.iadd, 1) := by decide +kernel
theorem dX8_changes_127 : decode cX8_changes 127 = .ok (.aload_n 0, 1) := by decide +kernel
theorem dX8_changes_128 : decode cX8_changes 128 = .ok (.getfield 7, 3) := by decide +kernel
theorem dX8_changes_131 : decode cX8_changes 131 = .ok (.sipush 160, 3) := by decide +kernel
theorem dX8_changes_134 : decode cX8_changes 134 = .ok (.iload_n 1, 1) := by decide +kernel
theorem dX8_changes_135 : decode cX8_changes 135 = .ok (.iadd, 1) := by decide +kernel
theorem dX8_changes_136 : decode cX8_changes 136 = .ok (.iaload, 1) := by decide +kernel
theorem dX8_changes_137 : decode cX8_changes 137 = .ok (.iastore, 1) := by decide +kernel
theorem dX8_changes_138 : decode cX8_changes 138 = .ok (.iinc 1 1, 3) := by decide +kernel
theorem dX8_changes_141 : decode cX8_changes 141 = .ok (.goto (-29), 3) := by decide +kernel
theorem dX8_changes_144 : decode cX8_changes 144 = .ok (.return_, 1) := by decide +kernel
theorem dX8_undoes_0 : decode cX8_undoes 0 = .ok (.aload_n 0, 1) := by decide +kernel
theorem dX8_undoes_1 : decode cX8_undoes 1 = .ok (.getfield 97, 3) := by decide +kernel
theorem dX8_undoes_4 : decode cX8_undoes 4 = .ok (.ifCond .ne 6, 3) := by decide +kernel
theorem dX8_undoes_7 : decode cX8_undoes 7 = .ok (.bipush (-2), 2) := by decide +kernel
theorem dX8_undoes_9 : decode cX8_undoes 9 = .ok (.ireturn, 1) := by decide +kernel
theorem dX8_undoes_10 : decode cX8_undoes 10 = .ok (.iconst 0, 1) := by decide +kernel
theorem dX8_undoes_11 : decode cX8_undoes 11 = .ok (.istore_n 2, 1) := by decide +kernel
theorem dX8_undoes_12 : decode cX8_undoes 12 = .ok (.iload_n 2, 1) := by decide +kernel
theorem dX8_undoes_13 : decode cX8_undoes 13 = .ok (.iload_n 1, 1) := by decide +kernel
theorem dX8_undoes_14 : decode cX8_undoes 14 = .ok (.if_icmp .ge 60, 3) := by decide +kernel
theorem dX8_undoes_17 : decode cX8_undoes 17 = .ok (.aload_n 0, 1) := by decide +kernel
theorem dX8_undoes_18 : decode cX8_undoes 18 = .ok (.getfield 97, 3) := by decide +kernel
theorem dX8_undoes_21 : decode cX8_undoes 21 = .ok (.ifCond .le 53, 3) := by decide +kernel
theorem dX8_undoes_24 : decode cX8_undoes 24 = .ok (.aload_n 0, 1) := by decide +kernel
theorem dX8_undoes_25 : decode cX8_undoes 25 = .ok (.dup, 1) := by decide +kernel
theorem dX8_undoes_26 : decode cX8_undoes 26 = .ok (.getfield 97, 3) := by decide +kernel
theorem dX8_undoes_29 : decode cX8_undoes 29 = .ok (.iconst 1, 1) := by decide +kernel
theorem dX8_undoes_30 : decode cX8_undoes 30 = .ok (.isub, 1) := by decide +kernel
theorem dX8_undoes_31 : decode cX8_undoes 31 = .ok (.putfield 97, 3) := by decide +kernel
theorem dX8_undoes_34 : decode cX8_undoes 34 = .ok (.iconst 0, 1) := by decide +kernel
theorem dX8_undoes_35 : decode cX8_undoes 35 = .ok (.istore_n 3, 1) := by decide +kernel
theorem dX8_undoes_36 : decode cX8_undoes 36 = .ok (.iload_n 3, 1) := by decide +kernel
theorem dX8_undoes_37 : decode cX8_undoes 37 = .ok (.bipush 62, 2) := by decide +kernel
theorem dX8_undoes_39 : decode cX8_undoes 39 = .ok (.if_icmp .ge 29, 3) := by decide +kernel
theorem dX8_undoes_42 : decode cX8_undoes 42 = .ok (.aload_n 0, 1) := by decide +kernel
theorem dX8_undoes_43 : decode cX8_undoes 43 = .ok (.getfield 7, 3) := by decide +kernel
theorem dX8_undoes_46 : decode cX8_undoes 46 = .ok (.iload_n 3, 1) := by decide +kernel
theorem dX8_undoes_47 : decode cX8_undoes 47 = .ok (.aload_n 0, 1) := by decide +kernel
theorem dX8_undoes_48 : decode cX8_undoes 48 = .ok (.getfield 13, 3) := by decide +kernel
theorem dX8_undoes_51 : decode cX8_undoes 51 = .ok (.bipush 62, 2) := by decide +kernel
theorem dX8_undoes_53 : decode cX8_undoes 53 = .ok (.aload_n 0, 1) := by decide +kernel
theorem dX8_undoes_54 : decode cX8_undoes 54 = .ok (.getfield 97, 3) := by decide +kernel
theorem dX8_undoes_57 : decode cX8_undoes 57 = .ok (.imul, 1) := by decide +kernel
theorem dX8_undoes_58 : decode cX8_undoes 58 = .ok (.iload_n 3, 1) := by decide +kernel
theorem dX8_undoes_59 : decode cX8_undoes 59 = .ok (.iadd, 1) := by decide +kernel
theorem dX8_undoes_60 : decode cX8_undoes 60 = .ok (.iaload, 1) := by decide +kernel
theorem dX8_undoes_61 : decode cX8_undoes 61 = .ok (.iastore, 1) := by decide +kernel
theorem dX8_undoes_62 : decode cX8_undoes 62 = .ok (.iinc 3 1, 3) := by decide +kernel
theorem dX8_undoes_65 : decode cX8_undoes 65 = .ok (.goto (-29), 3) := by decide +kernel
theorem dX8_undoes_68 : decode cX8_undoes 68 = .ok (.iinc 2 1, 3) := by decide +kernel
theorem dX8_undoes_71 : decode cX8_undoes 71 = .ok (.goto (-59), 3) := by decide +kernel
theorem dX8_undoes_74 : decode cX8_undoes 74 = .ok (.iconst 0, 1) := by decide +kernel
theorem dX8_undoes_75 : decode cX8_undoes 75 = .ok (.ireturn, 1) := by decide +kernel
theorem dX8_keeps_0 : decode cX8_keeps 0 = .ok (.aload_n 0, 1) := by decide +kernel
theorem dX8_keeps_1 : decode cX8_keeps 1 = .ok (.getfield 7, 3) := by decide +kernel
theorem dX8_keeps_4 : decode cX8_keeps 4 = .ok (.bipush 63, 2) := by decide +kernel
theorem dX8_keeps_6 : decode cX8_keeps 6 = .ok (.iload_n 2, 1) := by decide +kernel
theorem dX8_keeps_7 : decode cX8_keeps 7 = .ok (.iload_n 1, 1) := by decide +kernel
theorem dX8_keeps_8 : decode cX8_keeps 8 = .ok (.isub, 1) := by decide +kernel
theorem dX8_keeps_9 : decode cX8_keeps 9 = .ok (.iastore, 1) := by decide +kernel
theorem dX8_keeps_10 : decode cX8_keeps 10 = .ok (.iload_n 1, 1) := by decide +kernel
theorem dX8_keeps_11 : decode cX8_keeps 11 = .ok (.istore_n 3, 1) := by decide +kernel
theorem dX8_keeps_12 : decode cX8_keeps 12 = .ok (.iload_n 3, 1) := by decide +kernel
theorem dX8_keeps_13 : decode cX8_keeps 13 = .ok (.iload_n 2, 1) := by decide +kernel
theorem dX8_keeps_14 : decode cX8_keeps 14 = .ok (.if_icmp .ge 28, 3) := by decide +kernel
theorem dX8_keeps_17 : decode cX8_keeps 17 = .ok (.aload_n 0, 1) := by decide +kernel
theorem dX8_keeps_18 : decode cX8_keeps 18 = .ok (.getfield 7, 3) := by decide +kernel
theorem dX8_keeps_21 : decode cX8_keeps 21 = .ok (.bipush 64, 2) := by decide +kernel
theorem dX8_keeps_23 : decode cX8_keeps 23 = .ok (.iload_n 3, 1) := by decide +kernel
theorem dX8_keeps_24 : decode cX8_keeps 24 = .ok (.iadd, 1) := by decide +kernel
theorem dX8_keeps_25 : decode cX8_keeps 25 = .ok (.iload_n 1, 1) := by decide +kernel
theorem dX8_keeps_26 : decode cX8_keeps 26 = .ok (.isub, 1) := by decide +kernel
theorem dX8_keeps_27 : decode cX8_keeps 27 = .ok (.aload_n 0, 1) := by decide +kernel
theorem dX8_keeps_28 : decode cX8_keeps 28 = .ok (.getfield 7, 3) := by decide +kernel
theorem dX8_keeps_31 : decode cX8_keeps 31 = .ok (.iconst 1, 1) := by decide +kernel
theorem dX8_keeps_32 : decode cX8_keeps 32 = .ok (.iload_n 3, 1) := by decide +kernel
theorem dX8_keeps_33 : decode cX8_keeps 33 = .ok (.iadd, 1) := by decide +kernel
theorem dX8_keeps_34 : decode cX8_keeps 34 = .ok (.iaload, 1) := by decide +kernel
theorem dX8_keeps_35 : decode cX8_keeps 35 = .ok (.iastore, 1) := by decide +kernel
theorem dX8_keeps_36 : decode cX8_keeps 36 = .ok (.iinc 3 1, 3) := by decide +kernel
theorem dX8_keeps_39 : decode cX8_keeps 39 = .ok (.goto (-27), 3) := by decide +kernel
theorem dX8_keeps_42 : decode cX8_keeps 42 = .ok (.return_, 1) := by decide +kernel
theorem dX8_cuts_0 : decode cX8_cuts 0 = .ok (.iload_n 2, 1) := by decide +kernel
theorem dX8_cuts_1 : decode cX8_cuts 1 = .ok (.istore_n 3, 1) := by decide +kernel
theorem dX8_cuts_2 : decode cX8_cuts 2 = .ok (.iload_n 3, 1) := by decide +kernel
theorem dX8_cuts_3 : decode cX8_cuts 3 = .ok (.aload_n 0, 1) := by decide +kernel
theorem dX8_cuts_4 : decode cX8_cuts 4 = .ok (.getfield 7, 3) := by decide +kernel
theorem dX8_cuts_7 : decode cX8_cuts 7 = .ok (.iconst 0, 1) := by decide +kernel
theorem dX8_cuts_8 : decode cX8_cuts 8 = .ok (.iaload, 1) := by decide +kernel
theorem dX8_cuts_9 : decode cX8_cuts 9 = .ok (.if_icmp .ge 29, 3) := by decide +kernel
theorem dX8_cuts_12 : decode cX8_cuts 12 = .ok (.aload_n 0, 1) := by decide +kernel
theorem dX8_cuts_13 : decode cX8_cuts 13 = .ok (.getfield 7, 3) := by decide +kernel
theorem dX8_cuts_16 : decode cX8_cuts 16 = .ok (.iconst 1, 1) := by decide +kernel
theorem dX8_cuts_17 : decode cX8_cuts 17 = .ok (.iload_n 1, 1) := by decide +kernel
theorem dX8_cuts_18 : decode cX8_cuts 18 = .ok (.iadd, 1) := by decide +kernel
theorem dX8_cuts_19 : decode cX8_cuts 19 = .ok (.iload_n 3, 1) := by decide +kernel
theorem dX8_cuts_20 : decode cX8_cuts 20 = .ok (.iadd, 1) := by decide +kernel
theorem dX8_cuts_21 : decode cX8_cuts 21 = .ok (.iload_n 2, 1) := by decide +kernel
theorem dX8_cuts_22 : decode cX8_cuts 22 = .ok (.isub, 1) := by decide +kernel
theorem dX8_cuts_23 : decode cX8_cuts 23 = .ok (.aload_n 0, 1) := by decide +kernel
theorem dX8_cuts_24 : decode cX8_cuts 24 = .ok (.getfield 7, 3) := by decide +kernel
theorem dX8_cuts_27 : decode cX8_cuts 27 = .ok (.iconst 1, 1) := by decide +kernel
theorem dX8_cuts_28 : decode cX8_cuts 28 = .ok (.iload_n 3, 1) := by decide +kernel
theorem dX8_cuts_29 : decode cX8_cuts 29 = .ok (.iadd, 1) := by decide +kernel
theorem dX8_cuts_30 : decode cX8_cuts 30 = .ok (.iaload, 1) := by decide +kernel
theorem dX8_cuts_31 : decode cX8_cuts 31 = .ok (.iastore, 1) := by decide +kernel
theorem dX8_cuts_32 : decode cX8_cuts 32 = .ok (.iinc 3 1, 3) := by decide +kernel
theorem dX8_cuts_35 : decode cX8_cuts 35 = .ok (.goto (-33), 3) := by decide +kernel
theorem dX8_cuts_38 : decode cX8_cuts 38 = .ok (.aload_n 0, 1) := by decide +kernel
theorem dX8_cuts_39 : decode cX8_cuts 39 = .ok (.getfield 7, 3) := by decide +kernel
theorem dX8_cuts_42 : decode cX8_cuts 42 = .ok (.iconst 0, 1) := by decide +kernel
theorem dX8_cuts_43 : decode cX8_cuts 43 = .ok (.dup2, 1) := by decide +kernel
theorem dX8_cuts_44 : decode cX8_cuts 44 = .ok (.iaload, 1) := by decide +kernel
theorem dX8_cuts_45 : decode cX8_cuts 45 = .ok (.iload_n 2, 1) := by decide +kernel
theorem dX8_cuts_46 : decode cX8_cuts 46 = .ok (.iload_n 1, 1) := by decide +kernel
theorem dX8_cuts_47 : decode cX8_cuts 47 = .ok (.isub, 1) := by decide +kernel
theorem dX8_cuts_48 : decode cX8_cuts 48 = .ok (.isub, 1) := by decide +kernel
theorem dX8_cuts_49 : decode cX8_cuts 49 = .ok (.iastore, 1) := by decide +kernel
theorem dX8_cuts_50 : decode cX8_cuts 50 = .ok (.return_, 1) := by decide +kernel
theorem dX8_inserts_0 : decode cX8_inserts 0 = .ok (.aload_n 0, 1) := by decide +kernel
theorem dX8_inserts_1 : decode cX8_inserts 1 = .ok (.getfield 7, 3) := by decide +kernel
theorem dX8_inserts_4 : decode cX8_inserts 4 = .ok (.bipush 61, 2) := by decide +kernel
theorem dX8_inserts_6 : decode cX8_inserts 6 = .ok (.iload_n 1, 1) := by decide +kernel
theorem dX8_inserts_7 : decode cX8_inserts 7 = .ok (.iastore, 1) := by decide +kernel
theorem dX8_inserts_8 : decode cX8_inserts 8 = .ok (.aload_n 0, 1) := by decide +kernel
theorem dX8_inserts_9 : decode cX8_inserts 9 = .ok (.getfield 7, 3) := by decide +kernel
theorem dX8_inserts_12 : decode cX8_inserts 12 = .ok (.bipush 62, 2) := by decide +kernel
theorem dX8_inserts_14 : decode cX8_inserts 14 = .ok (.iconst 1, 1) := by decide +kernel
theorem dX8_inserts_15 : decode cX8_inserts 15 = .ok (.iastore, 1) := by decide +kernel
theorem dX8_inserts_16 : decode cX8_inserts 16 = .ok (.iconst 2, 1) := by decide +kernel
theorem dX8_inserts_17 : decode cX8_inserts 17 = .ok (.ireturn, 1) := by decide +kernel
theorem dX8_ranged_0 : decode cX8_ranged 0 = .ok (.aload_n 0, 1) := by decide +kernel
theorem dX8_ranged_1 : decode cX8_ranged 1 = .ok (.getfield 7, 3) := by decide +kernel
theorem dX8_ranged_4 : decode cX8_ranged 4 = .ok (.sipush 190, 3) := by decide +kernel
theorem dX8_ranged_7 : decode cX8_ranged 7 = .ok (.iaload, 1) := by decide +kernel
theorem dX8_ranged_8 : decode cX8_ranged 8 = .ok (.istore_n 3, 1) := by decide +kernel
theorem dX8_ranged_9 : decode cX8_ranged 9 = .ok (.iload_n 2, 1) := by decide +kernel
theorem dX8_ranged_10 : decode cX8_ranged 10 = .ok (.iload_n 1, 1) := by decide +kernel
theorem dX8_ranged_11 : decode cX8_ranged 11 = .ok (.if_icmp .le 9, 3) := by decide +kernel
theorem dX8_ranged_14 : decode cX8_ranged 14 = .ok (.aload_n 0, 1) := by decide +kernel
theorem dX8_ranged_15 : decode cX8_ranged 15 = .ok (.iload_n 1, 1) := by decide +kernel
theorem dX8_ranged_16 : decode cX8_ranged 16 = .ok (.iload_n 2, 1) := by decide +kernel
theorem dX8_ranged_17 : decode cX8_ranged 17 = .ok (.invokevirtual 100, 3) := by decide +kernel
theorem dX8_ranged_20 : decode cX8_ranged 20 = .ok (.iload_n 3, 1) := by decide +kernel
theorem dX8_ranged_21 : decode cX8_ranged 21 = .ok (.bipush 121, 2) := by decide +kernel
theorem dX8_ranged_23 : decode cX8_ranged 23 = .ok (.if_icmp .eq 14, 3) := by decide +kernel
theorem dX8_ranged_26 : decode cX8_ranged 26 = .ok (.iload_n 2, 1) := by decide +kernel
theorem dX8_ranged_27 : decode cX8_ranged 27 = .ok (.iload_n 1, 1) := by decide +kernel
theorem dX8_ranged_28 : decode cX8_ranged 28 = .ok (.if_icmp .le 9, 3) := by decide +kernel
theorem dX8_ranged_31 : decode cX8_ranged 31 = .ok (.aload_n 0, 1) := by decide +kernel
theorem dX8_ranged_32 : decode cX8_ranged 32 = .ok (.iload_n 1, 1) := by decide +kernel
theorem dX8_ranged_33 : decode cX8_ranged 33 = .ok (.iload_n 2, 1) := by decide +kernel
theorem dX8_ranged_34 : decode cX8_ranged 34 = .ok (.invokevirtual 104, 3) := by decide +kernel
theorem dX8_ranged_37 : decode cX8_ranged 37 = .ok (.iload_n 3, 1) := by decide +kernel
theorem dX8_ranged_38 : decode cX8_ranged 38 = .ok (.bipush 99, 2) := by decide +kernel
theorem dX8_ranged_40 : decode cX8_ranged 40 = .ok (.if_icmp .ne 9, 3) := by decide +kernel
theorem dX8_ranged_43 : decode cX8_ranged 43 = .ok (.aload_n 0, 1) := by decide +kernel
theorem dX8_ranged_44 : decode cX8_ranged 44 = .ok (.iload_n 1, 1) := by decide +kernel
theorem dX8_ranged_45 : decode cX8_ranged 45 = .ok (.invokevirtual 107, 3) := by decide +kernel
theorem dX8_ranged_48 : decode cX8_ranged 48 = .ok (.ireturn, 1) := by decide +kernel
theorem dX8_ranged_49 : decode cX8_ranged 49 = .ok (.aload_n 0, 1) := by decide +kernel
theorem dX8_ranged_50 : decode cX8_ranged 50 = .ok (.getfield 7, 3) := by decide +kernel
theorem dX8_ranged_53 : decode cX8_ranged 53 = .ok (.bipush 61, 2) := by decide +kernel
theorem dX8_ranged_55 : decode cX8_ranged 55 = .ok (.iload_n 1, 1) := by decide +kernel
theorem dX8_ranged_56 : decode cX8_ranged 56 = .ok (.aload_n 0, 1) := by decide +kernel
theorem dX8_ranged_57 : decode cX8_ranged 57 = .ok (.invokevirtual 77, 3) := by decide +kernel
theorem dX8_ranged_60 : decode cX8_ranged 60 = .ok (.invokestatic 94, 3) := by decide +kernel
theorem dX8_ranged_63 : decode cX8_ranged 63 = .ok (.iastore, 1) := by decide +kernel
theorem dX8_ranged_64 : decode cX8_ranged 64 = .ok (.iload_n 3, 1) := by decide +kernel
theorem dX8_ranged_65 : decode cX8_ranged 65 = .ok (.bipush 100, 2) := by decide +kernel
theorem dX8_ranged_67 : decode cX8_ranged 67 = .ok (.if_icmp .ne 12, 3) := by decide +kernel
theorem dX8_ranged_70 : decode cX8_ranged 70 = .ok (.iload_n 2, 1) := by decide +kernel
theorem dX8_ranged_71 : decode cX8_ranged 71 = .ok (.iload_n 1, 1) := by decide +kernel
theorem dX8_ranged_72 : decode cX8_ranged 72 = .ok (.if_icmp .le 7, 3) := by decide +kernel
theorem dX8_ranged_75 : decode cX8_ranged 75 = .ok (.aload_n 0, 1) := by decide +kernel
theorem dX8_ranged_76 : decode cX8_ranged 76 = .ok (.invokevirtual 110, 3) := by decide +kernel
theorem dX8_ranged_79 : decode cX8_ranged 79 = .ok (.iconst 0, 1) := by decide +kernel
theorem dX8_ranged_80 : decode cX8_ranged 80 = .ok (.ireturn, 1) := by decide +kernel
theorem dX8_goesTo_0 : decode cX8_goesTo 0 = .ok (.aload_n 0, 1) := by decide +kernel
theorem dX8_goesTo_1 : decode cX8_goesTo 1 = .ok (.getfield 7, 3) := by decide +kernel
theorem dX8_goesTo_4 : decode cX8_goesTo 4 = .ok (.sipush 190, 3) := by decide +kernel
theorem dX8_goesTo_7 : decode cX8_goesTo 7 = .ok (.iaload, 1) := by decide +kernel
theorem dX8_goesTo_8 : decode cX8_goesTo 8 = .ok (.ifCond .ne 20, 3) := by decide +kernel
theorem dX8_goesTo_11 : decode cX8_goesTo 11 = .ok (.aload_n 0, 1) := by decide +kernel
theorem dX8_goesTo_12 : decode cX8_goesTo 12 = .ok (.getfield 7, 3) := by decide +kernel
theorem dX8_goesTo_15 : decode cX8_goesTo 15 = .ok (.bipush 61, 2) := by decide +kernel
theorem dX8_goesTo_17 : decode cX8_goesTo 17 = .ok (.iload_n 1, 1) := by decide +kernel
theorem dX8_goesTo_18 : decode cX8_goesTo 18 = .ok (.aload_n 0, 1) := by decide +kernel
theorem dX8_goesTo_19 : decode cX8_goesTo 19 = .ok (.invokevirtual 77, 3) := by decide +kernel
theorem dX8_goesTo_22 : decode cX8_goesTo 22 = .ok (.invokestatic 94, 3) := by decide +kernel
theorem dX8_goesTo_25 : decode cX8_goesTo 25 = .ok (.iastore, 1) := by decide +kernel
theorem dX8_goesTo_26 : decode cX8_goesTo 26 = .ok (.iconst 0, 1) := by decide +kernel
theorem dX8_goesTo_27 : decode cX8_goesTo 27 = .ok (.ireturn, 1) := by decide +kernel
theorem dX8_goesTo_28 : decode cX8_goesTo 28 = .ok (.aload_n 0, 1) := by decide +kernel
theorem dX8_goesTo_29 : decode cX8_goesTo 29 = .ok (.getfield 7, 3) := by decide +kernel
theorem dX8_goesTo_32 : decode cX8_goesTo 32 = .ok (.bipush 61, 2) := by decide +kernel
theorem dX8_goesTo_34 : decode cX8_goesTo 34 = .ok (.iaload, 1) := by decide +kernel
theorem dX8_goesTo_35 : decode cX8_goesTo 35 = .ok (.istore_n 3, 1) := by decide +kernel
theorem dX8_goesTo_36 : decode cX8_goesTo 36 = .ok (.iload_n 3, 1) := by decide +kernel
theorem dX8_goesTo_37 : decode cX8_goesTo 37 = .ok (.iload_n 1, 1) := by decide +kernel
theorem dX8_goesTo_38 : decode cX8_goesTo 38 = .ok (.invokestatic 94, 3) := by decide +kernel
theorem dX8_goesTo_41 : decode cX8_goesTo 41 = .ok (.istore 4, 2) := by decide +kernel
theorem dX8_goesTo_43 : decode cX8_goesTo 43 = .ok (.iload 4, 2) := by decide +kernel
theorem dX8_goesTo_45 : decode cX8_goesTo 45 = .ok (.iload_n 3, 1) := by decide +kernel
theorem dX8_goesTo_46 : decode cX8_goesTo 46 = .ok (.if_icmp .ne 7, 3) := by decide +kernel
theorem dX8_goesTo_49 : decode cX8_goesTo 49 = .ok (.iload_n 1, 1) := by decide +kernel
theorem dX8_goesTo_50 : decode cX8_goesTo 50 = .ok (.goto 4, 3) := by decide +kernel
theorem dX8_goesTo_53 : decode cX8_goesTo 53 = .ok (.iload_n 3, 1) := by decide +kernel
theorem dX8_goesTo_54 : decode cX8_goesTo 54 = .ok (.istore 5, 2) := by decide +kernel
theorem dX8_goesTo_56 : decode cX8_goesTo 56 = .ok (.aload_n 0, 1) := by decide +kernel
theorem dX8_goesTo_57 : decode cX8_goesTo 57 = .ok (.iload 4, 2) := by decide +kernel
theorem dX8_goesTo_59 : decode cX8_goesTo 59 = .ok (.iload 5, 2) := by decide +kernel
theorem dX8_goesTo_61 : decode cX8_goesTo 61 = .ok (.iload_n 2, 1) := by decide +kernel
theorem dX8_goesTo_62 : decode cX8_goesTo 62 = .ok (.ifCond .eq 7, 3) := by decide +kernel
theorem dX8_goesTo_65 : decode cX8_goesTo 65 = .ok (.iconst 1, 1) := by decide +kernel
theorem dX8_goesTo_66 : decode cX8_goesTo 66 = .ok (.goto 4, 3) := by decide +kernel
theorem dX8_goesTo_69 : decode cX8_goesTo 69 = .ok (.iconst 0, 1) := by decide +kernel
theorem dX8_goesTo_70 : decode cX8_goesTo 70 = .ok (.iadd, 1) := by decide +kernel
theorem dX8_goesTo_71 : decode cX8_goesTo 71 = .ok (.aload_n 0, 1) := by decide +kernel
theorem dX8_goesTo_72 : decode cX8_goesTo 72 = .ok (.getfield 7, 3) := by decide +kernel
theorem dX8_goesTo_75 : decode cX8_goesTo 75 = .ok (.iconst 0, 1) := by decide +kernel
theorem dX8_goesTo_76 : decode cX8_goesTo 76 = .ok (.iaload, 1) := by decide +kernel
theorem dX8_goesTo_77 : decode cX8_goesTo 77 = .ok (.invokestatic 94, 3) := by decide +kernel
theorem dX8_goesTo_80 : decode cX8_goesTo 80 = .ok (.invokevirtual 113, 3) := by decide +kernel
theorem dX8_goesTo_83 : decode cX8_goesTo 83 = .ok (.ireturn, 1) := by decide +kernel
theorem dX8_moves_0 : decode cX8_moves 0 = .ok (.aload_n 0, 1) := by decide +kernel
theorem dX8_moves_1 : decode cX8_moves 1 = .ok (.getfield 7, 3) := by decide +kernel
theorem dX8_moves_4 : decode cX8_moves 4 = .ok (.bipush 61, 2) := by decide +kernel
theorem dX8_moves_6 : decode cX8_moves 6 = .ok (.iaload, 1) := by decide +kernel
theorem dX8_moves_7 : decode cX8_moves 7 = .ok (.istore_n 2, 1) := by decide +kernel
theorem dX8_moves_8 : decode cX8_moves 8 = .ok (.aload_n 0, 1) := by decide +kernel
theorem dX8_moves_9 : decode cX8_moves 9 = .ok (.invokevirtual 116, 3) := by decide +kernel
theorem dX8_moves_12 : decode cX8_moves 12 = .ok (.istore_n 3, 1) := by decide +kernel
theorem dX8_moves_13 : decode cX8_moves 13 = .ok (.iconst 0, 1) := by decide +kernel
theorem dX8_moves_14 : decode cX8_moves 14 = .ok (.istore 4, 2) := by decide +kernel
theorem dX8_moves_16 : decode cX8_moves 16 = .ok (.iload 4, 2) := by decide +kernel
theorem dX8_moves_18 : decode cX8_moves 18 = .ok (.iload_n 3, 1) := by decide +kernel
theorem dX8_moves_19 : decode cX8_moves 19 = .ok (.if_icmp .ge 16, 3) := by decide +kernel
theorem dX8_moves_22 : decode cX8_moves 22 = .ok (.aload_n 0, 1) := by decide +kernel
theorem dX8_moves_23 : decode cX8_moves 23 = .ok (.iload_n 1, 1) := by decide +kernel
theorem dX8_moves_24 : decode cX8_moves 24 = .ok (.iload_n 2, 1) := by decide +kernel
theorem dX8_moves_25 : decode cX8_moves 25 = .ok (.invokevirtual 119, 3) := by decide +kernel
theorem dX8_moves_28 : decode cX8_moves 28 = .ok (.istore_n 2, 1) := by decide +kernel
theorem dX8_moves_29 : decode cX8_moves 29 = .ok (.iinc 4 1, 3) := by decide +kernel
theorem dX8_moves_32 : decode cX8_moves 32 = .ok (.goto (-16), 3) := by decide +kernel
theorem dX8_moves_35 : decode cX8_moves 35 = .ok (.aload_n 0, 1) := by decide +kernel
theorem dX8_moves_36 : decode cX8_moves 36 = .ok (.iload_n 2, 1) := by decide +kernel
theorem dX8_moves_37 : decode cX8_moves 37 = .ok (.iload_n 1, 1) := by decide +kernel
theorem dX8_moves_38 : decode cX8_moves 38 = .ok (.iconst 3, 1) := by decide +kernel
theorem dX8_moves_39 : decode cX8_moves 39 = .ok (.if_icmp .eq 9, 3) := by decide +kernel
theorem dX8_moves_42 : decode cX8_moves 42 = .ok (.iload_n 1, 1) := by decide +kernel
theorem dX8_moves_43 : decode cX8_moves 43 = .ok (.bipush 6, 2) := by decide +kernel
theorem dX8_moves_45 : decode cX8_moves 45 = .ok (.if_icmp .ne 7, 3) := by decide +kernel
theorem dX8_moves_48 : decode cX8_moves 48 = .ok (.iconst 1, 1) := by decide +kernel
theorem dX8_moves_49 : decode cX8_moves 49 = .ok (.goto 4, 3) := by decide +kernel
theorem dX8_moves_52 : decode cX8_moves 52 = .ok (.iconst 0, 1) := by decide +kernel
theorem dX8_moves_53 : decode cX8_moves 53 = .ok (.invokevirtual 122, 3) := by decide +kernel
theorem dX8_moves_56 : decode cX8_moves 56 = .ok (.ireturn, 1) := by decide +kernel
theorem dX8_objects_0 : decode cX8_objects 0 = .ok (.iload_n 2, 1) := by decide +kernel
theorem dX8_objects_1 : decode cX8_objects 1 = .ok (.bipush 119, 2) := by decide +kernel
theorem dX8_objects_3 : decode cX8_objects 3 = .ok (.if_icmp .ne 23, 3) := by decide +kernel
theorem dX8_objects_6 : decode cX8_objects 6 = .ok (.aload_n 0, 1) := by decide +kernel
theorem dX8_objects_7 : decode cX8_objects 7 = .ok (.getfield 7, 3) := by decide +kernel
theorem dX8_objects_10 : decode cX8_objects 10 = .ok (.iconst 0, 1) := by decide +kernel
theorem dX8_objects_11 : decode cX8_objects 11 = .ok (.iaload, 1) := by decide +kernel
theorem dX8_objects_12 : decode cX8_objects 12 = .ok (.ifCond .ne 8, 3) := by decide +kernel
theorem dX8_objects_15 : decode cX8_objects 15 = .ok (.bipush (-2), 2) := by decide +kernel
theorem dX8_objects_17 : decode cX8_objects 17 = .ok (.goto 8, 3) := by decide +kernel
theorem dX8_objects_20 : decode cX8_objects 20 = .ok (.aload_n 0, 1) := by decide +kernel
theorem dX8_objects_21 : decode cX8_objects 21 = .ok (.iload_n 1, 1) := by decide +kernel
theorem dX8_objects_22 : decode cX8_objects 22 = .ok (.invokevirtual 126, 3) := by decide +kernel
theorem dX8_objects_25 : decode cX8_objects 25 = .ok (.ireturn, 1) := by decide +kernel
theorem dX8_objects_26 : decode cX8_objects 26 = .ok (.iload_n 2, 1) := by decide +kernel
theorem dX8_objects_27 : decode cX8_objects 27 = .ok (.bipush 98, 2) := by decide +kernel
theorem dX8_objects_29 : decode cX8_objects 29 = .ok (.if_icmp .ne 11, 3) := by decide +kernel
theorem dX8_objects_32 : decode cX8_objects 32 = .ok (.aload_n 0, 1) := by decide +kernel
theorem dX8_objects_33 : decode cX8_objects 33 = .ok (.iload_n 1, 1) := by decide +kernel
theorem dX8_objects_34 : decode cX8_objects 34 = .ok (.invokevirtual 130, 3) := by decide +kernel
theorem dX8_objects_37 : decode cX8_objects 37 = .ok (.goto 5, 3) := by decide +kernel
theorem dX8_objects_40 : decode cX8_objects 40 = .ok (.bipush (-2), 2) := by decide +kernel
theorem dX8_objects_42 : decode cX8_objects 42 = .ok (.ireturn, 1) := by decide +kernel
theorem dX8_words_0 : decode cX8_words 0 = .ok (.aload_n 0, 1) := by decide +kernel
theorem dX8_words_1 : decode cX8_words 1 = .ok (.getfield 7, 3) := by decide +kernel
theorem dX8_words_4 : decode cX8_words 4 = .ok (.bipush 61, 2) := by decide +kernel
theorem dX8_words_6 : decode cX8_words 6 = .ok (.iaload, 1) := by decide +kernel
theorem dX8_words_7 : decode cX8_words 7 = .ok (.istore_n 2, 1) := by decide +kernel
theorem dX8_words_8 : decode cX8_words 8 = .ok (.iload_n 2, 1) := by decide +kernel
theorem dX8_words_9 : decode cX8_words 9 = .ok (.iconst 1, 1) := by decide +kernel
theorem dX8_words_10 : decode cX8_words 10 = .ok (.iadd, 1) := by decide +kernel
theorem dX8_words_11 : decode cX8_words 11 = .ok (.istore_n 3, 1) := by decide +kernel
theorem dX8_words_12 : decode cX8_words 12 = .ok (.aload_n 0, 1) := by decide +kernel
theorem dX8_words_13 : decode cX8_words 13 = .ok (.iload_n 2, 1) := by decide +kernel
theorem dX8_words_14 : decode cX8_words 14 = .ok (.invokevirtual 74, 3) := by decide +kernel
theorem dX8_words_17 : decode cX8_words 17 = .ok (.istore 4, 2) := by decide +kernel
theorem dX8_words_19 : decode cX8_words 19 = .ok (.aload_n 0, 1) := by decide +kernel
theorem dX8_words_20 : decode cX8_words 20 = .ok (.iload_n 2, 1) := by decide +kernel
theorem dX8_words_21 : decode cX8_words 21 = .ok (.iconst 1, 1) := by decide +kernel
theorem dX8_words_22 : decode cX8_words 22 = .ok (.isub, 1) := by decide +kernel
theorem dX8_words_23 : decode cX8_words 23 = .ok (.invokevirtual 74, 3) := by decide +kernel
theorem dX8_words_26 : decode cX8_words 26 = .ok (.iload 4, 2) := by decide +kernel
theorem dX8_words_28 : decode cX8_words 28 = .ok (.if_icmp .ne 9, 3) := by decide +kernel
theorem dX8_words_31 : decode cX8_words 31 = .ok (.iinc 2 (-1), 3) := by decide +kernel
theorem dX8_words_34 : decode cX8_words 34 = .ok (.goto (-15), 3) := by decide +kernel
theorem dX8_words_37 : decode cX8_words 37 = .ok (.aload_n 0, 1) := by decide +kernel
theorem dX8_words_38 : decode cX8_words 38 = .ok (.iload_n 3, 1) := by decide +kernel
theorem dX8_words_39 : decode cX8_words 39 = .ok (.invokevirtual 74, 3) := by decide +kernel
theorem dX8_words_42 : decode cX8_words 42 = .ok (.iload 4, 2) := by decide +kernel
theorem dX8_words_44 : decode cX8_words 44 = .ok (.if_icmp .ne 9, 3) := by decide +kernel
theorem dX8_words_47 : decode cX8_words 47 = .ok (.iinc 3 1, 3) := by decide +kernel
theorem dX8_words_50 : decode cX8_words 50 = .ok (.goto (-13), 3) := by decide +kernel
theorem dX8_words_53 : decode cX8_words 53 = .ok (.iload_n 1, 1) := by decide +kernel
theorem dX8_words_54 : decode cX8_words 54 = .ok (.ifCond .eq 17, 3) := by decide +kernel
theorem dX8_words_57 : decode cX8_words 57 = .ok (.aload_n 0, 1) := by decide +kernel
theorem dX8_words_58 : decode cX8_words 58 = .ok (.iload_n 3, 1) := by decide +kernel
theorem dX8_words_59 : decode cX8_words 59 = .ok (.invokevirtual 74, 3) := by decide +kernel
theorem dX8_words_62 : decode cX8_words 62 = .ok (.ifCond .ne 9, 3) := by decide +kernel
theorem dX8_words_65 : decode cX8_words 65 = .ok (.iinc 3 1, 3) := by decide +kernel
theorem dX8_words_68 : decode cX8_words 68 = .ok (.goto (-15), 3) := by decide +kernel
theorem dX8_words_71 : decode cX8_words 71 = .ok (.aload_n 0, 1) := by decide +kernel
theorem dX8_words_72 : decode cX8_words 72 = .ok (.iload_n 2, 1) := by decide +kernel
theorem dX8_words_73 : decode cX8_words 73 = .ok (.iload_n 3, 1) := by decide +kernel
theorem dX8_words_74 : decode cX8_words 74 = .ok (.invokevirtual 113, 3) := by decide +kernel
theorem dX8_words_77 : decode cX8_words 77 = .ok (.ireturn, 1) := by decide +kernel
theorem dX8_bracket_0 : decode cX8_bracket 0 = .ok (.iconst 0, 1) := by decide +kernel
theorem dX8_bracket_1 : decode cX8_bracket 1 = .ok (.istore 5, 2) := by decide +kernel
theorem dX8_bracket_3 : decode cX8_bracket 3 = .ok (.iload_n 1, 1) := by decide +kernel
theorem dX8_bracket_4 : decode cX8_bracket 4 = .ok (.istore 6, 2) := by decide +kernel
theorem dX8_bracket_6 : decode cX8_bracket 6 = .ok (.iload 6, 2) := by decide +kernel
theorem dX8_bracket_8 : decode cX8_bracket 8 = .ok (.i2l, 1) := by decide +kernel
theorem dX8_bracket_9 : decode cX8_bracket 9 = .ok (.lconst 0, 1) := by decide +kernel
theorem dX8_bracket_10 : decode cX8_bracket 10 = .ok (.aload_n 0, 1) := by decide +kernel
theorem dX8_bracket_11 : decode cX8_bracket 11 = .ok (.getfield 7, 3) := by decide +kernel
theorem dX8_bracket_14 : decode cX8_bracket 14 = .ok (.iconst 0, 1) := by decide +kernel
theorem dX8_bracket_15 : decode cX8_bracket 15 = .ok (.iaload, 1) := by decide +kernel
theorem dX8_bracket_16 : decode cX8_bracket 16 = .ok (.iconst 1, 1) := by decide +kernel
theorem dX8_bracket_17 : decode cX8_bracket 17 = .ok (.isub, 1) := by decide +kernel
theorem dX8_bracket_18 : decode cX8_bracket 18 = .ok (.i2l, 1) := by decide +kernel
theorem dX8_bracket_19 : decode cX8_bracket 19 = .ok (.invokestatic 58, 3) := by decide +kernel
theorem dX8_bracket_22 : decode cX8_bracket 22 = .ok (.ifCond .eq 64, 3) := by decide +kernel
theorem dX8_bracket_25 : decode cX8_bracket 25 = .ok (.aload_n 0, 1) := by decide +kernel
theorem dX8_bracket_26 : decode cX8_bracket 26 = .ok (.getfield 7, 3) := by decide +kernel
theorem dX8_bracket_29 : decode cX8_bracket 29 = .ok (.iconst 1, 1) := by decide +kernel
theorem dX8_bracket_30 : decode cX8_bracket 30 = .ok (.iload 6, 2) := by decide +kernel
theorem dX8_bracket_32 : decode cX8_bracket 32 = .ok (.iadd, 1) := by decide +kernel
theorem dX8_bracket_33 : decode cX8_bracket 33 = .ok (.iaload, 1) := by decide +kernel
theorem dX8_bracket_34 : decode cX8_bracket 34 = .ok (.istore 7, 2) := by decide +kernel
theorem dX8_bracket_36 : decode cX8_bracket 36 = .ok (.iload 7, 2) := by decide +kernel
theorem dX8_bracket_38 : decode cX8_bracket 38 = .ok (.iload_n 3, 1) := by decide +kernel
theorem dX8_bracket_39 : decode cX8_bracket 39 = .ok (.if_icmp .ne 11, 3) := by decide +kernel
theorem dX8_bracket_42 : decode cX8_bracket 42 = .ok (.iload 5, 2) := by decide +kernel
theorem dX8_bracket_44 : decode cX8_bracket 44 = .ok (.ifCond .ne 6, 3) := by decide +kernel
theorem dX8_bracket_47 : decode cX8_bracket 47 = .ok (.iload 6, 2) := by decide +kernel
theorem dX8_bracket_49 : decode cX8_bracket 49 = .ok (.ireturn, 1) := by decide +kernel
theorem dX8_bracket_50 : decode cX8_bracket 50 = .ok (.iload 5, 2) := by decide +kernel
theorem dX8_bracket_52 : decode cX8_bracket 52 = .ok (.iload 7, 2) := by decide +kernel
theorem dX8_bracket_54 : decode cX8_bracket 54 = .ok (.iload 4, 2) := by decide +kernel
theorem dX8_bracket_56 : decode cX8_bracket 56 = .ok (.if_icmp .ne 7, 3) := by decide +kernel
theorem dX8_bracket_59 : decode cX8_bracket 59 = .ok (.iconst 1, 1) := by decide +kernel
theorem dX8_bracket_60 : decode cX8_bracket 60 = .ok (.goto 14, 3) := by decide +kernel
theorem dX8_bracket_63 : decode cX8_bracket 63 = .ok (.iload 7, 2) := by decide +kernel
theorem dX8_bracket_65 : decode cX8_bracket 65 = .ok (.iload_n 3, 1) := by decide +kernel
theorem dX8_bracket_66 : decode cX8_bracket 66 = .ok (.if_icmp .ne 7, 3) := by decide +kernel
theorem dX8_bracket_69 : decode cX8_bracket 69 = .ok (.iconst (-1), 1) := by decide +kernel
theorem dX8_bracket_70 : decode cX8_bracket 70 = .ok (.goto 4, 3) := by decide +kernel
theorem dX8_bracket_73 : decode cX8_bracket 73 = .ok (.iconst 0, 1) := by decide +kernel
theorem dX8_bracket_74 : decode cX8_bracket 74 = .ok (.iadd, 1) := by decide +kernel
theorem dX8_bracket_75 : decode cX8_bracket 75 = .ok (.istore 5, 2) := by decide +kernel
theorem dX8_bracket_77 : decode cX8_bracket 77 = .ok (.iload 6, 2) := by decide +kernel
theorem dX8_bracket_79 : decode cX8_bracket 79 = .ok (.iload_n 2, 1) := by decide +kernel
theorem dX8_bracket_80 : decode cX8_bracket 80 = .ok (.iadd, 1) := by decide +kernel
theorem dX8_bracket_81 : decode cX8_bracket 81 = .ok (.istore 6, 2) := by decide +kernel
theorem dX8_bracket_83 : decode cX8_bracket 83 = .ok (.goto (-77), 3) := by decide +kernel
theorem dX8_bracket_86 : decode cX8_bracket 86 = .ok (.bipush (-4), 2) := by decide +kernel
theorem dX8_bracket_88 : decode cX8_bracket 88 = .ok (.ireturn, 1) := by decide +kernel
theorem dX8_brackets_0 : decode cX8_brackets 0 = .ok (.aload_n 0, 1) := by decide +kernel
theorem dX8_brackets_1 : decode cX8_brackets 1 = .ok (.getfield 7, 3) := by decide +kernel
theorem dX8_brackets_4 : decode cX8_brackets 4 = .ok (.bipush 61, 2) := by decide +kernel
theorem dX8_brackets_6 : decode cX8_brackets 6 = .ok (.iaload, 1) := by decide +kernel
theorem dX8_brackets_7 : decode cX8_brackets 7 = .ok (.istore_n 2, 1) := by decide +kernel
theorem dX8_brackets_8 : decode cX8_brackets 8 = .ok (.aload_n 0, 1) := by decide +kernel
theorem dX8_brackets_9 : decode cX8_brackets 9 = .ok (.getfield 7, 3) := by decide +kernel
theorem dX8_brackets_12 : decode cX8_brackets 12 = .ok (.iconst 0, 1) := by decide +kernel
theorem dX8_brackets_13 : decode cX8_brackets 13 = .ok (.iaload, 1) := by decide +kernel
theorem dX8_brackets_14 : decode cX8_brackets 14 = .ok (.ifCond .le 20, 3) := by decide +kernel
theorem dX8_brackets_17 : decode cX8_brackets 17 = .ok (.aload_n 0, 1) := by decide +kernel
theorem dX8_brackets_18 : decode cX8_brackets 18 = .ok (.getfield 7, 3) := by decide +kernel
theorem dX8_brackets_21 : decode cX8_brackets 21 = .ok (.iconst 1, 1) := by decide +kernel
theorem dX8_brackets_22 : decode cX8_brackets 22 = .ok (.iload_n 2, 1) := by decide +kernel
theorem dX8_brackets_23 : decode cX8_brackets 23 = .ok (.iadd, 1) := by decide +kernel
theorem dX8_brackets_24 : decode cX8_brackets 24 = .ok (.iaload, 1) := by decide +kernel
theorem dX8_brackets_25 : decode cX8_brackets 25 = .ok (.bipush 41, 2) := by decide +kernel
theorem dX8_brackets_27 : decode cX8_brackets 27 = .ok (.if_icmp .ne 7, 3) := by decide +kernel
theorem dX8_brackets_30 : decode cX8_brackets 30 = .ok (.iconst 1, 1) := by decide +kernel
theorem dX8_brackets_31 : decode cX8_brackets 31 = .ok (.goto 4, 3) := by decide +kernel
theorem dX8_brackets_34 : decode cX8_brackets 34 = .ok (.iconst 0, 1) := by decide +kernel
theorem dX8_brackets_35 : decode cX8_brackets 35 = .ok (.istore_n 3, 1) := by decide +kernel
theorem dX8_brackets_36 : decode cX8_brackets 36 = .ok (.aload_n 0, 1) := by decide +kernel
theorem dX8_brackets_37 : decode cX8_brackets 37 = .ok (.iload_n 3, 1) := by decide +kernel
theorem dX8_brackets_38 : decode cX8_brackets 38 = .ok (.ifCond .eq 9, 3) := by decide +kernel
theorem dX8_brackets_41 : decode cX8_brackets 41 = .ok (.iload_n 2, 1) := by decide +kernel
theorem dX8_brackets_42 : decode cX8_brackets 42 = .ok (.iconst 1, 1) := by decide +kernel
theorem dX8_brackets_43 : decode cX8_brackets 43 = .ok (.isub, 1) := by decide +kernel
theorem dX8_brackets_44 : decode cX8_brackets 44 = .ok (.goto 4, 3) := by decide +kernel
theorem dX8_brackets_47 : decode cX8_brackets 47 = .ok (.iload_n 2, 1) := by decide +kernel
theorem dX8_brackets_48 : decode cX8_brackets 48 = .ok (.iconst (-1), 1) := by decide +kernel
theorem dX8_brackets_49 : decode cX8_brackets 49 = .ok (.bipush 40, 2) := by decide +kernel
theorem dX8_brackets_51 : decode cX8_brackets 51 = .ok (.bipush 41, 2) := by decide +kernel
theorem dX8_brackets_53 : decode cX8_brackets 53 = .ok (.invokevirtual 133, 3) := by decide +kernel
theorem dX8_brackets_56 : decode cX8_brackets 56 = .ok (.istore 4, 2) := by decide +kernel
theorem dX8_brackets_58 : decode cX8_brackets 58 = .ok (.iload 4, 2) := by decide +kernel
theorem dX8_brackets_60 : decode cX8_brackets 60 = .ok (.bipush (-4), 2) := by decide +kernel
theorem dX8_brackets_62 : decode cX8_brackets 62 = .ok (.if_icmp .ne 8, 3) := by decide +kernel
theorem dX8_brackets_65 : decode cX8_brackets 65 = .ok (.bipush (-4), 2) := by decide +kernel
theorem dX8_brackets_67 : decode cX8_brackets 67 = .ok (.goto 16, 3) := by decide +kernel
theorem dX8_brackets_70 : decode cX8_brackets 70 = .ok (.aload_n 0, 1) := by decide +kernel
theorem dX8_brackets_71 : decode cX8_brackets 71 = .ok (.iload 4, 2) := by decide +kernel
theorem dX8_brackets_73 : decode cX8_brackets 73 = .ok (.iconst 1, 1) := by decide +kernel
theorem dX8_brackets_74 : decode cX8_brackets 74 = .ok (.iadd, 1) := by decide +kernel
theorem dX8_brackets_75 : decode cX8_brackets 75 = .ok (.iconst 1, 1) := by decide +kernel
theorem dX8_brackets_76 : decode cX8_brackets 76 = .ok (.bipush 41, 2) := by decide +kernel
theorem dX8_brackets_78 : decode cX8_brackets 78 = .ok (.bipush 40, 2) := by decide +kernel
theorem dX8_brackets_80 : decode cX8_brackets 80 = .ok (.invokevirtual 133, 3) := by decide +kernel
theorem dX8_brackets_83 : decode cX8_brackets 83 = .ok (.istore 5, 2) := by decide +kernel
theorem dX8_brackets_85 : decode cX8_brackets 85 = .ok (.iload 5, 2) := by decide +kernel
theorem dX8_brackets_87 : decode cX8_brackets 87 = .ok (.bipush (-4), 2) := by decide +kernel
theorem dX8_brackets_89 : decode cX8_brackets 89 = .ok (.if_icmp .ne 6, 3) := by decide +kernel
theorem dX8_brackets_92 : decode cX8_brackets 92 = .ok (.bipush (-2), 2) := by decide +kernel
theorem dX8_brackets_94 : decode cX8_brackets 94 = .ok (.ireturn, 1) := by decide +kernel
theorem dX8_brackets_95 : decode cX8_brackets 95 = .ok (.iload_n 1, 1) := by decide +kernel
theorem dX8_brackets_96 : decode cX8_brackets 96 = .ok (.ifCond .eq 16, 3) := by decide +kernel
theorem dX8_brackets_99 : decode cX8_brackets 99 = .ok (.aload_n 0, 1) := by decide +kernel
theorem dX8_brackets_100 : decode cX8_brackets 100 = .ok (.iload 4, 2) := by decide +kernel
theorem dX8_brackets_102 : decode cX8_brackets 102 = .ok (.iload 5, 2) := by decide +kernel
theorem dX8_brackets_104 : decode cX8_brackets 104 = .ok (.iconst 1, 1) := by decide +kernel
theorem dX8_brackets_105 : decode cX8_brackets 105 = .ok (.iadd, 1) := by decide +kernel
theorem dX8_brackets_106 : decode cX8_brackets 106 = .ok (.invokevirtual 113, 3) := by decide +kernel
theorem dX8_brackets_109 : decode cX8_brackets 109 = .ok (.goto 13, 3) := by decide +kernel
theorem dX8_brackets_112 : decode cX8_brackets 112 = .ok (.aload_n 0, 1) := by decide +kernel
theorem dX8_brackets_113 : decode cX8_brackets 113 = .ok (.iload 4, 2) := by decide +kernel
theorem dX8_brackets_115 : decode cX8_brackets 115 = .ok (.iconst 1, 1) := by decide +kernel
theorem dX8_brackets_116 : decode cX8_brackets 116 = .ok (.iadd, 1) := by decide +kernel
theorem dX8_brackets_117 : decode cX8_brackets 117 = .ok (.iload 5, 2) := by decide +kernel
theorem dX8_brackets_119 : decode cX8_brackets 119 = .ok (.invokevirtual 113, 3) := by decide +kernel
theorem dX8_brackets_122 : decode cX8_brackets 122 = .ok (.ireturn, 1) := by decide +kernel
theorem dX8_crosses_0 : decode cX8_crosses 0 = .ok (.aload_n 0, 1) := by decide +kernel
theorem dX8_crosses_1 : decode cX8_crosses 1 = .ok (.getfield 7, 3) := by decide +kernel
theorem dX8_crosses_4 : decode cX8_crosses 4 = .ok (.iconst 0, 1) := by decide +kernel
theorem dX8_crosses_5 : decode cX8_crosses 5 = .ok (.iaload, 1) := by decide +kernel
theorem dX8_crosses_6 : decode cX8_crosses 6 = .ok (.ifCond .ne 6, 3) := by decide +kernel
theorem dX8_crosses_9 : decode cX8_crosses 9 = .ok (.bipush (-2), 2) := by decide +kernel
theorem dX8_crosses_11 : decode cX8_crosses 11 = .ok (.ireturn, 1) := by decide +kernel
theorem dX8_crosses_12 : decode cX8_crosses 12 = .ok (.aload_n 0, 1) := by decide +kernel
theorem dX8_crosses_13 : decode cX8_crosses 13 = .ok (.getfield 7, 3) := by decide +kernel
theorem dX8_crosses_16 : decode cX8_crosses 16 = .ok (.bipush 61, 2) := by decide +kernel
theorem dX8_crosses_18 : decode cX8_crosses 18 = .ok (.iaload, 1) := by decide +kernel
theorem dX8_crosses_19 : decode cX8_crosses 19 = .ok (.istore_n 2, 1) := by decide +kernel
theorem dX8_crosses_20 : decode cX8_crosses 20 = .ok (.iload_n 2, 1) := by decide +kernel
theorem dX8_crosses_21 : decode cX8_crosses 21 = .ok (.iload_n 1, 1) := by decide +kernel
theorem dX8_crosses_22 : decode cX8_crosses 22 = .ok (.iadd, 1) := by decide +kernel
theorem dX8_crosses_23 : decode cX8_crosses 23 = .ok (.aload_n 0, 1) := by decide +kernel
theorem dX8_crosses_24 : decode cX8_crosses 24 = .ok (.getfield 7, 3) := by decide +kernel
theorem dX8_crosses_27 : decode cX8_crosses 27 = .ok (.iconst 0, 1) := by decide +kernel
theorem dX8_crosses_28 : decode cX8_crosses 28 = .ok (.iaload, 1) := by decide +kernel
theorem dX8_crosses_29 : decode cX8_crosses 29 = .ok (.invokestatic 94, 3) := by decide +kernel
theorem dX8_crosses_32 : decode cX8_crosses 32 = .ok (.istore_n 3, 1) := by decide +kernel
theorem dX8_crosses_33 : decode cX8_crosses 33 = .ok (.aload_n 0, 1) := by decide +kernel
theorem dX8_crosses_34 : decode cX8_crosses 34 = .ok (.iload_n 2, 1) := by decide +kernel
theorem dX8_crosses_35 : decode cX8_crosses 35 = .ok (.iload_n 3, 1) := by decide +kernel
theorem dX8_crosses_36 : decode cX8_crosses 36 = .ok (.invokevirtual 100, 3) := by decide +kernel
theorem dX8_crosses_39 : decode cX8_crosses 39 = .ok (.aload_n 0, 1) := by decide +kernel
theorem dX8_crosses_40 : decode cX8_crosses 40 = .ok (.iload_n 2, 1) := by decide +kernel
theorem dX8_crosses_41 : decode cX8_crosses 41 = .ok (.iload_n 3, 1) := by decide +kernel
theorem dX8_crosses_42 : decode cX8_crosses 42 = .ok (.invokevirtual 104, 3) := by decide +kernel
theorem dX8_crosses_45 : decode cX8_crosses 45 = .ok (.aload_n 0, 1) := by decide +kernel
theorem dX8_crosses_46 : decode cX8_crosses 46 = .ok (.getfield 7, 3) := by decide +kernel
theorem dX8_crosses_49 : decode cX8_crosses 49 = .ok (.bipush 61, 2) := by decide +kernel
theorem dX8_crosses_51 : decode cX8_crosses 51 = .ok (.iload_n 2, 1) := by decide +kernel
theorem dX8_crosses_52 : decode cX8_crosses 52 = .ok (.aload_n 0, 1) := by decide +kernel
theorem dX8_crosses_53 : decode cX8_crosses 53 = .ok (.invokevirtual 77, 3) := by decide +kernel
theorem dX8_crosses_56 : decode cX8_crosses 56 = .ok (.invokestatic 94, 3) := by decide +kernel
theorem dX8_crosses_59 : decode cX8_crosses 59 = .ok (.iastore, 1) := by decide +kernel
theorem dX8_crosses_60 : decode cX8_crosses 60 = .ok (.aload_n 0, 1) := by decide +kernel
theorem dX8_crosses_61 : decode cX8_crosses 61 = .ok (.invokevirtual 110, 3) := by decide +kernel
theorem dX8_crosses_64 : decode cX8_crosses 64 = .ok (.iconst 0, 1) := by decide +kernel
theorem dX8_crosses_65 : decode cX8_crosses 65 = .ok (.ireturn, 1) := by decide +kernel
theorem dX8_replaces_0 : decode cX8_replaces 0 = .ok (.aload_n 0, 1) := by decide +kernel
theorem dX8_replaces_1 : decode cX8_replaces 1 = .ok (.getfield 7, 3) := by decide +kernel
theorem dX8_replaces_4 : decode cX8_replaces 4 = .ok (.bipush 61, 2) := by decide +kernel
theorem dX8_replaces_6 : decode cX8_replaces 6 = .ok (.iaload, 1) := by decide +kernel
theorem dX8_replaces_7 : decode cX8_replaces 7 = .ok (.istore_n 3, 1) := by decide +kernel
theorem dX8_replaces_8 : decode cX8_replaces 8 = .ok (.iload_n 3, 1) := by decide +kernel
theorem dX8_replaces_9 : decode cX8_replaces 9 = .ok (.iload_n 2, 1) := by decide +kernel
theorem dX8_replaces_10 : decode cX8_replaces 10 = .ok (.iadd, 1) := by decide +kernel
theorem dX8_replaces_11 : decode cX8_replaces 11 = .ok (.aload_n 0, 1) := by decide +kernel
theorem dX8_replaces_12 : decode cX8_replaces 12 = .ok (.getfield 7, 3) := by decide +kernel
theorem dX8_replaces_15 : decode cX8_replaces 15 = .ok (.iconst 0, 1) := by decide +kernel
theorem dX8_replaces_16 : decode cX8_replaces 16 = .ok (.iaload, 1) := by decide +kernel
theorem dX8_replaces_17 : decode cX8_replaces 17 = .ok (.if_icmp .le 6, 3) := by decide +kernel
theorem dX8_replaces_20 : decode cX8_replaces 20 = .ok (.bipush (-2), 2) := by decide +kernel
theorem dX8_replaces_22 : decode cX8_replaces 22 = .ok (.ireturn, 1) := by decide +kernel
theorem dX8_replaces_23 : decode cX8_replaces 23 = .ok (.iload_n 3, 1) := by decide +kernel
theorem dX8_replaces_24 : decode cX8_replaces 24 = .ok (.istore 4, 2) := by decide +kernel
theorem dX8_replaces_26 : decode cX8_replaces 26 = .ok (.iload 4, 2) := by decide +kernel
theorem dX8_replaces_28 : decode cX8_replaces 28 = .ok (.iload_n 3, 1) := by decide +kernel
theorem dX8_replaces_29 : decode cX8_replaces 29 = .ok (.iload_n 2, 1) := by decide +kernel
theorem dX8_replaces_30 : decode cX8_replaces 30 = .ok (.iadd, 1) := by decide +kernel
theorem dX8_replaces_31 : decode cX8_replaces 31 = .ok (.if_icmp .ge 19, 3) := by decide +kernel
theorem dX8_replaces_34 : decode cX8_replaces 34 = .ok (.aload_n 0, 1) := by decide +kernel
theorem dX8_replaces_35 : decode cX8_replaces 35 = .ok (.getfield 7, 3) := by decide +kernel
theorem dX8_replaces_38 : decode cX8_replaces 38 = .ok (.iconst 1, 1) := by decide +kernel
theorem dX8_replaces_39 : decode cX8_replaces 39 = .ok (.iload 4, 2) := by decide +kernel
theorem dX8_replaces_41 : decode cX8_replaces 41 = .ok (.iadd, 1) := by decide +kernel
theorem dX8_replaces_42 : decode cX8_replaces 42 = .ok (.iload_n 1, 1) := by decide +kernel
theorem dX8_replaces_43 : decode cX8_replaces 43 = .ok (.iastore, 1) := by decide +kernel
theorem dX8_replaces_44 : decode cX8_replaces 44 = .ok (.iinc 4 1, 3) := by decide +kernel
theorem dX8_replaces_47 : decode cX8_replaces 47 = .ok (.goto (-21), 3) := by decide +kernel
theorem dX8_replaces_50 : decode cX8_replaces 50 = .ok (.aload_n 0, 1) := by decide +kernel
theorem dX8_replaces_51 : decode cX8_replaces 51 = .ok (.getfield 7, 3) := by decide +kernel
theorem dX8_replaces_54 : decode cX8_replaces 54 = .ok (.bipush 61, 2) := by decide +kernel
theorem dX8_replaces_56 : decode cX8_replaces 56 = .ok (.iload_n 3, 1) := by decide +kernel
theorem dX8_replaces_57 : decode cX8_replaces 57 = .ok (.iload_n 2, 1) := by decide +kernel
theorem dX8_replaces_58 : decode cX8_replaces 58 = .ok (.iadd, 1) := by decide +kernel
theorem dX8_replaces_59 : decode cX8_replaces 59 = .ok (.iconst 1, 1) := by decide +kernel
theorem dX8_replaces_60 : decode cX8_replaces 60 = .ok (.isub, 1) := by decide +kernel
theorem dX8_replaces_61 : decode cX8_replaces 61 = .ok (.iastore, 1) := by decide +kernel
theorem dX8_replaces_62 : decode cX8_replaces 62 = .ok (.aload_n 0, 1) := by decide +kernel
theorem dX8_replaces_63 : decode cX8_replaces 63 = .ok (.invokevirtual 110, 3) := by decide +kernel
theorem dX8_replaces_66 : decode cX8_replaces 66 = .ok (.iconst 0, 1) := by decide +kernel
theorem dX8_replaces_67 : decode cX8_replaces 67 = .ok (.ireturn, 1) := by decide +kernel
theorem dX8_turns_0 : decode cX8_turns 0 = .ok (.aload_n 0, 1) := by decide +kernel
theorem dX8_turns_1 : decode cX8_turns 1 = .ok (.getfield 7, 3) := by decide +kernel
theorem dX8_turns_4 : decode cX8_turns 4 = .ok (.iconst 0, 1) := by decide +kernel
theorem dX8_turns_5 : decode cX8_turns 5 = .ok (.iaload, 1) := by decide +kernel
theorem dX8_turns_6 : decode cX8_turns 6 = .ok (.ifCond .ne 6, 3) := by decide +kernel
theorem dX8_turns_9 : decode cX8_turns 9 = .ok (.bipush (-2), 2) := by decide +kernel
theorem dX8_turns_11 : decode cX8_turns 11 = .ok (.ireturn, 1) := by decide +kernel
theorem dX8_turns_12 : decode cX8_turns 12 = .ok (.aload_n 0, 1) := by decide +kernel
theorem dX8_turns_13 : decode cX8_turns 13 = .ok (.getfield 7, 3) := by decide +kernel
theorem dX8_turns_16 : decode cX8_turns 16 = .ok (.bipush 61, 2) := by decide +kernel
theorem dX8_turns_18 : decode cX8_turns 18 = .ok (.iaload, 1) := by decide +kernel
theorem dX8_turns_19 : decode cX8_turns 19 = .ok (.istore_n 2, 1) := by decide +kernel
theorem dX8_turns_20 : decode cX8_turns 20 = .ok (.iload_n 2, 1) := by decide +kernel
theorem dX8_turns_21 : decode cX8_turns 21 = .ok (.iload_n 1, 1) := by decide +kernel
theorem dX8_turns_22 : decode cX8_turns 22 = .ok (.iadd, 1) := by decide +kernel
theorem dX8_turns_23 : decode cX8_turns 23 = .ok (.aload_n 0, 1) := by decide +kernel
theorem dX8_turns_24 : decode cX8_turns 24 = .ok (.getfield 7, 3) := by decide +kernel
theorem dX8_turns_27 : decode cX8_turns 27 = .ok (.iconst 0, 1) := by decide +kernel
theorem dX8_turns_28 : decode cX8_turns 28 = .ok (.iaload, 1) := by decide +kernel
theorem dX8_turns_29 : decode cX8_turns 29 = .ok (.invokestatic 94, 3) := by decide +kernel
theorem dX8_turns_32 : decode cX8_turns 32 = .ok (.istore_n 3, 1) := by decide +kernel
theorem dX8_turns_33 : decode cX8_turns 33 = .ok (.iload_n 2, 1) := by decide +kernel
theorem dX8_turns_34 : decode cX8_turns 34 = .ok (.istore 4, 2) := by decide +kernel
theorem dX8_turns_36 : decode cX8_turns 36 = .ok (.iload 4, 2) := by decide +kernel
theorem dX8_turns_38 : decode cX8_turns 38 = .ok (.iload_n 3, 1) := by decide +kernel
theorem dX8_turns_39 : decode cX8_turns 39 = .ok (.if_icmp .ge 73, 3) := by decide +kernel
theorem dX8_turns_42 : decode cX8_turns 42 = .ok (.aload_n 0, 1) := by decide +kernel
theorem dX8_turns_43 : decode cX8_turns 43 = .ok (.getfield 7, 3) := by decide +kernel
theorem dX8_turns_46 : decode cX8_turns 46 = .ok (.iconst 1, 1) := by decide +kernel
theorem dX8_turns_47 : decode cX8_turns 47 = .ok (.iload 4, 2) := by decide +kernel
theorem dX8_turns_49 : decode cX8_turns 49 = .ok (.iadd, 1) := by decide +kernel
theorem dX8_turns_50 : decode cX8_turns 50 = .ok (.iaload, 1) := by decide +kernel
theorem dX8_turns_51 : decode cX8_turns 51 = .ok (.istore 5, 2) := by decide +kernel
theorem dX8_turns_53 : decode cX8_turns 53 = .ok (.aload_n 0, 1) := by decide +kernel
theorem dX8_turns_54 : decode cX8_turns 54 = .ok (.getfield 7, 3) := by decide +kernel
theorem dX8_turns_57 : decode cX8_turns 57 = .ok (.iconst 1, 1) := by decide +kernel
theorem dX8_turns_58 : decode cX8_turns 58 = .ok (.iload 4, 2) := by decide +kernel
theorem dX8_turns_60 : decode cX8_turns 60 = .ok (.iadd, 1) := by decide +kernel
theorem dX8_turns_61 : decode cX8_turns 61 = .ok (.dup2, 1) := by decide +kernel
theorem dX8_turns_62 : decode cX8_turns 62 = .ok (.iaload, 1) := by decide +kernel
theorem dX8_turns_63 : decode cX8_turns 63 = .ok (.iload 5, 2) := by decide +kernel
theorem dX8_turns_65 : decode cX8_turns 65 = .ok (.i2l, 1) := by decide +kernel
theorem dX8_turns_66 : decode cX8_turns 66 = .ok (.ldc2_w 54, 3) := by decide +kernel
theorem dX8_turns_69 : decode cX8_turns 69 = .ok (.ldc2_w 56, 3) := by decide +kernel
theorem dX8_turns_72 : decode cX8_turns 72 = .ok (.invokestatic 58, 3) := by decide +kernel
theorem dX8_turns_75 : decode cX8_turns 75 = .ok (.ifCond .eq 8, 3) := by decide +kernel
theorem dX8_turns_78 : decode cX8_turns 78 = .ok (.bipush (-32), 2) := by decide +kernel
theorem dX8_turns_80 : decode cX8_turns 80 = .ok (.goto 24, 3) := by decide +kernel
theorem dX8_turns_83 : decode cX8_turns 83 = .ok (.iload 5, 2) := by decide +kernel
theorem dX8_turns_85 : decode cX8_turns 85 = .ok (.i2l, 1) := by decide +kernel
theorem dX8_turns_86 : decode cX8_turns 86 = .ok (.ldc2_w 62, 3) := by decide +kernel
theorem dX8_turns_89 : decode cX8_turns 89 = .ok (.ldc2_w 64, 3) := by decide +kernel
theorem dX8_turns_92 : decode cX8_turns 92 = .ok (.invokestatic 58, 3) := by decide +kernel
theorem dX8_turns_95 : decode cX8_turns 95 = .ok (.ifCond .eq 8, 3) := by decide +kernel
theorem dX8_turns_98 : decode cX8_turns 98 = .ok (.bipush 32, 2) := by decide +kernel
theorem dX8_turns_100 : decode cX8_turns 100 = .ok (.goto 4, 3) := by decide +kernel
theorem dX8_turns_103 : decode cX8_turns 103 = .ok (.iconst 0, 1) := by decide +kernel
theorem dX8_turns_104 : decode cX8_turns 104 = .ok (.iadd, 1) := by decide +kernel
theorem dX8_turns_105 : decode cX8_turns 105 = .ok (.iastore, 1) := by decide +kernel
theorem dX8_turns_106 : decode cX8_turns 106 = .ok (.iinc 4 1, 3) := by decide +kernel
theorem dX8_turns_109 : decode cX8_turns 109 = .ok (.goto (-73), 3) := by decide +kernel
theorem dX8_turns_112 : decode cX8_turns 112 = .ok (.aload_n 0, 1) := by decide +kernel
theorem dX8_turns_113 : decode cX8_turns 113 = .ok (.getfield 7, 3) := by decide +kernel
theorem dX8_turns_116 : decode cX8_turns 116 = .ok (.bipush 61, 2) := by decide +kernel
theorem dX8_turns_118 : decode cX8_turns 118 = .ok (.iload_n 3, 1) := by decide +kernel
theorem dX8_turns_119 : decode cX8_turns 119 = .ok (.aload_n 0, 1) := by decide +kernel
theorem dX8_turns_120 : decode cX8_turns 120 = .ok (.invokevirtual 77, 3) := by decide +kernel
theorem dX8_turns_123 : decode cX8_turns 123 = .ok (.invokestatic 94, 3) := by decide +kernel
theorem dX8_turns_126 : decode cX8_turns 126 = .ok (.iastore, 1) := by decide +kernel
theorem dX8_turns_127 : decode cX8_turns 127 = .ok (.aload_n 0, 1) := by decide +kernel
theorem dX8_turns_128 : decode cX8_turns 128 = .ok (.invokevirtual 110, 3) := by decide +kernel
theorem dX8_turns_131 : decode cX8_turns 131 = .ok (.iconst 0, 1) := by decide +kernel
theorem dX8_turns_132 : decode cX8_turns 132 = .ok (.ireturn, 1) := by decide +kernel
theorem dX8_puts_0 : decode cX8_puts 0 = .ok (.iload_n 2, 1) := by decide +kernel
theorem dX8_puts_1 : decode cX8_puts 1 = .ok (.aload_n 0, 1) := by decide +kernel
theorem dX8_puts_2 : decode cX8_puts 2 = .ok (.getfield 7, 3) := by decide +kernel
theorem dX8_puts_5 : decode cX8_puts 5 = .ok (.bipush 63, 2) := by decide +kernel
theorem dX8_puts_7 : decode cX8_puts 7 = .ok (.iaload, 1) := by decide +kernel
theorem dX8_puts_8 : decode cX8_puts 8 = .ok (.imul, 1) := by decide +kernel
theorem dX8_puts_9 : decode cX8_puts 9 = .ok (.istore_n 3, 1) := by decide +kernel
theorem dX8_puts_10 : decode cX8_puts 10 = .ok (.iload_n 3, 1) := by decide +kernel
theorem dX8_puts_11 : decode cX8_puts 11 = .ok (.ifCond .eq 16, 3) := by decide +kernel
theorem dX8_puts_14 : decode cX8_puts 14 = .ok (.aload_n 0, 1) := by decide +kernel
theorem dX8_puts_15 : decode cX8_puts 15 = .ok (.getfield 7, 3) := by decide +kernel
theorem dX8_puts_18 : decode cX8_puts 18 = .ok (.iconst 0, 1) := by decide +kernel
theorem dX8_puts_19 : decode cX8_puts 19 = .ok (.iaload, 1) := by decide +kernel
theorem dX8_puts_20 : decode cX8_puts 20 = .ok (.iload_n 3, 1) := by decide +kernel
theorem dX8_puts_21 : decode cX8_puts 21 = .ok (.iadd, 1) := by decide +kernel
theorem dX8_puts_22 : decode cX8_puts 22 = .ok (.bipush 60, 2) := by decide +kernel
theorem dX8_puts_24 : decode cX8_puts 24 = .ok (.if_icmp .le 6, 3) := by decide +kernel
theorem dX8_puts_27 : decode cX8_puts 27 = .ok (.bipush (-2), 2) := by decide +kernel
theorem dX8_puts_29 : decode cX8_puts 29 = .ok (.ireturn, 1) := by decide +kernel
theorem dX8_puts_30 : decode cX8_puts 30 = .ok (.iload_n 1, 1) := by decide +kernel
theorem dX8_puts_31 : decode cX8_puts 31 = .ok (.ifCond .eq 24, 3) := by decide +kernel
theorem dX8_puts_34 : decode cX8_puts 34 = .ok (.aload_n 0, 1) := by decide +kernel
theorem dX8_puts_35 : decode cX8_puts 35 = .ok (.getfield 7, 3) := by decide +kernel
theorem dX8_puts_38 : decode cX8_puts 38 = .ok (.iconst 0, 1) := by decide +kernel
theorem dX8_puts_39 : decode cX8_puts 39 = .ok (.iaload, 1) := by decide +kernel
theorem dX8_puts_40 : decode cX8_puts 40 = .ok (.ifCond .le 15, 3) := by decide +kernel
theorem dX8_puts_43 : decode cX8_puts 43 = .ok (.aload_n 0, 1) := by decide +kernel
theorem dX8_puts_44 : decode cX8_puts 44 = .ok (.getfield 7, 3) := by decide +kernel
theorem dX8_puts_47 : decode cX8_puts 47 = .ok (.bipush 61, 2) := by decide +kernel
theorem dX8_puts_49 : decode cX8_puts 49 = .ok (.iaload, 1) := by decide +kernel
theorem dX8_puts_50 : decode cX8_puts 50 = .ok (.iconst 1, 1) := by decide +kernel
theorem dX8_puts_51 : decode cX8_puts 51 = .ok (.iadd, 1) := by decide +kernel
theorem dX8_puts_52 : decode cX8_puts 52 = .ok (.goto 10, 3) := by decide +kernel
theorem dX8_puts_55 : decode cX8_puts 55 = .ok (.aload_n 0, 1) := by decide +kernel
theorem dX8_puts_56 : decode cX8_puts 56 = .ok (.getfield 7, 3) := by decide +kernel
theorem dX8_puts_59 : decode cX8_puts 59 = .ok (.bipush 61, 2) := by decide +kernel
theorem dX8_puts_61 : decode cX8_puts 61 = .ok (.iaload, 1) := by decide +kernel
theorem dX8_puts_62 : decode cX8_puts 62 = .ok (.istore 4, 2) := by decide +kernel
theorem dX8_puts_64 : decode cX8_puts 64 = .ok (.aload_n 0, 1) := by decide +kernel
theorem dX8_puts_65 : decode cX8_puts 65 = .ok (.getfield 7, 3) := by decide +kernel
theorem dX8_puts_68 : decode cX8_puts 68 = .ok (.iconst 0, 1) := by decide +kernel
theorem dX8_puts_69 : decode cX8_puts 69 = .ok (.iaload, 1) := by decide +kernel
theorem dX8_puts_70 : decode cX8_puts 70 = .ok (.iconst 1, 1) := by decide +kernel
theorem dX8_puts_71 : decode cX8_puts 71 = .ok (.isub, 1) := by decide +kernel
theorem dX8_puts_72 : decode cX8_puts 72 = .ok (.istore 5, 2) := by decide +kernel
theorem dX8_puts_74 : decode cX8_puts 74 = .ok (.iload 5, 2) := by decide +kernel
theorem dX8_puts_76 : decode cX8_puts 76 = .ok (.iload 4, 2) := by decide +kernel
theorem dX8_puts_78 : decode cX8_puts 78 = .ok (.if_icmp .lt 29, 3) := by decide +kernel
theorem dX8_puts_81 : decode cX8_puts 81 = .ok (.aload_n 0, 1) := by decide +kernel
theorem dX8_puts_82 : decode cX8_puts 82 = .ok (.getfield 7, 3) := by decide +kernel
theorem dX8_puts_85 : decode cX8_puts 85 = .ok (.iconst 1, 1) := by decide +kernel
theorem dX8_puts_86 : decode cX8_puts 86 = .ok (.iload 5, 2) := by decide +kernel
theorem dX8_puts_88 : decode cX8_puts 88 = .ok (.iadd, 1) := by decide +kernel
theorem dX8_puts_89 : decode cX8_puts 89 = .ok (.iload_n 3, 1) := by decide +kernel
theorem dX8_puts_90 : decode cX8_puts 90 = .ok (.iadd, 1) := by decide +kernel
theorem dX8_puts_91 : decode cX8_puts 91 = .ok (.aload_n 0, 1) := by decide +kernel
theorem dX8_puts_92 : decode cX8_puts 92 = .ok (.getfield 7, 3) := by decide +kernel
theorem dX8_puts_95 : decode cX8_puts 95 = .ok (.iconst 1, 1) := by decide +kernel
theorem dX8_puts_96 : decode cX8_puts 96 = .ok (.iload 5, 2) := by decide +kernel
theorem dX8_puts_98 : decode cX8_puts 98 = .ok (.iadd, 1) := by decide +kernel
theorem dX8_puts_99 : decode cX8_puts 99 = .ok (.iaload, 1) := by decide +kernel
theorem dX8_puts_100 : decode cX8_puts 100 = .ok (.iastore, 1) := by decide +kernel
theorem dX8_puts_101 : decode cX8_puts 101 = .ok (.iinc 5 (-1), 3) := by decide +kernel
theorem dX8_puts_104 : decode cX8_puts 104 = .ok (.goto (-30), 3) := by decide +kernel
theorem dX8_puts_107 : decode cX8_puts 107 = .ok (.iconst 0, 1) := by decide +kernel
theorem dX8_puts_108 : decode cX8_puts 108 = .ok (.istore 5, 2) := by decide +kernel
theorem dX8_puts_110 : decode cX8_puts 110 = .ok (.iload 5, 2) := by decide +kernel
theorem dX8_puts_112 : decode cX8_puts 112 = .ok (.iload_n 3, 1) := by decide +kernel
theorem dX8_puts_113 : decode cX8_puts 113 = .ok (.if_icmp .ge 39, 3) := by decide +kernel
theorem dX8_puts_116 : decode cX8_puts 116 = .ok (.aload_n 0, 1) := by decide +kernel
theorem dX8_puts_117 : decode cX8_puts 117 = .ok (.getfield 7, 3) := by decide +kernel
theorem dX8_puts_120 : decode cX8_puts 120 = .ok (.iconst 1, 1) := by decide +kernel
theorem dX8_puts_121 : decode cX8_puts 121 = .ok (.iload 4, 2) := by decide +kernel
theorem dX8_puts_123 : decode cX8_puts 123 = .ok (.iadd, 1) := by decide +kernel
theorem dX8_puts_124 : decode cX8_puts 124 = .ok (.iload 5, 2) := by decide +kernel
theorem dX8_puts_126 : decode cX8_puts 126 = .ok (.iadd, 1) := by decide +kernel
theorem dX8_puts_127 : decode cX8_puts 127 = .ok (.aload_n 0, 1) := by decide +kernel
theorem dX8_puts_128 : decode cX8_puts 128 = .ok (.getfield 7, 3) := by decide +kernel
theorem dX8_puts_131 : decode cX8_puts 131 = .ok (.bipush 64, 2) := by decide +kernel
theorem dX8_puts_133 : decode cX8_puts 133 = .ok (.iload 5, 2) := by decide +kernel
theorem dX8_puts_135 : decode cX8_puts 135 = .ok (.aload_n 0, 1) := by decide +kernel
theorem dX8_puts_136 : decode cX8_puts 136 = .ok (.getfield 7, 3) := by decide +kernel
theorem dX8_puts_139 : decode cX8_puts 139 = .ok (.bipush 63, 2) := by decide +kernel
theorem dX8_puts_141 : decode cX8_puts 141 = .ok (.iaload, 1) := by decide +kernel
theorem dX8_puts_142 : decode cX8_puts 142 = .ok (.irem, 1) := by decide +kernel
theorem dX8_puts_143 : decode cX8_puts 143 = .ok (.iadd, 1) := by decide +kernel
theorem dX8_puts_144 : decode cX8_puts 144 = .ok (.iaload, 1) := by decide +kernel
theorem dX8_puts_145 : decode cX8_puts 145 = .ok (.iastore, 1) := by decide +kernel
theorem dX8_puts_146 : decode cX8_puts 146 = .ok (.iinc 5 1, 3) := by decide +kernel
theorem dX8_puts_149 : decode cX8_puts 149 = .ok (.goto (-39), 3) := by decide +kernel
theorem dX8_puts_152 : decode cX8_puts 152 = .ok (.aload_n 0, 1) := by decide +kernel
theorem dX8_puts_153 : decode cX8_puts 153 = .ok (.getfield 7, 3) := by decide +kernel
theorem dX8_puts_156 : decode cX8_puts 156 = .ok (.iconst 0, 1) := by decide +kernel
theorem dX8_puts_157 : decode cX8_puts 157 = .ok (.dup2, 1) := by decide +kernel
theorem dX8_puts_158 : decode cX8_puts 158 = .ok (.iaload, 1) := by decide +kernel
theorem dX8_puts_159 : decode cX8_puts 159 = .ok (.iload_n 3, 1) := by decide +kernel
theorem dX8_puts_160 : decode cX8_puts 160 = .ok (.iadd, 1) := by decide +kernel
theorem dX8_puts_161 : decode cX8_puts 161 = .ok (.iastore, 1) := by decide +kernel
theorem dX8_puts_162 : decode cX8_puts 162 = .ok (.aload_n 0, 1) := by decide +kernel
theorem dX8_puts_163 : decode cX8_puts 163 = .ok (.getfield 7, 3) := by decide +kernel
theorem dX8_puts_166 : decode cX8_puts 166 = .ok (.bipush 61, 2) := by decide +kernel
theorem dX8_puts_168 : decode cX8_puts 168 = .ok (.iload 4, 2) := by decide +kernel
theorem dX8_puts_170 : decode cX8_puts 170 = .ok (.iload_n 3, 1) := by decide +kernel
theorem dX8_puts_171 : decode cX8_puts 171 = .ok (.iadd, 1) := by decide +kernel
theorem dX8_puts_172 : decode cX8_puts 172 = .ok (.iconst 1, 1) := by decide +kernel
theorem dX8_puts_173 : decode cX8_puts 173 = .ok (.isub, 1) := by decide +kernel
theorem dX8_puts_174 : decode cX8_puts 174 = .ok (.iastore, 1) := by decide +kernel
theorem dX8_puts_175 : decode cX8_puts 175 = .ok (.aload_n 0, 1) := by decide +kernel
theorem dX8_puts_176 : decode cX8_puts 176 = .ok (.invokevirtual 110, 3) := by decide +kernel
theorem dX8_puts_179 : decode cX8_puts 179 = .ok (.iconst 0, 1) := by decide +kernel
theorem dX8_puts_180 : decode cX8_puts 180 = .ok (.ireturn, 1) := by decide +kernel
theorem dX8_motionOf_0 : decode cX8_motionOf 0 = .ok (.iload_n 1, 1) := by decide +kernel
theorem dX8_motionOf_1 : decode cX8_motionOf 1 = .ok (.bipush 104, 2) := by decide +kernel
theorem dX8_motionOf_3 : decode cX8_motionOf 3 = .ok (.if_icmp .ne 7, 3) := by decide +kernel
theorem dX8_motionOf_6 : decode cX8_motionOf 6 = .ok (.iconst 0, 1) := by decide +kernel
theorem dX8_motionOf_7 : decode cX8_motionOf 7 = .ok (.goto 66, 3) := by decide +kernel
theorem dX8_motionOf_10 : decode cX8_motionOf 10 = .ok (.iload_n 1, 1) := by decide +kernel
theorem dX8_motionOf_11 : decode cX8_motionOf 11 = .ok (.bipush 108, 2) := by decide +kernel
theorem dX8_motionOf_13 : decode cX8_motionOf 13 = .ok (.if_icmp .ne 7, 3) := by decide +kernel
theorem dX8_motionOf_16 : decode cX8_motionOf 16 = .ok (.iconst 1, 1) := by decide +kernel
theorem dX8_motionOf_17 : decode cX8_motionOf 17 = .ok (.goto 56, 3) := by decide +kernel
theorem dX8_motionOf_20 : decode cX8_motionOf 20 = .ok (.iload_n 1, 1) := by decide +kernel
theorem dX8_motionOf_21 : decode cX8_motionOf 21 = .ok (.bipush 48, 2) := by decide +kernel
theorem dX8_motionOf_23 : decode cX8_motionOf 23 = .ok (.if_icmp .ne 7, 3) := by decide +kernel
theorem dX8_motionOf_26 : decode cX8_motionOf 26 = .ok (.iconst 2, 1) := by decide +kernel
theorem dX8_motionOf_27 : decode cX8_motionOf 27 = .ok (.goto 46, 3) := by decide +kernel
theorem dX8_motionOf_30 : decode cX8_motionOf 30 = .ok (.iload_n 1, 1) := by decide +kernel
theorem dX8_motionOf_31 : decode cX8_motionOf 31 = .ok (.bipush 36, 2) := by decide +kernel
theorem dX8_motionOf_33 : decode cX8_motionOf 33 = .ok (.if_icmp .ne 7, 3) := by decide +kernel
theorem dX8_motionOf_36 : decode cX8_motionOf 36 = .ok (.iconst 3, 1) := by decide +kernel
theorem dX8_motionOf_37 : decode cX8_motionOf 37 = .ok (.goto 36, 3) := by decide +kernel
theorem dX8_motionOf_40 : decode cX8_motionOf 40 = .ok (.iload_n 1, 1) := by decide +kernel
theorem dX8_motionOf_41 : decode cX8_motionOf 41 = .ok (.bipush 119, 2) := by decide +kernel
theorem dX8_motionOf_43 : decode cX8_motionOf 43 = .ok (.if_icmp .ne 7, 3) := by decide +kernel
theorem dX8_motionOf_46 : decode cX8_motionOf 46 = .ok (.iconst 4, 1) := by decide +kernel
theorem dX8_motionOf_47 : decode cX8_motionOf 47 = .ok (.goto 26, 3) := by decide +kernel
theorem dX8_motionOf_50 : decode cX8_motionOf 50 = .ok (.iload_n 1, 1) := by decide +kernel
theorem dX8_motionOf_51 : decode cX8_motionOf 51 = .ok (.bipush 98, 2) := by decide +kernel
theorem dX8_motionOf_53 : decode cX8_motionOf 53 = .ok (.if_icmp .ne 7, 3) := by decide +kernel
theorem dX8_motionOf_56 : decode cX8_motionOf 56 = .ok (.iconst 5, 1) := by decide +kernel
theorem dX8_motionOf_57 : decode cX8_motionOf 57 = .ok (.goto 16, 3) := by decide +kernel
theorem dX8_motionOf_60 : decode cX8_motionOf 60 = .ok (.iload_n 1, 1) := by decide +kernel
theorem dX8_motionOf_61 : decode cX8_motionOf 61 = .ok (.bipush 101, 2) := by decide +kernel
theorem dX8_motionOf_63 : decode cX8_motionOf 63 = .ok (.if_icmp .ne 8, 3) := by decide +kernel
theorem dX8_motionOf_66 : decode cX8_motionOf 66 = .ok (.bipush 6, 2) := by decide +kernel
theorem dX8_motionOf_68 : decode cX8_motionOf 68 = .ok (.goto 5, 3) := by decide +kernel
theorem dX8_motionOf_71 : decode cX8_motionOf 71 = .ok (.bipush (-4), 2) := by decide +kernel
theorem dX8_motionOf_73 : decode cX8_motionOf 73 = .ok (.ireturn, 1) := by decide +kernel
theorem dX8_waited_0 : decode cX8_waited 0 = .ok (.aload_n 0, 1) := by decide +kernel
theorem dX8_waited_1 : decode cX8_waited 1 = .ok (.getfield 7, 3) := by decide +kernel
theorem dX8_waited_4 : decode cX8_waited 4 = .ok (.sipush 193, 3) := by decide +kernel
theorem dX8_waited_7 : decode cX8_waited 7 = .ok (.iaload, 1) := by decide +kernel
theorem dX8_waited_8 : decode cX8_waited 8 = .ok (.lookupswitch 220 #[(39, 99), (102, 52), (109, 182), (114, 172), (116, 52)], 52) := by decide +kernel
theorem dX8_waited_60 : decode cX8_waited 60 = .ok (.aload_n 0, 1) := by decide +kernel
theorem dX8_waited_61 : decode cX8_waited 61 = .ok (.iload_n 1, 1) := by decide +kernel
theorem dX8_waited_62 : decode cX8_waited 62 = .ok (.aload_n 0, 1) := by decide +kernel
theorem dX8_waited_63 : decode cX8_waited 63 = .ok (.invokevirtual 116, 3) := by decide +kernel
theorem dX8_waited_66 : decode cX8_waited 66 = .ok (.invokevirtual 137, 3) := by decide +kernel
theorem dX8_waited_69 : decode cX8_waited 69 = .ok (.istore_n 2, 1) := by decide +kernel
theorem dX8_waited_70 : decode cX8_waited 70 = .ok (.iload_n 2, 1) := by decide +kernel
theorem dX8_waited_71 : decode cX8_waited 71 = .ok (.bipush (-4), 2) := by decide +kernel
theorem dX8_waited_73 : decode cX8_waited 73 = .ok (.if_icmp .ne 8, 3) := by decide +kernel
theorem dX8_waited_76 : decode cX8_waited 76 = .ok (.bipush (-2), 2) := by decide +kernel
theorem dX8_waited_78 : decode cX8_waited 78 = .ok (.goto 28, 3) := by decide +kernel
theorem dX8_waited_81 : decode cX8_waited 81 = .ok (.aload_n 0, 1) := by decide +kernel
theorem dX8_waited_82 : decode cX8_waited 82 = .ok (.aload_n 0, 1) := by decide +kernel
theorem dX8_waited_83 : decode cX8_waited 83 = .ok (.getfield 7, 3) := by decide +kernel
theorem dX8_waited_86 : decode cX8_waited 86 = .ok (.sipush 193, 3) := by decide +kernel
theorem dX8_waited_89 : decode cX8_waited 89 = .ok (.iaload, 1) := by decide +kernel
theorem dX8_waited_90 : decode cX8_waited 90 = .ok (.bipush 102, 2) := by decide +kernel
theorem dX8_waited_92 : decode cX8_waited 92 = .ok (.if_icmp .ne 7, 3) := by decide +kernel
theorem dX8_waited_95 : decode cX8_waited 95 = .ok (.iload_n 2, 1) := by decide +kernel
theorem dX8_waited_96 : decode cX8_waited 96 = .ok (.goto 6, 3) := by decide +kernel
theorem dX8_waited_99 : decode cX8_waited 99 = .ok (.iload_n 2, 1) := by decide +kernel
theorem dX8_waited_100 : decode cX8_waited 100 = .ok (.iconst 1, 1) := by decide +kernel
theorem dX8_waited_101 : decode cX8_waited 101 = .ok (.isub, 1) := by decide +kernel
theorem dX8_waited_102 : decode cX8_waited 102 = .ok (.iconst 1, 1) := by decide +kernel
theorem dX8_waited_103 : decode cX8_waited 103 = .ok (.invokevirtual 122, 3) := by decide +kernel
theorem dX8_waited_106 : decode cX8_waited 106 = .ok (.ireturn, 1) := by decide +kernel
theorem dX8_waited_107 : decode cX8_waited 107 = .ok (.iload_n 1, 1) := by decide +kernel
theorem dX8_waited_108 : decode cX8_waited 108 = .ok (.i2l, 1) := by decide +kernel
theorem dX8_waited_109 : decode cX8_waited 109 = .ok (.ldc2_w 54, 3) := by decide +kernel
theorem dX8_waited_112 : decode cX8_waited 112 = .ok (.ldc2_w 140, 3) := by decide +kernel
theorem dX8_waited_115 : decode cX8_waited 115 = .ok (.invokestatic 58, 3) := by decide +kernel
theorem dX8_waited_118 : decode cX8_waited 118 = .ok (.ifCond .eq 24, 3) := by decide +kernel
theorem dX8_waited_121 : decode cX8_waited 121 = .ok (.aload_n 0, 1) := by decide +kernel
theorem dX8_waited_122 : decode cX8_waited 122 = .ok (.getfield 7, 3) := by decide +kernel
theorem dX8_waited_125 : decode cX8_waited 125 = .ok (.bipush 124, 2) := by decide +kernel
theorem dX8_waited_127 : decode cX8_waited 127 = .ok (.iload_n 1, 1) := by decide +kernel
theorem dX8_waited_128 : decode cX8_waited 128 = .ok (.iadd, 1) := by decide +kernel
theorem dX8_waited_129 : decode cX8_waited 129 = .ok (.bipush 97, 2) := by decide +kernel
theorem dX8_waited_131 : decode cX8_waited 131 = .ok (.isub, 1) := by decide +kernel
theorem dX8_waited_132 : decode cX8_waited 132 = .ok (.iaload, 1) := by decide +kernel
theorem dX8_waited_133 : decode cX8_waited 133 = .ok (.bipush (-4), 2) := by decide +kernel
theorem dX8_waited_135 : decode cX8_waited 135 = .ok (.if_icmp .eq 7, 3) := by decide +kernel
theorem dX8_waited_138 : decode cX8_waited 138 = .ok (.iconst 1, 1) := by decide +kernel
theorem dX8_waited_139 : decode cX8_waited 139 = .ok (.goto 4, 3) := by decide +kernel
theorem dX8_waited_142 : decode cX8_waited 142 = .ok (.iconst 0, 1) := by decide +kernel
theorem dX8_waited_143 : decode cX8_waited 143 = .ok (.istore_n 3, 1) := by decide +kernel
theorem dX8_waited_144 : decode cX8_waited 144 = .ok (.iload_n 3, 1) := by decide +kernel
theorem dX8_waited_145 : decode cX8_waited 145 = .ok (.ifCond .eq 32, 3) := by decide +kernel
theorem dX8_waited_148 : decode cX8_waited 148 = .ok (.aload_n 0, 1) := by decide +kernel
theorem dX8_waited_149 : decode cX8_waited 149 = .ok (.aload_n 0, 1) := by decide +kernel
theorem dX8_waited_150 : decode cX8_waited 150 = .ok (.getfield 7, 3) := by decide +kernel
theorem dX8_waited_153 : decode cX8_waited 153 = .ok (.bipush 124, 2) := by decide +kernel
theorem dX8_waited_155 : decode cX8_waited 155 = .ok (.iload_n 1, 1) := by decide +kernel
theorem dX8_waited_156 : decode cX8_waited 156 = .ok (.iadd, 1) := by decide +kernel
theorem dX8_waited_157 : decode cX8_waited 157 = .ok (.bipush 97, 2) := by decide +kernel
theorem dX8_waited_159 : decode cX8_waited 159 = .ok (.isub, 1) := by decide +kernel
theorem dX8_waited_160 : decode cX8_waited 160 = .ok (.iaload, 1) := by decide +kernel
theorem dX8_waited_161 : decode cX8_waited 161 = .ok (.aload_n 0, 1) := by decide +kernel
theorem dX8_waited_162 : decode cX8_waited 162 = .ok (.getfield 7, 3) := by decide +kernel
theorem dX8_waited_165 : decode cX8_waited 165 = .ok (.iconst 0, 1) := by decide +kernel
theorem dX8_waited_166 : decode cX8_waited 166 = .ok (.iaload, 1) := by decide +kernel
theorem dX8_waited_167 : decode cX8_waited 167 = .ok (.invokestatic 94, 3) := by decide +kernel
theorem dX8_waited_170 : decode cX8_waited 170 = .ok (.iconst 0, 1) := by decide +kernel
theorem dX8_waited_171 : decode cX8_waited 171 = .ok (.invokevirtual 122, 3) := by decide +kernel
theorem dX8_waited_174 : decode cX8_waited 174 = .ok (.goto 5, 3) := by decide +kernel
theorem dX8_waited_177 : decode cX8_waited 177 = .ok (.bipush (-2), 2) := by decide +kernel
theorem dX8_waited_179 : decode cX8_waited 179 = .ok (.ireturn, 1) := by decide +kernel
theorem dX8_waited_180 : decode cX8_waited 180 = .ok (.aload_n 0, 1) := by decide +kernel
theorem dX8_waited_181 : decode cX8_waited 181 = .ok (.iload_n 1, 1) := by decide +kernel
theorem dX8_waited_182 : decode cX8_waited 182 = .ok (.aload_n 0, 1) := by decide +kernel
theorem dX8_waited_183 : decode cX8_waited 183 = .ok (.invokevirtual 116, 3) := by decide +kernel
theorem dX8_waited_186 : decode cX8_waited 186 = .ok (.invokevirtual 142, 3) := by decide +kernel
theorem dX8_waited_189 : decode cX8_waited 189 = .ok (.ireturn, 1) := by decide +kernel
theorem dX8_waited_190 : decode cX8_waited 190 = .ok (.iload_n 1, 1) := by decide +kernel
theorem dX8_waited_191 : decode cX8_waited 191 = .ok (.i2l, 1) := by decide +kernel
theorem dX8_waited_192 : decode cX8_waited 192 = .ok (.ldc2_w 54, 3) := by decide +kernel
theorem dX8_waited_195 : decode cX8_waited 195 = .ok (.ldc2_w 140, 3) := by decide +kernel
theorem dX8_waited_198 : decode cX8_waited 198 = .ok (.invokestatic 58, 3) := by decide +kernel
theorem dX8_waited_201 : decode cX8_waited 201 = .ok (.ifCond .ne 6, 3) := by decide +kernel
theorem dX8_waited_204 : decode cX8_waited 204 = .ok (.bipush (-2), 2) := by decide +kernel
theorem dX8_waited_206 : decode cX8_waited 206 = .ok (.ireturn, 1) := by decide +kernel
theorem dX8_waited_207 : decode cX8_waited 207 = .ok (.aload_n 0, 1) := by decide +kernel
theorem dX8_waited_208 : decode cX8_waited 208 = .ok (.getfield 7, 3) := by decide +kernel
theorem dX8_waited_211 : decode cX8_waited 211 = .ok (.bipush 124, 2) := by decide +kernel
theorem dX8_waited_213 : decode cX8_waited 213 = .ok (.iload_n 1, 1) := by decide +kernel
theorem dX8_waited_214 : decode cX8_waited 214 = .ok (.iadd, 1) := by decide +kernel
theorem dX8_waited_215 : decode cX8_waited 215 = .ok (.bipush 97, 2) := by decide +kernel
theorem dX8_waited_217 : decode cX8_waited 217 = .ok (.isub, 1) := by decide +kernel
theorem dX8_waited_218 : decode cX8_waited 218 = .ok (.aload_n 0, 1) := by decide +kernel
theorem dX8_waited_219 : decode cX8_waited 219 = .ok (.getfield 7, 3) := by decide +kernel
theorem dX8_waited_222 : decode cX8_waited 222 = .ok (.bipush 61, 2) := by decide +kernel
theorem dX8_waited_224 : decode cX8_waited 224 = .ok (.iaload, 1) := by decide +kernel
theorem dX8_waited_225 : decode cX8_waited 225 = .ok (.iastore, 1) := by decide +kernel
theorem dX8_waited_226 : decode cX8_waited 226 = .ok (.iconst 0, 1) := by decide +kernel
theorem dX8_waited_227 : decode cX8_waited 227 = .ok (.ireturn, 1) := by decide +kernel
theorem dX8_waited_228 : decode cX8_waited 228 = .ok (.aload_n 0, 1) := by decide +kernel
theorem dX8_waited_229 : decode cX8_waited 229 = .ok (.aload_n 0, 1) := by decide +kernel
theorem dX8_waited_230 : decode cX8_waited 230 = .ok (.getfield 7, 3) := by decide +kernel
theorem dX8_waited_233 : decode cX8_waited 233 = .ok (.sipush 193, 3) := by decide +kernel
theorem dX8_waited_236 : decode cX8_waited 236 = .ok (.iaload, 1) := by decide +kernel
theorem dX8_waited_237 : decode cX8_waited 237 = .ok (.bipush 97, 2) := by decide +kernel
theorem dX8_waited_239 : decode cX8_waited 239 = .ok (.if_icmp .ne 7, 3) := by decide +kernel
theorem dX8_waited_242 : decode cX8_waited 242 = .ok (.iconst 1, 1) := by decide +kernel
theorem dX8_waited_243 : decode cX8_waited 243 = .ok (.goto 4, 3) := by decide +kernel
theorem dX8_waited_246 : decode cX8_waited 246 = .ok (.iconst 0, 1) := by decide +kernel
theorem dX8_waited_247 : decode cX8_waited 247 = .ok (.iload_n 1, 1) := by decide +kernel
theorem dX8_waited_248 : decode cX8_waited 248 = .ok (.invokevirtual 145, 3) := by decide +kernel
theorem dX8_waited_251 : decode cX8_waited 251 = .ok (.ireturn, 1) := by decide +kernel
theorem dX8_waits_0 : decode cX8_waits 0 = .ok (.aload_n 0, 1) := by decide +kernel
theorem dX8_waits_1 : decode cX8_waits 1 = .ok (.getfield 7, 3) := by decide +kernel
theorem dX8_waits_4 : decode cX8_waits 4 = .ok (.sipush 193, 3) := by decide +kernel
theorem dX8_waits_7 : decode cX8_waits 7 = .ok (.iload_n 1, 1) := by decide +kernel
theorem dX8_waits_8 : decode cX8_waits 8 = .ok (.iastore, 1) := by decide +kernel
theorem dX8_waits_9 : decode cX8_waits 9 = .ok (.iconst 1, 1) := by decide +kernel
theorem dX8_waits_10 : decode cX8_waits 10 = .ok (.ireturn, 1) := by decide +kernel
end
section
theorem dX8_deed_0 : decode cX8_deed 0 = .ok (.aload_n 0, 1) := by decide +kernel
theorem dX8_deed_1 : decode cX8_deed 1 = .ok (.getfield 7, 3) := by decide +kernel
theorem dX8_deed_4 : decode cX8_deed 4 = .ok (.bipush 61, 2) := by decide +kernel
theorem dX8_deed_6 : decode cX8_deed 6 = .ok (.iaload, 1) := by decide +kernel
theorem dX8_deed_7 : decode cX8_deed 7 = .ok (.istore_n 2, 1) := by decide +kernel
theorem dX8_deed_8 : decode cX8_deed 8 = .ok (.iload_n 1, 1) := by decide +kernel
theorem dX8_deed_9 : decode cX8_deed 9 = .ok (.lookupswitch 266 #[(46, 233), (65, 213), (73, 207), (80, 170), (97, 186), (99, 131), (100, 131), (105, 180), (109, 260), (112, 160), (114, 260), (117, 224), (120, 142), (121, 131), (126, 151)], 131) := by decide +kernel
theorem dX8_deed_140 : decode cX8_deed 140 = .ok (.aload_n 0, 1) := by decide +kernel
theorem dX8_deed_141 : decode cX8_deed 141 = .ok (.getfield 7, 3) := by decide +kernel
theorem dX8_deed_144 : decode cX8_deed 144 = .ok (.sipush 190, 3) := by decide +kernel
theorem dX8_deed_147 : decode cX8_deed 147 = .ok (.iload_n 1, 1) := by decide +kernel
theorem dX8_deed_148 : decode cX8_deed 148 = .ok (.iastore, 1) := by decide +kernel
theorem dX8_deed_149 : decode cX8_deed 149 = .ok (.iconst 1, 1) := by decide +kernel
theorem dX8_deed_150 : decode cX8_deed 150 = .ok (.ireturn, 1) := by decide +kernel
theorem dX8_deed_151 : decode cX8_deed 151 = .ok (.aload_n 0, 1) := by decide +kernel
theorem dX8_deed_152 : decode cX8_deed 152 = .ok (.aload_n 0, 1) := by decide +kernel
theorem dX8_deed_153 : decode cX8_deed 153 = .ok (.invokevirtual 116, 3) := by decide +kernel
theorem dX8_deed_156 : decode cX8_deed 156 = .ok (.invokevirtual 149, 3) := by decide +kernel
theorem dX8_deed_159 : decode cX8_deed 159 = .ok (.ireturn, 1) := by decide +kernel
theorem dX8_deed_160 : decode cX8_deed 160 = .ok (.aload_n 0, 1) := by decide +kernel
theorem dX8_deed_161 : decode cX8_deed 161 = .ok (.aload_n 0, 1) := by decide +kernel
theorem dX8_deed_162 : decode cX8_deed 162 = .ok (.invokevirtual 116, 3) := by decide +kernel
theorem dX8_deed_165 : decode cX8_deed 165 = .ok (.invokevirtual 152, 3) := by decide +kernel
theorem dX8_deed_168 : decode cX8_deed 168 = .ok (.ireturn, 1) := by decide +kernel
theorem dX8_deed_169 : decode cX8_deed 169 = .ok (.aload_n 0, 1) := by decide +kernel
theorem dX8_deed_170 : decode cX8_deed 170 = .ok (.iconst 1, 1) := by decide +kernel
theorem dX8_deed_171 : decode cX8_deed 171 = .ok (.aload_n 0, 1) := by decide +kernel
theorem dX8_deed_172 : decode cX8_deed 172 = .ok (.invokevirtual 116, 3) := by decide +kernel
theorem dX8_deed_175 : decode cX8_deed 175 = .ok (.invokevirtual 155, 3) := by decide +kernel
theorem dX8_deed_178 : decode cX8_deed 178 = .ok (.ireturn, 1) := by decide +kernel
theorem dX8_deed_179 : decode cX8_deed 179 = .ok (.aload_n 0, 1) := by decide +kernel
theorem dX8_deed_180 : decode cX8_deed 180 = .ok (.iconst 0, 1) := by decide +kernel
theorem dX8_deed_181 : decode cX8_deed 181 = .ok (.aload_n 0, 1) := by decide +kernel
theorem dX8_deed_182 : decode cX8_deed 182 = .ok (.invokevirtual 116, 3) := by decide +kernel
theorem dX8_deed_185 : decode cX8_deed 185 = .ok (.invokevirtual 155, 3) := by decide +kernel
theorem dX8_deed_188 : decode cX8_deed 188 = .ok (.ireturn, 1) := by decide +kernel
theorem dX8_deed_189 : decode cX8_deed 189 = .ok (.aload_n 0, 1) := by decide +kernel
theorem dX8_deed_190 : decode cX8_deed 190 = .ok (.iload_n 2, 1) := by decide +kernel
theorem dX8_deed_191 : decode cX8_deed 191 = .ok (.invokevirtual 107, 3) := by decide +kernel
theorem dX8_deed_194 : decode cX8_deed 194 = .ok (.ireturn, 1) := by decide +kernel
theorem dX8_deed_195 : decode cX8_deed 195 = .ok (.aload_n 0, 1) := by decide +kernel
theorem dX8_deed_196 : decode cX8_deed 196 = .ok (.aload_n 0, 1) := by decide +kernel
theorem dX8_deed_197 : decode cX8_deed 197 = .ok (.getfield 7, 3) := by decide +kernel
theorem dX8_deed_200 : decode cX8_deed 200 = .ok (.iconst 0, 1) := by decide +kernel
theorem dX8_deed_201 : decode cX8_deed 201 = .ok (.iaload, 1) := by decide +kernel
theorem dX8_deed_202 : decode cX8_deed 202 = .ok (.ifCond .ne 7, 3) := by decide +kernel
theorem dX8_deed_205 : decode cX8_deed 205 = .ok (.iconst 0, 1) := by decide +kernel
theorem dX8_deed_206 : decode cX8_deed 206 = .ok (.goto 6, 3) := by decide +kernel
theorem dX8_deed_209 : decode cX8_deed 209 = .ok (.iload_n 2, 1) := by decide +kernel
theorem dX8_deed_210 : decode cX8_deed 210 = .ok (.iconst 1, 1) := by decide +kernel
theorem dX8_deed_211 : decode cX8_deed 211 = .ok (.iadd, 1) := by decide +kernel
theorem dX8_deed_212 : decode cX8_deed 212 = .ok (.invokevirtual 107, 3) := by decide +kernel
theorem dX8_deed_215 : decode cX8_deed 215 = .ok (.ireturn, 1) := by decide +kernel
theorem dX8_deed_216 : decode cX8_deed 216 = .ok (.aload_n 0, 1) := by decide +kernel
theorem dX8_deed_217 : decode cX8_deed 217 = .ok (.iconst 0, 1) := by decide +kernel
theorem dX8_deed_218 : decode cX8_deed 218 = .ok (.invokevirtual 107, 3) := by decide +kernel
theorem dX8_deed_221 : decode cX8_deed 221 = .ok (.ireturn, 1) := by decide +kernel
theorem dX8_deed_222 : decode cX8_deed 222 = .ok (.aload_n 0, 1) := by decide +kernel
theorem dX8_deed_223 : decode cX8_deed 223 = .ok (.aload_n 0, 1) := by decide +kernel
theorem dX8_deed_224 : decode cX8_deed 224 = .ok (.getfield 7, 3) := by decide +kernel
theorem dX8_deed_227 : decode cX8_deed 227 = .ok (.iconst 0, 1) := by decide +kernel
theorem dX8_deed_228 : decode cX8_deed 228 = .ok (.iaload, 1) := by decide +kernel
theorem dX8_deed_229 : decode cX8_deed 229 = .ok (.invokevirtual 107, 3) := by decide +kernel
theorem dX8_deed_232 : decode cX8_deed 232 = .ok (.ireturn, 1) := by decide +kernel
theorem dX8_deed_233 : decode cX8_deed 233 = .ok (.aload_n 0, 1) := by decide +kernel
theorem dX8_deed_234 : decode cX8_deed 234 = .ok (.aload_n 0, 1) := by decide +kernel
theorem dX8_deed_235 : decode cX8_deed 235 = .ok (.invokevirtual 116, 3) := by decide +kernel
theorem dX8_deed_238 : decode cX8_deed 238 = .ok (.invokevirtual 158, 3) := by decide +kernel
theorem dX8_deed_241 : decode cX8_deed 241 = .ok (.ireturn, 1) := by decide +kernel
theorem dX8_deed_242 : decode cX8_deed 242 = .ok (.aload_n 0, 1) := by decide +kernel
theorem dX8_deed_243 : decode cX8_deed 243 = .ok (.getfield 7, 3) := by decide +kernel
theorem dX8_deed_246 : decode cX8_deed 246 = .ok (.sipush 128, 3) := by decide +kernel
theorem dX8_deed_249 : decode cX8_deed 249 = .ok (.iaload, 1) := by decide +kernel
theorem dX8_deed_250 : decode cX8_deed 250 = .ok (.i2l, 1) := by decide +kernel
theorem dX8_deed_251 : decode cX8_deed 251 = .ok (.lconst 1, 1) := by decide +kernel
theorem dX8_deed_252 : decode cX8_deed 252 = .ok (.ldc2_w 161, 3) := by decide +kernel
theorem dX8_deed_255 : decode cX8_deed 255 = .ok (.invokestatic 58, 3) := by decide +kernel
theorem dX8_deed_258 : decode cX8_deed 258 = .ok (.ifCond .eq 8, 3) := by decide +kernel
theorem dX8_deed_261 : decode cX8_deed 261 = .ok (.bipush 9, 2) := by decide +kernel
theorem dX8_deed_263 : decode cX8_deed 263 = .ok (.goto 5, 3) := by decide +kernel
theorem dX8_deed_266 : decode cX8_deed 266 = .ok (.bipush (-2), 2) := by decide +kernel
theorem dX8_deed_268 : decode cX8_deed 268 = .ok (.ireturn, 1) := by decide +kernel
theorem dX8_deed_269 : decode cX8_deed 269 = .ok (.aload_n 0, 1) := by decide +kernel
theorem dX8_deed_270 : decode cX8_deed 270 = .ok (.iload_n 1, 1) := by decide +kernel
theorem dX8_deed_271 : decode cX8_deed 271 = .ok (.invokevirtual 163, 3) := by decide +kernel
theorem dX8_deed_274 : decode cX8_deed 274 = .ok (.ireturn, 1) := by decide +kernel
theorem dX8_deed_275 : decode cX8_deed 275 = .ok (.bipush (-2), 2) := by decide +kernel
theorem dX8_deed_277 : decode cX8_deed 277 = .ok (.ireturn, 1) := by decide +kernel
theorem dX8_commands_0 : decode cX8_commands 0 = .ok (.aload_n 0, 1) := by decide +kernel
theorem dX8_commands_1 : decode cX8_commands 1 = .ok (.getfield 7, 3) := by decide +kernel
theorem dX8_commands_4 : decode cX8_commands 4 = .ok (.sipush 193, 3) := by decide +kernel
theorem dX8_commands_7 : decode cX8_commands 7 = .ok (.iaload, 1) := by decide +kernel
theorem dX8_commands_8 : decode cX8_commands 8 = .ok (.ifCond .eq 9, 3) := by decide +kernel
theorem dX8_commands_11 : decode cX8_commands 11 = .ok (.aload_n 0, 1) := by decide +kernel
theorem dX8_commands_12 : decode cX8_commands 12 = .ok (.iload_n 1, 1) := by decide +kernel
theorem dX8_commands_13 : decode cX8_commands 13 = .ok (.invokevirtual 166, 3) := by decide +kernel
theorem dX8_commands_16 : decode cX8_commands 16 = .ok (.ireturn, 1) := by decide +kernel
theorem dX8_commands_17 : decode cX8_commands 17 = .ok (.aload_n 0, 1) := by decide +kernel
theorem dX8_commands_18 : decode cX8_commands 18 = .ok (.getfield 7, 3) := by decide +kernel
theorem dX8_commands_21 : decode cX8_commands 21 = .ok (.sipush 190, 3) := by decide +kernel
theorem dX8_commands_24 : decode cX8_commands 24 = .ok (.iaload, 1) := by decide +kernel
theorem dX8_commands_25 : decode cX8_commands 25 = .ok (.ifCond .ne 9, 3) := by decide +kernel
theorem dX8_commands_28 : decode cX8_commands 28 = .ok (.sipush 191, 3) := by decide +kernel
theorem dX8_commands_31 : decode cX8_commands 31 = .ok (.goto 6, 3) := by decide +kernel
theorem dX8_commands_34 : decode cX8_commands 34 = .ok (.sipush 192, 3) := by decide +kernel
theorem dX8_commands_37 : decode cX8_commands 37 = .ok (.istore_n 2, 1) := by decide +kernel
theorem dX8_commands_38 : decode cX8_commands 38 = .ok (.iload_n 1, 1) := by decide +kernel
theorem dX8_commands_39 : decode cX8_commands 39 = .ok (.i2l, 1) := by decide +kernel
theorem dX8_commands_40 : decode cX8_commands 40 = .ok (.ldc2_w 169, 3) := by decide +kernel
theorem dX8_commands_43 : decode cX8_commands 43 = .ok (.ldc2_w 68, 3) := by decide +kernel
theorem dX8_commands_46 : decode cX8_commands 46 = .ok (.invokestatic 58, 3) := by decide +kernel
theorem dX8_commands_49 : decode cX8_commands 49 = .ok (.ifCond .ne 18, 3) := by decide +kernel
theorem dX8_commands_52 : decode cX8_commands 52 = .ok (.iload_n 1, 1) := by decide +kernel
theorem dX8_commands_53 : decode cX8_commands 53 = .ok (.bipush 48, 2) := by decide +kernel
theorem dX8_commands_55 : decode cX8_commands 55 = .ok (.if_icmp .ne 39, 3) := by decide +kernel
theorem dX8_commands_58 : decode cX8_commands 58 = .ok (.aload_n 0, 1) := by decide +kernel
theorem dX8_commands_59 : decode cX8_commands 59 = .ok (.getfield 7, 3) := by decide +kernel
theorem dX8_commands_62 : decode cX8_commands 62 = .ok (.iload_n 2, 1) := by decide +kernel
theorem dX8_commands_63 : decode cX8_commands 63 = .ok (.iaload, 1) := by decide +kernel
theorem dX8_commands_64 : decode cX8_commands 64 = .ok (.ifCond .le 30, 3) := by decide +kernel
theorem dX8_commands_67 : decode cX8_commands 67 = .ok (.aload_n 0, 1) := by decide +kernel
theorem dX8_commands_68 : decode cX8_commands 68 = .ok (.getfield 7, 3) := by decide +kernel
theorem dX8_commands_71 : decode cX8_commands 71 = .ok (.iload_n 2, 1) := by decide +kernel
theorem dX8_commands_72 : decode cX8_commands 72 = .ok (.bipush 10, 2) := by decide +kernel
theorem dX8_commands_74 : decode cX8_commands 74 = .ok (.aload_n 0, 1) := by decide +kernel
theorem dX8_commands_75 : decode cX8_commands 75 = .ok (.getfield 7, 3) := by decide +kernel
theorem dX8_commands_78 : decode cX8_commands 78 = .ok (.iload_n 2, 1) := by decide +kernel
theorem dX8_commands_79 : decode cX8_commands 79 = .ok (.iaload, 1) := by decide +kernel
theorem dX8_commands_80 : decode cX8_commands 80 = .ok (.imul, 1) := by decide +kernel
theorem dX8_commands_81 : decode cX8_commands 81 = .ok (.iload_n 1, 1) := by decide +kernel
theorem dX8_commands_82 : decode cX8_commands 82 = .ok (.iadd, 1) := by decide +kernel
theorem dX8_commands_83 : decode cX8_commands 83 = .ok (.bipush 48, 2) := by decide +kernel
theorem dX8_commands_85 : decode cX8_commands 85 = .ok (.isub, 1) := by decide +kernel
theorem dX8_commands_86 : decode cX8_commands 86 = .ok (.bipush 99, 2) := by decide +kernel
theorem dX8_commands_88 : decode cX8_commands 88 = .ok (.invokestatic 94, 3) := by decide +kernel
theorem dX8_commands_91 : decode cX8_commands 91 = .ok (.iastore, 1) := by decide +kernel
theorem dX8_commands_92 : decode cX8_commands 92 = .ok (.iconst 1, 1) := by decide +kernel
theorem dX8_commands_93 : decode cX8_commands 93 = .ok (.ireturn, 1) := by decide +kernel
theorem dX8_commands_94 : decode cX8_commands 94 = .ok (.aload_n 0, 1) := by decide +kernel
theorem dX8_commands_95 : decode cX8_commands 95 = .ok (.iload_n 1, 1) := by decide +kernel
theorem dX8_commands_96 : decode cX8_commands 96 = .ok (.invokevirtual 171, 3) := by decide +kernel
theorem dX8_commands_99 : decode cX8_commands 99 = .ok (.istore_n 3, 1) := by decide +kernel
theorem dX8_commands_100 : decode cX8_commands 100 = .ok (.iload_n 3, 1) := by decide +kernel
theorem dX8_commands_101 : decode cX8_commands 101 = .ok (.bipush (-4), 2) := by decide +kernel
theorem dX8_commands_103 : decode cX8_commands 103 = .ok (.if_icmp .eq 9, 3) := by decide +kernel
theorem dX8_commands_106 : decode cX8_commands 106 = .ok (.aload_n 0, 1) := by decide +kernel
theorem dX8_commands_107 : decode cX8_commands 107 = .ok (.iload_n 3, 1) := by decide +kernel
theorem dX8_commands_108 : decode cX8_commands 108 = .ok (.invokevirtual 174, 3) := by decide +kernel
theorem dX8_commands_111 : decode cX8_commands 111 = .ok (.ireturn, 1) := by decide +kernel
theorem dX8_commands_112 : decode cX8_commands 112 = .ok (.iload_n 1, 1) := by decide +kernel
theorem dX8_commands_113 : decode cX8_commands 113 = .ok (.bipush 102, 2) := by decide +kernel
theorem dX8_commands_115 : decode cX8_commands 115 = .ok (.if_icmp .eq 15, 3) := by decide +kernel
theorem dX8_commands_118 : decode cX8_commands 118 = .ok (.iload_n 1, 1) := by decide +kernel
theorem dX8_commands_119 : decode cX8_commands 119 = .ok (.bipush 116, 2) := by decide +kernel
theorem dX8_commands_121 : decode cX8_commands 121 = .ok (.if_icmp .eq 9, 3) := by decide +kernel
theorem dX8_commands_124 : decode cX8_commands 124 = .ok (.iload_n 1, 1) := by decide +kernel
theorem dX8_commands_125 : decode cX8_commands 125 = .ok (.bipush 39, 2) := by decide +kernel
theorem dX8_commands_127 : decode cX8_commands 127 = .ok (.if_icmp .ne 9, 3) := by decide +kernel
theorem dX8_commands_130 : decode cX8_commands 130 = .ok (.aload_n 0, 1) := by decide +kernel
theorem dX8_commands_131 : decode cX8_commands 131 = .ok (.iload_n 1, 1) := by decide +kernel
theorem dX8_commands_132 : decode cX8_commands 132 = .ok (.invokevirtual 163, 3) := by decide +kernel
theorem dX8_commands_135 : decode cX8_commands 135 = .ok (.ireturn, 1) := by decide +kernel
theorem dX8_commands_136 : decode cX8_commands 136 = .ok (.aload_n 0, 1) := by decide +kernel
theorem dX8_commands_137 : decode cX8_commands 137 = .ok (.getfield 7, 3) := by decide +kernel
theorem dX8_commands_140 : decode cX8_commands 140 = .ok (.sipush 190, 3) := by decide +kernel
theorem dX8_commands_143 : decode cX8_commands 143 = .ok (.iaload, 1) := by decide +kernel
theorem dX8_commands_144 : decode cX8_commands 144 = .ok (.ifCond .ne 9, 3) := by decide +kernel
theorem dX8_commands_147 : decode cX8_commands 147 = .ok (.aload_n 0, 1) := by decide +kernel
theorem dX8_commands_148 : decode cX8_commands 148 = .ok (.iload_n 1, 1) := by decide +kernel
theorem dX8_commands_149 : decode cX8_commands 149 = .ok (.invokevirtual 177, 3) := by decide +kernel
theorem dX8_commands_152 : decode cX8_commands 152 = .ok (.ireturn, 1) := by decide +kernel
theorem dX8_commands_153 : decode cX8_commands 153 = .ok (.iload_n 1, 1) := by decide +kernel
theorem dX8_commands_154 : decode cX8_commands 154 = .ok (.aload_n 0, 1) := by decide +kernel
theorem dX8_commands_155 : decode cX8_commands 155 = .ok (.getfield 7, 3) := by decide +kernel
theorem dX8_commands_158 : decode cX8_commands 158 = .ok (.sipush 190, 3) := by decide +kernel
theorem dX8_commands_161 : decode cX8_commands 161 = .ok (.iaload, 1) := by decide +kernel
theorem dX8_commands_162 : decode cX8_commands 162 = .ok (.if_icmp .ne 15, 3) := by decide +kernel
theorem dX8_commands_165 : decode cX8_commands 165 = .ok (.aload_n 0, 1) := by decide +kernel
theorem dX8_commands_166 : decode cX8_commands 166 = .ok (.iconst 0, 1) := by decide +kernel
theorem dX8_commands_167 : decode cX8_commands 167 = .ok (.aload_n 0, 1) := by decide +kernel
theorem dX8_commands_168 : decode cX8_commands 168 = .ok (.getfield 7, 3) := by decide +kernel
theorem dX8_commands_171 : decode cX8_commands 171 = .ok (.iconst 0, 1) := by decide +kernel
theorem dX8_commands_172 : decode cX8_commands 172 = .ok (.iaload, 1) := by decide +kernel
theorem dX8_commands_173 : decode cX8_commands 173 = .ok (.invokevirtual 113, 3) := by decide +kernel
theorem dX8_commands_176 : decode cX8_commands 176 = .ok (.ireturn, 1) := by decide +kernel
theorem dX8_commands_177 : decode cX8_commands 177 = .ok (.iload_n 1, 1) := by decide +kernel
theorem dX8_commands_178 : decode cX8_commands 178 = .ok (.bipush 105, 2) := by decide +kernel
theorem dX8_commands_180 : decode cX8_commands 180 = .ok (.if_icmp .eq 9, 3) := by decide +kernel
theorem dX8_commands_183 : decode cX8_commands 183 = .ok (.iload_n 1, 1) := by decide +kernel
theorem dX8_commands_184 : decode cX8_commands 184 = .ok (.bipush 97, 2) := by decide +kernel
theorem dX8_commands_186 : decode cX8_commands 186 = .ok (.if_icmp .ne 11, 3) := by decide +kernel
theorem dX8_commands_189 : decode cX8_commands 189 = .ok (.aload_n 0, 1) := by decide +kernel
theorem dX8_commands_190 : decode cX8_commands 190 = .ok (.iload_n 1, 1) := by decide +kernel
theorem dX8_commands_191 : decode cX8_commands 191 = .ok (.invokevirtual 163, 3) := by decide +kernel
theorem dX8_commands_194 : decode cX8_commands 194 = .ok (.goto 5, 3) := by decide +kernel
theorem dX8_commands_197 : decode cX8_commands 197 = .ok (.bipush (-2), 2) := by decide +kernel
theorem dX8_commands_199 : decode cX8_commands 199 = .ok (.ireturn, 1) := by decide +kernel
theorem dX8_inserted_0 : decode cX8_inserted 0 = .ok (.aload_n 0, 1) := by decide +kernel
theorem dX8_inserted_1 : decode cX8_inserted 1 = .ok (.iload_n 1, 1) := by decide +kernel
theorem dX8_inserted_2 : decode cX8_inserted 2 = .ok (.invokevirtual 180, 3) := by decide +kernel
theorem dX8_inserted_5 : decode cX8_inserted 5 = .ok (.iload_n 1, 1) := by decide +kernel
theorem dX8_inserted_6 : decode cX8_inserted 6 = .ok (.bipush 33, 2) := by decide +kernel
theorem dX8_inserted_8 : decode cX8_inserted 8 = .ok (.if_icmp .ne 51, 3) := by decide +kernel
theorem dX8_inserted_11 : decode cX8_inserted 11 = .ok (.aload_n 0, 1) := by decide +kernel
theorem dX8_inserted_12 : decode cX8_inserted 12 = .ok (.getfield 7, 3) := by decide +kernel
theorem dX8_inserted_15 : decode cX8_inserted 15 = .ok (.bipush 62, 2) := by decide +kernel
theorem dX8_inserted_17 : decode cX8_inserted 17 = .ok (.iconst 0, 1) := by decide +kernel
theorem dX8_inserted_18 : decode cX8_inserted 18 = .ok (.iastore, 1) := by decide +kernel
theorem dX8_inserted_19 : decode cX8_inserted 19 = .ok (.aload_n 0, 1) := by decide +kernel
theorem dX8_inserted_20 : decode cX8_inserted 20 = .ok (.getfield 7, 3) := by decide +kernel
theorem dX8_inserted_23 : decode cX8_inserted 23 = .ok (.bipush 61, 2) := by decide +kernel
theorem dX8_inserted_25 : decode cX8_inserted 25 = .ok (.aload_n 0, 1) := by decide +kernel
theorem dX8_inserted_26 : decode cX8_inserted 26 = .ok (.getfield 7, 3) := by decide +kernel
theorem dX8_inserted_29 : decode cX8_inserted 29 = .ok (.bipush 61, 2) := by decide +kernel
theorem dX8_inserted_31 : decode cX8_inserted 31 = .ok (.iaload, 1) := by decide +kernel
theorem dX8_inserted_32 : decode cX8_inserted 32 = .ok (.ifCond .ne 7, 3) := by decide +kernel
theorem dX8_inserted_35 : decode cX8_inserted 35 = .ok (.iconst 0, 1) := by decide +kernel
theorem dX8_inserted_36 : decode cX8_inserted 36 = .ok (.goto 12, 3) := by decide +kernel
theorem dX8_inserted_39 : decode cX8_inserted 39 = .ok (.aload_n 0, 1) := by decide +kernel
theorem dX8_inserted_40 : decode cX8_inserted 40 = .ok (.getfield 7, 3) := by decide +kernel
theorem dX8_inserted_43 : decode cX8_inserted 43 = .ok (.bipush 61, 2) := by decide +kernel
theorem dX8_inserted_45 : decode cX8_inserted 45 = .ok (.iaload, 1) := by decide +kernel
theorem dX8_inserted_46 : decode cX8_inserted 46 = .ok (.iconst 1, 1) := by decide +kernel
theorem dX8_inserted_47 : decode cX8_inserted 47 = .ok (.isub, 1) := by decide +kernel
theorem dX8_inserted_48 : decode cX8_inserted 48 = .ok (.iastore, 1) := by decide +kernel
theorem dX8_inserted_49 : decode cX8_inserted 49 = .ok (.aload_n 0, 1) := by decide +kernel
theorem dX8_inserted_50 : decode cX8_inserted 50 = .ok (.invokevirtual 110, 3) := by decide +kernel
theorem dX8_inserted_53 : decode cX8_inserted 53 = .ok (.aload_n 0, 1) := by decide +kernel
theorem dX8_inserted_54 : decode cX8_inserted 54 = .ok (.invokevirtual 184, 3) := by decide +kernel
theorem dX8_inserted_57 : decode cX8_inserted 57 = .ok (.iconst 0, 1) := by decide +kernel
theorem dX8_inserted_58 : decode cX8_inserted 58 = .ok (.ireturn, 1) := by decide +kernel
theorem dX8_inserted_59 : decode cX8_inserted 59 = .ok (.aload_n 0, 1) := by decide +kernel
theorem dX8_inserted_60 : decode cX8_inserted 60 = .ok (.getfield 7, 3) := by decide +kernel
theorem dX8_inserted_63 : decode cX8_inserted 63 = .ok (.iconst 0, 1) := by decide +kernel
theorem dX8_inserted_64 : decode cX8_inserted 64 = .ok (.iaload, 1) := by decide +kernel
theorem dX8_inserted_65 : decode cX8_inserted 65 = .ok (.bipush 60, 2) := by decide +kernel
theorem dX8_inserted_67 : decode cX8_inserted 67 = .ok (.if_icmp .ne 6, 3) := by decide +kernel
theorem dX8_inserted_70 : decode cX8_inserted 70 = .ok (.bipush (-3), 2) := by decide +kernel
theorem dX8_inserted_72 : decode cX8_inserted 72 = .ok (.ireturn, 1) := by decide +kernel
theorem dX8_inserted_73 : decode cX8_inserted 73 = .ok (.aload_n 0, 1) := by decide +kernel
theorem dX8_inserted_74 : decode cX8_inserted 74 = .ok (.getfield 7, 3) := by decide +kernel
theorem dX8_inserted_77 : decode cX8_inserted 77 = .ok (.iconst 0, 1) := by decide +kernel
theorem dX8_inserted_78 : decode cX8_inserted 78 = .ok (.iaload, 1) := by decide +kernel
theorem dX8_inserted_79 : decode cX8_inserted 79 = .ok (.istore_n 2, 1) := by decide +kernel
theorem dX8_inserted_80 : decode cX8_inserted 80 = .ok (.iload_n 2, 1) := by decide +kernel
theorem dX8_inserted_81 : decode cX8_inserted 81 = .ok (.aload_n 0, 1) := by decide +kernel
theorem dX8_inserted_82 : decode cX8_inserted 82 = .ok (.getfield 7, 3) := by decide +kernel
theorem dX8_inserted_85 : decode cX8_inserted 85 = .ok (.bipush 61, 2) := by decide +kernel
theorem dX8_inserted_87 : decode cX8_inserted 87 = .ok (.iaload, 1) := by decide +kernel
theorem dX8_inserted_88 : decode cX8_inserted 88 = .ok (.if_icmp .le 27, 3) := by decide +kernel
theorem dX8_inserted_91 : decode cX8_inserted 91 = .ok (.aload_n 0, 1) := by decide +kernel
theorem dX8_inserted_92 : decode cX8_inserted 92 = .ok (.getfield 7, 3) := by decide +kernel
theorem dX8_inserted_95 : decode cX8_inserted 95 = .ok (.iconst 1, 1) := by decide +kernel
theorem dX8_inserted_96 : decode cX8_inserted 96 = .ok (.iload_n 2, 1) := by decide +kernel
theorem dX8_inserted_97 : decode cX8_inserted 97 = .ok (.iadd, 1) := by decide +kernel
theorem dX8_inserted_98 : decode cX8_inserted 98 = .ok (.aload_n 0, 1) := by decide +kernel
theorem dX8_inserted_99 : decode cX8_inserted 99 = .ok (.getfield 7, 3) := by decide +kernel
theorem dX8_inserted_102 : decode cX8_inserted 102 = .ok (.iconst 1, 1) := by decide +kernel
theorem dX8_inserted_103 : decode cX8_inserted 103 = .ok (.iload_n 2, 1) := by decide +kernel
theorem dX8_inserted_104 : decode cX8_inserted 104 = .ok (.iadd, 1) := by decide +kernel
theorem dX8_inserted_105 : decode cX8_inserted 105 = .ok (.iconst 1, 1) := by decide +kernel
theorem dX8_inserted_106 : decode cX8_inserted 106 = .ok (.isub, 1) := by decide +kernel
theorem dX8_inserted_107 : decode cX8_inserted 107 = .ok (.iaload, 1) := by decide +kernel
theorem dX8_inserted_108 : decode cX8_inserted 108 = .ok (.iastore, 1) := by decide +kernel
theorem dX8_inserted_109 : decode cX8_inserted 109 = .ok (.iinc 2 (-1), 3) := by decide +kernel
theorem dX8_inserted_112 : decode cX8_inserted 112 = .ok (.goto (-32), 3) := by decide +kernel
theorem dX8_inserted_115 : decode cX8_inserted 115 = .ok (.aload_n 0, 1) := by decide +kernel
theorem dX8_inserted_116 : decode cX8_inserted 116 = .ok (.getfield 7, 3) := by decide +kernel
theorem dX8_inserted_119 : decode cX8_inserted 119 = .ok (.iconst 1, 1) := by decide +kernel
theorem dX8_inserted_120 : decode cX8_inserted 120 = .ok (.aload_n 0, 1) := by decide +kernel
theorem dX8_inserted_121 : decode cX8_inserted 121 = .ok (.getfield 7, 3) := by decide +kernel
theorem dX8_inserted_124 : decode cX8_inserted 124 = .ok (.bipush 61, 2) := by decide +kernel
theorem dX8_inserted_126 : decode cX8_inserted 126 = .ok (.iaload, 1) := by decide +kernel
theorem dX8_inserted_127 : decode cX8_inserted 127 = .ok (.iadd, 1) := by decide +kernel
theorem dX8_inserted_128 : decode cX8_inserted 128 = .ok (.iload_n 1, 1) := by decide +kernel
theorem dX8_inserted_129 : decode cX8_inserted 129 = .ok (.iastore, 1) := by decide +kernel
theorem dX8_inserted_130 : decode cX8_inserted 130 = .ok (.aload_n 0, 1) := by decide +kernel
theorem dX8_inserted_131 : decode cX8_inserted 131 = .ok (.getfield 7, 3) := by decide +kernel
theorem dX8_inserted_134 : decode cX8_inserted 134 = .ok (.iconst 0, 1) := by decide +kernel
theorem dX8_inserted_135 : decode cX8_inserted 135 = .ok (.dup2, 1) := by decide +kernel
theorem dX8_inserted_136 : decode cX8_inserted 136 = .ok (.iaload, 1) := by decide +kernel
theorem dX8_inserted_137 : decode cX8_inserted 137 = .ok (.iconst 1, 1) := by decide +kernel
theorem dX8_inserted_138 : decode cX8_inserted 138 = .ok (.iadd, 1) := by decide +kernel
theorem dX8_inserted_139 : decode cX8_inserted 139 = .ok (.iastore, 1) := by decide +kernel
theorem dX8_inserted_140 : decode cX8_inserted 140 = .ok (.aload_n 0, 1) := by decide +kernel
theorem dX8_inserted_141 : decode cX8_inserted 141 = .ok (.getfield 7, 3) := by decide +kernel
theorem dX8_inserted_144 : decode cX8_inserted 144 = .ok (.bipush 61, 2) := by decide +kernel
theorem dX8_inserted_146 : decode cX8_inserted 146 = .ok (.dup2, 1) := by decide +kernel
theorem dX8_inserted_147 : decode cX8_inserted 147 = .ok (.iaload, 1) := by decide +kernel
theorem dX8_inserted_148 : decode cX8_inserted 148 = .ok (.iconst 1, 1) := by decide +kernel
theorem dX8_inserted_149 : decode cX8_inserted 149 = .ok (.iadd, 1) := by decide +kernel
theorem dX8_inserted_150 : decode cX8_inserted 150 = .ok (.iastore, 1) := by decide +kernel
theorem dX8_inserted_151 : decode cX8_inserted 151 = .ok (.iconst 2, 1) := by decide +kernel
theorem dX8_inserted_152 : decode cX8_inserted 152 = .ok (.ireturn, 1) := by decide +kernel
theorem dX8_strikes_0 : decode cX8_strikes 0 = .ok (.aload_n 0, 1) := by decide +kernel
theorem dX8_strikes_1 : decode cX8_strikes 1 = .ok (.getfield 7, 3) := by decide +kernel
theorem dX8_strikes_4 : decode cX8_strikes 4 = .ok (.bipush 62, 2) := by decide +kernel
theorem dX8_strikes_6 : decode cX8_strikes 6 = .ok (.iaload, 1) := by decide +kernel
theorem dX8_strikes_7 : decode cX8_strikes 7 = .ok (.iconst 1, 1) := by decide +kernel
theorem dX8_strikes_8 : decode cX8_strikes 8 = .ok (.if_icmp .ne 9, 3) := by decide +kernel
theorem dX8_strikes_11 : decode cX8_strikes 11 = .ok (.aload_n 0, 1) := by decide +kernel
theorem dX8_strikes_12 : decode cX8_strikes 12 = .ok (.iload_n 1, 1) := by decide +kernel
theorem dX8_strikes_13 : decode cX8_strikes 13 = .ok (.invokevirtual 187, 3) := by decide +kernel
theorem dX8_strikes_16 : decode cX8_strikes 16 = .ok (.ireturn, 1) := by decide +kernel
theorem dX8_strikes_17 : decode cX8_strikes 17 = .ok (.aload_n 0, 1) := by decide +kernel
theorem dX8_strikes_18 : decode cX8_strikes 18 = .ok (.getfield 7, 3) := by decide +kernel
theorem dX8_strikes_21 : decode cX8_strikes 21 = .ok (.sipush 159, 3) := by decide +kernel
theorem dX8_strikes_24 : decode cX8_strikes 24 = .ok (.iaload, 1) := by decide +kernel
theorem dX8_strikes_25 : decode cX8_strikes 25 = .ok (.ifCond .ne 33, 3) := by decide +kernel
theorem dX8_strikes_28 : decode cX8_strikes 28 = .ok (.iconst 0, 1) := by decide +kernel
theorem dX8_strikes_29 : decode cX8_strikes 29 = .ok (.istore_n 2, 1) := by decide +kernel
theorem dX8_strikes_30 : decode cX8_strikes 30 = .ok (.iload_n 2, 1) := by decide +kernel
theorem dX8_strikes_31 : decode cX8_strikes 31 = .ok (.bipush 62, 2) := by decide +kernel
theorem dX8_strikes_33 : decode cX8_strikes 33 = .ok (.if_icmp .ge 25, 3) := by decide +kernel
theorem dX8_strikes_36 : decode cX8_strikes 36 = .ok (.aload_n 0, 1) := by decide +kernel
theorem dX8_strikes_37 : decode cX8_strikes 37 = .ok (.getfield 7, 3) := by decide +kernel
theorem dX8_strikes_40 : decode cX8_strikes 40 = .ok (.sipush 194, 3) := by decide +kernel
theorem dX8_strikes_43 : decode cX8_strikes 43 = .ok (.iload_n 2, 1) := by decide +kernel
theorem dX8_strikes_44 : decode cX8_strikes 44 = .ok (.iadd, 1) := by decide +kernel
theorem dX8_strikes_45 : decode cX8_strikes 45 = .ok (.aload_n 0, 1) := by decide +kernel
theorem dX8_strikes_46 : decode cX8_strikes 46 = .ok (.getfield 7, 3) := by decide +kernel
theorem dX8_strikes_49 : decode cX8_strikes 49 = .ok (.iload_n 2, 1) := by decide +kernel
theorem dX8_strikes_50 : decode cX8_strikes 50 = .ok (.iaload, 1) := by decide +kernel
theorem dX8_strikes_51 : decode cX8_strikes 51 = .ok (.iastore, 1) := by decide +kernel
theorem dX8_strikes_52 : decode cX8_strikes 52 = .ok (.iinc 2 1, 3) := by decide +kernel
theorem dX8_strikes_55 : decode cX8_strikes 55 = .ok (.goto (-25), 3) := by decide +kernel
theorem dX8_strikes_58 : decode cX8_strikes 58 = .ok (.aload_n 0, 1) := by decide +kernel
theorem dX8_strikes_59 : decode cX8_strikes 59 = .ok (.iload_n 1, 1) := by decide +kernel
theorem dX8_strikes_60 : decode cX8_strikes 60 = .ok (.invokevirtual 180, 3) := by decide +kernel
theorem dX8_strikes_63 : decode cX8_strikes 63 = .ok (.aload_n 0, 1) := by decide +kernel
theorem dX8_strikes_64 : decode cX8_strikes 64 = .ok (.iload_n 1, 1) := by decide +kernel
theorem dX8_strikes_65 : decode cX8_strikes 65 = .ok (.invokevirtual 190, 3) := by decide +kernel
theorem dX8_strikes_68 : decode cX8_strikes 68 = .ok (.istore_n 2, 1) := by decide +kernel
theorem dX8_strikes_69 : decode cX8_strikes 69 = .ok (.iload_n 2, 1) := by decide +kernel
theorem dX8_strikes_70 : decode cX8_strikes 70 = .ok (.iconst 1, 1) := by decide +kernel
theorem dX8_strikes_71 : decode cX8_strikes 71 = .ok (.if_icmp .eq 12, 3) := by decide +kernel
theorem dX8_strikes_74 : decode cX8_strikes 74 = .ok (.iload_n 2, 1) := by decide +kernel
theorem dX8_strikes_75 : decode cX8_strikes 75 = .ok (.iconst 2, 1) := by decide +kernel
theorem dX8_strikes_76 : decode cX8_strikes 76 = .ok (.if_icmp .eq 7, 3) := by decide +kernel
theorem dX8_strikes_79 : decode cX8_strikes 79 = .ok (.aload_n 0, 1) := by decide +kernel
theorem dX8_strikes_80 : decode cX8_strikes 80 = .ok (.invokevirtual 184, 3) := by decide +kernel
theorem dX8_strikes_83 : decode cX8_strikes 83 = .ok (.iload_n 2, 1) := by decide +kernel
theorem dX8_strikes_84 : decode cX8_strikes 84 = .ok (.ireturn, 1) := by decide +kernel
theorem dX8_keyed_0 : decode cX8_keyed 0 = .ok (.aload_n 0, 1) := by decide +kernel
theorem dX8_keyed_1 : decode cX8_keyed 1 = .ok (.iload_n 1, 1) := by decide +kernel
theorem dX8_keyed_2 : decode cX8_keyed 2 = .ok (.invokevirtual 193, 3) := by decide +kernel
theorem dX8_keyed_5 : decode cX8_keyed 5 = .ok (.istore_n 2, 1) := by decide +kernel
theorem dX8_keyed_6 : decode cX8_keyed 6 = .ok (.iload_n 2, 1) := by decide +kernel
theorem dX8_keyed_7 : decode cX8_keyed 7 = .ok (.bipush 9, 2) := by decide +kernel
theorem dX8_keyed_9 : decode cX8_keyed 9 = .ok (.if_icmp .eq 5, 3) := by decide +kernel
theorem dX8_keyed_12 : decode cX8_keyed 12 = .ok (.iload_n 2, 1) := by decide +kernel
theorem dX8_keyed_13 : decode cX8_keyed 13 = .ok (.ireturn, 1) := by decide +kernel
theorem dX8_keyed_14 : decode cX8_keyed 14 = .ok (.aload_n 0, 1) := by decide +kernel
theorem dX8_keyed_15 : decode cX8_keyed 15 = .ok (.getfield 7, 3) := by decide +kernel
theorem dX8_keyed_18 : decode cX8_keyed 18 = .ok (.sipush 128, 3) := by decide +kernel
theorem dX8_keyed_21 : decode cX8_keyed 21 = .ok (.iaload, 1) := by decide +kernel
theorem dX8_keyed_22 : decode cX8_keyed 22 = .ok (.istore_n 3, 1) := by decide +kernel
theorem dX8_keyed_23 : decode cX8_keyed 23 = .ok (.iconst 0, 1) := by decide +kernel
theorem dX8_keyed_24 : decode cX8_keyed 24 = .ok (.istore 4, 2) := by decide +kernel
theorem dX8_keyed_26 : decode cX8_keyed 26 = .ok (.iload 4, 2) := by decide +kernel
theorem dX8_keyed_28 : decode cX8_keyed 28 = .ok (.iload_n 3, 1) := by decide +kernel
theorem dX8_keyed_29 : decode cX8_keyed 29 = .ok (.if_icmp .ge 27, 3) := by decide +kernel
theorem dX8_keyed_32 : decode cX8_keyed 32 = .ok (.aload_n 0, 1) := by decide +kernel
theorem dX8_keyed_33 : decode cX8_keyed 33 = .ok (.getfield 16, 3) := by decide +kernel
theorem dX8_keyed_36 : decode cX8_keyed 36 = .ok (.iload 4, 2) := by decide +kernel
theorem dX8_keyed_38 : decode cX8_keyed 38 = .ok (.aload_n 0, 1) := by decide +kernel
theorem dX8_keyed_39 : decode cX8_keyed 39 = .ok (.getfield 7, 3) := by decide +kernel
theorem dX8_keyed_42 : decode cX8_keyed 42 = .ok (.sipush 129, 3) := by decide +kernel
theorem dX8_keyed_45 : decode cX8_keyed 45 = .ok (.iload 4, 2) := by decide +kernel
theorem dX8_keyed_47 : decode cX8_keyed 47 = .ok (.iadd, 1) := by decide +kernel
theorem dX8_keyed_48 : decode cX8_keyed 48 = .ok (.iaload, 1) := by decide +kernel
theorem dX8_keyed_49 : decode cX8_keyed 49 = .ok (.iastore, 1) := by decide +kernel
theorem dX8_keyed_50 : decode cX8_keyed 50 = .ok (.iinc 4 1, 3) := by decide +kernel
theorem dX8_keyed_53 : decode cX8_keyed 53 = .ok (.goto (-27), 3) := by decide +kernel
theorem dX8_keyed_56 : decode cX8_keyed 56 = .ok (.iconst 0, 1) := by decide +kernel
theorem dX8_keyed_57 : decode cX8_keyed 57 = .ok (.istore 4, 2) := by decide +kernel
theorem dX8_keyed_59 : decode cX8_keyed 59 = .ok (.iload 4, 2) := by decide +kernel
theorem dX8_keyed_61 : decode cX8_keyed 61 = .ok (.iload_n 3, 1) := by decide +kernel
theorem dX8_keyed_62 : decode cX8_keyed 62 = .ok (.if_icmp .ge 27, 3) := by decide +kernel
theorem dX8_keyed_65 : decode cX8_keyed 65 = .ok (.iload_n 2, 1) := by decide +kernel
theorem dX8_keyed_66 : decode cX8_keyed 66 = .ok (.bipush (-2), 2) := by decide +kernel
theorem dX8_keyed_68 : decode cX8_keyed 68 = .ok (.if_icmp .eq 21, 3) := by decide +kernel
theorem dX8_keyed_71 : decode cX8_keyed 71 = .ok (.aload_n 0, 1) := by decide +kernel
theorem dX8_keyed_72 : decode cX8_keyed 72 = .ok (.aload_n 0, 1) := by decide +kernel
theorem dX8_keyed_73 : decode cX8_keyed 73 = .ok (.getfield 16, 3) := by decide +kernel
theorem dX8_keyed_76 : decode cX8_keyed 76 = .ok (.iload 4, 2) := by decide +kernel
theorem dX8_keyed_78 : decode cX8_keyed 78 = .ok (.iaload, 1) := by decide +kernel
theorem dX8_keyed_79 : decode cX8_keyed 79 = .ok (.invokevirtual 193, 3) := by decide +kernel
theorem dX8_keyed_82 : decode cX8_keyed 82 = .ok (.istore_n 2, 1) := by decide +kernel
theorem dX8_keyed_83 : decode cX8_keyed 83 = .ok (.iinc 4 1, 3) := by decide +kernel
theorem dX8_keyed_86 : decode cX8_keyed 86 = .ok (.goto (-27), 3) := by decide +kernel
theorem dX8_keyed_89 : decode cX8_keyed 89 = .ok (.iload_n 2, 1) := by decide +kernel
theorem dX8_keyed_90 : decode cX8_keyed 90 = .ok (.ireturn, 1) := by decide +kernel
theorem dX8_key_0 : decode cX8_key 0 = .ok (.iload_n 1, 1) := by decide +kernel
theorem dX8_key_1 : decode cX8_key 1 = .ok (.i2l, 1) := by decide +kernel
theorem dX8_key_2 : decode cX8_key 2 = .ok (.ldc2_w 196, 3) := by decide +kernel
theorem dX8_key_5 : decode cX8_key 5 = .ok (.ldc2_w 198, 3) := by decide +kernel
theorem dX8_key_8 : decode cX8_key 8 = .ok (.invokestatic 58, 3) := by decide +kernel
theorem dX8_key_11 : decode cX8_key 11 = .ok (.ifCond .eq 11, 3) := by decide +kernel
theorem dX8_key_14 : decode cX8_key 14 = .ok (.aload_n 0, 1) := by decide +kernel
theorem dX8_key_15 : decode cX8_key 15 = .ok (.iload_n 1, 1) := by decide +kernel
theorem dX8_key_16 : decode cX8_key 16 = .ok (.invokevirtual 200, 3) := by decide +kernel
theorem dX8_key_19 : decode cX8_key 19 = .ok (.goto 4, 3) := by decide +kernel
theorem dX8_key_22 : decode cX8_key 22 = .ok (.iconst (-1), 1) := by decide +kernel
theorem dX8_key_23 : decode cX8_key 23 = .ok (.ireturn, 1) := by decide +kernel
theorem dX8_type_0 : decode cX8_type 0 = .ok (.iload_n 1, 1) := by decide +kernel
theorem dX8_type_1 : decode cX8_type 1 = .ok (.i2l, 1) := by decide +kernel
theorem dX8_type_2 : decode cX8_type 2 = .ok (.ldc2_w 196, 3) := by decide +kernel
theorem dX8_type_5 : decode cX8_type 5 = .ok (.ldc2_w 198, 3) := by decide +kernel
theorem dX8_type_8 : decode cX8_type 8 = .ok (.invokestatic 58, 3) := by decide +kernel
theorem dX8_type_11 : decode cX8_type 11 = .ok (.ifCond .ne 5, 3) := by decide +kernel
theorem dX8_type_14 : decode cX8_type 14 = .ok (.iconst (-1), 1) := by decide +kernel
theorem dX8_type_15 : decode cX8_type 15 = .ok (.ireturn, 1) := by decide +kernel
theorem dX8_type_16 : decode cX8_type 16 = .ok (.aload_n 0, 1) := by decide +kernel
theorem dX8_type_17 : decode cX8_type 17 = .ok (.getfield 203, 3) := by decide +kernel
theorem dX8_type_20 : decode cX8_type 20 = .ok (.bipush 60, 2) := by decide +kernel
theorem dX8_type_22 : decode cX8_type 22 = .ok (.if_icmp .ne 6, 3) := by decide +kernel
theorem dX8_type_25 : decode cX8_type 25 = .ok (.bipush (-3), 2) := by decide +kernel
theorem dX8_type_27 : decode cX8_type 27 = .ok (.ireturn, 1) := by decide +kernel
theorem dX8_type_28 : decode cX8_type 28 = .ok (.aload_n 0, 1) := by decide +kernel
theorem dX8_type_29 : decode cX8_type 29 = .ok (.getfield 19, 3) := by decide +kernel
theorem dX8_type_32 : decode cX8_type 32 = .ok (.aload_n 0, 1) := by decide +kernel
theorem dX8_type_33 : decode cX8_type 33 = .ok (.getfield 203, 3) := by decide +kernel
theorem dX8_type_36 : decode cX8_type 36 = .ok (.iload_n 1, 1) := by decide +kernel
theorem dX8_type_37 : decode cX8_type 37 = .ok (.iastore, 1) := by decide +kernel
theorem dX8_type_38 : decode cX8_type 38 = .ok (.aload_n 0, 1) := by decide +kernel
theorem dX8_type_39 : decode cX8_type 39 = .ok (.dup, 1) := by decide +kernel
theorem dX8_type_40 : decode cX8_type 40 = .ok (.getfield 203, 3) := by decide +kernel
theorem dX8_type_43 : decode cX8_type 43 = .ok (.iconst 1, 1) := by decide +kernel
theorem dX8_type_44 : decode cX8_type 44 = .ok (.iadd, 1) := by decide +kernel
theorem dX8_type_45 : decode cX8_type 45 = .ok (.putfield 203, 3) := by decide +kernel
theorem dX8_type_48 : decode cX8_type 48 = .ok (.aload_n 0, 1) := by decide +kernel
theorem dX8_type_49 : decode cX8_type 49 = .ok (.getfield 203, 3) := by decide +kernel
theorem dX8_type_52 : decode cX8_type 52 = .ok (.ireturn, 1) := by decide +kernel
theorem dX8_line_0 : decode cX8_line 0 = .ok (.iconst 0, 1) := by decide +kernel
theorem dX8_line_1 : decode cX8_line 1 = .ok (.istore_n 1, 1) := by decide +kernel
theorem dX8_line_2 : decode cX8_line 2 = .ok (.iload_n 1, 1) := by decide +kernel
theorem dX8_line_3 : decode cX8_line 3 = .ok (.sipush 256, 3) := by decide +kernel
theorem dX8_line_6 : decode cX8_line 6 = .ok (.if_icmp .ge 16, 3) := by decide +kernel
theorem dX8_line_9 : decode cX8_line 9 = .ok (.aload_n 0, 1) := by decide +kernel
theorem dX8_line_10 : decode cX8_line 10 = .ok (.getfield 7, 3) := by decide +kernel
theorem dX8_line_13 : decode cX8_line 13 = .ok (.iload_n 1, 1) := by decide +kernel
theorem dX8_line_14 : decode cX8_line 14 = .ok (.iconst 0, 1) := by decide +kernel
theorem dX8_line_15 : decode cX8_line 15 = .ok (.iastore, 1) := by decide +kernel
theorem dX8_line_16 : decode cX8_line 16 = .ok (.iinc 1 1, 3) := by decide +kernel
theorem dX8_line_19 : decode cX8_line 19 = .ok (.goto (-17), 3) := by decide +kernel
theorem dX8_line_22 : decode cX8_line 22 = .ok (.iconst 0, 1) := by decide +kernel
theorem dX8_line_23 : decode cX8_line 23 = .ok (.istore_n 1, 1) := by decide +kernel
theorem dX8_line_24 : decode cX8_line 24 = .ok (.iload_n 1, 1) := by decide +kernel
theorem dX8_line_25 : decode cX8_line 25 = .ok (.iconst 4, 1) := by decide +kernel
theorem dX8_line_26 : decode cX8_line 26 = .ok (.if_icmp .ge 20, 3) := by decide +kernel
theorem dX8_line_29 : decode cX8_line 29 = .ok (.aload_n 0, 1) := by decide +kernel
theorem dX8_line_30 : decode cX8_line 30 = .ok (.getfield 7, 3) := by decide +kernel
theorem dX8_line_33 : decode cX8_line 33 = .ok (.bipush 124, 2) := by decide +kernel
theorem dX8_line_35 : decode cX8_line 35 = .ok (.iload_n 1, 1) := by decide +kernel
theorem dX8_line_36 : decode cX8_line 36 = .ok (.iadd, 1) := by decide +kernel
theorem dX8_line_37 : decode cX8_line 37 = .ok (.bipush (-4), 2) := by decide +kernel
theorem dX8_line_39 : decode cX8_line 39 = .ok (.iastore, 1) := by decide +kernel
theorem dX8_line_40 : decode cX8_line 40 = .ok (.iinc 1 1, 3) := by decide +kernel
theorem dX8_line_43 : decode cX8_line 43 = .ok (.goto (-19), 3) := by decide +kernel
theorem dX8_line_46 : decode cX8_line 46 = .ok (.aload_n 0, 1) := by decide +kernel
theorem dX8_line_47 : decode cX8_line 47 = .ok (.getfield 7, 3) := by decide +kernel
theorem dX8_line_50 : decode cX8_line 50 = .ok (.iconst 0, 1) := by decide +kernel
theorem dX8_line_51 : decode cX8_line 51 = .ok (.aload_n 0, 1) := by decide +kernel
theorem dX8_line_52 : decode cX8_line 52 = .ok (.getfield 203, 3) := by decide +kernel
theorem dX8_line_55 : decode cX8_line 55 = .ok (.iastore, 1) := by decide +kernel
theorem dX8_line_56 : decode cX8_line 56 = .ok (.iconst 0, 1) := by decide +kernel
theorem dX8_line_57 : decode cX8_line 57 = .ok (.istore_n 1, 1) := by decide +kernel
theorem dX8_line_58 : decode cX8_line 58 = .ok (.iload_n 1, 1) := by decide +kernel
theorem dX8_line_59 : decode cX8_line 59 = .ok (.aload_n 0, 1) := by decide +kernel
theorem dX8_line_60 : decode cX8_line 60 = .ok (.getfield 203, 3) := by decide +kernel
theorem dX8_line_63 : decode cX8_line 63 = .ok (.if_icmp .ge 23, 3) := by decide +kernel
theorem dX8_line_66 : decode cX8_line 66 = .ok (.aload_n 0, 1) := by decide +kernel
theorem dX8_line_67 : decode cX8_line 67 = .ok (.getfield 7, 3) := by decide +kernel
theorem dX8_line_70 : decode cX8_line 70 = .ok (.iconst 1, 1) := by decide +kernel
theorem dX8_line_71 : decode cX8_line 71 = .ok (.iload_n 1, 1) := by decide +kernel
theorem dX8_line_72 : decode cX8_line 72 = .ok (.iadd, 1) := by decide +kernel
theorem dX8_line_73 : decode cX8_line 73 = .ok (.aload_n 0, 1) := by decide +kernel
theorem dX8_line_74 : decode cX8_line 74 = .ok (.getfield 19, 3) := by decide +kernel
theorem dX8_line_77 : decode cX8_line 77 = .ok (.iload_n 1, 1) := by decide +kernel
theorem dX8_line_78 : decode cX8_line 78 = .ok (.iaload, 1) := by decide +kernel
theorem dX8_line_79 : decode cX8_line 79 = .ok (.iastore, 1) := by decide +kernel
theorem dX8_line_80 : decode cX8_line 80 = .ok (.iinc 1 1, 3) := by decide +kernel
theorem dX8_line_83 : decode cX8_line 83 = .ok (.goto (-25), 3) := by decide +kernel
theorem dX8_line_86 : decode cX8_line 86 = .ok (.aload_n 0, 1) := by decide +kernel
theorem dX8_line_87 : decode cX8_line 87 = .ok (.iconst 0, 1) := by decide +kernel
theorem dX8_line_88 : decode cX8_line 88 = .ok (.putfield 97, 3) := by decide +kernel
theorem dX8_line_91 : decode cX8_line 91 = .ok (.aload_n 0, 1) := by decide +kernel
theorem dX8_line_92 : decode cX8_line 92 = .ok (.iconst 0, 1) := by decide +kernel
theorem dX8_line_93 : decode cX8_line 93 = .ok (.putfield 203, 3) := by decide +kernel
theorem dX8_line_96 : decode cX8_line 96 = .ok (.aload_n 0, 1) := by decide +kernel
theorem dX8_line_97 : decode cX8_line 97 = .ok (.getfield 7, 3) := by decide +kernel
theorem dX8_line_100 : decode cX8_line 100 = .ok (.iconst 0, 1) := by decide +kernel
theorem dX8_line_101 : decode cX8_line 101 = .ok (.iaload, 1) := by decide +kernel
theorem dX8_line_102 : decode cX8_line 102 = .ok (.ireturn, 1) := by decide +kernel
theorem dX8_letter_0 : decode cX8_letter 0 = .ok (.iload_n 1, 1) := by decide +kernel
theorem dX8_letter_1 : decode cX8_letter 1 = .ok (.i2l, 1) := by decide +kernel
theorem dX8_letter_2 : decode cX8_letter 2 = .ok (.lconst 0, 1) := by decide +kernel
theorem dX8_letter_3 : decode cX8_letter 3 = .ok (.aload_n 0, 1) := by decide +kernel
theorem dX8_letter_4 : decode cX8_letter 4 = .ok (.getfield 7, 3) := by decide +kernel
theorem dX8_letter_7 : decode cX8_letter 7 = .ok (.iconst 0, 1) := by decide +kernel
theorem dX8_letter_8 : decode cX8_letter 8 = .ok (.iaload, 1) := by decide +kernel
theorem dX8_letter_9 : decode cX8_letter 9 = .ok (.iconst 1, 1) := by decide +kernel
theorem dX8_letter_10 : decode cX8_letter 10 = .ok (.isub, 1) := by decide +kernel
theorem dX8_letter_11 : decode cX8_letter 11 = .ok (.i2l, 1) := by decide +kernel
theorem dX8_letter_12 : decode cX8_letter 12 = .ok (.invokestatic 58, 3) := by decide +kernel
theorem dX8_letter_15 : decode cX8_letter 15 = .ok (.ifCond .eq 14, 3) := by decide +kernel
theorem dX8_letter_18 : decode cX8_letter 18 = .ok (.aload_n 0, 1) := by decide +kernel
theorem dX8_letter_19 : decode cX8_letter 19 = .ok (.getfield 7, 3) := by decide +kernel
theorem dX8_letter_22 : decode cX8_letter 22 = .ok (.iconst 1, 1) := by decide +kernel
theorem dX8_letter_23 : decode cX8_letter 23 = .ok (.iload_n 1, 1) := by decide +kernel
theorem dX8_letter_24 : decode cX8_letter 24 = .ok (.iadd, 1) := by decide +kernel
theorem dX8_letter_25 : decode cX8_letter 25 = .ok (.iaload, 1) := by decide +kernel
theorem dX8_letter_26 : decode cX8_letter 26 = .ok (.goto 4, 3) := by decide +kernel
theorem dX8_letter_29 : decode cX8_letter 29 = .ok (.iconst (-1), 1) := by decide +kernel
theorem dX8_letter_30 : decode cX8_letter 30 = .ok (.ireturn, 1) := by decide +kernel
theorem dX8_store_0 : decode cX8_store 0 = .ok (.iload_n 1, 1) := by decide +kernel
theorem dX8_store_1 : decode cX8_store 1 = .ok (.i2l, 1) := by decide +kernel
theorem dX8_store_2 : decode cX8_store 2 = .ok (.lconst 0, 1) := by decide +kernel
theorem dX8_store_3 : decode cX8_store 3 = .ok (.aload_n 0, 1) := by decide +kernel
theorem dX8_store_4 : decode cX8_store 4 = .ok (.getfield 7, 3) := by decide +kernel
theorem dX8_store_7 : decode cX8_store 7 = .ok (.bipush 63, 2) := by decide +kernel
theorem dX8_store_9 : decode cX8_store 9 = .ok (.iaload, 1) := by decide +kernel
theorem dX8_store_10 : decode cX8_store 10 = .ok (.iconst 1, 1) := by decide +kernel
theorem dX8_store_11 : decode cX8_store 11 = .ok (.isub, 1) := by decide +kernel
theorem dX8_store_12 : decode cX8_store 12 = .ok (.i2l, 1) := by decide +kernel
theorem dX8_store_13 : decode cX8_store 13 = .ok (.invokestatic 58, 3) := by decide +kernel
theorem dX8_store_16 : decode cX8_store 16 = .ok (.ifCond .eq 15, 3) := by decide +kernel
theorem dX8_store_19 : decode cX8_store 19 = .ok (.aload_n 0, 1) := by decide +kernel
theorem dX8_store_20 : decode cX8_store 20 = .ok (.getfield 7, 3) := by decide +kernel
theorem dX8_store_23 : decode cX8_store 23 = .ok (.bipush 64, 2) := by decide +kernel
theorem dX8_store_25 : decode cX8_store 25 = .ok (.iload_n 1, 1) := by decide +kernel
theorem dX8_store_26 : decode cX8_store 26 = .ok (.iadd, 1) := by decide +kernel
theorem dX8_store_27 : decode cX8_store 27 = .ok (.iaload, 1) := by decide +kernel
theorem dX8_store_28 : decode cX8_store 28 = .ok (.goto 4, 3) := by decide +kernel
theorem dX8_store_31 : decode cX8_store 31 = .ok (.iconst (-1), 1) := by decide +kernel
theorem dX8_store_32 : decode cX8_store 32 = .ok (.ireturn, 1) := by decide +kernel
theorem dX8_mark_0 : decode cX8_mark 0 = .ok (.iload_n 1, 1) := by decide +kernel
theorem dX8_mark_1 : decode cX8_mark 1 = .ok (.i2l, 1) := by decide +kernel
theorem dX8_mark_2 : decode cX8_mark 2 = .ok (.lconst 0, 1) := by decide +kernel
theorem dX8_mark_3 : decode cX8_mark 3 = .ok (.ldc2_w 206, 3) := by decide +kernel
theorem dX8_mark_6 : decode cX8_mark 6 = .ok (.invokestatic 58, 3) := by decide +kernel
theorem dX8_mark_9 : decode cX8_mark 9 = .ok (.ifCond .eq 15, 3) := by decide +kernel
theorem dX8_mark_12 : decode cX8_mark 12 = .ok (.aload_n 0, 1) := by decide +kernel
theorem dX8_mark_13 : decode cX8_mark 13 = .ok (.getfield 7, 3) := by decide +kernel
theorem dX8_mark_16 : decode cX8_mark 16 = .ok (.bipush 124, 2) := by decide +kernel
theorem dX8_mark_18 : decode cX8_mark 18 = .ok (.iload_n 1, 1) := by decide +kernel
theorem dX8_mark_19 : decode cX8_mark 19 = .ok (.iadd, 1) := by decide +kernel
theorem dX8_mark_20 : decode cX8_mark 20 = .ok (.iaload, 1) := by decide +kernel
theorem dX8_mark_21 : decode cX8_mark 21 = .ok (.goto 4, 3) := by decide +kernel
theorem dX8_mark_24 : decode cX8_mark 24 = .ok (.iconst (-1), 1) := by decide +kernel
theorem dX8_mark_25 : decode cX8_mark 25 = .ok (.ireturn, 1) := by decide +kernel
theorem dX8_marks_0 : decode cX8_marks 0 = .ok (.iconst 0, 1) := by decide +kernel
theorem dX8_marks_1 : decode cX8_marks 1 = .ok (.istore_n 1, 1) := by decide +kernel
theorem dX8_marks_2 : decode cX8_marks 2 = .ok (.iconst 0, 1) := by decide +kernel
theorem dX8_marks_3 : decode cX8_marks 3 = .ok (.istore_n 2, 1) := by decide +kernel
theorem dX8_marks_4 : decode cX8_marks 4 = .ok (.iload_n 2, 1) := by decide +kernel
theorem dX8_marks_5 : decode cX8_marks 5 = .ok (.iconst 4, 1) := by decide +kernel
theorem dX8_marks_6 : decode cX8_marks 6 = .ok (.if_icmp .ge 33, 3) := by decide +kernel
theorem dX8_marks_9 : decode cX8_marks 9 = .ok (.iload_n 1, 1) := by decide +kernel
theorem dX8_marks_10 : decode cX8_marks 10 = .ok (.aload_n 0, 1) := by decide +kernel
theorem dX8_marks_11 : decode cX8_marks 11 = .ok (.getfield 7, 3) := by decide +kernel
theorem dX8_marks_14 : decode cX8_marks 14 = .ok (.bipush 124, 2) := by decide +kernel
theorem dX8_marks_16 : decode cX8_marks 16 = .ok (.iload_n 2, 1) := by decide +kernel
theorem dX8_marks_17 : decode cX8_marks 17 = .ok (.iadd, 1) := by decide +kernel
theorem dX8_marks_18 : decode cX8_marks 18 = .ok (.iaload, 1) := by decide +kernel
theorem dX8_marks_19 : decode cX8_marks 19 = .ok (.bipush (-4), 2) := by decide +kernel
theorem dX8_marks_21 : decode cX8_marks 21 = .ok (.if_icmp .ne 7, 3) := by decide +kernel
theorem dX8_marks_24 : decode cX8_marks 24 = .ok (.iconst 0, 1) := by decide +kernel
theorem dX8_marks_25 : decode cX8_marks 25 = .ok (.goto 6, 3) := by decide +kernel
theorem dX8_marks_28 : decode cX8_marks 28 = .ok (.iconst 1, 1) := by decide +kernel
theorem dX8_marks_29 : decode cX8_marks 29 = .ok (.iload_n 2, 1) := by decide +kernel
theorem dX8_marks_30 : decode cX8_marks 30 = .ok (.ishl, 1) := by decide +kernel
theorem dX8_marks_31 : decode cX8_marks 31 = .ok (.ior, 1) := by decide +kernel
theorem dX8_marks_32 : decode cX8_marks 32 = .ok (.istore_n 1, 1) := by decide +kernel
theorem dX8_marks_33 : decode cX8_marks 33 = .ok (.iinc 2 1, 3) := by decide +kernel
theorem dX8_marks_36 : decode cX8_marks 36 = .ok (.goto (-32), 3) := by decide +kernel
theorem dX8_marks_39 : decode cX8_marks 39 = .ok (.iload_n 1, 1) := by decide +kernel
theorem dX8_marks_40 : decode cX8_marks 40 = .ok (.ireturn, 1) := by decide +kernel
theorem dX8_wordsOf_0 : decode cX8_wordsOf 0 = .ok (.iconst 0, 1) := by decide +kernel
theorem dX8_wordsOf_1 : decode cX8_wordsOf 1 = .ok (.istore_n 1, 1) := by decide +kernel
theorem dX8_wordsOf_2 : decode cX8_wordsOf 2 = .ok (.iconst 0, 1) := by decide +kernel
theorem dX8_wordsOf_3 : decode cX8_wordsOf 3 = .ok (.istore_n 2, 1) := by decide +kernel
theorem dX8_wordsOf_4 : decode cX8_wordsOf 4 = .ok (.iload_n 2, 1) := by decide +kernel
theorem dX8_wordsOf_5 : decode cX8_wordsOf 5 = .ok (.aload_n 0, 1) := by decide +kernel
theorem dX8_wordsOf_6 : decode cX8_wordsOf 6 = .ok (.getfield 7, 3) := by decide +kernel
theorem dX8_wordsOf_9 : decode cX8_wordsOf 9 = .ok (.iconst 0, 1) := by decide +kernel
theorem dX8_wordsOf_10 : decode cX8_wordsOf 10 = .ok (.iaload, 1) := by decide +kernel
theorem dX8_wordsOf_11 : decode cX8_wordsOf 11 = .ok (.if_icmp .ge 37, 3) := by decide +kernel
theorem dX8_wordsOf_14 : decode cX8_wordsOf 14 = .ok (.iload_n 1, 1) := by decide +kernel
theorem dX8_wordsOf_15 : decode cX8_wordsOf 15 = .ok (.aload_n 0, 1) := by decide +kernel
theorem dX8_wordsOf_16 : decode cX8_wordsOf 16 = .ok (.iload_n 2, 1) := by decide +kernel
theorem dX8_wordsOf_17 : decode cX8_wordsOf 17 = .ok (.invokevirtual 74, 3) := by decide +kernel
theorem dX8_wordsOf_20 : decode cX8_wordsOf 20 = .ok (.iconst 1, 1) := by decide +kernel
theorem dX8_wordsOf_21 : decode cX8_wordsOf 21 = .ok (.if_icmp .ne 18, 3) := by decide +kernel
theorem dX8_wordsOf_24 : decode cX8_wordsOf 24 = .ok (.aload_n 0, 1) := by decide +kernel
theorem dX8_wordsOf_25 : decode cX8_wordsOf 25 = .ok (.iload_n 2, 1) := by decide +kernel
theorem dX8_wordsOf_26 : decode cX8_wordsOf 26 = .ok (.iconst 1, 1) := by decide +kernel
theorem dX8_wordsOf_27 : decode cX8_wordsOf 27 = .ok (.isub, 1) := by decide +kernel
theorem dX8_wordsOf_28 : decode cX8_wordsOf 28 = .ok (.invokevirtual 74, 3) := by decide +kernel
theorem dX8_wordsOf_31 : decode cX8_wordsOf 31 = .ok (.iconst 1, 1) := by decide +kernel
theorem dX8_wordsOf_32 : decode cX8_wordsOf 32 = .ok (.if_icmp .eq 7, 3) := by decide +kernel
theorem dX8_wordsOf_35 : decode cX8_wordsOf 35 = .ok (.iconst 1, 1) := by decide +kernel
theorem dX8_wordsOf_36 : decode cX8_wordsOf 36 = .ok (.goto 4, 3) := by decide +kernel
theorem dX8_wordsOf_39 : decode cX8_wordsOf 39 = .ok (.iconst 0, 1) := by decide +kernel
theorem dX8_wordsOf_40 : decode cX8_wordsOf 40 = .ok (.iadd, 1) := by decide +kernel
theorem dX8_wordsOf_41 : decode cX8_wordsOf 41 = .ok (.istore_n 1, 1) := by decide +kernel
theorem dX8_wordsOf_42 : decode cX8_wordsOf 42 = .ok (.iinc 2 1, 3) := by decide +kernel
theorem dX8_wordsOf_45 : decode cX8_wordsOf 45 = .ok (.goto (-41), 3) := by decide +kernel
theorem dX8_wordsOf_48 : decode cX8_wordsOf 48 = .ok (.iload_n 1, 1) := by decide +kernel
theorem dX8_wordsOf_49 : decode cX8_wordsOf 49 = .ok (.ireturn, 1) := by decide +kernel
theorem dX8_count_0 : decode cX8_count 0 = .ok (.iload_n 1, 1) := by decide +kernel
theorem dX8_count_1 : decode cX8_count 1 = .ok (.tableswitch 133 0 8 #[51, 58, 66, 74, 101, 109, 114, 119, 124], 51) := by decide +kernel
theorem dX8_count_52 : decode cX8_count 52 = .ok (.aload_n 0, 1) := by decide +kernel
theorem dX8_count_53 : decode cX8_count 53 = .ok (.getfield 7, 3) := by decide +kernel
theorem dX8_count_56 : decode cX8_count 56 = .ok (.iconst 0, 1) := by decide +kernel
theorem dX8_count_57 : decode cX8_count 57 = .ok (.iaload, 1) := by decide +kernel
theorem dX8_count_58 : decode cX8_count 58 = .ok (.ireturn, 1) := by decide +kernel
theorem dX8_count_59 : decode cX8_count 59 = .ok (.aload_n 0, 1) := by decide +kernel
theorem dX8_count_60 : decode cX8_count 60 = .ok (.getfield 7, 3) := by decide +kernel
theorem dX8_count_63 : decode cX8_count 63 = .ok (.bipush 61, 2) := by decide +kernel
theorem dX8_count_65 : decode cX8_count 65 = .ok (.iaload, 1) := by decide +kernel
theorem dX8_count_66 : decode cX8_count 66 = .ok (.ireturn, 1) := by decide +kernel
theorem dX8_count_67 : decode cX8_count 67 = .ok (.aload_n 0, 1) := by decide +kernel
theorem dX8_count_68 : decode cX8_count 68 = .ok (.getfield 7, 3) := by decide +kernel
theorem dX8_count_71 : decode cX8_count 71 = .ok (.bipush 62, 2) := by decide +kernel
theorem dX8_count_73 : decode cX8_count 73 = .ok (.iaload, 1) := by decide +kernel
theorem dX8_count_74 : decode cX8_count 74 = .ok (.ireturn, 1) := by decide +kernel
theorem dX8_count_75 : decode cX8_count 75 = .ok (.aload_n 0, 1) := by decide +kernel
theorem dX8_count_76 : decode cX8_count 76 = .ok (.getfield 7, 3) := by decide +kernel
theorem dX8_count_79 : decode cX8_count 79 = .ok (.sipush 159, 3) := by decide +kernel
theorem dX8_count_82 : decode cX8_count 82 = .ok (.iaload, 1) := by decide +kernel
theorem dX8_count_83 : decode cX8_count 83 = .ok (.ifCond .le 17, 3) := by decide +kernel
theorem dX8_count_86 : decode cX8_count 86 = .ok (.aload_n 0, 1) := by decide +kernel
theorem dX8_count_87 : decode cX8_count 87 = .ok (.getfield 7, 3) := by decide +kernel
theorem dX8_count_90 : decode cX8_count 90 = .ok (.bipush 62, 2) := by decide +kernel
theorem dX8_count_92 : decode cX8_count 92 = .ok (.iaload, 1) := by decide +kernel
theorem dX8_count_93 : decode cX8_count 93 = .ok (.ifCond .ne 7, 3) := by decide +kernel
theorem dX8_count_96 : decode cX8_count 96 = .ok (.iconst 1, 1) := by decide +kernel
theorem dX8_count_97 : decode cX8_count 97 = .ok (.goto 4, 3) := by decide +kernel
theorem dX8_count_100 : decode cX8_count 100 = .ok (.iconst 0, 1) := by decide +kernel
theorem dX8_count_101 : decode cX8_count 101 = .ok (.ireturn, 1) := by decide +kernel
theorem dX8_count_102 : decode cX8_count 102 = .ok (.aload_n 0, 1) := by decide +kernel
theorem dX8_count_103 : decode cX8_count 103 = .ok (.getfield 7, 3) := by decide +kernel
theorem dX8_count_106 : decode cX8_count 106 = .ok (.bipush 63, 2) := by decide +kernel
theorem dX8_count_108 : decode cX8_count 108 = .ok (.iaload, 1) := by decide +kernel
theorem dX8_count_109 : decode cX8_count 109 = .ok (.ireturn, 1) := by decide +kernel
theorem dX8_count_110 : decode cX8_count 110 = .ok (.aload_n 0, 1) := by decide +kernel
theorem dX8_count_111 : decode cX8_count 111 = .ok (.invokevirtual 208, 3) := by decide +kernel
theorem dX8_count_114 : decode cX8_count 114 = .ok (.ireturn, 1) := by decide +kernel
theorem dX8_count_115 : decode cX8_count 115 = .ok (.aload_n 0, 1) := by decide +kernel
theorem dX8_count_116 : decode cX8_count 116 = .ok (.getfield 97, 3) := by decide +kernel
theorem dX8_count_119 : decode cX8_count 119 = .ok (.ireturn, 1) := by decide +kernel
theorem dX8_count_120 : decode cX8_count 120 = .ok (.aload_n 0, 1) := by decide +kernel
theorem dX8_count_121 : decode cX8_count 121 = .ok (.invokevirtual 211, 3) := by decide +kernel
theorem dX8_count_124 : decode cX8_count 124 = .ok (.ireturn, 1) := by decide +kernel
theorem dX8_count_125 : decode cX8_count 125 = .ok (.aload_n 0, 1) := by decide +kernel
theorem dX8_count_126 : decode cX8_count 126 = .ok (.getfield 7, 3) := by decide +kernel
theorem dX8_count_129 : decode cX8_count 129 = .ok (.sipush 128, 3) := by decide +kernel
theorem dX8_count_132 : decode cX8_count 132 = .ok (.iaload, 1) := by decide +kernel
theorem dX8_count_133 : decode cX8_count 133 = .ok (.ireturn, 1) := by decide +kernel
theorem dX8_count_134 : decode cX8_count 134 = .ok (.iconst (-1), 1) := by decide +kernel
theorem dX8_count_135 : decode cX8_count 135 = .ok (.ireturn, 1) := by decide +kernel
theorem dX8_isMotion_0 : decode cX8_isMotion 0 = .ok (.iload_n 0, 1) := by decide +kernel
theorem dX8_isMotion_1 : decode cX8_isMotion 1 = .ok (.i2l, 1) := by decide +kernel
theorem dX8_isMotion_2 : decode cX8_isMotion 2 = .ok (.lconst 0, 1) := by decide +kernel
theorem dX8_isMotion_3 : decode cX8_isMotion 3 = .ok (.ldc2_w 214, 3) := by decide +kernel
theorem dX8_isMotion_6 : decode cX8_isMotion 6 = .ok (.invokestatic 58, 3) := by decide +kernel
theorem dX8_isMotion_9 : decode cX8_isMotion 9 = .ok (.ireturn, 1) := by decide +kernel
theorem dX8_price_0 : decode cX8_price 0 = .ok (.iload_n 1, 1) := by decide +kernel
theorem dX8_price_1 : decode cX8_price 1 = .ok (.invokestatic 216, 3) := by decide +kernel
theorem dX8_price_4 : decode cX8_price 4 = .ok (.ifCond .eq 15, 3) := by decide +kernel
theorem dX8_price_7 : decode cX8_price 7 = .ok (.iload_n 2, 1) := by decide +kernel
theorem dX8_price_8 : decode cX8_price 8 = .ok (.i2l, 1) := by decide +kernel
theorem dX8_price_9 : decode cX8_price 9 = .ok (.lconst 1, 1) := by decide +kernel
theorem dX8_price_10 : decode cX8_price 10 = .ok (.ldc2_w 220, 3) := by decide +kernel
theorem dX8_price_13 : decode cX8_price 13 = .ok (.invokestatic 58, 3) := by decide +kernel
theorem dX8_price_16 : decode cX8_price 16 = .ok (.ifCond .ne 5, 3) := by decide +kernel
theorem dX8_price_19 : decode cX8_price 19 = .ok (.iconst (-1), 1) := by decide +kernel
theorem dX8_price_20 : decode cX8_price 20 = .ok (.ireturn, 1) := by decide +kernel
theorem dX8_price_21 : decode cX8_price 21 = .ok (.aload_n 0, 1) := by decide +kernel
theorem dX8_price_22 : decode cX8_price 22 = .ok (.getfield 7, 3) := by decide +kernel
theorem dX8_price_25 : decode cX8_price 25 = .ok (.sipush 256, 3) := by decide +kernel
theorem dX8_price_28 : decode cX8_price 28 = .ok (.iload_n 1, 1) := by decide +kernel
theorem dX8_price_29 : decode cX8_price 29 = .ok (.iadd, 1) := by decide +kernel
theorem dX8_price_30 : decode cX8_price 30 = .ok (.iaload, 1) := by decide +kernel
theorem dX8_price_31 : decode cX8_price 31 = .ok (.istore_n 3, 1) := by decide +kernel
theorem dX8_price_32 : decode cX8_price 32 = .ok (.iload_n 3, 1) := by decide +kernel
theorem dX8_price_33 : decode cX8_price 33 = .ok (.iload_n 2, 1) := by decide +kernel
theorem dX8_price_34 : decode cX8_price 34 = .ok (.if_icmp .ne 6, 3) := by decide +kernel
theorem dX8_price_37 : decode cX8_price 37 = .ok (.bipush (-2), 2) := by decide +kernel
theorem dX8_price_39 : decode cX8_price 39 = .ok (.ireturn, 1) := by decide +kernel
theorem dX8_price_40 : decode cX8_price 40 = .ok (.aload_n 0, 1) := by decide +kernel
theorem dX8_price_41 : decode cX8_price 41 = .ok (.getfield 7, 3) := by decide +kernel
theorem dX8_price_44 : decode cX8_price 44 = .ok (.sipush 256, 3) := by decide +kernel
theorem dX8_price_47 : decode cX8_price 47 = .ok (.iload_n 1, 1) := by decide +kernel
theorem dX8_price_48 : decode cX8_price 48 = .ok (.iadd, 1) := by decide +kernel
theorem dX8_price_49 : decode cX8_price 49 = .ok (.iload_n 2, 1) := by decide +kernel
theorem dX8_price_50 : decode cX8_price 50 = .ok (.iastore, 1) := by decide +kernel
theorem dX8_price_51 : decode cX8_price 51 = .ok (.iload_n 3, 1) := by decide +kernel
theorem dX8_price_52 : decode cX8_price 52 = .ok (.ireturn, 1) := by decide +kernel
theorem dX8_start_0 : decode cX8_start 0 = .ok (.aload_n 0, 1) := by decide +kernel
theorem dX8_start_1 : decode cX8_start 1 = .ok (.getfield 7, 3) := by decide +kernel
theorem dX8_start_4 : decode cX8_start 4 = .ok (.bipush 61, 2) := by decide +kernel
theorem dX8_start_6 : decode cX8_start 6 = .ok (.iaload, 1) := by decide +kernel
theorem dX8_start_7 : decode cX8_start 7 = .ok (.aload_n 0, 1) := by decide +kernel
theorem dX8_start_8 : decode cX8_start 8 = .ok (.invokevirtual 77, 3) := by decide +kernel
theorem dX8_start_11 : decode cX8_start 11 = .ok (.invokestatic 94, 3) := by decide +kernel
theorem dX8_start_14 : decode cX8_start 14 = .ok (.ireturn, 1) := by decide +kernel
theorem dX8_lands_0 : decode cX8_lands 0 = .ok (.aload_n 0, 1) := by decide +kernel
theorem dX8_lands_1 : decode cX8_lands 1 = .ok (.iload_n 1, 1) := by decide +kernel
theorem dX8_lands_2 : decode cX8_lands 2 = .ok (.iload_n 2, 1) := by decide +kernel
theorem dX8_lands_3 : decode cX8_lands 3 = .ok (.invokevirtual 119, 3) := by decide +kernel
theorem dX8_lands_6 : decode cX8_lands 6 = .ok (.aload_n 0, 1) := by decide +kernel
theorem dX8_lands_7 : decode cX8_lands 7 = .ok (.invokevirtual 77, 3) := by decide +kernel
theorem dX8_lands_10 : decode cX8_lands 10 = .ok (.invokestatic 94, 3) := by decide +kernel
theorem dX8_lands_13 : decode cX8_lands 13 = .ok (.ireturn, 1) := by decide +kernel
theorem dX8_isPlace_0 : decode cX8_isPlace 0 = .ok (.iload_n 1, 1) := by decide +kernel
theorem dX8_isPlace_1 : decode cX8_isPlace 1 = .ok (.i2l, 1) := by decide +kernel
theorem dX8_isPlace_2 : decode cX8_isPlace 2 = .ok (.lconst 0, 1) := by decide +kernel
theorem dX8_isPlace_3 : decode cX8_isPlace 3 = .ok (.aload_n 0, 1) := by decide +kernel
theorem dX8_isPlace_4 : decode cX8_isPlace 4 = .ok (.invokevirtual 77, 3) := by decide +kernel
theorem dX8_isPlace_7 : decode cX8_isPlace 7 = .ok (.i2l, 1) := by decide +kernel
theorem dX8_isPlace_8 : decode cX8_isPlace 8 = .ok (.invokestatic 58, 3) := by decide +kernel
theorem dX8_isPlace_11 : decode cX8_isPlace 11 = .ok (.ireturn, 1) := by decide +kernel
theorem dX8_leads_0 : decode cX8_leads 0 = .ok (.iload_n 1, 1) := by decide +kernel
theorem dX8_leads_1 : decode cX8_leads 1 = .ok (.invokestatic 216, 3) := by decide +kernel
theorem dX8_leads_4 : decode cX8_leads 4 = .ok (.ifCond .eq 28, 3) := by decide +kernel
theorem dX8_leads_7 : decode cX8_leads 7 = .ok (.iload_n 2, 1) := by decide +kernel
theorem dX8_leads_8 : decode cX8_leads 8 = .ok (.i2l, 1) := by decide +kernel
theorem dX8_leads_9 : decode cX8_leads 9 = .ok (.lconst 0, 1) := by decide +kernel
theorem dX8_leads_10 : decode cX8_leads 10 = .ok (.aload_n 0, 1) := by decide +kernel
theorem dX8_leads_11 : decode cX8_leads 11 = .ok (.getfield 7, 3) := by decide +kernel
theorem dX8_leads_14 : decode cX8_leads 14 = .ok (.iconst 0, 1) := by decide +kernel
theorem dX8_leads_15 : decode cX8_leads 15 = .ok (.iaload, 1) := by decide +kernel
theorem dX8_leads_16 : decode cX8_leads 16 = .ok (.i2l, 1) := by decide +kernel
theorem dX8_leads_17 : decode cX8_leads 17 = .ok (.invokestatic 58, 3) := by decide +kernel
theorem dX8_leads_20 : decode cX8_leads 20 = .ok (.ifCond .eq 12, 3) := by decide +kernel
theorem dX8_leads_23 : decode cX8_leads 23 = .ok (.aload_n 0, 1) := by decide +kernel
theorem dX8_leads_24 : decode cX8_leads 24 = .ok (.iload_n 1, 1) := by decide +kernel
theorem dX8_leads_25 : decode cX8_leads 25 = .ok (.iload_n 2, 1) := by decide +kernel
theorem dX8_leads_26 : decode cX8_leads 26 = .ok (.invokevirtual 119, 3) := by decide +kernel
theorem dX8_leads_29 : decode cX8_leads 29 = .ok (.goto 4, 3) := by decide +kernel
theorem dX8_leads_32 : decode cX8_leads 32 = .ok (.iconst (-1), 1) := by decide +kernel
theorem dX8_leads_33 : decode cX8_leads 33 = .ok (.ireturn, 1) := by decide +kernel
theorem dX8_costsTo_0 : decode cX8_costsTo 0 = .ok (.iconst 0, 1) := by decide +kernel
theorem dX8_costsTo_1 : decode cX8_costsTo 1 = .ok (.istore_n 2, 1) := by decide +kernel
theorem dX8_costsTo_2 : decode cX8_costsTo 2 = .ok (.iload_n 2, 1) := by decide +kernel
theorem dX8_costsTo_3 : decode cX8_costsTo 3 = .ok (.bipush 60, 2) := by decide +kernel
theorem dX8_costsTo_5 : decode cX8_costsTo 5 = .ok (.if_icmp .ge 26, 3) := by decide +kernel
theorem dX8_costsTo_8 : decode cX8_costsTo 8 = .ok (.aload_n 0, 1) := by decide +kernel
theorem dX8_costsTo_9 : decode cX8_costsTo 9 = .ok (.getfield 22, 3) := by decide +kernel
theorem dX8_costsTo_12 : decode cX8_costsTo 12 = .ok (.iload_n 2, 1) := by decide +kernel
theorem dX8_costsTo_13 : decode cX8_costsTo 13 = .ok (.iload_n 2, 1) := by decide +kernel
theorem dX8_costsTo_14 : decode cX8_costsTo 14 = .ok (.iload_n 1, 1) := by decide +kernel
theorem dX8_costsTo_15 : decode cX8_costsTo 15 = .ok (.if_icmp .ne 7, 3) := by decide +kernel
theorem dX8_costsTo_18 : decode cX8_costsTo 18 = .ok (.iconst 0, 1) := by decide +kernel
theorem dX8_costsTo_19 : decode cX8_costsTo 19 = .ok (.goto 5, 3) := by decide +kernel
theorem dX8_costsTo_22 : decode cX8_costsTo 22 = .ok (.ldc 222, 2) := by decide +kernel
theorem dX8_costsTo_24 : decode cX8_costsTo 24 = .ok (.iastore, 1) := by decide +kernel
theorem dX8_costsTo_25 : decode cX8_costsTo 25 = .ok (.iinc 2 1, 3) := by decide +kernel
theorem dX8_costsTo_28 : decode cX8_costsTo 28 = .ok (.goto (-26), 3) := by decide +kernel
theorem dX8_costsTo_31 : decode cX8_costsTo 31 = .ok (.iconst 1, 1) := by decide +kernel
theorem dX8_costsTo_32 : decode cX8_costsTo 32 = .ok (.istore_n 2, 1) := by decide +kernel
theorem dX8_costsTo_33 : decode cX8_costsTo 33 = .ok (.iload_n 2, 1) := by decide +kernel
theorem dX8_costsTo_34 : decode cX8_costsTo 34 = .ok (.ifCond .eq 104, 3) := by decide +kernel
theorem dX8_costsTo_37 : decode cX8_costsTo 37 = .ok (.iconst 0, 1) := by decide +kernel
theorem dX8_costsTo_38 : decode cX8_costsTo 38 = .ok (.istore_n 2, 1) := by decide +kernel
theorem dX8_costsTo_39 : decode cX8_costsTo 39 = .ok (.iconst 0, 1) := by decide +kernel
theorem dX8_costsTo_40 : decode cX8_costsTo 40 = .ok (.istore_n 3, 1) := by decide +kernel
theorem dX8_costsTo_41 : decode cX8_costsTo 41 = .ok (.iload_n 3, 1) := by decide +kernel
theorem dX8_costsTo_42 : decode cX8_costsTo 42 = .ok (.aload_n 0, 1) := by decide +kernel
theorem dX8_costsTo_43 : decode cX8_costsTo 43 = .ok (.invokevirtual 77, 3) := by decide +kernel
theorem dX8_costsTo_46 : decode cX8_costsTo 46 = .ok (.if_icmp .gt 89, 3) := by decide +kernel
theorem dX8_costsTo_49 : decode cX8_costsTo 49 = .ok (.iconst 0, 1) := by decide +kernel
theorem dX8_costsTo_50 : decode cX8_costsTo 50 = .ok (.istore 4, 2) := by decide +kernel
theorem dX8_costsTo_52 : decode cX8_costsTo 52 = .ok (.iload 4, 2) := by decide +kernel
theorem dX8_costsTo_54 : decode cX8_costsTo 54 = .ok (.bipush 7, 2) := by decide +kernel
theorem dX8_costsTo_56 : decode cX8_costsTo 56 = .ok (.if_icmp .ge 73, 3) := by decide +kernel
theorem dX8_costsTo_59 : decode cX8_costsTo 59 = .ok (.aload_n 0, 1) := by decide +kernel
theorem dX8_costsTo_60 : decode cX8_costsTo 60 = .ok (.getfield 7, 3) := by decide +kernel
theorem dX8_costsTo_63 : decode cX8_costsTo 63 = .ok (.sipush 256, 3) := by decide +kernel
theorem dX8_costsTo_66 : decode cX8_costsTo 66 = .ok (.iload 4, 2) := by decide +kernel
theorem dX8_costsTo_68 : decode cX8_costsTo 68 = .ok (.iadd, 1) := by decide +kernel
theorem dX8_costsTo_69 : decode cX8_costsTo 69 = .ok (.iaload, 1) := by decide +kernel
theorem dX8_costsTo_70 : decode cX8_costsTo 70 = .ok (.aload_n 0, 1) := by decide +kernel
theorem dX8_costsTo_71 : decode cX8_costsTo 71 = .ok (.getfield 22, 3) := by decide +kernel
theorem dX8_costsTo_74 : decode cX8_costsTo 74 = .ok (.aload_n 0, 1) := by decide +kernel
theorem dX8_costsTo_75 : decode cX8_costsTo 75 = .ok (.iload 4, 2) := by decide +kernel
theorem dX8_costsTo_77 : decode cX8_costsTo 77 = .ok (.iload_n 3, 1) := by decide +kernel
theorem dX8_costsTo_78 : decode cX8_costsTo 78 = .ok (.invokevirtual 223, 3) := by decide +kernel
theorem dX8_costsTo_81 : decode cX8_costsTo 81 = .ok (.iaload, 1) := by decide +kernel
theorem dX8_costsTo_82 : decode cX8_costsTo 82 = .ok (.iadd, 1) := by decide +kernel
theorem dX8_costsTo_83 : decode cX8_costsTo 83 = .ok (.istore 5, 2) := by decide +kernel
theorem dX8_costsTo_85 : decode cX8_costsTo 85 = .ok (.iload_n 2, 1) := by decide +kernel
theorem dX8_costsTo_86 : decode cX8_costsTo 86 = .ok (.ifCond .ne 14, 3) := by decide +kernel
theorem dX8_costsTo_89 : decode cX8_costsTo 89 = .ok (.iload 5, 2) := by decide +kernel
theorem dX8_costsTo_91 : decode cX8_costsTo 91 = .ok (.aload_n 0, 1) := by decide +kernel
theorem dX8_costsTo_92 : decode cX8_costsTo 92 = .ok (.getfield 22, 3) := by decide +kernel
theorem dX8_costsTo_95 : decode cX8_costsTo 95 = .ok (.iload_n 3, 1) := by decide +kernel
theorem dX8_costsTo_96 : decode cX8_costsTo 96 = .ok (.iaload, 1) := by decide +kernel
theorem dX8_costsTo_97 : decode cX8_costsTo 97 = .ok (.if_icmp .ge 7, 3) := by decide +kernel
theorem dX8_costsTo_100 : decode cX8_costsTo 100 = .ok (.iconst 1, 1) := by decide +kernel
theorem dX8_costsTo_101 : decode cX8_costsTo 101 = .ok (.goto 4, 3) := by decide +kernel
theorem dX8_costsTo_104 : decode cX8_costsTo 104 = .ok (.iconst 0, 1) := by decide +kernel
theorem dX8_costsTo_105 : decode cX8_costsTo 105 = .ok (.istore_n 2, 1) := by decide +kernel
theorem dX8_costsTo_106 : decode cX8_costsTo 106 = .ok (.aload_n 0, 1) := by decide +kernel
theorem dX8_costsTo_107 : decode cX8_costsTo 107 = .ok (.getfield 22, 3) := by decide +kernel
theorem dX8_costsTo_110 : decode cX8_costsTo 110 = .ok (.iload_n 3, 1) := by decide +kernel
theorem dX8_costsTo_111 : decode cX8_costsTo 111 = .ok (.aload_n 0, 1) := by decide +kernel
theorem dX8_costsTo_112 : decode cX8_costsTo 112 = .ok (.getfield 22, 3) := by decide +kernel
theorem dX8_costsTo_115 : decode cX8_costsTo 115 = .ok (.iload_n 3, 1) := by decide +kernel
theorem dX8_costsTo_116 : decode cX8_costsTo 116 = .ok (.iaload, 1) := by decide +kernel
theorem dX8_costsTo_117 : decode cX8_costsTo 117 = .ok (.iload 5, 2) := by decide +kernel
theorem dX8_costsTo_119 : decode cX8_costsTo 119 = .ok (.invokestatic 94, 3) := by decide +kernel
theorem dX8_costsTo_122 : decode cX8_costsTo 122 = .ok (.iastore, 1) := by decide +kernel
theorem dX8_costsTo_123 : decode cX8_costsTo 123 = .ok (.iinc 4 1, 3) := by decide +kernel
theorem dX8_costsTo_126 : decode cX8_costsTo 126 = .ok (.goto (-74), 3) := by decide +kernel
theorem dX8_costsTo_129 : decode cX8_costsTo 129 = .ok (.iinc 3 1, 3) := by decide +kernel
theorem dX8_costsTo_132 : decode cX8_costsTo 132 = .ok (.goto (-91), 3) := by decide +kernel
theorem dX8_costsTo_135 : decode cX8_costsTo 135 = .ok (.goto (-102), 3) := by decide +kernel
theorem dX8_costsTo_138 : decode cX8_costsTo 138 = .ok (.return_, 1) := by decide +kernel
theorem dX8_steps_0 : decode cX8_steps 0 = .ok (.aload_n 0, 1) := by decide +kernel
theorem dX8_steps_1 : decode cX8_steps 1 = .ok (.iload_n 1, 1) := by decide +kernel
theorem dX8_steps_2 : decode cX8_steps 2 = .ok (.invokevirtual 226, 3) := by decide +kernel
theorem dX8_steps_5 : decode cX8_steps 5 = .ok (.ifCond .eq 9, 3) := by decide +kernel
theorem dX8_steps_8 : decode cX8_steps 8 = .ok (.iload_n 2, 1) := by decide +kernel
theorem dX8_steps_9 : decode cX8_steps 9 = .ok (.bipush (-2), 2) := by decide +kernel
theorem dX8_steps_11 : decode cX8_steps 11 = .ok (.if_icmp .ge 5, 3) := by decide +kernel
theorem dX8_steps_14 : decode cX8_steps 14 = .ok (.iconst (-1), 1) := by decide +kernel
theorem dX8_steps_15 : decode cX8_steps 15 = .ok (.ireturn, 1) := by decide +kernel
theorem dX8_steps_16 : decode cX8_steps 16 = .ok (.aload_n 0, 1) := by decide +kernel
theorem dX8_steps_17 : decode cX8_steps 17 = .ok (.iload_n 1, 1) := by decide +kernel
theorem dX8_steps_18 : decode cX8_steps 18 = .ok (.invokevirtual 229, 3) := by decide +kernel
theorem dX8_steps_21 : decode cX8_steps 21 = .ok (.aload_n 0, 1) := by decide +kernel
theorem dX8_steps_22 : decode cX8_steps 22 = .ok (.invokevirtual 232, 3) := by decide +kernel
theorem dX8_steps_25 : decode cX8_steps 25 = .ok (.istore_n 3, 1) := by decide +kernel
theorem dX8_steps_26 : decode cX8_steps 26 = .ok (.iload_n 2, 1) := by decide +kernel
theorem dX8_steps_27 : decode cX8_steps 27 = .ok (.bipush (-2), 2) := by decide +kernel
theorem dX8_steps_29 : decode cX8_steps 29 = .ok (.if_icmp .ne 10, 3) := by decide +kernel
theorem dX8_steps_32 : decode cX8_steps 32 = .ok (.aload_n 0, 1) := by decide +kernel
theorem dX8_steps_33 : decode cX8_steps 33 = .ok (.getfield 22, 3) := by decide +kernel
theorem dX8_steps_36 : decode cX8_steps 36 = .ok (.iload_n 3, 1) := by decide +kernel
theorem dX8_steps_37 : decode cX8_steps 37 = .ok (.iaload, 1) := by decide +kernel
theorem dX8_steps_38 : decode cX8_steps 38 = .ok (.ireturn, 1) := by decide +kernel
theorem dX8_steps_39 : decode cX8_steps 39 = .ok (.iconst 0, 1) := by decide +kernel
theorem dX8_steps_40 : decode cX8_steps 40 = .ok (.istore 4, 2) := by decide +kernel
theorem dX8_steps_42 : decode cX8_steps 42 = .ok (.iload_n 3, 1) := by decide +kernel
theorem dX8_steps_43 : decode cX8_steps 43 = .ok (.iload_n 1, 1) := by decide +kernel
theorem dX8_steps_44 : decode cX8_steps 44 = .ok (.if_icmp .eq 68, 3) := by decide +kernel
theorem dX8_steps_47 : decode cX8_steps 47 = .ok (.iconst 0, 1) := by decide +kernel
theorem dX8_steps_48 : decode cX8_steps 48 = .ok (.istore 5, 2) := by decide +kernel
theorem dX8_steps_50 : decode cX8_steps 50 = .ok (.aload_n 0, 1) := by decide +kernel
theorem dX8_steps_51 : decode cX8_steps 51 = .ok (.getfield 7, 3) := by decide +kernel
theorem dX8_steps_54 : decode cX8_steps 54 = .ok (.sipush 256, 3) := by decide +kernel
theorem dX8_steps_57 : decode cX8_steps 57 = .ok (.iload 5, 2) := by decide +kernel
theorem dX8_steps_59 : decode cX8_steps 59 = .ok (.iadd, 1) := by decide +kernel
theorem dX8_steps_60 : decode cX8_steps 60 = .ok (.iaload, 1) := by decide +kernel
theorem dX8_steps_61 : decode cX8_steps 61 = .ok (.aload_n 0, 1) := by decide +kernel
theorem dX8_steps_62 : decode cX8_steps 62 = .ok (.getfield 22, 3) := by decide +kernel
theorem dX8_steps_65 : decode cX8_steps 65 = .ok (.aload_n 0, 1) := by decide +kernel
theorem dX8_steps_66 : decode cX8_steps 66 = .ok (.iload 5, 2) := by decide +kernel
theorem dX8_steps_68 : decode cX8_steps 68 = .ok (.iload_n 3, 1) := by decide +kernel
theorem dX8_steps_69 : decode cX8_steps 69 = .ok (.invokevirtual 223, 3) := by decide +kernel
theorem dX8_steps_72 : decode cX8_steps 72 = .ok (.iaload, 1) := by decide +kernel
theorem dX8_steps_73 : decode cX8_steps 73 = .ok (.iadd, 1) := by decide +kernel
theorem dX8_steps_74 : decode cX8_steps 74 = .ok (.aload_n 0, 1) := by decide +kernel
theorem dX8_steps_75 : decode cX8_steps 75 = .ok (.getfield 22, 3) := by decide +kernel
theorem dX8_steps_78 : decode cX8_steps 78 = .ok (.iload_n 3, 1) := by decide +kernel
theorem dX8_steps_79 : decode cX8_steps 79 = .ok (.iaload, 1) := by decide +kernel
theorem dX8_steps_80 : decode cX8_steps 80 = .ok (.if_icmp .eq 9, 3) := by decide +kernel
theorem dX8_steps_83 : decode cX8_steps 83 = .ok (.iinc 5 1, 3) := by decide +kernel
theorem dX8_steps_86 : decode cX8_steps 86 = .ok (.goto (-36), 3) := by decide +kernel
theorem dX8_steps_89 : decode cX8_steps 89 = .ok (.iload 4, 2) := by decide +kernel
theorem dX8_steps_91 : decode cX8_steps 91 = .ok (.iload_n 2, 1) := by decide +kernel
theorem dX8_steps_92 : decode cX8_steps 92 = .ok (.if_icmp .ne 6, 3) := by decide +kernel
theorem dX8_steps_95 : decode cX8_steps 95 = .ok (.iload 5, 2) := by decide +kernel
theorem dX8_steps_97 : decode cX8_steps 97 = .ok (.ireturn, 1) := by decide +kernel
theorem dX8_steps_98 : decode cX8_steps 98 = .ok (.aload_n 0, 1) := by decide +kernel
theorem dX8_steps_99 : decode cX8_steps 99 = .ok (.iload 5, 2) := by decide +kernel
theorem dX8_steps_101 : decode cX8_steps 101 = .ok (.iload_n 3, 1) := by decide +kernel
theorem dX8_steps_102 : decode cX8_steps 102 = .ok (.invokevirtual 223, 3) := by decide +kernel
theorem dX8_steps_105 : decode cX8_steps 105 = .ok (.istore_n 3, 1) := by decide +kernel
theorem dX8_steps_106 : decode cX8_steps 106 = .ok (.iinc 4 1, 3) := by decide +kernel
theorem dX8_steps_109 : decode cX8_steps 109 = .ok (.goto (-67), 3) := by decide +kernel
theorem dX8_steps_112 : decode cX8_steps 112 = .ok (.iload_n 2, 1) := by decide +kernel
theorem dX8_steps_113 : decode cX8_steps 113 = .ok (.iconst (-1), 1) := by decide +kernel
theorem dX8_steps_114 : decode cX8_steps 114 = .ok (.if_icmp .ne 8, 3) := by decide +kernel
theorem dX8_steps_117 : decode cX8_steps 117 = .ok (.iload 4, 2) := by decide +kernel
theorem dX8_steps_119 : decode cX8_steps 119 = .ok (.goto 5, 3) := by decide +kernel
theorem dX8_steps_122 : decode cX8_steps 122 = .ok (.bipush (-4), 2) := by decide +kernel
theorem dX8_steps_124 : decode cX8_steps 124 = .ok (.ireturn, 1) := by decide +kernel
theorem dX8_farthest_0 : decode cX8_farthest 0 = .ok (.iload_n 1, 1) := by decide +kernel
theorem dX8_farthest_1 : decode cX8_farthest 1 = .ok (.i2l, 1) := by decide +kernel
theorem dX8_farthest_2 : decode cX8_farthest 2 = .ok (.lconst 0, 1) := by decide +kernel
theorem dX8_farthest_3 : decode cX8_farthest 3 = .ok (.lconst 1, 1) := by decide +kernel
theorem dX8_farthest_4 : decode cX8_farthest 4 = .ok (.invokestatic 58, 3) := by decide +kernel
theorem dX8_farthest_7 : decode cX8_farthest 7 = .ok (.ifCond .ne 5, 3) := by decide +kernel
theorem dX8_farthest_10 : decode cX8_farthest 10 = .ok (.iconst (-1), 1) := by decide +kernel
theorem dX8_farthest_11 : decode cX8_farthest 11 = .ok (.ireturn, 1) := by decide +kernel
end
section
theorem dX8_farthest_12 : decode cX8_farthest 12 = .ok (.iconst (-1), 1) := by decide +kernel
theorem dX8_farthest_13 : decode cX8_farthest 13 = .ok (.istore_n 2, 1) := by decide +kernel
theorem dX8_farthest_14 : decode cX8_farthest 14 = .ok (.iconst 0, 1) := by decide +kernel
theorem dX8_farthest_15 : decode cX8_farthest 15 = .ok (.istore_n 3, 1) := by decide +kernel
theorem dX8_farthest_16 : decode cX8_farthest 16 = .ok (.aload_n 0, 1) := by decide +kernel
theorem dX8_farthest_17 : decode cX8_farthest 17 = .ok (.invokevirtual 232, 3) := by decide +kernel
theorem dX8_farthest_20 : decode cX8_farthest 20 = .ok (.istore 4, 2) := by decide +kernel
theorem dX8_farthest_22 : decode cX8_farthest 22 = .ok (.iconst 0, 1) := by decide +kernel
theorem dX8_farthest_23 : decode cX8_farthest 23 = .ok (.istore 5, 2) := by decide +kernel
theorem dX8_farthest_25 : decode cX8_farthest 25 = .ok (.iload 5, 2) := by decide +kernel
theorem dX8_farthest_27 : decode cX8_farthest 27 = .ok (.aload_n 0, 1) := by decide +kernel
theorem dX8_farthest_28 : decode cX8_farthest 28 = .ok (.invokevirtual 77, 3) := by decide +kernel
theorem dX8_farthest_31 : decode cX8_farthest 31 = .ok (.if_icmp .gt 56, 3) := by decide +kernel
theorem dX8_farthest_34 : decode cX8_farthest 34 = .ok (.aload_n 0, 1) := by decide +kernel
theorem dX8_farthest_35 : decode cX8_farthest 35 = .ok (.iload 5, 2) := by decide +kernel
theorem dX8_farthest_37 : decode cX8_farthest 37 = .ok (.invokevirtual 229, 3) := by decide +kernel
theorem dX8_farthest_40 : decode cX8_farthest 40 = .ok (.aload_n 0, 1) := by decide +kernel
theorem dX8_farthest_41 : decode cX8_farthest 41 = .ok (.getfield 22, 3) := by decide +kernel
theorem dX8_farthest_44 : decode cX8_farthest 44 = .ok (.iload 4, 2) := by decide +kernel
theorem dX8_farthest_46 : decode cX8_farthest 46 = .ok (.iaload, 1) := by decide +kernel
theorem dX8_farthest_47 : decode cX8_farthest 47 = .ok (.iload_n 2, 1) := by decide +kernel
theorem dX8_farthest_48 : decode cX8_farthest 48 = .ok (.if_icmp .le 8, 3) := by decide +kernel
theorem dX8_farthest_51 : decode cX8_farthest 51 = .ok (.iload 5, 2) := by decide +kernel
theorem dX8_farthest_53 : decode cX8_farthest 53 = .ok (.goto 4, 3) := by decide +kernel
theorem dX8_farthest_56 : decode cX8_farthest 56 = .ok (.iload_n 3, 1) := by decide +kernel
theorem dX8_farthest_57 : decode cX8_farthest 57 = .ok (.istore_n 3, 1) := by decide +kernel
theorem dX8_farthest_58 : decode cX8_farthest 58 = .ok (.aload_n 0, 1) := by decide +kernel
theorem dX8_farthest_59 : decode cX8_farthest 59 = .ok (.getfield 22, 3) := by decide +kernel
theorem dX8_farthest_62 : decode cX8_farthest 62 = .ok (.iload 4, 2) := by decide +kernel
theorem dX8_farthest_64 : decode cX8_farthest 64 = .ok (.iaload, 1) := by decide +kernel
theorem dX8_farthest_65 : decode cX8_farthest 65 = .ok (.iload_n 2, 1) := by decide +kernel
theorem dX8_farthest_66 : decode cX8_farthest 66 = .ok (.if_icmp .le 13, 3) := by decide +kernel
theorem dX8_farthest_69 : decode cX8_farthest 69 = .ok (.aload_n 0, 1) := by decide +kernel
theorem dX8_farthest_70 : decode cX8_farthest 70 = .ok (.getfield 22, 3) := by decide +kernel
theorem dX8_farthest_73 : decode cX8_farthest 73 = .ok (.iload 4, 2) := by decide +kernel
theorem dX8_farthest_75 : decode cX8_farthest 75 = .ok (.iaload, 1) := by decide +kernel
theorem dX8_farthest_76 : decode cX8_farthest 76 = .ok (.goto 4, 3) := by decide +kernel
theorem dX8_farthest_79 : decode cX8_farthest 79 = .ok (.iload_n 2, 1) := by decide +kernel
theorem dX8_farthest_80 : decode cX8_farthest 80 = .ok (.istore_n 2, 1) := by decide +kernel
theorem dX8_farthest_81 : decode cX8_farthest 81 = .ok (.iinc 5 1, 3) := by decide +kernel
theorem dX8_farthest_84 : decode cX8_farthest 84 = .ok (.goto (-59), 3) := by decide +kernel
theorem dX8_farthest_87 : decode cX8_farthest 87 = .ok (.iload_n 1, 1) := by decide +kernel
theorem dX8_farthest_88 : decode cX8_farthest 88 = .ok (.ifCond .ne 7, 3) := by decide +kernel
theorem dX8_farthest_91 : decode cX8_farthest 91 = .ok (.iload_n 2, 1) := by decide +kernel
theorem dX8_farthest_92 : decode cX8_farthest 92 = .ok (.goto 4, 3) := by decide +kernel
theorem dX8_farthest_95 : decode cX8_farthest 95 = .ok (.iload_n 3, 1) := by decide +kernel
theorem dX8_farthest_96 : decode cX8_farthest 96 = .ok (.ireturn, 1) := by decide +kernel
theorem dX8_once_0 : decode cX8_once 0 = .ok (.aload_n 0, 1) := by decide +kernel
theorem dX8_once_1 : decode cX8_once 1 = .ok (.iload_n 1, 1) := by decide +kernel
theorem dX8_once_2 : decode cX8_once 2 = .ok (.invokevirtual 226, 3) := by decide +kernel
theorem dX8_once_5 : decode cX8_once 5 = .ok (.ifCond .ne 5, 3) := by decide +kernel
theorem dX8_once_8 : decode cX8_once 8 = .ok (.iconst (-1), 1) := by decide +kernel
theorem dX8_once_9 : decode cX8_once 9 = .ok (.ireturn, 1) := by decide +kernel
theorem dX8_once_10 : decode cX8_once 10 = .ok (.iconst 0, 1) := by decide +kernel
theorem dX8_once_11 : decode cX8_once 11 = .ok (.istore_n 2, 1) := by decide +kernel
theorem dX8_once_12 : decode cX8_once 12 = .ok (.iconst 0, 1) := by decide +kernel
theorem dX8_once_13 : decode cX8_once 13 = .ok (.istore_n 3, 1) := by decide +kernel
theorem dX8_once_14 : decode cX8_once 14 = .ok (.iload_n 3, 1) := by decide +kernel
theorem dX8_once_15 : decode cX8_once 15 = .ok (.bipush 7, 2) := by decide +kernel
theorem dX8_once_17 : decode cX8_once 17 = .ok (.if_icmp .ge 32, 3) := by decide +kernel
theorem dX8_once_20 : decode cX8_once 20 = .ok (.iload_n 2, 1) := by decide +kernel
theorem dX8_once_21 : decode cX8_once 21 = .ok (.aload_n 0, 1) := by decide +kernel
theorem dX8_once_22 : decode cX8_once 22 = .ok (.iload_n 3, 1) := by decide +kernel
theorem dX8_once_23 : decode cX8_once 23 = .ok (.aload_n 0, 1) := by decide +kernel
theorem dX8_once_24 : decode cX8_once 24 = .ok (.invokevirtual 232, 3) := by decide +kernel
theorem dX8_once_27 : decode cX8_once 27 = .ok (.invokevirtual 223, 3) := by decide +kernel
theorem dX8_once_30 : decode cX8_once 30 = .ok (.iload_n 1, 1) := by decide +kernel
theorem dX8_once_31 : decode cX8_once 31 = .ok (.if_icmp .ne 9, 3) := by decide +kernel
theorem dX8_once_34 : decode cX8_once 34 = .ok (.iconst 1, 1) := by decide +kernel
theorem dX8_once_35 : decode cX8_once 35 = .ok (.iload_n 3, 1) := by decide +kernel
theorem dX8_once_36 : decode cX8_once 36 = .ok (.ishl, 1) := by decide +kernel
theorem dX8_once_37 : decode cX8_once 37 = .ok (.goto 4, 3) := by decide +kernel
theorem dX8_once_40 : decode cX8_once 40 = .ok (.iconst 0, 1) := by decide +kernel
theorem dX8_once_41 : decode cX8_once 41 = .ok (.ior, 1) := by decide +kernel
theorem dX8_once_42 : decode cX8_once 42 = .ok (.istore_n 2, 1) := by decide +kernel
theorem dX8_once_43 : decode cX8_once 43 = .ok (.iinc 3 1, 3) := by decide +kernel
theorem dX8_once_46 : decode cX8_once 46 = .ok (.goto (-32), 3) := by decide +kernel
theorem dX8_once_49 : decode cX8_once 49 = .ok (.iload_n 2, 1) := by decide +kernel
theorem dX8_once_50 : decode cX8_once 50 = .ok (.ireturn, 1) := by decide +kernel
theorem dX8_goes_0 : decode cX8_goes 0 = .ok (.iload_n 1, 1) := by decide +kernel
theorem dX8_goes_1 : decode cX8_goes 1 = .ok (.invokestatic 216, 3) := by decide +kernel
theorem dX8_goes_4 : decode cX8_goes 4 = .ok (.ifCond .eq 15, 3) := by decide +kernel
theorem dX8_goes_7 : decode cX8_goes 7 = .ok (.iload_n 2, 1) := by decide +kernel
theorem dX8_goes_8 : decode cX8_goes 8 = .ok (.i2l, 1) := by decide +kernel
theorem dX8_goes_9 : decode cX8_goes 9 = .ok (.lconst 1, 1) := by decide +kernel
theorem dX8_goes_10 : decode cX8_goes 10 = .ok (.ldc2_w 235, 3) := by decide +kernel
theorem dX8_goes_13 : decode cX8_goes 13 = .ok (.invokestatic 58, 3) := by decide +kernel
theorem dX8_goes_16 : decode cX8_goes 16 = .ok (.ifCond .ne 5, 3) := by decide +kernel
theorem dX8_goes_19 : decode cX8_goes 19 = .ok (.iconst (-1), 1) := by decide +kernel
theorem dX8_goes_20 : decode cX8_goes 20 = .ok (.ireturn, 1) := by decide +kernel
theorem dX8_goes_21 : decode cX8_goes 21 = .ok (.aload_n 0, 1) := by decide +kernel
theorem dX8_goes_22 : decode cX8_goes 22 = .ok (.invokevirtual 232, 3) := by decide +kernel
theorem dX8_goes_25 : decode cX8_goes 25 = .ok (.istore_n 3, 1) := by decide +kernel
theorem dX8_goes_26 : decode cX8_goes 26 = .ok (.iload_n 3, 1) := by decide +kernel
theorem dX8_goes_27 : decode cX8_goes 27 = .ok (.istore 4, 2) := by decide +kernel
theorem dX8_goes_29 : decode cX8_goes 29 = .ok (.iconst 0, 1) := by decide +kernel
theorem dX8_goes_30 : decode cX8_goes 30 = .ok (.istore 5, 2) := by decide +kernel
theorem dX8_goes_32 : decode cX8_goes 32 = .ok (.iload 5, 2) := by decide +kernel
theorem dX8_goes_34 : decode cX8_goes 34 = .ok (.iload_n 2, 1) := by decide +kernel
theorem dX8_goes_35 : decode cX8_goes 35 = .ok (.if_icmp .ge 18, 3) := by decide +kernel
theorem dX8_goes_38 : decode cX8_goes 38 = .ok (.aload_n 0, 1) := by decide +kernel
theorem dX8_goes_39 : decode cX8_goes 39 = .ok (.iload_n 1, 1) := by decide +kernel
theorem dX8_goes_40 : decode cX8_goes 40 = .ok (.iload 4, 2) := by decide +kernel
theorem dX8_goes_42 : decode cX8_goes 42 = .ok (.invokevirtual 119, 3) := by decide +kernel
theorem dX8_goes_45 : decode cX8_goes 45 = .ok (.istore 4, 2) := by decide +kernel
theorem dX8_goes_47 : decode cX8_goes 47 = .ok (.iinc 5 1, 3) := by decide +kernel
theorem dX8_goes_50 : decode cX8_goes 50 = .ok (.goto (-18), 3) := by decide +kernel
theorem dX8_goes_53 : decode cX8_goes 53 = .ok (.iload_n 3, 1) := by decide +kernel
theorem dX8_goes_54 : decode cX8_goes 54 = .ok (.iload 4, 2) := by decide +kernel
theorem dX8_goes_56 : decode cX8_goes 56 = .ok (.invokestatic 94, 3) := by decide +kernel
theorem dX8_goes_59 : decode cX8_goes 59 = .ok (.istore 5, 2) := by decide +kernel
theorem dX8_goes_61 : decode cX8_goes 61 = .ok (.iload 5, 2) := by decide +kernel
theorem dX8_goes_63 : decode cX8_goes 63 = .ok (.iload_n 3, 1) := by decide +kernel
theorem dX8_goes_64 : decode cX8_goes 64 = .ok (.if_icmp .ne 8, 3) := by decide +kernel
theorem dX8_goes_67 : decode cX8_goes 67 = .ok (.iload 4, 2) := by decide +kernel
theorem dX8_goes_69 : decode cX8_goes 69 = .ok (.goto 4, 3) := by decide +kernel
theorem dX8_goes_72 : decode cX8_goes 72 = .ok (.iload_n 3, 1) := by decide +kernel
theorem dX8_goes_73 : decode cX8_goes 73 = .ok (.istore 6, 2) := by decide +kernel
theorem dX8_goes_75 : decode cX8_goes 75 = .ok (.iload_n 1, 1) := by decide +kernel
theorem dX8_goes_76 : decode cX8_goes 76 = .ok (.iconst 3, 1) := by decide +kernel
theorem dX8_goes_77 : decode cX8_goes 77 = .ok (.if_icmp .eq 9, 3) := by decide +kernel
theorem dX8_goes_80 : decode cX8_goes 80 = .ok (.iload_n 1, 1) := by decide +kernel
theorem dX8_goes_81 : decode cX8_goes 81 = .ok (.bipush 6, 2) := by decide +kernel
theorem dX8_goes_83 : decode cX8_goes 83 = .ok (.if_icmp .ne 7, 3) := by decide +kernel
theorem dX8_goes_86 : decode cX8_goes 86 = .ok (.iconst 1, 1) := by decide +kernel
theorem dX8_goes_87 : decode cX8_goes 87 = .ok (.goto 4, 3) := by decide +kernel
theorem dX8_goes_90 : decode cX8_goes 90 = .ok (.iconst 0, 1) := by decide +kernel
theorem dX8_goes_91 : decode cX8_goes 91 = .ok (.istore 7, 2) := by decide +kernel
theorem dX8_goes_93 : decode cX8_goes 93 = .ok (.iload 6, 2) := by decide +kernel
theorem dX8_goes_95 : decode cX8_goes 95 = .ok (.iload 7, 2) := by decide +kernel
theorem dX8_goes_97 : decode cX8_goes 97 = .ok (.ifCond .eq 7, 3) := by decide +kernel
theorem dX8_goes_100 : decode cX8_goes 100 = .ok (.iconst 1, 1) := by decide +kernel
theorem dX8_goes_101 : decode cX8_goes 101 = .ok (.goto 4, 3) := by decide +kernel
theorem dX8_goes_104 : decode cX8_goes 104 = .ok (.iconst 0, 1) := by decide +kernel
theorem dX8_goes_105 : decode cX8_goes 105 = .ok (.iadd, 1) := by decide +kernel
theorem dX8_goes_106 : decode cX8_goes 106 = .ok (.aload_n 0, 1) := by decide +kernel
theorem dX8_goes_107 : decode cX8_goes 107 = .ok (.getfield 7, 3) := by decide +kernel
theorem dX8_goes_110 : decode cX8_goes 110 = .ok (.iconst 0, 1) := by decide +kernel
theorem dX8_goes_111 : decode cX8_goes 111 = .ok (.iaload, 1) := by decide +kernel
theorem dX8_goes_112 : decode cX8_goes 112 = .ok (.invokestatic 94, 3) := by decide +kernel
theorem dX8_goes_115 : decode cX8_goes 115 = .ok (.iload 5, 2) := by decide +kernel
theorem dX8_goes_117 : decode cX8_goes 117 = .ok (.isub, 1) := by decide +kernel
theorem dX8_goes_118 : decode cX8_goes 118 = .ok (.ireturn, 1) := by decide +kernel
theorem dX8_struck_0 : decode cX8_struck 0 = .ok (.aload_n 0, 1) := by decide +kernel
theorem dX8_struck_1 : decode cX8_struck 1 = .ok (.iload_n 1, 1) := by decide +kernel
theorem dX8_struck_2 : decode cX8_struck 2 = .ok (.invokevirtual 226, 3) := by decide +kernel
theorem dX8_struck_5 : decode cX8_struck 5 = .ok (.ifCond .eq 25, 3) := by decide +kernel
theorem dX8_struck_8 : decode cX8_struck 8 = .ok (.iload_n 2, 1) := by decide +kernel
theorem dX8_struck_9 : decode cX8_struck 9 = .ok (.i2l, 1) := by decide +kernel
theorem dX8_struck_10 : decode cX8_struck 10 = .ok (.lconst 0, 1) := by decide +kernel
theorem dX8_struck_11 : decode cX8_struck 11 = .ok (.ldc2_w 237, 3) := by decide +kernel
theorem dX8_struck_14 : decode cX8_struck 14 = .ok (.invokestatic 58, 3) := by decide +kernel
theorem dX8_struck_17 : decode cX8_struck 17 = .ok (.ifCond .eq 13, 3) := by decide +kernel
theorem dX8_struck_20 : decode cX8_struck 20 = .ok (.iload_n 3, 1) := by decide +kernel
theorem dX8_struck_21 : decode cX8_struck 21 = .ok (.i2l, 1) := by decide +kernel
theorem dX8_struck_22 : decode cX8_struck 22 = .ok (.lconst 0, 1) := by decide +kernel
theorem dX8_struck_23 : decode cX8_struck 23 = .ok (.lconst 1, 1) := by decide +kernel
theorem dX8_struck_24 : decode cX8_struck 24 = .ok (.invokestatic 58, 3) := by decide +kernel
theorem dX8_struck_27 : decode cX8_struck 27 = .ok (.ifCond .ne 5, 3) := by decide +kernel
theorem dX8_struck_30 : decode cX8_struck 30 = .ok (.iconst (-1), 1) := by decide +kernel
theorem dX8_struck_31 : decode cX8_struck 31 = .ok (.ireturn, 1) := by decide +kernel
theorem dX8_struck_32 : decode cX8_struck 32 = .ok (.iconst 0, 1) := by decide +kernel
theorem dX8_struck_33 : decode cX8_struck 33 = .ok (.istore 4, 2) := by decide +kernel
theorem dX8_struck_35 : decode cX8_struck 35 = .ok (.iload 4, 2) := by decide +kernel
theorem dX8_struck_37 : decode cX8_struck 37 = .ok (.bipush 60, 2) := by decide +kernel
theorem dX8_struck_39 : decode cX8_struck 39 = .ok (.if_icmp .ge 30, 3) := by decide +kernel
theorem dX8_struck_42 : decode cX8_struck 42 = .ok (.aload_n 0, 1) := by decide +kernel
theorem dX8_struck_43 : decode cX8_struck 43 = .ok (.getfield 25, 3) := by decide +kernel
theorem dX8_struck_46 : decode cX8_struck 46 = .ok (.iload 4, 2) := by decide +kernel
theorem dX8_struck_48 : decode cX8_struck 48 = .ok (.iload 4, 2) := by decide +kernel
theorem dX8_struck_50 : decode cX8_struck 50 = .ok (.aload_n 0, 1) := by decide +kernel
theorem dX8_struck_51 : decode cX8_struck 51 = .ok (.invokevirtual 232, 3) := by decide +kernel
theorem dX8_struck_54 : decode cX8_struck 54 = .ok (.if_icmp .ne 7, 3) := by decide +kernel
theorem dX8_struck_57 : decode cX8_struck 57 = .ok (.iconst 1, 1) := by decide +kernel
theorem dX8_struck_58 : decode cX8_struck 58 = .ok (.goto 4, 3) := by decide +kernel
theorem dX8_struck_61 : decode cX8_struck 61 = .ok (.iconst 0, 1) := by decide +kernel
theorem dX8_struck_62 : decode cX8_struck 62 = .ok (.iastore, 1) := by decide +kernel
theorem dX8_struck_63 : decode cX8_struck 63 = .ok (.iinc 4 1, 3) := by decide +kernel
theorem dX8_struck_66 : decode cX8_struck 66 = .ok (.goto (-31), 3) := by decide +kernel
theorem dX8_struck_69 : decode cX8_struck 69 = .ok (.iconst 1, 1) := by decide +kernel
theorem dX8_struck_70 : decode cX8_struck 70 = .ok (.istore 4, 2) := by decide +kernel
theorem dX8_struck_72 : decode cX8_struck 72 = .ok (.iconst 0, 1) := by decide +kernel
theorem dX8_struck_73 : decode cX8_struck 73 = .ok (.istore 5, 2) := by decide +kernel
theorem dX8_struck_75 : decode cX8_struck 75 = .ok (.iload 5, 2) := by decide +kernel
theorem dX8_struck_77 : decode cX8_struck 77 = .ok (.iload_n 2, 1) := by decide +kernel
theorem dX8_struck_78 : decode cX8_struck 78 = .ok (.if_icmp .ge 127, 3) := by decide +kernel
theorem dX8_struck_81 : decode cX8_struck 81 = .ok (.iconst 0, 1) := by decide +kernel
theorem dX8_struck_82 : decode cX8_struck 82 = .ok (.istore 6, 2) := by decide +kernel
theorem dX8_struck_84 : decode cX8_struck 84 = .ok (.iload 6, 2) := by decide +kernel
theorem dX8_struck_86 : decode cX8_struck 86 = .ok (.bipush 60, 2) := by decide +kernel
theorem dX8_struck_88 : decode cX8_struck 88 = .ok (.if_icmp .ge 17, 3) := by decide +kernel
theorem dX8_struck_91 : decode cX8_struck 91 = .ok (.aload_n 0, 1) := by decide +kernel
theorem dX8_struck_92 : decode cX8_struck 92 = .ok (.getfield 28, 3) := by decide +kernel
theorem dX8_struck_95 : decode cX8_struck 95 = .ok (.iload 6, 2) := by decide +kernel
theorem dX8_struck_97 : decode cX8_struck 97 = .ok (.iconst 0, 1) := by decide +kernel
theorem dX8_struck_98 : decode cX8_struck 98 = .ok (.iastore, 1) := by decide +kernel
theorem dX8_struck_99 : decode cX8_struck 99 = .ok (.iinc 6 1, 3) := by decide +kernel
theorem dX8_struck_102 : decode cX8_struck 102 = .ok (.goto (-18), 3) := by decide +kernel
theorem dX8_struck_105 : decode cX8_struck 105 = .ok (.iconst 0, 1) := by decide +kernel
theorem dX8_struck_106 : decode cX8_struck 106 = .ok (.istore 6, 2) := by decide +kernel
theorem dX8_struck_108 : decode cX8_struck 108 = .ok (.iload 6, 2) := by decide +kernel
theorem dX8_struck_110 : decode cX8_struck 110 = .ok (.aload_n 0, 1) := by decide +kernel
theorem dX8_struck_111 : decode cX8_struck 111 = .ok (.invokevirtual 77, 3) := by decide +kernel
theorem dX8_struck_114 : decode cX8_struck 114 = .ok (.if_icmp .gt 48, 3) := by decide +kernel
theorem dX8_struck_117 : decode cX8_struck 117 = .ok (.iconst 0, 1) := by decide +kernel
theorem dX8_struck_118 : decode cX8_struck 118 = .ok (.istore 7, 2) := by decide +kernel
theorem dX8_struck_120 : decode cX8_struck 120 = .ok (.iload 7, 2) := by decide +kernel
theorem dX8_struck_122 : decode cX8_struck 122 = .ok (.bipush 7, 2) := by decide +kernel
theorem dX8_struck_124 : decode cX8_struck 124 = .ok (.if_icmp .ge 32, 3) := by decide +kernel
theorem dX8_struck_127 : decode cX8_struck 127 = .ok (.aload_n 0, 1) := by decide +kernel
theorem dX8_struck_128 : decode cX8_struck 128 = .ok (.getfield 28, 3) := by decide +kernel
theorem dX8_struck_131 : decode cX8_struck 131 = .ok (.aload_n 0, 1) := by decide +kernel
theorem dX8_struck_132 : decode cX8_struck 132 = .ok (.iload 7, 2) := by decide +kernel
theorem dX8_struck_134 : decode cX8_struck 134 = .ok (.iload 6, 2) := by decide +kernel
theorem dX8_struck_136 : decode cX8_struck 136 = .ok (.invokevirtual 223, 3) := by decide +kernel
theorem dX8_struck_139 : decode cX8_struck 139 = .ok (.dup2, 1) := by decide +kernel
theorem dX8_struck_140 : decode cX8_struck 140 = .ok (.iaload, 1) := by decide +kernel
theorem dX8_struck_141 : decode cX8_struck 141 = .ok (.aload_n 0, 1) := by decide +kernel
theorem dX8_struck_142 : decode cX8_struck 142 = .ok (.getfield 25, 3) := by decide +kernel
theorem dX8_struck_145 : decode cX8_struck 145 = .ok (.iload 6, 2) := by decide +kernel
theorem dX8_struck_147 : decode cX8_struck 147 = .ok (.iaload, 1) := by decide +kernel
theorem dX8_struck_148 : decode cX8_struck 148 = .ok (.iadd, 1) := by decide +kernel
theorem dX8_struck_149 : decode cX8_struck 149 = .ok (.iastore, 1) := by decide +kernel
theorem dX8_struck_150 : decode cX8_struck 150 = .ok (.iinc 7 1, 3) := by decide +kernel
theorem dX8_struck_153 : decode cX8_struck 153 = .ok (.goto (-33), 3) := by decide +kernel
theorem dX8_struck_156 : decode cX8_struck 156 = .ok (.iinc 6 1, 3) := by decide +kernel
theorem dX8_struck_159 : decode cX8_struck 159 = .ok (.goto (-51), 3) := by decide +kernel
theorem dX8_struck_162 : decode cX8_struck 162 = .ok (.iconst 0, 1) := by decide +kernel
theorem dX8_struck_163 : decode cX8_struck 163 = .ok (.istore 6, 2) := by decide +kernel
theorem dX8_struck_165 : decode cX8_struck 165 = .ok (.iload 6, 2) := by decide +kernel
theorem dX8_struck_167 : decode cX8_struck 167 = .ok (.bipush 60, 2) := by decide +kernel
theorem dX8_struck_169 : decode cX8_struck 169 = .ok (.if_icmp .ge 23, 3) := by decide +kernel
theorem dX8_struck_172 : decode cX8_struck 172 = .ok (.aload_n 0, 1) := by decide +kernel
theorem dX8_struck_173 : decode cX8_struck 173 = .ok (.getfield 25, 3) := by decide +kernel
theorem dX8_struck_176 : decode cX8_struck 176 = .ok (.iload 6, 2) := by decide +kernel
theorem dX8_struck_178 : decode cX8_struck 178 = .ok (.aload_n 0, 1) := by decide +kernel
theorem dX8_struck_179 : decode cX8_struck 179 = .ok (.getfield 28, 3) := by decide +kernel
theorem dX8_struck_182 : decode cX8_struck 182 = .ok (.iload 6, 2) := by decide +kernel
theorem dX8_struck_184 : decode cX8_struck 184 = .ok (.iaload, 1) := by decide +kernel
theorem dX8_struck_185 : decode cX8_struck 185 = .ok (.iastore, 1) := by decide +kernel
theorem dX8_struck_186 : decode cX8_struck 186 = .ok (.iinc 6 1, 3) := by decide +kernel
theorem dX8_struck_189 : decode cX8_struck 189 = .ok (.goto (-24), 3) := by decide +kernel
theorem dX8_struck_192 : decode cX8_struck 192 = .ok (.iload 4, 2) := by decide +kernel
theorem dX8_struck_194 : decode cX8_struck 194 = .ok (.bipush 7, 2) := by decide +kernel
theorem dX8_struck_196 : decode cX8_struck 196 = .ok (.imul, 1) := by decide +kernel
theorem dX8_struck_197 : decode cX8_struck 197 = .ok (.istore 4, 2) := by decide +kernel
theorem dX8_struck_199 : decode cX8_struck 199 = .ok (.iinc 5 1, 3) := by decide +kernel
theorem dX8_struck_202 : decode cX8_struck 202 = .ok (.goto (-127), 3) := by decide +kernel
theorem dX8_struck_205 : decode cX8_struck 205 = .ok (.aload_n 0, 1) := by decide +kernel
theorem dX8_struck_206 : decode cX8_struck 206 = .ok (.getfield 25, 3) := by decide +kernel
theorem dX8_struck_209 : decode cX8_struck 209 = .ok (.iload_n 1, 1) := by decide +kernel
theorem dX8_struck_210 : decode cX8_struck 210 = .ok (.iaload, 1) := by decide +kernel
theorem dX8_struck_211 : decode cX8_struck 211 = .ok (.istore 5, 2) := by decide +kernel
theorem dX8_struck_213 : decode cX8_struck 213 = .ok (.iload 4, 2) := by decide +kernel
theorem dX8_struck_215 : decode cX8_struck 215 = .ok (.istore 6, 2) := by decide +kernel
theorem dX8_struck_217 : decode cX8_struck 217 = .ok (.iload 6, 2) := by decide +kernel
theorem dX8_struck_219 : decode cX8_struck 219 = .ok (.ifCond .eq 21, 3) := by decide +kernel
theorem dX8_struck_222 : decode cX8_struck 222 = .ok (.iload 5, 2) := by decide +kernel
theorem dX8_struck_224 : decode cX8_struck 224 = .ok (.iload 6, 2) := by decide +kernel
theorem dX8_struck_226 : decode cX8_struck 226 = .ok (.irem, 1) := by decide +kernel
theorem dX8_struck_227 : decode cX8_struck 227 = .ok (.istore 7, 2) := by decide +kernel
theorem dX8_struck_229 : decode cX8_struck 229 = .ok (.iload 6, 2) := by decide +kernel
theorem dX8_struck_231 : decode cX8_struck 231 = .ok (.istore 5, 2) := by decide +kernel
theorem dX8_struck_233 : decode cX8_struck 233 = .ok (.iload 7, 2) := by decide +kernel
theorem dX8_struck_235 : decode cX8_struck 235 = .ok (.istore 6, 2) := by decide +kernel
theorem dX8_struck_237 : decode cX8_struck 237 = .ok (.goto (-20), 3) := by decide +kernel
theorem dX8_struck_240 : decode cX8_struck 240 = .ok (.iload_n 3, 1) := by decide +kernel
theorem dX8_struck_241 : decode cX8_struck 241 = .ok (.ifCond .ne 12, 3) := by decide +kernel
theorem dX8_struck_244 : decode cX8_struck 244 = .ok (.aload_n 0, 1) := by decide +kernel
theorem dX8_struck_245 : decode cX8_struck 245 = .ok (.getfield 25, 3) := by decide +kernel
theorem dX8_struck_248 : decode cX8_struck 248 = .ok (.iload_n 1, 1) := by decide +kernel
theorem dX8_struck_249 : decode cX8_struck 249 = .ok (.iaload, 1) := by decide +kernel
theorem dX8_struck_250 : decode cX8_struck 250 = .ok (.goto 5, 3) := by decide +kernel
theorem dX8_struck_253 : decode cX8_struck 253 = .ok (.iload 4, 2) := by decide +kernel
theorem dX8_struck_255 : decode cX8_struck 255 = .ok (.iload 5, 2) := by decide +kernel
theorem dX8_struck_257 : decode cX8_struck 257 = .ok (.idiv, 1) := by decide +kernel
theorem dX8_struck_258 : decode cX8_struck 258 = .ok (.ireturn, 1) := by decide +kernel
theorem dX8_image_0 : decode cX8_image 0 = .ok (.iconst 0, 1) := by decide +kernel
theorem dX8_image_1 : decode cX8_image 1 = .ok (.istore_n 1, 1) := by decide +kernel
theorem dX8_image_2 : decode cX8_image 2 = .ok (.iload_n 1, 1) := by decide +kernel
theorem dX8_image_3 : decode cX8_image 3 = .ok (.sipush 263, 3) := by decide +kernel
theorem dX8_image_6 : decode cX8_image 6 = .ok (.if_icmp .ge 21, 3) := by decide +kernel
theorem dX8_image_9 : decode cX8_image 9 = .ok (.aload_n 0, 1) := by decide +kernel
theorem dX8_image_10 : decode cX8_image 10 = .ok (.getfield 31, 3) := by decide +kernel
theorem dX8_image_13 : decode cX8_image 13 = .ok (.iload_n 1, 1) := by decide +kernel
theorem dX8_image_14 : decode cX8_image 14 = .ok (.aload_n 0, 1) := by decide +kernel
theorem dX8_image_15 : decode cX8_image 15 = .ok (.getfield 7, 3) := by decide +kernel
theorem dX8_image_18 : decode cX8_image 18 = .ok (.iload_n 1, 1) := by decide +kernel
theorem dX8_image_19 : decode cX8_image 19 = .ok (.iaload, 1) := by decide +kernel
theorem dX8_image_20 : decode cX8_image 20 = .ok (.iastore, 1) := by decide +kernel
theorem dX8_image_21 : decode cX8_image 21 = .ok (.iinc 1 1, 3) := by decide +kernel
theorem dX8_image_24 : decode cX8_image 24 = .ok (.goto (-22), 3) := by decide +kernel
theorem dX8_image_27 : decode cX8_image 27 = .ok (.iconst 0, 1) := by decide +kernel
theorem dX8_image_28 : decode cX8_image 28 = .ok (.istore_n 1, 1) := by decide +kernel
theorem dX8_image_29 : decode cX8_image 29 = .ok (.iload_n 1, 1) := by decide +kernel
theorem dX8_image_30 : decode cX8_image 30 = .ok (.sipush 496, 3) := by decide +kernel
theorem dX8_image_33 : decode cX8_image 33 = .ok (.if_icmp .ge 21, 3) := by decide +kernel
theorem dX8_image_36 : decode cX8_image 36 = .ok (.aload_n 0, 1) := by decide +kernel
theorem dX8_image_37 : decode cX8_image 37 = .ok (.getfield 34, 3) := by decide +kernel
theorem dX8_image_40 : decode cX8_image 40 = .ok (.iload_n 1, 1) := by decide +kernel
theorem dX8_image_41 : decode cX8_image 41 = .ok (.aload_n 0, 1) := by decide +kernel
theorem dX8_image_42 : decode cX8_image 42 = .ok (.getfield 13, 3) := by decide +kernel
theorem dX8_image_45 : decode cX8_image 45 = .ok (.iload_n 1, 1) := by decide +kernel
theorem dX8_image_46 : decode cX8_image 46 = .ok (.iaload, 1) := by decide +kernel
theorem dX8_image_47 : decode cX8_image 47 = .ok (.iastore, 1) := by decide +kernel
theorem dX8_image_48 : decode cX8_image 48 = .ok (.iinc 1 1, 3) := by decide +kernel
theorem dX8_image_51 : decode cX8_image 51 = .ok (.goto (-22), 3) := by decide +kernel
theorem dX8_image_54 : decode cX8_image 54 = .ok (.aload_n 0, 1) := by decide +kernel
theorem dX8_image_55 : decode cX8_image 55 = .ok (.aload_n 0, 1) := by decide +kernel
theorem dX8_image_56 : decode cX8_image 56 = .ok (.getfield 97, 3) := by decide +kernel
theorem dX8_image_59 : decode cX8_image 59 = .ok (.putfield 37, 3) := by decide +kernel
theorem dX8_image_62 : decode cX8_image 62 = .ok (.iconst 1, 1) := by decide +kernel
theorem dX8_image_63 : decode cX8_image 63 = .ok (.ireturn, 1) := by decide +kernel
theorem dX8_restore_0 : decode cX8_restore 0 = .ok (.aload_n 0, 1) := by decide +kernel
theorem dX8_restore_1 : decode cX8_restore 1 = .ok (.getfield 37, 3) := by decide +kernel
theorem dX8_restore_4 : decode cX8_restore 4 = .ok (.ifCond .ge 6, 3) := by decide +kernel
theorem dX8_restore_7 : decode cX8_restore 7 = .ok (.bipush (-4), 2) := by decide +kernel
theorem dX8_restore_9 : decode cX8_restore 9 = .ok (.ireturn, 1) := by decide +kernel
theorem dX8_restore_10 : decode cX8_restore 10 = .ok (.iconst 0, 1) := by decide +kernel
theorem dX8_restore_11 : decode cX8_restore 11 = .ok (.istore_n 1, 1) := by decide +kernel
theorem dX8_restore_12 : decode cX8_restore 12 = .ok (.iload_n 1, 1) := by decide +kernel
theorem dX8_restore_13 : decode cX8_restore 13 = .ok (.sipush 263, 3) := by decide +kernel
theorem dX8_restore_16 : decode cX8_restore 16 = .ok (.if_icmp .ge 21, 3) := by decide +kernel
theorem dX8_restore_19 : decode cX8_restore 19 = .ok (.aload_n 0, 1) := by decide +kernel
theorem dX8_restore_20 : decode cX8_restore 20 = .ok (.getfield 7, 3) := by decide +kernel
theorem dX8_restore_23 : decode cX8_restore 23 = .ok (.iload_n 1, 1) := by decide +kernel
theorem dX8_restore_24 : decode cX8_restore 24 = .ok (.aload_n 0, 1) := by decide +kernel
theorem dX8_restore_25 : decode cX8_restore 25 = .ok (.getfield 31, 3) := by decide +kernel
theorem dX8_restore_28 : decode cX8_restore 28 = .ok (.iload_n 1, 1) := by decide +kernel
theorem dX8_restore_29 : decode cX8_restore 29 = .ok (.iaload, 1) := by decide +kernel
theorem dX8_restore_30 : decode cX8_restore 30 = .ok (.iastore, 1) := by decide +kernel
theorem dX8_restore_31 : decode cX8_restore 31 = .ok (.iinc 1 1, 3) := by decide +kernel
theorem dX8_restore_34 : decode cX8_restore 34 = .ok (.goto (-22), 3) := by decide +kernel
theorem dX8_restore_37 : decode cX8_restore 37 = .ok (.iconst 0, 1) := by decide +kernel
theorem dX8_restore_38 : decode cX8_restore 38 = .ok (.istore_n 1, 1) := by decide +kernel
theorem dX8_restore_39 : decode cX8_restore 39 = .ok (.iload_n 1, 1) := by decide +kernel
theorem dX8_restore_40 : decode cX8_restore 40 = .ok (.sipush 496, 3) := by decide +kernel
theorem dX8_restore_43 : decode cX8_restore 43 = .ok (.if_icmp .ge 21, 3) := by decide +kernel
theorem dX8_restore_46 : decode cX8_restore 46 = .ok (.aload_n 0, 1) := by decide +kernel
theorem dX8_restore_47 : decode cX8_restore 47 = .ok (.getfield 13, 3) := by decide +kernel
theorem dX8_restore_50 : decode cX8_restore 50 = .ok (.iload_n 1, 1) := by decide +kernel
theorem dX8_restore_51 : decode cX8_restore 51 = .ok (.aload_n 0, 1) := by decide +kernel
theorem dX8_restore_52 : decode cX8_restore 52 = .ok (.getfield 34, 3) := by decide +kernel
theorem dX8_restore_55 : decode cX8_restore 55 = .ok (.iload_n 1, 1) := by decide +kernel
theorem dX8_restore_56 : decode cX8_restore 56 = .ok (.iaload, 1) := by decide +kernel
theorem dX8_restore_57 : decode cX8_restore 57 = .ok (.iastore, 1) := by decide +kernel
theorem dX8_restore_58 : decode cX8_restore 58 = .ok (.iinc 1 1, 3) := by decide +kernel
theorem dX8_restore_61 : decode cX8_restore 61 = .ok (.goto (-22), 3) := by decide +kernel
theorem dX8_restore_64 : decode cX8_restore 64 = .ok (.aload_n 0, 1) := by decide +kernel
theorem dX8_restore_65 : decode cX8_restore 65 = .ok (.aload_n 0, 1) := by decide +kernel
theorem dX8_restore_66 : decode cX8_restore 66 = .ok (.getfield 37, 3) := by decide +kernel
theorem dX8_restore_69 : decode cX8_restore 69 = .ok (.putfield 97, 3) := by decide +kernel
theorem dX8_restore_72 : decode cX8_restore 72 = .ok (.iconst 1, 1) := by decide +kernel
theorem dX8_restore_73 : decode cX8_restore 73 = .ok (.ireturn, 1) := by decide +kernel
theorem dX8_isSheet_0 : decode cX8_isSheet 0 = .ok (.iload_n 0, 1) := by decide +kernel
theorem dX8_isSheet_1 : decode cX8_isSheet 1 = .ok (.i2l, 1) := by decide +kernel
theorem dX8_isSheet_2 : decode cX8_isSheet 2 = .ok (.lconst 0, 1) := by decide +kernel
theorem dX8_isSheet_3 : decode cX8_isSheet 3 = .ok (.ldc2_w 206, 3) := by decide +kernel
theorem dX8_isSheet_6 : decode cX8_isSheet 6 = .ok (.invokestatic 58, 3) := by decide +kernel
theorem dX8_isSheet_9 : decode cX8_isSheet 9 = .ok (.ireturn, 1) := by decide +kernel
theorem dX8_cut_0 : decode cX8_cut 0 = .ok (.iload_n 2, 1) := by decide +kernel
theorem dX8_cut_1 : decode cX8_cut 1 = .ok (.ifCond .ne 10, 3) := by decide +kernel
theorem dX8_cut_4 : decode cX8_cut 4 = .ok (.lload_n 0, 1) := by decide +kernel
theorem dX8_cut_5 : decode cX8_cut 5 = .ok (.l2i, 1) := by decide +kernel
theorem dX8_cut_6 : decode cX8_cut 6 = .ok (.i2b, 1) := by decide +kernel
theorem dX8_cut_7 : decode cX8_cut 7 = .ok (.i2l, 1) := by decide +kernel
theorem dX8_cut_8 : decode cX8_cut 8 = .ok (.goto 27, 3) := by decide +kernel
theorem dX8_cut_11 : decode cX8_cut 11 = .ok (.iload_n 2, 1) := by decide +kernel
theorem dX8_cut_12 : decode cX8_cut 12 = .ok (.iconst 1, 1) := by decide +kernel
theorem dX8_cut_13 : decode cX8_cut 13 = .ok (.if_icmp .ne 10, 3) := by decide +kernel
theorem dX8_cut_16 : decode cX8_cut 16 = .ok (.lload_n 0, 1) := by decide +kernel
theorem dX8_cut_17 : decode cX8_cut 17 = .ok (.l2i, 1) := by decide +kernel
theorem dX8_cut_18 : decode cX8_cut 18 = .ok (.i2s, 1) := by decide +kernel
theorem dX8_cut_19 : decode cX8_cut 19 = .ok (.i2l, 1) := by decide +kernel
theorem dX8_cut_20 : decode cX8_cut 20 = .ok (.goto 15, 3) := by decide +kernel
theorem dX8_cut_23 : decode cX8_cut 23 = .ok (.iload_n 2, 1) := by decide +kernel
theorem dX8_cut_24 : decode cX8_cut 24 = .ok (.iconst 2, 1) := by decide +kernel
theorem dX8_cut_25 : decode cX8_cut 25 = .ok (.if_icmp .ne 9, 3) := by decide +kernel
theorem dX8_cut_28 : decode cX8_cut 28 = .ok (.lload_n 0, 1) := by decide +kernel
theorem dX8_cut_29 : decode cX8_cut 29 = .ok (.l2i, 1) := by decide +kernel
theorem dX8_cut_30 : decode cX8_cut 30 = .ok (.i2l, 1) := by decide +kernel
theorem dX8_cut_31 : decode cX8_cut 31 = .ok (.goto 4, 3) := by decide +kernel
theorem dX8_cut_34 : decode cX8_cut 34 = .ok (.lload_n 0, 1) := by decide +kernel
theorem dX8_cut_35 : decode cX8_cut 35 = .ok (.lreturn, 1) := by decide +kernel
theorem dX8_sheet_0 : decode cX8_sheet 0 = .ok (.iload_n 1, 1) := by decide +kernel
theorem dX8_sheet_1 : decode cX8_sheet 1 = .ok (.invokestatic 239, 3) := by decide +kernel
theorem dX8_sheet_4 : decode cX8_sheet 4 = .ok (.ifCond .eq 21, 3) := by decide +kernel
theorem dX8_sheet_7 : decode cX8_sheet 7 = .ok (.iload_n 2, 1) := by decide +kernel
theorem dX8_sheet_8 : decode cX8_sheet 8 = .ok (.i2l, 1) := by decide +kernel
theorem dX8_sheet_9 : decode cX8_sheet 9 = .ok (.lconst 0, 1) := by decide +kernel
theorem dX8_sheet_10 : decode cX8_sheet 10 = .ok (.ldc2_w 206, 3) := by decide +kernel
theorem dX8_sheet_13 : decode cX8_sheet 13 = .ok (.invokestatic 58, 3) := by decide +kernel
theorem dX8_sheet_16 : decode cX8_sheet 16 = .ok (.ifCond .eq 9, 3) := by decide +kernel
theorem dX8_sheet_19 : decode cX8_sheet 19 = .ok (.iload_n 3, 1) := by decide +kernel
theorem dX8_sheet_20 : decode cX8_sheet 20 = .ok (.bipush 24, 2) := by decide +kernel
theorem dX8_sheet_22 : decode cX8_sheet 22 = .ok (.if_icmp .le 5, 3) := by decide +kernel
theorem dX8_sheet_25 : decode cX8_sheet 25 = .ok (.iconst (-1), 1) := by decide +kernel
theorem dX8_sheet_26 : decode cX8_sheet 26 = .ok (.ireturn, 1) := by decide +kernel
theorem dX8_sheet_27 : decode cX8_sheet 27 = .ok (.iload_n 3, 1) := by decide +kernel
theorem dX8_sheet_28 : decode cX8_sheet 28 = .ok (.ifCond .ge 6, 3) := by decide +kernel
theorem dX8_sheet_31 : decode cX8_sheet 31 = .ok (.bipush (-14), 2) := by decide +kernel
theorem dX8_sheet_33 : decode cX8_sheet 33 = .ok (.ireturn, 1) := by decide +kernel
theorem dX8_sheet_34 : decode cX8_sheet 34 = .ok (.aload_n 0, 1) := by decide +kernel
theorem dX8_sheet_35 : decode cX8_sheet 35 = .ok (.getfield 41, 3) := by decide +kernel
theorem dX8_sheet_38 : decode cX8_sheet 38 = .ok (.iload_n 1, 1) := by decide +kernel
theorem dX8_sheet_39 : decode cX8_sheet 39 = .ok (.iload_n 2, 1) := by decide +kernel
theorem dX8_sheet_40 : decode cX8_sheet 40 = .ok (.iastore, 1) := by decide +kernel
theorem dX8_sheet_41 : decode cX8_sheet 41 = .ok (.aload_n 0, 1) := by decide +kernel
theorem dX8_sheet_42 : decode cX8_sheet 42 = .ok (.getfield 44, 3) := by decide +kernel
theorem dX8_sheet_45 : decode cX8_sheet 45 = .ok (.iload_n 1, 1) := by decide +kernel
theorem dX8_sheet_46 : decode cX8_sheet 46 = .ok (.iload_n 3, 1) := by decide +kernel
theorem dX8_sheet_47 : decode cX8_sheet 47 = .ok (.iastore, 1) := by decide +kernel
theorem dX8_sheet_48 : decode cX8_sheet 48 = .ok (.iconst 0, 1) := by decide +kernel
theorem dX8_sheet_49 : decode cX8_sheet 49 = .ok (.istore 4, 2) := by decide +kernel
theorem dX8_sheet_51 : decode cX8_sheet 51 = .ok (.iload 4, 2) := by decide +kernel
theorem dX8_sheet_53 : decode cX8_sheet 53 = .ok (.bipush 24, 2) := by decide +kernel
theorem dX8_sheet_55 : decode cX8_sheet 55 = .ok (.if_icmp .ge 22, 3) := by decide +kernel
theorem dX8_sheet_58 : decode cX8_sheet 58 = .ok (.aload_n 0, 1) := by decide +kernel
theorem dX8_sheet_59 : decode cX8_sheet 59 = .ok (.getfield 47, 3) := by decide +kernel
theorem dX8_sheet_62 : decode cX8_sheet 62 = .ok (.bipush 24, 2) := by decide +kernel
theorem dX8_sheet_64 : decode cX8_sheet 64 = .ok (.iload_n 1, 1) := by decide +kernel
theorem dX8_sheet_65 : decode cX8_sheet 65 = .ok (.imul, 1) := by decide +kernel
theorem dX8_sheet_66 : decode cX8_sheet 66 = .ok (.iload 4, 2) := by decide +kernel
theorem dX8_sheet_68 : decode cX8_sheet 68 = .ok (.iadd, 1) := by decide +kernel
theorem dX8_sheet_69 : decode cX8_sheet 69 = .ok (.lconst 0, 1) := by decide +kernel
theorem dX8_sheet_70 : decode cX8_sheet 70 = .ok (.lastore, 1) := by decide +kernel
theorem dX8_sheet_71 : decode cX8_sheet 71 = .ok (.iinc 4 1, 3) := by decide +kernel
theorem dX8_sheet_74 : decode cX8_sheet 74 = .ok (.goto (-23), 3) := by decide +kernel
theorem dX8_sheet_77 : decode cX8_sheet 77 = .ok (.iload_n 3, 1) := by decide +kernel
theorem dX8_sheet_78 : decode cX8_sheet 78 = .ok (.ireturn, 1) := by decide +kernel
theorem dX8_drop_0 : decode cX8_drop 0 = .ok (.iload_n 1, 1) := by decide +kernel
theorem dX8_drop_1 : decode cX8_drop 1 = .ok (.invokestatic 239, 3) := by decide +kernel
theorem dX8_drop_4 : decode cX8_drop 4 = .ok (.ifCond .ne 5, 3) := by decide +kernel
theorem dX8_drop_7 : decode cX8_drop 7 = .ok (.iconst (-1), 1) := by decide +kernel
theorem dX8_drop_8 : decode cX8_drop 8 = .ok (.ireturn, 1) := by decide +kernel
theorem dX8_drop_9 : decode cX8_drop 9 = .ok (.aload_n 0, 1) := by decide +kernel
theorem dX8_drop_10 : decode cX8_drop 10 = .ok (.getfield 41, 3) := by decide +kernel
theorem dX8_drop_13 : decode cX8_drop 13 = .ok (.iload_n 1, 1) := by decide +kernel
theorem dX8_drop_14 : decode cX8_drop 14 = .ok (.iaload, 1) := by decide +kernel
theorem dX8_drop_15 : decode cX8_drop 15 = .ok (.ifCond .ge 6, 3) := by decide +kernel
theorem dX8_drop_18 : decode cX8_drop 18 = .ok (.bipush (-11), 2) := by decide +kernel
theorem dX8_drop_20 : decode cX8_drop 20 = .ok (.ireturn, 1) := by decide +kernel
theorem dX8_drop_21 : decode cX8_drop 21 = .ok (.aload_n 0, 1) := by decide +kernel
theorem dX8_drop_22 : decode cX8_drop 22 = .ok (.getfield 41, 3) := by decide +kernel
theorem dX8_drop_25 : decode cX8_drop 25 = .ok (.iload_n 1, 1) := by decide +kernel
theorem dX8_drop_26 : decode cX8_drop 26 = .ok (.iconst (-1), 1) := by decide +kernel
theorem dX8_drop_27 : decode cX8_drop 27 = .ok (.iastore, 1) := by decide +kernel
theorem dX8_drop_28 : decode cX8_drop 28 = .ok (.aload_n 0, 1) := by decide +kernel
theorem dX8_drop_29 : decode cX8_drop 29 = .ok (.getfield 44, 3) := by decide +kernel
theorem dX8_drop_32 : decode cX8_drop 32 = .ok (.iload_n 1, 1) := by decide +kernel
theorem dX8_drop_33 : decode cX8_drop 33 = .ok (.iaload, 1) := by decide +kernel
theorem dX8_drop_34 : decode cX8_drop 34 = .ok (.ireturn, 1) := by decide +kernel
theorem dX8_why_0 : decode cX8_why 0 = .ok (.aload_n 0, 1) := by decide +kernel
theorem dX8_why_1 : decode cX8_why 1 = .ok (.getfield 41, 3) := by decide +kernel
theorem dX8_why_4 : decode cX8_why 4 = .ok (.iload_n 1, 1) := by decide +kernel
theorem dX8_why_5 : decode cX8_why 5 = .ok (.iaload, 1) := by decide +kernel
theorem dX8_why_6 : decode cX8_why 6 = .ok (.ifCond .ge 6, 3) := by decide +kernel
theorem dX8_why_9 : decode cX8_why 9 = .ok (.bipush (-11), 2) := by decide +kernel
theorem dX8_why_11 : decode cX8_why 11 = .ok (.ireturn, 1) := by decide +kernel
theorem dX8_why_12 : decode cX8_why 12 = .ok (.aload_n 0, 1) := by decide +kernel
theorem dX8_why_13 : decode cX8_why 13 = .ok (.getfield 41, 3) := by decide +kernel
theorem dX8_why_16 : decode cX8_why 16 = .ok (.iload_n 1, 1) := by decide +kernel
theorem dX8_why_17 : decode cX8_why 17 = .ok (.iaload, 1) := by decide +kernel
theorem dX8_why_18 : decode cX8_why 18 = .ok (.iload_n 2, 1) := by decide +kernel
theorem dX8_why_19 : decode cX8_why 19 = .ok (.if_icmp .eq 6, 3) := by decide +kernel
theorem dX8_why_22 : decode cX8_why 22 = .ok (.bipush (-12), 2) := by decide +kernel
theorem dX8_why_24 : decode cX8_why 24 = .ok (.ireturn, 1) := by decide +kernel
theorem dX8_why_25 : decode cX8_why 25 = .ok (.iload_n 3, 1) := by decide +kernel
theorem dX8_why_26 : decode cX8_why 26 = .ok (.ifCond .lt 16, 3) := by decide +kernel
theorem dX8_why_29 : decode cX8_why 29 = .ok (.iload 4, 2) := by decide +kernel
theorem dX8_why_31 : decode cX8_why 31 = .ok (.aload_n 0, 1) := by decide +kernel
theorem dX8_why_32 : decode cX8_why 32 = .ok (.getfield 44, 3) := by decide +kernel
theorem dX8_why_35 : decode cX8_why 35 = .ok (.iload_n 1, 1) := by decide +kernel
theorem dX8_why_36 : decode cX8_why 36 = .ok (.iaload, 1) := by decide +kernel
theorem dX8_why_37 : decode cX8_why 37 = .ok (.iload_n 3, 1) := by decide +kernel
theorem dX8_why_38 : decode cX8_why 38 = .ok (.isub, 1) := by decide +kernel
theorem dX8_why_39 : decode cX8_why 39 = .ok (.if_icmp .le 8, 3) := by decide +kernel
theorem dX8_why_42 : decode cX8_why 42 = .ok (.bipush (-13), 2) := by decide +kernel
theorem dX8_why_44 : decode cX8_why 44 = .ok (.goto 4, 3) := by decide +kernel
theorem dX8_why_47 : decode cX8_why 47 = .ok (.iconst 0, 1) := by decide +kernel
theorem dX8_why_48 : decode cX8_why 48 = .ok (.ireturn, 1) := by decide +kernel
theorem dX8_item_0 : decode cX8_item 0 = .ok (.iload_n 1, 1) := by decide +kernel
theorem dX8_item_1 : decode cX8_item 1 = .ok (.invokestatic 239, 3) := by decide +kernel
theorem dX8_item_4 : decode cX8_item 4 = .ok (.ifCond .eq 15, 3) := by decide +kernel
theorem dX8_item_7 : decode cX8_item 7 = .ok (.iload_n 2, 1) := by decide +kernel
theorem dX8_item_8 : decode cX8_item 8 = .ok (.i2l, 1) := by decide +kernel
theorem dX8_item_9 : decode cX8_item 9 = .ok (.lconst 0, 1) := by decide +kernel
theorem dX8_item_10 : decode cX8_item 10 = .ok (.ldc2_w 206, 3) := by decide +kernel
theorem dX8_item_13 : decode cX8_item 13 = .ok (.invokestatic 58, 3) := by decide +kernel
theorem dX8_item_16 : decode cX8_item 16 = .ok (.ifCond .ne 5, 3) := by decide +kernel
theorem dX8_item_19 : decode cX8_item 19 = .ok (.iconst (-1), 1) := by decide +kernel
theorem dX8_item_20 : decode cX8_item 20 = .ok (.ireturn, 1) := by decide +kernel
theorem dX8_item_21 : decode cX8_item 21 = .ok (.aload_n 0, 1) := by decide +kernel
theorem dX8_item_22 : decode cX8_item 22 = .ok (.iload_n 1, 1) := by decide +kernel
theorem dX8_item_23 : decode cX8_item 23 = .ok (.iload_n 2, 1) := by decide +kernel
theorem dX8_item_24 : decode cX8_item 24 = .ok (.iload_n 3, 1) := by decide +kernel
theorem dX8_item_25 : decode cX8_item 25 = .ok (.iconst 1, 1) := by decide +kernel
theorem dX8_item_26 : decode cX8_item 26 = .ok (.invokevirtual 242, 3) := by decide +kernel
theorem dX8_item_29 : decode cX8_item 29 = .ok (.istore 6, 2) := by decide +kernel
theorem dX8_item_31 : decode cX8_item 31 = .ok (.iload 6, 2) := by decide +kernel
theorem dX8_item_33 : decode cX8_item 33 = .ok (.ifCond .ge 6, 3) := by decide +kernel
theorem dX8_item_36 : decode cX8_item 36 = .ok (.iload 6, 2) := by decide +kernel
theorem dX8_item_38 : decode cX8_item 38 = .ok (.ireturn, 1) := by decide +kernel
theorem dX8_item_39 : decode cX8_item 39 = .ok (.aload_n 0, 1) := by decide +kernel
theorem dX8_item_40 : decode cX8_item 40 = .ok (.getfield 47, 3) := by decide +kernel
theorem dX8_item_43 : decode cX8_item 43 = .ok (.bipush 24, 2) := by decide +kernel
theorem dX8_item_45 : decode cX8_item 45 = .ok (.iload_n 1, 1) := by decide +kernel
theorem dX8_item_46 : decode cX8_item 46 = .ok (.imul, 1) := by decide +kernel
theorem dX8_item_47 : decode cX8_item 47 = .ok (.iload_n 3, 1) := by decide +kernel
theorem dX8_item_48 : decode cX8_item 48 = .ok (.iadd, 1) := by decide +kernel
theorem dX8_item_49 : decode cX8_item 49 = .ok (.lload 4, 2) := by decide +kernel
theorem dX8_item_51 : decode cX8_item 51 = .ok (.iload_n 2, 1) := by decide +kernel
theorem dX8_item_52 : decode cX8_item 52 = .ok (.invokestatic 245, 3) := by decide +kernel
theorem dX8_item_55 : decode cX8_item 55 = .ok (.lastore, 1) := by decide +kernel
theorem dX8_item_56 : decode cX8_item 56 = .ok (.iconst 1, 1) := by decide +kernel
theorem dX8_item_57 : decode cX8_item 57 = .ok (.ireturn, 1) := by decide +kernel
theorem dX8_copy_0 : decode cX8_copy 0 = .ok (.iload_n 1, 1) := by decide +kernel
theorem dX8_copy_1 : decode cX8_copy 1 = .ok (.invokestatic 239, 3) := by decide +kernel
theorem dX8_copy_4 : decode cX8_copy 4 = .ok (.ifCond .eq 10, 3) := by decide +kernel
theorem dX8_copy_7 : decode cX8_copy 7 = .ok (.iload_n 3, 1) := by decide +kernel
theorem dX8_copy_8 : decode cX8_copy 8 = .ok (.invokestatic 239, 3) := by decide +kernel
theorem dX8_copy_11 : decode cX8_copy 11 = .ok (.ifCond .ne 5, 3) := by decide +kernel
theorem dX8_copy_14 : decode cX8_copy 14 = .ok (.iconst (-1), 1) := by decide +kernel
theorem dX8_copy_15 : decode cX8_copy 15 = .ok (.ireturn, 1) := by decide +kernel
theorem dX8_copy_16 : decode cX8_copy 16 = .ok (.aload_n 0, 1) := by decide +kernel
theorem dX8_copy_17 : decode cX8_copy 17 = .ok (.getfield 41, 3) := by decide +kernel
theorem dX8_copy_20 : decode cX8_copy 20 = .ok (.iload_n 1, 1) := by decide +kernel
theorem dX8_copy_21 : decode cX8_copy 21 = .ok (.iaload, 1) := by decide +kernel
theorem dX8_copy_22 : decode cX8_copy 22 = .ok (.ifCond .lt 12, 3) := by decide +kernel
theorem dX8_copy_25 : decode cX8_copy 25 = .ok (.aload_n 0, 1) := by decide +kernel
theorem dX8_copy_26 : decode cX8_copy 26 = .ok (.getfield 41, 3) := by decide +kernel
theorem dX8_copy_29 : decode cX8_copy 29 = .ok (.iload_n 3, 1) := by decide +kernel
theorem dX8_copy_30 : decode cX8_copy 30 = .ok (.iaload, 1) := by decide +kernel
theorem dX8_copy_31 : decode cX8_copy 31 = .ok (.ifCond .ge 6, 3) := by decide +kernel
theorem dX8_copy_34 : decode cX8_copy 34 = .ok (.bipush (-11), 2) := by decide +kernel
theorem dX8_copy_36 : decode cX8_copy 36 = .ok (.ireturn, 1) := by decide +kernel
theorem dX8_copy_37 : decode cX8_copy 37 = .ok (.aload_n 0, 1) := by decide +kernel
theorem dX8_copy_38 : decode cX8_copy 38 = .ok (.getfield 41, 3) := by decide +kernel
theorem dX8_copy_41 : decode cX8_copy 41 = .ok (.iload_n 1, 1) := by decide +kernel
theorem dX8_copy_42 : decode cX8_copy 42 = .ok (.iaload, 1) := by decide +kernel
theorem dX8_copy_43 : decode cX8_copy 43 = .ok (.aload_n 0, 1) := by decide +kernel
theorem dX8_copy_44 : decode cX8_copy 44 = .ok (.getfield 41, 3) := by decide +kernel
theorem dX8_copy_47 : decode cX8_copy 47 = .ok (.iload_n 3, 1) := by decide +kernel
theorem dX8_copy_48 : decode cX8_copy 48 = .ok (.iaload, 1) := by decide +kernel
theorem dX8_copy_49 : decode cX8_copy 49 = .ok (.if_icmp .eq 6, 3) := by decide +kernel
theorem dX8_copy_52 : decode cX8_copy 52 = .ok (.bipush (-12), 2) := by decide +kernel
theorem dX8_copy_54 : decode cX8_copy 54 = .ok (.ireturn, 1) := by decide +kernel
theorem dX8_copy_55 : decode cX8_copy 55 = .ok (.iload 5, 2) := by decide +kernel
theorem dX8_copy_57 : decode cX8_copy 57 = .ok (.ifCond .lt 47, 3) := by decide +kernel
theorem dX8_copy_60 : decode cX8_copy 60 = .ok (.iload_n 2, 1) := by decide +kernel
theorem dX8_copy_61 : decode cX8_copy 61 = .ok (.ifCond .lt 43, 3) := by decide +kernel
theorem dX8_copy_64 : decode cX8_copy 64 = .ok (.iload 4, 2) := by decide +kernel
theorem dX8_copy_66 : decode cX8_copy 66 = .ok (.ifCond .lt 38, 3) := by decide +kernel
theorem dX8_copy_69 : decode cX8_copy 69 = .ok (.iload_n 2, 1) := by decide +kernel
theorem dX8_copy_70 : decode cX8_copy 70 = .ok (.i2l, 1) := by decide +kernel
theorem dX8_copy_71 : decode cX8_copy 71 = .ok (.iload 5, 2) := by decide +kernel
theorem dX8_copy_73 : decode cX8_copy 73 = .ok (.i2l, 1) := by decide +kernel
theorem dX8_copy_74 : decode cX8_copy 74 = .ok (.ladd, 1) := by decide +kernel
theorem dX8_copy_75 : decode cX8_copy 75 = .ok (.aload_n 0, 1) := by decide +kernel
theorem dX8_copy_76 : decode cX8_copy 76 = .ok (.getfield 44, 3) := by decide +kernel
theorem dX8_copy_79 : decode cX8_copy 79 = .ok (.iload_n 1, 1) := by decide +kernel
theorem dX8_copy_80 : decode cX8_copy 80 = .ok (.iaload, 1) := by decide +kernel
theorem dX8_copy_81 : decode cX8_copy 81 = .ok (.i2l, 1) := by decide +kernel
theorem dX8_copy_82 : decode cX8_copy 82 = .ok (.lcmp, 1) := by decide +kernel
theorem dX8_copy_83 : decode cX8_copy 83 = .ok (.ifCond .gt 21, 3) := by decide +kernel
theorem dX8_copy_86 : decode cX8_copy 86 = .ok (.iload 4, 2) := by decide +kernel
theorem dX8_copy_88 : decode cX8_copy 88 = .ok (.i2l, 1) := by decide +kernel
theorem dX8_copy_89 : decode cX8_copy 89 = .ok (.iload 5, 2) := by decide +kernel
theorem dX8_copy_91 : decode cX8_copy 91 = .ok (.i2l, 1) := by decide +kernel
theorem dX8_copy_92 : decode cX8_copy 92 = .ok (.ladd, 1) := by decide +kernel
theorem dX8_copy_93 : decode cX8_copy 93 = .ok (.aload_n 0, 1) := by decide +kernel
theorem dX8_copy_94 : decode cX8_copy 94 = .ok (.getfield 44, 3) := by decide +kernel
theorem dX8_copy_97 : decode cX8_copy 97 = .ok (.iload_n 3, 1) := by decide +kernel
theorem dX8_copy_98 : decode cX8_copy 98 = .ok (.iaload, 1) := by decide +kernel
theorem dX8_copy_99 : decode cX8_copy 99 = .ok (.i2l, 1) := by decide +kernel
theorem dX8_copy_100 : decode cX8_copy 100 = .ok (.lcmp, 1) := by decide +kernel
theorem dX8_copy_101 : decode cX8_copy 101 = .ok (.ifCond .le 6, 3) := by decide +kernel
theorem dX8_copy_104 : decode cX8_copy 104 = .ok (.bipush (-13), 2) := by decide +kernel
theorem dX8_copy_106 : decode cX8_copy 106 = .ok (.ireturn, 1) := by decide +kernel
theorem dX8_copy_107 : decode cX8_copy 107 = .ok (.iconst 0, 1) := by decide +kernel
theorem dX8_copy_108 : decode cX8_copy 108 = .ok (.istore 6, 2) := by decide +kernel
theorem dX8_copy_110 : decode cX8_copy 110 = .ok (.iload 6, 2) := by decide +kernel
theorem dX8_copy_112 : decode cX8_copy 112 = .ok (.iload 5, 2) := by decide +kernel
theorem dX8_copy_114 : decode cX8_copy 114 = .ok (.if_icmp .ge 30, 3) := by decide +kernel
theorem dX8_copy_117 : decode cX8_copy 117 = .ok (.aload_n 0, 1) := by decide +kernel
theorem dX8_copy_118 : decode cX8_copy 118 = .ok (.getfield 51, 3) := by decide +kernel
theorem dX8_copy_121 : decode cX8_copy 121 = .ok (.iload 6, 2) := by decide +kernel
theorem dX8_copy_123 : decode cX8_copy 123 = .ok (.aload_n 0, 1) := by decide +kernel
theorem dX8_copy_124 : decode cX8_copy 124 = .ok (.getfield 47, 3) := by decide +kernel
theorem dX8_copy_127 : decode cX8_copy 127 = .ok (.bipush 24, 2) := by decide +kernel
theorem dX8_copy_129 : decode cX8_copy 129 = .ok (.iload_n 1, 1) := by decide +kernel
theorem dX8_copy_130 : decode cX8_copy 130 = .ok (.imul, 1) := by decide +kernel
theorem dX8_copy_131 : decode cX8_copy 131 = .ok (.iload_n 2, 1) := by decide +kernel
theorem dX8_copy_132 : decode cX8_copy 132 = .ok (.iadd, 1) := by decide +kernel
theorem dX8_copy_133 : decode cX8_copy 133 = .ok (.iload 6, 2) := by decide +kernel
theorem dX8_copy_135 : decode cX8_copy 135 = .ok (.iadd, 1) := by decide +kernel
theorem dX8_copy_136 : decode cX8_copy 136 = .ok (.laload, 1) := by decide +kernel
theorem dX8_copy_137 : decode cX8_copy 137 = .ok (.lastore, 1) := by decide +kernel
theorem dX8_copy_138 : decode cX8_copy 138 = .ok (.iinc 6 1, 3) := by decide +kernel
theorem dX8_copy_141 : decode cX8_copy 141 = .ok (.goto (-31), 3) := by decide +kernel
theorem dX8_copy_144 : decode cX8_copy 144 = .ok (.iconst 0, 1) := by decide +kernel
theorem dX8_copy_145 : decode cX8_copy 145 = .ok (.istore 6, 2) := by decide +kernel
theorem dX8_copy_147 : decode cX8_copy 147 = .ok (.iload 6, 2) := by decide +kernel
theorem dX8_copy_149 : decode cX8_copy 149 = .ok (.iload 5, 2) := by decide +kernel
theorem dX8_copy_151 : decode cX8_copy 151 = .ok (.if_icmp .ge 31, 3) := by decide +kernel
theorem dX8_copy_154 : decode cX8_copy 154 = .ok (.aload_n 0, 1) := by decide +kernel
theorem dX8_copy_155 : decode cX8_copy 155 = .ok (.getfield 47, 3) := by decide +kernel
theorem dX8_copy_158 : decode cX8_copy 158 = .ok (.bipush 24, 2) := by decide +kernel
theorem dX8_copy_160 : decode cX8_copy 160 = .ok (.iload_n 3, 1) := by decide +kernel
theorem dX8_copy_161 : decode cX8_copy 161 = .ok (.imul, 1) := by decide +kernel
theorem dX8_copy_162 : decode cX8_copy 162 = .ok (.iload 4, 2) := by decide +kernel
theorem dX8_copy_164 : decode cX8_copy 164 = .ok (.iadd, 1) := by decide +kernel
theorem dX8_copy_165 : decode cX8_copy 165 = .ok (.iload 6, 2) := by decide +kernel
theorem dX8_copy_167 : decode cX8_copy 167 = .ok (.iadd, 1) := by decide +kernel
theorem dX8_copy_168 : decode cX8_copy 168 = .ok (.aload_n 0, 1) := by decide +kernel
theorem dX8_copy_169 : decode cX8_copy 169 = .ok (.getfield 51, 3) := by decide +kernel
theorem dX8_copy_172 : decode cX8_copy 172 = .ok (.iload 6, 2) := by decide +kernel
theorem dX8_copy_174 : decode cX8_copy 174 = .ok (.laload, 1) := by decide +kernel
theorem dX8_copy_175 : decode cX8_copy 175 = .ok (.lastore, 1) := by decide +kernel
theorem dX8_copy_176 : decode cX8_copy 176 = .ok (.iinc 6 1, 3) := by decide +kernel
theorem dX8_copy_179 : decode cX8_copy 179 = .ok (.goto (-32), 3) := by decide +kernel
theorem dX8_copy_182 : decode cX8_copy 182 = .ok (.iload 5, 2) := by decide +kernel
theorem dX8_copy_184 : decode cX8_copy 184 = .ok (.ireturn, 1) := by decide +kernel
theorem dX8_play_0 : decode cX8_play 0 = .ok (.iload_n 1, 1) := by decide +kernel
theorem dX8_play_1 : decode cX8_play 1 = .ok (.invokestatic 239, 3) := by decide +kernel
theorem dX8_play_4 : decode cX8_play 4 = .ok (.ifCond .eq 28, 3) := by decide +kernel
theorem dX8_play_7 : decode cX8_play 7 = .ok (.iload_n 2, 1) := by decide +kernel
theorem dX8_play_8 : decode cX8_play 8 = .ok (.i2l, 1) := by decide +kernel
theorem dX8_play_9 : decode cX8_play 9 = .ok (.lconst 0, 1) := by decide +kernel
theorem dX8_play_10 : decode cX8_play 10 = .ok (.ldc2_w 206, 3) := by decide +kernel
theorem dX8_play_13 : decode cX8_play 13 = .ok (.invokestatic 58, 3) := by decide +kernel
theorem dX8_play_16 : decode cX8_play 16 = .ok (.ifCond .eq 16, 3) := by decide +kernel
theorem dX8_play_19 : decode cX8_play 19 = .ok (.iload 4, 2) := by decide +kernel
theorem dX8_play_21 : decode cX8_play 21 = .ok (.i2l, 1) := by decide +kernel
theorem dX8_play_22 : decode cX8_play 22 = .ok (.lconst 1, 1) := by decide +kernel
theorem dX8_play_23 : decode cX8_play 23 = .ok (.ldc2_w 249, 3) := by decide +kernel
theorem dX8_play_26 : decode cX8_play 26 = .ok (.invokestatic 58, 3) := by decide +kernel
theorem dX8_play_29 : decode cX8_play 29 = .ok (.ifCond .ne 5, 3) := by decide +kernel
theorem dX8_play_32 : decode cX8_play 32 = .ok (.iconst (-1), 1) := by decide +kernel
theorem dX8_play_33 : decode cX8_play 33 = .ok (.ireturn, 1) := by decide +kernel
theorem dX8_play_34 : decode cX8_play 34 = .ok (.aload_n 0, 1) := by decide +kernel
theorem dX8_play_35 : decode cX8_play 35 = .ok (.iload_n 1, 1) := by decide +kernel
theorem dX8_play_36 : decode cX8_play 36 = .ok (.iload_n 2, 1) := by decide +kernel
theorem dX8_play_37 : decode cX8_play 37 = .ok (.iload_n 3, 1) := by decide +kernel
theorem dX8_play_38 : decode cX8_play 38 = .ok (.iload 4, 2) := by decide +kernel
theorem dX8_play_40 : decode cX8_play 40 = .ok (.invokevirtual 242, 3) := by decide +kernel
theorem dX8_play_43 : decode cX8_play 43 = .ok (.istore 5, 2) := by decide +kernel
theorem dX8_play_45 : decode cX8_play 45 = .ok (.iload 5, 2) := by decide +kernel
theorem dX8_play_47 : decode cX8_play 47 = .ok (.ifCond .ge 6, 3) := by decide +kernel
theorem dX8_play_50 : decode cX8_play 50 = .ok (.iload 5, 2) := by decide +kernel
theorem dX8_play_52 : decode cX8_play 52 = .ok (.ireturn, 1) := by decide +kernel
theorem dX8_play_53 : decode cX8_play 53 = .ok (.bipush 24, 2) := by decide +kernel
theorem dX8_play_55 : decode cX8_play 55 = .ok (.iload_n 1, 1) := by decide +kernel
theorem dX8_play_56 : decode cX8_play 56 = .ok (.imul, 1) := by decide +kernel
theorem dX8_play_57 : decode cX8_play 57 = .ok (.iload_n 3, 1) := by decide +kernel
theorem dX8_play_58 : decode cX8_play 58 = .ok (.iadd, 1) := by decide +kernel
theorem dX8_play_59 : decode cX8_play 59 = .ok (.istore 6, 2) := by decide +kernel
theorem dX8_play_61 : decode cX8_play 61 = .ok (.iconst 0, 1) := by decide +kernel
theorem dX8_play_62 : decode cX8_play 62 = .ok (.istore 7, 2) := by decide +kernel
theorem dX8_play_64 : decode cX8_play 64 = .ok (.iload 7, 2) := by decide +kernel
theorem dX8_play_66 : decode cX8_play 66 = .ok (.iload 4, 2) := by decide +kernel
theorem dX8_play_68 : decode cX8_play 68 = .ok (.if_icmp .ge 34, 3) := by decide +kernel
theorem dX8_play_71 : decode cX8_play 71 = .ok (.aload_n 0, 1) := by decide +kernel
theorem dX8_play_72 : decode cX8_play 72 = .ok (.getfield 47, 3) := by decide +kernel
theorem dX8_play_75 : decode cX8_play 75 = .ok (.iload 6, 2) := by decide +kernel
theorem dX8_play_77 : decode cX8_play 77 = .ok (.iload 7, 2) := by decide +kernel
theorem dX8_play_79 : decode cX8_play 79 = .ok (.iadd, 1) := by decide +kernel
theorem dX8_play_80 : decode cX8_play 80 = .ok (.laload, 1) := by decide +kernel
theorem dX8_play_81 : decode cX8_play 81 = .ok (.ldc2_w 196, 3) := by decide +kernel
theorem dX8_play_84 : decode cX8_play 84 = .ok (.ldc2_w 198, 3) := by decide +kernel
theorem dX8_play_87 : decode cX8_play 87 = .ok (.invokestatic 58, 3) := by decide +kernel
theorem dX8_play_90 : decode cX8_play 90 = .ok (.ifCond .ne 6, 3) := by decide +kernel
theorem dX8_play_93 : decode cX8_play 93 = .ok (.bipush (-2), 2) := by decide +kernel
theorem dX8_play_95 : decode cX8_play 95 = .ok (.ireturn, 1) := by decide +kernel
theorem dX8_play_96 : decode cX8_play 96 = .ok (.iinc 7 1, 3) := by decide +kernel
theorem dX8_play_99 : decode cX8_play 99 = .ok (.goto (-35), 3) := by decide +kernel
theorem dX8_play_102 : decode cX8_play 102 = .ok (.iconst 0, 1) := by decide +kernel
theorem dX8_play_103 : decode cX8_play 103 = .ok (.istore 7, 2) := by decide +kernel
theorem dX8_play_105 : decode cX8_play 105 = .ok (.iconst 0, 1) := by decide +kernel
theorem dX8_play_106 : decode cX8_play 106 = .ok (.istore 8, 2) := by decide +kernel
theorem dX8_play_108 : decode cX8_play 108 = .ok (.iload 8, 2) := by decide +kernel
theorem dX8_play_110 : decode cX8_play 110 = .ok (.iload 4, 2) := by decide +kernel
theorem dX8_play_112 : decode cX8_play 112 = .ok (.if_icmp .ge 37, 3) := by decide +kernel
theorem dX8_play_115 : decode cX8_play 115 = .ok (.iload 7, 2) := by decide +kernel
theorem dX8_play_117 : decode cX8_play 117 = .ok (.aload_n 0, 1) := by decide +kernel
theorem dX8_play_118 : decode cX8_play 118 = .ok (.aload_n 0, 1) := by decide +kernel
theorem dX8_play_119 : decode cX8_play 119 = .ok (.getfield 47, 3) := by decide +kernel
theorem dX8_play_122 : decode cX8_play 122 = .ok (.iload 6, 2) := by decide +kernel
theorem dX8_play_124 : decode cX8_play 124 = .ok (.iload 8, 2) := by decide +kernel
theorem dX8_play_126 : decode cX8_play 126 = .ok (.iadd, 1) := by decide +kernel
theorem dX8_play_127 : decode cX8_play 127 = .ok (.laload, 1) := by decide +kernel
theorem dX8_play_128 : decode cX8_play 128 = .ok (.l2i, 1) := by decide +kernel
theorem dX8_play_129 : decode cX8_play 129 = .ok (.invokevirtual 200, 3) := by decide +kernel
theorem dX8_play_132 : decode cX8_play 132 = .ok (.ifCond .ge 7, 3) := by decide +kernel
theorem dX8_play_135 : decode cX8_play 135 = .ok (.iconst 1, 1) := by decide +kernel
theorem dX8_play_136 : decode cX8_play 136 = .ok (.goto 4, 3) := by decide +kernel
theorem dX8_play_139 : decode cX8_play 139 = .ok (.iconst 0, 1) := by decide +kernel
theorem dX8_play_140 : decode cX8_play 140 = .ok (.iadd, 1) := by decide +kernel
theorem dX8_play_141 : decode cX8_play 141 = .ok (.istore 7, 2) := by decide +kernel
theorem dX8_play_143 : decode cX8_play 143 = .ok (.iinc 8 1, 3) := by decide +kernel
theorem dX8_play_146 : decode cX8_play 146 = .ok (.goto (-38), 3) := by decide +kernel
theorem dX8_play_149 : decode cX8_play 149 = .ok (.iload 7, 2) := by decide +kernel
theorem dX8_play_151 : decode cX8_play 151 = .ok (.ireturn, 1) := by decide +kernel
theorem dX8_film_0 : decode cX8_film 0 = .ok (.iload_n 2, 1) := by decide +kernel
theorem dX8_film_1 : decode cX8_film 1 = .ok (.i2l, 1) := by decide +kernel
theorem dX8_film_2 : decode cX8_film 2 = .ok (.lconst 1, 1) := by decide +kernel
theorem dX8_film_3 : decode cX8_film 3 = .ok (.ldc2_w 249, 3) := by decide +kernel
theorem dX8_film_6 : decode cX8_film 6 = .ok (.invokestatic 58, 3) := by decide +kernel
theorem dX8_film_9 : decode cX8_film 9 = .ok (.ifCond .eq 41, 3) := by decide +kernel
theorem dX8_film_12 : decode cX8_film 12 = .ok (.iload_n 1, 1) := by decide +kernel
theorem dX8_film_13 : decode cX8_film 13 = .ok (.i2l, 1) := by decide +kernel
theorem dX8_film_14 : decode cX8_film 14 = .ok (.lconst 0, 1) := by decide +kernel
theorem dX8_film_15 : decode cX8_film 15 = .ok (.aload_n 0, 1) := by decide +kernel
theorem dX8_film_16 : decode cX8_film 16 = .ok (.getfield 7, 3) := by decide +kernel
theorem dX8_film_19 : decode cX8_film 19 = .ok (.iconst 0, 1) := by decide +kernel
theorem dX8_film_20 : decode cX8_film 20 = .ok (.iaload, 1) := by decide +kernel
theorem dX8_film_21 : decode cX8_film 21 = .ok (.iload_n 2, 1) := by decide +kernel
theorem dX8_film_22 : decode cX8_film 22 = .ok (.isub, 1) := by decide +kernel
theorem dX8_film_23 : decode cX8_film 23 = .ok (.i2l, 1) := by decide +kernel
theorem dX8_film_24 : decode cX8_film 24 = .ok (.invokestatic 58, 3) := by decide +kernel
theorem dX8_film_27 : decode cX8_film 27 = .ok (.ifCond .eq 23, 3) := by decide +kernel
theorem dX8_film_30 : decode cX8_film 30 = .ok (.iload_n 3, 1) := by decide +kernel
theorem dX8_film_31 : decode cX8_film 31 = .ok (.invokestatic 239, 3) := by decide +kernel
theorem dX8_film_34 : decode cX8_film 34 = .ok (.ifCond .eq 16, 3) := by decide +kernel
theorem dX8_film_37 : decode cX8_film 37 = .ok (.iload 4, 2) := by decide +kernel
theorem dX8_film_39 : decode cX8_film 39 = .ok (.i2l, 1) := by decide +kernel
theorem dX8_film_40 : decode cX8_film 40 = .ok (.lconst 0, 1) := by decide +kernel
theorem dX8_film_41 : decode cX8_film 41 = .ok (.ldc2_w 206, 3) := by decide +kernel
theorem dX8_film_44 : decode cX8_film 44 = .ok (.invokestatic 58, 3) := by decide +kernel
theorem dX8_film_47 : decode cX8_film 47 = .ok (.ifCond .ne 5, 3) := by decide +kernel
theorem dX8_film_50 : decode cX8_film 50 = .ok (.iconst (-1), 1) := by decide +kernel
theorem dX8_film_51 : decode cX8_film 51 = .ok (.ireturn, 1) := by decide +kernel
theorem dX8_film_52 : decode cX8_film 52 = .ok (.aload_n 0, 1) := by decide +kernel
theorem dX8_film_53 : decode cX8_film 53 = .ok (.iload_n 3, 1) := by decide +kernel
theorem dX8_film_54 : decode cX8_film 54 = .ok (.iload 4, 2) := by decide +kernel
theorem dX8_film_56 : decode cX8_film 56 = .ok (.iload 5, 2) := by decide +kernel
theorem dX8_film_58 : decode cX8_film 58 = .ok (.iload_n 2, 1) := by decide +kernel
theorem dX8_film_59 : decode cX8_film 59 = .ok (.invokevirtual 242, 3) := by decide +kernel
theorem dX8_film_62 : decode cX8_film 62 = .ok (.istore 6, 2) := by decide +kernel
theorem dX8_film_64 : decode cX8_film 64 = .ok (.iload 6, 2) := by decide +kernel
theorem dX8_film_66 : decode cX8_film 66 = .ok (.ifCond .ge 6, 3) := by decide +kernel
theorem dX8_film_69 : decode cX8_film 69 = .ok (.iload 6, 2) := by decide +kernel
theorem dX8_film_71 : decode cX8_film 71 = .ok (.ireturn, 1) := by decide +kernel
theorem dX8_film_72 : decode cX8_film 72 = .ok (.iconst 0, 1) := by decide +kernel
theorem dX8_film_73 : decode cX8_film 73 = .ok (.istore 7, 2) := by decide +kernel
theorem dX8_film_75 : decode cX8_film 75 = .ok (.iload 7, 2) := by decide +kernel
theorem dX8_film_77 : decode cX8_film 77 = .ok (.iload_n 2, 1) := by decide +kernel
theorem dX8_film_78 : decode cX8_film 78 = .ok (.if_icmp .ge 36, 3) := by decide +kernel
theorem dX8_film_81 : decode cX8_film 81 = .ok (.aload_n 0, 1) := by decide +kernel
theorem dX8_film_82 : decode cX8_film 82 = .ok (.getfield 47, 3) := by decide +kernel
theorem dX8_film_85 : decode cX8_film 85 = .ok (.bipush 24, 2) := by decide +kernel
theorem dX8_film_87 : decode cX8_film 87 = .ok (.iload_n 3, 1) := by decide +kernel
theorem dX8_film_88 : decode cX8_film 88 = .ok (.imul, 1) := by decide +kernel
theorem dX8_film_89 : decode cX8_film 89 = .ok (.iload 5, 2) := by decide +kernel
theorem dX8_film_91 : decode cX8_film 91 = .ok (.iadd, 1) := by decide +kernel
theorem dX8_film_92 : decode cX8_film 92 = .ok (.iload 7, 2) := by decide +kernel
theorem dX8_film_94 : decode cX8_film 94 = .ok (.iadd, 1) := by decide +kernel
theorem dX8_film_95 : decode cX8_film 95 = .ok (.aload_n 0, 1) := by decide +kernel
theorem dX8_film_96 : decode cX8_film 96 = .ok (.getfield 7, 3) := by decide +kernel
theorem dX8_film_99 : decode cX8_film 99 = .ok (.iconst 1, 1) := by decide +kernel
theorem dX8_film_100 : decode cX8_film 100 = .ok (.iload_n 1, 1) := by decide +kernel
theorem dX8_film_101 : decode cX8_film 101 = .ok (.iadd, 1) := by decide +kernel
theorem dX8_film_102 : decode cX8_film 102 = .ok (.iload 7, 2) := by decide +kernel
theorem dX8_film_104 : decode cX8_film 104 = .ok (.iadd, 1) := by decide +kernel
theorem dX8_film_105 : decode cX8_film 105 = .ok (.iaload, 1) := by decide +kernel
theorem dX8_film_106 : decode cX8_film 106 = .ok (.i2l, 1) := by decide +kernel
theorem dX8_film_107 : decode cX8_film 107 = .ok (.lastore, 1) := by decide +kernel
theorem dX8_film_108 : decode cX8_film 108 = .ok (.iinc 7 1, 3) := by decide +kernel
theorem dX8_film_111 : decode cX8_film 111 = .ok (.goto (-36), 3) := by decide +kernel
theorem dX8_film_114 : decode cX8_film 114 = .ok (.iload_n 2, 1) := by decide +kernel
theorem dX8_film_115 : decode cX8_film 115 = .ok (.ireturn, 1) := by decide +kernel
theorem dJ9_floorMod_7cf53_0 : decode cJ9_floorMod_7cf53 0 = .ok (.iload_n 0, 1) := by decide +kernel
theorem dJ9_floorMod_7cf53_1 : decode cJ9_floorMod_7cf53 1 = .ok (.iload_n 1, 1) := by decide +kernel
theorem dJ9_floorMod_7cf53_2 : decode cJ9_floorMod_7cf53 2 = .ok (.irem, 1) := by decide +kernel
theorem dJ9_floorMod_7cf53_3 : decode cJ9_floorMod_7cf53 3 = .ok (.istore_n 2, 1) := by decide +kernel
theorem dJ9_floorMod_7cf53_4 : decode cJ9_floorMod_7cf53 4 = .ok (.iload_n 0, 1) := by decide +kernel
theorem dJ9_floorMod_7cf53_5 : decode cJ9_floorMod_7cf53 5 = .ok (.iload_n 1, 1) := by decide +kernel
theorem dJ9_floorMod_7cf53_6 : decode cJ9_floorMod_7cf53 6 = .ok (.ixor, 1) := by decide +kernel
theorem dJ9_floorMod_7cf53_7 : decode cJ9_floorMod_7cf53 7 = .ok (.ifCond .ge 11, 3) := by decide +kernel
theorem dJ9_floorMod_7cf53_10 : decode cJ9_floorMod_7cf53 10 = .ok (.iload_n 2, 1) := by decide +kernel
theorem dJ9_floorMod_7cf53_11 : decode cJ9_floorMod_7cf53 11 = .ok (.ifCond .eq 7, 3) := by decide +kernel
theorem dJ9_floorMod_7cf53_14 : decode cJ9_floorMod_7cf53 14 = .ok (.iload_n 2, 1) := by decide +kernel
theorem dJ9_floorMod_7cf53_15 : decode cJ9_floorMod_7cf53 15 = .ok (.iload_n 1, 1) := by decide +kernel
theorem dJ9_floorMod_7cf53_16 : decode cJ9_floorMod_7cf53 16 = .ok (.iadd, 1) := by decide +kernel
theorem dJ9_floorMod_7cf53_17 : decode cJ9_floorMod_7cf53 17 = .ok (.ireturn, 1) := by decide +kernel
theorem dJ9_floorMod_7cf53_18 : decode cJ9_floorMod_7cf53 18 = .ok (.iload_n 2, 1) := by decide +kernel
theorem dJ9_floorMod_7cf53_19 : decode cJ9_floorMod_7cf53 19 = .ok (.ireturn, 1) := by decide +kernel
theorem dJ9_max_7cf53_0 : decode cJ9_max_7cf53 0 = .ok (.iload_n 0, 1) := by decide +kernel
theorem dJ9_max_7cf53_1 : decode cJ9_max_7cf53 1 = .ok (.iload_n 1, 1) := by decide +kernel
theorem dJ9_max_7cf53_2 : decode cJ9_max_7cf53 2 = .ok (.if_icmp .lt 7, 3) := by decide +kernel
theorem dJ9_max_7cf53_5 : decode cJ9_max_7cf53 5 = .ok (.iload_n 0, 1) := by decide +kernel
theorem dJ9_max_7cf53_6 : decode cJ9_max_7cf53 6 = .ok (.goto 4, 3) := by decide +kernel
theorem dJ9_max_7cf53_9 : decode cJ9_max_7cf53 9 = .ok (.iload_n 1, 1) := by decide +kernel
theorem dJ9_max_7cf53_10 : decode cJ9_max_7cf53 10 = .ok (.ireturn, 1) := by decide +kernel
theorem dJ9_min_7cf53_0 : decode cJ9_min_7cf53 0 = .ok (.iload_n 0, 1) := by decide +kernel
theorem dJ9_min_7cf53_1 : decode cJ9_min_7cf53 1 = .ok (.iload_n 1, 1) := by decide +kernel
theorem dJ9_min_7cf53_2 : decode cJ9_min_7cf53 2 = .ok (.if_icmp .gt 7, 3) := by decide +kernel
theorem dJ9_min_7cf53_5 : decode cJ9_min_7cf53 5 = .ok (.iload_n 0, 1) := by decide +kernel
theorem dJ9_min_7cf53_6 : decode cJ9_min_7cf53 6 = .ok (.goto 4, 3) := by decide +kernel
theorem dJ9_min_7cf53_9 : decode cJ9_min_7cf53 9 = .ok (.iload_n 1, 1) := by decide +kernel
theorem dJ9_min_7cf53_10 : decode cJ9_min_7cf53 10 = .ok (.ireturn, 1) := by decide +kernel
theorem dJ7_fill_d0a16_0 : decode cJ7_fill_d0a16 0 = .ok (.iconst 0, 1) := by decide +kernel
theorem dJ7_fill_d0a16_1 : decode cJ7_fill_d0a16 1 = .ok (.istore_n 3, 1) := by decide +kernel
theorem dJ7_fill_d0a16_2 : decode cJ7_fill_d0a16 2 = .ok (.aload_n 0, 1) := by decide +kernel
theorem dJ7_fill_d0a16_3 : decode cJ7_fill_d0a16 3 = .ok (.arraylength, 1) := by decide +kernel
theorem dJ7_fill_d0a16_4 : decode cJ7_fill_d0a16 4 = .ok (.istore 4, 2) := by decide +kernel
theorem dJ7_fill_d0a16_6 : decode cJ7_fill_d0a16 6 = .ok (.iload_n 3, 1) := by decide +kernel
theorem dJ7_fill_d0a16_7 : decode cJ7_fill_d0a16 7 = .ok (.iload 4, 2) := by decide +kernel
theorem dJ7_fill_d0a16_9 : decode cJ7_fill_d0a16 9 = .ok (.if_icmp .ge 13, 3) := by decide +kernel
theorem dJ7_fill_d0a16_12 : decode cJ7_fill_d0a16 12 = .ok (.aload_n 0, 1) := by decide +kernel
theorem dJ7_fill_d0a16_13 : decode cJ7_fill_d0a16 13 = .ok (.iload_n 3, 1) := by decide +kernel
theorem dJ7_fill_d0a16_14 : decode cJ7_fill_d0a16 14 = .ok (.lload_n 1, 1) := by decide +kernel
theorem dJ7_fill_d0a16_15 : decode cJ7_fill_d0a16 15 = .ok (.lastore, 1) := by decide +kernel
theorem dJ7_fill_d0a16_16 : decode cJ7_fill_d0a16 16 = .ok (.iinc 3 1, 3) := by decide +kernel
theorem dJ7_fill_d0a16_19 : decode cJ7_fill_d0a16 19 = .ok (.goto (-13), 3) := by decide +kernel
theorem dJ7_fill_d0a16_22 : decode cJ7_fill_d0a16 22 = .ok (.return_, 1) := by decide +kernel
theorem dJ7_fill_53178_0 : decode cJ7_fill_53178 0 = .ok (.iconst 0, 1) := by decide +kernel
theorem dJ7_fill_53178_1 : decode cJ7_fill_53178 1 = .ok (.istore_n 2, 1) := by decide +kernel
theorem dJ7_fill_53178_2 : decode cJ7_fill_53178 2 = .ok (.aload_n 0, 1) := by decide +kernel
theorem dJ7_fill_53178_3 : decode cJ7_fill_53178 3 = .ok (.arraylength, 1) := by decide +kernel
theorem dJ7_fill_53178_4 : decode cJ7_fill_53178 4 = .ok (.istore_n 3, 1) := by decide +kernel
theorem dJ7_fill_53178_5 : decode cJ7_fill_53178 5 = .ok (.iload_n 2, 1) := by decide +kernel
theorem dJ7_fill_53178_6 : decode cJ7_fill_53178 6 = .ok (.iload_n 3, 1) := by decide +kernel
theorem dJ7_fill_53178_7 : decode cJ7_fill_53178 7 = .ok (.if_icmp .ge 13, 3) := by decide +kernel
theorem dJ7_fill_53178_10 : decode cJ7_fill_53178 10 = .ok (.aload_n 0, 1) := by decide +kernel
theorem dJ7_fill_53178_11 : decode cJ7_fill_53178 11 = .ok (.iload_n 2, 1) := by decide +kernel
theorem dJ7_fill_53178_12 : decode cJ7_fill_53178 12 = .ok (.iload_n 1, 1) := by decide +kernel
theorem dJ7_fill_53178_13 : decode cJ7_fill_53178 13 = .ok (.iastore, 1) := by decide +kernel
theorem dJ7_fill_53178_14 : decode cJ7_fill_53178 14 = .ok (.iinc 2 1, 3) := by decide +kernel
theorem dJ7_fill_53178_17 : decode cJ7_fill_53178 17 = .ok (.goto (-12), 3) := by decide +kernel
theorem dJ7_fill_53178_20 : decode cJ7_fill_53178 20 = .ok (.return_, 1) := by decide +kernel
theorem dL_law_0 : decode cL_law 0 = .ok (.new 7, 3) := by decide +kernel
theorem dL_law_3 : decode cL_law 3 = .ok (.dup, 1) := by decide +kernel
theorem dL_law_4 : decode cL_law 4 = .ok (.invokespecial 9, 3) := by decide +kernel
theorem dL_law_7 : decode cL_law 7 = .ok (.astore_n 1, 1) := by decide +kernel
theorem dL_law_8 : decode cL_law 8 = .ok (.new 10, 3) := by decide +kernel
theorem dL_law_11 : decode cL_law 11 = .ok (.dup, 1) := by decide +kernel
theorem dL_law_12 : decode cL_law 12 = .ok (.invokespecial 12, 3) := by decide +kernel
theorem dL_law_15 : decode cL_law 15 = .ok (.astore_n 2, 1) := by decide +kernel
theorem dL_law_16 : decode cL_law 16 = .ok (.iconst 0, 1) := by decide +kernel
theorem dL_law_17 : decode cL_law 17 = .ok (.istore_n 3, 1) := by decide +kernel
theorem dL_law_18 : decode cL_law 18 = .ok (.iload_n 3, 1) := by decide +kernel
theorem dL_law_19 : decode cL_law 19 = .ok (.aload_n 0, 1) := by decide +kernel
theorem dL_law_20 : decode cL_law 20 = .ok (.arraylength, 1) := by decide +kernel
theorem dL_law_21 : decode cL_law 21 = .ok (.bipush 6, 2) := by decide +kernel
theorem dL_law_23 : decode cL_law 23 = .ok (.isub, 1) := by decide +kernel
theorem dL_law_24 : decode cL_law 24 = .ok (.if_icmp .gt 844, 3) := by decide +kernel
theorem dL_law_27 : decode cL_law 27 = .ok (.aload_n 0, 1) := by decide +kernel
theorem dL_law_28 : decode cL_law 28 = .ok (.iload_n 3, 1) := by decide +kernel
theorem dL_law_29 : decode cL_law 29 = .ok (.iaload, 1) := by decide +kernel
theorem dL_law_30 : decode cL_law 30 = .ok (.bipush 31, 2) := by decide +kernel
theorem dL_law_32 : decode cL_law 32 = .ok (.iand, 1) := by decide +kernel
theorem dL_law_33 : decode cL_law 33 = .ok (.tableswitch 829 0 21 #[103, 126, 139, 162, 185, 208, 231, 254, 287, 320, 353, 376, 399, 432, 475, 488, 501, 554, 617, 660, 683, 766], 103) := by decide +kernel
theorem dL_law_136 : decode cL_law 136 = .ok (.aload_n 1, 1) := by decide +kernel
theorem dL_law_137 : decode cL_law 137 = .ok (.aload_n 0, 1) := by decide +kernel
theorem dL_law_138 : decode cL_law 138 = .ok (.iload_n 3, 1) := by decide +kernel
theorem dL_law_139 : decode cL_law 139 = .ok (.iconst 1, 1) := by decide +kernel
theorem dL_law_140 : decode cL_law 140 = .ok (.iadd, 1) := by decide +kernel
theorem dL_law_141 : decode cL_law 141 = .ok (.iaload, 1) := by decide +kernel
theorem dL_law_142 : decode cL_law 142 = .ok (.invokevirtual 13, 3) := by decide +kernel
theorem dL_law_145 : decode cL_law 145 = .ok (.aload_n 2, 1) := by decide +kernel
theorem dL_law_146 : decode cL_law 146 = .ok (.aload_n 0, 1) := by decide +kernel
theorem dL_law_147 : decode cL_law 147 = .ok (.iload_n 3, 1) := by decide +kernel
theorem dL_law_148 : decode cL_law 148 = .ok (.iconst 1, 1) := by decide +kernel
theorem dL_law_149 : decode cL_law 149 = .ok (.iadd, 1) := by decide +kernel
theorem dL_law_150 : decode cL_law 150 = .ok (.iaload, 1) := by decide +kernel
theorem dL_law_151 : decode cL_law 151 = .ok (.invokevirtual 17, 3) := by decide +kernel
theorem dL_law_154 : decode cL_law 154 = .ok (.if_icmp .eq 708, 3) := by decide +kernel
theorem dL_law_157 : decode cL_law 157 = .ok (.iconst 0, 1) := by decide +kernel
theorem dL_law_158 : decode cL_law 158 = .ok (.ireturn, 1) := by decide +kernel
theorem dL_law_159 : decode cL_law 159 = .ok (.aload_n 1, 1) := by decide +kernel
theorem dL_law_160 : decode cL_law 160 = .ok (.invokevirtual 18, 3) := by decide +kernel
theorem dL_law_163 : decode cL_law 163 = .ok (.aload_n 2, 1) := by decide +kernel
theorem dL_law_164 : decode cL_law 164 = .ok (.invokevirtual 22, 3) := by decide +kernel
theorem dL_law_167 : decode cL_law 167 = .ok (.if_icmp .eq 695, 3) := by decide +kernel
theorem dL_law_170 : decode cL_law 170 = .ok (.iconst 0, 1) := by decide +kernel
theorem dL_law_171 : decode cL_law 171 = .ok (.ireturn, 1) := by decide +kernel
theorem dL_law_172 : decode cL_law 172 = .ok (.aload_n 1, 1) := by decide +kernel
theorem dL_law_173 : decode cL_law 173 = .ok (.aload_n 0, 1) := by decide +kernel
theorem dL_law_174 : decode cL_law 174 = .ok (.iload_n 3, 1) := by decide +kernel
theorem dL_law_175 : decode cL_law 175 = .ok (.iconst 1, 1) := by decide +kernel
theorem dL_law_176 : decode cL_law 176 = .ok (.iadd, 1) := by decide +kernel
theorem dL_law_177 : decode cL_law 177 = .ok (.iaload, 1) := by decide +kernel
theorem dL_law_178 : decode cL_law 178 = .ok (.invokevirtual 23, 3) := by decide +kernel
theorem dL_law_181 : decode cL_law 181 = .ok (.aload_n 2, 1) := by decide +kernel
theorem dL_law_182 : decode cL_law 182 = .ok (.aload_n 0, 1) := by decide +kernel
theorem dL_law_183 : decode cL_law 183 = .ok (.iload_n 3, 1) := by decide +kernel
theorem dL_law_184 : decode cL_law 184 = .ok (.iconst 1, 1) := by decide +kernel
theorem dL_law_185 : decode cL_law 185 = .ok (.iadd, 1) := by decide +kernel
theorem dL_law_186 : decode cL_law 186 = .ok (.iaload, 1) := by decide +kernel
theorem dL_law_187 : decode cL_law 187 = .ok (.invokevirtual 26, 3) := by decide +kernel
theorem dL_law_190 : decode cL_law 190 = .ok (.if_icmp .eq 672, 3) := by decide +kernel
theorem dL_law_193 : decode cL_law 193 = .ok (.iconst 0, 1) := by decide +kernel
theorem dL_law_194 : decode cL_law 194 = .ok (.ireturn, 1) := by decide +kernel
theorem dL_law_195 : decode cL_law 195 = .ok (.aload_n 1, 1) := by decide +kernel
theorem dL_law_196 : decode cL_law 196 = .ok (.aload_n 0, 1) := by decide +kernel
theorem dL_law_197 : decode cL_law 197 = .ok (.iload_n 3, 1) := by decide +kernel
theorem dL_law_198 : decode cL_law 198 = .ok (.iconst 1, 1) := by decide +kernel
theorem dL_law_199 : decode cL_law 199 = .ok (.iadd, 1) := by decide +kernel
theorem dL_law_200 : decode cL_law 200 = .ok (.iaload, 1) := by decide +kernel
end
section
theorem dL_law_201 : decode cL_law 201 = .ok (.invokevirtual 27, 3) := by decide +kernel
theorem dL_law_204 : decode cL_law 204 = .ok (.aload_n 2, 1) := by decide +kernel
theorem dL_law_205 : decode cL_law 205 = .ok (.aload_n 0, 1) := by decide +kernel
theorem dL_law_206 : decode cL_law 206 = .ok (.iload_n 3, 1) := by decide +kernel
theorem dL_law_207 : decode cL_law 207 = .ok (.iconst 1, 1) := by decide +kernel
theorem dL_law_208 : decode cL_law 208 = .ok (.iadd, 1) := by decide +kernel
theorem dL_law_209 : decode cL_law 209 = .ok (.iaload, 1) := by decide +kernel
theorem dL_law_210 : decode cL_law 210 = .ok (.invokevirtual 30, 3) := by decide +kernel
theorem dL_law_213 : decode cL_law 213 = .ok (.if_icmp .eq 649, 3) := by decide +kernel
theorem dL_law_216 : decode cL_law 216 = .ok (.iconst 0, 1) := by decide +kernel
theorem dL_law_217 : decode cL_law 217 = .ok (.ireturn, 1) := by decide +kernel
theorem dL_law_218 : decode cL_law 218 = .ok (.aload_n 1, 1) := by decide +kernel
theorem dL_law_219 : decode cL_law 219 = .ok (.aload_n 0, 1) := by decide +kernel
theorem dL_law_220 : decode cL_law 220 = .ok (.iload_n 3, 1) := by decide +kernel
theorem dL_law_221 : decode cL_law 221 = .ok (.iconst 1, 1) := by decide +kernel
theorem dL_law_222 : decode cL_law 222 = .ok (.iadd, 1) := by decide +kernel
theorem dL_law_223 : decode cL_law 223 = .ok (.iaload, 1) := by decide +kernel
theorem dL_law_224 : decode cL_law 224 = .ok (.invokevirtual 31, 3) := by decide +kernel
theorem dL_law_227 : decode cL_law 227 = .ok (.aload_n 2, 1) := by decide +kernel
theorem dL_law_228 : decode cL_law 228 = .ok (.aload_n 0, 1) := by decide +kernel
theorem dL_law_229 : decode cL_law 229 = .ok (.iload_n 3, 1) := by decide +kernel
theorem dL_law_230 : decode cL_law 230 = .ok (.iconst 1, 1) := by decide +kernel
theorem dL_law_231 : decode cL_law 231 = .ok (.iadd, 1) := by decide +kernel
theorem dL_law_232 : decode cL_law 232 = .ok (.iaload, 1) := by decide +kernel
theorem dL_law_233 : decode cL_law 233 = .ok (.invokevirtual 34, 3) := by decide +kernel
theorem dL_law_236 : decode cL_law 236 = .ok (.if_icmp .eq 626, 3) := by decide +kernel
theorem dL_law_239 : decode cL_law 239 = .ok (.iconst 0, 1) := by decide +kernel
theorem dL_law_240 : decode cL_law 240 = .ok (.ireturn, 1) := by decide +kernel
theorem dL_law_241 : decode cL_law 241 = .ok (.aload_n 1, 1) := by decide +kernel
theorem dL_law_242 : decode cL_law 242 = .ok (.aload_n 0, 1) := by decide +kernel
theorem dL_law_243 : decode cL_law 243 = .ok (.iload_n 3, 1) := by decide +kernel
theorem dL_law_244 : decode cL_law 244 = .ok (.iconst 1, 1) := by decide +kernel
theorem dL_law_245 : decode cL_law 245 = .ok (.iadd, 1) := by decide +kernel
theorem dL_law_246 : decode cL_law 246 = .ok (.iaload, 1) := by decide +kernel
theorem dL_law_247 : decode cL_law 247 = .ok (.invokevirtual 35, 3) := by decide +kernel
theorem dL_law_250 : decode cL_law 250 = .ok (.aload_n 2, 1) := by decide +kernel
theorem dL_law_251 : decode cL_law 251 = .ok (.aload_n 0, 1) := by decide +kernel
theorem dL_law_252 : decode cL_law 252 = .ok (.iload_n 3, 1) := by decide +kernel
theorem dL_law_253 : decode cL_law 253 = .ok (.iconst 1, 1) := by decide +kernel
theorem dL_law_254 : decode cL_law 254 = .ok (.iadd, 1) := by decide +kernel
theorem dL_law_255 : decode cL_law 255 = .ok (.iaload, 1) := by decide +kernel
theorem dL_law_256 : decode cL_law 256 = .ok (.invokevirtual 38, 3) := by decide +kernel
theorem dL_law_259 : decode cL_law 259 = .ok (.if_icmp .eq 603, 3) := by decide +kernel
theorem dL_law_262 : decode cL_law 262 = .ok (.iconst 0, 1) := by decide +kernel
theorem dL_law_263 : decode cL_law 263 = .ok (.ireturn, 1) := by decide +kernel
theorem dL_law_264 : decode cL_law 264 = .ok (.aload_n 1, 1) := by decide +kernel
theorem dL_law_265 : decode cL_law 265 = .ok (.aload_n 0, 1) := by decide +kernel
theorem dL_law_266 : decode cL_law 266 = .ok (.iload_n 3, 1) := by decide +kernel
theorem dL_law_267 : decode cL_law 267 = .ok (.iconst 1, 1) := by decide +kernel
theorem dL_law_268 : decode cL_law 268 = .ok (.iadd, 1) := by decide +kernel
theorem dL_law_269 : decode cL_law 269 = .ok (.iaload, 1) := by decide +kernel
theorem dL_law_270 : decode cL_law 270 = .ok (.invokevirtual 39, 3) := by decide +kernel
theorem dL_law_273 : decode cL_law 273 = .ok (.aload_n 2, 1) := by decide +kernel
theorem dL_law_274 : decode cL_law 274 = .ok (.aload_n 0, 1) := by decide +kernel
theorem dL_law_275 : decode cL_law 275 = .ok (.iload_n 3, 1) := by decide +kernel
theorem dL_law_276 : decode cL_law 276 = .ok (.iconst 1, 1) := by decide +kernel
theorem dL_law_277 : decode cL_law 277 = .ok (.iadd, 1) := by decide +kernel
theorem dL_law_278 : decode cL_law 278 = .ok (.iaload, 1) := by decide +kernel
theorem dL_law_279 : decode cL_law 279 = .ok (.invokevirtual 42, 3) := by decide +kernel
theorem dL_law_282 : decode cL_law 282 = .ok (.if_icmp .eq 580, 3) := by decide +kernel
theorem dL_law_285 : decode cL_law 285 = .ok (.iconst 0, 1) := by decide +kernel
theorem dL_law_286 : decode cL_law 286 = .ok (.ireturn, 1) := by decide +kernel
theorem dL_law_287 : decode cL_law 287 = .ok (.aload_n 1, 1) := by decide +kernel
theorem dL_law_288 : decode cL_law 288 = .ok (.aload_n 0, 1) := by decide +kernel
theorem dL_law_289 : decode cL_law 289 = .ok (.iload_n 3, 1) := by decide +kernel
theorem dL_law_290 : decode cL_law 290 = .ok (.iconst 1, 1) := by decide +kernel
theorem dL_law_291 : decode cL_law 291 = .ok (.iadd, 1) := by decide +kernel
theorem dL_law_292 : decode cL_law 292 = .ok (.iaload, 1) := by decide +kernel
theorem dL_law_293 : decode cL_law 293 = .ok (.aload_n 0, 1) := by decide +kernel
theorem dL_law_294 : decode cL_law 294 = .ok (.iload_n 3, 1) := by decide +kernel
theorem dL_law_295 : decode cL_law 295 = .ok (.iconst 2, 1) := by decide +kernel
theorem dL_law_296 : decode cL_law 296 = .ok (.iadd, 1) := by decide +kernel
theorem dL_law_297 : decode cL_law 297 = .ok (.iaload, 1) := by decide +kernel
theorem dL_law_298 : decode cL_law 298 = .ok (.invokevirtual 43, 3) := by decide +kernel
theorem dL_law_301 : decode cL_law 301 = .ok (.aload_n 2, 1) := by decide +kernel
theorem dL_law_302 : decode cL_law 302 = .ok (.aload_n 0, 1) := by decide +kernel
theorem dL_law_303 : decode cL_law 303 = .ok (.iload_n 3, 1) := by decide +kernel
theorem dL_law_304 : decode cL_law 304 = .ok (.iconst 1, 1) := by decide +kernel
theorem dL_law_305 : decode cL_law 305 = .ok (.iadd, 1) := by decide +kernel
theorem dL_law_306 : decode cL_law 306 = .ok (.iaload, 1) := by decide +kernel
theorem dL_law_307 : decode cL_law 307 = .ok (.aload_n 0, 1) := by decide +kernel
theorem dL_law_308 : decode cL_law 308 = .ok (.iload_n 3, 1) := by decide +kernel
theorem dL_law_309 : decode cL_law 309 = .ok (.iconst 2, 1) := by decide +kernel
theorem dL_law_310 : decode cL_law 310 = .ok (.iadd, 1) := by decide +kernel
theorem dL_law_311 : decode cL_law 311 = .ok (.iaload, 1) := by decide +kernel
theorem dL_law_312 : decode cL_law 312 = .ok (.invokevirtual 47, 3) := by decide +kernel
theorem dL_law_315 : decode cL_law 315 = .ok (.if_icmp .eq 547, 3) := by decide +kernel
theorem dL_law_318 : decode cL_law 318 = .ok (.iconst 0, 1) := by decide +kernel
theorem dL_law_319 : decode cL_law 319 = .ok (.ireturn, 1) := by decide +kernel
theorem dL_law_320 : decode cL_law 320 = .ok (.aload_n 1, 1) := by decide +kernel
theorem dL_law_321 : decode cL_law 321 = .ok (.aload_n 0, 1) := by decide +kernel
theorem dL_law_322 : decode cL_law 322 = .ok (.iload_n 3, 1) := by decide +kernel
theorem dL_law_323 : decode cL_law 323 = .ok (.iconst 1, 1) := by decide +kernel
theorem dL_law_324 : decode cL_law 324 = .ok (.iadd, 1) := by decide +kernel
theorem dL_law_325 : decode cL_law 325 = .ok (.iaload, 1) := by decide +kernel
theorem dL_law_326 : decode cL_law 326 = .ok (.aload_n 0, 1) := by decide +kernel
theorem dL_law_327 : decode cL_law 327 = .ok (.iload_n 3, 1) := by decide +kernel
theorem dL_law_328 : decode cL_law 328 = .ok (.iconst 2, 1) := by decide +kernel
theorem dL_law_329 : decode cL_law 329 = .ok (.iadd, 1) := by decide +kernel
theorem dL_law_330 : decode cL_law 330 = .ok (.iaload, 1) := by decide +kernel
theorem dL_law_331 : decode cL_law 331 = .ok (.invokevirtual 48, 3) := by decide +kernel
theorem dL_law_334 : decode cL_law 334 = .ok (.aload_n 2, 1) := by decide +kernel
theorem dL_law_335 : decode cL_law 335 = .ok (.aload_n 0, 1) := by decide +kernel
theorem dL_law_336 : decode cL_law 336 = .ok (.iload_n 3, 1) := by decide +kernel
theorem dL_law_337 : decode cL_law 337 = .ok (.iconst 1, 1) := by decide +kernel
theorem dL_law_338 : decode cL_law 338 = .ok (.iadd, 1) := by decide +kernel
theorem dL_law_339 : decode cL_law 339 = .ok (.iaload, 1) := by decide +kernel
theorem dL_law_340 : decode cL_law 340 = .ok (.aload_n 0, 1) := by decide +kernel
theorem dL_law_341 : decode cL_law 341 = .ok (.iload_n 3, 1) := by decide +kernel
theorem dL_law_342 : decode cL_law 342 = .ok (.iconst 2, 1) := by decide +kernel
theorem dL_law_343 : decode cL_law 343 = .ok (.iadd, 1) := by decide +kernel
theorem dL_law_344 : decode cL_law 344 = .ok (.iaload, 1) := by decide +kernel
theorem dL_law_345 : decode cL_law 345 = .ok (.invokevirtual 51, 3) := by decide +kernel
theorem dL_law_348 : decode cL_law 348 = .ok (.if_icmp .eq 514, 3) := by decide +kernel
theorem dL_law_351 : decode cL_law 351 = .ok (.iconst 0, 1) := by decide +kernel
theorem dL_law_352 : decode cL_law 352 = .ok (.ireturn, 1) := by decide +kernel
theorem dL_law_353 : decode cL_law 353 = .ok (.aload_n 1, 1) := by decide +kernel
theorem dL_law_354 : decode cL_law 354 = .ok (.aload_n 0, 1) := by decide +kernel
theorem dL_law_355 : decode cL_law 355 = .ok (.iload_n 3, 1) := by decide +kernel
theorem dL_law_356 : decode cL_law 356 = .ok (.iconst 1, 1) := by decide +kernel
theorem dL_law_357 : decode cL_law 357 = .ok (.iadd, 1) := by decide +kernel
theorem dL_law_358 : decode cL_law 358 = .ok (.iaload, 1) := by decide +kernel
theorem dL_law_359 : decode cL_law 359 = .ok (.aload_n 0, 1) := by decide +kernel
theorem dL_law_360 : decode cL_law 360 = .ok (.iload_n 3, 1) := by decide +kernel
theorem dL_law_361 : decode cL_law 361 = .ok (.iconst 2, 1) := by decide +kernel
theorem dL_law_362 : decode cL_law 362 = .ok (.iadd, 1) := by decide +kernel
theorem dL_law_363 : decode cL_law 363 = .ok (.iaload, 1) := by decide +kernel
theorem dL_law_364 : decode cL_law 364 = .ok (.invokevirtual 52, 3) := by decide +kernel
theorem dL_law_367 : decode cL_law 367 = .ok (.aload_n 2, 1) := by decide +kernel
theorem dL_law_368 : decode cL_law 368 = .ok (.aload_n 0, 1) := by decide +kernel
theorem dL_law_369 : decode cL_law 369 = .ok (.iload_n 3, 1) := by decide +kernel
theorem dL_law_370 : decode cL_law 370 = .ok (.iconst 1, 1) := by decide +kernel
theorem dL_law_371 : decode cL_law 371 = .ok (.iadd, 1) := by decide +kernel
theorem dL_law_372 : decode cL_law 372 = .ok (.iaload, 1) := by decide +kernel
theorem dL_law_373 : decode cL_law 373 = .ok (.aload_n 0, 1) := by decide +kernel
theorem dL_law_374 : decode cL_law 374 = .ok (.iload_n 3, 1) := by decide +kernel
theorem dL_law_375 : decode cL_law 375 = .ok (.iconst 2, 1) := by decide +kernel
theorem dL_law_376 : decode cL_law 376 = .ok (.iadd, 1) := by decide +kernel
theorem dL_law_377 : decode cL_law 377 = .ok (.iaload, 1) := by decide +kernel
theorem dL_law_378 : decode cL_law 378 = .ok (.invokevirtual 55, 3) := by decide +kernel
theorem dL_law_381 : decode cL_law 381 = .ok (.if_icmp .eq 481, 3) := by decide +kernel
theorem dL_law_384 : decode cL_law 384 = .ok (.iconst 0, 1) := by decide +kernel
theorem dL_law_385 : decode cL_law 385 = .ok (.ireturn, 1) := by decide +kernel
theorem dL_law_386 : decode cL_law 386 = .ok (.aload_n 1, 1) := by decide +kernel
theorem dL_law_387 : decode cL_law 387 = .ok (.aload_n 0, 1) := by decide +kernel
theorem dL_law_388 : decode cL_law 388 = .ok (.iload_n 3, 1) := by decide +kernel
theorem dL_law_389 : decode cL_law 389 = .ok (.iconst 1, 1) := by decide +kernel
theorem dL_law_390 : decode cL_law 390 = .ok (.iadd, 1) := by decide +kernel
theorem dL_law_391 : decode cL_law 391 = .ok (.iaload, 1) := by decide +kernel
theorem dL_law_392 : decode cL_law 392 = .ok (.invokevirtual 56, 3) := by decide +kernel
theorem dL_law_395 : decode cL_law 395 = .ok (.aload_n 2, 1) := by decide +kernel
theorem dL_law_396 : decode cL_law 396 = .ok (.aload_n 0, 1) := by decide +kernel
theorem dL_law_397 : decode cL_law 397 = .ok (.iload_n 3, 1) := by decide +kernel
theorem dL_law_398 : decode cL_law 398 = .ok (.iconst 1, 1) := by decide +kernel
theorem dL_law_399 : decode cL_law 399 = .ok (.iadd, 1) := by decide +kernel
theorem dL_law_400 : decode cL_law 400 = .ok (.iaload, 1) := by decide +kernel
theorem dL_law_401 : decode cL_law 401 = .ok (.invokevirtual 59, 3) := by decide +kernel
theorem dL_law_404 : decode cL_law 404 = .ok (.if_icmp .eq 458, 3) := by decide +kernel
theorem dL_law_407 : decode cL_law 407 = .ok (.iconst 0, 1) := by decide +kernel
theorem dL_law_408 : decode cL_law 408 = .ok (.ireturn, 1) := by decide +kernel
theorem dL_law_409 : decode cL_law 409 = .ok (.aload_n 1, 1) := by decide +kernel
theorem dL_law_410 : decode cL_law 410 = .ok (.aload_n 0, 1) := by decide +kernel
theorem dL_law_411 : decode cL_law 411 = .ok (.iload_n 3, 1) := by decide +kernel
theorem dL_law_412 : decode cL_law 412 = .ok (.iconst 1, 1) := by decide +kernel
theorem dL_law_413 : decode cL_law 413 = .ok (.iadd, 1) := by decide +kernel
theorem dL_law_414 : decode cL_law 414 = .ok (.iaload, 1) := by decide +kernel
theorem dL_law_415 : decode cL_law 415 = .ok (.invokevirtual 60, 3) := by decide +kernel
theorem dL_law_418 : decode cL_law 418 = .ok (.aload_n 2, 1) := by decide +kernel
theorem dL_law_419 : decode cL_law 419 = .ok (.aload_n 0, 1) := by decide +kernel
theorem dL_law_420 : decode cL_law 420 = .ok (.iload_n 3, 1) := by decide +kernel
theorem dL_law_421 : decode cL_law 421 = .ok (.iconst 1, 1) := by decide +kernel
theorem dL_law_422 : decode cL_law 422 = .ok (.iadd, 1) := by decide +kernel
theorem dL_law_423 : decode cL_law 423 = .ok (.iaload, 1) := by decide +kernel
theorem dL_law_424 : decode cL_law 424 = .ok (.invokevirtual 63, 3) := by decide +kernel
theorem dL_law_427 : decode cL_law 427 = .ok (.if_icmp .eq 435, 3) := by decide +kernel
theorem dL_law_430 : decode cL_law 430 = .ok (.iconst 0, 1) := by decide +kernel
theorem dL_law_431 : decode cL_law 431 = .ok (.ireturn, 1) := by decide +kernel
theorem dL_law_432 : decode cL_law 432 = .ok (.aload_n 1, 1) := by decide +kernel
theorem dL_law_433 : decode cL_law 433 = .ok (.aload_n 0, 1) := by decide +kernel
theorem dL_law_434 : decode cL_law 434 = .ok (.iload_n 3, 1) := by decide +kernel
theorem dL_law_435 : decode cL_law 435 = .ok (.iconst 1, 1) := by decide +kernel
theorem dL_law_436 : decode cL_law 436 = .ok (.iadd, 1) := by decide +kernel
theorem dL_law_437 : decode cL_law 437 = .ok (.iaload, 1) := by decide +kernel
theorem dL_law_438 : decode cL_law 438 = .ok (.aload_n 0, 1) := by decide +kernel
theorem dL_law_439 : decode cL_law 439 = .ok (.iload_n 3, 1) := by decide +kernel
theorem dL_law_440 : decode cL_law 440 = .ok (.iconst 2, 1) := by decide +kernel
theorem dL_law_441 : decode cL_law 441 = .ok (.iadd, 1) := by decide +kernel
theorem dL_law_442 : decode cL_law 442 = .ok (.iaload, 1) := by decide +kernel
theorem dL_law_443 : decode cL_law 443 = .ok (.invokevirtual 64, 3) := by decide +kernel
theorem dL_law_446 : decode cL_law 446 = .ok (.aload_n 2, 1) := by decide +kernel
theorem dL_law_447 : decode cL_law 447 = .ok (.aload_n 0, 1) := by decide +kernel
theorem dL_law_448 : decode cL_law 448 = .ok (.iload_n 3, 1) := by decide +kernel
theorem dL_law_449 : decode cL_law 449 = .ok (.iconst 1, 1) := by decide +kernel
theorem dL_law_450 : decode cL_law 450 = .ok (.iadd, 1) := by decide +kernel
theorem dL_law_451 : decode cL_law 451 = .ok (.iaload, 1) := by decide +kernel
theorem dL_law_452 : decode cL_law 452 = .ok (.aload_n 0, 1) := by decide +kernel
theorem dL_law_453 : decode cL_law 453 = .ok (.iload_n 3, 1) := by decide +kernel
theorem dL_law_454 : decode cL_law 454 = .ok (.iconst 2, 1) := by decide +kernel
theorem dL_law_455 : decode cL_law 455 = .ok (.iadd, 1) := by decide +kernel
theorem dL_law_456 : decode cL_law 456 = .ok (.iaload, 1) := by decide +kernel
theorem dL_law_457 : decode cL_law 457 = .ok (.invokevirtual 67, 3) := by decide +kernel
theorem dL_law_460 : decode cL_law 460 = .ok (.if_icmp .eq 402, 3) := by decide +kernel
theorem dL_law_463 : decode cL_law 463 = .ok (.iconst 0, 1) := by decide +kernel
theorem dL_law_464 : decode cL_law 464 = .ok (.ireturn, 1) := by decide +kernel
theorem dL_law_465 : decode cL_law 465 = .ok (.aload_n 1, 1) := by decide +kernel
theorem dL_law_466 : decode cL_law 466 = .ok (.aload_n 0, 1) := by decide +kernel
theorem dL_law_467 : decode cL_law 467 = .ok (.iload_n 3, 1) := by decide +kernel
theorem dL_law_468 : decode cL_law 468 = .ok (.iconst 1, 1) := by decide +kernel
theorem dL_law_469 : decode cL_law 469 = .ok (.iadd, 1) := by decide +kernel
theorem dL_law_470 : decode cL_law 470 = .ok (.iaload, 1) := by decide +kernel
theorem dL_law_471 : decode cL_law 471 = .ok (.aload_n 0, 1) := by decide +kernel
theorem dL_law_472 : decode cL_law 472 = .ok (.iload_n 3, 1) := by decide +kernel
theorem dL_law_473 : decode cL_law 473 = .ok (.iconst 2, 1) := by decide +kernel
theorem dL_law_474 : decode cL_law 474 = .ok (.iadd, 1) := by decide +kernel
theorem dL_law_475 : decode cL_law 475 = .ok (.iaload, 1) := by decide +kernel
theorem dL_law_476 : decode cL_law 476 = .ok (.aload_n 0, 1) := by decide +kernel
theorem dL_law_477 : decode cL_law 477 = .ok (.iload_n 3, 1) := by decide +kernel
theorem dL_law_478 : decode cL_law 478 = .ok (.iconst 3, 1) := by decide +kernel
theorem dL_law_479 : decode cL_law 479 = .ok (.iadd, 1) := by decide +kernel
theorem dL_law_480 : decode cL_law 480 = .ok (.iaload, 1) := by decide +kernel
theorem dL_law_481 : decode cL_law 481 = .ok (.invokevirtual 68, 3) := by decide +kernel
theorem dL_law_484 : decode cL_law 484 = .ok (.aload_n 2, 1) := by decide +kernel
theorem dL_law_485 : decode cL_law 485 = .ok (.aload_n 0, 1) := by decide +kernel
theorem dL_law_486 : decode cL_law 486 = .ok (.iload_n 3, 1) := by decide +kernel
theorem dL_law_487 : decode cL_law 487 = .ok (.iconst 1, 1) := by decide +kernel
theorem dL_law_488 : decode cL_law 488 = .ok (.iadd, 1) := by decide +kernel
theorem dL_law_489 : decode cL_law 489 = .ok (.iaload, 1) := by decide +kernel
theorem dL_law_490 : decode cL_law 490 = .ok (.aload_n 0, 1) := by decide +kernel
theorem dL_law_491 : decode cL_law 491 = .ok (.iload_n 3, 1) := by decide +kernel
theorem dL_law_492 : decode cL_law 492 = .ok (.iconst 2, 1) := by decide +kernel
theorem dL_law_493 : decode cL_law 493 = .ok (.iadd, 1) := by decide +kernel
theorem dL_law_494 : decode cL_law 494 = .ok (.iaload, 1) := by decide +kernel
theorem dL_law_495 : decode cL_law 495 = .ok (.aload_n 0, 1) := by decide +kernel
theorem dL_law_496 : decode cL_law 496 = .ok (.iload_n 3, 1) := by decide +kernel
theorem dL_law_497 : decode cL_law 497 = .ok (.iconst 3, 1) := by decide +kernel
theorem dL_law_498 : decode cL_law 498 = .ok (.iadd, 1) := by decide +kernel
theorem dL_law_499 : decode cL_law 499 = .ok (.iaload, 1) := by decide +kernel
theorem dL_law_500 : decode cL_law 500 = .ok (.invokevirtual 72, 3) := by decide +kernel
theorem dL_law_503 : decode cL_law 503 = .ok (.if_icmp .eq 359, 3) := by decide +kernel
theorem dL_law_506 : decode cL_law 506 = .ok (.iconst 0, 1) := by decide +kernel
theorem dL_law_507 : decode cL_law 507 = .ok (.ireturn, 1) := by decide +kernel
theorem dL_law_508 : decode cL_law 508 = .ok (.aload_n 1, 1) := by decide +kernel
theorem dL_law_509 : decode cL_law 509 = .ok (.invokevirtual 73, 3) := by decide +kernel
theorem dL_law_512 : decode cL_law 512 = .ok (.aload_n 2, 1) := by decide +kernel
theorem dL_law_513 : decode cL_law 513 = .ok (.invokevirtual 76, 3) := by decide +kernel
theorem dL_law_516 : decode cL_law 516 = .ok (.if_icmp .eq 346, 3) := by decide +kernel
theorem dL_law_519 : decode cL_law 519 = .ok (.iconst 0, 1) := by decide +kernel
theorem dL_law_520 : decode cL_law 520 = .ok (.ireturn, 1) := by decide +kernel
theorem dL_law_521 : decode cL_law 521 = .ok (.aload_n 1, 1) := by decide +kernel
theorem dL_law_522 : decode cL_law 522 = .ok (.invokevirtual 77, 3) := by decide +kernel
theorem dL_law_525 : decode cL_law 525 = .ok (.aload_n 2, 1) := by decide +kernel
theorem dL_law_526 : decode cL_law 526 = .ok (.invokevirtual 80, 3) := by decide +kernel
theorem dL_law_529 : decode cL_law 529 = .ok (.if_icmp .eq 333, 3) := by decide +kernel
theorem dL_law_532 : decode cL_law 532 = .ok (.iconst 0, 1) := by decide +kernel
theorem dL_law_533 : decode cL_law 533 = .ok (.ireturn, 1) := by decide +kernel
theorem dL_law_534 : decode cL_law 534 = .ok (.aload_n 1, 1) := by decide +kernel
theorem dL_law_535 : decode cL_law 535 = .ok (.aload_n 0, 1) := by decide +kernel
theorem dL_law_536 : decode cL_law 536 = .ok (.iload_n 3, 1) := by decide +kernel
theorem dL_law_537 : decode cL_law 537 = .ok (.iconst 1, 1) := by decide +kernel
theorem dL_law_538 : decode cL_law 538 = .ok (.iadd, 1) := by decide +kernel
theorem dL_law_539 : decode cL_law 539 = .ok (.iaload, 1) := by decide +kernel
theorem dL_law_540 : decode cL_law 540 = .ok (.aload_n 0, 1) := by decide +kernel
theorem dL_law_541 : decode cL_law 541 = .ok (.iload_n 3, 1) := by decide +kernel
theorem dL_law_542 : decode cL_law 542 = .ok (.iconst 2, 1) := by decide +kernel
theorem dL_law_543 : decode cL_law 543 = .ok (.iadd, 1) := by decide +kernel
theorem dL_law_544 : decode cL_law 544 = .ok (.iaload, 1) := by decide +kernel
theorem dL_law_545 : decode cL_law 545 = .ok (.aload_n 0, 1) := by decide +kernel
theorem dL_law_546 : decode cL_law 546 = .ok (.iload_n 3, 1) := by decide +kernel
theorem dL_law_547 : decode cL_law 547 = .ok (.iconst 3, 1) := by decide +kernel
theorem dL_law_548 : decode cL_law 548 = .ok (.iadd, 1) := by decide +kernel
theorem dL_law_549 : decode cL_law 549 = .ok (.iaload, 1) := by decide +kernel
theorem dL_law_550 : decode cL_law 550 = .ok (.aload_n 0, 1) := by decide +kernel
theorem dL_law_551 : decode cL_law 551 = .ok (.iload_n 3, 1) := by decide +kernel
theorem dL_law_552 : decode cL_law 552 = .ok (.iconst 4, 1) := by decide +kernel
theorem dL_law_553 : decode cL_law 553 = .ok (.iadd, 1) := by decide +kernel
theorem dL_law_554 : decode cL_law 554 = .ok (.iaload, 1) := by decide +kernel
theorem dL_law_555 : decode cL_law 555 = .ok (.invokevirtual 81, 3) := by decide +kernel
theorem dL_law_558 : decode cL_law 558 = .ok (.aload_n 2, 1) := by decide +kernel
theorem dL_law_559 : decode cL_law 559 = .ok (.aload_n 0, 1) := by decide +kernel
theorem dL_law_560 : decode cL_law 560 = .ok (.iload_n 3, 1) := by decide +kernel
theorem dL_law_561 : decode cL_law 561 = .ok (.iconst 1, 1) := by decide +kernel
theorem dL_law_562 : decode cL_law 562 = .ok (.iadd, 1) := by decide +kernel
theorem dL_law_563 : decode cL_law 563 = .ok (.iaload, 1) := by decide +kernel
theorem dL_law_564 : decode cL_law 564 = .ok (.aload_n 0, 1) := by decide +kernel
theorem dL_law_565 : decode cL_law 565 = .ok (.iload_n 3, 1) := by decide +kernel
theorem dL_law_566 : decode cL_law 566 = .ok (.iconst 2, 1) := by decide +kernel
theorem dL_law_567 : decode cL_law 567 = .ok (.iadd, 1) := by decide +kernel
theorem dL_law_568 : decode cL_law 568 = .ok (.iaload, 1) := by decide +kernel
theorem dL_law_569 : decode cL_law 569 = .ok (.aload_n 0, 1) := by decide +kernel
theorem dL_law_570 : decode cL_law 570 = .ok (.iload_n 3, 1) := by decide +kernel
theorem dL_law_571 : decode cL_law 571 = .ok (.iconst 3, 1) := by decide +kernel
theorem dL_law_572 : decode cL_law 572 = .ok (.iadd, 1) := by decide +kernel
theorem dL_law_573 : decode cL_law 573 = .ok (.iaload, 1) := by decide +kernel
theorem dL_law_574 : decode cL_law 574 = .ok (.aload_n 0, 1) := by decide +kernel
theorem dL_law_575 : decode cL_law 575 = .ok (.iload_n 3, 1) := by decide +kernel
theorem dL_law_576 : decode cL_law 576 = .ok (.iconst 4, 1) := by decide +kernel
theorem dL_law_577 : decode cL_law 577 = .ok (.iadd, 1) := by decide +kernel
theorem dL_law_578 : decode cL_law 578 = .ok (.iaload, 1) := by decide +kernel
theorem dL_law_579 : decode cL_law 579 = .ok (.invokevirtual 85, 3) := by decide +kernel
theorem dL_law_582 : decode cL_law 582 = .ok (.if_icmp .eq 280, 3) := by decide +kernel
theorem dL_law_585 : decode cL_law 585 = .ok (.iconst 0, 1) := by decide +kernel
theorem dL_law_586 : decode cL_law 586 = .ok (.ireturn, 1) := by decide +kernel
theorem dL_law_587 : decode cL_law 587 = .ok (.aload_n 1, 1) := by decide +kernel
theorem dL_law_588 : decode cL_law 588 = .ok (.aload_n 0, 1) := by decide +kernel
theorem dL_law_589 : decode cL_law 589 = .ok (.iload_n 3, 1) := by decide +kernel
theorem dL_law_590 : decode cL_law 590 = .ok (.iconst 1, 1) := by decide +kernel
theorem dL_law_591 : decode cL_law 591 = .ok (.iadd, 1) := by decide +kernel
theorem dL_law_592 : decode cL_law 592 = .ok (.iaload, 1) := by decide +kernel
theorem dL_law_593 : decode cL_law 593 = .ok (.aload_n 0, 1) := by decide +kernel
theorem dL_law_594 : decode cL_law 594 = .ok (.iload_n 3, 1) := by decide +kernel
theorem dL_law_595 : decode cL_law 595 = .ok (.iconst 2, 1) := by decide +kernel
theorem dL_law_596 : decode cL_law 596 = .ok (.iadd, 1) := by decide +kernel
theorem dL_law_597 : decode cL_law 597 = .ok (.iaload, 1) := by decide +kernel
theorem dL_law_598 : decode cL_law 598 = .ok (.aload_n 0, 1) := by decide +kernel
theorem dL_law_599 : decode cL_law 599 = .ok (.iload_n 3, 1) := by decide +kernel
theorem dL_law_600 : decode cL_law 600 = .ok (.iconst 3, 1) := by decide +kernel
theorem dL_law_601 : decode cL_law 601 = .ok (.iadd, 1) := by decide +kernel
theorem dL_law_602 : decode cL_law 602 = .ok (.iaload, 1) := by decide +kernel
theorem dL_law_603 : decode cL_law 603 = .ok (.aload_n 0, 1) := by decide +kernel
theorem dL_law_604 : decode cL_law 604 = .ok (.iload_n 3, 1) := by decide +kernel
theorem dL_law_605 : decode cL_law 605 = .ok (.iconst 4, 1) := by decide +kernel
theorem dL_law_606 : decode cL_law 606 = .ok (.iadd, 1) := by decide +kernel
theorem dL_law_607 : decode cL_law 607 = .ok (.iaload, 1) := by decide +kernel
theorem dL_law_608 : decode cL_law 608 = .ok (.aload_n 0, 1) := by decide +kernel
theorem dL_law_609 : decode cL_law 609 = .ok (.iload_n 3, 1) := by decide +kernel
theorem dL_law_610 : decode cL_law 610 = .ok (.iconst 5, 1) := by decide +kernel
theorem dL_law_611 : decode cL_law 611 = .ok (.iadd, 1) := by decide +kernel
theorem dL_law_612 : decode cL_law 612 = .ok (.iaload, 1) := by decide +kernel
theorem dL_law_613 : decode cL_law 613 = .ok (.invokevirtual 86, 3) := by decide +kernel
theorem dL_law_616 : decode cL_law 616 = .ok (.aload_n 2, 1) := by decide +kernel
theorem dL_law_617 : decode cL_law 617 = .ok (.aload_n 0, 1) := by decide +kernel
theorem dL_law_618 : decode cL_law 618 = .ok (.iload_n 3, 1) := by decide +kernel
theorem dL_law_619 : decode cL_law 619 = .ok (.iconst 1, 1) := by decide +kernel
theorem dL_law_620 : decode cL_law 620 = .ok (.iadd, 1) := by decide +kernel
theorem dL_law_621 : decode cL_law 621 = .ok (.iaload, 1) := by decide +kernel
theorem dL_law_622 : decode cL_law 622 = .ok (.aload_n 0, 1) := by decide +kernel
theorem dL_law_623 : decode cL_law 623 = .ok (.iload_n 3, 1) := by decide +kernel
theorem dL_law_624 : decode cL_law 624 = .ok (.iconst 2, 1) := by decide +kernel
theorem dL_law_625 : decode cL_law 625 = .ok (.iadd, 1) := by decide +kernel
theorem dL_law_626 : decode cL_law 626 = .ok (.iaload, 1) := by decide +kernel
theorem dL_law_627 : decode cL_law 627 = .ok (.aload_n 0, 1) := by decide +kernel
theorem dL_law_628 : decode cL_law 628 = .ok (.iload_n 3, 1) := by decide +kernel
theorem dL_law_629 : decode cL_law 629 = .ok (.iconst 3, 1) := by decide +kernel
theorem dL_law_630 : decode cL_law 630 = .ok (.iadd, 1) := by decide +kernel
theorem dL_law_631 : decode cL_law 631 = .ok (.iaload, 1) := by decide +kernel
theorem dL_law_632 : decode cL_law 632 = .ok (.aload_n 0, 1) := by decide +kernel
theorem dL_law_633 : decode cL_law 633 = .ok (.iload_n 3, 1) := by decide +kernel
theorem dL_law_634 : decode cL_law 634 = .ok (.iconst 4, 1) := by decide +kernel
theorem dL_law_635 : decode cL_law 635 = .ok (.iadd, 1) := by decide +kernel
theorem dL_law_636 : decode cL_law 636 = .ok (.iaload, 1) := by decide +kernel
theorem dL_law_637 : decode cL_law 637 = .ok (.aload_n 0, 1) := by decide +kernel
theorem dL_law_638 : decode cL_law 638 = .ok (.iload_n 3, 1) := by decide +kernel
theorem dL_law_639 : decode cL_law 639 = .ok (.iconst 5, 1) := by decide +kernel
theorem dL_law_640 : decode cL_law 640 = .ok (.iadd, 1) := by decide +kernel
theorem dL_law_641 : decode cL_law 641 = .ok (.iaload, 1) := by decide +kernel
theorem dL_law_642 : decode cL_law 642 = .ok (.invokevirtual 90, 3) := by decide +kernel
theorem dL_law_645 : decode cL_law 645 = .ok (.if_icmp .eq 217, 3) := by decide +kernel
theorem dL_law_648 : decode cL_law 648 = .ok (.iconst 0, 1) := by decide +kernel
theorem dL_law_649 : decode cL_law 649 = .ok (.ireturn, 1) := by decide +kernel
theorem dL_law_650 : decode cL_law 650 = .ok (.aload_n 1, 1) := by decide +kernel
theorem dL_law_651 : decode cL_law 651 = .ok (.aload_n 0, 1) := by decide +kernel
theorem dL_law_652 : decode cL_law 652 = .ok (.iload_n 3, 1) := by decide +kernel
theorem dL_law_653 : decode cL_law 653 = .ok (.iconst 1, 1) := by decide +kernel
theorem dL_law_654 : decode cL_law 654 = .ok (.iadd, 1) := by decide +kernel
theorem dL_law_655 : decode cL_law 655 = .ok (.iaload, 1) := by decide +kernel
theorem dL_law_656 : decode cL_law 656 = .ok (.aload_n 0, 1) := by decide +kernel
theorem dL_law_657 : decode cL_law 657 = .ok (.iload_n 3, 1) := by decide +kernel
theorem dL_law_658 : decode cL_law 658 = .ok (.iconst 2, 1) := by decide +kernel
theorem dL_law_659 : decode cL_law 659 = .ok (.iadd, 1) := by decide +kernel
theorem dL_law_660 : decode cL_law 660 = .ok (.iaload, 1) := by decide +kernel
theorem dL_law_661 : decode cL_law 661 = .ok (.aload_n 0, 1) := by decide +kernel
theorem dL_law_662 : decode cL_law 662 = .ok (.iload_n 3, 1) := by decide +kernel
theorem dL_law_663 : decode cL_law 663 = .ok (.iconst 3, 1) := by decide +kernel
theorem dL_law_664 : decode cL_law 664 = .ok (.iadd, 1) := by decide +kernel
theorem dL_law_665 : decode cL_law 665 = .ok (.iaload, 1) := by decide +kernel
theorem dL_law_666 : decode cL_law 666 = .ok (.invokevirtual 91, 3) := by decide +kernel
theorem dL_law_669 : decode cL_law 669 = .ok (.aload_n 2, 1) := by decide +kernel
theorem dL_law_670 : decode cL_law 670 = .ok (.aload_n 0, 1) := by decide +kernel
theorem dL_law_671 : decode cL_law 671 = .ok (.iload_n 3, 1) := by decide +kernel
theorem dL_law_672 : decode cL_law 672 = .ok (.iconst 1, 1) := by decide +kernel
theorem dL_law_673 : decode cL_law 673 = .ok (.iadd, 1) := by decide +kernel
theorem dL_law_674 : decode cL_law 674 = .ok (.iaload, 1) := by decide +kernel
theorem dL_law_675 : decode cL_law 675 = .ok (.aload_n 0, 1) := by decide +kernel
theorem dL_law_676 : decode cL_law 676 = .ok (.iload_n 3, 1) := by decide +kernel
theorem dL_law_677 : decode cL_law 677 = .ok (.iconst 2, 1) := by decide +kernel
theorem dL_law_678 : decode cL_law 678 = .ok (.iadd, 1) := by decide +kernel
theorem dL_law_679 : decode cL_law 679 = .ok (.iaload, 1) := by decide +kernel
theorem dL_law_680 : decode cL_law 680 = .ok (.aload_n 0, 1) := by decide +kernel
theorem dL_law_681 : decode cL_law 681 = .ok (.iload_n 3, 1) := by decide +kernel
theorem dL_law_682 : decode cL_law 682 = .ok (.iconst 3, 1) := by decide +kernel
theorem dL_law_683 : decode cL_law 683 = .ok (.iadd, 1) := by decide +kernel
theorem dL_law_684 : decode cL_law 684 = .ok (.iaload, 1) := by decide +kernel
theorem dL_law_685 : decode cL_law 685 = .ok (.invokevirtual 94, 3) := by decide +kernel
theorem dL_law_688 : decode cL_law 688 = .ok (.if_icmp .eq 174, 3) := by decide +kernel
theorem dL_law_691 : decode cL_law 691 = .ok (.iconst 0, 1) := by decide +kernel
theorem dL_law_692 : decode cL_law 692 = .ok (.ireturn, 1) := by decide +kernel
theorem dL_law_693 : decode cL_law 693 = .ok (.aload_n 1, 1) := by decide +kernel
theorem dL_law_694 : decode cL_law 694 = .ok (.aload_n 0, 1) := by decide +kernel
theorem dL_law_695 : decode cL_law 695 = .ok (.iload_n 3, 1) := by decide +kernel
theorem dL_law_696 : decode cL_law 696 = .ok (.iconst 1, 1) := by decide +kernel
theorem dL_law_697 : decode cL_law 697 = .ok (.iadd, 1) := by decide +kernel
theorem dL_law_698 : decode cL_law 698 = .ok (.iaload, 1) := by decide +kernel
theorem dL_law_699 : decode cL_law 699 = .ok (.invokevirtual 95, 3) := by decide +kernel
theorem dL_law_702 : decode cL_law 702 = .ok (.aload_n 2, 1) := by decide +kernel
theorem dL_law_703 : decode cL_law 703 = .ok (.aload_n 0, 1) := by decide +kernel
theorem dL_law_704 : decode cL_law 704 = .ok (.iload_n 3, 1) := by decide +kernel
theorem dL_law_705 : decode cL_law 705 = .ok (.iconst 1, 1) := by decide +kernel
theorem dL_law_706 : decode cL_law 706 = .ok (.iadd, 1) := by decide +kernel
theorem dL_law_707 : decode cL_law 707 = .ok (.iaload, 1) := by decide +kernel
theorem dL_law_708 : decode cL_law 708 = .ok (.invokevirtual 98, 3) := by decide +kernel
theorem dL_law_711 : decode cL_law 711 = .ok (.if_icmp .eq 151, 3) := by decide +kernel
theorem dL_law_714 : decode cL_law 714 = .ok (.iconst 0, 1) := by decide +kernel
theorem dL_law_715 : decode cL_law 715 = .ok (.ireturn, 1) := by decide +kernel
theorem dL_law_716 : decode cL_law 716 = .ok (.aload_n 1, 1) := by decide +kernel
theorem dL_law_717 : decode cL_law 717 = .ok (.aload_n 0, 1) := by decide +kernel
theorem dL_law_718 : decode cL_law 718 = .ok (.iload_n 3, 1) := by decide +kernel
theorem dL_law_719 : decode cL_law 719 = .ok (.iconst 1, 1) := by decide +kernel
theorem dL_law_720 : decode cL_law 720 = .ok (.iadd, 1) := by decide +kernel
theorem dL_law_721 : decode cL_law 721 = .ok (.iaload, 1) := by decide +kernel
theorem dL_law_722 : decode cL_law 722 = .ok (.aload_n 0, 1) := by decide +kernel
theorem dL_law_723 : decode cL_law 723 = .ok (.iload_n 3, 1) := by decide +kernel
theorem dL_law_724 : decode cL_law 724 = .ok (.iconst 2, 1) := by decide +kernel
theorem dL_law_725 : decode cL_law 725 = .ok (.iadd, 1) := by decide +kernel
theorem dL_law_726 : decode cL_law 726 = .ok (.iaload, 1) := by decide +kernel
theorem dL_law_727 : decode cL_law 727 = .ok (.aload_n 0, 1) := by decide +kernel
theorem dL_law_728 : decode cL_law 728 = .ok (.iload_n 3, 1) := by decide +kernel
theorem dL_law_729 : decode cL_law 729 = .ok (.iconst 3, 1) := by decide +kernel
theorem dL_law_730 : decode cL_law 730 = .ok (.iadd, 1) := by decide +kernel
theorem dL_law_731 : decode cL_law 731 = .ok (.iaload, 1) := by decide +kernel
theorem dL_law_732 : decode cL_law 732 = .ok (.aload_n 0, 1) := by decide +kernel
theorem dL_law_733 : decode cL_law 733 = .ok (.iload_n 3, 1) := by decide +kernel
theorem dL_law_734 : decode cL_law 734 = .ok (.iconst 4, 1) := by decide +kernel
theorem dL_law_735 : decode cL_law 735 = .ok (.iadd, 1) := by decide +kernel
theorem dL_law_736 : decode cL_law 736 = .ok (.iaload, 1) := by decide +kernel
theorem dL_law_737 : decode cL_law 737 = .ok (.i2l, 1) := by decide +kernel
theorem dL_law_738 : decode cL_law 738 = .ok (.bipush 32, 2) := by decide +kernel
theorem dL_law_740 : decode cL_law 740 = .ok (.lshl, 1) := by decide +kernel
theorem dL_law_741 : decode cL_law 741 = .ok (.aload_n 0, 1) := by decide +kernel
theorem dL_law_742 : decode cL_law 742 = .ok (.iload_n 3, 1) := by decide +kernel
theorem dL_law_743 : decode cL_law 743 = .ok (.iconst 5, 1) := by decide +kernel
theorem dL_law_744 : decode cL_law 744 = .ok (.iadd, 1) := by decide +kernel
theorem dL_law_745 : decode cL_law 745 = .ok (.iaload, 1) := by decide +kernel
theorem dL_law_746 : decode cL_law 746 = .ok (.i2l, 1) := by decide +kernel
theorem dL_law_747 : decode cL_law 747 = .ok (.ldc2_w 99, 3) := by decide +kernel
theorem dL_law_750 : decode cL_law 750 = .ok (.land, 1) := by decide +kernel
theorem dL_law_751 : decode cL_law 751 = .ok (.lor, 1) := by decide +kernel
theorem dL_law_752 : decode cL_law 752 = .ok (.invokevirtual 101, 3) := by decide +kernel
theorem dL_law_755 : decode cL_law 755 = .ok (.aload_n 2, 1) := by decide +kernel
theorem dL_law_756 : decode cL_law 756 = .ok (.aload_n 0, 1) := by decide +kernel
theorem dL_law_757 : decode cL_law 757 = .ok (.iload_n 3, 1) := by decide +kernel
theorem dL_law_758 : decode cL_law 758 = .ok (.iconst 1, 1) := by decide +kernel
theorem dL_law_759 : decode cL_law 759 = .ok (.iadd, 1) := by decide +kernel
theorem dL_law_760 : decode cL_law 760 = .ok (.iaload, 1) := by decide +kernel
theorem dL_law_761 : decode cL_law 761 = .ok (.aload_n 0, 1) := by decide +kernel
theorem dL_law_762 : decode cL_law 762 = .ok (.iload_n 3, 1) := by decide +kernel
theorem dL_law_763 : decode cL_law 763 = .ok (.iconst 2, 1) := by decide +kernel
theorem dL_law_764 : decode cL_law 764 = .ok (.iadd, 1) := by decide +kernel
theorem dL_law_765 : decode cL_law 765 = .ok (.iaload, 1) := by decide +kernel
theorem dL_law_766 : decode cL_law 766 = .ok (.aload_n 0, 1) := by decide +kernel
theorem dL_law_767 : decode cL_law 767 = .ok (.iload_n 3, 1) := by decide +kernel
theorem dL_law_768 : decode cL_law 768 = .ok (.iconst 3, 1) := by decide +kernel
theorem dL_law_769 : decode cL_law 769 = .ok (.iadd, 1) := by decide +kernel
theorem dL_law_770 : decode cL_law 770 = .ok (.iaload, 1) := by decide +kernel
theorem dL_law_771 : decode cL_law 771 = .ok (.aload_n 0, 1) := by decide +kernel
theorem dL_law_772 : decode cL_law 772 = .ok (.iload_n 3, 1) := by decide +kernel
theorem dL_law_773 : decode cL_law 773 = .ok (.iconst 4, 1) := by decide +kernel
theorem dL_law_774 : decode cL_law 774 = .ok (.iadd, 1) := by decide +kernel
theorem dL_law_775 : decode cL_law 775 = .ok (.iaload, 1) := by decide +kernel
theorem dL_law_776 : decode cL_law 776 = .ok (.i2l, 1) := by decide +kernel
theorem dL_law_777 : decode cL_law 777 = .ok (.bipush 32, 2) := by decide +kernel
theorem dL_law_779 : decode cL_law 779 = .ok (.lshl, 1) := by decide +kernel
theorem dL_law_780 : decode cL_law 780 = .ok (.aload_n 0, 1) := by decide +kernel
theorem dL_law_781 : decode cL_law 781 = .ok (.iload_n 3, 1) := by decide +kernel
theorem dL_law_782 : decode cL_law 782 = .ok (.iconst 5, 1) := by decide +kernel
theorem dL_law_783 : decode cL_law 783 = .ok (.iadd, 1) := by decide +kernel
theorem dL_law_784 : decode cL_law 784 = .ok (.iaload, 1) := by decide +kernel
theorem dL_law_785 : decode cL_law 785 = .ok (.i2l, 1) := by decide +kernel
theorem dL_law_786 : decode cL_law 786 = .ok (.ldc2_w 99, 3) := by decide +kernel
theorem dL_law_789 : decode cL_law 789 = .ok (.land, 1) := by decide +kernel
theorem dL_law_790 : decode cL_law 790 = .ok (.lor, 1) := by decide +kernel
theorem dL_law_791 : decode cL_law 791 = .ok (.invokevirtual 105, 3) := by decide +kernel
theorem dL_law_794 : decode cL_law 794 = .ok (.if_icmp .eq 68, 3) := by decide +kernel
theorem dL_law_797 : decode cL_law 797 = .ok (.iconst 0, 1) := by decide +kernel
theorem dL_law_798 : decode cL_law 798 = .ok (.ireturn, 1) := by decide +kernel
theorem dL_law_799 : decode cL_law 799 = .ok (.aload_n 1, 1) := by decide +kernel
theorem dL_law_800 : decode cL_law 800 = .ok (.aload_n 0, 1) := by decide +kernel
theorem dL_law_801 : decode cL_law 801 = .ok (.iload_n 3, 1) := by decide +kernel
theorem dL_law_802 : decode cL_law 802 = .ok (.iconst 1, 1) := by decide +kernel
theorem dL_law_803 : decode cL_law 803 = .ok (.iadd, 1) := by decide +kernel
theorem dL_law_804 : decode cL_law 804 = .ok (.iaload, 1) := by decide +kernel
theorem dL_law_805 : decode cL_law 805 = .ok (.aload_n 0, 1) := by decide +kernel
theorem dL_law_806 : decode cL_law 806 = .ok (.iload_n 3, 1) := by decide +kernel
theorem dL_law_807 : decode cL_law 807 = .ok (.iconst 2, 1) := by decide +kernel
theorem dL_law_808 : decode cL_law 808 = .ok (.iadd, 1) := by decide +kernel
theorem dL_law_809 : decode cL_law 809 = .ok (.iaload, 1) := by decide +kernel
theorem dL_law_810 : decode cL_law 810 = .ok (.aload_n 0, 1) := by decide +kernel
theorem dL_law_811 : decode cL_law 811 = .ok (.iload_n 3, 1) := by decide +kernel
theorem dL_law_812 : decode cL_law 812 = .ok (.iconst 3, 1) := by decide +kernel
theorem dL_law_813 : decode cL_law 813 = .ok (.iadd, 1) := by decide +kernel
theorem dL_law_814 : decode cL_law 814 = .ok (.iaload, 1) := by decide +kernel
theorem dL_law_815 : decode cL_law 815 = .ok (.aload_n 0, 1) := by decide +kernel
theorem dL_law_816 : decode cL_law 816 = .ok (.iload_n 3, 1) := by decide +kernel
theorem dL_law_817 : decode cL_law 817 = .ok (.iconst 4, 1) := by decide +kernel
theorem dL_law_818 : decode cL_law 818 = .ok (.iadd, 1) := by decide +kernel
theorem dL_law_819 : decode cL_law 819 = .ok (.iaload, 1) := by decide +kernel
theorem dL_law_820 : decode cL_law 820 = .ok (.aload_n 0, 1) := by decide +kernel
theorem dL_law_821 : decode cL_law 821 = .ok (.iload_n 3, 1) := by decide +kernel
theorem dL_law_822 : decode cL_law 822 = .ok (.iconst 5, 1) := by decide +kernel
theorem dL_law_823 : decode cL_law 823 = .ok (.iadd, 1) := by decide +kernel
theorem dL_law_824 : decode cL_law 824 = .ok (.iaload, 1) := by decide +kernel
theorem dL_law_825 : decode cL_law 825 = .ok (.invokevirtual 106, 3) := by decide +kernel
theorem dL_law_828 : decode cL_law 828 = .ok (.aload_n 2, 1) := by decide +kernel
theorem dL_law_829 : decode cL_law 829 = .ok (.aload_n 0, 1) := by decide +kernel
theorem dL_law_830 : decode cL_law 830 = .ok (.iload_n 3, 1) := by decide +kernel
theorem dL_law_831 : decode cL_law 831 = .ok (.iconst 1, 1) := by decide +kernel
theorem dL_law_832 : decode cL_law 832 = .ok (.iadd, 1) := by decide +kernel
theorem dL_law_833 : decode cL_law 833 = .ok (.iaload, 1) := by decide +kernel
theorem dL_law_834 : decode cL_law 834 = .ok (.aload_n 0, 1) := by decide +kernel
theorem dL_law_835 : decode cL_law 835 = .ok (.iload_n 3, 1) := by decide +kernel
theorem dL_law_836 : decode cL_law 836 = .ok (.iconst 2, 1) := by decide +kernel
theorem dL_law_837 : decode cL_law 837 = .ok (.iadd, 1) := by decide +kernel
theorem dL_law_838 : decode cL_law 838 = .ok (.iaload, 1) := by decide +kernel
theorem dL_law_839 : decode cL_law 839 = .ok (.aload_n 0, 1) := by decide +kernel
theorem dL_law_840 : decode cL_law 840 = .ok (.iload_n 3, 1) := by decide +kernel
theorem dL_law_841 : decode cL_law 841 = .ok (.iconst 3, 1) := by decide +kernel
theorem dL_law_842 : decode cL_law 842 = .ok (.iadd, 1) := by decide +kernel
theorem dL_law_843 : decode cL_law 843 = .ok (.iaload, 1) := by decide +kernel
theorem dL_law_844 : decode cL_law 844 = .ok (.aload_n 0, 1) := by decide +kernel
theorem dL_law_845 : decode cL_law 845 = .ok (.iload_n 3, 1) := by decide +kernel
theorem dL_law_846 : decode cL_law 846 = .ok (.iconst 4, 1) := by decide +kernel
theorem dL_law_847 : decode cL_law 847 = .ok (.iadd, 1) := by decide +kernel
theorem dL_law_848 : decode cL_law 848 = .ok (.iaload, 1) := by decide +kernel
theorem dL_law_849 : decode cL_law 849 = .ok (.aload_n 0, 1) := by decide +kernel
theorem dL_law_850 : decode cL_law 850 = .ok (.iload_n 3, 1) := by decide +kernel
theorem dL_law_851 : decode cL_law 851 = .ok (.iconst 5, 1) := by decide +kernel
theorem dL_law_852 : decode cL_law 852 = .ok (.iadd, 1) := by decide +kernel
theorem dL_law_853 : decode cL_law 853 = .ok (.iaload, 1) := by decide +kernel
theorem dL_law_854 : decode cL_law 854 = .ok (.invokevirtual 109, 3) := by decide +kernel
theorem dL_law_857 : decode cL_law 857 = .ok (.if_icmp .eq 5, 3) := by decide +kernel
theorem dL_law_860 : decode cL_law 860 = .ok (.iconst 0, 1) := by decide +kernel
theorem dL_law_861 : decode cL_law 861 = .ok (.ireturn, 1) := by decide +kernel
theorem dL_law_862 : decode cL_law 862 = .ok (.iinc 3 6, 3) := by decide +kernel
theorem dL_law_865 : decode cL_law 865 = .ok (.goto (-847), 3) := by decide +kernel
theorem dL_law_868 : decode cL_law 868 = .ok (.iconst 1, 1) := by decide +kernel
theorem dL_law_869 : decode cL_law 869 = .ok (.ireturn, 1) := by decide +kernel
end
section
/-! ===== V: a walk over a pure picture (locals, stack, cells by their ids); ints are iI z ===== -/
def iI (z : Int) : Int32 := Int32.ofInt z
def lI (z : Int) : Int64 := Int64.ofInt z
abbrev rng (z : Int) : Prop := -2147483648 ≤ z ∧ z ≤ 2147483647
abbrev rngL (z : Int) : Prop := -9223372036854775808 ≤ z ∧ z ≤ 9223372036854775807
theorem iI_add (a b : Int) : iI a + iI b = iI (a + b) := (Int32.ofInt_add a b).symm
theorem iI_sub (a b : Int) : iI a - iI b = iI (a - b) := (Int32.ofInt_sub a b).symm
theorem iI_mul (a b : Int) : iI a * iI b = iI (a * b) := (Int32.ofInt_mul a b).symm
theorem iI_toInt {a : Int} (h : rng a) : (iI a).toInt = a := Int32.toInt_ofInt_of_le (by omega) (by omega)
theorem iI_of (x : Int32) : iI x.toInt = x := Int32.ofInt_toInt x
theorem iI_rng (x : Int32) : rng x.toInt := ⟨by have := Int32.le_toInt x; omega, by have := Int32.toInt_lt x; omega⟩
theorem iI_lt {a b : Int} (ha : rng a) (hb : rng b) : iI a < iI b ↔ a < b := by rw [Int32.lt_iff_toInt_lt, iI_toInt ha, iI_toInt hb]
theorem iI_le {a b : Int} (ha : rng a) (hb : rng b) : iI a ≤ iI b ↔ a ≤ b := by rw [Int32.le_iff_toInt_le, iI_toInt ha, iI_toInt hb]
theorem iI_eq {a b : Int} (ha : rng a) (hb : rng b) : iI a = iI b ↔ a = b := by rw [← Int32.toInt_inj, iI_toInt ha, iI_toInt hb]
theorem iI_clamp {a : Int} (h : rng a) : (iI a).toNatClampNeg = a.toNat := by rw [← Int32.toNat_toInt, iI_toInt h]
theorem iI_0 : iI 0 = 0 := rfl
theorem lI_of (x : Int64) : lI x.toInt = x := Int64.ofInt_toInt x
theorem lI_toInt {a : Int} (h : rngL a) : (lI a).toInt = a := Int64.toInt_ofInt_of_le (by omega) (by omega)
theorem lI_rng (x : Int64) : rngL x.toInt := ⟨by have := Int64.le_toInt x; omega, by have := Int64.toInt_lt x; omega⟩
theorem lI_add (a b : Int) : lI a + lI b = lI (a + b) := (Int64.ofInt_add a b).symm
theorem lI_lt {a b : Int} (ha : rngL a) (hb : rngL b) : lI a < lI b ↔ a < b := by rw [Int64.lt_iff_toInt_lt, lI_toInt ha, lI_toInt hb]
theorem lI_eq {a b : Int} (ha : rngL a) (hb : rngL b) : lI a = lI b ↔ a = b := by rw [← Int64.toInt_inj, lI_toInt ha, lI_toInt hb]
theorem iI_l {a : Int} (h : rng a) : (iI a).toInt64 = lI a := Int32.toInt64_ofInt (show (-2147483648 : Int) ≤ a from h.1) (show a ≤ (2147483647 : Int) from h.2)
theorem lI_i (a : Int) : (lI a).toInt32 = iI a := Int64.toInt32_ofInt
def b2z (P : Prop) [Decidable P] : Int := if P then 1 else 0
theorem b2z_t {P : Prop} [Decidable P] (h : P) : b2z P = 1 := if_pos h
theorem b2z_f {P : Prop} [Decidable P] (h : ¬ P) : b2z P = 0 := if_neg h
theorem b2z_rng (P : Prop) [Decidable P] : rng (b2z P) := by unfold b2z; split <;> omega
def zf (g : Int → Int) : Nat → Int32 := fun k => iI (g (k : Int))
def zg (g : Int → Int) : Nat → Int64 := fun k => lI (g (k : Int))
def zup (g : Int → Int) (i v : Int) : Int → Int := fun k => if k = i then v else g k
theorem zup_rng {g : Int → Int} {i v : Int} (hg : ∀ k, rng (g k)) (hv : rng v) : ∀ k, rng (zup g i v k) := fun k => by unfold zup; split; exact hv; exact hg k
theorem zup_rngL {g : Int → Int} {i v : Int} (hg : ∀ k, rngL (g k)) (hv : rngL v) : ∀ k, rngL (zup g i v k) := fun k => by unfold zup; split; exact hv; exact hg k
theorem zup_s {g : Int → Int} {i v : Int} : zup g i v i = v := if_pos rfl
theorem zup_n {g : Int → Int} {i v k : Int} (h : k ≠ i) : zup g i v k = g k := if_neg h
/-- n of f from sp on, laid over g from dp on -/
def zcp (f g : Int → Int) (sp dp n : Int) : Int → Int := fun k => if dp ≤ k ∧ k < dp + n then f (sp + (k - dp)) else g k
theorem zcp_rng {f g : Int → Int} {sp dp n : Int} (hf : ∀ k, rng (f k)) (hg : ∀ k, rng (g k)) : ∀ k, rng (zcp f g sp dp n k) := fun k => by unfold zcp; split; exact hf _; exact hg k
theorem zcp_rngL {f g : Int → Int} {sp dp n : Int} (hf : ∀ k, rngL (f k)) (hg : ∀ k, rngL (g k)) : ∀ k, rngL (zcp f g sp dp n k) := fun k => by unfold zcp; split; exact hf _; exact hg k
theorem zf_upd (g : Int → Int) {i : Int} (v : Int) (h : 0 ≤ i) : upd (zf g) i.toNat (iI v) = zf (zup g i v) := by
  funext k
  unfold upd zf zup
  by_cases e : k = i.toNat
  · rw [if_pos e, if_pos (by omega)]
  · rw [if_neg e, if_neg (by omega)]
theorem zg_upd (g : Int → Int) {i : Int} (v : Int) (h : 0 ≤ i) : vp_updL (zg g) i.toNat (lI v) = zg (zup g i v) := by
  funext k
  unfold vp_updL zg zup
  by_cases e : k = i.toNat
  · rw [if_pos e, if_pos (by omega)]
  · rw [if_neg e, if_neg (by omega)]
theorem zf_cpy (f g : Int → Int) {sp dp n : Int} (h1 : 0 ≤ sp) (h2 : 0 ≤ dp) (h3 : 0 ≤ n) : va_cpy (zf f) (zf g) sp.toNat dp.toNat n.toNat = zf (zcp f g sp dp n) := by
  funext k
  unfold va_cpy zf zcp
  by_cases e : dp.toNat ≤ k ∧ k < dp.toNat + n.toNat
  · rw [if_pos e, if_pos (by omega)]
    congr 2
    omega
  · rw [if_neg e, if_neg (by omega)]
theorem zg_cpy (f g : Int → Int) {sp dp n : Int} (h1 : 0 ≤ sp) (h2 : 0 ≤ dp) (h3 : 0 ≤ n) : va_cpy (zg f) (zg g) sp.toNat dp.toNat n.toNat = zg (zcp f g sp dp n) := by
  funext k
  unfold va_cpy zg zcp
  by_cases e : dp.toNat ≤ k ∧ k < dp.toNat + n.toNat
  · rw [if_pos e, if_pos (by omega)]
    congr 2
    omega
  · rw [if_neg e, if_neg (by omega)]
theorem zf_at (g : Int → Int) {i : Int} (h : 0 ≤ i) : zf g i.toNat = iI (g i) := by
  show iI (g (i.toNat : Int)) = iI (g i)
  rw [Int.toNat_of_nonneg h]
theorem zg_at (g : Int → Int) {i : Int} (h : 0 ≤ i) : zg g i.toNat = lI (g i) := by
  show lI (g (i.toNat : Int)) = lI (g i)
  rw [Int.toNat_of_nonneg h]
theorem iI_in {i : Int} {n : Nat} (h0 : 0 ≤ i) (h1 : i < n) (hn : n < 2147483648) : vp_in (iI i) n := by
  rw [vp_in_iff, iI_toInt (by omega)]
  exact ⟨h0, h1⟩
-- the fixed things of a walk
/-- the launch, the classes' numbers, the array classes, the address of each id -/
abbrev zG : Type := Launch × va_G × (Nat → ClassId) × (Nat → Nat)
abbrev zG.l (G : zG) : Launch := G.1
abbrev zG.D (G : zG) : va_G := G.2.1
abbrev zG.cy (G : zG) : Nat → ClassId := G.2.2.1
abbrev zG.ad (G : zG) : Nat → Nat := G.2.2.2
abbrev zE : Type := Program × Env × Room × State × MethodId × Array Value × List Frame × Method × Code × Nat × Nat × (State → Prop) × (Nat → Prop)
abbrev zE.p (E : zE) : Program := E.1
abbrev zE.e (E : zE) : Env := E.2.1
abbrev zE.R (E : zE) : Room := E.2.2.1
abbrev zE.s (E : zE) : State := E.2.2.2.1
abbrev zE.m (E : zE) : MethodId := E.2.2.2.2.1
abbrev zE.args (E : zE) : Array Value := E.2.2.2.2.2.1
abbrev zE.below (E : zE) : List Frame := E.2.2.2.2.2.2.1
abbrev zE.meth (E : zE) : Method := E.2.2.2.2.2.2.2.1
abbrev zE.c (E : zE) : Code := E.2.2.2.2.2.2.2.2.1
abbrev zE.cells (E : zE) : Nat := E.2.2.2.2.2.2.2.2.2.1
abbrev zE.slots (E : zE) : Nat := E.2.2.2.2.2.2.2.2.2.2.1
abbrev zE.Q (E : zE) : State → Prop := E.2.2.2.2.2.2.2.2.2.2.2.1
abbrev zE.A (E : zE) : Nat → Prop := E.2.2.2.2.2.2.2.2.2.2.2.2
/-- cells with their addresses -/
def zw (ad : Nat → Nat) (cs : List va_E) : va_W := cs.mapIdx (fun k e => (ad k, e))
theorem zw_get (ad : Nat → Nat) (cs : List va_E) (k : Nat) : (zw ad cs)[k]? = (cs[k]?).map (fun e => (ad k, e)) := by unfold zw; rw [List.getElem?_mapIdx]
theorem zw_at {ad : Nat → Nat} {cs : List va_E} {k : Nat} {e : va_E} (h : cs[k]? = some e) : (zw ad cs)[k]? = some (ad k, e) := by rw [zw_get, h]; rfl
theorem zw_set (ad : Nat → Nat) (cs : List va_E) (k : Nat) (e : va_E) : (zw ad cs).set k (ad k, e) = zw ad (cs.set k e) := by
  apply List.ext_getElem?
  intro j
  rw [zw_get, List.getElem?_set, List.getElem?_set, zw_get]
  have hl : (zw ad cs).length = cs.length := by unfold zw; rw [List.length_mapIdx]
  by_cases e1 : k = j
  · subst e1
    rw [if_pos rfl, if_pos rfl, hl]
    split <;> rfl
  · rw [if_neg e1, if_neg e1]
def zA (ad : Nat → Nat) (n : Nat) : Nat → Prop := fun q => ∃ k, k < n ∧ q = ad k
-- locals
def zpl : Nat → List (Option Value) → List (Nat × Value)
  | _, [] => []
  | k, none :: t => zpl (k + 1) t
  | k, some v :: t => (k, v) :: zpl (k + 1) t
theorem zpl_mem : ∀ (lv : List (Option Value)) (k j : Nat) (v : Value), (j, v) ∈ zpl k lv ↔ k ≤ j ∧ lv[j - k]? = some (some v)
  | [], k, j, v => by simp [zpl]
  | none :: t, k, j, v => by
    rw [zpl, zpl_mem t (k + 1) j v]
    by_cases h : k < j
    · rw [show j - k = (j - (k + 1)) + 1 by omega]; simp; omega
    · by_cases h2 : j = k
      · subst h2; simp; omega
      · constructor
        · intro q; omega
        · intro q; omega
  | some w :: t, k, j, v => by
    rw [zpl, List.mem_cons, zpl_mem t (k + 1) j v]
    by_cases h : k < j
    · rw [show j - k = (j - (k + 1)) + 1 by omega]
      simp only [List.getElem?_cons_succ, Prod.mk.injEq]
      constructor
      · rintro (⟨q, -⟩ | q)
        · omega
        · exact ⟨by omega, q.2⟩
      · intro q; exact Or.inr ⟨by omega, q.2⟩
    · by_cases h2 : j = k
      · subst h2
        simp only [Nat.sub_self, List.getElem?_cons_zero, Prod.mk.injEq, Option.some.injEq]
        constructor
        · rintro (⟨-, q⟩ | q)
          · exact ⟨Nat.le_refl _, q.symm⟩
          · omega
        · intro q; exact Or.inl ⟨trivial, q.2.symm⟩
      · constructor
        · rintro (q | q)
          · simp at q; omega
          · omega
        · intro q; omega
def zls (ls : Array Slot) (n : Nat) (lv : List (Option Value)) : Prop := lv_has ls n (zpl 0 lv)
theorem zls_at {ls : Array Slot} {n : Nat} {lv : List (Option Value)} (h : zls ls n lv) {i : Nat} {v : Value} (hv : lv[i]? = some (some v)) : ls[i]? = some (.val v) := h.2.2 (i, v) ((zpl_mem lv 0 i v).mpr ⟨Nat.zero_le _, hv⟩)
def zok (lv : List (Option Value)) : Nat → Bool
  | 0 => true
  | i + 1 => match lv[i]? with
    | some (some w) => !(w.category == 2)
    | _ => true
theorem zls_set {ls : Array Slot} {n i : Nat} {lv : List (Option Value)} {v : Value} (ho : zok lv i = true) (h : lv_has ls n ((i, v) :: (zpl 0 lv).filter (fun q => !(q.1 == i) && !(q.1 + 1 == i && q.2.category == 2)))) : zls ls n (lv.set i (some v)) := by
  refine ⟨h.1, h.2.1, fun q hq => ?_⟩
  obtain ⟨j, w⟩ := q
  have h1 := ((zpl_mem _ 0 j w).mp hq).2
  rw [Nat.sub_zero, List.getElem?_set] at h1
  by_cases e : i = j
  · subst e
    rw [if_pos rfl] at h1
    split at h1
    · have := Option.some.inj (Option.some.inj h1)
      subst this
      exact h.2.2 _ List.mem_cons_self
    · cases h1
  · rw [if_neg e] at h1
    refine h.2.2 _ (List.mem_cons_of_mem _ (List.mem_filter.mpr ⟨(zpl_mem _ 0 j w).mpr ⟨Nat.zero_le _, h1⟩, ?_⟩))
    have e2 : (j == i) = false := by simp; omega
    simp only [e2, Bool.not_false, Bool.true_and]
    by_cases e3 : j + 1 = i
    · subst e3
      rw [zok, h1] at ho
      simp only [beq_self_eq_true, Bool.true_and]
      exact ho
    · have e4 : (j + 1 == i) = false := by simp; omega
      rw [e4]; rfl
def zent (av : List Value) (n : Nat) : List (Option Value) :=
  let l := av.flatMap (fun v => if v.category = 2 then [some v, none] else [some v])
  l ++ List.replicate (n - l.length) none
-- words
def zgood (w : Cond) : Bool := goodWord w || (match w with
  | .fieldLinkNest _ _ _ _ _ _ => true
  | .methodLinkNest _ _ _ _ => true
  | _ => false)
def zW (w : Cond) : Prop := w ∈ lw_tbl ∧ zgood w = true
def zT (s : State) : Prop := ∀ w, zW w → ∀ args : Array Value, w.before args s = true
theorem zT_warm {s U : State} (hW : s.WarmedH U.vm) (h : zT s) : zT U := by
  intro w hw args
  have h1 := h w hw
  have h2 := hw.2
  unfold zgood at h2
  rcases Bool.or_eq_true_iff.mp h2 with q | q
  · exact word_at hW (good_of_word q) (h1 args)
  · cases w <;> first | cases q | skip
    · exact va_Nw.use rfl (va_Nw.warmM hW (h1 #[]))
    · exact va_Nw.use rfl (va_Nw.warmF hW (h1 #[]))
abbrev zty (cy : Nat → ClassId) : List (ClassId × FieldType) := [(cy 0, .int), (cy 1, .long), (cy 2, .object "ModalKeys$Sheet"), (cy 3, .array .int)]
def zC (G : zG) (E : zE) (own : String) (cc : ByteArray) (nL fr lo : Nat) : Prop :=
  E.p.tables.exec = Jvm.exec ∧ E.c.code = cc ∧ E.c.maxLocals = nL ∧ E.s.vm.findClass own = some E.m.cls ∧ fr ≤ E.R.frames ∧ lo ≤ E.R.locals ∧ E.cells ≤ E.R.cells ∧ E.slots ≤ E.R.slots ∧ va_K G.D vwCl (zty G.cy) E.s ∧ zT E.s
def V (G : zG) (E : zE) (pc : Nat) (lv : List (Option Value)) (st : List Value) (cs : List va_E) : Prop :=
  ∀ (H : Heap) (locs : List Loc) (ls : Array Slot), zls ls E.c.maxLocals lv → va_P G.D vwCl (zw G.ad cs) H → va_D E.A (zw G.ad cs) → va_S E.A E.s.heap H locs → W E.p G.l E.e E.R E.s E.m E.args E.below E.meth E.c H locs E.cells E.slots E.Q (F0 E.m pc ls st)
end
section
/-! ===== a row an instruction, over V ===== -/
section ZR
variable {G : zG} {E : zE} {own : String} {cc : ByteArray} {nL fr lo pc : Nat} {lv : List (Option Value)} {st : List Value} {cs : List va_E}
theorem V_iconst (C : zC G E own cc nL fr lo) {n : Int} (hd : decode cc pc = .ok (.iconst n, 1)) (k : V G E (pc + 1) lv (.int (iI n) :: st) cs) : V G E pc lv st cs :=
  fun H locs ls hl hP hD hS => lv_iconst C.1 C.2.1 hd rfl (k H locs ls hl hP hD hS)
theorem V_bipush (C : zC G E own cc nL fr lo) {n : Int} (hd : decode cc pc = .ok (.bipush n, 2)) (hn : (Int8.ofInt n).toInt32 = iI n) (k : V G E (pc + 2) lv (.int (iI n) :: st) cs) : V G E pc lv st cs :=
  fun H locs ls hl hP hD hS => lv_bipush C.1 C.2.1 hd hn (k H locs ls hl hP hD hS)
theorem V_sipush (C : zC G E own cc nL fr lo) {n : Int} (hd : decode cc pc = .ok (.sipush n, 3)) (hn : (Int16.ofInt n).toInt32 = iI n) (k : V G E (pc + 3) lv (.int (iI n) :: st) cs) : V G E pc lv st cs :=
  fun H locs ls hl hP hD hS => lv_sipush C.1 C.2.1 hd hn (k H locs ls hl hP hD hS)
theorem V_ldc (C : zC G E own cc nL fr lo) {i : Nat} {n : Int} (hw : zW (.constant own i (iI n))) (hd : decode cc pc = .ok (.ldc i, 2)) (k : V G E (pc + 2) lv (.int (iI n) :: st) cs) : V G E pc lv st cs :=
  fun H locs ls hl hP hD hS => lv_ldc C.1 C.2.1 C.2.2.2.1 (C.2.2.2.2.2.2.2.2.2 _ hw _) hd (k H locs ls hl hP hD hS)
theorem V_lconst (C : zC G E own cc nL fr lo) {n : Fin 2} {z : Int} (hd : decode cc pc = .ok (.lconst n, 1)) (hz : Int64.ofNat (n : Nat) = lI z) (k : V G E (pc + 1) lv (.long (lI z) :: st) cs) : V G E pc lv st cs :=
  fun H locs ls hl hP hD hS => lv_lconst C.1 C.2.1 hd hz (k H locs ls hl hP hD hS)
theorem V_ldc2 (C : zC G E own cc nL fr lo) {i : Nat} {v : Int64} {z : Int} (hw : zW (.constantLong own i v)) (hz : v = lI z) (hd : decode cc pc = .ok (.ldc2_w i, 3)) (k : V G E (pc + 3) lv (.long (lI z) :: st) cs) : V G E pc lv st cs :=
  fun H locs ls hl hP hD hS => lv_ldc2 C.1 C.2.1 C.2.2.2.1 (C.2.2.2.2.2.2.2.2.2 _ hw _) hd (by rw [hz]; exact k H locs ls hl hP hD hS)
theorem V_null (C : zC G E own cc nL fr lo) (hd : decode cc pc = .ok (.aconst_null, 1)) (k : V G E (pc + 1) lv (.null :: st) cs) : V G E pc lv st cs :=
  fun H locs ls hl hP hD hS => lv_null C.1 C.2.1 hd (k H locs ls hl hP hD hS)
theorem V_iload_n (C : zC G E own cc nL fr lo) {i : Fin 4} {x : Int32} (hd : decode cc pc = .ok (.iload_n i, 1)) (hv : lv[(i : Nat)]? = some (some (.int x))) (k : V G E (pc + 1) lv (.int x :: st) cs) : V G E pc lv st cs :=
  fun H locs ls hl hP hD hS => lv_iload_n C.1 C.2.1 hd rfl (zls_at hl hv) (k H locs ls hl hP hD hS)
theorem V_iload (C : zC G E own cc nL fr lo) {i : Nat} {x : Int32} (hd : decode cc pc = .ok (.iload i, 2)) (hv : lv[i]? = some (some (.int x))) (k : V G E (pc + 2) lv (.int x :: st) cs) : V G E pc lv st cs :=
  fun H locs ls hl hP hD hS => lv_iload C.1 C.2.1 hd (zls_at hl hv) (k H locs ls hl hP hD hS)
theorem V_lload_n (C : zC G E own cc nL fr lo) {i : Fin 4} {x : Int64} (hd : decode cc pc = .ok (.lload_n i, 1)) (hv : lv[(i : Nat)]? = some (some (.long x))) (k : V G E (pc + 1) lv (.long x :: st) cs) : V G E pc lv st cs :=
  fun H locs ls hl hP hD hS => lv_lload_n C.1 C.2.1 hd rfl (zls_at hl hv) (k H locs ls hl hP hD hS)
theorem V_lload (C : zC G E own cc nL fr lo) {i : Nat} {x : Int64} (hd : decode cc pc = .ok (.lload i, 2)) (hv : lv[i]? = some (some (.long x))) (k : V G E (pc + 2) lv (.long x :: st) cs) : V G E pc lv st cs :=
  fun H locs ls hl hP hD hS => lv_lload C.1 C.2.1 hd (zls_at hl hv) (k H locs ls hl hP hD hS)
theorem V_aload_n (C : zC G E own cc nL fr lo) {i : Fin 4} {x : Nat} (hd : decode cc pc = .ok (.aload_n i, 1)) (hv : lv[(i : Nat)]? = some (some (.ref x))) (k : V G E (pc + 1) lv (.ref x :: st) cs) : V G E pc lv st cs :=
  fun H locs ls hl hP hD hS => lv_aload_n C.1 C.2.1 hd rfl (zls_at hl hv) (k H locs ls hl hP hD hS)
theorem V_aload (C : zC G E own cc nL fr lo) {i : Nat} {x : Nat} (hd : decode cc pc = .ok (.aload i, 2)) (hv : lv[i]? = some (some (.ref x))) (k : V G E (pc + 2) lv (.ref x :: st) cs) : V G E pc lv st cs :=
  fun H locs ls hl hP hD hS => lv_aload C.1 C.2.1 hd (zls_at hl hv) (k H locs ls hl hP hD hS)
theorem V_aload_nN (C : zC G E own cc nL fr lo) {i : Fin 4} (hd : decode cc pc = .ok (.aload_n i, 1)) (hv : lv[(i : Nat)]? = some (some .null)) (k : V G E (pc + 1) lv (.null :: st) cs) : V G E pc lv st cs :=
  fun H locs ls hl hP hD hS => lv_aload_nN C.1 C.2.1 hd rfl (zls_at hl hv) (k H locs ls hl hP hD hS)
theorem V_aloadN (C : zC G E own cc nL fr lo) {i : Nat} (hd : decode cc pc = .ok (.aload i, 2)) (hv : lv[i]? = some (some .null)) (k : V G E (pc + 2) lv (.null :: st) cs) : V G E pc lv st cs :=
  fun H locs ls hl hP hD hS => lv_aloadN C.1 C.2.1 hd (zls_at hl hv) (k H locs ls hl hP hD hS)
theorem V_istore_n (C : zC G E own cc nL fr lo) {i : Fin 4} {x : Int32} (hd : decode cc pc = .ok (.istore_n i, 1)) (hn : (i : Nat) < nL) (ho : zok lv (i : Nat) = true) (k : V G E (pc + 1) (lv.set (i : Nat) (some (.int x))) st cs) : V G E pc lv (.int x :: st) cs :=
  fun H locs ls hl hP hD hS => lv_istore_n C.1 C.2.1 hd rfl hl (by rw [C.2.2.1]; exact hn) rfl (fun ls' hl' => k H locs ls' (zls_set ho hl') hP hD hS)
theorem V_istore (C : zC G E own cc nL fr lo) {i : Nat} {x : Int32} (hd : decode cc pc = .ok (.istore i, 2)) (hn : i < nL) (ho : zok lv i = true) (k : V G E (pc + 2) (lv.set i (some (.int x))) st cs) : V G E pc lv (.int x :: st) cs :=
  fun H locs ls hl hP hD hS => lv_istore C.1 C.2.1 hd hl (by rw [C.2.2.1]; exact hn) rfl (fun ls' hl' => k H locs ls' (zls_set ho hl') hP hD hS)
theorem V_astore_n (C : zC G E own cc nL fr lo) {i : Fin 4} {x : Nat} (hd : decode cc pc = .ok (.astore_n i, 1)) (hn : (i : Nat) < nL) (ho : zok lv (i : Nat) = true) (k : V G E (pc + 1) (lv.set (i : Nat) (some (.ref x))) st cs) : V G E pc lv (.ref x :: st) cs :=
  fun H locs ls hl hP hD hS => lv_astore_n C.1 C.2.1 hd rfl hl (by rw [C.2.2.1]; exact hn) rfl (fun ls' hl' => k H locs ls' (zls_set ho hl') hP hD hS)
theorem V_astore (C : zC G E own cc nL fr lo) {i : Nat} {x : Nat} (hd : decode cc pc = .ok (.astore i, 2)) (hn : i < nL) (ho : zok lv i = true) (k : V G E (pc + 2) (lv.set i (some (.ref x))) st cs) : V G E pc lv (.ref x :: st) cs :=
  fun H locs ls hl hP hD hS => lv_astore C.1 C.2.1 hd hl (by rw [C.2.2.1]; exact hn) rfl (fun ls' hl' => k H locs ls' (zls_set ho hl') hP hD hS)
theorem V_astore_nN (C : zC G E own cc nL fr lo) {i : Fin 4} (hd : decode cc pc = .ok (.astore_n i, 1)) (hn : (i : Nat) < nL) (ho : zok lv (i : Nat) = true) (k : V G E (pc + 1) (lv.set (i : Nat) (some .null)) st cs) : V G E pc lv (.null :: st) cs :=
  fun H locs ls hl hP hD hS => lv_astore_nN C.1 C.2.1 hd rfl hl (by rw [C.2.2.1]; exact hn) rfl (fun ls' hl' => k H locs ls' (zls_set ho hl') hP hD hS)
theorem V_astoreN (C : zC G E own cc nL fr lo) {i : Nat} (hd : decode cc pc = .ok (.astore i, 2)) (hn : i < nL) (ho : zok lv i = true) (k : V G E (pc + 2) (lv.set i (some .null)) st cs) : V G E pc lv (.null :: st) cs :=
  fun H locs ls hl hP hD hS => lv_astoreN C.1 C.2.1 hd hl (by rw [C.2.2.1]; exact hn) rfl (fun ls' hl' => k H locs ls' (zls_set ho hl') hP hD hS)
theorem zpl_at {lv : List (Option Value)} {i : Nat} {v : Value} (h : lv[i]? = some (some v)) : ∃ k : Nat, (zpl 0 lv)[k]? = some (i, v) := List.getElem?_of_mem ((zpl_mem lv 0 i v).mpr ⟨Nat.zero_le _, h⟩)
theorem V_iinc (C : zC G E own cc nL fr lo) {i : Nat} {n a : Int} (hd : decode cc pc = .ok (.iinc i n, 3)) (hv : lv[i]? = some (some (.int (iI a)))) (hn : i < nL) (ho : zok lv i = true) (k : V G E (pc + 3) (lv.set i (some (.int (iI (a + n))))) st cs) : V G E pc lv st cs := by
  intro H locs ls hl hP hD hS
  obtain ⟨j, hj⟩ := zpl_at hv
  exact lv_iinc C.1 C.2.1 hd hl hj (iI_add a n) (by rw [C.2.2.1]; exact hn) rfl (fun ls' hl' => k H locs ls' (zls_set ho hl') hP hD hS)
theorem V_iadd (C : zC G E own cc nL fr lo) {a b : Int} (hd : decode cc pc = .ok (.iadd, 1)) (k : V G E (pc + 1) lv (.int (iI (a + b)) :: st) cs) : V G E pc lv (.int (iI b) :: .int (iI a) :: st) cs :=
  fun H locs ls hl hP hD hS => lv_iadd C.1 C.2.1 hd (by rw [iI_add]; exact k H locs ls hl hP hD hS)
theorem V_isub (C : zC G E own cc nL fr lo) {a b : Int} (hd : decode cc pc = .ok (.isub, 1)) (k : V G E (pc + 1) lv (.int (iI (a - b)) :: st) cs) : V G E pc lv (.int (iI b) :: .int (iI a) :: st) cs :=
  fun H locs ls hl hP hD hS => lv_isub C.1 C.2.1 hd (by rw [iI_sub]; exact k H locs ls hl hP hD hS)
theorem V_imul (C : zC G E own cc nL fr lo) {a b : Int} (hd : decode cc pc = .ok (.imul, 1)) (k : V G E (pc + 1) lv (.int (iI (a * b)) :: st) cs) : V G E pc lv (.int (iI b) :: .int (iI a) :: st) cs :=
  fun H locs ls hl hP hD hS => lv_imul C.1 C.2.1 hd (by rw [iI_mul]; exact k H locs ls hl hP hD hS)
theorem iI_div {a b : Int} (ha : 0 ≤ a ∧ a ≤ 2147483647) (hb : 0 < b ∧ b ≤ 2147483647) : iI a / iI b = iI (a / b) := by
  apply Int32.toInt_inj.mp
  have hq : a / b ≤ a := Int.ediv_le_self b ha.1
  have hq0 : 0 ≤ a / b := Int.ediv_nonneg ha.1 (by omega)
  rw [Int32.toInt_div_of_ne_right _ _ (fun h => by have := congrArg Int32.toInt h; rw [iI_toInt (by omega)] at this; change b = -1 at this; omega), iI_toInt (by omega), iI_toInt (by omega), iI_toInt (by omega)]
  exact Int.tdiv_eq_ediv_of_nonneg ha.1
theorem V_idiv (C : zC G E own cc nL fr lo) {a b : Int} (hd : decode cc pc = .ok (.idiv, 1)) (ha : 0 ≤ a ∧ a ≤ 2147483647) (hb : 0 < b ∧ b ≤ 2147483647) (k : V G E (pc + 1) lv (.int (iI (a / b)) :: st) cs) : V G E pc lv (.int (iI b) :: .int (iI a) :: st) cs :=
  fun H locs ls hl hP hD hS => lv_idiv C.1 C.2.1 hd (by rw [← iI_0, iI_eq (by omega) (by omega)]; omega) (by rw [iI_div ha hb]; exact k H locs ls hl hP hD hS)
theorem V_irem (C : zC G E own cc nL fr lo) {a b : Int} (hd : decode cc pc = .ok (.irem, 1)) (ha : 0 ≤ a ∧ a ≤ 2147483647) (hb : 0 < b ∧ b ≤ 2147483647) (k : V G E (pc + 1) lv (.int (iI (a % b)) :: st) cs) : V G E pc lv (.int (iI b) :: .int (iI a) :: st) cs :=
  fun H locs ls hl hP hD hS => lv_irem C.1 C.2.1 hd (by rw [← iI_0, iI_eq (by omega) (by omega)]; omega) (by rw [iI_div ha hb, iI_mul, iI_sub, show a - a / b * b = a % b by rw [Int.mul_comm]; have := Int.emod_add_mul_ediv a b; omega]; exact k H locs ls hl hP hD hS)
/-- any int on the stack, as it is -/
theorem V_ior (C : zC G E own cc nL fr lo) {x y : Int32} {z : Int} (hd : decode cc pc = .ok (.ior, 1)) (hz : x ||| y = iI z) (k : V G E (pc + 1) lv (.int (iI z) :: st) cs) : V G E pc lv (.int y :: .int x :: st) cs :=
  fun H locs ls hl hP hD hS => lv_ior C.1 C.2.1 hd (by rw [hz]; exact k H locs ls hl hP hD hS)
theorem V_iand (C : zC G E own cc nL fr lo) {x y : Int32} {z : Int} (hd : decode cc pc = .ok (.iand, 1)) (hz : x &&& y = iI z) (k : V G E (pc + 1) lv (.int (iI z) :: st) cs) : V G E pc lv (.int y :: .int x :: st) cs :=
  fun H locs ls hl hP hD hS => lv_iand C.1 C.2.1 hd (by rw [hz]; exact k H locs ls hl hP hD hS)
theorem V_ishl (C : zC G E own cc nL fr lo) {x y : Int32} {z : Int} (hd : decode cc pc = .ok (.ishl, 1)) (hz : x <<< (y &&& 31) = iI z) (k : V G E (pc + 1) lv (.int (iI z) :: st) cs) : V G E pc lv (.int y :: .int x :: st) cs :=
  fun H locs ls hl hP hD hS => lv_ishl C.1 C.2.1 hd (by rw [hz]; exact k H locs ls hl hP hD hS)
theorem V_lshl (C : zC G E own cc nL fr lo) {x : Int64} {y : Int32} (hd : decode cc pc = .ok (.lshl, 1)) (k : V G E (pc + 1) lv (.long (x <<< (y.toInt64 &&& 63)) :: st) cs) : V G E pc lv (.int y :: .long x :: st) cs :=
  fun H locs ls hl hP hD hS => lv_lshl C.1 C.2.1 hd rfl (k H locs ls hl hP hD hS)
theorem V_lor (C : zC G E own cc nL fr lo) {x y : Int64} (hd : decode cc pc = .ok (.lor, 1)) (k : V G E (pc + 1) lv (.long (x ||| y) :: st) cs) : V G E pc lv (.long y :: .long x :: st) cs :=
  fun H locs ls hl hP hD hS => lv_lor C.1 C.2.1 hd (k H locs ls hl hP hD hS)
theorem V_land (C : zC G E own cc nL fr lo) {x y : Int64} (hd : decode cc pc = .ok (.land, 1)) (k : V G E (pc + 1) lv (.long (x &&& y) :: st) cs) : V G E pc lv (.long y :: .long x :: st) cs :=
  fun H locs ls hl hP hD hS => lv_land C.1 C.2.1 hd (k H locs ls hl hP hD hS)
theorem V_ladd (C : zC G E own cc nL fr lo) {a b : Int} (hd : decode cc pc = .ok (.ladd, 1)) (k : V G E (pc + 1) lv (.long (lI (a + b)) :: st) cs) : V G E pc lv (.long (lI b) :: .long (lI a) :: st) cs :=
  fun H locs ls hl hP hD hS => lv_ladd C.1 C.2.1 hd (by rw [lI_add]; exact k H locs ls hl hP hD hS)
theorem V_i2l (C : zC G E own cc nL fr lo) {a : Int} (hd : decode cc pc = .ok (.i2l, 1)) (ha : rng a) (k : V G E (pc + 1) lv (.long (lI a) :: st) cs) : V G E pc lv (.int (iI a) :: st) cs :=
  fun H locs ls hl hP hD hS => lv_i2l C.1 C.2.1 hd (iI_l ha) (k H locs ls hl hP hD hS)
theorem V_i2lx (C : zC G E own cc nL fr lo) {x : Int32} (hd : decode cc pc = .ok (.i2l, 1)) (k : V G E (pc + 1) lv (.long x.toInt64 :: st) cs) : V G E pc lv (.int x :: st) cs :=
  fun H locs ls hl hP hD hS => lv_i2l C.1 C.2.1 hd rfl (k H locs ls hl hP hD hS)
theorem V_l2i (C : zC G E own cc nL fr lo) {a : Int} (hd : decode cc pc = .ok (.l2i, 1)) (k : V G E (pc + 1) lv (.int (iI a) :: st) cs) : V G E pc lv (.long (lI a) :: st) cs :=
  fun H locs ls hl hP hD hS => lv_l2i C.1 C.2.1 hd (lI_i a) (k H locs ls hl hP hD hS)
def zby (a : Int) : Int := (iI a).toInt8.toInt32.toInt
def zsh (a : Int) : Int := (iI a).toInt16.toInt32.toInt
def z32 (a : Int) : Int := (iI a).toInt
theorem V_i2b (C : zC G E own cc nL fr lo) {a : Int} (hd : decode cc pc = .ok (.i2b, 1)) (k : V G E (pc + 1) lv (.int (iI (zby a)) :: st) cs) : V G E pc lv (.int (iI a) :: st) cs :=
  fun H locs ls hl hP hD hS => lv_i2b C.1 C.2.1 hd (iI_of _).symm (k H locs ls hl hP hD hS)
theorem V_i2s (C : zC G E own cc nL fr lo) {a : Int} (hd : decode cc pc = .ok (.i2s, 1)) (k : V G E (pc + 1) lv (.int (iI (zsh a)) :: st) cs) : V G E pc lv (.int (iI a) :: st) cs :=
  fun H locs ls hl hP hD hS => lv_i2s C.1 C.2.1 hd (iI_of _).symm (k H locs ls hl hP hD hS)
theorem V_dup (C : zC G E own cc nL fr lo) {v : Value} (hd : decode cc pc = .ok (.dup, 1)) (hv : v.category = 1) (k : V G E (pc + 1) lv (v :: v :: st) cs) : V G E pc lv (v :: st) cs :=
  fun H locs ls hl hP hD hS => lv_dup C.1 C.2.1 hd hv (k H locs ls hl hP hD hS)
theorem V_dup2 (C : zC G E own cc nL fr lo) {v w : Value} (hd : decode cc pc = .ok (.dup2, 1)) (hv : v.category = 1) (hw : w.category = 1) (k : V G E (pc + 1) lv (v :: w :: v :: w :: st) cs) : V G E pc lv (v :: w :: st) cs :=
  fun H locs ls hl hP hD hS => lv_dup2_11 C.1 C.2.1 hd hv hw (k H locs ls hl hP hD hS)
theorem V_pop (C : zC G E own cc nL fr lo) {v : Value} (hd : decode cc pc = .ok (.pop, 1)) (hv : v.category = 1) (k : V G E (pc + 1) lv st cs) : V G E pc lv (v :: st) cs :=
  fun H locs ls hl hP hD hS => lv_pop C.1 C.2.1 hd hv (k H locs ls hl hP hD hS)
theorem V_goto (C : zC G E own cc nL fr lo) {off : Int} {tgt : Nat} (hd : decode cc pc = .ok (.goto off, 3)) (ht : (pc : Int) + off = (tgt : Int)) (k : V G E tgt lv st cs) : V G E pc lv st cs :=
  fun H locs ls hl hP hD hS => lv_goto C.1 C.2.1 hd ht (k H locs ls hl hP hD hS)
-- compares
theorem V_icmp_lt (C : zC G E own cc nL fr lo) {a b off : Int} {tgt : Nat} (hd : decode cc pc = .ok (.if_icmp .lt off, 3)) (ht : (pc : Int) + off = (tgt : Int)) (ha : rng a) (hb : rng b) (kt : a < b → V G E tgt lv st cs) (kf : b ≤ a → V G E (pc + 3) lv st cs) : V G E pc lv (.int (iI b) :: .int (iI a) :: st) cs :=
  fun H locs ls hl hP hD hS => lv_icmp_lt C.1 C.2.1 hd ht (fun h => kt ((iI_lt ha hb).mp h) H locs ls hl hP hD hS) (fun h => kf (by rw [iI_lt ha hb] at h; omega) H locs ls hl hP hD hS)
theorem V_icmp_ge (C : zC G E own cc nL fr lo) {a b off : Int} {tgt : Nat} (hd : decode cc pc = .ok (.if_icmp .ge off, 3)) (ht : (pc : Int) + off = (tgt : Int)) (ha : rng a) (hb : rng b) (kt : b ≤ a → V G E tgt lv st cs) (kf : a < b → V G E (pc + 3) lv st cs) : V G E pc lv (.int (iI b) :: .int (iI a) :: st) cs :=
  fun H locs ls hl hP hD hS => lv_icmp_ge C.1 C.2.1 hd ht (fun h => kt ((iI_le hb ha).mp h) H locs ls hl hP hD hS) (fun h => kf (by rw [iI_le hb ha] at h; omega) H locs ls hl hP hD hS)
theorem V_icmp_gt (C : zC G E own cc nL fr lo) {a b off : Int} {tgt : Nat} (hd : decode cc pc = .ok (.if_icmp .gt off, 3)) (ht : (pc : Int) + off = (tgt : Int)) (ha : rng a) (hb : rng b) (kt : b < a → V G E tgt lv st cs) (kf : a ≤ b → V G E (pc + 3) lv st cs) : V G E pc lv (.int (iI b) :: .int (iI a) :: st) cs :=
  fun H locs ls hl hP hD hS => lv_icmp_gt C.1 C.2.1 hd ht (fun h => kt ((iI_lt hb ha).mp h) H locs ls hl hP hD hS) (fun h => kf (by rw [iI_lt hb ha] at h; omega) H locs ls hl hP hD hS)
theorem V_icmp_le (C : zC G E own cc nL fr lo) {a b off : Int} {tgt : Nat} (hd : decode cc pc = .ok (.if_icmp .le off, 3)) (ht : (pc : Int) + off = (tgt : Int)) (ha : rng a) (hb : rng b) (kt : a ≤ b → V G E tgt lv st cs) (kf : b < a → V G E (pc + 3) lv st cs) : V G E pc lv (.int (iI b) :: .int (iI a) :: st) cs :=
  fun H locs ls hl hP hD hS => lv_icmp_le C.1 C.2.1 hd ht (fun h => kt ((iI_le ha hb).mp h) H locs ls hl hP hD hS) (fun h => kf (by rw [iI_le ha hb] at h; omega) H locs ls hl hP hD hS)
theorem V_icmp_eq (C : zC G E own cc nL fr lo) {a b off : Int} {tgt : Nat} (hd : decode cc pc = .ok (.if_icmp .eq off, 3)) (ht : (pc : Int) + off = (tgt : Int)) (ha : rng a) (hb : rng b) (kt : a = b → V G E tgt lv st cs) (kf : a ≠ b → V G E (pc + 3) lv st cs) : V G E pc lv (.int (iI b) :: .int (iI a) :: st) cs :=
  fun H locs ls hl hP hD hS => lv_icmp_eq C.1 C.2.1 hd ht (fun h => kt ((iI_eq ha hb).mp h) H locs ls hl hP hD hS) (fun h => kf (by rw [iI_eq ha hb] at h; exact h) H locs ls hl hP hD hS)
theorem V_icmp_ne (C : zC G E own cc nL fr lo) {a b off : Int} {tgt : Nat} (hd : decode cc pc = .ok (.if_icmp .ne off, 3)) (ht : (pc : Int) + off = (tgt : Int)) (ha : rng a) (hb : rng b) (kt : a ≠ b → V G E tgt lv st cs) (kf : a = b → V G E (pc + 3) lv st cs) : V G E pc lv (.int (iI b) :: .int (iI a) :: st) cs :=
  fun H locs ls hl hP hD hS => lv_icmp_ne C.1 C.2.1 hd ht (fun h => kt (fun q => h ((iI_eq ha hb).mpr q)) H locs ls hl hP hD hS) (fun h => kf ((iI_eq ha hb).mp h) H locs ls hl hP hD hS)
theorem V_if_lt (C : zC G E own cc nL fr lo) {a off : Int} {tgt : Nat} (hd : decode cc pc = .ok (.ifCond .lt off, 3)) (ht : (pc : Int) + off = (tgt : Int)) (ha : rng a) (kt : a < 0 → V G E tgt lv st cs) (kf : 0 ≤ a → V G E (pc + 3) lv st cs) : V G E pc lv (.int (iI a) :: st) cs :=
  fun H locs ls hl hP hD hS => lv_if_lt C.1 C.2.1 hd ht (fun h => kt ((iI_lt (b := 0) ha (by omega)).mp h) H locs ls hl hP hD hS) (fun h => kf (by have q : ¬ iI a < iI 0 := h; rw [iI_lt ha (by omega)] at q; omega) H locs ls hl hP hD hS)
theorem V_if_ge (C : zC G E own cc nL fr lo) {a off : Int} {tgt : Nat} (hd : decode cc pc = .ok (.ifCond .ge off, 3)) (ht : (pc : Int) + off = (tgt : Int)) (ha : rng a) (kt : 0 ≤ a → V G E tgt lv st cs) (kf : a < 0 → V G E (pc + 3) lv st cs) : V G E pc lv (.int (iI a) :: st) cs :=
  fun H locs ls hl hP hD hS => lv_if_ge C.1 C.2.1 hd ht (fun h => kt ((iI_le (a := 0) (by omega) ha).mp h) H locs ls hl hP hD hS) (fun h => kf (by have q : ¬ iI 0 ≤ iI a := h; rw [iI_le (by omega) ha] at q; omega) H locs ls hl hP hD hS)
theorem V_if_gt (C : zC G E own cc nL fr lo) {a off : Int} {tgt : Nat} (hd : decode cc pc = .ok (.ifCond .gt off, 3)) (ht : (pc : Int) + off = (tgt : Int)) (ha : rng a) (kt : 0 < a → V G E tgt lv st cs) (kf : a ≤ 0 → V G E (pc + 3) lv st cs) : V G E pc lv (.int (iI a) :: st) cs :=
  fun H locs ls hl hP hD hS => lv_if_gt C.1 C.2.1 hd ht (fun h => kt ((iI_lt (a := 0) (by omega) ha).mp h) H locs ls hl hP hD hS) (fun h => kf (by have q : ¬ iI 0 < iI a := h; rw [iI_lt (by omega) ha] at q; omega) H locs ls hl hP hD hS)
theorem V_if_le (C : zC G E own cc nL fr lo) {a off : Int} {tgt : Nat} (hd : decode cc pc = .ok (.ifCond .le off, 3)) (ht : (pc : Int) + off = (tgt : Int)) (ha : rng a) (kt : a ≤ 0 → V G E tgt lv st cs) (kf : 0 < a → V G E (pc + 3) lv st cs) : V G E pc lv (.int (iI a) :: st) cs :=
  fun H locs ls hl hP hD hS => lv_if_le C.1 C.2.1 hd ht (fun h => kt ((iI_le (b := 0) ha (by omega)).mp h) H locs ls hl hP hD hS) (fun h => kf (by have q : ¬ iI a ≤ iI 0 := h; rw [iI_le ha (by omega)] at q; omega) H locs ls hl hP hD hS)
theorem V_if_eq (C : zC G E own cc nL fr lo) {a off : Int} {tgt : Nat} (hd : decode cc pc = .ok (.ifCond .eq off, 3)) (ht : (pc : Int) + off = (tgt : Int)) (ha : rng a) (kt : a = 0 → V G E tgt lv st cs) (kf : a ≠ 0 → V G E (pc + 3) lv st cs) : V G E pc lv (.int (iI a) :: st) cs :=
  fun H locs ls hl hP hD hS => lv_if_eq C.1 C.2.1 hd ht (fun h => kt ((iI_eq (b := 0) ha (by omega)).mp h) H locs ls hl hP hD hS) (fun h => kf (fun q => h ((iI_eq (b := 0) ha (by omega)).mpr q)) H locs ls hl hP hD hS)
theorem V_if_ne (C : zC G E own cc nL fr lo) {a off : Int} {tgt : Nat} (hd : decode cc pc = .ok (.ifCond .ne off, 3)) (ht : (pc : Int) + off = (tgt : Int)) (ha : rng a) (kt : a ≠ 0 → V G E tgt lv st cs) (kf : a = 0 → V G E (pc + 3) lv st cs) : V G E pc lv (.int (iI a) :: st) cs :=
  fun H locs ls hl hP hD hS => lv_if_ne C.1 C.2.1 hd ht (fun h => kt (fun q => h ((iI_eq (b := 0) ha (by omega)).mpr q)) H locs ls hl hP hD hS) (fun h => kf ((iI_eq (b := 0) ha (by omega)).mp h) H locs ls hl hP hD hS)
theorem V_if_eqB (C : zC G E own cc nL fr lo) {P : Prop} [Decidable P] {off : Int} {tgt : Nat} (hd : decode cc pc = .ok (.ifCond .eq off, 3)) (ht : (pc : Int) + off = (tgt : Int)) (kt : ¬ P → V G E tgt lv st cs) (kf : P → V G E (pc + 3) lv st cs) : V G E pc lv (.int (iI (b2z P)) :: st) cs :=
  V_if_eq C hd ht (b2z_rng P) (fun h => kt (fun q => by rw [b2z_t q] at h; omega)) (fun h => kf (Classical.not_not.mp fun q => h (b2z_f q)))
theorem V_if_neB (C : zC G E own cc nL fr lo) {P : Prop} [Decidable P] {off : Int} {tgt : Nat} (hd : decode cc pc = .ok (.ifCond .ne off, 3)) (ht : (pc : Int) + off = (tgt : Int)) (kt : P → V G E tgt lv st cs) (kf : ¬ P → V G E (pc + 3) lv st cs) : V G E pc lv (.int (iI (b2z P)) :: st) cs :=
  V_if_ne C hd ht (b2z_rng P) (fun h => kt (Classical.not_not.mp fun q => h (b2z_f q))) (fun h => kf (fun q => by rw [b2z_t q] at h; omega))
theorem V_ifnull (C : zC G E own cc nL fr lo) {x : Nat} {off : Int} (hd : decode cc pc = .ok (.ifnull off, 3)) (k : V G E (pc + 3) lv st cs) : V G E pc lv (.ref x :: st) cs :=
  fun H locs ls hl hP hD hS => lv_ifnull C.1 C.2.1 hd (k H locs ls hl hP hD hS)
theorem V_ifnonnull (C : zC G E own cc nL fr lo) {x : Nat} {off : Int} {tgt : Nat} (hd : decode cc pc = .ok (.ifnonnull off, 3)) (ht : (pc : Int) + off = (tgt : Int)) (k : V G E tgt lv st cs) : V G E pc lv (.ref x :: st) cs :=
  fun H locs ls hl hP hD hS => lv_ifnonnull C.1 C.2.1 hd ht (k H locs ls hl hP hD hS)
theorem V_ifnullN (C : zC G E own cc nL fr lo) {off : Int} {tgt : Nat} (hd : decode cc pc = .ok (.ifnull off, 3)) (ht : (pc : Int) + off = (tgt : Int)) (k : V G E tgt lv st cs) : V G E pc lv (.null :: st) cs :=
  fun H locs ls hl hP hD hS => lv_ifnullN C.1 C.2.1 hd ht (k H locs ls hl hP hD hS)
theorem V_ifnonnullN (C : zC G E own cc nL fr lo) {off : Int} (hd : decode cc pc = .ok (.ifnonnull off, 3)) (k : V G E (pc + 3) lv st cs) : V G E pc lv (.null :: st) cs :=
  fun H locs ls hl hP hD hS => lv_ifnonnullN C.1 C.2.1 hd (k H locs ls hl hP hD hS)
/-- lcmp and the branch behind it -/
theorem V_lcmp_lt (C : zC G E own cc nL fr lo) {a b off : Int} {tgt : Nat} (hd : decode cc pc = .ok (.lcmp, 1)) (hd2 : decode cc (pc + 1) = .ok (.ifCond .lt off, 3)) (ht : ((pc + 1 : Nat) : Int) + off = (tgt : Int)) (ha : rngL a) (hb : rngL b) (kt : a < b → V G E tgt lv st cs) (kf : b ≤ a → V G E (pc + 4) lv st cs) : V G E pc lv (.long (lI b) :: .long (lI a) :: st) cs := by
  intro H locs ls hl hP hD hS
  refine W.lcmp C.1 C.2.1 hd ?_
  refine lv_if_lt C.1 C.2.1 hd2 ht (fun h => kt ?_ H locs ls hl hP hD hS) (fun h => kf ?_ H locs ls hl hP hD hS)
  · unfold lg_cmp at h
    split at h
    · exact absurd h (by decide)
    · split at h
      · exact absurd h (by decide)
      · rename_i q1 q2
        rw [lI_eq ha hb] at q2
        have q3 : ¬ lI b < lI a := q1
        rw [lI_lt hb ha] at q3
        omega
  · unfold lg_cmp at h
    split at h
    · rename_i q1
      have q3 : lI b < lI a := q1
      rw [lI_lt hb ha] at q3
      omega
    · split at h
      · rename_i q2
        rw [lI_eq ha hb] at q2
        omega
      · exact absurd (by decide) h
theorem V_lcmp_gt (C : zC G E own cc nL fr lo) {a b off : Int} {tgt : Nat} (hd : decode cc pc = .ok (.lcmp, 1)) (hd2 : decode cc (pc + 1) = .ok (.ifCond .gt off, 3)) (ht : ((pc + 1 : Nat) : Int) + off = (tgt : Int)) (ha : rngL a) (hb : rngL b) (kt : b < a → V G E tgt lv st cs) (kf : a ≤ b → V G E (pc + 4) lv st cs) : V G E pc lv (.long (lI b) :: .long (lI a) :: st) cs := by
  intro H locs ls hl hP hD hS
  refine W.lcmp C.1 C.2.1 hd ?_
  refine lv_if_gt C.1 C.2.1 hd2 ht (fun h => kt ?_ H locs ls hl hP hD hS) (fun h => kf ?_ H locs ls hl hP hD hS)
  · unfold lg_cmp at h
    split at h
    · rename_i q1
      exact (lI_lt hb ha).mp q1
    · split at h
      · exact absurd h (by decide)
      · exact absurd h (by decide)
  · unfold lg_cmp at h
    split at h
    · exact absurd (by decide) h
    · rename_i q1
      have q3 : ¬ lI b < lI a := q1
      rw [lI_lt hb ha] at q3
      omega
theorem V_lcmp_ge (C : zC G E own cc nL fr lo) {a b off : Int} {tgt : Nat} (hd : decode cc pc = .ok (.lcmp, 1)) (hd2 : decode cc (pc + 1) = .ok (.ifCond .ge off, 3)) (ht : ((pc + 1 : Nat) : Int) + off = (tgt : Int)) (ha : rngL a) (hb : rngL b) (kt : b ≤ a → V G E tgt lv st cs) (kf : a < b → V G E (pc + 4) lv st cs) : V G E pc lv (.long (lI b) :: .long (lI a) :: st) cs := by
  intro H locs ls hl hP hD hS
  refine W.lcmp C.1 C.2.1 hd ?_
  refine lv_if_ge C.1 C.2.1 hd2 ht (fun h => kt ?_ H locs ls hl hP hD hS) (fun h => kf ?_ H locs ls hl hP hD hS)
  · unfold lg_cmp at h
    split at h
    · rename_i q1
      have q3 : lI b < lI a := q1
      rw [lI_lt hb ha] at q3
      omega
    · split at h
      · rename_i q2
        rw [lI_eq ha hb] at q2
        omega
      · exact absurd h (by decide)
  · unfold lg_cmp at h
    split at h
    · exact absurd (by decide) h
    · split at h
      · exact absurd (by decide) h
      · rename_i q1 q2
        rw [lI_eq ha hb] at q2
        have q3 : ¬ lI b < lI a := q1
        rw [lI_lt hb ha] at q3
        omega
theorem V_lcmp_le (C : zC G E own cc nL fr lo) {a b off : Int} {tgt : Nat} (hd : decode cc pc = .ok (.lcmp, 1)) (hd2 : decode cc (pc + 1) = .ok (.ifCond .le off, 3)) (ht : ((pc + 1 : Nat) : Int) + off = (tgt : Int)) (ha : rngL a) (hb : rngL b) (kt : a ≤ b → V G E tgt lv st cs) (kf : b < a → V G E (pc + 4) lv st cs) : V G E pc lv (.long (lI b) :: .long (lI a) :: st) cs := by
  intro H locs ls hl hP hD hS
  refine W.lcmp C.1 C.2.1 hd ?_
  refine lv_if_le C.1 C.2.1 hd2 ht (fun h => kt ?_ H locs ls hl hP hD hS) (fun h => kf ?_ H locs ls hl hP hD hS)
  · unfold lg_cmp at h
    split at h
    · exact absurd h (by decide)
    · rename_i q1
      have q3 : ¬ lI b < lI a := q1
      rw [lI_lt hb ha] at q3
      omega
  · unfold lg_cmp at h
    split at h
    · rename_i q1
      exact (lI_lt hb ha).mp q1
    · split at h
      · exact absurd (by decide) h
      · exact absurd (by decide) h
-- switches
theorem V_tableIn (C : zC G E own cc nL fr lo) {dflt lo' hi : Int} {offs : Array Int} {len : Nat} {a off : Int} {tgt : Nat} (hd : decode cc pc = .ok (.tableswitch dflt lo' hi offs, len)) (ha : rng a) (h1 : lo' ≤ a) (h2 : a ≤ hi) (ho : offs[(a - lo').toNat]? = some off) (ht : (pc : Int) + off = (tgt : Int)) (k : V G E tgt lv st cs) : V G E pc lv (.int (iI a) :: st) cs :=
  fun H locs ls hl hP hD hS => lv_tableIn C.1 C.2.1 hd (by rw [iI_toInt ha]; omega) (by rw [iI_toInt ha]; omega) (by rw [iI_toInt ha]; exact ho) ht (k H locs ls hl hP hD hS)
theorem V_tableOut (C : zC G E own cc nL fr lo) {dflt lo' hi : Int} {offs : Array Int} {len : Nat} {a : Int} {tgt : Nat} (hd : decode cc pc = .ok (.tableswitch dflt lo' hi offs, len)) (ha : rng a) (h : a < lo' ∨ hi < a) (ht : (pc : Int) + dflt = (tgt : Int)) (k : V G E tgt lv st cs) : V G E pc lv (.int (iI a) :: st) cs :=
  fun H locs ls hl hP hD hS => lv_tableOut C.1 C.2.1 hd (by rw [iI_toInt ha]; exact h) ht (k H locs ls hl hP hD hS)
theorem V_lookup (C : zC G E own cc nL fr lo) {dflt : Int} {ps : Array (Int × Int)} {len : Nat} {a off : Int} {tgt : Nat} (hd : decode cc pc = .ok (.lookupswitch dflt ps, len)) (hp : (ps.toList.zip (ps.toList.drop 1)).all (fun (a, next) => a.1 < next.1) = true) (ha : rng a) (ho : Op.lookupswitch.offset ps.toList dflt a = off) (ht : (pc : Int) + off = (tgt : Int)) (k : V G E tgt lv st cs) : V G E pc lv (.int (iI a) :: st) cs :=
  fun H locs ls hl hP hD hS => lv_lookup C.1 C.2.1 hd hp (by rw [iI_toInt ha]; exact ho) ht (k H locs ls hl hP hD hS)
-- a value that two ways lead to
theorem V_mid {pc2 : Nat} {st2 : List Value} (z : Int) (k : V G E pc2 lv (.int (iI z) :: st) cs) (h : (∀ v, v = z → V G E pc2 lv (.int (iI v) :: st) cs) → V G E pc lv st2 cs) : V G E pc lv st2 cs := h (fun v e => by rw [e]; exact k)
theorem V_midB {pc2 : Nat} {st2 : List Value} (P : Prop) [Decidable P] (k : V G E pc2 lv (.int (iI (b2z P)) :: st) cs) (h : (P → V G E pc2 lv (.int (iI 1) :: st) cs) → (¬ P → V G E pc2 lv (.int (iI 0) :: st) cs) → V G E pc lv st2 cs) : V G E pc lv st2 cs := h (fun q => by rw [← b2z_t q]; exact k) (fun q => by rw [← b2z_f q]; exact k)
theorem V_loop {α : Type} (μ : α → Nat) (I : α → Prop) (F : α → Prop) (h : ∀ x, I x → (∀ y, I y → μ y < μ x → F y) → F x) (x : α) (hx : I x) : F x := by
  have key : ∀ n x, μ x < n → I x → F x := by
    intro n
    induction n with
    | zero => intro x h1; omega
    | succ n ih => intro x h1 h2; exact h x h2 (fun y hy hm => ih y (by omega) hy)
  exact key (μ x + 1) x (by omega) hx
end ZR
end
section
theorem ws_X1_begin : zW (.selects RX1 yX1_begin yX1_begin) := ⟨List.mem_of_getElem? (i := 0) (by decide +kernel), by decide +kernel⟩
theorem ws_X0_clear : zW (.selects RX0 yX0_clear yX0_clear) := ⟨List.mem_of_getElem? (i := 1) (by decide +kernel), by decide +kernel⟩
theorem ws_X5_has : zW (.selects RX5 yX5_has yX5_has) := ⟨List.mem_of_getElem? (i := 2) (by decide +kernel), by decide +kernel⟩
theorem ws_X5_at : zW (.selects RX5 yX5_at yX5_at) := ⟨List.mem_of_getElem? (i := 3) (by decide +kernel), by decide +kernel⟩
theorem ws_X1_isPending : zW (.selects RX1 yX1_isPending yX1_isPending) := ⟨List.mem_of_getElem? (i := 4) (by decide +kernel), by decide +kernel⟩
theorem ws_X1_markSet : zW (.selects RX1 yX1_markSet yX1_markSet) := ⟨List.mem_of_getElem? (i := 5) (by decide +kernel), by decide +kernel⟩
theorem ws_X5_words : zW (.selects RX5 yX5_words yX5_words) := ⟨List.mem_of_getElem? (i := 6) (by decide +kernel), by decide +kernel⟩
theorem ws_X5_kindAt : zW (.selects RX5 yX5_kindAt yX5_kindAt) := ⟨List.mem_of_getElem? (i := 7) (by decide +kernel), by decide +kernel⟩
theorem ws_X1_press : zW (.selects RX1 yX1_press yX1_press) := ⟨List.mem_of_getElem? (i := 8) (by decide +kernel), by decide +kernel⟩
theorem ws_X1_strike : zW (.selects RX1 yX1_strike yX1_strike) := ⟨List.mem_of_getElem? (i := 9) (by decide +kernel), by decide +kernel⟩
theorem ws_X1_typeIn : zW (.selects RX1 yX1_typeIn yX1_typeIn) := ⟨List.mem_of_getElem? (i := 10) (by decide +kernel), by decide +kernel⟩
theorem ws_X2_add : zW (.selects RX2 yX2_add yX2_add) := ⟨List.mem_of_getElem? (i := 11) (by decide +kernel), by decide +kernel⟩
theorem ws_X1_remember : zW (.selects RX1 yX1_remember yX1_remember) := ⟨List.mem_of_getElem? (i := 12) (by decide +kernel), by decide +kernel⟩
theorem ws_X3_keep : zW (.selects RX3 yX3_keep yX3_keep) := ⟨List.mem_of_getElem? (i := 13) (by decide +kernel), by decide +kernel⟩
theorem ws_X2_become : zW (.selects RX2 yX2_become yX2_become) := ⟨List.mem_of_getElem? (i := 14) (by decide +kernel), by decide +kernel⟩
theorem ws_X5_makeRoom : zW (.selects RX5 yX5_makeRoom yX5_makeRoom) := ⟨List.mem_of_getElem? (i := 15) (by decide +kernel), by decide +kernel⟩
theorem ws_X0_take : zW (.selects RX0 yX0_take yX0_take) := ⟨List.mem_of_getElem? (i := 16) (by decide +kernel), by decide +kernel⟩
theorem ws_X0_takeVerb : zW (.selects RX0 yX0_takeVerb yX0_takeVerb) := ⟨List.mem_of_getElem? (i := 17) (by decide +kernel), by decide +kernel⟩
theorem ws_X0_waitWith : zW (.selects RX0 yX0_waitWith yX0_waitWith) := ⟨List.mem_of_getElem? (i := 18) (by decide +kernel), by decide +kernel⟩
theorem ws_X0_takeMotion : zW (.selects RX0 yX0_takeMotion yX0_takeMotion) := ⟨List.mem_of_getElem? (i := 19) (by decide +kernel), by decide +kernel⟩
theorem ws_X0_takeReach : zW (.selects RX0 yX0_takeReach yX0_takeReach) := ⟨List.mem_of_getElem? (i := 20) (by decide +kernel), by decide +kernel⟩
theorem ws_X0_takeObject : zW (.selects RX0 yX0_takeObject yX0_takeObject) := ⟨List.mem_of_getElem? (i := 21) (by decide +kernel), by decide +kernel⟩
theorem ws_X5_become : zW (.selects RX5 yX5_become yX5_become) := ⟨List.mem_of_getElem? (i := 22) (by decide +kernel), by decide +kernel⟩
theorem ws_X1_aim : zW (.selects RX1 yX1_aim yX1_aim) := ⟨List.mem_of_getElem? (i := 23) (by decide +kernel), by decide +kernel⟩
theorem ws_X0_times : zW (.selects RX0 yX0_times yX0_times) := ⟨List.mem_of_getElem? (i := 24) (by decide +kernel), by decide +kernel⟩
theorem ws_X1_aimByMotion : zW (.selects RX1 yX1_aimByMotion yX1_aimByMotion) := ⟨List.mem_of_getElem? (i := 25) (by decide +kernel), by decide +kernel⟩
theorem ws_X5_standing : zW (.selects RX5 yX5_standing yX5_standing) := ⟨List.mem_of_getElem? (i := 26) (by decide +kernel), by decide +kernel⟩
theorem ws_X5_last : zW (.selects RX5 yX5_last yX5_last) := ⟨List.mem_of_getElem? (i := 27) (by decide +kernel), by decide +kernel⟩
theorem ws_X1_placeOfMark : zW (.selects RX1 yX1_placeOfMark yX1_placeOfMark) := ⟨List.mem_of_getElem? (i := 28) (by decide +kernel), by decide +kernel⟩
theorem ws_X5_findBehind : zW (.selects RX5 yX5_findBehind yX5_findBehind) := ⟨List.mem_of_getElem? (i := 29) (by decide +kernel), by decide +kernel⟩
theorem ws_X5_lead : zW (.selects RX5 yX5_lead yX5_lead) := ⟨List.mem_of_getElem? (i := 30) (by decide +kernel), by decide +kernel⟩
theorem ws_X5_behindKind : zW (.selects RX5 yX5_behindKind yX5_behindKind) := ⟨List.mem_of_getElem? (i := 31) (by decide +kernel), by decide +kernel⟩
theorem ws_X5_beginOfKind : zW (.selects RX5 yX5_beginOfKind yX5_beginOfKind) := ⟨List.mem_of_getElem? (i := 32) (by decide +kernel), by decide +kernel⟩
theorem ws_X1_aimByWord : zW (.selects RX1 yX1_aimByWord yX1_aimByWord) := ⟨List.mem_of_getElem? (i := 33) (by decide +kernel), by decide +kernel⟩
theorem ws_X1_aimByBrackets : zW (.selects RX1 yX1_aimByBrackets yX1_aimByBrackets) := ⟨List.mem_of_getElem? (i := 34) (by decide +kernel), by decide +kernel⟩
theorem ws_X5_openingRound : zW (.selects RX5 yX5_openingRound yX5_openingRound) := ⟨List.mem_of_getElem? (i := 35) (by decide +kernel), by decide +kernel⟩
theorem ws_X5_closingOf : zW (.selects RX5 yX5_closingOf yX5_closingOf) := ⟨List.mem_of_getElem? (i := 36) (by decide +kernel), by decide +kernel⟩
theorem ws_X1_aimByLetters : zW (.selects RX1 yX1_aimByLetters yX1_aimByLetters) := ⟨List.mem_of_getElem? (i := 37) (by decide +kernel), by decide +kernel⟩
theorem ws_X1_perform : zW (.selects RX1 yX1_perform yX1_perform) := ⟨List.mem_of_getElem? (i := 38) (by decide +kernel), by decide +kernel⟩
theorem ws_X5_goTo : zW (.selects RX5 yX5_goTo yX5_goTo) := ⟨List.mem_of_getElem? (i := 39) (by decide +kernel), by decide +kernel⟩
theorem ws_X1_cutRange : zW (.selects RX1 yX1_cutRange yX1_cutRange) := ⟨List.mem_of_getElem? (i := 40) (by decide +kernel), by decide +kernel⟩
theorem ws_X1_storeRange : zW (.selects RX1 yX1_storeRange yX1_storeRange) := ⟨List.mem_of_getElem? (i := 41) (by decide +kernel), by decide +kernel⟩
theorem ws_X5_takeOut : zW (.selects RX5 yX5_takeOut yX5_takeOut) := ⟨List.mem_of_getElem? (i := 42) (by decide +kernel), by decide +kernel⟩
theorem ws_X1_typeAt : zW (.selects RX1 yX1_typeAt yX1_typeAt) := ⟨List.mem_of_getElem? (i := 43) (by decide +kernel), by decide +kernel⟩
theorem ws_X1_overwrite : zW (.selects RX1 yX1_overwrite yX1_overwrite) := ⟨List.mem_of_getElem? (i := 44) (by decide +kernel), by decide +kernel⟩
theorem ws_X1_swapCases : zW (.selects RX1 yX1_swapCases yX1_swapCases) := ⟨List.mem_of_getElem? (i := 45) (by decide +kernel), by decide +kernel⟩
theorem ws_X5_swapCase : zW (.selects RX5 yX5_swapCase yX5_swapCase) := ⟨List.mem_of_getElem? (i := 46) (by decide +kernel), by decide +kernel⟩
theorem ws_X1_putIn : zW (.selects RX1 yX1_putIn yX1_putIn) := ⟨List.mem_of_getElem? (i := 47) (by decide +kernel), by decide +kernel⟩
theorem ws_X3_bringBack : zW (.selects RX3 yX3_bringBack yX3_bringBack) := ⟨List.mem_of_getElem? (i := 48) (by decide +kernel), by decide +kernel⟩
theorem ws_X1_setMark : zW (.selects RX1 yX1_setMark yX1_setMark) := ⟨List.mem_of_getElem? (i := 49) (by decide +kernel), by decide +kernel⟩
theorem ws_X2_canBeRepeated : zW (.selects RX2 yX2_canBeRepeated yX2_canBeRepeated) := ⟨List.mem_of_getElem? (i := 50) (by decide +kernel), by decide +kernel⟩
theorem ws_X5_canStand : zW (.selects RX5 yX5_canStand yX5_canStand) := ⟨List.mem_of_getElem? (i := 51) (by decide +kernel), by decide +kernel⟩
theorem ws_X6_survey : zW (.selects RX6 yX6_survey yX6_survey) := ⟨List.mem_of_getElem? (i := 52) (by decide +kernel), by decide +kernel⟩
theorem ws_X5_deed : zW (.selects RX5 yX5_deed yX5_deed) := ⟨List.mem_of_getElem? (i := 53) (by decide +kernel), by decide +kernel⟩
theorem ws_X6_reckon : zW (.selects RX6 yX6_reckon yX6_reckon) := ⟨List.mem_of_getElem? (i := 54) (by decide +kernel), by decide +kernel⟩
theorem ws_X6_stepOf : zW (.selects RX6 yX6_stepOf yX6_stepOf) := ⟨List.mem_of_getElem? (i := 55) (by decide +kernel), by decide +kernel⟩
theorem ws_X6_firstOnWay : zW (.selects RX6 yX6_firstOnWay yX6_firstOnWay) := ⟨List.mem_of_getElem? (i := 56) (by decide +kernel), by decide +kernel⟩
theorem ws_X6_dearest : zW (.selects RX6 yX6_dearest yX6_dearest) := ⟨List.mem_of_getElem? (i := 57) (by decide +kernel), by decide +kernel⟩
theorem ws_X6_rowsTo : zW (.selects RX6 yX6_rowsTo yX6_rowsTo) := ⟨List.mem_of_getElem? (i := 58) (by decide +kernel), by decide +kernel⟩
theorem ws_X1_become : zW (.selects RX1 yX1_become yX1_become) := ⟨List.mem_of_getElem? (i := 59) (by decide +kernel), by decide +kernel⟩
theorem ws_X3_become : zW (.selects RX3 yX3_become yX3_become) := ⟨List.mem_of_getElem? (i := 60) (by decide +kernel), by decide +kernel⟩
theorem ws_X0_become : zW (.selects RX0 yX0_become yX0_become) := ⟨List.mem_of_getElem? (i := 61) (by decide +kernel), by decide +kernel⟩
theorem ws_X7_sheetAt : zW (.selects RX7 yX7_sheetAt yX7_sheetAt) := ⟨List.mem_of_getElem? (i := 62) (by decide +kernel), by decide +kernel⟩
theorem ws_X4_faultAs : zW (.selects RX4 yX4_faultAs yX4_faultAs) := ⟨List.mem_of_getElem? (i := 63) (by decide +kernel), by decide +kernel⟩
theorem ws_X4_isNothing : zW (.selects RX4 yX4_isNothing yX4_isNothing) := ⟨List.mem_of_getElem? (i := 64) (by decide +kernel), by decide +kernel⟩
theorem ws_X4_reaches : zW (.selects RX4 yX4_reaches yX4_reaches) := ⟨List.mem_of_getElem? (i := 65) (by decide +kernel), by decide +kernel⟩
theorem ws_X4_put : zW (.selects RX4 yX4_put yX4_put) := ⟨List.mem_of_getElem? (i := 66) (by decide +kernel), by decide +kernel⟩
theorem ws_X4_hold : zW (.selects RX4 yX4_hold yX4_hold) := ⟨List.mem_of_getElem? (i := 67) (by decide +kernel), by decide +kernel⟩
theorem ws_X8_keyed : zW (.selects RX8 yX8_keyed yX8_keyed) := ⟨List.mem_of_getElem? (i := 68) (by decide +kernel), by decide +kernel⟩
theorem ws_X8_strikes : zW (.selects RX8 yX8_strikes yX8_strikes) := ⟨List.mem_of_getElem? (i := 69) (by decide +kernel), by decide +kernel⟩
theorem ws_X8_inserted : zW (.selects RX8 yX8_inserted yX8_inserted) := ⟨List.mem_of_getElem? (i := 70) (by decide +kernel), by decide +kernel⟩
theorem ws_X8_records : zW (.selects RX8 yX8_records yX8_records) := ⟨List.mem_of_getElem? (i := 71) (by decide +kernel), by decide +kernel⟩
theorem ws_X8_changes : zW (.selects RX8 yX8_changes yX8_changes) := ⟨List.mem_of_getElem? (i := 72) (by decide +kernel), by decide +kernel⟩
theorem ws_X8_ends : zW (.selects RX8 yX8_ends yX8_ends) := ⟨List.mem_of_getElem? (i := 73) (by decide +kernel), by decide +kernel⟩
theorem ws_X8_commands : zW (.selects RX8 yX8_commands yX8_commands) := ⟨List.mem_of_getElem? (i := 74) (by decide +kernel), by decide +kernel⟩
theorem ws_X8_waited : zW (.selects RX8 yX8_waited yX8_waited) := ⟨List.mem_of_getElem? (i := 75) (by decide +kernel), by decide +kernel⟩
theorem ws_X8_often : zW (.selects RX8 yX8_often yX8_often) := ⟨List.mem_of_getElem? (i := 76) (by decide +kernel), by decide +kernel⟩
theorem ws_X8_findsTo : zW (.selects RX8 yX8_findsTo yX8_findsTo) := ⟨List.mem_of_getElem? (i := 77) (by decide +kernel), by decide +kernel⟩
theorem ws_X8_nextOf : zW (.selects RX8 yX8_nextOf yX8_nextOf) := ⟨List.mem_of_getElem? (i := 78) (by decide +kernel), by decide +kernel⟩
theorem ws_X8_goesTo : zW (.selects RX8 yX8_goesTo yX8_goesTo) := ⟨List.mem_of_getElem? (i := 79) (by decide +kernel), by decide +kernel⟩
theorem ws_X8_last : zW (.selects RX8 yX8_last yX8_last) := ⟨List.mem_of_getElem? (i := 80) (by decide +kernel), by decide +kernel⟩
theorem ws_X8_ranged : zW (.selects RX8 yX8_ranged yX8_ranged) := ⟨List.mem_of_getElem? (i := 81) (by decide +kernel), by decide +kernel⟩
theorem ws_X8_keeps : zW (.selects RX8 yX8_keeps yX8_keeps) := ⟨List.mem_of_getElem? (i := 82) (by decide +kernel), by decide +kernel⟩
theorem ws_X8_cuts : zW (.selects RX8 yX8_cuts yX8_cuts) := ⟨List.mem_of_getElem? (i := 83) (by decide +kernel), by decide +kernel⟩
theorem ws_X8_inserts : zW (.selects RX8 yX8_inserts yX8_inserts) := ⟨List.mem_of_getElem? (i := 84) (by decide +kernel), by decide +kernel⟩
theorem ws_X8_replaces : zW (.selects RX8 yX8_replaces yX8_replaces) := ⟨List.mem_of_getElem? (i := 85) (by decide +kernel), by decide +kernel⟩
theorem ws_X8_objects : zW (.selects RX8 yX8_objects yX8_objects) := ⟨List.mem_of_getElem? (i := 86) (by decide +kernel), by decide +kernel⟩
theorem ws_X8_words : zW (.selects RX8 yX8_words yX8_words) := ⟨List.mem_of_getElem? (i := 87) (by decide +kernel), by decide +kernel⟩
theorem ws_X8_classAt : zW (.selects RX8 yX8_classAt yX8_classAt) := ⟨List.mem_of_getElem? (i := 88) (by decide +kernel), by decide +kernel⟩
theorem ws_X8_brackets : zW (.selects RX8 yX8_brackets yX8_brackets) := ⟨List.mem_of_getElem? (i := 89) (by decide +kernel), by decide +kernel⟩
theorem ws_X8_bracket : zW (.selects RX8 yX8_bracket yX8_bracket) := ⟨List.mem_of_getElem? (i := 90) (by decide +kernel), by decide +kernel⟩
theorem ws_X8_motionOf : zW (.selects RX8 yX8_motionOf yX8_motionOf) := ⟨List.mem_of_getElem? (i := 91) (by decide +kernel), by decide +kernel⟩
theorem ws_X8_moves : zW (.selects RX8 yX8_moves yX8_moves) := ⟨List.mem_of_getElem? (i := 92) (by decide +kernel), by decide +kernel⟩
theorem ws_X8_leadsTo : zW (.selects RX8 yX8_leadsTo yX8_leadsTo) := ⟨List.mem_of_getElem? (i := 93) (by decide +kernel), by decide +kernel⟩
theorem ws_X8_wordOn : zW (.selects RX8 yX8_wordOn yX8_wordOn) := ⟨List.mem_of_getElem? (i := 94) (by decide +kernel), by decide +kernel⟩
theorem ws_X8_wordBack : zW (.selects RX8 yX8_wordBack yX8_wordBack) := ⟨List.mem_of_getElem? (i := 95) (by decide +kernel), by decide +kernel⟩
theorem ws_X8_wordEnd : zW (.selects RX8 yX8_wordEnd yX8_wordEnd) := ⟨List.mem_of_getElem? (i := 96) (by decide +kernel), by decide +kernel⟩
theorem ws_X8_waits : zW (.selects RX8 yX8_waits yX8_waits) := ⟨List.mem_of_getElem? (i := 97) (by decide +kernel), by decide +kernel⟩
theorem ws_X8_deed : zW (.selects RX8 yX8_deed yX8_deed) := ⟨List.mem_of_getElem? (i := 98) (by decide +kernel), by decide +kernel⟩
theorem ws_X8_crosses : zW (.selects RX8 yX8_crosses yX8_crosses) := ⟨List.mem_of_getElem? (i := 99) (by decide +kernel), by decide +kernel⟩
theorem ws_X8_turns : zW (.selects RX8 yX8_turns yX8_turns) := ⟨List.mem_of_getElem? (i := 100) (by decide +kernel), by decide +kernel⟩
theorem ws_X8_puts : zW (.selects RX8 yX8_puts yX8_puts) := ⟨List.mem_of_getElem? (i := 101) (by decide +kernel), by decide +kernel⟩
theorem ws_X8_undoes : zW (.selects RX8 yX8_undoes yX8_undoes) := ⟨List.mem_of_getElem? (i := 102) (by decide +kernel), by decide +kernel⟩
theorem ws_X8_marks : zW (.selects RX8 yX8_marks yX8_marks) := ⟨List.mem_of_getElem? (i := 103) (by decide +kernel), by decide +kernel⟩
theorem ws_X8_wordsOf : zW (.selects RX8 yX8_wordsOf yX8_wordsOf) := ⟨List.mem_of_getElem? (i := 104) (by decide +kernel), by decide +kernel⟩
theorem ws_X8_isPlace : zW (.selects RX8 yX8_isPlace yX8_isPlace) := ⟨List.mem_of_getElem? (i := 105) (by decide +kernel), by decide +kernel⟩
theorem ws_X8_costsTo : zW (.selects RX8 yX8_costsTo yX8_costsTo) := ⟨List.mem_of_getElem? (i := 106) (by decide +kernel), by decide +kernel⟩
theorem ws_X8_lands : zW (.selects RX8 yX8_lands yX8_lands) := ⟨List.mem_of_getElem? (i := 107) (by decide +kernel), by decide +kernel⟩
theorem ws_X8_start : zW (.selects RX8 yX8_start yX8_start) := ⟨List.mem_of_getElem? (i := 108) (by decide +kernel), by decide +kernel⟩
theorem ws_X8_why : zW (.selects RX8 yX8_why yX8_why) := ⟨List.mem_of_getElem? (i := 109) (by decide +kernel), by decide +kernel⟩
theorem wn_L : zW (.initialized RL) := ⟨List.mem_of_getElem? (i := 110) (by decide +kernel), by decide +kernel⟩
theorem wn_X7 : zW (.initialized RX7) := ⟨List.mem_of_getElem? (i := 111) (by decide +kernel), by decide +kernel⟩
theorem wn_X1 : zW (.initialized RX1) := ⟨List.mem_of_getElem? (i := 112) (by decide +kernel), by decide +kernel⟩
theorem wn_X5 : zW (.initialized RX5) := ⟨List.mem_of_getElem? (i := 113) (by decide +kernel), by decide +kernel⟩
theorem wn_X3 : zW (.initialized RX3) := ⟨List.mem_of_getElem? (i := 114) (by decide +kernel), by decide +kernel⟩
theorem wn_X0 : zW (.initialized RX0) := ⟨List.mem_of_getElem? (i := 115) (by decide +kernel), by decide +kernel⟩
theorem wn_X2 : zW (.initialized RX2) := ⟨List.mem_of_getElem? (i := 116) (by decide +kernel), by decide +kernel⟩
theorem wn_X6 : zW (.initialized RX6) := ⟨List.mem_of_getElem? (i := 117) (by decide +kernel), by decide +kernel⟩
theorem wn_X4 : zW (.initialized RX4) := ⟨List.mem_of_getElem? (i := 118) (by decide +kernel), by decide +kernel⟩
theorem wn_X8 : zW (.initialized RX8) := ⟨List.mem_of_getElem? (i := 119) (by decide +kernel), by decide +kernel⟩
theorem wn_Sys : zW (.initialized "java/lang/System") := ⟨List.mem_of_getElem? (i := 120) (by decide +kernel), by decide +kernel⟩
theorem wn_J7 : zW (.initialized "java/util/Arrays") := ⟨List.mem_of_getElem? (i := 121) (by decide +kernel), by decide +kernel⟩
theorem wn_Math : zW (.initialized "java/lang/Math") := ⟨List.mem_of_getElem? (i := 122) (by decide +kernel), by decide +kernel⟩
theorem wl_L_7 : zW (.classLink RL 7 RX7) := ⟨List.mem_of_getElem? (i := 123) (by decide +kernel), by decide +kernel⟩
theorem wx_X7 : zW (.instantiable RX7 7) := ⟨List.mem_of_getElem? (i := 124) (by decide +kernel), by decide +kernel⟩
theorem wm_L_9 : zW (.methodLink RL 9 yX7_init) := ⟨List.mem_of_getElem? (i := 125) (by decide +kernel), by decide +kernel⟩
theorem wi_X7_init : zW (.instanceMethod yX7_init) := ⟨List.mem_of_getElem? (i := 126) (by decide +kernel), by decide +kernel⟩
theorem wc_X7_init : zW (.code yX7_init cX7_init 2 none) := ⟨List.mem_of_getElem? (i := 127) (by decide +kernel), by decide +kernel⟩
theorem wl_X7_13 : zW (.classLink RX7 13 RX1) := ⟨List.mem_of_getElem? (i := 131) (by decide +kernel), by decide +kernel⟩
theorem wx_X1 : zW (.instantiable RX1 13) := ⟨List.mem_of_getElem? (i := 132) (by decide +kernel), by decide +kernel⟩
theorem wm_X7_15 : zW (.methodLinkNest RX7 15 yX1_init "ModalKeys") := ⟨List.mem_of_getElem? (i := 133) (by decide +kernel), by decide +kernel⟩
theorem wi_X1_init : zW (.instanceMethod yX1_init) := ⟨List.mem_of_getElem? (i := 134) (by decide +kernel), by decide +kernel⟩
theorem wc_X1_init : zW (.code yX1_init cX1_init 1 none) := ⟨List.mem_of_getElem? (i := 135) (by decide +kernel), by decide +kernel⟩
theorem wl_X1_9 : zW (.classLink RX1 9 RX5) := ⟨List.mem_of_getElem? (i := 137) (by decide +kernel), by decide +kernel⟩
theorem wx_X5 : zW (.instantiable RX5 3) := ⟨List.mem_of_getElem? (i := 138) (by decide +kernel), by decide +kernel⟩
theorem wm_X1_11 : zW (.methodLinkNest RX1 11 yX5_init "ModalKeys") := ⟨List.mem_of_getElem? (i := 139) (by decide +kernel), by decide +kernel⟩
theorem wi_X5_init : zW (.instanceMethod yX5_init) := ⟨List.mem_of_getElem? (i := 140) (by decide +kernel), by decide +kernel⟩
theorem wc_X5_init : zW (.code yX5_init cX5_init 1 none) := ⟨List.mem_of_getElem? (i := 141) (by decide +kernel), by decide +kernel⟩
theorem wf_X5_9 : zW (.fieldLink RX5 9 (TX5 0).1 (TX5 0).2.1 (TX5 0).2.2.1) := ⟨List.mem_of_getElem? (i := 143) (by decide +kernel), by decide +kernel⟩
theorem wf_X3_34 : zW (.fieldLinkNest RX3 34 (TX5 0).1 (TX5 0).2.1 (TX5 0).2.2.1 "ModalKeys") := ⟨List.mem_of_getElem? (i := 144) (by decide +kernel), by decide +kernel⟩
theorem wf_X1_79 : zW (.fieldLinkNest RX1 79 (TX5 0).1 (TX5 0).2.1 (TX5 0).2.2.1 "ModalKeys") := ⟨List.mem_of_getElem? (i := 145) (by decide +kernel), by decide +kernel⟩
theorem wf_X5_21 : zW (.fieldLink RX5 21 (TX5 1).1 (TX5 1).2.1 (TX5 1).2.2.1) := ⟨List.mem_of_getElem? (i := 146) (by decide +kernel), by decide +kernel⟩
theorem wf_X1_82 : zW (.fieldLinkNest RX1 82 (TX5 1).1 (TX5 1).2.1 (TX5 1).2.2.1 "ModalKeys") := ⟨List.mem_of_getElem? (i := 147) (by decide +kernel), by decide +kernel⟩
theorem wf_X7_53 : zW (.fieldLinkNest RX7 53 (TX5 1).1 (TX5 1).2.1 (TX5 1).2.2.1 "ModalKeys") := ⟨List.mem_of_getElem? (i := 148) (by decide +kernel), by decide +kernel⟩
theorem wf_X3_37 : zW (.fieldLinkNest RX3 37 (TX5 1).1 (TX5 1).2.1 (TX5 1).2.2.1 "ModalKeys") := ⟨List.mem_of_getElem? (i := 149) (by decide +kernel), by decide +kernel⟩
theorem wf_X5_25 : zW (.fieldLink RX5 25 (TX5 2).1 (TX5 2).2.1 (TX5 2).2.2.1) := ⟨List.mem_of_getElem? (i := 150) (by decide +kernel), by decide +kernel⟩
theorem wf_X1_85 : zW (.fieldLinkNest RX1 85 (TX5 2).1 (TX5 2).2.1 (TX5 2).2.2.1 "ModalKeys") := ⟨List.mem_of_getElem? (i := 151) (by decide +kernel), by decide +kernel⟩
theorem wf_X3_40 : zW (.fieldLinkNest RX3 40 (TX5 2).1 (TX5 2).2.1 (TX5 2).2.2.1 "ModalKeys") := ⟨List.mem_of_getElem? (i := 152) (by decide +kernel), by decide +kernel⟩
theorem wf_X7_74 : zW (.fieldLinkNest RX7 74 (TX5 2).1 (TX5 2).2.1 (TX5 2).2.2.1 "ModalKeys") := ⟨List.mem_of_getElem? (i := 153) (by decide +kernel), by decide +kernel⟩
theorem wl_X1_21 : zW (.classLink RX1 21 RX3) := ⟨List.mem_of_getElem? (i := 162) (by decide +kernel), by decide +kernel⟩
theorem wx_X3 : zW (.instantiable RX3 5) := ⟨List.mem_of_getElem? (i := 163) (by decide +kernel), by decide +kernel⟩
theorem wm_X1_23 : zW (.methodLinkNest RX1 23 yX3_init "ModalKeys") := ⟨List.mem_of_getElem? (i := 164) (by decide +kernel), by decide +kernel⟩
theorem wi_X3_init : zW (.instanceMethod yX3_init) := ⟨List.mem_of_getElem? (i := 165) (by decide +kernel), by decide +kernel⟩
theorem wc_X3_init : zW (.code yX3_init cX3_init 1 none) := ⟨List.mem_of_getElem? (i := 166) (by decide +kernel), by decide +kernel⟩
theorem wf_X3_11 : zW (.fieldLink RX3 11 (TX3 0).1 (TX3 0).2.1 (TX3 0).2.2.1) := ⟨List.mem_of_getElem? (i := 168) (by decide +kernel), by decide +kernel⟩
theorem wf_X3_15 : zW (.fieldLink RX3 15 (TX3 1).1 (TX3 1).2.1 (TX3 1).2.2.1) := ⟨List.mem_of_getElem? (i := 169) (by decide +kernel), by decide +kernel⟩
theorem wf_X3_18 : zW (.fieldLink RX3 18 (TX3 2).1 (TX3 2).2.1 (TX3 2).2.2.1) := ⟨List.mem_of_getElem? (i := 170) (by decide +kernel), by decide +kernel⟩
theorem wf_X3_27 : zW (.fieldLink RX3 27 (TX3 3).1 (TX3 3).2.1 (TX3 3).2.2.1) := ⟨List.mem_of_getElem? (i := 171) (by decide +kernel), by decide +kernel⟩
theorem wf_X3_31 : zW (.fieldLink RX3 31 (TX3 4).1 (TX3 4).2.1 (TX3 4).2.2.1) := ⟨List.mem_of_getElem? (i := 172) (by decide +kernel), by decide +kernel⟩
theorem wf_X1_94 : zW (.fieldLinkNest RX1 94 (TX3 4).1 (TX3 4).2.1 (TX3 4).2.2.1 "ModalKeys") := ⟨List.mem_of_getElem? (i := 173) (by decide +kernel), by decide +kernel⟩
theorem wf_X7_93 : zW (.fieldLinkNest RX7 93 (TX3 4).1 (TX3 4).2.1 (TX3 4).2.2.1 "ModalKeys") := ⟨List.mem_of_getElem? (i := 174) (by decide +kernel), by decide +kernel⟩
theorem wl_X1_28 : zW (.classLink RX1 28 RX0) := ⟨List.mem_of_getElem? (i := 186) (by decide +kernel), by decide +kernel⟩
theorem wx_X0 : zW (.instantiable RX0 9) := ⟨List.mem_of_getElem? (i := 187) (by decide +kernel), by decide +kernel⟩
theorem wm_X1_30 : zW (.methodLinkNest RX1 30 yX0_init "ModalKeys") := ⟨List.mem_of_getElem? (i := 188) (by decide +kernel), by decide +kernel⟩
theorem wi_X0_init : zW (.instanceMethod yX0_init) := ⟨List.mem_of_getElem? (i := 189) (by decide +kernel), by decide +kernel⟩
theorem wc_X0_init : zW (.code yX0_init cX0_init 1 none) := ⟨List.mem_of_getElem? (i := 190) (by decide +kernel), by decide +kernel⟩
theorem wl_X0_9 : zW (.classLink RX0 9 RX2) := ⟨List.mem_of_getElem? (i := 192) (by decide +kernel), by decide +kernel⟩
theorem wx_X2 : zW (.instantiable RX2 2) := ⟨List.mem_of_getElem? (i := 193) (by decide +kernel), by decide +kernel⟩
theorem wm_X0_11 : zW (.methodLinkNest RX0 11 yX2_init "ModalKeys") := ⟨List.mem_of_getElem? (i := 194) (by decide +kernel), by decide +kernel⟩
theorem wi_X2_init : zW (.instanceMethod yX2_init) := ⟨List.mem_of_getElem? (i := 195) (by decide +kernel), by decide +kernel⟩
theorem wc_X2_init : zW (.code yX2_init cX2_init 1 none) := ⟨List.mem_of_getElem? (i := 196) (by decide +kernel), by decide +kernel⟩
theorem wf_X2_9 : zW (.fieldLink RX2 9 (TX2 0).1 (TX2 0).2.1 (TX2 0).2.2.1) := ⟨List.mem_of_getElem? (i := 198) (by decide +kernel), by decide +kernel⟩
theorem wf_X1_115 : zW (.fieldLinkNest RX1 115 (TX2 0).1 (TX2 0).2.1 (TX2 0).2.2.1 "ModalKeys") := ⟨List.mem_of_getElem? (i := 199) (by decide +kernel), by decide +kernel⟩
theorem wf_X0_18 : zW (.fieldLinkNest RX0 18 (TX2 1).1 (TX2 1).2.1 (TX2 1).2.2.1 "ModalKeys") := ⟨List.mem_of_getElem? (i := 200) (by decide +kernel), by decide +kernel⟩
theorem wf_X2_19 : zW (.fieldLink RX2 19 (TX2 1).1 (TX2 1).2.1 (TX2 1).2.2.1) := ⟨List.mem_of_getElem? (i := 201) (by decide +kernel), by decide +kernel⟩
theorem wf_X1_97 : zW (.fieldLinkNest RX1 97 (TX2 1).1 (TX2 1).2.1 (TX2 1).2.2.1 "ModalKeys") := ⟨List.mem_of_getElem? (i := 202) (by decide +kernel), by decide +kernel⟩
theorem wf_X7_105 : zW (.fieldLinkNest RX7 105 (TX2 1).1 (TX2 1).2.1 (TX2 1).2.2.1 "ModalKeys") := ⟨List.mem_of_getElem? (i := 203) (by decide +kernel), by decide +kernel⟩
theorem wf_X0_12 : zW (.fieldLink RX0 12 (TX0 0).1 (TX0 0).2.1 (TX0 0).2.2.1) := ⟨List.mem_of_getElem? (i := 209) (by decide +kernel), by decide +kernel⟩
theorem wf_X1_101 : zW (.fieldLinkNest RX1 101 (TX0 0).1 (TX0 0).2.1 (TX0 0).2.2.1 "ModalKeys") := ⟨List.mem_of_getElem? (i := 210) (by decide +kernel), by decide +kernel⟩
theorem wf_X0_22 : zW (.fieldLink RX0 22 (TX0 1).1 (TX0 1).2.1 (TX0 1).2.2.1) := ⟨List.mem_of_getElem? (i := 211) (by decide +kernel), by decide +kernel⟩
theorem wf_X1_104 : zW (.fieldLinkNest RX1 104 (TX0 1).1 (TX0 1).2.1 (TX0 1).2.2.1 "ModalKeys") := ⟨List.mem_of_getElem? (i := 212) (by decide +kernel), by decide +kernel⟩
theorem wf_X0_25 : zW (.fieldLink RX0 25 (TX0 2).1 (TX0 2).2.1 (TX0 2).2.2.1) := ⟨List.mem_of_getElem? (i := 213) (by decide +kernel), by decide +kernel⟩
theorem wf_X1_224 : zW (.fieldLinkNest RX1 224 (TX0 2).1 (TX0 2).2.1 (TX0 2).2.2.1 "ModalKeys") := ⟨List.mem_of_getElem? (i := 214) (by decide +kernel), by decide +kernel⟩
theorem wf_X0_28 : zW (.fieldLink RX0 28 (TX0 3).1 (TX0 3).2.1 (TX0 3).2.2.1) := ⟨List.mem_of_getElem? (i := 215) (by decide +kernel), by decide +kernel⟩
theorem wf_X0_31 : zW (.fieldLink RX0 31 (TX0 4).1 (TX0 4).2.1 (TX0 4).2.2.1) := ⟨List.mem_of_getElem? (i := 216) (by decide +kernel), by decide +kernel⟩
theorem wf_X0_34 : zW (.fieldLink RX0 34 (TX0 5).1 (TX0 5).2.1 (TX0 5).2.2.1) := ⟨List.mem_of_getElem? (i := 217) (by decide +kernel), by decide +kernel⟩
theorem wf_X1_155 : zW (.fieldLinkNest RX1 155 (TX0 5).1 (TX0 5).2.1 (TX0 5).2.2.1 "ModalKeys") := ⟨List.mem_of_getElem? (i := 218) (by decide +kernel), by decide +kernel⟩
theorem wf_X0_37 : zW (.fieldLink RX0 37 (TX0 6).1 (TX0 6).2.1 (TX0 6).2.2.1) := ⟨List.mem_of_getElem? (i := 219) (by decide +kernel), by decide +kernel⟩
theorem wf_X1_158 : zW (.fieldLinkNest RX1 158 (TX0 6).1 (TX0 6).2.1 (TX0 6).2.2.1 "ModalKeys") := ⟨List.mem_of_getElem? (i := 220) (by decide +kernel), by decide +kernel⟩
theorem wf_X0_40 : zW (.fieldLink RX0 40 (TX0 7).1 (TX0 7).2.1 (TX0 7).2.2.1) := ⟨List.mem_of_getElem? (i := 221) (by decide +kernel), by decide +kernel⟩
theorem wf_X1_215 : zW (.fieldLinkNest RX1 215 (TX0 7).1 (TX0 7).2.1 (TX0 7).2.2.1 "ModalKeys") := ⟨List.mem_of_getElem? (i := 222) (by decide +kernel), by decide +kernel⟩
theorem wf_X0_44 : zW (.fieldLink RX0 44 (TX0 8).1 (TX0 8).2.1 (TX0 8).2.2.1) := ⟨List.mem_of_getElem? (i := 223) (by decide +kernel), by decide +kernel⟩
theorem wf_X1_161 : zW (.fieldLinkNest RX1 161 (TX0 8).1 (TX0 8).2.1 (TX0 8).2.2.1 "ModalKeys") := ⟨List.mem_of_getElem? (i := 224) (by decide +kernel), by decide +kernel⟩
theorem wl_X1_35 : zW (.classLink RX1 35 RX2) := ⟨List.mem_of_getElem? (i := 244) (by decide +kernel), by decide +kernel⟩
theorem wm_X1_37 : zW (.methodLinkNest RX1 37 yX2_init "ModalKeys") := ⟨List.mem_of_getElem? (i := 245) (by decide +kernel), by decide +kernel⟩
theorem wf_X1_12 : zW (.fieldLink RX1 12 (TX1 0).1 (TX1 0).2.1 (TX1 0).2.2.1) := ⟨List.mem_of_getElem? (i := 246) (by decide +kernel), by decide +kernel⟩
theorem wf_X7_49 : zW (.fieldLinkNest RX7 49 (TX1 0).1 (TX1 0).2.1 (TX1 0).2.2.1 "ModalKeys") := ⟨List.mem_of_getElem? (i := 247) (by decide +kernel), by decide +kernel⟩
theorem wf_X1_18 : zW (.fieldLink RX1 18 (TX1 1).1 (TX1 1).2.1 (TX1 1).2.2.1) := ⟨List.mem_of_getElem? (i := 248) (by decide +kernel), by decide +kernel⟩
theorem wf_X1_24 : zW (.fieldLink RX1 24 (TX1 2).1 (TX1 2).2.1 (TX1 2).2.2.1) := ⟨List.mem_of_getElem? (i := 249) (by decide +kernel), by decide +kernel⟩
theorem wf_X7_89 : zW (.fieldLinkNest RX7 89 (TX1 2).1 (TX1 2).2.1 (TX1 2).2.2.1 "ModalKeys") := ⟨List.mem_of_getElem? (i := 250) (by decide +kernel), by decide +kernel⟩
theorem wf_X1_31 : zW (.fieldLink RX1 31 (TX1 3).1 (TX1 3).2.1 (TX1 3).2.2.1) := ⟨List.mem_of_getElem? (i := 251) (by decide +kernel), by decide +kernel⟩
theorem wf_X1_38 : zW (.fieldLink RX1 38 (TX1 4).1 (TX1 4).2.1 (TX1 4).2.2.1) := ⟨List.mem_of_getElem? (i := 252) (by decide +kernel), by decide +kernel⟩
theorem wf_X7_101 : zW (.fieldLinkNest RX7 101 (TX1 4).1 (TX1 4).2.1 (TX1 4).2.2.1 "ModalKeys") := ⟨List.mem_of_getElem? (i := 253) (by decide +kernel), by decide +kernel⟩
theorem wf_X1_42 : zW (.fieldLink RX1 42 (TX1 5).1 (TX1 5).2.1 (TX1 5).2.2.1) := ⟨List.mem_of_getElem? (i := 254) (by decide +kernel), by decide +kernel⟩
theorem wf_X7_68 : zW (.fieldLinkNest RX7 68 (TX1 5).1 (TX1 5).2.1 (TX1 5).2.2.1 "ModalKeys") := ⟨List.mem_of_getElem? (i := 255) (by decide +kernel), by decide +kernel⟩
theorem wf_X1_71 : zW (.fieldLink RX1 71 (TX1 6).1 (TX1 6).2.1 (TX1 6).2.2.1) := ⟨List.mem_of_getElem? (i := 256) (by decide +kernel), by decide +kernel⟩
theorem wf_X7_65 : zW (.fieldLinkNest RX7 65 (TX1 6).1 (TX1 6).2.1 (TX1 6).2.2.1 "ModalKeys") := ⟨List.mem_of_getElem? (i := 257) (by decide +kernel), by decide +kernel⟩
theorem wf_X1_46 : zW (.fieldLink RX1 46 (TX1 7).1 (TX1 7).2.1 (TX1 7).2.2.1) := ⟨List.mem_of_getElem? (i := 258) (by decide +kernel), by decide +kernel⟩
theorem wf_X7_71 : zW (.fieldLinkNest RX7 71 (TX1 7).1 (TX1 7).2.1 (TX1 7).2.2.1 "ModalKeys") := ⟨List.mem_of_getElem? (i := 259) (by decide +kernel), by decide +kernel⟩
theorem wf_X1_49 : zW (.fieldLink RX1 49 (TX1 8).1 (TX1 8).2.1 (TX1 8).2.2.1) := ⟨List.mem_of_getElem? (i := 260) (by decide +kernel), by decide +kernel⟩
theorem wf_X7_114 : zW (.fieldLinkNest RX7 114 (TX1 8).1 (TX1 8).2.1 (TX1 8).2.2.1 "ModalKeys") := ⟨List.mem_of_getElem? (i := 261) (by decide +kernel), by decide +kernel⟩
theorem wf_X1_75 : zW (.fieldLink RX1 75 (TX1 9).1 (TX1 9).2.1 (TX1 9).2.2.1) := ⟨List.mem_of_getElem? (i := 262) (by decide +kernel), by decide +kernel⟩
theorem wf_X7_77 : zW (.fieldLinkNest RX7 77 (TX1 9).1 (TX1 9).2.1 (TX1 9).2.2.1 "ModalKeys") := ⟨List.mem_of_getElem? (i := 263) (by decide +kernel), by decide +kernel⟩
theorem wf_X1_187 : zW (.fieldLink RX1 187 (TX1 10).1 (TX1 10).2.1 (TX1 10).2.2.1) := ⟨List.mem_of_getElem? (i := 264) (by decide +kernel), by decide +kernel⟩
theorem wf_X1_178 : zW (.fieldLink RX1 178 (TX1 11).1 (TX1 11).2.1 (TX1 11).2.2.1) := ⟨List.mem_of_getElem? (i := 265) (by decide +kernel), by decide +kernel⟩
theorem wf_X7_155 : zW (.fieldLinkNest RX7 155 (TX1 11).1 (TX1 11).2.1 (TX1 11).2.2.1 "ModalKeys") := ⟨List.mem_of_getElem? (i := 266) (by decide +kernel), by decide +kernel⟩
theorem wf_X1_181 : zW (.fieldLink RX1 181 (TX1 12).1 (TX1 12).2.1 (TX1 12).2.2.1) := ⟨List.mem_of_getElem? (i := 267) (by decide +kernel), by decide +kernel⟩
theorem wf_X7_152 : zW (.fieldLinkNest RX7 152 (TX1 12).1 (TX1 12).2.1 (TX1 12).2.2.1 "ModalKeys") := ⟨List.mem_of_getElem? (i := 268) (by decide +kernel), by decide +kernel⟩
theorem wl_X7_23 : zW (.classLink RX7 23 RX6) := ⟨List.mem_of_getElem? (i := 296) (by decide +kernel), by decide +kernel⟩
theorem wx_X6 : zW (.instantiable RX6 5) := ⟨List.mem_of_getElem? (i := 297) (by decide +kernel), by decide +kernel⟩
theorem wm_X7_25 : zW (.methodLinkNest RX7 25 yX6_init "ModalKeys") := ⟨List.mem_of_getElem? (i := 298) (by decide +kernel), by decide +kernel⟩
theorem wi_X6_init : zW (.instanceMethod yX6_init) := ⟨List.mem_of_getElem? (i := 299) (by decide +kernel), by decide +kernel⟩
theorem wc_X6_init : zW (.code yX6_init cX6_init 1 none) := ⟨List.mem_of_getElem? (i := 300) (by decide +kernel), by decide +kernel⟩
theorem wl_X6_9 : zW (.classLink RX6 9 "[[I") := ⟨List.mem_of_getElem? (i := 302) (by decide +kernel), by decide +kernel⟩
theorem wf_X6_11 : zW (.fieldLink RX6 11 (TX6 0).1 (TX6 0).2.1 (TX6 0).2.2.1) := ⟨List.mem_of_getElem? (i := 304) (by decide +kernel), by decide +kernel⟩
theorem wf_X6_16 : zW (.fieldLink RX6 16 (TX6 1).1 (TX6 1).2.1 (TX6 1).2.2.1) := ⟨List.mem_of_getElem? (i := 305) (by decide +kernel), by decide +kernel⟩
theorem wf_X7_132 : zW (.fieldLinkNest RX7 132 (TX6 1).1 (TX6 1).2.1 (TX6 1).2.2.1 "ModalKeys") := ⟨List.mem_of_getElem? (i := 306) (by decide +kernel), by decide +kernel⟩
theorem wf_X6_20 : zW (.fieldLink RX6 20 (TX6 2).1 (TX6 2).2.1 (TX6 2).2.2.1) := ⟨List.mem_of_getElem? (i := 307) (by decide +kernel), by decide +kernel⟩
theorem wf_X6_23 : zW (.fieldLink RX6 23 (TX6 3).1 (TX6 3).2.1 (TX6 3).2.2.1) := ⟨List.mem_of_getElem? (i := 308) (by decide +kernel), by decide +kernel⟩
theorem wf_X6_32 : zW (.fieldLink RX6 32 (TX6 4).1 (TX6 4).2.1 (TX6 4).2.2.1) := ⟨List.mem_of_getElem? (i := 309) (by decide +kernel), by decide +kernel⟩
theorem wl_X7_30 : zW (.classLink RX7 30 RX4) := ⟨List.mem_of_getElem? (i := 321) (by decide +kernel), by decide +kernel⟩
theorem wx_X4 : zW (.instantiable RX4 3) := ⟨List.mem_of_getElem? (i := 323) (by decide +kernel), by decide +kernel⟩
theorem wm_X7_36 : zW (.methodLinkNest RX7 36 yX4_init "ModalKeys") := ⟨List.mem_of_getElem? (i := 324) (by decide +kernel), by decide +kernel⟩
theorem wi_X4_init : zW (.instanceMethod yX4_init) := ⟨List.mem_of_getElem? (i := 325) (by decide +kernel), by decide +kernel⟩
theorem wc_X4_init : zW (.code yX4_init cX4_init 1 none) := ⟨List.mem_of_getElem? (i := 326) (by decide +kernel), by decide +kernel⟩
theorem wf_X4_9 : zW (.fieldLink RX4 9 (TX4 0).1 (TX4 0).2.1 (TX4 0).2.2.1) := ⟨List.mem_of_getElem? (i := 328) (by decide +kernel), by decide +kernel⟩
theorem wf_X7_182 : zW (.fieldLinkNest RX7 182 (TX4 0).1 (TX4 0).2.1 (TX4 0).2.2.1 "ModalKeys") := ⟨List.mem_of_getElem? (i := 329) (by decide +kernel), by decide +kernel⟩
theorem wf_X4_15 : zW (.fieldLink RX4 15 (TX4 1).1 (TX4 1).2.1 (TX4 1).2.2.1) := ⟨List.mem_of_getElem? (i := 330) (by decide +kernel), by decide +kernel⟩
theorem wf_X7_202 : zW (.fieldLinkNest RX7 202 (TX4 1).1 (TX4 1).2.1 (TX4 1).2.2.1 "ModalKeys") := ⟨List.mem_of_getElem? (i := 331) (by decide +kernel), by decide +kernel⟩
theorem wf_X4_19 : zW (.fieldLink RX4 19 (TX4 2).1 (TX4 2).2.1 (TX4 2).2.2.1) := ⟨List.mem_of_getElem? (i := 332) (by decide +kernel), by decide +kernel⟩
theorem wf_X7_201 : zW (.fieldLinkNest RX7 201 (TX4 2).1 (TX4 2).2.1 (TX4 2).2.2.1 "ModalKeys") := ⟨List.mem_of_getElem? (i := 333) (by decide +kernel), by decide +kernel⟩
theorem wf_X7_9 : zW (.fieldLink RX7 9 (TX7 0).1 (TX7 0).2.1 (TX7 0).2.2.1) := ⟨List.mem_of_getElem? (i := 342) (by decide +kernel), by decide +kernel⟩
theorem wf_X7_41 : zW (.fieldLink RX7 41 (TX7 1).1 (TX7 1).2.1 (TX7 1).2.2.1) := ⟨List.mem_of_getElem? (i := 343) (by decide +kernel), by decide +kernel⟩
theorem wf_X7_16 : zW (.fieldLink RX7 16 (TX7 2).1 (TX7 2).2.1 (TX7 2).2.2.1) := ⟨List.mem_of_getElem? (i := 344) (by decide +kernel), by decide +kernel⟩
theorem wf_X7_20 : zW (.fieldLink RX7 20 (TX7 3).1 (TX7 3).2.1 (TX7 3).2.2.1) := ⟨List.mem_of_getElem? (i := 345) (by decide +kernel), by decide +kernel⟩
theorem wf_X7_166 : zW (.fieldLink RX7 166 (TX7 4).1 (TX7 4).2.1 (TX7 4).2.2.1) := ⟨List.mem_of_getElem? (i := 346) (by decide +kernel), by decide +kernel⟩
theorem wf_X7_26 : zW (.fieldLink RX7 26 (TX7 5).1 (TX7 5).2.1 (TX7 5).2.2.1) := ⟨List.mem_of_getElem? (i := 347) (by decide +kernel), by decide +kernel⟩
theorem wf_X7_32 : zW (.fieldLink RX7 32 (TX7 6).1 (TX7 6).2.1 (TX7 6).2.2.1) := ⟨List.mem_of_getElem? (i := 348) (by decide +kernel), by decide +kernel⟩
theorem wm_L_13 : zW (.methodLink RL 13 yX7_type) := ⟨List.mem_of_getElem? (i := 364) (by decide +kernel), by decide +kernel⟩
theorem wi_X7_type : zW (.instanceMethod yX7_type) := ⟨List.mem_of_getElem? (i := 365) (by decide +kernel), by decide +kernel⟩
theorem ws_X7_type : zW (.selects RX7 yX7_type yX7_type) := ⟨List.mem_of_getElem? (i := 366) (by decide +kernel), by decide +kernel⟩
theorem wc_X7_type : zW (.code yX7_type cX7_type 2 (some Jvm.ClassFile.FieldType.int)) := ⟨List.mem_of_getElem? (i := 367) (by decide +kernel), by decide +kernel⟩
theorem wm_X7_37 : zW (.methodLink RX7 37 yX7_isLetter) := ⟨List.mem_of_getElem? (i := 368) (by decide +kernel), by decide +kernel⟩
theorem wt_X7_isLetter : zW (.static yX7_isLetter) := ⟨List.mem_of_getElem? (i := 369) (by decide +kernel), by decide +kernel⟩
theorem wc_X7_isLetter : zW (.code yX7_isLetter cX7_isLetter 1 (some Jvm.ClassFile.FieldType.boolean)) := ⟨List.mem_of_getElem? (i := 370) (by decide +kernel), by decide +kernel⟩
theorem wm_L_18 : zW (.methodLink RL 18 yX7_line) := ⟨List.mem_of_getElem? (i := 371) (by decide +kernel), by decide +kernel⟩
theorem wi_X7_line : zW (.instanceMethod yX7_line) := ⟨List.mem_of_getElem? (i := 372) (by decide +kernel), by decide +kernel⟩
theorem ws_X7_line : zW (.selects RX7 yX7_line yX7_line) := ⟨List.mem_of_getElem? (i := 373) (by decide +kernel), by decide +kernel⟩
theorem wc_X7_line : zW (.code yX7_line cX7_line 1 (some Jvm.ClassFile.FieldType.int)) := ⟨List.mem_of_getElem? (i := 374) (by decide +kernel), by decide +kernel⟩
theorem wm_X7_45 : zW (.methodLinkNest RX7 45 yX1_begin "ModalKeys") := ⟨List.mem_of_getElem? (i := 375) (by decide +kernel), by decide +kernel⟩
theorem wi_X1_begin : zW (.instanceMethod yX1_begin) := ⟨List.mem_of_getElem? (i := 377) (by decide +kernel), by decide +kernel⟩
theorem wc_X1_begin : zW (.code yX1_begin cX1_begin 3 none) := ⟨List.mem_of_getElem? (i := 378) (by decide +kernel), by decide +kernel⟩
theorem wm_X1_65 : zW (.methodLink RX1 65 arraycopyName) := ⟨List.mem_of_getElem? (i := 379) (by decide +kernel), by decide +kernel⟩
theorem wt_System_arraycopy : zW (.static arraycopyName) := ⟨List.mem_of_getElem? (i := 380) (by decide +kernel), by decide +kernel⟩
theorem wv_System_arraycopy : zW (.native arraycopyName) := ⟨List.mem_of_getElem? (i := 381) (by decide +kernel), by decide +kernel⟩
theorem wm_X1_88 : zW (.methodLink RX1 88 yJ7_fill_53178) := ⟨List.mem_of_getElem? (i := 382) (by decide +kernel), by decide +kernel⟩
theorem wt_J7_fill_53178 : zW (.static yJ7_fill_53178) := ⟨List.mem_of_getElem? (i := 383) (by decide +kernel), by decide +kernel⟩
theorem wc_J7_fill_53178 : zW (.code yJ7_fill_53178 cJ7_fill_53178 4 none) := ⟨List.mem_of_getElem? (i := 384) (by decide +kernel), by decide +kernel⟩
theorem wm_X1_98 : zW (.methodLinkNest RX1 98 yX0_clear "ModalKeys") := ⟨List.mem_of_getElem? (i := 385) (by decide +kernel), by decide +kernel⟩
theorem wi_X0_clear : zW (.instanceMethod yX0_clear) := ⟨List.mem_of_getElem? (i := 387) (by decide +kernel), by decide +kernel⟩
theorem wc_X0_clear : zW (.code yX0_clear cX0_clear 1 none) := ⟨List.mem_of_getElem? (i := 388) (by decide +kernel), by decide +kernel⟩
theorem wm_L_23 : zW (.methodLink RL 23 yX7_letter) := ⟨List.mem_of_getElem? (i := 389) (by decide +kernel), by decide +kernel⟩
theorem wi_X7_letter : zW (.instanceMethod yX7_letter) := ⟨List.mem_of_getElem? (i := 390) (by decide +kernel), by decide +kernel⟩
theorem ws_X7_letter : zW (.selects RX7 yX7_letter yX7_letter) := ⟨List.mem_of_getElem? (i := 391) (by decide +kernel), by decide +kernel⟩
theorem wc_X7_letter : zW (.code yX7_letter cX7_letter 2 (some Jvm.ClassFile.FieldType.int)) := ⟨List.mem_of_getElem? (i := 392) (by decide +kernel), by decide +kernel⟩
theorem wm_X7_58 : zW (.methodLinkNest RX7 58 yX5_has "ModalKeys") := ⟨List.mem_of_getElem? (i := 393) (by decide +kernel), by decide +kernel⟩
theorem wi_X5_has : zW (.instanceMethod yX5_has) := ⟨List.mem_of_getElem? (i := 395) (by decide +kernel), by decide +kernel⟩
theorem wc_X5_has : zW (.code yX5_has cX5_has 2 (some Jvm.ClassFile.FieldType.boolean)) := ⟨List.mem_of_getElem? (i := 396) (by decide +kernel), by decide +kernel⟩
theorem wm_X7_61 : zW (.methodLinkNest RX7 61 yX5_at "ModalKeys") := ⟨List.mem_of_getElem? (i := 397) (by decide +kernel), by decide +kernel⟩
theorem wi_X5_at : zW (.instanceMethod yX5_at) := ⟨List.mem_of_getElem? (i := 399) (by decide +kernel), by decide +kernel⟩
theorem wc_X5_at : zW (.code yX5_at cX5_at 2 (some Jvm.ClassFile.FieldType.int)) := ⟨List.mem_of_getElem? (i := 400) (by decide +kernel), by decide +kernel⟩
theorem wm_X5_28 : zW (.methodLink RX5 28 yX5_has) := ⟨List.mem_of_getElem? (i := 401) (by decide +kernel), by decide +kernel⟩
theorem wm_L_27 : zW (.methodLink RL 27 yX7_store) := ⟨List.mem_of_getElem? (i := 402) (by decide +kernel), by decide +kernel⟩
theorem wi_X7_store : zW (.instanceMethod yX7_store) := ⟨List.mem_of_getElem? (i := 403) (by decide +kernel), by decide +kernel⟩
theorem ws_X7_store : zW (.selects RX7 yX7_store yX7_store) := ⟨List.mem_of_getElem? (i := 404) (by decide +kernel), by decide +kernel⟩
theorem wc_X7_store : zW (.code yX7_store cX7_store 2 (some Jvm.ClassFile.FieldType.int)) := ⟨List.mem_of_getElem? (i := 405) (by decide +kernel), by decide +kernel⟩
theorem wm_L_31 : zW (.methodLink RL 31 yX7_mark) := ⟨List.mem_of_getElem? (i := 406) (by decide +kernel), by decide +kernel⟩
theorem wi_X7_mark : zW (.instanceMethod yX7_mark) := ⟨List.mem_of_getElem? (i := 407) (by decide +kernel), by decide +kernel⟩
theorem ws_X7_mark : zW (.selects RX7 yX7_mark yX7_mark) := ⟨List.mem_of_getElem? (i := 408) (by decide +kernel), by decide +kernel⟩
theorem wc_X7_mark : zW (.code yX7_mark cX7_mark 2 (some Jvm.ClassFile.FieldType.int)) := ⟨List.mem_of_getElem? (i := 409) (by decide +kernel), by decide +kernel⟩
theorem wm_L_35 : zW (.methodLink RL 35 yX7_count) := ⟨List.mem_of_getElem? (i := 410) (by decide +kernel), by decide +kernel⟩
theorem wi_X7_count : zW (.instanceMethod yX7_count) := ⟨List.mem_of_getElem? (i := 411) (by decide +kernel), by decide +kernel⟩
theorem ws_X7_count : zW (.selects RX7 yX7_count yX7_count) := ⟨List.mem_of_getElem? (i := 412) (by decide +kernel), by decide +kernel⟩
theorem wc_X7_count : zW (.code yX7_count cX7_count 2 (some Jvm.ClassFile.FieldType.int)) := ⟨List.mem_of_getElem? (i := 413) (by decide +kernel), by decide +kernel⟩
theorem wm_X7_81 : zW (.methodLinkNest RX7 81 yX1_isPending "ModalKeys") := ⟨List.mem_of_getElem? (i := 414) (by decide +kernel), by decide +kernel⟩
theorem wi_X1_isPending : zW (.instanceMethod yX1_isPending) := ⟨List.mem_of_getElem? (i := 416) (by decide +kernel), by decide +kernel⟩
theorem wc_X1_isPending : zW (.code yX1_isPending cX1_isPending 1 (some Jvm.ClassFile.FieldType.boolean)) := ⟨List.mem_of_getElem? (i := 417) (by decide +kernel), by decide +kernel⟩
theorem wm_X7_85 : zW (.methodLinkNest RX7 85 yX1_markSet "ModalKeys") := ⟨List.mem_of_getElem? (i := 418) (by decide +kernel), by decide +kernel⟩
theorem wi_X1_markSet : zW (.instanceMethod yX1_markSet) := ⟨List.mem_of_getElem? (i := 420) (by decide +kernel), by decide +kernel⟩
theorem wc_X1_markSet : zW (.code yX1_markSet cX1_markSet 3 (some Jvm.ClassFile.FieldType.int)) := ⟨List.mem_of_getElem? (i := 421) (by decide +kernel), by decide +kernel⟩
theorem wm_X7_98 : zW (.methodLinkNest RX7 98 yX5_words "ModalKeys") := ⟨List.mem_of_getElem? (i := 422) (by decide +kernel), by decide +kernel⟩
theorem wi_X5_words : zW (.instanceMethod yX5_words) := ⟨List.mem_of_getElem? (i := 424) (by decide +kernel), by decide +kernel⟩
theorem wc_X5_words : zW (.code yX5_words cX5_words 3 (some Jvm.ClassFile.FieldType.int)) := ⟨List.mem_of_getElem? (i := 425) (by decide +kernel), by decide +kernel⟩
theorem wm_X5_42 : zW (.methodLink RX5 42 yX5_kindAt) := ⟨List.mem_of_getElem? (i := 426) (by decide +kernel), by decide +kernel⟩
theorem wi_X5_kindAt : zW (.instanceMethod yX5_kindAt) := ⟨List.mem_of_getElem? (i := 428) (by decide +kernel), by decide +kernel⟩
theorem wc_X5_kindAt : zW (.code yX5_kindAt cX5_kindAt 6 (some Jvm.ClassFile.FieldType.int)) := ⟨List.mem_of_getElem? (i := 429) (by decide +kernel), by decide +kernel⟩
theorem wm_L_39 : zW (.methodLink RL 39 yX7_key) := ⟨List.mem_of_getElem? (i := 430) (by decide +kernel), by decide +kernel⟩
theorem wi_X7_key : zW (.instanceMethod yX7_key) := ⟨List.mem_of_getElem? (i := 431) (by decide +kernel), by decide +kernel⟩
theorem ws_X7_key : zW (.selects RX7 yX7_key yX7_key) := ⟨List.mem_of_getElem? (i := 432) (by decide +kernel), by decide +kernel⟩
theorem wc_X7_key : zW (.code yX7_key cX7_key 2 (some Jvm.ClassFile.FieldType.int)) := ⟨List.mem_of_getElem? (i := 433) (by decide +kernel), by decide +kernel⟩
theorem wm_X7_108 : zW (.methodLinkNest RX7 108 yX1_press "ModalKeys") := ⟨List.mem_of_getElem? (i := 434) (by decide +kernel), by decide +kernel⟩
theorem wi_X1_press : zW (.instanceMethod yX1_press) := ⟨List.mem_of_getElem? (i := 436) (by decide +kernel), by decide +kernel⟩
theorem wc_X1_press : zW (.code yX1_press cX1_press 5 (some Jvm.ClassFile.FieldType.int)) := ⟨List.mem_of_getElem? (i := 437) (by decide +kernel), by decide +kernel⟩
theorem wm_X1_107 : zW (.methodLink RX1 107 yX1_strike) := ⟨List.mem_of_getElem? (i := 438) (by decide +kernel), by decide +kernel⟩
theorem wi_X1_strike : zW (.instanceMethod yX1_strike) := ⟨List.mem_of_getElem? (i := 440) (by decide +kernel), by decide +kernel⟩
theorem wc_X1_strike : zW (.code yX1_strike cX1_strike 5 (some Jvm.ClassFile.FieldType.int)) := ⟨List.mem_of_getElem? (i := 441) (by decide +kernel), by decide +kernel⟩
theorem wm_X1_117 : zW (.methodLink RX1 117 yX1_typeIn) := ⟨List.mem_of_getElem? (i := 442) (by decide +kernel), by decide +kernel⟩
theorem wi_X1_typeIn : zW (.instanceMethod yX1_typeIn) := ⟨List.mem_of_getElem? (i := 444) (by decide +kernel), by decide +kernel⟩
theorem wc_X1_typeIn : zW (.code yX1_typeIn cX1_typeIn 3 (some Jvm.ClassFile.FieldType.int)) := ⟨List.mem_of_getElem? (i := 445) (by decide +kernel), by decide +kernel⟩
theorem wm_X1_138 : zW (.methodLinkNest RX1 138 yX2_add "ModalKeys") := ⟨List.mem_of_getElem? (i := 446) (by decide +kernel), by decide +kernel⟩
theorem wi_X2_add : zW (.instanceMethod yX2_add) := ⟨List.mem_of_getElem? (i := 448) (by decide +kernel), by decide +kernel⟩
theorem wc_X2_add : zW (.code yX2_add cX2_add 2 none) := ⟨List.mem_of_getElem? (i := 449) (by decide +kernel), by decide +kernel⟩
theorem wm_X2_23 : zW (.methodLink RX2 23 Lib.Math.min.name) := ⟨List.mem_of_getElem? (i := 450) (by decide +kernel), by decide +kernel⟩
theorem wt_Math_min : zW (.static Lib.Math.min.name) := ⟨List.mem_of_getElem? (i := 451) (by decide +kernel), by decide +kernel⟩
theorem wc_Math_min : zW (.code Lib.Math.min.name Lib.Math.min.code 2 (some Jvm.ClassFile.FieldType.int)) := ⟨List.mem_of_getElem? (i := 452) (by decide +kernel), by decide +kernel⟩
theorem wm_X1_142 : zW (.methodLink RX1 142 Lib.Math.max.name) := ⟨List.mem_of_getElem? (i := 453) (by decide +kernel), by decide +kernel⟩
theorem wt_Math_max : zW (.static Lib.Math.max.name) := ⟨List.mem_of_getElem? (i := 454) (by decide +kernel), by decide +kernel⟩
theorem wc_Math_max : zW (.code Lib.Math.max.name Lib.Math.max.code 2 (some Jvm.ClassFile.FieldType.int)) := ⟨List.mem_of_getElem? (i := 455) (by decide +kernel), by decide +kernel⟩
theorem wm_X1_134 : zW (.methodLink RX1 134 yX1_remember) := ⟨List.mem_of_getElem? (i := 456) (by decide +kernel), by decide +kernel⟩
theorem wi_X1_remember : zW (.instanceMethod yX1_remember) := ⟨List.mem_of_getElem? (i := 458) (by decide +kernel), by decide +kernel⟩
theorem wc_X1_remember : zW (.code yX1_remember cX1_remember 2 none) := ⟨List.mem_of_getElem? (i := 459) (by decide +kernel), by decide +kernel⟩
theorem wm_X1_152 : zW (.methodLinkNest RX1 152 yX3_keep "ModalKeys") := ⟨List.mem_of_getElem? (i := 460) (by decide +kernel), by decide +kernel⟩
theorem wi_X3_keep : zW (.instanceMethod yX3_keep) := ⟨List.mem_of_getElem? (i := 462) (by decide +kernel), by decide +kernel⟩
theorem wc_X3_keep : zW (.code yX3_keep cX3_keep 2 none) := ⟨List.mem_of_getElem? (i := 463) (by decide +kernel), by decide +kernel⟩
theorem wm_X3_21 : zW (.methodLink RX3 21 arraycopyName) := ⟨List.mem_of_getElem? (i := 464) (by decide +kernel), by decide +kernel⟩
theorem wm_X3_43 : zW (.methodLink RX3 43 Lib.Math.min.name) := ⟨List.mem_of_getElem? (i := 465) (by decide +kernel), by decide +kernel⟩
theorem wm_X1_62 : zW (.methodLinkNest RX1 62 yX2_become "ModalKeys") := ⟨List.mem_of_getElem? (i := 466) (by decide +kernel), by decide +kernel⟩
theorem wi_X2_become : zW (.instanceMethod yX2_become) := ⟨List.mem_of_getElem? (i := 468) (by decide +kernel), by decide +kernel⟩
theorem wc_X2_become : zW (.code yX2_become cX2_become 2 none) := ⟨List.mem_of_getElem? (i := 469) (by decide +kernel), by decide +kernel⟩
theorem wm_X2_13 : zW (.methodLink RX2 13 arraycopyName) := ⟨List.mem_of_getElem? (i := 470) (by decide +kernel), by decide +kernel⟩
theorem wm_X1_148 : zW (.methodLinkNest RX1 148 yX5_makeRoom "ModalKeys") := ⟨List.mem_of_getElem? (i := 471) (by decide +kernel), by decide +kernel⟩
theorem wi_X5_makeRoom : zW (.instanceMethod yX5_makeRoom) := ⟨List.mem_of_getElem? (i := 473) (by decide +kernel), by decide +kernel⟩
theorem wc_X5_makeRoom : zW (.code yX5_makeRoom cX5_makeRoom 3 none) := ⟨List.mem_of_getElem? (i := 474) (by decide +kernel), by decide +kernel⟩
theorem wm_X5_15 : zW (.methodLink RX5 15 arraycopyName) := ⟨List.mem_of_getElem? (i := 475) (by decide +kernel), by decide +kernel⟩
theorem wm_X1_120 : zW (.methodLinkNest RX1 120 yX0_take "ModalKeys") := ⟨List.mem_of_getElem? (i := 476) (by decide +kernel), by decide +kernel⟩
theorem wi_X0_take : zW (.instanceMethod yX0_take) := ⟨List.mem_of_getElem? (i := 478) (by decide +kernel), by decide +kernel⟩
theorem wc_X0_take : zW (.code yX0_take cX0_take 2 (some Jvm.ClassFile.FieldType.int)) := ⟨List.mem_of_getElem? (i := 479) (by decide +kernel), by decide +kernel⟩
theorem wm_X0_60 : zW (.methodLinkNest RX0 60 yX2_add "ModalKeys") := ⟨List.mem_of_getElem? (i := 480) (by decide +kernel), by decide +kernel⟩
theorem wm_X0_64 : zW (.methodLink RX0 64 yX0_takeVerb) := ⟨List.mem_of_getElem? (i := 481) (by decide +kernel), by decide +kernel⟩
theorem wi_X0_takeVerb : zW (.instanceMethod yX0_takeVerb) := ⟨List.mem_of_getElem? (i := 483) (by decide +kernel), by decide +kernel⟩
theorem wc_X0_takeVerb : zW (.code yX0_takeVerb cX0_takeVerb 2 (some Jvm.ClassFile.FieldType.int)) := ⟨List.mem_of_getElem? (i := 484) (by decide +kernel), by decide +kernel⟩
theorem wm_X0_74 : zW (.methodLink RX0 74 yX0_isFigure) := ⟨List.mem_of_getElem? (i := 485) (by decide +kernel), by decide +kernel⟩
theorem wt_X0_isFigure : zW (.static yX0_isFigure) := ⟨List.mem_of_getElem? (i := 486) (by decide +kernel), by decide +kernel⟩
theorem wc_X0_isFigure : zW (.code yX0_isFigure cX0_isFigure 2 (some Jvm.ClassFile.FieldType.boolean)) := ⟨List.mem_of_getElem? (i := 487) (by decide +kernel), by decide +kernel⟩
theorem wm_X0_78 : zW (.methodLink RX0 78 yX0_withFigure) := ⟨List.mem_of_getElem? (i := 488) (by decide +kernel), by decide +kernel⟩
theorem wt_X0_withFigure : zW (.static yX0_withFigure) := ⟨List.mem_of_getElem? (i := 489) (by decide +kernel), by decide +kernel⟩
theorem wc_X0_withFigure : zW (.code yX0_withFigure cX0_withFigure 2 (some Jvm.ClassFile.FieldType.int)) := ⟨List.mem_of_getElem? (i := 490) (by decide +kernel), by decide +kernel⟩
theorem wm_X0_57 : zW (.methodLink RX0 57 Lib.Math.min.name) := ⟨List.mem_of_getElem? (i := 491) (by decide +kernel), by decide +kernel⟩
theorem wm_X0_81 : zW (.methodLink RX0 81 yX0_waitWith) := ⟨List.mem_of_getElem? (i := 492) (by decide +kernel), by decide +kernel⟩
theorem wi_X0_waitWith : zW (.instanceMethod yX0_waitWith) := ⟨List.mem_of_getElem? (i := 494) (by decide +kernel), by decide +kernel⟩
theorem wc_X0_waitWith : zW (.code yX0_waitWith cX0_waitWith 3 (some Jvm.ClassFile.FieldType.int)) := ⟨List.mem_of_getElem? (i := 495) (by decide +kernel), by decide +kernel⟩
theorem wm_X0_84 : zW (.methodLink RX0 84 yX0_takeMotion) := ⟨List.mem_of_getElem? (i := 496) (by decide +kernel), by decide +kernel⟩
theorem wi_X0_takeMotion : zW (.instanceMethod yX0_takeMotion) := ⟨List.mem_of_getElem? (i := 498) (by decide +kernel), by decide +kernel⟩
theorem wc_X0_takeMotion : zW (.code yX0_takeMotion cX0_takeMotion 2 (some Jvm.ClassFile.FieldType.int)) := ⟨List.mem_of_getElem? (i := 499) (by decide +kernel), by decide +kernel⟩
theorem wm_X0_87 : zW (.methodLink RX0 87 yX0_motionOf) := ⟨List.mem_of_getElem? (i := 500) (by decide +kernel), by decide +kernel⟩
theorem wt_X0_motionOf : zW (.static yX0_motionOf) := ⟨List.mem_of_getElem? (i := 501) (by decide +kernel), by decide +kernel⟩
theorem wc_X0_motionOf : zW (.code yX0_motionOf cX0_motionOf 1 (some Jvm.ClassFile.FieldType.int)) := ⟨List.mem_of_getElem? (i := 502) (by decide +kernel), by decide +kernel⟩
theorem wm_X0_68 : zW (.methodLink RX0 68 yX0_takeReach) := ⟨List.mem_of_getElem? (i := 503) (by decide +kernel), by decide +kernel⟩
theorem wi_X0_takeReach : zW (.instanceMethod yX0_takeReach) := ⟨List.mem_of_getElem? (i := 505) (by decide +kernel), by decide +kernel⟩
theorem wc_X0_takeReach : zW (.code yX0_takeReach cX0_takeReach 2 (some Jvm.ClassFile.FieldType.int)) := ⟨List.mem_of_getElem? (i := 506) (by decide +kernel), by decide +kernel⟩
theorem wm_X0_71 : zW (.methodLink RX0 71 yX0_takeObject) := ⟨List.mem_of_getElem? (i := 507) (by decide +kernel), by decide +kernel⟩
theorem wi_X0_takeObject : zW (.instanceMethod yX0_takeObject) := ⟨List.mem_of_getElem? (i := 509) (by decide +kernel), by decide +kernel⟩
theorem wc_X0_takeObject : zW (.code yX0_takeObject cX0_takeObject 2 (some Jvm.ClassFile.FieldType.int)) := ⟨List.mem_of_getElem? (i := 510) (by decide +kernel), by decide +kernel⟩
theorem wm_X1_52 : zW (.methodLinkNest RX1 52 yX5_become "ModalKeys") := ⟨List.mem_of_getElem? (i := 511) (by decide +kernel), by decide +kernel⟩
theorem wi_X5_become : zW (.instanceMethod yX5_become) := ⟨List.mem_of_getElem? (i := 513) (by decide +kernel), by decide +kernel⟩
theorem wc_X5_become : zW (.code yX5_become cX5_become 2 none) := ⟨List.mem_of_getElem? (i := 514) (by decide +kernel), by decide +kernel⟩
theorem wm_X1_124 : zW (.methodLink RX1 124 yX1_aim) := ⟨List.mem_of_getElem? (i := 515) (by decide +kernel), by decide +kernel⟩
theorem wi_X1_aim : zW (.instanceMethod yX1_aim) := ⟨List.mem_of_getElem? (i := 517) (by decide +kernel), by decide +kernel⟩
theorem wc_X1_aim : zW (.code yX1_aim cX1_aim 1 (some Jvm.ClassFile.FieldType.boolean)) := ⟨List.mem_of_getElem? (i := 518) (by decide +kernel), by decide +kernel⟩
theorem wm_X1_127 : zW (.methodLinkNest RX1 127 yX0_times "ModalKeys") := ⟨List.mem_of_getElem? (i := 519) (by decide +kernel), by decide +kernel⟩
theorem wi_X0_times : zW (.instanceMethod yX0_times) := ⟨List.mem_of_getElem? (i := 521) (by decide +kernel), by decide +kernel⟩
theorem wc_X0_times : zW (.code yX0_times cX0_times 1 (some Jvm.ClassFile.FieldType.int)) := ⟨List.mem_of_getElem? (i := 522) (by decide +kernel), by decide +kernel⟩
theorem wm_X0_51 : zW (.methodLink RX0 51 Lib.Math.max.name) := ⟨List.mem_of_getElem? (i := 523) (by decide +kernel), by decide +kernel⟩
theorem wm_X1_164 : zW (.methodLink RX1 164 yX1_aimByMotion) := ⟨List.mem_of_getElem? (i := 524) (by decide +kernel), by decide +kernel⟩
theorem wi_X1_aimByMotion : zW (.instanceMethod yX1_aimByMotion) := ⟨List.mem_of_getElem? (i := 526) (by decide +kernel), by decide +kernel⟩
theorem wc_X1_aimByMotion : zW (.code yX1_aimByMotion cX1_aimByMotion 6 (some Jvm.ClassFile.FieldType.boolean)) := ⟨List.mem_of_getElem? (i := 527) (by decide +kernel), by decide +kernel⟩
theorem wm_X1_184 : zW (.methodLinkNest RX1 184 yX5_standing "ModalKeys") := ⟨List.mem_of_getElem? (i := 528) (by decide +kernel), by decide +kernel⟩
theorem wi_X5_standing : zW (.instanceMethod yX5_standing) := ⟨List.mem_of_getElem? (i := 530) (by decide +kernel), by decide +kernel⟩
theorem wc_X5_standing : zW (.code yX5_standing cX5_standing 1 (some Jvm.ClassFile.FieldType.int)) := ⟨List.mem_of_getElem? (i := 531) (by decide +kernel), by decide +kernel⟩
theorem wm_X5_32 : zW (.methodLink RX5 32 yX5_last) := ⟨List.mem_of_getElem? (i := 532) (by decide +kernel), by decide +kernel⟩
theorem wi_X5_last : zW (.instanceMethod yX5_last) := ⟨List.mem_of_getElem? (i := 534) (by decide +kernel), by decide +kernel⟩
theorem wc_X5_last : zW (.code yX5_last cX5_last 1 (some Jvm.ClassFile.FieldType.int)) := ⟨List.mem_of_getElem? (i := 535) (by decide +kernel), by decide +kernel⟩
theorem wm_X5_36 : zW (.methodLink RX5 36 Lib.Math.min.name) := ⟨List.mem_of_getElem? (i := 536) (by decide +kernel), by decide +kernel⟩
theorem wm_X1_190 : zW (.methodLink RX1 190 yX1_placeOfMark) := ⟨List.mem_of_getElem? (i := 537) (by decide +kernel), by decide +kernel⟩
theorem wi_X1_placeOfMark : zW (.instanceMethod yX1_placeOfMark) := ⟨List.mem_of_getElem? (i := 539) (by decide +kernel), by decide +kernel⟩
theorem wc_X1_placeOfMark : zW (.code yX1_placeOfMark cX1_placeOfMark 3 (some Jvm.ClassFile.FieldType.int)) := ⟨List.mem_of_getElem? (i := 540) (by decide +kernel), by decide +kernel⟩
theorem wm_X1_200 : zW (.methodLink RX1 200 Lib.Math.min.name) := ⟨List.mem_of_getElem? (i := 541) (by decide +kernel), by decide +kernel⟩
theorem wm_X1_193 : zW (.methodLinkNest RX1 193 yX5_findBehind "ModalKeys") := ⟨List.mem_of_getElem? (i := 542) (by decide +kernel), by decide +kernel⟩
theorem wi_X5_findBehind : zW (.instanceMethod yX5_findBehind) := ⟨List.mem_of_getElem? (i := 544) (by decide +kernel), by decide +kernel⟩
theorem wc_X5_findBehind : zW (.code yX5_findBehind cX5_findBehind 6 (some Jvm.ClassFile.FieldType.int)) := ⟨List.mem_of_getElem? (i := 545) (by decide +kernel), by decide +kernel⟩
theorem wm_X1_197 : zW (.methodLinkNest RX1 197 yX5_lead "ModalKeys") := ⟨List.mem_of_getElem? (i := 546) (by decide +kernel), by decide +kernel⟩
theorem wi_X5_lead : zW (.instanceMethod yX5_lead) := ⟨List.mem_of_getElem? (i := 548) (by decide +kernel), by decide +kernel⟩
theorem wc_X5_lead : zW (.code yX5_lead cX5_lead 4 (some Jvm.ClassFile.FieldType.int)) := ⟨List.mem_of_getElem? (i := 549) (by decide +kernel), by decide +kernel⟩
theorem wm_X5_46 : zW (.methodLink RX5 46 Lib.Math.max.name) := ⟨List.mem_of_getElem? (i := 550) (by decide +kernel), by decide +kernel⟩
theorem wm_X5_49 : zW (.methodLink RX5 49 yX5_behindKind) := ⟨List.mem_of_getElem? (i := 551) (by decide +kernel), by decide +kernel⟩
theorem wi_X5_behindKind : zW (.instanceMethod yX5_behindKind) := ⟨List.mem_of_getElem? (i := 553) (by decide +kernel), by decide +kernel⟩
theorem wc_X5_behindKind : zW (.code yX5_behindKind cX5_behindKind 4 (some Jvm.ClassFile.FieldType.int)) := ⟨List.mem_of_getElem? (i := 554) (by decide +kernel), by decide +kernel⟩
theorem wm_X5_52 : zW (.methodLink RX5 52 yX5_beginOfKind) := ⟨List.mem_of_getElem? (i := 555) (by decide +kernel), by decide +kernel⟩
theorem wi_X5_beginOfKind : zW (.instanceMethod yX5_beginOfKind) := ⟨List.mem_of_getElem? (i := 557) (by decide +kernel), by decide +kernel⟩
theorem wc_X5_beginOfKind : zW (.code yX5_beginOfKind cX5_beginOfKind 4 (some Jvm.ClassFile.FieldType.int)) := ⟨List.mem_of_getElem? (i := 558) (by decide +kernel), by decide +kernel⟩
theorem wm_X1_203 : zW (.methodLink RX1 203 yX1_takesPlace) := ⟨List.mem_of_getElem? (i := 559) (by decide +kernel), by decide +kernel⟩
theorem wt_X1_takesPlace : zW (.static yX1_takesPlace) := ⟨List.mem_of_getElem? (i := 560) (by decide +kernel), by decide +kernel⟩
theorem wc_X1_takesPlace : zW (.code yX1_takesPlace cX1_takesPlace 1 (some Jvm.ClassFile.FieldType.boolean)) := ⟨List.mem_of_getElem? (i := 561) (by decide +kernel), by decide +kernel⟩
theorem wm_X1_168 : zW (.methodLink RX1 168 yX1_aimByWord) := ⟨List.mem_of_getElem? (i := 562) (by decide +kernel), by decide +kernel⟩
theorem wi_X1_aimByWord : zW (.instanceMethod yX1_aimByWord) := ⟨List.mem_of_getElem? (i := 564) (by decide +kernel), by decide +kernel⟩
theorem wc_X1_aimByWord : zW (.code yX1_aimByWord cX1_aimByWord 2 (some Jvm.ClassFile.FieldType.boolean)) := ⟨List.mem_of_getElem? (i := 565) (by decide +kernel), by decide +kernel⟩
theorem wm_X1_206 : zW (.methodLinkNest RX1 206 yX5_kindAt "ModalKeys") := ⟨List.mem_of_getElem? (i := 566) (by decide +kernel), by decide +kernel⟩
theorem wm_X1_209 : zW (.methodLinkNest RX1 209 yX5_beginOfKind "ModalKeys") := ⟨List.mem_of_getElem? (i := 567) (by decide +kernel), by decide +kernel⟩
theorem wm_X1_212 : zW (.methodLinkNest RX1 212 yX5_behindKind "ModalKeys") := ⟨List.mem_of_getElem? (i := 568) (by decide +kernel), by decide +kernel⟩
theorem wm_X1_171 : zW (.methodLink RX1 171 yX1_aimByBrackets) := ⟨List.mem_of_getElem? (i := 569) (by decide +kernel), by decide +kernel⟩
theorem wi_X1_aimByBrackets : zW (.instanceMethod yX1_aimByBrackets) := ⟨List.mem_of_getElem? (i := 571) (by decide +kernel), by decide +kernel⟩
theorem wc_X1_aimByBrackets : zW (.code yX1_aimByBrackets cX1_aimByBrackets 3 (some Jvm.ClassFile.FieldType.boolean)) := ⟨List.mem_of_getElem? (i := 572) (by decide +kernel), by decide +kernel⟩
theorem wm_X1_218 : zW (.methodLinkNest RX1 218 yX5_openingRound "ModalKeys") := ⟨List.mem_of_getElem? (i := 573) (by decide +kernel), by decide +kernel⟩
theorem wi_X5_openingRound : zW (.instanceMethod yX5_openingRound) := ⟨List.mem_of_getElem? (i := 575) (by decide +kernel), by decide +kernel⟩
theorem wc_X5_openingRound : zW (.code yX5_openingRound cX5_openingRound 4 (some Jvm.ClassFile.FieldType.int)) := ⟨List.mem_of_getElem? (i := 576) (by decide +kernel), by decide +kernel⟩
theorem wm_X5_58 : zW (.methodLink RX5 58 yX5_at) := ⟨List.mem_of_getElem? (i := 577) (by decide +kernel), by decide +kernel⟩
theorem wm_X1_221 : zW (.methodLinkNest RX1 221 yX5_closingOf "ModalKeys") := ⟨List.mem_of_getElem? (i := 578) (by decide +kernel), by decide +kernel⟩
theorem wi_X5_closingOf : zW (.instanceMethod yX5_closingOf) := ⟨List.mem_of_getElem? (i := 580) (by decide +kernel), by decide +kernel⟩
theorem wc_X5_closingOf : zW (.code yX5_closingOf cX5_closingOf 4 (some Jvm.ClassFile.FieldType.int)) := ⟨List.mem_of_getElem? (i := 581) (by decide +kernel), by decide +kernel⟩
theorem wm_X1_174 : zW (.methodLink RX1 174 yX1_aimByLetters) := ⟨List.mem_of_getElem? (i := 582) (by decide +kernel), by decide +kernel⟩
theorem wi_X1_aimByLetters : zW (.instanceMethod yX1_aimByLetters) := ⟨List.mem_of_getElem? (i := 584) (by decide +kernel), by decide +kernel⟩
theorem wc_X1_aimByLetters : zW (.code yX1_aimByLetters cX1_aimByLetters 2 (some Jvm.ClassFile.FieldType.boolean)) := ⟨List.mem_of_getElem? (i := 585) (by decide +kernel), by decide +kernel⟩
theorem wm_X1_131 : zW (.methodLink RX1 131 yX1_perform) := ⟨List.mem_of_getElem? (i := 586) (by decide +kernel), by decide +kernel⟩
theorem wi_X1_perform : zW (.instanceMethod yX1_perform) := ⟨List.mem_of_getElem? (i := 588) (by decide +kernel), by decide +kernel⟩
theorem wc_X1_perform : zW (.code yX1_perform cX1_perform 2 (some Jvm.ClassFile.FieldType.int)) := ⟨List.mem_of_getElem? (i := 589) (by decide +kernel), by decide +kernel⟩
theorem wm_X1_227 : zW (.methodLinkNest RX1 227 yX5_goTo "ModalKeys") := ⟨List.mem_of_getElem? (i := 590) (by decide +kernel), by decide +kernel⟩
theorem wi_X5_goTo : zW (.instanceMethod yX5_goTo) := ⟨List.mem_of_getElem? (i := 592) (by decide +kernel), by decide +kernel⟩
theorem wc_X5_goTo : zW (.code yX5_goTo cX5_goTo 2 none) := ⟨List.mem_of_getElem? (i := 593) (by decide +kernel), by decide +kernel⟩
theorem wm_X1_230 : zW (.methodLink RX1 230 yX1_cutRange) := ⟨List.mem_of_getElem? (i := 594) (by decide +kernel), by decide +kernel⟩
theorem wi_X1_cutRange : zW (.instanceMethod yX1_cutRange) := ⟨List.mem_of_getElem? (i := 596) (by decide +kernel), by decide +kernel⟩
theorem wc_X1_cutRange : zW (.code yX1_cutRange cX1_cutRange 2 (some Jvm.ClassFile.FieldType.int)) := ⟨List.mem_of_getElem? (i := 597) (by decide +kernel), by decide +kernel⟩
theorem wm_X1_233 : zW (.methodLink RX1 233 yX1_storeRange) := ⟨List.mem_of_getElem? (i := 598) (by decide +kernel), by decide +kernel⟩
theorem wi_X1_storeRange : zW (.instanceMethod yX1_storeRange) := ⟨List.mem_of_getElem? (i := 600) (by decide +kernel), by decide +kernel⟩
theorem wc_X1_storeRange : zW (.code yX1_storeRange cX1_storeRange 1 none) := ⟨List.mem_of_getElem? (i := 601) (by decide +kernel), by decide +kernel⟩
theorem wm_X1_255 : zW (.methodLinkNest RX1 255 yX5_takeOut "ModalKeys") := ⟨List.mem_of_getElem? (i := 602) (by decide +kernel), by decide +kernel⟩
theorem wi_X5_takeOut : zW (.instanceMethod yX5_takeOut) := ⟨List.mem_of_getElem? (i := 604) (by decide +kernel), by decide +kernel⟩
theorem wc_X5_takeOut : zW (.code yX5_takeOut cX5_takeOut 3 none) := ⟨List.mem_of_getElem? (i := 605) (by decide +kernel), by decide +kernel⟩
theorem wm_X1_236 : zW (.methodLink RX1 236 yX1_typeAt) := ⟨List.mem_of_getElem? (i := 606) (by decide +kernel), by decide +kernel⟩
theorem wi_X1_typeAt : zW (.instanceMethod yX1_typeAt) := ⟨List.mem_of_getElem? (i := 608) (by decide +kernel), by decide +kernel⟩
theorem wc_X1_typeAt : zW (.code yX1_typeAt cX1_typeAt 2 (some Jvm.ClassFile.FieldType.int)) := ⟨List.mem_of_getElem? (i := 609) (by decide +kernel), by decide +kernel⟩
theorem wm_X1_239 : zW (.methodLink RX1 239 yX1_overwrite) := ⟨List.mem_of_getElem? (i := 610) (by decide +kernel), by decide +kernel⟩
theorem wi_X1_overwrite : zW (.instanceMethod yX1_overwrite) := ⟨List.mem_of_getElem? (i := 612) (by decide +kernel), by decide +kernel⟩
theorem wc_X1_overwrite : zW (.code yX1_overwrite cX1_overwrite 4 (some Jvm.ClassFile.FieldType.int)) := ⟨List.mem_of_getElem? (i := 613) (by decide +kernel), by decide +kernel⟩
theorem wm_X1_242 : zW (.methodLink RX1 242 yX1_swapCases) := ⟨List.mem_of_getElem? (i := 614) (by decide +kernel), by decide +kernel⟩
theorem wi_X1_swapCases : zW (.instanceMethod yX1_swapCases) := ⟨List.mem_of_getElem? (i := 616) (by decide +kernel), by decide +kernel⟩
theorem wc_X1_swapCases : zW (.code yX1_swapCases cX1_swapCases 4 (some Jvm.ClassFile.FieldType.int)) := ⟨List.mem_of_getElem? (i := 617) (by decide +kernel), by decide +kernel⟩
theorem wm_X1_258 : zW (.methodLinkNest RX1 258 yX5_swapCase "ModalKeys") := ⟨List.mem_of_getElem? (i := 618) (by decide +kernel), by decide +kernel⟩
theorem wi_X5_swapCase : zW (.instanceMethod yX5_swapCase) := ⟨List.mem_of_getElem? (i := 620) (by decide +kernel), by decide +kernel⟩
theorem wc_X5_swapCase : zW (.code yX5_swapCase cX5_swapCase 3 none) := ⟨List.mem_of_getElem? (i := 621) (by decide +kernel), by decide +kernel⟩
theorem wm_X1_245 : zW (.methodLink RX1 245 yX1_putIn) := ⟨List.mem_of_getElem? (i := 622) (by decide +kernel), by decide +kernel⟩
theorem wi_X1_putIn : zW (.instanceMethod yX1_putIn) := ⟨List.mem_of_getElem? (i := 624) (by decide +kernel), by decide +kernel⟩
theorem wc_X1_putIn : zW (.code yX1_putIn cX1_putIn 5 (some Jvm.ClassFile.FieldType.int)) := ⟨List.mem_of_getElem? (i := 625) (by decide +kernel), by decide +kernel⟩
theorem wm_X1_248 : zW (.methodLinkNest RX1 248 yX3_bringBack "ModalKeys") := ⟨List.mem_of_getElem? (i := 626) (by decide +kernel), by decide +kernel⟩
theorem wi_X3_bringBack : zW (.instanceMethod yX3_bringBack) := ⟨List.mem_of_getElem? (i := 628) (by decide +kernel), by decide +kernel⟩
theorem wc_X3_bringBack : zW (.code yX3_bringBack cX3_bringBack 4 (some Jvm.ClassFile.FieldType.boolean)) := ⟨List.mem_of_getElem? (i := 629) (by decide +kernel), by decide +kernel⟩
theorem wm_X3_49 : zW (.methodLink RX3 49 yJ9_floorMod_7cf53) := ⟨List.mem_of_getElem? (i := 630) (by decide +kernel), by decide +kernel⟩
theorem wt_J9_floorMod_7cf53 : zW (.static yJ9_floorMod_7cf53) := ⟨List.mem_of_getElem? (i := 631) (by decide +kernel), by decide +kernel⟩
theorem wc_J9_floorMod_7cf53 : zW (.code yJ9_floorMod_7cf53 cJ9_floorMod_7cf53 3 (some Jvm.ClassFile.FieldType.int)) := ⟨List.mem_of_getElem? (i := 632) (by decide +kernel), by decide +kernel⟩
theorem wm_X1_252 : zW (.methodLink RX1 252 yX1_setMark) := ⟨List.mem_of_getElem? (i := 633) (by decide +kernel), by decide +kernel⟩
theorem wi_X1_setMark : zW (.instanceMethod yX1_setMark) := ⟨List.mem_of_getElem? (i := 635) (by decide +kernel), by decide +kernel⟩
theorem wc_X1_setMark : zW (.code yX1_setMark cX1_setMark 2 (some Jvm.ClassFile.FieldType.int)) := ⟨List.mem_of_getElem? (i := 636) (by decide +kernel), by decide +kernel⟩
theorem wm_X1_111 : zW (.methodLinkNest RX1 111 yX2_canBeRepeated "ModalKeys") := ⟨List.mem_of_getElem? (i := 637) (by decide +kernel), by decide +kernel⟩
theorem wi_X2_canBeRepeated : zW (.instanceMethod yX2_canBeRepeated) := ⟨List.mem_of_getElem? (i := 639) (by decide +kernel), by decide +kernel⟩
theorem wc_X2_canBeRepeated : zW (.code yX2_canBeRepeated cX2_canBeRepeated 1 (some Jvm.ClassFile.FieldType.boolean)) := ⟨List.mem_of_getElem? (i := 640) (by decide +kernel), by decide +kernel⟩
theorem wm_L_43 : zW (.methodLink RL 43 yX7_price) := ⟨List.mem_of_getElem? (i := 641) (by decide +kernel), by decide +kernel⟩
theorem wi_X7_price : zW (.instanceMethod yX7_price) := ⟨List.mem_of_getElem? (i := 642) (by decide +kernel), by decide +kernel⟩
theorem ws_X7_price : zW (.selects RX7 yX7_price yX7_price) := ⟨List.mem_of_getElem? (i := 643) (by decide +kernel), by decide +kernel⟩
theorem wc_X7_price : zW (.code yX7_price cX7_price 4 (some Jvm.ClassFile.FieldType.int)) := ⟨List.mem_of_getElem? (i := 644) (by decide +kernel), by decide +kernel⟩
theorem wm_X7_111 : zW (.methodLink RX7 111 yX7_isMotion) := ⟨List.mem_of_getElem? (i := 645) (by decide +kernel), by decide +kernel⟩
theorem wt_X7_isMotion : zW (.static yX7_isMotion) := ⟨List.mem_of_getElem? (i := 646) (by decide +kernel), by decide +kernel⟩
theorem wc_X7_isMotion : zW (.code yX7_isMotion cX7_isMotion 1 (some Jvm.ClassFile.FieldType.boolean)) := ⟨List.mem_of_getElem? (i := 647) (by decide +kernel), by decide +kernel⟩
theorem wm_L_48 : zW (.methodLink RL 48 yX7_leads) := ⟨List.mem_of_getElem? (i := 648) (by decide +kernel), by decide +kernel⟩
theorem wi_X7_leads : zW (.instanceMethod yX7_leads) := ⟨List.mem_of_getElem? (i := 649) (by decide +kernel), by decide +kernel⟩
theorem ws_X7_leads : zW (.selects RX7 yX7_leads yX7_leads) := ⟨List.mem_of_getElem? (i := 650) (by decide +kernel), by decide +kernel⟩
theorem wc_X7_leads : zW (.code yX7_leads cX7_leads 3 (some Jvm.ClassFile.FieldType.int)) := ⟨List.mem_of_getElem? (i := 651) (by decide +kernel), by decide +kernel⟩
theorem wm_X7_117 : zW (.methodLinkNest RX7 117 yX5_lead "ModalKeys") := ⟨List.mem_of_getElem? (i := 652) (by decide +kernel), by decide +kernel⟩
theorem wm_L_52 : zW (.methodLink RL 52 yX7_steps) := ⟨List.mem_of_getElem? (i := 653) (by decide +kernel), by decide +kernel⟩
theorem wi_X7_steps : zW (.instanceMethod yX7_steps) := ⟨List.mem_of_getElem? (i := 654) (by decide +kernel), by decide +kernel⟩
theorem ws_X7_steps : zW (.selects RX7 yX7_steps yX7_steps) := ⟨List.mem_of_getElem? (i := 655) (by decide +kernel), by decide +kernel⟩
theorem wc_X7_steps : zW (.code yX7_steps cX7_steps 3 (some Jvm.ClassFile.FieldType.int)) := ⟨List.mem_of_getElem? (i := 656) (by decide +kernel), by decide +kernel⟩
theorem wm_X7_121 : zW (.methodLinkNest RX7 121 yX5_canStand "ModalKeys") := ⟨List.mem_of_getElem? (i := 657) (by decide +kernel), by decide +kernel⟩
theorem wi_X5_canStand : zW (.instanceMethod yX5_canStand) := ⟨List.mem_of_getElem? (i := 659) (by decide +kernel), by decide +kernel⟩
theorem wc_X5_canStand : zW (.code yX5_canStand cX5_canStand 2 (some Jvm.ClassFile.FieldType.boolean)) := ⟨List.mem_of_getElem? (i := 660) (by decide +kernel), by decide +kernel⟩
theorem wm_X7_124 : zW (.methodLinkNest RX7 124 yX6_survey "ModalKeys") := ⟨List.mem_of_getElem? (i := 661) (by decide +kernel), by decide +kernel⟩
theorem wi_X6_survey : zW (.instanceMethod yX6_survey) := ⟨List.mem_of_getElem? (i := 663) (by decide +kernel), by decide +kernel⟩
theorem wc_X6_survey : zW (.code yX6_survey cX6_survey 4 none) := ⟨List.mem_of_getElem? (i := 664) (by decide +kernel), by decide +kernel⟩
theorem wm_X6_26 : zW (.methodLinkNest RX6 26 yX5_last "ModalKeys") := ⟨List.mem_of_getElem? (i := 665) (by decide +kernel), by decide +kernel⟩
theorem wm_X6_36 : zW (.methodLinkNest RX6 36 yX5_deed "ModalKeys") := ⟨List.mem_of_getElem? (i := 666) (by decide +kernel), by decide +kernel⟩
theorem wi_X5_deed : zW (.instanceMethod yX5_deed) := ⟨List.mem_of_getElem? (i := 668) (by decide +kernel), by decide +kernel⟩
theorem wc_X5_deed : zW (.code yX5_deed cX5_deed 3 (some Jvm.ClassFile.FieldType.int)) := ⟨List.mem_of_getElem? (i := 669) (by decide +kernel), by decide +kernel⟩
theorem wm_X5_55 : zW (.methodLink RX5 55 yX5_lead) := ⟨List.mem_of_getElem? (i := 670) (by decide +kernel), by decide +kernel⟩
theorem wm_X7_128 : zW (.methodLinkNest RX7 128 yX6_reckon "ModalKeys") := ⟨List.mem_of_getElem? (i := 671) (by decide +kernel), by decide +kernel⟩
theorem wi_X6_reckon : zW (.instanceMethod yX6_reckon) := ⟨List.mem_of_getElem? (i := 673) (by decide +kernel), by decide +kernel⟩
theorem wc_X6_reckon : zW (.code yX6_reckon cX6_reckon 11 none) := ⟨List.mem_of_getElem? (i := 674) (by decide +kernel), by decide +kernel⟩
theorem wk_X6_40 : zW (.constant RX6 40 (iI 1000000)) := ⟨List.mem_of_getElem? (i := 675) (by decide +kernel), by decide +kernel⟩
theorem wm_X6_41 : zW (.methodLink RX6 41 yJ7_fill_53178) := ⟨List.mem_of_getElem? (i := 676) (by decide +kernel), by decide +kernel⟩
theorem wm_X7_135 : zW (.methodLinkNest RX7 135 yX5_standing "ModalKeys") := ⟨List.mem_of_getElem? (i := 677) (by decide +kernel), by decide +kernel⟩
theorem wm_X7_138 : zW (.methodLinkNest RX7 138 yX6_stepOf "ModalKeys") := ⟨List.mem_of_getElem? (i := 678) (by decide +kernel), by decide +kernel⟩
theorem wi_X6_stepOf : zW (.instanceMethod yX6_stepOf) := ⟨List.mem_of_getElem? (i := 680) (by decide +kernel), by decide +kernel⟩
theorem wc_X6_stepOf : zW (.code yX6_stepOf cX6_stepOf 8 (some Jvm.ClassFile.FieldType.int)) := ⟨List.mem_of_getElem? (i := 681) (by decide +kernel), by decide +kernel⟩
theorem wm_X6_47 : zW (.methodLink RX6 47 yX6_firstOnWay) := ⟨List.mem_of_getElem? (i := 682) (by decide +kernel), by decide +kernel⟩
theorem wi_X6_firstOnWay : zW (.instanceMethod yX6_firstOnWay) := ⟨List.mem_of_getElem? (i := 684) (by decide +kernel), by decide +kernel⟩
theorem wc_X6_firstOnWay : zW (.code yX6_firstOnWay cX6_firstOnWay 4 (some Jvm.ClassFile.FieldType.int)) := ⟨List.mem_of_getElem? (i := 685) (by decide +kernel), by decide +kernel⟩
theorem wm_L_56 : zW (.methodLink RL 56 yX7_farthest) := ⟨List.mem_of_getElem? (i := 686) (by decide +kernel), by decide +kernel⟩
theorem wi_X7_farthest : zW (.instanceMethod yX7_farthest) := ⟨List.mem_of_getElem? (i := 687) (by decide +kernel), by decide +kernel⟩
theorem ws_X7_farthest : zW (.selects RX7 yX7_farthest yX7_farthest) := ⟨List.mem_of_getElem? (i := 688) (by decide +kernel), by decide +kernel⟩
theorem wc_X7_farthest : zW (.code yX7_farthest cX7_farthest 3 (some Jvm.ClassFile.FieldType.int)) := ⟨List.mem_of_getElem? (i := 689) (by decide +kernel), by decide +kernel⟩
theorem wm_X7_142 : zW (.methodLinkNest RX7 142 yX6_dearest "ModalKeys") := ⟨List.mem_of_getElem? (i := 690) (by decide +kernel), by decide +kernel⟩
theorem wi_X6_dearest : zW (.instanceMethod yX6_dearest) := ⟨List.mem_of_getElem? (i := 692) (by decide +kernel), by decide +kernel⟩
theorem wc_X6_dearest : zW (.code yX6_dearest cX6_dearest 3 (some Jvm.ClassFile.FieldType.int)) := ⟨List.mem_of_getElem? (i := 693) (by decide +kernel), by decide +kernel⟩
theorem wm_L_60 : zW (.methodLink RL 60 yX7_once) := ⟨List.mem_of_getElem? (i := 694) (by decide +kernel), by decide +kernel⟩
theorem wi_X7_once : zW (.instanceMethod yX7_once) := ⟨List.mem_of_getElem? (i := 695) (by decide +kernel), by decide +kernel⟩
theorem ws_X7_once : zW (.selects RX7 yX7_once yX7_once) := ⟨List.mem_of_getElem? (i := 696) (by decide +kernel), by decide +kernel⟩
theorem wc_X7_once : zW (.code yX7_once cX7_once 4 (some Jvm.ClassFile.FieldType.int)) := ⟨List.mem_of_getElem? (i := 697) (by decide +kernel), by decide +kernel⟩
theorem wm_X7_145 : zW (.methodLinkNest RX7 145 yX5_deed "ModalKeys") := ⟨List.mem_of_getElem? (i := 698) (by decide +kernel), by decide +kernel⟩
theorem wm_L_64 : zW (.methodLink RL 64 yX7_goes) := ⟨List.mem_of_getElem? (i := 699) (by decide +kernel), by decide +kernel⟩
theorem wi_X7_goes : zW (.instanceMethod yX7_goes) := ⟨List.mem_of_getElem? (i := 700) (by decide +kernel), by decide +kernel⟩
theorem ws_X7_goes : zW (.selects RX7 yX7_goes yX7_goes) := ⟨List.mem_of_getElem? (i := 701) (by decide +kernel), by decide +kernel⟩
theorem wc_X7_goes : zW (.code yX7_goes cX7_goes 3 (some Jvm.ClassFile.FieldType.int)) := ⟨List.mem_of_getElem? (i := 702) (by decide +kernel), by decide +kernel⟩
theorem wm_X7_148 : zW (.methodLinkNest RX7 148 yX1_aimByMotion "ModalKeys") := ⟨List.mem_of_getElem? (i := 703) (by decide +kernel), by decide +kernel⟩
theorem wm_L_68 : zW (.methodLink RL 68 yX7_struck) := ⟨List.mem_of_getElem? (i := 704) (by decide +kernel), by decide +kernel⟩
theorem wi_X7_struck : zW (.instanceMethod yX7_struck) := ⟨List.mem_of_getElem? (i := 705) (by decide +kernel), by decide +kernel⟩
theorem ws_X7_struck : zW (.selects RX7 yX7_struck yX7_struck) := ⟨List.mem_of_getElem? (i := 706) (by decide +kernel), by decide +kernel⟩
theorem wc_X7_struck : zW (.code yX7_struck cX7_struck 8 (some Jvm.ClassFile.FieldType.int)) := ⟨List.mem_of_getElem? (i := 707) (by decide +kernel), by decide +kernel⟩
theorem wm_X7_158 : zW (.methodLinkNest RX7 158 yX6_rowsTo "ModalKeys") := ⟨List.mem_of_getElem? (i := 708) (by decide +kernel), by decide +kernel⟩
theorem wi_X6_rowsTo : zW (.instanceMethod yX6_rowsTo) := ⟨List.mem_of_getElem? (i := 710) (by decide +kernel), by decide +kernel⟩
theorem wc_X6_rowsTo : zW (.code yX6_rowsTo cX6_rowsTo 7 (some Jvm.ClassFile.FieldType.int)) := ⟨List.mem_of_getElem? (i := 711) (by decide +kernel), by decide +kernel⟩
theorem wm_X6_51 : zW (.methodLink RX6 51 arraycopyName) := ⟨List.mem_of_getElem? (i := 712) (by decide +kernel), by decide +kernel⟩
theorem wm_L_73 : zW (.methodLink RL 73 yX7_image) := ⟨List.mem_of_getElem? (i := 713) (by decide +kernel), by decide +kernel⟩
theorem wi_X7_image : zW (.instanceMethod yX7_image) := ⟨List.mem_of_getElem? (i := 714) (by decide +kernel), by decide +kernel⟩
theorem ws_X7_image : zW (.selects RX7 yX7_image yX7_image) := ⟨List.mem_of_getElem? (i := 715) (by decide +kernel), by decide +kernel⟩
theorem wc_X7_image : zW (.code yX7_image cX7_image 1 (some Jvm.ClassFile.FieldType.int)) := ⟨List.mem_of_getElem? (i := 716) (by decide +kernel), by decide +kernel⟩
theorem wm_X7_162 : zW (.methodLinkNest RX7 162 yX1_become "ModalKeys") := ⟨List.mem_of_getElem? (i := 717) (by decide +kernel), by decide +kernel⟩
theorem wi_X1_become : zW (.instanceMethod yX1_become) := ⟨List.mem_of_getElem? (i := 719) (by decide +kernel), by decide +kernel⟩
theorem wc_X1_become : zW (.code yX1_become cX1_become 2 none) := ⟨List.mem_of_getElem? (i := 720) (by decide +kernel), by decide +kernel⟩
theorem wm_X1_56 : zW (.methodLinkNest RX1 56 yX3_become "ModalKeys") := ⟨List.mem_of_getElem? (i := 721) (by decide +kernel), by decide +kernel⟩
theorem wi_X3_become : zW (.instanceMethod yX3_become) := ⟨List.mem_of_getElem? (i := 723) (by decide +kernel), by decide +kernel⟩
theorem wc_X3_become : zW (.code yX3_become cX3_become 2 none) := ⟨List.mem_of_getElem? (i := 724) (by decide +kernel), by decide +kernel⟩
theorem wm_X1_59 : zW (.methodLinkNest RX1 59 yX0_become "ModalKeys") := ⟨List.mem_of_getElem? (i := 725) (by decide +kernel), by decide +kernel⟩
theorem wi_X0_become : zW (.instanceMethod yX0_become) := ⟨List.mem_of_getElem? (i := 727) (by decide +kernel), by decide +kernel⟩
theorem wc_X0_become : zW (.code yX0_become cX0_become 2 none) := ⟨List.mem_of_getElem? (i := 728) (by decide +kernel), by decide +kernel⟩
theorem wm_X0_47 : zW (.methodLinkNest RX0 47 yX2_become "ModalKeys") := ⟨List.mem_of_getElem? (i := 729) (by decide +kernel), by decide +kernel⟩
theorem wm_L_77 : zW (.methodLink RL 77 yX7_restore) := ⟨List.mem_of_getElem? (i := 730) (by decide +kernel), by decide +kernel⟩
theorem wi_X7_restore : zW (.instanceMethod yX7_restore) := ⟨List.mem_of_getElem? (i := 731) (by decide +kernel), by decide +kernel⟩
theorem ws_X7_restore : zW (.selects RX7 yX7_restore yX7_restore) := ⟨List.mem_of_getElem? (i := 732) (by decide +kernel), by decide +kernel⟩
theorem wc_X7_restore : zW (.code yX7_restore cX7_restore 1 (some Jvm.ClassFile.FieldType.int)) := ⟨List.mem_of_getElem? (i := 733) (by decide +kernel), by decide +kernel⟩
theorem wm_L_81 : zW (.methodLink RL 81 yX7_play) := ⟨List.mem_of_getElem? (i := 734) (by decide +kernel), by decide +kernel⟩
theorem wi_X7_play : zW (.instanceMethod yX7_play) := ⟨List.mem_of_getElem? (i := 735) (by decide +kernel), by decide +kernel⟩
theorem ws_X7_play : zW (.selects RX7 yX7_play yX7_play) := ⟨List.mem_of_getElem? (i := 736) (by decide +kernel), by decide +kernel⟩
theorem wc_X7_play : zW (.code yX7_play cX7_play 9 (some Jvm.ClassFile.FieldType.int)) := ⟨List.mem_of_getElem? (i := 737) (by decide +kernel), by decide +kernel⟩
theorem wm_X7_169 : zW (.methodLink RX7 169 yX7_sheetAt) := ⟨List.mem_of_getElem? (i := 738) (by decide +kernel), by decide +kernel⟩
theorem wi_X7_sheetAt : zW (.instanceMethod yX7_sheetAt) := ⟨List.mem_of_getElem? (i := 740) (by decide +kernel), by decide +kernel⟩
theorem wc_X7_sheetAt : zW (.code yX7_sheetAt cX7_sheetAt 2 (some (Jvm.ClassFile.FieldType.object "ModalKeys$Sheet"))) := ⟨List.mem_of_getElem? (i := 741) (by decide +kernel), by decide +kernel⟩
theorem wm_X7_173 : zW (.methodLink RX7 173 yX7_isLane) := ⟨List.mem_of_getElem? (i := 742) (by decide +kernel), by decide +kernel⟩
theorem wt_X7_isLane : zW (.static yX7_isLane) := ⟨List.mem_of_getElem? (i := 743) (by decide +kernel), by decide +kernel⟩
theorem wc_X7_isLane : zW (.code yX7_isLane cX7_isLane 1 (some Jvm.ClassFile.FieldType.boolean)) := ⟨List.mem_of_getElem? (i := 744) (by decide +kernel), by decide +kernel⟩
theorem wm_X7_176 : zW (.methodLink RX7 176 yX7_isPortion) := ⟨List.mem_of_getElem? (i := 745) (by decide +kernel), by decide +kernel⟩
theorem wt_X7_isPortion : zW (.static yX7_isPortion) := ⟨List.mem_of_getElem? (i := 746) (by decide +kernel), by decide +kernel⟩
theorem wc_X7_isPortion : zW (.code yX7_isPortion cX7_isPortion 1 (some Jvm.ClassFile.FieldType.boolean)) := ⟨List.mem_of_getElem? (i := 747) (by decide +kernel), by decide +kernel⟩
theorem wm_X7_179 : zW (.methodLinkNest RX7 179 yX4_faultAs "ModalKeys") := ⟨List.mem_of_getElem? (i := 748) (by decide +kernel), by decide +kernel⟩
theorem wi_X4_faultAs : zW (.instanceMethod yX4_faultAs) := ⟨List.mem_of_getElem? (i := 750) (by decide +kernel), by decide +kernel⟩
theorem wc_X4_faultAs : zW (.code yX4_faultAs cX4_faultAs 4 (some Jvm.ClassFile.FieldType.int)) := ⟨List.mem_of_getElem? (i := 751) (by decide +kernel), by decide +kernel⟩
theorem wm_X4_28 : zW (.methodLink RX4 28 yX4_isNothing) := ⟨List.mem_of_getElem? (i := 752) (by decide +kernel), by decide +kernel⟩
theorem wi_X4_isNothing : zW (.instanceMethod yX4_isNothing) := ⟨List.mem_of_getElem? (i := 754) (by decide +kernel), by decide +kernel⟩
theorem wc_X4_isNothing : zW (.code yX4_isNothing cX4_isNothing 1 (some Jvm.ClassFile.FieldType.boolean)) := ⟨List.mem_of_getElem? (i := 755) (by decide +kernel), by decide +kernel⟩
theorem wm_X4_32 : zW (.methodLink RX4 32 yX4_reaches) := ⟨List.mem_of_getElem? (i := 756) (by decide +kernel), by decide +kernel⟩
theorem wi_X4_reaches : zW (.instanceMethod yX4_reaches) := ⟨List.mem_of_getElem? (i := 758) (by decide +kernel), by decide +kernel⟩
theorem wc_X4_reaches : zW (.code yX4_reaches cX4_reaches 3 (some Jvm.ClassFile.FieldType.boolean)) := ⟨List.mem_of_getElem? (i := 759) (by decide +kernel), by decide +kernel⟩
theorem wk_X7_186 : zW (.constantLong RX7 186 (32)) := ⟨List.mem_of_getElem? (i := 760) (by decide +kernel), by decide +kernel⟩
theorem wk_X7_188 : zW (.constantLong RX7 188 (126)) := ⟨List.mem_of_getElem? (i := 761) (by decide +kernel), by decide +kernel⟩
theorem wm_L_86 : zW (.methodLink RL 86 yX7_film) := ⟨List.mem_of_getElem? (i := 762) (by decide +kernel), by decide +kernel⟩
theorem wi_X7_film : zW (.instanceMethod yX7_film) := ⟨List.mem_of_getElem? (i := 763) (by decide +kernel), by decide +kernel⟩
theorem ws_X7_film : zW (.selects RX7 yX7_film yX7_film) := ⟨List.mem_of_getElem? (i := 764) (by decide +kernel), by decide +kernel⟩
theorem wc_X7_film : zW (.code yX7_film cX7_film 9 (some Jvm.ClassFile.FieldType.int)) := ⟨List.mem_of_getElem? (i := 765) (by decide +kernel), by decide +kernel⟩
theorem wm_X7_190 : zW (.methodLinkNest RX7 190 yX4_put "ModalKeys") := ⟨List.mem_of_getElem? (i := 766) (by decide +kernel), by decide +kernel⟩
theorem wi_X4_put : zW (.instanceMethod yX4_put) := ⟨List.mem_of_getElem? (i := 768) (by decide +kernel), by decide +kernel⟩
theorem wc_X4_put : zW (.code yX4_put cX4_put 4 none) := ⟨List.mem_of_getElem? (i := 769) (by decide +kernel), by decide +kernel⟩
theorem wm_L_91 : zW (.methodLink RL 91 yX7_sheet) := ⟨List.mem_of_getElem? (i := 770) (by decide +kernel), by decide +kernel⟩
theorem wi_X7_sheet : zW (.instanceMethod yX7_sheet) := ⟨List.mem_of_getElem? (i := 771) (by decide +kernel), by decide +kernel⟩
theorem ws_X7_sheet : zW (.selects RX7 yX7_sheet yX7_sheet) := ⟨List.mem_of_getElem? (i := 772) (by decide +kernel), by decide +kernel⟩
theorem wc_X7_sheet : zW (.code yX7_sheet cX7_sheet 5 (some Jvm.ClassFile.FieldType.int)) := ⟨List.mem_of_getElem? (i := 773) (by decide +kernel), by decide +kernel⟩
theorem wm_X7_194 : zW (.methodLinkNest RX7 194 yX4_hold "ModalKeys") := ⟨List.mem_of_getElem? (i := 774) (by decide +kernel), by decide +kernel⟩
theorem wi_X4_hold : zW (.instanceMethod yX4_hold) := ⟨List.mem_of_getElem? (i := 776) (by decide +kernel), by decide +kernel⟩
theorem wc_X4_hold : zW (.code yX4_hold cX4_hold 3 none) := ⟨List.mem_of_getElem? (i := 777) (by decide +kernel), by decide +kernel⟩
theorem wm_X4_22 : zW (.methodLink RX4 22 yJ7_fill_d0a16) := ⟨List.mem_of_getElem? (i := 778) (by decide +kernel), by decide +kernel⟩
theorem wt_J7_fill_d0a16 : zW (.static yJ7_fill_d0a16) := ⟨List.mem_of_getElem? (i := 779) (by decide +kernel), by decide +kernel⟩
theorem wc_J7_fill_d0a16 : zW (.code yJ7_fill_d0a16 cJ7_fill_d0a16 5 none) := ⟨List.mem_of_getElem? (i := 780) (by decide +kernel), by decide +kernel⟩
theorem wm_L_95 : zW (.methodLink RL 95 yX7_drop) := ⟨List.mem_of_getElem? (i := 781) (by decide +kernel), by decide +kernel⟩
theorem wi_X7_drop : zW (.instanceMethod yX7_drop) := ⟨List.mem_of_getElem? (i := 782) (by decide +kernel), by decide +kernel⟩
theorem ws_X7_drop : zW (.selects RX7 yX7_drop yX7_drop) := ⟨List.mem_of_getElem? (i := 783) (by decide +kernel), by decide +kernel⟩
theorem wc_X7_drop : zW (.code yX7_drop cX7_drop 4 (some Jvm.ClassFile.FieldType.int)) := ⟨List.mem_of_getElem? (i := 784) (by decide +kernel), by decide +kernel⟩
theorem wm_X7_198 : zW (.methodLinkNest RX7 198 yX4_isNothing "ModalKeys") := ⟨List.mem_of_getElem? (i := 785) (by decide +kernel), by decide +kernel⟩
theorem wm_L_101 : zW (.methodLink RL 101 yX7_item) := ⟨List.mem_of_getElem? (i := 786) (by decide +kernel), by decide +kernel⟩
theorem wi_X7_item : zW (.instanceMethod yX7_item) := ⟨List.mem_of_getElem? (i := 787) (by decide +kernel), by decide +kernel⟩
theorem ws_X7_item : zW (.selects RX7 yX7_item yX7_item) := ⟨List.mem_of_getElem? (i := 788) (by decide +kernel), by decide +kernel⟩
theorem wc_X7_item : zW (.code yX7_item cX7_item 8 (some Jvm.ClassFile.FieldType.int)) := ⟨List.mem_of_getElem? (i := 789) (by decide +kernel), by decide +kernel⟩
theorem wm_L_106 : zW (.methodLink RL 106 yX7_copy) := ⟨List.mem_of_getElem? (i := 790) (by decide +kernel), by decide +kernel⟩
theorem wi_X7_copy : zW (.instanceMethod yX7_copy) := ⟨List.mem_of_getElem? (i := 791) (by decide +kernel), by decide +kernel⟩
theorem ws_X7_copy : zW (.selects RX7 yX7_copy yX7_copy) := ⟨List.mem_of_getElem? (i := 792) (by decide +kernel), by decide +kernel⟩
theorem wc_X7_copy : zW (.code yX7_copy cX7_copy 8 (some Jvm.ClassFile.FieldType.int)) := ⟨List.mem_of_getElem? (i := 793) (by decide +kernel), by decide +kernel⟩
theorem wm_X7_205 : zW (.methodLinkNest RX7 205 yX4_reaches "ModalKeys") := ⟨List.mem_of_getElem? (i := 794) (by decide +kernel), by decide +kernel⟩
theorem wm_X7_209 : zW (.methodLink RX7 209 arraycopyName) := ⟨List.mem_of_getElem? (i := 795) (by decide +kernel), by decide +kernel⟩
theorem wl_L_10 : zW (.classLink RL 10 RX8) := ⟨List.mem_of_getElem? (i := 796) (by decide +kernel), by decide +kernel⟩
theorem wx_X8 : zW (.instantiable RX8 16) := ⟨List.mem_of_getElem? (i := 797) (by decide +kernel), by decide +kernel⟩
theorem wm_L_12 : zW (.methodLink RL 12 yX8_init) := ⟨List.mem_of_getElem? (i := 798) (by decide +kernel), by decide +kernel⟩
theorem wi_X8_init : zW (.instanceMethod yX8_init) := ⟨List.mem_of_getElem? (i := 799) (by decide +kernel), by decide +kernel⟩
theorem wc_X8_init : zW (.code yX8_init cX8_init 2 none) := ⟨List.mem_of_getElem? (i := 800) (by decide +kernel), by decide +kernel⟩
theorem wf_X8_7 : zW (.fieldLink RX8 7 (TX8 0).1 (TX8 0).2.1 (TX8 0).2.2.1) := ⟨List.mem_of_getElem? (i := 802) (by decide +kernel), by decide +kernel⟩
theorem wf_X8_13 : zW (.fieldLink RX8 13 (TX8 1).1 (TX8 1).2.1 (TX8 1).2.2.1) := ⟨List.mem_of_getElem? (i := 803) (by decide +kernel), by decide +kernel⟩
theorem wf_X8_97 : zW (.fieldLink RX8 97 (TX8 2).1 (TX8 2).2.1 (TX8 2).2.2.1) := ⟨List.mem_of_getElem? (i := 804) (by decide +kernel), by decide +kernel⟩
theorem wf_X8_16 : zW (.fieldLink RX8 16 (TX8 3).1 (TX8 3).2.1 (TX8 3).2.2.1) := ⟨List.mem_of_getElem? (i := 805) (by decide +kernel), by decide +kernel⟩
theorem wf_X8_19 : zW (.fieldLink RX8 19 (TX8 4).1 (TX8 4).2.1 (TX8 4).2.2.1) := ⟨List.mem_of_getElem? (i := 806) (by decide +kernel), by decide +kernel⟩
theorem wf_X8_203 : zW (.fieldLink RX8 203 (TX8 5).1 (TX8 5).2.1 (TX8 5).2.2.1) := ⟨List.mem_of_getElem? (i := 807) (by decide +kernel), by decide +kernel⟩
theorem wf_X8_22 : zW (.fieldLink RX8 22 (TX8 6).1 (TX8 6).2.1 (TX8 6).2.2.1) := ⟨List.mem_of_getElem? (i := 808) (by decide +kernel), by decide +kernel⟩
theorem wf_X8_25 : zW (.fieldLink RX8 25 (TX8 7).1 (TX8 7).2.1 (TX8 7).2.2.1) := ⟨List.mem_of_getElem? (i := 809) (by decide +kernel), by decide +kernel⟩
theorem wf_X8_28 : zW (.fieldLink RX8 28 (TX8 8).1 (TX8 8).2.1 (TX8 8).2.2.1) := ⟨List.mem_of_getElem? (i := 810) (by decide +kernel), by decide +kernel⟩
theorem wf_X8_31 : zW (.fieldLink RX8 31 (TX8 9).1 (TX8 9).2.1 (TX8 9).2.2.1) := ⟨List.mem_of_getElem? (i := 811) (by decide +kernel), by decide +kernel⟩
theorem wf_X8_34 : zW (.fieldLink RX8 34 (TX8 10).1 (TX8 10).2.1 (TX8 10).2.2.1) := ⟨List.mem_of_getElem? (i := 812) (by decide +kernel), by decide +kernel⟩
theorem wf_X8_37 : zW (.fieldLink RX8 37 (TX8 11).1 (TX8 11).2.1 (TX8 11).2.2.1) := ⟨List.mem_of_getElem? (i := 813) (by decide +kernel), by decide +kernel⟩
theorem wf_X8_41 : zW (.fieldLink RX8 41 (TX8 12).1 (TX8 12).2.1 (TX8 12).2.2.1) := ⟨List.mem_of_getElem? (i := 814) (by decide +kernel), by decide +kernel⟩
theorem wf_X8_44 : zW (.fieldLink RX8 44 (TX8 13).1 (TX8 13).2.1 (TX8 13).2.2.1) := ⟨List.mem_of_getElem? (i := 815) (by decide +kernel), by decide +kernel⟩
theorem wf_X8_47 : zW (.fieldLink RX8 47 (TX8 14).1 (TX8 14).2.1 (TX8 14).2.2.1) := ⟨List.mem_of_getElem? (i := 816) (by decide +kernel), by decide +kernel⟩
theorem wf_X8_51 : zW (.fieldLink RX8 51 (TX8 15).1 (TX8 15).2.1 (TX8 15).2.2.1) := ⟨List.mem_of_getElem? (i := 817) (by decide +kernel), by decide +kernel⟩
theorem wm_L_42 : zW (.methodLink RL 42 yX8_key) := ⟨List.mem_of_getElem? (i := 851) (by decide +kernel), by decide +kernel⟩
theorem wi_X8_key : zW (.instanceMethod yX8_key) := ⟨List.mem_of_getElem? (i := 852) (by decide +kernel), by decide +kernel⟩
theorem ws_X8_key : zW (.selects RX8 yX8_key yX8_key) := ⟨List.mem_of_getElem? (i := 853) (by decide +kernel), by decide +kernel⟩
theorem wc_X8_key : zW (.code yX8_key cX8_key 2 (some Jvm.ClassFile.FieldType.int)) := ⟨List.mem_of_getElem? (i := 854) (by decide +kernel), by decide +kernel⟩
theorem wk_X8_196 : zW (.constantLong RX8 196 (32)) := ⟨List.mem_of_getElem? (i := 855) (by decide +kernel), by decide +kernel⟩
theorem wk_X8_198 : zW (.constantLong RX8 198 (126)) := ⟨List.mem_of_getElem? (i := 856) (by decide +kernel), by decide +kernel⟩
theorem wm_X8_58 : zW (.methodLink RX8 58 yX8_in) := ⟨List.mem_of_getElem? (i := 857) (by decide +kernel), by decide +kernel⟩
theorem wt_X8_in : zW (.static yX8_in) := ⟨List.mem_of_getElem? (i := 858) (by decide +kernel), by decide +kernel⟩
theorem wc_X8_in : zW (.code yX8_in cX8_in 6 (some Jvm.ClassFile.FieldType.boolean)) := ⟨List.mem_of_getElem? (i := 859) (by decide +kernel), by decide +kernel⟩
theorem wm_X8_200 : zW (.methodLink RX8 200 yX8_keyed) := ⟨List.mem_of_getElem? (i := 860) (by decide +kernel), by decide +kernel⟩
theorem wi_X8_keyed : zW (.instanceMethod yX8_keyed) := ⟨List.mem_of_getElem? (i := 862) (by decide +kernel), by decide +kernel⟩
theorem wc_X8_keyed : zW (.code yX8_keyed cX8_keyed 5 (some Jvm.ClassFile.FieldType.int)) := ⟨List.mem_of_getElem? (i := 863) (by decide +kernel), by decide +kernel⟩
theorem wm_X8_193 : zW (.methodLink RX8 193 yX8_strikes) := ⟨List.mem_of_getElem? (i := 864) (by decide +kernel), by decide +kernel⟩
theorem wi_X8_strikes : zW (.instanceMethod yX8_strikes) := ⟨List.mem_of_getElem? (i := 866) (by decide +kernel), by decide +kernel⟩
theorem wc_X8_strikes : zW (.code yX8_strikes cX8_strikes 3 (some Jvm.ClassFile.FieldType.int)) := ⟨List.mem_of_getElem? (i := 867) (by decide +kernel), by decide +kernel⟩
theorem wm_X8_187 : zW (.methodLink RX8 187 yX8_inserted) := ⟨List.mem_of_getElem? (i := 868) (by decide +kernel), by decide +kernel⟩
theorem wi_X8_inserted : zW (.instanceMethod yX8_inserted) := ⟨List.mem_of_getElem? (i := 870) (by decide +kernel), by decide +kernel⟩
theorem wc_X8_inserted : zW (.code yX8_inserted cX8_inserted 3 (some Jvm.ClassFile.FieldType.int)) := ⟨List.mem_of_getElem? (i := 871) (by decide +kernel), by decide +kernel⟩
theorem wm_X8_180 : zW (.methodLink RX8 180 yX8_records) := ⟨List.mem_of_getElem? (i := 872) (by decide +kernel), by decide +kernel⟩
theorem wi_X8_records : zW (.instanceMethod yX8_records) := ⟨List.mem_of_getElem? (i := 874) (by decide +kernel), by decide +kernel⟩
theorem wc_X8_records : zW (.code yX8_records cX8_records 2 none) := ⟨List.mem_of_getElem? (i := 875) (by decide +kernel), by decide +kernel⟩
theorem wm_X8_94 : zW (.methodLink RX8 94 yX8_lesser) := ⟨List.mem_of_getElem? (i := 876) (by decide +kernel), by decide +kernel⟩
theorem wt_X8_lesser : zW (.static yX8_lesser) := ⟨List.mem_of_getElem? (i := 877) (by decide +kernel), by decide +kernel⟩
theorem wc_X8_lesser : zW (.code yX8_lesser cX8_lesser 2 (some Jvm.ClassFile.FieldType.int)) := ⟨List.mem_of_getElem? (i := 878) (by decide +kernel), by decide +kernel⟩
theorem wm_X8_110 : zW (.methodLink RX8 110 yX8_changes) := ⟨List.mem_of_getElem? (i := 879) (by decide +kernel), by decide +kernel⟩
theorem wi_X8_changes : zW (.instanceMethod yX8_changes) := ⟨List.mem_of_getElem? (i := 881) (by decide +kernel), by decide +kernel⟩
theorem wc_X8_changes : zW (.code yX8_changes cX8_changes 2 none) := ⟨List.mem_of_getElem? (i := 882) (by decide +kernel), by decide +kernel⟩
theorem wm_X8_184 : zW (.methodLink RX8 184 yX8_ends) := ⟨List.mem_of_getElem? (i := 883) (by decide +kernel), by decide +kernel⟩
theorem wi_X8_ends : zW (.instanceMethod yX8_ends) := ⟨List.mem_of_getElem? (i := 885) (by decide +kernel), by decide +kernel⟩
theorem wc_X8_ends : zW (.code yX8_ends cX8_ends 1 none) := ⟨List.mem_of_getElem? (i := 886) (by decide +kernel), by decide +kernel⟩
theorem wm_X8_190 : zW (.methodLink RX8 190 yX8_commands) := ⟨List.mem_of_getElem? (i := 887) (by decide +kernel), by decide +kernel⟩
theorem wi_X8_commands : zW (.instanceMethod yX8_commands) := ⟨List.mem_of_getElem? (i := 889) (by decide +kernel), by decide +kernel⟩
theorem wc_X8_commands : zW (.code yX8_commands cX8_commands 4 (some Jvm.ClassFile.FieldType.int)) := ⟨List.mem_of_getElem? (i := 890) (by decide +kernel), by decide +kernel⟩
theorem wm_X8_166 : zW (.methodLink RX8 166 yX8_waited) := ⟨List.mem_of_getElem? (i := 891) (by decide +kernel), by decide +kernel⟩
theorem wi_X8_waited : zW (.instanceMethod yX8_waited) := ⟨List.mem_of_getElem? (i := 893) (by decide +kernel), by decide +kernel⟩
theorem wc_X8_waited : zW (.code yX8_waited cX8_waited 4 (some Jvm.ClassFile.FieldType.int)) := ⟨List.mem_of_getElem? (i := 894) (by decide +kernel), by decide +kernel⟩
theorem wm_X8_116 : zW (.methodLink RX8 116 yX8_often) := ⟨List.mem_of_getElem? (i := 895) (by decide +kernel), by decide +kernel⟩
theorem wi_X8_often : zW (.instanceMethod yX8_often) := ⟨List.mem_of_getElem? (i := 897) (by decide +kernel), by decide +kernel⟩
theorem wc_X8_often : zW (.code yX8_often cX8_often 3 (some Jvm.ClassFile.FieldType.int)) := ⟨List.mem_of_getElem? (i := 898) (by decide +kernel), by decide +kernel⟩
theorem wm_X8_137 : zW (.methodLink RX8 137 yX8_findsTo) := ⟨List.mem_of_getElem? (i := 899) (by decide +kernel), by decide +kernel⟩
theorem wi_X8_findsTo : zW (.instanceMethod yX8_findsTo) := ⟨List.mem_of_getElem? (i := 901) (by decide +kernel), by decide +kernel⟩
theorem wc_X8_findsTo : zW (.code yX8_findsTo cX8_findsTo 5 (some Jvm.ClassFile.FieldType.int)) := ⟨List.mem_of_getElem? (i := 902) (by decide +kernel), by decide +kernel⟩
theorem wm_X8_90 : zW (.methodLink RX8 90 yX8_nextOf) := ⟨List.mem_of_getElem? (i := 903) (by decide +kernel), by decide +kernel⟩
theorem wi_X8_nextOf : zW (.instanceMethod yX8_nextOf) := ⟨List.mem_of_getElem? (i := 905) (by decide +kernel), by decide +kernel⟩
theorem wc_X8_nextOf : zW (.code yX8_nextOf cX8_nextOf 5 (some Jvm.ClassFile.FieldType.int)) := ⟨List.mem_of_getElem? (i := 906) (by decide +kernel), by decide +kernel⟩
theorem wm_X8_122 : zW (.methodLink RX8 122 yX8_goesTo) := ⟨List.mem_of_getElem? (i := 907) (by decide +kernel), by decide +kernel⟩
theorem wi_X8_goesTo : zW (.instanceMethod yX8_goesTo) := ⟨List.mem_of_getElem? (i := 909) (by decide +kernel), by decide +kernel⟩
theorem wc_X8_goesTo : zW (.code yX8_goesTo cX8_goesTo 6 (some Jvm.ClassFile.FieldType.int)) := ⟨List.mem_of_getElem? (i := 910) (by decide +kernel), by decide +kernel⟩
theorem wm_X8_77 : zW (.methodLink RX8 77 yX8_last) := ⟨List.mem_of_getElem? (i := 911) (by decide +kernel), by decide +kernel⟩
theorem wi_X8_last : zW (.instanceMethod yX8_last) := ⟨List.mem_of_getElem? (i := 913) (by decide +kernel), by decide +kernel⟩
theorem wc_X8_last : zW (.code yX8_last cX8_last 1 (some Jvm.ClassFile.FieldType.int)) := ⟨List.mem_of_getElem? (i := 914) (by decide +kernel), by decide +kernel⟩
theorem wm_X8_113 : zW (.methodLink RX8 113 yX8_ranged) := ⟨List.mem_of_getElem? (i := 915) (by decide +kernel), by decide +kernel⟩
theorem wi_X8_ranged : zW (.instanceMethod yX8_ranged) := ⟨List.mem_of_getElem? (i := 917) (by decide +kernel), by decide +kernel⟩
theorem wc_X8_ranged : zW (.code yX8_ranged cX8_ranged 4 (some Jvm.ClassFile.FieldType.int)) := ⟨List.mem_of_getElem? (i := 918) (by decide +kernel), by decide +kernel⟩
theorem wm_X8_100 : zW (.methodLink RX8 100 yX8_keeps) := ⟨List.mem_of_getElem? (i := 919) (by decide +kernel), by decide +kernel⟩
theorem wi_X8_keeps : zW (.instanceMethod yX8_keeps) := ⟨List.mem_of_getElem? (i := 921) (by decide +kernel), by decide +kernel⟩
theorem wc_X8_keeps : zW (.code yX8_keeps cX8_keeps 4 none) := ⟨List.mem_of_getElem? (i := 922) (by decide +kernel), by decide +kernel⟩
theorem wm_X8_104 : zW (.methodLink RX8 104 yX8_cuts) := ⟨List.mem_of_getElem? (i := 923) (by decide +kernel), by decide +kernel⟩
theorem wi_X8_cuts : zW (.instanceMethod yX8_cuts) := ⟨List.mem_of_getElem? (i := 925) (by decide +kernel), by decide +kernel⟩
theorem wc_X8_cuts : zW (.code yX8_cuts cX8_cuts 4 none) := ⟨List.mem_of_getElem? (i := 926) (by decide +kernel), by decide +kernel⟩
theorem wm_X8_107 : zW (.methodLink RX8 107 yX8_inserts) := ⟨List.mem_of_getElem? (i := 927) (by decide +kernel), by decide +kernel⟩
theorem wi_X8_inserts : zW (.instanceMethod yX8_inserts) := ⟨List.mem_of_getElem? (i := 929) (by decide +kernel), by decide +kernel⟩
theorem wc_X8_inserts : zW (.code yX8_inserts cX8_inserts 2 (some Jvm.ClassFile.FieldType.int)) := ⟨List.mem_of_getElem? (i := 930) (by decide +kernel), by decide +kernel⟩
theorem wk_X8_54 : zW (.constantLong RX8 54 (97)) := ⟨List.mem_of_getElem? (i := 931) (by decide +kernel), by decide +kernel⟩
theorem wk_X8_140 : zW (.constantLong RX8 140 (100)) := ⟨List.mem_of_getElem? (i := 932) (by decide +kernel), by decide +kernel⟩
theorem wm_X8_142 : zW (.methodLink RX8 142 yX8_replaces) := ⟨List.mem_of_getElem? (i := 933) (by decide +kernel), by decide +kernel⟩
theorem wi_X8_replaces : zW (.instanceMethod yX8_replaces) := ⟨List.mem_of_getElem? (i := 935) (by decide +kernel), by decide +kernel⟩
theorem wc_X8_replaces : zW (.code yX8_replaces cX8_replaces 5 (some Jvm.ClassFile.FieldType.int)) := ⟨List.mem_of_getElem? (i := 936) (by decide +kernel), by decide +kernel⟩
theorem wm_X8_145 : zW (.methodLink RX8 145 yX8_objects) := ⟨List.mem_of_getElem? (i := 937) (by decide +kernel), by decide +kernel⟩
theorem wi_X8_objects : zW (.instanceMethod yX8_objects) := ⟨List.mem_of_getElem? (i := 939) (by decide +kernel), by decide +kernel⟩
theorem wc_X8_objects : zW (.code yX8_objects cX8_objects 3 (some Jvm.ClassFile.FieldType.int)) := ⟨List.mem_of_getElem? (i := 940) (by decide +kernel), by decide +kernel⟩
theorem wm_X8_126 : zW (.methodLink RX8 126 yX8_words) := ⟨List.mem_of_getElem? (i := 941) (by decide +kernel), by decide +kernel⟩
theorem wi_X8_words : zW (.instanceMethod yX8_words) := ⟨List.mem_of_getElem? (i := 943) (by decide +kernel), by decide +kernel⟩
theorem wc_X8_words : zW (.code yX8_words cX8_words 5 (some Jvm.ClassFile.FieldType.int)) := ⟨List.mem_of_getElem? (i := 944) (by decide +kernel), by decide +kernel⟩
theorem wm_X8_74 : zW (.methodLink RX8 74 yX8_classAt) := ⟨List.mem_of_getElem? (i := 945) (by decide +kernel), by decide +kernel⟩
theorem wi_X8_classAt : zW (.instanceMethod yX8_classAt) := ⟨List.mem_of_getElem? (i := 947) (by decide +kernel), by decide +kernel⟩
theorem wc_X8_classAt : zW (.code yX8_classAt cX8_classAt 2 (some Jvm.ClassFile.FieldType.int)) := ⟨List.mem_of_getElem? (i := 948) (by decide +kernel), by decide +kernel⟩
theorem wm_X8_70 : zW (.methodLink RX8 70 yX8_classOf) := ⟨List.mem_of_getElem? (i := 949) (by decide +kernel), by decide +kernel⟩
theorem wt_X8_classOf : zW (.static yX8_classOf) := ⟨List.mem_of_getElem? (i := 950) (by decide +kernel), by decide +kernel⟩
theorem wc_X8_classOf : zW (.code yX8_classOf cX8_classOf 2 (some Jvm.ClassFile.FieldType.int)) := ⟨List.mem_of_getElem? (i := 951) (by decide +kernel), by decide +kernel⟩
theorem wk_X8_56 : zW (.constantLong RX8 56 (122)) := ⟨List.mem_of_getElem? (i := 952) (by decide +kernel), by decide +kernel⟩
theorem wk_X8_62 : zW (.constantLong RX8 62 (65)) := ⟨List.mem_of_getElem? (i := 953) (by decide +kernel), by decide +kernel⟩
theorem wk_X8_64 : zW (.constantLong RX8 64 (90)) := ⟨List.mem_of_getElem? (i := 954) (by decide +kernel), by decide +kernel⟩
theorem wk_X8_66 : zW (.constantLong RX8 66 (48)) := ⟨List.mem_of_getElem? (i := 955) (by decide +kernel), by decide +kernel⟩
theorem wk_X8_68 : zW (.constantLong RX8 68 (57)) := ⟨List.mem_of_getElem? (i := 956) (by decide +kernel), by decide +kernel⟩
theorem wm_X8_130 : zW (.methodLink RX8 130 yX8_brackets) := ⟨List.mem_of_getElem? (i := 957) (by decide +kernel), by decide +kernel⟩
theorem wi_X8_brackets : zW (.instanceMethod yX8_brackets) := ⟨List.mem_of_getElem? (i := 959) (by decide +kernel), by decide +kernel⟩
theorem wc_X8_brackets : zW (.code yX8_brackets cX8_brackets 6 (some Jvm.ClassFile.FieldType.int)) := ⟨List.mem_of_getElem? (i := 960) (by decide +kernel), by decide +kernel⟩
theorem wm_X8_133 : zW (.methodLink RX8 133 yX8_bracket) := ⟨List.mem_of_getElem? (i := 961) (by decide +kernel), by decide +kernel⟩
theorem wi_X8_bracket : zW (.instanceMethod yX8_bracket) := ⟨List.mem_of_getElem? (i := 963) (by decide +kernel), by decide +kernel⟩
theorem wc_X8_bracket : zW (.code yX8_bracket cX8_bracket 8 (some Jvm.ClassFile.FieldType.int)) := ⟨List.mem_of_getElem? (i := 964) (by decide +kernel), by decide +kernel⟩
theorem wk_X8_169 : zW (.constantLong RX8 169 (49)) := ⟨List.mem_of_getElem? (i := 965) (by decide +kernel), by decide +kernel⟩
theorem wm_X8_171 : zW (.methodLink RX8 171 yX8_motionOf) := ⟨List.mem_of_getElem? (i := 966) (by decide +kernel), by decide +kernel⟩
theorem wi_X8_motionOf : zW (.instanceMethod yX8_motionOf) := ⟨List.mem_of_getElem? (i := 968) (by decide +kernel), by decide +kernel⟩
theorem wc_X8_motionOf : zW (.code yX8_motionOf cX8_motionOf 2 (some Jvm.ClassFile.FieldType.int)) := ⟨List.mem_of_getElem? (i := 969) (by decide +kernel), by decide +kernel⟩
theorem wm_X8_174 : zW (.methodLink RX8 174 yX8_moves) := ⟨List.mem_of_getElem? (i := 970) (by decide +kernel), by decide +kernel⟩
theorem wi_X8_moves : zW (.instanceMethod yX8_moves) := ⟨List.mem_of_getElem? (i := 972) (by decide +kernel), by decide +kernel⟩
theorem wc_X8_moves : zW (.code yX8_moves cX8_moves 5 (some Jvm.ClassFile.FieldType.int)) := ⟨List.mem_of_getElem? (i := 973) (by decide +kernel), by decide +kernel⟩
theorem wm_X8_119 : zW (.methodLink RX8 119 yX8_leadsTo) := ⟨List.mem_of_getElem? (i := 974) (by decide +kernel), by decide +kernel⟩
theorem wi_X8_leadsTo : zW (.instanceMethod yX8_leadsTo) := ⟨List.mem_of_getElem? (i := 976) (by decide +kernel), by decide +kernel⟩
theorem wc_X8_leadsTo : zW (.code yX8_leadsTo cX8_leadsTo 3 (some Jvm.ClassFile.FieldType.int)) := ⟨List.mem_of_getElem? (i := 977) (by decide +kernel), by decide +kernel⟩
theorem wm_X8_81 : zW (.methodLink RX8 81 yX8_wordOn) := ⟨List.mem_of_getElem? (i := 978) (by decide +kernel), by decide +kernel⟩
theorem wi_X8_wordOn : zW (.instanceMethod yX8_wordOn) := ⟨List.mem_of_getElem? (i := 980) (by decide +kernel), by decide +kernel⟩
theorem wc_X8_wordOn : zW (.code yX8_wordOn cX8_wordOn 4 (some Jvm.ClassFile.FieldType.int)) := ⟨List.mem_of_getElem? (i := 981) (by decide +kernel), by decide +kernel⟩
theorem wm_X8_84 : zW (.methodLink RX8 84 yX8_wordBack) := ⟨List.mem_of_getElem? (i := 982) (by decide +kernel), by decide +kernel⟩
theorem wi_X8_wordBack : zW (.instanceMethod yX8_wordBack) := ⟨List.mem_of_getElem? (i := 984) (by decide +kernel), by decide +kernel⟩
theorem wc_X8_wordBack : zW (.code yX8_wordBack cX8_wordBack 4 (some Jvm.ClassFile.FieldType.int)) := ⟨List.mem_of_getElem? (i := 985) (by decide +kernel), by decide +kernel⟩
theorem wm_X8_87 : zW (.methodLink RX8 87 yX8_wordEnd) := ⟨List.mem_of_getElem? (i := 986) (by decide +kernel), by decide +kernel⟩
theorem wi_X8_wordEnd : zW (.instanceMethod yX8_wordEnd) := ⟨List.mem_of_getElem? (i := 988) (by decide +kernel), by decide +kernel⟩
theorem wc_X8_wordEnd : zW (.code yX8_wordEnd cX8_wordEnd 4 (some Jvm.ClassFile.FieldType.int)) := ⟨List.mem_of_getElem? (i := 989) (by decide +kernel), by decide +kernel⟩
theorem wm_X8_163 : zW (.methodLink RX8 163 yX8_waits) := ⟨List.mem_of_getElem? (i := 990) (by decide +kernel), by decide +kernel⟩
theorem wi_X8_waits : zW (.instanceMethod yX8_waits) := ⟨List.mem_of_getElem? (i := 992) (by decide +kernel), by decide +kernel⟩
theorem wc_X8_waits : zW (.code yX8_waits cX8_waits 2 (some Jvm.ClassFile.FieldType.int)) := ⟨List.mem_of_getElem? (i := 993) (by decide +kernel), by decide +kernel⟩
theorem wm_X8_177 : zW (.methodLink RX8 177 yX8_deed) := ⟨List.mem_of_getElem? (i := 994) (by decide +kernel), by decide +kernel⟩
theorem wi_X8_deed : zW (.instanceMethod yX8_deed) := ⟨List.mem_of_getElem? (i := 996) (by decide +kernel), by decide +kernel⟩
theorem wc_X8_deed : zW (.code yX8_deed cX8_deed 3 (some Jvm.ClassFile.FieldType.int)) := ⟨List.mem_of_getElem? (i := 997) (by decide +kernel), by decide +kernel⟩
theorem wm_X8_149 : zW (.methodLink RX8 149 yX8_crosses) := ⟨List.mem_of_getElem? (i := 998) (by decide +kernel), by decide +kernel⟩
theorem wi_X8_crosses : zW (.instanceMethod yX8_crosses) := ⟨List.mem_of_getElem? (i := 1000) (by decide +kernel), by decide +kernel⟩
theorem wc_X8_crosses : zW (.code yX8_crosses cX8_crosses 4 (some Jvm.ClassFile.FieldType.int)) := ⟨List.mem_of_getElem? (i := 1001) (by decide +kernel), by decide +kernel⟩
theorem wm_X8_152 : zW (.methodLink RX8 152 yX8_turns) := ⟨List.mem_of_getElem? (i := 1002) (by decide +kernel), by decide +kernel⟩
theorem wi_X8_turns : zW (.instanceMethod yX8_turns) := ⟨List.mem_of_getElem? (i := 1004) (by decide +kernel), by decide +kernel⟩
theorem wc_X8_turns : zW (.code yX8_turns cX8_turns 6 (some Jvm.ClassFile.FieldType.int)) := ⟨List.mem_of_getElem? (i := 1005) (by decide +kernel), by decide +kernel⟩
theorem wm_X8_155 : zW (.methodLink RX8 155 yX8_puts) := ⟨List.mem_of_getElem? (i := 1006) (by decide +kernel), by decide +kernel⟩
theorem wi_X8_puts : zW (.instanceMethod yX8_puts) := ⟨List.mem_of_getElem? (i := 1008) (by decide +kernel), by decide +kernel⟩
theorem wc_X8_puts : zW (.code yX8_puts cX8_puts 6 (some Jvm.ClassFile.FieldType.int)) := ⟨List.mem_of_getElem? (i := 1009) (by decide +kernel), by decide +kernel⟩
theorem wm_X8_158 : zW (.methodLink RX8 158 yX8_undoes) := ⟨List.mem_of_getElem? (i := 1010) (by decide +kernel), by decide +kernel⟩
theorem wi_X8_undoes : zW (.instanceMethod yX8_undoes) := ⟨List.mem_of_getElem? (i := 1012) (by decide +kernel), by decide +kernel⟩
theorem wc_X8_undoes : zW (.code yX8_undoes cX8_undoes 4 (some Jvm.ClassFile.FieldType.int)) := ⟨List.mem_of_getElem? (i := 1013) (by decide +kernel), by decide +kernel⟩
theorem wk_X8_161 : zW (.constantLong RX8 161 (30)) := ⟨List.mem_of_getElem? (i := 1014) (by decide +kernel), by decide +kernel⟩
theorem wm_L_17 : zW (.methodLink RL 17 yX8_type) := ⟨List.mem_of_getElem? (i := 1015) (by decide +kernel), by decide +kernel⟩
theorem wi_X8_type : zW (.instanceMethod yX8_type) := ⟨List.mem_of_getElem? (i := 1016) (by decide +kernel), by decide +kernel⟩
theorem ws_X8_type : zW (.selects RX8 yX8_type yX8_type) := ⟨List.mem_of_getElem? (i := 1017) (by decide +kernel), by decide +kernel⟩
theorem wc_X8_type : zW (.code yX8_type cX8_type 2 (some Jvm.ClassFile.FieldType.int)) := ⟨List.mem_of_getElem? (i := 1018) (by decide +kernel), by decide +kernel⟩
theorem wm_L_22 : zW (.methodLink RL 22 yX8_line) := ⟨List.mem_of_getElem? (i := 1019) (by decide +kernel), by decide +kernel⟩
theorem wi_X8_line : zW (.instanceMethod yX8_line) := ⟨List.mem_of_getElem? (i := 1020) (by decide +kernel), by decide +kernel⟩
theorem ws_X8_line : zW (.selects RX8 yX8_line yX8_line) := ⟨List.mem_of_getElem? (i := 1021) (by decide +kernel), by decide +kernel⟩
theorem wc_X8_line : zW (.code yX8_line cX8_line 2 (some Jvm.ClassFile.FieldType.int)) := ⟨List.mem_of_getElem? (i := 1022) (by decide +kernel), by decide +kernel⟩
theorem wm_L_26 : zW (.methodLink RL 26 yX8_letter) := ⟨List.mem_of_getElem? (i := 1023) (by decide +kernel), by decide +kernel⟩
theorem wi_X8_letter : zW (.instanceMethod yX8_letter) := ⟨List.mem_of_getElem? (i := 1024) (by decide +kernel), by decide +kernel⟩
theorem ws_X8_letter : zW (.selects RX8 yX8_letter yX8_letter) := ⟨List.mem_of_getElem? (i := 1025) (by decide +kernel), by decide +kernel⟩
theorem wc_X8_letter : zW (.code yX8_letter cX8_letter 2 (some Jvm.ClassFile.FieldType.int)) := ⟨List.mem_of_getElem? (i := 1026) (by decide +kernel), by decide +kernel⟩
theorem wm_L_30 : zW (.methodLink RL 30 yX8_store) := ⟨List.mem_of_getElem? (i := 1027) (by decide +kernel), by decide +kernel⟩
theorem wi_X8_store : zW (.instanceMethod yX8_store) := ⟨List.mem_of_getElem? (i := 1028) (by decide +kernel), by decide +kernel⟩
theorem ws_X8_store : zW (.selects RX8 yX8_store yX8_store) := ⟨List.mem_of_getElem? (i := 1029) (by decide +kernel), by decide +kernel⟩
theorem wc_X8_store : zW (.code yX8_store cX8_store 2 (some Jvm.ClassFile.FieldType.int)) := ⟨List.mem_of_getElem? (i := 1030) (by decide +kernel), by decide +kernel⟩
theorem wm_L_34 : zW (.methodLink RL 34 yX8_mark) := ⟨List.mem_of_getElem? (i := 1031) (by decide +kernel), by decide +kernel⟩
theorem wi_X8_mark : zW (.instanceMethod yX8_mark) := ⟨List.mem_of_getElem? (i := 1032) (by decide +kernel), by decide +kernel⟩
theorem ws_X8_mark : zW (.selects RX8 yX8_mark yX8_mark) := ⟨List.mem_of_getElem? (i := 1033) (by decide +kernel), by decide +kernel⟩
theorem wc_X8_mark : zW (.code yX8_mark cX8_mark 2 (some Jvm.ClassFile.FieldType.int)) := ⟨List.mem_of_getElem? (i := 1034) (by decide +kernel), by decide +kernel⟩
theorem wk_X8_206 : zW (.constantLong RX8 206 (3)) := ⟨List.mem_of_getElem? (i := 1035) (by decide +kernel), by decide +kernel⟩
theorem wm_L_38 : zW (.methodLink RL 38 yX8_count) := ⟨List.mem_of_getElem? (i := 1036) (by decide +kernel), by decide +kernel⟩
theorem wi_X8_count : zW (.instanceMethod yX8_count) := ⟨List.mem_of_getElem? (i := 1037) (by decide +kernel), by decide +kernel⟩
theorem ws_X8_count : zW (.selects RX8 yX8_count yX8_count) := ⟨List.mem_of_getElem? (i := 1038) (by decide +kernel), by decide +kernel⟩
theorem wc_X8_count : zW (.code yX8_count cX8_count 2 (some Jvm.ClassFile.FieldType.int)) := ⟨List.mem_of_getElem? (i := 1039) (by decide +kernel), by decide +kernel⟩
theorem wm_X8_208 : zW (.methodLink RX8 208 yX8_marks) := ⟨List.mem_of_getElem? (i := 1040) (by decide +kernel), by decide +kernel⟩
theorem wi_X8_marks : zW (.instanceMethod yX8_marks) := ⟨List.mem_of_getElem? (i := 1042) (by decide +kernel), by decide +kernel⟩
theorem wc_X8_marks : zW (.code yX8_marks cX8_marks 3 (some Jvm.ClassFile.FieldType.int)) := ⟨List.mem_of_getElem? (i := 1043) (by decide +kernel), by decide +kernel⟩
theorem wm_X8_211 : zW (.methodLink RX8 211 yX8_wordsOf) := ⟨List.mem_of_getElem? (i := 1044) (by decide +kernel), by decide +kernel⟩
theorem wi_X8_wordsOf : zW (.instanceMethod yX8_wordsOf) := ⟨List.mem_of_getElem? (i := 1046) (by decide +kernel), by decide +kernel⟩
theorem wc_X8_wordsOf : zW (.code yX8_wordsOf cX8_wordsOf 3 (some Jvm.ClassFile.FieldType.int)) := ⟨List.mem_of_getElem? (i := 1047) (by decide +kernel), by decide +kernel⟩
theorem wm_L_47 : zW (.methodLink RL 47 yX8_price) := ⟨List.mem_of_getElem? (i := 1048) (by decide +kernel), by decide +kernel⟩
theorem wi_X8_price : zW (.instanceMethod yX8_price) := ⟨List.mem_of_getElem? (i := 1049) (by decide +kernel), by decide +kernel⟩
theorem ws_X8_price : zW (.selects RX8 yX8_price yX8_price) := ⟨List.mem_of_getElem? (i := 1050) (by decide +kernel), by decide +kernel⟩
theorem wc_X8_price : zW (.code yX8_price cX8_price 4 (some Jvm.ClassFile.FieldType.int)) := ⟨List.mem_of_getElem? (i := 1051) (by decide +kernel), by decide +kernel⟩
theorem wm_X8_216 : zW (.methodLink RX8 216 yX8_isMotion) := ⟨List.mem_of_getElem? (i := 1052) (by decide +kernel), by decide +kernel⟩
theorem wt_X8_isMotion : zW (.static yX8_isMotion) := ⟨List.mem_of_getElem? (i := 1053) (by decide +kernel), by decide +kernel⟩
theorem wc_X8_isMotion : zW (.code yX8_isMotion cX8_isMotion 1 (some Jvm.ClassFile.FieldType.boolean)) := ⟨List.mem_of_getElem? (i := 1054) (by decide +kernel), by decide +kernel⟩
theorem wk_X8_214 : zW (.constantLong RX8 214 (6)) := ⟨List.mem_of_getElem? (i := 1055) (by decide +kernel), by decide +kernel⟩
theorem wk_X8_220 : zW (.constantLong RX8 220 (9)) := ⟨List.mem_of_getElem? (i := 1056) (by decide +kernel), by decide +kernel⟩
theorem wm_L_51 : zW (.methodLink RL 51 yX8_leads) := ⟨List.mem_of_getElem? (i := 1057) (by decide +kernel), by decide +kernel⟩
theorem wi_X8_leads : zW (.instanceMethod yX8_leads) := ⟨List.mem_of_getElem? (i := 1058) (by decide +kernel), by decide +kernel⟩
theorem ws_X8_leads : zW (.selects RX8 yX8_leads yX8_leads) := ⟨List.mem_of_getElem? (i := 1059) (by decide +kernel), by decide +kernel⟩
theorem wc_X8_leads : zW (.code yX8_leads cX8_leads 3 (some Jvm.ClassFile.FieldType.int)) := ⟨List.mem_of_getElem? (i := 1060) (by decide +kernel), by decide +kernel⟩
theorem wm_L_55 : zW (.methodLink RL 55 yX8_steps) := ⟨List.mem_of_getElem? (i := 1061) (by decide +kernel), by decide +kernel⟩
theorem wi_X8_steps : zW (.instanceMethod yX8_steps) := ⟨List.mem_of_getElem? (i := 1062) (by decide +kernel), by decide +kernel⟩
theorem ws_X8_steps : zW (.selects RX8 yX8_steps yX8_steps) := ⟨List.mem_of_getElem? (i := 1063) (by decide +kernel), by decide +kernel⟩
theorem wc_X8_steps : zW (.code yX8_steps cX8_steps 6 (some Jvm.ClassFile.FieldType.int)) := ⟨List.mem_of_getElem? (i := 1064) (by decide +kernel), by decide +kernel⟩
theorem wm_X8_226 : zW (.methodLink RX8 226 yX8_isPlace) := ⟨List.mem_of_getElem? (i := 1065) (by decide +kernel), by decide +kernel⟩
theorem wi_X8_isPlace : zW (.instanceMethod yX8_isPlace) := ⟨List.mem_of_getElem? (i := 1067) (by decide +kernel), by decide +kernel⟩
theorem wc_X8_isPlace : zW (.code yX8_isPlace cX8_isPlace 2 (some Jvm.ClassFile.FieldType.boolean)) := ⟨List.mem_of_getElem? (i := 1068) (by decide +kernel), by decide +kernel⟩
theorem wm_X8_229 : zW (.methodLink RX8 229 yX8_costsTo) := ⟨List.mem_of_getElem? (i := 1069) (by decide +kernel), by decide +kernel⟩
theorem wi_X8_costsTo : zW (.instanceMethod yX8_costsTo) := ⟨List.mem_of_getElem? (i := 1071) (by decide +kernel), by decide +kernel⟩
theorem wc_X8_costsTo : zW (.code yX8_costsTo cX8_costsTo 6 none) := ⟨List.mem_of_getElem? (i := 1072) (by decide +kernel), by decide +kernel⟩
theorem wk_X8_222 : zW (.constant RX8 222 (iI 99999)) := ⟨List.mem_of_getElem? (i := 1073) (by decide +kernel), by decide +kernel⟩
theorem wm_X8_223 : zW (.methodLink RX8 223 yX8_lands) := ⟨List.mem_of_getElem? (i := 1074) (by decide +kernel), by decide +kernel⟩
theorem wi_X8_lands : zW (.instanceMethod yX8_lands) := ⟨List.mem_of_getElem? (i := 1076) (by decide +kernel), by decide +kernel⟩
theorem wc_X8_lands : zW (.code yX8_lands cX8_lands 3 (some Jvm.ClassFile.FieldType.int)) := ⟨List.mem_of_getElem? (i := 1077) (by decide +kernel), by decide +kernel⟩
theorem wm_X8_232 : zW (.methodLink RX8 232 yX8_start) := ⟨List.mem_of_getElem? (i := 1078) (by decide +kernel), by decide +kernel⟩
theorem wi_X8_start : zW (.instanceMethod yX8_start) := ⟨List.mem_of_getElem? (i := 1080) (by decide +kernel), by decide +kernel⟩
theorem wc_X8_start : zW (.code yX8_start cX8_start 1 (some Jvm.ClassFile.FieldType.int)) := ⟨List.mem_of_getElem? (i := 1081) (by decide +kernel), by decide +kernel⟩
theorem wm_L_59 : zW (.methodLink RL 59 yX8_farthest) := ⟨List.mem_of_getElem? (i := 1082) (by decide +kernel), by decide +kernel⟩
theorem wi_X8_farthest : zW (.instanceMethod yX8_farthest) := ⟨List.mem_of_getElem? (i := 1083) (by decide +kernel), by decide +kernel⟩
theorem ws_X8_farthest : zW (.selects RX8 yX8_farthest yX8_farthest) := ⟨List.mem_of_getElem? (i := 1084) (by decide +kernel), by decide +kernel⟩
theorem wc_X8_farthest : zW (.code yX8_farthest cX8_farthest 6 (some Jvm.ClassFile.FieldType.int)) := ⟨List.mem_of_getElem? (i := 1085) (by decide +kernel), by decide +kernel⟩
theorem wm_L_63 : zW (.methodLink RL 63 yX8_once) := ⟨List.mem_of_getElem? (i := 1086) (by decide +kernel), by decide +kernel⟩
theorem wi_X8_once : zW (.instanceMethod yX8_once) := ⟨List.mem_of_getElem? (i := 1087) (by decide +kernel), by decide +kernel⟩
theorem ws_X8_once : zW (.selects RX8 yX8_once yX8_once) := ⟨List.mem_of_getElem? (i := 1088) (by decide +kernel), by decide +kernel⟩
theorem wc_X8_once : zW (.code yX8_once cX8_once 4 (some Jvm.ClassFile.FieldType.int)) := ⟨List.mem_of_getElem? (i := 1089) (by decide +kernel), by decide +kernel⟩
theorem wm_L_67 : zW (.methodLink RL 67 yX8_goes) := ⟨List.mem_of_getElem? (i := 1090) (by decide +kernel), by decide +kernel⟩
theorem wi_X8_goes : zW (.instanceMethod yX8_goes) := ⟨List.mem_of_getElem? (i := 1091) (by decide +kernel), by decide +kernel⟩
theorem ws_X8_goes : zW (.selects RX8 yX8_goes yX8_goes) := ⟨List.mem_of_getElem? (i := 1092) (by decide +kernel), by decide +kernel⟩
theorem wc_X8_goes : zW (.code yX8_goes cX8_goes 8 (some Jvm.ClassFile.FieldType.int)) := ⟨List.mem_of_getElem? (i := 1093) (by decide +kernel), by decide +kernel⟩
theorem wk_X8_235 : zW (.constantLong RX8 235 (99)) := ⟨List.mem_of_getElem? (i := 1094) (by decide +kernel), by decide +kernel⟩
theorem wm_L_72 : zW (.methodLink RL 72 yX8_struck) := ⟨List.mem_of_getElem? (i := 1095) (by decide +kernel), by decide +kernel⟩
theorem wi_X8_struck : zW (.instanceMethod yX8_struck) := ⟨List.mem_of_getElem? (i := 1096) (by decide +kernel), by decide +kernel⟩
theorem ws_X8_struck : zW (.selects RX8 yX8_struck yX8_struck) := ⟨List.mem_of_getElem? (i := 1097) (by decide +kernel), by decide +kernel⟩
theorem wc_X8_struck : zW (.code yX8_struck cX8_struck 8 (some Jvm.ClassFile.FieldType.int)) := ⟨List.mem_of_getElem? (i := 1098) (by decide +kernel), by decide +kernel⟩
theorem wk_X8_237 : zW (.constantLong RX8 237 (4)) := ⟨List.mem_of_getElem? (i := 1099) (by decide +kernel), by decide +kernel⟩
theorem wm_L_76 : zW (.methodLink RL 76 yX8_image) := ⟨List.mem_of_getElem? (i := 1100) (by decide +kernel), by decide +kernel⟩
theorem wi_X8_image : zW (.instanceMethod yX8_image) := ⟨List.mem_of_getElem? (i := 1101) (by decide +kernel), by decide +kernel⟩
theorem ws_X8_image : zW (.selects RX8 yX8_image yX8_image) := ⟨List.mem_of_getElem? (i := 1102) (by decide +kernel), by decide +kernel⟩
theorem wc_X8_image : zW (.code yX8_image cX8_image 2 (some Jvm.ClassFile.FieldType.int)) := ⟨List.mem_of_getElem? (i := 1103) (by decide +kernel), by decide +kernel⟩
theorem wm_L_80 : zW (.methodLink RL 80 yX8_restore) := ⟨List.mem_of_getElem? (i := 1104) (by decide +kernel), by decide +kernel⟩
theorem wi_X8_restore : zW (.instanceMethod yX8_restore) := ⟨List.mem_of_getElem? (i := 1105) (by decide +kernel), by decide +kernel⟩
theorem ws_X8_restore : zW (.selects RX8 yX8_restore yX8_restore) := ⟨List.mem_of_getElem? (i := 1106) (by decide +kernel), by decide +kernel⟩
theorem wc_X8_restore : zW (.code yX8_restore cX8_restore 2 (some Jvm.ClassFile.FieldType.int)) := ⟨List.mem_of_getElem? (i := 1107) (by decide +kernel), by decide +kernel⟩
theorem wm_L_94 : zW (.methodLink RL 94 yX8_sheet) := ⟨List.mem_of_getElem? (i := 1108) (by decide +kernel), by decide +kernel⟩
theorem wi_X8_sheet : zW (.instanceMethod yX8_sheet) := ⟨List.mem_of_getElem? (i := 1109) (by decide +kernel), by decide +kernel⟩
theorem ws_X8_sheet : zW (.selects RX8 yX8_sheet yX8_sheet) := ⟨List.mem_of_getElem? (i := 1110) (by decide +kernel), by decide +kernel⟩
theorem wc_X8_sheet : zW (.code yX8_sheet cX8_sheet 5 (some Jvm.ClassFile.FieldType.int)) := ⟨List.mem_of_getElem? (i := 1111) (by decide +kernel), by decide +kernel⟩
theorem wm_X8_239 : zW (.methodLink RX8 239 yX8_isSheet) := ⟨List.mem_of_getElem? (i := 1112) (by decide +kernel), by decide +kernel⟩
theorem wt_X8_isSheet : zW (.static yX8_isSheet) := ⟨List.mem_of_getElem? (i := 1113) (by decide +kernel), by decide +kernel⟩
theorem wc_X8_isSheet : zW (.code yX8_isSheet cX8_isSheet 1 (some Jvm.ClassFile.FieldType.boolean)) := ⟨List.mem_of_getElem? (i := 1114) (by decide +kernel), by decide +kernel⟩
theorem wm_L_98 : zW (.methodLink RL 98 yX8_drop) := ⟨List.mem_of_getElem? (i := 1115) (by decide +kernel), by decide +kernel⟩
theorem wi_X8_drop : zW (.instanceMethod yX8_drop) := ⟨List.mem_of_getElem? (i := 1116) (by decide +kernel), by decide +kernel⟩
theorem ws_X8_drop : zW (.selects RX8 yX8_drop yX8_drop) := ⟨List.mem_of_getElem? (i := 1117) (by decide +kernel), by decide +kernel⟩
theorem wc_X8_drop : zW (.code yX8_drop cX8_drop 2 (some Jvm.ClassFile.FieldType.int)) := ⟨List.mem_of_getElem? (i := 1118) (by decide +kernel), by decide +kernel⟩
theorem wm_L_105 : zW (.methodLink RL 105 yX8_item) := ⟨List.mem_of_getElem? (i := 1119) (by decide +kernel), by decide +kernel⟩
theorem wi_X8_item : zW (.instanceMethod yX8_item) := ⟨List.mem_of_getElem? (i := 1120) (by decide +kernel), by decide +kernel⟩
theorem ws_X8_item : zW (.selects RX8 yX8_item yX8_item) := ⟨List.mem_of_getElem? (i := 1121) (by decide +kernel), by decide +kernel⟩
theorem wc_X8_item : zW (.code yX8_item cX8_item 7 (some Jvm.ClassFile.FieldType.int)) := ⟨List.mem_of_getElem? (i := 1122) (by decide +kernel), by decide +kernel⟩
theorem wm_X8_242 : zW (.methodLink RX8 242 yX8_why) := ⟨List.mem_of_getElem? (i := 1123) (by decide +kernel), by decide +kernel⟩
theorem wi_X8_why : zW (.instanceMethod yX8_why) := ⟨List.mem_of_getElem? (i := 1125) (by decide +kernel), by decide +kernel⟩
theorem wc_X8_why : zW (.code yX8_why cX8_why 5 (some Jvm.ClassFile.FieldType.int)) := ⟨List.mem_of_getElem? (i := 1126) (by decide +kernel), by decide +kernel⟩
theorem wm_X8_245 : zW (.methodLink RX8 245 yX8_cut) := ⟨List.mem_of_getElem? (i := 1127) (by decide +kernel), by decide +kernel⟩
theorem wt_X8_cut : zW (.static yX8_cut) := ⟨List.mem_of_getElem? (i := 1128) (by decide +kernel), by decide +kernel⟩
theorem wc_X8_cut : zW (.code yX8_cut cX8_cut 3 (some Jvm.ClassFile.FieldType.long)) := ⟨List.mem_of_getElem? (i := 1129) (by decide +kernel), by decide +kernel⟩
theorem wm_L_109 : zW (.methodLink RL 109 yX8_copy) := ⟨List.mem_of_getElem? (i := 1130) (by decide +kernel), by decide +kernel⟩
theorem wi_X8_copy : zW (.instanceMethod yX8_copy) := ⟨List.mem_of_getElem? (i := 1131) (by decide +kernel), by decide +kernel⟩
theorem ws_X8_copy : zW (.selects RX8 yX8_copy yX8_copy) := ⟨List.mem_of_getElem? (i := 1132) (by decide +kernel), by decide +kernel⟩
theorem wc_X8_copy : zW (.code yX8_copy cX8_copy 7 (some Jvm.ClassFile.FieldType.int)) := ⟨List.mem_of_getElem? (i := 1133) (by decide +kernel), by decide +kernel⟩
theorem wm_L_85 : zW (.methodLink RL 85 yX8_play) := ⟨List.mem_of_getElem? (i := 1134) (by decide +kernel), by decide +kernel⟩
theorem wi_X8_play : zW (.instanceMethod yX8_play) := ⟨List.mem_of_getElem? (i := 1135) (by decide +kernel), by decide +kernel⟩
theorem ws_X8_play : zW (.selects RX8 yX8_play yX8_play) := ⟨List.mem_of_getElem? (i := 1136) (by decide +kernel), by decide +kernel⟩
theorem wc_X8_play : zW (.code yX8_play cX8_play 9 (some Jvm.ClassFile.FieldType.int)) := ⟨List.mem_of_getElem? (i := 1137) (by decide +kernel), by decide +kernel⟩
theorem wk_X8_249 : zW (.constantLong RX8 249 (24)) := ⟨List.mem_of_getElem? (i := 1138) (by decide +kernel), by decide +kernel⟩
theorem wm_L_90 : zW (.methodLink RL 90 yX8_film) := ⟨List.mem_of_getElem? (i := 1139) (by decide +kernel), by decide +kernel⟩
theorem wi_X8_film : zW (.instanceMethod yX8_film) := ⟨List.mem_of_getElem? (i := 1140) (by decide +kernel), by decide +kernel⟩
theorem ws_X8_film : zW (.selects RX8 yX8_film yX8_film) := ⟨List.mem_of_getElem? (i := 1141) (by decide +kernel), by decide +kernel⟩
theorem wc_X8_film : zW (.code yX8_film cX8_film 8 (some Jvm.ClassFile.FieldType.int)) := ⟨List.mem_of_getElem? (i := 1142) (by decide +kernel), by decide +kernel⟩
theorem wk_L_99 : zW (.constantLong RL 99 (4294967295)) := ⟨List.mem_of_getElem? (i := 1143) (by decide +kernel), by decide +kernel⟩
end
section
/-! ===== cells, contracts, calls, returns over V ===== -/
theorem zu_0 : ∀ w ∈ u_ws RX0 TX0 9, zW w := fun w h => ⟨(by decide +kernel : ∀ w ∈ u_ws RX0 TX0 9, w ∈ lw_tbl) w h, (by decide +kernel : ∀ w ∈ u_ws RX0 TX0 9, zgood w = true) w h⟩
theorem zu_1 : ∀ w ∈ u_ws RX1 TX1 13, zW w := fun w h => ⟨(by decide +kernel : ∀ w ∈ u_ws RX1 TX1 13, w ∈ lw_tbl) w h, (by decide +kernel : ∀ w ∈ u_ws RX1 TX1 13, zgood w = true) w h⟩
theorem zu_2 : ∀ w ∈ u_ws RX2 TX2 2, zW w := fun w h => ⟨(by decide +kernel : ∀ w ∈ u_ws RX2 TX2 2, w ∈ lw_tbl) w h, (by decide +kernel : ∀ w ∈ u_ws RX2 TX2 2, zgood w = true) w h⟩
theorem zu_3 : ∀ w ∈ u_ws RX3 TX3 5, zW w := fun w h => ⟨(by decide +kernel : ∀ w ∈ u_ws RX3 TX3 5, w ∈ lw_tbl) w h, (by decide +kernel : ∀ w ∈ u_ws RX3 TX3 5, zgood w = true) w h⟩
theorem zu_4 : ∀ w ∈ u_ws RX4 TX4 3, zW w := fun w h => ⟨(by decide +kernel : ∀ w ∈ u_ws RX4 TX4 3, w ∈ lw_tbl) w h, (by decide +kernel : ∀ w ∈ u_ws RX4 TX4 3, zgood w = true) w h⟩
theorem zu_5 : ∀ w ∈ u_ws RX5 TX5 3, zW w := fun w h => ⟨(by decide +kernel : ∀ w ∈ u_ws RX5 TX5 3, w ∈ lw_tbl) w h, (by decide +kernel : ∀ w ∈ u_ws RX5 TX5 3, zgood w = true) w h⟩
theorem zu_6 : ∀ w ∈ u_ws RX6 TX6 5, zW w := fun w h => ⟨(by decide +kernel : ∀ w ∈ u_ws RX6 TX6 5, w ∈ lw_tbl) w h, (by decide +kernel : ∀ w ∈ u_ws RX6 TX6 5, zgood w = true) w h⟩
theorem zu_7 : ∀ w ∈ u_ws RX7 TX7 7, zW w := fun w h => ⟨(by decide +kernel : ∀ w ∈ u_ws RX7 TX7 7, w ∈ lw_tbl) w h, (by decide +kernel : ∀ w ∈ u_ws RX7 TX7 7, zgood w = true) w h⟩
theorem zu_8 : ∀ w ∈ u_ws RX8 TX8 16, zW w := fun w h => ⟨(by decide +kernel : ∀ w ∈ u_ws RX8 TX8 16, w ∈ lw_tbl) w h, (by decide +kernel : ∀ w ∈ u_ws RX8 TX8 16, zgood w = true) w h⟩
theorem zu {ci : Nat} {r : vw_C} (h : vwCl[ci]? = some r) : ∀ w ∈ u_ws r.1 r.2.1 r.2.2, zW w := by
  match ci, h with
  | 0, h => cases h; exact zu_0
  | 1, h => cases h; exact zu_1
  | 2, h => cases h; exact zu_2
  | 3, h => cases h; exact zu_3
  | 4, h => cases h; exact zu_4
  | 5, h => cases h; exact zu_5
  | 6, h => cases h; exact zu_6
  | 7, h => cases h; exact zu_7
  | 8, h => cases h; exact zu_8
  | n + 9, h => simp [vwCl] at h
section ZM
variable {G : zG} {E : zE} {own : String} {cc : ByteArray} {nL fr lo pc : Nat} {lv : List (Option Value)} {st : List Value} {cs : List va_E}
theorem zC.t (C : zC G E own cc nL fr lo) : zT E.s := C.2.2.2.2.2.2.2.2.2
theorem zC.k (C : zC G E own cc nL fr lo) : va_K G.D vwCl (zty G.cy) E.s := C.2.2.2.2.2.2.2.2.1
theorem zC.w (C : zC G E own cc nL fr lo) {w : Cond} (h : zW w) : w.before E.args E.s = true := C.t w h _
theorem V_get (C : zC G E own cc nL fr lo) {T : u_T} {k ci N index : Nat} {Cn : String} (hw : zW (.fieldLink own index (T k).1 (T k).2.1 (T k).2.2.1)) (hc : vwCl[ci]? = some (Cn, T, N)) (hk : k < N) (hd : decode cc pc = .ok (.getfield index, 3)) {q : Nat} {fs : List Value} {v : Value} (he : cs[q]? = some (.inr (ci, fs))) (hv : fs[k]? = some v) (kk : V G E (pc + 3) lv (v :: st) cs) : V G E pc lv (.ref (G.ad q) :: st) cs :=
  fun H locs ls hl hP hD hS => va_get (D := G.D) (cl := vwCl) (Ts := u_ws Cn T N) C.1 C.2.1 (fun w h => C.w (zu hc w h)) (fun _ h => h) C.2.2.2.1 C.k hP q (zw_at he) hc k hk (C.w hw) (fun _ h => h) hv hd (kk H locs ls hl hP hD hS)
theorem V_getN (C : zC G E own cc nL fr lo) {T : u_T} {k ci N index : Nat} {Cn host : String} (hw : zW (.fieldLinkNest own index (T k).1 (T k).2.1 (T k).2.2.1 host)) (hc : vwCl[ci]? = some (Cn, T, N)) (hk : k < N) (hd : decode cc pc = .ok (.getfield index, 3)) {q : Nat} {fs : List Value} {v : Value} (he : cs[q]? = some (.inr (ci, fs))) (hv : fs[k]? = some v) (kk : V G E (pc + 3) lv (v :: st) cs) : V G E pc lv (.ref (G.ad q) :: st) cs :=
  fun H locs ls hl hP hD hS => va_getN (D := G.D) (cl := vwCl) (Ts := u_ws Cn T N) C.1 C.2.1 (fun w h => C.w (zu hc w h)) (fun _ h => h) C.2.2.2.1 C.k hP q (zw_at he) hc k hk (C.w hw) (fun _ h => h) hv hd (kk H locs ls hl hP hD hS)
theorem V_put (C : zC G E own cc nL fr lo) {T : u_T} {k ci N index : Nat} {Cn : String} {ty0 : Nat → FieldType} (hw : zW (.fieldLink own index (T k).1 (T k).2.1 (T k).2.2.1)) (hc : vwCl[ci]? = some (Cn, T, N)) (hty : ∀ k, k < N → parseFieldDescriptor (T k).2.2.1 = some (ty0 k)) (hnm : ∀ a, a < N → ∀ b, b < N → a ≠ b → (T a).2.1 ≠ (T b).2.1) (hk : k < N) (hfin : (T k).2.2.2 = false) {v : Value} (hn : narrow (ty0 k) v = v) (hfit : fits (ty0 k) v = true) (hd : decode cc pc = .ok (.putfield index, 3)) {q : Nat} {fs : List Value} (he : cs[q]? = some (.inr (ci, fs))) (hl9 : k < fs.length) (kk : V G E (pc + 3) lv st (cs.set q (.inr (ci, fs.set k v)))) : V G E pc lv (v :: .ref (G.ad q) :: st) cs :=
  fun H locs ls hl hP hD hS => va_put (D := G.D) (cl := vwCl) (Ts := u_ws Cn T N) C.1 C.2.1 (fun w h => C.w (zu hc w h)) (fun _ h => h) ty0 hty hnm C.2.2.2.1 C.k hP hD hS q (zw_at he) hc k hk (C.w hw) (fun _ h => h) hfin (hty k hk) hn hfit hl9 hd (fun H1 locs1 hP1 hD1 hS1 => kk H1 locs1 ls hl (by rw [zw_set] at hP1; exact hP1) (by rw [zw_set] at hD1; exact hD1) hS1)
theorem V_putN (C : zC G E own cc nL fr lo) {T : u_T} {k ci N index : Nat} {Cn host : String} {ty0 : Nat → FieldType} (hw : zW (.fieldLinkNest own index (T k).1 (T k).2.1 (T k).2.2.1 host)) (hc : vwCl[ci]? = some (Cn, T, N)) (hty : ∀ k, k < N → parseFieldDescriptor (T k).2.2.1 = some (ty0 k)) (hnm : ∀ a, a < N → ∀ b, b < N → a ≠ b → (T a).2.1 ≠ (T b).2.1) (hk : k < N) (hfin : (T k).2.2.2 = false) {v : Value} (hn : narrow (ty0 k) v = v) (hfit : fits (ty0 k) v = true) (hd : decode cc pc = .ok (.putfield index, 3)) {q : Nat} {fs : List Value} (he : cs[q]? = some (.inr (ci, fs))) (hl9 : k < fs.length) (kk : V G E (pc + 3) lv st (cs.set q (.inr (ci, fs.set k v)))) : V G E pc lv (v :: .ref (G.ad q) :: st) cs :=
  fun H locs ls hl hP hD hS => va_putN (D := G.D) (cl := vwCl) (Ts := u_ws Cn T N) C.1 C.2.1 (fun w h => C.w (zu hc w h)) (fun _ h => h) ty0 hty hnm C.2.2.2.1 C.k hP hD hS q (zw_at he) hc k hk (C.w hw) (fun _ h => h) hfin (hty k hk) hn hfit hl9 hd (fun H1 locs1 hP1 hD1 hS1 => kk H1 locs1 ls hl (by rw [zw_set] at hP1; exact hP1) (by rw [zw_set] at hD1; exact hD1) hS1)
/-- int, long and reference arrays -/
abbrev zI (G : zG) (n : Nat) (g : Int → Int) : va_E := .inl (G.cy 0, n, .inl (zf g))
abbrev zJ (G : zG) (n : Nat) (g : Int → Int) : va_E := .inl (G.cy 1, n, .inr (.inl (zg g)))
theorem V_iald (C : zC G E own cc nL fr lo) (hd : decode cc pc = .ok (.iaload, 1)) {q n : Nat} {g : Int → Int} {i : Int} (he : cs[q]? = some (zI G n g)) (h0 : 0 ≤ i) (h1 : i < n) (hn : n < 2147483648) (hg : ∀ k, rng (g k)) (kk : rng (g i) → V G E (pc + 1) lv (.int (iI (g i)) :: st) cs) : V G E pc lv (.int (iI i) :: .ref (G.ad q) :: st) cs :=
  fun H locs ls hl hP hD hS => va_iald (D := G.D) (cl := vwCl) (tys := zty G.cy) C.1 C.2.1 C.k hP q 0 (zw_at he) rfl (iI_in h0 h1 hn) hd (by rw [iI_clamp (by omega), zf_at g h0]; exact kk (hg i) H locs ls hl hP hD hS)
theorem V_lald (C : zC G E own cc nL fr lo) (hd : decode cc pc = .ok (.laload, 1)) {q n : Nat} {g : Int → Int} {i : Int} (he : cs[q]? = some (zJ G n g)) (h0 : 0 ≤ i) (h1 : i < n) (hn : n < 2147483648) (hg : ∀ k, rngL (g k)) (kk : rngL (g i) → V G E (pc + 1) lv (.long (lI (g i)) :: st) cs) : V G E pc lv (.int (iI i) :: .ref (G.ad q) :: st) cs :=
  fun H locs ls hl hP hD hS => va_lald (D := G.D) (cl := vwCl) (tys := zty G.cy) C.1 C.2.1 C.k hP q 1 (zw_at he) rfl (iI_in h0 h1 hn) hd (by rw [iI_clamp (by omega), zg_at g h0]; exact kk (hg i) H locs ls hl hP hD hS)
theorem V_iast (C : zC G E own cc nL fr lo) (hd : decode cc pc = .ok (.iastore, 1)) {q n : Nat} {g : Int → Int} {i v : Int} (he : cs[q]? = some (zI G n g)) (h0 : 0 ≤ i) (h1 : i < n) (hn : n < 2147483648) (kk : V G E (pc + 1) lv st (cs.set q (zI G n (zup g i v)))) : V G E pc lv (.int (iI v) :: .int (iI i) :: .ref (G.ad q) :: st) cs :=
  fun H locs ls hl hP hD hS => va_iast (D := G.D) (cl := vwCl) (tys := zty G.cy) C.1 C.2.1 C.k hP hD hS q 0 (zw_at he) rfl (iI_in h0 h1 hn) hd (fun H1 locs1 hP1 hD1 hS1 => by
    rw [iI_clamp (by omega), zf_upd g v h0, zw_set] at hP1 hD1
    exact kk H1 locs1 ls hl hP1 hD1 hS1)
theorem V_last (C : zC G E own cc nL fr lo) (hd : decode cc pc = .ok (.lastore, 1)) {q n : Nat} {g : Int → Int} {i v : Int} (he : cs[q]? = some (zJ G n g)) (h0 : 0 ≤ i) (h1 : i < n) (hn : n < 2147483648) (kk : V G E (pc + 1) lv st (cs.set q (zJ G n (zup g i v)))) : V G E pc lv (.long (lI v) :: .int (iI i) :: .ref (G.ad q) :: st) cs :=
  fun H locs ls hl hP hD hS => va_last (D := G.D) (cl := vwCl) (tys := zty G.cy) C.1 C.2.1 C.k hP hD hS q 1 (zw_at he) rfl (iI_in h0 h1 hn) hd (fun H1 locs1 hP1 hD1 hS1 => by
    rw [iI_clamp (by omega), zg_upd g v h0, zw_set] at hP1 hD1
    exact kk H1 locs1 ls hl hP1 hD1 hS1)
theorem iI_nat (n : Nat) : Int32.ofNat n = iI n := Int32.ofInt_eq_ofNat.symm
theorem V_alenI (C : zC G E own cc nL fr lo) (hd : decode cc pc = .ok (.arraylength, 1)) {q n : Nat} {g : Int → Int} (he : cs[q]? = some (zI G n g)) (kk : V G E (pc + 1) lv (.int (iI n) :: st) cs) : V G E pc lv (.ref (G.ad q) :: st) cs :=
  fun H locs ls hl hP hD hS => va_alen (D := G.D) (cl := vwCl) (tys := zty G.cy) C.1 C.2.1 C.k hP q 0 (zw_at he) rfl (iI_nat n) hd (kk H locs ls hl hP hD hS)
theorem V_alenJ (C : zC G E own cc nL fr lo) (hd : decode cc pc = .ok (.arraylength, 1)) {q n : Nat} {g : Int → Int} (he : cs[q]? = some (zJ G n g)) (kk : V G E (pc + 1) lv (.int (iI n) :: st) cs) : V G E pc lv (.ref (G.ad q) :: st) cs :=
  fun H locs ls hl hP hD hS => va_alen (D := G.D) (cl := vwCl) (tys := zty G.cy) C.1 C.2.1 C.k hP q 1 (zw_at he) rfl (iI_nat n) hd (kk H locs ls hl hP hD hS)
/-- System.arraycopy over ints, over longs -/
theorem V_copyI (C : zC G E own cc nL fr lo) {index : Nat} (hw : zW (.methodLink own index arraycopyName)) (hd : decode cc pc = .ok (.invokestatic index, 3)) {q0 q1 n0 n1 : Nat} {f g : Int → Int} {sp dp n : Int} (he0 : cs[q0]? = some (zI G n0 f)) (he1 : cs[q1]? = some (zI G n1 g)) (h1 : 0 ≤ sp) (h2 : 0 ≤ dp) (h3 : 0 ≤ n) (h4 : sp + n ≤ n0) (h5 : dp + n ≤ n1) (hn0 : n0 < 2147483648) (hn1 : n1 < 2147483648) (hfr : 1 ≤ fr) (hlo : (st.map fun v => v.category).sum + (nativeFrameWords "java/lang/System" "arraycopy" 5 + 11) ≤ lo) (kk : V G E (pc + 3) lv st (cs.set q1 (zI G n1 (zcp f g sp dp n)))) : V G E pc lv (.int (iI n) :: .int (iI dp) :: .ref (G.ad q1) :: .int (iI sp) :: .ref (G.ad q0) :: st) cs := by
  intro H locs ls hl hP hD hS
  have r1 : rng sp := by omega
  have r2 : rng dp := by omega
  have r3 : rng n := by omega
  refine va_copyi (D := G.D) (cl := vwCl) (tys := zty G.cy) C.1 C.2.1 hl.1.symm C.2.2.2.1 (C.w hw) (C.w wv_System_arraycopy) (C.w wt_System_arraycopy) (C.w wn_Sys) C.k hP hD hS q0 q1 0 0 (zw_at he0) (zw_at he1) rfl rfl rfl (fun h => ?_) (fun h => ?_) (fun h => ?_) ?_ ?_ (fun _ _ => rfl) (Nat.le_trans hfr C.2.2.2.2.1) (Nat.le_trans hlo C.2.2.2.2.2.1) hd (fun H1 locs1 hP1 hD1 hS1 => ?_)
  · exact absurd ((iI_lt (b := 0) r1 (by omega)).mp h) (by omega)
  · exact absurd ((iI_lt (b := 0) r2 (by omega)).mp h) (by omega)
  · exact absurd ((iI_lt (b := 0) r3 (by omega)).mp h) (by omega)
  · rw [iI_clamp r1, iI_clamp r3]; omega
  · rw [iI_clamp r2, iI_clamp r3]; omega
  · rw [iI_clamp r1, iI_clamp r2, iI_clamp r3, zf_cpy f g h1 h2 h3, zw_set] at hP1 hD1
    exact kk H1 locs1 ls hl hP1 hD1 hS1
theorem V_copyJ (C : zC G E own cc nL fr lo) {index : Nat} (hw : zW (.methodLink own index arraycopyName)) (hd : decode cc pc = .ok (.invokestatic index, 3)) {q0 q1 n0 n1 : Nat} {f g : Int → Int} {sp dp n : Int} (he0 : cs[q0]? = some (zJ G n0 f)) (he1 : cs[q1]? = some (zJ G n1 g)) (h1 : 0 ≤ sp) (h2 : 0 ≤ dp) (h3 : 0 ≤ n) (h4 : sp + n ≤ n0) (h5 : dp + n ≤ n1) (hn0 : n0 < 2147483648) (hn1 : n1 < 2147483648) (hfr : 1 ≤ fr) (hlo : (st.map fun v => v.category).sum + (nativeFrameWords "java/lang/System" "arraycopy" 5 + 11) ≤ lo) (kk : V G E (pc + 3) lv st (cs.set q1 (zJ G n1 (zcp f g sp dp n)))) : V G E pc lv (.int (iI n) :: .int (iI dp) :: .ref (G.ad q1) :: .int (iI sp) :: .ref (G.ad q0) :: st) cs := by
  intro H locs ls hl hP hD hS
  have r1 : rng sp := by omega
  have r2 : rng dp := by omega
  have r3 : rng n := by omega
  refine va_copyl (D := G.D) (cl := vwCl) (tys := zty G.cy) C.1 C.2.1 hl.1.symm C.2.2.2.1 (C.w hw) (C.w wv_System_arraycopy) (C.w wt_System_arraycopy) (C.w wn_Sys) C.k hP hD hS q0 q1 1 1 (zw_at he0) (zw_at he1) rfl rfl rfl (fun h => ?_) (fun h => ?_) (fun h => ?_) ?_ ?_ (fun _ _ => rfl) (Nat.le_trans hfr C.2.2.2.2.1) (Nat.le_trans hlo C.2.2.2.2.2.1) hd (fun H1 locs1 hP1 hD1 hS1 => ?_)
  · exact absurd ((iI_lt (b := 0) r1 (by omega)).mp h) (by omega)
  · exact absurd ((iI_lt (b := 0) r2 (by omega)).mp h) (by omega)
  · exact absurd ((iI_lt (b := 0) r3 (by omega)).mp h) (by omega)
  · rw [iI_clamp r1, iI_clamp r3]; omega
  · rw [iI_clamp r2, iI_clamp r3]; omega
  · rw [iI_clamp r1, iI_clamp r2, iI_clamp r3, zg_cpy f g h1 h2 h3, zw_set] at hP1 hD1
    exact kk H1 locs1 ls hl hP1 hD1 hS1
/-- Math.max, Math.min -/
theorem V_max (C : zC G E own cc nL fr lo) {index : Nat} (hw : zW (.methodLink own index Lib.Math.max.name)) (hd : decode cc pc = .ok (.invokestatic index, 3)) {a b : Int} (ha : rng a) (hb : rng b) (hfr : 1 ≤ fr) (hlo : (st.map fun v => v.category).sum + 13 ≤ lo) (kk : V G E (pc + 3) lv (.int (iI (max a b)) :: st) cs) : V G E pc lv (.int (iI b) :: .int (iI a) :: st) cs :=
  fun H locs ls hl hP hD hS => va_mmax C.1 C.2.1 hl.1.symm C.2.2.2.1 (C.w hw) (C.w wt_Math_max) (C.w wn_Math) (C.w wc_Math_max) (Nat.le_trans hfr C.2.2.2.2.1) (Nat.le_trans hlo C.2.2.2.2.2.1) C.2.2.2.2.2.2.1 C.2.2.2.2.2.2.2.1 hd (by
    have e : (if iI a < iI b then iI b else iI a) = iI (max a b) := by
      by_cases h : a < b
      · rw [if_pos ((iI_lt ha hb).mpr h), Int.max_eq_right (by omega)]
      · rw [if_neg (fun q => h ((iI_lt ha hb).mp q)), Int.max_eq_left (by omega)]
    rw [e]; exact kk H locs ls hl hP hD hS)
theorem V_min (C : zC G E own cc nL fr lo) {index : Nat} (hw : zW (.methodLink own index Lib.Math.min.name)) (hd : decode cc pc = .ok (.invokestatic index, 3)) {a b : Int} (ha : rng a) (hb : rng b) (hfr : 1 ≤ fr) (hlo : (st.map fun v => v.category).sum + 13 ≤ lo) (kk : V G E (pc + 3) lv (.int (iI (min a b)) :: st) cs) : V G E pc lv (.int (iI b) :: .int (iI a) :: st) cs :=
  fun H locs ls hl hP hD hS => va_mmin C.1 C.2.1 hl.1.symm C.2.2.2.1 (C.w hw) (C.w wt_Math_min) (C.w wn_Math) (C.w wc_Math_min) (Nat.le_trans hfr C.2.2.2.2.1) (Nat.le_trans hlo C.2.2.2.2.2.1) C.2.2.2.2.2.2.1 C.2.2.2.2.2.2.2.1 hd (by
    have e : (if iI b < iI a then iI b else iI a) = iI (min a b) := by
      by_cases h : b < a
      · rw [if_pos ((iI_lt hb ha).mpr h), Int.min_eq_right (by omega)]
      · rw [if_neg (fun q => h ((iI_lt hb ha).mp q)), Int.min_eq_left (by omega)]
    rw [e]; exact kk H locs ls hl hP hD hS)
-- contracts
def zQc (G : zG) (n : Nat) (Qr : Option Value → List va_E → Prop) : Array Value → State → Outcome → State → Prop := fun _ st oc t =>
  (∃ (r : Option Value) (cs' : List va_E), oc = .returned r ∧ Qr r cs' ∧ va_P G.D vwCl (zw G.ad cs') t.heap ∧ va_D (zA G.ad n) (zw G.ad cs')) ∧ va_F (zA G.ad n) st t
def zB (G : zG) (cs : List va_E) (U : State) : Prop := va_P G.D vwCl (zw G.ad cs) U.heap ∧ va_K G.D vwCl (zty G.cy) U ∧ zT U ∧ va_D (fun _ => True) (zw G.ad cs)
abbrev zrm (fr lo : Nat) : Room := { frames := fr, cells := 0, slots := 0, locals := lo }
def zMet (G : zG) (y : MethodName) (cc : ByteArray) (nL : Nat) (ret : Option FieldType) (fr lo : Nat) (av : List Value) (cs : List va_E) (Qr : Option Value → List va_E → Prop) : Prop :=
  Met G.l y [.code y cc nL ret] (zrm fr lo) (va_Pc av (zB G cs)) (zQc G cs.length Qr) 0 0 (zA G.ad cs.length)
def zR (G : zG) (E : zE) (ret : Option FieldType) (n : Nat) (Qr : Option Value → List va_E → Prop) : Prop :=
  E.meth.sig.returnType = ret ∧ E.meth.locks = false ∧ E.cells = 0 ∧ E.slots = 0 ∧ E.A = zA G.ad n ∧ E.Q = MQ E.below (zQc G n Qr) E.args E.s 0 0 (zA G.ad n)
theorem zpl_args : ∀ (av : List Value) (k : Nat) (r : List (Option Value)), (∀ q ∈ r, q = none) → zpl k (av.flatMap (fun v => if v.category = 2 then [some v, none] else [some v]) ++ r) = lv_args k av
  | [], k, r, h => by
    simp only [List.flatMap_nil, List.nil_append, lv_args]
    induction r generalizing k with
    | nil => rfl
    | cons a l ih =>
      have := h a List.mem_cons_self
      subst this
      exact ih (k + 1) (fun q hq => h q (List.mem_cons_of_mem _ hq))
  | v :: t, k, r, h => by
    rw [List.flatMap_cons, List.append_assoc, lv_args]
    by_cases hc : v.category = 2
    · rw [if_pos hc, if_pos hc]
      exact congrArg (List.cons (k, v)) (zpl_args t (k + 2) r h)
    · rw [if_neg hc, if_neg hc]
      exact congrArg (List.cons (k, v)) (zpl_args t (k + 1) r h)
theorem zent_has (av : List Value) {n : Nat} (h : (lg_sl av).length ≤ n) : zls ((lg_sl av ++ List.replicate (n - (lg_sl av).length) Slot.unset).toArray) n (zent av n) := by
  have e : zpl 0 (zent av n) = lv_args 0 av := zpl_args av 0 _ (fun q hq => (List.mem_replicate.mp hq).2)
  unfold zls
  rw [e]
  exact lv_entry av h
theorem va_D_in {A : Nat → Prop} {ad : Nat → Nat} {cs : List va_E} (h : va_D A (zw ad cs)) {k : Nat} (hk : k < cs.length) : A (ad k) := h.2 k (ad k, cs[k]) (zw_at (List.getElem?_eq_getElem hk))
theorem zMet.of {y : MethodName} {ret : Option FieldType} {av : List Value} {Qr : Option Value → List va_E → Prop} (hy : plainName y.cls = true) (ha : (lg_sl av).length ≤ nL) (h : ∀ E : zE, zC G E y.cls cc nL fr lo → zR G E ret cs.length Qr → V G E 0 (zent av nL) [] cs) : zMet G y cc nL ret fr lo av cs Qr := by
  refine Met.ofW (cc := cc) (maxL := nL) (ret := ret) hy rfl ?_
  intro p e s m args below meth c s₁ B hml hv
  obtain ⟨rfl, hP, hK, hT, hD⟩ := hv
  have key := h (p, e, zrm fr lo, s, m, av.toArray, below, meth, c, 0, 0, MQ below (zQc G cs.length Qr) av.toArray s 0 0 (zA G.ad cs.length), zA G.ad cs.length) ⟨B.exec, B.bytes, hml, findClass_of_methodNamed B.named, Nat.le_refl _, Nat.le_refl _, Nat.zero_le _, Nat.zero_le _, hK, hT⟩ ⟨B.returns, B.notSynchronized, rfl, rfl, rfl, rfl⟩
  rw [lg_entry_eq]
  have hz := zent_has av ha
  rw [← hml] at hz
  have hz2 : zls ((lg_sl av ++ List.replicate (nL - (lg_sl av).length) Slot.unset).toArray) c.maxLocals (zent av nL) := by rw [hml] at hz ⊢; exact hz
  exact key s.heap [] _ hz2 hP ⟨hD.1, fun k q hq => by
    rw [zw_get] at hq
    obtain ⟨e0, h1, h2⟩ := Option.map_eq_some_iff.mp hq
    subst h2
    exact ⟨k, (List.getElem?_eq_some_iff.mp h1).1, rfl⟩⟩ va_S.rf
-- returns
theorem zQc.mk {n : Nat} {Qr : Option Value → List va_E → Prop} {H : Heap} {locs : List Loc} {r : Option Value} {ret : Option FieldType} (R : zR G E ret n Qr) (hq : Qr r cs) (hP : va_P G.D vwCl (zw G.ad cs) H) (hD : va_D E.A (zw G.ad cs)) (hS : va_S E.A E.s.heap H locs) : ∀ t : State, t.heap = H → zQc G n Qr E.args E.s (.returned r) t := by
  intro t ht
  rw [R.2.2.2.2.1] at hD hS
  exact ⟨⟨r, cs, rfl, hq, by rw [ht]; exact hP, hD⟩, hS.F ht⟩
theorem V_iret (C : zC G E own cc nL fr lo) {n : Nat} {Qr : Option Value → List va_E → Prop} (R : zR G E (some .int) n Qr) (hd : decode cc pc = .ok (.ireturn, 1)) {v : Int32} (hq : Qr (some (.int v)) cs) : V G E pc lv [.int v] cs := by
  intro H locs ls hl hP hD hS
  have hb := C.2.1
  rw [R.2.2.1, R.2.2.2.1, R.2.2.2.2.2]
  exact W.iret C.1 hb R.1 (fun t ht _ => zQc.mk R hq hP hD hS t ht) (fun q h => by have := hS.2.2 q h; rw [R.2.2.2.2.1] at this; exact this) hd R.2.1
theorem V_zret (C : zC G E own cc nL fr lo) {n : Nat} {Qr : Option Value → List va_E → Prop} (R : zR G E (some .boolean) n Qr) (hd : decode cc pc = .ok (.ireturn, 1)) {z : Int} (hz : z = 0 ∨ z = 1) (hq : Qr (some (.int (iI z))) cs) : V G E pc lv [.int (iI z)] cs := by
  intro H locs ls hl hP hD hS
  rw [R.2.2.1, R.2.2.2.1, R.2.2.2.2.2]
  exact W.zret (ty := .boolean) C.1 C.2.1 R.1 (by rcases hz with rfl | rfl <;> rfl) (fun t ht _ => zQc.mk R hq hP hD hS t ht) (fun q h => by have := hS.2.2 q h; rw [R.2.2.2.2.1] at this; exact this) hd R.2.1
theorem V_vret (C : zC G E own cc nL fr lo) {n : Nat} {Qr : Option Value → List va_E → Prop} (R : zR G E none n Qr) (hd : decode cc pc = .ok (.return_, 1)) (hq : Qr none cs) : V G E pc lv [] cs := by
  intro H locs ls hl hP hD hS
  rw [R.2.2.1, R.2.2.2.1, R.2.2.2.2.2]
  exact W.vret C.1 C.2.1 R.1 (fun t ht _ => zQc.mk R hq hP hD hS t ht) (fun q h => by have := hS.2.2 q h; rw [R.2.2.2.2.1] at this; exact this) hd R.2.1
theorem V_lret (C : zC G E own cc nL fr lo) {n : Nat} {Qr : Option Value → List va_E → Prop} (R : zR G E (some .long) n Qr) (hd : decode cc pc = .ok (.lreturn, 1)) {v : Int64} (hq : Qr (some (.long v)) cs) : V G E pc lv [.long v] cs := by
  intro H locs ls hl hP hD hS
  rw [R.2.2.1, R.2.2.2.1, R.2.2.2.2.2]
  exact W.lret C.1 C.2.1 R.1 (fun t ht _ => zQc.mk R hq hP hD hS t ht) (fun q h => by have := hS.2.2 q h; rw [R.2.2.2.2.1] at this; exact this) hd R.2.1
theorem V_aret (C : zC G E own cc nL fr lo) {n : Nat} {Qr : Option Value → List va_E → Prop} {cn : String} (R : zR G E (some (.object cn)) n Qr) (hd : decode cc pc = .ok (.areturn, 1)) {v : Value} (hv : v = .null ∨ ∃ a, v = .ref a) (hq : Qr (some v) cs) : V G E pc lv [v] cs := by
  intro H locs ls hl hP hD hS
  rw [R.2.2.1, R.2.2.2.1, R.2.2.2.2.2]
  exact W.aret C.1 C.2.1 R.1 (Or.inl ⟨_, rfl⟩) hv (fun t ht _ => zQc.mk R hq hP hD hS t ht) (fun q h => by have := hS.2.2 q h; rw [R.2.2.2.2.1] at this; exact this) hd R.2.1
-- calls
theorem zB_blind (av : List Value) : FrameBlind (va_Pc av (zB G cs)) := fun _ U _ _ h => ⟨h.1, h.2.1, va_K.moved (u := U) (Vm.Alike.refl U.vm) h.2.2.1, zT_warm (s := U) (State.WarmedH.refl U) h.2.2.2.1, h.2.2.2.2⟩
theorem zB_at (C : zC G E own cc nL fr lo) {H : Heap} (hP : va_P G.D vwCl (zw G.ad cs) H) (hD : va_D E.A (zw G.ad cs)) {av : List Value} (U : State) (hU : U.heap = H) (hW : E.s.WarmedH U.vm) : va_Pc av (zB G cs) av.toArray U := ⟨rfl, by rw [hU]; exact hP, va_K.moved hW.alike C.k, zT_warm hW C.t, hD.weaken (fun _ _ _ _ => trivial)⟩
theorem V_ran {Qr : Option Value → List va_E → Prop} {av : Array Value} {H : Heap} {locs : List Loc} {ls : Array Slot} {stk : List Value} (hr : va_Run E.p G.l E.e E.R E.s E.m E.args E.below E.meth E.c H locs E.cells E.slots 0 0 (F0 E.m pc ls stk) st (zQc G cs.length Qr av) (zA G.ad cs.length)) (hl : zls ls E.c.maxLocals lv) (hD : va_D E.A (zw G.ad cs)) (hS : va_S E.A E.s.heap H locs) (k : ∀ r cs', Qr r cs' → V G E (pc + 3) lv (r.toList ++ st) cs') : W E.p G.l E.e E.R E.s E.m E.args E.below E.meth E.c H locs E.cells E.slots E.Q (F0 E.m pc ls stk) := by
  intro T hT X
  obtain ⟨v, st₀, t, T', L, h0, X', hL, e1, e2, ⟨⟨r, cs', hv, hq, hP', hD'⟩, hz, hk⟩, stp⟩ := hr T hT X
  cases hv
  rw [h0] at hz hk
  have hA : ∀ q, zA G.ad cs.length q → E.A q := fun q ⟨j, hj, e⟩ => by rw [e]; exact va_D_in hD hj
  have hS' : va_S E.A E.s.heap T'.heap (locs ++ L) := ⟨Nat.le_trans hS.1 (by rw [e1]; exact hz), fun q h1 h2 => by rw [e1, hk q (Nat.lt_of_lt_of_le h1 hS.1) (fun z => h2 (hA q z))]; exact hS.2.1 q h1 h2, fun q hq => by
      rcases List.mem_append.mp hq with h | h
      · exact hS.2.2 q h
      · exact hA _ (hL q h)⟩
  obtain ⟨t2, a1, b1⟩ := k v cs' hq T'.heap (locs ++ L) ls hl (by rw [e1]; exact hP') (hD'.weaken (fun _ _ _ h => hA _ h)) hS' T' rfl X'
  exact ⟨t2, stp t2 a1, b1⟩
abbrev zPl (y : MethodName) (n : Nat) : Prop := y.cls ≠ "java/lang/invoke/MethodHandle" ∧ y.cls ≠ "java/lang/invoke/VarHandle" ∧ (parseMethodDescriptor y.desc).map (fun d => d.parameters.length) = some n
/-- a link of a call: virtual, virtual to a nest mate, static, static of a nest mate -/
abbrev zLV (own : String) (index : Nat) (y : MethodName) (bytes : ByteArray) (maxL : Nat) (ret : Option FieldType) (n : Nat) : Prop := zW (.methodLink own index y) ∧ zW (.instanceMethod y) ∧ zW (.selects y.cls y y) ∧ zW (.initialized y.cls) ∧ zW (.code y bytes maxL ret) ∧ zPl y n
abbrev zLN (own : String) (index : Nat) (y : MethodName) (bytes : ByteArray) (maxL : Nat) (ret : Option FieldType) (n : Nat) (host : String) : Prop := zW (.methodLinkNest own index y host) ∧ zW (.instanceMethod y) ∧ zW (.selects y.cls y y) ∧ zW (.initialized y.cls) ∧ zW (.code y bytes maxL ret) ∧ zPl y n
abbrev zLS (own : String) (index : Nat) (y : MethodName) (bytes : ByteArray) (maxL : Nat) (ret : Option FieldType) (n : Nat) : Prop := zW (.methodLink own index y) ∧ zW (.static y) ∧ zW (.initialized y.cls) ∧ zW (.code y bytes maxL ret) ∧ zPl y n
theorem zT.all {s : State} (h : zT s) {w : Cond} (hw : zW w) : ∀ (a' : Array Value) (U : State), s.WarmedH U.vm → w.before a' U = true := fun a' _ hW => zT_warm hW h w hw a'
variable {y : MethodName} {bytes : ByteArray} {maxL : Nat} {ret : Option FieldType} {fr' lo' : Nat} {As stk : List Value} {Qr : Option Value → List va_E → Prop} {index n q ci : Nat} {fs : List Value} {T : u_T} {N : Nat}
theorem V_callV (C : zC G E own cc nL fr lo) (L : zLV own index y bytes maxL ret n) (M : zMet G y bytes maxL ret fr' lo' (.ref (G.ad q) :: As) cs Qr) (hd : decode cc pc = .ok (.invokevirtual index, 3)) (hst : stk = As.reverse ++ .ref (G.ad q) :: st) (hn : As.length = n) (he : cs[q]? = some (.inr (ci, fs))) (hc : vwCl[ci]? = some (y.cls, T, N)) (hroom : fr' + 1 ≤ fr ∧ 8 + (maxL + 11) + lo' ≤ lo) (hcat : (st.map fun v => v.category).sum ≤ 8) (k : ∀ r cs', Qr r cs' → V G E (pc + 3) lv (r.toList ++ st) cs') : V G E pc lv stk cs := by
  intro H locs ls hl hP hD hS
  refine V_ran (va_runV (Ts := []) (C := y.cls) ⟨C.1, C.2.1, C.2.2.1, C.2.2.2.1, fun w h => absurd h List.not_mem_nil⟩ M (bytes := bytes) (maxL := maxL) (ret := ret) (n := n) ⟨⟨rfl, rfl, Nat.le_trans hroom.1 C.2.2.2.2.1, Nat.le_trans hroom.2 C.2.2.2.2.2.1, ?_, List.mem_cons_self, C.w L.2.2.2.2.1, C.w L.2.2.2.1, ⟨L.2.2.2.2.2.1, L.2.2.2.2.2.2.1⟩, ?_, C.w L.1⟩, C.w L.2.1, C.w L.2.2.1⟩ ⟨zB_blind _, va_recv C.k hP hc (zw_at he), fun U hU hW => zB_at C hP hD U hU hW⟩ rfl hn (by rw [← C.2.2.1]; exact hl.1) hst (lv_room hcat) hd ⟨C.2.2.2.2.2.2.1, C.2.2.2.2.2.2.2.1⟩) hl hD hS k
  · intro w hw a' U hW
    rw [List.mem_singleton] at hw
    subst hw
    exact C.t.all L.2.2.2.2.1 a' U hW
  · intro sig h
    have h2 := L.2.2.2.2.2.2.2
    rw [h] at h2
    exact (Option.some.inj h2).symm
theorem V_callN (C : zC G E own cc nL fr lo) {host : String} (L : zLN own index y bytes maxL ret n host) (M : zMet G y bytes maxL ret fr' lo' (.ref (G.ad q) :: As) cs Qr) (hd : decode cc pc = .ok (.invokevirtual index, 3)) (hst : stk = As.reverse ++ .ref (G.ad q) :: st) (hn : As.length = n) (he : cs[q]? = some (.inr (ci, fs))) (hc : vwCl[ci]? = some (y.cls, T, N)) (hroom : fr' + 1 ≤ fr ∧ 8 + (maxL + 11) + lo' ≤ lo) (hcat : (st.map fun v => v.category).sum ≤ 8) (k : ∀ r cs', Qr r cs' → V G E (pc + 3) lv (r.toList ++ st) cs') : V G E pc lv stk cs := by
  intro H locs ls hl hP hD hS
  refine V_ran (va_runVN (Ts := []) (C := y.cls) (host := host) ⟨C.1, C.2.1, C.2.2.1, C.2.2.2.1, fun w h => absurd h List.not_mem_nil⟩ M (bytes := bytes) (maxL := maxL) (ret := ret) (n := n) ⟨⟨⟨rfl, rfl, Nat.le_trans hroom.1 C.2.2.2.2.1, Nat.le_trans hroom.2 C.2.2.2.2.2.1, ?_, List.mem_cons_self⟩, C.w L.2.2.2.2.1, C.w L.2.2.2.1, ⟨L.2.2.2.2.2.1, L.2.2.2.2.2.2.1⟩, ?_, C.w L.1⟩, C.w L.2.1, C.w L.2.2.1⟩ ⟨zB_blind _, va_recv C.k hP hc (zw_at he), fun U hU hW => zB_at C hP hD U hU hW⟩ rfl hn (by rw [← C.2.2.1]; exact hl.1) hst (lv_room hcat) hd ⟨C.2.2.2.2.2.2.1, C.2.2.2.2.2.2.2.1⟩) hl hD hS k
  · intro w hw a' U hW
    rw [List.mem_singleton] at hw
    subst hw
    exact C.t.all L.2.2.2.2.1 a' U hW
  · intro sig h
    have h2 := L.2.2.2.2.2.2.2
    rw [h] at h2
    exact (Option.some.inj h2).symm
theorem V_callS (C : zC G E own cc nL fr lo) (L : zLS own index y bytes maxL ret n) (M : zMet G y bytes maxL ret fr' lo' As cs Qr) (hd : decode cc pc = .ok (.invokestatic index, 3)) (hst : stk = As.reverse ++ st) (hn : As.length = n) (hroom : fr' + 1 ≤ fr ∧ 8 + (maxL + 11) + lo' ≤ lo) (hcat : (st.map fun v => v.category).sum ≤ 8) (k : ∀ r cs', Qr r cs' → V G E (pc + 3) lv (r.toList ++ st) cs') : V G E pc lv stk cs := by
  intro H locs ls hl hP hD hS
  refine V_ran (va_runS (Ts := []) ⟨C.1, C.2.1, C.2.2.1, C.2.2.2.1, fun w h => absurd h List.not_mem_nil⟩ M (bytes := bytes) (maxL := maxL) (ret := ret) (n := n) ⟨⟨rfl, rfl, Nat.le_trans hroom.1 C.2.2.2.2.1, Nat.le_trans hroom.2 C.2.2.2.2.2.1, ?_, List.mem_cons_self, C.w L.2.2.2.1, C.w L.2.2.1, ⟨L.2.2.2.2.1, L.2.2.2.2.2.1⟩, ?_, C.w L.1⟩, C.w L.2.1⟩ ⟨zB_blind _, fun U hU hW => zB_at C hP hD U hU hW⟩ rfl hn (by rw [← C.2.2.1]; exact hl.1) hst (lv_room hcat) hd ⟨C.2.2.2.2.2.2.1, C.2.2.2.2.2.2.2.1⟩) hl hD hS k
  · intro w hw a' U hW
    rw [List.mem_singleton] at hw
    subst hw
    exact C.t.all L.2.2.2.1 a' U hW
  · intro sig h
    have h2 := L.2.2.2.2.2.2
    rw [h] at h2
    exact (Option.some.inj h2).symm
/-- what a contract's end says, with one answer and one world -/
abbrev zO (v : Value) (cs1 : List va_E) : Option Value → List va_E → Prop := fun r cs' => r = some v ∧ cs' = cs1
abbrev zO0 (cs1 : List va_E) : Option Value → List va_E → Prop := fun r cs' => r = none ∧ cs' = cs1
theorem kO {v : Value} {cs1 : List va_E} (k : V G E pc lv (v :: st) cs1) : ∀ r cs', zO v cs1 r cs' → V G E pc lv (r.toList ++ st) cs' := fun r cs' h => by rw [h.1, h.2]; exact k
theorem kO0 {cs1 : List va_E} (k : V G E pc lv st cs1) : ∀ r cs', zO0 cs1 r cs' → V G E pc lv (r.toList ++ st) cs' := fun r cs' h => by rw [h.1, h.2]; exact k
end ZM
end
section
theorem vg_X7_9 {G : zG} {E : zE} {cc : ByteArray} {nL fr lo pc : Nat} {lv : List (Option Value)} {st : List Value} {cs : List va_E} (C : zC G E RX7 cc nL fr lo) (hd : decode cc pc = .ok (.getfield 9, 3)) {q : Nat} {fs : List Value} {v : Value} (he : cs[q]? = some (.inr (7, fs))) (hv : fs[0]? = some v) (kk : V G E (pc + 3) lv (v :: st) cs) : V G E pc lv (.ref (G.ad q) :: st) cs := V_get C wf_X7_9 rfl (by decide) hd he hv kk
theorem vg_X7_16 {G : zG} {E : zE} {cc : ByteArray} {nL fr lo pc : Nat} {lv : List (Option Value)} {st : List Value} {cs : List va_E} (C : zC G E RX7 cc nL fr lo) (hd : decode cc pc = .ok (.getfield 16, 3)) {q : Nat} {fs : List Value} {v : Value} (he : cs[q]? = some (.inr (7, fs))) (hv : fs[2]? = some v) (kk : V G E (pc + 3) lv (v :: st) cs) : V G E pc lv (.ref (G.ad q) :: st) cs := V_get C wf_X7_16 rfl (by decide) hd he hv kk
theorem vg_X7_20 {G : zG} {E : zE} {cc : ByteArray} {nL fr lo pc : Nat} {lv : List (Option Value)} {st : List Value} {cs : List va_E} (C : zC G E RX7 cc nL fr lo) (hd : decode cc pc = .ok (.getfield 20, 3)) {q : Nat} {fs : List Value} {v : Value} (he : cs[q]? = some (.inr (7, fs))) (hv : fs[3]? = some v) (kk : V G E (pc + 3) lv (v :: st) cs) : V G E pc lv (.ref (G.ad q) :: st) cs := V_get C wf_X7_20 rfl (by decide) hd he hv kk
theorem vg_X7_26 {G : zG} {E : zE} {cc : ByteArray} {nL fr lo pc : Nat} {lv : List (Option Value)} {st : List Value} {cs : List va_E} (C : zC G E RX7 cc nL fr lo) (hd : decode cc pc = .ok (.getfield 26, 3)) {q : Nat} {fs : List Value} {v : Value} (he : cs[q]? = some (.inr (7, fs))) (hv : fs[5]? = some v) (kk : V G E (pc + 3) lv (v :: st) cs) : V G E pc lv (.ref (G.ad q) :: st) cs := V_get C wf_X7_26 rfl (by decide) hd he hv kk
theorem vg_X7_32 {G : zG} {E : zE} {cc : ByteArray} {nL fr lo pc : Nat} {lv : List (Option Value)} {st : List Value} {cs : List va_E} (C : zC G E RX7 cc nL fr lo) (hd : decode cc pc = .ok (.getfield 32, 3)) {q : Nat} {fs : List Value} {v : Value} (he : cs[q]? = some (.inr (7, fs))) (hv : fs[6]? = some v) (kk : V G E (pc + 3) lv (v :: st) cs) : V G E pc lv (.ref (G.ad q) :: st) cs := V_get C wf_X7_32 rfl (by decide) hd he hv kk
theorem vg_X7_41 {G : zG} {E : zE} {cc : ByteArray} {nL fr lo pc : Nat} {lv : List (Option Value)} {st : List Value} {cs : List va_E} (C : zC G E RX7 cc nL fr lo) (hd : decode cc pc = .ok (.getfield 41, 3)) {q : Nat} {fs : List Value} {v : Value} (he : cs[q]? = some (.inr (7, fs))) (hv : fs[1]? = some v) (kk : V G E (pc + 3) lv (v :: st) cs) : V G E pc lv (.ref (G.ad q) :: st) cs := V_get C wf_X7_41 rfl (by decide) hd he hv kk
theorem vp_X7_41 {G : zG} {E : zE} {cc : ByteArray} {nL fr lo pc : Nat} {lv : List (Option Value)} {st : List Value} {cs : List va_E} (C : zC G E RX7 cc nL fr lo) (hd : decode cc pc = .ok (.putfield 41, 3)) {q : Nat} {fs : List Value} {x : Int32} (he : cs[q]? = some (.inr (7, fs))) (hl : 1 < fs.length) (kk : V G E (pc + 3) lv st (cs.set q (.inr (7, fs.set 1 (.int x))))) : V G E pc lv (.int x :: .ref (G.ad q) :: st) cs := V_put C wf_X7_41 rfl tyX7_ok nmX7 (by decide) rfl rfl rfl hd he hl kk
theorem vg_X7_49 {G : zG} {E : zE} {cc : ByteArray} {nL fr lo pc : Nat} {lv : List (Option Value)} {st : List Value} {cs : List va_E} (C : zC G E RX7 cc nL fr lo) (hd : decode cc pc = .ok (.getfield 49, 3)) {q : Nat} {fs : List Value} {v : Value} (he : cs[q]? = some (.inr (1, fs))) (hv : fs[0]? = some v) (kk : V G E (pc + 3) lv (v :: st) cs) : V G E pc lv (.ref (G.ad q) :: st) cs := V_getN C wf_X7_49 rfl (by decide) hd he hv kk
theorem vg_X7_53 {G : zG} {E : zE} {cc : ByteArray} {nL fr lo pc : Nat} {lv : List (Option Value)} {st : List Value} {cs : List va_E} (C : zC G E RX7 cc nL fr lo) (hd : decode cc pc = .ok (.getfield 53, 3)) {q : Nat} {fs : List Value} {v : Value} (he : cs[q]? = some (.inr (5, fs))) (hv : fs[1]? = some v) (kk : V G E (pc + 3) lv (v :: st) cs) : V G E pc lv (.ref (G.ad q) :: st) cs := V_getN C wf_X7_53 rfl (by decide) hd he hv kk
theorem vp_X7_53 {G : zG} {E : zE} {cc : ByteArray} {nL fr lo pc : Nat} {lv : List (Option Value)} {st : List Value} {cs : List va_E} (C : zC G E RX7 cc nL fr lo) (hd : decode cc pc = .ok (.putfield 53, 3)) {q : Nat} {fs : List Value} {x : Int32} (he : cs[q]? = some (.inr (5, fs))) (hl : 1 < fs.length) (kk : V G E (pc + 3) lv st (cs.set q (.inr (5, fs.set 1 (.int x))))) : V G E pc lv (.int x :: .ref (G.ad q) :: st) cs := V_putN C wf_X7_53 rfl tyX5_ok nmX5 (by decide) rfl rfl rfl hd he hl kk
theorem vg_X7_65 {G : zG} {E : zE} {cc : ByteArray} {nL fr lo pc : Nat} {lv : List (Option Value)} {st : List Value} {cs : List va_E} (C : zC G E RX7 cc nL fr lo) (hd : decode cc pc = .ok (.getfield 65, 3)) {q : Nat} {fs : List Value} {v : Value} (he : cs[q]? = some (.inr (1, fs))) (hv : fs[6]? = some v) (kk : V G E (pc + 3) lv (v :: st) cs) : V G E pc lv (.ref (G.ad q) :: st) cs := V_getN C wf_X7_65 rfl (by decide) hd he hv kk
theorem vp_X7_65 {G : zG} {E : zE} {cc : ByteArray} {nL fr lo pc : Nat} {lv : List (Option Value)} {st : List Value} {cs : List va_E} (C : zC G E RX7 cc nL fr lo) (hd : decode cc pc = .ok (.putfield 65, 3)) {q : Nat} {fs : List Value} {x : Int32} (he : cs[q]? = some (.inr (1, fs))) (hl : 6 < fs.length) (kk : V G E (pc + 3) lv st (cs.set q (.inr (1, fs.set 6 (.int x))))) : V G E pc lv (.int x :: .ref (G.ad q) :: st) cs := V_putN C wf_X7_65 rfl tyX1_ok nmX1 (by decide) rfl rfl rfl hd he hl kk
theorem vg_X7_68 {G : zG} {E : zE} {cc : ByteArray} {nL fr lo pc : Nat} {lv : List (Option Value)} {st : List Value} {cs : List va_E} (C : zC G E RX7 cc nL fr lo) (hd : decode cc pc = .ok (.getfield 68, 3)) {q : Nat} {fs : List Value} {v : Value} (he : cs[q]? = some (.inr (1, fs))) (hv : fs[5]? = some v) (kk : V G E (pc + 3) lv (v :: st) cs) : V G E pc lv (.ref (G.ad q) :: st) cs := V_getN C wf_X7_68 rfl (by decide) hd he hv kk
theorem vg_X7_71 {G : zG} {E : zE} {cc : ByteArray} {nL fr lo pc : Nat} {lv : List (Option Value)} {st : List Value} {cs : List va_E} (C : zC G E RX7 cc nL fr lo) (hd : decode cc pc = .ok (.getfield 71, 3)) {q : Nat} {fs : List Value} {v : Value} (he : cs[q]? = some (.inr (1, fs))) (hv : fs[7]? = some v) (kk : V G E (pc + 3) lv (v :: st) cs) : V G E pc lv (.ref (G.ad q) :: st) cs := V_getN C wf_X7_71 rfl (by decide) hd he hv kk
theorem vg_X7_74 {G : zG} {E : zE} {cc : ByteArray} {nL fr lo pc : Nat} {lv : List (Option Value)} {st : List Value} {cs : List va_E} (C : zC G E RX7 cc nL fr lo) (hd : decode cc pc = .ok (.getfield 74, 3)) {q : Nat} {fs : List Value} {v : Value} (he : cs[q]? = some (.inr (5, fs))) (hv : fs[2]? = some v) (kk : V G E (pc + 3) lv (v :: st) cs) : V G E pc lv (.ref (G.ad q) :: st) cs := V_getN C wf_X7_74 rfl (by decide) hd he hv kk
theorem vp_X7_74 {G : zG} {E : zE} {cc : ByteArray} {nL fr lo pc : Nat} {lv : List (Option Value)} {st : List Value} {cs : List va_E} (C : zC G E RX7 cc nL fr lo) (hd : decode cc pc = .ok (.putfield 74, 3)) {q : Nat} {fs : List Value} {x : Int32} (he : cs[q]? = some (.inr (5, fs))) (hl : 2 < fs.length) (kk : V G E (pc + 3) lv st (cs.set q (.inr (5, fs.set 2 (.int x))))) : V G E pc lv (.int x :: .ref (G.ad q) :: st) cs := V_putN C wf_X7_74 rfl tyX5_ok nmX5 (by decide) rfl rfl rfl hd he hl kk
theorem vg_X7_77 {G : zG} {E : zE} {cc : ByteArray} {nL fr lo pc : Nat} {lv : List (Option Value)} {st : List Value} {cs : List va_E} (C : zC G E RX7 cc nL fr lo) (hd : decode cc pc = .ok (.getfield 77, 3)) {q : Nat} {fs : List Value} {v : Value} (he : cs[q]? = some (.inr (1, fs))) (hv : fs[9]? = some v) (kk : V G E (pc + 3) lv (v :: st) cs) : V G E pc lv (.ref (G.ad q) :: st) cs := V_getN C wf_X7_77 rfl (by decide) hd he hv kk
theorem vp_X7_77 {G : zG} {E : zE} {cc : ByteArray} {nL fr lo pc : Nat} {lv : List (Option Value)} {st : List Value} {cs : List va_E} (C : zC G E RX7 cc nL fr lo) (hd : decode cc pc = .ok (.putfield 77, 3)) {q : Nat} {fs : List Value} {z : Int} (he : cs[q]? = some (.inr (1, fs))) (hl : 9 < fs.length) (hz : z = 0 ∨ z = 1) (kk : V G E (pc + 3) lv st (cs.set q (.inr (1, fs.set 9 (.int (iI z)))))) : V G E pc lv (.int (iI z) :: .ref (G.ad q) :: st) cs := V_putN C wf_X7_77 rfl tyX1_ok nmX1 (by decide) rfl (by rcases hz with rfl | rfl <;> rfl) (by rcases hz with rfl | rfl <;> rfl) hd he hl kk
theorem vg_X7_89 {G : zG} {E : zE} {cc : ByteArray} {nL fr lo pc : Nat} {lv : List (Option Value)} {st : List Value} {cs : List va_E} (C : zC G E RX7 cc nL fr lo) (hd : decode cc pc = .ok (.getfield 89, 3)) {q : Nat} {fs : List Value} {v : Value} (he : cs[q]? = some (.inr (1, fs))) (hv : fs[2]? = some v) (kk : V G E (pc + 3) lv (v :: st) cs) : V G E pc lv (.ref (G.ad q) :: st) cs := V_getN C wf_X7_89 rfl (by decide) hd he hv kk
theorem vg_X7_93 {G : zG} {E : zE} {cc : ByteArray} {nL fr lo pc : Nat} {lv : List (Option Value)} {st : List Value} {cs : List va_E} (C : zC G E RX7 cc nL fr lo) (hd : decode cc pc = .ok (.getfield 93, 3)) {q : Nat} {fs : List Value} {v : Value} (he : cs[q]? = some (.inr (3, fs))) (hv : fs[4]? = some v) (kk : V G E (pc + 3) lv (v :: st) cs) : V G E pc lv (.ref (G.ad q) :: st) cs := V_getN C wf_X7_93 rfl (by decide) hd he hv kk
theorem vp_X7_93 {G : zG} {E : zE} {cc : ByteArray} {nL fr lo pc : Nat} {lv : List (Option Value)} {st : List Value} {cs : List va_E} (C : zC G E RX7 cc nL fr lo) (hd : decode cc pc = .ok (.putfield 93, 3)) {q : Nat} {fs : List Value} {x : Int32} (he : cs[q]? = some (.inr (3, fs))) (hl : 4 < fs.length) (kk : V G E (pc + 3) lv st (cs.set q (.inr (3, fs.set 4 (.int x))))) : V G E pc lv (.int x :: .ref (G.ad q) :: st) cs := V_putN C wf_X7_93 rfl tyX3_ok nmX3 (by decide) rfl rfl rfl hd he hl kk
theorem vg_X7_101 {G : zG} {E : zE} {cc : ByteArray} {nL fr lo pc : Nat} {lv : List (Option Value)} {st : List Value} {cs : List va_E} (C : zC G E RX7 cc nL fr lo) (hd : decode cc pc = .ok (.getfield 101, 3)) {q : Nat} {fs : List Value} {v : Value} (he : cs[q]? = some (.inr (1, fs))) (hv : fs[4]? = some v) (kk : V G E (pc + 3) lv (v :: st) cs) : V G E pc lv (.ref (G.ad q) :: st) cs := V_getN C wf_X7_101 rfl (by decide) hd he hv kk
theorem vg_X7_105 {G : zG} {E : zE} {cc : ByteArray} {nL fr lo pc : Nat} {lv : List (Option Value)} {st : List Value} {cs : List va_E} (C : zC G E RX7 cc nL fr lo) (hd : decode cc pc = .ok (.getfield 105, 3)) {q : Nat} {fs : List Value} {v : Value} (he : cs[q]? = some (.inr (2, fs))) (hv : fs[1]? = some v) (kk : V G E (pc + 3) lv (v :: st) cs) : V G E pc lv (.ref (G.ad q) :: st) cs := V_getN C wf_X7_105 rfl (by decide) hd he hv kk
theorem vp_X7_105 {G : zG} {E : zE} {cc : ByteArray} {nL fr lo pc : Nat} {lv : List (Option Value)} {st : List Value} {cs : List va_E} (C : zC G E RX7 cc nL fr lo) (hd : decode cc pc = .ok (.putfield 105, 3)) {q : Nat} {fs : List Value} {x : Int32} (he : cs[q]? = some (.inr (2, fs))) (hl : 1 < fs.length) (kk : V G E (pc + 3) lv st (cs.set q (.inr (2, fs.set 1 (.int x))))) : V G E pc lv (.int x :: .ref (G.ad q) :: st) cs := V_putN C wf_X7_105 rfl tyX2_ok nmX2 (by decide) rfl rfl rfl hd he hl kk
theorem vg_X7_114 {G : zG} {E : zE} {cc : ByteArray} {nL fr lo pc : Nat} {lv : List (Option Value)} {st : List Value} {cs : List va_E} (C : zC G E RX7 cc nL fr lo) (hd : decode cc pc = .ok (.getfield 114, 3)) {q : Nat} {fs : List Value} {v : Value} (he : cs[q]? = some (.inr (1, fs))) (hv : fs[8]? = some v) (kk : V G E (pc + 3) lv (v :: st) cs) : V G E pc lv (.ref (G.ad q) :: st) cs := V_getN C wf_X7_114 rfl (by decide) hd he hv kk
theorem vg_X7_132 {G : zG} {E : zE} {cc : ByteArray} {nL fr lo pc : Nat} {lv : List (Option Value)} {st : List Value} {cs : List va_E} (C : zC G E RX7 cc nL fr lo) (hd : decode cc pc = .ok (.getfield 132, 3)) {q : Nat} {fs : List Value} {v : Value} (he : cs[q]? = some (.inr (6, fs))) (hv : fs[1]? = some v) (kk : V G E (pc + 3) lv (v :: st) cs) : V G E pc lv (.ref (G.ad q) :: st) cs := V_getN C wf_X7_132 rfl (by decide) hd he hv kk
theorem vg_X7_152 {G : zG} {E : zE} {cc : ByteArray} {nL fr lo pc : Nat} {lv : List (Option Value)} {st : List Value} {cs : List va_E} (C : zC G E RX7 cc nL fr lo) (hd : decode cc pc = .ok (.getfield 152, 3)) {q : Nat} {fs : List Value} {v : Value} (he : cs[q]? = some (.inr (1, fs))) (hv : fs[12]? = some v) (kk : V G E (pc + 3) lv (v :: st) cs) : V G E pc lv (.ref (G.ad q) :: st) cs := V_getN C wf_X7_152 rfl (by decide) hd he hv kk
theorem vp_X7_152 {G : zG} {E : zE} {cc : ByteArray} {nL fr lo pc : Nat} {lv : List (Option Value)} {st : List Value} {cs : List va_E} (C : zC G E RX7 cc nL fr lo) (hd : decode cc pc = .ok (.putfield 152, 3)) {q : Nat} {fs : List Value} {x : Int32} (he : cs[q]? = some (.inr (1, fs))) (hl : 12 < fs.length) (kk : V G E (pc + 3) lv st (cs.set q (.inr (1, fs.set 12 (.int x))))) : V G E pc lv (.int x :: .ref (G.ad q) :: st) cs := V_putN C wf_X7_152 rfl tyX1_ok nmX1 (by decide) rfl rfl rfl hd he hl kk
theorem vg_X7_155 {G : zG} {E : zE} {cc : ByteArray} {nL fr lo pc : Nat} {lv : List (Option Value)} {st : List Value} {cs : List va_E} (C : zC G E RX7 cc nL fr lo) (hd : decode cc pc = .ok (.getfield 155, 3)) {q : Nat} {fs : List Value} {v : Value} (he : cs[q]? = some (.inr (1, fs))) (hv : fs[11]? = some v) (kk : V G E (pc + 3) lv (v :: st) cs) : V G E pc lv (.ref (G.ad q) :: st) cs := V_getN C wf_X7_155 rfl (by decide) hd he hv kk
theorem vp_X7_155 {G : zG} {E : zE} {cc : ByteArray} {nL fr lo pc : Nat} {lv : List (Option Value)} {st : List Value} {cs : List va_E} (C : zC G E RX7 cc nL fr lo) (hd : decode cc pc = .ok (.putfield 155, 3)) {q : Nat} {fs : List Value} {x : Int32} (he : cs[q]? = some (.inr (1, fs))) (hl : 11 < fs.length) (kk : V G E (pc + 3) lv st (cs.set q (.inr (1, fs.set 11 (.int x))))) : V G E pc lv (.int x :: .ref (G.ad q) :: st) cs := V_putN C wf_X7_155 rfl tyX1_ok nmX1 (by decide) rfl rfl rfl hd he hl kk
theorem vg_X7_166 {G : zG} {E : zE} {cc : ByteArray} {nL fr lo pc : Nat} {lv : List (Option Value)} {st : List Value} {cs : List va_E} (C : zC G E RX7 cc nL fr lo) (hd : decode cc pc = .ok (.getfield 166, 3)) {q : Nat} {fs : List Value} {v : Value} (he : cs[q]? = some (.inr (7, fs))) (hv : fs[4]? = some v) (kk : V G E (pc + 3) lv (v :: st) cs) : V G E pc lv (.ref (G.ad q) :: st) cs := V_get C wf_X7_166 rfl (by decide) hd he hv kk
theorem vp_X7_166 {G : zG} {E : zE} {cc : ByteArray} {nL fr lo pc : Nat} {lv : List (Option Value)} {st : List Value} {cs : List va_E} (C : zC G E RX7 cc nL fr lo) (hd : decode cc pc = .ok (.putfield 166, 3)) {q : Nat} {fs : List Value} {z : Int} (he : cs[q]? = some (.inr (7, fs))) (hl : 4 < fs.length) (hz : z = 0 ∨ z = 1) (kk : V G E (pc + 3) lv st (cs.set q (.inr (7, fs.set 4 (.int (iI z)))))) : V G E pc lv (.int (iI z) :: .ref (G.ad q) :: st) cs := V_put C wf_X7_166 rfl tyX7_ok nmX7 (by decide) rfl (by rcases hz with rfl | rfl <;> rfl) (by rcases hz with rfl | rfl <;> rfl) hd he hl kk
theorem vg_X7_182 {G : zG} {E : zE} {cc : ByteArray} {nL fr lo pc : Nat} {lv : List (Option Value)} {st : List Value} {cs : List va_E} (C : zC G E RX7 cc nL fr lo) (hd : decode cc pc = .ok (.getfield 182, 3)) {q : Nat} {fs : List Value} {v : Value} (he : cs[q]? = some (.inr (4, fs))) (hv : fs[0]? = some v) (kk : V G E (pc + 3) lv (v :: st) cs) : V G E pc lv (.ref (G.ad q) :: st) cs := V_getN C wf_X7_182 rfl (by decide) hd he hv kk
theorem vg_X7_201 {G : zG} {E : zE} {cc : ByteArray} {nL fr lo pc : Nat} {lv : List (Option Value)} {st : List Value} {cs : List va_E} (C : zC G E RX7 cc nL fr lo) (hd : decode cc pc = .ok (.getfield 201, 3)) {q : Nat} {fs : List Value} {v : Value} (he : cs[q]? = some (.inr (4, fs))) (hv : fs[2]? = some v) (kk : V G E (pc + 3) lv (v :: st) cs) : V G E pc lv (.ref (G.ad q) :: st) cs := V_getN C wf_X7_201 rfl (by decide) hd he hv kk
theorem vp_X7_201 {G : zG} {E : zE} {cc : ByteArray} {nL fr lo pc : Nat} {lv : List (Option Value)} {st : List Value} {cs : List va_E} (C : zC G E RX7 cc nL fr lo) (hd : decode cc pc = .ok (.putfield 201, 3)) {q : Nat} {fs : List Value} {x : Int32} (he : cs[q]? = some (.inr (4, fs))) (hl : 2 < fs.length) (kk : V G E (pc + 3) lv st (cs.set q (.inr (4, fs.set 2 (.int x))))) : V G E pc lv (.int x :: .ref (G.ad q) :: st) cs := V_putN C wf_X7_201 rfl tyX4_ok nmX4 (by decide) rfl rfl rfl hd he hl kk
theorem vg_X7_202 {G : zG} {E : zE} {cc : ByteArray} {nL fr lo pc : Nat} {lv : List (Option Value)} {st : List Value} {cs : List va_E} (C : zC G E RX7 cc nL fr lo) (hd : decode cc pc = .ok (.getfield 202, 3)) {q : Nat} {fs : List Value} {v : Value} (he : cs[q]? = some (.inr (4, fs))) (hv : fs[1]? = some v) (kk : V G E (pc + 3) lv (v :: st) cs) : V G E pc lv (.ref (G.ad q) :: st) cs := V_getN C wf_X7_202 rfl (by decide) hd he hv kk
theorem vp_X7_202 {G : zG} {E : zE} {cc : ByteArray} {nL fr lo pc : Nat} {lv : List (Option Value)} {st : List Value} {cs : List va_E} (C : zC G E RX7 cc nL fr lo) (hd : decode cc pc = .ok (.putfield 202, 3)) {q : Nat} {fs : List Value} {x : Int32} (he : cs[q]? = some (.inr (4, fs))) (hl : 1 < fs.length) (kk : V G E (pc + 3) lv st (cs.set q (.inr (4, fs.set 1 (.int x))))) : V G E pc lv (.int x :: .ref (G.ad q) :: st) cs := V_putN C wf_X7_202 rfl tyX4_ok nmX4 (by decide) rfl rfl rfl hd he hl kk
theorem vg_X0_12 {G : zG} {E : zE} {cc : ByteArray} {nL fr lo pc : Nat} {lv : List (Option Value)} {st : List Value} {cs : List va_E} (C : zC G E RX0 cc nL fr lo) (hd : decode cc pc = .ok (.getfield 12, 3)) {q : Nat} {fs : List Value} {v : Value} (he : cs[q]? = some (.inr (0, fs))) (hv : fs[0]? = some v) (kk : V G E (pc + 3) lv (v :: st) cs) : V G E pc lv (.ref (G.ad q) :: st) cs := V_get C wf_X0_12 rfl (by decide) hd he hv kk
theorem vg_X0_18 {G : zG} {E : zE} {cc : ByteArray} {nL fr lo pc : Nat} {lv : List (Option Value)} {st : List Value} {cs : List va_E} (C : zC G E RX0 cc nL fr lo) (hd : decode cc pc = .ok (.getfield 18, 3)) {q : Nat} {fs : List Value} {v : Value} (he : cs[q]? = some (.inr (2, fs))) (hv : fs[1]? = some v) (kk : V G E (pc + 3) lv (v :: st) cs) : V G E pc lv (.ref (G.ad q) :: st) cs := V_getN C wf_X0_18 rfl (by decide) hd he hv kk
theorem vp_X0_18 {G : zG} {E : zE} {cc : ByteArray} {nL fr lo pc : Nat} {lv : List (Option Value)} {st : List Value} {cs : List va_E} (C : zC G E RX0 cc nL fr lo) (hd : decode cc pc = .ok (.putfield 18, 3)) {q : Nat} {fs : List Value} {x : Int32} (he : cs[q]? = some (.inr (2, fs))) (hl : 1 < fs.length) (kk : V G E (pc + 3) lv st (cs.set q (.inr (2, fs.set 1 (.int x))))) : V G E pc lv (.int x :: .ref (G.ad q) :: st) cs := V_putN C wf_X0_18 rfl tyX2_ok nmX2 (by decide) rfl rfl rfl hd he hl kk
theorem vg_X0_22 {G : zG} {E : zE} {cc : ByteArray} {nL fr lo pc : Nat} {lv : List (Option Value)} {st : List Value} {cs : List va_E} (C : zC G E RX0 cc nL fr lo) (hd : decode cc pc = .ok (.getfield 22, 3)) {q : Nat} {fs : List Value} {v : Value} (he : cs[q]? = some (.inr (0, fs))) (hv : fs[1]? = some v) (kk : V G E (pc + 3) lv (v :: st) cs) : V G E pc lv (.ref (G.ad q) :: st) cs := V_get C wf_X0_22 rfl (by decide) hd he hv kk
theorem vp_X0_22 {G : zG} {E : zE} {cc : ByteArray} {nL fr lo pc : Nat} {lv : List (Option Value)} {st : List Value} {cs : List va_E} (C : zC G E RX0 cc nL fr lo) (hd : decode cc pc = .ok (.putfield 22, 3)) {q : Nat} {fs : List Value} {x : Int32} (he : cs[q]? = some (.inr (0, fs))) (hl : 1 < fs.length) (kk : V G E (pc + 3) lv st (cs.set q (.inr (0, fs.set 1 (.int x))))) : V G E pc lv (.int x :: .ref (G.ad q) :: st) cs := V_put C wf_X0_22 rfl tyX0_ok nmX0 (by decide) rfl rfl rfl hd he hl kk
theorem vg_X0_25 {G : zG} {E : zE} {cc : ByteArray} {nL fr lo pc : Nat} {lv : List (Option Value)} {st : List Value} {cs : List va_E} (C : zC G E RX0 cc nL fr lo) (hd : decode cc pc = .ok (.getfield 25, 3)) {q : Nat} {fs : List Value} {v : Value} (he : cs[q]? = some (.inr (0, fs))) (hv : fs[2]? = some v) (kk : V G E (pc + 3) lv (v :: st) cs) : V G E pc lv (.ref (G.ad q) :: st) cs := V_get C wf_X0_25 rfl (by decide) hd he hv kk
theorem vp_X0_25 {G : zG} {E : zE} {cc : ByteArray} {nL fr lo pc : Nat} {lv : List (Option Value)} {st : List Value} {cs : List va_E} (C : zC G E RX0 cc nL fr lo) (hd : decode cc pc = .ok (.putfield 25, 3)) {q : Nat} {fs : List Value} {x : Int32} (he : cs[q]? = some (.inr (0, fs))) (hl : 2 < fs.length) (kk : V G E (pc + 3) lv st (cs.set q (.inr (0, fs.set 2 (.int x))))) : V G E pc lv (.int x :: .ref (G.ad q) :: st) cs := V_put C wf_X0_25 rfl tyX0_ok nmX0 (by decide) rfl rfl rfl hd he hl kk
theorem vg_X0_28 {G : zG} {E : zE} {cc : ByteArray} {nL fr lo pc : Nat} {lv : List (Option Value)} {st : List Value} {cs : List va_E} (C : zC G E RX0 cc nL fr lo) (hd : decode cc pc = .ok (.getfield 28, 3)) {q : Nat} {fs : List Value} {v : Value} (he : cs[q]? = some (.inr (0, fs))) (hv : fs[3]? = some v) (kk : V G E (pc + 3) lv (v :: st) cs) : V G E pc lv (.ref (G.ad q) :: st) cs := V_get C wf_X0_28 rfl (by decide) hd he hv kk
theorem vp_X0_28 {G : zG} {E : zE} {cc : ByteArray} {nL fr lo pc : Nat} {lv : List (Option Value)} {st : List Value} {cs : List va_E} (C : zC G E RX0 cc nL fr lo) (hd : decode cc pc = .ok (.putfield 28, 3)) {q : Nat} {fs : List Value} {x : Int32} (he : cs[q]? = some (.inr (0, fs))) (hl : 3 < fs.length) (kk : V G E (pc + 3) lv st (cs.set q (.inr (0, fs.set 3 (.int x))))) : V G E pc lv (.int x :: .ref (G.ad q) :: st) cs := V_put C wf_X0_28 rfl tyX0_ok nmX0 (by decide) rfl rfl rfl hd he hl kk
theorem vg_X0_31 {G : zG} {E : zE} {cc : ByteArray} {nL fr lo pc : Nat} {lv : List (Option Value)} {st : List Value} {cs : List va_E} (C : zC G E RX0 cc nL fr lo) (hd : decode cc pc = .ok (.getfield 31, 3)) {q : Nat} {fs : List Value} {v : Value} (he : cs[q]? = some (.inr (0, fs))) (hv : fs[4]? = some v) (kk : V G E (pc + 3) lv (v :: st) cs) : V G E pc lv (.ref (G.ad q) :: st) cs := V_get C wf_X0_31 rfl (by decide) hd he hv kk
theorem vp_X0_31 {G : zG} {E : zE} {cc : ByteArray} {nL fr lo pc : Nat} {lv : List (Option Value)} {st : List Value} {cs : List va_E} (C : zC G E RX0 cc nL fr lo) (hd : decode cc pc = .ok (.putfield 31, 3)) {q : Nat} {fs : List Value} {x : Int32} (he : cs[q]? = some (.inr (0, fs))) (hl : 4 < fs.length) (kk : V G E (pc + 3) lv st (cs.set q (.inr (0, fs.set 4 (.int x))))) : V G E pc lv (.int x :: .ref (G.ad q) :: st) cs := V_put C wf_X0_31 rfl tyX0_ok nmX0 (by decide) rfl rfl rfl hd he hl kk
theorem vg_X0_34 {G : zG} {E : zE} {cc : ByteArray} {nL fr lo pc : Nat} {lv : List (Option Value)} {st : List Value} {cs : List va_E} (C : zC G E RX0 cc nL fr lo) (hd : decode cc pc = .ok (.getfield 34, 3)) {q : Nat} {fs : List Value} {v : Value} (he : cs[q]? = some (.inr (0, fs))) (hv : fs[5]? = some v) (kk : V G E (pc + 3) lv (v :: st) cs) : V G E pc lv (.ref (G.ad q) :: st) cs := V_get C wf_X0_34 rfl (by decide) hd he hv kk
theorem vp_X0_34 {G : zG} {E : zE} {cc : ByteArray} {nL fr lo pc : Nat} {lv : List (Option Value)} {st : List Value} {cs : List va_E} (C : zC G E RX0 cc nL fr lo) (hd : decode cc pc = .ok (.putfield 34, 3)) {q : Nat} {fs : List Value} {x : Int32} (he : cs[q]? = some (.inr (0, fs))) (hl : 5 < fs.length) (kk : V G E (pc + 3) lv st (cs.set q (.inr (0, fs.set 5 (.int x))))) : V G E pc lv (.int x :: .ref (G.ad q) :: st) cs := V_put C wf_X0_34 rfl tyX0_ok nmX0 (by decide) rfl rfl rfl hd he hl kk
theorem vg_X0_37 {G : zG} {E : zE} {cc : ByteArray} {nL fr lo pc : Nat} {lv : List (Option Value)} {st : List Value} {cs : List va_E} (C : zC G E RX0 cc nL fr lo) (hd : decode cc pc = .ok (.getfield 37, 3)) {q : Nat} {fs : List Value} {v : Value} (he : cs[q]? = some (.inr (0, fs))) (hv : fs[6]? = some v) (kk : V G E (pc + 3) lv (v :: st) cs) : V G E pc lv (.ref (G.ad q) :: st) cs := V_get C wf_X0_37 rfl (by decide) hd he hv kk
theorem vp_X0_37 {G : zG} {E : zE} {cc : ByteArray} {nL fr lo pc : Nat} {lv : List (Option Value)} {st : List Value} {cs : List va_E} (C : zC G E RX0 cc nL fr lo) (hd : decode cc pc = .ok (.putfield 37, 3)) {q : Nat} {fs : List Value} {x : Int32} (he : cs[q]? = some (.inr (0, fs))) (hl : 6 < fs.length) (kk : V G E (pc + 3) lv st (cs.set q (.inr (0, fs.set 6 (.int x))))) : V G E pc lv (.int x :: .ref (G.ad q) :: st) cs := V_put C wf_X0_37 rfl tyX0_ok nmX0 (by decide) rfl rfl rfl hd he hl kk
theorem vg_X0_40 {G : zG} {E : zE} {cc : ByteArray} {nL fr lo pc : Nat} {lv : List (Option Value)} {st : List Value} {cs : List va_E} (C : zC G E RX0 cc nL fr lo) (hd : decode cc pc = .ok (.getfield 40, 3)) {q : Nat} {fs : List Value} {v : Value} (he : cs[q]? = some (.inr (0, fs))) (hv : fs[7]? = some v) (kk : V G E (pc + 3) lv (v :: st) cs) : V G E pc lv (.ref (G.ad q) :: st) cs := V_get C wf_X0_40 rfl (by decide) hd he hv kk
theorem vp_X0_40 {G : zG} {E : zE} {cc : ByteArray} {nL fr lo pc : Nat} {lv : List (Option Value)} {st : List Value} {cs : List va_E} (C : zC G E RX0 cc nL fr lo) (hd : decode cc pc = .ok (.putfield 40, 3)) {q : Nat} {fs : List Value} {z : Int} (he : cs[q]? = some (.inr (0, fs))) (hl : 7 < fs.length) (hz : z = 0 ∨ z = 1) (kk : V G E (pc + 3) lv st (cs.set q (.inr (0, fs.set 7 (.int (iI z)))))) : V G E pc lv (.int (iI z) :: .ref (G.ad q) :: st) cs := V_put C wf_X0_40 rfl tyX0_ok nmX0 (by decide) rfl (by rcases hz with rfl | rfl <;> rfl) (by rcases hz with rfl | rfl <;> rfl) hd he hl kk
theorem vg_X0_44 {G : zG} {E : zE} {cc : ByteArray} {nL fr lo pc : Nat} {lv : List (Option Value)} {st : List Value} {cs : List va_E} (C : zC G E RX0 cc nL fr lo) (hd : decode cc pc = .ok (.getfield 44, 3)) {q : Nat} {fs : List Value} {v : Value} (he : cs[q]? = some (.inr (0, fs))) (hv : fs[8]? = some v) (kk : V G E (pc + 3) lv (v :: st) cs) : V G E pc lv (.ref (G.ad q) :: st) cs := V_get C wf_X0_44 rfl (by decide) hd he hv kk
theorem vp_X0_44 {G : zG} {E : zE} {cc : ByteArray} {nL fr lo pc : Nat} {lv : List (Option Value)} {st : List Value} {cs : List va_E} (C : zC G E RX0 cc nL fr lo) (hd : decode cc pc = .ok (.putfield 44, 3)) {q : Nat} {fs : List Value} {x : Int32} (he : cs[q]? = some (.inr (0, fs))) (hl : 8 < fs.length) (kk : V G E (pc + 3) lv st (cs.set q (.inr (0, fs.set 8 (.int x))))) : V G E pc lv (.int x :: .ref (G.ad q) :: st) cs := V_put C wf_X0_44 rfl tyX0_ok nmX0 (by decide) rfl rfl rfl hd he hl kk
theorem vg_X1_12 {G : zG} {E : zE} {cc : ByteArray} {nL fr lo pc : Nat} {lv : List (Option Value)} {st : List Value} {cs : List va_E} (C : zC G E RX1 cc nL fr lo) (hd : decode cc pc = .ok (.getfield 12, 3)) {q : Nat} {fs : List Value} {v : Value} (he : cs[q]? = some (.inr (1, fs))) (hv : fs[0]? = some v) (kk : V G E (pc + 3) lv (v :: st) cs) : V G E pc lv (.ref (G.ad q) :: st) cs := V_get C wf_X1_12 rfl (by decide) hd he hv kk
theorem vg_X1_18 {G : zG} {E : zE} {cc : ByteArray} {nL fr lo pc : Nat} {lv : List (Option Value)} {st : List Value} {cs : List va_E} (C : zC G E RX1 cc nL fr lo) (hd : decode cc pc = .ok (.getfield 18, 3)) {q : Nat} {fs : List Value} {v : Value} (he : cs[q]? = some (.inr (1, fs))) (hv : fs[1]? = some v) (kk : V G E (pc + 3) lv (v :: st) cs) : V G E pc lv (.ref (G.ad q) :: st) cs := V_get C wf_X1_18 rfl (by decide) hd he hv kk
theorem vg_X1_24 {G : zG} {E : zE} {cc : ByteArray} {nL fr lo pc : Nat} {lv : List (Option Value)} {st : List Value} {cs : List va_E} (C : zC G E RX1 cc nL fr lo) (hd : decode cc pc = .ok (.getfield 24, 3)) {q : Nat} {fs : List Value} {v : Value} (he : cs[q]? = some (.inr (1, fs))) (hv : fs[2]? = some v) (kk : V G E (pc + 3) lv (v :: st) cs) : V G E pc lv (.ref (G.ad q) :: st) cs := V_get C wf_X1_24 rfl (by decide) hd he hv kk
theorem vg_X1_31 {G : zG} {E : zE} {cc : ByteArray} {nL fr lo pc : Nat} {lv : List (Option Value)} {st : List Value} {cs : List va_E} (C : zC G E RX1 cc nL fr lo) (hd : decode cc pc = .ok (.getfield 31, 3)) {q : Nat} {fs : List Value} {v : Value} (he : cs[q]? = some (.inr (1, fs))) (hv : fs[3]? = some v) (kk : V G E (pc + 3) lv (v :: st) cs) : V G E pc lv (.ref (G.ad q) :: st) cs := V_get C wf_X1_31 rfl (by decide) hd he hv kk
theorem vg_X1_38 {G : zG} {E : zE} {cc : ByteArray} {nL fr lo pc : Nat} {lv : List (Option Value)} {st : List Value} {cs : List va_E} (C : zC G E RX1 cc nL fr lo) (hd : decode cc pc = .ok (.getfield 38, 3)) {q : Nat} {fs : List Value} {v : Value} (he : cs[q]? = some (.inr (1, fs))) (hv : fs[4]? = some v) (kk : V G E (pc + 3) lv (v :: st) cs) : V G E pc lv (.ref (G.ad q) :: st) cs := V_get C wf_X1_38 rfl (by decide) hd he hv kk
theorem vg_X1_42 {G : zG} {E : zE} {cc : ByteArray} {nL fr lo pc : Nat} {lv : List (Option Value)} {st : List Value} {cs : List va_E} (C : zC G E RX1 cc nL fr lo) (hd : decode cc pc = .ok (.getfield 42, 3)) {q : Nat} {fs : List Value} {v : Value} (he : cs[q]? = some (.inr (1, fs))) (hv : fs[5]? = some v) (kk : V G E (pc + 3) lv (v :: st) cs) : V G E pc lv (.ref (G.ad q) :: st) cs := V_get C wf_X1_42 rfl (by decide) hd he hv kk
theorem vg_X1_46 {G : zG} {E : zE} {cc : ByteArray} {nL fr lo pc : Nat} {lv : List (Option Value)} {st : List Value} {cs : List va_E} (C : zC G E RX1 cc nL fr lo) (hd : decode cc pc = .ok (.getfield 46, 3)) {q : Nat} {fs : List Value} {v : Value} (he : cs[q]? = some (.inr (1, fs))) (hv : fs[7]? = some v) (kk : V G E (pc + 3) lv (v :: st) cs) : V G E pc lv (.ref (G.ad q) :: st) cs := V_get C wf_X1_46 rfl (by decide) hd he hv kk
theorem vg_X1_49 {G : zG} {E : zE} {cc : ByteArray} {nL fr lo pc : Nat} {lv : List (Option Value)} {st : List Value} {cs : List va_E} (C : zC G E RX1 cc nL fr lo) (hd : decode cc pc = .ok (.getfield 49, 3)) {q : Nat} {fs : List Value} {v : Value} (he : cs[q]? = some (.inr (1, fs))) (hv : fs[8]? = some v) (kk : V G E (pc + 3) lv (v :: st) cs) : V G E pc lv (.ref (G.ad q) :: st) cs := V_get C wf_X1_49 rfl (by decide) hd he hv kk
theorem vg_X1_71 {G : zG} {E : zE} {cc : ByteArray} {nL fr lo pc : Nat} {lv : List (Option Value)} {st : List Value} {cs : List va_E} (C : zC G E RX1 cc nL fr lo) (hd : decode cc pc = .ok (.getfield 71, 3)) {q : Nat} {fs : List Value} {v : Value} (he : cs[q]? = some (.inr (1, fs))) (hv : fs[6]? = some v) (kk : V G E (pc + 3) lv (v :: st) cs) : V G E pc lv (.ref (G.ad q) :: st) cs := V_get C wf_X1_71 rfl (by decide) hd he hv kk
theorem vp_X1_71 {G : zG} {E : zE} {cc : ByteArray} {nL fr lo pc : Nat} {lv : List (Option Value)} {st : List Value} {cs : List va_E} (C : zC G E RX1 cc nL fr lo) (hd : decode cc pc = .ok (.putfield 71, 3)) {q : Nat} {fs : List Value} {x : Int32} (he : cs[q]? = some (.inr (1, fs))) (hl : 6 < fs.length) (kk : V G E (pc + 3) lv st (cs.set q (.inr (1, fs.set 6 (.int x))))) : V G E pc lv (.int x :: .ref (G.ad q) :: st) cs := V_put C wf_X1_71 rfl tyX1_ok nmX1 (by decide) rfl rfl rfl hd he hl kk
theorem vg_X1_75 {G : zG} {E : zE} {cc : ByteArray} {nL fr lo pc : Nat} {lv : List (Option Value)} {st : List Value} {cs : List va_E} (C : zC G E RX1 cc nL fr lo) (hd : decode cc pc = .ok (.getfield 75, 3)) {q : Nat} {fs : List Value} {v : Value} (he : cs[q]? = some (.inr (1, fs))) (hv : fs[9]? = some v) (kk : V G E (pc + 3) lv (v :: st) cs) : V G E pc lv (.ref (G.ad q) :: st) cs := V_get C wf_X1_75 rfl (by decide) hd he hv kk
theorem vp_X1_75 {G : zG} {E : zE} {cc : ByteArray} {nL fr lo pc : Nat} {lv : List (Option Value)} {st : List Value} {cs : List va_E} (C : zC G E RX1 cc nL fr lo) (hd : decode cc pc = .ok (.putfield 75, 3)) {q : Nat} {fs : List Value} {z : Int} (he : cs[q]? = some (.inr (1, fs))) (hl : 9 < fs.length) (hz : z = 0 ∨ z = 1) (kk : V G E (pc + 3) lv st (cs.set q (.inr (1, fs.set 9 (.int (iI z)))))) : V G E pc lv (.int (iI z) :: .ref (G.ad q) :: st) cs := V_put C wf_X1_75 rfl tyX1_ok nmX1 (by decide) rfl (by rcases hz with rfl | rfl <;> rfl) (by rcases hz with rfl | rfl <;> rfl) hd he hl kk
theorem vg_X1_79 {G : zG} {E : zE} {cc : ByteArray} {nL fr lo pc : Nat} {lv : List (Option Value)} {st : List Value} {cs : List va_E} (C : zC G E RX1 cc nL fr lo) (hd : decode cc pc = .ok (.getfield 79, 3)) {q : Nat} {fs : List Value} {v : Value} (he : cs[q]? = some (.inr (5, fs))) (hv : fs[0]? = some v) (kk : V G E (pc + 3) lv (v :: st) cs) : V G E pc lv (.ref (G.ad q) :: st) cs := V_getN C wf_X1_79 rfl (by decide) hd he hv kk
theorem vg_X1_82 {G : zG} {E : zE} {cc : ByteArray} {nL fr lo pc : Nat} {lv : List (Option Value)} {st : List Value} {cs : List va_E} (C : zC G E RX1 cc nL fr lo) (hd : decode cc pc = .ok (.getfield 82, 3)) {q : Nat} {fs : List Value} {v : Value} (he : cs[q]? = some (.inr (5, fs))) (hv : fs[1]? = some v) (kk : V G E (pc + 3) lv (v :: st) cs) : V G E pc lv (.ref (G.ad q) :: st) cs := V_getN C wf_X1_82 rfl (by decide) hd he hv kk
theorem vp_X1_82 {G : zG} {E : zE} {cc : ByteArray} {nL fr lo pc : Nat} {lv : List (Option Value)} {st : List Value} {cs : List va_E} (C : zC G E RX1 cc nL fr lo) (hd : decode cc pc = .ok (.putfield 82, 3)) {q : Nat} {fs : List Value} {x : Int32} (he : cs[q]? = some (.inr (5, fs))) (hl : 1 < fs.length) (kk : V G E (pc + 3) lv st (cs.set q (.inr (5, fs.set 1 (.int x))))) : V G E pc lv (.int x :: .ref (G.ad q) :: st) cs := V_putN C wf_X1_82 rfl tyX5_ok nmX5 (by decide) rfl rfl rfl hd he hl kk
theorem vg_X1_85 {G : zG} {E : zE} {cc : ByteArray} {nL fr lo pc : Nat} {lv : List (Option Value)} {st : List Value} {cs : List va_E} (C : zC G E RX1 cc nL fr lo) (hd : decode cc pc = .ok (.getfield 85, 3)) {q : Nat} {fs : List Value} {v : Value} (he : cs[q]? = some (.inr (5, fs))) (hv : fs[2]? = some v) (kk : V G E (pc + 3) lv (v :: st) cs) : V G E pc lv (.ref (G.ad q) :: st) cs := V_getN C wf_X1_85 rfl (by decide) hd he hv kk
theorem vp_X1_85 {G : zG} {E : zE} {cc : ByteArray} {nL fr lo pc : Nat} {lv : List (Option Value)} {st : List Value} {cs : List va_E} (C : zC G E RX1 cc nL fr lo) (hd : decode cc pc = .ok (.putfield 85, 3)) {q : Nat} {fs : List Value} {x : Int32} (he : cs[q]? = some (.inr (5, fs))) (hl : 2 < fs.length) (kk : V G E (pc + 3) lv st (cs.set q (.inr (5, fs.set 2 (.int x))))) : V G E pc lv (.int x :: .ref (G.ad q) :: st) cs := V_putN C wf_X1_85 rfl tyX5_ok nmX5 (by decide) rfl rfl rfl hd he hl kk
theorem vg_X1_94 {G : zG} {E : zE} {cc : ByteArray} {nL fr lo pc : Nat} {lv : List (Option Value)} {st : List Value} {cs : List va_E} (C : zC G E RX1 cc nL fr lo) (hd : decode cc pc = .ok (.getfield 94, 3)) {q : Nat} {fs : List Value} {v : Value} (he : cs[q]? = some (.inr (3, fs))) (hv : fs[4]? = some v) (kk : V G E (pc + 3) lv (v :: st) cs) : V G E pc lv (.ref (G.ad q) :: st) cs := V_getN C wf_X1_94 rfl (by decide) hd he hv kk
theorem vp_X1_94 {G : zG} {E : zE} {cc : ByteArray} {nL fr lo pc : Nat} {lv : List (Option Value)} {st : List Value} {cs : List va_E} (C : zC G E RX1 cc nL fr lo) (hd : decode cc pc = .ok (.putfield 94, 3)) {q : Nat} {fs : List Value} {x : Int32} (he : cs[q]? = some (.inr (3, fs))) (hl : 4 < fs.length) (kk : V G E (pc + 3) lv st (cs.set q (.inr (3, fs.set 4 (.int x))))) : V G E pc lv (.int x :: .ref (G.ad q) :: st) cs := V_putN C wf_X1_94 rfl tyX3_ok nmX3 (by decide) rfl rfl rfl hd he hl kk
theorem vg_X1_97 {G : zG} {E : zE} {cc : ByteArray} {nL fr lo pc : Nat} {lv : List (Option Value)} {st : List Value} {cs : List va_E} (C : zC G E RX1 cc nL fr lo) (hd : decode cc pc = .ok (.getfield 97, 3)) {q : Nat} {fs : List Value} {v : Value} (he : cs[q]? = some (.inr (2, fs))) (hv : fs[1]? = some v) (kk : V G E (pc + 3) lv (v :: st) cs) : V G E pc lv (.ref (G.ad q) :: st) cs := V_getN C wf_X1_97 rfl (by decide) hd he hv kk
theorem vp_X1_97 {G : zG} {E : zE} {cc : ByteArray} {nL fr lo pc : Nat} {lv : List (Option Value)} {st : List Value} {cs : List va_E} (C : zC G E RX1 cc nL fr lo) (hd : decode cc pc = .ok (.putfield 97, 3)) {q : Nat} {fs : List Value} {x : Int32} (he : cs[q]? = some (.inr (2, fs))) (hl : 1 < fs.length) (kk : V G E (pc + 3) lv st (cs.set q (.inr (2, fs.set 1 (.int x))))) : V G E pc lv (.int x :: .ref (G.ad q) :: st) cs := V_putN C wf_X1_97 rfl tyX2_ok nmX2 (by decide) rfl rfl rfl hd he hl kk
theorem vg_X1_101 {G : zG} {E : zE} {cc : ByteArray} {nL fr lo pc : Nat} {lv : List (Option Value)} {st : List Value} {cs : List va_E} (C : zC G E RX1 cc nL fr lo) (hd : decode cc pc = .ok (.getfield 101, 3)) {q : Nat} {fs : List Value} {v : Value} (he : cs[q]? = some (.inr (0, fs))) (hv : fs[0]? = some v) (kk : V G E (pc + 3) lv (v :: st) cs) : V G E pc lv (.ref (G.ad q) :: st) cs := V_getN C wf_X1_101 rfl (by decide) hd he hv kk
theorem vg_X1_104 {G : zG} {E : zE} {cc : ByteArray} {nL fr lo pc : Nat} {lv : List (Option Value)} {st : List Value} {cs : List va_E} (C : zC G E RX1 cc nL fr lo) (hd : decode cc pc = .ok (.getfield 104, 3)) {q : Nat} {fs : List Value} {v : Value} (he : cs[q]? = some (.inr (0, fs))) (hv : fs[1]? = some v) (kk : V G E (pc + 3) lv (v :: st) cs) : V G E pc lv (.ref (G.ad q) :: st) cs := V_getN C wf_X1_104 rfl (by decide) hd he hv kk
theorem vp_X1_104 {G : zG} {E : zE} {cc : ByteArray} {nL fr lo pc : Nat} {lv : List (Option Value)} {st : List Value} {cs : List va_E} (C : zC G E RX1 cc nL fr lo) (hd : decode cc pc = .ok (.putfield 104, 3)) {q : Nat} {fs : List Value} {x : Int32} (he : cs[q]? = some (.inr (0, fs))) (hl : 1 < fs.length) (kk : V G E (pc + 3) lv st (cs.set q (.inr (0, fs.set 1 (.int x))))) : V G E pc lv (.int x :: .ref (G.ad q) :: st) cs := V_putN C wf_X1_104 rfl tyX0_ok nmX0 (by decide) rfl rfl rfl hd he hl kk
theorem vg_X1_115 {G : zG} {E : zE} {cc : ByteArray} {nL fr lo pc : Nat} {lv : List (Option Value)} {st : List Value} {cs : List va_E} (C : zC G E RX1 cc nL fr lo) (hd : decode cc pc = .ok (.getfield 115, 3)) {q : Nat} {fs : List Value} {v : Value} (he : cs[q]? = some (.inr (2, fs))) (hv : fs[0]? = some v) (kk : V G E (pc + 3) lv (v :: st) cs) : V G E pc lv (.ref (G.ad q) :: st) cs := V_getN C wf_X1_115 rfl (by decide) hd he hv kk
theorem vg_X1_155 {G : zG} {E : zE} {cc : ByteArray} {nL fr lo pc : Nat} {lv : List (Option Value)} {st : List Value} {cs : List va_E} (C : zC G E RX1 cc nL fr lo) (hd : decode cc pc = .ok (.getfield 155, 3)) {q : Nat} {fs : List Value} {v : Value} (he : cs[q]? = some (.inr (0, fs))) (hv : fs[5]? = some v) (kk : V G E (pc + 3) lv (v :: st) cs) : V G E pc lv (.ref (G.ad q) :: st) cs := V_getN C wf_X1_155 rfl (by decide) hd he hv kk
theorem vp_X1_155 {G : zG} {E : zE} {cc : ByteArray} {nL fr lo pc : Nat} {lv : List (Option Value)} {st : List Value} {cs : List va_E} (C : zC G E RX1 cc nL fr lo) (hd : decode cc pc = .ok (.putfield 155, 3)) {q : Nat} {fs : List Value} {x : Int32} (he : cs[q]? = some (.inr (0, fs))) (hl : 5 < fs.length) (kk : V G E (pc + 3) lv st (cs.set q (.inr (0, fs.set 5 (.int x))))) : V G E pc lv (.int x :: .ref (G.ad q) :: st) cs := V_putN C wf_X1_155 rfl tyX0_ok nmX0 (by decide) rfl rfl rfl hd he hl kk
theorem vg_X1_158 {G : zG} {E : zE} {cc : ByteArray} {nL fr lo pc : Nat} {lv : List (Option Value)} {st : List Value} {cs : List va_E} (C : zC G E RX1 cc nL fr lo) (hd : decode cc pc = .ok (.getfield 158, 3)) {q : Nat} {fs : List Value} {v : Value} (he : cs[q]? = some (.inr (0, fs))) (hv : fs[6]? = some v) (kk : V G E (pc + 3) lv (v :: st) cs) : V G E pc lv (.ref (G.ad q) :: st) cs := V_getN C wf_X1_158 rfl (by decide) hd he hv kk
theorem vp_X1_158 {G : zG} {E : zE} {cc : ByteArray} {nL fr lo pc : Nat} {lv : List (Option Value)} {st : List Value} {cs : List va_E} (C : zC G E RX1 cc nL fr lo) (hd : decode cc pc = .ok (.putfield 158, 3)) {q : Nat} {fs : List Value} {x : Int32} (he : cs[q]? = some (.inr (0, fs))) (hl : 6 < fs.length) (kk : V G E (pc + 3) lv st (cs.set q (.inr (0, fs.set 6 (.int x))))) : V G E pc lv (.int x :: .ref (G.ad q) :: st) cs := V_putN C wf_X1_158 rfl tyX0_ok nmX0 (by decide) rfl rfl rfl hd he hl kk
theorem vg_X1_161 {G : zG} {E : zE} {cc : ByteArray} {nL fr lo pc : Nat} {lv : List (Option Value)} {st : List Value} {cs : List va_E} (C : zC G E RX1 cc nL fr lo) (hd : decode cc pc = .ok (.getfield 161, 3)) {q : Nat} {fs : List Value} {v : Value} (he : cs[q]? = some (.inr (0, fs))) (hv : fs[8]? = some v) (kk : V G E (pc + 3) lv (v :: st) cs) : V G E pc lv (.ref (G.ad q) :: st) cs := V_getN C wf_X1_161 rfl (by decide) hd he hv kk
theorem vp_X1_161 {G : zG} {E : zE} {cc : ByteArray} {nL fr lo pc : Nat} {lv : List (Option Value)} {st : List Value} {cs : List va_E} (C : zC G E RX1 cc nL fr lo) (hd : decode cc pc = .ok (.putfield 161, 3)) {q : Nat} {fs : List Value} {x : Int32} (he : cs[q]? = some (.inr (0, fs))) (hl : 8 < fs.length) (kk : V G E (pc + 3) lv st (cs.set q (.inr (0, fs.set 8 (.int x))))) : V G E pc lv (.int x :: .ref (G.ad q) :: st) cs := V_putN C wf_X1_161 rfl tyX0_ok nmX0 (by decide) rfl rfl rfl hd he hl kk
theorem vg_X1_178 {G : zG} {E : zE} {cc : ByteArray} {nL fr lo pc : Nat} {lv : List (Option Value)} {st : List Value} {cs : List va_E} (C : zC G E RX1 cc nL fr lo) (hd : decode cc pc = .ok (.getfield 178, 3)) {q : Nat} {fs : List Value} {v : Value} (he : cs[q]? = some (.inr (1, fs))) (hv : fs[11]? = some v) (kk : V G E (pc + 3) lv (v :: st) cs) : V G E pc lv (.ref (G.ad q) :: st) cs := V_get C wf_X1_178 rfl (by decide) hd he hv kk
theorem vp_X1_178 {G : zG} {E : zE} {cc : ByteArray} {nL fr lo pc : Nat} {lv : List (Option Value)} {st : List Value} {cs : List va_E} (C : zC G E RX1 cc nL fr lo) (hd : decode cc pc = .ok (.putfield 178, 3)) {q : Nat} {fs : List Value} {x : Int32} (he : cs[q]? = some (.inr (1, fs))) (hl : 11 < fs.length) (kk : V G E (pc + 3) lv st (cs.set q (.inr (1, fs.set 11 (.int x))))) : V G E pc lv (.int x :: .ref (G.ad q) :: st) cs := V_put C wf_X1_178 rfl tyX1_ok nmX1 (by decide) rfl rfl rfl hd he hl kk
theorem vg_X1_181 {G : zG} {E : zE} {cc : ByteArray} {nL fr lo pc : Nat} {lv : List (Option Value)} {st : List Value} {cs : List va_E} (C : zC G E RX1 cc nL fr lo) (hd : decode cc pc = .ok (.getfield 181, 3)) {q : Nat} {fs : List Value} {v : Value} (he : cs[q]? = some (.inr (1, fs))) (hv : fs[12]? = some v) (kk : V G E (pc + 3) lv (v :: st) cs) : V G E pc lv (.ref (G.ad q) :: st) cs := V_get C wf_X1_181 rfl (by decide) hd he hv kk
theorem vp_X1_181 {G : zG} {E : zE} {cc : ByteArray} {nL fr lo pc : Nat} {lv : List (Option Value)} {st : List Value} {cs : List va_E} (C : zC G E RX1 cc nL fr lo) (hd : decode cc pc = .ok (.putfield 181, 3)) {q : Nat} {fs : List Value} {x : Int32} (he : cs[q]? = some (.inr (1, fs))) (hl : 12 < fs.length) (kk : V G E (pc + 3) lv st (cs.set q (.inr (1, fs.set 12 (.int x))))) : V G E pc lv (.int x :: .ref (G.ad q) :: st) cs := V_put C wf_X1_181 rfl tyX1_ok nmX1 (by decide) rfl rfl rfl hd he hl kk
theorem vg_X1_187 {G : zG} {E : zE} {cc : ByteArray} {nL fr lo pc : Nat} {lv : List (Option Value)} {st : List Value} {cs : List va_E} (C : zC G E RX1 cc nL fr lo) (hd : decode cc pc = .ok (.getfield 187, 3)) {q : Nat} {fs : List Value} {v : Value} (he : cs[q]? = some (.inr (1, fs))) (hv : fs[10]? = some v) (kk : V G E (pc + 3) lv (v :: st) cs) : V G E pc lv (.ref (G.ad q) :: st) cs := V_get C wf_X1_187 rfl (by decide) hd he hv kk
theorem vp_X1_187 {G : zG} {E : zE} {cc : ByteArray} {nL fr lo pc : Nat} {lv : List (Option Value)} {st : List Value} {cs : List va_E} (C : zC G E RX1 cc nL fr lo) (hd : decode cc pc = .ok (.putfield 187, 3)) {q : Nat} {fs : List Value} {x : Int32} (he : cs[q]? = some (.inr (1, fs))) (hl : 10 < fs.length) (kk : V G E (pc + 3) lv st (cs.set q (.inr (1, fs.set 10 (.int x))))) : V G E pc lv (.int x :: .ref (G.ad q) :: st) cs := V_put C wf_X1_187 rfl tyX1_ok nmX1 (by decide) rfl rfl rfl hd he hl kk
theorem vg_X1_215 {G : zG} {E : zE} {cc : ByteArray} {nL fr lo pc : Nat} {lv : List (Option Value)} {st : List Value} {cs : List va_E} (C : zC G E RX1 cc nL fr lo) (hd : decode cc pc = .ok (.getfield 215, 3)) {q : Nat} {fs : List Value} {v : Value} (he : cs[q]? = some (.inr (0, fs))) (hv : fs[7]? = some v) (kk : V G E (pc + 3) lv (v :: st) cs) : V G E pc lv (.ref (G.ad q) :: st) cs := V_getN C wf_X1_215 rfl (by decide) hd he hv kk
theorem vp_X1_215 {G : zG} {E : zE} {cc : ByteArray} {nL fr lo pc : Nat} {lv : List (Option Value)} {st : List Value} {cs : List va_E} (C : zC G E RX1 cc nL fr lo) (hd : decode cc pc = .ok (.putfield 215, 3)) {q : Nat} {fs : List Value} {z : Int} (he : cs[q]? = some (.inr (0, fs))) (hl : 7 < fs.length) (hz : z = 0 ∨ z = 1) (kk : V G E (pc + 3) lv st (cs.set q (.inr (0, fs.set 7 (.int (iI z)))))) : V G E pc lv (.int (iI z) :: .ref (G.ad q) :: st) cs := V_putN C wf_X1_215 rfl tyX0_ok nmX0 (by decide) rfl (by rcases hz with rfl | rfl <;> rfl) (by rcases hz with rfl | rfl <;> rfl) hd he hl kk
theorem vg_X1_224 {G : zG} {E : zE} {cc : ByteArray} {nL fr lo pc : Nat} {lv : List (Option Value)} {st : List Value} {cs : List va_E} (C : zC G E RX1 cc nL fr lo) (hd : decode cc pc = .ok (.getfield 224, 3)) {q : Nat} {fs : List Value} {v : Value} (he : cs[q]? = some (.inr (0, fs))) (hv : fs[2]? = some v) (kk : V G E (pc + 3) lv (v :: st) cs) : V G E pc lv (.ref (G.ad q) :: st) cs := V_getN C wf_X1_224 rfl (by decide) hd he hv kk
theorem vp_X1_224 {G : zG} {E : zE} {cc : ByteArray} {nL fr lo pc : Nat} {lv : List (Option Value)} {st : List Value} {cs : List va_E} (C : zC G E RX1 cc nL fr lo) (hd : decode cc pc = .ok (.putfield 224, 3)) {q : Nat} {fs : List Value} {x : Int32} (he : cs[q]? = some (.inr (0, fs))) (hl : 2 < fs.length) (kk : V G E (pc + 3) lv st (cs.set q (.inr (0, fs.set 2 (.int x))))) : V G E pc lv (.int x :: .ref (G.ad q) :: st) cs := V_putN C wf_X1_224 rfl tyX0_ok nmX0 (by decide) rfl rfl rfl hd he hl kk
theorem vg_X2_9 {G : zG} {E : zE} {cc : ByteArray} {nL fr lo pc : Nat} {lv : List (Option Value)} {st : List Value} {cs : List va_E} (C : zC G E RX2 cc nL fr lo) (hd : decode cc pc = .ok (.getfield 9, 3)) {q : Nat} {fs : List Value} {v : Value} (he : cs[q]? = some (.inr (2, fs))) (hv : fs[0]? = some v) (kk : V G E (pc + 3) lv (v :: st) cs) : V G E pc lv (.ref (G.ad q) :: st) cs := V_get C wf_X2_9 rfl (by decide) hd he hv kk
theorem vg_X2_19 {G : zG} {E : zE} {cc : ByteArray} {nL fr lo pc : Nat} {lv : List (Option Value)} {st : List Value} {cs : List va_E} (C : zC G E RX2 cc nL fr lo) (hd : decode cc pc = .ok (.getfield 19, 3)) {q : Nat} {fs : List Value} {v : Value} (he : cs[q]? = some (.inr (2, fs))) (hv : fs[1]? = some v) (kk : V G E (pc + 3) lv (v :: st) cs) : V G E pc lv (.ref (G.ad q) :: st) cs := V_get C wf_X2_19 rfl (by decide) hd he hv kk
theorem vp_X2_19 {G : zG} {E : zE} {cc : ByteArray} {nL fr lo pc : Nat} {lv : List (Option Value)} {st : List Value} {cs : List va_E} (C : zC G E RX2 cc nL fr lo) (hd : decode cc pc = .ok (.putfield 19, 3)) {q : Nat} {fs : List Value} {x : Int32} (he : cs[q]? = some (.inr (2, fs))) (hl : 1 < fs.length) (kk : V G E (pc + 3) lv st (cs.set q (.inr (2, fs.set 1 (.int x))))) : V G E pc lv (.int x :: .ref (G.ad q) :: st) cs := V_put C wf_X2_19 rfl tyX2_ok nmX2 (by decide) rfl rfl rfl hd he hl kk
theorem vg_X3_11 {G : zG} {E : zE} {cc : ByteArray} {nL fr lo pc : Nat} {lv : List (Option Value)} {st : List Value} {cs : List va_E} (C : zC G E RX3 cc nL fr lo) (hd : decode cc pc = .ok (.getfield 11, 3)) {q : Nat} {fs : List Value} {v : Value} (he : cs[q]? = some (.inr (3, fs))) (hv : fs[0]? = some v) (kk : V G E (pc + 3) lv (v :: st) cs) : V G E pc lv (.ref (G.ad q) :: st) cs := V_get C wf_X3_11 rfl (by decide) hd he hv kk
theorem vg_X3_15 {G : zG} {E : zE} {cc : ByteArray} {nL fr lo pc : Nat} {lv : List (Option Value)} {st : List Value} {cs : List va_E} (C : zC G E RX3 cc nL fr lo) (hd : decode cc pc = .ok (.getfield 15, 3)) {q : Nat} {fs : List Value} {v : Value} (he : cs[q]? = some (.inr (3, fs))) (hv : fs[1]? = some v) (kk : V G E (pc + 3) lv (v :: st) cs) : V G E pc lv (.ref (G.ad q) :: st) cs := V_get C wf_X3_15 rfl (by decide) hd he hv kk
theorem vg_X3_18 {G : zG} {E : zE} {cc : ByteArray} {nL fr lo pc : Nat} {lv : List (Option Value)} {st : List Value} {cs : List va_E} (C : zC G E RX3 cc nL fr lo) (hd : decode cc pc = .ok (.getfield 18, 3)) {q : Nat} {fs : List Value} {v : Value} (he : cs[q]? = some (.inr (3, fs))) (hv : fs[2]? = some v) (kk : V G E (pc + 3) lv (v :: st) cs) : V G E pc lv (.ref (G.ad q) :: st) cs := V_get C wf_X3_18 rfl (by decide) hd he hv kk
theorem vg_X3_27 {G : zG} {E : zE} {cc : ByteArray} {nL fr lo pc : Nat} {lv : List (Option Value)} {st : List Value} {cs : List va_E} (C : zC G E RX3 cc nL fr lo) (hd : decode cc pc = .ok (.getfield 27, 3)) {q : Nat} {fs : List Value} {v : Value} (he : cs[q]? = some (.inr (3, fs))) (hv : fs[3]? = some v) (kk : V G E (pc + 3) lv (v :: st) cs) : V G E pc lv (.ref (G.ad q) :: st) cs := V_get C wf_X3_27 rfl (by decide) hd he hv kk
theorem vp_X3_27 {G : zG} {E : zE} {cc : ByteArray} {nL fr lo pc : Nat} {lv : List (Option Value)} {st : List Value} {cs : List va_E} (C : zC G E RX3 cc nL fr lo) (hd : decode cc pc = .ok (.putfield 27, 3)) {q : Nat} {fs : List Value} {x : Int32} (he : cs[q]? = some (.inr (3, fs))) (hl : 3 < fs.length) (kk : V G E (pc + 3) lv st (cs.set q (.inr (3, fs.set 3 (.int x))))) : V G E pc lv (.int x :: .ref (G.ad q) :: st) cs := V_put C wf_X3_27 rfl tyX3_ok nmX3 (by decide) rfl rfl rfl hd he hl kk
theorem vg_X3_31 {G : zG} {E : zE} {cc : ByteArray} {nL fr lo pc : Nat} {lv : List (Option Value)} {st : List Value} {cs : List va_E} (C : zC G E RX3 cc nL fr lo) (hd : decode cc pc = .ok (.getfield 31, 3)) {q : Nat} {fs : List Value} {v : Value} (he : cs[q]? = some (.inr (3, fs))) (hv : fs[4]? = some v) (kk : V G E (pc + 3) lv (v :: st) cs) : V G E pc lv (.ref (G.ad q) :: st) cs := V_get C wf_X3_31 rfl (by decide) hd he hv kk
theorem vp_X3_31 {G : zG} {E : zE} {cc : ByteArray} {nL fr lo pc : Nat} {lv : List (Option Value)} {st : List Value} {cs : List va_E} (C : zC G E RX3 cc nL fr lo) (hd : decode cc pc = .ok (.putfield 31, 3)) {q : Nat} {fs : List Value} {x : Int32} (he : cs[q]? = some (.inr (3, fs))) (hl : 4 < fs.length) (kk : V G E (pc + 3) lv st (cs.set q (.inr (3, fs.set 4 (.int x))))) : V G E pc lv (.int x :: .ref (G.ad q) :: st) cs := V_put C wf_X3_31 rfl tyX3_ok nmX3 (by decide) rfl rfl rfl hd he hl kk
theorem vg_X3_34 {G : zG} {E : zE} {cc : ByteArray} {nL fr lo pc : Nat} {lv : List (Option Value)} {st : List Value} {cs : List va_E} (C : zC G E RX3 cc nL fr lo) (hd : decode cc pc = .ok (.getfield 34, 3)) {q : Nat} {fs : List Value} {v : Value} (he : cs[q]? = some (.inr (5, fs))) (hv : fs[0]? = some v) (kk : V G E (pc + 3) lv (v :: st) cs) : V G E pc lv (.ref (G.ad q) :: st) cs := V_getN C wf_X3_34 rfl (by decide) hd he hv kk
theorem vg_X3_37 {G : zG} {E : zE} {cc : ByteArray} {nL fr lo pc : Nat} {lv : List (Option Value)} {st : List Value} {cs : List va_E} (C : zC G E RX3 cc nL fr lo) (hd : decode cc pc = .ok (.getfield 37, 3)) {q : Nat} {fs : List Value} {v : Value} (he : cs[q]? = some (.inr (5, fs))) (hv : fs[1]? = some v) (kk : V G E (pc + 3) lv (v :: st) cs) : V G E pc lv (.ref (G.ad q) :: st) cs := V_getN C wf_X3_37 rfl (by decide) hd he hv kk
theorem vp_X3_37 {G : zG} {E : zE} {cc : ByteArray} {nL fr lo pc : Nat} {lv : List (Option Value)} {st : List Value} {cs : List va_E} (C : zC G E RX3 cc nL fr lo) (hd : decode cc pc = .ok (.putfield 37, 3)) {q : Nat} {fs : List Value} {x : Int32} (he : cs[q]? = some (.inr (5, fs))) (hl : 1 < fs.length) (kk : V G E (pc + 3) lv st (cs.set q (.inr (5, fs.set 1 (.int x))))) : V G E pc lv (.int x :: .ref (G.ad q) :: st) cs := V_putN C wf_X3_37 rfl tyX5_ok nmX5 (by decide) rfl rfl rfl hd he hl kk
theorem vg_X3_40 {G : zG} {E : zE} {cc : ByteArray} {nL fr lo pc : Nat} {lv : List (Option Value)} {st : List Value} {cs : List va_E} (C : zC G E RX3 cc nL fr lo) (hd : decode cc pc = .ok (.getfield 40, 3)) {q : Nat} {fs : List Value} {v : Value} (he : cs[q]? = some (.inr (5, fs))) (hv : fs[2]? = some v) (kk : V G E (pc + 3) lv (v :: st) cs) : V G E pc lv (.ref (G.ad q) :: st) cs := V_getN C wf_X3_40 rfl (by decide) hd he hv kk
theorem vp_X3_40 {G : zG} {E : zE} {cc : ByteArray} {nL fr lo pc : Nat} {lv : List (Option Value)} {st : List Value} {cs : List va_E} (C : zC G E RX3 cc nL fr lo) (hd : decode cc pc = .ok (.putfield 40, 3)) {q : Nat} {fs : List Value} {x : Int32} (he : cs[q]? = some (.inr (5, fs))) (hl : 2 < fs.length) (kk : V G E (pc + 3) lv st (cs.set q (.inr (5, fs.set 2 (.int x))))) : V G E pc lv (.int x :: .ref (G.ad q) :: st) cs := V_putN C wf_X3_40 rfl tyX5_ok nmX5 (by decide) rfl rfl rfl hd he hl kk
theorem vg_X4_9 {G : zG} {E : zE} {cc : ByteArray} {nL fr lo pc : Nat} {lv : List (Option Value)} {st : List Value} {cs : List va_E} (C : zC G E RX4 cc nL fr lo) (hd : decode cc pc = .ok (.getfield 9, 3)) {q : Nat} {fs : List Value} {v : Value} (he : cs[q]? = some (.inr (4, fs))) (hv : fs[0]? = some v) (kk : V G E (pc + 3) lv (v :: st) cs) : V G E pc lv (.ref (G.ad q) :: st) cs := V_get C wf_X4_9 rfl (by decide) hd he hv kk
theorem vg_X4_15 {G : zG} {E : zE} {cc : ByteArray} {nL fr lo pc : Nat} {lv : List (Option Value)} {st : List Value} {cs : List va_E} (C : zC G E RX4 cc nL fr lo) (hd : decode cc pc = .ok (.getfield 15, 3)) {q : Nat} {fs : List Value} {v : Value} (he : cs[q]? = some (.inr (4, fs))) (hv : fs[1]? = some v) (kk : V G E (pc + 3) lv (v :: st) cs) : V G E pc lv (.ref (G.ad q) :: st) cs := V_get C wf_X4_15 rfl (by decide) hd he hv kk
theorem vp_X4_15 {G : zG} {E : zE} {cc : ByteArray} {nL fr lo pc : Nat} {lv : List (Option Value)} {st : List Value} {cs : List va_E} (C : zC G E RX4 cc nL fr lo) (hd : decode cc pc = .ok (.putfield 15, 3)) {q : Nat} {fs : List Value} {x : Int32} (he : cs[q]? = some (.inr (4, fs))) (hl : 1 < fs.length) (kk : V G E (pc + 3) lv st (cs.set q (.inr (4, fs.set 1 (.int x))))) : V G E pc lv (.int x :: .ref (G.ad q) :: st) cs := V_put C wf_X4_15 rfl tyX4_ok nmX4 (by decide) rfl rfl rfl hd he hl kk
theorem vg_X4_19 {G : zG} {E : zE} {cc : ByteArray} {nL fr lo pc : Nat} {lv : List (Option Value)} {st : List Value} {cs : List va_E} (C : zC G E RX4 cc nL fr lo) (hd : decode cc pc = .ok (.getfield 19, 3)) {q : Nat} {fs : List Value} {v : Value} (he : cs[q]? = some (.inr (4, fs))) (hv : fs[2]? = some v) (kk : V G E (pc + 3) lv (v :: st) cs) : V G E pc lv (.ref (G.ad q) :: st) cs := V_get C wf_X4_19 rfl (by decide) hd he hv kk
theorem vp_X4_19 {G : zG} {E : zE} {cc : ByteArray} {nL fr lo pc : Nat} {lv : List (Option Value)} {st : List Value} {cs : List va_E} (C : zC G E RX4 cc nL fr lo) (hd : decode cc pc = .ok (.putfield 19, 3)) {q : Nat} {fs : List Value} {x : Int32} (he : cs[q]? = some (.inr (4, fs))) (hl : 2 < fs.length) (kk : V G E (pc + 3) lv st (cs.set q (.inr (4, fs.set 2 (.int x))))) : V G E pc lv (.int x :: .ref (G.ad q) :: st) cs := V_put C wf_X4_19 rfl tyX4_ok nmX4 (by decide) rfl rfl rfl hd he hl kk
theorem vg_X5_9 {G : zG} {E : zE} {cc : ByteArray} {nL fr lo pc : Nat} {lv : List (Option Value)} {st : List Value} {cs : List va_E} (C : zC G E RX5 cc nL fr lo) (hd : decode cc pc = .ok (.getfield 9, 3)) {q : Nat} {fs : List Value} {v : Value} (he : cs[q]? = some (.inr (5, fs))) (hv : fs[0]? = some v) (kk : V G E (pc + 3) lv (v :: st) cs) : V G E pc lv (.ref (G.ad q) :: st) cs := V_get C wf_X5_9 rfl (by decide) hd he hv kk
theorem vg_X5_21 {G : zG} {E : zE} {cc : ByteArray} {nL fr lo pc : Nat} {lv : List (Option Value)} {st : List Value} {cs : List va_E} (C : zC G E RX5 cc nL fr lo) (hd : decode cc pc = .ok (.getfield 21, 3)) {q : Nat} {fs : List Value} {v : Value} (he : cs[q]? = some (.inr (5, fs))) (hv : fs[1]? = some v) (kk : V G E (pc + 3) lv (v :: st) cs) : V G E pc lv (.ref (G.ad q) :: st) cs := V_get C wf_X5_21 rfl (by decide) hd he hv kk
theorem vp_X5_21 {G : zG} {E : zE} {cc : ByteArray} {nL fr lo pc : Nat} {lv : List (Option Value)} {st : List Value} {cs : List va_E} (C : zC G E RX5 cc nL fr lo) (hd : decode cc pc = .ok (.putfield 21, 3)) {q : Nat} {fs : List Value} {x : Int32} (he : cs[q]? = some (.inr (5, fs))) (hl : 1 < fs.length) (kk : V G E (pc + 3) lv st (cs.set q (.inr (5, fs.set 1 (.int x))))) : V G E pc lv (.int x :: .ref (G.ad q) :: st) cs := V_put C wf_X5_21 rfl tyX5_ok nmX5 (by decide) rfl rfl rfl hd he hl kk
theorem vg_X5_25 {G : zG} {E : zE} {cc : ByteArray} {nL fr lo pc : Nat} {lv : List (Option Value)} {st : List Value} {cs : List va_E} (C : zC G E RX5 cc nL fr lo) (hd : decode cc pc = .ok (.getfield 25, 3)) {q : Nat} {fs : List Value} {v : Value} (he : cs[q]? = some (.inr (5, fs))) (hv : fs[2]? = some v) (kk : V G E (pc + 3) lv (v :: st) cs) : V G E pc lv (.ref (G.ad q) :: st) cs := V_get C wf_X5_25 rfl (by decide) hd he hv kk
theorem vp_X5_25 {G : zG} {E : zE} {cc : ByteArray} {nL fr lo pc : Nat} {lv : List (Option Value)} {st : List Value} {cs : List va_E} (C : zC G E RX5 cc nL fr lo) (hd : decode cc pc = .ok (.putfield 25, 3)) {q : Nat} {fs : List Value} {x : Int32} (he : cs[q]? = some (.inr (5, fs))) (hl : 2 < fs.length) (kk : V G E (pc + 3) lv st (cs.set q (.inr (5, fs.set 2 (.int x))))) : V G E pc lv (.int x :: .ref (G.ad q) :: st) cs := V_put C wf_X5_25 rfl tyX5_ok nmX5 (by decide) rfl rfl rfl hd he hl kk
theorem vg_X6_11 {G : zG} {E : zE} {cc : ByteArray} {nL fr lo pc : Nat} {lv : List (Option Value)} {st : List Value} {cs : List va_E} (C : zC G E RX6 cc nL fr lo) (hd : decode cc pc = .ok (.getfield 11, 3)) {q : Nat} {fs : List Value} {v : Value} (he : cs[q]? = some (.inr (6, fs))) (hv : fs[0]? = some v) (kk : V G E (pc + 3) lv (v :: st) cs) : V G E pc lv (.ref (G.ad q) :: st) cs := V_get C wf_X6_11 rfl (by decide) hd he hv kk
theorem vg_X6_16 {G : zG} {E : zE} {cc : ByteArray} {nL fr lo pc : Nat} {lv : List (Option Value)} {st : List Value} {cs : List va_E} (C : zC G E RX6 cc nL fr lo) (hd : decode cc pc = .ok (.getfield 16, 3)) {q : Nat} {fs : List Value} {v : Value} (he : cs[q]? = some (.inr (6, fs))) (hv : fs[1]? = some v) (kk : V G E (pc + 3) lv (v :: st) cs) : V G E pc lv (.ref (G.ad q) :: st) cs := V_get C wf_X6_16 rfl (by decide) hd he hv kk
theorem vg_X6_20 {G : zG} {E : zE} {cc : ByteArray} {nL fr lo pc : Nat} {lv : List (Option Value)} {st : List Value} {cs : List va_E} (C : zC G E RX6 cc nL fr lo) (hd : decode cc pc = .ok (.getfield 20, 3)) {q : Nat} {fs : List Value} {v : Value} (he : cs[q]? = some (.inr (6, fs))) (hv : fs[2]? = some v) (kk : V G E (pc + 3) lv (v :: st) cs) : V G E pc lv (.ref (G.ad q) :: st) cs := V_get C wf_X6_20 rfl (by decide) hd he hv kk
theorem vg_X6_23 {G : zG} {E : zE} {cc : ByteArray} {nL fr lo pc : Nat} {lv : List (Option Value)} {st : List Value} {cs : List va_E} (C : zC G E RX6 cc nL fr lo) (hd : decode cc pc = .ok (.getfield 23, 3)) {q : Nat} {fs : List Value} {v : Value} (he : cs[q]? = some (.inr (6, fs))) (hv : fs[3]? = some v) (kk : V G E (pc + 3) lv (v :: st) cs) : V G E pc lv (.ref (G.ad q) :: st) cs := V_get C wf_X6_23 rfl (by decide) hd he hv kk
theorem vg_X6_32 {G : zG} {E : zE} {cc : ByteArray} {nL fr lo pc : Nat} {lv : List (Option Value)} {st : List Value} {cs : List va_E} (C : zC G E RX6 cc nL fr lo) (hd : decode cc pc = .ok (.getfield 32, 3)) {q : Nat} {fs : List Value} {v : Value} (he : cs[q]? = some (.inr (6, fs))) (hv : fs[4]? = some v) (kk : V G E (pc + 3) lv (v :: st) cs) : V G E pc lv (.ref (G.ad q) :: st) cs := V_get C wf_X6_32 rfl (by decide) hd he hv kk
theorem vp_X6_32 {G : zG} {E : zE} {cc : ByteArray} {nL fr lo pc : Nat} {lv : List (Option Value)} {st : List Value} {cs : List va_E} (C : zC G E RX6 cc nL fr lo) (hd : decode cc pc = .ok (.putfield 32, 3)) {q : Nat} {fs : List Value} {x : Int32} (he : cs[q]? = some (.inr (6, fs))) (hl : 4 < fs.length) (kk : V G E (pc + 3) lv st (cs.set q (.inr (6, fs.set 4 (.int x))))) : V G E pc lv (.int x :: .ref (G.ad q) :: st) cs := V_put C wf_X6_32 rfl tyX6_ok nmX6 (by decide) rfl rfl rfl hd he hl kk
theorem vg_X8_7 {G : zG} {E : zE} {cc : ByteArray} {nL fr lo pc : Nat} {lv : List (Option Value)} {st : List Value} {cs : List va_E} (C : zC G E RX8 cc nL fr lo) (hd : decode cc pc = .ok (.getfield 7, 3)) {q : Nat} {fs : List Value} {v : Value} (he : cs[q]? = some (.inr (8, fs))) (hv : fs[0]? = some v) (kk : V G E (pc + 3) lv (v :: st) cs) : V G E pc lv (.ref (G.ad q) :: st) cs := V_get C wf_X8_7 rfl (by decide) hd he hv kk
theorem vg_X8_13 {G : zG} {E : zE} {cc : ByteArray} {nL fr lo pc : Nat} {lv : List (Option Value)} {st : List Value} {cs : List va_E} (C : zC G E RX8 cc nL fr lo) (hd : decode cc pc = .ok (.getfield 13, 3)) {q : Nat} {fs : List Value} {v : Value} (he : cs[q]? = some (.inr (8, fs))) (hv : fs[1]? = some v) (kk : V G E (pc + 3) lv (v :: st) cs) : V G E pc lv (.ref (G.ad q) :: st) cs := V_get C wf_X8_13 rfl (by decide) hd he hv kk
theorem vg_X8_16 {G : zG} {E : zE} {cc : ByteArray} {nL fr lo pc : Nat} {lv : List (Option Value)} {st : List Value} {cs : List va_E} (C : zC G E RX8 cc nL fr lo) (hd : decode cc pc = .ok (.getfield 16, 3)) {q : Nat} {fs : List Value} {v : Value} (he : cs[q]? = some (.inr (8, fs))) (hv : fs[3]? = some v) (kk : V G E (pc + 3) lv (v :: st) cs) : V G E pc lv (.ref (G.ad q) :: st) cs := V_get C wf_X8_16 rfl (by decide) hd he hv kk
theorem vg_X8_19 {G : zG} {E : zE} {cc : ByteArray} {nL fr lo pc : Nat} {lv : List (Option Value)} {st : List Value} {cs : List va_E} (C : zC G E RX8 cc nL fr lo) (hd : decode cc pc = .ok (.getfield 19, 3)) {q : Nat} {fs : List Value} {v : Value} (he : cs[q]? = some (.inr (8, fs))) (hv : fs[4]? = some v) (kk : V G E (pc + 3) lv (v :: st) cs) : V G E pc lv (.ref (G.ad q) :: st) cs := V_get C wf_X8_19 rfl (by decide) hd he hv kk
theorem vg_X8_22 {G : zG} {E : zE} {cc : ByteArray} {nL fr lo pc : Nat} {lv : List (Option Value)} {st : List Value} {cs : List va_E} (C : zC G E RX8 cc nL fr lo) (hd : decode cc pc = .ok (.getfield 22, 3)) {q : Nat} {fs : List Value} {v : Value} (he : cs[q]? = some (.inr (8, fs))) (hv : fs[6]? = some v) (kk : V G E (pc + 3) lv (v :: st) cs) : V G E pc lv (.ref (G.ad q) :: st) cs := V_get C wf_X8_22 rfl (by decide) hd he hv kk
theorem vg_X8_25 {G : zG} {E : zE} {cc : ByteArray} {nL fr lo pc : Nat} {lv : List (Option Value)} {st : List Value} {cs : List va_E} (C : zC G E RX8 cc nL fr lo) (hd : decode cc pc = .ok (.getfield 25, 3)) {q : Nat} {fs : List Value} {v : Value} (he : cs[q]? = some (.inr (8, fs))) (hv : fs[7]? = some v) (kk : V G E (pc + 3) lv (v :: st) cs) : V G E pc lv (.ref (G.ad q) :: st) cs := V_get C wf_X8_25 rfl (by decide) hd he hv kk
theorem vg_X8_28 {G : zG} {E : zE} {cc : ByteArray} {nL fr lo pc : Nat} {lv : List (Option Value)} {st : List Value} {cs : List va_E} (C : zC G E RX8 cc nL fr lo) (hd : decode cc pc = .ok (.getfield 28, 3)) {q : Nat} {fs : List Value} {v : Value} (he : cs[q]? = some (.inr (8, fs))) (hv : fs[8]? = some v) (kk : V G E (pc + 3) lv (v :: st) cs) : V G E pc lv (.ref (G.ad q) :: st) cs := V_get C wf_X8_28 rfl (by decide) hd he hv kk
theorem vg_X8_31 {G : zG} {E : zE} {cc : ByteArray} {nL fr lo pc : Nat} {lv : List (Option Value)} {st : List Value} {cs : List va_E} (C : zC G E RX8 cc nL fr lo) (hd : decode cc pc = .ok (.getfield 31, 3)) {q : Nat} {fs : List Value} {v : Value} (he : cs[q]? = some (.inr (8, fs))) (hv : fs[9]? = some v) (kk : V G E (pc + 3) lv (v :: st) cs) : V G E pc lv (.ref (G.ad q) :: st) cs := V_get C wf_X8_31 rfl (by decide) hd he hv kk
theorem vg_X8_34 {G : zG} {E : zE} {cc : ByteArray} {nL fr lo pc : Nat} {lv : List (Option Value)} {st : List Value} {cs : List va_E} (C : zC G E RX8 cc nL fr lo) (hd : decode cc pc = .ok (.getfield 34, 3)) {q : Nat} {fs : List Value} {v : Value} (he : cs[q]? = some (.inr (8, fs))) (hv : fs[10]? = some v) (kk : V G E (pc + 3) lv (v :: st) cs) : V G E pc lv (.ref (G.ad q) :: st) cs := V_get C wf_X8_34 rfl (by decide) hd he hv kk
theorem vg_X8_37 {G : zG} {E : zE} {cc : ByteArray} {nL fr lo pc : Nat} {lv : List (Option Value)} {st : List Value} {cs : List va_E} (C : zC G E RX8 cc nL fr lo) (hd : decode cc pc = .ok (.getfield 37, 3)) {q : Nat} {fs : List Value} {v : Value} (he : cs[q]? = some (.inr (8, fs))) (hv : fs[11]? = some v) (kk : V G E (pc + 3) lv (v :: st) cs) : V G E pc lv (.ref (G.ad q) :: st) cs := V_get C wf_X8_37 rfl (by decide) hd he hv kk
theorem vp_X8_37 {G : zG} {E : zE} {cc : ByteArray} {nL fr lo pc : Nat} {lv : List (Option Value)} {st : List Value} {cs : List va_E} (C : zC G E RX8 cc nL fr lo) (hd : decode cc pc = .ok (.putfield 37, 3)) {q : Nat} {fs : List Value} {x : Int32} (he : cs[q]? = some (.inr (8, fs))) (hl : 11 < fs.length) (kk : V G E (pc + 3) lv st (cs.set q (.inr (8, fs.set 11 (.int x))))) : V G E pc lv (.int x :: .ref (G.ad q) :: st) cs := V_put C wf_X8_37 rfl tyX8_ok nmX8 (by decide) rfl rfl rfl hd he hl kk
theorem vg_X8_41 {G : zG} {E : zE} {cc : ByteArray} {nL fr lo pc : Nat} {lv : List (Option Value)} {st : List Value} {cs : List va_E} (C : zC G E RX8 cc nL fr lo) (hd : decode cc pc = .ok (.getfield 41, 3)) {q : Nat} {fs : List Value} {v : Value} (he : cs[q]? = some (.inr (8, fs))) (hv : fs[12]? = some v) (kk : V G E (pc + 3) lv (v :: st) cs) : V G E pc lv (.ref (G.ad q) :: st) cs := V_get C wf_X8_41 rfl (by decide) hd he hv kk
theorem vg_X8_44 {G : zG} {E : zE} {cc : ByteArray} {nL fr lo pc : Nat} {lv : List (Option Value)} {st : List Value} {cs : List va_E} (C : zC G E RX8 cc nL fr lo) (hd : decode cc pc = .ok (.getfield 44, 3)) {q : Nat} {fs : List Value} {v : Value} (he : cs[q]? = some (.inr (8, fs))) (hv : fs[13]? = some v) (kk : V G E (pc + 3) lv (v :: st) cs) : V G E pc lv (.ref (G.ad q) :: st) cs := V_get C wf_X8_44 rfl (by decide) hd he hv kk
theorem vg_X8_47 {G : zG} {E : zE} {cc : ByteArray} {nL fr lo pc : Nat} {lv : List (Option Value)} {st : List Value} {cs : List va_E} (C : zC G E RX8 cc nL fr lo) (hd : decode cc pc = .ok (.getfield 47, 3)) {q : Nat} {fs : List Value} {v : Value} (he : cs[q]? = some (.inr (8, fs))) (hv : fs[14]? = some v) (kk : V G E (pc + 3) lv (v :: st) cs) : V G E pc lv (.ref (G.ad q) :: st) cs := V_get C wf_X8_47 rfl (by decide) hd he hv kk
theorem vg_X8_51 {G : zG} {E : zE} {cc : ByteArray} {nL fr lo pc : Nat} {lv : List (Option Value)} {st : List Value} {cs : List va_E} (C : zC G E RX8 cc nL fr lo) (hd : decode cc pc = .ok (.getfield 51, 3)) {q : Nat} {fs : List Value} {v : Value} (he : cs[q]? = some (.inr (8, fs))) (hv : fs[15]? = some v) (kk : V G E (pc + 3) lv (v :: st) cs) : V G E pc lv (.ref (G.ad q) :: st) cs := V_get C wf_X8_51 rfl (by decide) hd he hv kk
theorem vg_X8_97 {G : zG} {E : zE} {cc : ByteArray} {nL fr lo pc : Nat} {lv : List (Option Value)} {st : List Value} {cs : List va_E} (C : zC G E RX8 cc nL fr lo) (hd : decode cc pc = .ok (.getfield 97, 3)) {q : Nat} {fs : List Value} {v : Value} (he : cs[q]? = some (.inr (8, fs))) (hv : fs[2]? = some v) (kk : V G E (pc + 3) lv (v :: st) cs) : V G E pc lv (.ref (G.ad q) :: st) cs := V_get C wf_X8_97 rfl (by decide) hd he hv kk
theorem vp_X8_97 {G : zG} {E : zE} {cc : ByteArray} {nL fr lo pc : Nat} {lv : List (Option Value)} {st : List Value} {cs : List va_E} (C : zC G E RX8 cc nL fr lo) (hd : decode cc pc = .ok (.putfield 97, 3)) {q : Nat} {fs : List Value} {x : Int32} (he : cs[q]? = some (.inr (8, fs))) (hl : 2 < fs.length) (kk : V G E (pc + 3) lv st (cs.set q (.inr (8, fs.set 2 (.int x))))) : V G E pc lv (.int x :: .ref (G.ad q) :: st) cs := V_put C wf_X8_97 rfl tyX8_ok nmX8 (by decide) rfl rfl rfl hd he hl kk
theorem vg_X8_203 {G : zG} {E : zE} {cc : ByteArray} {nL fr lo pc : Nat} {lv : List (Option Value)} {st : List Value} {cs : List va_E} (C : zC G E RX8 cc nL fr lo) (hd : decode cc pc = .ok (.getfield 203, 3)) {q : Nat} {fs : List Value} {v : Value} (he : cs[q]? = some (.inr (8, fs))) (hv : fs[5]? = some v) (kk : V G E (pc + 3) lv (v :: st) cs) : V G E pc lv (.ref (G.ad q) :: st) cs := V_get C wf_X8_203 rfl (by decide) hd he hv kk
theorem vp_X8_203 {G : zG} {E : zE} {cc : ByteArray} {nL fr lo pc : Nat} {lv : List (Option Value)} {st : List Value} {cs : List va_E} (C : zC G E RX8 cc nL fr lo) (hd : decode cc pc = .ok (.putfield 203, 3)) {q : Nat} {fs : List Value} {x : Int32} (he : cs[q]? = some (.inr (8, fs))) (hl : 5 < fs.length) (kk : V G E (pc + 3) lv st (cs.set q (.inr (8, fs.set 5 (.int x))))) : V G E pc lv (.int x :: .ref (G.ad q) :: st) cs := V_put C wf_X8_203 rfl tyX8_ok nmX8 (by decide) rfl rfl rfl hd he hl kk
theorem lk_X7_37 : zLS RX7 37 yX7_isLetter cX7_isLetter 1 (some .boolean) 1 := ⟨wm_X7_37, wt_X7_isLetter, wn_X7, wc_X7_isLetter, by decide⟩
theorem lk_X7_45 : zLN RX7 45 yX1_begin cX1_begin 3 none 2 "ModalKeys" := ⟨wm_X7_45, wi_X1_begin, ws_X1_begin, wn_X1, wc_X1_begin, by decide⟩
theorem lk_X7_58 : zLN RX7 58 yX5_has cX5_has 2 (some .boolean) 1 "ModalKeys" := ⟨wm_X7_58, wi_X5_has, ws_X5_has, wn_X5, wc_X5_has, by decide⟩
theorem lk_X7_61 : zLN RX7 61 yX5_at cX5_at 2 (some .int) 1 "ModalKeys" := ⟨wm_X7_61, wi_X5_at, ws_X5_at, wn_X5, wc_X5_at, by decide⟩
theorem lk_X7_81 : zLN RX7 81 yX1_isPending cX1_isPending 1 (some .boolean) 0 "ModalKeys" := ⟨wm_X7_81, wi_X1_isPending, ws_X1_isPending, wn_X1, wc_X1_isPending, by decide⟩
theorem lk_X7_85 : zLN RX7 85 yX1_markSet cX1_markSet 3 (some .int) 0 "ModalKeys" := ⟨wm_X7_85, wi_X1_markSet, ws_X1_markSet, wn_X1, wc_X1_markSet, by decide⟩
theorem lk_X7_98 : zLN RX7 98 yX5_words cX5_words 3 (some .int) 0 "ModalKeys" := ⟨wm_X7_98, wi_X5_words, ws_X5_words, wn_X5, wc_X5_words, by decide⟩
theorem lk_X7_108 : zLN RX7 108 yX1_press cX1_press 5 (some .int) 1 "ModalKeys" := ⟨wm_X7_108, wi_X1_press, ws_X1_press, wn_X1, wc_X1_press, by decide⟩
theorem lk_X7_111 : zLS RX7 111 yX7_isMotion cX7_isMotion 1 (some .boolean) 1 := ⟨wm_X7_111, wt_X7_isMotion, wn_X7, wc_X7_isMotion, by decide⟩
theorem lk_X7_117 : zLN RX7 117 yX5_lead cX5_lead 4 (some .int) 2 "ModalKeys" := ⟨wm_X7_117, wi_X5_lead, ws_X5_lead, wn_X5, wc_X5_lead, by decide⟩
theorem lk_X7_121 : zLN RX7 121 yX5_canStand cX5_canStand 2 (some .boolean) 1 "ModalKeys" := ⟨wm_X7_121, wi_X5_canStand, ws_X5_canStand, wn_X5, wc_X5_canStand, by decide⟩
theorem lk_X7_124 : zLN RX7 124 yX6_survey cX6_survey 4 none 1 "ModalKeys" := ⟨wm_X7_124, wi_X6_survey, ws_X6_survey, wn_X6, wc_X6_survey, by decide⟩
theorem lk_X7_128 : zLN RX7 128 yX6_reckon cX6_reckon 11 none 3 "ModalKeys" := ⟨wm_X7_128, wi_X6_reckon, ws_X6_reckon, wn_X6, wc_X6_reckon, by decide⟩
theorem lk_X7_135 : zLN RX7 135 yX5_standing cX5_standing 1 (some .int) 0 "ModalKeys" := ⟨wm_X7_135, wi_X5_standing, ws_X5_standing, wn_X5, wc_X5_standing, by decide⟩
theorem lk_X7_138 : zLN RX7 138 yX6_stepOf cX6_stepOf 8 (some .int) 4 "ModalKeys" := ⟨wm_X7_138, wi_X6_stepOf, ws_X6_stepOf, wn_X6, wc_X6_stepOf, by decide⟩
theorem lk_X7_142 : zLN RX7 142 yX6_dearest cX6_dearest 3 (some .int) 0 "ModalKeys" := ⟨wm_X7_142, wi_X6_dearest, ws_X6_dearest, wn_X6, wc_X6_dearest, by decide⟩
theorem lk_X7_145 : zLN RX7 145 yX5_deed cX5_deed 3 (some .int) 2 "ModalKeys" := ⟨wm_X7_145, wi_X5_deed, ws_X5_deed, wn_X5, wc_X5_deed, by decide⟩
theorem lk_X7_148 : zLN RX7 148 yX1_aimByMotion cX1_aimByMotion 6 (some .boolean) 3 "ModalKeys" := ⟨wm_X7_148, wi_X1_aimByMotion, ws_X1_aimByMotion, wn_X1, wc_X1_aimByMotion, by decide⟩
theorem lk_X7_158 : zLN RX7 158 yX6_rowsTo cX6_rowsTo 7 (some .int) 3 "ModalKeys" := ⟨wm_X7_158, wi_X6_rowsTo, ws_X6_rowsTo, wn_X6, wc_X6_rowsTo, by decide⟩
theorem lk_X7_162 : zLN RX7 162 yX1_become cX1_become 2 none 1 "ModalKeys" := ⟨wm_X7_162, wi_X1_become, ws_X1_become, wn_X1, wc_X1_become, by decide⟩
theorem lk_X7_169 : zLV RX7 169 yX7_sheetAt cX7_sheetAt 2 (some (.object "ModalKeys$Sheet")) 1 := ⟨wm_X7_169, wi_X7_sheetAt, ws_X7_sheetAt, wn_X7, wc_X7_sheetAt, by decide⟩
theorem lk_X7_173 : zLS RX7 173 yX7_isLane cX7_isLane 1 (some .boolean) 1 := ⟨wm_X7_173, wt_X7_isLane, wn_X7, wc_X7_isLane, by decide⟩
theorem lk_X7_176 : zLS RX7 176 yX7_isPortion cX7_isPortion 1 (some .boolean) 1 := ⟨wm_X7_176, wt_X7_isPortion, wn_X7, wc_X7_isPortion, by decide⟩
theorem lk_X7_179 : zLN RX7 179 yX4_faultAs cX4_faultAs 4 (some .int) 3 "ModalKeys" := ⟨wm_X7_179, wi_X4_faultAs, ws_X4_faultAs, wn_X4, wc_X4_faultAs, by decide⟩
theorem lk_X7_190 : zLN RX7 190 yX4_put cX4_put 4 none 2 "ModalKeys" := ⟨wm_X7_190, wi_X4_put, ws_X4_put, wn_X4, wc_X4_put, by decide⟩
theorem lk_X7_194 : zLN RX7 194 yX4_hold cX4_hold 3 none 2 "ModalKeys" := ⟨wm_X7_194, wi_X4_hold, ws_X4_hold, wn_X4, wc_X4_hold, by decide⟩
theorem lk_X7_198 : zLN RX7 198 yX4_isNothing cX4_isNothing 1 (some .boolean) 0 "ModalKeys" := ⟨wm_X7_198, wi_X4_isNothing, ws_X4_isNothing, wn_X4, wc_X4_isNothing, by decide⟩
theorem lk_X7_205 : zLN RX7 205 yX4_reaches cX4_reaches 3 (some .boolean) 2 "ModalKeys" := ⟨wm_X7_205, wi_X4_reaches, ws_X4_reaches, wn_X4, wc_X4_reaches, by decide⟩
theorem lk_X0_47 : zLN RX0 47 yX2_become cX2_become 2 none 1 "ModalKeys" := ⟨wm_X0_47, wi_X2_become, ws_X2_become, wn_X2, wc_X2_become, by decide⟩
theorem lk_X0_60 : zLN RX0 60 yX2_add cX2_add 2 none 1 "ModalKeys" := ⟨wm_X0_60, wi_X2_add, ws_X2_add, wn_X2, wc_X2_add, by decide⟩
theorem lk_X0_64 : zLV RX0 64 yX0_takeVerb cX0_takeVerb 2 (some .int) 1 := ⟨wm_X0_64, wi_X0_takeVerb, ws_X0_takeVerb, wn_X0, wc_X0_takeVerb, by decide⟩
theorem lk_X0_68 : zLV RX0 68 yX0_takeReach cX0_takeReach 2 (some .int) 1 := ⟨wm_X0_68, wi_X0_takeReach, ws_X0_takeReach, wn_X0, wc_X0_takeReach, by decide⟩
theorem lk_X0_71 : zLV RX0 71 yX0_takeObject cX0_takeObject 2 (some .int) 1 := ⟨wm_X0_71, wi_X0_takeObject, ws_X0_takeObject, wn_X0, wc_X0_takeObject, by decide⟩
theorem lk_X0_74 : zLS RX0 74 yX0_isFigure cX0_isFigure 2 (some .boolean) 2 := ⟨wm_X0_74, wt_X0_isFigure, wn_X0, wc_X0_isFigure, by decide⟩
theorem lk_X0_78 : zLS RX0 78 yX0_withFigure cX0_withFigure 2 (some .int) 2 := ⟨wm_X0_78, wt_X0_withFigure, wn_X0, wc_X0_withFigure, by decide⟩
theorem lk_X0_81 : zLV RX0 81 yX0_waitWith cX0_waitWith 3 (some .int) 2 := ⟨wm_X0_81, wi_X0_waitWith, ws_X0_waitWith, wn_X0, wc_X0_waitWith, by decide⟩
theorem lk_X0_84 : zLV RX0 84 yX0_takeMotion cX0_takeMotion 2 (some .int) 1 := ⟨wm_X0_84, wi_X0_takeMotion, ws_X0_takeMotion, wn_X0, wc_X0_takeMotion, by decide⟩
theorem lk_X0_87 : zLS RX0 87 yX0_motionOf cX0_motionOf 1 (some .int) 1 := ⟨wm_X0_87, wt_X0_motionOf, wn_X0, wc_X0_motionOf, by decide⟩
theorem lk_X1_52 : zLN RX1 52 yX5_become cX5_become 2 none 1 "ModalKeys" := ⟨wm_X1_52, wi_X5_become, ws_X5_become, wn_X5, wc_X5_become, by decide⟩
theorem lk_X1_56 : zLN RX1 56 yX3_become cX3_become 2 none 1 "ModalKeys" := ⟨wm_X1_56, wi_X3_become, ws_X3_become, wn_X3, wc_X3_become, by decide⟩
theorem lk_X1_59 : zLN RX1 59 yX0_become cX0_become 2 none 1 "ModalKeys" := ⟨wm_X1_59, wi_X0_become, ws_X0_become, wn_X0, wc_X0_become, by decide⟩
theorem lk_X1_62 : zLN RX1 62 yX2_become cX2_become 2 none 1 "ModalKeys" := ⟨wm_X1_62, wi_X2_become, ws_X2_become, wn_X2, wc_X2_become, by decide⟩
theorem lk_X1_88 : zLS RX1 88 yJ7_fill_53178 cJ7_fill_53178 4 none 2 := ⟨wm_X1_88, wt_J7_fill_53178, wn_J7, wc_J7_fill_53178, by decide⟩
theorem lk_X1_98 : zLN RX1 98 yX0_clear cX0_clear 1 none 0 "ModalKeys" := ⟨wm_X1_98, wi_X0_clear, ws_X0_clear, wn_X0, wc_X0_clear, by decide⟩
theorem lk_X1_107 : zLV RX1 107 yX1_strike cX1_strike 5 (some .int) 2 := ⟨wm_X1_107, wi_X1_strike, ws_X1_strike, wn_X1, wc_X1_strike, by decide⟩
theorem lk_X1_111 : zLN RX1 111 yX2_canBeRepeated cX2_canBeRepeated 1 (some .boolean) 0 "ModalKeys" := ⟨wm_X1_111, wi_X2_canBeRepeated, ws_X2_canBeRepeated, wn_X2, wc_X2_canBeRepeated, by decide⟩
theorem lk_X1_117 : zLV RX1 117 yX1_typeIn cX1_typeIn 3 (some .int) 2 := ⟨wm_X1_117, wi_X1_typeIn, ws_X1_typeIn, wn_X1, wc_X1_typeIn, by decide⟩
theorem lk_X1_120 : zLN RX1 120 yX0_take cX0_take 2 (some .int) 1 "ModalKeys" := ⟨wm_X1_120, wi_X0_take, ws_X0_take, wn_X0, wc_X0_take, by decide⟩
theorem lk_X1_124 : zLV RX1 124 yX1_aim cX1_aim 1 (some .boolean) 0 := ⟨wm_X1_124, wi_X1_aim, ws_X1_aim, wn_X1, wc_X1_aim, by decide⟩
theorem lk_X1_127 : zLN RX1 127 yX0_times cX0_times 1 (some .int) 0 "ModalKeys" := ⟨wm_X1_127, wi_X0_times, ws_X0_times, wn_X0, wc_X0_times, by decide⟩
theorem lk_X1_131 : zLV RX1 131 yX1_perform cX1_perform 2 (some .int) 1 := ⟨wm_X1_131, wi_X1_perform, ws_X1_perform, wn_X1, wc_X1_perform, by decide⟩
theorem lk_X1_134 : zLV RX1 134 yX1_remember cX1_remember 2 none 1 := ⟨wm_X1_134, wi_X1_remember, ws_X1_remember, wn_X1, wc_X1_remember, by decide⟩
theorem lk_X1_138 : zLN RX1 138 yX2_add cX2_add 2 none 1 "ModalKeys" := ⟨wm_X1_138, wi_X2_add, ws_X2_add, wn_X2, wc_X2_add, by decide⟩
theorem lk_X1_148 : zLN RX1 148 yX5_makeRoom cX5_makeRoom 3 none 2 "ModalKeys" := ⟨wm_X1_148, wi_X5_makeRoom, ws_X5_makeRoom, wn_X5, wc_X5_makeRoom, by decide⟩
theorem lk_X1_152 : zLN RX1 152 yX3_keep cX3_keep 2 none 1 "ModalKeys" := ⟨wm_X1_152, wi_X3_keep, ws_X3_keep, wn_X3, wc_X3_keep, by decide⟩
theorem lk_X1_164 : zLV RX1 164 yX1_aimByMotion cX1_aimByMotion 6 (some .boolean) 3 := ⟨wm_X1_164, wi_X1_aimByMotion, ws_X1_aimByMotion, wn_X1, wc_X1_aimByMotion, by decide⟩
theorem lk_X1_168 : zLV RX1 168 yX1_aimByWord cX1_aimByWord 2 (some .boolean) 0 := ⟨wm_X1_168, wi_X1_aimByWord, ws_X1_aimByWord, wn_X1, wc_X1_aimByWord, by decide⟩
theorem lk_X1_171 : zLV RX1 171 yX1_aimByBrackets cX1_aimByBrackets 3 (some .boolean) 0 := ⟨wm_X1_171, wi_X1_aimByBrackets, ws_X1_aimByBrackets, wn_X1, wc_X1_aimByBrackets, by decide⟩
theorem lk_X1_174 : zLV RX1 174 yX1_aimByLetters cX1_aimByLetters 2 (some .boolean) 1 := ⟨wm_X1_174, wi_X1_aimByLetters, ws_X1_aimByLetters, wn_X1, wc_X1_aimByLetters, by decide⟩
theorem lk_X1_184 : zLN RX1 184 yX5_standing cX5_standing 1 (some .int) 0 "ModalKeys" := ⟨wm_X1_184, wi_X5_standing, ws_X5_standing, wn_X5, wc_X5_standing, by decide⟩
theorem lk_X1_190 : zLV RX1 190 yX1_placeOfMark cX1_placeOfMark 3 (some .int) 1 := ⟨wm_X1_190, wi_X1_placeOfMark, ws_X1_placeOfMark, wn_X1, wc_X1_placeOfMark, by decide⟩
theorem lk_X1_193 : zLN RX1 193 yX5_findBehind cX5_findBehind 6 (some .int) 3 "ModalKeys" := ⟨wm_X1_193, wi_X5_findBehind, ws_X5_findBehind, wn_X5, wc_X5_findBehind, by decide⟩
theorem lk_X1_197 : zLN RX1 197 yX5_lead cX5_lead 4 (some .int) 2 "ModalKeys" := ⟨wm_X1_197, wi_X5_lead, ws_X5_lead, wn_X5, wc_X5_lead, by decide⟩
theorem lk_X1_203 : zLS RX1 203 yX1_takesPlace cX1_takesPlace 1 (some .boolean) 1 := ⟨wm_X1_203, wt_X1_takesPlace, wn_X1, wc_X1_takesPlace, by decide⟩
theorem lk_X1_206 : zLN RX1 206 yX5_kindAt cX5_kindAt 6 (some .int) 1 "ModalKeys" := ⟨wm_X1_206, wi_X5_kindAt, ws_X5_kindAt, wn_X5, wc_X5_kindAt, by decide⟩
theorem lk_X1_209 : zLN RX1 209 yX5_beginOfKind cX5_beginOfKind 4 (some .int) 2 "ModalKeys" := ⟨wm_X1_209, wi_X5_beginOfKind, ws_X5_beginOfKind, wn_X5, wc_X5_beginOfKind, by decide⟩
theorem lk_X1_212 : zLN RX1 212 yX5_behindKind cX5_behindKind 4 (some .int) 2 "ModalKeys" := ⟨wm_X1_212, wi_X5_behindKind, ws_X5_behindKind, wn_X5, wc_X5_behindKind, by decide⟩
theorem lk_X1_218 : zLN RX1 218 yX5_openingRound cX5_openingRound 4 (some .int) 1 "ModalKeys" := ⟨wm_X1_218, wi_X5_openingRound, ws_X5_openingRound, wn_X5, wc_X5_openingRound, by decide⟩
theorem lk_X1_221 : zLN RX1 221 yX5_closingOf cX5_closingOf 4 (some .int) 1 "ModalKeys" := ⟨wm_X1_221, wi_X5_closingOf, ws_X5_closingOf, wn_X5, wc_X5_closingOf, by decide⟩
theorem lk_X1_227 : zLN RX1 227 yX5_goTo cX5_goTo 2 none 1 "ModalKeys" := ⟨wm_X1_227, wi_X5_goTo, ws_X5_goTo, wn_X5, wc_X5_goTo, by decide⟩
theorem lk_X1_230 : zLV RX1 230 yX1_cutRange cX1_cutRange 2 (some .int) 0 := ⟨wm_X1_230, wi_X1_cutRange, ws_X1_cutRange, wn_X1, wc_X1_cutRange, by decide⟩
theorem lk_X1_233 : zLV RX1 233 yX1_storeRange cX1_storeRange 1 none 0 := ⟨wm_X1_233, wi_X1_storeRange, ws_X1_storeRange, wn_X1, wc_X1_storeRange, by decide⟩
theorem lk_X1_236 : zLV RX1 236 yX1_typeAt cX1_typeAt 2 (some .int) 1 := ⟨wm_X1_236, wi_X1_typeAt, ws_X1_typeAt, wn_X1, wc_X1_typeAt, by decide⟩
theorem lk_X1_239 : zLV RX1 239 yX1_overwrite cX1_overwrite 4 (some .int) 1 := ⟨wm_X1_239, wi_X1_overwrite, ws_X1_overwrite, wn_X1, wc_X1_overwrite, by decide⟩
theorem lk_X1_242 : zLV RX1 242 yX1_swapCases cX1_swapCases 4 (some .int) 1 := ⟨wm_X1_242, wi_X1_swapCases, ws_X1_swapCases, wn_X1, wc_X1_swapCases, by decide⟩
theorem lk_X1_245 : zLV RX1 245 yX1_putIn cX1_putIn 5 (some .int) 2 := ⟨wm_X1_245, wi_X1_putIn, ws_X1_putIn, wn_X1, wc_X1_putIn, by decide⟩
theorem lk_X1_248 : zLN RX1 248 yX3_bringBack cX3_bringBack 4 (some .boolean) 2 "ModalKeys" := ⟨wm_X1_248, wi_X3_bringBack, ws_X3_bringBack, wn_X3, wc_X3_bringBack, by decide⟩
theorem lk_X1_252 : zLV RX1 252 yX1_setMark cX1_setMark 2 (some .int) 1 := ⟨wm_X1_252, wi_X1_setMark, ws_X1_setMark, wn_X1, wc_X1_setMark, by decide⟩
theorem lk_X1_255 : zLN RX1 255 yX5_takeOut cX5_takeOut 3 none 2 "ModalKeys" := ⟨wm_X1_255, wi_X5_takeOut, ws_X5_takeOut, wn_X5, wc_X5_takeOut, by decide⟩
theorem lk_X1_258 : zLN RX1 258 yX5_swapCase cX5_swapCase 3 none 1 "ModalKeys" := ⟨wm_X1_258, wi_X5_swapCase, ws_X5_swapCase, wn_X5, wc_X5_swapCase, by decide⟩
theorem lk_X3_49 : zLS RX3 49 yJ9_floorMod_7cf53 cJ9_floorMod_7cf53 3 (some .int) 2 := ⟨wm_X3_49, wt_J9_floorMod_7cf53, wn_Math, wc_J9_floorMod_7cf53, by decide⟩
theorem lk_X4_22 : zLS RX4 22 yJ7_fill_d0a16 cJ7_fill_d0a16 5 none 2 := ⟨wm_X4_22, wt_J7_fill_d0a16, wn_J7, wc_J7_fill_d0a16, by decide⟩
theorem lk_X4_28 : zLV RX4 28 yX4_isNothing cX4_isNothing 1 (some .boolean) 0 := ⟨wm_X4_28, wi_X4_isNothing, ws_X4_isNothing, wn_X4, wc_X4_isNothing, by decide⟩
theorem lk_X4_32 : zLV RX4 32 yX4_reaches cX4_reaches 3 (some .boolean) 2 := ⟨wm_X4_32, wi_X4_reaches, ws_X4_reaches, wn_X4, wc_X4_reaches, by decide⟩
theorem lk_X5_28 : zLV RX5 28 yX5_has cX5_has 2 (some .boolean) 1 := ⟨wm_X5_28, wi_X5_has, ws_X5_has, wn_X5, wc_X5_has, by decide⟩
theorem lk_X5_32 : zLV RX5 32 yX5_last cX5_last 1 (some .int) 0 := ⟨wm_X5_32, wi_X5_last, ws_X5_last, wn_X5, wc_X5_last, by decide⟩
theorem lk_X5_42 : zLV RX5 42 yX5_kindAt cX5_kindAt 6 (some .int) 1 := ⟨wm_X5_42, wi_X5_kindAt, ws_X5_kindAt, wn_X5, wc_X5_kindAt, by decide⟩
theorem lk_X5_49 : zLV RX5 49 yX5_behindKind cX5_behindKind 4 (some .int) 2 := ⟨wm_X5_49, wi_X5_behindKind, ws_X5_behindKind, wn_X5, wc_X5_behindKind, by decide⟩
theorem lk_X5_52 : zLV RX5 52 yX5_beginOfKind cX5_beginOfKind 4 (some .int) 2 := ⟨wm_X5_52, wi_X5_beginOfKind, ws_X5_beginOfKind, wn_X5, wc_X5_beginOfKind, by decide⟩
theorem lk_X5_55 : zLV RX5 55 yX5_lead cX5_lead 4 (some .int) 2 := ⟨wm_X5_55, wi_X5_lead, ws_X5_lead, wn_X5, wc_X5_lead, by decide⟩
theorem lk_X5_58 : zLV RX5 58 yX5_at cX5_at 2 (some .int) 1 := ⟨wm_X5_58, wi_X5_at, ws_X5_at, wn_X5, wc_X5_at, by decide⟩
theorem lk_X6_26 : zLN RX6 26 yX5_last cX5_last 1 (some .int) 0 "ModalKeys" := ⟨wm_X6_26, wi_X5_last, ws_X5_last, wn_X5, wc_X5_last, by decide⟩
theorem lk_X6_36 : zLN RX6 36 yX5_deed cX5_deed 3 (some .int) 2 "ModalKeys" := ⟨wm_X6_36, wi_X5_deed, ws_X5_deed, wn_X5, wc_X5_deed, by decide⟩
theorem lk_X6_41 : zLS RX6 41 yJ7_fill_53178 cJ7_fill_53178 4 none 2 := ⟨wm_X6_41, wt_J7_fill_53178, wn_J7, wc_J7_fill_53178, by decide⟩
theorem lk_X6_47 : zLV RX6 47 yX6_firstOnWay cX6_firstOnWay 4 (some .int) 2 := ⟨wm_X6_47, wi_X6_firstOnWay, ws_X6_firstOnWay, wn_X6, wc_X6_firstOnWay, by decide⟩
theorem lk_L_13 : zLV RL 13 yX7_type cX7_type 2 (some .int) 1 := ⟨wm_L_13, wi_X7_type, ws_X7_type, wn_X7, wc_X7_type, by decide⟩
theorem lk_L_17 : zLV RL 17 yX8_type cX8_type 2 (some .int) 1 := ⟨wm_L_17, wi_X8_type, ws_X8_type, wn_X8, wc_X8_type, by decide⟩
theorem lk_L_18 : zLV RL 18 yX7_line cX7_line 1 (some .int) 0 := ⟨wm_L_18, wi_X7_line, ws_X7_line, wn_X7, wc_X7_line, by decide⟩
theorem lk_L_22 : zLV RL 22 yX8_line cX8_line 2 (some .int) 0 := ⟨wm_L_22, wi_X8_line, ws_X8_line, wn_X8, wc_X8_line, by decide⟩
theorem lk_L_23 : zLV RL 23 yX7_letter cX7_letter 2 (some .int) 1 := ⟨wm_L_23, wi_X7_letter, ws_X7_letter, wn_X7, wc_X7_letter, by decide⟩
theorem lk_L_26 : zLV RL 26 yX8_letter cX8_letter 2 (some .int) 1 := ⟨wm_L_26, wi_X8_letter, ws_X8_letter, wn_X8, wc_X8_letter, by decide⟩
theorem lk_L_27 : zLV RL 27 yX7_store cX7_store 2 (some .int) 1 := ⟨wm_L_27, wi_X7_store, ws_X7_store, wn_X7, wc_X7_store, by decide⟩
theorem lk_L_30 : zLV RL 30 yX8_store cX8_store 2 (some .int) 1 := ⟨wm_L_30, wi_X8_store, ws_X8_store, wn_X8, wc_X8_store, by decide⟩
theorem lk_L_31 : zLV RL 31 yX7_mark cX7_mark 2 (some .int) 1 := ⟨wm_L_31, wi_X7_mark, ws_X7_mark, wn_X7, wc_X7_mark, by decide⟩
theorem lk_L_34 : zLV RL 34 yX8_mark cX8_mark 2 (some .int) 1 := ⟨wm_L_34, wi_X8_mark, ws_X8_mark, wn_X8, wc_X8_mark, by decide⟩
theorem lk_L_35 : zLV RL 35 yX7_count cX7_count 2 (some .int) 1 := ⟨wm_L_35, wi_X7_count, ws_X7_count, wn_X7, wc_X7_count, by decide⟩
theorem lk_L_38 : zLV RL 38 yX8_count cX8_count 2 (some .int) 1 := ⟨wm_L_38, wi_X8_count, ws_X8_count, wn_X8, wc_X8_count, by decide⟩
theorem lk_L_39 : zLV RL 39 yX7_key cX7_key 2 (some .int) 1 := ⟨wm_L_39, wi_X7_key, ws_X7_key, wn_X7, wc_X7_key, by decide⟩
theorem lk_L_42 : zLV RL 42 yX8_key cX8_key 2 (some .int) 1 := ⟨wm_L_42, wi_X8_key, ws_X8_key, wn_X8, wc_X8_key, by decide⟩
theorem lk_L_43 : zLV RL 43 yX7_price cX7_price 4 (some .int) 2 := ⟨wm_L_43, wi_X7_price, ws_X7_price, wn_X7, wc_X7_price, by decide⟩
theorem lk_L_47 : zLV RL 47 yX8_price cX8_price 4 (some .int) 2 := ⟨wm_L_47, wi_X8_price, ws_X8_price, wn_X8, wc_X8_price, by decide⟩
theorem lk_L_48 : zLV RL 48 yX7_leads cX7_leads 3 (some .int) 2 := ⟨wm_L_48, wi_X7_leads, ws_X7_leads, wn_X7, wc_X7_leads, by decide⟩
theorem lk_L_51 : zLV RL 51 yX8_leads cX8_leads 3 (some .int) 2 := ⟨wm_L_51, wi_X8_leads, ws_X8_leads, wn_X8, wc_X8_leads, by decide⟩
theorem lk_L_52 : zLV RL 52 yX7_steps cX7_steps 3 (some .int) 2 := ⟨wm_L_52, wi_X7_steps, ws_X7_steps, wn_X7, wc_X7_steps, by decide⟩
theorem lk_L_55 : zLV RL 55 yX8_steps cX8_steps 6 (some .int) 2 := ⟨wm_L_55, wi_X8_steps, ws_X8_steps, wn_X8, wc_X8_steps, by decide⟩
theorem lk_L_56 : zLV RL 56 yX7_farthest cX7_farthest 3 (some .int) 1 := ⟨wm_L_56, wi_X7_farthest, ws_X7_farthest, wn_X7, wc_X7_farthest, by decide⟩
theorem lk_L_59 : zLV RL 59 yX8_farthest cX8_farthest 6 (some .int) 1 := ⟨wm_L_59, wi_X8_farthest, ws_X8_farthest, wn_X8, wc_X8_farthest, by decide⟩
theorem lk_L_60 : zLV RL 60 yX7_once cX7_once 4 (some .int) 1 := ⟨wm_L_60, wi_X7_once, ws_X7_once, wn_X7, wc_X7_once, by decide⟩
theorem lk_L_63 : zLV RL 63 yX8_once cX8_once 4 (some .int) 1 := ⟨wm_L_63, wi_X8_once, ws_X8_once, wn_X8, wc_X8_once, by decide⟩
theorem lk_L_64 : zLV RL 64 yX7_goes cX7_goes 3 (some .int) 2 := ⟨wm_L_64, wi_X7_goes, ws_X7_goes, wn_X7, wc_X7_goes, by decide⟩
theorem lk_L_67 : zLV RL 67 yX8_goes cX8_goes 8 (some .int) 2 := ⟨wm_L_67, wi_X8_goes, ws_X8_goes, wn_X8, wc_X8_goes, by decide⟩
theorem lk_L_68 : zLV RL 68 yX7_struck cX7_struck 8 (some .int) 3 := ⟨wm_L_68, wi_X7_struck, ws_X7_struck, wn_X7, wc_X7_struck, by decide⟩
theorem lk_L_72 : zLV RL 72 yX8_struck cX8_struck 8 (some .int) 3 := ⟨wm_L_72, wi_X8_struck, ws_X8_struck, wn_X8, wc_X8_struck, by decide⟩
theorem lk_L_73 : zLV RL 73 yX7_image cX7_image 1 (some .int) 0 := ⟨wm_L_73, wi_X7_image, ws_X7_image, wn_X7, wc_X7_image, by decide⟩
theorem lk_L_76 : zLV RL 76 yX8_image cX8_image 2 (some .int) 0 := ⟨wm_L_76, wi_X8_image, ws_X8_image, wn_X8, wc_X8_image, by decide⟩
theorem lk_L_77 : zLV RL 77 yX7_restore cX7_restore 1 (some .int) 0 := ⟨wm_L_77, wi_X7_restore, ws_X7_restore, wn_X7, wc_X7_restore, by decide⟩
theorem lk_L_80 : zLV RL 80 yX8_restore cX8_restore 2 (some .int) 0 := ⟨wm_L_80, wi_X8_restore, ws_X8_restore, wn_X8, wc_X8_restore, by decide⟩
theorem lk_L_81 : zLV RL 81 yX7_play cX7_play 9 (some .int) 4 := ⟨wm_L_81, wi_X7_play, ws_X7_play, wn_X7, wc_X7_play, by decide⟩
theorem lk_L_85 : zLV RL 85 yX8_play cX8_play 9 (some .int) 4 := ⟨wm_L_85, wi_X8_play, ws_X8_play, wn_X8, wc_X8_play, by decide⟩
theorem lk_L_86 : zLV RL 86 yX7_film cX7_film 9 (some .int) 5 := ⟨wm_L_86, wi_X7_film, ws_X7_film, wn_X7, wc_X7_film, by decide⟩
theorem lk_L_90 : zLV RL 90 yX8_film cX8_film 8 (some .int) 5 := ⟨wm_L_90, wi_X8_film, ws_X8_film, wn_X8, wc_X8_film, by decide⟩
theorem lk_L_91 : zLV RL 91 yX7_sheet cX7_sheet 5 (some .int) 3 := ⟨wm_L_91, wi_X7_sheet, ws_X7_sheet, wn_X7, wc_X7_sheet, by decide⟩
theorem lk_L_94 : zLV RL 94 yX8_sheet cX8_sheet 5 (some .int) 3 := ⟨wm_L_94, wi_X8_sheet, ws_X8_sheet, wn_X8, wc_X8_sheet, by decide⟩
theorem lk_L_95 : zLV RL 95 yX7_drop cX7_drop 4 (some .int) 1 := ⟨wm_L_95, wi_X7_drop, ws_X7_drop, wn_X7, wc_X7_drop, by decide⟩
theorem lk_L_98 : zLV RL 98 yX8_drop cX8_drop 2 (some .int) 1 := ⟨wm_L_98, wi_X8_drop, ws_X8_drop, wn_X8, wc_X8_drop, by decide⟩
theorem lk_L_101 : zLV RL 101 yX7_item cX7_item 8 (some .int) 4 := ⟨wm_L_101, wi_X7_item, ws_X7_item, wn_X7, wc_X7_item, by decide⟩
theorem lk_L_105 : zLV RL 105 yX8_item cX8_item 7 (some .int) 4 := ⟨wm_L_105, wi_X8_item, ws_X8_item, wn_X8, wc_X8_item, by decide⟩
theorem lk_L_106 : zLV RL 106 yX7_copy cX7_copy 8 (some .int) 5 := ⟨wm_L_106, wi_X7_copy, ws_X7_copy, wn_X7, wc_X7_copy, by decide⟩
theorem lk_L_109 : zLV RL 109 yX8_copy cX8_copy 7 (some .int) 5 := ⟨wm_L_109, wi_X8_copy, ws_X8_copy, wn_X8, wc_X8_copy, by decide⟩
theorem lk_X8_58 : zLS RX8 58 yX8_in cX8_in 6 (some .boolean) 3 := ⟨wm_X8_58, wt_X8_in, wn_X8, wc_X8_in, by decide⟩
theorem lk_X8_70 : zLS RX8 70 yX8_classOf cX8_classOf 2 (some .int) 1 := ⟨wm_X8_70, wt_X8_classOf, wn_X8, wc_X8_classOf, by decide⟩
theorem lk_X8_74 : zLV RX8 74 yX8_classAt cX8_classAt 2 (some .int) 1 := ⟨wm_X8_74, wi_X8_classAt, ws_X8_classAt, wn_X8, wc_X8_classAt, by decide⟩
theorem lk_X8_77 : zLV RX8 77 yX8_last cX8_last 1 (some .int) 0 := ⟨wm_X8_77, wi_X8_last, ws_X8_last, wn_X8, wc_X8_last, by decide⟩
theorem lk_X8_81 : zLV RX8 81 yX8_wordOn cX8_wordOn 4 (some .int) 1 := ⟨wm_X8_81, wi_X8_wordOn, ws_X8_wordOn, wn_X8, wc_X8_wordOn, by decide⟩
theorem lk_X8_84 : zLV RX8 84 yX8_wordBack cX8_wordBack 4 (some .int) 1 := ⟨wm_X8_84, wi_X8_wordBack, ws_X8_wordBack, wn_X8, wc_X8_wordBack, by decide⟩
theorem lk_X8_87 : zLV RX8 87 yX8_wordEnd cX8_wordEnd 4 (some .int) 1 := ⟨wm_X8_87, wi_X8_wordEnd, ws_X8_wordEnd, wn_X8, wc_X8_wordEnd, by decide⟩
theorem lk_X8_90 : zLV RX8 90 yX8_nextOf cX8_nextOf 5 (some .int) 2 := ⟨wm_X8_90, wi_X8_nextOf, ws_X8_nextOf, wn_X8, wc_X8_nextOf, by decide⟩
theorem lk_X8_94 : zLS RX8 94 yX8_lesser cX8_lesser 2 (some .int) 2 := ⟨wm_X8_94, wt_X8_lesser, wn_X8, wc_X8_lesser, by decide⟩
theorem lk_X8_100 : zLV RX8 100 yX8_keeps cX8_keeps 4 none 2 := ⟨wm_X8_100, wi_X8_keeps, ws_X8_keeps, wn_X8, wc_X8_keeps, by decide⟩
theorem lk_X8_104 : zLV RX8 104 yX8_cuts cX8_cuts 4 none 2 := ⟨wm_X8_104, wi_X8_cuts, ws_X8_cuts, wn_X8, wc_X8_cuts, by decide⟩
theorem lk_X8_107 : zLV RX8 107 yX8_inserts cX8_inserts 2 (some .int) 1 := ⟨wm_X8_107, wi_X8_inserts, ws_X8_inserts, wn_X8, wc_X8_inserts, by decide⟩
theorem lk_X8_110 : zLV RX8 110 yX8_changes cX8_changes 2 none 0 := ⟨wm_X8_110, wi_X8_changes, ws_X8_changes, wn_X8, wc_X8_changes, by decide⟩
theorem lk_X8_113 : zLV RX8 113 yX8_ranged cX8_ranged 4 (some .int) 2 := ⟨wm_X8_113, wi_X8_ranged, ws_X8_ranged, wn_X8, wc_X8_ranged, by decide⟩
theorem lk_X8_116 : zLV RX8 116 yX8_often cX8_often 3 (some .int) 0 := ⟨wm_X8_116, wi_X8_often, ws_X8_often, wn_X8, wc_X8_often, by decide⟩
theorem lk_X8_119 : zLV RX8 119 yX8_leadsTo cX8_leadsTo 3 (some .int) 2 := ⟨wm_X8_119, wi_X8_leadsTo, ws_X8_leadsTo, wn_X8, wc_X8_leadsTo, by decide⟩
theorem lk_X8_122 : zLV RX8 122 yX8_goesTo cX8_goesTo 6 (some .int) 2 := ⟨wm_X8_122, wi_X8_goesTo, ws_X8_goesTo, wn_X8, wc_X8_goesTo, by decide⟩
theorem lk_X8_126 : zLV RX8 126 yX8_words cX8_words 5 (some .int) 1 := ⟨wm_X8_126, wi_X8_words, ws_X8_words, wn_X8, wc_X8_words, by decide⟩
theorem lk_X8_130 : zLV RX8 130 yX8_brackets cX8_brackets 6 (some .int) 1 := ⟨wm_X8_130, wi_X8_brackets, ws_X8_brackets, wn_X8, wc_X8_brackets, by decide⟩
theorem lk_X8_133 : zLV RX8 133 yX8_bracket cX8_bracket 8 (some .int) 4 := ⟨wm_X8_133, wi_X8_bracket, ws_X8_bracket, wn_X8, wc_X8_bracket, by decide⟩
theorem lk_X8_137 : zLV RX8 137 yX8_findsTo cX8_findsTo 5 (some .int) 2 := ⟨wm_X8_137, wi_X8_findsTo, ws_X8_findsTo, wn_X8, wc_X8_findsTo, by decide⟩
theorem lk_X8_142 : zLV RX8 142 yX8_replaces cX8_replaces 5 (some .int) 2 := ⟨wm_X8_142, wi_X8_replaces, ws_X8_replaces, wn_X8, wc_X8_replaces, by decide⟩
theorem lk_X8_145 : zLV RX8 145 yX8_objects cX8_objects 3 (some .int) 2 := ⟨wm_X8_145, wi_X8_objects, ws_X8_objects, wn_X8, wc_X8_objects, by decide⟩
theorem lk_X8_149 : zLV RX8 149 yX8_crosses cX8_crosses 4 (some .int) 1 := ⟨wm_X8_149, wi_X8_crosses, ws_X8_crosses, wn_X8, wc_X8_crosses, by decide⟩
theorem lk_X8_152 : zLV RX8 152 yX8_turns cX8_turns 6 (some .int) 1 := ⟨wm_X8_152, wi_X8_turns, ws_X8_turns, wn_X8, wc_X8_turns, by decide⟩
theorem lk_X8_155 : zLV RX8 155 yX8_puts cX8_puts 6 (some .int) 2 := ⟨wm_X8_155, wi_X8_puts, ws_X8_puts, wn_X8, wc_X8_puts, by decide⟩
theorem lk_X8_158 : zLV RX8 158 yX8_undoes cX8_undoes 4 (some .int) 1 := ⟨wm_X8_158, wi_X8_undoes, ws_X8_undoes, wn_X8, wc_X8_undoes, by decide⟩
theorem lk_X8_163 : zLV RX8 163 yX8_waits cX8_waits 2 (some .int) 1 := ⟨wm_X8_163, wi_X8_waits, ws_X8_waits, wn_X8, wc_X8_waits, by decide⟩
theorem lk_X8_166 : zLV RX8 166 yX8_waited cX8_waited 4 (some .int) 1 := ⟨wm_X8_166, wi_X8_waited, ws_X8_waited, wn_X8, wc_X8_waited, by decide⟩
theorem lk_X8_171 : zLV RX8 171 yX8_motionOf cX8_motionOf 2 (some .int) 1 := ⟨wm_X8_171, wi_X8_motionOf, ws_X8_motionOf, wn_X8, wc_X8_motionOf, by decide⟩
theorem lk_X8_174 : zLV RX8 174 yX8_moves cX8_moves 5 (some .int) 1 := ⟨wm_X8_174, wi_X8_moves, ws_X8_moves, wn_X8, wc_X8_moves, by decide⟩
theorem lk_X8_177 : zLV RX8 177 yX8_deed cX8_deed 3 (some .int) 1 := ⟨wm_X8_177, wi_X8_deed, ws_X8_deed, wn_X8, wc_X8_deed, by decide⟩
theorem lk_X8_180 : zLV RX8 180 yX8_records cX8_records 2 none 1 := ⟨wm_X8_180, wi_X8_records, ws_X8_records, wn_X8, wc_X8_records, by decide⟩
theorem lk_X8_184 : zLV RX8 184 yX8_ends cX8_ends 1 none 0 := ⟨wm_X8_184, wi_X8_ends, ws_X8_ends, wn_X8, wc_X8_ends, by decide⟩
theorem lk_X8_187 : zLV RX8 187 yX8_inserted cX8_inserted 3 (some .int) 1 := ⟨wm_X8_187, wi_X8_inserted, ws_X8_inserted, wn_X8, wc_X8_inserted, by decide⟩
theorem lk_X8_190 : zLV RX8 190 yX8_commands cX8_commands 4 (some .int) 1 := ⟨wm_X8_190, wi_X8_commands, ws_X8_commands, wn_X8, wc_X8_commands, by decide⟩
theorem lk_X8_193 : zLV RX8 193 yX8_strikes cX8_strikes 3 (some .int) 1 := ⟨wm_X8_193, wi_X8_strikes, ws_X8_strikes, wn_X8, wc_X8_strikes, by decide⟩
theorem lk_X8_200 : zLV RX8 200 yX8_keyed cX8_keyed 5 (some .int) 1 := ⟨wm_X8_200, wi_X8_keyed, ws_X8_keyed, wn_X8, wc_X8_keyed, by decide⟩
theorem lk_X8_208 : zLV RX8 208 yX8_marks cX8_marks 3 (some .int) 0 := ⟨wm_X8_208, wi_X8_marks, ws_X8_marks, wn_X8, wc_X8_marks, by decide⟩
theorem lk_X8_211 : zLV RX8 211 yX8_wordsOf cX8_wordsOf 3 (some .int) 0 := ⟨wm_X8_211, wi_X8_wordsOf, ws_X8_wordsOf, wn_X8, wc_X8_wordsOf, by decide⟩
theorem lk_X8_216 : zLS RX8 216 yX8_isMotion cX8_isMotion 1 (some .boolean) 1 := ⟨wm_X8_216, wt_X8_isMotion, wn_X8, wc_X8_isMotion, by decide⟩
theorem lk_X8_223 : zLV RX8 223 yX8_lands cX8_lands 3 (some .int) 2 := ⟨wm_X8_223, wi_X8_lands, ws_X8_lands, wn_X8, wc_X8_lands, by decide⟩
theorem lk_X8_226 : zLV RX8 226 yX8_isPlace cX8_isPlace 2 (some .boolean) 1 := ⟨wm_X8_226, wi_X8_isPlace, ws_X8_isPlace, wn_X8, wc_X8_isPlace, by decide⟩
theorem lk_X8_229 : zLV RX8 229 yX8_costsTo cX8_costsTo 6 none 1 := ⟨wm_X8_229, wi_X8_costsTo, ws_X8_costsTo, wn_X8, wc_X8_costsTo, by decide⟩
theorem lk_X8_232 : zLV RX8 232 yX8_start cX8_start 1 (some .int) 0 := ⟨wm_X8_232, wi_X8_start, ws_X8_start, wn_X8, wc_X8_start, by decide⟩
theorem lk_X8_239 : zLS RX8 239 yX8_isSheet cX8_isSheet 1 (some .boolean) 1 := ⟨wm_X8_239, wt_X8_isSheet, wn_X8, wc_X8_isSheet, by decide⟩
theorem lk_X8_242 : zLV RX8 242 yX8_why cX8_why 5 (some .int) 4 := ⟨wm_X8_242, wi_X8_why, ws_X8_why, wn_X8, wc_X8_why, by decide⟩
theorem lk_X8_245 : zLS RX8 245 yX8_cut cX8_cut 3 (some .long) 2 := ⟨wm_X8_245, wt_X8_cut, wn_X8, wc_X8_cut, by decide⟩
end
section
/-! ===== the line: classes of letters, motions ===== -/
def kc (c : Int) : Int := if c = 32 then 0 else if (97 ≤ c ∧ c ≤ 122) ∨ (65 ≤ c ∧ c ≤ 90) ∨ (48 ≤ c ∧ c ≤ 57) then 1 else 2
def kd (f : Int → Int) (L p : Int) : Int := if 0 ≤ p ∧ p < L then kc (f p) else -1
theorem kc_in (c : Int) : 0 ≤ kc c ∧ kc c ≤ 2 := by unfold kc; split; omega; split <;> omega
theorem kd_in (f : Int → Int) (L p : Int) : -1 ≤ kd f L p ∧ kd f L p ≤ 2 := by
  unfold kd
  split
  · have := kc_in (f p); omega
  · omega
theorem kd_out {f : Int → Int} {L p : Int} (h : p < 0 ∨ L ≤ p) : kd f L p = -1 := if_neg (by omega)
theorem kd_at {f : Int → Int} {L p : Int} (h : 0 ≤ p) (h2 : p < L) : kd f L p = kc (f p) := if_pos ⟨h, h2⟩
theorem kd_pos {f : Int → Int} {L p : Int} (h : 0 ≤ kd f L p) : 0 ≤ p ∧ p < L := by
  apply Classical.byContradiction
  intro q
  have e : kd f L p = -1 := if_neg q
  omega
def la (L : Int) : Int := if 0 < L then L - 1 else 0
theorem la_in {L : Int} (h : 0 ≤ L) : 0 ≤ la L ∧ la L ≤ L ∧ (0 < L → la L = L - 1) ∧ (L = 0 → la L = 0) := by unfold la; split <;> omega
def bhN (f : Int → Int) (L k : Int) : Nat → Int → Int
  | 0, q => q
  | n + 1, q => if q < L ∧ kd f L q = k then bhN f L k n (q + 1) else q
/-- the first place from q on that is not of kind k -/
def bh (f : Int → Int) (L k q : Int) : Int := bhN f L k (L - q).toNat q
theorem bh_eq (f : Int → Int) (L k q : Int) : bh f L k q = if q < L ∧ kd f L q = k then bh f L k (q + 1) else q := by
  unfold bh
  by_cases h : q < L
  · rw [show (L - q).toNat = (L - (q + 1)).toNat + 1 by omega, bhN]
  · rw [show (L - q).toNat = 0 by omega, bhN, if_neg (fun h2 => h h2.1)]
theorem bh_go {f : Int → Int} {L k q : Int} (h : q < L) (h2 : kd f L q = k) : bh f L k q = bh f L k (q + 1) := by rw [bh_eq, if_pos ⟨h, h2⟩]
theorem bh_no {f : Int → Int} {L k q : Int} (h : ¬ (q < L ∧ kd f L q = k)) : bh f L k q = q := by rw [bh_eq, if_neg h]
theorem bhN_in (f : Int → Int) (L k : Int) : ∀ (n : Nat) (q : Int), q ≤ bhN f L k n q ∧ (q ≤ L → bhN f L k n q ≤ L)
  | 0, q => ⟨Int.le_refl _, fun h => h⟩
  | n + 1, q => by
    rw [bhN]
    split
    · have := bhN_in f L k n (q + 1); omega
    · omega
theorem bh_in (f : Int → Int) (L k q : Int) : q ≤ bh f L k q ∧ (q ≤ L → bh f L k q ≤ L) := bhN_in f L k _ q
def bgN (f : Int → Int) (L k : Int) : Nat → Int → Int
  | 0, q => q
  | n + 1, q => if 0 < q ∧ kd f L (q - 1) = k then bgN f L k n (q - 1) else q
/-- the first place of the row of kind k that ends ahead of q -/
def bg (f : Int → Int) (L k q : Int) : Int := bgN f L k q.toNat q
theorem bg_eq (f : Int → Int) (L k q : Int) : bg f L k q = if 0 < q ∧ kd f L (q - 1) = k then bg f L k (q - 1) else q := by
  unfold bg
  by_cases h : 0 < q
  · rw [show q.toNat = (q - 1).toNat + 1 by omega, bgN]
  · rw [show q.toNat = 0 by omega, bgN, if_neg (fun h2 => h h2.1)]
theorem bg_go {f : Int → Int} {L k q : Int} (h : 0 < q) (h2 : kd f L (q - 1) = k) : bg f L k q = bg f L k (q - 1) := by rw [bg_eq, if_pos ⟨h, h2⟩]
theorem bg_no {f : Int → Int} {L k q : Int} (h : ¬ (0 < q ∧ kd f L (q - 1) = k)) : bg f L k q = q := by rw [bg_eq, if_neg h]
theorem bgN_in (f : Int → Int) (L k : Int) : ∀ (n : Nat) (q : Int), bgN f L k n q ≤ q ∧ (0 ≤ q → 0 ≤ bgN f L k n q)
  | 0, q => ⟨Int.le_refl _, fun h => h⟩
  | n + 1, q => by
    rw [bgN]
    split
    · have := bgN_in f L k n (q - 1); omega
    · omega
theorem bg_in (f : Int → Int) (L k q : Int) : bg f L k q ≤ q ∧ (0 ≤ q → 0 ≤ bg f L k q) := bgN_in f L k _ q
def wOn (f : Int → Int) (L p : Int) : Int := bh f L 0 (if kd f L p = 0 then p else bh f L (kd f L p) p)
def wBack (f : Int → Int) (L p : Int) : Int := bg f L (kd f L (bg f L 0 p - 1)) (bg f L 0 p)
def wEnd (f : Int → Int) (L p : Int) : Int := if bh f L 0 (p + 1) < L then bh f L (kd f L (bh f L 0 (p + 1))) (bh f L 0 (p + 1)) - 1 else la L
/-- where a motion 0 .. 6 leads -/
def ld (f : Int → Int) (L m p : Int) : Int :=
  if m = 0 then max 0 (p - 1) else if m = 1 then min L (p + 1) else if m = 2 then 0 else if m = 3 then la L else if m = 4 then wOn f L p else if m = 5 then wBack f L p else wEnd f L p
theorem wOn_in {f : Int → Int} {L p : Int} (h : 0 ≤ p) (h2 : p ≤ L) : 0 ≤ wOn f L p ∧ wOn f L p ≤ L := by
  unfold wOn
  have a := bh_in f L (kd f L p) p
  split
  · have b := bh_in f L 0 p; omega
  · have b := bh_in f L 0 (bh f L (kd f L p) p); omega
theorem wBack_in {f : Int → Int} {L p : Int} (h : 0 ≤ p) (h2 : p ≤ L) : 0 ≤ wBack f L p ∧ wBack f L p ≤ L := by
  unfold wBack
  have a := bg_in f L 0 p
  have b := bg_in f L (kd f L (bg f L 0 p - 1)) (bg f L 0 p)
  omega
theorem wEnd_in {f : Int → Int} {L p : Int} (h : 0 ≤ p) (h2 : p ≤ L) : 0 ≤ wEnd f L p ∧ wEnd f L p ≤ L := by
  unfold wEnd
  have a := bh_in f L 0 (p + 1)
  have c := la_in (L := L) (by omega)
  split
  · have b := bh_in f L (kd f L (bh f L 0 (p + 1))) (bh f L 0 (p + 1)); omega
  · omega
theorem ld_in {f : Int → Int} {L m p : Int} (h : 0 ≤ p) (h2 : p ≤ L) : 0 ≤ ld f L m p ∧ ld f L m p ≤ L := by
  have a := wOn_in (f := f) h h2
  have b := wBack_in (f := f) h h2
  have c := wEnd_in (f := f) h h2
  have d := la_in (L := L) (by omega)
  unfold ld
  split; omega
  split; omega
  split; omega
  split; omega
  split; omega
  split; omega
  omega
/-- as a deed -/
def dd (f : Int → Int) (L m p : Int) : Int := min (ld f L m p) (la L)
theorem dd_in {f : Int → Int} {L m p : Int} (h : 0 ≤ p) (h2 : p ≤ L) : 0 ≤ dd f L m p ∧ dd f L m p ≤ la L := by
  have a := ld_in (f := f) (m := m) h h2
  have d := la_in (L := L) (by omega)
  unfold dd
  omega
-- the n-th place behind p that has a letter; -1: none
def fbN (f : Int → Int) (L w n : Int) : Nat → Int → Int → Int
  | 0, _, _ => -1
  | k + 1, q, c => if q < L then (if (if f q = w then c + 1 else c) = n then q else fbN f L w n k (q + 1) (if f q = w then c + 1 else c)) else -1
def fb (f : Int → Int) (L w n q c : Int) : Int := fbN f L w n (L - q).toNat q c
theorem fb_eq (f : Int → Int) (L w n q c : Int) : fb f L w n q c = if q < L then (if (if f q = w then c + 1 else c) = n then q else fb f L w n (q + 1) (if f q = w then c + 1 else c)) else -1 := by
  unfold fb
  by_cases h : q < L
  · rw [show (L - q).toNat = (L - (q + 1)).toNat + 1 by omega, fbN]
  · rw [show (L - q).toNat = 0 by omega, fbN, if_neg h]
-- brackets: left from p, right from an opening one
def opN (f : Int → Int) (L p : Int) : Nat → Int → Int → Int
  | 0, _, _ => -1
  | k + 1, q, d => if 0 ≤ q then (if q < L ∧ f q = 40 then (if d = 0 then q else opN f L p k (q - 1) (d - 1)) else opN f L p k (q - 1) (if q < L ∧ f q = 41 ∧ q ≠ p then d + 1 else d)) else -1
def op (f : Int → Int) (L p q d : Int) : Int := opN f L p (q + 1).toNat q d
theorem op_eq (f : Int → Int) (L p q d : Int) : op f L p q d = if 0 ≤ q then (if q < L ∧ f q = 40 then (if d = 0 then q else op f L p (q - 1) (d - 1)) else op f L p (q - 1) (if q < L ∧ f q = 41 ∧ q ≠ p then d + 1 else d)) else -1 := by
  unfold op
  by_cases h : 0 ≤ q
  · rw [show (q + 1).toNat = (q - 1 + 1).toNat + 1 by omega, opN]
  · rw [show (q + 1).toNat = 0 by omega, opN, if_neg h]
def clN (f : Int → Int) (L : Int) : Nat → Int → Int → Int
  | 0, _, _ => -1
  | k + 1, q, d => if q < L then (if f q = 41 then (if d = 0 then q else clN f L k (q + 1) (d - 1)) else clN f L k (q + 1) (if f q = 40 then d + 1 else d)) else -1
def cl (f : Int → Int) (L q d : Int) : Int := clN f L (L - q).toNat q d
theorem cl_eq (f : Int → Int) (L q d : Int) : cl f L q d = if q < L then (if f q = 41 then (if d = 0 then q else cl f L (q + 1) (d - 1)) else cl f L (q + 1) (if f q = 40 then d + 1 else d)) else -1 := by
  unfold cl
  by_cases h : q < L
  · rw [show (L - q).toNat = (L - (q + 1)).toNat + 1 by omega, clN]
  · rw [show (L - q).toNat = 0 by omega, clN, if_neg h]
-- words
def wdN (f : Int → Int) (L : Int) : Nat → Int → Int → Int
  | 0, _, c => c
  | k + 1, p, c => if p < L then wdN f L k (p + 1) (if kd f L p = 1 ∧ kd f L (p - 1) ≠ 1 then c + 1 else c) else c
def wd (f : Int → Int) (L p c : Int) : Int := wdN f L (L - p).toNat p c
theorem wd_eq (f : Int → Int) (L p c : Int) : wd f L p c = if p < L then wd f L (p + 1) (if kd f L p = 1 ∧ kd f L (p - 1) ≠ 1 then c + 1 else c) else c := by
  unfold wd
  by_cases h : p < L
  · rw [show (L - p).toNat = (L - (p + 1)).toNat + 1 by omega, wdN]
  · rw [show (L - p).toNat = 0 by omega, wdN, if_neg h]
-- ends of contracts
theorem zO_i {cs : List va_E} {a b : Int} (h : a = b) : zO (.int (iI b)) cs (some (.int (iI a))) cs := ⟨by rw [h], rfl⟩
theorem zO_ic {cs cs1 : List va_E} {a b : Int} (h : a = b) (hc : cs = cs1) : zO (.int (iI b)) cs1 (some (.int (iI a))) cs := ⟨by rw [h], hc⟩
theorem b2z_1 {P : Prop} [Decidable P] (h : P) : (1 : Int) = b2z P := (b2z_t h).symm
theorem b2z_0 {P : Prop} [Decidable P] (h : ¬ P) : (0 : Int) = b2z P := (b2z_f h).symm
section ZX
variable {G : zG} {E : zE} {pc : Nat} {lv : List (Option Value)} {st : List Value} {cs : List va_E}
theorem V_midz {pc2 : Nat} (z : Int) (k : V G E pc2 lv (.int (iI z) :: st) cs) (h : (∀ v, v = z → V G E pc2 lv (.int (iI v) :: st) cs) → V G E pc lv st cs) : V G E pc lv st cs := V_mid z k h
theorem V_midb {pc2 : Nat} (P : Prop) [Decidable P] (k : V G E pc2 lv (.int (iI (b2z P)) :: st) cs) (h : (P → V G E pc2 lv (.int (iI 1) :: st) cs) → (¬ P → V G E pc2 lv (.int (iI 0) :: st) cs) → V G E pc lv st cs) : V G E pc lv st cs := V_midB P k h
end ZX
end
section
/-! ===== ModalKeys$Text: what is read ===== -/
/-- a Text at the ids i (itself), j (its letters) -/
def isT (G : zG) (cs : List va_E) (i j : Nat) (f : Int → Int) (L c : Int) : Prop := cs[i]? = some (.inr (5, [.ref (G.ad j), .int (iI L), .int (iI c)])) ∧ cs[j]? = some (zI G 60 f) ∧ (∀ k, rng (f k)) ∧ 0 ≤ L ∧ L ≤ 60

set_option maxRecDepth 100000 in
theorem m_X5_has (G : zG) {cs : List va_E} {i j : Nat} {f : Int → Int} {L c : Int} (T : isT G cs i j f L c) {p : Int} (hp : rng p) : zMet G yX5_has cX5_has 2 (some .boolean) 0 0 [.ref (G.ad i), .int (iI p)] cs (zO (.int (iI (b2z (0 ≤ p ∧ p < L)))) cs) := by
  refine zMet.of (by decide) (Nat.le_of_ble_eq_true rfl) ?_
  intro E C R
  have C : zC G E RX5 cX5_has 2 0 0 := C
  show V G E 0 [some (.ref (G.ad i)), some (.int (iI p))] [] cs
  obtain ⟨hi, hj, hf, hL0, hL1⟩ := id T
  refine V_iload_n C dX5_has_0 rfl ?_
  refine V_if_lt (tgt := 16) C dX5_has_1 (by decide) (by omega) (fun c_1 => ?_) (fun c_1 => ?_)
  · skip
    refine V_iconst C dX5_has_16 ?_
    exact V_zret C R dX5_has_17 (by first | decide | omega) (zO_i (by first | exact b2z_1 (by omega) | exact b2z_0 (by omega)))
  · skip
    refine V_iload_n C dX5_has_4 rfl ?_
    refine V_aload_n C dX5_has_5 rfl ?_
    refine vg_X5_21 C dX5_has_6 (by assumption) rfl ?_
    refine V_icmp_ge (tgt := 16) C dX5_has_9 (by decide) (by omega) (by omega) (fun c_9 => ?_) (fun c_9 => ?_)
    · skip
      refine V_iconst C dX5_has_16 ?_
      exact V_zret C R dX5_has_17 (by first | decide | omega) (zO_i (by first | exact b2z_1 (by omega) | exact b2z_0 (by omega)))
    · skip
      refine V_iconst C dX5_has_12 ?_
      refine V_goto (tgt := 17) C dX5_has_13 (by decide) ?_
      exact V_zret C R dX5_has_17 (by first | decide | omega) (zO_i (by first | exact b2z_1 (by omega) | exact b2z_0 (by omega)))

set_option maxRecDepth 100000 in
theorem m_X5_at (G : zG) {cs : List va_E} {i j : Nat} {f : Int → Int} {L c : Int} (T : isT G cs i j f L c) {p : Int} (hp : rng p) : zMet G yX5_at cX5_at 2 (some .int) 1 21 [.ref (G.ad i), .int (iI p)] cs (zO (.int (iI (if 0 ≤ p ∧ p < L then f p else -1))) cs) := by
  refine zMet.of (by decide) (Nat.le_of_ble_eq_true rfl) ?_
  intro E C R
  have C : zC G E RX5 cX5_at 2 1 21 := C
  show V G E 0 [some (.ref (G.ad i)), some (.int (iI p))] [] cs
  obtain ⟨hi, hj, hf, hL0, hL1⟩ := id T
  refine V_aload_n C dX5_at_0 rfl ?_
  refine V_iload_n C dX5_at_1 rfl ?_
  refine V_callV C lk_X5_28 (m_X5_has G T (by omega)) dX5_at_2 rfl rfl (by assumption) rfl (by decide) (Nat.le_of_ble_eq_true rfl) (kO ?_)
  refine V_if_eqB (tgt := 17) C dX5_at_5 (by decide) (fun c_5 => ?_) (fun c_5 => ?_)
  · skip
    refine V_iconst C dX5_at_17 ?_
    exact V_iret C R dX5_at_18 (zO_i (by simp only [*, if_true, if_false, and_self]))
  · skip
    refine V_aload_n C dX5_at_8 rfl ?_
    refine vg_X5_9 C dX5_at_9 (by assumption) rfl ?_
    refine V_iload_n C dX5_at_12 rfl ?_
    refine V_iald C dX5_at_13 (by assumption) (by omega) (by omega) (by decide) (by assumption) (fun r_13 => ?_)
    refine V_goto (tgt := 18) C dX5_at_14 (by decide) ?_
    exact V_iret C R dX5_at_18 (zO_i (by simp only [*, if_true, if_false, and_self]))

set_option maxRecDepth 100000 in
theorem m_X5_last (G : zG) {cs : List va_E} {i j : Nat} {f : Int → Int} {L c : Int} (T : isT G cs i j f L c) : zMet G yX5_last cX5_last 1 (some .int) 0 0 [.ref (G.ad i)] cs (zO (.int (iI (la L))) cs) := by
  refine zMet.of (by decide) (Nat.le_of_ble_eq_true rfl) ?_
  intro E C R
  have C : zC G E RX5 cX5_last 1 0 0 := C
  show V G E 0 [some (.ref (G.ad i))] [] cs
  obtain ⟨hi, hj, hf, hL0, hL1⟩ := id T
  refine V_aload_n C dX5_last_0 rfl ?_
  refine vg_X5_21 C dX5_last_1 (by assumption) rfl ?_
  refine V_if_le (tgt := 16) C dX5_last_4 (by decide) (by omega) (fun c_4 => ?_) (fun c_4 => ?_)
  · skip
    refine V_iconst C dX5_last_16 ?_
    exact V_iret C R dX5_last_17 (zO_i (by unfold la; split <;> omega))
  · skip
    refine V_aload_n C dX5_last_7 rfl ?_
    refine vg_X5_21 C dX5_last_8 (by assumption) rfl ?_
    refine V_iconst C dX5_last_11 ?_
    refine V_isub C dX5_last_12 ?_
    refine V_goto (tgt := 17) C dX5_last_13 (by decide) ?_
    exact V_iret C R dX5_last_17 (zO_i (by unfold la; split <;> omega))

set_option maxRecDepth 100000 in
theorem m_X5_canStand (G : zG) {cs : List va_E} {i j : Nat} {f : Int → Int} {L c : Int} (T : isT G cs i j f L c) {p : Int} (hp : rng p) : zMet G yX5_canStand cX5_canStand 2 (some .boolean) 1 20 [.ref (G.ad i), .int (iI p)] cs (zO (.int (iI (b2z (0 ≤ p ∧ p ≤ la L)))) cs) := by
  refine zMet.of (by decide) (Nat.le_of_ble_eq_true rfl) ?_
  intro E C R
  have C : zC G E RX5 cX5_canStand 2 1 20 := C
  show V G E 0 [some (.ref (G.ad i)), some (.int (iI p))] [] cs
  obtain ⟨hi, hj, hf, hL0, hL1⟩ := id T
  have hla := la_in hL0
  refine V_iload_n C dX5_canStand_0 rfl ?_
  refine V_if_lt (tgt := 16) C dX5_canStand_1 (by decide) (by omega) (fun c_1 => ?_) (fun c_1 => ?_)
  · skip
    refine V_iconst C dX5_canStand_16 ?_
    exact V_zret C R dX5_canStand_17 (by first | decide | omega) (zO_i (by first | exact b2z_1 (by omega) | exact b2z_0 (by omega)))
  · skip
    refine V_iload_n C dX5_canStand_4 rfl ?_
    refine V_aload_n C dX5_canStand_5 rfl ?_
    refine V_callV C lk_X5_32 (m_X5_last G T) dX5_canStand_6 rfl rfl (by assumption) rfl (by decide) (Nat.le_of_ble_eq_true rfl) (kO ?_)
    refine V_icmp_gt (tgt := 16) C dX5_canStand_9 (by decide) (by omega) (by omega) (fun c_9 => ?_) (fun c_9 => ?_)
    · skip
      refine V_iconst C dX5_canStand_16 ?_
      exact V_zret C R dX5_canStand_17 (by first | decide | omega) (zO_i (by first | exact b2z_1 (by omega) | exact b2z_0 (by omega)))
    · skip
      refine V_iconst C dX5_canStand_12 ?_
      refine V_goto (tgt := 17) C dX5_canStand_13 (by decide) ?_
      exact V_zret C R dX5_canStand_17 (by first | decide | omega) (zO_i (by first | exact b2z_1 (by omega) | exact b2z_0 (by omega)))

set_option maxRecDepth 100000 in
theorem m_X5_standing (G : zG) {cs : List va_E} {i j : Nat} {f : Int → Int} {L c : Int} (T : isT G cs i j f L c) (hc : rng c) : zMet G yX5_standing cX5_standing 1 (some .int) 1 21 [.ref (G.ad i)] cs (zO (.int (iI (min c (la L)))) cs) := by
  refine zMet.of (by decide) (Nat.le_of_ble_eq_true rfl) ?_
  intro E C R
  have C : zC G E RX5 cX5_standing 1 1 21 := C
  show V G E 0 [some (.ref (G.ad i))] [] cs
  obtain ⟨hi, hj, hf, hL0, hL1⟩ := id T
  have hla := la_in hL0
  refine V_aload_n C dX5_standing_0 rfl ?_
  refine vg_X5_25 C dX5_standing_1 (by assumption) rfl ?_
  refine V_aload_n C dX5_standing_4 rfl ?_
  refine V_callV C lk_X5_32 (m_X5_last G T) dX5_standing_5 rfl rfl (by assumption) rfl (by decide) (Nat.le_of_ble_eq_true rfl) (kO ?_)
  refine V_min C wm_X5_36 dX5_standing_8 (by omega) (by omega) (by decide) (Nat.le_of_ble_eq_true rfl) ?_
  exact V_iret C R dX5_standing_11 (zO_i rfl)

set_option maxRecDepth 100000 in
theorem m_X5_kindAt (G : zG) {cs : List va_E} {i j : Nat} {f : Int → Int} {L c : Int} (T : isT G cs i j f L c) {p : Int} (hp : rng p) : zMet G yX5_kindAt cX5_kindAt 6 (some .int) 0 0 [.ref (G.ad i), .int (iI p)] cs (zO (.int (iI (kd f L p))) cs) := by
  refine zMet.of (by decide) (Nat.le_of_ble_eq_true rfl) ?_
  intro E C R
  have C : zC G E RX5 cX5_kindAt 6 0 0 := C
  show V G E 0 [some (.ref (G.ad i)), some (.int (iI p)), none, none, none, none] [] cs
  obtain ⟨hi, hj, hf, hL0, hL1⟩ := id T
  refine V_iload_n C dX5_kindAt_0 rfl ?_
  refine V_if_lt (tgt := 12) C dX5_kindAt_1 (by decide) (by omega) (fun c_1 => ?_) (fun c_1 => ?_)
  · skip
    refine V_iconst C dX5_kindAt_12 ?_
    exact V_iret C R dX5_kindAt_13 (zO_i (by rw [kd_out (by omega)]))
  · skip
    refine V_iload_n C dX5_kindAt_4 rfl ?_
    refine V_aload_n C dX5_kindAt_5 rfl ?_
    refine vg_X5_21 C dX5_kindAt_6 (by assumption) rfl ?_
    refine V_icmp_lt (tgt := 14) C dX5_kindAt_9 (by decide) (by omega) (by omega) (fun c_9 => ?_) (fun c_9 => ?_)
    · skip
      refine V_aload_n C dX5_kindAt_14 rfl ?_
      refine vg_X5_9 C dX5_kindAt_15 (by assumption) rfl ?_
      refine V_iload_n C dX5_kindAt_18 rfl ?_
      refine V_iald C dX5_kindAt_19 (by assumption) (by omega) (by omega) (by decide) (by assumption) (fun r_19 => ?_)
      refine V_istore_n C dX5_kindAt_20 (by decide) rfl ?_
      refine V_iload_n C dX5_kindAt_21 rfl ?_
      refine V_bipush C dX5_kindAt_22 (by decide) ?_
      refine V_icmp_ne (tgt := 29) C dX5_kindAt_24 (by decide) (by omega) (by omega) (fun c_24 => ?_) (fun c_24 => ?_)
      · skip
        refine V_midb (pc2 := 46) (97 ≤ f p ∧ f p ≤ 122) ?_ (fun kt_29 kf_29 => ?_)
        · skip
          refine V_istore_n C dX5_kindAt_46 (by decide) rfl ?_
          refine V_midb (pc2 := 64) (65 ≤ f p ∧ f p ≤ 90) ?_ (fun kt_47 kf_47 => ?_)
          · skip
            refine V_istore C dX5_kindAt_64 (by decide) rfl ?_
            refine V_midb (pc2 := 83) (48 ≤ f p ∧ f p ≤ 57) ?_ (fun kt_66 kf_66 => ?_)
            · skip
              refine V_istore C dX5_kindAt_83 (by decide) rfl ?_
              refine V_iload_n C dX5_kindAt_85 rfl ?_
              refine V_if_neB (tgt := 99) C dX5_kindAt_86 (by decide) (fun c_86 => ?_) (fun c_86 => ?_)
              · skip
                refine V_iconst C dX5_kindAt_99 ?_
                refine V_goto (tgt := 104) C dX5_kindAt_100 (by decide) ?_
                exact V_iret C R dX5_kindAt_104 (zO_i (by rw [kd_at (by omega) (by omega)]; unfold kc; rw [if_neg (by omega)]; first | rw [if_pos (by omega)] | rw [if_neg (by omega)]))
              · skip
                refine V_iload C dX5_kindAt_89 rfl ?_
                refine V_if_neB (tgt := 99) C dX5_kindAt_91 (by decide) (fun c_91 => ?_) (fun c_91 => ?_)
                · skip
                  refine V_iconst C dX5_kindAt_99 ?_
                  refine V_goto (tgt := 104) C dX5_kindAt_100 (by decide) ?_
                  exact V_iret C R dX5_kindAt_104 (zO_i (by rw [kd_at (by omega) (by omega)]; unfold kc; rw [if_neg (by omega)]; first | rw [if_pos (by omega)] | rw [if_neg (by omega)]))
                · skip
                  refine V_iload C dX5_kindAt_94 rfl ?_
                  refine V_if_eqB (tgt := 103) C dX5_kindAt_96 (by decide) (fun c_96 => ?_) (fun c_96 => ?_)
                  · skip
                    refine V_iconst C dX5_kindAt_103 ?_
                    exact V_iret C R dX5_kindAt_104 (zO_i (by rw [kd_at (by omega) (by omega)]; unfold kc; rw [if_neg (by omega)]; first | rw [if_pos (by omega)] | rw [if_neg (by omega)]))
                  · skip
                    refine V_iconst C dX5_kindAt_99 ?_
                    refine V_goto (tgt := 104) C dX5_kindAt_100 (by decide) ?_
                    exact V_iret C R dX5_kindAt_104 (zO_i (by rw [kd_at (by omega) (by omega)]; unfold kc; rw [if_neg (by omega)]; first | rw [if_pos (by omega)] | rw [if_neg (by omega)]))
            · skip
              refine V_iload_n C dX5_kindAt_66 rfl ?_
              refine V_bipush C dX5_kindAt_67 (by decide) ?_
              refine V_icmp_lt (tgt := 82) C dX5_kindAt_69 (by decide) (by omega) (by omega) (fun c_69 => ?_) (fun c_69 => ?_)
              · skip
                refine V_iconst C dX5_kindAt_82 ?_
                exact kf_66 (by omega)
              · skip
                refine V_iload_n C dX5_kindAt_72 rfl ?_
                refine V_bipush C dX5_kindAt_73 (by decide) ?_
                refine V_icmp_gt (tgt := 82) C dX5_kindAt_75 (by decide) (by omega) (by omega) (fun c_75 => ?_) (fun c_75 => ?_)
                · skip
                  refine V_iconst C dX5_kindAt_82 ?_
                  exact kf_66 (by omega)
                · skip
                  refine V_iconst C dX5_kindAt_78 ?_
                  refine V_goto (tgt := 83) C dX5_kindAt_79 (by decide) ?_
                  exact kt_66 (by omega)
          · skip
            refine V_iload_n C dX5_kindAt_47 rfl ?_
            refine V_bipush C dX5_kindAt_48 (by decide) ?_
            refine V_icmp_lt (tgt := 63) C dX5_kindAt_50 (by decide) (by omega) (by omega) (fun c_50 => ?_) (fun c_50 => ?_)
            · skip
              refine V_iconst C dX5_kindAt_63 ?_
              exact kf_47 (by omega)
            · skip
              refine V_iload_n C dX5_kindAt_53 rfl ?_
              refine V_bipush C dX5_kindAt_54 (by decide) ?_
              refine V_icmp_gt (tgt := 63) C dX5_kindAt_56 (by decide) (by omega) (by omega) (fun c_56 => ?_) (fun c_56 => ?_)
              · skip
                refine V_iconst C dX5_kindAt_63 ?_
                exact kf_47 (by omega)
              · skip
                refine V_iconst C dX5_kindAt_59 ?_
                refine V_goto (tgt := 64) C dX5_kindAt_60 (by decide) ?_
                exact kt_47 (by omega)
        · skip
          refine V_iload_n C dX5_kindAt_29 rfl ?_
          refine V_bipush C dX5_kindAt_30 (by decide) ?_
          refine V_icmp_lt (tgt := 45) C dX5_kindAt_32 (by decide) (by omega) (by omega) (fun c_32 => ?_) (fun c_32 => ?_)
          · skip
            refine V_iconst C dX5_kindAt_45 ?_
            exact kf_29 (by omega)
          · skip
            refine V_iload_n C dX5_kindAt_35 rfl ?_
            refine V_bipush C dX5_kindAt_36 (by decide) ?_
            refine V_icmp_gt (tgt := 45) C dX5_kindAt_38 (by decide) (by omega) (by omega) (fun c_38 => ?_) (fun c_38 => ?_)
            · skip
              refine V_iconst C dX5_kindAt_45 ?_
              exact kf_29 (by omega)
            · skip
              refine V_iconst C dX5_kindAt_41 ?_
              refine V_goto (tgt := 46) C dX5_kindAt_42 (by decide) ?_
              exact kt_29 (by omega)
      · skip
        refine V_iconst C dX5_kindAt_27 ?_
        exact V_iret C R dX5_kindAt_28 (zO_i (by rw [kd_at (by omega) (by omega)]; unfold kc; rw [if_pos (by omega)]))
    · skip
      refine V_iconst C dX5_kindAt_12 ?_
      exact V_iret C R dX5_kindAt_13 (zO_i (by rw [kd_out (by omega)]))

set_option maxRecDepth 100000 in
theorem m_X5_behindKind (G : zG) {cs : List va_E} {i j : Nat} {f : Int → Int} {L c : Int} (T : isT G cs i j f L c) {p kd0 : Int} (hp : -1 ≤ p ∧ p ≤ 100) (hk : rng kd0) : zMet G yX5_behindKind cX5_behindKind 4 (some .int) 1 25 [.ref (G.ad i), .int (iI p), .int (iI kd0)] cs (zO (.int (iI (bh f L kd0 p))) cs) := by
  refine zMet.of (by decide) (Nat.le_of_ble_eq_true rfl) ?_
  intro E C R
  have C : zC G E RX5 cX5_behindKind 4 1 25 := C
  show V G E 0 [some (.ref (G.ad i)), some (.int (iI p)), some (.int (iI kd0)), none] [] cs
  obtain ⟨hi, hj, hf, hL0, hL1⟩ := id T
  refine V_iload_n C dX5_behindKind_0 rfl ?_
  refine V_istore_n C dX5_behindKind_1 (by decide) rfl ?_
  refine V_loop (α := Int) (fun x => (200 - x).toNat) (fun x => p ≤ x ∧ x ≤ max p L ∧ bh f L kd0 x = bh f L kd0 p) (fun x => V G E 2 [some (.ref (G.ad i)), some (.int (iI p)), some (.int (iI kd0)), some (.int (iI x))] [] cs) ?_ p ⟨by omega, by omega, rfl⟩
  rintro q ⟨g1, g2, g3⟩ ih_2
  have hq := kd_in f L q
  refine V_iload_n C dX5_behindKind_2 rfl ?_
  refine V_aload_n C dX5_behindKind_3 rfl ?_
  refine vg_X5_21 C dX5_behindKind_4 (by assumption) rfl ?_
  refine V_icmp_ge (tgt := 25) C dX5_behindKind_7 (by decide) (by omega) (by omega) (fun c_7 => ?_) (fun c_7 => ?_)
  · skip
    refine V_iload_n C dX5_behindKind_25 rfl ?_
    exact V_iret C R dX5_behindKind_26 (zO_i (by rw [← g3]; exact (bh_no (by omega)).symm))
  · skip
    refine V_aload_n C dX5_behindKind_10 rfl ?_
    refine V_iload_n C dX5_behindKind_11 rfl ?_
    refine V_callV C lk_X5_42 (m_X5_kindAt G T (by omega)) dX5_behindKind_12 rfl rfl (by assumption) rfl (by decide) (Nat.le_of_ble_eq_true rfl) (kO ?_)
    refine V_iload_n C dX5_behindKind_15 rfl ?_
    refine V_icmp_ne (tgt := 25) C dX5_behindKind_16 (by decide) (by omega) (by omega) (fun c_16 => ?_) (fun c_16 => ?_)
    · skip
      refine V_iload_n C dX5_behindKind_25 rfl ?_
      exact V_iret C R dX5_behindKind_26 (zO_i (by rw [← g3]; exact (bh_no (by omega)).symm))
    · skip
      refine V_iinc C dX5_behindKind_19 rfl (by decide) rfl ?_
      refine V_goto (tgt := 2) C dX5_behindKind_22 (by decide) ?_
      exact ih_2 (q + 1) ⟨by omega, by omega, by rw [← g3]; exact (bh_go (by omega) (by omega)).symm⟩ (by omega)

set_option maxRecDepth 100000 in
theorem m_X5_beginOfKind (G : zG) {cs : List va_E} {i j : Nat} {f : Int → Int} {L c : Int} (T : isT G cs i j f L c) {p kd0 : Int} (hp : 0 ≤ p ∧ p ≤ 100) (hk : rng kd0) : zMet G yX5_beginOfKind cX5_beginOfKind 4 (some .int) 1 25 [.ref (G.ad i), .int (iI p), .int (iI kd0)] cs (zO (.int (iI (bg f L kd0 p))) cs) := by
  refine zMet.of (by decide) (Nat.le_of_ble_eq_true rfl) ?_
  intro E C R
  have C : zC G E RX5 cX5_beginOfKind 4 1 25 := C
  show V G E 0 [some (.ref (G.ad i)), some (.int (iI p)), some (.int (iI kd0)), none] [] cs
  obtain ⟨hi, hj, hf, hL0, hL1⟩ := id T
  refine V_iload_n C dX5_beginOfKind_0 rfl ?_
  refine V_istore_n C dX5_beginOfKind_1 (by decide) rfl ?_
  refine V_loop (α := Int) (fun x => x.toNat) (fun x => 0 ≤ x ∧ x ≤ p ∧ bg f L kd0 x = bg f L kd0 p) (fun x => V G E 2 [some (.ref (G.ad i)), some (.int (iI p)), some (.int (iI kd0)), some (.int (iI x))] [] cs) ?_ p ⟨by omega, by omega, rfl⟩
  rintro q ⟨g1, g2, g3⟩ ih_2
  have hq := kd_in f L (q - 1)
  refine V_iload_n C dX5_beginOfKind_2 rfl ?_
  refine V_if_le (tgt := 23) C dX5_beginOfKind_3 (by decide) (by omega) (fun c_3 => ?_) (fun c_3 => ?_)
  · skip
    refine V_iload_n C dX5_beginOfKind_23 rfl ?_
    exact V_iret C R dX5_beginOfKind_24 (zO_i (by rw [← g3]; exact (bg_no (by omega)).symm))
  · skip
    refine V_aload_n C dX5_beginOfKind_6 rfl ?_
    refine V_iload_n C dX5_beginOfKind_7 rfl ?_
    refine V_iconst C dX5_beginOfKind_8 ?_
    refine V_isub C dX5_beginOfKind_9 ?_
    refine V_callV C lk_X5_42 (m_X5_kindAt G T (by omega)) dX5_beginOfKind_10 rfl rfl (by assumption) rfl (by decide) (Nat.le_of_ble_eq_true rfl) (kO ?_)
    refine V_iload_n C dX5_beginOfKind_13 rfl ?_
    refine V_icmp_ne (tgt := 23) C dX5_beginOfKind_14 (by decide) (by omega) (by omega) (fun c_14 => ?_) (fun c_14 => ?_)
    · skip
      refine V_iload_n C dX5_beginOfKind_23 rfl ?_
      exact V_iret C R dX5_beginOfKind_24 (zO_i (by rw [← g3]; exact (bg_no (by omega)).symm))
    · skip
      refine V_iinc C dX5_beginOfKind_17 rfl (by decide) rfl ?_
      refine V_goto (tgt := 2) C dX5_beginOfKind_20 (by decide) ?_
      exact ih_2 (q + -1) ⟨by omega, by omega, by rw [← g3]; exact (bg_go (by omega) (by omega)).symm⟩ (by omega)
end
