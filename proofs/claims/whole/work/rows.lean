section
-- ===== PART A: goes FIRST, ahead of the names: the tables' words, and 'selects' of the private methods out of them =====
/-- a private method of a class that the tables say can be made, by its rows of tables_1 -/
def lw_okq (q : MethodName × Nat) : Prop := (q.1.cls ≠ "java/lang/invoke/MethodHandle" ∧ q.1.cls ≠ "java/lang/invoke/VarHandle") ∧ Cond.instantiable q.1.cls q.2 ∈ tables_1 ∧ Cond.privateMethod q.1 ∈ tables_1 ∧ Cond.instanceMethod q.1 ∈ tables_1
theorem lw_p0 : lw_okq (⟨"java/lang/Throwable", "fillInStackTrace", "(I)Ljava/lang/Throwable;"⟩, 6) := ⟨⟨by decide +kernel, by decide +kernel⟩, List.mem_of_getElem? (i := 249) (by decide +kernel), List.mem_of_getElem? (i := 247) (by decide +kernel), List.mem_of_getElem? (i := 248) (by decide +kernel)⟩
theorem lw_p1 : lw_okq (⟨"LiquidChecker$Relations", "append", "(III)I"⟩, 4) := ⟨⟨by decide +kernel, by decide +kernel⟩, List.mem_of_getElem? (i := 97) (by decide +kernel), List.mem_of_getElem? (i := 299) (by decide +kernel), List.mem_of_getElem? (i := 300) (by decide +kernel)⟩
theorem lw_p2 : lw_okq (⟨"LiquidChecker$Function", "hasGivenWhatIsUsed", "(IIII)Z"⟩, 8) := ⟨⟨by decide +kernel, by decide +kernel⟩, List.mem_of_getElem? (i := 91) (by decide +kernel), List.mem_of_getElem? (i := 333) (by decide +kernel), List.mem_of_getElem? (i := 334) (by decide +kernel)⟩
theorem lw_p3 : lw_okq (⟨"LiquidChecker$Function", "hasGiven", "(I)Z"⟩, 8) := ⟨⟨by decide +kernel, by decide +kernel⟩, List.mem_of_getElem? (i := 91) (by decide +kernel), List.mem_of_getElem? (i := 338) (by decide +kernel), List.mem_of_getElem? (i := 339) (by decide +kernel)⟩
theorem lw_p4 : lw_okq (⟨"LiquidChecker$Function", "isOpenFor", "(I)Z"⟩, 8) := ⟨⟨by decide +kernel, by decide +kernel⟩, List.mem_of_getElem? (i := 91) (by decide +kernel), List.mem_of_getElem? (i := 344) (by decide +kernel), List.mem_of_getElem? (i := 345) (by decide +kernel)⟩
theorem lw_p5 : lw_okq (⟨"LiquidChecker$Function", "hasRoomFor", "(I)Z"⟩, 8) := ⟨⟨by decide +kernel, by decide +kernel⟩, List.mem_of_getElem? (i := 91) (by decide +kernel), List.mem_of_getElem? (i := 364) (by decide +kernel), List.mem_of_getElem? (i := 365) (by decide +kernel)⟩
theorem lw_p6 : lw_okq (⟨"LiquidChecker$Function", "append", "(IIIII)I"⟩, 8) := ⟨⟨by decide +kernel, by decide +kernel⟩, List.mem_of_getElem? (i := 91) (by decide +kernel), List.mem_of_getElem? (i := 369) (by decide +kernel), List.mem_of_getElem? (i := 370) (by decide +kernel)⟩
theorem lw_p7 : lw_okq (⟨"LiquidChecker$Statement", "write", "(IIIII)V"⟩, 6) := ⟨⟨by decide +kernel, by decide +kernel⟩, List.mem_of_getElem? (i := 119) (by decide +kernel), List.mem_of_getElem? (i := 373) (by decide +kernel), List.mem_of_getElem? (i := 374) (by decide +kernel)⟩
theorem lw_p8 : lw_okq (⟨"LiquidChecker$Function", "openIf", "(I)V"⟩, 8) := ⟨⟨by decide +kernel, by decide +kernel⟩, List.mem_of_getElem? (i := 91) (by decide +kernel), List.mem_of_getElem? (i := 378) (by decide +kernel), List.mem_of_getElem? (i := 379) (by decide +kernel)⟩
theorem lw_p9 : lw_okq (⟨"LiquidChecker$Function", "turnToElse", "(I)V"⟩, 8) := ⟨⟨by decide +kernel, by decide +kernel⟩, List.mem_of_getElem? (i := 91) (by decide +kernel), List.mem_of_getElem? (i := 382) (by decide +kernel), List.mem_of_getElem? (i := 383) (by decide +kernel)⟩
theorem lw_p10 : lw_okq (⟨"LiquidChecker$Function", "closeIf", "(I)V"⟩, 8) := ⟨⟨by decide +kernel, by decide +kernel⟩, List.mem_of_getElem? (i := 91) (by decide +kernel), List.mem_of_getElem? (i := 386) (by decide +kernel), List.mem_of_getElem? (i := 387) (by decide +kernel)⟩
theorem lw_p11 : lw_okq (⟨"LiquidChecker$Function", "empty", "()V"⟩, 8) := ⟨⟨by decide +kernel, by decide +kernel⟩, List.mem_of_getElem? (i := 91) (by decide +kernel), List.mem_of_getElem? (i := 398) (by decide +kernel), List.mem_of_getElem? (i := 399) (by decide +kernel)⟩
theorem lw_p12 : lw_okq (⟨"LiquidChecker$Walk", "through", "([LLiquidChecker$Function;LLiquidChecker$Function;III)V"⟩, 11) := ⟨⟨by decide +kernel, by decide +kernel⟩, List.mem_of_getElem? (i := 30) (by decide +kernel), List.mem_of_getElem? (i := 409) (by decide +kernel), List.mem_of_getElem? (i := 410) (by decide +kernel)⟩
theorem lw_p13 : lw_okq (⟨"LiquidChecker$Known", "forgetAll", "()V"⟩, 2) := ⟨⟨by decide +kernel, by decide +kernel⟩, List.mem_of_getElem? (i := 36) (by decide +kernel), List.mem_of_getElem? (i := 414) (by decide +kernel), List.mem_of_getElem? (i := 415) (by decide +kernel)⟩
theorem lw_p14 : lw_okq (⟨"LiquidChecker$Relations", "learnedBy", "(LLiquidChecker$Known;II)V"⟩, 4) := ⟨⟨by decide +kernel, by decide +kernel⟩, List.mem_of_getElem? (i := 97) (by decide +kernel), List.mem_of_getElem? (i := 422) (by decide +kernel), List.mem_of_getElem? (i := 423) (by decide +kernel)⟩
theorem lw_p15 : lw_okq (⟨"LiquidChecker$Known", "learn", "(III)V"⟩, 2) := ⟨⟨by decide +kernel, by decide +kernel⟩, List.mem_of_getElem? (i := 36) (by decide +kernel), List.mem_of_getElem? (i := 429) (by decide +kernel), List.mem_of_getElem? (i := 430) (by decide +kernel)⟩
def lw_privs_1 : List (MethodName × Nat) := [(⟨"java/lang/Throwable", "fillInStackTrace", "(I)Ljava/lang/Throwable;"⟩, 6), (⟨"LiquidChecker$Relations", "append", "(III)I"⟩, 4), (⟨"LiquidChecker$Function", "hasGivenWhatIsUsed", "(IIII)Z"⟩, 8), (⟨"LiquidChecker$Function", "hasGiven", "(I)Z"⟩, 8), (⟨"LiquidChecker$Function", "isOpenFor", "(I)Z"⟩, 8), (⟨"LiquidChecker$Function", "hasRoomFor", "(I)Z"⟩, 8), (⟨"LiquidChecker$Function", "append", "(IIIII)I"⟩, 8), (⟨"LiquidChecker$Statement", "write", "(IIIII)V"⟩, 6), (⟨"LiquidChecker$Function", "openIf", "(I)V"⟩, 8), (⟨"LiquidChecker$Function", "turnToElse", "(I)V"⟩, 8), (⟨"LiquidChecker$Function", "closeIf", "(I)V"⟩, 8), (⟨"LiquidChecker$Function", "empty", "()V"⟩, 8), (⟨"LiquidChecker$Walk", "through", "([LLiquidChecker$Function;LLiquidChecker$Function;III)V"⟩, 11), (⟨"LiquidChecker$Known", "forgetAll", "()V"⟩, 2), (⟨"LiquidChecker$Relations", "learnedBy", "(LLiquidChecker$Known;II)V"⟩, 4), (⟨"LiquidChecker$Known", "learn", "(III)V"⟩, 2)]
theorem lw_r1 : ∀ q ∈ lw_privs_1, lw_okq q := List.forall_mem_cons.mpr ⟨lw_p0, List.forall_mem_cons.mpr ⟨lw_p1, List.forall_mem_cons.mpr ⟨lw_p2, List.forall_mem_cons.mpr ⟨lw_p3, List.forall_mem_cons.mpr ⟨lw_p4, List.forall_mem_cons.mpr ⟨lw_p5, List.forall_mem_cons.mpr ⟨lw_p6, List.forall_mem_cons.mpr ⟨lw_p7, List.forall_mem_cons.mpr ⟨lw_p8, List.forall_mem_cons.mpr ⟨lw_p9, List.forall_mem_cons.mpr ⟨lw_p10, List.forall_mem_cons.mpr ⟨lw_p11, List.forall_mem_cons.mpr ⟨lw_p12, List.forall_mem_cons.mpr ⟨lw_p13, List.forall_mem_cons.mpr ⟨lw_p14, List.forall_mem_cons.mpr ⟨lw_p15, fun _ h => absurd h List.not_mem_nil⟩⟩⟩⟩⟩⟩⟩⟩⟩⟩⟩⟩⟩⟩⟩⟩
theorem lw_p16 : lw_okq (⟨"LiquidChecker$Walk", "followFrom", "(I[LLiquidChecker$Function;LLiquidChecker$Function;)V"⟩, 11) := ⟨⟨by decide +kernel, by decide +kernel⟩, List.mem_of_getElem? (i := 30) (by decide +kernel), List.mem_of_getElem? (i := 433) (by decide +kernel), List.mem_of_getElem? (i := 434) (by decide +kernel)⟩
theorem lw_p17 : lw_okq (⟨"LiquidChecker$Walk", "comeTo", "(I)V"⟩, 11) := ⟨⟨by decide +kernel, by decide +kernel⟩, List.mem_of_getElem? (i := 30) (by decide +kernel), List.mem_of_getElem? (i := 437) (by decide +kernel), List.mem_of_getElem? (i := 438) (by decide +kernel)⟩
theorem lw_p18 : lw_okq (⟨"LiquidChecker$Known", "bound", "(II)I"⟩, 2) := ⟨⟨by decide +kernel, by decide +kernel⟩, List.mem_of_getElem? (i := 36) (by decide +kernel), List.mem_of_getElem? (i := 441) (by decide +kernel), List.mem_of_getElem? (i := 442) (by decide +kernel)⟩
theorem lw_p19 : lw_okq (⟨"LiquidChecker$Walk", "endAt", "(ILLiquidChecker$Function;II)V"⟩, 11) := ⟨⟨by decide +kernel, by decide +kernel⟩, List.mem_of_getElem? (i := 30) (by decide +kernel), List.mem_of_getElem? (i := 448) (by decide +kernel), List.mem_of_getElem? (i := 449) (by decide +kernel)⟩
theorem lw_p20 : lw_okq (⟨"LiquidChecker$Known", "give", "(III)V"⟩, 2) := ⟨⟨by decide +kernel, by decide +kernel⟩, List.mem_of_getElem? (i := 36) (by decide +kernel), List.mem_of_getElem? (i := 452) (by decide +kernel), List.mem_of_getElem? (i := 453) (by decide +kernel)⟩
theorem lw_p21 : lw_okq (⟨"LiquidChecker$Relations", "shownBy", "(LLiquidChecker$Known;II)Z"⟩, 4) := ⟨⟨by decide +kernel, by decide +kernel⟩, List.mem_of_getElem? (i := 97) (by decide +kernel), List.mem_of_getElem? (i := 459) (by decide +kernel), List.mem_of_getElem? (i := 460) (by decide +kernel)⟩
theorem lw_p22 : lw_okq (⟨"LiquidChecker$Known", "shows", "(III)Z"⟩, 2) := ⟨⟨by decide +kernel, by decide +kernel⟩, List.mem_of_getElem? (i := 36) (by decide +kernel), List.mem_of_getElem? (i := 463) (by decide +kernel), List.mem_of_getElem? (i := 464) (by decide +kernel)⟩
theorem lw_p23 : lw_okq (⟨"LiquidChecker$Walk", "noteShown", "(IZ)V"⟩, 11) := ⟨⟨by decide +kernel, by decide +kernel⟩, List.mem_of_getElem? (i := 30) (by decide +kernel), List.mem_of_getElem? (i := 467) (by decide +kernel), List.mem_of_getElem? (i := 468) (by decide +kernel)⟩
theorem lw_p24 : lw_okq (⟨"LiquidChecker$Walk", "pass", "(I[LLiquidChecker$Function;LLiquidChecker$Function;)I"⟩, 11) := ⟨⟨by decide +kernel, by decide +kernel⟩, List.mem_of_getElem? (i := 30) (by decide +kernel), List.mem_of_getElem? (i := 471) (by decide +kernel), List.mem_of_getElem? (i := 472) (by decide +kernel)⟩
theorem lw_p25 : lw_okq (⟨"LiquidChecker$Walk", "passCall", "(ILLiquidChecker$Statement;LLiquidChecker$Function;)V"⟩, 11) := ⟨⟨by decide +kernel, by decide +kernel⟩, List.mem_of_getElem? (i := 30) (by decide +kernel), List.mem_of_getElem? (i := 475) (by decide +kernel), List.mem_of_getElem? (i := 476) (by decide +kernel)⟩
theorem lw_p26 : lw_okq (⟨"LiquidChecker$Known", "forget", "(I)V"⟩, 2) := ⟨⟨by decide +kernel, by decide +kernel⟩, List.mem_of_getElem? (i := 36) (by decide +kernel), List.mem_of_getElem? (i := 479) (by decide +kernel), List.mem_of_getElem? (i := 480) (by decide +kernel)⟩
theorem lw_p27 : lw_okq (⟨"LiquidChecker$Function", "targetOf", "(LLiquidChecker$Statement;)I"⟩, 8) := ⟨⟨by decide +kernel, by decide +kernel⟩, List.mem_of_getElem? (i := 91) (by decide +kernel), List.mem_of_getElem? (i := 483) (by decide +kernel), List.mem_of_getElem? (i := 484) (by decide +kernel)⟩
theorem lw_p28 : lw_okq (⟨"LiquidChecker$Walk", "leaveOtherSide", "(LLiquidChecker$Statement;I)V"⟩, 11) := ⟨⟨by decide +kernel, by decide +kernel⟩, List.mem_of_getElem? (i := 30) (by decide +kernel), List.mem_of_getElem? (i := 487) (by decide +kernel), List.mem_of_getElem? (i := 488) (by decide +kernel)⟩
theorem lw_p29 : lw_okq (⟨"LiquidChecker$Known", "copyFrom", "(LLiquidChecker$Known;)V"⟩, 2) := ⟨⟨by decide +kernel, by decide +kernel⟩, List.mem_of_getElem? (i := 36) (by decide +kernel), List.mem_of_getElem? (i := 491) (by decide +kernel), List.mem_of_getElem? (i := 492) (by decide +kernel)⟩
theorem lw_p30 : lw_okq (⟨"LiquidChecker$Walk", "takeWaitingSide", "()I"⟩, 11) := ⟨⟨by decide +kernel, by decide +kernel⟩, List.mem_of_getElem? (i := 30) (by decide +kernel), List.mem_of_getElem? (i := 500) (by decide +kernel), List.mem_of_getElem? (i := 501) (by decide +kernel)⟩
theorem lw_p31 : lw_okq (⟨"LiquidChecker", "isPlace", "(II)Z"⟩, 3) := ⟨⟨by decide +kernel, by decide +kernel⟩, List.mem_of_getElem? (i := 20) (by decide +kernel), List.mem_of_getElem? (i := 518) (by decide +kernel), List.mem_of_getElem? (i := 519) (by decide +kernel)⟩
def lw_privs_2 : List (MethodName × Nat) := [(⟨"LiquidChecker$Walk", "followFrom", "(I[LLiquidChecker$Function;LLiquidChecker$Function;)V"⟩, 11), (⟨"LiquidChecker$Walk", "comeTo", "(I)V"⟩, 11), (⟨"LiquidChecker$Known", "bound", "(II)I"⟩, 2), (⟨"LiquidChecker$Walk", "endAt", "(ILLiquidChecker$Function;II)V"⟩, 11), (⟨"LiquidChecker$Known", "give", "(III)V"⟩, 2), (⟨"LiquidChecker$Relations", "shownBy", "(LLiquidChecker$Known;II)Z"⟩, 4), (⟨"LiquidChecker$Known", "shows", "(III)Z"⟩, 2), (⟨"LiquidChecker$Walk", "noteShown", "(IZ)V"⟩, 11), (⟨"LiquidChecker$Walk", "pass", "(I[LLiquidChecker$Function;LLiquidChecker$Function;)I"⟩, 11), (⟨"LiquidChecker$Walk", "passCall", "(ILLiquidChecker$Statement;LLiquidChecker$Function;)V"⟩, 11), (⟨"LiquidChecker$Known", "forget", "(I)V"⟩, 2), (⟨"LiquidChecker$Function", "targetOf", "(LLiquidChecker$Statement;)I"⟩, 8), (⟨"LiquidChecker$Walk", "leaveOtherSide", "(LLiquidChecker$Statement;I)V"⟩, 11), (⟨"LiquidChecker$Known", "copyFrom", "(LLiquidChecker$Known;)V"⟩, 2), (⟨"LiquidChecker$Walk", "takeWaitingSide", "()I"⟩, 11), (⟨"LiquidChecker", "isPlace", "(II)Z"⟩, 3)]
theorem lw_r2 : ∀ q ∈ lw_privs_2, lw_okq q := List.forall_mem_cons.mpr ⟨lw_p16, List.forall_mem_cons.mpr ⟨lw_p17, List.forall_mem_cons.mpr ⟨lw_p18, List.forall_mem_cons.mpr ⟨lw_p19, List.forall_mem_cons.mpr ⟨lw_p20, List.forall_mem_cons.mpr ⟨lw_p21, List.forall_mem_cons.mpr ⟨lw_p22, List.forall_mem_cons.mpr ⟨lw_p23, List.forall_mem_cons.mpr ⟨lw_p24, List.forall_mem_cons.mpr ⟨lw_p25, List.forall_mem_cons.mpr ⟨lw_p26, List.forall_mem_cons.mpr ⟨lw_p27, List.forall_mem_cons.mpr ⟨lw_p28, List.forall_mem_cons.mpr ⟨lw_p29, List.forall_mem_cons.mpr ⟨lw_p30, List.forall_mem_cons.mpr ⟨lw_p31, fun _ h => absurd h List.not_mem_nil⟩⟩⟩⟩⟩⟩⟩⟩⟩⟩⟩⟩⟩⟩⟩⟩
theorem lw_p32 : lw_okq (⟨"LiquidChecker$Walk", "cameTo", "(I)Z"⟩, 11) := ⟨⟨by decide +kernel, by decide +kernel⟩, List.mem_of_getElem? (i := 30) (by decide +kernel), List.mem_of_getElem? (i := 523) (by decide +kernel), List.mem_of_getElem? (i := 524) (by decide +kernel)⟩
theorem lw_p33 : lw_okq (⟨"LiquidCheckerModel", "raise", "(I)I"⟩, 29) := ⟨⟨by decide +kernel, by decide +kernel⟩, List.mem_of_getElem? (i := 588) (by decide +kernel), List.mem_of_getElem? (i := 698) (by decide +kernel), List.mem_of_getElem? (i := 699) (by decide +kernel)⟩
theorem lw_p34 : lw_okq (⟨"LiquidCheckerModel", "stands", "(IIIII)Z"⟩, 29) := ⟨⟨by decide +kernel, by decide +kernel⟩, List.mem_of_getElem? (i := 588) (by decide +kernel), List.mem_of_getElem? (i := 712) (by decide +kernel), List.mem_of_getElem? (i := 713) (by decide +kernel)⟩
theorem lw_p35 : lw_okq (⟨"LiquidCheckerModel", "given", "(II)Z"⟩, 29) := ⟨⟨by decide +kernel, by decide +kernel⟩, List.mem_of_getElem? (i := 588) (by decide +kernel), List.mem_of_getElem? (i := 716) (by decide +kernel), List.mem_of_getElem? (i := 717) (by decide +kernel)⟩
theorem lw_p36 : lw_okq (⟨"LiquidCheckerModel", "explore", "(I)V"⟩, 29) := ⟨⟨by decide +kernel, by decide +kernel⟩, List.mem_of_getElem? (i := 588) (by decide +kernel), List.mem_of_getElem? (i := 728) (by decide +kernel), List.mem_of_getElem? (i := 729) (by decide +kernel)⟩
theorem lw_p37 : lw_okq (⟨"LiquidCheckerModel", "walk", "(I)V"⟩, 29) := ⟨⟨by decide +kernel, by decide +kernel⟩, List.mem_of_getElem? (i := 588) (by decide +kernel), List.mem_of_getElem? (i := 732) (by decide +kernel), List.mem_of_getElem? (i := 733) (by decide +kernel)⟩
theorem lw_p38 : lw_okq (⟨"LiquidCheckerModel", "begin", "()V"⟩, 29) := ⟨⟨by decide +kernel, by decide +kernel⟩, List.mem_of_getElem? (i := 588) (by decide +kernel), List.mem_of_getElem? (i := 736) (by decide +kernel), List.mem_of_getElem? (i := 737) (by decide +kernel)⟩
theorem lw_p39 : lw_okq (⟨"LiquidCheckerModel", "knowAll", "(III)V"⟩, 29) := ⟨⟨by decide +kernel, by decide +kernel⟩, List.mem_of_getElem? (i := 588) (by decide +kernel), List.mem_of_getElem? (i := 741) (by decide +kernel), List.mem_of_getElem? (i := 742) (by decide +kernel)⟩
theorem lw_p40 : lw_okq (⟨"LiquidCheckerModel", "know", "(IIJ)V"⟩, 29) := ⟨⟨by decide +kernel, by decide +kernel⟩, List.mem_of_getElem? (i := 588) (by decide +kernel), List.mem_of_getElem? (i := 748) (by decide +kernel), List.mem_of_getElem? (i := 749) (by decide +kernel)⟩
theorem lw_p41 : lw_okq (⟨"LiquidCheckerModel", "look", "(I)V"⟩, 29) := ⟨⟨by decide +kernel, by decide +kernel⟩, List.mem_of_getElem? (i := 588) (by decide +kernel), List.mem_of_getElem? (i := 752) (by decide +kernel), List.mem_of_getElem? (i := 753) (by decide +kernel)⟩
theorem lw_p42 : lw_okq (⟨"LiquidCheckerModel", "returns", "(III)V"⟩, 29) := ⟨⟨by decide +kernel, by decide +kernel⟩, List.mem_of_getElem? (i := 588) (by decide +kernel), List.mem_of_getElem? (i := 756) (by decide +kernel), List.mem_of_getElem? (i := 757) (by decide +kernel)⟩
theorem lw_p43 : lw_okq (⟨"LiquidCheckerModel", "showsAll", "(III)Z"⟩, 29) := ⟨⟨by decide +kernel, by decide +kernel⟩, List.mem_of_getElem? (i := 588) (by decide +kernel), List.mem_of_getElem? (i := 760) (by decide +kernel), List.mem_of_getElem? (i := 761) (by decide +kernel)⟩
theorem lw_p44 : lw_okq (⟨"LiquidCheckerModel", "shows", "(IIJ)Z"⟩, 29) := ⟨⟨by decide +kernel, by decide +kernel⟩, List.mem_of_getElem? (i := 588) (by decide +kernel), List.mem_of_getElem? (i := 764) (by decide +kernel), List.mem_of_getElem? (i := 765) (by decide +kernel)⟩
theorem lw_p45 : lw_okq (⟨"LiquidCheckerModel", "blame", "(I)V"⟩, 29) := ⟨⟨by decide +kernel, by decide +kernel⟩, List.mem_of_getElem? (i := 588) (by decide +kernel), List.mem_of_getElem? (i := 768) (by decide +kernel), List.mem_of_getElem? (i := 769) (by decide +kernel)⟩
theorem lw_p46 : lw_okq (⟨"LiquidCheckerModel", "perform", "(II)I"⟩, 29) := ⟨⟨by decide +kernel, by decide +kernel⟩, List.mem_of_getElem? (i := 588) (by decide +kernel), List.mem_of_getElem? (i := 772) (by decide +kernel), List.mem_of_getElem? (i := 773) (by decide +kernel)⟩
theorem lw_p47 : lw_okq (⟨"LiquidCheckerModel", "rename", "(I)V"⟩, 29) := ⟨⟨by decide +kernel, by decide +kernel⟩, List.mem_of_getElem? (i := 588) (by decide +kernel), List.mem_of_getElem? (i := 776) (by decide +kernel), List.mem_of_getElem? (i := 777) (by decide +kernel)⟩
def lw_privs_3 : List (MethodName × Nat) := [(⟨"LiquidChecker$Walk", "cameTo", "(I)Z"⟩, 11), (⟨"LiquidCheckerModel", "raise", "(I)I"⟩, 29), (⟨"LiquidCheckerModel", "stands", "(IIIII)Z"⟩, 29), (⟨"LiquidCheckerModel", "given", "(II)Z"⟩, 29), (⟨"LiquidCheckerModel", "explore", "(I)V"⟩, 29), (⟨"LiquidCheckerModel", "walk", "(I)V"⟩, 29), (⟨"LiquidCheckerModel", "begin", "()V"⟩, 29), (⟨"LiquidCheckerModel", "knowAll", "(III)V"⟩, 29), (⟨"LiquidCheckerModel", "know", "(IIJ)V"⟩, 29), (⟨"LiquidCheckerModel", "look", "(I)V"⟩, 29), (⟨"LiquidCheckerModel", "returns", "(III)V"⟩, 29), (⟨"LiquidCheckerModel", "showsAll", "(III)Z"⟩, 29), (⟨"LiquidCheckerModel", "shows", "(IIJ)Z"⟩, 29), (⟨"LiquidCheckerModel", "blame", "(I)V"⟩, 29), (⟨"LiquidCheckerModel", "perform", "(II)I"⟩, 29), (⟨"LiquidCheckerModel", "rename", "(I)V"⟩, 29)]
theorem lw_r3 : ∀ q ∈ lw_privs_3, lw_okq q := List.forall_mem_cons.mpr ⟨lw_p32, List.forall_mem_cons.mpr ⟨lw_p33, List.forall_mem_cons.mpr ⟨lw_p34, List.forall_mem_cons.mpr ⟨lw_p35, List.forall_mem_cons.mpr ⟨lw_p36, List.forall_mem_cons.mpr ⟨lw_p37, List.forall_mem_cons.mpr ⟨lw_p38, List.forall_mem_cons.mpr ⟨lw_p39, List.forall_mem_cons.mpr ⟨lw_p40, List.forall_mem_cons.mpr ⟨lw_p41, List.forall_mem_cons.mpr ⟨lw_p42, List.forall_mem_cons.mpr ⟨lw_p43, List.forall_mem_cons.mpr ⟨lw_p44, List.forall_mem_cons.mpr ⟨lw_p45, List.forall_mem_cons.mpr ⟨lw_p46, List.forall_mem_cons.mpr ⟨lw_p47, fun _ h => absurd h List.not_mem_nil⟩⟩⟩⟩⟩⟩⟩⟩⟩⟩⟩⟩⟩⟩⟩⟩
theorem lw_p48 : lw_okq (⟨"LiquidCheckerModel", "forget", "(I)V"⟩, 29) := ⟨⟨by decide +kernel, by decide +kernel⟩, List.mem_of_getElem? (i := 588) (by decide +kernel), List.mem_of_getElem? (i := 780) (by decide +kernel), List.mem_of_getElem? (i := 781) (by decide +kernel)⟩
theorem lw_p49 : lw_okq (⟨"LiquidCheckerModel", "call", "(II)V"⟩, 29) := ⟨⟨by decide +kernel, by decide +kernel⟩, List.mem_of_getElem? (i := 588) (by decide +kernel), List.mem_of_getElem? (i := 784) (by decide +kernel), List.mem_of_getElem? (i := 785) (by decide +kernel)⟩
theorem lw_p50 : lw_okq (⟨"LiquidCheckerModel", "noPlace", "(II)Z"⟩, 29) := ⟨⟨by decide +kernel, by decide +kernel⟩, List.mem_of_getElem? (i := 588) (by decide +kernel), List.mem_of_getElem? (i := 796) (by decide +kernel), List.mem_of_getElem? (i := 797) (by decide +kernel)⟩
def lw_privs_4 : List (MethodName × Nat) := [(⟨"LiquidCheckerModel", "forget", "(I)V"⟩, 29), (⟨"LiquidCheckerModel", "call", "(II)V"⟩, 29), (⟨"LiquidCheckerModel", "noPlace", "(II)Z"⟩, 29)]
theorem lw_r4 : ∀ q ∈ lw_privs_4, lw_okq q := List.forall_mem_cons.mpr ⟨lw_p48, List.forall_mem_cons.mpr ⟨lw_p49, List.forall_mem_cons.mpr ⟨lw_p50, fun _ h => absurd h List.not_mem_nil⟩⟩⟩
def lw_privs : List (MethodName × Nat) := lw_privs_1 ++ (lw_privs_2 ++ (lw_privs_3 ++ (lw_privs_4)))
def lw_tbl : List Cond := k2_sels lw_privs ++ tables_1
theorem lw_privs_ok : ∀ q ∈ lw_privs, lw_okq q := by
  show ∀ q ∈ lw_privs_1 ++ (lw_privs_2 ++ (lw_privs_3 ++ (lw_privs_4))), lw_okq q
  exact List.forall_mem_append.mpr ⟨lw_r1, List.forall_mem_append.mpr ⟨lw_r2, List.forall_mem_append.mpr ⟨lw_r3, lw_r4⟩⟩⟩
end
section
/-! ===== BEGIN words of one list among another's, by their places ===== -/
theorem goodIn_r {big : List Cond} (ws : List Cond) (ps : List Nat) (hp : ws = ps.filterMap (fun i => big[i]?)) (h : ws.all goodWord = true) : GoodIn big ws := by
  intro w hw
  have h1 := List.all_eq_true.mp h w hw
  rw [hp] at hw
  obtain ⟨i, -, hi⟩ := List.mem_filterMap.mp hw
  have hm : w ∈ big := by first | exact List.mem_of_getElem? hi | exact List.getElem?_mem hi
  exact ⟨hm, good_of_word h1⟩
theorem goodIn_app {big a b : List Cond} (ha : GoodIn big a) (hb : GoodIn big b) : GoodIn big (a ++ b) := fun w h => (List.mem_append.mp h).elim (ha w) (hb w)
theorem goodIn_ca {big a b : List Cond} {c : Cond} (ha : GoodIn big (c :: a)) (hb : GoodIn big b) : GoodIn big (c :: (a ++ b)) := fun w h => (List.mem_cons.mp h).elim (fun e => ha w (List.mem_cons.mpr (Or.inl e))) (fun h => (List.mem_append.mp h).elim (fun h => ha w (List.mem_cons.mpr (Or.inr h))) (hb w))
theorem goodIn_sub {big ws : List Cond} (hm : ∀ w ∈ ws, w ∈ big) (h : ws.all goodWord = true) : GoodIn big ws := fun w hw => ⟨hm w hw, good_of_word (List.all_eq_true.mp h w hw)⟩
/-! ===== END ===== -/

/-! ===== BEGIN exceptions that leave a method, and their catching by the caller (launches without stack traces) ===== -/
section VXA
/-! The laws vx_back, vx_callV, vx_callS, vx_callSW, vx_throw0, vx_throwS follow proofs of the library, with one case more: JvmDerived/Free/Laws.lean (Back.of_free), Shelf42/LK1.lean (callV, callS), Shelf/KitTraced.lean (throwNew0V, throwNewS). -/
/-- where a method has thrown q: the class by its name, the cell, what was written, the world -/
def vx_T (XC : String → State → State → Prop) (st : State) (q : Addr) (t : State) (mc ms : Nat) (free : Addr → Prop) : Prop :=
  ∃ (E : String) (ce : Cell) (L : List Loc), XC E st t ∧ t.heap[q]? = some ce ∧ ce.vm = .none ∧ st.vm.findClass E = some ce.cls ∧ st.WarmedH t.vm ∧ st.sameButNew ({ t with vm := st.vm } : State) L mc ms ∧ ∀ z ∈ L, free z.base
def vx_Q (Qc : Array Value → State → Outcome → State → Prop) (XC : String → State → State → Prop) (mc ms : Nat) (free : Addr → Prop) : Array Value → State → Outcome → State → Prop := fun a st o t =>
  (Qc a st o t ∧ ∃ L, FrameEnd st o t L mc ms ∧ ∀ q ∈ L, free q.base) ∨ ∃ q, o = .threw q ∧ vx_T XC st q t mc ms free
/-- a callee that returns or throws -/
def vx_Met (l : Launch) (y : MethodName) (ws : List Cond) (rm : Room) (Pc : Array Value → State → Prop) (Qc : Array Value → State → Outcome → State → Prop) (XC : String → State → State → Prop) (mc ms : Nat) (free : Addr → Prop) : Prop :=
  MetFree l y (headSpec ws rm) Pc (fun _ _ _ _ _ => True) (vx_Q Qc XC mc ms free)
def vx_Post (XC : String → State → State → Prop) (mc ms : Nat) (free : Addr → Prop) : Pt → Array Value → Addr → Pt → Prop := fun A a q B =>
  ∃ (g : JFrame) (mk : MethodId) (t : State) (L : List Loc) (E : String) (ce : Cell), B.U.heap = t.heap ∧ B.U.vm = t.vm ∧ XC E (A.U.calling g mk a) t ∧ t.heap[q]? = some ce ∧ ce.vm = .none ∧ A.U.vm.findClass E = some ce.cls ∧ B.locs = A.locs ++ L ∧ (∀ z ∈ L, free z.base) ∧ B.cells = A.cells + mc ∧ B.slots = A.slots + ms
def vx_Back (l : Launch) (R : Room) (p : Program) (e : Env) (below : List Frame) (s : State) (sargs : Array Value) (y : MethodName) (len W9 : Nat)
    (Pre : Pt → Array Value → Prop) (Post : Pt → Array Value → Option Value → Pt → Prop) (PostX : Pt → Array Value → Addr → Pt → Prop) : Prop :=
  ∀ (m : MethodId) (meth : Method) (c : Code) (A : Pt) (g : JFrame) (ig : Instr) (mk : MethodId) (a : Array Value),
    Stand p l e R s m sargs below meth c A.U A.locs A.cells A.slots → g.method = m → g.locals.size = c.maxLocals → decode c.code g.pc = .ok (ig, len) →
    2 * g.monitorRoom + (g.stack.map fun v => v.category).sum ≤ W9 → A.U.methodNamed? y = some mk → Pre A a →
    (∃ (v : Option Value) (B : Pt), Stand p l e R s m sargs below meth c B.U B.locs B.cells B.slots ∧ Post A a v B ∧
      Steps p.tables e below (doInvoke e (A.U.setTop g) [] mk a).1 (B.U.setTop { g with pc := g.pc + len, stack := v.toList ++ g.stack })) ∨
    (∃ (q : Addr) (B : Pt), Stand p l e R s m sargs below meth c B.U B.locs B.cells B.slots ∧ PostX A a q B ∧
      Steps p.tables e below (doInvoke e (A.U.setTop g) [] mk a).1 ((B.U.setTop g).pushFrame (.throwing q)))
section Payer
variable {l : Launch} {R : Room} {p : Program} {e : Env} {below : List Frame} {s : State} {sargs : Array Value} {y : MethodName} {len W9 : Nat}
theorem vx_back {ws : List Cond} {rm : Room} {Pc : Array Value → State → Prop} {Qc : Array Value → State → Outcome → State → Prop} {XC : String → State → State → Prop} {mc ms : Nat} {free : Addr → Prop} {bytes : ByteArray} {maxL : Nat} {ret : Option FieldType}
    (hM : vx_Met l y ws rm Pc Qc XC mc ms free) (hblind : FrameBlind Pc) (hrc : rm.cells = mc) (hrs : rm.slots = ms)
    (hframes : rm.frames + 1 ≤ R.frames) (hlocals : W9 + (maxL + 11) + rm.locals ≤ R.locals)
    (hws : ∀ w ∈ ws, ∀ a' U, s.WarmedH U.vm → w.before a' U = true) (hcode : Cond.code y bytes maxL ret ∈ ws) (hinit : ∀ a' U, s.WarmedH U.vm → (Cond.initialized y.cls).before a' U = true) :
    vx_Back l R p e below s sargs y len W9 (PreOf R mc ms Pc) (PostOf Qc mc ms free) (vx_Post XC mc ms free) := by
  intro m meth c A g ig mk a X hg hsize hdg hW hn hp
  have h1 : (headSpec ws rm).pre.before a A.U = true := atoms_intro fun w hw => hws w hw _ _ X.warmed
  have h2 : (Cond.code y bytes maxL ret).before a A.U = true := hws _ hcode _ _ X.warmed
  have h3 : (Cond.initialized y.cls).before a A.U = true := hinit _ _ X.warmed
  have h4 : A.cells + (headSpec ws rm).room.cells ≤ R.cells := by rw [show (headSpec ws rm).room.cells = mc from hrc]; exact hp.1
  have h5 : A.slots + (headSpec ws rm).room.slots ≤ R.slots := by rw [show (headSpec ws rm).room.slots = ms from hrs]; exact hp.2.1
  have hPc : Pc a (A.U.calling g mk a) := hblind _ _ _ _ hp.2.2
  obtain ⟨U, Ls, c0, s0⟩ := A
  dsimp only [Pt.U, Pt.locs, Pt.cells, Pt.slots] at h1 h2 h3 h4 h5 X hn hPc ⊢
  obtain ⟨methY, cY, hmY, hcY, -, hlY, -, -, -, -⟩ := Cond.code_spec hn h2
  obtain ⟨kY, hkY, -⟩ := className_of_methodNamed hn
  have hinitY : kY.init = .initialized := Cond.initialized_spec (findClass_of_methodNamed hn) hkY h3
  have h : At U g.method c below := by rw [hg]; exact X.here
  have hlocals9 : W9 + (maxL + 11) + (headSpec ws rm).room.locals ≤ R.locals := hlocals
  have happ : (headSpec ws rm).appliesLoose y e.platform (U.calling g mk a) = true :=
    Spec.appliesLoose_calling (g := g) h hdg hn hkY hinitY
      (X.room_calling (g := g) (R' := (headSpec ws rm).room) hsize hmY hcY hframes (by rw [hlY]; omega) h4 h5) h1
  obtain ⟨mid, hmid⟩ := h.above
  have hfr : (U.setTop g).frames = (.java g :: mid) ++ below := by rw [State.frames_setTop' g h.top, hmid]; rfl
  obtain ⟨o, s₂, hsteps, -, hend, hq⟩ := Steps.callFree hM p X.admits X.cas X.clock (acts := []) hfr happ hPc trivial
  have hq' : vx_Q Qc XC mc ms free a (U.calling g mk a) o s₂ := hq
  rw [State.frames_setTop' g h.top] at hend
  obtain ⟨g₀, hg0⟩ := Option.isSome_iff_exists.mp h.top
  obtain ⟨r, hr⟩ := State.topJava?_eq_some.mp hg0
  have hr' : (({ U with heap := s₂.heap, slotsUsed := s₂.slotsUsed } : State).setVm s₂.vm).frames = .java g₀ :: r := hr
  rcases hq' with ⟨hqc, L, hfe, hL⟩ | ⟨q, rfl, E, ce, L, hx, hce, hcv, hcl, hW₂, hsm, hL⟩
  · obtain ⟨⟨v, rfl⟩, hW₂, e2, q2, q3, q4, q5, q6⟩ := id hfe
    have e3 : s₂ = ({ (U.calling g mk a).setFrames s₂.frames with heap := s₂.heap, slotsUsed := s₂.slotsUsed } : State).setVm s₂.vm := by
      have : s₂ = ({ s₂ with vm := (U.calling g mk a).vm } : State).setVm s₂.vm := rfl
      rw [e2] at this
      exact this
    obtain ⟨c₂, i₂, len₂, hc₂, hd₂, hf₂⟩ := hend
    have hW' : U.WarmedH s₂.vm := hW₂
    have hcc : c₂ = c := by
      have h1 : s₂.code? g.method = U.code? g.method := by
        rw [State.code?_eq, State.code?_eq, hW'.alike.method?]
      exact Option.some.inj (hc₂.symm.trans (h1.trans h.code))
    subst hcc
    have hlen : len₂ = len := by rw [hdg] at hd₂; cases hd₂; rfl
    subst hlen
    have hs₂ : s₂ = (({ U with heap := s₂.heap, slotsUsed := s₂.slotsUsed } : State).setVm s₂.vm).setTop { g with pc := g.pc + len₂, stack := v.toList ++ g.stack } := by
      refine e3.trans ?_
      rw [hf₂, State.calling_eq h.top, State.setFrames_setFrames, State.setTop_of_frames _ hr', hr]
      rfl
    have hsame : U.sameButNew ({ U with heap := s₂.heap, slotsUsed := s₂.slotsUsed } : State) L mc ms := by
      refine ⟨?_, q2, q3, q4, q5, q6⟩
      obtain ⟨t, ht, -⟩ := State.frames_cons hr
      show ({ U with heap := s₂.heap, slotsUsed := s₂.slotsUsed } : State) = { U.setFrames U.frames with heap := s₂.heap, slotsUsed := s₂.slotsUsed }
      rw [State.setFrames_self ht]
    subst hg
    refine Or.inl ⟨v, ⟨(({ U with heap := s₂.heap, slotsUsed := s₂.slotsUsed } : State).setVm s₂.vm), Ls ++ L, c0 + mc, s0 + ms⟩,
      ⟨X.admits, X.cas, X.clock, X.frames, X.room, X.hears, X.method, X.code, (X.here.setHeapUsed s₂.heap s₂.slotsUsed).setVm hW'.alike, X.tail, State.WarmedH.trans X.warmed hW', X.limits, X.bytes, X.same.trans (hsame.setVm s.vm)⟩,
      ⟨g, mk, s₂, L, rfl, rfl, hqc, rfl, hL, rfl, rfl⟩, ?_⟩
    show Steps p.tables e below _ ((({ U with heap := s₂.heap, slotsUsed := s₂.slotsUsed } : State).setVm s₂.vm).setTop { g with pc := g.pc + len₂, stack := v.toList ++ g.stack })
    rw [← hs₂]
    exact hsteps
  · obtain ⟨e2, q2, q3, q4, q5, q6⟩ := id hsm
    have e3 : s₂ = ({ (U.calling g mk a).setFrames s₂.frames with heap := s₂.heap, slotsUsed := s₂.slotsUsed } : State).setVm s₂.vm := by
      have : s₂ = ({ s₂ with vm := (U.calling g mk a).vm } : State).setVm s₂.vm := rfl
      rw [e2] at this
      exact this
    have hf₂ : s₂.frames = .throwing q :: .java g :: U.frames.tail := hend
    have hW' : U.WarmedH s₂.vm := hW₂
    have hs₂ : s₂ = ((({ U with heap := s₂.heap, slotsUsed := s₂.slotsUsed } : State).setVm s₂.vm).setTop g).pushFrame (.throwing q) := by
      refine e3.trans ?_
      rw [hf₂, State.calling_eq h.top, State.setFrames_setFrames, State.pushFrame, State.frames_setTop _ hr', State.setTop_of_frames _ hr', State.setFrames_setFrames, hr]
      rfl
    have hsame : U.sameButNew ({ U with heap := s₂.heap, slotsUsed := s₂.slotsUsed } : State) L mc ms := by
      refine ⟨?_, q2, q3, q4, q5, q6⟩
      obtain ⟨t, ht, -⟩ := State.frames_cons hr
      show ({ U with heap := s₂.heap, slotsUsed := s₂.slotsUsed } : State) = { U.setFrames U.frames with heap := s₂.heap, slotsUsed := s₂.slotsUsed }
      rw [State.setFrames_self ht]
    subst hg
    refine Or.inr ⟨q, ⟨(({ U with heap := s₂.heap, slotsUsed := s₂.slotsUsed } : State).setVm s₂.vm), Ls ++ L, c0 + mc, s0 + ms⟩,
      ⟨X.admits, X.cas, X.clock, X.frames, X.room, X.hears, X.method, X.code, (X.here.setHeapUsed s₂.heap s₂.slotsUsed).setVm hW'.alike, X.tail, State.WarmedH.trans X.warmed hW', X.limits, X.bytes, X.same.trans (hsame.setVm s.vm)⟩,
      ⟨g, mk, s₂, L, E, ce, rfl, rfl, hx, hce, hcv, hcl, rfl, hL, rfl, rfl⟩, ?_⟩
    show Steps p.tables e below _ (((({ U with heap := s₂.heap, slotsUsed := s₂.slotsUsed } : State).setVm s₂.vm).setTop g).pushFrame (.throwing q))
    rw [← hs₂]
    exact hsteps
end Payer
section Calls
variable {p : Program} {l : Launch} {e : Env} {R : Room} {s : State} {m : MethodId} {args : Array Value} {below : List Frame} {meth : Method} {c : Code} {T : State} {locs : List Loc} {cells slots : Nat}
theorem vx_callV (X : Stand p l e R s m args below meth c T locs cells slots) (hexec : p.tables.exec = Jvm.exec) {own C : String} {index : Nat} {y : MethodName} {bytes : ByteArray} {maxL : Nat} {ret : Option FieldType}
    (hown : s.vm.findClass own = some m.cls) (hlink : (Cond.methodLink own index y).before args s = true) (hinst : (Cond.instanceMethod y).before args s = true) (hsel : (Cond.selects C y y).before args s = true)
    (hcode : (Cond.code y bytes maxL ret).before args s = true) (hy : y.cls ≠ "java/lang/invoke/MethodHandle" ∧ y.cls ≠ "java/lang/invoke/VarHandle")
    {W9 : Nat} {Pre : Pt → Array Value → Prop} {Post : Pt → Array Value → Option Value → Pt → Prop} {PostX : Pt → Array Value → Addr → Pt → Prop} (hK : vx_Back l R p e below s args y 3 W9 Pre Post PostX)
    {b : Addr} {cellB : Cell} (hcell : T.heap[b]? = some cellB) (hobj : cellB.vm.isStatics = false) (hcls : s.vm.findClass C = some cellB.cls)
    {g : JFrame} (hg : g.method = m) (hsize : g.locals.size = c.maxLocals) {argsL rest : List Value} (hlen : ∀ sig, parseMethodDescriptor y.desc = some sig → argsL.length = sig.parameters.length)
    (hstack : g.stack = argsL.reverse ++ .ref b :: rest) (hW : 2 * g.monitorRoom + (rest.map fun v => v.category).sum ≤ W9) (hdg : decode c.code g.pc = .ok (.invokevirtual index, 3))
    (hpre : ∀ vm₁, s.WarmedH vm₁ → Pre ⟨T.setVm vm₁, locs, cells, slots⟩ (Value.ref b :: argsL).toArray) :
    (∃ (v : Option Value) (vm₁ : Vm) (B : Pt), s.WarmedH vm₁ ∧ Stand p l e R s m args below meth c B.U B.locs B.cells B.slots ∧ Post ⟨T.setVm vm₁, locs, cells, slots⟩ (Value.ref b :: argsL).toArray v B ∧
      ∀ target, Steps p.tables e below (B.U.setTop { g with pc := g.pc + 3, stack := v.toList ++ rest }) target → Steps p.tables e below (T.setTop g) target) ∨
    (∃ (q : Addr) (vm₁ : Vm) (B : Pt), s.WarmedH vm₁ ∧ Stand p l e R s m args below meth c B.U B.locs B.cells B.slots ∧ PostX ⟨T.setVm vm₁, locs, cells, slots⟩ (Value.ref b :: argsL).toArray q B ∧
      Steps p.tables e below (T.setTop g) ((B.U.setTop { g with stack := rest }).pushFrame (.throwing q))) := by
  obtain ⟨mk, methM, hnamed, hmethM, hstM, habM⟩ := Cond.instanceMethod_spec hinst
  obtain ⟨methM', cM, hmethM', -, -, -, -, -, -, hsigM⟩ := Cond.code_spec hnamed hcode
  cases hmethM.symm.trans hmethM'
  obtain ⟨c2, r2, m2, q1, q2, q3, q4, kP, hkP, hkPi⟩ := Cond.selects_spec hsel
  cases hcls.symm.trans q1
  cases (State.methodFound?_of_named hnamed hy).symm.trans q2
  cases hnamed.symm.trans q3
  have hselP : selectMethod e.platform s.vm cellB.cls mk = .method mk := by rw [Launch.admits_selectMethod X.admits]; exact q4
  obtain ⟨vm₁, X₁, hstep₁⟩ := X.invokevirtual hexec hown hlink hnamed hmethM hstM hkP hkPi hy (a := b) (cell := cellB) hcell
    (fun z h => by rw [h] at hobj; cases hobj) hselP hmethM habM hkP hkPi (g := g) hg (argsL := argsL) (rest := rest) (hlen _ hsigM) hstack hdg
  rcases hK m meth c ⟨T.setVm vm₁, locs, cells, slots⟩ { g with stack := rest } (.invokevirtual index) mk (Value.ref b :: argsL).toArray X₁ hg hsize hdg hW (X₁.named hnamed) (hpre vm₁ X₁.warmed) with ⟨v, B, X', hpost, hsteps⟩ | ⟨q, B, X', hpost, hsteps⟩
  · exact Or.inl ⟨v, vm₁, B, X₁.warmed, X', hpost, fun target h => hstep₁ _ fun acts => by rw [doInvoke_state]; exact hsteps.trans h⟩
  · exact Or.inr ⟨q, vm₁, B, X₁.warmed, X', hpost, hstep₁ _ fun acts => by rw [doInvoke_state]; exact hsteps⟩
theorem vx_callS (X : Stand p l e R s m args below meth c T locs cells slots) (hexec : p.tables.exec = Jvm.exec) {own : String} {index : Nat} {y : MethodName} {bytes : ByteArray} {maxL : Nat} {ret : Option FieldType}
    (hown : s.vm.findClass own = some m.cls) (hlink : (Cond.methodLink own index y).before args s = true) (hstat : (Cond.static y).before args s = true) (hinit : (Cond.initialized y.cls).before args s = true)
    (hcode : (Cond.code y bytes maxL ret).before args s = true) (hy : y.cls ≠ "java/lang/invoke/MethodHandle" ∧ y.cls ≠ "java/lang/invoke/VarHandle")
    {W9 : Nat} {Pre : Pt → Array Value → Prop} {Post : Pt → Array Value → Option Value → Pt → Prop} {PostX : Pt → Array Value → Addr → Pt → Prop} (hK : vx_Back l R p e below s args y 3 W9 Pre Post PostX)
    {g : JFrame} (hg : g.method = m) (hsize : g.locals.size = c.maxLocals) {argsL rest : List Value} (hlen : ∀ sig, parseMethodDescriptor y.desc = some sig → argsL.length = sig.parameters.length)
    (hstack : g.stack = argsL.reverse ++ rest) (hW : 2 * g.monitorRoom + (rest.map fun v => v.category).sum ≤ W9) (hdg : decode c.code g.pc = .ok (.invokestatic index, 3))
    (hpre : ∀ vm₁, s.WarmedH vm₁ → Pre ⟨T.setVm vm₁, locs, cells, slots⟩ argsL.toArray) :
    (∃ (v : Option Value) (vm₁ : Vm) (B : Pt), s.WarmedH vm₁ ∧ Stand p l e R s m args below meth c B.U B.locs B.cells B.slots ∧ Post ⟨T.setVm vm₁, locs, cells, slots⟩ argsL.toArray v B ∧
      ∀ target, Steps p.tables e below (B.U.setTop { g with pc := g.pc + 3, stack := v.toList ++ rest }) target → Steps p.tables e below (T.setTop g) target) ∨
    (∃ (q : Addr) (vm₁ : Vm) (B : Pt), s.WarmedH vm₁ ∧ Stand p l e R s m args below meth c B.U B.locs B.cells B.slots ∧ PostX ⟨T.setVm vm₁, locs, cells, slots⟩ argsL.toArray q B ∧
      Steps p.tables e below (T.setTop g) ((B.U.setTop { g with stack := rest }).pushFrame (.throwing q))) := by
  obtain ⟨mk, hnamed⟩ := Cond.code_named hcode
  obtain ⟨methM, cM, hmethM, -, -, -, -, -, -, hsigM⟩ := Cond.code_spec hnamed hcode
  have hstatic : methM.isStatic = true := Cond.static_spec hnamed hmethM hstat
  obtain ⟨kP, hkP, -⟩ := className_of_methodNamed hnamed
  have hinitP : kP.init = .initialized := Cond.initialized_spec (findClass_of_methodNamed hnamed) hkP hinit
  obtain ⟨vm₁, X₁, hstep₁⟩ := X.invokestatic hexec hown hlink hnamed hmethM hstatic hkP hinitP hy (g := g) hg (argsL := argsL) (rest := rest) (hlen _ hsigM) hstack hdg
  rcases hK m meth c ⟨T.setVm vm₁, locs, cells, slots⟩ { g with stack := rest } (.invokestatic index) mk argsL.toArray X₁ hg hsize hdg hW (X₁.named hnamed) (hpre vm₁ X₁.warmed) with ⟨v, B, X', hpost, hsteps⟩ | ⟨q, B, X', hpost, hsteps⟩
  · exact Or.inl ⟨v, vm₁, B, X₁.warmed, X', hpost, fun target h => hstep₁ _ fun acts => by rw [doInvoke_state]; exact hsteps.trans h⟩
  · exact Or.inr ⟨q, vm₁, B, X₁.warmed, X', hpost, hstep₁ _ fun acts => by rw [doInvoke_state]; exact hsteps⟩
end Calls
theorem vx_cls {s : State} {T : State} {vm₁ : Vm} {E : String} {k : ClassId} (hW : s.WarmedH vm₁) (h : (T.setVm vm₁).vm.findClass E = some k) : s.vm.findClass E = some k := by
  have h1 : vm₁.findClass E = some k := h
  rw [hW.alike.findClass] at h1
  exact h1
/-- the method's frame g, with q thrown over it -/
def vx_W (p : Program) (l : Launch) (e : Env) (R : Room) (s : State) (m : MethodId) (args : Array Value) (below : List Frame) (meth : Method) (c : Code) (H : Heap) (locs : List Loc) (cells slots : Nat) (Q : State → Prop) (g : JFrame) (q : Addr) : Prop :=
  ∀ T : State, T.heap = H → Stand p l e R s m args below meth c T locs cells slots → ∃ t, Steps p.tables e below ((T.setTop g).pushFrame (.throwing q)) t ∧ Q t
def vx_Run (p : Program) (l : Launch) (e : Env) (R : Room) (s : State) (m : MethodId) (args : Array Value) (below : List Frame) (meth : Method) (c : Code) (H : Heap) (locs : List Loc) (cells slots mc ms : Nat) (g : JFrame) (rest : List Value) (Qa : State → Outcome → State → Prop) (XC : String → State → State → Prop) (free : Addr → Prop) : Prop :=
  ∀ T : State, T.heap = H → Stand p l e R s m args below meth c T locs cells slots →
    (∃ (v : Option Value) (st₀ t T' : State) (L : List Loc), st₀.heap = H ∧ Stand p l e R s m args below meth c T' (locs ++ L) (cells + mc) (slots + ms) ∧ (∀ q ∈ L, free q.base) ∧ T'.heap = t.heap ∧ T'.vm = t.vm ∧ Qa st₀ (.returned v) t ∧
      Goes p e below T g T' { g with pc := g.pc + 3, stack := v.toList ++ rest }) ∨
    (∃ (q : Addr) (st₀ t T' : State) (L : List Loc) (E : String) (ce : Cell), st₀.heap = H ∧ Stand p l e R s m args below meth c T' (locs ++ L) (cells + mc) (slots + ms) ∧ (∀ z ∈ L, free z.base) ∧ T'.heap = t.heap ∧ T'.vm = t.vm ∧ XC E st₀ t ∧ t.heap[q]? = some ce ∧ ce.vm = .none ∧ s.vm.findClass E = some ce.cls ∧
      Steps p.tables e below (T.setTop g) ((T'.setTop { g with stack := rest }).pushFrame (.throwing q)))
def vx_X {S : Type} (px : S → Prop) (B : String → S → State → Prop) (A : Nat → Prop) : String → State → State → Prop := fun E st t => ∃ u : S, px u ∧ B E u t ∧ va_F A st t
section Runs
variable {p : Program} {l : Launch} {e : Env} {R : Room} {s : State} {m : MethodId} {args : Array Value} {below : List Frame} {meth : Method} {c : Code} {H : Heap} {locs : List Loc} {cells slots : Nat}
variable {y : MethodName} {bytes cc : ByteArray} {maxL nL mc ms n index : Nat} {ret : Option FieldType} {ws : List Cond} {rm : Room} {Pc : Array Value → State → Prop} {Qc : Array Value → State → Outcome → State → Prop} {XC : String → State → State → Prop} {free : Addr → Prop} {Ts : List Cond} {own C : String} {b : Addr} {As rest : List Value} {g : JFrame}
theorem vx_callBack (cb : CallB R s args own index y bytes maxL ret ws rm mc ms n) (hM : vx_Met l y ws rm Pc Qc XC mc ms free) (hbl : FrameBlind Pc) : vx_Back l R p e below s args y 3 8 (PreOf R mc ms Pc) (PostOf Qc mc ms free) (vx_Post XC mc ms free) := by
  obtain ⟨hrc, hrs, hfr, hlo, hws, hcw, -, hini, -⟩ := cb
  exact vx_back (bytes := bytes) (maxL := maxL) (ret := ret) hM hbl hrc hrs hfr hlo hws hcw (fun a' U hW => word_at hW (Or.inl (by first | rfl | simp [Cond.onTables, Cond.keeps, Cond.steady])) hini)
theorem vx_runV (S : CallFix p m c cc nL s args Ts own) (hM : vx_Met l y ws rm Pc Qc XC mc ms free) (cw : CallW R s args own C index y bytes maxL ret ws rm mc ms n) (hp : PreV s H C b Pc As)
    (hg : g.method = m) (hn : As.length = n) (hsize : g.locals.size = nL) (hstack : g.stack = As.reverse ++ .ref b :: rest) (hW : 2 * g.monitorRoom + (rest.map fun v => v.category).sum ≤ 8) (hdg : decode cc g.pc = .ok (.invokevirtual index, 3)) (hf : cells + mc ≤ R.cells ∧ slots + ms ≤ R.slots) :
    vx_Run p l e R s m args below meth c H locs cells slots mc ms g rest (Qc (Value.ref b :: As).toArray) XC free := by
  have hK : vx_Back l R p e below s args y 3 8 (PreOf R mc ms Pc) (PostOf Qc mc ms free) (vx_Post XC mc ms free) := vx_callBack cw.1 hM hp.1
  obtain ⟨⟨-, -, -, -, -, -, hcode, -, hy, hlen, hl⟩, hin, hse⟩ := cw
  obtain ⟨hx, hb, hml, ho, -⟩ := S
  obtain ⟨-, ⟨cellB, hcB, hoB, hclB⟩, hPc⟩ := hp
  intro T hT X
  rcases vx_callV X hx (C := C) (bytes := bytes) (maxL := maxL) (ret := ret) ho hl hin hse hcode hy hK (by rw [hT]; exact hcB) hoB hclB hg (hsize.trans hml.symm) (argsL := As) (rest := rest) (fun sig h => hn.trans (hlen sig h)) hstack hW (by rw [hb]; exact hdg)
    (fun vm₁ hW₁ => ⟨hf.1, hf.2, hPc (T.setVm vm₁) hT hW₁⟩) with ⟨v, vm₁, ⟨U', l2, c2, s2⟩, hW₁, X', ⟨g', mk, t, L, e1, e2, hq, h1, hL, h2, h3⟩, st⟩ | ⟨q, vm₁, ⟨U', l2, c2, s2⟩, hW₁, X', ⟨g', mk, t, L, E, ce, e1, e2, hq, hce, hcv, hcl, h1, hL, h2, h3⟩, st⟩
  · dsimp only [Pt.U, Pt.locs, Pt.cells, Pt.slots] at X' e1 e2 h1 h2 h3 st
    subst h1; subst h2; subst h3
    exact Or.inl ⟨v, (T.setVm vm₁).calling g' mk (Value.ref b :: As).toArray, t, U', L, hT, X', hL, e1, e2, hq, st⟩
  · dsimp only [Pt.U, Pt.locs, Pt.cells, Pt.slots] at X' e1 e2 h1 h2 h3 st hcl
    subst h1; subst h2; subst h3
    exact Or.inr ⟨q, (T.setVm vm₁).calling g' mk (Value.ref b :: As).toArray, t, U', L, E, ce, hT, X', hL, e1, e2, hq, hce, hcv, vx_cls hW₁ hcl, st⟩
theorem vx_runS (S : CallFix p m c cc nL s args Ts own) (hM : vx_Met l y ws rm Pc Qc XC mc ms free) (cw : CallB R s args own index y bytes maxL ret ws rm mc ms n ∧ (Cond.static y).before args s = true) (hp : PreS s H Pc As)
    (hg : g.method = m) (hn : As.length = n) (hsize : g.locals.size = nL) (hstack : g.stack = As.reverse ++ rest) (hW : 2 * g.monitorRoom + (rest.map fun v => v.category).sum ≤ 8) (hdg : decode cc g.pc = .ok (.invokestatic index, 3)) (hf : cells + mc ≤ R.cells ∧ slots + ms ≤ R.slots) :
    vx_Run p l e R s m args below meth c H locs cells slots mc ms g rest (Qc As.toArray) XC free := by
  have hK : vx_Back l R p e below s args y 3 8 (PreOf R mc ms Pc) (PostOf Qc mc ms free) (vx_Post XC mc ms free) := vx_callBack cw.1 hM hp.1
  obtain ⟨⟨-, -, -, -, -, -, hcode, hini, hy, hlen, hl⟩, hstt⟩ := cw
  obtain ⟨hx, hb, hml, ho, -⟩ := S
  intro T hT X
  rcases vx_callS X hx (bytes := bytes) (maxL := maxL) (ret := ret) ho hl hstt hini hcode hy hK hg (hsize.trans hml.symm) (argsL := As) (rest := rest) (fun sig h => hn.trans (hlen sig h)) hstack hW (by rw [hb]; exact hdg)
    (fun vm₁ hW₁ => ⟨hf.1, hf.2, hp.2 (T.setVm vm₁) hT hW₁⟩) with ⟨v, vm₁, ⟨U', l2, c2, s2⟩, hW₁, X', ⟨g', mk, t, L, e1, e2, hq, h1, hL, h2, h3⟩, st⟩ | ⟨q, vm₁, ⟨U', l2, c2, s2⟩, hW₁, X', ⟨g', mk, t, L, E, ce, e1, e2, hq, hce, hcv, hcl, h1, hL, h2, h3⟩, st⟩
  · dsimp only [Pt.U, Pt.locs, Pt.cells, Pt.slots] at X' e1 e2 h1 h2 h3 st
    subst h1; subst h2; subst h3
    exact Or.inl ⟨v, (T.setVm vm₁).calling g' mk As.toArray, t, U', L, hT, X', hL, e1, e2, hq, st⟩
  · dsimp only [Pt.U, Pt.locs, Pt.cells, Pt.slots] at X' e1 e2 h1 h2 h3 st hcl
    subst h1; subst h2; subst h3
    exact Or.inr ⟨q, (T.setVm vm₁).calling g' mk As.toArray, t, U', L, E, ce, hT, X', hL, e1, e2, hq, hce, hcv, vx_cls hW₁ hcl, st⟩
end Runs
section Rows
variable {p : Program} {l : Launch} {e : Env} {R : Room} {s : State} {m : MethodId} {args : Array Value} {below : List Frame} {meth : Method} {c : Code} {H : Heap} {locs : List Loc} {cells slots : Nat} {Q : State → Prop}
variable {mc ms : Nat} {free : Addr → Prop} {A0 A1 : Nat → Prop} {H0 : Heap} {a : Array Value} {pc : Nat} {ls : Array Slot} {st0 rest : List Value}
theorem vx_keep {st₀ t T' : State} {L : List Loc} (h0 : st₀.heap = H) (e1 : T'.heap = t.heap) (hS : va_S A0 H0 H locs) (hA : ∀ q, q < H.size → A1 q → A0 q) (hf : ∀ q, free q → A0 q) (hL : ∀ q ∈ L, free q.base) (hF : va_F A1 st₀ t) :
    H.size ≤ T'.heap.size ∧ (∀ q : Nat, q < H.size → ¬ A1 q → T'.heap[q]? = H[q]?) ∧ va_S A0 H0 T'.heap (locs ++ L) := by
  obtain ⟨hz, hk⟩ := hF
  rw [h0] at hz hk
  exact ⟨by rw [e1]; exact hz, fun q h1 h2 => by rw [e1]; exact hk q h1 h2,
    ⟨Nat.le_trans hS.1 (by rw [e1]; exact hz), fun q h1 h2 => by rw [e1, hk q (Nat.lt_of_lt_of_le h1 hS.1) (fun z => h2 (hA q (Nat.lt_of_lt_of_le h1 hS.1) z))]; exact hS.2.1 q h1 h2, fun q hq => by
      rcases List.mem_append.mp hq with h | h
      · exact hS.2.2 q h
      · exact hf _ (hL q h)⟩⟩
theorem vx_calli {S SX : Type} {post : Int32 → S → Prop} {px : SX → Prop} {B : S → State → Prop} {BX : String → SX → State → Prop} {AX : Nat → Prop} (hr : vx_Run p l e R s m args below meth c H locs cells slots mc ms (F0 m pc ls st0) rest (va_Qi post B A1 a) (vx_X px BX AX) free) (hS : va_S A0 H0 H locs) (hA : ∀ q, q < H.size → A1 q → A0 q) (hf : ∀ q, free q → A0 q) (hAX : ∀ q, q < H.size → AX q → A0 q)
    (kx : ∀ (E : String) (ce : Cell) (q9 : Addr) (u : SX) (t : State) (H1 : Heap) (locs1 : List Loc), t.heap = H1 → s.vm.Alike t.vm → px u → BX E u t → H.size ≤ H1.size → (∀ q : Nat, q < H.size → ¬ AX q → H1[q]? = H[q]?) → va_S A0 H0 H1 locs1 → H1[q9]? = some ce → ce.vm = .none → s.vm.findClass E = some ce.cls → vx_W p l e R s m args below meth c H1 locs1 (cells + mc) (slots + ms) Q (F0 m pc ls rest) q9)
    (kk : ∀ (r : Int32) (u : S) (t : State) (H1 : Heap) (locs1 : List Loc), t.heap = H1 → s.vm.Alike t.vm → post r u → B u t → H.size ≤ H1.size → (∀ q : Nat, q < H.size → ¬ A1 q → H1[q]? = H[q]?) → va_S A0 H0 H1 locs1 → W p l e R s m args below meth c H1 locs1 (cells + mc) (slots + ms) Q (F0 m (pc + 3) ls (.int r :: rest))) : W p l e R s m args below meth c H locs cells slots Q (F0 m pc ls st0) := by
  intro T hT X
  rcases hr T hT X with ⟨v, st₀, t, T', L, h0, X', hL, e1, e2, ⟨⟨r, u, hv, hp, hb⟩, hF⟩, st⟩ | ⟨q, st₀, t, T', L, E, ce, h0, X', hL, e1, e2, ⟨u, hp, hb, hF⟩, hce, hcv, hcl, st⟩
  · cases hv
    obtain ⟨k1, k2, k3⟩ := vx_keep h0 e1 hS hA hf hL hF
    obtain ⟨t2, a1, b1⟩ := kk r u t T'.heap (locs ++ L) e1.symm (by rw [← e2]; exact X'.warmed.alike) hp hb k1 k2 k3 T' rfl X'
    exact ⟨t2, st t2 a1, b1⟩
  · obtain ⟨k1, k2, k3⟩ := vx_keep h0 e1 hS hAX hf hL hF
    obtain ⟨t2, a1, b1⟩ := kx E ce q u t T'.heap (locs ++ L) e1.symm (by rw [← e2]; exact X'.warmed.alike) hp hb k1 k2 k3 (by rw [e1]; exact hce) hcv hcl T' rfl X'
    exact ⟨t2, st.trans a1, b1⟩
theorem vx_calll {S SX : Type} {post : Int64 → S → Prop} {px : SX → Prop} {B : S → State → Prop} {BX : String → SX → State → Prop} {AX : Nat → Prop} (hr : vx_Run p l e R s m args below meth c H locs cells slots mc ms (F0 m pc ls st0) rest (va_Ql post B A1 a) (vx_X px BX AX) free) (hS : va_S A0 H0 H locs) (hA : ∀ q, q < H.size → A1 q → A0 q) (hf : ∀ q, free q → A0 q) (hAX : ∀ q, q < H.size → AX q → A0 q)
    (kx : ∀ (E : String) (ce : Cell) (q9 : Addr) (u : SX) (t : State) (H1 : Heap) (locs1 : List Loc), t.heap = H1 → s.vm.Alike t.vm → px u → BX E u t → H.size ≤ H1.size → (∀ q : Nat, q < H.size → ¬ AX q → H1[q]? = H[q]?) → va_S A0 H0 H1 locs1 → H1[q9]? = some ce → ce.vm = .none → s.vm.findClass E = some ce.cls → vx_W p l e R s m args below meth c H1 locs1 (cells + mc) (slots + ms) Q (F0 m pc ls rest) q9)
    (kk : ∀ (r : Int64) (u : S) (t : State) (H1 : Heap) (locs1 : List Loc), t.heap = H1 → s.vm.Alike t.vm → post r u → B u t → H.size ≤ H1.size → (∀ q : Nat, q < H.size → ¬ A1 q → H1[q]? = H[q]?) → va_S A0 H0 H1 locs1 → W p l e R s m args below meth c H1 locs1 (cells + mc) (slots + ms) Q (F0 m (pc + 3) ls (.long r :: rest))) : W p l e R s m args below meth c H locs cells slots Q (F0 m pc ls st0) := by
  intro T hT X
  rcases hr T hT X with ⟨v, st₀, t, T', L, h0, X', hL, e1, e2, ⟨⟨r, u, hv, hp, hb⟩, hF⟩, st⟩ | ⟨q, st₀, t, T', L, E, ce, h0, X', hL, e1, e2, ⟨u, hp, hb, hF⟩, hce, hcv, hcl, st⟩
  · cases hv
    obtain ⟨k1, k2, k3⟩ := vx_keep h0 e1 hS hA hf hL hF
    obtain ⟨t2, a1, b1⟩ := kk r u t T'.heap (locs ++ L) e1.symm (by rw [← e2]; exact X'.warmed.alike) hp hb k1 k2 k3 T' rfl X'
    exact ⟨t2, st t2 a1, b1⟩
  · obtain ⟨k1, k2, k3⟩ := vx_keep h0 e1 hS hAX hf hL hF
    obtain ⟨t2, a1, b1⟩ := kx E ce q u t T'.heap (locs ++ L) e1.symm (by rw [← e2]; exact X'.warmed.alike) hp hb k1 k2 k3 (by rw [e1]; exact hce) hcv hcl T' rfl X'
    exact ⟨t2, st.trans a1, b1⟩
theorem vx_callf {S SX : Type} {post : UInt32 → S → Prop} {px : SX → Prop} {B : S → State → Prop} {BX : String → SX → State → Prop} {AX : Nat → Prop} (hr : vx_Run p l e R s m args below meth c H locs cells slots mc ms (F0 m pc ls st0) rest (va_Qf post B A1 a) (vx_X px BX AX) free) (hS : va_S A0 H0 H locs) (hA : ∀ q, q < H.size → A1 q → A0 q) (hf : ∀ q, free q → A0 q) (hAX : ∀ q, q < H.size → AX q → A0 q)
    (kx : ∀ (E : String) (ce : Cell) (q9 : Addr) (u : SX) (t : State) (H1 : Heap) (locs1 : List Loc), t.heap = H1 → s.vm.Alike t.vm → px u → BX E u t → H.size ≤ H1.size → (∀ q : Nat, q < H.size → ¬ AX q → H1[q]? = H[q]?) → va_S A0 H0 H1 locs1 → H1[q9]? = some ce → ce.vm = .none → s.vm.findClass E = some ce.cls → vx_W p l e R s m args below meth c H1 locs1 (cells + mc) (slots + ms) Q (F0 m pc ls rest) q9)
    (kk : ∀ (r : UInt32) (u : S) (t : State) (H1 : Heap) (locs1 : List Loc), t.heap = H1 → s.vm.Alike t.vm → post r u → B u t → H.size ≤ H1.size → (∀ q : Nat, q < H.size → ¬ A1 q → H1[q]? = H[q]?) → va_S A0 H0 H1 locs1 → W p l e R s m args below meth c H1 locs1 (cells + mc) (slots + ms) Q (F0 m (pc + 3) ls (.float r :: rest))) : W p l e R s m args below meth c H locs cells slots Q (F0 m pc ls st0) := by
  intro T hT X
  rcases hr T hT X with ⟨v, st₀, t, T', L, h0, X', hL, e1, e2, ⟨⟨r, u, hv, hp, hb⟩, hF⟩, st⟩ | ⟨q, st₀, t, T', L, E, ce, h0, X', hL, e1, e2, ⟨u, hp, hb, hF⟩, hce, hcv, hcl, st⟩
  · cases hv
    obtain ⟨k1, k2, k3⟩ := vx_keep h0 e1 hS hA hf hL hF
    obtain ⟨t2, a1, b1⟩ := kk r u t T'.heap (locs ++ L) e1.symm (by rw [← e2]; exact X'.warmed.alike) hp hb k1 k2 k3 T' rfl X'
    exact ⟨t2, st t2 a1, b1⟩
  · obtain ⟨k1, k2, k3⟩ := vx_keep h0 e1 hS hAX hf hL hF
    obtain ⟨t2, a1, b1⟩ := kx E ce q u t T'.heap (locs ++ L) e1.symm (by rw [← e2]; exact X'.warmed.alike) hp hb k1 k2 k3 (by rw [e1]; exact hce) hcv hcl T' rfl X'
    exact ⟨t2, st.trans a1, b1⟩
theorem vx_calld {S SX : Type} {post : UInt64 → S → Prop} {px : SX → Prop} {B : S → State → Prop} {BX : String → SX → State → Prop} {AX : Nat → Prop} (hr : vx_Run p l e R s m args below meth c H locs cells slots mc ms (F0 m pc ls st0) rest (va_Qd post B A1 a) (vx_X px BX AX) free) (hS : va_S A0 H0 H locs) (hA : ∀ q, q < H.size → A1 q → A0 q) (hf : ∀ q, free q → A0 q) (hAX : ∀ q, q < H.size → AX q → A0 q)
    (kx : ∀ (E : String) (ce : Cell) (q9 : Addr) (u : SX) (t : State) (H1 : Heap) (locs1 : List Loc), t.heap = H1 → s.vm.Alike t.vm → px u → BX E u t → H.size ≤ H1.size → (∀ q : Nat, q < H.size → ¬ AX q → H1[q]? = H[q]?) → va_S A0 H0 H1 locs1 → H1[q9]? = some ce → ce.vm = .none → s.vm.findClass E = some ce.cls → vx_W p l e R s m args below meth c H1 locs1 (cells + mc) (slots + ms) Q (F0 m pc ls rest) q9)
    (kk : ∀ (r : UInt64) (u : S) (t : State) (H1 : Heap) (locs1 : List Loc), t.heap = H1 → s.vm.Alike t.vm → post r u → B u t → H.size ≤ H1.size → (∀ q : Nat, q < H.size → ¬ A1 q → H1[q]? = H[q]?) → va_S A0 H0 H1 locs1 → W p l e R s m args below meth c H1 locs1 (cells + mc) (slots + ms) Q (F0 m (pc + 3) ls (.double r :: rest))) : W p l e R s m args below meth c H locs cells slots Q (F0 m pc ls st0) := by
  intro T hT X
  rcases hr T hT X with ⟨v, st₀, t, T', L, h0, X', hL, e1, e2, ⟨⟨r, u, hv, hp, hb⟩, hF⟩, st⟩ | ⟨q, st₀, t, T', L, E, ce, h0, X', hL, e1, e2, ⟨u, hp, hb, hF⟩, hce, hcv, hcl, st⟩
  · cases hv
    obtain ⟨k1, k2, k3⟩ := vx_keep h0 e1 hS hA hf hL hF
    obtain ⟨t2, a1, b1⟩ := kk r u t T'.heap (locs ++ L) e1.symm (by rw [← e2]; exact X'.warmed.alike) hp hb k1 k2 k3 T' rfl X'
    exact ⟨t2, st t2 a1, b1⟩
  · obtain ⟨k1, k2, k3⟩ := vx_keep h0 e1 hS hAX hf hL hF
    obtain ⟨t2, a1, b1⟩ := kx E ce q u t T'.heap (locs ++ L) e1.symm (by rw [← e2]; exact X'.warmed.alike) hp hb k1 k2 k3 (by rw [e1]; exact hce) hcv hcl T' rfl X'
    exact ⟨t2, st.trans a1, b1⟩
theorem vx_callv {S SX : Type} {post : S → Prop} {px : SX → Prop} {B : S → State → Prop} {BX : String → SX → State → Prop} {AX : Nat → Prop} (hr : vx_Run p l e R s m args below meth c H locs cells slots mc ms (F0 m pc ls st0) rest (va_Qv post B A1 a) (vx_X px BX AX) free) (hS : va_S A0 H0 H locs) (hA : ∀ q, q < H.size → A1 q → A0 q) (hf : ∀ q, free q → A0 q) (hAX : ∀ q, q < H.size → AX q → A0 q)
    (kx : ∀ (E : String) (ce : Cell) (q9 : Addr) (u : SX) (t : State) (H1 : Heap) (locs1 : List Loc), t.heap = H1 → s.vm.Alike t.vm → px u → BX E u t → H.size ≤ H1.size → (∀ q : Nat, q < H.size → ¬ AX q → H1[q]? = H[q]?) → va_S A0 H0 H1 locs1 → H1[q9]? = some ce → ce.vm = .none → s.vm.findClass E = some ce.cls → vx_W p l e R s m args below meth c H1 locs1 (cells + mc) (slots + ms) Q (F0 m pc ls rest) q9)
    (kk : ∀ (u : S) (t : State) (H1 : Heap) (locs1 : List Loc), t.heap = H1 → s.vm.Alike t.vm → post u → B u t → H.size ≤ H1.size → (∀ q : Nat, q < H.size → ¬ A1 q → H1[q]? = H[q]?) → va_S A0 H0 H1 locs1 → W p l e R s m args below meth c H1 locs1 (cells + mc) (slots + ms) Q (F0 m (pc + 3) ls (rest))) : W p l e R s m args below meth c H locs cells slots Q (F0 m pc ls st0) := by
  intro T hT X
  rcases hr T hT X with ⟨v, st₀, t, T', L, h0, X', hL, e1, e2, ⟨⟨u, hv, hp, hb⟩, hF⟩, st⟩ | ⟨q, st₀, t, T', L, E, ce, h0, X', hL, e1, e2, ⟨u, hp, hb, hF⟩, hce, hcv, hcl, st⟩
  · cases hv
    obtain ⟨k1, k2, k3⟩ := vx_keep h0 e1 hS hA hf hL hF
    obtain ⟨t2, a1, b1⟩ := kk u t T'.heap (locs ++ L) e1.symm (by rw [← e2]; exact X'.warmed.alike) hp hb k1 k2 k3 T' rfl X'
    exact ⟨t2, st t2 a1, b1⟩
  · obtain ⟨k1, k2, k3⟩ := vx_keep h0 e1 hS hAX hf hL hF
    obtain ⟨t2, a1, b1⟩ := kx E ce q u t T'.heap (locs ++ L) e1.symm (by rw [← e2]; exact X'.warmed.alike) hp hb k1 k2 k3 (by rw [e1]; exact hce) hcv hcl T' rfl X'
    exact ⟨t2, st.trans a1, b1⟩
/-- caught by the row x of this method's table; the rows ahead don't take it -/
theorem vx_catch {own name : String} {E : String} {ce : Cell} {q : Addr} (hown : s.vm.findClass own = some m.cls) (pre : List ExceptionTableEntry) (x : ExceptionTableEntry) (suf : List ExceptionTableEntry) (hsplit : c.exceptionTable.toList = pre ++ x :: suf)
    (hpass : ∀ z ∈ pre, covers z pc = false ∨ (z.catchType ≠ 0 ∧ ∃ nm : String, (Cond.classLink own z.catchType nm).before args s = true ∧ va_Nc E nm s)) (hx : covers x pc = true) (h0 : x.catchType ≠ 0)
    (hlink : (Cond.classLink own x.catchType name).before args s = true) (hcast : (Cond.castable E name).before args s = true) (hcell : H[q]? = some ce) (hv : ce.vm = .none) (hcl : s.vm.findClass E = some ce.cls)
    (kk : W p l e R s m args below meth c H locs cells slots Q (F0 m x.handlerPc ls [.ref q])) : vx_W p l e R s m args below meth c H locs cells slots Q (F0 m pc ls rest) q := by
  intro T hT X
  have hpl : e.platform.magicAccessors = ({} : Platform).magicAccessors := by rw [X.admits.platform]
  obtain ⟨c3, c4, hc3, hc4, hasg⟩ := Cond.castable_spec hcast
  cases Option.some.inj (hc3.symm.trans hcl)
  obtain ⟨c5, hc5, hcl5⟩ := Cond.classLink_spec hown hlink e.platform hpl
  cases Option.some.inj (hc4.symm.trans hc5)
  obtain ⟨vm', X', st⟩ := X.thenCaughtThrough q (g := F0 m pc ls rest) rfl (Steps.refl _) (by rw [hT]; exact hcell) (by rw [hv]; rfl) (by obtain ⟨k9, h9, -⟩ := Vm.findClass_spec hcl; exact ⟨k9, h9⟩) pre x suf hsplit
    (fun z hz => by
      rcases hpass z hz with h | ⟨hz0, nm, hl1, hn1⟩
      · exact Or.inl h
      · obtain ⟨c6, hc6, hcl6⟩ := Cond.classLink_spec hown hl1 e.platform hpl
        obtain ⟨a8, b8, h1, h2, h3⟩ := hn1
        cases Option.some.inj (h1.symm.trans hcl)
        cases Option.some.inj (h2.symm.trans hc6)
        exact Or.inr ⟨hz0, _, hcl6, h3⟩) hx (Or.inr ⟨h0, c4, hcl5, hasg⟩)
  obtain ⟨t, a1, b1⟩ := kk (T.setVm vm') hT X'
  exact ⟨t, st.trans a1, b1⟩
end Rows
section Ends
variable {p : Program} {l : Launch} {e : Env} {R : Room} {s : State} {m : MethodId} {args : Array Value} {below : List Frame} {meth : Method} {c : Code} {H : Heap} {locs : List Loc} {cells slots : Nat} {Q : State → Prop}
variable {mc ms : Nat} {free : Addr → Prop} {A0 A1 : Nat → Prop} {H0 : Heap} {a : Array Value} {ls : Array Slot} {st0 rest : List Value}
variable {Qc : Array Value → State → Outcome → State → Prop} {XC : String → State → State → Prop}
/-- what a body that may throw owes at its end -/
def vx_MQ (below : List Frame) (Qc : Array Value → State → Outcome → State → Prop) (XC : String → State → State → Prop) (a : Array Value) (s : State) (mc ms : Nat) (free : Addr → Prop) : State → Prop := fun t =>
  ∃ o, t.status = .running ∧ Ended t below o ∧ vx_Q Qc XC mc ms free a s o t
theorem vx_ret {g : JFrame} {mc ms : Nat} (k : W p l e R s m args below meth c H locs cells slots (MQ below Qc args s mc ms free) g) : W p l e R s m args below meth c H locs cells slots (vx_MQ below Qc XC args s mc ms free) g := by
  intro T hT X
  obtain ⟨t, a1, o, b1, b2, b3, b4⟩ := k T hT X
  exact ⟨t, a1, o, b1, b2, Or.inl ⟨b3, b4⟩⟩
/-- not caught here: it goes on to the caller -/
theorem vx_widen {g : JFrame} {q : Addr} {k n : Nat} (h1 : cells ≤ k) (h2 : slots ≤ n) (kk : vx_W p l e R s m args below meth c H locs k n Q g q) : vx_W p l e R s m args below meth c H locs cells slots Q g q := fun T hT X => kk T hT (stand_widen X h1 h2)
theorem vx_out {pc : Nat} {E : String} {ce : Cell} {q : Addr} {mc ms : Nat} (hout : ∀ x ∈ c.exceptionTable.toList, covers x pc = false) (hlocks : meth.locks = false) (hcell : H[q]? = some ce) (hv : ce.vm = .none) (hcl : s.vm.findClass E = some ce.cls)
    (hx : ∀ t : State, t.heap = H → s.vm.Alike t.vm → XC E s t) (hf : ∀ z ∈ locs, free z.base) (hc : cells ≤ mc) (hs : slots ≤ ms) :
    vx_W p l e R s m args below meth c H locs cells slots (vx_MQ below Qc XC args s mc ms free) (F0 m pc ls rest) q := by
  intro T hT X
  obtain ⟨st1, hrun, hend, hW, hsm⟩ := X.leaveThrown q (g := F0 m pc ls rest) rfl rfl rfl hout hlocks
  have hcell9 : (T.setFrames (.throwing q :: below)).heap[q]? = some ce := by
    show T.heap[q]? = some ce
    rw [hT]; exact hcell
  exact ⟨_, st1, .threw q, hrun, hend, Or.inr ⟨q, rfl, E, ce, locs, hx _ hT hW.alike, hcell9, hv, hcl, hW, hsm.mono hc hs, hf⟩⟩
theorem vx_frame {U : State} {k n : Nat} (h : s.sameButNew ({ U with vm := s.vm } : State) locs k n) : s.heap.size ≤ U.heap.size ∧ ∀ q : Nat, q < s.heap.size → (∀ z ∈ locs, z.base ≠ q) → U.heap[q]? = s.heap[q]? := by
  obtain ⟨-, h2, -, -, -, h6⟩ := h
  refine ⟨h2, fun q hq hz => ?_⟩
  obtain ⟨c9, e1, e2, e3, e4⟩ := h6 q _ (Array.getElem?_eq_getElem hq)
  have hs : c9.slots = (s.heap[q]).slots := Array.ext_getElem? fun i => e4 i fun hm => hz _ hm rfl
  have h9 : c9 = s.heap[q] := by
    rw [hs] at e2
    exact e2
  have e5 : U.heap[q]? = some c9 := e1
  rw [e5, h9, Array.getElem?_eq_getElem hq]
/-- the words of a throw but the four that speak of the heap -/
def vx_no (w : Cond) : Bool := decide (w ≠ .isRef (.static Bundle.tN "UNASSIGNED_STACK" Bundle.steD)) && decide (w ≠ .isRef (.static Bundle.tN "SUPPRESSED_SENTINEL" Bundle.listD)) && decide (w ≠ .laysStatic Bundle.tN "UNASSIGNED_STACK" Bundle.steD) && decide (w ≠ .laysStatic Bundle.tN "SUPPRESSED_SENTINEL" Bundle.listD)
def vx_at0 (own : String) (ic : Nat) (X : String) (names : List String) : List Cond := (Bundle.ownAtoms0 own ic X names).filter vx_no
def vx_atS (own : String) (ic : Nat) (X : String) (names : List String) : List Cond := (Bundle.ownAtoms own ic X names).filter vx_no
/-- a word that the tables alone decide, or a good one -/
def vx_ot (w : Cond) : Bool := w.onTables || goodWord w
theorem vx_ot_at {args a' : Array Value} {s U : State} {w : Cond} (hW : s.WarmedH U.vm) (hvm : s.vm = U.vm) (hg : vx_ot w = true) (h : w.before args s = true) : w.before a' U = true := by
  simp only [vx_ot, Bool.or_eq_true] at hg
  rcases hg with hg | hg
  · exact va_tabs hg hvm h
  · exact word_at hW (good_of_word hg) h
/-- a list's words: the good ones out of the method's own list, the others by premises of their own -/
theorem vx_hat {args : Array Value} {s : State} {L B : List Cond} (h1 : ∀ w ∈ L.filter goodWord, w.before args s = true) (h2 : ∀ w ∈ L.filter (fun w => !goodWord w), w ∈ B) (h3 : ∀ w ∈ B, w.before args s = true) : ∀ w ∈ L, w.before args s = true := by
  intro w hw
  by_cases g : goodWord w = true
  · exact h1 w (List.mem_filter.mpr ⟨hw, g⟩)
  · refine h3 w (h2 w (List.mem_filter.mpr ⟨hw, ?_⟩))
    show (!goodWord w) = true
    cases hgw : goodWord w
    · rfl
    · exact absurd hgw g
theorem vx_c {args : Array Value} {s : State} {w : Cond} {B : List Cond} (h : w.before args s = true) (t : ∀ w ∈ B, w.before args s = true) : ∀ w' ∈ w :: B, w'.before args s = true := fun w' h' => (List.mem_cons.mp h').elim (fun e => by rw [e]; exact h) (t w')
theorem vx_n {args : Array Value} {s : State} : ∀ w ∈ ([] : List Cond), w.before args s = true := fun _ h => nomatch h
theorem vx_own {args : Array Value} {s : State} {L : List Cond} (h1 : ∀ w ∈ L.filter vx_no, w.before args s = true)
    (hU : (Cond.isRef (.static Bundle.tN "UNASSIGNED_STACK" Bundle.steD)).before args s = true) (hN : (Cond.isRef (.static Bundle.tN "SUPPRESSED_SENTINEL" Bundle.listD)).before args s = true)
    (lU : (Cond.laysStatic Bundle.tN "UNASSIGNED_STACK" Bundle.steD).before args s = true) (lN : (Cond.laysStatic Bundle.tN "SUPPRESSED_SENTINEL" Bundle.listD).before args s = true) : ∀ w ∈ L, w.before args s = true := by
  intro w hw
  by_cases e1 : w = .isRef (.static Bundle.tN "UNASSIGNED_STACK" Bundle.steD)
  · rw [e1]; exact hU
  · by_cases e2 : w = .isRef (.static Bundle.tN "SUPPRESSED_SENTINEL" Bundle.listD)
    · rw [e2]; exact hN
    · by_cases e3 : w = .laysStatic Bundle.tN "UNASSIGNED_STACK" Bundle.steD
      · rw [e3]; exact lU
      · by_cases e4 : w = .laysStatic Bundle.tN "SUPPRESSED_SENTINEL" Bundle.listD
        · rw [e4]; exact lN
        · exact h1 w (List.mem_filter.mpr ⟨hw, by unfold vx_no; rw [decide_eq_true e1, decide_eq_true e2, decide_eq_true e3, decide_eq_true e4]; rfl⟩)
/-- where a static field lies, its class's statics cell in H -/
def vx_L (C n d : String) (A : Nat → Prop) (U : State) (H : Heap) : Prop := ∃ (c : ClassId) (k : Class) (i : Nat) (f : Field) (a : Nat) (cell : Cell), U.vm.findClass C = some c ∧ U.fieldFound? C n d = some (c, k, i, f) ∧ f.isStatic = true ∧ k.statics = some a ∧ H[a]? = some cell ∧ cell.vm.isStatics = true ∧ cell.cls = c ∧ f.slot < cell.slots.size ∧ k.staticTypes[f.slot]? = some f.type ∧ ¬ A a
theorem vx_L.moved {C n d : String} {A : Nat → Prop} {u U : State} {H : Heap} (hvm : u.vm.Alike U.vm) (h : vx_L C n d A u H) : vx_L C n d A U H := by
  obtain ⟨c, k, i, f, a, cell, h1, h2, h3, h4, h5, h6, h7, h8, h9, h10⟩ := h
  obtain ⟨k', hi', he⟩ := State.fieldFound?_setVm hvm h2
  exact ⟨c, k', i, f, a, cell, by rw [hvm.findClass]; exact h1, hi', h3, by rw [he]; exact h4, h5, h6, h7, h8, by rw [he]; exact h9, h10⟩
theorem vx_L.kept {C n d : String} {A : Nat → Prop} {U : State} {H H1 : Heap} (h : vx_L C n d A U H) (hq : ∀ a : Nat, a < H.size → ¬ A a → H1[a]? = H[a]?) : vx_L C n d A U H1 := by
  obtain ⟨c, k, i, f, a, cell, h1, h2, h3, h4, h5, h6, h7, h8, h9, h10⟩ := h
  exact ⟨c, k, i, f, a, cell, h1, h2, h3, h4, by rw [hq a (Array.getElem?_eq_some_iff.mp h5).1 h10]; exact h5, h6, h7, h8, h9, h10⟩
theorem vx_L.narrow {C n d : String} {A B : Nat → Prop} {U : State} {H : Heap} (h : vx_L C n d A U H) (hAB : ∀ q, B q → A q) : vx_L C n d B U H := by
  obtain ⟨c, k, i, f, a, cell, h1, h2, h3, h4, h5, h6, h7, h8, h9, h10⟩ := h
  exact ⟨c, k, i, f, a, cell, h1, h2, h3, h4, h5, h6, h7, h8, h9, fun z => h10 (hAB _ z)⟩
theorem vx_L.word {C n d : String} {A : Nat → Prop} {s : State} {args : Array Value} (h : vx_L C n d A s s.heap) : (Cond.laysStatic C n d).before args s = true := by
  obtain ⟨c, k, i, f, a, cell, h1, h2, h3, h4, h5, h6, h7, h8, h9, -⟩ := h
  show (Cond.laysStatic C n d).holds args s none s [] = true
  exact Cond.laysStatic_of h1 h2 h3 h4 h5 h6 h7 h8 h9
/-- .. and what it holds: null or some reference -/
def vx_Zq (C n d : String) (A : Nat → Prop) (U : State) (H : Heap) : Prop := va_Zq C n d A U H ∧ vx_L C n d A U H
theorem vx_Zq.moved {C n d : String} {A : Nat → Prop} {u U : State} {H : Heap} (hvm : u.vm.Alike U.vm) (h : vx_Zq C n d A u H) : vx_Zq C n d A U H := ⟨va_Zq.moved hvm h.1, vx_L.moved hvm h.2⟩
theorem vx_Zq.kept {C n d : String} {A : Nat → Prop} {U : State} {H H1 : Heap} (h : vx_Zq C n d A U H) (hq : ∀ a : Nat, a < H.size → ¬ A a → H1[a]? = H[a]?) : vx_Zq C n d A U H1 := ⟨va_Zq.kept h.1 hq, vx_L.kept h.2 hq⟩
theorem vx_Zq.narrow {C n d : String} {A B : Nat → Prop} {U : State} {H : Heap} (h : vx_Zq C n d A U H) (hAB : ∀ q, B q → A q) : vx_Zq C n d B U H := ⟨va_Zq.narrow h.1 hAB, vx_L.narrow h.2 hAB⟩
theorem vx_Zqof {args : Array Value} {s : State} {C n d : String} {A : Nat → Prop} (hl : (Cond.laysStatic C n d).before args s = true) (hini : (Cond.initialized C).before args s = true) (h : (Cond.isRef (.static C n d)).before args s = true) (hA : ∀ a : Nat, a < s.heap.size → ¬ A a) : vx_Zq C n d A s s.heap := by
  refine ⟨va_Zqof hl hini h hA, ?_⟩
  obtain ⟨c, k, i, f, a, cell, h1, h2, h3, h4, h5, h6, h7, h8, h9⟩ := Cond.laysStatic_spec hl
  exact ⟨c, k, i, f, a, cell, h1, h2, h3, h4, h5, h6, h7, h8, h9, hA a (Array.getElem?_eq_some_iff.mp h5).1⟩
theorem vx_isRef {C n d : String} {v : Value} {A : Nat → Prop} {s : State} {args : Array Value} (h : va_Z C n d v A s s.heap) (hv : v.isRef = true) : (Cond.isRef (.static C n d)).before args s = true := by
  obtain ⟨cf, kf, fi, f, a, cell, h1, h2, h3, h4, h5, h6, h7, -⟩ := h
  have he : (Term.static C n d).eval args s none [] s = some v := by
    simp [Term.eval, State.fieldNamed?, h1, h2, h4, h5, h6, h7]
  simp only [Cond.before, Cond.holds, Cond.value, he]
  cases v <;> simp_all [Value.isRef]
theorem vx_isRefq {C n d : String} {A : Nat → Prop} {s : State} {args : Array Value} (h : va_Zq C n d A s s.heap) : (Cond.isRef (.static C n d)).before args s = true := by
  rcases h with h | ⟨t, h⟩
  · exact vx_isRef h rfl
  · exact vx_isRef h rfl
/-- the same frame, seen from here: as if the method were called anew in this heap -/
theorem vx_rebase {T : State} (X : Stand p l e R s m args below meth c T locs cells slots) {R' : Room} (hf : R'.frames ≤ R.frames) (hl : R'.locals ≤ R.locals) (hc : cells + R'.cells ≤ R.cells) (hs : slots + R'.slots ≤ R.slots) :
    Stand p l e R' ((T.setVm s.vm).setFrames (.invoking m args :: below)) m args below meth c T [] 0 0 := by
  have htop : (T.setVm s.vm).topJava?.isSome := X.here.top
  have hF : ((T.setVm s.vm).setFrames (.invoking m args :: below)).frames = .invoking m args :: below := State.frames_setFrames _ (State.cur_lt_of_top htop)
  obtain ⟨g₀, hg0⟩ := Option.isSome_iff_exists.mp htop
  obtain ⟨r, hr⟩ := State.topJava?_eq_some.mp hg0
  have hl9 : e.platform.stackLimits (T.setVm s.vm).me = e.platform.stackLimits s.me := X.limits
  have hb9 : (T.setVm s.vm).me.stackBytes = s.me.stackBytes := X.bytes
  refine ⟨X.admits, X.cas, X.clock, hF, ?_, X.hears, X.method, X.code, X.here, X.tail, X.warmed, ?_, ?_, ?_⟩
  · have h := X.room
    have hU : ((T.setVm s.vm).setFrames (.invoking m args :: below)).localsInUse = s.localsInUse := by
      rw [State.localsInUse_invoking hF (meth := meth) (c := c) X.method X.code, State.localsInUse_invoking X.frames X.method X.code]
    simp only [State.hasRoom, Bool.and_eq_true, decide_eq_true_eq] at h ⊢
    obtain ⟨⟨⟨⟨h1, h2, h3, h4, h5, h6⟩, h7⟩, h8⟩, h9⟩ := h
    rw [X.frames, List.length_cons] at h2 h3
    have q1 := X.heapSize
    have q2 := X.used
    simp only [hF, hU, List.length_cons, State.stackLimits_setFrames, State.stackBytes_setFrames, hl9, hb9]
    refine ⟨⟨⟨⟨by omega, by omega, by omega, by omega, by omega, h6⟩, ?_⟩, ?_⟩, X.book⟩
    · show T.heap.size + R'.cells ≤ e.platform.maxCells
      omega
    · show T.slotsUsed + R'.slots ≤ e.platform.maxSlots
      omega
  · rw [State.stackLimits_setFrames]; rfl
  · rw [State.stackBytes_setFrames]; rfl
  · refine ⟨?_, Nat.le_refl _, Nat.le_refl _, ?_, ?_, fun a c9 h9 => ⟨c9, h9, rfl, rfl, fun _ _ => rfl⟩⟩
    · obtain ⟨t, ht, -⟩ := State.frames_cons hr
      show T.setVm s.vm = { ((T.setVm s.vm).setFrames (.invoking m args :: below)).setFrames (T.setVm s.vm).frames with heap := T.heap, slotsUsed := T.slotsUsed }
      rw [State.setFrames_setFrames, State.setFrames_self ht]
      rfl
    · show T.slotsUsed = T.slotsUsed + ((T.heap.toList.drop T.heap.size).map (·.slots.size)).sum
      rw [List.drop_eq_nil_of_le (Nat.le_of_eq Array.length_toList)]
      rfl
    · show ((T.heap.toList.drop T.heap.size).map (·.slots.size)).sum ≤ 0
      rw [List.drop_eq_nil_of_le (Nat.le_of_eq Array.length_toList)]
      exact Nat.le_refl _
/-- 'throw new E()': new; dup; invokespecial; athrow -/
theorem vx_throw0 {cc : ByteArray} {pc : Nat} (hexec : p.tables.exec = Jvm.exec) (hb : c.code = cc) (hl : l.stackTraces = false) {own cls : String} {names : List String} {ik ic mc ms : Nat} {A : Nat → Prop}
    (hown : s.vm.findClass own = some m.cls) (hcls : Bundle.fit cls = true) (hnames : ∀ n ∈ names, Bundle.fit n = true)
    (hk : (Cond.classLink own ik cls).before args s = true) (hini : (Cond.initialized cls).before args s = true) (hat : ∀ w ∈ vx_at0 own ic cls names, w.before args s = true)
    (hgood : ∀ w ∈ Cond.classLink own ik cls :: Cond.initialized cls :: vx_at0 own ic cls names, vx_ot w = true)
    (hU : vx_Zq Bundle.tN "UNASSIGNED_STACK" Bundle.steD A s s.heap) (hN : vx_Zq Bundle.tN "SUPPRESSED_SENTINEL" Bundle.listD A s s.heap) (hS : va_S A s.heap H locs) (hsize : ls.size = c.maxLocals)
    (d0 : decode cc pc = .ok (.new ik, 3)) (d3 : decode cc (pc + 3) = .ok (.dup, 1)) (d4 : decode cc (pc + 4) = .ok (.invokespecial ic, 3)) (d7 : decode cc (pc + 7) = .ok (.athrow, 1))
    (hout : ∀ x ∈ c.exceptionTable.toList, covers x (pc + 7) = false)
    (hRframes : names.length + 3 < R.frames) (hRlocals : (rest.map fun v => v.category).sum + (13 * (names.length + 1) + 42) ≤ R.locals) (hRcells : cells + 1 ≤ R.cells) (hRslots : slots + 6 ≤ R.slots) (hlocks : meth.locks = false)
    (hx : ∀ t : State, s.vm.Alike t.vm → H.size ≤ t.heap.size → (∀ q : Nat, q < H.size → t.heap[q]? = H[q]?) → XC cls s t)
    (hf : ∀ z ∈ locs, free z.base) (hc : cells + 1 ≤ mc) (hs : slots + 6 ≤ ms) :
    W p l e R s m args below meth c H locs cells slots (vx_MQ below Qc XC args s mc ms free) (F0 m pc ls rest) := by
  intro T hT X
  have htr : e.platform.stackTraces = false := (show e.platform.stackTraces = l.stackTraces by rw [X.admits.platform]).trans hl
  have Y := vx_rebase X (R' := { frames := R.frames, locals := R.locals, cells := 1, slots := 6 }) (Nat.le_refl _) (Nat.le_refl _) hRcells hRslots
  obtain ⟨s', hA⟩ : ∃ z, z = (T.setVm s.vm).setFrames (.invoking m args :: below) := ⟨_, rfl⟩
  rw [← hA] at Y
  have hvm : s'.vm = s.vm := by rw [hA]; rfl
  have hhp : s'.heap = H := by rw [hA]; exact hT
  have hW0 : s.WarmedH s'.vm := by rw [hvm]; exact State.WarmedH.refl s
  have hat' : ∀ w ∈ vx_at0 own ic cls names, w.before args s' = true := fun w hw => vx_ot_at hW0 hvm.symm (hgood w (List.mem_cons_of_mem _ (List.mem_cons_of_mem _ hw))) (hat w hw)
  have hk' : (Cond.classLink own ik cls).before args s' = true := vx_ot_at hW0 hvm.symm (hgood _ List.mem_cons_self) hk
  have hini' : (Cond.initialized cls).before args s' = true := vx_ot_at hW0 hvm.symm (hgood _ (List.mem_cons_of_mem _ List.mem_cons_self)) hini
  have hU' : vx_Zq Bundle.tN "UNASSIGNED_STACK" Bundle.steD A s' s'.heap := by rw [hhp]; exact vx_Zq.moved hW0.alike (hU.kept hS.2.1)
  have hN' : vx_Zq Bundle.tN "SUPPRESSED_SENTINEL" Bundle.listD A s' s'.heap := by rw [hhp]; exact vx_Zq.moved hW0.alike (hN.kept hS.2.1)
  have h : ∀ w ∈ Bundle.ownAtoms0 own ic cls names, w.before args s' = true := vx_own hat' (vx_isRefq hU'.1) (vx_isRefq hN'.1) hU'.2.word hN'.2.word
  have hown' : s'.vm.findClass own = some m.cls := by rw [hvm]; exact hown
  have hins : (Cond.instantiable cls 6).before args s' = true := h _ (by simp [Bundle.ownAtoms0])
  obtain ⟨vm₁, cX, kX, hfX, hkX, -, -, X₁, st1⟩ := Y.newCold hexec (own := own) (C := cls) (index := ik) (n := 6) hown' hk' hins hini'
    (g := F0 m pc ls rest) rfl (by rw [hb]; exact d0) (Nat.le_refl _) (Nat.le_refl _)
  generalize hT1 : (T.setVm vm₁).pushCell { cls := cX, slots := kX.instanceTypes.map defaultValue, vm := .none } = T1 at X₁ st1
  have hcat : (Value.ref T.heap.size).category = 1 := rfl
  have hcellA : T1.heap[T.heap.size]? = some (freshCell cX kX) := by rw [← hT1]; exact State.heap_pushCell_size _ _
  have d3' : decode c.code (pc + 3) = .ok (.dup, 1) := by rw [hb]; exact d3
  obtain ⟨U, hsteps, hrun, hend, hW, hsame, ce, hce, hO⟩ := X₁.ctorThrow0 hexec htr (own := own) (cls := cls) (names := names) (ic := ic) hown' hcls hnames h (fun x hx => nomatch hx) hfX hkX hcellA (by rw [hhp, hT]; exact Nat.le_refl _)
    (g := { method := m, pc := pc + 4, locals := ls, stack := .ref T.heap.size :: .ref T.heap.size :: rest, locked := none }) rfl hsize rfl rfl (rest := rest) rfl
    (by rw [hb]; exact d4) (by rw [hb]; exact d7) hout hRframes (by simp only [List.map_cons, List.sum_cons, hcat]; omega) hlocks
  obtain ⟨f1, f2⟩ := vx_frame hsame
  rw [hhp] at f1 f2
  have hWs : s.WarmedH U.vm := State.WarmedH.trans hW0 hW
  have hcl : s.vm.findClass cls = some ce.cls := by
    have h9 := hO.cls
    rw [hvm] at h9
    exact h9
  have hall : s.sameButNew ({ U with vm := s.vm } : State) locs mc ms := by
    subst hA
    obtain ⟨e1, e2⟩ := hsame
    rw [State.setFrames_setFrames] at e1
    have h2 : (T.setVm s.vm).sameButNew ({ U with vm := s.vm } : State) [] (0 + 1) (0 + 6) := ⟨e1, e2⟩
    have h3 := X.same.trans h2
    rw [List.append_nil] at h3
    exact h3.mono hc hs
  refine ⟨U, ?_, .threw T.heap.size, hrun, hend, Or.inr ⟨T.heap.size, rfl, cls, ce, locs, hx U hWs.alike f1 (fun q hq => f2 q hq (fun z hz => nomatch hz)), hce, hO.vm, hcl, hWs, hall, hf⟩⟩
  refine st1 _ ?_
  show Steps p.tables e below (T1.setTop { method := m, pc := pc + 3, locals := ls, stack := .ref T.heap.size :: rest, locked := none }) _
  jvm_step X₁.here [X₁.here.top, hexec, d3', Value.category]
  exact hsteps
/-- 'throw new E("text")': new; dup; ldc; invokespecial; athrow -/
theorem vx_throwS {cc : ByteArray} {pc : Nat} (hexec : p.tables.exec = Jvm.exec) (hb : c.code = cc) (hl : l.stackTraces = false) {own cls text : String} {names : List String} {ik is ic mc ms sa : Nat} {A : Nat → Prop}
    (hown : s.vm.findClass own = some m.cls) (hcls : Bundle.fit cls = true) (hnames : ∀ n ∈ names, Bundle.fit n = true)
    (hk : (Cond.classLink own ik cls).before args s = true) (hini : (Cond.initialized cls).before args s = true) (hstr : vk_R own is text sa s) (hat : ∀ w ∈ vx_atS own ic cls names, w.before args s = true)
    (hgood : ∀ w ∈ Cond.classLink own ik cls :: Cond.initialized cls :: vx_atS own ic cls names, vx_ot w = true)
    (hU : vx_Zq Bundle.tN "UNASSIGNED_STACK" Bundle.steD A s s.heap) (hN : vx_Zq Bundle.tN "SUPPRESSED_SENTINEL" Bundle.listD A s s.heap) (hS : va_S A s.heap H locs) (hsize : ls.size = c.maxLocals)
    (d0 : decode cc pc = .ok (.new ik, 3)) (d3 : decode cc (pc + 3) = .ok (.dup, 1)) (d4 : decode cc (pc + 4) = .ok (.ldc is, 2)) (d6 : decode cc (pc + 6) = .ok (.invokespecial ic, 3)) (d9 : decode cc (pc + 9) = .ok (.athrow, 1))
    (hout : ∀ x ∈ c.exceptionTable.toList, covers x (pc + 9) = false)
    (hRframes : names.length + 3 < R.frames) (hRlocals : (rest.map fun v => v.category).sum + (13 * (names.length + 1) + 43) ≤ R.locals) (hRcells : cells + 1 ≤ R.cells) (hRslots : slots + 6 ≤ R.slots) (hlocks : meth.locks = false)
    (hx : ∀ t : State, s.vm.Alike t.vm → H.size ≤ t.heap.size → (∀ q : Nat, q < H.size → t.heap[q]? = H[q]?) → XC cls s t)
    (hf : ∀ z ∈ locs, free z.base) (hc : cells + 1 ≤ mc) (hs : slots + 6 ≤ ms) :
    W p l e R s m args below meth c H locs cells slots (vx_MQ below Qc XC args s mc ms free) (F0 m pc ls rest) := by
  intro T hT X
  have htr : e.platform.stackTraces = false := (show e.platform.stackTraces = l.stackTraces by rw [X.admits.platform]).trans hl
  have Y := vx_rebase X (R' := { frames := R.frames, locals := R.locals, cells := 1, slots := 6 }) (Nat.le_refl _) (Nat.le_refl _) hRcells hRslots
  obtain ⟨s', hA⟩ : ∃ z, z = (T.setVm s.vm).setFrames (.invoking m args :: below) := ⟨_, rfl⟩
  rw [← hA] at Y
  have hvm : s'.vm = s.vm := by rw [hA]; rfl
  have hhp : s'.heap = H := by rw [hA]; exact hT
  have hW0 : s.WarmedH s'.vm := by rw [hvm]; exact State.WarmedH.refl s
  have hat' : ∀ w ∈ vx_atS own ic cls names, w.before args s' = true := fun w hw => vx_ot_at hW0 hvm.symm (hgood w (List.mem_cons_of_mem _ (List.mem_cons_of_mem _ hw))) (hat w hw)
  have hk' : (Cond.classLink own ik cls).before args s' = true := vx_ot_at hW0 hvm.symm (hgood _ List.mem_cons_self) hk
  have hini' : (Cond.initialized cls).before args s' = true := vx_ot_at hW0 hvm.symm (hgood _ (List.mem_cons_of_mem _ List.mem_cons_self)) hini
  have hU' : vx_Zq Bundle.tN "UNASSIGNED_STACK" Bundle.steD A s' s'.heap := by rw [hhp]; exact vx_Zq.moved hW0.alike (hU.kept hS.2.1)
  have hN' : vx_Zq Bundle.tN "SUPPRESSED_SENTINEL" Bundle.listD A s' s'.heap := by rw [hhp]; exact vx_Zq.moved hW0.alike (hN.kept hS.2.1)
  have h : ∀ w ∈ Bundle.ownAtoms own ic cls names, w.before args s' = true := vx_own hat' (vx_isRefq hU'.1) (vx_isRefq hN'.1) hU'.2.word hN'.2.word
  have hown' : s'.vm.findClass own = some m.cls := by rw [hvm]; exact hown
  have hins : (Cond.instantiable cls 6).before args s' = true := h _ (by simp [Bundle.ownAtoms])
  obtain ⟨vm₁, cX, kX, hfX, hkX, -, -, X₁, st1⟩ := Y.newCold hexec (own := own) (C := cls) (index := ik) (n := 6) hown' hk' hins hini'
    (g := F0 m pc ls rest) rfl (by rw [hb]; exact d0) (Nat.le_refl _) (Nat.le_refl _)
  generalize hT1 : (T.setVm vm₁).pushCell { cls := cX, slots := kX.instanceTypes.map defaultValue, vm := .none } = T1 at X₁ st1
  have hcat : (Value.ref T.heap.size).category = 1 := rfl
  have hcellA : T1.heap[T.heap.size]? = some (freshCell cX kX) := by rw [← hT1]; exact State.heap_pushCell_size _ _
  have d3' : decode c.code (pc + 3) = .ok (.dup, 1) := by rw [hb]; exact d3
  have d4' : decode c.code (pc + 4) = .ok (.ldc is, 2) := by rw [hb]; exact d4
  have hstr' : vk_R own is text sa s' := vk_R.warm hW0 hstr
  obtain ⟨U, hsteps, hrun, hend, hW, hsame, ce, hce, hO⟩ := X₁.ctorThrowS hexec htr (own := own) (cls := cls) (names := names) (ic := ic) hown' hcls hnames h (fun x hx => nomatch hx) hfX hkX hcellA (by rw [hhp, hT]; exact Nat.le_refl _) (msg := .ref sa) rfl
    (g := { method := m, pc := pc + 6, locals := ls, stack := .ref sa :: .ref T.heap.size :: .ref T.heap.size :: rest, locked := none }) rfl hsize rfl rfl (rest := rest) rfl
    (by rw [hb]; exact d6) (by rw [hb]; exact d9) hout hRframes (by simp only [List.map_cons, List.sum_cons, hcat]; omega) hlocks
  obtain ⟨f1, f2⟩ := vx_frame hsame
  rw [hhp] at f1 f2
  have hWs : s.WarmedH U.vm := State.WarmedH.trans hW0 hW
  have hcl : s.vm.findClass cls = some ce.cls := by
    have h9 := hO.cls
    rw [hvm] at h9
    exact h9
  have hall : s.sameButNew ({ U with vm := s.vm } : State) locs mc ms := by
    subst hA
    obtain ⟨e1, e2⟩ := hsame
    rw [State.setFrames_setFrames] at e1
    have h2 : (T.setVm s.vm).sameButNew ({ U with vm := s.vm } : State) [] (0 + 1) (0 + 6) := ⟨e1, e2⟩
    have h3 := X.same.trans h2
    rw [List.append_nil] at h3
    exact h3.mono hc hs
  refine ⟨U, ?_, .threw T.heap.size, hrun, hend, Or.inr ⟨T.heap.size, rfl, cls, ce, locs, hx U hWs.alike f1 (fun q hq => f2 q hq (fun z hz => nomatch hz)), hce, hO.vm, hcl, hWs, hall, hf⟩⟩
  refine st1 _ ?_
  show Steps p.tables e below (T1.setTop { method := m, pc := pc + 3, locals := ls, stack := .ref T.heap.size :: rest, locked := none }) _
  jvm_step X₁.here [X₁.here.top, hexec, d3', Value.category]
  exact X₁.ldcString hexec (own := own) (text := text) (index := is) (a := sa) hown' hstr'.1 hstr'.2
    (g := { method := m, pc := pc + 4, locals := ls, stack := .ref T.heap.size :: .ref T.heap.size :: rest, locked := none }) rfl d4' _ hsteps
/-- 'throw new E("text")', the text by a wide index -/
theorem vx_throwSW {cc : ByteArray} {pc : Nat} (hexec : p.tables.exec = Jvm.exec) (hb : c.code = cc) (hl : l.stackTraces = false) {own cls text : String} {names : List String} {ik is ic mc ms sa : Nat} {A : Nat → Prop}
    (hown : s.vm.findClass own = some m.cls) (hcls : Bundle.fit cls = true) (hnames : ∀ n ∈ names, Bundle.fit n = true)
    (hk : (Cond.classLink own ik cls).before args s = true) (hini : (Cond.initialized cls).before args s = true) (hstr : vk_R own is text sa s) (hat : ∀ w ∈ vx_atS own ic cls names, w.before args s = true)
    (hgood : ∀ w ∈ Cond.classLink own ik cls :: Cond.initialized cls :: vx_atS own ic cls names, vx_ot w = true)
    (hU : vx_Zq Bundle.tN "UNASSIGNED_STACK" Bundle.steD A s s.heap) (hN : vx_Zq Bundle.tN "SUPPRESSED_SENTINEL" Bundle.listD A s s.heap) (hS : va_S A s.heap H locs) (hsize : ls.size = c.maxLocals)
    (d0 : decode cc pc = .ok (.new ik, 3)) (d3 : decode cc (pc + 3) = .ok (.dup, 1)) (d4 : decode cc (pc + 4) = .ok (.ldc_w is, 3)) (d7 : decode cc (pc + 7) = .ok (.invokespecial ic, 3)) (d10 : decode cc (pc + 10) = .ok (.athrow, 1))
    (hout : ∀ x ∈ c.exceptionTable.toList, covers x (pc + 10) = false)
    (hRframes : names.length + 3 < R.frames) (hRlocals : (rest.map fun v => v.category).sum + (13 * (names.length + 1) + 43) ≤ R.locals) (hRcells : cells + 1 ≤ R.cells) (hRslots : slots + 6 ≤ R.slots) (hlocks : meth.locks = false)
    (hx : ∀ t : State, s.vm.Alike t.vm → H.size ≤ t.heap.size → (∀ q : Nat, q < H.size → t.heap[q]? = H[q]?) → XC cls s t)
    (hf : ∀ z ∈ locs, free z.base) (hc : cells + 1 ≤ mc) (hs : slots + 6 ≤ ms) :
    W p l e R s m args below meth c H locs cells slots (vx_MQ below Qc XC args s mc ms free) (F0 m pc ls rest) := by
  intro T hT X
  have htr : e.platform.stackTraces = false := (show e.platform.stackTraces = l.stackTraces by rw [X.admits.platform]).trans hl
  have Y := vx_rebase X (R' := { frames := R.frames, locals := R.locals, cells := 1, slots := 6 }) (Nat.le_refl _) (Nat.le_refl _) hRcells hRslots
  obtain ⟨s', hA⟩ : ∃ z, z = (T.setVm s.vm).setFrames (.invoking m args :: below) := ⟨_, rfl⟩
  rw [← hA] at Y
  have hvm : s'.vm = s.vm := by rw [hA]; rfl
  have hhp : s'.heap = H := by rw [hA]; exact hT
  have hW0 : s.WarmedH s'.vm := by rw [hvm]; exact State.WarmedH.refl s
  have hat' : ∀ w ∈ vx_atS own ic cls names, w.before args s' = true := fun w hw => vx_ot_at hW0 hvm.symm (hgood w (List.mem_cons_of_mem _ (List.mem_cons_of_mem _ hw))) (hat w hw)
  have hk' : (Cond.classLink own ik cls).before args s' = true := vx_ot_at hW0 hvm.symm (hgood _ List.mem_cons_self) hk
  have hini' : (Cond.initialized cls).before args s' = true := vx_ot_at hW0 hvm.symm (hgood _ (List.mem_cons_of_mem _ List.mem_cons_self)) hini
  have hU' : vx_Zq Bundle.tN "UNASSIGNED_STACK" Bundle.steD A s' s'.heap := by rw [hhp]; exact vx_Zq.moved hW0.alike (hU.kept hS.2.1)
  have hN' : vx_Zq Bundle.tN "SUPPRESSED_SENTINEL" Bundle.listD A s' s'.heap := by rw [hhp]; exact vx_Zq.moved hW0.alike (hN.kept hS.2.1)
  have h : ∀ w ∈ Bundle.ownAtoms own ic cls names, w.before args s' = true := vx_own hat' (vx_isRefq hU'.1) (vx_isRefq hN'.1) hU'.2.word hN'.2.word
  have hown' : s'.vm.findClass own = some m.cls := by rw [hvm]; exact hown
  have hins : (Cond.instantiable cls 6).before args s' = true := h _ (by simp [Bundle.ownAtoms])
  obtain ⟨vm₁, cX, kX, hfX, hkX, -, -, X₁, st1⟩ := Y.newCold hexec (own := own) (C := cls) (index := ik) (n := 6) hown' hk' hins hini'
    (g := F0 m pc ls rest) rfl (by rw [hb]; exact d0) (Nat.le_refl _) (Nat.le_refl _)
  generalize hT1 : (T.setVm vm₁).pushCell { cls := cX, slots := kX.instanceTypes.map defaultValue, vm := .none } = T1 at X₁ st1
  have hcat : (Value.ref T.heap.size).category = 1 := rfl
  have hcellA : T1.heap[T.heap.size]? = some (freshCell cX kX) := by rw [← hT1]; exact State.heap_pushCell_size _ _
  have d3' : decode c.code (pc + 3) = .ok (.dup, 1) := by rw [hb]; exact d3
  have d4' : decode c.code (pc + 4) = .ok (.ldc_w is, 3) := by rw [hb]; exact d4
  have hstr' : vk_R own is text sa s' := vk_R.warm hW0 hstr
  obtain ⟨U, hsteps, hrun, hend, hW, hsame, ce, hce, hO⟩ := X₁.ctorThrowS hexec htr (own := own) (cls := cls) (names := names) (ic := ic) hown' hcls hnames h (fun x hx => nomatch hx) hfX hkX hcellA (by rw [hhp, hT]; exact Nat.le_refl _) (msg := .ref sa) rfl
    (g := { method := m, pc := pc + 7, locals := ls, stack := .ref sa :: .ref T.heap.size :: .ref T.heap.size :: rest, locked := none }) rfl hsize rfl rfl (rest := rest) rfl
    (by rw [hb]; exact d7) (by rw [hb]; exact d10) hout hRframes (by simp only [List.map_cons, List.sum_cons, hcat]; omega) hlocks
  obtain ⟨f1, f2⟩ := vx_frame hsame
  rw [hhp] at f1 f2
  have hWs : s.WarmedH U.vm := State.WarmedH.trans hW0 hW
  have hcl : s.vm.findClass cls = some ce.cls := by
    have h9 := hO.cls
    rw [hvm] at h9
    exact h9
  have hall : s.sameButNew ({ U with vm := s.vm } : State) locs mc ms := by
    subst hA
    obtain ⟨e1, e2⟩ := hsame
    rw [State.setFrames_setFrames] at e1
    have h2 : (T.setVm s.vm).sameButNew ({ U with vm := s.vm } : State) [] (0 + 1) (0 + 6) := ⟨e1, e2⟩
    have h3 := X.same.trans h2
    rw [List.append_nil] at h3
    exact h3.mono hc hs
  refine ⟨U, ?_, .threw T.heap.size, hrun, hend, Or.inr ⟨T.heap.size, rfl, cls, ce, locs, hx U hWs.alike f1 (fun q hq => f2 q hq (fun z hz => nomatch hz)), hce, hO.vm, hcl, hWs, hall, hf⟩⟩
  refine st1 _ ?_
  show Steps p.tables e below (T1.setTop { method := m, pc := pc + 3, locals := ls, stack := .ref T.heap.size :: rest, locked := none }) _
  jvm_step X₁.here [X₁.here.top, hexec, d3', Value.category]
  exact X₁.ldcStringW hexec (own := own) (text := text) (index := is) (a := sa) hown' hstr'.1 hstr'.2
    (g := { method := m, pc := pc + 4, locals := ls, stack := .ref T.heap.size :: .ref T.heap.size :: rest, locked := none }) rfl d4' _ hsteps
end Ends
section Bodies
variable {l : Launch}
theorem vx_ofW {y : MethodName} {ws ws' : List Cond} {rm : Room} {Pc : Array Value → State → Prop} {Qc : Array Value → State → Outcome → State → Prop} {XC : String → State → State → Prop} {mc ms : Nat} {free : Addr → Prop} {cc : ByteArray} {maxL : Nat} {ret : Option FieldType}
    (hy : plainName y.cls = true) (hw : ws = Cond.code y cc maxL ret :: ws')
    (body : ∀ p e s m args below meth c s₁, BodyLoose p l y (headSpec ws rm) cc maxL ret e s m args below meth c s₁ → c.maxLocals = maxL → (∀ x ∈ c.exceptionTable.toList, False) → Pc args s →
      W p l e (headSpec ws rm).room s m args below meth c s.heap [] 0 0 (vx_MQ below Qc XC args s mc ms free) (entryFrame m args maxL)) : vx_Met l y ws rm Pc Qc XC mc ms free := by
  refine MetFree.of_bodyS (code := cc) (maxLocals := maxL) (ret := ret) hy ?_ ?_
  · intro args s m h hn
    obtain ⟨meth, c, h1, h2, h3, h4, h5, h6, -, -⟩ := Cond.code_spec hn (atoms_spec (ws := ws) h _ (by rw [hw]; exact List.mem_cons_self))
    exact ⟨meth, c, h1, h2, h3, h4, h5, h6⟩
  · intro p e s m args below meth c s₁ B hml hP _
    have hh0 : s₁.heap = s.heap := by rw [B.state]; rfl
    have ht : ∀ x ∈ c.exceptionTable.toList, False := by
      obtain ⟨meth9, c9, h1, h2, -, -, -, -, h7, -⟩ := Cond.code_spec B.named (atoms_spec (ws := ws) B.pre _ (by rw [hw]; exact List.mem_cons_self))
      cases Option.some.inj (h1.symm.trans B.method)
      cases Option.some.inj (h2.symm.trans (Stand.of_body B).code)
      intro x hx
      rw [Array.isEmpty_iff.mp h7] at hx
      cases hx
    obtain ⟨t, a1, o, b1, b2, b3⟩ := body p e s m args below meth c s₁ B hml ht hP s₁ hh0 (Stand.of_body B)
    exact ⟨t, o, a1, b1, b2, b3⟩
/-- the table of a body with handlers -/
theorem vx_table {p : Program} {x y : MethodName} {S : Spec} {cc bytes : ByteArray} {maxL maxL' : Nat} {ret ret' : Option FieldType} {e : Env} {s s₁ : State} {m : MethodId} {args : Array Value} {below : List Frame} {meth : Method} {c : Code} {hh : List (Nat × Nat × Nat × Nat)}
    (B : BodyLoose p l y S cc maxL ret e s m args below meth c s₁) (h : (Cond.codeWith y bytes maxL' ret' hh).before args s = true) : c.exceptionTable.toList = tableOf hh := by
  obtain ⟨m9, meth9, c9, hn9, h1, h2, -, -, h6, -⟩ := Cond.codeWith_spec h
  cases Option.some.inj (hn9.symm.trans B.named)
  cases Option.some.inj (h1.symm.trans B.method)
  cases Option.some.inj (h2.symm.trans (Stand.of_body B).code)
  rw [← h6, table_eq]
end Bodies
end VXA
/-! ===== END ===== -/
/-! ===== BEGIN a static call of a method with an exception table ===== -/
section VXS
variable {p : Program} {l : Launch} {e : Env} {R : Room} {s : State} {m : MethodId} {args : Array Value} {below : List Frame} {meth : Method} {c : Code} {T : State} {H : Heap} {locs : List Loc} {cells slots : Nat}
abbrev vx_CSW (R : Room) (s : State) (args : Array Value) (own : String) (index : Nat) (y : MethodName) (bytes : ByteArray) (maxL : Nat) (ret : Option FieldType) (hh : List (Nat × Nat × Nat × Nat)) (ws : List Cond) (rm : Room) (mc ms n : Nat) : Prop :=
  (rm.cells = mc ∧ rm.slots = ms ∧ rm.frames + 1 ≤ R.frames ∧ 8 + (maxL + 11) + rm.locals ≤ R.locals ∧ (∀ w ∈ ws, ∀ (a' : Array Value) (U : State), s.WarmedH U.vm → w.before a' U = true) ∧ Cond.codeWith y bytes maxL ret hh ∈ ws) ∧
  (Cond.codeWith y bytes maxL ret hh).before args s = true ∧ (Cond.initialized y.cls).before args s = true ∧ (y.cls ≠ "java/lang/invoke/MethodHandle" ∧ y.cls ≠ "java/lang/invoke/VarHandle") ∧
  (∀ sig, parseMethodDescriptor y.desc = some sig → n = sig.parameters.length) ∧ (Cond.methodLink own index y).before args s = true ∧ (Cond.static y).before args s = true
theorem vx_cwSW {own : String} {index maxL mc ms : Nat} {y : MethodName} {bytes : ByteArray} {ret : Option FieldType} {hh : List (Nat × Nat × Nat × Nat)} {Ts ws ws' : List Cond} {rm : Room} (n : Nat) (ht : ∀ w ∈ Ts, w.before args s = true) (hT : GoodIn Ts (va_wsS own index y ws)) (hw : ws = Cond.codeWith y bytes maxL ret hh :: ws') (hrc : rm.cells = mc) (hrs : rm.slots = ms)
    (hd : y.cls ≠ "java/lang/invoke/MethodHandle" ∧ y.cls ≠ "java/lang/invoke/VarHandle" ∧ (parseMethodDescriptor y.desc).map (fun d => d.parameters.length) = some n) (hR : rm.frames + 1 ≤ R.frames ∧ 8 + (maxL + 11) + rm.locals ≤ R.locals) :
    vx_CSW R s args own index y bytes maxL ret hh ws rm mc ms n := by
  have ok : ∀ w ∈ va_wsS own index y ws, w.before args s = true := fun w h => ht w (hT w h).1
  have hG : GoodIn Ts ws := fun w h => hT w (by unfold va_wsS; exact List.mem_append_right _ h)
  have hc : Cond.codeWith y bytes maxL ret hh ∈ ws := by rw [hw]; exact List.mem_cons_self
  refine ⟨⟨hrc, hrs, hR.1, hR.2, pay_in ht hG, hc⟩, ht _ (hG _ hc).1, ok _ (by simp [va_wsS]), ⟨hd.1, hd.2.1⟩, fun sig h => ?_, ok _ (by simp [va_wsS]), ok _ (by simp [va_wsS])⟩
  have h2 := hd.2.2
  rw [h] at h2
  exact (Option.some.inj h2).symm
theorem vx_callSW (X : Stand p l e R s m args below meth c T locs cells slots) (hexec : p.tables.exec = Jvm.exec) {own : String} {index : Nat} {y : MethodName} {bytes : ByteArray} {maxL : Nat} {ret : Option FieldType} {hh : List (Nat × Nat × Nat × Nat)}
    (hown : s.vm.findClass own = some m.cls) (hlink : (Cond.methodLink own index y).before args s = true) (hstat : (Cond.static y).before args s = true) (hinit : (Cond.initialized y.cls).before args s = true)
    (hcode : (Cond.codeWith y bytes maxL ret hh).before args s = true) (hy : y.cls ≠ "java/lang/invoke/MethodHandle" ∧ y.cls ≠ "java/lang/invoke/VarHandle")
    {W9 : Nat} {Pre : Pt → Array Value → Prop} {Post : Pt → Array Value → Option Value → Pt → Prop} (hK : Back l R p e below s args y 3 W9 Pre Post)
    {g : JFrame} (hg : g.method = m) (hsize : g.locals.size = c.maxLocals) {argsL rest : List Value} (hlen : ∀ sig, parseMethodDescriptor y.desc = some sig → argsL.length = sig.parameters.length)
    (hstack : g.stack = argsL.reverse ++ rest) (hW : 2 * g.monitorRoom + (rest.map fun v => v.category).sum ≤ W9) (hdg : decode c.code g.pc = .ok (.invokestatic index, 3))
    (hpre : ∀ vm₁, s.WarmedH vm₁ → Pre ⟨T.setVm vm₁, locs, cells, slots⟩ argsL.toArray) :
    ∃ (v : Option Value) (vm₁ : Vm) (B : Pt), s.WarmedH vm₁ ∧ Stand p l e R s m args below meth c B.U B.locs B.cells B.slots ∧ Post ⟨T.setVm vm₁, locs, cells, slots⟩ argsL.toArray v B ∧
      ∀ target, Steps p.tables e below (B.U.setTop { g with pc := g.pc + 3, stack := v.toList ++ rest }) target → Steps p.tables e below (T.setTop g) target := by
  obtain ⟨mk, methM, cM, hnamed, hmethM, -, -, -, -, -, -, hsigM⟩ := Cond.codeWith_spec hcode
  have hstatic : methM.isStatic = true := Cond.static_spec hnamed hmethM hstat
  obtain ⟨kP, hkP, -⟩ := className_of_methodNamed hnamed
  have hinitP : kP.init = .initialized := Cond.initialized_spec (findClass_of_methodNamed hnamed) hkP hinit
  obtain ⟨vm₁, X₁, hstep₁⟩ := X.invokestatic hexec hown hlink hnamed hmethM hstatic hkP hinitP hy (g := g) hg (argsL := argsL) (rest := rest) (hlen _ hsigM) hstack hdg
  obtain ⟨v, B, X', hpost, hsteps⟩ := hK m meth c ⟨T.setVm vm₁, locs, cells, slots⟩ { g with stack := rest } (.invokestatic index) mk argsL.toArray X₁ hg hsize hdg hW (X₁.named hnamed) (hpre vm₁ X₁.warmed)
  exact ⟨v, vm₁, B, X₁.warmed, X', hpost, fun target h => hstep₁ _ fun acts => by rw [doInvoke_state]; exact hsteps.trans h⟩
theorem vx_runSW {y : MethodName} {bytes cc : ByteArray} {maxL nL mc ms n index : Nat} {ret : Option FieldType} {hh : List (Nat × Nat × Nat × Nat)} {ws : List Cond} {rm : Room} {Pc : Array Value → State → Prop} {Qc : Array Value → State → Outcome → State → Prop} {free : Addr → Prop} {Ts : List Cond} {own : String} {As rest : List Value} {g : JFrame}
    (S : CallFix p m c cc nL s args Ts own) (hM : Met l y ws rm Pc Qc mc ms free) (cw : vx_CSW R s args own index y bytes maxL ret hh ws rm mc ms n) (hp : PreS s H Pc As)
    (hg : g.method = m) (hn : As.length = n) (hsize : g.locals.size = nL) (hstack : g.stack = As.reverse ++ rest) (hW : 2 * g.monitorRoom + (rest.map fun v => v.category).sum ≤ 8) (hdg : decode cc g.pc = .ok (.invokestatic index, 3)) (hf : cells + mc ≤ R.cells ∧ slots + ms ≤ R.slots) :
    va_Run p l e R s m args below meth c H locs cells slots mc ms g rest (Qc As.toArray) (free) := by
  obtain ⟨⟨hrc, hrs, hfr, hlo, hws, hcw⟩, hcode, hini, hy, hlen, hl, hstt⟩ := cw
  have hK : Back l R p e below s args y 3 8 (PreOf R mc ms Pc) (PostOf Qc mc ms free) := va_backW (hh := hh) (bytes := bytes) (maxL := maxL) (ret := ret) hM hp.1 hrc hrs hfr hlo hws hcw (fun a' U hW => word_at hW (Or.inl (by first | rfl | simp [Cond.onTables, Cond.keeps, Cond.steady])) hini)
  obtain ⟨hx, hb, hml, ho, -⟩ := S
  intro T hT X
  obtain ⟨v, vm₁, ⟨U', l2, c2, s2⟩, hW₁, X', ⟨g', mk, t, L, e1, e2, hq, h1, hL, h2, h3⟩, st⟩ := vx_callSW X hx (hh := hh) (bytes := bytes) (maxL := maxL) (ret := ret) ho hl hstt hini hcode hy hK hg (hsize.trans hml.symm) (argsL := As) (rest := rest) (fun sig h => hn.trans (hlen sig h)) hstack hW (by rw [hb]; exact hdg)
    (fun vm₁ hW₁ => ⟨hf.1, hf.2, hp.2 (T.setVm vm₁) hT hW₁⟩)
  dsimp only [Pt.U, Pt.locs, Pt.cells, Pt.slots] at X' e1 e2 h1 h2 h3 st
  subst h1; subst h2; subst h3
  exact ⟨v, (T.setVm vm₁).calling g' mk As.toArray, t, U', L, hT, X', hL, e1, e2, hq, st⟩
/-- not caught here, past rows that name other classes: it goes on to the caller -/
theorem vx_outP {p : Program} {l : Launch} {e : Env} {R : Room} {s : State} {m : MethodId} {args : Array Value} {below : List Frame} {meth : Method} {c : Code} {H : Heap} {locs : List Loc} {cells slots : Nat} {free : Addr → Prop} {ls : Array Slot} {rest : List Value} {Qc : Array Value → State → Outcome → State → Prop} {XC : String → State → State → Prop}
    {pc : Nat} {own E : String} {ce : Cell} {q : Addr} {mc ms : Nat} (hown : s.vm.findClass own = some m.cls) (hlocks : meth.locks = false)
    (hpass : ∀ z ∈ c.exceptionTable.toList, covers z pc = false ∨ (z.catchType ≠ 0 ∧ ∃ nm : String, (Cond.classLink own z.catchType nm).before args s = true ∧ va_Nc E nm s)) (hcell : H[q]? = some ce) (hv : ce.vm = .none) (hcl : s.vm.findClass E = some ce.cls)
    (hx : ∀ t : State, t.heap = H → s.vm.Alike t.vm → XC E s t) (hf : ∀ z ∈ locs, free z.base) (hc : cells ≤ mc) (hs : slots ≤ ms) :
    vx_W p l e R s m args below meth c H locs cells slots (vx_MQ below Qc XC args s mc ms free) (F0 m pc ls rest) q := by
  intro T hT X
  have hpl : e.platform.magicAccessors = ({} : Platform).magicAccessors := by rw [X.admits.platform]
  obtain ⟨vm', hW', X', st⟩ := X.outThrough hlocks q (g := F0 m pc ls rest) rfl rfl rfl (cell := ce) (by rw [hT]; exact hcell) (by rw [hv]; rfl)
    (by obtain ⟨k9, h9, -⟩ := Vm.findClass_spec hcl; exact ⟨k9, h9⟩) (fun z hz => by
      rcases hpass z hz with h | ⟨hz0, nm, hl1, hn1⟩
      · exact Or.inl h
      · obtain ⟨c6, hc6, hcl6⟩ := Cond.classLink_spec hown hl1 e.platform hpl
        obtain ⟨a8, b8, h1, h2, h3⟩ := hn1
        cases Option.some.inj (h1.symm.trans hcl)
        cases Option.some.inj (h2.symm.trans hc6)
        exact Or.inr ⟨hz0, _, hcl6, h3⟩)
  obtain ⟨g₀, hfr⟩ := X'.frames_eq
  have hcell9 : ((T.setVm vm').setFrames (.throwing q :: below)).heap[q]? = some ce := by
    show T.heap[q]? = some ce
    rw [hT]; exact hcell
  have hend : Ended ((T.setVm vm').setFrames (.throwing q :: below)) below (.threw q) := State.frames_setFrames _ (State.cur_lt_of_frames hfr)
  refine ⟨(T.setVm vm').setFrames (.throwing q :: below), ?_, .threw q, X'.here.running, hend, Or.inr ⟨q, rfl, E, ce, locs, hx _ hT (X'.ends _).1.alike, hcell9, hv, hcl, (X'.ends _).1, (X'.ends _).2.mono hc hs, hf⟩⟩
  rw [X.pushThrowing_eq]
  exact st
/-- a thing of a world lies in the heap -/
theorem vx_lt {D : va_G} {cl : List vw_C} {ws : va_W} {H1 : Heap} (h : va_P D cl ws H1) {k : Nat} {q : Nat × va_E} (hk : ws[k]? = some q) : q.1 < H1.size := (h k q hk).lt
end VXS
/-! ===== END ===== -/
/-! ===== BEGIN methods with a table of their own: called by a name, returning or throwing ===== -/
section VXH
/-! vx_backW, vx_callVX, vx_callSX, vx_callVW, vx_runVW, vx_runVX, vx_runSX, vx_ofWH follow the same proofs as their sisters above (Free/Laws.lean, Shelf42/LK1.lean); vx_outP calls Shelf42/NT130.lean (outThrough). -/
section
variable {l : Launch} {R : Room} {p : Program} {e : Env} {below : List Frame} {s : State} {sargs : Array Value} {y : MethodName} {len W9 : Nat}
theorem vx_backW {ws : List Cond} {rm : Room} {Pc : Array Value → State → Prop} {Qc : Array Value → State → Outcome → State → Prop} {XC : String → State → State → Prop} {mc ms : Nat} {free : Addr → Prop} {bytes : ByteArray} {maxL : Nat} {ret : Option FieldType} {hh : List (Nat × Nat × Nat × Nat)}
    (hM : vx_Met l y ws rm Pc Qc XC mc ms free) (hblind : FrameBlind Pc) (hrc : rm.cells = mc) (hrs : rm.slots = ms)
    (hframes : rm.frames + 1 ≤ R.frames) (hlocals : W9 + (maxL + 11) + rm.locals ≤ R.locals)
    (hws : ∀ w ∈ ws, ∀ a' U, s.WarmedH U.vm → w.before a' U = true) (hcode : Cond.codeWith y bytes maxL ret hh ∈ ws) (hinit : ∀ a' U, s.WarmedH U.vm → (Cond.initialized y.cls).before a' U = true) :
    vx_Back l R p e below s sargs y len W9 (PreOf R mc ms Pc) (PostOf Qc mc ms free) (vx_Post XC mc ms free) := by
  intro m meth c A g ig mk a X hg hsize hdg hW hn hp
  have h1 : (headSpec ws rm).pre.before a A.U = true := atoms_intro fun w hw => hws w hw _ _ X.warmed
  have h2 : (Cond.codeWith y bytes maxL ret hh).before a A.U = true := hws _ hcode _ _ X.warmed
  have h3 : (Cond.initialized y.cls).before a A.U = true := hinit _ _ X.warmed
  have h4 : A.cells + (headSpec ws rm).room.cells ≤ R.cells := by rw [show (headSpec ws rm).room.cells = mc from hrc]; exact hp.1
  have h5 : A.slots + (headSpec ws rm).room.slots ≤ R.slots := by rw [show (headSpec ws rm).room.slots = ms from hrs]; exact hp.2.1
  have hPc : Pc a (A.U.calling g mk a) := hblind _ _ _ _ hp.2.2
  obtain ⟨U, Ls, c0, s0⟩ := A
  dsimp only [Pt.U, Pt.locs, Pt.cells, Pt.slots] at h1 h2 h3 h4 h5 X hn hPc ⊢
  obtain ⟨m9, methY, cY, hn9, hmY, hcY, -, hlY, -⟩ := Cond.codeWith_spec h2
  cases Option.some.inj (hn9.symm.trans hn)
  obtain ⟨kY, hkY, -⟩ := className_of_methodNamed hn
  have hinitY : kY.init = .initialized := Cond.initialized_spec (findClass_of_methodNamed hn) hkY h3
  have h : At U g.method c below := by rw [hg]; exact X.here
  have hlocals9 : W9 + (maxL + 11) + (headSpec ws rm).room.locals ≤ R.locals := hlocals
  have happ : (headSpec ws rm).appliesLoose y e.platform (U.calling g mk a) = true :=
    Spec.appliesLoose_calling (g := g) h hdg hn hkY hinitY
      (X.room_calling (g := g) (R' := (headSpec ws rm).room) hsize hmY hcY hframes (by rw [hlY]; omega) h4 h5) h1
  obtain ⟨mid, hmid⟩ := h.above
  have hfr : (U.setTop g).frames = (.java g :: mid) ++ below := by rw [State.frames_setTop' g h.top, hmid]; rfl
  obtain ⟨o, s₂, hsteps, -, hend, hq⟩ := Steps.callFree hM p X.admits X.cas X.clock (acts := []) hfr happ hPc trivial
  have hq' : vx_Q Qc XC mc ms free a (U.calling g mk a) o s₂ := hq
  rw [State.frames_setTop' g h.top] at hend
  obtain ⟨g₀, hg0⟩ := Option.isSome_iff_exists.mp h.top
  obtain ⟨r, hr⟩ := State.topJava?_eq_some.mp hg0
  have hr' : (({ U with heap := s₂.heap, slotsUsed := s₂.slotsUsed } : State).setVm s₂.vm).frames = .java g₀ :: r := hr
  rcases hq' with ⟨hqc, L, hfe, hL⟩ | ⟨q, rfl, E, ce, L, hx, hce, hcv, hcl, hW₂, hsm, hL⟩
  · obtain ⟨⟨v, rfl⟩, hW₂, e2, q2, q3, q4, q5, q6⟩ := id hfe
    have e3 : s₂ = ({ (U.calling g mk a).setFrames s₂.frames with heap := s₂.heap, slotsUsed := s₂.slotsUsed } : State).setVm s₂.vm := by
      have : s₂ = ({ s₂ with vm := (U.calling g mk a).vm } : State).setVm s₂.vm := rfl
      rw [e2] at this
      exact this
    obtain ⟨c₂, i₂, len₂, hc₂, hd₂, hf₂⟩ := hend
    have hW' : U.WarmedH s₂.vm := hW₂
    have hcc : c₂ = c := by
      have h1 : s₂.code? g.method = U.code? g.method := by
        rw [State.code?_eq, State.code?_eq, hW'.alike.method?]
      exact Option.some.inj (hc₂.symm.trans (h1.trans h.code))
    subst hcc
    have hlen : len₂ = len := by rw [hdg] at hd₂; cases hd₂; rfl
    subst hlen
    have hs₂ : s₂ = (({ U with heap := s₂.heap, slotsUsed := s₂.slotsUsed } : State).setVm s₂.vm).setTop { g with pc := g.pc + len₂, stack := v.toList ++ g.stack } := by
      refine e3.trans ?_
      rw [hf₂, State.calling_eq h.top, State.setFrames_setFrames, State.setTop_of_frames _ hr', hr]
      rfl
    have hsame : U.sameButNew ({ U with heap := s₂.heap, slotsUsed := s₂.slotsUsed } : State) L mc ms := by
      refine ⟨?_, q2, q3, q4, q5, q6⟩
      obtain ⟨t, ht, -⟩ := State.frames_cons hr
      show ({ U with heap := s₂.heap, slotsUsed := s₂.slotsUsed } : State) = { U.setFrames U.frames with heap := s₂.heap, slotsUsed := s₂.slotsUsed }
      rw [State.setFrames_self ht]
    subst hg
    refine Or.inl ⟨v, ⟨(({ U with heap := s₂.heap, slotsUsed := s₂.slotsUsed } : State).setVm s₂.vm), Ls ++ L, c0 + mc, s0 + ms⟩,
      ⟨X.admits, X.cas, X.clock, X.frames, X.room, X.hears, X.method, X.code, (X.here.setHeapUsed s₂.heap s₂.slotsUsed).setVm hW'.alike, X.tail, State.WarmedH.trans X.warmed hW', X.limits, X.bytes, X.same.trans (hsame.setVm s.vm)⟩,
      ⟨g, mk, s₂, L, rfl, rfl, hqc, rfl, hL, rfl, rfl⟩, ?_⟩
    show Steps p.tables e below _ ((({ U with heap := s₂.heap, slotsUsed := s₂.slotsUsed } : State).setVm s₂.vm).setTop { g with pc := g.pc + len₂, stack := v.toList ++ g.stack })
    rw [← hs₂]
    exact hsteps
  · obtain ⟨e2, q2, q3, q4, q5, q6⟩ := id hsm
    have e3 : s₂ = ({ (U.calling g mk a).setFrames s₂.frames with heap := s₂.heap, slotsUsed := s₂.slotsUsed } : State).setVm s₂.vm := by
      have : s₂ = ({ s₂ with vm := (U.calling g mk a).vm } : State).setVm s₂.vm := rfl
      rw [e2] at this
      exact this
    have hf₂ : s₂.frames = .throwing q :: .java g :: U.frames.tail := hend
    have hW' : U.WarmedH s₂.vm := hW₂
    have hs₂ : s₂ = ((({ U with heap := s₂.heap, slotsUsed := s₂.slotsUsed } : State).setVm s₂.vm).setTop g).pushFrame (.throwing q) := by
      refine e3.trans ?_
      rw [hf₂, State.calling_eq h.top, State.setFrames_setFrames, State.pushFrame, State.frames_setTop _ hr', State.setTop_of_frames _ hr', State.setFrames_setFrames, hr]
      rfl
    have hsame : U.sameButNew ({ U with heap := s₂.heap, slotsUsed := s₂.slotsUsed } : State) L mc ms := by
      refine ⟨?_, q2, q3, q4, q5, q6⟩
      obtain ⟨t, ht, -⟩ := State.frames_cons hr
      show ({ U with heap := s₂.heap, slotsUsed := s₂.slotsUsed } : State) = { U.setFrames U.frames with heap := s₂.heap, slotsUsed := s₂.slotsUsed }
      rw [State.setFrames_self ht]
    subst hg
    refine Or.inr ⟨q, ⟨(({ U with heap := s₂.heap, slotsUsed := s₂.slotsUsed } : State).setVm s₂.vm), Ls ++ L, c0 + mc, s0 + ms⟩,
      ⟨X.admits, X.cas, X.clock, X.frames, X.room, X.hears, X.method, X.code, (X.here.setHeapUsed s₂.heap s₂.slotsUsed).setVm hW'.alike, X.tail, State.WarmedH.trans X.warmed hW', X.limits, X.bytes, X.same.trans (hsame.setVm s.vm)⟩,
      ⟨g, mk, s₂, L, E, ce, rfl, rfl, hx, hce, hcv, hcl, rfl, hL, rfl, rfl⟩, ?_⟩
    show Steps p.tables e below _ (((({ U with heap := s₂.heap, slotsUsed := s₂.slotsUsed } : State).setVm s₂.vm).setTop g).pushFrame (.throwing q))
    rw [← hs₂]
    exact hsteps
end
variable {p : Program} {l : Launch} {e : Env} {R : Room} {s : State} {m : MethodId} {args : Array Value} {below : List Frame} {meth : Method} {c : Code} {T : State} {H : Heap} {locs : List Loc} {cells slots : Nat}
theorem vx_callVX (X : Stand p l e R s m args below meth c T locs cells slots) (hexec : p.tables.exec = Jvm.exec) {own C : String} {index : Nat} {y : MethodName} {bytes : ByteArray} {maxL : Nat} {ret : Option FieldType} {hh : List (Nat × Nat × Nat × Nat)}
    (hown : s.vm.findClass own = some m.cls) (hlink : (Cond.methodLink own index y).before args s = true) (hinst : (Cond.instanceMethod y).before args s = true) (hsel : (Cond.selects C y y).before args s = true)
    (hcode : (Cond.codeWith y bytes maxL ret hh).before args s = true) (hy : y.cls ≠ "java/lang/invoke/MethodHandle" ∧ y.cls ≠ "java/lang/invoke/VarHandle")
    {W9 : Nat} {Pre : Pt → Array Value → Prop} {Post : Pt → Array Value → Option Value → Pt → Prop} {PostX : Pt → Array Value → Addr → Pt → Prop} (hK : vx_Back l R p e below s args y 3 W9 Pre Post PostX)
    {b : Addr} {cellB : Cell} (hcell : T.heap[b]? = some cellB) (hobj : cellB.vm.isStatics = false) (hcls : s.vm.findClass C = some cellB.cls)
    {g : JFrame} (hg : g.method = m) (hsize : g.locals.size = c.maxLocals) {argsL rest : List Value} (hlen : ∀ sig, parseMethodDescriptor y.desc = some sig → argsL.length = sig.parameters.length)
    (hstack : g.stack = argsL.reverse ++ .ref b :: rest) (hW : 2 * g.monitorRoom + (rest.map fun v => v.category).sum ≤ W9) (hdg : decode c.code g.pc = .ok (.invokevirtual index, 3))
    (hpre : ∀ vm₁, s.WarmedH vm₁ → Pre ⟨T.setVm vm₁, locs, cells, slots⟩ (Value.ref b :: argsL).toArray) :
    (∃ (v : Option Value) (vm₁ : Vm) (B : Pt), s.WarmedH vm₁ ∧ Stand p l e R s m args below meth c B.U B.locs B.cells B.slots ∧ Post ⟨T.setVm vm₁, locs, cells, slots⟩ (Value.ref b :: argsL).toArray v B ∧
      ∀ target, Steps p.tables e below (B.U.setTop { g with pc := g.pc + 3, stack := v.toList ++ rest }) target → Steps p.tables e below (T.setTop g) target) ∨
    (∃ (q : Addr) (vm₁ : Vm) (B : Pt), s.WarmedH vm₁ ∧ Stand p l e R s m args below meth c B.U B.locs B.cells B.slots ∧ PostX ⟨T.setVm vm₁, locs, cells, slots⟩ (Value.ref b :: argsL).toArray q B ∧
      Steps p.tables e below (T.setTop g) ((B.U.setTop { g with stack := rest }).pushFrame (.throwing q))) := by
  obtain ⟨mk, methM, hnamed, hmethM, hstM, habM⟩ := Cond.instanceMethod_spec hinst
  obtain ⟨m8, methM', cM, hn8, hmethM', -, -, -, -, -, -, hsigM⟩ := Cond.codeWith_spec hcode
  cases Option.some.inj (hn8.symm.trans hnamed)
  cases hmethM.symm.trans hmethM'
  obtain ⟨c2, r2, m2, q1, q2, q3, q4, kP, hkP, hkPi⟩ := Cond.selects_spec hsel
  cases hcls.symm.trans q1
  cases (State.methodFound?_of_named hnamed hy).symm.trans q2
  cases hnamed.symm.trans q3
  have hselP : selectMethod e.platform s.vm cellB.cls mk = .method mk := by rw [Launch.admits_selectMethod X.admits]; exact q4
  obtain ⟨vm₁, X₁, hstep₁⟩ := X.invokevirtual hexec hown hlink hnamed hmethM hstM hkP hkPi hy (a := b) (cell := cellB) hcell
    (fun z h => by rw [h] at hobj; cases hobj) hselP hmethM habM hkP hkPi (g := g) hg (argsL := argsL) (rest := rest) (hlen _ hsigM) hstack hdg
  rcases hK m meth c ⟨T.setVm vm₁, locs, cells, slots⟩ { g with stack := rest } (.invokevirtual index) mk (Value.ref b :: argsL).toArray X₁ hg hsize hdg hW (X₁.named hnamed) (hpre vm₁ X₁.warmed) with ⟨v, B, X', hpost, hsteps⟩ | ⟨q, B, X', hpost, hsteps⟩
  · exact Or.inl ⟨v, vm₁, B, X₁.warmed, X', hpost, fun target h => hstep₁ _ fun acts => by rw [doInvoke_state]; exact hsteps.trans h⟩
  · exact Or.inr ⟨q, vm₁, B, X₁.warmed, X', hpost, hstep₁ _ fun acts => by rw [doInvoke_state]; exact hsteps⟩
theorem vx_callSX (X : Stand p l e R s m args below meth c T locs cells slots) (hexec : p.tables.exec = Jvm.exec) {own : String} {index : Nat} {y : MethodName} {bytes : ByteArray} {maxL : Nat} {ret : Option FieldType} {hh : List (Nat × Nat × Nat × Nat)}
    (hown : s.vm.findClass own = some m.cls) (hlink : (Cond.methodLink own index y).before args s = true) (hstat : (Cond.static y).before args s = true) (hinit : (Cond.initialized y.cls).before args s = true)
    (hcode : (Cond.codeWith y bytes maxL ret hh).before args s = true) (hy : y.cls ≠ "java/lang/invoke/MethodHandle" ∧ y.cls ≠ "java/lang/invoke/VarHandle")
    {W9 : Nat} {Pre : Pt → Array Value → Prop} {Post : Pt → Array Value → Option Value → Pt → Prop} {PostX : Pt → Array Value → Addr → Pt → Prop} (hK : vx_Back l R p e below s args y 3 W9 Pre Post PostX)
    {g : JFrame} (hg : g.method = m) (hsize : g.locals.size = c.maxLocals) {argsL rest : List Value} (hlen : ∀ sig, parseMethodDescriptor y.desc = some sig → argsL.length = sig.parameters.length)
    (hstack : g.stack = argsL.reverse ++ rest) (hW : 2 * g.monitorRoom + (rest.map fun v => v.category).sum ≤ W9) (hdg : decode c.code g.pc = .ok (.invokestatic index, 3))
    (hpre : ∀ vm₁, s.WarmedH vm₁ → Pre ⟨T.setVm vm₁, locs, cells, slots⟩ argsL.toArray) :
    (∃ (v : Option Value) (vm₁ : Vm) (B : Pt), s.WarmedH vm₁ ∧ Stand p l e R s m args below meth c B.U B.locs B.cells B.slots ∧ Post ⟨T.setVm vm₁, locs, cells, slots⟩ argsL.toArray v B ∧
      ∀ target, Steps p.tables e below (B.U.setTop { g with pc := g.pc + 3, stack := v.toList ++ rest }) target → Steps p.tables e below (T.setTop g) target) ∨
    (∃ (q : Addr) (vm₁ : Vm) (B : Pt), s.WarmedH vm₁ ∧ Stand p l e R s m args below meth c B.U B.locs B.cells B.slots ∧ PostX ⟨T.setVm vm₁, locs, cells, slots⟩ argsL.toArray q B ∧
      Steps p.tables e below (T.setTop g) ((B.U.setTop { g with stack := rest }).pushFrame (.throwing q))) := by
  obtain ⟨mk, methM, cM, hnamed, hmethM, -, -, -, -, -, -, hsigM⟩ := Cond.codeWith_spec hcode
  have hstatic : methM.isStatic = true := Cond.static_spec hnamed hmethM hstat
  obtain ⟨kP, hkP, -⟩ := className_of_methodNamed hnamed
  have hinitP : kP.init = .initialized := Cond.initialized_spec (findClass_of_methodNamed hnamed) hkP hinit
  obtain ⟨vm₁, X₁, hstep₁⟩ := X.invokestatic hexec hown hlink hnamed hmethM hstatic hkP hinitP hy (g := g) hg (argsL := argsL) (rest := rest) (hlen _ hsigM) hstack hdg
  rcases hK m meth c ⟨T.setVm vm₁, locs, cells, slots⟩ { g with stack := rest } (.invokestatic index) mk argsL.toArray X₁ hg hsize hdg hW (X₁.named hnamed) (hpre vm₁ X₁.warmed) with ⟨v, B, X', hpost, hsteps⟩ | ⟨q, B, X', hpost, hsteps⟩
  · exact Or.inl ⟨v, vm₁, B, X₁.warmed, X', hpost, fun target h => hstep₁ _ fun acts => by rw [doInvoke_state]; exact hsteps.trans h⟩
  · exact Or.inr ⟨q, vm₁, B, X₁.warmed, X', hpost, hstep₁ _ fun acts => by rw [doInvoke_state]; exact hsteps⟩
theorem vx_callVW (X : Stand p l e R s m args below meth c T locs cells slots) (hexec : p.tables.exec = Jvm.exec) {own C : String} {index : Nat} {y : MethodName} {bytes : ByteArray} {maxL : Nat} {ret : Option FieldType} {hh : List (Nat × Nat × Nat × Nat)}
    (hown : s.vm.findClass own = some m.cls) (hlink : (Cond.methodLink own index y).before args s = true) (hinst : (Cond.instanceMethod y).before args s = true) (hsel : (Cond.selects C y y).before args s = true)
    (hcode : (Cond.codeWith y bytes maxL ret hh).before args s = true) (hy : y.cls ≠ "java/lang/invoke/MethodHandle" ∧ y.cls ≠ "java/lang/invoke/VarHandle")
    {W9 : Nat} {Pre : Pt → Array Value → Prop} {Post : Pt → Array Value → Option Value → Pt → Prop} (hK : Back l R p e below s args y 3 W9 Pre Post)
    {b : Addr} {cellB : Cell} (hcell : T.heap[b]? = some cellB) (hobj : cellB.vm.isStatics = false) (hcls : s.vm.findClass C = some cellB.cls)
    {g : JFrame} (hg : g.method = m) (hsize : g.locals.size = c.maxLocals) {argsL rest : List Value} (hlen : ∀ sig, parseMethodDescriptor y.desc = some sig → argsL.length = sig.parameters.length)
    (hstack : g.stack = argsL.reverse ++ .ref b :: rest) (hW : 2 * g.monitorRoom + (rest.map fun v => v.category).sum ≤ W9) (hdg : decode c.code g.pc = .ok (.invokevirtual index, 3))
    (hpre : ∀ vm₁, s.WarmedH vm₁ → Pre ⟨T.setVm vm₁, locs, cells, slots⟩ (Value.ref b :: argsL).toArray) :
    ∃ (v : Option Value) (vm₁ : Vm) (B : Pt), s.WarmedH vm₁ ∧ Stand p l e R s m args below meth c B.U B.locs B.cells B.slots ∧ Post ⟨T.setVm vm₁, locs, cells, slots⟩ (Value.ref b :: argsL).toArray v B ∧
      ∀ target, Steps p.tables e below (B.U.setTop { g with pc := g.pc + 3, stack := v.toList ++ rest }) target → Steps p.tables e below (T.setTop g) target := by
  obtain ⟨mk, methM, hnamed, hmethM, hstM, habM⟩ := Cond.instanceMethod_spec hinst
  obtain ⟨m8, methM', cM, hn8, hmethM', -, -, -, -, -, -, hsigM⟩ := Cond.codeWith_spec hcode
  cases Option.some.inj (hn8.symm.trans hnamed)
  cases hmethM.symm.trans hmethM'
  obtain ⟨c2, r2, m2, q1, q2, q3, q4, kP, hkP, hkPi⟩ := Cond.selects_spec hsel
  cases hcls.symm.trans q1
  cases (State.methodFound?_of_named hnamed hy).symm.trans q2
  cases hnamed.symm.trans q3
  have hselP : selectMethod e.platform s.vm cellB.cls mk = .method mk := by rw [Launch.admits_selectMethod X.admits]; exact q4
  obtain ⟨vm₁, X₁, hstep₁⟩ := X.invokevirtual hexec hown hlink hnamed hmethM hstM hkP hkPi hy (a := b) (cell := cellB) hcell
    (fun z h => by rw [h] at hobj; cases hobj) hselP hmethM habM hkP hkPi (g := g) hg (argsL := argsL) (rest := rest) (hlen _ hsigM) hstack hdg
  obtain ⟨v, B, X', hpost, hsteps⟩ := hK m meth c ⟨T.setVm vm₁, locs, cells, slots⟩ { g with stack := rest } (.invokevirtual index) mk (Value.ref b :: argsL).toArray X₁ hg hsize hdg hW (X₁.named hnamed) (hpre vm₁ X₁.warmed)
  exact ⟨v, vm₁, B, X₁.warmed, X', hpost, fun target h => hstep₁ _ fun acts => by rw [doInvoke_state]; exact hsteps.trans h⟩
abbrev vx_CVW (R : Room) (s : State) (args : Array Value) (own C : String) (index : Nat) (y : MethodName) (bytes : ByteArray) (maxL : Nat) (ret : Option FieldType) (hh : List (Nat × Nat × Nat × Nat)) (ws : List Cond) (rm : Room) (mc ms n : Nat) : Prop :=
  (rm.cells = mc ∧ rm.slots = ms ∧ rm.frames + 1 ≤ R.frames ∧ 8 + (maxL + 11) + rm.locals ≤ R.locals ∧ (∀ w ∈ ws, ∀ (a' : Array Value) (U : State), s.WarmedH U.vm → w.before a' U = true) ∧ Cond.codeWith y bytes maxL ret hh ∈ ws) ∧
  (Cond.codeWith y bytes maxL ret hh).before args s = true ∧ (Cond.initialized y.cls).before args s = true ∧ (y.cls ≠ "java/lang/invoke/MethodHandle" ∧ y.cls ≠ "java/lang/invoke/VarHandle") ∧
  (∀ sig, parseMethodDescriptor y.desc = some sig → n = sig.parameters.length) ∧ (Cond.methodLink own index y).before args s = true ∧ (Cond.instanceMethod y).before args s = true ∧ (Cond.selects C y y).before args s = true
theorem vx_cwVW {own C : String} {index maxL mc ms : Nat} {y : MethodName} {bytes : ByteArray} {ret : Option FieldType} {hh : List (Nat × Nat × Nat × Nat)} {Ts ws ws' : List Cond} {rm : Room} (n : Nat) (ht : ∀ w ∈ Ts, w.before args s = true) (hT : GoodIn Ts (wsV own index C y ws)) (hw : ws = Cond.codeWith y bytes maxL ret hh :: ws') (hrc : rm.cells = mc) (hrs : rm.slots = ms)
    (hd : y.cls = C ∧ y.cls ≠ "java/lang/invoke/MethodHandle" ∧ y.cls ≠ "java/lang/invoke/VarHandle" ∧ (parseMethodDescriptor y.desc).map (fun d => d.parameters.length) = some n) (hR : rm.frames + 1 ≤ R.frames ∧ 8 + (maxL + 11) + rm.locals ≤ R.locals) :
    vx_CVW R s args own C index y bytes maxL ret hh ws rm mc ms n := by
  obtain ⟨hC, hd⟩ := hd
  subst hC
  have ok : ∀ w ∈ wsV own index y.cls y ws, w.before args s = true := fun w h => ht w (hT w h).1
  have hG : GoodIn Ts ws := fun w h => hT w (by unfold wsV; exact List.mem_append_right _ h)
  have hc : Cond.codeWith y bytes maxL ret hh ∈ ws := by rw [hw]; exact List.mem_cons_self
  refine ⟨⟨hrc, hrs, hR.1, hR.2, pay_in ht hG, hc⟩, ht _ (hG _ hc).1, ok _ (by simp [wsV]), ⟨hd.1, hd.2.1⟩, fun sig h => ?_, ok _ (by simp [wsV]), ok _ (by simp [wsV]), ok _ (by simp [wsV])⟩
  have h2 := hd.2.2
  rw [h] at h2
  exact (Option.some.inj h2).symm
theorem vx_runVW {y : MethodName} {bytes cc : ByteArray} {maxL nL mc ms n index : Nat} {ret : Option FieldType} {hh : List (Nat × Nat × Nat × Nat)} {ws : List Cond} {rm : Room} {Pc : Array Value → State → Prop} {Qc : Array Value → State → Outcome → State → Prop} {free : Addr → Prop} {Ts : List Cond} {own C : String} {b : Addr} {As rest : List Value} {g : JFrame}
    (S : CallFix p m c cc nL s args Ts own) (hM : Met l y ws rm Pc Qc mc ms free) (cw : vx_CVW R s args own C index y bytes maxL ret hh ws rm mc ms n) (hp : PreV s H C b Pc As)
    (hg : g.method = m) (hn : As.length = n) (hsize : g.locals.size = nL) (hstack : g.stack = As.reverse ++ .ref b :: rest) (hW : 2 * g.monitorRoom + (rest.map fun v => v.category).sum ≤ 8) (hdg : decode cc g.pc = .ok (.invokevirtual index, 3)) (hf : cells + mc ≤ R.cells ∧ slots + ms ≤ R.slots) :
    va_Run p l e R s m args below meth c H locs cells slots mc ms g rest (Qc (Value.ref b :: As).toArray) free := by
  obtain ⟨⟨hrc, hrs, hfr, hlo, hws, hcw⟩, hcode, hini, hy, hlen, hl, hin, hse⟩ := cw
  have hK : Back l R p e below s args y 3 8 (PreOf R mc ms Pc) (PostOf Qc mc ms free) := va_backW (hh := hh) (bytes := bytes) (maxL := maxL) (ret := ret) hM hp.1 hrc hrs hfr hlo hws hcw (fun a' U hW => word_at hW (Or.inl (by first | rfl | simp [Cond.onTables, Cond.keeps, Cond.steady])) hini)
  obtain ⟨hx, hb, hml, ho, -⟩ := S
  obtain ⟨-, ⟨cellB, hcB, hoB, hclB⟩, hPc⟩ := hp
  intro T hT X
  obtain ⟨v, vm₁, ⟨U', l2, c2, s2⟩, hW₁, X', ⟨g', mk, t, L, e1, e2, hq, h1, hL, h2, h3⟩, st⟩ := vx_callVW X hx (C := C) (hh := hh) (bytes := bytes) (maxL := maxL) (ret := ret) ho hl hin hse hcode hy hK (by rw [hT]; exact hcB) hoB hclB hg (hsize.trans hml.symm) (argsL := As) (rest := rest) (fun sig h => hn.trans (hlen sig h)) hstack hW (by rw [hb]; exact hdg)
    (fun vm₁ hW₁ => ⟨hf.1, hf.2, hPc (T.setVm vm₁) hT hW₁⟩)
  dsimp only [Pt.U, Pt.locs, Pt.cells, Pt.slots] at X' e1 e2 h1 h2 h3 st
  subst h1; subst h2; subst h3
  exact ⟨v, (T.setVm vm₁).calling g' mk (Value.ref b :: As).toArray, t, U', L, hT, X', hL, e1, e2, hq, st⟩
section
variable {y : MethodName} {bytes cc : ByteArray} {maxL nL mc ms n index : Nat} {ret : Option FieldType} {ws : List Cond} {rm : Room} {Pc : Array Value → State → Prop} {Qc : Array Value → State → Outcome → State → Prop} {XC : String → State → State → Prop} {free : Addr → Prop} {Ts : List Cond} {own C : String} {b : Addr} {As rest : List Value} {g : JFrame}
theorem vx_runVX {hh : List (Nat × Nat × Nat × Nat)} (S : CallFix p m c cc nL s args Ts own) (hM : vx_Met l y ws rm Pc Qc XC mc ms free) (cw : vx_CVW R s args own C index y bytes maxL ret hh ws rm mc ms n) (hp : PreV s H C b Pc As)
    (hg : g.method = m) (hn : As.length = n) (hsize : g.locals.size = nL) (hstack : g.stack = As.reverse ++ .ref b :: rest) (hW : 2 * g.monitorRoom + (rest.map fun v => v.category).sum ≤ 8) (hdg : decode cc g.pc = .ok (.invokevirtual index, 3)) (hf : cells + mc ≤ R.cells ∧ slots + ms ≤ R.slots) :
    vx_Run p l e R s m args below meth c H locs cells slots mc ms g rest (Qc (Value.ref b :: As).toArray) XC free := by
  obtain ⟨⟨hrc, hrs, hfr, hlo, hws, hcw⟩, hcode, hini, hy, hlen, hl, hin, hse⟩ := cw
  have hK : vx_Back l R p e below s args y 3 8 (PreOf R mc ms Pc) (PostOf Qc mc ms free) (vx_Post XC mc ms free) := vx_backW (hh := hh) (bytes := bytes) (maxL := maxL) (ret := ret) hM hp.1 hrc hrs hfr hlo hws hcw (fun a' U hW => word_at hW (Or.inl (by first | rfl | simp [Cond.onTables, Cond.keeps, Cond.steady])) hini)
  obtain ⟨hx, hb, hml, ho, -⟩ := S
  obtain ⟨-, ⟨cellB, hcB, hoB, hclB⟩, hPc⟩ := hp
  intro T hT X
  rcases vx_callVX X hx (C := C) (hh := hh) (bytes := bytes) (maxL := maxL) (ret := ret) ho hl hin hse hcode hy hK (by rw [hT]; exact hcB) hoB hclB hg (hsize.trans hml.symm) (argsL := As) (rest := rest) (fun sig h => hn.trans (hlen sig h)) hstack hW (by rw [hb]; exact hdg)
    (fun vm₁ hW₁ => ⟨hf.1, hf.2, hPc (T.setVm vm₁) hT hW₁⟩) with ⟨v, vm₁, ⟨U', l2, c2, s2⟩, hW₁, X', ⟨g', mk, t, L, e1, e2, hq, h1, hL, h2, h3⟩, st⟩ | ⟨q, vm₁, ⟨U', l2, c2, s2⟩, hW₁, X', ⟨g', mk, t, L, E, ce, e1, e2, hq, hce, hcv, hcl, h1, hL, h2, h3⟩, st⟩
  · dsimp only [Pt.U, Pt.locs, Pt.cells, Pt.slots] at X' e1 e2 h1 h2 h3 st
    subst h1; subst h2; subst h3
    exact Or.inl ⟨v, (T.setVm vm₁).calling g' mk (Value.ref b :: As).toArray, t, U', L, hT, X', hL, e1, e2, hq, st⟩
  · dsimp only [Pt.U, Pt.locs, Pt.cells, Pt.slots] at X' e1 e2 h1 h2 h3 st hcl
    subst h1; subst h2; subst h3
    exact Or.inr ⟨q, (T.setVm vm₁).calling g' mk (Value.ref b :: As).toArray, t, U', L, E, ce, hT, X', hL, e1, e2, hq, hce, hcv, vx_cls hW₁ hcl, st⟩
theorem vx_runSX {hh : List (Nat × Nat × Nat × Nat)} (S : CallFix p m c cc nL s args Ts own) (hM : vx_Met l y ws rm Pc Qc XC mc ms free) (cw : vx_CSW R s args own index y bytes maxL ret hh ws rm mc ms n) (hp : PreS s H Pc As)
    (hg : g.method = m) (hn : As.length = n) (hsize : g.locals.size = nL) (hstack : g.stack = As.reverse ++ rest) (hW : 2 * g.monitorRoom + (rest.map fun v => v.category).sum ≤ 8) (hdg : decode cc g.pc = .ok (.invokestatic index, 3)) (hf : cells + mc ≤ R.cells ∧ slots + ms ≤ R.slots) :
    vx_Run p l e R s m args below meth c H locs cells slots mc ms g rest (Qc As.toArray) XC free := by
  obtain ⟨⟨hrc, hrs, hfr, hlo, hws, hcw⟩, hcode, hini, hy, hlen, hl, hstt⟩ := cw
  have hK : vx_Back l R p e below s args y 3 8 (PreOf R mc ms Pc) (PostOf Qc mc ms free) (vx_Post XC mc ms free) := vx_backW (hh := hh) (bytes := bytes) (maxL := maxL) (ret := ret) hM hp.1 hrc hrs hfr hlo hws hcw (fun a' U hW => word_at hW (Or.inl (by first | rfl | simp [Cond.onTables, Cond.keeps, Cond.steady])) hini)
  obtain ⟨hx, hb, hml, ho, -⟩ := S
  intro T hT X
  rcases vx_callSX X hx (hh := hh) (bytes := bytes) (maxL := maxL) (ret := ret) ho hl hstt hini hcode hy hK hg (hsize.trans hml.symm) (argsL := As) (rest := rest) (fun sig h => hn.trans (hlen sig h)) hstack hW (by rw [hb]; exact hdg)
    (fun vm₁ hW₁ => ⟨hf.1, hf.2, hp.2 (T.setVm vm₁) hT hW₁⟩) with ⟨v, vm₁, ⟨U', l2, c2, s2⟩, hW₁, X', ⟨g', mk, t, L, e1, e2, hq, h1, hL, h2, h3⟩, st⟩ | ⟨q, vm₁, ⟨U', l2, c2, s2⟩, hW₁, X', ⟨g', mk, t, L, E, ce, e1, e2, hq, hce, hcv, hcl, h1, hL, h2, h3⟩, st⟩
  · dsimp only [Pt.U, Pt.locs, Pt.cells, Pt.slots] at X' e1 e2 h1 h2 h3 st
    subst h1; subst h2; subst h3
    exact Or.inl ⟨v, (T.setVm vm₁).calling g' mk As.toArray, t, U', L, hT, X', hL, e1, e2, hq, st⟩
  · dsimp only [Pt.U, Pt.locs, Pt.cells, Pt.slots] at X' e1 e2 h1 h2 h3 st hcl
    subst h1; subst h2; subst h3
    exact Or.inr ⟨q, (T.setVm vm₁).calling g' mk As.toArray, t, U', L, E, ce, hT, X', hL, e1, e2, hq, hce, hcv, vx_cls hW₁ hcl, st⟩
end
end VXH
theorem vx_ofWH {l : Launch} {y : MethodName} {ws ws' : List Cond} {rm : Room} {Pc : Array Value → State → Prop} {Qc : Array Value → State → Outcome → State → Prop} {XC : String → State → State → Prop} {mc ms : Nat} {free : Addr → Prop} {cc : ByteArray} {maxL : Nat} {ret : Option FieldType} {hh : List (Nat × Nat × Nat × Nat)}
    (hy : plainName y.cls = true) (hw : ws = Cond.codeWith y cc maxL ret hh :: ws')
    (body : ∀ p e s m args below meth c s₁, BodyLoose p l y (headSpec ws rm) cc maxL ret e s m args below meth c s₁ → c.maxLocals = maxL → Pc args s →
      W p l e (headSpec ws rm).room s m args below meth c s.heap [] 0 0 (vx_MQ below Qc XC args s mc ms free) (entryFrame m args maxL)) : vx_Met l y ws rm Pc Qc XC mc ms free := by
  refine MetFree.of_bodyS (code := cc) (maxLocals := maxL) (ret := ret) hy ?_ ?_
  · intro args s m h hn
    obtain ⟨m9, meth, c, hn9, h1, h2, h3, h4, -, h5, h6, -⟩ := Cond.codeWith_spec (atoms_spec (ws := ws) h _ (by rw [hw]; exact List.mem_cons_self))
    cases hn.symm.trans hn9
    exact ⟨meth, c, h1, h2, h3, h4, h5, h6⟩
  · intro p e s m args below meth c s₁ B hml hP _
    have hh0 : s₁.heap = s.heap := by rw [B.state]; rfl
    obtain ⟨t, a1, o, b1, b2, b3⟩ := body p e s m args below meth c s₁ B hml hP s₁ hh0 (Stand.of_body B)
    exact ⟨t, o, a1, b1, b2, b3⟩
/-! ===== END ===== -/

/-! ===== BEGIN printed: names, fields, word lists, decode rows ===== -/
end
section
/-! Names: classes, fields, methods, words, decode rows. Written by wip/gen/names.py. -/
def GW : List Cond := lw_tbl.filter goodWord
theorem gw_at {w : Cond} (i : Nat) (h : tables_1[i]? = some w) (hg : goodWord w = true) : w ∈ GW := List.mem_filter.mpr ⟨List.mem_append_right _ (List.mem_of_getElem? h), hg⟩
theorem gw_sel {y : MethodName} {n : Nat} (i : Nat) (h : lw_privs[i]? = some (y, n)) (hg : goodWord (Cond.selects y.cls y y) = true) : Cond.selects y.cls y y ∈ GW := List.mem_filter.mpr ⟨List.mem_append_left _ (List.mem_map.mpr ⟨(y, n), List.mem_of_getElem? h, rfl⟩), hg⟩
theorem gw_good {w : Cond} (h : w ∈ GW) : goodWord w = true := (List.mem_filter.mp h).2
theorem gw_in {c d : Cond} (h : d ∈ GW) : GoodIn (c :: GW) (d :: GW) := fun w hw => by
  rcases List.mem_cons.mp hw with rfl | hw
  · exact ⟨List.mem_cons_of_mem _ h, good_of_word (gw_good h)⟩
  · exact ⟨List.mem_cons_of_mem _ hw, good_of_word (gw_good hw)⟩
def RF : String := "LiquidChecker$Function"
def TF : u_T := fun k => match k with
  | 0 => ("LiquidChecker$Function", "demands", "LLiquidChecker$Relations;", true)
  | 1 => ("LiquidChecker$Function", "promises", "LLiquidChecker$Relations;", true)
  | 2 => ("LiquidChecker$Function", "statements", "[LLiquidChecker$Statement;", true)
  | 3 => ("LiquidChecker$Function", "openPlaces", "[I", true)
  | 4 => ("LiquidChecker$Function", "size", "I", false)
  | 5 => ("LiquidChecker$Function", "openIfs", "I", false)
  | 6 => ("LiquidChecker$Function", "ifs", "I", false)
  | _ => ("LiquidChecker$Function", "given", "I", false)
def tyF : Nat → FieldType := fun k => match k with
  | 0 => .object "LiquidChecker$Relations"
  | 1 => .object "LiquidChecker$Relations"
  | 2 => .array (.object "LiquidChecker$Statement")
  | 3 => .array .int
  | 4 => .int
  | 5 => .int
  | 6 => .int
  | _ => .int
theorem nmF : ∀ a, a < 8 → ∀ b, b < 8 → a ≠ b → (TF a).2.1 ≠ (TF b).2.1 := by decide +kernel
theorem tyF_ok : ∀ k, k < 8 → parseFieldDescriptor (TF k).2.2.1 = some (tyF k) := by decide +kernel
def RK : String := "LiquidChecker$Known"
def TK : u_T := fun k => match k with
  | 0 => ("LiquidChecker$Known", "bounds", "[I", true)
  | _ => ("LiquidChecker$Known", "possible", "Z", false)
def tyK : Nat → FieldType := fun k => match k with
  | 0 => .array .int
  | _ => .boolean
theorem nmK : ∀ a, a < 2 → ∀ b, b < 2 → a ≠ b → (TK a).2.1 ≠ (TK b).2.1 := by decide +kernel
theorem tyK_ok : ∀ k, k < 2 → parseFieldDescriptor (TK k).2.2.1 = some (tyK k) := by decide +kernel
def RR : String := "LiquidChecker$Relations"
def TR : u_T := fun k => match k with
  | 0 => ("LiquidChecker$Relations", "a", "[I", true)
  | 1 => ("LiquidChecker$Relations", "b", "[I", true)
  | 2 => ("LiquidChecker$Relations", "k", "[I", true)
  | _ => ("LiquidChecker$Relations", "size", "I", false)
def tyR : Nat → FieldType := fun k => match k with
  | 0 => .array .int
  | 1 => .array .int
  | 2 => .array .int
  | _ => .int
theorem nmR : ∀ a, a < 4 → ∀ b, b < 4 → a ≠ b → (TR a).2.1 ≠ (TR b).2.1 := by decide +kernel
theorem tyR_ok : ∀ k, k < 4 → parseFieldDescriptor (TR k).2.2.1 = some (tyR k) := by decide +kernel
def RS : String := "LiquidChecker$Statement"
def TS : u_T := fun k => match k with
  | 0 => ("LiquidChecker$Statement", "kind", "I", false)
  | 1 => ("LiquidChecker$Statement", "a", "I", false)
  | 2 => ("LiquidChecker$Statement", "b", "I", false)
  | 3 => ("LiquidChecker$Statement", "c", "I", false)
  | 4 => ("LiquidChecker$Statement", "k", "I", false)
  | _ => ("LiquidChecker$Statement", "leadsTo", "I", false)
def tyS : Nat → FieldType := fun k => match k with
  | 0 => .int
  | 1 => .int
  | 2 => .int
  | 3 => .int
  | 4 => .int
  | _ => .int
theorem nmS : ∀ a, a < 6 → ∀ b, b < 6 → a ≠ b → (TS a).2.1 ≠ (TS b).2.1 := by decide +kernel
theorem tyS_ok : ∀ k, k < 6 → parseFieldDescriptor (TS k).2.2.1 = some (tyS k) := by decide +kernel
def RW : String := "LiquidChecker$Walk"
def TW : u_T := fun k => match k with
  | 0 => ("LiquidChecker$Walk", "known", "LLiquidChecker$Known;", true)
  | 1 => ("LiquidChecker$Walk", "waiting", "[LLiquidChecker$Known;", true)
  | 2 => ("LiquidChecker$Walk", "waitingPlaces", "[I", true)
  | 3 => ("LiquidChecker$Walk", "waitingSides", "I", false)
  | 4 => ("LiquidChecker$Walk", "askedPlace", "I", false)
  | 5 => ("LiquidChecker$Walk", "askedA", "I", false)
  | 6 => ("LiquidChecker$Walk", "askedB", "I", false)
  | 7 => ("LiquidChecker$Walk", "greatest", "I", false)
  | 8 => ("LiquidChecker$Walk", "placesCome", "I", false)
  | 9 => ("LiquidChecker$Walk", "leastUnshown", "I", false)
  | _ => ("LiquidChecker$Walk", "ended", "I", false)
def tyW : Nat → FieldType := fun k => match k with
  | 0 => .object "LiquidChecker$Known"
  | 1 => .array (.object "LiquidChecker$Known")
  | 2 => .array .int
  | 3 => .int
  | 4 => .int
  | 5 => .int
  | 6 => .int
  | 7 => .int
  | 8 => .int
  | 9 => .int
  | _ => .int
theorem nmW : ∀ a, a < 11 → ∀ b, b < 11 → a ≠ b → (TW a).2.1 ≠ (TW b).2.1 := by decide +kernel
theorem tyW_ok : ∀ k, k < 11 → parseFieldDescriptor (TW k).2.2.1 = some (tyW k) := by decide +kernel
def RC : String := "LiquidChecker"
def TC : u_T := fun k => match k with
  | 0 => ("LiquidChecker", "functions", "[LLiquidChecker$Function;", true)
  | 1 => ("LiquidChecker", "walk", "LLiquidChecker$Walk;", true)
  | _ => ("LiquidChecker", "known", "LLiquidChecker$Known;", true)
def tyC : Nat → FieldType := fun k => match k with
  | 0 => .array (.object "LiquidChecker$Function")
  | 1 => .object "LiquidChecker$Walk"
  | _ => .object "LiquidChecker$Known"
theorem nmC : ∀ a, a < 3 → ∀ b, b < 3 → a ≠ b → (TC a).2.1 ≠ (TC b).2.1 := by decide +kernel
theorem tyC_ok : ∀ k, k < 3 → parseFieldDescriptor (TC k).2.2.1 = some (tyC k) := by decide +kernel
def RM : String := "LiquidCheckerModel"
def TM : u_T := fun k => match k with
  | 0 => ("LiquidCheckerModel", "thrown", "I", false)
  | 1 => ("LiquidCheckerModel", "rA", "[I", true)
  | 2 => ("LiquidCheckerModel", "rB", "[I", true)
  | 3 => ("LiquidCheckerModel", "rK", "[I", true)
  | 4 => ("LiquidCheckerModel", "relations", "[I", true)
  | 5 => ("LiquidCheckerModel", "sKind", "[I", true)
  | 6 => ("LiquidCheckerModel", "sA", "[I", true)
  | 7 => ("LiquidCheckerModel", "sB", "[I", true)
  | 8 => ("LiquidCheckerModel", "sC", "[I", true)
  | 9 => ("LiquidCheckerModel", "sK", "[I", true)
  | 10 => ("LiquidCheckerModel", "size", "[I", true)
  | 11 => ("LiquidCheckerModel", "ifNumber", "[I", true)
  | 12 => ("LiquidCheckerModel", "elseAt", "[I", true)
  | 13 => ("LiquidCheckerModel", "endAt", "[I", true)
  | 14 => ("LiquidCheckerModel", "ifs", "[I", true)
  | 15 => ("LiquidCheckerModel", "open", "[I", true)
  | 16 => ("LiquidCheckerModel", "opened", "[I", true)
  | 17 => ("LiquidCheckerModel", "apart", "[J", true)
  | 18 => ("LiquidCheckerModel", "feasible", "Z", false)
  | 19 => ("LiquidCheckerModel", "met", "I", false)
  | 20 => ("LiquidCheckerModel", "function", "I", false)
  | 21 => ("LiquidCheckerModel", "least", "I", false)
  | 22 => ("LiquidCheckerModel", "ends", "I", false)
  | 23 => ("LiquidCheckerModel", "came", "[Z", true)
  | 24 => ("LiquidCheckerModel", "seekPlace", "I", false)
  | 25 => ("LiquidCheckerModel", "seekA", "I", false)
  | 26 => ("LiquidCheckerModel", "seekB", "I", false)
  | 27 => ("LiquidCheckerModel", "most", "J", false)
  | _ => ("LiquidCheckerModel", "seen", "Z", false)
def tyM : Nat → FieldType := fun k => match k with
  | 0 => .int
  | 1 => .array .int
  | 2 => .array .int
  | 3 => .array .int
  | 4 => .array .int
  | 5 => .array .int
  | 6 => .array .int
  | 7 => .array .int
  | 8 => .array .int
  | 9 => .array .int
  | 10 => .array .int
  | 11 => .array .int
  | 12 => .array .int
  | 13 => .array .int
  | 14 => .array .int
  | 15 => .array .int
  | 16 => .array .int
  | 17 => .array .long
  | 18 => .boolean
  | 19 => .int
  | 20 => .int
  | 21 => .int
  | 22 => .int
  | 23 => .array .boolean
  | 24 => .int
  | 25 => .int
  | 26 => .int
  | 27 => .long
  | _ => .boolean
theorem nmM : ∀ a, a < 29 → ∀ b, b < 29 → a ≠ b → (TM a).2.1 ≠ (TM b).2.1 := by decide +kernel
theorem tyM_ok : ∀ k, k < 29 → parseFieldDescriptor (TM k).2.2.1 = some (tyM k) := by decide +kernel
def RL : String := "LiquidCheckerLaw"
abbrev zCl : List vw_C := [(RF, TF, 8), (RK, TK, 2), (RR, TR, 4), (RS, TS, 6), (RW, TW, 11), (RC, TC, 3), (RM, TM, 29)]
end
section
theorem gw0 : (Jvm.Cond.initialized "LiquidCheckerLaw") ∈ GW := gw_at 0 (by decide +kernel) (by decide +kernel)
theorem gw1 : (Jvm.Cond.initialized "LiquidChecker") ∈ GW := gw_at 1 (by decide +kernel) (by decide +kernel)
theorem gw2 : (Jvm.Cond.initialized "LiquidChecker$Walk") ∈ GW := gw_at 2 (by decide +kernel) (by decide +kernel)
theorem gw3 : (Jvm.Cond.initialized "LiquidChecker$Known") ∈ GW := gw_at 3 (by decide +kernel) (by decide +kernel)
theorem gw4 : (Jvm.Cond.initialized "LiquidChecker$Function") ∈ GW := gw_at 4 (by decide +kernel) (by decide +kernel)
theorem gw5 : (Jvm.Cond.initialized "LiquidChecker$Relations") ∈ GW := gw_at 5 (by decide +kernel) (by decide +kernel)
theorem gw6 : (Jvm.Cond.initialized "LiquidChecker$Statement") ∈ GW := gw_at 6 (by decide +kernel) (by decide +kernel)
theorem gw7 : (Jvm.Cond.initialized "LiquidCheckerModel") ∈ GW := gw_at 7 (by decide +kernel) (by decide +kernel)
theorem gw8 : (Jvm.Cond.initialized "java/lang/Throwable") ∈ GW := gw_at 8 (by decide +kernel) (by decide +kernel)
theorem gw9 : (Jvm.Cond.initialized "java/lang/Exception") ∈ GW := gw_at 9 (by decide +kernel) (by decide +kernel)
theorem gw10 : (Jvm.Cond.initialized "java/lang/RuntimeException") ∈ GW := gw_at 10 (by decide +kernel) (by decide +kernel)
theorem gw11 : (Jvm.Cond.initialized "java/lang/IllegalArgumentException") ∈ GW := gw_at 11 (by decide +kernel) (by decide +kernel)
theorem gw12 : (Jvm.Cond.initialized "java/lang/IllegalStateException") ∈ GW := gw_at 12 (by decide +kernel) (by decide +kernel)
theorem gw13 : (Jvm.Cond.initialized "java/lang/UnsupportedOperationException") ∈ GW := gw_at 13 (by decide +kernel) (by decide +kernel)
theorem gw14 : (Jvm.Cond.initialized "java/util/Arrays") ∈ GW := gw_at 14 (by decide +kernel) (by decide +kernel)
theorem gw15 : (Jvm.Cond.initialized "java/lang/Math") ∈ GW := gw_at 15 (by decide +kernel) (by decide +kernel)
theorem gw16 : (Jvm.Cond.initialized "java/lang/System") ∈ GW := gw_at 16 (by decide +kernel) (by decide +kernel)
theorem gw17 : (Jvm.Cond.initialized "java/util/NoSuchElementException") ∈ GW := gw_at 17 (by decide +kernel) (by decide +kernel)
theorem gw18 : (Jvm.Cond.initialized "java/lang/ArithmeticException") ∈ GW := gw_at 18 (by decide +kernel) (by decide +kernel)
theorem gw19 : (Jvm.Cond.classLink "LiquidCheckerLaw" (8 : Nat) "LiquidChecker") ∈ GW := gw_at 19 (by decide +kernel) (by decide +kernel)
theorem gw20 : (Jvm.Cond.instantiable "LiquidChecker" (3 : Nat)) ∈ GW := gw_at 20 (by decide +kernel) (by decide +kernel)
theorem gw21 : (Jvm.Cond.methodLink "LiquidCheckerLaw" (51 : Nat) ({ cls := "LiquidChecker", name := "<init>", desc := "()V" } : Jvm.MethodName)) ∈ GW := gw_at 21 (by decide +kernel) (by decide +kernel)
theorem gw22 : (Jvm.Cond.instanceMethod ({ cls := "LiquidChecker", name := "<init>", desc := "()V" } : Jvm.MethodName)) ∈ GW := gw_at 22 (by decide +kernel) (by decide +kernel)
theorem gw23 : (Jvm.Cond.code ({ cls := "LiquidChecker", name := "<init>", desc := "()V" } : Jvm.MethodName) prog_1_method_1_code (2 : Nat) (Option.none : Option Jvm.ClassFile.FieldType)) ∈ GW := gw_at 23 (by decide +kernel) (by decide +kernel)
theorem gw24 : (Jvm.Cond.methodLink "LiquidChecker" (3 : Nat) ({ cls := "java/lang/Object", name := "<init>", desc := "()V" } : Jvm.MethodName)) ∈ GW := gw_at 24 (by decide +kernel) (by decide +kernel)
theorem gw25 : (Jvm.Cond.instanceMethod ({ cls := "java/lang/Object", name := "<init>", desc := "()V" } : Jvm.MethodName)) ∈ GW := gw_at 25 (by decide +kernel) (by decide +kernel)
theorem gw26 : (Jvm.Cond.code ({ cls := "java/lang/Object", name := "<init>", desc := "()V" } : Jvm.MethodName) object_method_1_code (1 : Nat) (Option.none : Option Jvm.ClassFile.FieldType)) ∈ GW := gw_at 26 (by decide +kernel) (by decide +kernel)
theorem gw27 : (Jvm.Cond.classLink "LiquidChecker" (9 : Nat) "LiquidChecker$Function") ∈ GW := gw_at 27 (by decide +kernel) (by decide +kernel)
theorem gw29 : (Jvm.Cond.classLink "LiquidChecker" (15 : Nat) "LiquidChecker$Walk") ∈ GW := gw_at 29 (by decide +kernel) (by decide +kernel)
theorem gw30 : (Jvm.Cond.instantiable "LiquidChecker$Walk" (11 : Nat)) ∈ GW := gw_at 30 (by decide +kernel) (by decide +kernel)
theorem gw32 : (Jvm.Cond.instanceMethod ({ cls := "LiquidChecker$Walk", name := "<init>", desc := "()V" } : Jvm.MethodName)) ∈ GW := gw_at 32 (by decide +kernel) (by decide +kernel)
theorem gw33 : (Jvm.Cond.code ({ cls := "LiquidChecker$Walk", name := "<init>", desc := "()V" } : Jvm.MethodName) prog_6_method_1_code (2 : Nat) (Option.none : Option Jvm.ClassFile.FieldType)) ∈ GW := gw_at 33 (by decide +kernel) (by decide +kernel)
theorem gw34 : (Jvm.Cond.methodLink "LiquidChecker$Walk" (3 : Nat) ({ cls := "java/lang/Object", name := "<init>", desc := "()V" } : Jvm.MethodName)) ∈ GW := gw_at 34 (by decide +kernel) (by decide +kernel)
theorem gw35 : (Jvm.Cond.classLink "LiquidChecker$Walk" (9 : Nat) "LiquidChecker$Known") ∈ GW := gw_at 35 (by decide +kernel) (by decide +kernel)
theorem gw36 : (Jvm.Cond.instantiable "LiquidChecker$Known" (2 : Nat)) ∈ GW := gw_at 36 (by decide +kernel) (by decide +kernel)
theorem gw38 : (Jvm.Cond.instanceMethod ({ cls := "LiquidChecker$Known", name := "<init>", desc := "()V" } : Jvm.MethodName)) ∈ GW := gw_at 38 (by decide +kernel) (by decide +kernel)
theorem gw39 : (Jvm.Cond.code ({ cls := "LiquidChecker$Known", name := "<init>", desc := "()V" } : Jvm.MethodName) prog_3_method_1_code (1 : Nat) (Option.none : Option Jvm.ClassFile.FieldType)) ∈ GW := gw_at 39 (by decide +kernel) (by decide +kernel)
theorem gw40 : (Jvm.Cond.methodLink "LiquidChecker$Known" (5 : Nat) ({ cls := "java/lang/Object", name := "<init>", desc := "()V" } : Jvm.MethodName)) ∈ GW := gw_at 40 (by decide +kernel) (by decide +kernel)
theorem gw41 : (Jvm.Cond.fieldLink "LiquidChecker$Known" (11 : Nat) "LiquidChecker$Known" "bounds" "[I") ∈ GW := gw_at 41 (by decide +kernel) (by decide +kernel)
theorem gw42 : (Jvm.Cond.fieldLink "LiquidChecker$Known" (24 : Nat) "LiquidChecker$Known" "possible" "Z") ∈ GW := gw_at 42 (by decide +kernel) (by decide +kernel)
theorem gw45 : (Jvm.Cond.laysFinal "LiquidChecker$Known" "LiquidChecker$Known" "bounds" "[I") ∈ GW := gw_at 45 (by decide +kernel) (by decide +kernel)
theorem gw47 : (Jvm.Cond.lays "LiquidChecker$Known" "LiquidChecker$Known" "possible" "Z") ∈ GW := gw_at 47 (by decide +kernel) (by decide +kernel)
theorem gw50 : (Jvm.Cond.arrayClass Jvm.ClassFile.FieldType.int) ∈ GW := gw_at 50 (by decide +kernel) (by decide +kernel)
theorem gw52 : (Jvm.Cond.fieldLink "LiquidChecker$Walk" (12 : Nat) "LiquidChecker$Walk" "known" "LLiquidChecker$Known;") ∈ GW := gw_at 52 (by decide +kernel) (by decide +kernel)
theorem gw53 : (Jvm.Cond.fieldLink "LiquidChecker$Walk" (18 : Nat) "LiquidChecker$Walk" "waiting" "[LLiquidChecker$Known;") ∈ GW := gw_at 53 (by decide +kernel) (by decide +kernel)
theorem gw54 : (Jvm.Cond.fieldLink "LiquidChecker$Walk" (22 : Nat) "LiquidChecker$Walk" "waitingPlaces" "[I") ∈ GW := gw_at 54 (by decide +kernel) (by decide +kernel)
theorem gw55 : (Jvm.Cond.fieldLink "LiquidChecker$Walk" (51 : Nat) "LiquidChecker$Walk" "waitingSides" "I") ∈ GW := gw_at 55 (by decide +kernel) (by decide +kernel)
theorem gw56 : (Jvm.Cond.fieldLink "LiquidChecker$Walk" (30 : Nat) "LiquidChecker$Walk" "askedPlace" "I") ∈ GW := gw_at 56 (by decide +kernel) (by decide +kernel)
theorem gw57 : (Jvm.Cond.fieldLink "LiquidChecker$Walk" (33 : Nat) "LiquidChecker$Walk" "askedA" "I") ∈ GW := gw_at 57 (by decide +kernel) (by decide +kernel)
theorem gw58 : (Jvm.Cond.fieldLink "LiquidChecker$Walk" (36 : Nat) "LiquidChecker$Walk" "askedB" "I") ∈ GW := gw_at 58 (by decide +kernel) (by decide +kernel)
theorem gw59 : (Jvm.Cond.fieldLink "LiquidChecker$Walk" (42 : Nat) "LiquidChecker$Walk" "greatest" "I") ∈ GW := gw_at 59 (by decide +kernel) (by decide +kernel)
theorem gw61 : (Jvm.Cond.fieldLink "LiquidChecker$Walk" (26 : Nat) "LiquidChecker$Walk" "placesCome" "I") ∈ GW := gw_at 61 (by decide +kernel) (by decide +kernel)
theorem gw62 : (Jvm.Cond.fieldLink "LiquidChecker$Walk" (45 : Nat) "LiquidChecker$Walk" "leastUnshown" "I") ∈ GW := gw_at 62 (by decide +kernel) (by decide +kernel)
theorem gw64 : (Jvm.Cond.fieldLink "LiquidChecker$Walk" (48 : Nat) "LiquidChecker$Walk" "ended" "I") ∈ GW := gw_at 64 (by decide +kernel) (by decide +kernel)
theorem gw66 : (Jvm.Cond.laysFinal "LiquidChecker$Walk" "LiquidChecker$Walk" "known" "LLiquidChecker$Known;") ∈ GW := gw_at 66 (by decide +kernel) (by decide +kernel)
theorem gw68 : (Jvm.Cond.laysFinal "LiquidChecker$Walk" "LiquidChecker$Walk" "waiting" "[LLiquidChecker$Known;") ∈ GW := gw_at 68 (by decide +kernel) (by decide +kernel)
theorem gw70 : (Jvm.Cond.laysFinal "LiquidChecker$Walk" "LiquidChecker$Walk" "waitingPlaces" "[I") ∈ GW := gw_at 70 (by decide +kernel) (by decide +kernel)
theorem gw72 : (Jvm.Cond.lays "LiquidChecker$Walk" "LiquidChecker$Walk" "waitingSides" "I") ∈ GW := gw_at 72 (by decide +kernel) (by decide +kernel)
theorem gw74 : (Jvm.Cond.lays "LiquidChecker$Walk" "LiquidChecker$Walk" "askedPlace" "I") ∈ GW := gw_at 74 (by decide +kernel) (by decide +kernel)
theorem gw76 : (Jvm.Cond.lays "LiquidChecker$Walk" "LiquidChecker$Walk" "askedA" "I") ∈ GW := gw_at 76 (by decide +kernel) (by decide +kernel)
theorem gw78 : (Jvm.Cond.lays "LiquidChecker$Walk" "LiquidChecker$Walk" "askedB" "I") ∈ GW := gw_at 78 (by decide +kernel) (by decide +kernel)
theorem gw80 : (Jvm.Cond.lays "LiquidChecker$Walk" "LiquidChecker$Walk" "greatest" "I") ∈ GW := gw_at 80 (by decide +kernel) (by decide +kernel)
theorem gw82 : (Jvm.Cond.lays "LiquidChecker$Walk" "LiquidChecker$Walk" "placesCome" "I") ∈ GW := gw_at 82 (by decide +kernel) (by decide +kernel)
theorem gw84 : (Jvm.Cond.lays "LiquidChecker$Walk" "LiquidChecker$Walk" "leastUnshown" "I") ∈ GW := gw_at 84 (by decide +kernel) (by decide +kernel)
theorem gw86 : (Jvm.Cond.lays "LiquidChecker$Walk" "LiquidChecker$Walk" "ended" "I") ∈ GW := gw_at 86 (by decide +kernel) (by decide +kernel)
theorem gw89 : (Jvm.Cond.classLink "LiquidChecker" (22 : Nat) "LiquidChecker$Known") ∈ GW := gw_at 89 (by decide +kernel) (by decide +kernel)
theorem gw91 : (Jvm.Cond.instantiable "LiquidChecker$Function" (8 : Nat)) ∈ GW := gw_at 91 (by decide +kernel) (by decide +kernel)
theorem gw93 : (Jvm.Cond.instanceMethod ({ cls := "LiquidChecker$Function", name := "<init>", desc := "()V" } : Jvm.MethodName)) ∈ GW := gw_at 93 (by decide +kernel) (by decide +kernel)
theorem gw94 : (Jvm.Cond.code ({ cls := "LiquidChecker$Function", name := "<init>", desc := "()V" } : Jvm.MethodName) prog_2_method_1_code (2 : Nat) (Option.none : Option Jvm.ClassFile.FieldType)) ∈ GW := gw_at 94 (by decide +kernel) (by decide +kernel)
theorem gw95 : (Jvm.Cond.methodLink "LiquidChecker$Function" (3 : Nat) ({ cls := "java/lang/Object", name := "<init>", desc := "()V" } : Jvm.MethodName)) ∈ GW := gw_at 95 (by decide +kernel) (by decide +kernel)
theorem gw96 : (Jvm.Cond.classLink "LiquidChecker$Function" (9 : Nat) "LiquidChecker$Relations") ∈ GW := gw_at 96 (by decide +kernel) (by decide +kernel)
theorem gw97 : (Jvm.Cond.instantiable "LiquidChecker$Relations" (4 : Nat)) ∈ GW := gw_at 97 (by decide +kernel) (by decide +kernel)
theorem gw99 : (Jvm.Cond.instanceMethod ({ cls := "LiquidChecker$Relations", name := "<init>", desc := "()V" } : Jvm.MethodName)) ∈ GW := gw_at 99 (by decide +kernel) (by decide +kernel)
theorem gw100 : (Jvm.Cond.code ({ cls := "LiquidChecker$Relations", name := "<init>", desc := "()V" } : Jvm.MethodName) prog_4_method_1_code (1 : Nat) (Option.none : Option Jvm.ClassFile.FieldType)) ∈ GW := gw_at 100 (by decide +kernel) (by decide +kernel)
theorem gw101 : (Jvm.Cond.methodLink "LiquidChecker$Relations" (3 : Nat) ({ cls := "java/lang/Object", name := "<init>", desc := "()V" } : Jvm.MethodName)) ∈ GW := gw_at 101 (by decide +kernel) (by decide +kernel)
theorem gw102 : (Jvm.Cond.fieldLink "LiquidChecker$Relations" (9 : Nat) "LiquidChecker$Relations" "a" "[I") ∈ GW := gw_at 102 (by decide +kernel) (by decide +kernel)
theorem gw103 : (Jvm.Cond.fieldLink "LiquidChecker$Relations" (15 : Nat) "LiquidChecker$Relations" "b" "[I") ∈ GW := gw_at 103 (by decide +kernel) (by decide +kernel)
theorem gw104 : (Jvm.Cond.fieldLink "LiquidChecker$Relations" (18 : Nat) "LiquidChecker$Relations" "k" "[I") ∈ GW := gw_at 104 (by decide +kernel) (by decide +kernel)
theorem gw105 : (Jvm.Cond.fieldLink "LiquidChecker$Relations" (21 : Nat) "LiquidChecker$Relations" "size" "I") ∈ GW := gw_at 105 (by decide +kernel) (by decide +kernel)
theorem gw108 : (Jvm.Cond.laysFinal "LiquidChecker$Relations" "LiquidChecker$Relations" "a" "[I") ∈ GW := gw_at 108 (by decide +kernel) (by decide +kernel)
theorem gw110 : (Jvm.Cond.laysFinal "LiquidChecker$Relations" "LiquidChecker$Relations" "b" "[I") ∈ GW := gw_at 110 (by decide +kernel) (by decide +kernel)
theorem gw112 : (Jvm.Cond.laysFinal "LiquidChecker$Relations" "LiquidChecker$Relations" "k" "[I") ∈ GW := gw_at 112 (by decide +kernel) (by decide +kernel)
theorem gw114 : (Jvm.Cond.lays "LiquidChecker$Relations" "LiquidChecker$Relations" "size" "I") ∈ GW := gw_at 114 (by decide +kernel) (by decide +kernel)
theorem gw117 : (Jvm.Cond.classLink "LiquidChecker$Function" (21 : Nat) "LiquidChecker$Statement") ∈ GW := gw_at 117 (by decide +kernel) (by decide +kernel)
theorem gw119 : (Jvm.Cond.instantiable "LiquidChecker$Statement" (6 : Nat)) ∈ GW := gw_at 119 (by decide +kernel) (by decide +kernel)
theorem gw121 : (Jvm.Cond.instanceMethod ({ cls := "LiquidChecker$Statement", name := "<init>", desc := "()V" } : Jvm.MethodName)) ∈ GW := gw_at 121 (by decide +kernel) (by decide +kernel)
theorem gw122 : (Jvm.Cond.code ({ cls := "LiquidChecker$Statement", name := "<init>", desc := "()V" } : Jvm.MethodName) prog_5_method_1_code (1 : Nat) (Option.none : Option Jvm.ClassFile.FieldType)) ∈ GW := gw_at 122 (by decide +kernel) (by decide +kernel)
theorem gw123 : (Jvm.Cond.methodLink "LiquidChecker$Statement" (3 : Nat) ({ cls := "java/lang/Object", name := "<init>", desc := "()V" } : Jvm.MethodName)) ∈ GW := gw_at 123 (by decide +kernel) (by decide +kernel)
theorem gw124 : (Jvm.Cond.fieldLink "LiquidChecker$Statement" (9 : Nat) "LiquidChecker$Statement" "kind" "I") ∈ GW := gw_at 124 (by decide +kernel) (by decide +kernel)
theorem gw127 : (Jvm.Cond.fieldLink "LiquidChecker$Statement" (15 : Nat) "LiquidChecker$Statement" "a" "I") ∈ GW := gw_at 127 (by decide +kernel) (by decide +kernel)
theorem gw129 : (Jvm.Cond.fieldLink "LiquidChecker$Statement" (18 : Nat) "LiquidChecker$Statement" "b" "I") ∈ GW := gw_at 129 (by decide +kernel) (by decide +kernel)
theorem gw131 : (Jvm.Cond.fieldLink "LiquidChecker$Statement" (21 : Nat) "LiquidChecker$Statement" "c" "I") ∈ GW := gw_at 131 (by decide +kernel) (by decide +kernel)
theorem gw133 : (Jvm.Cond.fieldLink "LiquidChecker$Statement" (24 : Nat) "LiquidChecker$Statement" "k" "I") ∈ GW := gw_at 133 (by decide +kernel) (by decide +kernel)
theorem gw135 : (Jvm.Cond.fieldLink "LiquidChecker$Statement" (27 : Nat) "LiquidChecker$Statement" "leadsTo" "I") ∈ GW := gw_at 135 (by decide +kernel) (by decide +kernel)
theorem gw137 : (Jvm.Cond.lays "LiquidChecker$Statement" "LiquidChecker$Statement" "kind" "I") ∈ GW := gw_at 137 (by decide +kernel) (by decide +kernel)
theorem gw139 : (Jvm.Cond.lays "LiquidChecker$Statement" "LiquidChecker$Statement" "a" "I") ∈ GW := gw_at 139 (by decide +kernel) (by decide +kernel)
theorem gw141 : (Jvm.Cond.lays "LiquidChecker$Statement" "LiquidChecker$Statement" "b" "I") ∈ GW := gw_at 141 (by decide +kernel) (by decide +kernel)
theorem gw143 : (Jvm.Cond.lays "LiquidChecker$Statement" "LiquidChecker$Statement" "c" "I") ∈ GW := gw_at 143 (by decide +kernel) (by decide +kernel)
theorem gw145 : (Jvm.Cond.lays "LiquidChecker$Statement" "LiquidChecker$Statement" "k" "I") ∈ GW := gw_at 145 (by decide +kernel) (by decide +kernel)
theorem gw147 : (Jvm.Cond.lays "LiquidChecker$Statement" "LiquidChecker$Statement" "leadsTo" "I") ∈ GW := gw_at 147 (by decide +kernel) (by decide +kernel)
theorem gw150 : (Jvm.Cond.fieldLink "LiquidChecker$Function" (12 : Nat) "LiquidChecker$Function" "demands" "LLiquidChecker$Relations;") ∈ GW := gw_at 150 (by decide +kernel) (by decide +kernel)
theorem gw153 : (Jvm.Cond.fieldLink "LiquidChecker$Function" (18 : Nat) "LiquidChecker$Function" "promises" "LLiquidChecker$Relations;") ∈ GW := gw_at 153 (by decide +kernel) (by decide +kernel)
theorem gw156 : (Jvm.Cond.fieldLink "LiquidChecker$Function" (23 : Nat) "LiquidChecker$Function" "statements" "[LLiquidChecker$Statement;") ∈ GW := gw_at 156 (by decide +kernel) (by decide +kernel)
theorem gw158 : (Jvm.Cond.fieldLink "LiquidChecker$Function" (27 : Nat) "LiquidChecker$Function" "openPlaces" "[I") ∈ GW := gw_at 158 (by decide +kernel) (by decide +kernel)
theorem gw159 : (Jvm.Cond.fieldLink "LiquidChecker$Function" (36 : Nat) "LiquidChecker$Function" "size" "I") ∈ GW := gw_at 159 (by decide +kernel) (by decide +kernel)
theorem gw162 : (Jvm.Cond.fieldLink "LiquidChecker$Function" (37 : Nat) "LiquidChecker$Function" "openIfs" "I") ∈ GW := gw_at 162 (by decide +kernel) (by decide +kernel)
theorem gw164 : (Jvm.Cond.fieldLink "LiquidChecker$Function" (40 : Nat) "LiquidChecker$Function" "ifs" "I") ∈ GW := gw_at 164 (by decide +kernel) (by decide +kernel)
theorem gw165 : (Jvm.Cond.fieldLink "LiquidChecker$Function" (43 : Nat) "LiquidChecker$Function" "given" "I") ∈ GW := gw_at 165 (by decide +kernel) (by decide +kernel)
theorem gw166 : (Jvm.Cond.laysFinal "LiquidChecker$Function" "LiquidChecker$Function" "demands" "LLiquidChecker$Relations;") ∈ GW := gw_at 166 (by decide +kernel) (by decide +kernel)
theorem gw168 : (Jvm.Cond.laysFinal "LiquidChecker$Function" "LiquidChecker$Function" "promises" "LLiquidChecker$Relations;") ∈ GW := gw_at 168 (by decide +kernel) (by decide +kernel)
theorem gw170 : (Jvm.Cond.laysFinal "LiquidChecker$Function" "LiquidChecker$Function" "statements" "[LLiquidChecker$Statement;") ∈ GW := gw_at 170 (by decide +kernel) (by decide +kernel)
theorem gw172 : (Jvm.Cond.laysFinal "LiquidChecker$Function" "LiquidChecker$Function" "openPlaces" "[I") ∈ GW := gw_at 172 (by decide +kernel) (by decide +kernel)
theorem gw174 : (Jvm.Cond.lays "LiquidChecker$Function" "LiquidChecker$Function" "size" "I") ∈ GW := gw_at 174 (by decide +kernel) (by decide +kernel)
theorem gw176 : (Jvm.Cond.lays "LiquidChecker$Function" "LiquidChecker$Function" "openIfs" "I") ∈ GW := gw_at 176 (by decide +kernel) (by decide +kernel)
theorem gw178 : (Jvm.Cond.lays "LiquidChecker$Function" "LiquidChecker$Function" "ifs" "I") ∈ GW := gw_at 178 (by decide +kernel) (by decide +kernel)
theorem gw180 : (Jvm.Cond.lays "LiquidChecker$Function" "LiquidChecker$Function" "given" "I") ∈ GW := gw_at 180 (by decide +kernel) (by decide +kernel)
theorem gw183 : (Jvm.Cond.fieldLink "LiquidChecker" (11 : Nat) "LiquidChecker" "functions" "[LLiquidChecker$Function;") ∈ GW := gw_at 183 (by decide +kernel) (by decide +kernel)
theorem gw184 : (Jvm.Cond.fieldLink "LiquidChecker" (18 : Nat) "LiquidChecker" "walk" "LLiquidChecker$Walk;") ∈ GW := gw_at 184 (by decide +kernel) (by decide +kernel)
theorem gw185 : (Jvm.Cond.fieldLink "LiquidChecker" (25 : Nat) "LiquidChecker" "known" "LLiquidChecker$Known;") ∈ GW := gw_at 185 (by decide +kernel) (by decide +kernel)
theorem gw186 : (Jvm.Cond.laysFinal "LiquidChecker" "LiquidChecker" "functions" "[LLiquidChecker$Function;") ∈ GW := gw_at 186 (by decide +kernel) (by decide +kernel)
theorem gw188 : (Jvm.Cond.laysFinal "LiquidChecker" "LiquidChecker" "walk" "LLiquidChecker$Walk;") ∈ GW := gw_at 188 (by decide +kernel) (by decide +kernel)
theorem gw190 : (Jvm.Cond.laysFinal "LiquidChecker" "LiquidChecker" "known" "LLiquidChecker$Known;") ∈ GW := gw_at 190 (by decide +kernel) (by decide +kernel)
theorem gw193 : (Jvm.Cond.methodLink "LiquidCheckerLaw" (55 : Nat) ({ cls := "LiquidCheckerLaw", name := "refine", desc := "(LLiquidChecker;IIIII[J)I" } : Jvm.MethodName)) ∈ GW := gw_at 193 (by decide +kernel) (by decide +kernel)
theorem gw194 : (Jvm.Cond.static ({ cls := "LiquidCheckerLaw", name := "refine", desc := "(LLiquidChecker;IIIII[J)I" } : Jvm.MethodName)) ∈ GW := gw_at 194 (by decide +kernel) (by decide +kernel)
theorem gw195 : (Jvm.Cond.codeWith ({ cls := "LiquidCheckerLaw", name := "refine", desc := "(LLiquidChecker;IIIII[J)I" } : Jvm.MethodName) method_3_code (8 : Nat) (Option.some Jvm.ClassFile.FieldType.int) [((0 : Nat), (16 : Nat), (19 : Nat), (13 : Nat)), ((0 : Nat), (16 : Nat), (23 : Nat), (15 : Nat))]) ∈ GW := gw_at 195 (by decide +kernel) (by decide +kernel)
theorem gw196 : (Jvm.Cond.classLink "LiquidCheckerLaw" (13 : Nat) "java/lang/IllegalArgumentException") ∈ GW := gw_at 196 (by decide +kernel) (by decide +kernel)
theorem gw197 : (Jvm.Cond.classLink "LiquidCheckerLaw" (15 : Nat) "java/lang/IllegalStateException") ∈ GW := gw_at 197 (by decide +kernel) (by decide +kernel)
theorem gw198 : (Jvm.Cond.methodLink "LiquidCheckerLaw" (7 : Nat) ({ cls := "LiquidChecker", name := "refine", desc := "(IIIII)I" } : Jvm.MethodName)) ∈ GW := gw_at 198 (by decide +kernel) (by decide +kernel)
theorem gw199 : (Jvm.Cond.instanceMethod ({ cls := "LiquidChecker", name := "refine", desc := "(IIIII)I" } : Jvm.MethodName)) ∈ GW := gw_at 199 (by decide +kernel) (by decide +kernel)
theorem gw200 : (Jvm.Cond.selects "LiquidChecker" ({ cls := "LiquidChecker", name := "refine", desc := "(IIIII)I" } : Jvm.MethodName) ({ cls := "LiquidChecker", name := "refine", desc := "(IIIII)I" } : Jvm.MethodName)) ∈ GW := gw_at 200 (by decide +kernel) (by decide +kernel)
theorem gw201 : (Jvm.Cond.code ({ cls := "LiquidChecker", name := "refine", desc := "(IIIII)I" } : Jvm.MethodName) prog_1_method_2_code (8 : Nat) (Option.some Jvm.ClassFile.FieldType.int)) ∈ GW := gw_at 201 (by decide +kernel) (by decide +kernel)
theorem gw202 : (Jvm.Cond.methodLink "LiquidChecker" (30 : Nat) ({ cls := "LiquidChecker", name := "isFunction", desc := "(I)Z" } : Jvm.MethodName)) ∈ GW := gw_at 202 (by decide +kernel) (by decide +kernel)
theorem gw203 : (Jvm.Cond.static ({ cls := "LiquidChecker", name := "isFunction", desc := "(I)Z" } : Jvm.MethodName)) ∈ GW := gw_at 203 (by decide +kernel) (by decide +kernel)
theorem gw204 : (Jvm.Cond.code ({ cls := "LiquidChecker", name := "isFunction", desc := "(I)Z" } : Jvm.MethodName) prog_1_method_13_code (1 : Nat) (Option.some Jvm.ClassFile.FieldType.boolean)) ∈ GW := gw_at 204 (by decide +kernel) (by decide +kernel)
theorem gw205 : (Jvm.Cond.methodLink "LiquidChecker" (34 : Nat) ({ cls := "LiquidChecker", name := "isWithin", desc := "(III)Z" } : Jvm.MethodName)) ∈ GW := gw_at 205 (by decide +kernel) (by decide +kernel)
theorem gw206 : (Jvm.Cond.static ({ cls := "LiquidChecker", name := "isWithin", desc := "(III)Z" } : Jvm.MethodName)) ∈ GW := gw_at 206 (by decide +kernel) (by decide +kernel)
theorem gw207 : (Jvm.Cond.code ({ cls := "LiquidChecker", name := "isWithin", desc := "(III)Z" } : Jvm.MethodName) prog_1_method_12_code (3 : Nat) (Option.some Jvm.ClassFile.FieldType.boolean)) ∈ GW := gw_at 207 (by decide +kernel) (by decide +kernel)
theorem gw208 : (Jvm.Cond.classLink "LiquidChecker" (38 : Nat) "java/lang/IllegalArgumentException") ∈ GW := gw_at 208 (by decide +kernel) (by decide +kernel)
theorem gw209 : (Jvm.Cond.instantiable "java/lang/IllegalArgumentException" (6 : Nat)) ∈ GW := gw_at 209 (by decide +kernel) (by decide +kernel)
theorem gw217 : (Jvm.Cond.selects "java/lang/IllegalArgumentException" ({ cls := "java/lang/Throwable", name := "fillInStackTrace", desc := "(I)Ljava/lang/Throwable;" } : Jvm.MethodName) ({ cls := "java/lang/Throwable", name := "fillInStackTrace", desc := "(I)Ljava/lang/Throwable;" } : Jvm.MethodName)) ∈ GW := gw_at 217 (by decide +kernel) (by decide +kernel)
theorem gw218 : (Jvm.Cond.selects "java/lang/IllegalArgumentException" ({ cls := "java/lang/Throwable", name := "fillInStackTrace", desc := "()Ljava/lang/Throwable;" } : Jvm.MethodName) ({ cls := "java/lang/Throwable", name := "fillInStackTrace", desc := "()Ljava/lang/Throwable;" } : Jvm.MethodName)) ∈ GW := gw_at 218 (by decide +kernel) (by decide +kernel)
theorem gw219 : (Jvm.Cond.lays "java/lang/IllegalArgumentException" "java/lang/Throwable" "cause" "Ljava/lang/Throwable;") ∈ GW := gw_at 219 (by decide +kernel) (by decide +kernel)
theorem gw220 : (Jvm.Cond.lays "java/lang/Throwable" "java/lang/Throwable" "cause" "Ljava/lang/Throwable;") ∈ GW := gw_at 220 (by decide +kernel) (by decide +kernel)
theorem gw221 : (Jvm.Cond.lays "java/lang/IllegalArgumentException" "java/lang/Throwable" "stackTrace" "[Ljava/lang/StackTraceElement;") ∈ GW := gw_at 221 (by decide +kernel) (by decide +kernel)
theorem gw222 : (Jvm.Cond.lays "java/lang/Throwable" "java/lang/Throwable" "stackTrace" "[Ljava/lang/StackTraceElement;") ∈ GW := gw_at 222 (by decide +kernel) (by decide +kernel)
theorem gw223 : (Jvm.Cond.lays "java/lang/IllegalArgumentException" "java/lang/Throwable" "suppressedExceptions" "Ljava/util/List;") ∈ GW := gw_at 223 (by decide +kernel) (by decide +kernel)
theorem gw224 : (Jvm.Cond.lays "java/lang/Throwable" "java/lang/Throwable" "suppressedExceptions" "Ljava/util/List;") ∈ GW := gw_at 224 (by decide +kernel) (by decide +kernel)
theorem gw225 : (Jvm.Cond.lays "java/lang/IllegalArgumentException" "java/lang/Throwable" "detailMessage" "Ljava/lang/String;") ∈ GW := gw_at 225 (by decide +kernel) (by decide +kernel)
theorem gw226 : (Jvm.Cond.lays "java/lang/Throwable" "java/lang/Throwable" "detailMessage" "Ljava/lang/String;") ∈ GW := gw_at 226 (by decide +kernel) (by decide +kernel)
theorem gw227 : (Jvm.Cond.lays "java/lang/IllegalArgumentException" "java/lang/Throwable" "backtrace" "Ljava/lang/Object;") ∈ GW := gw_at 227 (by decide +kernel) (by decide +kernel)
theorem gw228 : (Jvm.Cond.lays "java/lang/Throwable" "java/lang/Throwable" "backtrace" "Ljava/lang/Object;") ∈ GW := gw_at 228 (by decide +kernel) (by decide +kernel)
theorem gw229 : (Jvm.Cond.fieldLink "java/lang/Throwable" (198 : Nat) "java/lang/Throwable" "backtrace" "Ljava/lang/Object;") ∈ GW := gw_at 229 (by decide +kernel) (by decide +kernel)
theorem gw231 : (Jvm.Cond.instanceMethod ({ cls := "java/lang/Throwable", name := "<init>", desc := "()V" } : Jvm.MethodName)) ∈ GW := gw_at 231 (by decide +kernel) (by decide +kernel)
theorem gw232 : (Jvm.Cond.code ({ cls := "java/lang/Throwable", name := "<init>", desc := "()V" } : Jvm.MethodName) prog_17_method_1_code (1 : Nat) (Option.none : Option Jvm.ClassFile.FieldType)) ∈ GW := gw_at 232 (by decide +kernel) (by decide +kernel)
theorem gw233 : (Jvm.Cond.methodLink "java/lang/Throwable" (1 : Nat) ({ cls := "java/lang/Object", name := "<init>", desc := "()V" } : Jvm.MethodName)) ∈ GW := gw_at 233 (by decide +kernel) (by decide +kernel)
theorem gw234 : (Jvm.Cond.fieldLink "java/lang/Throwable" (13 : Nat) "java/lang/Throwable" "UNASSIGNED_STACK" "[Ljava/lang/StackTraceElement;") ∈ GW := gw_at 234 (by decide +kernel) (by decide +kernel)
theorem gw236 : (Jvm.Cond.fieldLink "java/lang/Throwable" (20 : Nat) "java/lang/Throwable" "SUPPRESSED_SENTINEL" "Ljava/util/List;") ∈ GW := gw_at 236 (by decide +kernel) (by decide +kernel)
theorem gw238 : (Jvm.Cond.methodLink "java/lang/Throwable" (27 : Nat) ({ cls := "java/lang/Throwable", name := "fillInStackTrace", desc := "()Ljava/lang/Throwable;" } : Jvm.MethodName)) ∈ GW := gw_at 238 (by decide +kernel) (by decide +kernel)
theorem gw239 : (Jvm.Cond.instanceMethod ({ cls := "java/lang/Throwable", name := "fillInStackTrace", desc := "()Ljava/lang/Throwable;" } : Jvm.MethodName)) ∈ GW := gw_at 239 (by decide +kernel) (by decide +kernel)
theorem gw241 : (Jvm.Cond.selects "java/lang/ArithmeticException" ({ cls := "java/lang/Throwable", name := "fillInStackTrace", desc := "()Ljava/lang/Throwable;" } : Jvm.MethodName) ({ cls := "java/lang/Throwable", name := "fillInStackTrace", desc := "()Ljava/lang/Throwable;" } : Jvm.MethodName)) ∈ GW := gw_at 241 (by decide +kernel) (by decide +kernel)
theorem gw242 : (Jvm.Cond.selects "java/lang/IllegalStateException" ({ cls := "java/lang/Throwable", name := "fillInStackTrace", desc := "()Ljava/lang/Throwable;" } : Jvm.MethodName) ({ cls := "java/lang/Throwable", name := "fillInStackTrace", desc := "()Ljava/lang/Throwable;" } : Jvm.MethodName)) ∈ GW := gw_at 242 (by decide +kernel) (by decide +kernel)
theorem gw243 : (Jvm.Cond.selects "java/lang/UnsupportedOperationException" ({ cls := "java/lang/Throwable", name := "fillInStackTrace", desc := "()Ljava/lang/Throwable;" } : Jvm.MethodName) ({ cls := "java/lang/Throwable", name := "fillInStackTrace", desc := "()Ljava/lang/Throwable;" } : Jvm.MethodName)) ∈ GW := gw_at 243 (by decide +kernel) (by decide +kernel)
theorem gw244 : (Jvm.Cond.selects "java/util/NoSuchElementException" ({ cls := "java/lang/Throwable", name := "fillInStackTrace", desc := "()Ljava/lang/Throwable;" } : Jvm.MethodName) ({ cls := "java/lang/Throwable", name := "fillInStackTrace", desc := "()Ljava/lang/Throwable;" } : Jvm.MethodName)) ∈ GW := gw_at 244 (by decide +kernel) (by decide +kernel)
theorem gw246 : (Jvm.Cond.methodLink "java/lang/Throwable" (202 : Nat) ({ cls := "java/lang/Throwable", name := "fillInStackTrace", desc := "(I)Ljava/lang/Throwable;" } : Jvm.MethodName)) ∈ GW := gw_at 246 (by decide +kernel) (by decide +kernel)
theorem gw248 : (Jvm.Cond.instanceMethod ({ cls := "java/lang/Throwable", name := "fillInStackTrace", desc := "(I)Ljava/lang/Throwable;" } : Jvm.MethodName)) ∈ GW := gw_at 248 (by decide +kernel) (by decide +kernel)
theorem gw249 : (Jvm.Cond.instantiable "java/lang/Throwable" (6 : Nat)) ∈ GW := gw_at 249 (by decide +kernel) (by decide +kernel)
theorem gw250 : (Jvm.Cond.native ({ cls := "java/lang/Throwable", name := "fillInStackTrace", desc := "(I)Ljava/lang/Throwable;" } : Jvm.MethodName)) ∈ GW := gw_at 250 (by decide +kernel) (by decide +kernel)
theorem gw252 : (Jvm.Cond.methodLink "LiquidChecker" (42 : Nat) ({ cls := "java/lang/IllegalArgumentException", name := "<init>", desc := "(Ljava/lang/String;)V" } : Jvm.MethodName)) ∈ GW := gw_at 252 (by decide +kernel) (by decide +kernel)
theorem gw253 : (Jvm.Cond.instanceMethod ({ cls := "java/lang/IllegalArgumentException", name := "<init>", desc := "(Ljava/lang/String;)V" } : Jvm.MethodName)) ∈ GW := gw_at 253 (by decide +kernel) (by decide +kernel)
theorem gw254 : (Jvm.Cond.code ({ cls := "java/lang/IllegalArgumentException", name := "<init>", desc := "(Ljava/lang/String;)V" } : Jvm.MethodName) prog_11_method_2_code (2 : Nat) (Option.none : Option Jvm.ClassFile.FieldType)) ∈ GW := gw_at 254 (by decide +kernel) (by decide +kernel)
theorem gw255 : (Jvm.Cond.methodLink "java/lang/IllegalArgumentException" (7 : Nat) ({ cls := "java/lang/RuntimeException", name := "<init>", desc := "(Ljava/lang/String;)V" } : Jvm.MethodName)) ∈ GW := gw_at 255 (by decide +kernel) (by decide +kernel)
theorem gw256 : (Jvm.Cond.instanceMethod ({ cls := "java/lang/RuntimeException", name := "<init>", desc := "(Ljava/lang/String;)V" } : Jvm.MethodName)) ∈ GW := gw_at 256 (by decide +kernel) (by decide +kernel)
theorem gw257 : (Jvm.Cond.code ({ cls := "java/lang/RuntimeException", name := "<init>", desc := "(Ljava/lang/String;)V" } : Jvm.MethodName) prog_14_method_2_code (2 : Nat) (Option.none : Option Jvm.ClassFile.FieldType)) ∈ GW := gw_at 257 (by decide +kernel) (by decide +kernel)
theorem gw258 : (Jvm.Cond.methodLink "java/lang/RuntimeException" (7 : Nat) ({ cls := "java/lang/Exception", name := "<init>", desc := "(Ljava/lang/String;)V" } : Jvm.MethodName)) ∈ GW := gw_at 258 (by decide +kernel) (by decide +kernel)
theorem gw259 : (Jvm.Cond.instanceMethod ({ cls := "java/lang/Exception", name := "<init>", desc := "(Ljava/lang/String;)V" } : Jvm.MethodName)) ∈ GW := gw_at 259 (by decide +kernel) (by decide +kernel)
theorem gw260 : (Jvm.Cond.code ({ cls := "java/lang/Exception", name := "<init>", desc := "(Ljava/lang/String;)V" } : Jvm.MethodName) prog_10_method_2_code (2 : Nat) (Option.none : Option Jvm.ClassFile.FieldType)) ∈ GW := gw_at 260 (by decide +kernel) (by decide +kernel)
theorem gw261 : (Jvm.Cond.methodLink "java/lang/Exception" (7 : Nat) ({ cls := "java/lang/Throwable", name := "<init>", desc := "(Ljava/lang/String;)V" } : Jvm.MethodName)) ∈ GW := gw_at 261 (by decide +kernel) (by decide +kernel)
theorem gw262 : (Jvm.Cond.instanceMethod ({ cls := "java/lang/Throwable", name := "<init>", desc := "(Ljava/lang/String;)V" } : Jvm.MethodName)) ∈ GW := gw_at 262 (by decide +kernel) (by decide +kernel)
theorem gw263 : (Jvm.Cond.code ({ cls := "java/lang/Throwable", name := "<init>", desc := "(Ljava/lang/String;)V" } : Jvm.MethodName) prog_17_method_2_code (2 : Nat) (Option.none : Option Jvm.ClassFile.FieldType)) ∈ GW := gw_at 263 (by decide +kernel) (by decide +kernel)
theorem gw264 : (Jvm.Cond.fieldLink "java/lang/Throwable" (198 : Nat) "java/lang/Throwable" "backtrace" "Ljava/lang/Object;") ∈ GW := gw_at 264 (by decide +kernel) (by decide +kernel)
theorem gw265 : (Jvm.Cond.fieldLink "java/lang/Throwable" (31 : Nat) "java/lang/Throwable" "detailMessage" "Ljava/lang/String;") ∈ GW := gw_at 265 (by decide +kernel) (by decide +kernel)
theorem gw266 : (Jvm.Cond.fieldLink "java/lang/Throwable" (7 : Nat) "java/lang/Throwable" "cause" "Ljava/lang/Throwable;") ∈ GW := gw_at 266 (by decide +kernel) (by decide +kernel)
theorem gw267 : (Jvm.Cond.fieldLink "java/lang/Throwable" (17 : Nat) "java/lang/Throwable" "stackTrace" "[Ljava/lang/StackTraceElement;") ∈ GW := gw_at 267 (by decide +kernel) (by decide +kernel)
theorem gw268 : (Jvm.Cond.fieldLink "java/lang/Throwable" (24 : Nat) "java/lang/Throwable" "suppressedExceptions" "Ljava/util/List;") ∈ GW := gw_at 268 (by decide +kernel) (by decide +kernel)
theorem gw273 : (Jvm.Cond.lays "java/lang/IllegalArgumentException" "java/lang/Throwable" "depth" "I") ∈ GW := gw_at 273 (by decide +kernel) (by decide +kernel)
theorem gw277 : (Jvm.Cond.arrayClass Jvm.ClassFile.FieldType.byte) ∈ GW := gw_at 277 (by decide +kernel) (by decide +kernel)
theorem gw278 : (Jvm.Cond.methodLink "LiquidChecker" (45 : Nat) ({ cls := "LiquidChecker", name := "isDifference", desc := "(I)Z" } : Jvm.MethodName)) ∈ GW := gw_at 278 (by decide +kernel) (by decide +kernel)
theorem gw279 : (Jvm.Cond.static ({ cls := "LiquidChecker", name := "isDifference", desc := "(I)Z" } : Jvm.MethodName)) ∈ GW := gw_at 279 (by decide +kernel) (by decide +kernel)
theorem gw280 : (Jvm.Cond.code ({ cls := "LiquidChecker", name := "isDifference", desc := "(I)Z" } : Jvm.MethodName) prog_1_method_14_code (1 : Nat) (Option.some Jvm.ClassFile.FieldType.boolean)) ∈ GW := gw_at 280 (by decide +kernel) (by decide +kernel)
theorem gw282 : (Jvm.Cond.classLink "LiquidChecker" (63 : Nat) "java/lang/IllegalStateException") ∈ GW := gw_at 282 (by decide +kernel) (by decide +kernel)
theorem gw283 : (Jvm.Cond.instantiable "java/lang/IllegalStateException" (6 : Nat)) ∈ GW := gw_at 283 (by decide +kernel) (by decide +kernel)
theorem gw285 : (Jvm.Cond.selects "java/lang/IllegalStateException" ({ cls := "java/lang/Throwable", name := "fillInStackTrace", desc := "(I)Ljava/lang/Throwable;" } : Jvm.MethodName) ({ cls := "java/lang/Throwable", name := "fillInStackTrace", desc := "(I)Ljava/lang/Throwable;" } : Jvm.MethodName)) ∈ GW := gw_at 285 (by decide +kernel) (by decide +kernel)
theorem gw286 : (Jvm.Cond.lays "java/lang/IllegalStateException" "java/lang/Throwable" "cause" "Ljava/lang/Throwable;") ∈ GW := gw_at 286 (by decide +kernel) (by decide +kernel)
theorem gw287 : (Jvm.Cond.lays "java/lang/IllegalStateException" "java/lang/Throwable" "stackTrace" "[Ljava/lang/StackTraceElement;") ∈ GW := gw_at 287 (by decide +kernel) (by decide +kernel)
theorem gw288 : (Jvm.Cond.lays "java/lang/IllegalStateException" "java/lang/Throwable" "suppressedExceptions" "Ljava/util/List;") ∈ GW := gw_at 288 (by decide +kernel) (by decide +kernel)
theorem gw289 : (Jvm.Cond.lays "java/lang/IllegalStateException" "java/lang/Throwable" "detailMessage" "Ljava/lang/String;") ∈ GW := gw_at 289 (by decide +kernel) (by decide +kernel)
theorem gw290 : (Jvm.Cond.lays "java/lang/IllegalStateException" "java/lang/Throwable" "backtrace" "Ljava/lang/Object;") ∈ GW := gw_at 290 (by decide +kernel) (by decide +kernel)
theorem gw292 : (Jvm.Cond.methodLink "LiquidChecker" (67 : Nat) ({ cls := "java/lang/IllegalStateException", name := "<init>", desc := "(Ljava/lang/String;)V" } : Jvm.MethodName)) ∈ GW := gw_at 292 (by decide +kernel) (by decide +kernel)
theorem gw293 : (Jvm.Cond.instanceMethod ({ cls := "java/lang/IllegalStateException", name := "<init>", desc := "(Ljava/lang/String;)V" } : Jvm.MethodName)) ∈ GW := gw_at 293 (by decide +kernel) (by decide +kernel)
theorem gw294 : (Jvm.Cond.code ({ cls := "java/lang/IllegalStateException", name := "<init>", desc := "(Ljava/lang/String;)V" } : Jvm.MethodName) prog_12_method_2_code (2 : Nat) (Option.none : Option Jvm.ClassFile.FieldType)) ∈ GW := gw_at 294 (by decide +kernel) (by decide +kernel)
theorem gw295 : (Jvm.Cond.methodLink "java/lang/IllegalStateException" (7 : Nat) ({ cls := "java/lang/RuntimeException", name := "<init>", desc := "(Ljava/lang/String;)V" } : Jvm.MethodName)) ∈ GW := gw_at 295 (by decide +kernel) (by decide +kernel)
theorem gw296 : (Jvm.Cond.lays "java/lang/IllegalStateException" "java/lang/Throwable" "depth" "I") ∈ GW := gw_at 296 (by decide +kernel) (by decide +kernel)
theorem gw300 : (Jvm.Cond.instanceMethod ({ cls := "LiquidChecker$Relations", name := "append", desc := "(III)I" } : Jvm.MethodName)) ∈ GW := gw_at 300 (by decide +kernel) (by decide +kernel)
theorem gw301 : (Jvm.Cond.code ({ cls := "LiquidChecker$Relations", name := "append", desc := "(III)I" } : Jvm.MethodName) prog_4_method_2_code (4 : Nat) (Option.some Jvm.ClassFile.FieldType.int)) ∈ GW := gw_at 301 (by decide +kernel) (by decide +kernel)
theorem gw302 : (Jvm.Cond.methodLink "LiquidCheckerLaw" (65 : Nat) ({ cls := "LiquidCheckerLaw", name := "statement", desc := "(LLiquidChecker;IIIIII[J)I" } : Jvm.MethodName)) ∈ GW := gw_at 302 (by decide +kernel) (by decide +kernel)
theorem gw303 : (Jvm.Cond.static ({ cls := "LiquidCheckerLaw", name := "statement", desc := "(LLiquidChecker;IIIIII[J)I" } : Jvm.MethodName)) ∈ GW := gw_at 303 (by decide +kernel) (by decide +kernel)
theorem gw304 : (Jvm.Cond.codeWith ({ cls := "LiquidCheckerLaw", name := "statement", desc := "(LLiquidChecker;IIIIII[J)I" } : Jvm.MethodName) method_4_code (9 : Nat) (Option.some Jvm.ClassFile.FieldType.int) [((0 : Nat), (18 : Nat), (21 : Nat), (13 : Nat)), ((0 : Nat), (18 : Nat), (25 : Nat), (21 : Nat)), ((0 : Nat), (18 : Nat), (29 : Nat), (15 : Nat))]) ∈ GW := gw_at 304 (by decide +kernel) (by decide +kernel)
theorem gw305 : (Jvm.Cond.classLink "LiquidCheckerLaw" (21 : Nat) "java/lang/UnsupportedOperationException") ∈ GW := gw_at 305 (by decide +kernel) (by decide +kernel)
theorem gw306 : (Jvm.Cond.methodLink "LiquidCheckerLaw" (17 : Nat) ({ cls := "LiquidChecker", name := "statement", desc := "(IIIIII)I" } : Jvm.MethodName)) ∈ GW := gw_at 306 (by decide +kernel) (by decide +kernel)
theorem gw307 : (Jvm.Cond.instanceMethod ({ cls := "LiquidChecker", name := "statement", desc := "(IIIIII)I" } : Jvm.MethodName)) ∈ GW := gw_at 307 (by decide +kernel) (by decide +kernel)
theorem gw308 : (Jvm.Cond.selects "LiquidChecker" ({ cls := "LiquidChecker", name := "statement", desc := "(IIIIII)I" } : Jvm.MethodName) ({ cls := "LiquidChecker", name := "statement", desc := "(IIIIII)I" } : Jvm.MethodName)) ∈ GW := gw_at 308 (by decide +kernel) (by decide +kernel)
theorem gw309 : (Jvm.Cond.code ({ cls := "LiquidChecker", name := "statement", desc := "(IIIIII)I" } : Jvm.MethodName) prog_1_method_3_code (8 : Nat) (Option.some Jvm.ClassFile.FieldType.int)) ∈ GW := gw_at 309 (by decide +kernel) (by decide +kernel)
theorem gw310 : (Jvm.Cond.methodLink "LiquidChecker" (72 : Nat) ({ cls := "LiquidChecker", name := "isStatement", desc := "(IIIII)Z" } : Jvm.MethodName)) ∈ GW := gw_at 310 (by decide +kernel) (by decide +kernel)
theorem gw311 : (Jvm.Cond.static ({ cls := "LiquidChecker", name := "isStatement", desc := "(IIIII)Z" } : Jvm.MethodName)) ∈ GW := gw_at 311 (by decide +kernel) (by decide +kernel)
theorem gw312 : (Jvm.Cond.code ({ cls := "LiquidChecker", name := "isStatement", desc := "(IIIII)Z" } : Jvm.MethodName) prog_1_method_21_code (5 : Nat) (Option.some Jvm.ClassFile.FieldType.boolean)) ∈ GW := gw_at 312 (by decide +kernel) (by decide +kernel)
theorem gw313 : (Jvm.Cond.methodLink "LiquidChecker" (165 : Nat) ({ cls := "LiquidChecker", name := "givesA", desc := "(I)Z" } : Jvm.MethodName)) ∈ GW := gw_at 313 (by decide +kernel) (by decide +kernel)
theorem gw314 : (Jvm.Cond.static ({ cls := "LiquidChecker", name := "givesA", desc := "(I)Z" } : Jvm.MethodName)) ∈ GW := gw_at 314 (by decide +kernel) (by decide +kernel)
theorem gw315 : (Jvm.Cond.code ({ cls := "LiquidChecker", name := "givesA", desc := "(I)Z" } : Jvm.MethodName) prog_1_method_17_code (1 : Nat) (Option.some Jvm.ClassFile.FieldType.boolean)) ∈ GW := gw_at 315 (by decide +kernel) (by decide +kernel)
theorem gw316 : (Jvm.Cond.methodLink "LiquidChecker" (162 : Nat) ({ cls := "LiquidChecker", name := "isGivable", desc := "(I)Z" } : Jvm.MethodName)) ∈ GW := gw_at 316 (by decide +kernel) (by decide +kernel)
theorem gw317 : (Jvm.Cond.static ({ cls := "LiquidChecker", name := "isGivable", desc := "(I)Z" } : Jvm.MethodName)) ∈ GW := gw_at 317 (by decide +kernel) (by decide +kernel)
theorem gw318 : (Jvm.Cond.code ({ cls := "LiquidChecker", name := "isGivable", desc := "(I)Z" } : Jvm.MethodName) prog_1_method_15_code (1 : Nat) (Option.some Jvm.ClassFile.FieldType.boolean)) ∈ GW := gw_at 318 (by decide +kernel) (by decide +kernel)
theorem gw319 : (Jvm.Cond.methodLink "LiquidChecker" (168 : Nat) ({ cls := "LiquidChecker", name := "usesA", desc := "(I)Z" } : Jvm.MethodName)) ∈ GW := gw_at 319 (by decide +kernel) (by decide +kernel)
theorem gw320 : (Jvm.Cond.static ({ cls := "LiquidChecker", name := "usesA", desc := "(I)Z" } : Jvm.MethodName)) ∈ GW := gw_at 320 (by decide +kernel) (by decide +kernel)
theorem gw321 : (Jvm.Cond.code ({ cls := "LiquidChecker", name := "usesA", desc := "(I)Z" } : Jvm.MethodName) prog_1_method_18_code (1 : Nat) (Option.some Jvm.ClassFile.FieldType.boolean)) ∈ GW := gw_at 321 (by decide +kernel) (by decide +kernel)
theorem gw322 : (Jvm.Cond.methodLink "LiquidChecker" (123 : Nat) ({ cls := "LiquidChecker", name := "isUsable", desc := "(I)Z" } : Jvm.MethodName)) ∈ GW := gw_at 322 (by decide +kernel) (by decide +kernel)
theorem gw323 : (Jvm.Cond.static ({ cls := "LiquidChecker", name := "isUsable", desc := "(I)Z" } : Jvm.MethodName)) ∈ GW := gw_at 323 (by decide +kernel) (by decide +kernel)
theorem gw324 : (Jvm.Cond.code ({ cls := "LiquidChecker", name := "isUsable", desc := "(I)Z" } : Jvm.MethodName) prog_1_method_16_code (1 : Nat) (Option.some Jvm.ClassFile.FieldType.boolean)) ∈ GW := gw_at 324 (by decide +kernel) (by decide +kernel)
theorem gw325 : (Jvm.Cond.methodLink "LiquidChecker" (171 : Nat) ({ cls := "LiquidChecker", name := "usesB", desc := "(I)Z" } : Jvm.MethodName)) ∈ GW := gw_at 325 (by decide +kernel) (by decide +kernel)
theorem gw326 : (Jvm.Cond.static ({ cls := "LiquidChecker", name := "usesB", desc := "(I)Z" } : Jvm.MethodName)) ∈ GW := gw_at 326 (by decide +kernel) (by decide +kernel)
theorem gw327 : (Jvm.Cond.code ({ cls := "LiquidChecker", name := "usesB", desc := "(I)Z" } : Jvm.MethodName) prog_1_method_19_code (1 : Nat) (Option.some Jvm.ClassFile.FieldType.boolean)) ∈ GW := gw_at 327 (by decide +kernel) (by decide +kernel)
theorem gw328 : (Jvm.Cond.methodLink "LiquidChecker" (174 : Nat) ({ cls := "LiquidChecker", name := "usesC", desc := "(I)Z" } : Jvm.MethodName)) ∈ GW := gw_at 328 (by decide +kernel) (by decide +kernel)
theorem gw329 : (Jvm.Cond.static ({ cls := "LiquidChecker", name := "usesC", desc := "(I)Z" } : Jvm.MethodName)) ∈ GW := gw_at 329 (by decide +kernel) (by decide +kernel)
theorem gw330 : (Jvm.Cond.code ({ cls := "LiquidChecker", name := "usesC", desc := "(I)Z" } : Jvm.MethodName) prog_1_method_20_code (1 : Nat) (Option.some Jvm.ClassFile.FieldType.boolean)) ∈ GW := gw_at 330 (by decide +kernel) (by decide +kernel)
theorem gw334 : (Jvm.Cond.instanceMethod ({ cls := "LiquidChecker$Function", name := "hasGivenWhatIsUsed", desc := "(IIII)Z" } : Jvm.MethodName)) ∈ GW := gw_at 334 (by decide +kernel) (by decide +kernel)
theorem gw335 : (Jvm.Cond.code ({ cls := "LiquidChecker$Function", name := "hasGivenWhatIsUsed", desc := "(IIII)Z" } : Jvm.MethodName) prog_2_method_3_code (5 : Nat) (Option.some Jvm.ClassFile.FieldType.boolean)) ∈ GW := gw_at 335 (by decide +kernel) (by decide +kernel)
theorem gw337 : (Jvm.Cond.methodLink "LiquidChecker$Function" (50 : Nat) ({ cls := "LiquidChecker$Function", name := "hasGiven", desc := "(I)Z" } : Jvm.MethodName)) ∈ GW := gw_at 337 (by decide +kernel) (by decide +kernel)
theorem gw339 : (Jvm.Cond.instanceMethod ({ cls := "LiquidChecker$Function", name := "hasGiven", desc := "(I)Z" } : Jvm.MethodName)) ∈ GW := gw_at 339 (by decide +kernel) (by decide +kernel)
theorem gw340 : (Jvm.Cond.code ({ cls := "LiquidChecker$Function", name := "hasGiven", desc := "(I)Z" } : Jvm.MethodName) prog_2_method_4_code (2 : Nat) (Option.some Jvm.ClassFile.FieldType.boolean)) ∈ GW := gw_at 340 (by decide +kernel) (by decide +kernel)
theorem gw345 : (Jvm.Cond.instanceMethod ({ cls := "LiquidChecker$Function", name := "isOpenFor", desc := "(I)Z" } : Jvm.MethodName)) ∈ GW := gw_at 345 (by decide +kernel) (by decide +kernel)
theorem gw346 : (Jvm.Cond.code ({ cls := "LiquidChecker$Function", name := "isOpenFor", desc := "(I)Z" } : Jvm.MethodName) prog_2_method_5_code (2 : Nat) (Option.some Jvm.ClassFile.FieldType.boolean)) ∈ GW := gw_at 346 (by decide +kernel) (by decide +kernel)
theorem gw347 : (Jvm.Cond.classLink "LiquidChecker" (85 : Nat) "java/lang/UnsupportedOperationException") ∈ GW := gw_at 347 (by decide +kernel) (by decide +kernel)
theorem gw348 : (Jvm.Cond.instantiable "java/lang/UnsupportedOperationException" (6 : Nat)) ∈ GW := gw_at 348 (by decide +kernel) (by decide +kernel)
theorem gw350 : (Jvm.Cond.selects "java/lang/UnsupportedOperationException" ({ cls := "java/lang/Throwable", name := "fillInStackTrace", desc := "(I)Ljava/lang/Throwable;" } : Jvm.MethodName) ({ cls := "java/lang/Throwable", name := "fillInStackTrace", desc := "(I)Ljava/lang/Throwable;" } : Jvm.MethodName)) ∈ GW := gw_at 350 (by decide +kernel) (by decide +kernel)
theorem gw351 : (Jvm.Cond.lays "java/lang/UnsupportedOperationException" "java/lang/Throwable" "cause" "Ljava/lang/Throwable;") ∈ GW := gw_at 351 (by decide +kernel) (by decide +kernel)
theorem gw352 : (Jvm.Cond.lays "java/lang/UnsupportedOperationException" "java/lang/Throwable" "stackTrace" "[Ljava/lang/StackTraceElement;") ∈ GW := gw_at 352 (by decide +kernel) (by decide +kernel)
theorem gw353 : (Jvm.Cond.lays "java/lang/UnsupportedOperationException" "java/lang/Throwable" "suppressedExceptions" "Ljava/util/List;") ∈ GW := gw_at 353 (by decide +kernel) (by decide +kernel)
theorem gw354 : (Jvm.Cond.lays "java/lang/UnsupportedOperationException" "java/lang/Throwable" "detailMessage" "Ljava/lang/String;") ∈ GW := gw_at 354 (by decide +kernel) (by decide +kernel)
theorem gw355 : (Jvm.Cond.lays "java/lang/UnsupportedOperationException" "java/lang/Throwable" "backtrace" "Ljava/lang/Object;") ∈ GW := gw_at 355 (by decide +kernel) (by decide +kernel)
theorem gw357 : (Jvm.Cond.methodLink "LiquidChecker" (89 : Nat) ({ cls := "java/lang/UnsupportedOperationException", name := "<init>", desc := "(Ljava/lang/String;)V" } : Jvm.MethodName)) ∈ GW := gw_at 357 (by decide +kernel) (by decide +kernel)
theorem gw358 : (Jvm.Cond.instanceMethod ({ cls := "java/lang/UnsupportedOperationException", name := "<init>", desc := "(Ljava/lang/String;)V" } : Jvm.MethodName)) ∈ GW := gw_at 358 (by decide +kernel) (by decide +kernel)
theorem gw359 : (Jvm.Cond.code ({ cls := "java/lang/UnsupportedOperationException", name := "<init>", desc := "(Ljava/lang/String;)V" } : Jvm.MethodName) prog_18_method_2_code (2 : Nat) (Option.none : Option Jvm.ClassFile.FieldType)) ∈ GW := gw_at 359 (by decide +kernel) (by decide +kernel)
theorem gw360 : (Jvm.Cond.methodLink "java/lang/UnsupportedOperationException" (7 : Nat) ({ cls := "java/lang/RuntimeException", name := "<init>", desc := "(Ljava/lang/String;)V" } : Jvm.MethodName)) ∈ GW := gw_at 360 (by decide +kernel) (by decide +kernel)
theorem gw361 : (Jvm.Cond.lays "java/lang/UnsupportedOperationException" "java/lang/Throwable" "depth" "I") ∈ GW := gw_at 361 (by decide +kernel) (by decide +kernel)
theorem gw365 : (Jvm.Cond.instanceMethod ({ cls := "LiquidChecker$Function", name := "hasRoomFor", desc := "(I)Z" } : Jvm.MethodName)) ∈ GW := gw_at 365 (by decide +kernel) (by decide +kernel)
theorem gw366 : (Jvm.Cond.code ({ cls := "LiquidChecker$Function", name := "hasRoomFor", desc := "(I)Z" } : Jvm.MethodName) prog_2_method_6_code (2 : Nat) (Option.some Jvm.ClassFile.FieldType.boolean)) ∈ GW := gw_at 366 (by decide +kernel) (by decide +kernel)
theorem gw370 : (Jvm.Cond.instanceMethod ({ cls := "LiquidChecker$Function", name := "append", desc := "(IIIII)I" } : Jvm.MethodName)) ∈ GW := gw_at 370 (by decide +kernel) (by decide +kernel)
theorem gw371 : (Jvm.Cond.code ({ cls := "LiquidChecker$Function", name := "append", desc := "(IIIII)I" } : Jvm.MethodName) prog_2_method_7_code (7 : Nat) (Option.some Jvm.ClassFile.FieldType.int)) ∈ GW := gw_at 371 (by decide +kernel) (by decide +kernel)
theorem gw374 : (Jvm.Cond.instanceMethod ({ cls := "LiquidChecker$Statement", name := "write", desc := "(IIIII)V" } : Jvm.MethodName)) ∈ GW := gw_at 374 (by decide +kernel) (by decide +kernel)
theorem gw375 : (Jvm.Cond.code ({ cls := "LiquidChecker$Statement", name := "write", desc := "(IIIII)V" } : Jvm.MethodName) prog_5_method_2_code (6 : Nat) (Option.none : Option Jvm.ClassFile.FieldType)) ∈ GW := gw_at 375 (by decide +kernel) (by decide +kernel)
theorem gw377 : (Jvm.Cond.methodLink "LiquidChecker$Function" (69 : Nat) ({ cls := "LiquidChecker$Function", name := "openIf", desc := "(I)V" } : Jvm.MethodName)) ∈ GW := gw_at 377 (by decide +kernel) (by decide +kernel)
theorem gw379 : (Jvm.Cond.instanceMethod ({ cls := "LiquidChecker$Function", name := "openIf", desc := "(I)V" } : Jvm.MethodName)) ∈ GW := gw_at 379 (by decide +kernel) (by decide +kernel)
theorem gw380 : (Jvm.Cond.code ({ cls := "LiquidChecker$Function", name := "openIf", desc := "(I)V" } : Jvm.MethodName) prog_2_method_8_code (2 : Nat) (Option.none : Option Jvm.ClassFile.FieldType)) ∈ GW := gw_at 380 (by decide +kernel) (by decide +kernel)
theorem gw381 : (Jvm.Cond.methodLink "LiquidChecker$Function" (73 : Nat) ({ cls := "LiquidChecker$Function", name := "turnToElse", desc := "(I)V" } : Jvm.MethodName)) ∈ GW := gw_at 381 (by decide +kernel) (by decide +kernel)
theorem gw383 : (Jvm.Cond.instanceMethod ({ cls := "LiquidChecker$Function", name := "turnToElse", desc := "(I)V" } : Jvm.MethodName)) ∈ GW := gw_at 383 (by decide +kernel) (by decide +kernel)
theorem gw384 : (Jvm.Cond.code ({ cls := "LiquidChecker$Function", name := "turnToElse", desc := "(I)V" } : Jvm.MethodName) prog_2_method_9_code (2 : Nat) (Option.none : Option Jvm.ClassFile.FieldType)) ∈ GW := gw_at 384 (by decide +kernel) (by decide +kernel)
theorem gw385 : (Jvm.Cond.methodLink "LiquidChecker$Function" (76 : Nat) ({ cls := "LiquidChecker$Function", name := "closeIf", desc := "(I)V" } : Jvm.MethodName)) ∈ GW := gw_at 385 (by decide +kernel) (by decide +kernel)
theorem gw387 : (Jvm.Cond.instanceMethod ({ cls := "LiquidChecker$Function", name := "closeIf", desc := "(I)V" } : Jvm.MethodName)) ∈ GW := gw_at 387 (by decide +kernel) (by decide +kernel)
theorem gw388 : (Jvm.Cond.code ({ cls := "LiquidChecker$Function", name := "closeIf", desc := "(I)V" } : Jvm.MethodName) prog_2_method_10_code (2 : Nat) (Option.none : Option Jvm.ClassFile.FieldType)) ∈ GW := gw_at 388 (by decide +kernel) (by decide +kernel)
theorem gw389 : (Jvm.Cond.methodLink "LiquidCheckerLaw" (69 : Nat) ({ cls := "LiquidCheckerLaw", name := "clear", desc := "(LLiquidChecker;I[J)I" } : Jvm.MethodName)) ∈ GW := gw_at 389 (by decide +kernel) (by decide +kernel)
theorem gw390 : (Jvm.Cond.static ({ cls := "LiquidCheckerLaw", name := "clear", desc := "(LLiquidChecker;I[J)I" } : Jvm.MethodName)) ∈ GW := gw_at 390 (by decide +kernel) (by decide +kernel)
theorem gw391 : (Jvm.Cond.codeWith ({ cls := "LiquidCheckerLaw", name := "clear", desc := "(LLiquidChecker;I[J)I" } : Jvm.MethodName) method_5_code (4 : Nat) (Option.some Jvm.ClassFile.FieldType.int) [((0 : Nat), (9 : Nat), (12 : Nat), (13 : Nat))]) ∈ GW := gw_at 391 (by decide +kernel) (by decide +kernel)
theorem gw392 : (Jvm.Cond.methodLink "LiquidCheckerLaw" (23 : Nat) ({ cls := "LiquidChecker", name := "clear", desc := "(I)I" } : Jvm.MethodName)) ∈ GW := gw_at 392 (by decide +kernel) (by decide +kernel)
theorem gw393 : (Jvm.Cond.instanceMethod ({ cls := "LiquidChecker", name := "clear", desc := "(I)I" } : Jvm.MethodName)) ∈ GW := gw_at 393 (by decide +kernel) (by decide +kernel)
theorem gw394 : (Jvm.Cond.selects "LiquidChecker" ({ cls := "LiquidChecker", name := "clear", desc := "(I)I" } : Jvm.MethodName) ({ cls := "LiquidChecker", name := "clear", desc := "(I)I" } : Jvm.MethodName)) ∈ GW := gw_at 394 (by decide +kernel) (by decide +kernel)
theorem gw395 : (Jvm.Cond.code ({ cls := "LiquidChecker", name := "clear", desc := "(I)I" } : Jvm.MethodName) prog_1_method_4_code (3 : Nat) (Option.some Jvm.ClassFile.FieldType.int)) ∈ GW := gw_at 395 (by decide +kernel) (by decide +kernel)
theorem gw399 : (Jvm.Cond.instanceMethod ({ cls := "LiquidChecker$Function", name := "empty", desc := "()V" } : Jvm.MethodName)) ∈ GW := gw_at 399 (by decide +kernel) (by decide +kernel)
theorem gw400 : (Jvm.Cond.code ({ cls := "LiquidChecker$Function", name := "empty", desc := "()V" } : Jvm.MethodName) prog_2_method_2_code (1 : Nat) (Option.none : Option Jvm.ClassFile.FieldType)) ∈ GW := gw_at 400 (by decide +kernel) (by decide +kernel)
theorem gw401 : (Jvm.Cond.methodLink "LiquidCheckerLaw" (73 : Nat) ({ cls := "LiquidCheckerLaw", name := "check", desc := "(LLiquidChecker;I[J)I" } : Jvm.MethodName)) ∈ GW := gw_at 401 (by decide +kernel) (by decide +kernel)
theorem gw402 : (Jvm.Cond.static ({ cls := "LiquidCheckerLaw", name := "check", desc := "(LLiquidChecker;I[J)I" } : Jvm.MethodName)) ∈ GW := gw_at 402 (by decide +kernel) (by decide +kernel)
theorem gw403 : (Jvm.Cond.codeWith ({ cls := "LiquidCheckerLaw", name := "check", desc := "(LLiquidChecker;I[J)I" } : Jvm.MethodName) method_6_code (4 : Nat) (Option.some Jvm.ClassFile.FieldType.int) [((0 : Nat), (9 : Nat), (12 : Nat), (13 : Nat))]) ∈ GW := gw_at 403 (by decide +kernel) (by decide +kernel)
theorem gw404 : (Jvm.Cond.methodLink "LiquidCheckerLaw" (27 : Nat) ({ cls := "LiquidChecker", name := "check", desc := "(I)I" } : Jvm.MethodName)) ∈ GW := gw_at 404 (by decide +kernel) (by decide +kernel)
theorem gw405 : (Jvm.Cond.instanceMethod ({ cls := "LiquidChecker", name := "check", desc := "(I)I" } : Jvm.MethodName)) ∈ GW := gw_at 405 (by decide +kernel) (by decide +kernel)
theorem gw406 : (Jvm.Cond.selects "LiquidChecker" ({ cls := "LiquidChecker", name := "check", desc := "(I)I" } : Jvm.MethodName) ({ cls := "LiquidChecker", name := "check", desc := "(I)I" } : Jvm.MethodName)) ∈ GW := gw_at 406 (by decide +kernel) (by decide +kernel)
theorem gw407 : (Jvm.Cond.code ({ cls := "LiquidChecker", name := "check", desc := "(I)I" } : Jvm.MethodName) prog_1_method_5_code (2 : Nat) (Option.some Jvm.ClassFile.FieldType.int)) ∈ GW := gw_at 407 (by decide +kernel) (by decide +kernel)
theorem gw410 : (Jvm.Cond.instanceMethod ({ cls := "LiquidChecker$Walk", name := "through", desc := "([LLiquidChecker$Function;LLiquidChecker$Function;III)V" } : Jvm.MethodName)) ∈ GW := gw_at 410 (by decide +kernel) (by decide +kernel)
theorem gw411 : (Jvm.Cond.code ({ cls := "LiquidChecker$Walk", name := "through", desc := "([LLiquidChecker$Function;LLiquidChecker$Function;III)V" } : Jvm.MethodName) prog_6_method_3_code (8 : Nat) (Option.none : Option Jvm.ClassFile.FieldType)) ∈ GW := gw_at 411 (by decide +kernel) (by decide +kernel)
theorem gw412 : (Jvm.Cond.constant "LiquidChecker$Walk" (41 : Nat) (-2147483648 : Int32)) ∈ GW := gw_at 412 (by decide +kernel) (by decide +kernel)
theorem gw415 : (Jvm.Cond.instanceMethod ({ cls := "LiquidChecker$Known", name := "forgetAll", desc := "()V" } : Jvm.MethodName)) ∈ GW := gw_at 415 (by decide +kernel) (by decide +kernel)
theorem gw416 : (Jvm.Cond.code ({ cls := "LiquidChecker$Known", name := "forgetAll", desc := "()V" } : Jvm.MethodName) prog_3_method_2_code (2 : Nat) (Option.none : Option Jvm.ClassFile.FieldType)) ∈ GW := gw_at 416 (by decide +kernel) (by decide +kernel)
theorem gw417 : (Jvm.Cond.constant "LiquidChecker$Known" (17 : Nat) (2147483647 : Int32)) ∈ GW := gw_at 417 (by decide +kernel) (by decide +kernel)
theorem gw418 : (Jvm.Cond.methodLink "LiquidChecker$Known" (18 : Nat) ({ cls := "java/util/Arrays", name := "fill", desc := "([II)V" } : Jvm.MethodName)) ∈ GW := gw_at 418 (by decide +kernel) (by decide +kernel)
theorem gw419 : (Jvm.Cond.static ({ cls := "java/util/Arrays", name := "fill", desc := "([II)V" } : Jvm.MethodName)) ∈ GW := gw_at 419 (by decide +kernel) (by decide +kernel)
theorem gw420 : (Jvm.Cond.code ({ cls := "java/util/Arrays", name := "fill", desc := "([II)V" } : Jvm.MethodName) prog_19_method_103_code (4 : Nat) (Option.none : Option Jvm.ClassFile.FieldType)) ∈ GW := gw_at 420 (by decide +kernel) (by decide +kernel)
theorem gw423 : (Jvm.Cond.instanceMethod ({ cls := "LiquidChecker$Relations", name := "learnedBy", desc := "(LLiquidChecker$Known;II)V" } : Jvm.MethodName)) ∈ GW := gw_at 423 (by decide +kernel) (by decide +kernel)
theorem gw424 : (Jvm.Cond.code ({ cls := "LiquidChecker$Relations", name := "learnedBy", desc := "(LLiquidChecker$Known;II)V" } : Jvm.MethodName) prog_4_method_3_code (5 : Nat) (Option.none : Option Jvm.ClassFile.FieldType)) ∈ GW := gw_at 424 (by decide +kernel) (by decide +kernel)
theorem gw425 : (Jvm.Cond.methodLink "LiquidChecker$Relations" (25 : Nat) ({ cls := "LiquidChecker$Relations", name := "nameFor", desc := "(III)I" } : Jvm.MethodName)) ∈ GW := gw_at 425 (by decide +kernel) (by decide +kernel)
theorem gw426 : (Jvm.Cond.static ({ cls := "LiquidChecker$Relations", name := "nameFor", desc := "(III)I" } : Jvm.MethodName)) ∈ GW := gw_at 426 (by decide +kernel) (by decide +kernel)
theorem gw427 : (Jvm.Cond.code ({ cls := "LiquidChecker$Relations", name := "nameFor", desc := "(III)I" } : Jvm.MethodName) prog_4_method_5_code (3 : Nat) (Option.some Jvm.ClassFile.FieldType.int)) ∈ GW := gw_at 427 (by decide +kernel) (by decide +kernel)
theorem gw430 : (Jvm.Cond.instanceMethod ({ cls := "LiquidChecker$Known", name := "learn", desc := "(III)V" } : Jvm.MethodName)) ∈ GW := gw_at 430 (by decide +kernel) (by decide +kernel)
theorem gw431 : (Jvm.Cond.code ({ cls := "LiquidChecker$Known", name := "learn", desc := "(III)V" } : Jvm.MethodName) prog_3_method_6_code (9 : Nat) (Option.none : Option Jvm.ClassFile.FieldType)) ∈ GW := gw_at 431 (by decide +kernel) (by decide +kernel)
theorem gw432 : (Jvm.Cond.methodLink "LiquidChecker$Walk" (73 : Nat) ({ cls := "LiquidChecker$Walk", name := "followFrom", desc := "(I[LLiquidChecker$Function;LLiquidChecker$Function;)V" } : Jvm.MethodName)) ∈ GW := gw_at 432 (by decide +kernel) (by decide +kernel)
theorem gw434 : (Jvm.Cond.instanceMethod ({ cls := "LiquidChecker$Walk", name := "followFrom", desc := "(I[LLiquidChecker$Function;LLiquidChecker$Function;)V" } : Jvm.MethodName)) ∈ GW := gw_at 434 (by decide +kernel) (by decide +kernel)
theorem gw435 : (Jvm.Cond.code ({ cls := "LiquidChecker$Walk", name := "followFrom", desc := "(I[LLiquidChecker$Function;LLiquidChecker$Function;)V" } : Jvm.MethodName) prog_6_method_5_code (6 : Nat) (Option.none : Option Jvm.ClassFile.FieldType)) ∈ GW := gw_at 435 (by decide +kernel) (by decide +kernel)
theorem gw436 : (Jvm.Cond.methodLink "LiquidChecker$Walk" (85 : Nat) ({ cls := "LiquidChecker$Walk", name := "comeTo", desc := "(I)V" } : Jvm.MethodName)) ∈ GW := gw_at 436 (by decide +kernel) (by decide +kernel)
theorem gw438 : (Jvm.Cond.instanceMethod ({ cls := "LiquidChecker$Walk", name := "comeTo", desc := "(I)V" } : Jvm.MethodName)) ∈ GW := gw_at 438 (by decide +kernel) (by decide +kernel)
theorem gw439 : (Jvm.Cond.code ({ cls := "LiquidChecker$Walk", name := "comeTo", desc := "(I)V" } : Jvm.MethodName) prog_6_method_6_code (2 : Nat) (Option.none : Option Jvm.ClassFile.FieldType)) ∈ GW := gw_at 439 (by decide +kernel) (by decide +kernel)
theorem gw442 : (Jvm.Cond.instanceMethod ({ cls := "LiquidChecker$Known", name := "bound", desc := "(II)I" } : Jvm.MethodName)) ∈ GW := gw_at 442 (by decide +kernel) (by decide +kernel)
theorem gw443 : (Jvm.Cond.code ({ cls := "LiquidChecker$Known", name := "bound", desc := "(II)I" } : Jvm.MethodName) prog_3_method_4_code (3 : Nat) (Option.some Jvm.ClassFile.FieldType.int)) ∈ GW := gw_at 443 (by decide +kernel) (by decide +kernel)
theorem gw444 : (Jvm.Cond.methodLink "LiquidChecker$Walk" (104 : Nat) ({ cls := "java/lang/Math", name := "max", desc := "(II)I" } : Jvm.MethodName)) ∈ GW := gw_at 444 (by decide +kernel) (by decide +kernel)
theorem gw445 : (Jvm.Cond.static ({ cls := "java/lang/Math", name := "max", desc := "(II)I" } : Jvm.MethodName)) ∈ GW := gw_at 445 (by decide +kernel) (by decide +kernel)
theorem gw446 : (Jvm.Cond.code ({ cls := "java/lang/Math", name := "max", desc := "(II)I" } : Jvm.MethodName) prog_13_method_65_code (2 : Nat) (Option.some Jvm.ClassFile.FieldType.int)) ∈ GW := gw_at 446 (by decide +kernel) (by decide +kernel)
theorem gw447 : (Jvm.Cond.methodLink "LiquidChecker$Walk" (92 : Nat) ({ cls := "LiquidChecker$Walk", name := "endAt", desc := "(ILLiquidChecker$Function;II)V" } : Jvm.MethodName)) ∈ GW := gw_at 447 (by decide +kernel) (by decide +kernel)
theorem gw449 : (Jvm.Cond.instanceMethod ({ cls := "LiquidChecker$Walk", name := "endAt", desc := "(ILLiquidChecker$Function;II)V" } : Jvm.MethodName)) ∈ GW := gw_at 449 (by decide +kernel) (by decide +kernel)
theorem gw450 : (Jvm.Cond.code ({ cls := "LiquidChecker$Walk", name := "endAt", desc := "(ILLiquidChecker$Function;II)V" } : Jvm.MethodName) prog_6_method_10_code (5 : Nat) (Option.none : Option Jvm.ClassFile.FieldType)) ∈ GW := gw_at 450 (by decide +kernel) (by decide +kernel)
theorem gw453 : (Jvm.Cond.instanceMethod ({ cls := "LiquidChecker$Known", name := "give", desc := "(III)V" } : Jvm.MethodName)) ∈ GW := gw_at 453 (by decide +kernel) (by decide +kernel)
theorem gw454 : (Jvm.Cond.code ({ cls := "LiquidChecker$Known", name := "give", desc := "(III)V" } : Jvm.MethodName) prog_3_method_7_code (5 : Nat) (Option.none : Option Jvm.ClassFile.FieldType)) ∈ GW := gw_at 454 (by decide +kernel) (by decide +kernel)
theorem gw455 : (Jvm.Cond.methodLink "LiquidChecker$Known" (34 : Nat) ({ cls := "LiquidChecker$Known", name := "moved", desc := "(II)I" } : Jvm.MethodName)) ∈ GW := gw_at 455 (by decide +kernel) (by decide +kernel)
theorem gw456 : (Jvm.Cond.static ({ cls := "LiquidChecker$Known", name := "moved", desc := "(II)I" } : Jvm.MethodName)) ∈ GW := gw_at 456 (by decide +kernel) (by decide +kernel)
theorem gw457 : (Jvm.Cond.code ({ cls := "LiquidChecker$Known", name := "moved", desc := "(II)I" } : Jvm.MethodName) prog_3_method_8_code (2 : Nat) (Option.some Jvm.ClassFile.FieldType.int)) ∈ GW := gw_at 457 (by decide +kernel) (by decide +kernel)
theorem gw460 : (Jvm.Cond.instanceMethod ({ cls := "LiquidChecker$Relations", name := "shownBy", desc := "(LLiquidChecker$Known;II)Z" } : Jvm.MethodName)) ∈ GW := gw_at 460 (by decide +kernel) (by decide +kernel)
theorem gw461 : (Jvm.Cond.code ({ cls := "LiquidChecker$Relations", name := "shownBy", desc := "(LLiquidChecker$Known;II)Z" } : Jvm.MethodName) prog_4_method_4_code (5 : Nat) (Option.some Jvm.ClassFile.FieldType.boolean)) ∈ GW := gw_at 461 (by decide +kernel) (by decide +kernel)
theorem gw464 : (Jvm.Cond.instanceMethod ({ cls := "LiquidChecker$Known", name := "shows", desc := "(III)Z" } : Jvm.MethodName)) ∈ GW := gw_at 464 (by decide +kernel) (by decide +kernel)
theorem gw465 : (Jvm.Cond.code ({ cls := "LiquidChecker$Known", name := "shows", desc := "(III)Z" } : Jvm.MethodName) prog_3_method_5_code (4 : Nat) (Option.some Jvm.ClassFile.FieldType.boolean)) ∈ GW := gw_at 465 (by decide +kernel) (by decide +kernel)
theorem gw466 : (Jvm.Cond.methodLink "LiquidChecker$Walk" (150 : Nat) ({ cls := "LiquidChecker$Walk", name := "noteShown", desc := "(IZ)V" } : Jvm.MethodName)) ∈ GW := gw_at 466 (by decide +kernel) (by decide +kernel)
theorem gw468 : (Jvm.Cond.instanceMethod ({ cls := "LiquidChecker$Walk", name := "noteShown", desc := "(IZ)V" } : Jvm.MethodName)) ∈ GW := gw_at 468 (by decide +kernel) (by decide +kernel)
theorem gw469 : (Jvm.Cond.code ({ cls := "LiquidChecker$Walk", name := "noteShown", desc := "(IZ)V" } : Jvm.MethodName) prog_6_method_11_code (3 : Nat) (Option.none : Option Jvm.ClassFile.FieldType)) ∈ GW := gw_at 469 (by decide +kernel) (by decide +kernel)
theorem gw470 : (Jvm.Cond.methodLink "LiquidChecker$Walk" (96 : Nat) ({ cls := "LiquidChecker$Walk", name := "pass", desc := "(I[LLiquidChecker$Function;LLiquidChecker$Function;)I" } : Jvm.MethodName)) ∈ GW := gw_at 470 (by decide +kernel) (by decide +kernel)
theorem gw472 : (Jvm.Cond.instanceMethod ({ cls := "LiquidChecker$Walk", name := "pass", desc := "(I[LLiquidChecker$Function;LLiquidChecker$Function;)I" } : Jvm.MethodName)) ∈ GW := gw_at 472 (by decide +kernel) (by decide +kernel)
theorem gw473 : (Jvm.Cond.code ({ cls := "LiquidChecker$Walk", name := "pass", desc := "(I[LLiquidChecker$Function;LLiquidChecker$Function;)I" } : Jvm.MethodName) prog_6_method_7_code (6 : Nat) (Option.some Jvm.ClassFile.FieldType.int)) ∈ GW := gw_at 473 (by decide +kernel) (by decide +kernel)
theorem gw474 : (Jvm.Cond.methodLink "LiquidChecker$Walk" (131 : Nat) ({ cls := "LiquidChecker$Walk", name := "passCall", desc := "(ILLiquidChecker$Statement;LLiquidChecker$Function;)V" } : Jvm.MethodName)) ∈ GW := gw_at 474 (by decide +kernel) (by decide +kernel)
theorem gw476 : (Jvm.Cond.instanceMethod ({ cls := "LiquidChecker$Walk", name := "passCall", desc := "(ILLiquidChecker$Statement;LLiquidChecker$Function;)V" } : Jvm.MethodName)) ∈ GW := gw_at 476 (by decide +kernel) (by decide +kernel)
theorem gw477 : (Jvm.Cond.code ({ cls := "LiquidChecker$Walk", name := "passCall", desc := "(ILLiquidChecker$Statement;LLiquidChecker$Function;)V" } : Jvm.MethodName) prog_6_method_8_code (4 : Nat) (Option.none : Option Jvm.ClassFile.FieldType)) ∈ GW := gw_at 477 (by decide +kernel) (by decide +kernel)
theorem gw480 : (Jvm.Cond.instanceMethod ({ cls := "LiquidChecker$Known", name := "forget", desc := "(I)V" } : Jvm.MethodName)) ∈ GW := gw_at 480 (by decide +kernel) (by decide +kernel)
theorem gw481 : (Jvm.Cond.code ({ cls := "LiquidChecker$Known", name := "forget", desc := "(I)V" } : Jvm.MethodName) prog_3_method_9_code (3 : Nat) (Option.none : Option Jvm.ClassFile.FieldType)) ∈ GW := gw_at 481 (by decide +kernel) (by decide +kernel)
theorem gw484 : (Jvm.Cond.instanceMethod ({ cls := "LiquidChecker$Function", name := "targetOf", desc := "(LLiquidChecker$Statement;)I" } : Jvm.MethodName)) ∈ GW := gw_at 484 (by decide +kernel) (by decide +kernel)
theorem gw485 : (Jvm.Cond.code ({ cls := "LiquidChecker$Function", name := "targetOf", desc := "(LLiquidChecker$Statement;)I" } : Jvm.MethodName) prog_2_method_11_code (2 : Nat) (Option.some Jvm.ClassFile.FieldType.int)) ∈ GW := gw_at 485 (by decide +kernel) (by decide +kernel)
theorem gw486 : (Jvm.Cond.methodLink "LiquidChecker$Walk" (139 : Nat) ({ cls := "LiquidChecker$Walk", name := "leaveOtherSide", desc := "(LLiquidChecker$Statement;I)V" } : Jvm.MethodName)) ∈ GW := gw_at 486 (by decide +kernel) (by decide +kernel)
theorem gw488 : (Jvm.Cond.instanceMethod ({ cls := "LiquidChecker$Walk", name := "leaveOtherSide", desc := "(LLiquidChecker$Statement;I)V" } : Jvm.MethodName)) ∈ GW := gw_at 488 (by decide +kernel) (by decide +kernel)
theorem gw489 : (Jvm.Cond.code ({ cls := "LiquidChecker$Walk", name := "leaveOtherSide", desc := "(LLiquidChecker$Statement;I)V" } : Jvm.MethodName) prog_6_method_9_code (4 : Nat) (Option.none : Option Jvm.ClassFile.FieldType)) ∈ GW := gw_at 489 (by decide +kernel) (by decide +kernel)
theorem gw492 : (Jvm.Cond.instanceMethod ({ cls := "LiquidChecker$Known", name := "copyFrom", desc := "(LLiquidChecker$Known;)V" } : Jvm.MethodName)) ∈ GW := gw_at 492 (by decide +kernel) (by decide +kernel)
theorem gw493 : (Jvm.Cond.code ({ cls := "LiquidChecker$Known", name := "copyFrom", desc := "(LLiquidChecker$Known;)V" } : Jvm.MethodName) prog_3_method_3_code (2 : Nat) (Option.none : Option Jvm.ClassFile.FieldType)) ∈ GW := gw_at 493 (by decide +kernel) (by decide +kernel)
theorem gw494 : (Jvm.Cond.methodLink "LiquidChecker$Known" (28 : Nat) ({ cls := "java/lang/System", name := "arraycopy", desc := "(Ljava/lang/Object;ILjava/lang/Object;II)V" } : Jvm.MethodName)) ∈ GW := gw_at 494 (by decide +kernel) (by decide +kernel)
theorem gw495 : (Jvm.Cond.static ({ cls := "java/lang/System", name := "arraycopy", desc := "(Ljava/lang/Object;ILjava/lang/Object;II)V" } : Jvm.MethodName)) ∈ GW := gw_at 495 (by decide +kernel) (by decide +kernel)
theorem gw496 : (Jvm.Cond.native ({ cls := "java/lang/System", name := "arraycopy", desc := "(Ljava/lang/Object;ILjava/lang/Object;II)V" } : Jvm.MethodName)) ∈ GW := gw_at 496 (by decide +kernel) (by decide +kernel)
theorem gw499 : (Jvm.Cond.methodLink "LiquidChecker$Walk" (77 : Nat) ({ cls := "LiquidChecker$Walk", name := "takeWaitingSide", desc := "()I" } : Jvm.MethodName)) ∈ GW := gw_at 499 (by decide +kernel) (by decide +kernel)
theorem gw501 : (Jvm.Cond.instanceMethod ({ cls := "LiquidChecker$Walk", name := "takeWaitingSide", desc := "()I" } : Jvm.MethodName)) ∈ GW := gw_at 501 (by decide +kernel) (by decide +kernel)
theorem gw502 : (Jvm.Cond.code ({ cls := "LiquidChecker$Walk", name := "takeWaitingSide", desc := "()I" } : Jvm.MethodName) prog_6_method_4_code (1 : Nat) (Option.some Jvm.ClassFile.FieldType.int)) ∈ GW := gw_at 502 (by decide +kernel) (by decide +kernel)
theorem gw503 : (Jvm.Cond.methodLink "LiquidCheckerLaw" (76 : Nat) ({ cls := "LiquidCheckerLaw", name := "ways", desc := "(LLiquidChecker;I[J)I" } : Jvm.MethodName)) ∈ GW := gw_at 503 (by decide +kernel) (by decide +kernel)
theorem gw504 : (Jvm.Cond.static ({ cls := "LiquidCheckerLaw", name := "ways", desc := "(LLiquidChecker;I[J)I" } : Jvm.MethodName)) ∈ GW := gw_at 504 (by decide +kernel) (by decide +kernel)
theorem gw505 : (Jvm.Cond.codeWith ({ cls := "LiquidCheckerLaw", name := "ways", desc := "(LLiquidChecker;I[J)I" } : Jvm.MethodName) method_7_code (4 : Nat) (Option.some Jvm.ClassFile.FieldType.int) [((0 : Nat), (9 : Nat), (12 : Nat), (13 : Nat))]) ∈ GW := gw_at 505 (by decide +kernel) (by decide +kernel)
theorem gw506 : (Jvm.Cond.methodLink "LiquidCheckerLaw" (30 : Nat) ({ cls := "LiquidChecker", name := "ways", desc := "(I)I" } : Jvm.MethodName)) ∈ GW := gw_at 506 (by decide +kernel) (by decide +kernel)
theorem gw507 : (Jvm.Cond.instanceMethod ({ cls := "LiquidChecker", name := "ways", desc := "(I)I" } : Jvm.MethodName)) ∈ GW := gw_at 507 (by decide +kernel) (by decide +kernel)
theorem gw508 : (Jvm.Cond.selects "LiquidChecker" ({ cls := "LiquidChecker", name := "ways", desc := "(I)I" } : Jvm.MethodName) ({ cls := "LiquidChecker", name := "ways", desc := "(I)I" } : Jvm.MethodName)) ∈ GW := gw_at 508 (by decide +kernel) (by decide +kernel)
theorem gw509 : (Jvm.Cond.code ({ cls := "LiquidChecker", name := "ways", desc := "(I)I" } : Jvm.MethodName) prog_1_method_6_code (2 : Nat) (Option.some Jvm.ClassFile.FieldType.int)) ∈ GW := gw_at 509 (by decide +kernel) (by decide +kernel)
theorem gw510 : (Jvm.Cond.methodLink "LiquidCheckerLaw" (79 : Nat) ({ cls := "LiquidCheckerLaw", name := "comes", desc := "(LLiquidChecker;II[J)I" } : Jvm.MethodName)) ∈ GW := gw_at 510 (by decide +kernel) (by decide +kernel)
theorem gw511 : (Jvm.Cond.static ({ cls := "LiquidCheckerLaw", name := "comes", desc := "(LLiquidChecker;II[J)I" } : Jvm.MethodName)) ∈ GW := gw_at 511 (by decide +kernel) (by decide +kernel)
theorem gw512 : (Jvm.Cond.codeWith ({ cls := "LiquidCheckerLaw", name := "comes", desc := "(LLiquidChecker;II[J)I" } : Jvm.MethodName) method_8_code (5 : Nat) (Option.some Jvm.ClassFile.FieldType.int) [((0 : Nat), (10 : Nat), (13 : Nat), (13 : Nat))]) ∈ GW := gw_at 512 (by decide +kernel) (by decide +kernel)
theorem gw513 : (Jvm.Cond.methodLink "LiquidCheckerLaw" (33 : Nat) ({ cls := "LiquidChecker", name := "comes", desc := "(II)I" } : Jvm.MethodName)) ∈ GW := gw_at 513 (by decide +kernel) (by decide +kernel)
theorem gw514 : (Jvm.Cond.instanceMethod ({ cls := "LiquidChecker", name := "comes", desc := "(II)I" } : Jvm.MethodName)) ∈ GW := gw_at 514 (by decide +kernel) (by decide +kernel)
theorem gw515 : (Jvm.Cond.selects "LiquidChecker" ({ cls := "LiquidChecker", name := "comes", desc := "(II)I" } : Jvm.MethodName) ({ cls := "LiquidChecker", name := "comes", desc := "(II)I" } : Jvm.MethodName)) ∈ GW := gw_at 515 (by decide +kernel) (by decide +kernel)
theorem gw516 : (Jvm.Cond.code ({ cls := "LiquidChecker", name := "comes", desc := "(II)I" } : Jvm.MethodName) prog_1_method_7_code (3 : Nat) (Option.some Jvm.ClassFile.FieldType.int)) ∈ GW := gw_at 516 (by decide +kernel) (by decide +kernel)
theorem gw517 : (Jvm.Cond.methodLink "LiquidChecker" (114 : Nat) ({ cls := "LiquidChecker", name := "isPlace", desc := "(II)Z" } : Jvm.MethodName)) ∈ GW := gw_at 517 (by decide +kernel) (by decide +kernel)
theorem gw519 : (Jvm.Cond.instanceMethod ({ cls := "LiquidChecker", name := "isPlace", desc := "(II)Z" } : Jvm.MethodName)) ∈ GW := gw_at 519 (by decide +kernel) (by decide +kernel)
theorem gw520 : (Jvm.Cond.code ({ cls := "LiquidChecker", name := "isPlace", desc := "(II)Z" } : Jvm.MethodName) prog_1_method_11_code (3 : Nat) (Option.some Jvm.ClassFile.FieldType.boolean)) ∈ GW := gw_at 520 (by decide +kernel) (by decide +kernel)
theorem gw524 : (Jvm.Cond.instanceMethod ({ cls := "LiquidChecker$Walk", name := "cameTo", desc := "(I)Z" } : Jvm.MethodName)) ∈ GW := gw_at 524 (by decide +kernel) (by decide +kernel)
theorem gw525 : (Jvm.Cond.code ({ cls := "LiquidChecker$Walk", name := "cameTo", desc := "(I)Z" } : Jvm.MethodName) prog_6_method_2_code (2 : Nat) (Option.some Jvm.ClassFile.FieldType.boolean)) ∈ GW := gw_at 525 (by decide +kernel) (by decide +kernel)
theorem gw526 : (Jvm.Cond.methodLink "LiquidCheckerLaw" (83 : Nat) ({ cls := "LiquidCheckerLaw", name := "most", desc := "(LLiquidChecker;IIII[J)I" } : Jvm.MethodName)) ∈ GW := gw_at 526 (by decide +kernel) (by decide +kernel)
theorem gw527 : (Jvm.Cond.static ({ cls := "LiquidCheckerLaw", name := "most", desc := "(LLiquidChecker;IIII[J)I" } : Jvm.MethodName)) ∈ GW := gw_at 527 (by decide +kernel) (by decide +kernel)
theorem gw528 : (Jvm.Cond.codeWith ({ cls := "LiquidCheckerLaw", name := "most", desc := "(LLiquidChecker;IIII[J)I" } : Jvm.MethodName) method_9_code (7 : Nat) (Option.some Jvm.ClassFile.FieldType.int) [((0 : Nat), (14 : Nat), (17 : Nat), (13 : Nat)), ((0 : Nat), (14 : Nat), (21 : Nat), (41 : Nat)), ((0 : Nat), (14 : Nat), (25 : Nat), (43 : Nat))]) ∈ GW := gw_at 528 (by decide +kernel) (by decide +kernel)
theorem gw529 : (Jvm.Cond.classLink "LiquidCheckerLaw" (41 : Nat) "java/util/NoSuchElementException") ∈ GW := gw_at 529 (by decide +kernel) (by decide +kernel)
theorem gw530 : (Jvm.Cond.classLink "LiquidCheckerLaw" (43 : Nat) "java/lang/ArithmeticException") ∈ GW := gw_at 530 (by decide +kernel) (by decide +kernel)
theorem gw531 : (Jvm.Cond.methodLink "LiquidCheckerLaw" (37 : Nat) ({ cls := "LiquidChecker", name := "most", desc := "(IIII)I" } : Jvm.MethodName)) ∈ GW := gw_at 531 (by decide +kernel) (by decide +kernel)
theorem gw532 : (Jvm.Cond.instanceMethod ({ cls := "LiquidChecker", name := "most", desc := "(IIII)I" } : Jvm.MethodName)) ∈ GW := gw_at 532 (by decide +kernel) (by decide +kernel)
theorem gw533 : (Jvm.Cond.selects "LiquidChecker" ({ cls := "LiquidChecker", name := "most", desc := "(IIII)I" } : Jvm.MethodName) ({ cls := "LiquidChecker", name := "most", desc := "(IIII)I" } : Jvm.MethodName)) ∈ GW := gw_at 533 (by decide +kernel) (by decide +kernel)
theorem gw534 : (Jvm.Cond.code ({ cls := "LiquidChecker", name := "most", desc := "(IIII)I" } : Jvm.MethodName) prog_1_method_8_code (5 : Nat) (Option.some Jvm.ClassFile.FieldType.int)) ∈ GW := gw_at 534 (by decide +kernel) (by decide +kernel)
theorem gw536 : (Jvm.Cond.classLink "LiquidChecker" (128 : Nat) "java/util/NoSuchElementException") ∈ GW := gw_at 536 (by decide +kernel) (by decide +kernel)
theorem gw537 : (Jvm.Cond.instantiable "java/util/NoSuchElementException" (6 : Nat)) ∈ GW := gw_at 537 (by decide +kernel) (by decide +kernel)
theorem gw539 : (Jvm.Cond.selects "java/util/NoSuchElementException" ({ cls := "java/lang/Throwable", name := "fillInStackTrace", desc := "(I)Ljava/lang/Throwable;" } : Jvm.MethodName) ({ cls := "java/lang/Throwable", name := "fillInStackTrace", desc := "(I)Ljava/lang/Throwable;" } : Jvm.MethodName)) ∈ GW := gw_at 539 (by decide +kernel) (by decide +kernel)
theorem gw540 : (Jvm.Cond.lays "java/util/NoSuchElementException" "java/lang/Throwable" "cause" "Ljava/lang/Throwable;") ∈ GW := gw_at 540 (by decide +kernel) (by decide +kernel)
theorem gw541 : (Jvm.Cond.lays "java/util/NoSuchElementException" "java/lang/Throwable" "stackTrace" "[Ljava/lang/StackTraceElement;") ∈ GW := gw_at 541 (by decide +kernel) (by decide +kernel)
theorem gw542 : (Jvm.Cond.lays "java/util/NoSuchElementException" "java/lang/Throwable" "suppressedExceptions" "Ljava/util/List;") ∈ GW := gw_at 542 (by decide +kernel) (by decide +kernel)
theorem gw543 : (Jvm.Cond.lays "java/util/NoSuchElementException" "java/lang/Throwable" "detailMessage" "Ljava/lang/String;") ∈ GW := gw_at 543 (by decide +kernel) (by decide +kernel)
theorem gw544 : (Jvm.Cond.lays "java/util/NoSuchElementException" "java/lang/Throwable" "backtrace" "Ljava/lang/Object;") ∈ GW := gw_at 544 (by decide +kernel) (by decide +kernel)
theorem gw546 : (Jvm.Cond.methodLink "LiquidChecker" (132 : Nat) ({ cls := "java/util/NoSuchElementException", name := "<init>", desc := "(Ljava/lang/String;)V" } : Jvm.MethodName)) ∈ GW := gw_at 546 (by decide +kernel) (by decide +kernel)
theorem gw547 : (Jvm.Cond.instanceMethod ({ cls := "java/util/NoSuchElementException", name := "<init>", desc := "(Ljava/lang/String;)V" } : Jvm.MethodName)) ∈ GW := gw_at 547 (by decide +kernel) (by decide +kernel)
theorem gw548 : (Jvm.Cond.code ({ cls := "java/util/NoSuchElementException", name := "<init>", desc := "(Ljava/lang/String;)V" } : Jvm.MethodName) prog_20_method_4_code (2 : Nat) (Option.none : Option Jvm.ClassFile.FieldType)) ∈ GW := gw_at 548 (by decide +kernel) (by decide +kernel)
theorem gw549 : (Jvm.Cond.methodLink "java/util/NoSuchElementException" (13 : Nat) ({ cls := "java/lang/RuntimeException", name := "<init>", desc := "(Ljava/lang/String;)V" } : Jvm.MethodName)) ∈ GW := gw_at 549 (by decide +kernel) (by decide +kernel)
theorem gw550 : (Jvm.Cond.lays "java/util/NoSuchElementException" "java/lang/Throwable" "depth" "I") ∈ GW := gw_at 550 (by decide +kernel) (by decide +kernel)
theorem gw552 : (Jvm.Cond.constant "LiquidChecker" (136 : Nat) (2147483647 : Int32)) ∈ GW := gw_at 552 (by decide +kernel) (by decide +kernel)
theorem gw553 : (Jvm.Cond.classLink "LiquidChecker" (137 : Nat) "java/lang/ArithmeticException") ∈ GW := gw_at 553 (by decide +kernel) (by decide +kernel)
theorem gw554 : (Jvm.Cond.instantiable "java/lang/ArithmeticException" (6 : Nat)) ∈ GW := gw_at 554 (by decide +kernel) (by decide +kernel)
theorem gw556 : (Jvm.Cond.selects "java/lang/ArithmeticException" ({ cls := "java/lang/Throwable", name := "fillInStackTrace", desc := "(I)Ljava/lang/Throwable;" } : Jvm.MethodName) ({ cls := "java/lang/Throwable", name := "fillInStackTrace", desc := "(I)Ljava/lang/Throwable;" } : Jvm.MethodName)) ∈ GW := gw_at 556 (by decide +kernel) (by decide +kernel)
theorem gw557 : (Jvm.Cond.lays "java/lang/ArithmeticException" "java/lang/Throwable" "cause" "Ljava/lang/Throwable;") ∈ GW := gw_at 557 (by decide +kernel) (by decide +kernel)
theorem gw558 : (Jvm.Cond.lays "java/lang/ArithmeticException" "java/lang/Throwable" "stackTrace" "[Ljava/lang/StackTraceElement;") ∈ GW := gw_at 558 (by decide +kernel) (by decide +kernel)
theorem gw559 : (Jvm.Cond.lays "java/lang/ArithmeticException" "java/lang/Throwable" "suppressedExceptions" "Ljava/util/List;") ∈ GW := gw_at 559 (by decide +kernel) (by decide +kernel)
theorem gw560 : (Jvm.Cond.lays "java/lang/ArithmeticException" "java/lang/Throwable" "detailMessage" "Ljava/lang/String;") ∈ GW := gw_at 560 (by decide +kernel) (by decide +kernel)
theorem gw561 : (Jvm.Cond.lays "java/lang/ArithmeticException" "java/lang/Throwable" "backtrace" "Ljava/lang/Object;") ∈ GW := gw_at 561 (by decide +kernel) (by decide +kernel)
theorem gw563 : (Jvm.Cond.methodLink "LiquidChecker" (141 : Nat) ({ cls := "java/lang/ArithmeticException", name := "<init>", desc := "(Ljava/lang/String;)V" } : Jvm.MethodName)) ∈ GW := gw_at 563 (by decide +kernel) (by decide +kernel)
theorem gw564 : (Jvm.Cond.instanceMethod ({ cls := "java/lang/ArithmeticException", name := "<init>", desc := "(Ljava/lang/String;)V" } : Jvm.MethodName)) ∈ GW := gw_at 564 (by decide +kernel) (by decide +kernel)
theorem gw565 : (Jvm.Cond.code ({ cls := "java/lang/ArithmeticException", name := "<init>", desc := "(Ljava/lang/String;)V" } : Jvm.MethodName) prog_9_method_2_code (2 : Nat) (Option.none : Option Jvm.ClassFile.FieldType)) ∈ GW := gw_at 565 (by decide +kernel) (by decide +kernel)
theorem gw566 : (Jvm.Cond.methodLink "java/lang/ArithmeticException" (7 : Nat) ({ cls := "java/lang/RuntimeException", name := "<init>", desc := "(Ljava/lang/String;)V" } : Jvm.MethodName)) ∈ GW := gw_at 566 (by decide +kernel) (by decide +kernel)
theorem gw567 : (Jvm.Cond.lays "java/lang/ArithmeticException" "java/lang/Throwable" "depth" "I") ∈ GW := gw_at 567 (by decide +kernel) (by decide +kernel)
theorem gw569 : (Jvm.Cond.methodLink "LiquidCheckerLaw" (87 : Nat) ({ cls := "LiquidCheckerLaw", name := "follows", desc := "(LLiquidChecker;II[J)I" } : Jvm.MethodName)) ∈ GW := gw_at 569 (by decide +kernel) (by decide +kernel)
theorem gw570 : (Jvm.Cond.static ({ cls := "LiquidCheckerLaw", name := "follows", desc := "(LLiquidChecker;II[J)I" } : Jvm.MethodName)) ∈ GW := gw_at 570 (by decide +kernel) (by decide +kernel)
theorem gw571 : (Jvm.Cond.codeWith ({ cls := "LiquidCheckerLaw", name := "follows", desc := "(LLiquidChecker;II[J)I" } : Jvm.MethodName) method_10_code (5 : Nat) (Option.some Jvm.ClassFile.FieldType.int) [((0 : Nat), (10 : Nat), (13 : Nat), (13 : Nat))]) ∈ GW := gw_at 571 (by decide +kernel) (by decide +kernel)
theorem gw572 : (Jvm.Cond.methodLink "LiquidCheckerLaw" (45 : Nat) ({ cls := "LiquidChecker", name := "follows", desc := "(II)I" } : Jvm.MethodName)) ∈ GW := gw_at 572 (by decide +kernel) (by decide +kernel)
theorem gw573 : (Jvm.Cond.instanceMethod ({ cls := "LiquidChecker", name := "follows", desc := "(II)I" } : Jvm.MethodName)) ∈ GW := gw_at 573 (by decide +kernel) (by decide +kernel)
theorem gw574 : (Jvm.Cond.selects "LiquidChecker" ({ cls := "LiquidChecker", name := "follows", desc := "(II)I" } : Jvm.MethodName) ({ cls := "LiquidChecker", name := "follows", desc := "(II)I" } : Jvm.MethodName)) ∈ GW := gw_at 574 (by decide +kernel) (by decide +kernel)
theorem gw575 : (Jvm.Cond.code ({ cls := "LiquidChecker", name := "follows", desc := "(II)I" } : Jvm.MethodName) prog_1_method_9_code (4 : Nat) (Option.some Jvm.ClassFile.FieldType.int)) ∈ GW := gw_at 575 (by decide +kernel) (by decide +kernel)
theorem gw579 : (Jvm.Cond.methodLink "LiquidCheckerLaw" (90 : Nat) ({ cls := "LiquidCheckerLaw", name := "count", desc := "(LLiquidChecker;II[J)I" } : Jvm.MethodName)) ∈ GW := gw_at 579 (by decide +kernel) (by decide +kernel)
theorem gw580 : (Jvm.Cond.static ({ cls := "LiquidCheckerLaw", name := "count", desc := "(LLiquidChecker;II[J)I" } : Jvm.MethodName)) ∈ GW := gw_at 580 (by decide +kernel) (by decide +kernel)
theorem gw581 : (Jvm.Cond.codeWith ({ cls := "LiquidCheckerLaw", name := "count", desc := "(LLiquidChecker;II[J)I" } : Jvm.MethodName) method_11_code (5 : Nat) (Option.some Jvm.ClassFile.FieldType.int) [((0 : Nat), (10 : Nat), (13 : Nat), (13 : Nat))]) ∈ GW := gw_at 581 (by decide +kernel) (by decide +kernel)
theorem gw582 : (Jvm.Cond.methodLink "LiquidCheckerLaw" (48 : Nat) ({ cls := "LiquidChecker", name := "count", desc := "(II)I" } : Jvm.MethodName)) ∈ GW := gw_at 582 (by decide +kernel) (by decide +kernel)
theorem gw583 : (Jvm.Cond.instanceMethod ({ cls := "LiquidChecker", name := "count", desc := "(II)I" } : Jvm.MethodName)) ∈ GW := gw_at 583 (by decide +kernel) (by decide +kernel)
theorem gw584 : (Jvm.Cond.selects "LiquidChecker" ({ cls := "LiquidChecker", name := "count", desc := "(II)I" } : Jvm.MethodName) ({ cls := "LiquidChecker", name := "count", desc := "(II)I" } : Jvm.MethodName)) ∈ GW := gw_at 584 (by decide +kernel) (by decide +kernel)
theorem gw585 : (Jvm.Cond.code ({ cls := "LiquidChecker", name := "count", desc := "(II)I" } : Jvm.MethodName) prog_1_method_10_code (4 : Nat) (Option.some Jvm.ClassFile.FieldType.int)) ∈ GW := gw_at 585 (by decide +kernel) (by decide +kernel)
theorem gw587 : (Jvm.Cond.classLink "LiquidCheckerLaw" (52 : Nat) "LiquidCheckerModel") ∈ GW := gw_at 587 (by decide +kernel) (by decide +kernel)
theorem gw588 : (Jvm.Cond.instantiable "LiquidCheckerModel" (29 : Nat)) ∈ GW := gw_at 588 (by decide +kernel) (by decide +kernel)
theorem gw589 : (Jvm.Cond.methodLink "LiquidCheckerLaw" (54 : Nat) ({ cls := "LiquidCheckerModel", name := "<init>", desc := "()V" } : Jvm.MethodName)) ∈ GW := gw_at 589 (by decide +kernel) (by decide +kernel)
theorem gw590 : (Jvm.Cond.instanceMethod ({ cls := "LiquidCheckerModel", name := "<init>", desc := "()V" } : Jvm.MethodName)) ∈ GW := gw_at 590 (by decide +kernel) (by decide +kernel)
theorem gw591 : (Jvm.Cond.code ({ cls := "LiquidCheckerModel", name := "<init>", desc := "()V" } : Jvm.MethodName) prog_8_method_1_code (1 : Nat) (Option.none : Option Jvm.ClassFile.FieldType)) ∈ GW := gw_at 591 (by decide +kernel) (by decide +kernel)
theorem gw592 : (Jvm.Cond.methodLink "LiquidCheckerModel" (1 : Nat) ({ cls := "java/lang/Object", name := "<init>", desc := "()V" } : Jvm.MethodName)) ∈ GW := gw_at 592 (by decide +kernel) (by decide +kernel)
theorem gw593 : (Jvm.Cond.fieldLink "LiquidCheckerModel" (66 : Nat) "LiquidCheckerModel" "thrown" "I") ∈ GW := gw_at 593 (by decide +kernel) (by decide +kernel)
theorem gw594 : (Jvm.Cond.fieldLink "LiquidCheckerModel" (7 : Nat) "LiquidCheckerModel" "rA" "[I") ∈ GW := gw_at 594 (by decide +kernel) (by decide +kernel)
theorem gw595 : (Jvm.Cond.fieldLink "LiquidCheckerModel" (13 : Nat) "LiquidCheckerModel" "rB" "[I") ∈ GW := gw_at 595 (by decide +kernel) (by decide +kernel)
theorem gw596 : (Jvm.Cond.fieldLink "LiquidCheckerModel" (16 : Nat) "LiquidCheckerModel" "rK" "[I") ∈ GW := gw_at 596 (by decide +kernel) (by decide +kernel)
theorem gw597 : (Jvm.Cond.fieldLink "LiquidCheckerModel" (19 : Nat) "LiquidCheckerModel" "relations" "[I") ∈ GW := gw_at 597 (by decide +kernel) (by decide +kernel)
theorem gw598 : (Jvm.Cond.fieldLink "LiquidCheckerModel" (22 : Nat) "LiquidCheckerModel" "sKind" "[I") ∈ GW := gw_at 598 (by decide +kernel) (by decide +kernel)
theorem gw599 : (Jvm.Cond.fieldLink "LiquidCheckerModel" (25 : Nat) "LiquidCheckerModel" "sA" "[I") ∈ GW := gw_at 599 (by decide +kernel) (by decide +kernel)
theorem gw600 : (Jvm.Cond.fieldLink "LiquidCheckerModel" (28 : Nat) "LiquidCheckerModel" "sB" "[I") ∈ GW := gw_at 600 (by decide +kernel) (by decide +kernel)
theorem gw601 : (Jvm.Cond.fieldLink "LiquidCheckerModel" (31 : Nat) "LiquidCheckerModel" "sC" "[I") ∈ GW := gw_at 601 (by decide +kernel) (by decide +kernel)
theorem gw602 : (Jvm.Cond.fieldLink "LiquidCheckerModel" (34 : Nat) "LiquidCheckerModel" "sK" "[I") ∈ GW := gw_at 602 (by decide +kernel) (by decide +kernel)
theorem gw603 : (Jvm.Cond.fieldLink "LiquidCheckerModel" (37 : Nat) "LiquidCheckerModel" "size" "[I") ∈ GW := gw_at 603 (by decide +kernel) (by decide +kernel)
theorem gw604 : (Jvm.Cond.fieldLink "LiquidCheckerModel" (40 : Nat) "LiquidCheckerModel" "ifNumber" "[I") ∈ GW := gw_at 604 (by decide +kernel) (by decide +kernel)
theorem gw605 : (Jvm.Cond.fieldLink "LiquidCheckerModel" (43 : Nat) "LiquidCheckerModel" "elseAt" "[I") ∈ GW := gw_at 605 (by decide +kernel) (by decide +kernel)
theorem gw606 : (Jvm.Cond.fieldLink "LiquidCheckerModel" (46 : Nat) "LiquidCheckerModel" "endAt" "[I") ∈ GW := gw_at 606 (by decide +kernel) (by decide +kernel)
theorem gw607 : (Jvm.Cond.fieldLink "LiquidCheckerModel" (49 : Nat) "LiquidCheckerModel" "ifs" "[I") ∈ GW := gw_at 607 (by decide +kernel) (by decide +kernel)
theorem gw608 : (Jvm.Cond.fieldLink "LiquidCheckerModel" (52 : Nat) "LiquidCheckerModel" "open" "[I") ∈ GW := gw_at 608 (by decide +kernel) (by decide +kernel)
theorem gw609 : (Jvm.Cond.fieldLink "LiquidCheckerModel" (55 : Nat) "LiquidCheckerModel" "opened" "[I") ∈ GW := gw_at 609 (by decide +kernel) (by decide +kernel)
theorem gw610 : (Jvm.Cond.fieldLink "LiquidCheckerModel" (58 : Nat) "LiquidCheckerModel" "apart" "[J") ∈ GW := gw_at 610 (by decide +kernel) (by decide +kernel)
theorem gw611 : (Jvm.Cond.fieldLink "LiquidCheckerModel" (98 : Nat) "LiquidCheckerModel" "feasible" "Z") ∈ GW := gw_at 611 (by decide +kernel) (by decide +kernel)
theorem gw612 : (Jvm.Cond.fieldLink "LiquidCheckerModel" (144 : Nat) "LiquidCheckerModel" "met" "I") ∈ GW := gw_at 612 (by decide +kernel) (by decide +kernel)
theorem gw613 : (Jvm.Cond.fieldLink "LiquidCheckerModel" (121 : Nat) "LiquidCheckerModel" "function" "I") ∈ GW := gw_at 613 (by decide +kernel) (by decide +kernel)
theorem gw614 : (Jvm.Cond.fieldLink "LiquidCheckerModel" (118 : Nat) "LiquidCheckerModel" "least" "I") ∈ GW := gw_at 614 (by decide +kernel) (by decide +kernel)
theorem gw615 : (Jvm.Cond.fieldLink "LiquidCheckerModel" (130 : Nat) "LiquidCheckerModel" "ends" "I") ∈ GW := gw_at 615 (by decide +kernel) (by decide +kernel)
theorem gw616 : (Jvm.Cond.fieldLink "LiquidCheckerModel" (62 : Nat) "LiquidCheckerModel" "came" "[Z") ∈ GW := gw_at 616 (by decide +kernel) (by decide +kernel)
theorem gw617 : (Jvm.Cond.fieldLink "LiquidCheckerModel" (147 : Nat) "LiquidCheckerModel" "seekPlace" "I") ∈ GW := gw_at 617 (by decide +kernel) (by decide +kernel)
theorem gw618 : (Jvm.Cond.fieldLink "LiquidCheckerModel" (150 : Nat) "LiquidCheckerModel" "seekA" "I") ∈ GW := gw_at 618 (by decide +kernel) (by decide +kernel)
theorem gw619 : (Jvm.Cond.fieldLink "LiquidCheckerModel" (153 : Nat) "LiquidCheckerModel" "seekB" "I") ∈ GW := gw_at 619 (by decide +kernel) (by decide +kernel)
theorem gw620 : (Jvm.Cond.fieldLink "LiquidCheckerModel" (159 : Nat) "LiquidCheckerModel" "most" "J") ∈ GW := gw_at 620 (by decide +kernel) (by decide +kernel)
theorem gw621 : (Jvm.Cond.fieldLink "LiquidCheckerModel" (156 : Nat) "LiquidCheckerModel" "seen" "Z") ∈ GW := gw_at 621 (by decide +kernel) (by decide +kernel)
theorem gw622 : (Jvm.Cond.lays "LiquidCheckerModel" "LiquidCheckerModel" "thrown" "I") ∈ GW := gw_at 622 (by decide +kernel) (by decide +kernel)
theorem gw624 : (Jvm.Cond.laysFinal "LiquidCheckerModel" "LiquidCheckerModel" "rA" "[I") ∈ GW := gw_at 624 (by decide +kernel) (by decide +kernel)
theorem gw626 : (Jvm.Cond.laysFinal "LiquidCheckerModel" "LiquidCheckerModel" "rB" "[I") ∈ GW := gw_at 626 (by decide +kernel) (by decide +kernel)
theorem gw628 : (Jvm.Cond.laysFinal "LiquidCheckerModel" "LiquidCheckerModel" "rK" "[I") ∈ GW := gw_at 628 (by decide +kernel) (by decide +kernel)
theorem gw630 : (Jvm.Cond.laysFinal "LiquidCheckerModel" "LiquidCheckerModel" "relations" "[I") ∈ GW := gw_at 630 (by decide +kernel) (by decide +kernel)
theorem gw632 : (Jvm.Cond.laysFinal "LiquidCheckerModel" "LiquidCheckerModel" "sKind" "[I") ∈ GW := gw_at 632 (by decide +kernel) (by decide +kernel)
theorem gw634 : (Jvm.Cond.laysFinal "LiquidCheckerModel" "LiquidCheckerModel" "sA" "[I") ∈ GW := gw_at 634 (by decide +kernel) (by decide +kernel)
theorem gw636 : (Jvm.Cond.laysFinal "LiquidCheckerModel" "LiquidCheckerModel" "sB" "[I") ∈ GW := gw_at 636 (by decide +kernel) (by decide +kernel)
theorem gw638 : (Jvm.Cond.laysFinal "LiquidCheckerModel" "LiquidCheckerModel" "sC" "[I") ∈ GW := gw_at 638 (by decide +kernel) (by decide +kernel)
theorem gw640 : (Jvm.Cond.laysFinal "LiquidCheckerModel" "LiquidCheckerModel" "sK" "[I") ∈ GW := gw_at 640 (by decide +kernel) (by decide +kernel)
theorem gw642 : (Jvm.Cond.laysFinal "LiquidCheckerModel" "LiquidCheckerModel" "size" "[I") ∈ GW := gw_at 642 (by decide +kernel) (by decide +kernel)
theorem gw644 : (Jvm.Cond.laysFinal "LiquidCheckerModel" "LiquidCheckerModel" "ifNumber" "[I") ∈ GW := gw_at 644 (by decide +kernel) (by decide +kernel)
theorem gw646 : (Jvm.Cond.laysFinal "LiquidCheckerModel" "LiquidCheckerModel" "elseAt" "[I") ∈ GW := gw_at 646 (by decide +kernel) (by decide +kernel)
theorem gw648 : (Jvm.Cond.laysFinal "LiquidCheckerModel" "LiquidCheckerModel" "endAt" "[I") ∈ GW := gw_at 648 (by decide +kernel) (by decide +kernel)
theorem gw650 : (Jvm.Cond.laysFinal "LiquidCheckerModel" "LiquidCheckerModel" "ifs" "[I") ∈ GW := gw_at 650 (by decide +kernel) (by decide +kernel)
theorem gw652 : (Jvm.Cond.laysFinal "LiquidCheckerModel" "LiquidCheckerModel" "open" "[I") ∈ GW := gw_at 652 (by decide +kernel) (by decide +kernel)
theorem gw654 : (Jvm.Cond.laysFinal "LiquidCheckerModel" "LiquidCheckerModel" "opened" "[I") ∈ GW := gw_at 654 (by decide +kernel) (by decide +kernel)
theorem gw656 : (Jvm.Cond.laysFinal "LiquidCheckerModel" "LiquidCheckerModel" "apart" "[J") ∈ GW := gw_at 656 (by decide +kernel) (by decide +kernel)
theorem gw658 : (Jvm.Cond.lays "LiquidCheckerModel" "LiquidCheckerModel" "feasible" "Z") ∈ GW := gw_at 658 (by decide +kernel) (by decide +kernel)
theorem gw660 : (Jvm.Cond.lays "LiquidCheckerModel" "LiquidCheckerModel" "met" "I") ∈ GW := gw_at 660 (by decide +kernel) (by decide +kernel)
theorem gw662 : (Jvm.Cond.lays "LiquidCheckerModel" "LiquidCheckerModel" "function" "I") ∈ GW := gw_at 662 (by decide +kernel) (by decide +kernel)
theorem gw664 : (Jvm.Cond.lays "LiquidCheckerModel" "LiquidCheckerModel" "least" "I") ∈ GW := gw_at 664 (by decide +kernel) (by decide +kernel)
theorem gw666 : (Jvm.Cond.lays "LiquidCheckerModel" "LiquidCheckerModel" "ends" "I") ∈ GW := gw_at 666 (by decide +kernel) (by decide +kernel)
theorem gw668 : (Jvm.Cond.laysFinal "LiquidCheckerModel" "LiquidCheckerModel" "came" "[Z") ∈ GW := gw_at 668 (by decide +kernel) (by decide +kernel)
theorem gw670 : (Jvm.Cond.lays "LiquidCheckerModel" "LiquidCheckerModel" "seekPlace" "I") ∈ GW := gw_at 670 (by decide +kernel) (by decide +kernel)
theorem gw672 : (Jvm.Cond.lays "LiquidCheckerModel" "LiquidCheckerModel" "seekA" "I") ∈ GW := gw_at 672 (by decide +kernel) (by decide +kernel)
theorem gw674 : (Jvm.Cond.lays "LiquidCheckerModel" "LiquidCheckerModel" "seekB" "I") ∈ GW := gw_at 674 (by decide +kernel) (by decide +kernel)
theorem gw676 : (Jvm.Cond.lays "LiquidCheckerModel" "LiquidCheckerModel" "most" "J") ∈ GW := gw_at 676 (by decide +kernel) (by decide +kernel)
theorem gw678 : (Jvm.Cond.lays "LiquidCheckerModel" "LiquidCheckerModel" "seen" "Z") ∈ GW := gw_at 678 (by decide +kernel) (by decide +kernel)
theorem gw681 : (Jvm.Cond.arrayClass Jvm.ClassFile.FieldType.long) ∈ GW := gw_at 681 (by decide +kernel) (by decide +kernel)
theorem gw682 : (Jvm.Cond.arrayClass Jvm.ClassFile.FieldType.boolean) ∈ GW := gw_at 682 (by decide +kernel) (by decide +kernel)
theorem gw683 : (Jvm.Cond.methodLink "LiquidCheckerLaw" (61 : Nat) ({ cls := "LiquidCheckerModel", name := "thrown", desc := "()I" } : Jvm.MethodName)) ∈ GW := gw_at 683 (by decide +kernel) (by decide +kernel)
theorem gw684 : (Jvm.Cond.instanceMethod ({ cls := "LiquidCheckerModel", name := "thrown", desc := "()I" } : Jvm.MethodName)) ∈ GW := gw_at 684 (by decide +kernel) (by decide +kernel)
theorem gw685 : (Jvm.Cond.selects "LiquidCheckerModel" ({ cls := "LiquidCheckerModel", name := "thrown", desc := "()I" } : Jvm.MethodName) ({ cls := "LiquidCheckerModel", name := "thrown", desc := "()I" } : Jvm.MethodName)) ∈ GW := gw_at 685 (by decide +kernel) (by decide +kernel)
theorem gw686 : (Jvm.Cond.code ({ cls := "LiquidCheckerModel", name := "thrown", desc := "()I" } : Jvm.MethodName) prog_8_method_2_code (1 : Nat) (Option.some Jvm.ClassFile.FieldType.int)) ∈ GW := gw_at 686 (by decide +kernel) (by decide +kernel)
theorem gw687 : (Jvm.Cond.methodLink "LiquidCheckerLaw" (60 : Nat) ({ cls := "LiquidCheckerModel", name := "refine", desc := "(IIIII)I" } : Jvm.MethodName)) ∈ GW := gw_at 687 (by decide +kernel) (by decide +kernel)
theorem gw688 : (Jvm.Cond.instanceMethod ({ cls := "LiquidCheckerModel", name := "refine", desc := "(IIIII)I" } : Jvm.MethodName)) ∈ GW := gw_at 688 (by decide +kernel) (by decide +kernel)
theorem gw689 : (Jvm.Cond.selects "LiquidCheckerModel" ({ cls := "LiquidCheckerModel", name := "refine", desc := "(IIIII)I" } : Jvm.MethodName) ({ cls := "LiquidCheckerModel", name := "refine", desc := "(IIIII)I" } : Jvm.MethodName)) ∈ GW := gw_at 689 (by decide +kernel) (by decide +kernel)
theorem gw690 : (Jvm.Cond.code ({ cls := "LiquidCheckerModel", name := "refine", desc := "(IIIII)I" } : Jvm.MethodName) prog_8_method_6_code (8 : Nat) (Option.some Jvm.ClassFile.FieldType.int)) ∈ GW := gw_at 690 (by decide +kernel) (by decide +kernel)
theorem gw691 : (Jvm.Cond.methodLink "LiquidCheckerModel" (74 : Nat) ({ cls := "LiquidCheckerModel", name := "noFunction", desc := "(I)Z" } : Jvm.MethodName)) ∈ GW := gw_at 691 (by decide +kernel) (by decide +kernel)
theorem gw692 : (Jvm.Cond.static ({ cls := "LiquidCheckerModel", name := "noFunction", desc := "(I)Z" } : Jvm.MethodName)) ∈ GW := gw_at 692 (by decide +kernel) (by decide +kernel)
theorem gw693 : (Jvm.Cond.code ({ cls := "LiquidCheckerModel", name := "noFunction", desc := "(I)Z" } : Jvm.MethodName) prog_8_method_5_code (1 : Nat) (Option.some Jvm.ClassFile.FieldType.boolean)) ∈ GW := gw_at 693 (by decide +kernel) (by decide +kernel)
theorem gw694 : (Jvm.Cond.methodLink "LiquidCheckerModel" (70 : Nat) ({ cls := "LiquidCheckerModel", name := "in", desc := "(III)Z" } : Jvm.MethodName)) ∈ GW := gw_at 694 (by decide +kernel) (by decide +kernel)
theorem gw695 : (Jvm.Cond.static ({ cls := "LiquidCheckerModel", name := "in", desc := "(III)Z" } : Jvm.MethodName)) ∈ GW := gw_at 695 (by decide +kernel) (by decide +kernel)
theorem gw696 : (Jvm.Cond.code ({ cls := "LiquidCheckerModel", name := "in", desc := "(III)Z" } : Jvm.MethodName) prog_8_method_4_code (3 : Nat) (Option.some Jvm.ClassFile.FieldType.boolean)) ∈ GW := gw_at 696 (by decide +kernel) (by decide +kernel)
theorem gw697 : (Jvm.Cond.methodLink "LiquidCheckerModel" (78 : Nat) ({ cls := "LiquidCheckerModel", name := "raise", desc := "(I)I" } : Jvm.MethodName)) ∈ GW := gw_at 697 (by decide +kernel) (by decide +kernel)
theorem gw699 : (Jvm.Cond.instanceMethod ({ cls := "LiquidCheckerModel", name := "raise", desc := "(I)I" } : Jvm.MethodName)) ∈ GW := gw_at 699 (by decide +kernel) (by decide +kernel)
theorem gw700 : (Jvm.Cond.code ({ cls := "LiquidCheckerModel", name := "raise", desc := "(I)I" } : Jvm.MethodName) prog_8_method_3_code (2 : Nat) (Option.some Jvm.ClassFile.FieldType.int)) ∈ GW := gw_at 700 (by decide +kernel) (by decide +kernel)
theorem gw701 : (Jvm.Cond.methodLink "LiquidCheckerLaw" (68 : Nat) ({ cls := "LiquidCheckerModel", name := "statement", desc := "(IIIIII)I" } : Jvm.MethodName)) ∈ GW := gw_at 701 (by decide +kernel) (by decide +kernel)
theorem gw702 : (Jvm.Cond.instanceMethod ({ cls := "LiquidCheckerModel", name := "statement", desc := "(IIIIII)I" } : Jvm.MethodName)) ∈ GW := gw_at 702 (by decide +kernel) (by decide +kernel)
theorem gw703 : (Jvm.Cond.selects "LiquidCheckerModel" ({ cls := "LiquidCheckerModel", name := "statement", desc := "(IIIIII)I" } : Jvm.MethodName) ({ cls := "LiquidCheckerModel", name := "statement", desc := "(IIIIII)I" } : Jvm.MethodName)) ∈ GW := gw_at 703 (by decide +kernel) (by decide +kernel)
theorem gw704 : (Jvm.Cond.code ({ cls := "LiquidCheckerModel", name := "statement", desc := "(IIIIII)I" } : Jvm.MethodName) prog_8_method_11_code (9 : Nat) (Option.some Jvm.ClassFile.FieldType.int)) ∈ GW := gw_at 704 (by decide +kernel) (by decide +kernel)
theorem gw705 : (Jvm.Cond.methodLink "LiquidCheckerModel" (89 : Nat) ({ cls := "LiquidCheckerModel", name := "fits", desc := "(IIIII)Z" } : Jvm.MethodName)) ∈ GW := gw_at 705 (by decide +kernel) (by decide +kernel)
theorem gw706 : (Jvm.Cond.static ({ cls := "LiquidCheckerModel", name := "fits", desc := "(IIIII)Z" } : Jvm.MethodName)) ∈ GW := gw_at 706 (by decide +kernel) (by decide +kernel)
theorem gw707 : (Jvm.Cond.code ({ cls := "LiquidCheckerModel", name := "fits", desc := "(IIIII)Z" } : Jvm.MethodName) prog_8_method_8_code (7 : Nat) (Option.some Jvm.ClassFile.FieldType.boolean)) ∈ GW := gw_at 707 (by decide +kernel) (by decide +kernel)
theorem gw708 : (Jvm.Cond.methodLink "LiquidCheckerModel" (82 : Nat) ({ cls := "LiquidCheckerModel", name := "name", desc := "(I)Z" } : Jvm.MethodName)) ∈ GW := gw_at 708 (by decide +kernel) (by decide +kernel)
theorem gw709 : (Jvm.Cond.static ({ cls := "LiquidCheckerModel", name := "name", desc := "(I)Z" } : Jvm.MethodName)) ∈ GW := gw_at 709 (by decide +kernel) (by decide +kernel)
theorem gw710 : (Jvm.Cond.code ({ cls := "LiquidCheckerModel", name := "name", desc := "(I)Z" } : Jvm.MethodName) prog_8_method_7_code (1 : Nat) (Option.some Jvm.ClassFile.FieldType.boolean)) ∈ GW := gw_at 710 (by decide +kernel) (by decide +kernel)
theorem gw711 : (Jvm.Cond.methodLink "LiquidCheckerModel" (93 : Nat) ({ cls := "LiquidCheckerModel", name := "stands", desc := "(IIIII)Z" } : Jvm.MethodName)) ∈ GW := gw_at 711 (by decide +kernel) (by decide +kernel)
theorem gw713 : (Jvm.Cond.instanceMethod ({ cls := "LiquidCheckerModel", name := "stands", desc := "(IIIII)Z" } : Jvm.MethodName)) ∈ GW := gw_at 713 (by decide +kernel) (by decide +kernel)
theorem gw714 : (Jvm.Cond.code ({ cls := "LiquidCheckerModel", name := "stands", desc := "(IIIII)Z" } : Jvm.MethodName) prog_8_method_10_code (7 : Nat) (Option.some Jvm.ClassFile.FieldType.boolean)) ∈ GW := gw_at 714 (by decide +kernel) (by decide +kernel)
theorem gw715 : (Jvm.Cond.methodLink "LiquidCheckerModel" (85 : Nat) ({ cls := "LiquidCheckerModel", name := "given", desc := "(II)Z" } : Jvm.MethodName)) ∈ GW := gw_at 715 (by decide +kernel) (by decide +kernel)
theorem gw717 : (Jvm.Cond.instanceMethod ({ cls := "LiquidCheckerModel", name := "given", desc := "(II)Z" } : Jvm.MethodName)) ∈ GW := gw_at 717 (by decide +kernel) (by decide +kernel)
theorem gw718 : (Jvm.Cond.code ({ cls := "LiquidCheckerModel", name := "given", desc := "(II)Z" } : Jvm.MethodName) prog_8_method_9_code (4 : Nat) (Option.some Jvm.ClassFile.FieldType.boolean)) ∈ GW := gw_at 718 (by decide +kernel) (by decide +kernel)
theorem gw719 : (Jvm.Cond.methodLink "LiquidCheckerLaw" (72 : Nat) ({ cls := "LiquidCheckerModel", name := "clear", desc := "(I)I" } : Jvm.MethodName)) ∈ GW := gw_at 719 (by decide +kernel) (by decide +kernel)
theorem gw720 : (Jvm.Cond.instanceMethod ({ cls := "LiquidCheckerModel", name := "clear", desc := "(I)I" } : Jvm.MethodName)) ∈ GW := gw_at 720 (by decide +kernel) (by decide +kernel)
theorem gw721 : (Jvm.Cond.selects "LiquidCheckerModel" ({ cls := "LiquidCheckerModel", name := "clear", desc := "(I)I" } : Jvm.MethodName) ({ cls := "LiquidCheckerModel", name := "clear", desc := "(I)I" } : Jvm.MethodName)) ∈ GW := gw_at 721 (by decide +kernel) (by decide +kernel)
theorem gw722 : (Jvm.Cond.code ({ cls := "LiquidCheckerModel", name := "clear", desc := "(I)I" } : Jvm.MethodName) prog_8_method_12_code (3 : Nat) (Option.some Jvm.ClassFile.FieldType.int)) ∈ GW := gw_at 722 (by decide +kernel) (by decide +kernel)
theorem gw723 : (Jvm.Cond.methodLink "LiquidCheckerLaw" (75 : Nat) ({ cls := "LiquidCheckerModel", name := "check", desc := "(I)I" } : Jvm.MethodName)) ∈ GW := gw_at 723 (by decide +kernel) (by decide +kernel)
theorem gw724 : (Jvm.Cond.instanceMethod ({ cls := "LiquidCheckerModel", name := "check", desc := "(I)I" } : Jvm.MethodName)) ∈ GW := gw_at 724 (by decide +kernel) (by decide +kernel)
theorem gw725 : (Jvm.Cond.selects "LiquidCheckerModel" ({ cls := "LiquidCheckerModel", name := "check", desc := "(I)I" } : Jvm.MethodName) ({ cls := "LiquidCheckerModel", name := "check", desc := "(I)I" } : Jvm.MethodName)) ∈ GW := gw_at 725 (by decide +kernel) (by decide +kernel)
theorem gw726 : (Jvm.Cond.code ({ cls := "LiquidCheckerModel", name := "check", desc := "(I)I" } : Jvm.MethodName) prog_8_method_29_code (2 : Nat) (Option.some Jvm.ClassFile.FieldType.int)) ∈ GW := gw_at 726 (by decide +kernel) (by decide +kernel)
theorem gw727 : (Jvm.Cond.methodLink "LiquidCheckerModel" (179 : Nat) ({ cls := "LiquidCheckerModel", name := "explore", desc := "(I)V" } : Jvm.MethodName)) ∈ GW := gw_at 727 (by decide +kernel) (by decide +kernel)
theorem gw729 : (Jvm.Cond.instanceMethod ({ cls := "LiquidCheckerModel", name := "explore", desc := "(I)V" } : Jvm.MethodName)) ∈ GW := gw_at 729 (by decide +kernel) (by decide +kernel)
theorem gw730 : (Jvm.Cond.code ({ cls := "LiquidCheckerModel", name := "explore", desc := "(I)V" } : Jvm.MethodName) prog_8_method_27_code (3 : Nat) (Option.none : Option Jvm.ClassFile.FieldType)) ∈ GW := gw_at 730 (by decide +kernel) (by decide +kernel)
theorem gw731 : (Jvm.Cond.methodLink "LiquidCheckerModel" (176 : Nat) ({ cls := "LiquidCheckerModel", name := "walk", desc := "(I)V" } : Jvm.MethodName)) ∈ GW := gw_at 731 (by decide +kernel) (by decide +kernel)
theorem gw733 : (Jvm.Cond.instanceMethod ({ cls := "LiquidCheckerModel", name := "walk", desc := "(I)V" } : Jvm.MethodName)) ∈ GW := gw_at 733 (by decide +kernel) (by decide +kernel)
theorem gw734 : (Jvm.Cond.code ({ cls := "LiquidCheckerModel", name := "walk", desc := "(I)V" } : Jvm.MethodName) prog_8_method_26_code (6 : Nat) (Option.none : Option Jvm.ClassFile.FieldType)) ∈ GW := gw_at 734 (by decide +kernel) (by decide +kernel)
theorem gw735 : (Jvm.Cond.methodLink "LiquidCheckerModel" (163 : Nat) ({ cls := "LiquidCheckerModel", name := "begin", desc := "()V" } : Jvm.MethodName)) ∈ GW := gw_at 735 (by decide +kernel) (by decide +kernel)
theorem gw737 : (Jvm.Cond.instanceMethod ({ cls := "LiquidCheckerModel", name := "begin", desc := "()V" } : Jvm.MethodName)) ∈ GW := gw_at 737 (by decide +kernel) (by decide +kernel)
theorem gw738 : (Jvm.Cond.code ({ cls := "LiquidCheckerModel", name := "begin", desc := "()V" } : Jvm.MethodName) prog_8_method_13_code (3 : Nat) (Option.none : Option Jvm.ClassFile.FieldType)) ∈ GW := gw_at 738 (by decide +kernel) (by decide +kernel)
theorem gw739 : (Jvm.Cond.constantLong "LiquidCheckerModel" (96 : Nat) (1000000000000 : Int64)) ∈ GW := gw_at 739 (by decide +kernel) (by decide +kernel)
theorem gw740 : (Jvm.Cond.methodLink "LiquidCheckerModel" (133 : Nat) ({ cls := "LiquidCheckerModel", name := "knowAll", desc := "(III)V" } : Jvm.MethodName)) ∈ GW := gw_at 740 (by decide +kernel) (by decide +kernel)
theorem gw742 : (Jvm.Cond.instanceMethod ({ cls := "LiquidCheckerModel", name := "knowAll", desc := "(III)V" } : Jvm.MethodName)) ∈ GW := gw_at 742 (by decide +kernel) (by decide +kernel)
theorem gw743 : (Jvm.Cond.code ({ cls := "LiquidCheckerModel", name := "knowAll", desc := "(III)V" } : Jvm.MethodName) prog_8_method_19_code (5 : Nat) (Option.none : Option Jvm.ClassFile.FieldType)) ∈ GW := gw_at 743 (by decide +kernel) (by decide +kernel)
theorem gw744 : (Jvm.Cond.methodLink "LiquidCheckerModel" (106 : Nat) ({ cls := "LiquidCheckerModel", name := "stand", desc := "(III)I" } : Jvm.MethodName)) ∈ GW := gw_at 744 (by decide +kernel) (by decide +kernel)
theorem gw745 : (Jvm.Cond.static ({ cls := "LiquidCheckerModel", name := "stand", desc := "(III)I" } : Jvm.MethodName)) ∈ GW := gw_at 745 (by decide +kernel) (by decide +kernel)
theorem gw746 : (Jvm.Cond.code ({ cls := "LiquidCheckerModel", name := "stand", desc := "(III)I" } : Jvm.MethodName) prog_8_method_18_code (3 : Nat) (Option.some Jvm.ClassFile.FieldType.int)) ∈ GW := gw_at 746 (by decide +kernel) (by decide +kernel)
theorem gw747 : (Jvm.Cond.methodLink "LiquidCheckerModel" (110 : Nat) ({ cls := "LiquidCheckerModel", name := "know", desc := "(IIJ)V" } : Jvm.MethodName)) ∈ GW := gw_at 747 (by decide +kernel) (by decide +kernel)
theorem gw749 : (Jvm.Cond.instanceMethod ({ cls := "LiquidCheckerModel", name := "know", desc := "(IIJ)V" } : Jvm.MethodName)) ∈ GW := gw_at 749 (by decide +kernel) (by decide +kernel)
theorem gw750 : (Jvm.Cond.code ({ cls := "LiquidCheckerModel", name := "know", desc := "(IIJ)V" } : Jvm.MethodName) prog_8_method_14_code (9 : Nat) (Option.none : Option Jvm.ClassFile.FieldType)) ∈ GW := gw_at 750 (by decide +kernel) (by decide +kernel)
theorem gw751 : (Jvm.Cond.methodLink "LiquidCheckerModel" (166 : Nat) ({ cls := "LiquidCheckerModel", name := "look", desc := "(I)V" } : Jvm.MethodName)) ∈ GW := gw_at 751 (by decide +kernel) (by decide +kernel)
theorem gw753 : (Jvm.Cond.instanceMethod ({ cls := "LiquidCheckerModel", name := "look", desc := "(I)V" } : Jvm.MethodName)) ∈ GW := gw_at 753 (by decide +kernel) (by decide +kernel)
theorem gw754 : (Jvm.Cond.code ({ cls := "LiquidCheckerModel", name := "look", desc := "(I)V" } : Jvm.MethodName) prog_8_method_25_code (4 : Nat) (Option.none : Option Jvm.ClassFile.FieldType)) ∈ GW := gw_at 754 (by decide +kernel) (by decide +kernel)
theorem gw755 : (Jvm.Cond.methodLink "LiquidCheckerModel" (169 : Nat) ({ cls := "LiquidCheckerModel", name := "returns", desc := "(III)V" } : Jvm.MethodName)) ∈ GW := gw_at 755 (by decide +kernel) (by decide +kernel)
theorem gw757 : (Jvm.Cond.instanceMethod ({ cls := "LiquidCheckerModel", name := "returns", desc := "(III)V" } : Jvm.MethodName)) ∈ GW := gw_at 757 (by decide +kernel) (by decide +kernel)
theorem gw758 : (Jvm.Cond.code ({ cls := "LiquidCheckerModel", name := "returns", desc := "(III)V" } : Jvm.MethodName) prog_8_method_22_code (4 : Nat) (Option.none : Option Jvm.ClassFile.FieldType)) ∈ GW := gw_at 758 (by decide +kernel) (by decide +kernel)
theorem gw759 : (Jvm.Cond.methodLink "LiquidCheckerModel" (124 : Nat) ({ cls := "LiquidCheckerModel", name := "showsAll", desc := "(III)Z" } : Jvm.MethodName)) ∈ GW := gw_at 759 (by decide +kernel) (by decide +kernel)
theorem gw761 : (Jvm.Cond.instanceMethod ({ cls := "LiquidCheckerModel", name := "showsAll", desc := "(III)Z" } : Jvm.MethodName)) ∈ GW := gw_at 761 (by decide +kernel) (by decide +kernel)
theorem gw762 : (Jvm.Cond.code ({ cls := "LiquidCheckerModel", name := "showsAll", desc := "(III)Z" } : Jvm.MethodName) prog_8_method_20_code (5 : Nat) (Option.some Jvm.ClassFile.FieldType.boolean)) ∈ GW := gw_at 762 (by decide +kernel) (by decide +kernel)
theorem gw763 : (Jvm.Cond.methodLink "LiquidCheckerModel" (114 : Nat) ({ cls := "LiquidCheckerModel", name := "shows", desc := "(IIJ)Z" } : Jvm.MethodName)) ∈ GW := gw_at 763 (by decide +kernel) (by decide +kernel)
theorem gw765 : (Jvm.Cond.instanceMethod ({ cls := "LiquidCheckerModel", name := "shows", desc := "(IIJ)Z" } : Jvm.MethodName)) ∈ GW := gw_at 765 (by decide +kernel) (by decide +kernel)
theorem gw766 : (Jvm.Cond.code ({ cls := "LiquidCheckerModel", name := "shows", desc := "(IIJ)Z" } : Jvm.MethodName) prog_8_method_15_code (5 : Nat) (Option.some Jvm.ClassFile.FieldType.boolean)) ∈ GW := gw_at 766 (by decide +kernel) (by decide +kernel)
theorem gw767 : (Jvm.Cond.methodLink "LiquidCheckerModel" (127 : Nat) ({ cls := "LiquidCheckerModel", name := "blame", desc := "(I)V" } : Jvm.MethodName)) ∈ GW := gw_at 767 (by decide +kernel) (by decide +kernel)
theorem gw769 : (Jvm.Cond.instanceMethod ({ cls := "LiquidCheckerModel", name := "blame", desc := "(I)V" } : Jvm.MethodName)) ∈ GW := gw_at 769 (by decide +kernel) (by decide +kernel)
theorem gw770 : (Jvm.Cond.code ({ cls := "LiquidCheckerModel", name := "blame", desc := "(I)V" } : Jvm.MethodName) prog_8_method_21_code (2 : Nat) (Option.none : Option Jvm.ClassFile.FieldType)) ∈ GW := gw_at 770 (by decide +kernel) (by decide +kernel)
theorem gw771 : (Jvm.Cond.methodLink "LiquidCheckerModel" (172 : Nat) ({ cls := "LiquidCheckerModel", name := "perform", desc := "(II)I" } : Jvm.MethodName)) ∈ GW := gw_at 771 (by decide +kernel) (by decide +kernel)
theorem gw773 : (Jvm.Cond.instanceMethod ({ cls := "LiquidCheckerModel", name := "perform", desc := "(II)I" } : Jvm.MethodName)) ∈ GW := gw_at 773 (by decide +kernel) (by decide +kernel)
theorem gw774 : (Jvm.Cond.code ({ cls := "LiquidCheckerModel", name := "perform", desc := "(II)I" } : Jvm.MethodName) prog_8_method_24_code (8 : Nat) (Option.some Jvm.ClassFile.FieldType.int)) ∈ GW := gw_at 774 (by decide +kernel) (by decide +kernel)
theorem gw775 : (Jvm.Cond.methodLink "LiquidCheckerModel" (137 : Nat) ({ cls := "LiquidCheckerModel", name := "rename", desc := "(I)V" } : Jvm.MethodName)) ∈ GW := gw_at 775 (by decide +kernel) (by decide +kernel)
theorem gw777 : (Jvm.Cond.instanceMethod ({ cls := "LiquidCheckerModel", name := "rename", desc := "(I)V" } : Jvm.MethodName)) ∈ GW := gw_at 777 (by decide +kernel) (by decide +kernel)
theorem gw778 : (Jvm.Cond.code ({ cls := "LiquidCheckerModel", name := "rename", desc := "(I)V" } : Jvm.MethodName) prog_8_method_17_code (3 : Nat) (Option.none : Option Jvm.ClassFile.FieldType)) ∈ GW := gw_at 778 (by decide +kernel) (by decide +kernel)
theorem gw779 : (Jvm.Cond.methodLink "LiquidCheckerModel" (102 : Nat) ({ cls := "LiquidCheckerModel", name := "forget", desc := "(I)V" } : Jvm.MethodName)) ∈ GW := gw_at 779 (by decide +kernel) (by decide +kernel)
theorem gw781 : (Jvm.Cond.instanceMethod ({ cls := "LiquidCheckerModel", name := "forget", desc := "(I)V" } : Jvm.MethodName)) ∈ GW := gw_at 781 (by decide +kernel) (by decide +kernel)
theorem gw782 : (Jvm.Cond.code ({ cls := "LiquidCheckerModel", name := "forget", desc := "(I)V" } : Jvm.MethodName) prog_8_method_16_code (3 : Nat) (Option.none : Option Jvm.ClassFile.FieldType)) ∈ GW := gw_at 782 (by decide +kernel) (by decide +kernel)
theorem gw783 : (Jvm.Cond.methodLink "LiquidCheckerModel" (140 : Nat) ({ cls := "LiquidCheckerModel", name := "call", desc := "(II)V" } : Jvm.MethodName)) ∈ GW := gw_at 783 (by decide +kernel) (by decide +kernel)
theorem gw785 : (Jvm.Cond.instanceMethod ({ cls := "LiquidCheckerModel", name := "call", desc := "(II)V" } : Jvm.MethodName)) ∈ GW := gw_at 785 (by decide +kernel) (by decide +kernel)
theorem gw786 : (Jvm.Cond.code ({ cls := "LiquidCheckerModel", name := "call", desc := "(II)V" } : Jvm.MethodName) prog_8_method_23_code (3 : Nat) (Option.none : Option Jvm.ClassFile.FieldType)) ∈ GW := gw_at 786 (by decide +kernel) (by decide +kernel)
theorem gw787 : (Jvm.Cond.methodLink "LiquidCheckerLaw" (78 : Nat) ({ cls := "LiquidCheckerModel", name := "ways", desc := "(I)I" } : Jvm.MethodName)) ∈ GW := gw_at 787 (by decide +kernel) (by decide +kernel)
theorem gw788 : (Jvm.Cond.instanceMethod ({ cls := "LiquidCheckerModel", name := "ways", desc := "(I)I" } : Jvm.MethodName)) ∈ GW := gw_at 788 (by decide +kernel) (by decide +kernel)
theorem gw789 : (Jvm.Cond.selects "LiquidCheckerModel" ({ cls := "LiquidCheckerModel", name := "ways", desc := "(I)I" } : Jvm.MethodName) ({ cls := "LiquidCheckerModel", name := "ways", desc := "(I)I" } : Jvm.MethodName)) ∈ GW := gw_at 789 (by decide +kernel) (by decide +kernel)
theorem gw790 : (Jvm.Cond.code ({ cls := "LiquidCheckerModel", name := "ways", desc := "(I)I" } : Jvm.MethodName) prog_8_method_30_code (2 : Nat) (Option.some Jvm.ClassFile.FieldType.int)) ∈ GW := gw_at 790 (by decide +kernel) (by decide +kernel)
theorem gw791 : (Jvm.Cond.methodLink "LiquidCheckerLaw" (82 : Nat) ({ cls := "LiquidCheckerModel", name := "comes", desc := "(II)I" } : Jvm.MethodName)) ∈ GW := gw_at 791 (by decide +kernel) (by decide +kernel)
theorem gw792 : (Jvm.Cond.instanceMethod ({ cls := "LiquidCheckerModel", name := "comes", desc := "(II)I" } : Jvm.MethodName)) ∈ GW := gw_at 792 (by decide +kernel) (by decide +kernel)
theorem gw793 : (Jvm.Cond.selects "LiquidCheckerModel" ({ cls := "LiquidCheckerModel", name := "comes", desc := "(II)I" } : Jvm.MethodName) ({ cls := "LiquidCheckerModel", name := "comes", desc := "(II)I" } : Jvm.MethodName)) ∈ GW := gw_at 793 (by decide +kernel) (by decide +kernel)
theorem gw794 : (Jvm.Cond.code ({ cls := "LiquidCheckerModel", name := "comes", desc := "(II)I" } : Jvm.MethodName) prog_8_method_31_code (3 : Nat) (Option.some Jvm.ClassFile.FieldType.int)) ∈ GW := gw_at 794 (by decide +kernel) (by decide +kernel)
theorem gw795 : (Jvm.Cond.methodLink "LiquidCheckerModel" (182 : Nat) ({ cls := "LiquidCheckerModel", name := "noPlace", desc := "(II)Z" } : Jvm.MethodName)) ∈ GW := gw_at 795 (by decide +kernel) (by decide +kernel)
theorem gw797 : (Jvm.Cond.instanceMethod ({ cls := "LiquidCheckerModel", name := "noPlace", desc := "(II)Z" } : Jvm.MethodName)) ∈ GW := gw_at 797 (by decide +kernel) (by decide +kernel)
theorem gw798 : (Jvm.Cond.code ({ cls := "LiquidCheckerModel", name := "noPlace", desc := "(II)Z" } : Jvm.MethodName) prog_8_method_28_code (3 : Nat) (Option.some Jvm.ClassFile.FieldType.boolean)) ∈ GW := gw_at 798 (by decide +kernel) (by decide +kernel)
theorem gw799 : (Jvm.Cond.methodLink "LiquidCheckerLaw" (86 : Nat) ({ cls := "LiquidCheckerModel", name := "most", desc := "(IIII)I" } : Jvm.MethodName)) ∈ GW := gw_at 799 (by decide +kernel) (by decide +kernel)
theorem gw800 : (Jvm.Cond.instanceMethod ({ cls := "LiquidCheckerModel", name := "most", desc := "(IIII)I" } : Jvm.MethodName)) ∈ GW := gw_at 800 (by decide +kernel) (by decide +kernel)
theorem gw801 : (Jvm.Cond.selects "LiquidCheckerModel" ({ cls := "LiquidCheckerModel", name := "most", desc := "(IIII)I" } : Jvm.MethodName) ({ cls := "LiquidCheckerModel", name := "most", desc := "(IIII)I" } : Jvm.MethodName)) ∈ GW := gw_at 801 (by decide +kernel) (by decide +kernel)
theorem gw802 : (Jvm.Cond.code ({ cls := "LiquidCheckerModel", name := "most", desc := "(IIII)I" } : Jvm.MethodName) prog_8_method_32_code (5 : Nat) (Option.some Jvm.ClassFile.FieldType.int)) ∈ GW := gw_at 802 (by decide +kernel) (by decide +kernel)
theorem gw803 : (Jvm.Cond.methodLink "LiquidCheckerLaw" (89 : Nat) ({ cls := "LiquidCheckerModel", name := "follows", desc := "(II)I" } : Jvm.MethodName)) ∈ GW := gw_at 803 (by decide +kernel) (by decide +kernel)
theorem gw804 : (Jvm.Cond.instanceMethod ({ cls := "LiquidCheckerModel", name := "follows", desc := "(II)I" } : Jvm.MethodName)) ∈ GW := gw_at 804 (by decide +kernel) (by decide +kernel)
theorem gw805 : (Jvm.Cond.selects "LiquidCheckerModel" ({ cls := "LiquidCheckerModel", name := "follows", desc := "(II)I" } : Jvm.MethodName) ({ cls := "LiquidCheckerModel", name := "follows", desc := "(II)I" } : Jvm.MethodName)) ∈ GW := gw_at 805 (by decide +kernel) (by decide +kernel)
theorem gw806 : (Jvm.Cond.code ({ cls := "LiquidCheckerModel", name := "follows", desc := "(II)I" } : Jvm.MethodName) prog_8_method_33_code (3 : Nat) (Option.some Jvm.ClassFile.FieldType.int)) ∈ GW := gw_at 806 (by decide +kernel) (by decide +kernel)
theorem gw807 : (Jvm.Cond.methodLink "LiquidCheckerLaw" (92 : Nat) ({ cls := "LiquidCheckerModel", name := "count", desc := "(II)I" } : Jvm.MethodName)) ∈ GW := gw_at 807 (by decide +kernel) (by decide +kernel)
theorem gw808 : (Jvm.Cond.instanceMethod ({ cls := "LiquidCheckerModel", name := "count", desc := "(II)I" } : Jvm.MethodName)) ∈ GW := gw_at 808 (by decide +kernel) (by decide +kernel)
theorem gw809 : (Jvm.Cond.selects "LiquidCheckerModel" ({ cls := "LiquidCheckerModel", name := "count", desc := "(II)I" } : Jvm.MethodName) ({ cls := "LiquidCheckerModel", name := "count", desc := "(II)I" } : Jvm.MethodName)) ∈ GW := gw_at 809 (by decide +kernel) (by decide +kernel)
theorem gw810 : (Jvm.Cond.code ({ cls := "LiquidCheckerModel", name := "count", desc := "(II)I" } : Jvm.MethodName) prog_8_method_34_code (3 : Nat) (Option.some Jvm.ClassFile.FieldType.int)) ∈ GW := gw_at 810 (by decide +kernel) (by decide +kernel)
end
section
/-! Differences of numbers: matrices of bounds, none where there is no bound. Pure; nothing of the machine. -/
def zd_L (g : Nat → Nat → Option Int) (x y : Nat) (c : Int) : Prop := ∃ d, g x y = some d ∧ d ≤ c
theorem zd_L.mono {g : Nat → Nat → Option Int} {x y : Nat} {c e : Int} (h : zd_L g x y c) (hc : c ≤ e) : zd_L g x y e := by
  obtain ⟨d, h1, h2⟩ := h
  exact ⟨d, h1, by omega⟩
theorem zd_L.eq {g : Nat → Nat → Option Int} {x y : Nat} {c : Int} (h : g x y = some c) : zd_L g x y c := ⟨c, h, Int.le_refl c⟩
def zd_Sat (n : Nat) (g : Nat → Nat → Option Int) (v : Nat → Int) : Prop := ∀ (x y : Nat) (c : Int), x < n → y < n → zd_L g x y c → v x - v y ≤ c
def zd_Cls (n : Nat) (g : Nat → Nat → Option Int) : Prop :=
  (∀ x, x < n → g x x = some 0) ∧ ∀ (x y z : Nat) (c e : Int), x < n → y < n → z < n → zd_L g x y c → zd_L g y z e → zd_L g x z (c + e)
def zd_mn (g : Nat → Nat → Option Int) (x : Nat) : Nat → Int
  | 0 => 0
  | k + 1 => match g x k with
    | none => zd_mn g x k
    | some d => if d ≤ zd_mn g x k then d else zd_mn g x k
theorem zd_mn_le {g : Nat → Nat → Option Int} {x : Nat} : ∀ (n z : Nat) (d : Int), z < n → g x z = some d → zd_mn g x n ≤ d := by
  intro n
  induction n with
  | zero => intro z d h; omega
  | succ n ih =>
    intro z d hz hd
    by_cases e : z = n
    · subst e
      simp only [zd_mn, hd]
      split <;> omega
    · have h1 := ih z d (by omega) hd
      simp only [zd_mn]
      cases h : g x n with
      | none => exact h1
      | some w =>
        simp only []
        split <;> omega
theorem zd_mn_at {g : Nat → Nat → Option Int} {x : Nat} : ∀ (n : Nat), zd_mn g x n = 0 ∨ ∃ z, z < n ∧ g x z = some (zd_mn g x n) := by
  intro n
  induction n with
  | zero => exact Or.inl rfl
  | succ n ih =>
    simp only [zd_mn]
    cases h : g x n with
    | none =>
      simp only []
      rcases ih with h1 | ⟨z, h1, h2⟩
      · exact Or.inl h1
      · exact Or.inr ⟨z, by omega, h2⟩
    | some w =>
      simp only []
      split
      · exact Or.inr ⟨n, by omega, h⟩
      · rcases ih with h1 | ⟨z, h1, h2⟩
        · exact Or.inl h1
        · exact Or.inr ⟨z, by omega, h2⟩
/-- a closed matrix has numbers -/
theorem zd_sat {n : Nat} {g : Nat → Nat → Option Int} (h : zd_Cls n g) : ∃ v, zd_Sat n g v := by
  refine ⟨fun x => zd_mn g x n, ?_⟩
  intro x y c hx hy hL
  have hz : ∃ z, z < n ∧ g y z = some (zd_mn g y n) := by
    rcases zd_mn_at (g := g) (x := y) n with h1 | h1
    · exact ⟨y, hy, by rw [h1]; exact h.1 y hy⟩
    · exact h1
  obtain ⟨z, hz, e⟩ := hz
  obtain ⟨d, h1, h2⟩ := h.2 x y z c _ hx hy hz hL (zd_L.eq e)
  have := zd_mn_le n z d hz h1
  show zd_mn g x n - zd_mn g y n ≤ c
  omega
/-- a bound more -/
def zd_lrn (a b : Nat) (k : Int) (g : Nat → Nat → Option Int) : Nat → Nat → Option Int := fun x y =>
  match g x a, g b y with
  | some p, some q => (match g x y with
    | none => some (p + k + q)
    | some d => if p + k + q < d then some (p + k + q) else some d)
  | _, _ => g x y
theorem zd_lrn_L {a b : Nat} {k : Int} {g : Nat → Nat → Option Int} {x y : Nat} {c : Int} : zd_L (zd_lrn a b k g) x y c ↔ zd_L g x y c ∨ ∃ p q, zd_L g x a p ∧ zd_L g b y q ∧ p + k + q ≤ c := by
  unfold zd_L zd_lrn
  cases h1 : g x a with
  | none => simp
  | some p =>
    cases h2 : g b y with
    | none => simp
    | some q =>
      cases h3 : g x y with
      | none =>
        constructor
        · rintro ⟨d, hd, hc⟩
          simp only [Option.some.injEq] at hd
          exact Or.inr ⟨p, q, ⟨p, rfl, Int.le_refl p⟩, ⟨q, rfl, Int.le_refl q⟩, by omega⟩
        · rintro (⟨d, hd, hc⟩ | ⟨p', q', ⟨d, hd, hc⟩, ⟨d', hd', hc'⟩, h⟩)
          · cases hd
          · cases hd; cases hd'
            exact ⟨_, rfl, by omega⟩
      | some w =>
        simp only []
        constructor
        · rintro ⟨d, hd, hc⟩
          split at hd
          · cases hd
            exact Or.inr ⟨p, q, ⟨p, rfl, Int.le_refl p⟩, ⟨q, rfl, Int.le_refl q⟩, by omega⟩
          · cases hd
            exact Or.inl ⟨_, rfl, hc⟩
        · rintro (⟨d, hd, hc⟩ | ⟨p', q', ⟨d, hd, hc⟩, ⟨d', hd', hc'⟩, h⟩)
          · cases hd
            split
            · exact ⟨_, rfl, by omega⟩
            · exact ⟨_, rfl, hc⟩
          · cases hd; cases hd'
            split
            · exact ⟨_, rfl, by omega⟩
            · exact ⟨_, rfl, by omega⟩
theorem zd_lrn_diag {n a b : Nat} {k : Int} {g : Nat → Nat → Option Int} (h : zd_Cls n g) (ha : a < n) (hb : b < n) (hk : ∀ d, zd_L g b a d → 0 ≤ d + k) {x : Nat} (hx : x < n) : zd_lrn a b k g x x = some 0 := by
  have h0 := h.1 x hx
  unfold zd_lrn
  cases h1 : g x a with
  | none => simpa using h0
  | some p =>
    cases h2 : g b x with
    | none => simpa using h0
    | some q =>
      simp only [h0]
      have h3 := hk _ (h.2 b x a q p hb hx ha (zd_L.eq h2) (zd_L.eq h1))
      rw [if_neg (by omega)]
theorem zd_lrn_cls {n a b : Nat} {k : Int} {g : Nat → Nat → Option Int} (h : zd_Cls n g) (ha : a < n) (hb : b < n) (hk : ∀ d, zd_L g b a d → 0 ≤ d + k) : zd_Cls n (zd_lrn a b k g) := by
  refine ⟨fun x hx => zd_lrn_diag h ha hb hk hx, ?_⟩
  intro x y z c e hx hy hz h1 h2
  rw [zd_lrn_L] at h1 h2 ⊢
  rcases h1 with h1 | ⟨p1, q1, h1, h1', l1⟩
  · rcases h2 with h2 | ⟨p2, q2, h2, h2', l2⟩
    · exact Or.inl (h.2 x y z c e hx hy hz h1 h2)
    · exact Or.inr ⟨c + p2, q2, h.2 x y a c p2 hx hy ha h1 h2, h2', by omega⟩
  · rcases h2 with h2 | ⟨p2, q2, h2, h2', l2⟩
    · exact Or.inr ⟨p1, q1 + e, h1, h.2 b y z q1 e hb hy hz h1' h2, by omega⟩
    · have h3 := hk _ (h.2 b y a q1 p2 hb hy ha h1' h2)
      exact Or.inr ⟨p1, q2, h1, h2', by omega⟩
theorem zd_lrn_sat {n a b : Nat} {k : Int} {g : Nat → Nat → Option Int} (h : zd_Cls n g) (ha : a < n) (hb : b < n) {v : Nat → Int} : zd_Sat n (zd_lrn a b k g) v ↔ zd_Sat n g v ∧ v a - v b ≤ k := by
  constructor
  · intro hs
    refine ⟨fun x y c hx hy hL => hs x y c hx hy (zd_lrn_L.mpr (Or.inl hL)), ?_⟩
    exact hs a b k ha hb (zd_lrn_L.mpr (Or.inr ⟨0, 0, zd_L.eq (h.1 a ha), zd_L.eq (h.1 b hb), by omega⟩))
  · rintro ⟨hs, hk⟩ x y c hx hy hL
    rcases zd_lrn_L.mp hL with h1 | ⟨p, q, h1, h2, l⟩
    · exact hs x y c hx hy h1
    · have a1 := hs x a p hx ha h1
      have a2 := hs b y q hb hy h2
      omega
/-- a bound that breaks what is known leaves no numbers -/
theorem zd_no {n a b : Nat} {k d : Int} {g : Nat → Nat → Option Int} (ha : a < n) (hb : b < n) (hL : zd_L g b a d) (hk : d + k < 0) {v : Nat → Int} (hs : zd_Sat n g v) (hv : v a - v b ≤ k) : False := by
  have := hs b a d hb ha hL
  omega
/-- the bounds of a closed matrix are reached -/
theorem zd_sup {n : Nat} {g : Nat → Nat → Option Int} (h : zd_Cls n g) {x y : Nat} (hx : x < n) (hy : y < n) {d : Int} (hd : g x y = some d) : ∃ v, zd_Sat n g v ∧ v x - v y = d := by
  have hk : ∀ e, zd_L g x y e → 0 ≤ e + (-d) := by
    rintro e ⟨e', h1, h2⟩
    rw [hd] at h1
    cases h1
    omega
  obtain ⟨v, hv⟩ := zd_sat (zd_lrn_cls h hy hx hk)
  obtain ⟨h1, h2⟩ := (zd_lrn_sat h hy hx).mp hv
  have := h1 x y d hx hy (zd_L.eq hd)
  exact ⟨v, h1, by omega⟩
theorem zd_inf {n : Nat} {g : Nat → Nat → Option Int} (h : zd_Cls n g) {x y : Nat} (hx : x < n) (hy : y < n) (hd : g x y = none) (M : Int) : ∃ v, zd_Sat n g v ∧ M ≤ v x - v y := by
  have hk : ∀ e, zd_L g x y e → 0 ≤ e + (-M) := by
    rintro e ⟨e', h1, h2⟩
    rw [hd] at h1
    cases h1
  obtain ⟨v, hv⟩ := zd_sat (zd_lrn_cls h hy hx hk)
  obtain ⟨h1, h2⟩ := (zd_lrn_sat h hy hx).mp hv
  exact ⟨v, h1, by omega⟩
/-- what holds for all numbers is what the matrix says -/
theorem zd_shown {n : Nat} {g : Nat → Nat → Option Int} (h : zd_Cls n g) {x y : Nat} (hx : x < n) (hy : y < n) (k : Int) : zd_L g x y k ↔ ∀ v, zd_Sat n g v → v x - v y ≤ k := by
  constructor
  · exact fun hL v hs => hs x y k hx hy hL
  · intro hall
    cases hd : g x y with
    | none =>
      obtain ⟨v, h1, h2⟩ := zd_inf h hx hy hd (k + 1)
      have := hall v h1
      omega
    | some d =>
      obtain ⟨v, h1, h2⟩ := zd_sup h hx hy hd
      have := hall v h1
      exact ⟨d, hd, by omega⟩
/-- a name becomes another one's number plus k -/
def zd_mp (a b x : Nat) : Nat := if x = a then b else x
def zd_sh (a : Nat) (k : Int) (x : Nat) : Int := if x = a then k else 0
def zd_giv (a b : Nat) (k : Int) (g : Nat → Nat → Option Int) : Nat → Nat → Option Int := fun x y =>
  (g (zd_mp a b x) (zd_mp a b y)).map (fun d => d + zd_sh a k x - zd_sh a k y)
theorem zd_mp_lt {n a b x : Nat} (hb : b < n) (hx : x < n) : zd_mp a b x < n := by
  unfold zd_mp
  split <;> assumption
theorem zd_giv_L {a b : Nat} {k : Int} {g : Nat → Nat → Option Int} {x y : Nat} {c : Int} : zd_L (zd_giv a b k g) x y c ↔ zd_L g (zd_mp a b x) (zd_mp a b y) (c - zd_sh a k x + zd_sh a k y) := by
  unfold zd_L zd_giv
  cases h : g (zd_mp a b x) (zd_mp a b y) with
  | none => simp
  | some d =>
    simp only [Option.map_some, Option.some.injEq]
    constructor
    · rintro ⟨d', rfl, hc⟩
      exact ⟨d, rfl, by omega⟩
    · rintro ⟨d', rfl, hc⟩
      exact ⟨_, rfl, by omega⟩
theorem zd_giv_cls {n a b : Nat} {k : Int} {g : Nat → Nat → Option Int} (h : zd_Cls n g) (hb : b < n) : zd_Cls n (zd_giv a b k g) := by
  refine ⟨fun x hx => ?_, ?_⟩
  · unfold zd_giv
    rw [h.1 _ (zd_mp_lt hb hx)]
    simp only [Option.map_some, Option.some.injEq]
    omega
  · intro x y z c e hx hy hz h1 h2
    rw [zd_giv_L] at h1 h2 ⊢
    exact (h.2 _ _ _ _ _ (zd_mp_lt hb hx) (zd_mp_lt hb hy) (zd_mp_lt hb hz) h1 h2).mono (by omega)
/-- nothing is known of a name -/
def zd_fgt (a : Nat) (g : Nat → Nat → Option Int) : Nat → Nat → Option Int := fun x y =>
  if x = a ∨ y = a then (if x = y then some 0 else none) else g x y
theorem zd_fgt_cls {n a : Nat} {g : Nat → Nat → Option Int} (h : zd_Cls n g) : zd_Cls n (zd_fgt a g) := by
  refine ⟨fun x hx => ?_, ?_⟩
  · unfold zd_fgt
    split
    · rw [if_pos rfl]
    · exact h.1 x hx
  · intro x y z c e hx hy hz h1 h2
    unfold zd_L zd_fgt at *
    obtain ⟨d1, h1, l1⟩ := h1
    obtain ⟨d2, h2, l2⟩ := h2
    by_cases ex : x = a
    · rw [if_pos (Or.inl ex)] at h1
      by_cases exy : x = y
      · rw [if_pos exy] at h1
        cases h1
        subst exy
        exact ⟨d2, h2, by omega⟩
      · rw [if_neg exy] at h1
        cases h1
    · by_cases ey : y = a
      · rw [if_pos (Or.inr ey), if_neg (by omega)] at h1
        cases h1
      · rw [if_neg (by omega)] at h1
        by_cases ez : z = a
        · rw [if_pos (Or.inr ez), if_neg (by omega)] at h2
          cases h2
        · rw [if_neg (by omega)] at h2
          obtain ⟨c', h3, l3⟩ := h.2 x y z c e hx hy hz ⟨d1, h1, l1⟩ ⟨d2, h2, l2⟩
          rw [if_neg (by omega)]
          exact ⟨c', h3, l3⟩
/-- a number between lower and upper bounds -/
theorem zd_between (lo hi : Nat → Option Int) : ∀ (n : Nat), (∀ i j l u, i < n → j < n → lo i = some l → hi j = some u → l ≤ u) → ∃ t, (∀ i l, i < n → lo i = some l → l ≤ t) ∧ (∀ j u, j < n → hi j = some u → t ≤ u) := by
  intro n
  induction n with
  | zero => exact fun _ => ⟨0, fun i l h => by omega, fun i l h => by omega⟩
  | succ n ih =>
    intro h
    obtain ⟨t, h1, h2⟩ := ih (fun i j l u hi hj => h i j l u (by omega) (by omega))
    obtain ⟨t1, a1, a2⟩ : ∃ t1, (∀ i l, i < n + 1 → lo i = some l → l ≤ t1) ∧ (∀ j u, j < n → hi j = some u → t1 ≤ u) := by
      cases e : lo n with
      | none =>
        refine ⟨t, fun i l hi hl => ?_, h2⟩
        by_cases ei : i = n
        · subst ei; rw [e] at hl; cases hl
        · exact h1 i l (by omega) hl
      | some l0 =>
        refine ⟨if l0 ≤ t then t else l0, fun i l hi hl => ?_, fun j u hj hu => ?_⟩
        · by_cases ei : i = n
          · subst ei; rw [e] at hl; cases hl
            split <;> omega
          · have := h1 i l (by omega) hl
            split <;> omega
        · have b1 := h2 j u hj hu
          have b2 := h n j l0 u (by omega) (by omega) e hu
          split <;> omega
    cases e : hi n with
    | none =>
      refine ⟨t1, a1, fun j u hj hu => ?_⟩
      by_cases ej : j = n
      · subst ej; rw [e] at hu; cases hu
      · exact a2 j u (by omega) hu
    | some u0 =>
      refine ⟨if t1 ≤ u0 then t1 else u0, fun i l hi hl => ?_, fun j u hj hu => ?_⟩
      · have b1 := a1 i l hi hl
        have b2 := h i n l u0 hi (by omega) hl e
        split <;> omega
      · by_cases ej : j = n
        · subst ej; rw [e] at hu; cases hu
          split <;> omega
        · have := a2 j u (by omega) hu
          split <;> omega
/-- numbers for all names but one can be filled up -/
def zd_up (v : Nat → Int) (a : Nat) (t : Int) : Nat → Int := fun x => if x = a then t else v x
theorem zd_fill {n a : Nat} {g : Nat → Nat → Option Int} (h : zd_Cls n g) (ha : a < n) {v : Nat → Int} (hs : zd_Sat n (zd_fgt a g) v) : ∃ t, zd_Sat n g (zd_up v a t) := by
  have hg : ∀ x y c, x < n → y < n → x ≠ a → y ≠ a → zd_L g x y c → v x - v y ≤ c := fun x y c hx hy ex ey hL => hs x y c hx hy (by
    obtain ⟨d, h1, h2⟩ := hL
    exact ⟨d, by unfold zd_fgt; rw [if_neg (by omega)]; exact h1, h2⟩)
  obtain ⟨t, h1, h2⟩ := zd_between (fun x => if x = a then none else (g x a).map (fun d => v x - d)) (fun y => if y = a then none else (g a y).map (fun d => v y + d)) n (by
    intro i j l u hi hj hl hu
    split at hl
    · cases hl
    · split at hu
      · cases hu
      · cases e1 : g i a with
        | none => rw [e1] at hl; cases hl
        | some d1 =>
          cases e2 : g a j with
          | none => rw [e2] at hu; cases hu
          | some d2 =>
            rw [e1] at hl
            rw [e2] at hu
            simp only [Option.map_some, Option.some.injEq] at hl hu
            have := hg i j (d1 + d2) hi hj (by assumption) (by assumption) (h.2 i a j d1 d2 hi ha hj (zd_L.eq e1) (zd_L.eq e2))
            omega)
  refine ⟨t, ?_⟩
  intro x y c hx hy hL
  unfold zd_up
  by_cases ex : x = a
  · rw [if_pos ex]
    by_cases ey : y = a
    · rw [if_pos ey]
      obtain ⟨d, e1, l1⟩ := hL
      rw [ex, ey, h.1 a ha] at e1
      cases e1
      omega
    · rw [if_neg ey]
      obtain ⟨d, e1, l1⟩ := hL
      rw [ex] at e1
      have := h2 y (v y + d) hy (by simp only [if_neg ey, e1, Option.map_some])
      omega
  · rw [if_neg ex]
    by_cases ey : y = a
    · rw [if_pos ey]
      obtain ⟨d, e1, l1⟩ := hL
      rw [ey] at e1
      have := h1 x (v x - d) hx (by simp only [if_neg ex, e1, Option.map_some])
      omega
    · rw [if_neg ey]
      exact hg x y c hx hy ex ey hL
/-- forgetting is exact -/
theorem zd_fgt_sat {n a : Nat} {g : Nat → Nat → Option Int} (h : zd_Cls n g) (ha : a < n) {v : Nat → Int} : zd_Sat n (zd_fgt a g) v ↔ ∃ t, zd_Sat n g (zd_up v a t) := by
  constructor
  · exact fun hs => zd_fill h ha hs
  · rintro ⟨t, hs⟩ x y c hx hy ⟨d, h1, l1⟩
    unfold zd_fgt at h1
    by_cases e : x = a ∨ y = a
    · rw [if_pos e] at h1
      by_cases e2 : x = y
      · rw [if_pos e2] at h1
        cases h1
        subst e2
        omega
      · rw [if_neg e2] at h1
        cases h1
    · rw [if_neg e] at h1
      have := hs x y c hx hy ⟨d, h1, l1⟩
      unfold zd_up at this
      rw [if_neg (by omega), if_neg (by omega)] at this
      exact this
/-- giving is exact -/
theorem zd_giv_sat {n a b : Nat} {k : Int} {g : Nat → Nat → Option Int} (h : zd_Cls n g) (ha : a < n) (hb : b < n) {v : Nat → Int} : zd_Sat n (zd_giv a b k g) v ↔ ∃ w, zd_Sat n g w ∧ v a = w b + k ∧ ∀ x, x < n → x ≠ a → v x = w x := by
  constructor
  · intro hs
    by_cases eab : a = b
    · subst eab
      refine ⟨fun x => v x - zd_sh a k x, ?_, ?_, ?_⟩
      · intro x y c hx hy hL
        have hid : ∀ z, zd_mp a a z = z := fun z => by unfold zd_mp; split <;> omega
        have := hs x y (c + zd_sh a k x - zd_sh a k y) hx hy (zd_giv_L.mpr (by rw [hid, hid]; exact hL.mono (by omega)))
        show v x - zd_sh a k x - (v y - zd_sh a k y) ≤ c
        omega
      · simp [zd_sh]
      · intro x _ ex
        simp [zd_sh, ex]
    · -- v satisfies what g says of the others
      have hf : zd_Sat n (zd_fgt a g) v := by
        intro x y c hx hy hL
        obtain ⟨d, h1, l1⟩ := hL
        unfold zd_fgt at h1
        by_cases e : x = a ∨ y = a
        · rw [if_pos e] at h1
          by_cases e2 : x = y
          · rw [if_pos e2] at h1
            cases h1
            subst e2
            omega
          · rw [if_neg e2] at h1
            cases h1
        · rw [if_neg e] at h1
          refine hs x y c hx hy (zd_giv_L.mpr ?_)
          have e1 : zd_mp a b x = x := by unfold zd_mp; rw [if_neg (by omega)]
          have e2 : zd_mp a b y = y := by unfold zd_mp; rw [if_neg (by omega)]
          have e3 : zd_sh a k x = 0 := by unfold zd_sh; rw [if_neg (by omega)]
          have e4 : zd_sh a k y = 0 := by unfold zd_sh; rw [if_neg (by omega)]
          rw [e1, e2, e3, e4]
          exact ⟨d, h1, by omega⟩
      obtain ⟨t, ht⟩ := zd_fill h ha hf
      refine ⟨zd_up v a t, ht, ?_, ?_⟩
      · have e1 : zd_mp a b a = b := by unfold zd_mp; rw [if_pos rfl]
        have e2 : zd_mp a b b = b := by unfold zd_mp; rw [if_neg (by omega)]
        have e3 : zd_sh a k a = k := by unfold zd_sh; rw [if_pos rfl]
        have e4 : zd_sh a k b = 0 := by unfold zd_sh; rw [if_neg (by omega)]
        have h0 := zd_L.eq (h.1 b hb)
        have b1 := hs a b k ha hb (zd_giv_L.mpr (by rw [e1, e2, e3, e4]; exact h0.mono (by omega)))
        have b2 := hs b a (-k) hb ha (zd_giv_L.mpr (by rw [e1, e2, e3, e4]; exact h0.mono (by omega)))
        unfold zd_up
        rw [if_neg (by omega)]
        omega
      · intro x _ ex
        unfold zd_up
        rw [if_neg ex]
  · rintro ⟨w, hs, e1, e2⟩ x y c hx hy hL
    have hL' := hs _ _ _ (zd_mp_lt hb hx) (zd_mp_lt hb hy) (zd_giv_L.mp hL)
    have hv : ∀ z, z < n → v z = w (zd_mp a b z) + zd_sh a k z := by
      intro z hz
      unfold zd_mp zd_sh
      split
      · subst_vars; exact e1
      · rw [e2 z hz (by assumption)]; omega
    rw [hv x hx, hv y hy]
    omega
end
section
/-! How large the bounds of a matrix can grow: every step adds no more than its own number. -/
def zd_v (g : Nat → Nat → Option Int) (p : Nat × Nat) : Int := (g p.1 p.2).getD 0
def zd_fin (n : Nat) (g : Nat → Nat → Option Int) (p : Nat × Nat) : Prop := p.1 < n ∧ p.2 < n ∧ g p.1 p.2 = some (zd_v g p)
def zd_St (g : Nat → Nat → Option Int) (p q : Nat × Nat) : Prop := ∀ u w, g p.1 q.2 = some u → g q.1 p.2 = some w → zd_v g p + zd_v g q < u + w
def zd_sum (g : Nat → Nat → Option Int) : List (Nat × Nat) → Int
  | [] => 0
  | p :: l => zd_v g p + zd_sum g l
def zd_Bd (n : Nat) (T : Int) (g : Nat → Nat → Option Int) : Prop := ∀ l : List (Nat × Nat), (∀ p ∈ l, zd_fin n g p) → l.Pairwise (zd_St g) → -T ≤ zd_sum g l ∧ zd_sum g l ≤ T
theorem zd_St.symm {g : Nat → Nat → Option Int} {p q : Nat × Nat} (h : zd_St g p q) : zd_St g q p := fun u w h1 h2 => by
  have := h w u h2 h1
  omega
theorem zd_sum_app {g : Nat → Nat → Option Int} (l k : List (Nat × Nat)) : zd_sum g (l ++ k) = zd_sum g l + zd_sum g k := by
  induction l with
  | nil => simp [zd_sum]
  | cons p l ih => simp only [List.cons_append, zd_sum, ih]; omega
theorem zd_sum_congr {g g' : Nat → Nat → Option Int} (l : List (Nat × Nat)) (h : ∀ p ∈ l, zd_v g p = zd_v g' p) : zd_sum g l = zd_sum g' l := by
  induction l with
  | nil => rfl
  | cons p l ih =>
    simp only [zd_sum]
    rw [h p List.mem_cons_self, ih (fun q hq => h q (List.mem_cons_of_mem _ hq))]
theorem zd_v_some {g : Nat → Nat → Option Int} {p : Nat × Nat} {d : Int} (h : g p.1 p.2 = some d) : zd_v g p = d := by
  unfold zd_v
  rw [h]
  rfl
theorem zd_Bd.one {n : Nat} {T : Int} {g : Nat → Nat → Option Int} (h : zd_Bd n T g) {x y : Nat} {d : Int} (hx : x < n) (hy : y < n) (hd : g x y = some d) : -T ≤ d ∧ d ≤ T := by
  have e : zd_v g (x, y) = d := zd_v_some hd
  have := h [(x, y)] (fun p hp => by
    rcases List.mem_singleton.mp hp with rfl
    exact ⟨hx, hy, by rw [e]; exact hd⟩) (List.pairwise_singleton _ _)
  simp only [zd_sum, e] at this
  omega
theorem zd_lrn_le {a b : Nat} {k : Int} {g : Nat → Nat → Option Int} {x y : Nat} {d : Int} (h : g x y = some d) : ∃ d', zd_lrn a b k g x y = some d' ∧ d' ≤ d := zd_lrn_L.mpr (Or.inl (zd_L.eq h))
theorem zd_lrn_le2 {a b : Nat} {k : Int} {g : Nat → Nat → Option Int} {x y : Nat} {p q : Int} (h : g x a = some p) (h2 : g b y = some q) : ∃ d', zd_lrn a b k g x y = some d' ∧ d' ≤ p + k + q := zd_lrn_L.mpr (Or.inr ⟨p, q, zd_L.eq h, zd_L.eq h2, Int.le_refl _⟩)
theorem zd_lrn_cases (a b : Nat) (k : Int) (g : Nat → Nat → Option Int) (x y : Nat) : zd_lrn a b k g x y = g x y ∨ ∃ p q, g x a = some p ∧ g b y = some q ∧ zd_lrn a b k g x y = some (p + k + q) ∧ ∀ d, g x y = some d → p + k + q < d := by
  unfold zd_lrn
  cases h1 : g x a with
  | none => exact Or.inl rfl
  | some p =>
    cases h2 : g b y with
    | none => exact Or.inl rfl
    | some q =>
      cases h3 : g x y with
      | none => exact Or.inr ⟨p, q, rfl, rfl, rfl, fun d hd => by cases hd⟩
      | some d =>
        simp only []
        split
        · exact Or.inr ⟨p, q, rfl, rfl, rfl, fun d' hd => by cases hd; assumption⟩
        · exact Or.inl rfl
theorem zd_Bd_lrn {n a b : Nat} {k T K : Int} {g : Nat → Nat → Option Int} (hk : ∀ d, g b a = some d → 0 ≤ d + k) (ha : a < n) (hb : b < n) (h : zd_Bd n T g) (hK : -K ≤ k ∧ k ≤ K) : zd_Bd n (T + K) (zd_lrn a b k g) := by
  intro l hf hp
  have old : ∀ l2 : List (Nat × Nat), (∀ p ∈ l2, p ∈ l) → (∀ p ∈ l2, zd_lrn a b k g p.1 p.2 = g p.1 p.2) → (∀ p ∈ l2, zd_fin n g p ∧ zd_v (zd_lrn a b k g) p = zd_v g p) ∧ ∀ p ∈ l2, ∀ q ∈ l2, zd_St (zd_lrn a b k g) p q → zd_St g p q := by
    intro l2 hin ho
    have h1 : ∀ p ∈ l2, zd_v (zd_lrn a b k g) p = zd_v g p := fun p hp => by unfold zd_v; rw [ho p hp]
    refine ⟨fun p hp => ⟨?_, h1 p hp⟩, ?_⟩
    · obtain ⟨f1, f2, f3⟩ := hf p (hin p hp)
      exact ⟨f1, f2, by rw [← h1 p hp, ← f3, ho p hp]⟩
    · intro p hp q hq hs u w hu hw
      obtain ⟨u', e1, l1⟩ := zd_lrn_le (a := a) (b := b) (k := k) hu
      obtain ⟨w', e2, l2⟩ := zd_lrn_le (a := a) (b := b) (k := k) hw
      have := hs u' w' e1 e2
      rw [h1 p hp, h1 q hq] at this
      omega
  by_cases hn : ∃ p, p ∈ l ∧ ¬ zd_lrn a b k g p.1 p.2 = g p.1 p.2
  · obtain ⟨p, hpl, hnew⟩ := hn
    have hN : ∃ u w, g p.1 a = some u ∧ g b p.2 = some w ∧ zd_lrn a b k g p.1 p.2 = some (u + k + w) ∧ ∀ d, g p.1 p.2 = some d → u + k + w < d := by
      rcases zd_lrn_cases a b k g p.1 p.2 with e | e
      · exact absurd e hnew
      · exact e
    obtain ⟨u, w, e1, e2, e3, e4⟩ := hN
    have hvp : zd_v (zd_lrn a b k g) p = u + k + w := zd_v_some e3
    obtain ⟨s, t, rfl⟩ := List.append_of_mem hpl
    obtain ⟨ps, ppt, pst⟩ := List.pairwise_append.mp hp
    obtain ⟨pp, pt⟩ := List.pairwise_cons.mp ppt
    have hst : ∀ q, q ∈ s ++ t → zd_St (zd_lrn a b k g) p q := by
      intro q hq
      rcases List.mem_append.mp hq with h1 | h1
      · exact (pst q h1 p List.mem_cons_self).symm
      · exact pp q h1
    have hin : ∀ q ∈ s ++ t, q ∈ s ++ p :: t := by
      intro q hq
      rcases List.mem_append.mp hq with h1 | h1
      · exact List.mem_append_left _ h1
      · exact List.mem_append_right _ (List.mem_cons_of_mem _ h1)
    have ho : ∀ q ∈ s ++ t, zd_lrn a b k g q.1 q.2 = g q.1 q.2 := by
      intro q hq
      rcases zd_lrn_cases a b k g q.1 q.2 with e | ⟨u', w', f1, f2, f3, f4⟩
      · exact e
      · exfalso
        obtain ⟨d1, i1, i2⟩ := zd_lrn_le2 (k := k) e1 f2
        obtain ⟨d2, i3, i4⟩ := zd_lrn_le2 (k := k) f1 e2
        have := hst q hq d1 d2 i1 i3
        rw [hvp, zd_v_some f3] at this
        omega
    obtain ⟨o1, o2⟩ := old (s ++ t) hin ho
    have hv1 : zd_v g (p.1, a) = u := zd_v_some e1
    have hv2 : zd_v g (b, p.2) = w := zd_v_some e2
    obtain ⟨fp1, fp2, fp3⟩ := hf p hpl
    have hb2 := h ((p.1, a) :: (b, p.2) :: (s ++ t)) (by
      intro q hq
      rcases List.mem_cons.mp hq with rfl | hq
      · exact ⟨fp1, ha, by rw [hv1]; exact e1⟩
      · rcases List.mem_cons.mp hq with rfl | hq
        · exact ⟨hb, fp2, by rw [hv2]; exact e2⟩
        · exact (o1 q hq).1) (by
      have hpq : (s ++ t).Pairwise (zd_St g) := by
        have hst2 : (s ++ t).Pairwise (zd_St (zd_lrn a b k g)) := List.pairwise_append.mpr ⟨ps, pt, fun x hx y hy => pst x hx y (List.mem_cons_of_mem _ hy)⟩
        exact hst2.imp_of_mem (fun hx hy hr => o2 _ hx _ hy hr)
      refine List.pairwise_cons.mpr ⟨?_, List.pairwise_cons.mpr ⟨?_, hpq⟩⟩
      · intro q hq
        rcases List.mem_cons.mp hq with rfl | hq
        · intro x y hx hy
          rw [hv1, hv2]
          have a1 := e4 x hx
          have a2 := hk y hy
          omega
        · intro x y hx hy
          rw [hv1]
          obtain ⟨d1, i1, i2⟩ := zd_lrn_le (a := a) (b := b) (k := k) hx
          obtain ⟨d2, i3, i4⟩ := zd_lrn_le2 (k := k) hy e2
          have := hst q hq d1 d2 i1 i3
          rw [hvp, (o1 q hq).2] at this
          omega
      · intro q hq x y hx hy
        rw [hv2]
        obtain ⟨d1, i1, i2⟩ := zd_lrn_le2 (k := k) e1 hx
        obtain ⟨d2, i3, i4⟩ := zd_lrn_le (a := a) (b := b) (k := k) hy
        have := hst q hq d1 d2 i1 i3
        rw [hvp, (o1 q hq).2] at this
        omega)
    have hsum : zd_sum (zd_lrn a b k g) (s ++ p :: t) = zd_sum g ((p.1, a) :: (b, p.2) :: (s ++ t)) + k := by
      have c1 : zd_sum (zd_lrn a b k g) s = zd_sum g s := zd_sum_congr s (fun q hq => (o1 q (List.mem_append_left _ hq)).2)
      have c2 : zd_sum (zd_lrn a b k g) t = zd_sum g t := zd_sum_congr t (fun q hq => (o1 q (List.mem_append_right _ hq)).2)
      simp only [zd_sum_app, zd_sum, c1, c2, hvp, hv1, hv2]
      omega
    rw [hsum]
    omega
  · have ho : ∀ p ∈ l, zd_lrn a b k g p.1 p.2 = g p.1 p.2 := fun p hp => Classical.byContradiction fun h => hn ⟨p, hp, h⟩
    obtain ⟨o1, o2⟩ := old l (fun _ h => h) ho
    have hb2 := h l (fun p hp => (o1 p hp).1) (hp.imp_of_mem (fun hx hy hr => o2 _ hx _ hy hr))
    rw [zd_sum_congr l (fun p hp => (o1 p hp).2)]
    omega
theorem zd_St_x {g : Nat → Nat → Option Int} {n : Nat} {p q : Nat × Nat} (hp : zd_fin n g p) (hq : zd_fin n g q) (h : zd_St g p q) : p.1 ≠ q.1 := by
  intro e
  have := h (zd_v g q) (zd_v g p) (by rw [e]; exact hq.2.2) (by rw [← e]; exact hp.2.2)
  omega
theorem zd_St_y {g : Nat → Nat → Option Int} {n : Nat} {p q : Nat × Nat} (hp : zd_fin n g p) (hq : zd_fin n g q) (h : zd_St g p q) : p.2 ≠ q.2 := by
  intro e
  have := h (zd_v g p) (zd_v g q) (by rw [← e]; exact hp.2.2) (by rw [e]; exact hq.2.2)
  omega
def zd_s1 (a : Nat) (k : Int) : List (Nat × Nat) → Int
  | [] => 0
  | p :: l => zd_sh a k p.1 + zd_s1 a k l
def zd_s2 (a : Nat) (k : Int) : List (Nat × Nat) → Int
  | [] => 0
  | p :: l => zd_sh a k p.2 + zd_s2 a k l
theorem zd_s1_no {a : Nat} {k : Int} (l : List (Nat × Nat)) (h : ∀ p ∈ l, p.1 ≠ a) : zd_s1 a k l = 0 := by
  induction l with
  | nil => rfl
  | cons p l ih =>
    simp only [zd_s1]
    rw [ih (fun q hq => h q (List.mem_cons_of_mem _ hq))]
    have := h p List.mem_cons_self
    simp [zd_sh, this]
theorem zd_s2_no {a : Nat} {k : Int} (l : List (Nat × Nat)) (h : ∀ p ∈ l, p.2 ≠ a) : zd_s2 a k l = 0 := by
  induction l with
  | nil => rfl
  | cons p l ih =>
    simp only [zd_s2]
    rw [ih (fun q hq => h q (List.mem_cons_of_mem _ hq))]
    have := h p List.mem_cons_self
    simp [zd_sh, this]
theorem zd_s1_in {a : Nat} {k : Int} (l : List (Nat × Nat)) (h : l.Pairwise (fun p q => p.1 ≠ q.1)) : zd_s1 a k l = 0 ∨ zd_s1 a k l = k := by
  induction l with
  | nil => exact Or.inl rfl
  | cons p l ih =>
    obtain ⟨h1, h2⟩ := List.pairwise_cons.mp h
    simp only [zd_s1]
    by_cases e : p.1 = a
    · right
      rw [zd_s1_no l (fun q hq => by have := h1 q hq; omega)]
      simp [zd_sh, e]
    · have : zd_sh a k p.1 = 0 := by simp [zd_sh, e]
      rw [this]
      rcases ih h2 with h3 | h3 <;> omega
theorem zd_s2_in {a : Nat} {k : Int} (l : List (Nat × Nat)) (h : l.Pairwise (fun p q => p.2 ≠ q.2)) : zd_s2 a k l = 0 ∨ zd_s2 a k l = k := by
  induction l with
  | nil => exact Or.inl rfl
  | cons p l ih =>
    obtain ⟨h1, h2⟩ := List.pairwise_cons.mp h
    simp only [zd_s2]
    by_cases e : p.2 = a
    · right
      rw [zd_s2_no l (fun q hq => by have := h1 q hq; omega)]
      simp [zd_sh, e]
    · have : zd_sh a k p.2 = 0 := by simp [zd_sh, e]
      rw [this]
      rcases ih h2 with h3 | h3 <;> omega
theorem zd_giv_v {a b : Nat} {k : Int} {g : Nat → Nat → Option Int} {x y : Nat} {d : Int} (h : zd_giv a b k g x y = some d) : g (zd_mp a b x) (zd_mp a b y) = some (d - zd_sh a k x + zd_sh a k y) := by
  unfold zd_giv at h
  cases e : g (zd_mp a b x) (zd_mp a b y) with
  | none => rw [e] at h; cases h
  | some c =>
    rw [e] at h
    simp only [Option.map_some, Option.some.injEq] at h
    simp only [Option.some.injEq]
    omega
theorem zd_giv_of {a b : Nat} {k : Int} {g : Nat → Nat → Option Int} {x y : Nat} {d : Int} (h : g (zd_mp a b x) (zd_mp a b y) = some d) : zd_giv a b k g x y = some (d + zd_sh a k x - zd_sh a k y) := by
  unfold zd_giv
  rw [h]
  rfl
theorem zd_Bd_giv {n a b : Nat} {k T K : Int} {g : Nat → Nat → Option Int} (hb : b < n) (h : zd_Bd n T g) (hK : -K ≤ k ∧ k ≤ K) : zd_Bd n (T + K) (zd_giv a b k g) := by
  intro l hf hp
  have hv : ∀ p ∈ l, zd_v g (zd_mp a b p.1, zd_mp a b p.2) = zd_v (zd_giv a b k g) p - zd_sh a k p.1 + zd_sh a k p.2 := fun p hp => zd_v_some (zd_giv_v (hf p hp).2.2)
  have hb2 := h (l.map (fun p => (zd_mp a b p.1, zd_mp a b p.2))) (by
    intro q hq
    obtain ⟨p, hp, rfl⟩ := List.mem_map.mp hq
    obtain ⟨f1, f2, f3⟩ := hf p hp
    refine ⟨zd_mp_lt hb f1, zd_mp_lt hb f2, ?_⟩
    rw [hv p hp]
    exact zd_giv_v f3) (by
    refine List.pairwise_map.mpr (hp.imp_of_mem (fun {p q} hx hy hr => ?_))
    intro u w hu hw
    have := hr _ _ (zd_giv_of (k := k) hu) (zd_giv_of (k := k) hw)
    rw [hv p hx, hv q hy]
    omega)
  have hs : ∀ l2 : List (Nat × Nat), (∀ p ∈ l2, p ∈ l) → zd_sum (zd_giv a b k g) l2 = zd_sum g (l2.map (fun p => (zd_mp a b p.1, zd_mp a b p.2))) + zd_s1 a k l2 - zd_s2 a k l2 := by
    intro l2
    induction l2 with
    | nil => intro _; rfl
    | cons p l2 ih =>
      intro hin
      simp only [List.map_cons, zd_sum, zd_s1, zd_s2]
      rw [ih (fun q hq => hin q (List.mem_cons_of_mem _ hq)), hv p (hin p List.mem_cons_self)]
      omega
  rw [hs l (fun _ h => h)]
  have c1 := zd_s1_in (a := a) (k := k) l (hp.imp_of_mem (fun hx hy hr => zd_St_x (hf _ hx) (hf _ hy) hr))
  have c2 := zd_s2_in (a := a) (k := k) l (hp.imp_of_mem (fun hx hy hr => zd_St_y (hf _ hx) (hf _ hy) hr))
  rcases c1 with c1 | c1 <;> rcases c2 with c2 | c2 <;> omega
theorem zd_sum_filter {g : Nat → Nat → Option Int} (f : Nat × Nat → Bool) (l : List (Nat × Nat)) (h : ∀ p ∈ l, f p = false → zd_v g p = 0) : zd_sum g (l.filter f) = zd_sum g l := by
  induction l with
  | nil => rfl
  | cons p l ih =>
    have ih := ih (fun q hq => h q (List.mem_cons_of_mem _ hq))
    cases e : f p with
    | true =>
      rw [List.filter_cons_of_pos e]
      simp only [zd_sum, ih]
    | false =>
      rw [List.filter_cons_of_neg (by simp [e])]
      have := h p List.mem_cons_self e
      simp only [zd_sum, ih]
      omega
theorem zd_Bd_fgt {n a : Nat} {T : Int} {g : Nat → Nat → Option Int} (h : zd_Bd n T g) : zd_Bd n T (zd_fgt a g) := by
  intro l hf hp
  have hz : ∀ p ∈ l, (decide (p.1 ≠ a ∧ p.2 ≠ a)) = false → zd_v (zd_fgt a g) p = 0 := by
    intro p hp he
    obtain ⟨f1, f2, f3⟩ := hf p hp
    have he : ¬ (p.1 ≠ a ∧ p.2 ≠ a) := by simpa using he
    by_cases e : p.1 = p.2
    · apply zd_v_some
      unfold zd_fgt
      rw [if_pos (by omega), if_pos e]
    · unfold zd_fgt at f3
      rw [if_pos (by omega), if_neg e] at f3
      cases f3
  have heq : ∀ x y, x ≠ a → y ≠ a → zd_fgt a g x y = g x y := fun x y hx hy => by unfold zd_fgt; rw [if_neg (by omega)]
  have hq : ∀ p ∈ l.filter (fun p => decide (p.1 ≠ a ∧ p.2 ≠ a)), p ∈ l ∧ p.1 ≠ a ∧ p.2 ≠ a := by
    intro p hp
    have := List.mem_filter.mp hp
    exact ⟨this.1, by simpa using this.2⟩
  have hvv : ∀ p ∈ l.filter (fun p => decide (p.1 ≠ a ∧ p.2 ≠ a)), zd_v (zd_fgt a g) p = zd_v g p := by
    intro p hp
    unfold zd_v
    rw [heq _ _ (hq p hp).2.1 (hq p hp).2.2]
  have hb2 := h (l.filter (fun p => decide (p.1 ≠ a ∧ p.2 ≠ a))) (by
    intro p hp
    obtain ⟨i1, i2, i3⟩ := hq p hp
    obtain ⟨f1, f2, f3⟩ := hf p i1
    exact ⟨f1, f2, by rw [← hvv p hp, ← heq _ _ i2 i3]; exact f3⟩) (by
    refine (hp.filter _).imp_of_mem (fun {p q} hx hy hr => ?_)
    intro u w hu hw
    have := hr u w (by rw [heq _ _ (hq p hx).2.1 (hq q hy).2.2]; exact hu) (by rw [heq _ _ (hq q hy).2.1 (hq p hx).2.2]; exact hw)
    rw [hvv p hx, hvv q hy] at this
    exact this)
  rw [← zd_sum_filter (fun p => decide (p.1 ≠ a ∧ p.2 ≠ a)) l hz, zd_sum_congr _ hvv]
  exact hb2
theorem zd_Bd_0 {n : Nat} {g : Nat → Nat → Option Int} (h : ∀ x y d, x < n → y < n → g x y = some d → d = 0) : zd_Bd n 0 g := by
  intro l hf _
  have : ∀ l2 : List (Nat × Nat), (∀ p ∈ l2, p ∈ l) → zd_sum g l2 = 0 := by
    intro l2
    induction l2 with
    | nil => intro _; rfl
    | cons p l2 ih =>
      intro hin
      obtain ⟨f1, f2, f3⟩ := hf p (hin p List.mem_cons_self)
      simp only [zd_sum]
      rw [ih (fun q hq => hin q (List.mem_cons_of_mem _ hq)), h _ _ _ f1 f2 f3]
      rfl
  rw [this l (fun _ h => h)]
  omega
theorem zd_Bd.mono {n : Nat} {T U : Int} {g : Nat → Nat → Option Int} (h : zd_Bd n T g) (hT : T ≤ U) : zd_Bd n U g := fun l hf hp => by
  have := h l hf hp
  omega
end
section
/-! What is known, as the class keeps it: whether there are numbers, and a closed matrix of 12 names. -/
def kl_le (o : Option Int) (k : Int) : Bool := match o with
  | none => false
  | some d => decide (d ≤ k)
theorem kl_le_iff {g : Nat → Nat → Option Int} {x y : Nat} {k : Int} : kl_le (g x y) k = true ↔ zd_L g x y k := by
  unfold kl_le zd_L
  cases h : g x y with
  | none => simp
  | some d => simp
abbrev kl_K : Type := Bool × (Nat → Nat → Option Int)
def kl_0 : kl_K := (true, fun x y => if x = y then some 0 else none)
def kl_learn (a b : Nat) (k : Int) (K : kl_K) : kl_K :=
  if K.1 = false ∨ kl_le (K.2 a b) k = true then K
  else if kl_le (K.2 b a) (-k - 1) = true then (false, K.2)
  else (K.1, zd_lrn a b k K.2)
def kl_give (a b : Nat) (k : Int) (K : kl_K) : kl_K := (K.1, zd_giv a b k K.2)
def kl_forget (a : Nat) (K : kl_K) : kl_K := (K.1, zd_fgt a K.2)
def kl_ok (T : Int) (K : kl_K) : Prop := zd_Cls 12 K.2 ∧ zd_Bd 12 T K.2
def kl_sem (K : kl_K) (v : Nat → Int) : Prop := K.1 = true ∧ zd_Sat 12 K.2 v
theorem kl_ok.mono {T U : Int} {K : kl_K} (h : kl_ok T K) (hT : T ≤ U) : kl_ok U K := ⟨h.1, h.2.mono hT⟩
theorem kl_0_ok : kl_ok 0 kl_0 := by
  refine ⟨⟨fun x _ => by simp [kl_0], ?_⟩, zd_Bd_0 ?_⟩
  · rintro x y z c e _ _ _ ⟨d1, h1, l1⟩ ⟨d2, h2, l2⟩
    simp only [kl_0] at h1 h2
    split at h1
    · split at h2
      · cases h1; cases h2
        subst_vars
        exact ⟨0, by simp [kl_0], by omega⟩
      · cases h2
    · cases h1
  · intro x y d _ _ h
    simp only [kl_0] at h
    split at h
    · cases h; rfl
    · cases h
theorem kl_0_sem (v : Nat → Int) : kl_sem kl_0 v := by
  refine ⟨rfl, ?_⟩
  rintro x y c _ _ ⟨d, h, l⟩
  simp only [kl_0] at h
  split at h
  · cases h; subst_vars; omega
  · cases h
theorem kl_cons {a b : Nat} {k : Int} {g : Nat → Nat → Option Int} (h : ¬ kl_le (g b a) (-k - 1) = true) : ∀ d, zd_L g b a d → 0 ≤ d + k := by
  intro d hd
  rw [kl_le_iff] at h
  by_cases e : 0 ≤ d + k
  · exact e
  · exact absurd (hd.mono (by omega)) h
theorem kl_learn_ok {T : Int} {K : kl_K} {a b : Nat} {k : Int} (ha : a < 12) (hb : b < 12) (hk : -1001 ≤ k ∧ k ≤ 1001) (h : kl_ok T K) : kl_ok (T + 1001) (kl_learn a b k K) := by
  unfold kl_learn
  split
  · exact h.mono (by omega)
  · split
    · exact ⟨h.1, h.2.mono (by omega)⟩
    · rename_i h1 h2
      exact ⟨zd_lrn_cls h.1 ha hb (kl_cons h2), zd_Bd_lrn (fun d hd => kl_cons h2 d (zd_L.eq hd)) ha hb h.2 (by omega)⟩
theorem kl_learn_sem {T : Int} {K : kl_K} {a b : Nat} {k : Int} (ha : a < 12) (hb : b < 12) (h : kl_ok T K) (v : Nat → Int) : kl_sem (kl_learn a b k K) v ↔ kl_sem K v ∧ v a - v b ≤ k := by
  unfold kl_learn
  split
  · rename_i h1
    constructor
    · intro hs
      refine ⟨hs, ?_⟩
      rcases h1 with h1 | h1
      · rw [hs.1] at h1; cases h1
      · exact hs.2 a b k ha hb (kl_le_iff.mp h1)
    · exact fun hs => hs.1
  · split
    · rename_i h1 h2
      constructor
      · rintro ⟨h3, _⟩
        cases h3
      · rintro ⟨⟨_, hs⟩, hv⟩
        exact (zd_no ha hb (kl_le_iff.mp h2) (by omega) hs hv).elim
    · unfold kl_sem
      rw [zd_lrn_sat h.1 ha hb]
      exact ⟨fun ⟨h1, h2, h3⟩ => ⟨⟨h1, h2⟩, h3⟩, fun ⟨⟨h1, h2⟩, h3⟩ => ⟨h1, h2, h3⟩⟩
theorem kl_give_ok {T : Int} {K : kl_K} {a b : Nat} {k : Int} (hb : b < 12) (hk : -1001 ≤ k ∧ k ≤ 1001) (h : kl_ok T K) : kl_ok (T + 1001) (kl_give a b k K) := ⟨zd_giv_cls h.1 hb, zd_Bd_giv hb h.2 (by omega)⟩
theorem kl_give0_ok {T : Int} {K : kl_K} {a b : Nat} (hb : b < 12) (h : kl_ok T K) : kl_ok T (kl_give a b 0 K) := ⟨zd_giv_cls h.1 hb, (zd_Bd_giv (K := 0) hb h.2 (by omega)).mono (by omega)⟩
theorem kl_forget_ok {T : Int} {K : kl_K} {a : Nat} (h : kl_ok T K) : kl_ok T (kl_forget a K) := ⟨zd_fgt_cls h.1, zd_Bd_fgt h.2⟩
theorem kl_give_sem {T : Int} {K : kl_K} {a b : Nat} {k : Int} (ha : a < 12) (hb : b < 12) (h : kl_ok T K) (v : Nat → Int) : kl_sem (kl_give a b k K) v ↔ ∃ w, kl_sem K w ∧ v a = w b + k ∧ ∀ x, x < 12 → x ≠ a → v x = w x := by
  unfold kl_sem kl_give
  rw [zd_giv_sat h.1 ha hb]
  constructor
  · rintro ⟨h1, w, h2, h3, h4⟩
    exact ⟨w, ⟨h1, h2⟩, h3, h4⟩
  · rintro ⟨w, ⟨h1, h2⟩, h3, h4⟩
    exact ⟨h1, w, h2, h3, h4⟩
theorem kl_forget_sem {T : Int} {K : kl_K} {a : Nat} (ha : a < 12) (h : kl_ok T K) (v : Nat → Int) : kl_sem (kl_forget a K) v ↔ ∃ t, kl_sem K (zd_up v a t) := by
  unfold kl_sem kl_forget
  rw [zd_fgt_sat h.1 ha]
  constructor
  · rintro ⟨h1, t, h2⟩
    exact ⟨t, h1, h2⟩
  · rintro ⟨t, h1, h2⟩
    exact ⟨h1, t, h2⟩
theorem kl_any {T : Int} {K : kl_K} (h : kl_ok T K) : K.1 = true ↔ ∃ v, kl_sem K v := by
  constructor
  · intro h1
    obtain ⟨v, hv⟩ := zd_sat h.1
    exact ⟨v, h1, hv⟩
  · rintro ⟨v, h1, _⟩
    exact h1
/-- a relation is shown where it holds for all numbers -/
theorem kl_shown {T : Int} {K : kl_K} (h : kl_ok T K) (hp : K.1 = true) {x y : Nat} (hx : x < 12) (hy : y < 12) (k : Int) : kl_le (K.2 x y) k = true ↔ ∀ v, kl_sem K v → v x - v y ≤ k := by
  rw [kl_le_iff, zd_shown h.1 hx hy k]
  exact ⟨fun h1 v hv => h1 v hv.2, fun h1 v hv => h1 v ⟨hp, hv⟩⟩
end
