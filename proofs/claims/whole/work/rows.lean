section
-- ===== PART A: goes FIRST, ahead of the names: the tables' words, and 'selects' of the private methods out of them =====
/-- a private method of a class that the tables say can be made, by its rows of tables_1 -/
def lw_okq (q : MethodName × Nat) : Prop := (q.1.cls ≠ "java/lang/invoke/MethodHandle" ∧ q.1.cls ≠ "java/lang/invoke/VarHandle") ∧ Cond.instantiable q.1.cls q.2 ∈ tables_1 ∧ Cond.privateMethod q.1 ∈ tables_1 ∧ Cond.instanceMethod q.1 ∈ tables_1
theorem lw_p0 : lw_okq (⟨"java/lang/Throwable", "fillInStackTrace", "(I)Ljava/lang/Throwable;"⟩, 6) := ⟨⟨by decide +kernel, by decide +kernel⟩, List.mem_of_getElem? (i := 249) (by decide +kernel), List.mem_of_getElem? (i := 247) (by decide +kernel), List.mem_of_getElem? (i := 248) (by decide +kernel)⟩
theorem lw_p1 : lw_okq (⟨"LiquidChecker$Relations", "append", "(III)I"⟩, 4) := ⟨⟨by decide +kernel, by decide +kernel⟩, List.mem_of_getElem? (i := 97) (by decide +kernel), List.mem_of_getElem? (i := 299) (by decide +kernel), List.mem_of_getElem? (i := 300) (by decide +kernel)⟩
theorem lw_p2 : lw_okq (⟨"LiquidChecker$Function", "hasGivenWhatIsUsed", "(IIII)Z"⟩, 8) := ⟨⟨by decide +kernel, by decide +kernel⟩, List.mem_of_getElem? (i := 91) (by decide +kernel), List.mem_of_getElem? (i := 333) (by decide +kernel), List.mem_of_getElem? (i := 334) (by decide +kernel)⟩
theorem lw_p3 : lw_okq (⟨"LiquidChecker$Function", "hasGiven", "(I)Z"⟩, 8) := ⟨⟨by decide +kernel, by decide +kernel⟩, List.mem_of_getElem? (i := 91) (by decide +kernel), List.mem_of_getElem? (i := 338) (by decide +kernel), List.mem_of_getElem? (i := 339) (by decide +kernel)⟩
theorem lw_p4 : lw_okq (⟨"LiquidChecker$Function", "isOpenFor", "(I)Z"⟩, 8) := ⟨⟨by decide +kernel, by decide +kernel⟩, List.mem_of_getElem? (i := 91) (by decide +kernel), List.mem_of_getElem? (i := 344) (by decide +kernel), List.mem_of_getElem? (i := 345) (by decide +kernel)⟩
theorem lw_p5 : lw_okq (⟨"LiquidChecker$Function", "hasRoomFor", "(I)Z"⟩, 8) := ⟨⟨by decide +kernel, by decide +kernel⟩, List.mem_of_getElem? (i := 91) (by decide +kernel), List.mem_of_getElem? (i := 364) (by decide +kernel), List.mem_of_getElem? (i := 365) (by decide +kernel)⟩
theorem lw_p6 : lw_okq (⟨"LiquidChecker$Function", "append", "(IIIII)I"⟩, 8) := ⟨⟨by decide +kernel, by decide +kernel⟩, List.mem_of_getElem? (i := 91) (by decide +kernel), List.mem_of_getElem? (i := 369) (by decide +kernel), List.mem_of_getElem? (i := 370) (by decide +kernel)⟩
theorem lw_p7 : lw_okq (⟨"LiquidChecker$Statement", "write", "(IIIII)V"⟩, 6) := ⟨⟨by decide +kernel, by decide +kernel⟩, List.mem_of_getElem? (i := 119) (by decide +kernel), List.mem_of_getElem? (i := 373) (by decide +kernel), List.mem_of_getElem? (i := 374) (by decide +kernel)⟩
theorem lw_p8 : lw_okq (⟨"LiquidChecker$Function", "openIf", "(I)V"⟩, 8) := ⟨⟨by decide +kernel, by decide +kernel⟩, List.mem_of_getElem? (i := 91) (by decide +kernel), List.mem_of_getElem? (i := 378) (by decide +kernel), List.mem_of_getElem? (i := 379) (by decide +kernel)⟩
theorem lw_p9 : lw_okq (⟨"LiquidChecker$Function", "turnToElse", "(I)V"⟩, 8) := ⟨⟨by decide +kernel, by decide +kernel⟩, List.mem_of_getElem? (i := 91) (by decide +kernel), List.mem_of_getElem? (i := 382) (by decide +kernel), List.mem_of_getElem? (i := 383) (by decide +kernel)⟩
theorem lw_p10 : lw_okq (⟨"LiquidChecker$Function", "closeIf", "(I)V"⟩, 8) := ⟨⟨by decide +kernel, by decide +kernel⟩, List.mem_of_getElem? (i := 91) (by decide +kernel), List.mem_of_getElem? (i := 386) (by decide +kernel), List.mem_of_getElem? (i := 387) (by decide +kernel)⟩
theorem lw_p11 : lw_okq (⟨"LiquidChecker$Function", "empty", "()V"⟩, 8) := ⟨⟨by decide +kernel, by decide +kernel⟩, List.mem_of_getElem? (i := 91) (by decide +kernel), List.mem_of_getElem? (i := 398) (by decide +kernel), List.mem_of_getElem? (i := 399) (by decide +kernel)⟩
theorem lw_p12 : lw_okq (⟨"LiquidChecker$Walk", "through", "([LLiquidChecker$Function;LLiquidChecker$Function;III)V"⟩, 11) := ⟨⟨by decide +kernel, by decide +kernel⟩, List.mem_of_getElem? (i := 30) (by decide +kernel), List.mem_of_getElem? (i := 409) (by decide +kernel), List.mem_of_getElem? (i := 410) (by decide +kernel)⟩
theorem lw_p13 : lw_okq (⟨"LiquidChecker$Known", "forgetAll", "()V"⟩, 2) := ⟨⟨by decide +kernel, by decide +kernel⟩, List.mem_of_getElem? (i := 36) (by decide +kernel), List.mem_of_getElem? (i := 414) (by decide +kernel), List.mem_of_getElem? (i := 415) (by decide +kernel)⟩
theorem lw_p14 : lw_okq (⟨"LiquidChecker$Relations", "learnedBy", "(LLiquidChecker$Known;II)V"⟩, 4) := ⟨⟨by decide +kernel, by decide +kernel⟩, List.mem_of_getElem? (i := 97) (by decide +kernel), List.mem_of_getElem? (i := 422) (by decide +kernel), List.mem_of_getElem? (i := 423) (by decide +kernel)⟩
theorem lw_p15 : lw_okq (⟨"LiquidChecker$Known", "learn", "(III)V"⟩, 2) := ⟨⟨by decide +kernel, by decide +kernel⟩, List.mem_of_getElem? (i := 36) (by decide +kernel), List.mem_of_getElem? (i := 429) (by decide +kernel), List.mem_of_getElem? (i := 430) (by decide +kernel)⟩
def lw_privs_1 : List (MethodName × Nat) := [(⟨"java/lang/Throwable", "fillInStackTrace", "(I)Ljava/lang/Throwable;"⟩, 6), (⟨"LiquidChecker$Relations", "append", "(III)I"⟩, 4), (⟨"LiquidChecker$Function", "hasGivenWhatIsUsed", "(IIII)Z"⟩, 8), (⟨"LiquidChecker$Function", "hasGiven", "(I)Z"⟩, 8), (⟨"LiquidChecker$Function", "isOpenFor", "(I)Z"⟩, 8), (⟨"LiquidChecker$Function", "hasRoomFor", "(I)Z"⟩, 8), (⟨"LiquidChecker$Function", "append", "(IIIII)I"⟩, 8), (⟨"LiquidChecker$Statement", "write", "(IIIII)V"⟩, 6), (⟨"LiquidChecker$Function", "openIf", "(I)V"⟩, 8), (⟨"LiquidChecker$Function", "turnToElse", "(I)V"⟩, 8), (⟨"LiquidChecker$Function", "closeIf", "(I)V"⟩, 8), (⟨"LiquidChecker$Function", "empty", "()V"⟩, 8), (⟨"LiquidChecker$Walk", "through", "([LLiquidChecker$Function;LLiquidChecker$Function;III)V"⟩, 11), (⟨"LiquidChecker$Known", "forgetAll", "()V"⟩, 2), (⟨"LiquidChecker$Relations", "learnedBy", "(LLiquidChecker$Known;II)V"⟩, 4), (⟨"LiquidChecker$Known", "learn", "(III)V"⟩, 2)]
theorem lw_r1 : ∀ q ∈ lw_privs_1, lw_okq q := List.forall_mem_cons.mpr ⟨lw_p0, List.forall_mem_cons.mpr ⟨lw_p1, List.forall_mem_cons.mpr ⟨lw_p2, List.forall_mem_cons.mpr ⟨lw_p3, List.forall_mem_cons.mpr ⟨lw_p4, List.forall_mem_cons.mpr ⟨lw_p5, List.forall_mem_cons.mpr ⟨lw_p6, List.forall_mem_cons.mpr ⟨lw_p7, List.forall_mem_cons.mpr ⟨lw_p8, List.forall_mem_cons.mpr ⟨lw_p9, List.forall_mem_cons.mpr ⟨lw_p10, List.forall_mem_cons.mpr ⟨lw_p11, List.forall_mem_cons.mpr ⟨lw_p12, List.forall_mem_cons.mpr ⟨lw_p13, List.forall_mem_cons.mpr ⟨lw_p14, List.forall_mem_cons.mpr ⟨lw_p15, fun _ h => absurd h List.not_mem_nil⟩⟩⟩⟩⟩⟩⟩⟩⟩⟩⟩⟩⟩⟩⟩⟩
theorem lw_p16 : lw_okq (⟨"LiquidChecker$Walk", "followFrom", "(I[LLiquidChecker$Function;LLiquidChecker$Function;)V"⟩, 11) := ⟨⟨by decide +kernel, by decide +kernel⟩, List.mem_of_getElem? (i := 30) (by decide +kernel), List.mem_of_getElem? (i := 433) (by decide +kernel), List.mem_of_getElem? (i := 434) (by decide +kernel)⟩
theorem lw_p17 : lw_okq (⟨"LiquidChecker$Walk", "comeTo", "(I)V"⟩, 11) := ⟨⟨by decide +kernel, by decide +kernel⟩, List.mem_of_getElem? (i := 30) (by decide +kernel), List.mem_of_getElem? (i := 437) (by decide +kernel), List.mem_of_getElem? (i := 438) (by decide +kernel)⟩
theorem lw_p18 : lw_okq (⟨"LiquidChecker$Known", "bound", "(II)I"⟩, 2) := ⟨⟨by decide +kernel, by decide +kernel⟩, List.mem_of_getElem? (i := 36) (by decide +kernel), List.mem_of_getElem? (i := 441) (by decide +kernel), List.mem_of_getElem? (i := 442) (by decide +kernel)⟩
theorem lw_p19 : lw_okq (⟨"LiquidChecker$Walk", "endAt", "(ILLiquidChecker$Function;II)V"⟩, 11) := ⟨⟨by decide +kernel, by decide +kernel⟩, List.mem_of_getElem? (i := 30) (by decide +kernel), List.mem_of_getElem? (i := 448) (by decide +kernel), List.mem_of_getElem? (i := 449) (by decide +kernel)⟩
theorem lw_p20 : lw_okq (⟨"LiquidChecker$Known", "give", "(III)V"⟩, 2) := ⟨⟨by decide +kernel, by decide +kernel⟩, List.mem_of_getElem? (i := 36) (by decide +kernel), List.mem_of_getElem? (i := 452) (by decide +kernel), List.mem_of_getElem? (i := 453) (by decide +kernel)⟩
theorem lw_p21 : lw_okq (⟨"LiquidChecker$Relations", "shownBy", "(LLiquidChecker$Known;II)Z"⟩, 4) := ⟨⟨by decide +kernel, by decide +kernel⟩, List.mem_of_getElem? (i := 97) (by decide +kernel), List.mem_of_getElem? (i := 459) (by decide +kernel), List.mem_of_getElem? (i := 460) (by decide +kernel)⟩
theorem lw_p22 : lw_okq (⟨"LiquidChecker$Known", "shows", "(III)Z"⟩, 2) := ⟨⟨by decide +kernel, by decide +kernel⟩, List.mem_of_getElem? (i := 36) (by decide +kernel), List.mem_of_getElem? (i := 463) (by decide +kernel), List.mem_of_getElem? (i := 464) (by decide +kernel)⟩
theorem lw_p23 : lw_okq (⟨"LiquidChecker$Walk", "noteShown", "(IZ)V"⟩, 11) := ⟨⟨by decide +kernel, by decide +kernel⟩, List.mem_of_getElem? (i := 30) (by decide +kernel), List.mem_of_getElem? (i := 467) (by decide +kernel), List.mem_of_getElem? (i := 468) (by decide +kernel)⟩
theorem lw_p24 : lw_okq (⟨"LiquidChecker$Walk", "pass", "(I[LLiquidChecker$Function;LLiquidChecker$Function;)I"⟩, 11) := ⟨⟨by decide +kernel, by decide +kernel⟩, List.mem_of_getElem? (i := 30) (by decide +kernel), List.mem_of_getElem? (i := 471) (by decide +kernel), List.mem_of_getElem? (i := 472) (by decide +kernel)⟩
theorem lw_p25 : lw_okq (⟨"LiquidChecker$Walk", "passCall", "(ILLiquidChecker$Statement;LLiquidChecker$Function;)V"⟩, 11) := ⟨⟨by decide +kernel, by decide +kernel⟩, List.mem_of_getElem? (i := 30) (by decide +kernel), List.mem_of_getElem? (i := 475) (by decide +kernel), List.mem_of_getElem? (i := 476) (by decide +kernel)⟩
theorem lw_p26 : lw_okq (⟨"LiquidChecker$Known", "forget", "(I)V"⟩, 2) := ⟨⟨by decide +kernel, by decide +kernel⟩, List.mem_of_getElem? (i := 36) (by decide +kernel), List.mem_of_getElem? (i := 479) (by decide +kernel), List.mem_of_getElem? (i := 480) (by decide +kernel)⟩
theorem lw_p27 : lw_okq (⟨"LiquidChecker$Function", "targetOf", "(LLiquidChecker$Statement;)I"⟩, 8) := ⟨⟨by decide +kernel, by decide +kernel⟩, List.mem_of_getElem? (i := 91) (by decide +kernel), List.mem_of_getElem? (i := 483) (by decide +kernel), List.mem_of_getElem? (i := 484) (by decide +kernel)⟩
theorem lw_p28 : lw_okq (⟨"LiquidChecker$Walk", "leaveOtherSide", "(LLiquidChecker$Statement;I)V"⟩, 11) := ⟨⟨by decide +kernel, by decide +kernel⟩, List.mem_of_getElem? (i := 30) (by decide +kernel), List.mem_of_getElem? (i := 487) (by decide +kernel), List.mem_of_getElem? (i := 488) (by decide +kernel)⟩
theorem lw_p29 : lw_okq (⟨"LiquidChecker$Known", "copyFrom", "(LLiquidChecker$Known;)V"⟩, 2) := ⟨⟨by decide +kernel, by decide +kernel⟩, List.mem_of_getElem? (i := 36) (by decide +kernel), List.mem_of_getElem? (i := 491) (by decide +kernel), List.mem_of_getElem? (i := 492) (by decide +kernel)⟩
theorem lw_p30 : lw_okq (⟨"LiquidChecker$Walk", "takeWaitingSide", "()I"⟩, 11) := ⟨⟨by decide +kernel, by decide +kernel⟩, List.mem_of_getElem? (i := 30) (by decide +kernel), List.mem_of_getElem? (i := 500) (by decide +kernel), List.mem_of_getElem? (i := 501) (by decide +kernel)⟩
theorem lw_p31 : lw_okq (⟨"LiquidChecker", "isPlace", "(II)Z"⟩, 3) := ⟨⟨by decide +kernel, by decide +kernel⟩, List.mem_of_getElem? (i := 20) (by decide +kernel), List.mem_of_getElem? (i := 518) (by decide +kernel), List.mem_of_getElem? (i := 519) (by decide +kernel)⟩
def lw_privs_2 : List (MethodName × Nat) := [(⟨"LiquidChecker$Walk", "followFrom", "(I[LLiquidChecker$Function;LLiquidChecker$Function;)V"⟩, 11), (⟨"LiquidChecker$Walk", "comeTo", "(I)V"⟩, 11), (⟨"LiquidChecker$Known", "bound", "(II)I"⟩, 2), (⟨"LiquidChecker$Walk", "endAt", "(ILLiquidChecker$Function;II)V"⟩, 11), (⟨"LiquidChecker$Known", "give", "(III)V"⟩, 2), (⟨"LiquidChecker$Relations", "shownBy", "(LLiquidChecker$Known;II)Z"⟩, 4), (⟨"LiquidChecker$Known", "shows", "(III)Z"⟩, 2), (⟨"LiquidChecker$Walk", "noteShown", "(IZ)V"⟩, 11), (⟨"LiquidChecker$Walk", "pass", "(I[LLiquidChecker$Function;LLiquidChecker$Function;)I"⟩, 11), (⟨"LiquidChecker$Walk", "passCall", "(ILLiquidChecker$Statement;LLiquidChecker$Function;)V"⟩, 11), (⟨"LiquidChecker$Known", "forget", "(I)V"⟩, 2), (⟨"LiquidChecker$Function", "targetOf", "(LLiquidChecker$Statement;)I"⟩, 8), (⟨"LiquidChecker$Walk", "leaveOtherSide", "(LLiquidChecker$Statement;I)V"⟩, 11), (⟨"LiquidChecker$Known", "copyFrom", "(LLiquidChecker$Known;)V"⟩, 2), (⟨"LiquidChecker$Walk", "takeWaitingSide", "()I"⟩, 11), (⟨"LiquidChecker", "isPlace", "(II)Z"⟩, 3)]
theorem lw_r2 : ∀ q ∈ lw_privs_2, lw_okq q := List.forall_mem_cons.mpr ⟨lw_p16, List.forall_mem_cons.mpr ⟨lw_p17, List.forall_mem_cons.mpr ⟨lw_p18, List.forall_mem_cons.mpr ⟨lw_p19, List.forall_mem_cons.mpr ⟨lw_p20, List.forall_mem_cons.mpr ⟨lw_p21, List.forall_mem_cons.mpr ⟨lw_p22, List.forall_mem_cons.mpr ⟨lw_p23, List.forall_mem_cons.mpr ⟨lw_p24, List.forall_mem_cons.mpr ⟨lw_p25, List.forall_mem_cons.mpr ⟨lw_p26, List.forall_mem_cons.mpr ⟨lw_p27, List.forall_mem_cons.mpr ⟨lw_p28, List.forall_mem_cons.mpr ⟨lw_p29, List.forall_mem_cons.mpr ⟨lw_p30, List.forall_mem_cons.mpr ⟨lw_p31, fun _ h => absurd h List.not_mem_nil⟩⟩⟩⟩⟩⟩⟩⟩⟩⟩⟩⟩⟩⟩⟩⟩
theorem lw_p32 : lw_okq (⟨"LiquidChecker$Walk", "cameTo", "(I)Z"⟩, 11) := ⟨⟨by decide +kernel, by decide +kernel⟩, List.mem_of_getElem? (i := 30) (by decide +kernel), List.mem_of_getElem? (i := 523) (by decide +kernel), List.mem_of_getElem? (i := 524) (by decide +kernel)⟩
theorem lw_p33 : lw_okq (⟨"LiquidCheckerModel", "raise", "(I)I"⟩, 29) := ⟨⟨by decide +kernel, by decide +kernel⟩, List.mem_of_getElem? (i := 588) (by decide +kernel), List.mem_of_getElem? (i := 698) (by decide +kernel), List.mem_of_getElem? (i := 699) (by decide +kernel)⟩
theorem lw_p34 : lw_okq (⟨"LiquidCheckerModel", "stands", "(IIIII)Z"⟩, 29) := ⟨⟨by decide +kernel, by decide +kernel⟩, List.mem_of_getElem? (i := 588) (by decide +kernel), List.mem_of_getElem? (i := 712) (by decide +kernel), List.mem_of_getElem? (i := 713) (by decide +kernel)⟩
theorem lw_p35 : lw_okq (⟨"LiquidCheckerModel", "given", "(II)Z"⟩, 29) := ⟨⟨by decide +kernel, by decide +kernel⟩, List.mem_of_getElem? (i := 588) (by decide +kernel), List.mem_of_getElem? (i := 716) (by decide +kernel), List.mem_of_getElem? (i := 717) (by decide +kernel)⟩
theorem lw_p36 : lw_okq (⟨"LiquidCheckerModel", "explore", "(I)V"⟩, 29) := ⟨⟨by decide +kernel, by decide +kernel⟩, List.mem_of_getElem? (i := 588) (by decide +kernel), List.mem_of_getElem? (i := 728) (by decide +kernel), List.mem_of_getElem? (i := 729) (by decide +kernel)⟩
theorem lw_p37 : lw_okq (⟨"LiquidCheckerModel", "walk", "(I)V"⟩, 29) := ⟨⟨by decide +kernel, by decide +kernel⟩, List.mem_of_getElem? (i := 588) (by decide +kernel), List.mem_of_getElem? (i := 732) (by decide +kernel), List.mem_of_getElem? (i := 733) (by decide +kernel)⟩
theorem lw_p38 : lw_okq (⟨"LiquidCheckerModel", "begin", "()V"⟩, 29) := ⟨⟨by decide +kernel, by decide +kernel⟩, List.mem_of_getElem? (i := 588) (by decide +kernel), List.mem_of_getElem? (i := 736) (by decide +kernel), List.mem_of_getElem? (i := 737) (by decide +kernel)⟩
theorem lw_p39 : lw_okq (⟨"LiquidCheckerModel", "knowAll", "(III)V"⟩, 29) := ⟨⟨by decide +kernel, by decide +kernel⟩, List.mem_of_getElem? (i := 588) (by decide +kernel), List.mem_of_getElem? (i := 741) (by decide +kernel), List.mem_of_getElem? (i := 742) (by decide +kernel)⟩
theorem lw_p40 : lw_okq (⟨"LiquidCheckerModel", "know", "(IIJ)V"⟩, 29) := ⟨⟨by decide +kernel, by decide +kernel⟩, List.mem_of_getElem? (i := 588) (by decide +kernel), List.mem_of_getElem? (i := 748) (by decide +kernel), List.mem_of_getElem? (i := 749) (by decide +kernel)⟩
theorem lw_p41 : lw_okq (⟨"LiquidCheckerModel", "look", "(I)V"⟩, 29) := ⟨⟨by decide +kernel, by decide +kernel⟩, List.mem_of_getElem? (i := 588) (by decide +kernel), List.mem_of_getElem? (i := 752) (by decide +kernel), List.mem_of_getElem? (i := 753) (by decide +kernel)⟩
theorem lw_p42 : lw_okq (⟨"LiquidCheckerModel", "returns", "(III)V"⟩, 29) := ⟨⟨by decide +kernel, by decide +kernel⟩, List.mem_of_getElem? (i := 588) (by decide +kernel), List.mem_of_getElem? (i := 756) (by decide +kernel), List.mem_of_getElem? (i := 757) (by decide +kernel)⟩
theorem lw_p43 : lw_okq (⟨"LiquidCheckerModel", "showsAll", "(III)Z"⟩, 29) := ⟨⟨by decide +kernel, by decide +kernel⟩, List.mem_of_getElem? (i := 588) (by decide +kernel), List.mem_of_getElem? (i := 760) (by decide +kernel), List.mem_of_getElem? (i := 761) (by decide +kernel)⟩
theorem lw_p44 : lw_okq (⟨"LiquidCheckerModel", "shows", "(IIJ)Z"⟩, 29) := ⟨⟨by decide +kernel, by decide +kernel⟩, List.mem_of_getElem? (i := 588) (by decide +kernel), List.mem_of_getElem? (i := 764) (by decide +kernel), List.mem_of_getElem? (i := 765) (by decide +kernel)⟩
theorem lw_p45 : lw_okq (⟨"LiquidCheckerModel", "blame", "(I)V"⟩, 29) := ⟨⟨by decide +kernel, by decide +kernel⟩, List.mem_of_getElem? (i := 588) (by decide +kernel), List.mem_of_getElem? (i := 768) (by decide +kernel), List.mem_of_getElem? (i := 769) (by decide +kernel)⟩
theorem lw_p46 : lw_okq (⟨"LiquidCheckerModel", "perform", "(II)I"⟩, 29) := ⟨⟨by decide +kernel, by decide +kernel⟩, List.mem_of_getElem? (i := 588) (by decide +kernel), List.mem_of_getElem? (i := 772) (by decide +kernel), List.mem_of_getElem? (i := 773) (by decide +kernel)⟩
theorem lw_p47 : lw_okq (⟨"LiquidCheckerModel", "rename", "(I)V"⟩, 29) := ⟨⟨by decide +kernel, by decide +kernel⟩, List.mem_of_getElem? (i := 588) (by decide +kernel), List.mem_of_getElem? (i := 776) (by decide +kernel), List.mem_of_getElem? (i := 777) (by decide +kernel)⟩
def lw_privs_3 : List (MethodName × Nat) := [(⟨"LiquidChecker$Walk", "cameTo", "(I)Z"⟩, 11), (⟨"LiquidCheckerModel", "raise", "(I)I"⟩, 29), (⟨"LiquidCheckerModel", "stands", "(IIIII)Z"⟩, 29), (⟨"LiquidCheckerModel", "given", "(II)Z"⟩, 29), (⟨"LiquidCheckerModel", "explore", "(I)V"⟩, 29), (⟨"LiquidCheckerModel", "walk", "(I)V"⟩, 29), (⟨"LiquidCheckerModel", "begin", "()V"⟩, 29), (⟨"LiquidCheckerModel", "knowAll", "(III)V"⟩, 29), (⟨"LiquidCheckerModel", "know", "(IIJ)V"⟩, 29), (⟨"LiquidCheckerModel", "look", "(I)V"⟩, 29), (⟨"LiquidCheckerModel", "returns", "(III)V"⟩, 29), (⟨"LiquidCheckerModel", "showsAll", "(III)Z"⟩, 29), (⟨"LiquidCheckerModel", "shows", "(IIJ)Z"⟩, 29), (⟨"LiquidCheckerModel", "blame", "(I)V"⟩, 29), (⟨"LiquidCheckerModel", "perform", "(II)I"⟩, 29), (⟨"LiquidCheckerModel", "rename", "(I)V"⟩, 29)]
theorem lw_r3 : ∀ q ∈ lw_privs_3, lw_okq q := List.forall_mem_cons.mpr ⟨lw_p32, List.forall_mem_cons.mpr ⟨lw_p33, List.forall_mem_cons.mpr ⟨lw_p34, List.forall_mem_cons.mpr ⟨lw_p35, List.forall_mem_cons.mpr ⟨lw_p36, List.forall_mem_cons.mpr ⟨lw_p37, List.forall_mem_cons.mpr ⟨lw_p38, List.forall_mem_cons.mpr ⟨lw_p39, List.forall_mem_cons.mpr ⟨lw_p40, List.forall_mem_cons.mpr ⟨lw_p41, List.forall_mem_cons.mpr ⟨lw_p42, List.forall_mem_cons.mpr ⟨lw_p43, List.forall_mem_cons.mpr ⟨lw_p44, List.forall_mem_cons.mpr ⟨lw_p45, List.forall_mem_cons.mpr ⟨lw_p46, List.forall_mem_cons.mpr ⟨lw_p47, fun _ h => absurd h List.not_mem_nil⟩⟩⟩⟩⟩⟩⟩⟩⟩⟩⟩⟩⟩⟩⟩⟩
theorem lw_p48 : lw_okq (⟨"LiquidCheckerModel", "forget", "(I)V"⟩, 29) := ⟨⟨by decide +kernel, by decide +kernel⟩, List.mem_of_getElem? (i := 588) (by decide +kernel), List.mem_of_getElem? (i := 780) (by decide +kernel), List.mem_of_getElem? (i := 781) (by decide +kernel)⟩
theorem lw_p49 : lw_okq (⟨"LiquidCheckerModel", "call", "(II)V"⟩, 29) := ⟨⟨by decide +kernel, by decide +kernel⟩, List.mem_of_getElem? (i := 588) (by decide +kernel), List.mem_of_getElem? (i := 784) (by decide +kernel), List.mem_of_getElem? (i := 785) (by decide +kernel)⟩
theorem lw_p50 : lw_okq (⟨"LiquidCheckerModel", "noPlace", "(II)Z"⟩, 29) := ⟨⟨by decide +kernel, by decide +kernel⟩, List.mem_of_getElem? (i := 588) (by decide +kernel), List.mem_of_getElem? (i := 796) (by decide +kernel), List.mem_of_getElem? (i := 797) (by decide +kernel)⟩
def lw_privs_4 : List (MethodName × Nat) := [(⟨"LiquidCheckerModel", "forget", "(I)V"⟩, 29), (⟨"LiquidCheckerModel", "call", "(II)V"⟩, 29), (⟨"LiquidCheckerModel", "noPlace", "(II)Z"⟩, 29)]
theorem lw_r4 : ∀ q ∈ lw_privs_4, lw_okq q := List.forall_mem_cons.mpr ⟨lw_p48, List.forall_mem_cons.mpr ⟨lw_p49, List.forall_mem_cons.mpr ⟨lw_p50, fun _ h => absurd h List.not_mem_nil⟩⟩⟩
def lw_privs : List (MethodName × Nat) := lw_privs_1 ++ (lw_privs_2 ++ (lw_privs_3 ++ (lw_privs_4)))
def lw_tbl : List Cond := k2_sels lw_privs ++ tables_1
theorem lw_privs_ok : ∀ q ∈ lw_privs, lw_okq q := by
  show ∀ q ∈ lw_privs_1 ++ (lw_privs_2 ++ (lw_privs_3 ++ (lw_privs_4))), lw_okq q
  exact List.forall_mem_append.mpr ⟨lw_r1, List.forall_mem_append.mpr ⟨lw_r2, List.forall_mem_append.mpr ⟨lw_r3, lw_r4⟩⟩⟩
end
section
/-! ===== BEGIN words of one list among another's, by their places ===== -/
theorem goodIn_r {big : List Cond} (ws : List Cond) (ps : List Nat) (hp : ws = ps.filterMap (fun i => big[i]?)) (h : ws.all goodWord = true) : GoodIn big ws := by
  intro w hw
  have h1 := List.all_eq_true.mp h w hw
  rw [hp] at hw
  obtain ⟨i, -, hi⟩ := List.mem_filterMap.mp hw
  have hm : w ∈ big := by first | exact List.mem_of_getElem? hi | exact List.getElem?_mem hi
  exact ⟨hm, good_of_word h1⟩
theorem goodIn_app {big a b : List Cond} (ha : GoodIn big a) (hb : GoodIn big b) : GoodIn big (a ++ b) := fun w h => (List.mem_append.mp h).elim (ha w) (hb w)
theorem goodIn_ca {big a b : List Cond} {c : Cond} (ha : GoodIn big (c :: a)) (hb : GoodIn big b) : GoodIn big (c :: (a ++ b)) := fun w h => (List.mem_cons.mp h).elim (fun e => ha w (List.mem_cons.mpr (Or.inl e))) (fun h => (List.mem_append.mp h).elim (fun h => ha w (List.mem_cons.mpr (Or.inr h))) (hb w))
theorem goodIn_sub {big ws : List Cond} (hm : ∀ w ∈ ws, w ∈ big) (h : ws.all goodWord = true) : GoodIn big ws := fun w hw => ⟨hm w hw, good_of_word (List.all_eq_true.mp h w hw)⟩
/-! ===== END ===== -/

/-! ===== BEGIN exceptions that leave a method, and their catching by the caller (launches without stack traces) ===== -/
section VXA
/-! The laws vx_back, vx_callV, vx_callS, vx_callSW, vx_throw0, vx_throwS follow proofs of the library, with one case more: JvmDerived/Free/Laws.lean (Back.of_free), Shelf42/LK1.lean (callV, callS), Shelf/KitTraced.lean (throwNew0V, throwNewS). -/
/-- where a method has thrown q: the class by its name, the cell, what was written, the world -/
def vx_T (XC : String → State → State → Prop) (st : State) (q : Addr) (t : State) (mc ms : Nat) (free : Addr → Prop) : Prop :=
  ∃ (E : String) (ce : Cell) (L : List Loc), XC E st t ∧ t.heap[q]? = some ce ∧ ce.vm = .none ∧ st.vm.findClass E = some ce.cls ∧ st.WarmedH t.vm ∧ st.sameButNew ({ t with vm := st.vm } : State) L mc ms ∧ ∀ z ∈ L, free z.base
def vx_Q (Qc : Array Value → State → Outcome → State → Prop) (XC : String → State → State → Prop) (mc ms : Nat) (free : Addr → Prop) : Array Value → State → Outcome → State → Prop := fun a st o t =>
  (Qc a st o t ∧ ∃ L, FrameEnd st o t L mc ms ∧ ∀ q ∈ L, free q.base) ∨ ∃ q, o = .threw q ∧ vx_T XC st q t mc ms free
/-- a callee that returns or throws -/
def vx_Met (l : Launch) (y : MethodName) (ws : List Cond) (rm : Room) (Pc : Array Value → State → Prop) (Qc : Array Value → State → Outcome → State → Prop) (XC : String → State → State → Prop) (mc ms : Nat) (free : Addr → Prop) : Prop :=
  MetFree l y (headSpec ws rm) Pc (fun _ _ _ _ _ => True) (vx_Q Qc XC mc ms free)
def vx_Post (XC : String → State → State → Prop) (mc ms : Nat) (free : Addr → Prop) : Pt → Array Value → Addr → Pt → Prop := fun A a q B =>
  ∃ (g : JFrame) (mk : MethodId) (t : State) (L : List Loc) (E : String) (ce : Cell), B.U.heap = t.heap ∧ B.U.vm = t.vm ∧ XC E (A.U.calling g mk a) t ∧ t.heap[q]? = some ce ∧ ce.vm = .none ∧ A.U.vm.findClass E = some ce.cls ∧ B.locs = A.locs ++ L ∧ (∀ z ∈ L, free z.base) ∧ B.cells = A.cells + mc ∧ B.slots = A.slots + ms
def vx_Back (l : Launch) (R : Room) (p : Program) (e : Env) (below : List Frame) (s : State) (sargs : Array Value) (y : MethodName) (len W9 : Nat)
    (Pre : Pt → Array Value → Prop) (Post : Pt → Array Value → Option Value → Pt → Prop) (PostX : Pt → Array Value → Addr → Pt → Prop) : Prop :=
  ∀ (m : MethodId) (meth : Method) (c : Code) (A : Pt) (g : JFrame) (ig : Instr) (mk : MethodId) (a : Array Value),
    Stand p l e R s m sargs below meth c A.U A.locs A.cells A.slots → g.method = m → g.locals.size = c.maxLocals → decode c.code g.pc = .ok (ig, len) →
    2 * g.monitorRoom + (g.stack.map fun v => v.category).sum ≤ W9 → A.U.methodNamed? y = some mk → Pre A a →
    (∃ (v : Option Value) (B : Pt), Stand p l e R s m sargs below meth c B.U B.locs B.cells B.slots ∧ Post A a v B ∧
      Steps p.tables e below (doInvoke e (A.U.setTop g) [] mk a).1 (B.U.setTop { g with pc := g.pc + len, stack := v.toList ++ g.stack })) ∨
    (∃ (q : Addr) (B : Pt), Stand p l e R s m sargs below meth c B.U B.locs B.cells B.slots ∧ PostX A a q B ∧
      Steps p.tables e below (doInvoke e (A.U.setTop g) [] mk a).1 ((B.U.setTop g).pushFrame (.throwing q)))
section Payer
variable {l : Launch} {R : Room} {p : Program} {e : Env} {below : List Frame} {s : State} {sargs : Array Value} {y : MethodName} {len W9 : Nat}
theorem vx_back {ws : List Cond} {rm : Room} {Pc : Array Value → State → Prop} {Qc : Array Value → State → Outcome → State → Prop} {XC : String → State → State → Prop} {mc ms : Nat} {free : Addr → Prop} {bytes : ByteArray} {maxL : Nat} {ret : Option FieldType}
    (hM : vx_Met l y ws rm Pc Qc XC mc ms free) (hblind : FrameBlind Pc) (hrc : rm.cells = mc) (hrs : rm.slots = ms)
    (hframes : rm.frames + 1 ≤ R.frames) (hlocals : W9 + (maxL + 11) + rm.locals ≤ R.locals)
    (hws : ∀ w ∈ ws, ∀ a' U, s.WarmedH U.vm → w.before a' U = true) (hcode : Cond.code y bytes maxL ret ∈ ws) (hinit : ∀ a' U, s.WarmedH U.vm → (Cond.initialized y.cls).before a' U = true) :
    vx_Back l R p e below s sargs y len W9 (PreOf R mc ms Pc) (PostOf Qc mc ms free) (vx_Post XC mc ms free) := by
  intro m meth c A g ig mk a X hg hsize hdg hW hn hp
  have h1 : (headSpec ws rm).pre.before a A.U = true := atoms_intro fun w hw => hws w hw _ _ X.warmed
  have h2 : (Cond.code y bytes maxL ret).before a A.U = true := hws _ hcode _ _ X.warmed
  have h3 : (Cond.initialized y.cls).before a A.U = true := hinit _ _ X.warmed
  have h4 : A.cells + (headSpec ws rm).room.cells ≤ R.cells := by rw [show (headSpec ws rm).room.cells = mc from hrc]; exact hp.1
  have h5 : A.slots + (headSpec ws rm).room.slots ≤ R.slots := by rw [show (headSpec ws rm).room.slots = ms from hrs]; exact hp.2.1
  have hPc : Pc a (A.U.calling g mk a) := hblind _ _ _ _ hp.2.2
  obtain ⟨U, Ls, c0, s0⟩ := A
  dsimp only [Pt.U, Pt.locs, Pt.cells, Pt.slots] at h1 h2 h3 h4 h5 X hn hPc ⊢
  obtain ⟨methY, cY, hmY, hcY, -, hlY, -, -, -, -⟩ := Cond.code_spec hn h2
  obtain ⟨kY, hkY, -⟩ := className_of_methodNamed hn
  have hinitY : kY.init = .initialized := Cond.initialized_spec (findClass_of_methodNamed hn) hkY h3
  have h : At U g.method c below := by rw [hg]; exact X.here
  have hlocals9 : W9 + (maxL + 11) + (headSpec ws rm).room.locals ≤ R.locals := hlocals
  have happ : (headSpec ws rm).appliesLoose y e.platform (U.calling g mk a) = true :=
    Spec.appliesLoose_calling (g := g) h hdg hn hkY hinitY
      (X.room_calling (g := g) (R' := (headSpec ws rm).room) hsize hmY hcY hframes (by rw [hlY]; omega) h4 h5) h1
  obtain ⟨mid, hmid⟩ := h.above
  have hfr : (U.setTop g).frames = (.java g :: mid) ++ below := by rw [State.frames_setTop' g h.top, hmid]; rfl
  obtain ⟨o, s₂, hsteps, -, hend, hq⟩ := Steps.callFree hM p X.admits X.cas X.clock (acts := []) hfr happ hPc trivial
  have hq' : vx_Q Qc XC mc ms free a (U.calling g mk a) o s₂ := hq
  rw [State.frames_setTop' g h.top] at hend
  obtain ⟨g₀, hg0⟩ := Option.isSome_iff_exists.mp h.top
  obtain ⟨r, hr⟩ := State.topJava?_eq_some.mp hg0
  have hr' : (({ U with heap := s₂.heap, slotsUsed := s₂.slotsUsed } : State).setVm s₂.vm).frames = .java g₀ :: r := hr
  rcases hq' with ⟨hqc, L, hfe, hL⟩ | ⟨q, rfl, E, ce, L, hx, hce, hcv, hcl, hW₂, hsm, hL⟩
  · obtain ⟨⟨v, rfl⟩, hW₂, e2, q2, q3, q4, q5, q6⟩ := id hfe
    have e3 : s₂ = ({ (U.calling g mk a).setFrames s₂.frames with heap := s₂.heap, slotsUsed := s₂.slotsUsed } : State).setVm s₂.vm := by
      have : s₂ = ({ s₂ with vm := (U.calling g mk a).vm } : State).setVm s₂.vm := rfl
      rw [e2] at this
      exact this
    obtain ⟨c₂, i₂, len₂, hc₂, hd₂, hf₂⟩ := hend
    have hW' : U.WarmedH s₂.vm := hW₂
    have hcc : c₂ = c := by
      have h1 : s₂.code? g.method = U.code? g.method := by
        rw [State.code?_eq, State.code?_eq, hW'.alike.method?]
      exact Option.some.inj (hc₂.symm.trans (h1.trans h.code))
    subst hcc
    have hlen : len₂ = len := by rw [hdg] at hd₂; cases hd₂; rfl
    subst hlen
    have hs₂ : s₂ = (({ U with heap := s₂.heap, slotsUsed := s₂.slotsUsed } : State).setVm s₂.vm).setTop { g with pc := g.pc + len₂, stack := v.toList ++ g.stack } := by
      refine e3.trans ?_
      rw [hf₂, State.calling_eq h.top, State.setFrames_setFrames, State.setTop_of_frames _ hr', hr]
      rfl
    have hsame : U.sameButNew ({ U with heap := s₂.heap, slotsUsed := s₂.slotsUsed } : State) L mc ms := by
      refine ⟨?_, q2, q3, q4, q5, q6⟩
      obtain ⟨t, ht, -⟩ := State.frames_cons hr
      show ({ U with heap := s₂.heap, slotsUsed := s₂.slotsUsed } : State) = { U.setFrames U.frames with heap := s₂.heap, slotsUsed := s₂.slotsUsed }
      rw [State.setFrames_self ht]
    subst hg
    refine Or.inl ⟨v, ⟨(({ U with heap := s₂.heap, slotsUsed := s₂.slotsUsed } : State).setVm s₂.vm), Ls ++ L, c0 + mc, s0 + ms⟩,
      ⟨X.admits, X.cas, X.clock, X.frames, X.room, X.hears, X.method, X.code, (X.here.setHeapUsed s₂.heap s₂.slotsUsed).setVm hW'.alike, X.tail, State.WarmedH.trans X.warmed hW', X.limits, X.bytes, X.same.trans (hsame.setVm s.vm)⟩,
      ⟨g, mk, s₂, L, rfl, rfl, hqc, rfl, hL, rfl, rfl⟩, ?_⟩
    show Steps p.tables e below _ ((({ U with heap := s₂.heap, slotsUsed := s₂.slotsUsed } : State).setVm s₂.vm).setTop { g with pc := g.pc + len₂, stack := v.toList ++ g.stack })
    rw [← hs₂]
    exact hsteps
  · obtain ⟨e2, q2, q3, q4, q5, q6⟩ := id hsm
    have e3 : s₂ = ({ (U.calling g mk a).setFrames s₂.frames with heap := s₂.heap, slotsUsed := s₂.slotsUsed } : State).setVm s₂.vm := by
      have : s₂ = ({ s₂ with vm := (U.calling g mk a).vm } : State).setVm s₂.vm := rfl
      rw [e2] at this
      exact this
    have hf₂ : s₂.frames = .throwing q :: .java g :: U.frames.tail := hend
    have hW' : U.WarmedH s₂.vm := hW₂
    have hs₂ : s₂ = ((({ U with heap := s₂.heap, slotsUsed := s₂.slotsUsed } : State).setVm s₂.vm).setTop g).pushFrame (.throwing q) := by
      refine e3.trans ?_
      rw [hf₂, State.calling_eq h.top, State.setFrames_setFrames, State.pushFrame, State.frames_setTop _ hr', State.setTop_of_frames _ hr', State.setFrames_setFrames, hr]
      rfl
    have hsame : U.sameButNew ({ U with heap := s₂.heap, slotsUsed := s₂.slotsUsed } : State) L mc ms := by
      refine ⟨?_, q2, q3, q4, q5, q6⟩
      obtain ⟨t, ht, -⟩ := State.frames_cons hr
      show ({ U with heap := s₂.heap, slotsUsed := s₂.slotsUsed } : State) = { U.setFrames U.frames with heap := s₂.heap, slotsUsed := s₂.slotsUsed }
      rw [State.setFrames_self ht]
    subst hg
    refine Or.inr ⟨q, ⟨(({ U with heap := s₂.heap, slotsUsed := s₂.slotsUsed } : State).setVm s₂.vm), Ls ++ L, c0 + mc, s0 + ms⟩,
      ⟨X.admits, X.cas, X.clock, X.frames, X.room, X.hears, X.method, X.code, (X.here.setHeapUsed s₂.heap s₂.slotsUsed).setVm hW'.alike, X.tail, State.WarmedH.trans X.warmed hW', X.limits, X.bytes, X.same.trans (hsame.setVm s.vm)⟩,
      ⟨g, mk, s₂, L, E, ce, rfl, rfl, hx, hce, hcv, hcl, rfl, hL, rfl, rfl⟩, ?_⟩
    show Steps p.tables e below _ (((({ U with heap := s₂.heap, slotsUsed := s₂.slotsUsed } : State).setVm s₂.vm).setTop g).pushFrame (.throwing q))
    rw [← hs₂]
    exact hsteps
end Payer
section Calls
variable {p : Program} {l : Launch} {e : Env} {R : Room} {s : State} {m : MethodId} {args : Array Value} {below : List Frame} {meth : Method} {c : Code} {T : State} {locs : List Loc} {cells slots : Nat}
theorem vx_callV (X : Stand p l e R s m args below meth c T locs cells slots) (hexec : p.tables.exec = Jvm.exec) {own C : String} {index : Nat} {y : MethodName} {bytes : ByteArray} {maxL : Nat} {ret : Option FieldType}
    (hown : s.vm.findClass own = some m.cls) (hlink : (Cond.methodLink own index y).before args s = true) (hinst : (Cond.instanceMethod y).before args s = true) (hsel : (Cond.selects C y y).before args s = true)
    (hcode : (Cond.code y bytes maxL ret).before args s = true) (hy : y.cls ≠ "java/lang/invoke/MethodHandle" ∧ y.cls ≠ "java/lang/invoke/VarHandle")
    {W9 : Nat} {Pre : Pt → Array Value → Prop} {Post : Pt → Array Value → Option Value → Pt → Prop} {PostX : Pt → Array Value → Addr → Pt → Prop} (hK : vx_Back l R p e below s args y 3 W9 Pre Post PostX)
    {b : Addr} {cellB : Cell} (hcell : T.heap[b]? = some cellB) (hobj : cellB.vm.isStatics = false) (hcls : s.vm.findClass C = some cellB.cls)
    {g : JFrame} (hg : g.method = m) (hsize : g.locals.size = c.maxLocals) {argsL rest : List Value} (hlen : ∀ sig, parseMethodDescriptor y.desc = some sig → argsL.length = sig.parameters.length)
    (hstack : g.stack = argsL.reverse ++ .ref b :: rest) (hW : 2 * g.monitorRoom + (rest.map fun v => v.category).sum ≤ W9) (hdg : decode c.code g.pc = .ok (.invokevirtual index, 3))
    (hpre : ∀ vm₁, s.WarmedH vm₁ → Pre ⟨T.setVm vm₁, locs, cells, slots⟩ (Value.ref b :: argsL).toArray) :
    (∃ (v : Option Value) (vm₁ : Vm) (B : Pt), s.WarmedH vm₁ ∧ Stand p l e R s m args below meth c B.U B.locs B.cells B.slots ∧ Post ⟨T.setVm vm₁, locs, cells, slots⟩ (Value.ref b :: argsL).toArray v B ∧
      ∀ target, Steps p.tables e below (B.U.setTop { g with pc := g.pc + 3, stack := v.toList ++ rest }) target → Steps p.tables e below (T.setTop g) target) ∨
    (∃ (q : Addr) (vm₁ : Vm) (B : Pt), s.WarmedH vm₁ ∧ Stand p l e R s m args below meth c B.U B.locs B.cells B.slots ∧ PostX ⟨T.setVm vm₁, locs, cells, slots⟩ (Value.ref b :: argsL).toArray q B ∧
      Steps p.tables e below (T.setTop g) ((B.U.setTop { g with stack := rest }).pushFrame (.throwing q))) := by
  obtain ⟨mk, methM, hnamed, hmethM, hstM, habM⟩ := Cond.instanceMethod_spec hinst
  obtain ⟨methM', cM, hmethM', -, -, -, -, -, -, hsigM⟩ := Cond.code_spec hnamed hcode
  cases hmethM.symm.trans hmethM'
  obtain ⟨c2, r2, m2, q1, q2, q3, q4, kP, hkP, hkPi⟩ := Cond.selects_spec hsel
  cases hcls.symm.trans q1
  cases (State.methodFound?_of_named hnamed hy).symm.trans q2
  cases hnamed.symm.trans q3
  have hselP : selectMethod e.platform s.vm cellB.cls mk = .method mk := by rw [Launch.admits_selectMethod X.admits]; exact q4
  obtain ⟨vm₁, X₁, hstep₁⟩ := X.invokevirtual hexec hown hlink hnamed hmethM hstM hkP hkPi hy (a := b) (cell := cellB) hcell
    (fun z h => by rw [h] at hobj; cases hobj) hselP hmethM habM hkP hkPi (g := g) hg (argsL := argsL) (rest := rest) (hlen _ hsigM) hstack hdg
  rcases hK m meth c ⟨T.setVm vm₁, locs, cells, slots⟩ { g with stack := rest } (.invokevirtual index) mk (Value.ref b :: argsL).toArray X₁ hg hsize hdg hW (X₁.named hnamed) (hpre vm₁ X₁.warmed) with ⟨v, B, X', hpost, hsteps⟩ | ⟨q, B, X', hpost, hsteps⟩
  · exact Or.inl ⟨v, vm₁, B, X₁.warmed, X', hpost, fun target h => hstep₁ _ fun acts => by rw [doInvoke_state]; exact hsteps.trans h⟩
  · exact Or.inr ⟨q, vm₁, B, X₁.warmed, X', hpost, hstep₁ _ fun acts => by rw [doInvoke_state]; exact hsteps⟩
theorem vx_callS (X : Stand p l e R s m args below meth c T locs cells slots) (hexec : p.tables.exec = Jvm.exec) {own : String} {index : Nat} {y : MethodName} {bytes : ByteArray} {maxL : Nat} {ret : Option FieldType}
    (hown : s.vm.findClass own = some m.cls) (hlink : (Cond.methodLink own index y).before args s = true) (hstat : (Cond.static y).before args s = true) (hinit : (Cond.initialized y.cls).before args s = true)
    (hcode : (Cond.code y bytes maxL ret).before args s = true) (hy : y.cls ≠ "java/lang/invoke/MethodHandle" ∧ y.cls ≠ "java/lang/invoke/VarHandle")
    {W9 : Nat} {Pre : Pt → Array Value → Prop} {Post : Pt → Array Value → Option Value → Pt → Prop} {PostX : Pt → Array Value → Addr → Pt → Prop} (hK : vx_Back l R p e below s args y 3 W9 Pre Post PostX)
    {g : JFrame} (hg : g.method = m) (hsize : g.locals.size = c.maxLocals) {argsL rest : List Value} (hlen : ∀ sig, parseMethodDescriptor y.desc = some sig → argsL.length = sig.parameters.length)
    (hstack : g.stack = argsL.reverse ++ rest) (hW : 2 * g.monitorRoom + (rest.map fun v => v.category).sum ≤ W9) (hdg : decode c.code g.pc = .ok (.invokestatic index, 3))
    (hpre : ∀ vm₁, s.WarmedH vm₁ → Pre ⟨T.setVm vm₁, locs, cells, slots⟩ argsL.toArray) :
    (∃ (v : Option Value) (vm₁ : Vm) (B : Pt), s.WarmedH vm₁ ∧ Stand p l e R s m args below meth c B.U B.locs B.cells B.slots ∧ Post ⟨T.setVm vm₁, locs, cells, slots⟩ argsL.toArray v B ∧
      ∀ target, Steps p.tables e below (B.U.setTop { g with pc := g.pc + 3, stack := v.toList ++ rest }) target → Steps p.tables e below (T.setTop g) target) ∨
    (∃ (q : Addr) (vm₁ : Vm) (B : Pt), s.WarmedH vm₁ ∧ Stand p l e R s m args below meth c B.U B.locs B.cells B.slots ∧ PostX ⟨T.setVm vm₁, locs, cells, slots⟩ argsL.toArray q B ∧
      Steps p.tables e below (T.setTop g) ((B.U.setTop { g with stack := rest }).pushFrame (.throwing q))) := by
  obtain ⟨mk, hnamed⟩ := Cond.code_named hcode
  obtain ⟨methM, cM, hmethM, -, -, -, -, -, -, hsigM⟩ := Cond.code_spec hnamed hcode
  have hstatic : methM.isStatic = true := Cond.static_spec hnamed hmethM hstat
  obtain ⟨kP, hkP, -⟩ := className_of_methodNamed hnamed
  have hinitP : kP.init = .initialized := Cond.initialized_spec (findClass_of_methodNamed hnamed) hkP hinit
  obtain ⟨vm₁, X₁, hstep₁⟩ := X.invokestatic hexec hown hlink hnamed hmethM hstatic hkP hinitP hy (g := g) hg (argsL := argsL) (rest := rest) (hlen _ hsigM) hstack hdg
  rcases hK m meth c ⟨T.setVm vm₁, locs, cells, slots⟩ { g with stack := rest } (.invokestatic index) mk argsL.toArray X₁ hg hsize hdg hW (X₁.named hnamed) (hpre vm₁ X₁.warmed) with ⟨v, B, X', hpost, hsteps⟩ | ⟨q, B, X', hpost, hsteps⟩
  · exact Or.inl ⟨v, vm₁, B, X₁.warmed, X', hpost, fun target h => hstep₁ _ fun acts => by rw [doInvoke_state]; exact hsteps.trans h⟩
  · exact Or.inr ⟨q, vm₁, B, X₁.warmed, X', hpost, hstep₁ _ fun acts => by rw [doInvoke_state]; exact hsteps⟩
end Calls
theorem vx_cls {s : State} {T : State} {vm₁ : Vm} {E : String} {k : ClassId} (hW : s.WarmedH vm₁) (h : (T.setVm vm₁).vm.findClass E = some k) : s.vm.findClass E = some k := by
  have h1 : vm₁.findClass E = some k := h
  rw [hW.alike.findClass] at h1
  exact h1
/-- the method's frame g, with q thrown over it -/
def vx_W (p : Program) (l : Launch) (e : Env) (R : Room) (s : State) (m : MethodId) (args : Array Value) (below : List Frame) (meth : Method) (c : Code) (H : Heap) (locs : List Loc) (cells slots : Nat) (Q : State → Prop) (g : JFrame) (q : Addr) : Prop :=
  ∀ T : State, T.heap = H → Stand p l e R s m args below meth c T locs cells slots → ∃ t, Steps p.tables e below ((T.setTop g).pushFrame (.throwing q)) t ∧ Q t
def vx_Run (p : Program) (l : Launch) (e : Env) (R : Room) (s : State) (m : MethodId) (args : Array Value) (below : List Frame) (meth : Method) (c : Code) (H : Heap) (locs : List Loc) (cells slots mc ms : Nat) (g : JFrame) (rest : List Value) (Qa : State → Outcome → State → Prop) (XC : String → State → State → Prop) (free : Addr → Prop) : Prop :=
  ∀ T : State, T.heap = H → Stand p l e R s m args below meth c T locs cells slots →
    (∃ (v : Option Value) (st₀ t T' : State) (L : List Loc), st₀.heap = H ∧ Stand p l e R s m args below meth c T' (locs ++ L) (cells + mc) (slots + ms) ∧ (∀ q ∈ L, free q.base) ∧ T'.heap = t.heap ∧ T'.vm = t.vm ∧ Qa st₀ (.returned v) t ∧
      Goes p e below T g T' { g with pc := g.pc + 3, stack := v.toList ++ rest }) ∨
    (∃ (q : Addr) (st₀ t T' : State) (L : List Loc) (E : String) (ce : Cell), st₀.heap = H ∧ Stand p l e R s m args below meth c T' (locs ++ L) (cells + mc) (slots + ms) ∧ (∀ z ∈ L, free z.base) ∧ T'.heap = t.heap ∧ T'.vm = t.vm ∧ XC E st₀ t ∧ t.heap[q]? = some ce ∧ ce.vm = .none ∧ s.vm.findClass E = some ce.cls ∧
      Steps p.tables e below (T.setTop g) ((T'.setTop { g with stack := rest }).pushFrame (.throwing q)))
def vx_X {S : Type} (px : S → Prop) (B : String → S → State → Prop) (A : Nat → Prop) : String → State → State → Prop := fun E st t => ∃ u : S, px u ∧ B E u t ∧ va_F A st t
section Runs
variable {p : Program} {l : Launch} {e : Env} {R : Room} {s : State} {m : MethodId} {args : Array Value} {below : List Frame} {meth : Method} {c : Code} {H : Heap} {locs : List Loc} {cells slots : Nat}
variable {y : MethodName} {bytes cc : ByteArray} {maxL nL mc ms n index : Nat} {ret : Option FieldType} {ws : List Cond} {rm : Room} {Pc : Array Value → State → Prop} {Qc : Array Value → State → Outcome → State → Prop} {XC : String → State → State → Prop} {free : Addr → Prop} {Ts : List Cond} {own C : String} {b : Addr} {As rest : List Value} {g : JFrame}
theorem vx_callBack (cb : CallB R s args own index y bytes maxL ret ws rm mc ms n) (hM : vx_Met l y ws rm Pc Qc XC mc ms free) (hbl : FrameBlind Pc) : vx_Back l R p e below s args y 3 8 (PreOf R mc ms Pc) (PostOf Qc mc ms free) (vx_Post XC mc ms free) := by
  obtain ⟨hrc, hrs, hfr, hlo, hws, hcw, -, hini, -⟩ := cb
  exact vx_back (bytes := bytes) (maxL := maxL) (ret := ret) hM hbl hrc hrs hfr hlo hws hcw (fun a' U hW => word_at hW (Or.inl (by first | rfl | simp [Cond.onTables, Cond.keeps, Cond.steady])) hini)
theorem vx_runV (S : CallFix p m c cc nL s args Ts own) (hM : vx_Met l y ws rm Pc Qc XC mc ms free) (cw : CallW R s args own C index y bytes maxL ret ws rm mc ms n) (hp : PreV s H C b Pc As)
    (hg : g.method = m) (hn : As.length = n) (hsize : g.locals.size = nL) (hstack : g.stack = As.reverse ++ .ref b :: rest) (hW : 2 * g.monitorRoom + (rest.map fun v => v.category).sum ≤ 8) (hdg : decode cc g.pc = .ok (.invokevirtual index, 3)) (hf : cells + mc ≤ R.cells ∧ slots + ms ≤ R.slots) :
    vx_Run p l e R s m args below meth c H locs cells slots mc ms g rest (Qc (Value.ref b :: As).toArray) XC free := by
  have hK : vx_Back l R p e below s args y 3 8 (PreOf R mc ms Pc) (PostOf Qc mc ms free) (vx_Post XC mc ms free) := vx_callBack cw.1 hM hp.1
  obtain ⟨⟨-, -, -, -, -, -, hcode, -, hy, hlen, hl⟩, hin, hse⟩ := cw
  obtain ⟨hx, hb, hml, ho, -⟩ := S
  obtain ⟨-, ⟨cellB, hcB, hoB, hclB⟩, hPc⟩ := hp
  intro T hT X
  rcases vx_callV X hx (C := C) (bytes := bytes) (maxL := maxL) (ret := ret) ho hl hin hse hcode hy hK (by rw [hT]; exact hcB) hoB hclB hg (hsize.trans hml.symm) (argsL := As) (rest := rest) (fun sig h => hn.trans (hlen sig h)) hstack hW (by rw [hb]; exact hdg)
    (fun vm₁ hW₁ => ⟨hf.1, hf.2, hPc (T.setVm vm₁) hT hW₁⟩) with ⟨v, vm₁, ⟨U', l2, c2, s2⟩, hW₁, X', ⟨g', mk, t, L, e1, e2, hq, h1, hL, h2, h3⟩, st⟩ | ⟨q, vm₁, ⟨U', l2, c2, s2⟩, hW₁, X', ⟨g', mk, t, L, E, ce, e1, e2, hq, hce, hcv, hcl, h1, hL, h2, h3⟩, st⟩
  · dsimp only [Pt.U, Pt.locs, Pt.cells, Pt.slots] at X' e1 e2 h1 h2 h3 st
    subst h1; subst h2; subst h3
    exact Or.inl ⟨v, (T.setVm vm₁).calling g' mk (Value.ref b :: As).toArray, t, U', L, hT, X', hL, e1, e2, hq, st⟩
  · dsimp only [Pt.U, Pt.locs, Pt.cells, Pt.slots] at X' e1 e2 h1 h2 h3 st hcl
    subst h1; subst h2; subst h3
    exact Or.inr ⟨q, (T.setVm vm₁).calling g' mk (Value.ref b :: As).toArray, t, U', L, E, ce, hT, X', hL, e1, e2, hq, hce, hcv, vx_cls hW₁ hcl, st⟩
theorem vx_runS (S : CallFix p m c cc nL s args Ts own) (hM : vx_Met l y ws rm Pc Qc XC mc ms free) (cw : CallB R s args own index y bytes maxL ret ws rm mc ms n ∧ (Cond.static y).before args s = true) (hp : PreS s H Pc As)
    (hg : g.method = m) (hn : As.length = n) (hsize : g.locals.size = nL) (hstack : g.stack = As.reverse ++ rest) (hW : 2 * g.monitorRoom + (rest.map fun v => v.category).sum ≤ 8) (hdg : decode cc g.pc = .ok (.invokestatic index, 3)) (hf : cells + mc ≤ R.cells ∧ slots + ms ≤ R.slots) :
    vx_Run p l e R s m args below meth c H locs cells slots mc ms g rest (Qc As.toArray) XC free := by
  have hK : vx_Back l R p e below s args y 3 8 (PreOf R mc ms Pc) (PostOf Qc mc ms free) (vx_Post XC mc ms free) := vx_callBack cw.1 hM hp.1
  obtain ⟨⟨-, -, -, -, -, -, hcode, hini, hy, hlen, hl⟩, hstt⟩ := cw
  obtain ⟨hx, hb, hml, ho, -⟩ := S
  intro T hT X
  rcases vx_callS X hx (bytes := bytes) (maxL := maxL) (ret := ret) ho hl hstt hini hcode hy hK hg (hsize.trans hml.symm) (argsL := As) (rest := rest) (fun sig h => hn.trans (hlen sig h)) hstack hW (by rw [hb]; exact hdg)
    (fun vm₁ hW₁ => ⟨hf.1, hf.2, hp.2 (T.setVm vm₁) hT hW₁⟩) with ⟨v, vm₁, ⟨U', l2, c2, s2⟩, hW₁, X', ⟨g', mk, t, L, e1, e2, hq, h1, hL, h2, h3⟩, st⟩ | ⟨q, vm₁, ⟨U', l2, c2, s2⟩, hW₁, X', ⟨g', mk, t, L, E, ce, e1, e2, hq, hce, hcv, hcl, h1, hL, h2, h3⟩, st⟩
  · dsimp only [Pt.U, Pt.locs, Pt.cells, Pt.slots] at X' e1 e2 h1 h2 h3 st
    subst h1; subst h2; subst h3
    exact Or.inl ⟨v, (T.setVm vm₁).calling g' mk As.toArray, t, U', L, hT, X', hL, e1, e2, hq, st⟩
  · dsimp only [Pt.U, Pt.locs, Pt.cells, Pt.slots] at X' e1 e2 h1 h2 h3 st hcl
    subst h1; subst h2; subst h3
    exact Or.inr ⟨q, (T.setVm vm₁).calling g' mk As.toArray, t, U', L, E, ce, hT, X', hL, e1, e2, hq, hce, hcv, vx_cls hW₁ hcl, st⟩
end Runs
section Rows
variable {p : Program} {l : Launch} {e : Env} {R : Room} {s : State} {m : MethodId} {args : Array Value} {below : List Frame} {meth : Method} {c : Code} {H : Heap} {locs : List Loc} {cells slots : Nat} {Q : State → Prop}
variable {mc ms : Nat} {free : Addr → Prop} {A0 A1 : Nat → Prop} {H0 : Heap} {a : Array Value} {pc : Nat} {ls : Array Slot} {st0 rest : List Value}
theorem vx_keep {st₀ t T' : State} {L : List Loc} (h0 : st₀.heap = H) (e1 : T'.heap = t.heap) (hS : va_S A0 H0 H locs) (hA : ∀ q, q < H.size → A1 q → A0 q) (hf : ∀ q, free q → A0 q) (hL : ∀ q ∈ L, free q.base) (hF : va_F A1 st₀ t) :
    H.size ≤ T'.heap.size ∧ (∀ q : Nat, q < H.size → ¬ A1 q → T'.heap[q]? = H[q]?) ∧ va_S A0 H0 T'.heap (locs ++ L) := by
  obtain ⟨hz, hk⟩ := hF
  rw [h0] at hz hk
  exact ⟨by rw [e1]; exact hz, fun q h1 h2 => by rw [e1]; exact hk q h1 h2,
    ⟨Nat.le_trans hS.1 (by rw [e1]; exact hz), fun q h1 h2 => by rw [e1, hk q (Nat.lt_of_lt_of_le h1 hS.1) (fun z => h2 (hA q (Nat.lt_of_lt_of_le h1 hS.1) z))]; exact hS.2.1 q h1 h2, fun q hq => by
      rcases List.mem_append.mp hq with h | h
      · exact hS.2.2 q h
      · exact hf _ (hL q h)⟩⟩
theorem vx_calli {S SX : Type} {post : Int32 → S → Prop} {px : SX → Prop} {B : S → State → Prop} {BX : String → SX → State → Prop} {AX : Nat → Prop} (hr : vx_Run p l e R s m args below meth c H locs cells slots mc ms (F0 m pc ls st0) rest (va_Qi post B A1 a) (vx_X px BX AX) free) (hS : va_S A0 H0 H locs) (hA : ∀ q, q < H.size → A1 q → A0 q) (hf : ∀ q, free q → A0 q) (hAX : ∀ q, q < H.size → AX q → A0 q)
    (kx : ∀ (E : String) (ce : Cell) (q9 : Addr) (u : SX) (t : State) (H1 : Heap) (locs1 : List Loc), t.heap = H1 → s.vm.Alike t.vm → px u → BX E u t → H.size ≤ H1.size → (∀ q : Nat, q < H.size → ¬ AX q → H1[q]? = H[q]?) → va_S A0 H0 H1 locs1 → H1[q9]? = some ce → ce.vm = .none → s.vm.findClass E = some ce.cls → vx_W p l e R s m args below meth c H1 locs1 (cells + mc) (slots + ms) Q (F0 m pc ls rest) q9)
    (kk : ∀ (r : Int32) (u : S) (t : State) (H1 : Heap) (locs1 : List Loc), t.heap = H1 → s.vm.Alike t.vm → post r u → B u t → H.size ≤ H1.size → (∀ q : Nat, q < H.size → ¬ A1 q → H1[q]? = H[q]?) → va_S A0 H0 H1 locs1 → W p l e R s m args below meth c H1 locs1 (cells + mc) (slots + ms) Q (F0 m (pc + 3) ls (.int r :: rest))) : W p l e R s m args below meth c H locs cells slots Q (F0 m pc ls st0) := by
  intro T hT X
  rcases hr T hT X with ⟨v, st₀, t, T', L, h0, X', hL, e1, e2, ⟨⟨r, u, hv, hp, hb⟩, hF⟩, st⟩ | ⟨q, st₀, t, T', L, E, ce, h0, X', hL, e1, e2, ⟨u, hp, hb, hF⟩, hce, hcv, hcl, st⟩
  · cases hv
    obtain ⟨k1, k2, k3⟩ := vx_keep h0 e1 hS hA hf hL hF
    obtain ⟨t2, a1, b1⟩ := kk r u t T'.heap (locs ++ L) e1.symm (by rw [← e2]; exact X'.warmed.alike) hp hb k1 k2 k3 T' rfl X'
    exact ⟨t2, st t2 a1, b1⟩
  · obtain ⟨k1, k2, k3⟩ := vx_keep h0 e1 hS hAX hf hL hF
    obtain ⟨t2, a1, b1⟩ := kx E ce q u t T'.heap (locs ++ L) e1.symm (by rw [← e2]; exact X'.warmed.alike) hp hb k1 k2 k3 (by rw [e1]; exact hce) hcv hcl T' rfl X'
    exact ⟨t2, st.trans a1, b1⟩
theorem vx_calll {S SX : Type} {post : Int64 → S → Prop} {px : SX → Prop} {B : S → State → Prop} {BX : String → SX → State → Prop} {AX : Nat → Prop} (hr : vx_Run p l e R s m args below meth c H locs cells slots mc ms (F0 m pc ls st0) rest (va_Ql post B A1 a) (vx_X px BX AX) free) (hS : va_S A0 H0 H locs) (hA : ∀ q, q < H.size → A1 q → A0 q) (hf : ∀ q, free q → A0 q) (hAX : ∀ q, q < H.size → AX q → A0 q)
    (kx : ∀ (E : String) (ce : Cell) (q9 : Addr) (u : SX) (t : State) (H1 : Heap) (locs1 : List Loc), t.heap = H1 → s.vm.Alike t.vm → px u → BX E u t → H.size ≤ H1.size → (∀ q : Nat, q < H.size → ¬ AX q → H1[q]? = H[q]?) → va_S A0 H0 H1 locs1 → H1[q9]? = some ce → ce.vm = .none → s.vm.findClass E = some ce.cls → vx_W p l e R s m args below meth c H1 locs1 (cells + mc) (slots + ms) Q (F0 m pc ls rest) q9)
    (kk : ∀ (r : Int64) (u : S) (t : State) (H1 : Heap) (locs1 : List Loc), t.heap = H1 → s.vm.Alike t.vm → post r u → B u t → H.size ≤ H1.size → (∀ q : Nat, q < H.size → ¬ A1 q → H1[q]? = H[q]?) → va_S A0 H0 H1 locs1 → W p l e R s m args below meth c H1 locs1 (cells + mc) (slots + ms) Q (F0 m (pc + 3) ls (.long r :: rest))) : W p l e R s m args below meth c H locs cells slots Q (F0 m pc ls st0) := by
  intro T hT X
  rcases hr T hT X with ⟨v, st₀, t, T', L, h0, X', hL, e1, e2, ⟨⟨r, u, hv, hp, hb⟩, hF⟩, st⟩ | ⟨q, st₀, t, T', L, E, ce, h0, X', hL, e1, e2, ⟨u, hp, hb, hF⟩, hce, hcv, hcl, st⟩
  · cases hv
    obtain ⟨k1, k2, k3⟩ := vx_keep h0 e1 hS hA hf hL hF
    obtain ⟨t2, a1, b1⟩ := kk r u t T'.heap (locs ++ L) e1.symm (by rw [← e2]; exact X'.warmed.alike) hp hb k1 k2 k3 T' rfl X'
    exact ⟨t2, st t2 a1, b1⟩
  · obtain ⟨k1, k2, k3⟩ := vx_keep h0 e1 hS hAX hf hL hF
    obtain ⟨t2, a1, b1⟩ := kx E ce q u t T'.heap (locs ++ L) e1.symm (by rw [← e2]; exact X'.warmed.alike) hp hb k1 k2 k3 (by rw [e1]; exact hce) hcv hcl T' rfl X'
    exact ⟨t2, st.trans a1, b1⟩
theorem vx_callf {S SX : Type} {post : UInt32 → S → Prop} {px : SX → Prop} {B : S → State → Prop} {BX : String → SX → State → Prop} {AX : Nat → Prop} (hr : vx_Run p l e R s m args below meth c H locs cells slots mc ms (F0 m pc ls st0) rest (va_Qf post B A1 a) (vx_X px BX AX) free) (hS : va_S A0 H0 H locs) (hA : ∀ q, q < H.size → A1 q → A0 q) (hf : ∀ q, free q → A0 q) (hAX : ∀ q, q < H.size → AX q → A0 q)
    (kx : ∀ (E : String) (ce : Cell) (q9 : Addr) (u : SX) (t : State) (H1 : Heap) (locs1 : List Loc), t.heap = H1 → s.vm.Alike t.vm → px u → BX E u t → H.size ≤ H1.size → (∀ q : Nat, q < H.size → ¬ AX q → H1[q]? = H[q]?) → va_S A0 H0 H1 locs1 → H1[q9]? = some ce → ce.vm = .none → s.vm.findClass E = some ce.cls → vx_W p l e R s m args below meth c H1 locs1 (cells + mc) (slots + ms) Q (F0 m pc ls rest) q9)
    (kk : ∀ (r : UInt32) (u : S) (t : State) (H1 : Heap) (locs1 : List Loc), t.heap = H1 → s.vm.Alike t.vm → post r u → B u t → H.size ≤ H1.size → (∀ q : Nat, q < H.size → ¬ A1 q → H1[q]? = H[q]?) → va_S A0 H0 H1 locs1 → W p l e R s m args below meth c H1 locs1 (cells + mc) (slots + ms) Q (F0 m (pc + 3) ls (.float r :: rest))) : W p l e R s m args below meth c H locs cells slots Q (F0 m pc ls st0) := by
  intro T hT X
  rcases hr T hT X with ⟨v, st₀, t, T', L, h0, X', hL, e1, e2, ⟨⟨r, u, hv, hp, hb⟩, hF⟩, st⟩ | ⟨q, st₀, t, T', L, E, ce, h0, X', hL, e1, e2, ⟨u, hp, hb, hF⟩, hce, hcv, hcl, st⟩
  · cases hv
    obtain ⟨k1, k2, k3⟩ := vx_keep h0 e1 hS hA hf hL hF
    obtain ⟨t2, a1, b1⟩ := kk r u t T'.heap (locs ++ L) e1.symm (by rw [← e2]; exact X'.warmed.alike) hp hb k1 k2 k3 T' rfl X'
    exact ⟨t2, st t2 a1, b1⟩
  · obtain ⟨k1, k2, k3⟩ := vx_keep h0 e1 hS hAX hf hL hF
    obtain ⟨t2, a1, b1⟩ := kx E ce q u t T'.heap (locs ++ L) e1.symm (by rw [← e2]; exact X'.warmed.alike) hp hb k1 k2 k3 (by rw [e1]; exact hce) hcv hcl T' rfl X'
    exact ⟨t2, st.trans a1, b1⟩
theorem vx_calld {S SX : Type} {post : UInt64 → S → Prop} {px : SX → Prop} {B : S → State → Prop} {BX : String → SX → State → Prop} {AX : Nat → Prop} (hr : vx_Run p l e R s m args below meth c H locs cells slots mc ms (F0 m pc ls st0) rest (va_Qd post B A1 a) (vx_X px BX AX) free) (hS : va_S A0 H0 H locs) (hA : ∀ q, q < H.size → A1 q → A0 q) (hf : ∀ q, free q → A0 q) (hAX : ∀ q, q < H.size → AX q → A0 q)
    (kx : ∀ (E : String) (ce : Cell) (q9 : Addr) (u : SX) (t : State) (H1 : Heap) (locs1 : List Loc), t.heap = H1 → s.vm.Alike t.vm → px u → BX E u t → H.size ≤ H1.size → (∀ q : Nat, q < H.size → ¬ AX q → H1[q]? = H[q]?) → va_S A0 H0 H1 locs1 → H1[q9]? = some ce → ce.vm = .none → s.vm.findClass E = some ce.cls → vx_W p l e R s m args below meth c H1 locs1 (cells + mc) (slots + ms) Q (F0 m pc ls rest) q9)
    (kk : ∀ (r : UInt64) (u : S) (t : State) (H1 : Heap) (locs1 : List Loc), t.heap = H1 → s.vm.Alike t.vm → post r u → B u t → H.size ≤ H1.size → (∀ q : Nat, q < H.size → ¬ A1 q → H1[q]? = H[q]?) → va_S A0 H0 H1 locs1 → W p l e R s m args below meth c H1 locs1 (cells + mc) (slots + ms) Q (F0 m (pc + 3) ls (.double r :: rest))) : W p l e R s m args below meth c H locs cells slots Q (F0 m pc ls st0) := by
  intro T hT X
  rcases hr T hT X with ⟨v, st₀, t, T', L, h0, X', hL, e1, e2, ⟨⟨r, u, hv, hp, hb⟩, hF⟩, st⟩ | ⟨q, st₀, t, T', L, E, ce, h0, X', hL, e1, e2, ⟨u, hp, hb, hF⟩, hce, hcv, hcl, st⟩
  · cases hv
    obtain ⟨k1, k2, k3⟩ := vx_keep h0 e1 hS hA hf hL hF
    obtain ⟨t2, a1, b1⟩ := kk r u t T'.heap (locs ++ L) e1.symm (by rw [← e2]; exact X'.warmed.alike) hp hb k1 k2 k3 T' rfl X'
    exact ⟨t2, st t2 a1, b1⟩
  · obtain ⟨k1, k2, k3⟩ := vx_keep h0 e1 hS hAX hf hL hF
    obtain ⟨t2, a1, b1⟩ := kx E ce q u t T'.heap (locs ++ L) e1.symm (by rw [← e2]; exact X'.warmed.alike) hp hb k1 k2 k3 (by rw [e1]; exact hce) hcv hcl T' rfl X'
    exact ⟨t2, st.trans a1, b1⟩
theorem vx_callv {S SX : Type} {post : S → Prop} {px : SX → Prop} {B : S → State → Prop} {BX : String → SX → State → Prop} {AX : Nat → Prop} (hr : vx_Run p l e R s m args below meth c H locs cells slots mc ms (F0 m pc ls st0) rest (va_Qv post B A1 a) (vx_X px BX AX) free) (hS : va_S A0 H0 H locs) (hA : ∀ q, q < H.size → A1 q → A0 q) (hf : ∀ q, free q → A0 q) (hAX : ∀ q, q < H.size → AX q → A0 q)
    (kx : ∀ (E : String) (ce : Cell) (q9 : Addr) (u : SX) (t : State) (H1 : Heap) (locs1 : List Loc), t.heap = H1 → s.vm.Alike t.vm → px u → BX E u t → H.size ≤ H1.size → (∀ q : Nat, q < H.size → ¬ AX q → H1[q]? = H[q]?) → va_S A0 H0 H1 locs1 → H1[q9]? = some ce → ce.vm = .none → s.vm.findClass E = some ce.cls → vx_W p l e R s m args below meth c H1 locs1 (cells + mc) (slots + ms) Q (F0 m pc ls rest) q9)
    (kk : ∀ (u : S) (t : State) (H1 : Heap) (locs1 : List Loc), t.heap = H1 → s.vm.Alike t.vm → post u → B u t → H.size ≤ H1.size → (∀ q : Nat, q < H.size → ¬ A1 q → H1[q]? = H[q]?) → va_S A0 H0 H1 locs1 → W p l e R s m args below meth c H1 locs1 (cells + mc) (slots + ms) Q (F0 m (pc + 3) ls (rest))) : W p l e R s m args below meth c H locs cells slots Q (F0 m pc ls st0) := by
  intro T hT X
  rcases hr T hT X with ⟨v, st₀, t, T', L, h0, X', hL, e1, e2, ⟨⟨u, hv, hp, hb⟩, hF⟩, st⟩ | ⟨q, st₀, t, T', L, E, ce, h0, X', hL, e1, e2, ⟨u, hp, hb, hF⟩, hce, hcv, hcl, st⟩
  · cases hv
    obtain ⟨k1, k2, k3⟩ := vx_keep h0 e1 hS hA hf hL hF
    obtain ⟨t2, a1, b1⟩ := kk u t T'.heap (locs ++ L) e1.symm (by rw [← e2]; exact X'.warmed.alike) hp hb k1 k2 k3 T' rfl X'
    exact ⟨t2, st t2 a1, b1⟩
  · obtain ⟨k1, k2, k3⟩ := vx_keep h0 e1 hS hAX hf hL hF
    obtain ⟨t2, a1, b1⟩ := kx E ce q u t T'.heap (locs ++ L) e1.symm (by rw [← e2]; exact X'.warmed.alike) hp hb k1 k2 k3 (by rw [e1]; exact hce) hcv hcl T' rfl X'
    exact ⟨t2, st.trans a1, b1⟩
/-- caught by the row x of this method's table; the rows ahead don't take it -/
theorem vx_catch {own name : String} {E : String} {ce : Cell} {q : Addr} (hown : s.vm.findClass own = some m.cls) (pre : List ExceptionTableEntry) (x : ExceptionTableEntry) (suf : List ExceptionTableEntry) (hsplit : c.exceptionTable.toList = pre ++ x :: suf)
    (hpass : ∀ z ∈ pre, covers z pc = false ∨ (z.catchType ≠ 0 ∧ ∃ nm : String, (Cond.classLink own z.catchType nm).before args s = true ∧ va_Nc E nm s)) (hx : covers x pc = true) (h0 : x.catchType ≠ 0)
    (hlink : (Cond.classLink own x.catchType name).before args s = true) (hcast : (Cond.castable E name).before args s = true) (hcell : H[q]? = some ce) (hv : ce.vm = .none) (hcl : s.vm.findClass E = some ce.cls)
    (kk : W p l e R s m args below meth c H locs cells slots Q (F0 m x.handlerPc ls [.ref q])) : vx_W p l e R s m args below meth c H locs cells slots Q (F0 m pc ls rest) q := by
  intro T hT X
  have hpl : e.platform.magicAccessors = ({} : Platform).magicAccessors := by rw [X.admits.platform]
  obtain ⟨c3, c4, hc3, hc4, hasg⟩ := Cond.castable_spec hcast
  cases Option.some.inj (hc3.symm.trans hcl)
  obtain ⟨c5, hc5, hcl5⟩ := Cond.classLink_spec hown hlink e.platform hpl
  cases Option.some.inj (hc4.symm.trans hc5)
  obtain ⟨vm', X', st⟩ := X.thenCaughtThrough q (g := F0 m pc ls rest) rfl (Steps.refl _) (by rw [hT]; exact hcell) (by rw [hv]; rfl) (by obtain ⟨k9, h9, -⟩ := Vm.findClass_spec hcl; exact ⟨k9, h9⟩) pre x suf hsplit
    (fun z hz => by
      rcases hpass z hz with h | ⟨hz0, nm, hl1, hn1⟩
      · exact Or.inl h
      · obtain ⟨c6, hc6, hcl6⟩ := Cond.classLink_spec hown hl1 e.platform hpl
        obtain ⟨a8, b8, h1, h2, h3⟩ := hn1
        cases Option.some.inj (h1.symm.trans hcl)
        cases Option.some.inj (h2.symm.trans hc6)
        exact Or.inr ⟨hz0, _, hcl6, h3⟩) hx (Or.inr ⟨h0, c4, hcl5, hasg⟩)
  obtain ⟨t, a1, b1⟩ := kk (T.setVm vm') hT X'
  exact ⟨t, st.trans a1, b1⟩
end Rows
section Ends
variable {p : Program} {l : Launch} {e : Env} {R : Room} {s : State} {m : MethodId} {args : Array Value} {below : List Frame} {meth : Method} {c : Code} {H : Heap} {locs : List Loc} {cells slots : Nat} {Q : State → Prop}
variable {mc ms : Nat} {free : Addr → Prop} {A0 A1 : Nat → Prop} {H0 : Heap} {a : Array Value} {ls : Array Slot} {st0 rest : List Value}
variable {Qc : Array Value → State → Outcome → State → Prop} {XC : String → State → State → Prop}
/-- what a body that may throw owes at its end -/
def vx_MQ (below : List Frame) (Qc : Array Value → State → Outcome → State → Prop) (XC : String → State → State → Prop) (a : Array Value) (s : State) (mc ms : Nat) (free : Addr → Prop) : State → Prop := fun t =>
  ∃ o, t.status = .running ∧ Ended t below o ∧ vx_Q Qc XC mc ms free a s o t
theorem vx_ret {g : JFrame} {mc ms : Nat} (k : W p l e R s m args below meth c H locs cells slots (MQ below Qc args s mc ms free) g) : W p l e R s m args below meth c H locs cells slots (vx_MQ below Qc XC args s mc ms free) g := by
  intro T hT X
  obtain ⟨t, a1, o, b1, b2, b3, b4⟩ := k T hT X
  exact ⟨t, a1, o, b1, b2, Or.inl ⟨b3, b4⟩⟩
/-- not caught here: it goes on to the caller -/
theorem vx_widen {g : JFrame} {q : Addr} {k n : Nat} (h1 : cells ≤ k) (h2 : slots ≤ n) (kk : vx_W p l e R s m args below meth c H locs k n Q g q) : vx_W p l e R s m args below meth c H locs cells slots Q g q := fun T hT X => kk T hT (stand_widen X h1 h2)
theorem vx_out {pc : Nat} {E : String} {ce : Cell} {q : Addr} {mc ms : Nat} (hout : ∀ x ∈ c.exceptionTable.toList, covers x pc = false) (hlocks : meth.locks = false) (hcell : H[q]? = some ce) (hv : ce.vm = .none) (hcl : s.vm.findClass E = some ce.cls)
    (hx : ∀ t : State, t.heap = H → s.vm.Alike t.vm → XC E s t) (hf : ∀ z ∈ locs, free z.base) (hc : cells ≤ mc) (hs : slots ≤ ms) :
    vx_W p l e R s m args below meth c H locs cells slots (vx_MQ below Qc XC args s mc ms free) (F0 m pc ls rest) q := by
  intro T hT X
  obtain ⟨st1, hrun, hend, hW, hsm⟩ := X.leaveThrown q (g := F0 m pc ls rest) rfl rfl rfl hout hlocks
  have hcell9 : (T.setFrames (.throwing q :: below)).heap[q]? = some ce := by
    show T.heap[q]? = some ce
    rw [hT]; exact hcell
  exact ⟨_, st1, .threw q, hrun, hend, Or.inr ⟨q, rfl, E, ce, locs, hx _ hT hW.alike, hcell9, hv, hcl, hW, hsm.mono hc hs, hf⟩⟩
theorem vx_frame {U : State} {k n : Nat} (h : s.sameButNew ({ U with vm := s.vm } : State) locs k n) : s.heap.size ≤ U.heap.size ∧ ∀ q : Nat, q < s.heap.size → (∀ z ∈ locs, z.base ≠ q) → U.heap[q]? = s.heap[q]? := by
  obtain ⟨-, h2, -, -, -, h6⟩ := h
  refine ⟨h2, fun q hq hz => ?_⟩
  obtain ⟨c9, e1, e2, e3, e4⟩ := h6 q _ (Array.getElem?_eq_getElem hq)
  have hs : c9.slots = (s.heap[q]).slots := Array.ext_getElem? fun i => e4 i fun hm => hz _ hm rfl
  have h9 : c9 = s.heap[q] := by
    rw [hs] at e2
    exact e2
  have e5 : U.heap[q]? = some c9 := e1
  rw [e5, h9, Array.getElem?_eq_getElem hq]
/-- the words of a throw but the four that speak of the heap -/
def vx_no (w : Cond) : Bool := decide (w ≠ .isRef (.static Bundle.tN "UNASSIGNED_STACK" Bundle.steD)) && decide (w ≠ .isRef (.static Bundle.tN "SUPPRESSED_SENTINEL" Bundle.listD)) && decide (w ≠ .laysStatic Bundle.tN "UNASSIGNED_STACK" Bundle.steD) && decide (w ≠ .laysStatic Bundle.tN "SUPPRESSED_SENTINEL" Bundle.listD)
def vx_at0 (own : String) (ic : Nat) (X : String) (names : List String) : List Cond := (Bundle.ownAtoms0 own ic X names).filter vx_no
def vx_atS (own : String) (ic : Nat) (X : String) (names : List String) : List Cond := (Bundle.ownAtoms own ic X names).filter vx_no
/-- a word that the tables alone decide, or a good one -/
def vx_ot (w : Cond) : Bool := w.onTables || goodWord w
theorem vx_ot_at {args a' : Array Value} {s U : State} {w : Cond} (hW : s.WarmedH U.vm) (hvm : s.vm = U.vm) (hg : vx_ot w = true) (h : w.before args s = true) : w.before a' U = true := by
  simp only [vx_ot, Bool.or_eq_true] at hg
  rcases hg with hg | hg
  · exact va_tabs hg hvm h
  · exact word_at hW (good_of_word hg) h
/-- a list's words: the good ones out of the method's own list, the others by premises of their own -/
theorem vx_hat {args : Array Value} {s : State} {L B : List Cond} (h1 : ∀ w ∈ L.filter goodWord, w.before args s = true) (h2 : ∀ w ∈ L.filter (fun w => !goodWord w), w ∈ B) (h3 : ∀ w ∈ B, w.before args s = true) : ∀ w ∈ L, w.before args s = true := by
  intro w hw
  by_cases g : goodWord w = true
  · exact h1 w (List.mem_filter.mpr ⟨hw, g⟩)
  · refine h3 w (h2 w (List.mem_filter.mpr ⟨hw, ?_⟩))
    show (!goodWord w) = true
    cases hgw : goodWord w
    · rfl
    · exact absurd hgw g
theorem vx_c {args : Array Value} {s : State} {w : Cond} {B : List Cond} (h : w.before args s = true) (t : ∀ w ∈ B, w.before args s = true) : ∀ w' ∈ w :: B, w'.before args s = true := fun w' h' => (List.mem_cons.mp h').elim (fun e => by rw [e]; exact h) (t w')
theorem vx_n {args : Array Value} {s : State} : ∀ w ∈ ([] : List Cond), w.before args s = true := fun _ h => nomatch h
theorem vx_own {args : Array Value} {s : State} {L : List Cond} (h1 : ∀ w ∈ L.filter vx_no, w.before args s = true)
    (hU : (Cond.isRef (.static Bundle.tN "UNASSIGNED_STACK" Bundle.steD)).before args s = true) (hN : (Cond.isRef (.static Bundle.tN "SUPPRESSED_SENTINEL" Bundle.listD)).before args s = true)
    (lU : (Cond.laysStatic Bundle.tN "UNASSIGNED_STACK" Bundle.steD).before args s = true) (lN : (Cond.laysStatic Bundle.tN "SUPPRESSED_SENTINEL" Bundle.listD).before args s = true) : ∀ w ∈ L, w.before args s = true := by
  intro w hw
  by_cases e1 : w = .isRef (.static Bundle.tN "UNASSIGNED_STACK" Bundle.steD)
  · rw [e1]; exact hU
  · by_cases e2 : w = .isRef (.static Bundle.tN "SUPPRESSED_SENTINEL" Bundle.listD)
    · rw [e2]; exact hN
    · by_cases e3 : w = .laysStatic Bundle.tN "UNASSIGNED_STACK" Bundle.steD
      · rw [e3]; exact lU
      · by_cases e4 : w = .laysStatic Bundle.tN "SUPPRESSED_SENTINEL" Bundle.listD
        · rw [e4]; exact lN
        · exact h1 w (List.mem_filter.mpr ⟨hw, by unfold vx_no; rw [decide_eq_true e1, decide_eq_true e2, decide_eq_true e3, decide_eq_true e4]; rfl⟩)
/-- where a static field lies, its class's statics cell in H -/
def vx_L (C n d : String) (A : Nat → Prop) (U : State) (H : Heap) : Prop := ∃ (c : ClassId) (k : Class) (i : Nat) (f : Field) (a : Nat) (cell : Cell), U.vm.findClass C = some c ∧ U.fieldFound? C n d = some (c, k, i, f) ∧ f.isStatic = true ∧ k.statics = some a ∧ H[a]? = some cell ∧ cell.vm.isStatics = true ∧ cell.cls = c ∧ f.slot < cell.slots.size ∧ k.staticTypes[f.slot]? = some f.type ∧ ¬ A a
theorem vx_L.moved {C n d : String} {A : Nat → Prop} {u U : State} {H : Heap} (hvm : u.vm.Alike U.vm) (h : vx_L C n d A u H) : vx_L C n d A U H := by
  obtain ⟨c, k, i, f, a, cell, h1, h2, h3, h4, h5, h6, h7, h8, h9, h10⟩ := h
  obtain ⟨k', hi', he⟩ := State.fieldFound?_setVm hvm h2
  exact ⟨c, k', i, f, a, cell, by rw [hvm.findClass]; exact h1, hi', h3, by rw [he]; exact h4, h5, h6, h7, h8, by rw [he]; exact h9, h10⟩
theorem vx_L.kept {C n d : String} {A : Nat → Prop} {U : State} {H H1 : Heap} (h : vx_L C n d A U H) (hq : ∀ a : Nat, a < H.size → ¬ A a → H1[a]? = H[a]?) : vx_L C n d A U H1 := by
  obtain ⟨c, k, i, f, a, cell, h1, h2, h3, h4, h5, h6, h7, h8, h9, h10⟩ := h
  exact ⟨c, k, i, f, a, cell, h1, h2, h3, h4, by rw [hq a (Array.getElem?_eq_some_iff.mp h5).1 h10]; exact h5, h6, h7, h8, h9, h10⟩
theorem vx_L.narrow {C n d : String} {A B : Nat → Prop} {U : State} {H : Heap} (h : vx_L C n d A U H) (hAB : ∀ q, B q → A q) : vx_L C n d B U H := by
  obtain ⟨c, k, i, f, a, cell, h1, h2, h3, h4, h5, h6, h7, h8, h9, h10⟩ := h
  exact ⟨c, k, i, f, a, cell, h1, h2, h3, h4, h5, h6, h7, h8, h9, fun z => h10 (hAB _ z)⟩
theorem vx_L.word {C n d : String} {A : Nat → Prop} {s : State} {args : Array Value} (h : vx_L C n d A s s.heap) : (Cond.laysStatic C n d).before args s = true := by
  obtain ⟨c, k, i, f, a, cell, h1, h2, h3, h4, h5, h6, h7, h8, h9, -⟩ := h
  show (Cond.laysStatic C n d).holds args s none s [] = true
  exact Cond.laysStatic_of h1 h2 h3 h4 h5 h6 h7 h8 h9
/-- .. and what it holds: null or some reference -/
def vx_Zq (C n d : String) (A : Nat → Prop) (U : State) (H : Heap) : Prop := va_Zq C n d A U H ∧ vx_L C n d A U H
theorem vx_Zq.moved {C n d : String} {A : Nat → Prop} {u U : State} {H : Heap} (hvm : u.vm.Alike U.vm) (h : vx_Zq C n d A u H) : vx_Zq C n d A U H := ⟨va_Zq.moved hvm h.1, vx_L.moved hvm h.2⟩
theorem vx_Zq.kept {C n d : String} {A : Nat → Prop} {U : State} {H H1 : Heap} (h : vx_Zq C n d A U H) (hq : ∀ a : Nat, a < H.size → ¬ A a → H1[a]? = H[a]?) : vx_Zq C n d A U H1 := ⟨va_Zq.kept h.1 hq, vx_L.kept h.2 hq⟩
theorem vx_Zq.narrow {C n d : String} {A B : Nat → Prop} {U : State} {H : Heap} (h : vx_Zq C n d A U H) (hAB : ∀ q, B q → A q) : vx_Zq C n d B U H := ⟨va_Zq.narrow h.1 hAB, vx_L.narrow h.2 hAB⟩
theorem vx_Zqof {args : Array Value} {s : State} {C n d : String} {A : Nat → Prop} (hl : (Cond.laysStatic C n d).before args s = true) (hini : (Cond.initialized C).before args s = true) (h : (Cond.isRef (.static C n d)).before args s = true) (hA : ∀ a : Nat, a < s.heap.size → ¬ A a) : vx_Zq C n d A s s.heap := by
  refine ⟨va_Zqof hl hini h hA, ?_⟩
  obtain ⟨c, k, i, f, a, cell, h1, h2, h3, h4, h5, h6, h7, h8, h9⟩ := Cond.laysStatic_spec hl
  exact ⟨c, k, i, f, a, cell, h1, h2, h3, h4, h5, h6, h7, h8, h9, hA a (Array.getElem?_eq_some_iff.mp h5).1⟩
theorem vx_isRef {C n d : String} {v : Value} {A : Nat → Prop} {s : State} {args : Array Value} (h : va_Z C n d v A s s.heap) (hv : v.isRef = true) : (Cond.isRef (.static C n d)).before args s = true := by
  obtain ⟨cf, kf, fi, f, a, cell, h1, h2, h3, h4, h5, h6, h7, -⟩ := h
  have he : (Term.static C n d).eval args s none [] s = some v := by
    simp [Term.eval, State.fieldNamed?, h1, h2, h4, h5, h6, h7]
  simp only [Cond.before, Cond.holds, Cond.value, he]
  cases v <;> simp_all [Value.isRef]
theorem vx_isRefq {C n d : String} {A : Nat → Prop} {s : State} {args : Array Value} (h : va_Zq C n d A s s.heap) : (Cond.isRef (.static C n d)).before args s = true := by
  rcases h with h | ⟨t, h⟩
  · exact vx_isRef h rfl
  · exact vx_isRef h rfl
/-- the same frame, seen from here: as if the method were called anew in this heap -/
theorem vx_rebase {T : State} (X : Stand p l e R s m args below meth c T locs cells slots) {R' : Room} (hf : R'.frames ≤ R.frames) (hl : R'.locals ≤ R.locals) (hc : cells + R'.cells ≤ R.cells) (hs : slots + R'.slots ≤ R.slots) :
    Stand p l e R' ((T.setVm s.vm).setFrames (.invoking m args :: below)) m args below meth c T [] 0 0 := by
  have htop : (T.setVm s.vm).topJava?.isSome := X.here.top
  have hF : ((T.setVm s.vm).setFrames (.invoking m args :: below)).frames = .invoking m args :: below := State.frames_setFrames _ (State.cur_lt_of_top htop)
  obtain ⟨g₀, hg0⟩ := Option.isSome_iff_exists.mp htop
  obtain ⟨r, hr⟩ := State.topJava?_eq_some.mp hg0
  have hl9 : e.platform.stackLimits (T.setVm s.vm).me = e.platform.stackLimits s.me := X.limits
  have hb9 : (T.setVm s.vm).me.stackBytes = s.me.stackBytes := X.bytes
  refine ⟨X.admits, X.cas, X.clock, hF, ?_, X.hears, X.method, X.code, X.here, X.tail, X.warmed, ?_, ?_, ?_⟩
  · have h := X.room
    have hU : ((T.setVm s.vm).setFrames (.invoking m args :: below)).localsInUse = s.localsInUse := by
      rw [State.localsInUse_invoking hF (meth := meth) (c := c) X.method X.code, State.localsInUse_invoking X.frames X.method X.code]
    simp only [State.hasRoom, Bool.and_eq_true, decide_eq_true_eq] at h ⊢
    obtain ⟨⟨⟨⟨h1, h2, h3, h4, h5, h6⟩, h7⟩, h8⟩, h9⟩ := h
    rw [X.frames, List.length_cons] at h2 h3
    have q1 := X.heapSize
    have q2 := X.used
    simp only [hF, hU, List.length_cons, State.stackLimits_setFrames, State.stackBytes_setFrames, hl9, hb9]
    refine ⟨⟨⟨⟨by omega, by omega, by omega, by omega, by omega, h6⟩, ?_⟩, ?_⟩, X.book⟩
    · show T.heap.size + R'.cells ≤ e.platform.maxCells
      omega
    · show T.slotsUsed + R'.slots ≤ e.platform.maxSlots
      omega
  · rw [State.stackLimits_setFrames]; rfl
  · rw [State.stackBytes_setFrames]; rfl
  · refine ⟨?_, Nat.le_refl _, Nat.le_refl _, ?_, ?_, fun a c9 h9 => ⟨c9, h9, rfl, rfl, fun _ _ => rfl⟩⟩
    · obtain ⟨t, ht, -⟩ := State.frames_cons hr
      show T.setVm s.vm = { ((T.setVm s.vm).setFrames (.invoking m args :: below)).setFrames (T.setVm s.vm).frames with heap := T.heap, slotsUsed := T.slotsUsed }
      rw [State.setFrames_setFrames, State.setFrames_self ht]
      rfl
    · show T.slotsUsed = T.slotsUsed + ((T.heap.toList.drop T.heap.size).map (·.slots.size)).sum
      rw [List.drop_eq_nil_of_le (Nat.le_of_eq Array.length_toList)]
      rfl
    · show ((T.heap.toList.drop T.heap.size).map (·.slots.size)).sum ≤ 0
      rw [List.drop_eq_nil_of_le (Nat.le_of_eq Array.length_toList)]
      exact Nat.le_refl _
/-- 'throw new E()': new; dup; invokespecial; athrow -/
theorem vx_throw0 {cc : ByteArray} {pc : Nat} (hexec : p.tables.exec = Jvm.exec) (hb : c.code = cc) (hl : l.stackTraces = false) {own cls : String} {names : List String} {ik ic mc ms : Nat} {A : Nat → Prop}
    (hown : s.vm.findClass own = some m.cls) (hcls : Bundle.fit cls = true) (hnames : ∀ n ∈ names, Bundle.fit n = true)
    (hk : (Cond.classLink own ik cls).before args s = true) (hini : (Cond.initialized cls).before args s = true) (hat : ∀ w ∈ vx_at0 own ic cls names, w.before args s = true)
    (hgood : ∀ w ∈ Cond.classLink own ik cls :: Cond.initialized cls :: vx_at0 own ic cls names, vx_ot w = true)
    (hU : vx_Zq Bundle.tN "UNASSIGNED_STACK" Bundle.steD A s s.heap) (hN : vx_Zq Bundle.tN "SUPPRESSED_SENTINEL" Bundle.listD A s s.heap) (hS : va_S A s.heap H locs) (hsize : ls.size = c.maxLocals)
    (d0 : decode cc pc = .ok (.new ik, 3)) (d3 : decode cc (pc + 3) = .ok (.dup, 1)) (d4 : decode cc (pc + 4) = .ok (.invokespecial ic, 3)) (d7 : decode cc (pc + 7) = .ok (.athrow, 1))
    (hout : ∀ x ∈ c.exceptionTable.toList, covers x (pc + 7) = false)
    (hRframes : names.length + 3 < R.frames) (hRlocals : (rest.map fun v => v.category).sum + (13 * (names.length + 1) + 42) ≤ R.locals) (hRcells : cells + 1 ≤ R.cells) (hRslots : slots + 6 ≤ R.slots) (hlocks : meth.locks = false)
    (hx : ∀ t : State, s.vm.Alike t.vm → H.size ≤ t.heap.size → (∀ q : Nat, q < H.size → t.heap[q]? = H[q]?) → XC cls s t)
    (hf : ∀ z ∈ locs, free z.base) (hc : cells + 1 ≤ mc) (hs : slots + 6 ≤ ms) :
    W p l e R s m args below meth c H locs cells slots (vx_MQ below Qc XC args s mc ms free) (F0 m pc ls rest) := by
  intro T hT X
  have htr : e.platform.stackTraces = false := (show e.platform.stackTraces = l.stackTraces by rw [X.admits.platform]).trans hl
  have Y := vx_rebase X (R' := { frames := R.frames, locals := R.locals, cells := 1, slots := 6 }) (Nat.le_refl _) (Nat.le_refl _) hRcells hRslots
  obtain ⟨s', hA⟩ : ∃ z, z = (T.setVm s.vm).setFrames (.invoking m args :: below) := ⟨_, rfl⟩
  rw [← hA] at Y
  have hvm : s'.vm = s.vm := by rw [hA]; rfl
  have hhp : s'.heap = H := by rw [hA]; exact hT
  have hW0 : s.WarmedH s'.vm := by rw [hvm]; exact State.WarmedH.refl s
  have hat' : ∀ w ∈ vx_at0 own ic cls names, w.before args s' = true := fun w hw => vx_ot_at hW0 hvm.symm (hgood w (List.mem_cons_of_mem _ (List.mem_cons_of_mem _ hw))) (hat w hw)
  have hk' : (Cond.classLink own ik cls).before args s' = true := vx_ot_at hW0 hvm.symm (hgood _ List.mem_cons_self) hk
  have hini' : (Cond.initialized cls).before args s' = true := vx_ot_at hW0 hvm.symm (hgood _ (List.mem_cons_of_mem _ List.mem_cons_self)) hini
  have hU' : vx_Zq Bundle.tN "UNASSIGNED_STACK" Bundle.steD A s' s'.heap := by rw [hhp]; exact vx_Zq.moved hW0.alike (hU.kept hS.2.1)
  have hN' : vx_Zq Bundle.tN "SUPPRESSED_SENTINEL" Bundle.listD A s' s'.heap := by rw [hhp]; exact vx_Zq.moved hW0.alike (hN.kept hS.2.1)
  have h : ∀ w ∈ Bundle.ownAtoms0 own ic cls names, w.before args s' = true := vx_own hat' (vx_isRefq hU'.1) (vx_isRefq hN'.1) hU'.2.word hN'.2.word
  have hown' : s'.vm.findClass own = some m.cls := by rw [hvm]; exact hown
  have hins : (Cond.instantiable cls 6).before args s' = true := h _ (by simp [Bundle.ownAtoms0])
  obtain ⟨vm₁, cX, kX, hfX, hkX, -, -, X₁, st1⟩ := Y.newCold hexec (own := own) (C := cls) (index := ik) (n := 6) hown' hk' hins hini'
    (g := F0 m pc ls rest) rfl (by rw [hb]; exact d0) (Nat.le_refl _) (Nat.le_refl _)
  generalize hT1 : (T.setVm vm₁).pushCell { cls := cX, slots := kX.instanceTypes.map defaultValue, vm := .none } = T1 at X₁ st1
  have hcat : (Value.ref T.heap.size).category = 1 := rfl
  have hcellA : T1.heap[T.heap.size]? = some (freshCell cX kX) := by rw [← hT1]; exact State.heap_pushCell_size _ _
  have d3' : decode c.code (pc + 3) = .ok (.dup, 1) := by rw [hb]; exact d3
  obtain ⟨U, hsteps, hrun, hend, hW, hsame, ce, hce, hO⟩ := X₁.ctorThrow0 hexec htr (own := own) (cls := cls) (names := names) (ic := ic) hown' hcls hnames h (fun x hx => nomatch hx) hfX hkX hcellA (by rw [hhp, hT]; exact Nat.le_refl _)
    (g := { method := m, pc := pc + 4, locals := ls, stack := .ref T.heap.size :: .ref T.heap.size :: rest, locked := none }) rfl hsize rfl rfl (rest := rest) rfl
    (by rw [hb]; exact d4) (by rw [hb]; exact d7) hout hRframes (by simp only [List.map_cons, List.sum_cons, hcat]; omega) hlocks
  obtain ⟨f1, f2⟩ := vx_frame hsame
  rw [hhp] at f1 f2
  have hWs : s.WarmedH U.vm := State.WarmedH.trans hW0 hW
  have hcl : s.vm.findClass cls = some ce.cls := by
    have h9 := hO.cls
    rw [hvm] at h9
    exact h9
  have hall : s.sameButNew ({ U with vm := s.vm } : State) locs mc ms := by
    subst hA
    obtain ⟨e1, e2⟩ := hsame
    rw [State.setFrames_setFrames] at e1
    have h2 : (T.setVm s.vm).sameButNew ({ U with vm := s.vm } : State) [] (0 + 1) (0 + 6) := ⟨e1, e2⟩
    have h3 := X.same.trans h2
    rw [List.append_nil] at h3
    exact h3.mono hc hs
  refine ⟨U, ?_, .threw T.heap.size, hrun, hend, Or.inr ⟨T.heap.size, rfl, cls, ce, locs, hx U hWs.alike f1 (fun q hq => f2 q hq (fun z hz => nomatch hz)), hce, hO.vm, hcl, hWs, hall, hf⟩⟩
  refine st1 _ ?_
  show Steps p.tables e below (T1.setTop { method := m, pc := pc + 3, locals := ls, stack := .ref T.heap.size :: rest, locked := none }) _
  jvm_step X₁.here [X₁.here.top, hexec, d3', Value.category]
  exact hsteps
/-- 'throw new E("text")': new; dup; ldc; invokespecial; athrow -/
theorem vx_throwS {cc : ByteArray} {pc : Nat} (hexec : p.tables.exec = Jvm.exec) (hb : c.code = cc) (hl : l.stackTraces = false) {own cls text : String} {names : List String} {ik is ic mc ms sa : Nat} {A : Nat → Prop}
    (hown : s.vm.findClass own = some m.cls) (hcls : Bundle.fit cls = true) (hnames : ∀ n ∈ names, Bundle.fit n = true)
    (hk : (Cond.classLink own ik cls).before args s = true) (hini : (Cond.initialized cls).before args s = true) (hstr : vk_R own is text sa s) (hat : ∀ w ∈ vx_atS own ic cls names, w.before args s = true)
    (hgood : ∀ w ∈ Cond.classLink own ik cls :: Cond.initialized cls :: vx_atS own ic cls names, vx_ot w = true)
    (hU : vx_Zq Bundle.tN "UNASSIGNED_STACK" Bundle.steD A s s.heap) (hN : vx_Zq Bundle.tN "SUPPRESSED_SENTINEL" Bundle.listD A s s.heap) (hS : va_S A s.heap H locs) (hsize : ls.size = c.maxLocals)
    (d0 : decode cc pc = .ok (.new ik, 3)) (d3 : decode cc (pc + 3) = .ok (.dup, 1)) (d4 : decode cc (pc + 4) = .ok (.ldc is, 2)) (d6 : decode cc (pc + 6) = .ok (.invokespecial ic, 3)) (d9 : decode cc (pc + 9) = .ok (.athrow, 1))
    (hout : ∀ x ∈ c.exceptionTable.toList, covers x (pc + 9) = false)
    (hRframes : names.length + 3 < R.frames) (hRlocals : (rest.map fun v => v.category).sum + (13 * (names.length + 1) + 43) ≤ R.locals) (hRcells : cells + 1 ≤ R.cells) (hRslots : slots + 6 ≤ R.slots) (hlocks : meth.locks = false)
    (hx : ∀ t : State, s.vm.Alike t.vm → H.size ≤ t.heap.size → (∀ q : Nat, q < H.size → t.heap[q]? = H[q]?) → XC cls s t)
    (hf : ∀ z ∈ locs, free z.base) (hc : cells + 1 ≤ mc) (hs : slots + 6 ≤ ms) :
    W p l e R s m args below meth c H locs cells slots (vx_MQ below Qc XC args s mc ms free) (F0 m pc ls rest) := by
  intro T hT X
  have htr : e.platform.stackTraces = false := (show e.platform.stackTraces = l.stackTraces by rw [X.admits.platform]).trans hl
  have Y := vx_rebase X (R' := { frames := R.frames, locals := R.locals, cells := 1, slots := 6 }) (Nat.le_refl _) (Nat.le_refl _) hRcells hRslots
  obtain ⟨s', hA⟩ : ∃ z, z = (T.setVm s.vm).setFrames (.invoking m args :: below) := ⟨_, rfl⟩
  rw [← hA] at Y
  have hvm : s'.vm = s.vm := by rw [hA]; rfl
  have hhp : s'.heap = H := by rw [hA]; exact hT
  have hW0 : s.WarmedH s'.vm := by rw [hvm]; exact State.WarmedH.refl s
  have hat' : ∀ w ∈ vx_atS own ic cls names, w.before args s' = true := fun w hw => vx_ot_at hW0 hvm.symm (hgood w (List.mem_cons_of_mem _ (List.mem_cons_of_mem _ hw))) (hat w hw)
  have hk' : (Cond.classLink own ik cls).before args s' = true := vx_ot_at hW0 hvm.symm (hgood _ List.mem_cons_self) hk
  have hini' : (Cond.initialized cls).before args s' = true := vx_ot_at hW0 hvm.symm (hgood _ (List.mem_cons_of_mem _ List.mem_cons_self)) hini
  have hU' : vx_Zq Bundle.tN "UNASSIGNED_STACK" Bundle.steD A s' s'.heap := by rw [hhp]; exact vx_Zq.moved hW0.alike (hU.kept hS.2.1)
  have hN' : vx_Zq Bundle.tN "SUPPRESSED_SENTINEL" Bundle.listD A s' s'.heap := by rw [hhp]; exact vx_Zq.moved hW0.alike (hN.kept hS.2.1)
  have h : ∀ w ∈ Bundle.ownAtoms own ic cls names, w.before args s' = true := vx_own hat' (vx_isRefq hU'.1) (vx_isRefq hN'.1) hU'.2.word hN'.2.word
  have hown' : s'.vm.findClass own = some m.cls := by rw [hvm]; exact hown
  have hins : (Cond.instantiable cls 6).before args s' = true := h _ (by simp [Bundle.ownAtoms])
  obtain ⟨vm₁, cX, kX, hfX, hkX, -, -, X₁, st1⟩ := Y.newCold hexec (own := own) (C := cls) (index := ik) (n := 6) hown' hk' hins hini'
    (g := F0 m pc ls rest) rfl (by rw [hb]; exact d0) (Nat.le_refl _) (Nat.le_refl _)
  generalize hT1 : (T.setVm vm₁).pushCell { cls := cX, slots := kX.instanceTypes.map defaultValue, vm := .none } = T1 at X₁ st1
  have hcat : (Value.ref T.heap.size).category = 1 := rfl
  have hcellA : T1.heap[T.heap.size]? = some (freshCell cX kX) := by rw [← hT1]; exact State.heap_pushCell_size _ _
  have d3' : decode c.code (pc + 3) = .ok (.dup, 1) := by rw [hb]; exact d3
  have d4' : decode c.code (pc + 4) = .ok (.ldc is, 2) := by rw [hb]; exact d4
  have hstr' : vk_R own is text sa s' := vk_R.warm hW0 hstr
  obtain ⟨U, hsteps, hrun, hend, hW, hsame, ce, hce, hO⟩ := X₁.ctorThrowS hexec htr (own := own) (cls := cls) (names := names) (ic := ic) hown' hcls hnames h (fun x hx => nomatch hx) hfX hkX hcellA (by rw [hhp, hT]; exact Nat.le_refl _) (msg := .ref sa) rfl
    (g := { method := m, pc := pc + 6, locals := ls, stack := .ref sa :: .ref T.heap.size :: .ref T.heap.size :: rest, locked := none }) rfl hsize rfl rfl (rest := rest) rfl
    (by rw [hb]; exact d6) (by rw [hb]; exact d9) hout hRframes (by simp only [List.map_cons, List.sum_cons, hcat]; omega) hlocks
  obtain ⟨f1, f2⟩ := vx_frame hsame
  rw [hhp] at f1 f2
  have hWs : s.WarmedH U.vm := State.WarmedH.trans hW0 hW
  have hcl : s.vm.findClass cls = some ce.cls := by
    have h9 := hO.cls
    rw [hvm] at h9
    exact h9
  have hall : s.sameButNew ({ U with vm := s.vm } : State) locs mc ms := by
    subst hA
    obtain ⟨e1, e2⟩ := hsame
    rw [State.setFrames_setFrames] at e1
    have h2 : (T.setVm s.vm).sameButNew ({ U with vm := s.vm } : State) [] (0 + 1) (0 + 6) := ⟨e1, e2⟩
    have h3 := X.same.trans h2
    rw [List.append_nil] at h3
    exact h3.mono hc hs
  refine ⟨U, ?_, .threw T.heap.size, hrun, hend, Or.inr ⟨T.heap.size, rfl, cls, ce, locs, hx U hWs.alike f1 (fun q hq => f2 q hq (fun z hz => nomatch hz)), hce, hO.vm, hcl, hWs, hall, hf⟩⟩
  refine st1 _ ?_
  show Steps p.tables e below (T1.setTop { method := m, pc := pc + 3, locals := ls, stack := .ref T.heap.size :: rest, locked := none }) _
  jvm_step X₁.here [X₁.here.top, hexec, d3', Value.category]
  exact X₁.ldcString hexec (own := own) (text := text) (index := is) (a := sa) hown' hstr'.1 hstr'.2
    (g := { method := m, pc := pc + 4, locals := ls, stack := .ref T.heap.size :: .ref T.heap.size :: rest, locked := none }) rfl d4' _ hsteps
/-- 'throw new E("text")', the text by a wide index -/
theorem vx_throwSW {cc : ByteArray} {pc : Nat} (hexec : p.tables.exec = Jvm.exec) (hb : c.code = cc) (hl : l.stackTraces = false) {own cls text : String} {names : List String} {ik is ic mc ms sa : Nat} {A : Nat → Prop}
    (hown : s.vm.findClass own = some m.cls) (hcls : Bundle.fit cls = true) (hnames : ∀ n ∈ names, Bundle.fit n = true)
    (hk : (Cond.classLink own ik cls).before args s = true) (hini : (Cond.initialized cls).before args s = true) (hstr : vk_R own is text sa s) (hat : ∀ w ∈ vx_atS own ic cls names, w.before args s = true)
    (hgood : ∀ w ∈ Cond.classLink own ik cls :: Cond.initialized cls :: vx_atS own ic cls names, vx_ot w = true)
    (hU : vx_Zq Bundle.tN "UNASSIGNED_STACK" Bundle.steD A s s.heap) (hN : vx_Zq Bundle.tN "SUPPRESSED_SENTINEL" Bundle.listD A s s.heap) (hS : va_S A s.heap H locs) (hsize : ls.size = c.maxLocals)
    (d0 : decode cc pc = .ok (.new ik, 3)) (d3 : decode cc (pc + 3) = .ok (.dup, 1)) (d4 : decode cc (pc + 4) = .ok (.ldc_w is, 3)) (d7 : decode cc (pc + 7) = .ok (.invokespecial ic, 3)) (d10 : decode cc (pc + 10) = .ok (.athrow, 1))
    (hout : ∀ x ∈ c.exceptionTable.toList, covers x (pc + 10) = false)
    (hRframes : names.length + 3 < R.frames) (hRlocals : (rest.map fun v => v.category).sum + (13 * (names.length + 1) + 43) ≤ R.locals) (hRcells : cells + 1 ≤ R.cells) (hRslots : slots + 6 ≤ R.slots) (hlocks : meth.locks = false)
    (hx : ∀ t : State, s.vm.Alike t.vm → H.size ≤ t.heap.size → (∀ q : Nat, q < H.size → t.heap[q]? = H[q]?) → XC cls s t)
    (hf : ∀ z ∈ locs, free z.base) (hc : cells + 1 ≤ mc) (hs : slots + 6 ≤ ms) :
    W p l e R s m args below meth c H locs cells slots (vx_MQ below Qc XC args s mc ms free) (F0 m pc ls rest) := by
  intro T hT X
  have htr : e.platform.stackTraces = false := (show e.platform.stackTraces = l.stackTraces by rw [X.admits.platform]).trans hl
  have Y := vx_rebase X (R' := { frames := R.frames, locals := R.locals, cells := 1, slots := 6 }) (Nat.le_refl _) (Nat.le_refl _) hRcells hRslots
  obtain ⟨s', hA⟩ : ∃ z, z = (T.setVm s.vm).setFrames (.invoking m args :: below) := ⟨_, rfl⟩
  rw [← hA] at Y
  have hvm : s'.vm = s.vm := by rw [hA]; rfl
  have hhp : s'.heap = H := by rw [hA]; exact hT
  have hW0 : s.WarmedH s'.vm := by rw [hvm]; exact State.WarmedH.refl s
  have hat' : ∀ w ∈ vx_atS own ic cls names, w.before args s' = true := fun w hw => vx_ot_at hW0 hvm.symm (hgood w (List.mem_cons_of_mem _ (List.mem_cons_of_mem _ hw))) (hat w hw)
  have hk' : (Cond.classLink own ik cls).before args s' = true := vx_ot_at hW0 hvm.symm (hgood _ List.mem_cons_self) hk
  have hini' : (Cond.initialized cls).before args s' = true := vx_ot_at hW0 hvm.symm (hgood _ (List.mem_cons_of_mem _ List.mem_cons_self)) hini
  have hU' : vx_Zq Bundle.tN "UNASSIGNED_STACK" Bundle.steD A s' s'.heap := by rw [hhp]; exact vx_Zq.moved hW0.alike (hU.kept hS.2.1)
  have hN' : vx_Zq Bundle.tN "SUPPRESSED_SENTINEL" Bundle.listD A s' s'.heap := by rw [hhp]; exact vx_Zq.moved hW0.alike (hN.kept hS.2.1)
  have h : ∀ w ∈ Bundle.ownAtoms own ic cls names, w.before args s' = true := vx_own hat' (vx_isRefq hU'.1) (vx_isRefq hN'.1) hU'.2.word hN'.2.word
  have hown' : s'.vm.findClass own = some m.cls := by rw [hvm]; exact hown
  have hins : (Cond.instantiable cls 6).before args s' = true := h _ (by simp [Bundle.ownAtoms])
  obtain ⟨vm₁, cX, kX, hfX, hkX, -, -, X₁, st1⟩ := Y.newCold hexec (own := own) (C := cls) (index := ik) (n := 6) hown' hk' hins hini'
    (g := F0 m pc ls rest) rfl (by rw [hb]; exact d0) (Nat.le_refl _) (Nat.le_refl _)
  generalize hT1 : (T.setVm vm₁).pushCell { cls := cX, slots := kX.instanceTypes.map defaultValue, vm := .none } = T1 at X₁ st1
  have hcat : (Value.ref T.heap.size).category = 1 := rfl
  have hcellA : T1.heap[T.heap.size]? = some (freshCell cX kX) := by rw [← hT1]; exact State.heap_pushCell_size _ _
  have d3' : decode c.code (pc + 3) = .ok (.dup, 1) := by rw [hb]; exact d3
  have d4' : decode c.code (pc + 4) = .ok (.ldc_w is, 3) := by rw [hb]; exact d4
  have hstr' : vk_R own is text sa s' := vk_R.warm hW0 hstr
  obtain ⟨U, hsteps, hrun, hend, hW, hsame, ce, hce, hO⟩ := X₁.ctorThrowS hexec htr (own := own) (cls := cls) (names := names) (ic := ic) hown' hcls hnames h (fun x hx => nomatch hx) hfX hkX hcellA (by rw [hhp, hT]; exact Nat.le_refl _) (msg := .ref sa) rfl
    (g := { method := m, pc := pc + 7, locals := ls, stack := .ref sa :: .ref T.heap.size :: .ref T.heap.size :: rest, locked := none }) rfl hsize rfl rfl (rest := rest) rfl
    (by rw [hb]; exact d7) (by rw [hb]; exact d10) hout hRframes (by simp only [List.map_cons, List.sum_cons, hcat]; omega) hlocks
  obtain ⟨f1, f2⟩ := vx_frame hsame
  rw [hhp] at f1 f2
  have hWs : s.WarmedH U.vm := State.WarmedH.trans hW0 hW
  have hcl : s.vm.findClass cls = some ce.cls := by
    have h9 := hO.cls
    rw [hvm] at h9
    exact h9
  have hall : s.sameButNew ({ U with vm := s.vm } : State) locs mc ms := by
    subst hA
    obtain ⟨e1, e2⟩ := hsame
    rw [State.setFrames_setFrames] at e1
    have h2 : (T.setVm s.vm).sameButNew ({ U with vm := s.vm } : State) [] (0 + 1) (0 + 6) := ⟨e1, e2⟩
    have h3 := X.same.trans h2
    rw [List.append_nil] at h3
    exact h3.mono hc hs
  refine ⟨U, ?_, .threw T.heap.size, hrun, hend, Or.inr ⟨T.heap.size, rfl, cls, ce, locs, hx U hWs.alike f1 (fun q hq => f2 q hq (fun z hz => nomatch hz)), hce, hO.vm, hcl, hWs, hall, hf⟩⟩
  refine st1 _ ?_
  show Steps p.tables e below (T1.setTop { method := m, pc := pc + 3, locals := ls, stack := .ref T.heap.size :: rest, locked := none }) _
  jvm_step X₁.here [X₁.here.top, hexec, d3', Value.category]
  exact X₁.ldcStringW hexec (own := own) (text := text) (index := is) (a := sa) hown' hstr'.1 hstr'.2
    (g := { method := m, pc := pc + 4, locals := ls, stack := .ref T.heap.size :: .ref T.heap.size :: rest, locked := none }) rfl d4' _ hsteps
end Ends
section Bodies
variable {l : Launch}
theorem vx_ofW {y : MethodName} {ws ws' : List Cond} {rm : Room} {Pc : Array Value → State → Prop} {Qc : Array Value → State → Outcome → State → Prop} {XC : String → State → State → Prop} {mc ms : Nat} {free : Addr → Prop} {cc : ByteArray} {maxL : Nat} {ret : Option FieldType}
    (hy : plainName y.cls = true) (hw : ws = Cond.code y cc maxL ret :: ws')
    (body : ∀ p e s m args below meth c s₁, BodyLoose p l y (headSpec ws rm) cc maxL ret e s m args below meth c s₁ → c.maxLocals = maxL → (∀ x ∈ c.exceptionTable.toList, False) → Pc args s →
      W p l e (headSpec ws rm).room s m args below meth c s.heap [] 0 0 (vx_MQ below Qc XC args s mc ms free) (entryFrame m args maxL)) : vx_Met l y ws rm Pc Qc XC mc ms free := by
  refine MetFree.of_bodyS (code := cc) (maxLocals := maxL) (ret := ret) hy ?_ ?_
  · intro args s m h hn
    obtain ⟨meth, c, h1, h2, h3, h4, h5, h6, -, -⟩ := Cond.code_spec hn (atoms_spec (ws := ws) h _ (by rw [hw]; exact List.mem_cons_self))
    exact ⟨meth, c, h1, h2, h3, h4, h5, h6⟩
  · intro p e s m args below meth c s₁ B hml hP _
    have hh0 : s₁.heap = s.heap := by rw [B.state]; rfl
    have ht : ∀ x ∈ c.exceptionTable.toList, False := by
      obtain ⟨meth9, c9, h1, h2, -, -, -, -, h7, -⟩ := Cond.code_spec B.named (atoms_spec (ws := ws) B.pre _ (by rw [hw]; exact List.mem_cons_self))
      cases Option.some.inj (h1.symm.trans B.method)
      cases Option.some.inj (h2.symm.trans (Stand.of_body B).code)
      intro x hx
      rw [Array.isEmpty_iff.mp h7] at hx
      cases hx
    obtain ⟨t, a1, o, b1, b2, b3⟩ := body p e s m args below meth c s₁ B hml ht hP s₁ hh0 (Stand.of_body B)
    exact ⟨t, o, a1, b1, b2, b3⟩
/-- the table of a body with handlers -/
theorem vx_table {p : Program} {x y : MethodName} {S : Spec} {cc bytes : ByteArray} {maxL maxL' : Nat} {ret ret' : Option FieldType} {e : Env} {s s₁ : State} {m : MethodId} {args : Array Value} {below : List Frame} {meth : Method} {c : Code} {hh : List (Nat × Nat × Nat × Nat)}
    (B : BodyLoose p l y S cc maxL ret e s m args below meth c s₁) (h : (Cond.codeWith y bytes maxL' ret' hh).before args s = true) : c.exceptionTable.toList = tableOf hh := by
  obtain ⟨m9, meth9, c9, hn9, h1, h2, -, -, h6, -⟩ := Cond.codeWith_spec h
  cases Option.some.inj (hn9.symm.trans B.named)
  cases Option.some.inj (h1.symm.trans B.method)
  cases Option.some.inj (h2.symm.trans (Stand.of_body B).code)
  rw [← h6, table_eq]
end Bodies
end VXA
/-! ===== END ===== -/
/-! ===== BEGIN a static call of a method with an exception table ===== -/
section VXS
variable {p : Program} {l : Launch} {e : Env} {R : Room} {s : State} {m : MethodId} {args : Array Value} {below : List Frame} {meth : Method} {c : Code} {T : State} {H : Heap} {locs : List Loc} {cells slots : Nat}
abbrev vx_CSW (R : Room) (s : State) (args : Array Value) (own : String) (index : Nat) (y : MethodName) (bytes : ByteArray) (maxL : Nat) (ret : Option FieldType) (hh : List (Nat × Nat × Nat × Nat)) (ws : List Cond) (rm : Room) (mc ms n : Nat) : Prop :=
  (rm.cells = mc ∧ rm.slots = ms ∧ rm.frames + 1 ≤ R.frames ∧ 8 + (maxL + 11) + rm.locals ≤ R.locals ∧ (∀ w ∈ ws, ∀ (a' : Array Value) (U : State), s.WarmedH U.vm → w.before a' U = true) ∧ Cond.codeWith y bytes maxL ret hh ∈ ws) ∧
  (Cond.codeWith y bytes maxL ret hh).before args s = true ∧ (Cond.initialized y.cls).before args s = true ∧ (y.cls ≠ "java/lang/invoke/MethodHandle" ∧ y.cls ≠ "java/lang/invoke/VarHandle") ∧
  (∀ sig, parseMethodDescriptor y.desc = some sig → n = sig.parameters.length) ∧ (Cond.methodLink own index y).before args s = true ∧ (Cond.static y).before args s = true
theorem vx_cwSW {own : String} {index maxL mc ms : Nat} {y : MethodName} {bytes : ByteArray} {ret : Option FieldType} {hh : List (Nat × Nat × Nat × Nat)} {Ts ws ws' : List Cond} {rm : Room} (n : Nat) (ht : ∀ w ∈ Ts, w.before args s = true) (hT : GoodIn Ts (va_wsS own index y ws)) (hw : ws = Cond.codeWith y bytes maxL ret hh :: ws') (hrc : rm.cells = mc) (hrs : rm.slots = ms)
    (hd : y.cls ≠ "java/lang/invoke/MethodHandle" ∧ y.cls ≠ "java/lang/invoke/VarHandle" ∧ (parseMethodDescriptor y.desc).map (fun d => d.parameters.length) = some n) (hR : rm.frames + 1 ≤ R.frames ∧ 8 + (maxL + 11) + rm.locals ≤ R.locals) :
    vx_CSW R s args own index y bytes maxL ret hh ws rm mc ms n := by
  have ok : ∀ w ∈ va_wsS own index y ws, w.before args s = true := fun w h => ht w (hT w h).1
  have hG : GoodIn Ts ws := fun w h => hT w (by unfold va_wsS; exact List.mem_append_right _ h)
  have hc : Cond.codeWith y bytes maxL ret hh ∈ ws := by rw [hw]; exact List.mem_cons_self
  refine ⟨⟨hrc, hrs, hR.1, hR.2, pay_in ht hG, hc⟩, ht _ (hG _ hc).1, ok _ (by simp [va_wsS]), ⟨hd.1, hd.2.1⟩, fun sig h => ?_, ok _ (by simp [va_wsS]), ok _ (by simp [va_wsS])⟩
  have h2 := hd.2.2
  rw [h] at h2
  exact (Option.some.inj h2).symm
theorem vx_callSW (X : Stand p l e R s m args below meth c T locs cells slots) (hexec : p.tables.exec = Jvm.exec) {own : String} {index : Nat} {y : MethodName} {bytes : ByteArray} {maxL : Nat} {ret : Option FieldType} {hh : List (Nat × Nat × Nat × Nat)}
    (hown : s.vm.findClass own = some m.cls) (hlink : (Cond.methodLink own index y).before args s = true) (hstat : (Cond.static y).before args s = true) (hinit : (Cond.initialized y.cls).before args s = true)
    (hcode : (Cond.codeWith y bytes maxL ret hh).before args s = true) (hy : y.cls ≠ "java/lang/invoke/MethodHandle" ∧ y.cls ≠ "java/lang/invoke/VarHandle")
    {W9 : Nat} {Pre : Pt → Array Value → Prop} {Post : Pt → Array Value → Option Value → Pt → Prop} (hK : Back l R p e below s args y 3 W9 Pre Post)
    {g : JFrame} (hg : g.method = m) (hsize : g.locals.size = c.maxLocals) {argsL rest : List Value} (hlen : ∀ sig, parseMethodDescriptor y.desc = some sig → argsL.length = sig.parameters.length)
    (hstack : g.stack = argsL.reverse ++ rest) (hW : 2 * g.monitorRoom + (rest.map fun v => v.category).sum ≤ W9) (hdg : decode c.code g.pc = .ok (.invokestatic index, 3))
    (hpre : ∀ vm₁, s.WarmedH vm₁ → Pre ⟨T.setVm vm₁, locs, cells, slots⟩ argsL.toArray) :
    ∃ (v : Option Value) (vm₁ : Vm) (B : Pt), s.WarmedH vm₁ ∧ Stand p l e R s m args below meth c B.U B.locs B.cells B.slots ∧ Post ⟨T.setVm vm₁, locs, cells, slots⟩ argsL.toArray v B ∧
      ∀ target, Steps p.tables e below (B.U.setTop { g with pc := g.pc + 3, stack := v.toList ++ rest }) target → Steps p.tables e below (T.setTop g) target := by
  obtain ⟨mk, methM, cM, hnamed, hmethM, -, -, -, -, -, -, hsigM⟩ := Cond.codeWith_spec hcode
  have hstatic : methM.isStatic = true := Cond.static_spec hnamed hmethM hstat
  obtain ⟨kP, hkP, -⟩ := className_of_methodNamed hnamed
  have hinitP : kP.init = .initialized := Cond.initialized_spec (findClass_of_methodNamed hnamed) hkP hinit
  obtain ⟨vm₁, X₁, hstep₁⟩ := X.invokestatic hexec hown hlink hnamed hmethM hstatic hkP hinitP hy (g := g) hg (argsL := argsL) (rest := rest) (hlen _ hsigM) hstack hdg
  obtain ⟨v, B, X', hpost, hsteps⟩ := hK m meth c ⟨T.setVm vm₁, locs, cells, slots⟩ { g with stack := rest } (.invokestatic index) mk argsL.toArray X₁ hg hsize hdg hW (X₁.named hnamed) (hpre vm₁ X₁.warmed)
  exact ⟨v, vm₁, B, X₁.warmed, X', hpost, fun target h => hstep₁ _ fun acts => by rw [doInvoke_state]; exact hsteps.trans h⟩
theorem vx_runSW {y : MethodName} {bytes cc : ByteArray} {maxL nL mc ms n index : Nat} {ret : Option FieldType} {hh : List (Nat × Nat × Nat × Nat)} {ws : List Cond} {rm : Room} {Pc : Array Value → State → Prop} {Qc : Array Value → State → Outcome → State → Prop} {free : Addr → Prop} {Ts : List Cond} {own : String} {As rest : List Value} {g : JFrame}
    (S : CallFix p m c cc nL s args Ts own) (hM : Met l y ws rm Pc Qc mc ms free) (cw : vx_CSW R s args own index y bytes maxL ret hh ws rm mc ms n) (hp : PreS s H Pc As)
    (hg : g.method = m) (hn : As.length = n) (hsize : g.locals.size = nL) (hstack : g.stack = As.reverse ++ rest) (hW : 2 * g.monitorRoom + (rest.map fun v => v.category).sum ≤ 8) (hdg : decode cc g.pc = .ok (.invokestatic index, 3)) (hf : cells + mc ≤ R.cells ∧ slots + ms ≤ R.slots) :
    va_Run p l e R s m args below meth c H locs cells slots mc ms g rest (Qc As.toArray) (free) := by
  obtain ⟨⟨hrc, hrs, hfr, hlo, hws, hcw⟩, hcode, hini, hy, hlen, hl, hstt⟩ := cw
  have hK : Back l R p e below s args y 3 8 (PreOf R mc ms Pc) (PostOf Qc mc ms free) := va_backW (hh := hh) (bytes := bytes) (maxL := maxL) (ret := ret) hM hp.1 hrc hrs hfr hlo hws hcw (fun a' U hW => word_at hW (Or.inl (by first | rfl | simp [Cond.onTables, Cond.keeps, Cond.steady])) hini)
  obtain ⟨hx, hb, hml, ho, -⟩ := S
  intro T hT X
  obtain ⟨v, vm₁, ⟨U', l2, c2, s2⟩, hW₁, X', ⟨g', mk, t, L, e1, e2, hq, h1, hL, h2, h3⟩, st⟩ := vx_callSW X hx (hh := hh) (bytes := bytes) (maxL := maxL) (ret := ret) ho hl hstt hini hcode hy hK hg (hsize.trans hml.symm) (argsL := As) (rest := rest) (fun sig h => hn.trans (hlen sig h)) hstack hW (by rw [hb]; exact hdg)
    (fun vm₁ hW₁ => ⟨hf.1, hf.2, hp.2 (T.setVm vm₁) hT hW₁⟩)
  dsimp only [Pt.U, Pt.locs, Pt.cells, Pt.slots] at X' e1 e2 h1 h2 h3 st
  subst h1; subst h2; subst h3
  exact ⟨v, (T.setVm vm₁).calling g' mk As.toArray, t, U', L, hT, X', hL, e1, e2, hq, st⟩
/-- not caught here, past rows that name other classes: it goes on to the caller -/
theorem vx_outP {p : Program} {l : Launch} {e : Env} {R : Room} {s : State} {m : MethodId} {args : Array Value} {below : List Frame} {meth : Method} {c : Code} {H : Heap} {locs : List Loc} {cells slots : Nat} {free : Addr → Prop} {ls : Array Slot} {rest : List Value} {Qc : Array Value → State → Outcome → State → Prop} {XC : String → State → State → Prop}
    {pc : Nat} {own E : String} {ce : Cell} {q : Addr} {mc ms : Nat} (hown : s.vm.findClass own = some m.cls) (hlocks : meth.locks = false)
    (hpass : ∀ z ∈ c.exceptionTable.toList, covers z pc = false ∨ (z.catchType ≠ 0 ∧ ∃ nm : String, (Cond.classLink own z.catchType nm).before args s = true ∧ va_Nc E nm s)) (hcell : H[q]? = some ce) (hv : ce.vm = .none) (hcl : s.vm.findClass E = some ce.cls)
    (hx : ∀ t : State, t.heap = H → s.vm.Alike t.vm → XC E s t) (hf : ∀ z ∈ locs, free z.base) (hc : cells ≤ mc) (hs : slots ≤ ms) :
    vx_W p l e R s m args below meth c H locs cells slots (vx_MQ below Qc XC args s mc ms free) (F0 m pc ls rest) q := by
  intro T hT X
  have hpl : e.platform.magicAccessors = ({} : Platform).magicAccessors := by rw [X.admits.platform]
  obtain ⟨vm', hW', X', st⟩ := X.outThrough hlocks q (g := F0 m pc ls rest) rfl rfl rfl (cell := ce) (by rw [hT]; exact hcell) (by rw [hv]; rfl)
    (by obtain ⟨k9, h9, -⟩ := Vm.findClass_spec hcl; exact ⟨k9, h9⟩) (fun z hz => by
      rcases hpass z hz with h | ⟨hz0, nm, hl1, hn1⟩
      · exact Or.inl h
      · obtain ⟨c6, hc6, hcl6⟩ := Cond.classLink_spec hown hl1 e.platform hpl
        obtain ⟨a8, b8, h1, h2, h3⟩ := hn1
        cases Option.some.inj (h1.symm.trans hcl)
        cases Option.some.inj (h2.symm.trans hc6)
        exact Or.inr ⟨hz0, _, hcl6, h3⟩)
  obtain ⟨g₀, hfr⟩ := X'.frames_eq
  have hcell9 : ((T.setVm vm').setFrames (.throwing q :: below)).heap[q]? = some ce := by
    show T.heap[q]? = some ce
    rw [hT]; exact hcell
  have hend : Ended ((T.setVm vm').setFrames (.throwing q :: below)) below (.threw q) := State.frames_setFrames _ (State.cur_lt_of_frames hfr)
  refine ⟨(T.setVm vm').setFrames (.throwing q :: below), ?_, .threw q, X'.here.running, hend, Or.inr ⟨q, rfl, E, ce, locs, hx _ hT (X'.ends _).1.alike, hcell9, hv, hcl, (X'.ends _).1, (X'.ends _).2.mono hc hs, hf⟩⟩
  rw [X.pushThrowing_eq]
  exact st
/-- a thing of a world lies in the heap -/
theorem vx_lt {D : va_G} {cl : List vw_C} {ws : va_W} {H1 : Heap} (h : va_P D cl ws H1) {k : Nat} {q : Nat × va_E} (hk : ws[k]? = some q) : q.1 < H1.size := (h k q hk).lt
end VXS
/-! ===== END ===== -/
/-! ===== BEGIN methods with a table of their own: called by a name, returning or throwing ===== -/
section VXH
/-! vx_backW, vx_callVX, vx_callSX, vx_callVW, vx_runVW, vx_runVX, vx_runSX, vx_ofWH follow the same proofs as their sisters above (Free/Laws.lean, Shelf42/LK1.lean); vx_outP calls Shelf42/NT130.lean (outThrough). -/
section
variable {l : Launch} {R : Room} {p : Program} {e : Env} {below : List Frame} {s : State} {sargs : Array Value} {y : MethodName} {len W9 : Nat}
theorem vx_backW {ws : List Cond} {rm : Room} {Pc : Array Value → State → Prop} {Qc : Array Value → State → Outcome → State → Prop} {XC : String → State → State → Prop} {mc ms : Nat} {free : Addr → Prop} {bytes : ByteArray} {maxL : Nat} {ret : Option FieldType} {hh : List (Nat × Nat × Nat × Nat)}
    (hM : vx_Met l y ws rm Pc Qc XC mc ms free) (hblind : FrameBlind Pc) (hrc : rm.cells = mc) (hrs : rm.slots = ms)
    (hframes : rm.frames + 1 ≤ R.frames) (hlocals : W9 + (maxL + 11) + rm.locals ≤ R.locals)
    (hws : ∀ w ∈ ws, ∀ a' U, s.WarmedH U.vm → w.before a' U = true) (hcode : Cond.codeWith y bytes maxL ret hh ∈ ws) (hinit : ∀ a' U, s.WarmedH U.vm → (Cond.initialized y.cls).before a' U = true) :
    vx_Back l R p e below s sargs y len W9 (PreOf R mc ms Pc) (PostOf Qc mc ms free) (vx_Post XC mc ms free) := by
  intro m meth c A g ig mk a X hg hsize hdg hW hn hp
  have h1 : (headSpec ws rm).pre.before a A.U = true := atoms_intro fun w hw => hws w hw _ _ X.warmed
  have h2 : (Cond.codeWith y bytes maxL ret hh).before a A.U = true := hws _ hcode _ _ X.warmed
  have h3 : (Cond.initialized y.cls).before a A.U = true := hinit _ _ X.warmed
  have h4 : A.cells + (headSpec ws rm).room.cells ≤ R.cells := by rw [show (headSpec ws rm).room.cells = mc from hrc]; exact hp.1
  have h5 : A.slots + (headSpec ws rm).room.slots ≤ R.slots := by rw [show (headSpec ws rm).room.slots = ms from hrs]; exact hp.2.1
  have hPc : Pc a (A.U.calling g mk a) := hblind _ _ _ _ hp.2.2
  obtain ⟨U, Ls, c0, s0⟩ := A
  dsimp only [Pt.U, Pt.locs, Pt.cells, Pt.slots] at h1 h2 h3 h4 h5 X hn hPc ⊢
  obtain ⟨m9, methY, cY, hn9, hmY, hcY, -, hlY, -⟩ := Cond.codeWith_spec h2
  cases Option.some.inj (hn9.symm.trans hn)
  obtain ⟨kY, hkY, -⟩ := className_of_methodNamed hn
  have hinitY : kY.init = .initialized := Cond.initialized_spec (findClass_of_methodNamed hn) hkY h3
  have h : At U g.method c below := by rw [hg]; exact X.here
  have hlocals9 : W9 + (maxL + 11) + (headSpec ws rm).room.locals ≤ R.locals := hlocals
  have happ : (headSpec ws rm).appliesLoose y e.platform (U.calling g mk a) = true :=
    Spec.appliesLoose_calling (g := g) h hdg hn hkY hinitY
      (X.room_calling (g := g) (R' := (headSpec ws rm).room) hsize hmY hcY hframes (by rw [hlY]; omega) h4 h5) h1
  obtain ⟨mid, hmid⟩ := h.above
  have hfr : (U.setTop g).frames = (.java g :: mid) ++ below := by rw [State.frames_setTop' g h.top, hmid]; rfl
  obtain ⟨o, s₂, hsteps, -, hend, hq⟩ := Steps.callFree hM p X.admits X.cas X.clock (acts := []) hfr happ hPc trivial
  have hq' : vx_Q Qc XC mc ms free a (U.calling g mk a) o s₂ := hq
  rw [State.frames_setTop' g h.top] at hend
  obtain ⟨g₀, hg0⟩ := Option.isSome_iff_exists.mp h.top
  obtain ⟨r, hr⟩ := State.topJava?_eq_some.mp hg0
  have hr' : (({ U with heap := s₂.heap, slotsUsed := s₂.slotsUsed } : State).setVm s₂.vm).frames = .java g₀ :: r := hr
  rcases hq' with ⟨hqc, L, hfe, hL⟩ | ⟨q, rfl, E, ce, L, hx, hce, hcv, hcl, hW₂, hsm, hL⟩
  · obtain ⟨⟨v, rfl⟩, hW₂, e2, q2, q3, q4, q5, q6⟩ := id hfe
    have e3 : s₂ = ({ (U.calling g mk a).setFrames s₂.frames with heap := s₂.heap, slotsUsed := s₂.slotsUsed } : State).setVm s₂.vm := by
      have : s₂ = ({ s₂ with vm := (U.calling g mk a).vm } : State).setVm s₂.vm := rfl
      rw [e2] at this
      exact this
    obtain ⟨c₂, i₂, len₂, hc₂, hd₂, hf₂⟩ := hend
    have hW' : U.WarmedH s₂.vm := hW₂
    have hcc : c₂ = c := by
      have h1 : s₂.code? g.method = U.code? g.method := by
        rw [State.code?_eq, State.code?_eq, hW'.alike.method?]
      exact Option.some.inj (hc₂.symm.trans (h1.trans h.code))
    subst hcc
    have hlen : len₂ = len := by rw [hdg] at hd₂; cases hd₂; rfl
    subst hlen
    have hs₂ : s₂ = (({ U with heap := s₂.heap, slotsUsed := s₂.slotsUsed } : State).setVm s₂.vm).setTop { g with pc := g.pc + len₂, stack := v.toList ++ g.stack } := by
      refine e3.trans ?_
      rw [hf₂, State.calling_eq h.top, State.setFrames_setFrames, State.setTop_of_frames _ hr', hr]
      rfl
    have hsame : U.sameButNew ({ U with heap := s₂.heap, slotsUsed := s₂.slotsUsed } : State) L mc ms := by
      refine ⟨?_, q2, q3, q4, q5, q6⟩
      obtain ⟨t, ht, -⟩ := State.frames_cons hr
      show ({ U with heap := s₂.heap, slotsUsed := s₂.slotsUsed } : State) = { U.setFrames U.frames with heap := s₂.heap, slotsUsed := s₂.slotsUsed }
      rw [State.setFrames_self ht]
    subst hg
    refine Or.inl ⟨v, ⟨(({ U with heap := s₂.heap, slotsUsed := s₂.slotsUsed } : State).setVm s₂.vm), Ls ++ L, c0 + mc, s0 + ms⟩,
      ⟨X.admits, X.cas, X.clock, X.frames, X.room, X.hears, X.method, X.code, (X.here.setHeapUsed s₂.heap s₂.slotsUsed).setVm hW'.alike, X.tail, State.WarmedH.trans X.warmed hW', X.limits, X.bytes, X.same.trans (hsame.setVm s.vm)⟩,
      ⟨g, mk, s₂, L, rfl, rfl, hqc, rfl, hL, rfl, rfl⟩, ?_⟩
    show Steps p.tables e below _ ((({ U with heap := s₂.heap, slotsUsed := s₂.slotsUsed } : State).setVm s₂.vm).setTop { g with pc := g.pc + len₂, stack := v.toList ++ g.stack })
    rw [← hs₂]
    exact hsteps
  · obtain ⟨e2, q2, q3, q4, q5, q6⟩ := id hsm
    have e3 : s₂ = ({ (U.calling g mk a).setFrames s₂.frames with heap := s₂.heap, slotsUsed := s₂.slotsUsed } : State).setVm s₂.vm := by
      have : s₂ = ({ s₂ with vm := (U.calling g mk a).vm } : State).setVm s₂.vm := rfl
      rw [e2] at this
      exact this
    have hf₂ : s₂.frames = .throwing q :: .java g :: U.frames.tail := hend
    have hW' : U.WarmedH s₂.vm := hW₂
    have hs₂ : s₂ = ((({ U with heap := s₂.heap, slotsUsed := s₂.slotsUsed } : State).setVm s₂.vm).setTop g).pushFrame (.throwing q) := by
      refine e3.trans ?_
      rw [hf₂, State.calling_eq h.top, State.setFrames_setFrames, State.pushFrame, State.frames_setTop _ hr', State.setTop_of_frames _ hr', State.setFrames_setFrames, hr]
      rfl
    have hsame : U.sameButNew ({ U with heap := s₂.heap, slotsUsed := s₂.slotsUsed } : State) L mc ms := by
      refine ⟨?_, q2, q3, q4, q5, q6⟩
      obtain ⟨t, ht, -⟩ := State.frames_cons hr
      show ({ U with heap := s₂.heap, slotsUsed := s₂.slotsUsed } : State) = { U.setFrames U.frames with heap := s₂.heap, slotsUsed := s₂.slotsUsed }
      rw [State.setFrames_self ht]
    subst hg
    refine Or.inr ⟨q, ⟨(({ U with heap := s₂.heap, slotsUsed := s₂.slotsUsed } : State).setVm s₂.vm), Ls ++ L, c0 + mc, s0 + ms⟩,
      ⟨X.admits, X.cas, X.clock, X.frames, X.room, X.hears, X.method, X.code, (X.here.setHeapUsed s₂.heap s₂.slotsUsed).setVm hW'.alike, X.tail, State.WarmedH.trans X.warmed hW', X.limits, X.bytes, X.same.trans (hsame.setVm s.vm)⟩,
      ⟨g, mk, s₂, L, E, ce, rfl, rfl, hx, hce, hcv, hcl, rfl, hL, rfl, rfl⟩, ?_⟩
    show Steps p.tables e below _ (((({ U with heap := s₂.heap, slotsUsed := s₂.slotsUsed } : State).setVm s₂.vm).setTop g).pushFrame (.throwing q))
    rw [← hs₂]
    exact hsteps
end
variable {p : Program} {l : Launch} {e : Env} {R : Room} {s : State} {m : MethodId} {args : Array Value} {below : List Frame} {meth : Method} {c : Code} {T : State} {H : Heap} {locs : List Loc} {cells slots : Nat}
theorem vx_callVX (X : Stand p l e R s m args below meth c T locs cells slots) (hexec : p.tables.exec = Jvm.exec) {own C : String} {index : Nat} {y : MethodName} {bytes : ByteArray} {maxL : Nat} {ret : Option FieldType} {hh : List (Nat × Nat × Nat × Nat)}
    (hown : s.vm.findClass own = some m.cls) (hlink : (Cond.methodLink own index y).before args s = true) (hinst : (Cond.instanceMethod y).before args s = true) (hsel : (Cond.selects C y y).before args s = true)
    (hcode : (Cond.codeWith y bytes maxL ret hh).before args s = true) (hy : y.cls ≠ "java/lang/invoke/MethodHandle" ∧ y.cls ≠ "java/lang/invoke/VarHandle")
    {W9 : Nat} {Pre : Pt → Array Value → Prop} {Post : Pt → Array Value → Option Value → Pt → Prop} {PostX : Pt → Array Value → Addr → Pt → Prop} (hK : vx_Back l R p e below s args y 3 W9 Pre Post PostX)
    {b : Addr} {cellB : Cell} (hcell : T.heap[b]? = some cellB) (hobj : cellB.vm.isStatics = false) (hcls : s.vm.findClass C = some cellB.cls)
    {g : JFrame} (hg : g.method = m) (hsize : g.locals.size = c.maxLocals) {argsL rest : List Value} (hlen : ∀ sig, parseMethodDescriptor y.desc = some sig → argsL.length = sig.parameters.length)
    (hstack : g.stack = argsL.reverse ++ .ref b :: rest) (hW : 2 * g.monitorRoom + (rest.map fun v => v.category).sum ≤ W9) (hdg : decode c.code g.pc = .ok (.invokevirtual index, 3))
    (hpre : ∀ vm₁, s.WarmedH vm₁ → Pre ⟨T.setVm vm₁, locs, cells, slots⟩ (Value.ref b :: argsL).toArray) :
    (∃ (v : Option Value) (vm₁ : Vm) (B : Pt), s.WarmedH vm₁ ∧ Stand p l e R s m args below meth c B.U B.locs B.cells B.slots ∧ Post ⟨T.setVm vm₁, locs, cells, slots⟩ (Value.ref b :: argsL).toArray v B ∧
      ∀ target, Steps p.tables e below (B.U.setTop { g with pc := g.pc + 3, stack := v.toList ++ rest }) target → Steps p.tables e below (T.setTop g) target) ∨
    (∃ (q : Addr) (vm₁ : Vm) (B : Pt), s.WarmedH vm₁ ∧ Stand p l e R s m args below meth c B.U B.locs B.cells B.slots ∧ PostX ⟨T.setVm vm₁, locs, cells, slots⟩ (Value.ref b :: argsL).toArray q B ∧
      Steps p.tables e below (T.setTop g) ((B.U.setTop { g with stack := rest }).pushFrame (.throwing q))) := by
  obtain ⟨mk, methM, hnamed, hmethM, hstM, habM⟩ := Cond.instanceMethod_spec hinst
  obtain ⟨m8, methM', cM, hn8, hmethM', -, -, -, -, -, -, hsigM⟩ := Cond.codeWith_spec hcode
  cases Option.some.inj (hn8.symm.trans hnamed)
  cases hmethM.symm.trans hmethM'
  obtain ⟨c2, r2, m2, q1, q2, q3, q4, kP, hkP, hkPi⟩ := Cond.selects_spec hsel
  cases hcls.symm.trans q1
  cases (State.methodFound?_of_named hnamed hy).symm.trans q2
  cases hnamed.symm.trans q3
  have hselP : selectMethod e.platform s.vm cellB.cls mk = .method mk := by rw [Launch.admits_selectMethod X.admits]; exact q4
  obtain ⟨vm₁, X₁, hstep₁⟩ := X.invokevirtual hexec hown hlink hnamed hmethM hstM hkP hkPi hy (a := b) (cell := cellB) hcell
    (fun z h => by rw [h] at hobj; cases hobj) hselP hmethM habM hkP hkPi (g := g) hg (argsL := argsL) (rest := rest) (hlen _ hsigM) hstack hdg
  rcases hK m meth c ⟨T.setVm vm₁, locs, cells, slots⟩ { g with stack := rest } (.invokevirtual index) mk (Value.ref b :: argsL).toArray X₁ hg hsize hdg hW (X₁.named hnamed) (hpre vm₁ X₁.warmed) with ⟨v, B, X', hpost, hsteps⟩ | ⟨q, B, X', hpost, hsteps⟩
  · exact Or.inl ⟨v, vm₁, B, X₁.warmed, X', hpost, fun target h => hstep₁ _ fun acts => by rw [doInvoke_state]; exact hsteps.trans h⟩
  · exact Or.inr ⟨q, vm₁, B, X₁.warmed, X', hpost, hstep₁ _ fun acts => by rw [doInvoke_state]; exact hsteps⟩
theorem vx_callSX (X : Stand p l e R s m args below meth c T locs cells slots) (hexec : p.tables.exec = Jvm.exec) {own : String} {index : Nat} {y : MethodName} {bytes : ByteArray} {maxL : Nat} {ret : Option FieldType} {hh : List (Nat × Nat × Nat × Nat)}
    (hown : s.vm.findClass own = some m.cls) (hlink : (Cond.methodLink own index y).before args s = true) (hstat : (Cond.static y).before args s = true) (hinit : (Cond.initialized y.cls).before args s = true)
    (hcode : (Cond.codeWith y bytes maxL ret hh).before args s = true) (hy : y.cls ≠ "java/lang/invoke/MethodHandle" ∧ y.cls ≠ "java/lang/invoke/VarHandle")
    {W9 : Nat} {Pre : Pt → Array Value → Prop} {Post : Pt → Array Value → Option Value → Pt → Prop} {PostX : Pt → Array Value → Addr → Pt → Prop} (hK : vx_Back l R p e below s args y 3 W9 Pre Post PostX)
    {g : JFrame} (hg : g.method = m) (hsize : g.locals.size = c.maxLocals) {argsL rest : List Value} (hlen : ∀ sig, parseMethodDescriptor y.desc = some sig → argsL.length = sig.parameters.length)
    (hstack : g.stack = argsL.reverse ++ rest) (hW : 2 * g.monitorRoom + (rest.map fun v => v.category).sum ≤ W9) (hdg : decode c.code g.pc = .ok (.invokestatic index, 3))
    (hpre : ∀ vm₁, s.WarmedH vm₁ → Pre ⟨T.setVm vm₁, locs, cells, slots⟩ argsL.toArray) :
    (∃ (v : Option Value) (vm₁ : Vm) (B : Pt), s.WarmedH vm₁ ∧ Stand p l e R s m args below meth c B.U B.locs B.cells B.slots ∧ Post ⟨T.setVm vm₁, locs, cells, slots⟩ argsL.toArray v B ∧
      ∀ target, Steps p.tables e below (B.U.setTop { g with pc := g.pc + 3, stack := v.toList ++ rest }) target → Steps p.tables e below (T.setTop g) target) ∨
    (∃ (q : Addr) (vm₁ : Vm) (B : Pt), s.WarmedH vm₁ ∧ Stand p l e R s m args below meth c B.U B.locs B.cells B.slots ∧ PostX ⟨T.setVm vm₁, locs, cells, slots⟩ argsL.toArray q B ∧
      Steps p.tables e below (T.setTop g) ((B.U.setTop { g with stack := rest }).pushFrame (.throwing q))) := by
  obtain ⟨mk, methM, cM, hnamed, hmethM, -, -, -, -, -, -, hsigM⟩ := Cond.codeWith_spec hcode
  have hstatic : methM.isStatic = true := Cond.static_spec hnamed hmethM hstat
  obtain ⟨kP, hkP, -⟩ := className_of_methodNamed hnamed
  have hinitP : kP.init = .initialized := Cond.initialized_spec (findClass_of_methodNamed hnamed) hkP hinit
  obtain ⟨vm₁, X₁, hstep₁⟩ := X.invokestatic hexec hown hlink hnamed hmethM hstatic hkP hinitP hy (g := g) hg (argsL := argsL) (rest := rest) (hlen _ hsigM) hstack hdg
  rcases hK m meth c ⟨T.setVm vm₁, locs, cells, slots⟩ { g with stack := rest } (.invokestatic index) mk argsL.toArray X₁ hg hsize hdg hW (X₁.named hnamed) (hpre vm₁ X₁.warmed) with ⟨v, B, X', hpost, hsteps⟩ | ⟨q, B, X', hpost, hsteps⟩
  · exact Or.inl ⟨v, vm₁, B, X₁.warmed, X', hpost, fun target h => hstep₁ _ fun acts => by rw [doInvoke_state]; exact hsteps.trans h⟩
  · exact Or.inr ⟨q, vm₁, B, X₁.warmed, X', hpost, hstep₁ _ fun acts => by rw [doInvoke_state]; exact hsteps⟩
theorem vx_callVW (X : Stand p l e R s m args below meth c T locs cells slots) (hexec : p.tables.exec = Jvm.exec) {own C : String} {index : Nat} {y : MethodName} {bytes : ByteArray} {maxL : Nat} {ret : Option FieldType} {hh : List (Nat × Nat × Nat × Nat)}
    (hown : s.vm.findClass own = some m.cls) (hlink : (Cond.methodLink own index y).before args s = true) (hinst : (Cond.instanceMethod y).before args s = true) (hsel : (Cond.selects C y y).before args s = true)
    (hcode : (Cond.codeWith y bytes maxL ret hh).before args s = true) (hy : y.cls ≠ "java/lang/invoke/MethodHandle" ∧ y.cls ≠ "java/lang/invoke/VarHandle")
    {W9 : Nat} {Pre : Pt → Array Value → Prop} {Post : Pt → Array Value → Option Value → Pt → Prop} (hK : Back l R p e below s args y 3 W9 Pre Post)
    {b : Addr} {cellB : Cell} (hcell : T.heap[b]? = some cellB) (hobj : cellB.vm.isStatics = false) (hcls : s.vm.findClass C = some cellB.cls)
    {g : JFrame} (hg : g.method = m) (hsize : g.locals.size = c.maxLocals) {argsL rest : List Value} (hlen : ∀ sig, parseMethodDescriptor y.desc = some sig → argsL.length = sig.parameters.length)
    (hstack : g.stack = argsL.reverse ++ .ref b :: rest) (hW : 2 * g.monitorRoom + (rest.map fun v => v.category).sum ≤ W9) (hdg : decode c.code g.pc = .ok (.invokevirtual index, 3))
    (hpre : ∀ vm₁, s.WarmedH vm₁ → Pre ⟨T.setVm vm₁, locs, cells, slots⟩ (Value.ref b :: argsL).toArray) :
    ∃ (v : Option Value) (vm₁ : Vm) (B : Pt), s.WarmedH vm₁ ∧ Stand p l e R s m args below meth c B.U B.locs B.cells B.slots ∧ Post ⟨T.setVm vm₁, locs, cells, slots⟩ (Value.ref b :: argsL).toArray v B ∧
      ∀ target, Steps p.tables e below (B.U.setTop { g with pc := g.pc + 3, stack := v.toList ++ rest }) target → Steps p.tables e below (T.setTop g) target := by
  obtain ⟨mk, methM, hnamed, hmethM, hstM, habM⟩ := Cond.instanceMethod_spec hinst
  obtain ⟨m8, methM', cM, hn8, hmethM', -, -, -, -, -, -, hsigM⟩ := Cond.codeWith_spec hcode
  cases Option.some.inj (hn8.symm.trans hnamed)
  cases hmethM.symm.trans hmethM'
  obtain ⟨c2, r2, m2, q1, q2, q3, q4, kP, hkP, hkPi⟩ := Cond.selects_spec hsel
  cases hcls.symm.trans q1
  cases (State.methodFound?_of_named hnamed hy).symm.trans q2
  cases hnamed.symm.trans q3
  have hselP : selectMethod e.platform s.vm cellB.cls mk = .method mk := by rw [Launch.admits_selectMethod X.admits]; exact q4
  obtain ⟨vm₁, X₁, hstep₁⟩ := X.invokevirtual hexec hown hlink hnamed hmethM hstM hkP hkPi hy (a := b) (cell := cellB) hcell
    (fun z h => by rw [h] at hobj; cases hobj) hselP hmethM habM hkP hkPi (g := g) hg (argsL := argsL) (rest := rest) (hlen _ hsigM) hstack hdg
  obtain ⟨v, B, X', hpost, hsteps⟩ := hK m meth c ⟨T.setVm vm₁, locs, cells, slots⟩ { g with stack := rest } (.invokevirtual index) mk (Value.ref b :: argsL).toArray X₁ hg hsize hdg hW (X₁.named hnamed) (hpre vm₁ X₁.warmed)
  exact ⟨v, vm₁, B, X₁.warmed, X', hpost, fun target h => hstep₁ _ fun acts => by rw [doInvoke_state]; exact hsteps.trans h⟩
abbrev vx_CVW (R : Room) (s : State) (args : Array Value) (own C : String) (index : Nat) (y : MethodName) (bytes : ByteArray) (maxL : Nat) (ret : Option FieldType) (hh : List (Nat × Nat × Nat × Nat)) (ws : List Cond) (rm : Room) (mc ms n : Nat) : Prop :=
  (rm.cells = mc ∧ rm.slots = ms ∧ rm.frames + 1 ≤ R.frames ∧ 8 + (maxL + 11) + rm.locals ≤ R.locals ∧ (∀ w ∈ ws, ∀ (a' : Array Value) (U : State), s.WarmedH U.vm → w.before a' U = true) ∧ Cond.codeWith y bytes maxL ret hh ∈ ws) ∧
  (Cond.codeWith y bytes maxL ret hh).before args s = true ∧ (Cond.initialized y.cls).before args s = true ∧ (y.cls ≠ "java/lang/invoke/MethodHandle" ∧ y.cls ≠ "java/lang/invoke/VarHandle") ∧
  (∀ sig, parseMethodDescriptor y.desc = some sig → n = sig.parameters.length) ∧ (Cond.methodLink own index y).before args s = true ∧ (Cond.instanceMethod y).before args s = true ∧ (Cond.selects C y y).before args s = true
theorem vx_cwVW {own C : String} {index maxL mc ms : Nat} {y : MethodName} {bytes : ByteArray} {ret : Option FieldType} {hh : List (Nat × Nat × Nat × Nat)} {Ts ws ws' : List Cond} {rm : Room} (n : Nat) (ht : ∀ w ∈ Ts, w.before args s = true) (hT : GoodIn Ts (wsV own index C y ws)) (hw : ws = Cond.codeWith y bytes maxL ret hh :: ws') (hrc : rm.cells = mc) (hrs : rm.slots = ms)
    (hd : y.cls = C ∧ y.cls ≠ "java/lang/invoke/MethodHandle" ∧ y.cls ≠ "java/lang/invoke/VarHandle" ∧ (parseMethodDescriptor y.desc).map (fun d => d.parameters.length) = some n) (hR : rm.frames + 1 ≤ R.frames ∧ 8 + (maxL + 11) + rm.locals ≤ R.locals) :
    vx_CVW R s args own C index y bytes maxL ret hh ws rm mc ms n := by
  obtain ⟨hC, hd⟩ := hd
  subst hC
  have ok : ∀ w ∈ wsV own index y.cls y ws, w.before args s = true := fun w h => ht w (hT w h).1
  have hG : GoodIn Ts ws := fun w h => hT w (by unfold wsV; exact List.mem_append_right _ h)
  have hc : Cond.codeWith y bytes maxL ret hh ∈ ws := by rw [hw]; exact List.mem_cons_self
  refine ⟨⟨hrc, hrs, hR.1, hR.2, pay_in ht hG, hc⟩, ht _ (hG _ hc).1, ok _ (by simp [wsV]), ⟨hd.1, hd.2.1⟩, fun sig h => ?_, ok _ (by simp [wsV]), ok _ (by simp [wsV]), ok _ (by simp [wsV])⟩
  have h2 := hd.2.2
  rw [h] at h2
  exact (Option.some.inj h2).symm
theorem vx_runVW {y : MethodName} {bytes cc : ByteArray} {maxL nL mc ms n index : Nat} {ret : Option FieldType} {hh : List (Nat × Nat × Nat × Nat)} {ws : List Cond} {rm : Room} {Pc : Array Value → State → Prop} {Qc : Array Value → State → Outcome → State → Prop} {free : Addr → Prop} {Ts : List Cond} {own C : String} {b : Addr} {As rest : List Value} {g : JFrame}
    (S : CallFix p m c cc nL s args Ts own) (hM : Met l y ws rm Pc Qc mc ms free) (cw : vx_CVW R s args own C index y bytes maxL ret hh ws rm mc ms n) (hp : PreV s H C b Pc As)
    (hg : g.method = m) (hn : As.length = n) (hsize : g.locals.size = nL) (hstack : g.stack = As.reverse ++ .ref b :: rest) (hW : 2 * g.monitorRoom + (rest.map fun v => v.category).sum ≤ 8) (hdg : decode cc g.pc = .ok (.invokevirtual index, 3)) (hf : cells + mc ≤ R.cells ∧ slots + ms ≤ R.slots) :
    va_Run p l e R s m args below meth c H locs cells slots mc ms g rest (Qc (Value.ref b :: As).toArray) free := by
  obtain ⟨⟨hrc, hrs, hfr, hlo, hws, hcw⟩, hcode, hini, hy, hlen, hl, hin, hse⟩ := cw
  have hK : Back l R p e below s args y 3 8 (PreOf R mc ms Pc) (PostOf Qc mc ms free) := va_backW (hh := hh) (bytes := bytes) (maxL := maxL) (ret := ret) hM hp.1 hrc hrs hfr hlo hws hcw (fun a' U hW => word_at hW (Or.inl (by first | rfl | simp [Cond.onTables, Cond.keeps, Cond.steady])) hini)
  obtain ⟨hx, hb, hml, ho, -⟩ := S
  obtain ⟨-, ⟨cellB, hcB, hoB, hclB⟩, hPc⟩ := hp
  intro T hT X
  obtain ⟨v, vm₁, ⟨U', l2, c2, s2⟩, hW₁, X', ⟨g', mk, t, L, e1, e2, hq, h1, hL, h2, h3⟩, st⟩ := vx_callVW X hx (C := C) (hh := hh) (bytes := bytes) (maxL := maxL) (ret := ret) ho hl hin hse hcode hy hK (by rw [hT]; exact hcB) hoB hclB hg (hsize.trans hml.symm) (argsL := As) (rest := rest) (fun sig h => hn.trans (hlen sig h)) hstack hW (by rw [hb]; exact hdg)
    (fun vm₁ hW₁ => ⟨hf.1, hf.2, hPc (T.setVm vm₁) hT hW₁⟩)
  dsimp only [Pt.U, Pt.locs, Pt.cells, Pt.slots] at X' e1 e2 h1 h2 h3 st
  subst h1; subst h2; subst h3
  exact ⟨v, (T.setVm vm₁).calling g' mk (Value.ref b :: As).toArray, t, U', L, hT, X', hL, e1, e2, hq, st⟩
section
variable {y : MethodName} {bytes cc : ByteArray} {maxL nL mc ms n index : Nat} {ret : Option FieldType} {ws : List Cond} {rm : Room} {Pc : Array Value → State → Prop} {Qc : Array Value → State → Outcome → State → Prop} {XC : String → State → State → Prop} {free : Addr → Prop} {Ts : List Cond} {own C : String} {b : Addr} {As rest : List Value} {g : JFrame}
theorem vx_runVX {hh : List (Nat × Nat × Nat × Nat)} (S : CallFix p m c cc nL s args Ts own) (hM : vx_Met l y ws rm Pc Qc XC mc ms free) (cw : vx_CVW R s args own C index y bytes maxL ret hh ws rm mc ms n) (hp : PreV s H C b Pc As)
    (hg : g.method = m) (hn : As.length = n) (hsize : g.locals.size = nL) (hstack : g.stack = As.reverse ++ .ref b :: rest) (hW : 2 * g.monitorRoom + (rest.map fun v => v.category).sum ≤ 8) (hdg : decode cc g.pc = .ok (.invokevirtual index, 3)) (hf : cells + mc ≤ R.cells ∧ slots + ms ≤ R.slots) :
    vx_Run p l e R s m args below meth c H locs cells slots mc ms g rest (Qc (Value.ref b :: As).toArray) XC free := by
  obtain ⟨⟨hrc, hrs, hfr, hlo, hws, hcw⟩, hcode, hini, hy, hlen, hl, hin, hse⟩ := cw
  have hK : vx_Back l R p e below s args y 3 8 (PreOf R mc ms Pc) (PostOf Qc mc ms free) (vx_Post XC mc ms free) := vx_backW (hh := hh) (bytes := bytes) (maxL := maxL) (ret := ret) hM hp.1 hrc hrs hfr hlo hws hcw (fun a' U hW => word_at hW (Or.inl (by first | rfl | simp [Cond.onTables, Cond.keeps, Cond.steady])) hini)
  obtain ⟨hx, hb, hml, ho, -⟩ := S
  obtain ⟨-, ⟨cellB, hcB, hoB, hclB⟩, hPc⟩ := hp
  intro T hT X
  rcases vx_callVX X hx (C := C) (hh := hh) (bytes := bytes) (maxL := maxL) (ret := ret) ho hl hin hse hcode hy hK (by rw [hT]; exact hcB) hoB hclB hg (hsize.trans hml.symm) (argsL := As) (rest := rest) (fun sig h => hn.trans (hlen sig h)) hstack hW (by rw [hb]; exact hdg)
    (fun vm₁ hW₁ => ⟨hf.1, hf.2, hPc (T.setVm vm₁) hT hW₁⟩) with ⟨v, vm₁, ⟨U', l2, c2, s2⟩, hW₁, X', ⟨g', mk, t, L, e1, e2, hq, h1, hL, h2, h3⟩, st⟩ | ⟨q, vm₁, ⟨U', l2, c2, s2⟩, hW₁, X', ⟨g', mk, t, L, E, ce, e1, e2, hq, hce, hcv, hcl, h1, hL, h2, h3⟩, st⟩
  · dsimp only [Pt.U, Pt.locs, Pt.cells, Pt.slots] at X' e1 e2 h1 h2 h3 st
    subst h1; subst h2; subst h3
    exact Or.inl ⟨v, (T.setVm vm₁).calling g' mk (Value.ref b :: As).toArray, t, U', L, hT, X', hL, e1, e2, hq, st⟩
  · dsimp only [Pt.U, Pt.locs, Pt.cells, Pt.slots] at X' e1 e2 h1 h2 h3 st hcl
    subst h1; subst h2; subst h3
    exact Or.inr ⟨q, (T.setVm vm₁).calling g' mk (Value.ref b :: As).toArray, t, U', L, E, ce, hT, X', hL, e1, e2, hq, hce, hcv, vx_cls hW₁ hcl, st⟩
theorem vx_runSX {hh : List (Nat × Nat × Nat × Nat)} (S : CallFix p m c cc nL s args Ts own) (hM : vx_Met l y ws rm Pc Qc XC mc ms free) (cw : vx_CSW R s args own index y bytes maxL ret hh ws rm mc ms n) (hp : PreS s H Pc As)
    (hg : g.method = m) (hn : As.length = n) (hsize : g.locals.size = nL) (hstack : g.stack = As.reverse ++ rest) (hW : 2 * g.monitorRoom + (rest.map fun v => v.category).sum ≤ 8) (hdg : decode cc g.pc = .ok (.invokestatic index, 3)) (hf : cells + mc ≤ R.cells ∧ slots + ms ≤ R.slots) :
    vx_Run p l e R s m args below meth c H locs cells slots mc ms g rest (Qc As.toArray) XC free := by
  obtain ⟨⟨hrc, hrs, hfr, hlo, hws, hcw⟩, hcode, hini, hy, hlen, hl, hstt⟩ := cw
  have hK : vx_Back l R p e below s args y 3 8 (PreOf R mc ms Pc) (PostOf Qc mc ms free) (vx_Post XC mc ms free) := vx_backW (hh := hh) (bytes := bytes) (maxL := maxL) (ret := ret) hM hp.1 hrc hrs hfr hlo hws hcw (fun a' U hW => word_at hW (Or.inl (by first | rfl | simp [Cond.onTables, Cond.keeps, Cond.steady])) hini)
  obtain ⟨hx, hb, hml, ho, -⟩ := S
  intro T hT X
  rcases vx_callSX X hx (hh := hh) (bytes := bytes) (maxL := maxL) (ret := ret) ho hl hstt hini hcode hy hK hg (hsize.trans hml.symm) (argsL := As) (rest := rest) (fun sig h => hn.trans (hlen sig h)) hstack hW (by rw [hb]; exact hdg)
    (fun vm₁ hW₁ => ⟨hf.1, hf.2, hp.2 (T.setVm vm₁) hT hW₁⟩) with ⟨v, vm₁, ⟨U', l2, c2, s2⟩, hW₁, X', ⟨g', mk, t, L, e1, e2, hq, h1, hL, h2, h3⟩, st⟩ | ⟨q, vm₁, ⟨U', l2, c2, s2⟩, hW₁, X', ⟨g', mk, t, L, E, ce, e1, e2, hq, hce, hcv, hcl, h1, hL, h2, h3⟩, st⟩
  · dsimp only [Pt.U, Pt.locs, Pt.cells, Pt.slots] at X' e1 e2 h1 h2 h3 st
    subst h1; subst h2; subst h3
    exact Or.inl ⟨v, (T.setVm vm₁).calling g' mk As.toArray, t, U', L, hT, X', hL, e1, e2, hq, st⟩
  · dsimp only [Pt.U, Pt.locs, Pt.cells, Pt.slots] at X' e1 e2 h1 h2 h3 st hcl
    subst h1; subst h2; subst h3
    exact Or.inr ⟨q, (T.setVm vm₁).calling g' mk As.toArray, t, U', L, E, ce, hT, X', hL, e1, e2, hq, hce, hcv, vx_cls hW₁ hcl, st⟩
end
end VXH
theorem vx_ofWH {l : Launch} {y : MethodName} {ws ws' : List Cond} {rm : Room} {Pc : Array Value → State → Prop} {Qc : Array Value → State → Outcome → State → Prop} {XC : String → State → State → Prop} {mc ms : Nat} {free : Addr → Prop} {cc : ByteArray} {maxL : Nat} {ret : Option FieldType} {hh : List (Nat × Nat × Nat × Nat)}
    (hy : plainName y.cls = true) (hw : ws = Cond.codeWith y cc maxL ret hh :: ws')
    (body : ∀ p e s m args below meth c s₁, BodyLoose p l y (headSpec ws rm) cc maxL ret e s m args below meth c s₁ → c.maxLocals = maxL → Pc args s →
      W p l e (headSpec ws rm).room s m args below meth c s.heap [] 0 0 (vx_MQ below Qc XC args s mc ms free) (entryFrame m args maxL)) : vx_Met l y ws rm Pc Qc XC mc ms free := by
  refine MetFree.of_bodyS (code := cc) (maxLocals := maxL) (ret := ret) hy ?_ ?_
  · intro args s m h hn
    obtain ⟨m9, meth, c, hn9, h1, h2, h3, h4, -, h5, h6, -⟩ := Cond.codeWith_spec (atoms_spec (ws := ws) h _ (by rw [hw]; exact List.mem_cons_self))
    cases hn.symm.trans hn9
    exact ⟨meth, c, h1, h2, h3, h4, h5, h6⟩
  · intro p e s m args below meth c s₁ B hml hP _
    have hh0 : s₁.heap = s.heap := by rw [B.state]; rfl
    obtain ⟨t, a1, o, b1, b2, b3⟩ := body p e s m args below meth c s₁ B hml hP s₁ hh0 (Stand.of_body B)
    exact ⟨t, o, a1, b1, b2, b3⟩
/-! ===== END ===== -/

/-! ===== BEGIN printed: names, fields, word lists, decode rows ===== -/
end
section
/-! Names: classes, fields, methods, words, decode rows. Written by wip/gen/names.py. -/
def GW : List Cond := lw_tbl.filter goodWord
theorem gw_at {w : Cond} (i : Nat) (h : tables_1[i]? = some w) (hg : goodWord w = true) : w ∈ GW := List.mem_filter.mpr ⟨List.mem_append_right _ (List.mem_of_getElem? h), hg⟩
theorem gw_sel {y : MethodName} {n : Nat} (i : Nat) (h : lw_privs[i]? = some (y, n)) (hg : goodWord (Cond.selects y.cls y y) = true) : Cond.selects y.cls y y ∈ GW := List.mem_filter.mpr ⟨List.mem_append_left _ (List.mem_map.mpr ⟨(y, n), List.mem_of_getElem? h, rfl⟩), hg⟩
theorem gw_good {w : Cond} (h : w ∈ GW) : goodWord w = true := (List.mem_filter.mp h).2
theorem gw_in {c d : Cond} (h : d ∈ GW) : GoodIn (c :: GW) (d :: GW) := fun w hw => by
  rcases List.mem_cons.mp hw with rfl | hw
  · exact ⟨List.mem_cons_of_mem _ h, good_of_word (gw_good h)⟩
  · exact ⟨List.mem_cons_of_mem _ hw, good_of_word (gw_good hw)⟩
def RF : String := "LiquidChecker$Function"
def TF : u_T := fun k => match k with
  | 0 => ("LiquidChecker$Function", "demands", "LLiquidChecker$Relations;", true)
  | 1 => ("LiquidChecker$Function", "promises", "LLiquidChecker$Relations;", true)
  | 2 => ("LiquidChecker$Function", "statements", "[LLiquidChecker$Statement;", true)
  | 3 => ("LiquidChecker$Function", "openPlaces", "[I", true)
  | 4 => ("LiquidChecker$Function", "size", "I", false)
  | 5 => ("LiquidChecker$Function", "openIfs", "I", false)
  | 6 => ("LiquidChecker$Function", "ifs", "I", false)
  | _ => ("LiquidChecker$Function", "given", "I", false)
def tyF : Nat → FieldType := fun k => match k with
  | 0 => .object "LiquidChecker$Relations"
  | 1 => .object "LiquidChecker$Relations"
  | 2 => .array (.object "LiquidChecker$Statement")
  | 3 => .array .int
  | 4 => .int
  | 5 => .int
  | 6 => .int
  | _ => .int
theorem nmF : ∀ a, a < 8 → ∀ b, b < 8 → a ≠ b → (TF a).2.1 ≠ (TF b).2.1 := by decide +kernel
theorem tyF_ok : ∀ k, k < 8 → parseFieldDescriptor (TF k).2.2.1 = some (tyF k) := by decide +kernel
def RK : String := "LiquidChecker$Known"
def TK : u_T := fun k => match k with
  | 0 => ("LiquidChecker$Known", "bounds", "[I", true)
  | _ => ("LiquidChecker$Known", "possible", "Z", false)
def tyK : Nat → FieldType := fun k => match k with
  | 0 => .array .int
  | _ => .boolean
theorem nmK : ∀ a, a < 2 → ∀ b, b < 2 → a ≠ b → (TK a).2.1 ≠ (TK b).2.1 := by decide +kernel
theorem tyK_ok : ∀ k, k < 2 → parseFieldDescriptor (TK k).2.2.1 = some (tyK k) := by decide +kernel
def RR : String := "LiquidChecker$Relations"
def TR : u_T := fun k => match k with
  | 0 => ("LiquidChecker$Relations", "a", "[I", true)
  | 1 => ("LiquidChecker$Relations", "b", "[I", true)
  | 2 => ("LiquidChecker$Relations", "k", "[I", true)
  | _ => ("LiquidChecker$Relations", "size", "I", false)
def tyR : Nat → FieldType := fun k => match k with
  | 0 => .array .int
  | 1 => .array .int
  | 2 => .array .int
  | _ => .int
theorem nmR : ∀ a, a < 4 → ∀ b, b < 4 → a ≠ b → (TR a).2.1 ≠ (TR b).2.1 := by decide +kernel
theorem tyR_ok : ∀ k, k < 4 → parseFieldDescriptor (TR k).2.2.1 = some (tyR k) := by decide +kernel
def RS : String := "LiquidChecker$Statement"
def TS : u_T := fun k => match k with
  | 0 => ("LiquidChecker$Statement", "kind", "I", false)
  | 1 => ("LiquidChecker$Statement", "a", "I", false)
  | 2 => ("LiquidChecker$Statement", "b", "I", false)
  | 3 => ("LiquidChecker$Statement", "c", "I", false)
  | 4 => ("LiquidChecker$Statement", "k", "I", false)
  | _ => ("LiquidChecker$Statement", "leadsTo", "I", false)
def tyS : Nat → FieldType := fun k => match k with
  | 0 => .int
  | 1 => .int
  | 2 => .int
  | 3 => .int
  | 4 => .int
  | _ => .int
theorem nmS : ∀ a, a < 6 → ∀ b, b < 6 → a ≠ b → (TS a).2.1 ≠ (TS b).2.1 := by decide +kernel
theorem tyS_ok : ∀ k, k < 6 → parseFieldDescriptor (TS k).2.2.1 = some (tyS k) := by decide +kernel
def RW : String := "LiquidChecker$Walk"
def TW : u_T := fun k => match k with
  | 0 => ("LiquidChecker$Walk", "known", "LLiquidChecker$Known;", true)
  | 1 => ("LiquidChecker$Walk", "waiting", "[LLiquidChecker$Known;", true)
  | 2 => ("LiquidChecker$Walk", "waitingPlaces", "[I", true)
  | 3 => ("LiquidChecker$Walk", "waitingSides", "I", false)
  | 4 => ("LiquidChecker$Walk", "askedPlace", "I", false)
  | 5 => ("LiquidChecker$Walk", "askedA", "I", false)
  | 6 => ("LiquidChecker$Walk", "askedB", "I", false)
  | 7 => ("LiquidChecker$Walk", "greatest", "I", false)
  | 8 => ("LiquidChecker$Walk", "placesCome", "I", false)
  | 9 => ("LiquidChecker$Walk", "leastUnshown", "I", false)
  | _ => ("LiquidChecker$Walk", "ended", "I", false)
def tyW : Nat → FieldType := fun k => match k with
  | 0 => .object "LiquidChecker$Known"
  | 1 => .array (.object "LiquidChecker$Known")
  | 2 => .array .int
  | 3 => .int
  | 4 => .int
  | 5 => .int
  | 6 => .int
  | 7 => .int
  | 8 => .int
  | 9 => .int
  | _ => .int
theorem nmW : ∀ a, a < 11 → ∀ b, b < 11 → a ≠ b → (TW a).2.1 ≠ (TW b).2.1 := by decide +kernel
theorem tyW_ok : ∀ k, k < 11 → parseFieldDescriptor (TW k).2.2.1 = some (tyW k) := by decide +kernel
def RC : String := "LiquidChecker"
def TC : u_T := fun k => match k with
  | 0 => ("LiquidChecker", "functions", "[LLiquidChecker$Function;", true)
  | 1 => ("LiquidChecker", "walk", "LLiquidChecker$Walk;", true)
  | _ => ("LiquidChecker", "known", "LLiquidChecker$Known;", true)
def tyC : Nat → FieldType := fun k => match k with
  | 0 => .array (.object "LiquidChecker$Function")
  | 1 => .object "LiquidChecker$Walk"
  | _ => .object "LiquidChecker$Known"
theorem nmC : ∀ a, a < 3 → ∀ b, b < 3 → a ≠ b → (TC a).2.1 ≠ (TC b).2.1 := by decide +kernel
theorem tyC_ok : ∀ k, k < 3 → parseFieldDescriptor (TC k).2.2.1 = some (tyC k) := by decide +kernel
def RM : String := "LiquidCheckerModel"
def TM : u_T := fun k => match k with
  | 0 => ("LiquidCheckerModel", "thrown", "I", false)
  | 1 => ("LiquidCheckerModel", "rA", "[I", true)
  | 2 => ("LiquidCheckerModel", "rB", "[I", true)
  | 3 => ("LiquidCheckerModel", "rK", "[I", true)
  | 4 => ("LiquidCheckerModel", "relations", "[I", true)
  | 5 => ("LiquidCheckerModel", "sKind", "[I", true)
  | 6 => ("LiquidCheckerModel", "sA", "[I", true)
  | 7 => ("LiquidCheckerModel", "sB", "[I", true)
  | 8 => ("LiquidCheckerModel", "sC", "[I", true)
  | 9 => ("LiquidCheckerModel", "sK", "[I", true)
  | 10 => ("LiquidCheckerModel", "size", "[I", true)
  | 11 => ("LiquidCheckerModel", "ifNumber", "[I", true)
  | 12 => ("LiquidCheckerModel", "elseAt", "[I", true)
  | 13 => ("LiquidCheckerModel", "endAt", "[I", true)
  | 14 => ("LiquidCheckerModel", "ifs", "[I", true)
  | 15 => ("LiquidCheckerModel", "open", "[I", true)
  | 16 => ("LiquidCheckerModel", "opened", "[I", true)
  | 17 => ("LiquidCheckerModel", "apart", "[J", true)
  | 18 => ("LiquidCheckerModel", "feasible", "Z", false)
  | 19 => ("LiquidCheckerModel", "met", "I", false)
  | 20 => ("LiquidCheckerModel", "function", "I", false)
  | 21 => ("LiquidCheckerModel", "least", "I", false)
  | 22 => ("LiquidCheckerModel", "ends", "I", false)
  | 23 => ("LiquidCheckerModel", "came", "[Z", true)
  | 24 => ("LiquidCheckerModel", "seekPlace", "I", false)
  | 25 => ("LiquidCheckerModel", "seekA", "I", false)
  | 26 => ("LiquidCheckerModel", "seekB", "I", false)
  | 27 => ("LiquidCheckerModel", "most", "J", false)
  | _ => ("LiquidCheckerModel", "seen", "Z", false)
def tyM : Nat → FieldType := fun k => match k with
  | 0 => .int
  | 1 => .array .int
  | 2 => .array .int
  | 3 => .array .int
  | 4 => .array .int
  | 5 => .array .int
  | 6 => .array .int
  | 7 => .array .int
  | 8 => .array .int
  | 9 => .array .int
  | 10 => .array .int
  | 11 => .array .int
  | 12 => .array .int
  | 13 => .array .int
  | 14 => .array .int
  | 15 => .array .int
  | 16 => .array .int
  | 17 => .array .long
  | 18 => .boolean
  | 19 => .int
  | 20 => .int
  | 21 => .int
  | 22 => .int
  | 23 => .array .boolean
  | 24 => .int
  | 25 => .int
  | 26 => .int
  | 27 => .long
  | _ => .boolean
theorem nmM : ∀ a, a < 29 → ∀ b, b < 29 → a ≠ b → (TM a).2.1 ≠ (TM b).2.1 := by decide +kernel
theorem tyM_ok : ∀ k, k < 29 → parseFieldDescriptor (TM k).2.2.1 = some (tyM k) := by decide +kernel
def RL : String := "LiquidCheckerLaw"
abbrev zCl : List vw_C := [(RF, TF, 8), (RK, TK, 2), (RR, TR, 4), (RS, TS, 6), (RW, TW, 11), (RC, TC, 3), (RM, TM, 29)]
end
section
theorem gw0 : (Jvm.Cond.initialized "LiquidCheckerLaw") ∈ GW := gw_at 0 (by decide +kernel) (by decide +kernel)
theorem gw1 : (Jvm.Cond.initialized "LiquidChecker") ∈ GW := gw_at 1 (by decide +kernel) (by decide +kernel)
theorem gw2 : (Jvm.Cond.initialized "LiquidChecker$Walk") ∈ GW := gw_at 2 (by decide +kernel) (by decide +kernel)
theorem gw3 : (Jvm.Cond.initialized "LiquidChecker$Known") ∈ GW := gw_at 3 (by decide +kernel) (by decide +kernel)
theorem gw4 : (Jvm.Cond.initialized "LiquidChecker$Function") ∈ GW := gw_at 4 (by decide +kernel) (by decide +kernel)
theorem gw5 : (Jvm.Cond.initialized "LiquidChecker$Relations") ∈ GW := gw_at 5 (by decide +kernel) (by decide +kernel)
theorem gw6 : (Jvm.Cond.initialized "LiquidChecker$Statement") ∈ GW := gw_at 6 (by decide +kernel) (by decide +kernel)
theorem gw7 : (Jvm.Cond.initialized "LiquidCheckerModel") ∈ GW := gw_at 7 (by decide +kernel) (by decide +kernel)
theorem gw8 : (Jvm.Cond.initialized "java/lang/Throwable") ∈ GW := gw_at 8 (by decide +kernel) (by decide +kernel)
theorem gw9 : (Jvm.Cond.initialized "java/lang/Exception") ∈ GW := gw_at 9 (by decide +kernel) (by decide +kernel)
theorem gw10 : (Jvm.Cond.initialized "java/lang/RuntimeException") ∈ GW := gw_at 10 (by decide +kernel) (by decide +kernel)
theorem gw11 : (Jvm.Cond.initialized "java/lang/IllegalArgumentException") ∈ GW := gw_at 11 (by decide +kernel) (by decide +kernel)
theorem gw12 : (Jvm.Cond.initialized "java/lang/IllegalStateException") ∈ GW := gw_at 12 (by decide +kernel) (by decide +kernel)
theorem gw13 : (Jvm.Cond.initialized "java/lang/UnsupportedOperationException") ∈ GW := gw_at 13 (by decide +kernel) (by decide +kernel)
theorem gw14 : (Jvm.Cond.initialized "java/util/Arrays") ∈ GW := gw_at 14 (by decide +kernel) (by decide +kernel)
theorem gw15 : (Jvm.Cond.initialized "java/lang/Math") ∈ GW := gw_at 15 (by decide +kernel) (by decide +kernel)
theorem gw16 : (Jvm.Cond.initialized "java/lang/System") ∈ GW := gw_at 16 (by decide +kernel) (by decide +kernel)
theorem gw17 : (Jvm.Cond.initialized "java/util/NoSuchElementException") ∈ GW := gw_at 17 (by decide +kernel) (by decide +kernel)
theorem gw18 : (Jvm.Cond.initialized "java/lang/ArithmeticException") ∈ GW := gw_at 18 (by decide +kernel) (by decide +kernel)
theorem gw19 : (Jvm.Cond.classLink "LiquidCheckerLaw" (8 : Nat) "LiquidChecker") ∈ GW := gw_at 19 (by decide +kernel) (by decide +kernel)
theorem gw20 : (Jvm.Cond.instantiable "LiquidChecker" (3 : Nat)) ∈ GW := gw_at 20 (by decide +kernel) (by decide +kernel)
theorem gw21 : (Jvm.Cond.methodLink "LiquidCheckerLaw" (51 : Nat) ({ cls := "LiquidChecker", name := "<init>", desc := "()V" } : Jvm.MethodName)) ∈ GW := gw_at 21 (by decide +kernel) (by decide +kernel)
theorem gw22 : (Jvm.Cond.instanceMethod ({ cls := "LiquidChecker", name := "<init>", desc := "()V" } : Jvm.MethodName)) ∈ GW := gw_at 22 (by decide +kernel) (by decide +kernel)
theorem gw23 : (Jvm.Cond.code ({ cls := "LiquidChecker", name := "<init>", desc := "()V" } : Jvm.MethodName) prog_1_method_1_code (2 : Nat) (Option.none : Option Jvm.ClassFile.FieldType)) ∈ GW := gw_at 23 (by decide +kernel) (by decide +kernel)
theorem gw24 : (Jvm.Cond.methodLink "LiquidChecker" (3 : Nat) ({ cls := "java/lang/Object", name := "<init>", desc := "()V" } : Jvm.MethodName)) ∈ GW := gw_at 24 (by decide +kernel) (by decide +kernel)
theorem gw25 : (Jvm.Cond.instanceMethod ({ cls := "java/lang/Object", name := "<init>", desc := "()V" } : Jvm.MethodName)) ∈ GW := gw_at 25 (by decide +kernel) (by decide +kernel)
theorem gw26 : (Jvm.Cond.code ({ cls := "java/lang/Object", name := "<init>", desc := "()V" } : Jvm.MethodName) object_method_1_code (1 : Nat) (Option.none : Option Jvm.ClassFile.FieldType)) ∈ GW := gw_at 26 (by decide +kernel) (by decide +kernel)
theorem gw27 : (Jvm.Cond.classLink "LiquidChecker" (9 : Nat) "LiquidChecker$Function") ∈ GW := gw_at 27 (by decide +kernel) (by decide +kernel)
theorem gw29 : (Jvm.Cond.classLink "LiquidChecker" (15 : Nat) "LiquidChecker$Walk") ∈ GW := gw_at 29 (by decide +kernel) (by decide +kernel)
theorem gw30 : (Jvm.Cond.instantiable "LiquidChecker$Walk" (11 : Nat)) ∈ GW := gw_at 30 (by decide +kernel) (by decide +kernel)
theorem gw32 : (Jvm.Cond.instanceMethod ({ cls := "LiquidChecker$Walk", name := "<init>", desc := "()V" } : Jvm.MethodName)) ∈ GW := gw_at 32 (by decide +kernel) (by decide +kernel)
theorem gw33 : (Jvm.Cond.code ({ cls := "LiquidChecker$Walk", name := "<init>", desc := "()V" } : Jvm.MethodName) prog_6_method_1_code (2 : Nat) (Option.none : Option Jvm.ClassFile.FieldType)) ∈ GW := gw_at 33 (by decide +kernel) (by decide +kernel)
theorem gw34 : (Jvm.Cond.methodLink "LiquidChecker$Walk" (3 : Nat) ({ cls := "java/lang/Object", name := "<init>", desc := "()V" } : Jvm.MethodName)) ∈ GW := gw_at 34 (by decide +kernel) (by decide +kernel)
theorem gw35 : (Jvm.Cond.classLink "LiquidChecker$Walk" (9 : Nat) "LiquidChecker$Known") ∈ GW := gw_at 35 (by decide +kernel) (by decide +kernel)
theorem gw36 : (Jvm.Cond.instantiable "LiquidChecker$Known" (2 : Nat)) ∈ GW := gw_at 36 (by decide +kernel) (by decide +kernel)
theorem gw38 : (Jvm.Cond.instanceMethod ({ cls := "LiquidChecker$Known", name := "<init>", desc := "()V" } : Jvm.MethodName)) ∈ GW := gw_at 38 (by decide +kernel) (by decide +kernel)
theorem gw39 : (Jvm.Cond.code ({ cls := "LiquidChecker$Known", name := "<init>", desc := "()V" } : Jvm.MethodName) prog_3_method_1_code (1 : Nat) (Option.none : Option Jvm.ClassFile.FieldType)) ∈ GW := gw_at 39 (by decide +kernel) (by decide +kernel)
theorem gw40 : (Jvm.Cond.methodLink "LiquidChecker$Known" (5 : Nat) ({ cls := "java/lang/Object", name := "<init>", desc := "()V" } : Jvm.MethodName)) ∈ GW := gw_at 40 (by decide +kernel) (by decide +kernel)
theorem gw41 : (Jvm.Cond.fieldLink "LiquidChecker$Known" (11 : Nat) "LiquidChecker$Known" "bounds" "[I") ∈ GW := gw_at 41 (by decide +kernel) (by decide +kernel)
theorem gw42 : (Jvm.Cond.fieldLink "LiquidChecker$Known" (24 : Nat) "LiquidChecker$Known" "possible" "Z") ∈ GW := gw_at 42 (by decide +kernel) (by decide +kernel)
theorem gw45 : (Jvm.Cond.laysFinal "LiquidChecker$Known" "LiquidChecker$Known" "bounds" "[I") ∈ GW := gw_at 45 (by decide +kernel) (by decide +kernel)
theorem gw47 : (Jvm.Cond.lays "LiquidChecker$Known" "LiquidChecker$Known" "possible" "Z") ∈ GW := gw_at 47 (by decide +kernel) (by decide +kernel)
theorem gw50 : (Jvm.Cond.arrayClass Jvm.ClassFile.FieldType.int) ∈ GW := gw_at 50 (by decide +kernel) (by decide +kernel)
theorem gw52 : (Jvm.Cond.fieldLink "LiquidChecker$Walk" (12 : Nat) "LiquidChecker$Walk" "known" "LLiquidChecker$Known;") ∈ GW := gw_at 52 (by decide +kernel) (by decide +kernel)
theorem gw53 : (Jvm.Cond.fieldLink "LiquidChecker$Walk" (18 : Nat) "LiquidChecker$Walk" "waiting" "[LLiquidChecker$Known;") ∈ GW := gw_at 53 (by decide +kernel) (by decide +kernel)
theorem gw54 : (Jvm.Cond.fieldLink "LiquidChecker$Walk" (22 : Nat) "LiquidChecker$Walk" "waitingPlaces" "[I") ∈ GW := gw_at 54 (by decide +kernel) (by decide +kernel)
theorem gw55 : (Jvm.Cond.fieldLink "LiquidChecker$Walk" (51 : Nat) "LiquidChecker$Walk" "waitingSides" "I") ∈ GW := gw_at 55 (by decide +kernel) (by decide +kernel)
theorem gw56 : (Jvm.Cond.fieldLink "LiquidChecker$Walk" (30 : Nat) "LiquidChecker$Walk" "askedPlace" "I") ∈ GW := gw_at 56 (by decide +kernel) (by decide +kernel)
theorem gw57 : (Jvm.Cond.fieldLink "LiquidChecker$Walk" (33 : Nat) "LiquidChecker$Walk" "askedA" "I") ∈ GW := gw_at 57 (by decide +kernel) (by decide +kernel)
theorem gw58 : (Jvm.Cond.fieldLink "LiquidChecker$Walk" (36 : Nat) "LiquidChecker$Walk" "askedB" "I") ∈ GW := gw_at 58 (by decide +kernel) (by decide +kernel)
theorem gw59 : (Jvm.Cond.fieldLink "LiquidChecker$Walk" (42 : Nat) "LiquidChecker$Walk" "greatest" "I") ∈ GW := gw_at 59 (by decide +kernel) (by decide +kernel)
theorem gw61 : (Jvm.Cond.fieldLink "LiquidChecker$Walk" (26 : Nat) "LiquidChecker$Walk" "placesCome" "I") ∈ GW := gw_at 61 (by decide +kernel) (by decide +kernel)
theorem gw62 : (Jvm.Cond.fieldLink "LiquidChecker$Walk" (45 : Nat) "LiquidChecker$Walk" "leastUnshown" "I") ∈ GW := gw_at 62 (by decide +kernel) (by decide +kernel)
theorem gw64 : (Jvm.Cond.fieldLink "LiquidChecker$Walk" (48 : Nat) "LiquidChecker$Walk" "ended" "I") ∈ GW := gw_at 64 (by decide +kernel) (by decide +kernel)
theorem gw66 : (Jvm.Cond.laysFinal "LiquidChecker$Walk" "LiquidChecker$Walk" "known" "LLiquidChecker$Known;") ∈ GW := gw_at 66 (by decide +kernel) (by decide +kernel)
theorem gw68 : (Jvm.Cond.laysFinal "LiquidChecker$Walk" "LiquidChecker$Walk" "waiting" "[LLiquidChecker$Known;") ∈ GW := gw_at 68 (by decide +kernel) (by decide +kernel)
theorem gw70 : (Jvm.Cond.laysFinal "LiquidChecker$Walk" "LiquidChecker$Walk" "waitingPlaces" "[I") ∈ GW := gw_at 70 (by decide +kernel) (by decide +kernel)
theorem gw72 : (Jvm.Cond.lays "LiquidChecker$Walk" "LiquidChecker$Walk" "waitingSides" "I") ∈ GW := gw_at 72 (by decide +kernel) (by decide +kernel)
theorem gw74 : (Jvm.Cond.lays "LiquidChecker$Walk" "LiquidChecker$Walk" "askedPlace" "I") ∈ GW := gw_at 74 (by decide +kernel) (by decide +kernel)
theorem gw76 : (Jvm.Cond.lays "LiquidChecker$Walk" "LiquidChecker$Walk" "askedA" "I") ∈ GW := gw_at 76 (by decide +kernel) (by decide +kernel)
theorem gw78 : (Jvm.Cond.lays "LiquidChecker$Walk" "LiquidChecker$Walk" "askedB" "I") ∈ GW := gw_at 78 (by decide +kernel) (by decide +kernel)
theorem gw80 : (Jvm.Cond.lays "LiquidChecker$Walk" "LiquidChecker$Walk" "greatest" "I") ∈ GW := gw_at 80 (by decide +kernel) (by decide +kernel)
theorem gw82 : (Jvm.Cond.lays "LiquidChecker$Walk" "LiquidChecker$Walk" "placesCome" "I") ∈ GW := gw_at 82 (by decide +kernel) (by decide +kernel)
theorem gw84 : (Jvm.Cond.lays "LiquidChecker$Walk" "LiquidChecker$Walk" "leastUnshown" "I") ∈ GW := gw_at 84 (by decide +kernel) (by decide +kernel)
theorem gw86 : (Jvm.Cond.lays "LiquidChecker$Walk" "LiquidChecker$Walk" "ended" "I") ∈ GW := gw_at 86 (by decide +kernel) (by decide +kernel)
theorem gw89 : (Jvm.Cond.classLink "LiquidChecker" (22 : Nat) "LiquidChecker$Known") ∈ GW := gw_at 89 (by decide +kernel) (by decide +kernel)
theorem gw91 : (Jvm.Cond.instantiable "LiquidChecker$Function" (8 : Nat)) ∈ GW := gw_at 91 (by decide +kernel) (by decide +kernel)
theorem gw93 : (Jvm.Cond.instanceMethod ({ cls := "LiquidChecker$Function", name := "<init>", desc := "()V" } : Jvm.MethodName)) ∈ GW := gw_at 93 (by decide +kernel) (by decide +kernel)
theorem gw94 : (Jvm.Cond.code ({ cls := "LiquidChecker$Function", name := "<init>", desc := "()V" } : Jvm.MethodName) prog_2_method_1_code (2 : Nat) (Option.none : Option Jvm.ClassFile.FieldType)) ∈ GW := gw_at 94 (by decide +kernel) (by decide +kernel)
theorem gw95 : (Jvm.Cond.methodLink "LiquidChecker$Function" (3 : Nat) ({ cls := "java/lang/Object", name := "<init>", desc := "()V" } : Jvm.MethodName)) ∈ GW := gw_at 95 (by decide +kernel) (by decide +kernel)
theorem gw96 : (Jvm.Cond.classLink "LiquidChecker$Function" (9 : Nat) "LiquidChecker$Relations") ∈ GW := gw_at 96 (by decide +kernel) (by decide +kernel)
theorem gw97 : (Jvm.Cond.instantiable "LiquidChecker$Relations" (4 : Nat)) ∈ GW := gw_at 97 (by decide +kernel) (by decide +kernel)
theorem gw99 : (Jvm.Cond.instanceMethod ({ cls := "LiquidChecker$Relations", name := "<init>", desc := "()V" } : Jvm.MethodName)) ∈ GW := gw_at 99 (by decide +kernel) (by decide +kernel)
theorem gw100 : (Jvm.Cond.code ({ cls := "LiquidChecker$Relations", name := "<init>", desc := "()V" } : Jvm.MethodName) prog_4_method_1_code (1 : Nat) (Option.none : Option Jvm.ClassFile.FieldType)) ∈ GW := gw_at 100 (by decide +kernel) (by decide +kernel)
theorem gw101 : (Jvm.Cond.methodLink "LiquidChecker$Relations" (3 : Nat) ({ cls := "java/lang/Object", name := "<init>", desc := "()V" } : Jvm.MethodName)) ∈ GW := gw_at 101 (by decide +kernel) (by decide +kernel)
theorem gw102 : (Jvm.Cond.fieldLink "LiquidChecker$Relations" (9 : Nat) "LiquidChecker$Relations" "a" "[I") ∈ GW := gw_at 102 (by decide +kernel) (by decide +kernel)
theorem gw103 : (Jvm.Cond.fieldLink "LiquidChecker$Relations" (15 : Nat) "LiquidChecker$Relations" "b" "[I") ∈ GW := gw_at 103 (by decide +kernel) (by decide +kernel)
theorem gw104 : (Jvm.Cond.fieldLink "LiquidChecker$Relations" (18 : Nat) "LiquidChecker$Relations" "k" "[I") ∈ GW := gw_at 104 (by decide +kernel) (by decide +kernel)
theorem gw105 : (Jvm.Cond.fieldLink "LiquidChecker$Relations" (21 : Nat) "LiquidChecker$Relations" "size" "I") ∈ GW := gw_at 105 (by decide +kernel) (by decide +kernel)
theorem gw108 : (Jvm.Cond.laysFinal "LiquidChecker$Relations" "LiquidChecker$Relations" "a" "[I") ∈ GW := gw_at 108 (by decide +kernel) (by decide +kernel)
theorem gw110 : (Jvm.Cond.laysFinal "LiquidChecker$Relations" "LiquidChecker$Relations" "b" "[I") ∈ GW := gw_at 110 (by decide +kernel) (by decide +kernel)
theorem gw112 : (Jvm.Cond.laysFinal "LiquidChecker$Relations" "LiquidChecker$Relations" "k" "[I") ∈ GW := gw_at 112 (by decide +kernel) (by decide +kernel)
theorem gw114 : (Jvm.Cond.lays "LiquidChecker$Relations" "LiquidChecker$Relations" "size" "I") ∈ GW := gw_at 114 (by decide +kernel) (by decide +kernel)
theorem gw117 : (Jvm.Cond.classLink "LiquidChecker$Function" (21 : Nat) "LiquidChecker$Statement") ∈ GW := gw_at 117 (by decide +kernel) (by decide +kernel)
theorem gw119 : (Jvm.Cond.instantiable "LiquidChecker$Statement" (6 : Nat)) ∈ GW := gw_at 119 (by decide +kernel) (by decide +kernel)
theorem gw121 : (Jvm.Cond.instanceMethod ({ cls := "LiquidChecker$Statement", name := "<init>", desc := "()V" } : Jvm.MethodName)) ∈ GW := gw_at 121 (by decide +kernel) (by decide +kernel)
theorem gw122 : (Jvm.Cond.code ({ cls := "LiquidChecker$Statement", name := "<init>", desc := "()V" } : Jvm.MethodName) prog_5_method_1_code (1 : Nat) (Option.none : Option Jvm.ClassFile.FieldType)) ∈ GW := gw_at 122 (by decide +kernel) (by decide +kernel)
theorem gw123 : (Jvm.Cond.methodLink "LiquidChecker$Statement" (3 : Nat) ({ cls := "java/lang/Object", name := "<init>", desc := "()V" } : Jvm.MethodName)) ∈ GW := gw_at 123 (by decide +kernel) (by decide +kernel)
theorem gw124 : (Jvm.Cond.fieldLink "LiquidChecker$Statement" (9 : Nat) "LiquidChecker$Statement" "kind" "I") ∈ GW := gw_at 124 (by decide +kernel) (by decide +kernel)
theorem gw127 : (Jvm.Cond.fieldLink "LiquidChecker$Statement" (15 : Nat) "LiquidChecker$Statement" "a" "I") ∈ GW := gw_at 127 (by decide +kernel) (by decide +kernel)
theorem gw129 : (Jvm.Cond.fieldLink "LiquidChecker$Statement" (18 : Nat) "LiquidChecker$Statement" "b" "I") ∈ GW := gw_at 129 (by decide +kernel) (by decide +kernel)
theorem gw131 : (Jvm.Cond.fieldLink "LiquidChecker$Statement" (21 : Nat) "LiquidChecker$Statement" "c" "I") ∈ GW := gw_at 131 (by decide +kernel) (by decide +kernel)
theorem gw133 : (Jvm.Cond.fieldLink "LiquidChecker$Statement" (24 : Nat) "LiquidChecker$Statement" "k" "I") ∈ GW := gw_at 133 (by decide +kernel) (by decide +kernel)
theorem gw135 : (Jvm.Cond.fieldLink "LiquidChecker$Statement" (27 : Nat) "LiquidChecker$Statement" "leadsTo" "I") ∈ GW := gw_at 135 (by decide +kernel) (by decide +kernel)
theorem gw137 : (Jvm.Cond.lays "LiquidChecker$Statement" "LiquidChecker$Statement" "kind" "I") ∈ GW := gw_at 137 (by decide +kernel) (by decide +kernel)
theorem gw139 : (Jvm.Cond.lays "LiquidChecker$Statement" "LiquidChecker$Statement" "a" "I") ∈ GW := gw_at 139 (by decide +kernel) (by decide +kernel)
theorem gw141 : (Jvm.Cond.lays "LiquidChecker$Statement" "LiquidChecker$Statement" "b" "I") ∈ GW := gw_at 141 (by decide +kernel) (by decide +kernel)
theorem gw143 : (Jvm.Cond.lays "LiquidChecker$Statement" "LiquidChecker$Statement" "c" "I") ∈ GW := gw_at 143 (by decide +kernel) (by decide +kernel)
theorem gw145 : (Jvm.Cond.lays "LiquidChecker$Statement" "LiquidChecker$Statement" "k" "I") ∈ GW := gw_at 145 (by decide +kernel) (by decide +kernel)
theorem gw147 : (Jvm.Cond.lays "LiquidChecker$Statement" "LiquidChecker$Statement" "leadsTo" "I") ∈ GW := gw_at 147 (by decide +kernel) (by decide +kernel)
theorem gw150 : (Jvm.Cond.fieldLink "LiquidChecker$Function" (12 : Nat) "LiquidChecker$Function" "demands" "LLiquidChecker$Relations;") ∈ GW := gw_at 150 (by decide +kernel) (by decide +kernel)
theorem gw153 : (Jvm.Cond.fieldLink "LiquidChecker$Function" (18 : Nat) "LiquidChecker$Function" "promises" "LLiquidChecker$Relations;") ∈ GW := gw_at 153 (by decide +kernel) (by decide +kernel)
theorem gw156 : (Jvm.Cond.fieldLink "LiquidChecker$Function" (23 : Nat) "LiquidChecker$Function" "statements" "[LLiquidChecker$Statement;") ∈ GW := gw_at 156 (by decide +kernel) (by decide +kernel)
theorem gw158 : (Jvm.Cond.fieldLink "LiquidChecker$Function" (27 : Nat) "LiquidChecker$Function" "openPlaces" "[I") ∈ GW := gw_at 158 (by decide +kernel) (by decide +kernel)
theorem gw159 : (Jvm.Cond.fieldLink "LiquidChecker$Function" (36 : Nat) "LiquidChecker$Function" "size" "I") ∈ GW := gw_at 159 (by decide +kernel) (by decide +kernel)
theorem gw162 : (Jvm.Cond.fieldLink "LiquidChecker$Function" (37 : Nat) "LiquidChecker$Function" "openIfs" "I") ∈ GW := gw_at 162 (by decide +kernel) (by decide +kernel)
theorem gw164 : (Jvm.Cond.fieldLink "LiquidChecker$Function" (40 : Nat) "LiquidChecker$Function" "ifs" "I") ∈ GW := gw_at 164 (by decide +kernel) (by decide +kernel)
theorem gw165 : (Jvm.Cond.fieldLink "LiquidChecker$Function" (43 : Nat) "LiquidChecker$Function" "given" "I") ∈ GW := gw_at 165 (by decide +kernel) (by decide +kernel)
theorem gw166 : (Jvm.Cond.laysFinal "LiquidChecker$Function" "LiquidChecker$Function" "demands" "LLiquidChecker$Relations;") ∈ GW := gw_at 166 (by decide +kernel) (by decide +kernel)
theorem gw168 : (Jvm.Cond.laysFinal "LiquidChecker$Function" "LiquidChecker$Function" "promises" "LLiquidChecker$Relations;") ∈ GW := gw_at 168 (by decide +kernel) (by decide +kernel)
theorem gw170 : (Jvm.Cond.laysFinal "LiquidChecker$Function" "LiquidChecker$Function" "statements" "[LLiquidChecker$Statement;") ∈ GW := gw_at 170 (by decide +kernel) (by decide +kernel)
theorem gw172 : (Jvm.Cond.laysFinal "LiquidChecker$Function" "LiquidChecker$Function" "openPlaces" "[I") ∈ GW := gw_at 172 (by decide +kernel) (by decide +kernel)
theorem gw174 : (Jvm.Cond.lays "LiquidChecker$Function" "LiquidChecker$Function" "size" "I") ∈ GW := gw_at 174 (by decide +kernel) (by decide +kernel)
theorem gw176 : (Jvm.Cond.lays "LiquidChecker$Function" "LiquidChecker$Function" "openIfs" "I") ∈ GW := gw_at 176 (by decide +kernel) (by decide +kernel)
theorem gw178 : (Jvm.Cond.lays "LiquidChecker$Function" "LiquidChecker$Function" "ifs" "I") ∈ GW := gw_at 178 (by decide +kernel) (by decide +kernel)
theorem gw180 : (Jvm.Cond.lays "LiquidChecker$Function" "LiquidChecker$Function" "given" "I") ∈ GW := gw_at 180 (by decide +kernel) (by decide +kernel)
theorem gw183 : (Jvm.Cond.fieldLink "LiquidChecker" (11 : Nat) "LiquidChecker" "functions" "[LLiquidChecker$Function;") ∈ GW := gw_at 183 (by decide +kernel) (by decide +kernel)
theorem gw184 : (Jvm.Cond.fieldLink "LiquidChecker" (18 : Nat) "LiquidChecker" "walk" "LLiquidChecker$Walk;") ∈ GW := gw_at 184 (by decide +kernel) (by decide +kernel)
theorem gw185 : (Jvm.Cond.fieldLink "LiquidChecker" (25 : Nat) "LiquidChecker" "known" "LLiquidChecker$Known;") ∈ GW := gw_at 185 (by decide +kernel) (by decide +kernel)
theorem gw186 : (Jvm.Cond.laysFinal "LiquidChecker" "LiquidChecker" "functions" "[LLiquidChecker$Function;") ∈ GW := gw_at 186 (by decide +kernel) (by decide +kernel)
theorem gw188 : (Jvm.Cond.laysFinal "LiquidChecker" "LiquidChecker" "walk" "LLiquidChecker$Walk;") ∈ GW := gw_at 188 (by decide +kernel) (by decide +kernel)
theorem gw190 : (Jvm.Cond.laysFinal "LiquidChecker" "LiquidChecker" "known" "LLiquidChecker$Known;") ∈ GW := gw_at 190 (by decide +kernel) (by decide +kernel)
theorem gw193 : (Jvm.Cond.methodLink "LiquidCheckerLaw" (55 : Nat) ({ cls := "LiquidCheckerLaw", name := "refine", desc := "(LLiquidChecker;IIIII[J)I" } : Jvm.MethodName)) ∈ GW := gw_at 193 (by decide +kernel) (by decide +kernel)
theorem gw194 : (Jvm.Cond.static ({ cls := "LiquidCheckerLaw", name := "refine", desc := "(LLiquidChecker;IIIII[J)I" } : Jvm.MethodName)) ∈ GW := gw_at 194 (by decide +kernel) (by decide +kernel)
theorem gw195 : (Jvm.Cond.codeWith ({ cls := "LiquidCheckerLaw", name := "refine", desc := "(LLiquidChecker;IIIII[J)I" } : Jvm.MethodName) method_3_code (8 : Nat) (Option.some Jvm.ClassFile.FieldType.int) [((0 : Nat), (16 : Nat), (19 : Nat), (13 : Nat)), ((0 : Nat), (16 : Nat), (23 : Nat), (15 : Nat))]) ∈ GW := gw_at 195 (by decide +kernel) (by decide +kernel)
theorem gw196 : (Jvm.Cond.classLink "LiquidCheckerLaw" (13 : Nat) "java/lang/IllegalArgumentException") ∈ GW := gw_at 196 (by decide +kernel) (by decide +kernel)
theorem gw197 : (Jvm.Cond.classLink "LiquidCheckerLaw" (15 : Nat) "java/lang/IllegalStateException") ∈ GW := gw_at 197 (by decide +kernel) (by decide +kernel)
theorem gw198 : (Jvm.Cond.methodLink "LiquidCheckerLaw" (7 : Nat) ({ cls := "LiquidChecker", name := "refine", desc := "(IIIII)I" } : Jvm.MethodName)) ∈ GW := gw_at 198 (by decide +kernel) (by decide +kernel)
theorem gw199 : (Jvm.Cond.instanceMethod ({ cls := "LiquidChecker", name := "refine", desc := "(IIIII)I" } : Jvm.MethodName)) ∈ GW := gw_at 199 (by decide +kernel) (by decide +kernel)
theorem gw200 : (Jvm.Cond.selects "LiquidChecker" ({ cls := "LiquidChecker", name := "refine", desc := "(IIIII)I" } : Jvm.MethodName) ({ cls := "LiquidChecker", name := "refine", desc := "(IIIII)I" } : Jvm.MethodName)) ∈ GW := gw_at 200 (by decide +kernel) (by decide +kernel)
theorem gw201 : (Jvm.Cond.code ({ cls := "LiquidChecker", name := "refine", desc := "(IIIII)I" } : Jvm.MethodName) prog_1_method_2_code (8 : Nat) (Option.some Jvm.ClassFile.FieldType.int)) ∈ GW := gw_at 201 (by decide +kernel) (by decide +kernel)
theorem gw202 : (Jvm.Cond.methodLink "LiquidChecker" (30 : Nat) ({ cls := "LiquidChecker", name := "isFunction", desc := "(I)Z" } : Jvm.MethodName)) ∈ GW := gw_at 202 (by decide +kernel) (by decide +kernel)
theorem gw203 : (Jvm.Cond.static ({ cls := "LiquidChecker", name := "isFunction", desc := "(I)Z" } : Jvm.MethodName)) ∈ GW := gw_at 203 (by decide +kernel) (by decide +kernel)
theorem gw204 : (Jvm.Cond.code ({ cls := "LiquidChecker", name := "isFunction", desc := "(I)Z" } : Jvm.MethodName) prog_1_method_13_code (1 : Nat) (Option.some Jvm.ClassFile.FieldType.boolean)) ∈ GW := gw_at 204 (by decide +kernel) (by decide +kernel)
theorem gw205 : (Jvm.Cond.methodLink "LiquidChecker" (34 : Nat) ({ cls := "LiquidChecker", name := "isWithin", desc := "(III)Z" } : Jvm.MethodName)) ∈ GW := gw_at 205 (by decide +kernel) (by decide +kernel)
theorem gw206 : (Jvm.Cond.static ({ cls := "LiquidChecker", name := "isWithin", desc := "(III)Z" } : Jvm.MethodName)) ∈ GW := gw_at 206 (by decide +kernel) (by decide +kernel)
theorem gw207 : (Jvm.Cond.code ({ cls := "LiquidChecker", name := "isWithin", desc := "(III)Z" } : Jvm.MethodName) prog_1_method_12_code (3 : Nat) (Option.some Jvm.ClassFile.FieldType.boolean)) ∈ GW := gw_at 207 (by decide +kernel) (by decide +kernel)
theorem gw208 : (Jvm.Cond.classLink "LiquidChecker" (38 : Nat) "java/lang/IllegalArgumentException") ∈ GW := gw_at 208 (by decide +kernel) (by decide +kernel)
theorem gw209 : (Jvm.Cond.instantiable "java/lang/IllegalArgumentException" (6 : Nat)) ∈ GW := gw_at 209 (by decide +kernel) (by decide +kernel)
theorem gw217 : (Jvm.Cond.selects "java/lang/IllegalArgumentException" ({ cls := "java/lang/Throwable", name := "fillInStackTrace", desc := "(I)Ljava/lang/Throwable;" } : Jvm.MethodName) ({ cls := "java/lang/Throwable", name := "fillInStackTrace", desc := "(I)Ljava/lang/Throwable;" } : Jvm.MethodName)) ∈ GW := gw_at 217 (by decide +kernel) (by decide +kernel)
theorem gw218 : (Jvm.Cond.selects "java/lang/IllegalArgumentException" ({ cls := "java/lang/Throwable", name := "fillInStackTrace", desc := "()Ljava/lang/Throwable;" } : Jvm.MethodName) ({ cls := "java/lang/Throwable", name := "fillInStackTrace", desc := "()Ljava/lang/Throwable;" } : Jvm.MethodName)) ∈ GW := gw_at 218 (by decide +kernel) (by decide +kernel)
theorem gw219 : (Jvm.Cond.lays "java/lang/IllegalArgumentException" "java/lang/Throwable" "cause" "Ljava/lang/Throwable;") ∈ GW := gw_at 219 (by decide +kernel) (by decide +kernel)
theorem gw220 : (Jvm.Cond.lays "java/lang/Throwable" "java/lang/Throwable" "cause" "Ljava/lang/Throwable;") ∈ GW := gw_at 220 (by decide +kernel) (by decide +kernel)
theorem gw221 : (Jvm.Cond.lays "java/lang/IllegalArgumentException" "java/lang/Throwable" "stackTrace" "[Ljava/lang/StackTraceElement;") ∈ GW := gw_at 221 (by decide +kernel) (by decide +kernel)
theorem gw222 : (Jvm.Cond.lays "java/lang/Throwable" "java/lang/Throwable" "stackTrace" "[Ljava/lang/StackTraceElement;") ∈ GW := gw_at 222 (by decide +kernel) (by decide +kernel)
theorem gw223 : (Jvm.Cond.lays "java/lang/IllegalArgumentException" "java/lang/Throwable" "suppressedExceptions" "Ljava/util/List;") ∈ GW := gw_at 223 (by decide +kernel) (by decide +kernel)
theorem gw224 : (Jvm.Cond.lays "java/lang/Throwable" "java/lang/Throwable" "suppressedExceptions" "Ljava/util/List;") ∈ GW := gw_at 224 (by decide +kernel) (by decide +kernel)
theorem gw225 : (Jvm.Cond.lays "java/lang/IllegalArgumentException" "java/lang/Throwable" "detailMessage" "Ljava/lang/String;") ∈ GW := gw_at 225 (by decide +kernel) (by decide +kernel)
theorem gw226 : (Jvm.Cond.lays "java/lang/Throwable" "java/lang/Throwable" "detailMessage" "Ljava/lang/String;") ∈ GW := gw_at 226 (by decide +kernel) (by decide +kernel)
theorem gw227 : (Jvm.Cond.lays "java/lang/IllegalArgumentException" "java/lang/Throwable" "backtrace" "Ljava/lang/Object;") ∈ GW := gw_at 227 (by decide +kernel) (by decide +kernel)
theorem gw228 : (Jvm.Cond.lays "java/lang/Throwable" "java/lang/Throwable" "backtrace" "Ljava/lang/Object;") ∈ GW := gw_at 228 (by decide +kernel) (by decide +kernel)
theorem gw229 : (Jvm.Cond.fieldLink "java/lang/Throwable" (198 : Nat) "java/lang/Throwable" "backtrace" "Ljava/lang/Object;") ∈ GW := gw_at 229 (by decide +kernel) (by decide +kernel)
theorem gw231 : (Jvm.Cond.instanceMethod ({ cls := "java/lang/Throwable", name := "<init>", desc := "()V" } : Jvm.MethodName)) ∈ GW := gw_at 231 (by decide +kernel) (by decide +kernel)
theorem gw232 : (Jvm.Cond.code ({ cls := "java/lang/Throwable", name := "<init>", desc := "()V" } : Jvm.MethodName) prog_17_method_1_code (1 : Nat) (Option.none : Option Jvm.ClassFile.FieldType)) ∈ GW := gw_at 232 (by decide +kernel) (by decide +kernel)
theorem gw233 : (Jvm.Cond.methodLink "java/lang/Throwable" (1 : Nat) ({ cls := "java/lang/Object", name := "<init>", desc := "()V" } : Jvm.MethodName)) ∈ GW := gw_at 233 (by decide +kernel) (by decide +kernel)
theorem gw234 : (Jvm.Cond.fieldLink "java/lang/Throwable" (13 : Nat) "java/lang/Throwable" "UNASSIGNED_STACK" "[Ljava/lang/StackTraceElement;") ∈ GW := gw_at 234 (by decide +kernel) (by decide +kernel)
theorem gw236 : (Jvm.Cond.fieldLink "java/lang/Throwable" (20 : Nat) "java/lang/Throwable" "SUPPRESSED_SENTINEL" "Ljava/util/List;") ∈ GW := gw_at 236 (by decide +kernel) (by decide +kernel)
theorem gw238 : (Jvm.Cond.methodLink "java/lang/Throwable" (27 : Nat) ({ cls := "java/lang/Throwable", name := "fillInStackTrace", desc := "()Ljava/lang/Throwable;" } : Jvm.MethodName)) ∈ GW := gw_at 238 (by decide +kernel) (by decide +kernel)
theorem gw239 : (Jvm.Cond.instanceMethod ({ cls := "java/lang/Throwable", name := "fillInStackTrace", desc := "()Ljava/lang/Throwable;" } : Jvm.MethodName)) ∈ GW := gw_at 239 (by decide +kernel) (by decide +kernel)
theorem gw241 : (Jvm.Cond.selects "java/lang/ArithmeticException" ({ cls := "java/lang/Throwable", name := "fillInStackTrace", desc := "()Ljava/lang/Throwable;" } : Jvm.MethodName) ({ cls := "java/lang/Throwable", name := "fillInStackTrace", desc := "()Ljava/lang/Throwable;" } : Jvm.MethodName)) ∈ GW := gw_at 241 (by decide +kernel) (by decide +kernel)
theorem gw242 : (Jvm.Cond.selects "java/lang/IllegalStateException" ({ cls := "java/lang/Throwable", name := "fillInStackTrace", desc := "()Ljava/lang/Throwable;" } : Jvm.MethodName) ({ cls := "java/lang/Throwable", name := "fillInStackTrace", desc := "()Ljava/lang/Throwable;" } : Jvm.MethodName)) ∈ GW := gw_at 242 (by decide +kernel) (by decide +kernel)
theorem gw243 : (Jvm.Cond.selects "java/lang/UnsupportedOperationException" ({ cls := "java/lang/Throwable", name := "fillInStackTrace", desc := "()Ljava/lang/Throwable;" } : Jvm.MethodName) ({ cls := "java/lang/Throwable", name := "fillInStackTrace", desc := "()Ljava/lang/Throwable;" } : Jvm.MethodName)) ∈ GW := gw_at 243 (by decide +kernel) (by decide +kernel)
theorem gw244 : (Jvm.Cond.selects "java/util/NoSuchElementException" ({ cls := "java/lang/Throwable", name := "fillInStackTrace", desc := "()Ljava/lang/Throwable;" } : Jvm.MethodName) ({ cls := "java/lang/Throwable", name := "fillInStackTrace", desc := "()Ljava/lang/Throwable;" } : Jvm.MethodName)) ∈ GW := gw_at 244 (by decide +kernel) (by decide +kernel)
theorem gw246 : (Jvm.Cond.methodLink "java/lang/Throwable" (202 : Nat) ({ cls := "java/lang/Throwable", name := "fillInStackTrace", desc := "(I)Ljava/lang/Throwable;" } : Jvm.MethodName)) ∈ GW := gw_at 246 (by decide +kernel) (by decide +kernel)
theorem gw248 : (Jvm.Cond.instanceMethod ({ cls := "java/lang/Throwable", name := "fillInStackTrace", desc := "(I)Ljava/lang/Throwable;" } : Jvm.MethodName)) ∈ GW := gw_at 248 (by decide +kernel) (by decide +kernel)
theorem gw249 : (Jvm.Cond.instantiable "java/lang/Throwable" (6 : Nat)) ∈ GW := gw_at 249 (by decide +kernel) (by decide +kernel)
theorem gw250 : (Jvm.Cond.native ({ cls := "java/lang/Throwable", name := "fillInStackTrace", desc := "(I)Ljava/lang/Throwable;" } : Jvm.MethodName)) ∈ GW := gw_at 250 (by decide +kernel) (by decide +kernel)
theorem gw252 : (Jvm.Cond.methodLink "LiquidChecker" (42 : Nat) ({ cls := "java/lang/IllegalArgumentException", name := "<init>", desc := "(Ljava/lang/String;)V" } : Jvm.MethodName)) ∈ GW := gw_at 252 (by decide +kernel) (by decide +kernel)
theorem gw253 : (Jvm.Cond.instanceMethod ({ cls := "java/lang/IllegalArgumentException", name := "<init>", desc := "(Ljava/lang/String;)V" } : Jvm.MethodName)) ∈ GW := gw_at 253 (by decide +kernel) (by decide +kernel)
theorem gw254 : (Jvm.Cond.code ({ cls := "java/lang/IllegalArgumentException", name := "<init>", desc := "(Ljava/lang/String;)V" } : Jvm.MethodName) prog_11_method_2_code (2 : Nat) (Option.none : Option Jvm.ClassFile.FieldType)) ∈ GW := gw_at 254 (by decide +kernel) (by decide +kernel)
theorem gw255 : (Jvm.Cond.methodLink "java/lang/IllegalArgumentException" (7 : Nat) ({ cls := "java/lang/RuntimeException", name := "<init>", desc := "(Ljava/lang/String;)V" } : Jvm.MethodName)) ∈ GW := gw_at 255 (by decide +kernel) (by decide +kernel)
theorem gw256 : (Jvm.Cond.instanceMethod ({ cls := "java/lang/RuntimeException", name := "<init>", desc := "(Ljava/lang/String;)V" } : Jvm.MethodName)) ∈ GW := gw_at 256 (by decide +kernel) (by decide +kernel)
theorem gw257 : (Jvm.Cond.code ({ cls := "java/lang/RuntimeException", name := "<init>", desc := "(Ljava/lang/String;)V" } : Jvm.MethodName) prog_14_method_2_code (2 : Nat) (Option.none : Option Jvm.ClassFile.FieldType)) ∈ GW := gw_at 257 (by decide +kernel) (by decide +kernel)
theorem gw258 : (Jvm.Cond.methodLink "java/lang/RuntimeException" (7 : Nat) ({ cls := "java/lang/Exception", name := "<init>", desc := "(Ljava/lang/String;)V" } : Jvm.MethodName)) ∈ GW := gw_at 258 (by decide +kernel) (by decide +kernel)
theorem gw259 : (Jvm.Cond.instanceMethod ({ cls := "java/lang/Exception", name := "<init>", desc := "(Ljava/lang/String;)V" } : Jvm.MethodName)) ∈ GW := gw_at 259 (by decide +kernel) (by decide +kernel)
theorem gw260 : (Jvm.Cond.code ({ cls := "java/lang/Exception", name := "<init>", desc := "(Ljava/lang/String;)V" } : Jvm.MethodName) prog_10_method_2_code (2 : Nat) (Option.none : Option Jvm.ClassFile.FieldType)) ∈ GW := gw_at 260 (by decide +kernel) (by decide +kernel)
theorem gw261 : (Jvm.Cond.methodLink "java/lang/Exception" (7 : Nat) ({ cls := "java/lang/Throwable", name := "<init>", desc := "(Ljava/lang/String;)V" } : Jvm.MethodName)) ∈ GW := gw_at 261 (by decide +kernel) (by decide +kernel)
theorem gw262 : (Jvm.Cond.instanceMethod ({ cls := "java/lang/Throwable", name := "<init>", desc := "(Ljava/lang/String;)V" } : Jvm.MethodName)) ∈ GW := gw_at 262 (by decide +kernel) (by decide +kernel)
theorem gw263 : (Jvm.Cond.code ({ cls := "java/lang/Throwable", name := "<init>", desc := "(Ljava/lang/String;)V" } : Jvm.MethodName) prog_17_method_2_code (2 : Nat) (Option.none : Option Jvm.ClassFile.FieldType)) ∈ GW := gw_at 263 (by decide +kernel) (by decide +kernel)
theorem gw264 : (Jvm.Cond.fieldLink "java/lang/Throwable" (198 : Nat) "java/lang/Throwable" "backtrace" "Ljava/lang/Object;") ∈ GW := gw_at 264 (by decide +kernel) (by decide +kernel)
theorem gw265 : (Jvm.Cond.fieldLink "java/lang/Throwable" (31 : Nat) "java/lang/Throwable" "detailMessage" "Ljava/lang/String;") ∈ GW := gw_at 265 (by decide +kernel) (by decide +kernel)
theorem gw266 : (Jvm.Cond.fieldLink "java/lang/Throwable" (7 : Nat) "java/lang/Throwable" "cause" "Ljava/lang/Throwable;") ∈ GW := gw_at 266 (by decide +kernel) (by decide +kernel)
theorem gw267 : (Jvm.Cond.fieldLink "java/lang/Throwable" (17 : Nat) "java/lang/Throwable" "stackTrace" "[Ljava/lang/StackTraceElement;") ∈ GW := gw_at 267 (by decide +kernel) (by decide +kernel)
theorem gw268 : (Jvm.Cond.fieldLink "java/lang/Throwable" (24 : Nat) "java/lang/Throwable" "suppressedExceptions" "Ljava/util/List;") ∈ GW := gw_at 268 (by decide +kernel) (by decide +kernel)
theorem gw273 : (Jvm.Cond.lays "java/lang/IllegalArgumentException" "java/lang/Throwable" "depth" "I") ∈ GW := gw_at 273 (by decide +kernel) (by decide +kernel)
theorem gw277 : (Jvm.Cond.arrayClass Jvm.ClassFile.FieldType.byte) ∈ GW := gw_at 277 (by decide +kernel) (by decide +kernel)
theorem gw278 : (Jvm.Cond.methodLink "LiquidChecker" (45 : Nat) ({ cls := "LiquidChecker", name := "isDifference", desc := "(I)Z" } : Jvm.MethodName)) ∈ GW := gw_at 278 (by decide +kernel) (by decide +kernel)
theorem gw279 : (Jvm.Cond.static ({ cls := "LiquidChecker", name := "isDifference", desc := "(I)Z" } : Jvm.MethodName)) ∈ GW := gw_at 279 (by decide +kernel) (by decide +kernel)
theorem gw280 : (Jvm.Cond.code ({ cls := "LiquidChecker", name := "isDifference", desc := "(I)Z" } : Jvm.MethodName) prog_1_method_14_code (1 : Nat) (Option.some Jvm.ClassFile.FieldType.boolean)) ∈ GW := gw_at 280 (by decide +kernel) (by decide +kernel)
theorem gw282 : (Jvm.Cond.classLink "LiquidChecker" (63 : Nat) "java/lang/IllegalStateException") ∈ GW := gw_at 282 (by decide +kernel) (by decide +kernel)
theorem gw283 : (Jvm.Cond.instantiable "java/lang/IllegalStateException" (6 : Nat)) ∈ GW := gw_at 283 (by decide +kernel) (by decide +kernel)
theorem gw285 : (Jvm.Cond.selects "java/lang/IllegalStateException" ({ cls := "java/lang/Throwable", name := "fillInStackTrace", desc := "(I)Ljava/lang/Throwable;" } : Jvm.MethodName) ({ cls := "java/lang/Throwable", name := "fillInStackTrace", desc := "(I)Ljava/lang/Throwable;" } : Jvm.MethodName)) ∈ GW := gw_at 285 (by decide +kernel) (by decide +kernel)
theorem gw286 : (Jvm.Cond.lays "java/lang/IllegalStateException" "java/lang/Throwable" "cause" "Ljava/lang/Throwable;") ∈ GW := gw_at 286 (by decide +kernel) (by decide +kernel)
theorem gw287 : (Jvm.Cond.lays "java/lang/IllegalStateException" "java/lang/Throwable" "stackTrace" "[Ljava/lang/StackTraceElement;") ∈ GW := gw_at 287 (by decide +kernel) (by decide +kernel)
theorem gw288 : (Jvm.Cond.lays "java/lang/IllegalStateException" "java/lang/Throwable" "suppressedExceptions" "Ljava/util/List;") ∈ GW := gw_at 288 (by decide +kernel) (by decide +kernel)
theorem gw289 : (Jvm.Cond.lays "java/lang/IllegalStateException" "java/lang/Throwable" "detailMessage" "Ljava/lang/String;") ∈ GW := gw_at 289 (by decide +kernel) (by decide +kernel)
theorem gw290 : (Jvm.Cond.lays "java/lang/IllegalStateException" "java/lang/Throwable" "backtrace" "Ljava/lang/Object;") ∈ GW := gw_at 290 (by decide +kernel) (by decide +kernel)
theorem gw292 : (Jvm.Cond.methodLink "LiquidChecker" (67 : Nat) ({ cls := "java/lang/IllegalStateException", name := "<init>", desc := "(Ljava/lang/String;)V" } : Jvm.MethodName)) ∈ GW := gw_at 292 (by decide +kernel) (by decide +kernel)
theorem gw293 : (Jvm.Cond.instanceMethod ({ cls := "java/lang/IllegalStateException", name := "<init>", desc := "(Ljava/lang/String;)V" } : Jvm.MethodName)) ∈ GW := gw_at 293 (by decide +kernel) (by decide +kernel)
theorem gw294 : (Jvm.Cond.code ({ cls := "java/lang/IllegalStateException", name := "<init>", desc := "(Ljava/lang/String;)V" } : Jvm.MethodName) prog_12_method_2_code (2 : Nat) (Option.none : Option Jvm.ClassFile.FieldType)) ∈ GW := gw_at 294 (by decide +kernel) (by decide +kernel)
theorem gw295 : (Jvm.Cond.methodLink "java/lang/IllegalStateException" (7 : Nat) ({ cls := "java/lang/RuntimeException", name := "<init>", desc := "(Ljava/lang/String;)V" } : Jvm.MethodName)) ∈ GW := gw_at 295 (by decide +kernel) (by decide +kernel)
theorem gw296 : (Jvm.Cond.lays "java/lang/IllegalStateException" "java/lang/Throwable" "depth" "I") ∈ GW := gw_at 296 (by decide +kernel) (by decide +kernel)
theorem gw300 : (Jvm.Cond.instanceMethod ({ cls := "LiquidChecker$Relations", name := "append", desc := "(III)I" } : Jvm.MethodName)) ∈ GW := gw_at 300 (by decide +kernel) (by decide +kernel)
theorem gw301 : (Jvm.Cond.code ({ cls := "LiquidChecker$Relations", name := "append", desc := "(III)I" } : Jvm.MethodName) prog_4_method_2_code (4 : Nat) (Option.some Jvm.ClassFile.FieldType.int)) ∈ GW := gw_at 301 (by decide +kernel) (by decide +kernel)
theorem gw302 : (Jvm.Cond.methodLink "LiquidCheckerLaw" (65 : Nat) ({ cls := "LiquidCheckerLaw", name := "statement", desc := "(LLiquidChecker;IIIIII[J)I" } : Jvm.MethodName)) ∈ GW := gw_at 302 (by decide +kernel) (by decide +kernel)
theorem gw303 : (Jvm.Cond.static ({ cls := "LiquidCheckerLaw", name := "statement", desc := "(LLiquidChecker;IIIIII[J)I" } : Jvm.MethodName)) ∈ GW := gw_at 303 (by decide +kernel) (by decide +kernel)
theorem gw304 : (Jvm.Cond.codeWith ({ cls := "LiquidCheckerLaw", name := "statement", desc := "(LLiquidChecker;IIIIII[J)I" } : Jvm.MethodName) method_4_code (9 : Nat) (Option.some Jvm.ClassFile.FieldType.int) [((0 : Nat), (18 : Nat), (21 : Nat), (13 : Nat)), ((0 : Nat), (18 : Nat), (25 : Nat), (21 : Nat)), ((0 : Nat), (18 : Nat), (29 : Nat), (15 : Nat))]) ∈ GW := gw_at 304 (by decide +kernel) (by decide +kernel)
theorem gw305 : (Jvm.Cond.classLink "LiquidCheckerLaw" (21 : Nat) "java/lang/UnsupportedOperationException") ∈ GW := gw_at 305 (by decide +kernel) (by decide +kernel)
theorem gw306 : (Jvm.Cond.methodLink "LiquidCheckerLaw" (17 : Nat) ({ cls := "LiquidChecker", name := "statement", desc := "(IIIIII)I" } : Jvm.MethodName)) ∈ GW := gw_at 306 (by decide +kernel) (by decide +kernel)
theorem gw307 : (Jvm.Cond.instanceMethod ({ cls := "LiquidChecker", name := "statement", desc := "(IIIIII)I" } : Jvm.MethodName)) ∈ GW := gw_at 307 (by decide +kernel) (by decide +kernel)
theorem gw308 : (Jvm.Cond.selects "LiquidChecker" ({ cls := "LiquidChecker", name := "statement", desc := "(IIIIII)I" } : Jvm.MethodName) ({ cls := "LiquidChecker", name := "statement", desc := "(IIIIII)I" } : Jvm.MethodName)) ∈ GW := gw_at 308 (by decide +kernel) (by decide +kernel)
theorem gw309 : (Jvm.Cond.code ({ cls := "LiquidChecker", name := "statement", desc := "(IIIIII)I" } : Jvm.MethodName) prog_1_method_3_code (8 : Nat) (Option.some Jvm.ClassFile.FieldType.int)) ∈ GW := gw_at 309 (by decide +kernel) (by decide +kernel)
theorem gw310 : (Jvm.Cond.methodLink "LiquidChecker" (72 : Nat) ({ cls := "LiquidChecker", name := "isStatement", desc := "(IIIII)Z" } : Jvm.MethodName)) ∈ GW := gw_at 310 (by decide +kernel) (by decide +kernel)
theorem gw311 : (Jvm.Cond.static ({ cls := "LiquidChecker", name := "isStatement", desc := "(IIIII)Z" } : Jvm.MethodName)) ∈ GW := gw_at 311 (by decide +kernel) (by decide +kernel)
theorem gw312 : (Jvm.Cond.code ({ cls := "LiquidChecker", name := "isStatement", desc := "(IIIII)Z" } : Jvm.MethodName) prog_1_method_21_code (5 : Nat) (Option.some Jvm.ClassFile.FieldType.boolean)) ∈ GW := gw_at 312 (by decide +kernel) (by decide +kernel)
theorem gw313 : (Jvm.Cond.methodLink "LiquidChecker" (165 : Nat) ({ cls := "LiquidChecker", name := "givesA", desc := "(I)Z" } : Jvm.MethodName)) ∈ GW := gw_at 313 (by decide +kernel) (by decide +kernel)
theorem gw314 : (Jvm.Cond.static ({ cls := "LiquidChecker", name := "givesA", desc := "(I)Z" } : Jvm.MethodName)) ∈ GW := gw_at 314 (by decide +kernel) (by decide +kernel)
theorem gw315 : (Jvm.Cond.code ({ cls := "LiquidChecker", name := "givesA", desc := "(I)Z" } : Jvm.MethodName) prog_1_method_17_code (1 : Nat) (Option.some Jvm.ClassFile.FieldType.boolean)) ∈ GW := gw_at 315 (by decide +kernel) (by decide +kernel)
theorem gw316 : (Jvm.Cond.methodLink "LiquidChecker" (162 : Nat) ({ cls := "LiquidChecker", name := "isGivable", desc := "(I)Z" } : Jvm.MethodName)) ∈ GW := gw_at 316 (by decide +kernel) (by decide +kernel)
theorem gw317 : (Jvm.Cond.static ({ cls := "LiquidChecker", name := "isGivable", desc := "(I)Z" } : Jvm.MethodName)) ∈ GW := gw_at 317 (by decide +kernel) (by decide +kernel)
theorem gw318 : (Jvm.Cond.code ({ cls := "LiquidChecker", name := "isGivable", desc := "(I)Z" } : Jvm.MethodName) prog_1_method_15_code (1 : Nat) (Option.some Jvm.ClassFile.FieldType.boolean)) ∈ GW := gw_at 318 (by decide +kernel) (by decide +kernel)
theorem gw319 : (Jvm.Cond.methodLink "LiquidChecker" (168 : Nat) ({ cls := "LiquidChecker", name := "usesA", desc := "(I)Z" } : Jvm.MethodName)) ∈ GW := gw_at 319 (by decide +kernel) (by decide +kernel)
theorem gw320 : (Jvm.Cond.static ({ cls := "LiquidChecker", name := "usesA", desc := "(I)Z" } : Jvm.MethodName)) ∈ GW := gw_at 320 (by decide +kernel) (by decide +kernel)
theorem gw321 : (Jvm.Cond.code ({ cls := "LiquidChecker", name := "usesA", desc := "(I)Z" } : Jvm.MethodName) prog_1_method_18_code (1 : Nat) (Option.some Jvm.ClassFile.FieldType.boolean)) ∈ GW := gw_at 321 (by decide +kernel) (by decide +kernel)
theorem gw322 : (Jvm.Cond.methodLink "LiquidChecker" (123 : Nat) ({ cls := "LiquidChecker", name := "isUsable", desc := "(I)Z" } : Jvm.MethodName)) ∈ GW := gw_at 322 (by decide +kernel) (by decide +kernel)
theorem gw323 : (Jvm.Cond.static ({ cls := "LiquidChecker", name := "isUsable", desc := "(I)Z" } : Jvm.MethodName)) ∈ GW := gw_at 323 (by decide +kernel) (by decide +kernel)
theorem gw324 : (Jvm.Cond.code ({ cls := "LiquidChecker", name := "isUsable", desc := "(I)Z" } : Jvm.MethodName) prog_1_method_16_code (1 : Nat) (Option.some Jvm.ClassFile.FieldType.boolean)) ∈ GW := gw_at 324 (by decide +kernel) (by decide +kernel)
theorem gw325 : (Jvm.Cond.methodLink "LiquidChecker" (171 : Nat) ({ cls := "LiquidChecker", name := "usesB", desc := "(I)Z" } : Jvm.MethodName)) ∈ GW := gw_at 325 (by decide +kernel) (by decide +kernel)
theorem gw326 : (Jvm.Cond.static ({ cls := "LiquidChecker", name := "usesB", desc := "(I)Z" } : Jvm.MethodName)) ∈ GW := gw_at 326 (by decide +kernel) (by decide +kernel)
theorem gw327 : (Jvm.Cond.code ({ cls := "LiquidChecker", name := "usesB", desc := "(I)Z" } : Jvm.MethodName) prog_1_method_19_code (1 : Nat) (Option.some Jvm.ClassFile.FieldType.boolean)) ∈ GW := gw_at 327 (by decide +kernel) (by decide +kernel)
theorem gw328 : (Jvm.Cond.methodLink "LiquidChecker" (174 : Nat) ({ cls := "LiquidChecker", name := "usesC", desc := "(I)Z" } : Jvm.MethodName)) ∈ GW := gw_at 328 (by decide +kernel) (by decide +kernel)
theorem gw329 : (Jvm.Cond.static ({ cls := "LiquidChecker", name := "usesC", desc := "(I)Z" } : Jvm.MethodName)) ∈ GW := gw_at 329 (by decide +kernel) (by decide +kernel)
theorem gw330 : (Jvm.Cond.code ({ cls := "LiquidChecker", name := "usesC", desc := "(I)Z" } : Jvm.MethodName) prog_1_method_20_code (1 : Nat) (Option.some Jvm.ClassFile.FieldType.boolean)) ∈ GW := gw_at 330 (by decide +kernel) (by decide +kernel)
theorem gw334 : (Jvm.Cond.instanceMethod ({ cls := "LiquidChecker$Function", name := "hasGivenWhatIsUsed", desc := "(IIII)Z" } : Jvm.MethodName)) ∈ GW := gw_at 334 (by decide +kernel) (by decide +kernel)
theorem gw335 : (Jvm.Cond.code ({ cls := "LiquidChecker$Function", name := "hasGivenWhatIsUsed", desc := "(IIII)Z" } : Jvm.MethodName) prog_2_method_3_code (5 : Nat) (Option.some Jvm.ClassFile.FieldType.boolean)) ∈ GW := gw_at 335 (by decide +kernel) (by decide +kernel)
theorem gw337 : (Jvm.Cond.methodLink "LiquidChecker$Function" (50 : Nat) ({ cls := "LiquidChecker$Function", name := "hasGiven", desc := "(I)Z" } : Jvm.MethodName)) ∈ GW := gw_at 337 (by decide +kernel) (by decide +kernel)
theorem gw339 : (Jvm.Cond.instanceMethod ({ cls := "LiquidChecker$Function", name := "hasGiven", desc := "(I)Z" } : Jvm.MethodName)) ∈ GW := gw_at 339 (by decide +kernel) (by decide +kernel)
theorem gw340 : (Jvm.Cond.code ({ cls := "LiquidChecker$Function", name := "hasGiven", desc := "(I)Z" } : Jvm.MethodName) prog_2_method_4_code (2 : Nat) (Option.some Jvm.ClassFile.FieldType.boolean)) ∈ GW := gw_at 340 (by decide +kernel) (by decide +kernel)
theorem gw345 : (Jvm.Cond.instanceMethod ({ cls := "LiquidChecker$Function", name := "isOpenFor", desc := "(I)Z" } : Jvm.MethodName)) ∈ GW := gw_at 345 (by decide +kernel) (by decide +kernel)
theorem gw346 : (Jvm.Cond.code ({ cls := "LiquidChecker$Function", name := "isOpenFor", desc := "(I)Z" } : Jvm.MethodName) prog_2_method_5_code (2 : Nat) (Option.some Jvm.ClassFile.FieldType.boolean)) ∈ GW := gw_at 346 (by decide +kernel) (by decide +kernel)
theorem gw347 : (Jvm.Cond.classLink "LiquidChecker" (85 : Nat) "java/lang/UnsupportedOperationException") ∈ GW := gw_at 347 (by decide +kernel) (by decide +kernel)
theorem gw348 : (Jvm.Cond.instantiable "java/lang/UnsupportedOperationException" (6 : Nat)) ∈ GW := gw_at 348 (by decide +kernel) (by decide +kernel)
theorem gw350 : (Jvm.Cond.selects "java/lang/UnsupportedOperationException" ({ cls := "java/lang/Throwable", name := "fillInStackTrace", desc := "(I)Ljava/lang/Throwable;" } : Jvm.MethodName) ({ cls := "java/lang/Throwable", name := "fillInStackTrace", desc := "(I)Ljava/lang/Throwable;" } : Jvm.MethodName)) ∈ GW := gw_at 350 (by decide +kernel) (by decide +kernel)
theorem gw351 : (Jvm.Cond.lays "java/lang/UnsupportedOperationException" "java/lang/Throwable" "cause" "Ljava/lang/Throwable;") ∈ GW := gw_at 351 (by decide +kernel) (by decide +kernel)
theorem gw352 : (Jvm.Cond.lays "java/lang/UnsupportedOperationException" "java/lang/Throwable" "stackTrace" "[Ljava/lang/StackTraceElement;") ∈ GW := gw_at 352 (by decide +kernel) (by decide +kernel)
theorem gw353 : (Jvm.Cond.lays "java/lang/UnsupportedOperationException" "java/lang/Throwable" "suppressedExceptions" "Ljava/util/List;") ∈ GW := gw_at 353 (by decide +kernel) (by decide +kernel)
theorem gw354 : (Jvm.Cond.lays "java/lang/UnsupportedOperationException" "java/lang/Throwable" "detailMessage" "Ljava/lang/String;") ∈ GW := gw_at 354 (by decide +kernel) (by decide +kernel)
theorem gw355 : (Jvm.Cond.lays "java/lang/UnsupportedOperationException" "java/lang/Throwable" "backtrace" "Ljava/lang/Object;") ∈ GW := gw_at 355 (by decide +kernel) (by decide +kernel)
theorem gw357 : (Jvm.Cond.methodLink "LiquidChecker" (89 : Nat) ({ cls := "java/lang/UnsupportedOperationException", name := "<init>", desc := "(Ljava/lang/String;)V" } : Jvm.MethodName)) ∈ GW := gw_at 357 (by decide +kernel) (by decide +kernel)
theorem gw358 : (Jvm.Cond.instanceMethod ({ cls := "java/lang/UnsupportedOperationException", name := "<init>", desc := "(Ljava/lang/String;)V" } : Jvm.MethodName)) ∈ GW := gw_at 358 (by decide +kernel) (by decide +kernel)
theorem gw359 : (Jvm.Cond.code ({ cls := "java/lang/UnsupportedOperationException", name := "<init>", desc := "(Ljava/lang/String;)V" } : Jvm.MethodName) prog_18_method_2_code (2 : Nat) (Option.none : Option Jvm.ClassFile.FieldType)) ∈ GW := gw_at 359 (by decide +kernel) (by decide +kernel)
theorem gw360 : (Jvm.Cond.methodLink "java/lang/UnsupportedOperationException" (7 : Nat) ({ cls := "java/lang/RuntimeException", name := "<init>", desc := "(Ljava/lang/String;)V" } : Jvm.MethodName)) ∈ GW := gw_at 360 (by decide +kernel) (by decide +kernel)
theorem gw361 : (Jvm.Cond.lays "java/lang/UnsupportedOperationException" "java/lang/Throwable" "depth" "I") ∈ GW := gw_at 361 (by decide +kernel) (by decide +kernel)
theorem gw365 : (Jvm.Cond.instanceMethod ({ cls := "LiquidChecker$Function", name := "hasRoomFor", desc := "(I)Z" } : Jvm.MethodName)) ∈ GW := gw_at 365 (by decide +kernel) (by decide +kernel)
theorem gw366 : (Jvm.Cond.code ({ cls := "LiquidChecker$Function", name := "hasRoomFor", desc := "(I)Z" } : Jvm.MethodName) prog_2_method_6_code (2 : Nat) (Option.some Jvm.ClassFile.FieldType.boolean)) ∈ GW := gw_at 366 (by decide +kernel) (by decide +kernel)
theorem gw370 : (Jvm.Cond.instanceMethod ({ cls := "LiquidChecker$Function", name := "append", desc := "(IIIII)I" } : Jvm.MethodName)) ∈ GW := gw_at 370 (by decide +kernel) (by decide +kernel)
theorem gw371 : (Jvm.Cond.code ({ cls := "LiquidChecker$Function", name := "append", desc := "(IIIII)I" } : Jvm.MethodName) prog_2_method_7_code (7 : Nat) (Option.some Jvm.ClassFile.FieldType.int)) ∈ GW := gw_at 371 (by decide +kernel) (by decide +kernel)
theorem gw374 : (Jvm.Cond.instanceMethod ({ cls := "LiquidChecker$Statement", name := "write", desc := "(IIIII)V" } : Jvm.MethodName)) ∈ GW := gw_at 374 (by decide +kernel) (by decide +kernel)
theorem gw375 : (Jvm.Cond.code ({ cls := "LiquidChecker$Statement", name := "write", desc := "(IIIII)V" } : Jvm.MethodName) prog_5_method_2_code (6 : Nat) (Option.none : Option Jvm.ClassFile.FieldType)) ∈ GW := gw_at 375 (by decide +kernel) (by decide +kernel)
theorem gw377 : (Jvm.Cond.methodLink "LiquidChecker$Function" (69 : Nat) ({ cls := "LiquidChecker$Function", name := "openIf", desc := "(I)V" } : Jvm.MethodName)) ∈ GW := gw_at 377 (by decide +kernel) (by decide +kernel)
theorem gw379 : (Jvm.Cond.instanceMethod ({ cls := "LiquidChecker$Function", name := "openIf", desc := "(I)V" } : Jvm.MethodName)) ∈ GW := gw_at 379 (by decide +kernel) (by decide +kernel)
theorem gw380 : (Jvm.Cond.code ({ cls := "LiquidChecker$Function", name := "openIf", desc := "(I)V" } : Jvm.MethodName) prog_2_method_8_code (2 : Nat) (Option.none : Option Jvm.ClassFile.FieldType)) ∈ GW := gw_at 380 (by decide +kernel) (by decide +kernel)
theorem gw381 : (Jvm.Cond.methodLink "LiquidChecker$Function" (73 : Nat) ({ cls := "LiquidChecker$Function", name := "turnToElse", desc := "(I)V" } : Jvm.MethodName)) ∈ GW := gw_at 381 (by decide +kernel) (by decide +kernel)
theorem gw383 : (Jvm.Cond.instanceMethod ({ cls := "LiquidChecker$Function", name := "turnToElse", desc := "(I)V" } : Jvm.MethodName)) ∈ GW := gw_at 383 (by decide +kernel) (by decide +kernel)
theorem gw384 : (Jvm.Cond.code ({ cls := "LiquidChecker$Function", name := "turnToElse", desc := "(I)V" } : Jvm.MethodName) prog_2_method_9_code (2 : Nat) (Option.none : Option Jvm.ClassFile.FieldType)) ∈ GW := gw_at 384 (by decide +kernel) (by decide +kernel)
theorem gw385 : (Jvm.Cond.methodLink "LiquidChecker$Function" (76 : Nat) ({ cls := "LiquidChecker$Function", name := "closeIf", desc := "(I)V" } : Jvm.MethodName)) ∈ GW := gw_at 385 (by decide +kernel) (by decide +kernel)
theorem gw387 : (Jvm.Cond.instanceMethod ({ cls := "LiquidChecker$Function", name := "closeIf", desc := "(I)V" } : Jvm.MethodName)) ∈ GW := gw_at 387 (by decide +kernel) (by decide +kernel)
theorem gw388 : (Jvm.Cond.code ({ cls := "LiquidChecker$Function", name := "closeIf", desc := "(I)V" } : Jvm.MethodName) prog_2_method_10_code (2 : Nat) (Option.none : Option Jvm.ClassFile.FieldType)) ∈ GW := gw_at 388 (by decide +kernel) (by decide +kernel)
theorem gw389 : (Jvm.Cond.methodLink "LiquidCheckerLaw" (69 : Nat) ({ cls := "LiquidCheckerLaw", name := "clear", desc := "(LLiquidChecker;I[J)I" } : Jvm.MethodName)) ∈ GW := gw_at 389 (by decide +kernel) (by decide +kernel)
theorem gw390 : (Jvm.Cond.static ({ cls := "LiquidCheckerLaw", name := "clear", desc := "(LLiquidChecker;I[J)I" } : Jvm.MethodName)) ∈ GW := gw_at 390 (by decide +kernel) (by decide +kernel)
theorem gw391 : (Jvm.Cond.codeWith ({ cls := "LiquidCheckerLaw", name := "clear", desc := "(LLiquidChecker;I[J)I" } : Jvm.MethodName) method_5_code (4 : Nat) (Option.some Jvm.ClassFile.FieldType.int) [((0 : Nat), (9 : Nat), (12 : Nat), (13 : Nat))]) ∈ GW := gw_at 391 (by decide +kernel) (by decide +kernel)
theorem gw392 : (Jvm.Cond.methodLink "LiquidCheckerLaw" (23 : Nat) ({ cls := "LiquidChecker", name := "clear", desc := "(I)I" } : Jvm.MethodName)) ∈ GW := gw_at 392 (by decide +kernel) (by decide +kernel)
theorem gw393 : (Jvm.Cond.instanceMethod ({ cls := "LiquidChecker", name := "clear", desc := "(I)I" } : Jvm.MethodName)) ∈ GW := gw_at 393 (by decide +kernel) (by decide +kernel)
theorem gw394 : (Jvm.Cond.selects "LiquidChecker" ({ cls := "LiquidChecker", name := "clear", desc := "(I)I" } : Jvm.MethodName) ({ cls := "LiquidChecker", name := "clear", desc := "(I)I" } : Jvm.MethodName)) ∈ GW := gw_at 394 (by decide +kernel) (by decide +kernel)
theorem gw395 : (Jvm.Cond.code ({ cls := "LiquidChecker", name := "clear", desc := "(I)I" } : Jvm.MethodName) prog_1_method_4_code (3 : Nat) (Option.some Jvm.ClassFile.FieldType.int)) ∈ GW := gw_at 395 (by decide +kernel) (by decide +kernel)
theorem gw399 : (Jvm.Cond.instanceMethod ({ cls := "LiquidChecker$Function", name := "empty", desc := "()V" } : Jvm.MethodName)) ∈ GW := gw_at 399 (by decide +kernel) (by decide +kernel)
theorem gw400 : (Jvm.Cond.code ({ cls := "LiquidChecker$Function", name := "empty", desc := "()V" } : Jvm.MethodName) prog_2_method_2_code (1 : Nat) (Option.none : Option Jvm.ClassFile.FieldType)) ∈ GW := gw_at 400 (by decide +kernel) (by decide +kernel)
theorem gw401 : (Jvm.Cond.methodLink "LiquidCheckerLaw" (73 : Nat) ({ cls := "LiquidCheckerLaw", name := "check", desc := "(LLiquidChecker;I[J)I" } : Jvm.MethodName)) ∈ GW := gw_at 401 (by decide +kernel) (by decide +kernel)
theorem gw402 : (Jvm.Cond.static ({ cls := "LiquidCheckerLaw", name := "check", desc := "(LLiquidChecker;I[J)I" } : Jvm.MethodName)) ∈ GW := gw_at 402 (by decide +kernel) (by decide +kernel)
theorem gw403 : (Jvm.Cond.codeWith ({ cls := "LiquidCheckerLaw", name := "check", desc := "(LLiquidChecker;I[J)I" } : Jvm.MethodName) method_6_code (4 : Nat) (Option.some Jvm.ClassFile.FieldType.int) [((0 : Nat), (9 : Nat), (12 : Nat), (13 : Nat))]) ∈ GW := gw_at 403 (by decide +kernel) (by decide +kernel)
theorem gw404 : (Jvm.Cond.methodLink "LiquidCheckerLaw" (27 : Nat) ({ cls := "LiquidChecker", name := "check", desc := "(I)I" } : Jvm.MethodName)) ∈ GW := gw_at 404 (by decide +kernel) (by decide +kernel)
theorem gw405 : (Jvm.Cond.instanceMethod ({ cls := "LiquidChecker", name := "check", desc := "(I)I" } : Jvm.MethodName)) ∈ GW := gw_at 405 (by decide +kernel) (by decide +kernel)
theorem gw406 : (Jvm.Cond.selects "LiquidChecker" ({ cls := "LiquidChecker", name := "check", desc := "(I)I" } : Jvm.MethodName) ({ cls := "LiquidChecker", name := "check", desc := "(I)I" } : Jvm.MethodName)) ∈ GW := gw_at 406 (by decide +kernel) (by decide +kernel)
theorem gw407 : (Jvm.Cond.code ({ cls := "LiquidChecker", name := "check", desc := "(I)I" } : Jvm.MethodName) prog_1_method_5_code (2 : Nat) (Option.some Jvm.ClassFile.FieldType.int)) ∈ GW := gw_at 407 (by decide +kernel) (by decide +kernel)
theorem gw410 : (Jvm.Cond.instanceMethod ({ cls := "LiquidChecker$Walk", name := "through", desc := "([LLiquidChecker$Function;LLiquidChecker$Function;III)V" } : Jvm.MethodName)) ∈ GW := gw_at 410 (by decide +kernel) (by decide +kernel)
theorem gw411 : (Jvm.Cond.code ({ cls := "LiquidChecker$Walk", name := "through", desc := "([LLiquidChecker$Function;LLiquidChecker$Function;III)V" } : Jvm.MethodName) prog_6_method_3_code (8 : Nat) (Option.none : Option Jvm.ClassFile.FieldType)) ∈ GW := gw_at 411 (by decide +kernel) (by decide +kernel)
theorem gw412 : (Jvm.Cond.constant "LiquidChecker$Walk" (41 : Nat) (-2147483648 : Int32)) ∈ GW := gw_at 412 (by decide +kernel) (by decide +kernel)
theorem gw415 : (Jvm.Cond.instanceMethod ({ cls := "LiquidChecker$Known", name := "forgetAll", desc := "()V" } : Jvm.MethodName)) ∈ GW := gw_at 415 (by decide +kernel) (by decide +kernel)
theorem gw416 : (Jvm.Cond.code ({ cls := "LiquidChecker$Known", name := "forgetAll", desc := "()V" } : Jvm.MethodName) prog_3_method_2_code (2 : Nat) (Option.none : Option Jvm.ClassFile.FieldType)) ∈ GW := gw_at 416 (by decide +kernel) (by decide +kernel)
theorem gw417 : (Jvm.Cond.constant "LiquidChecker$Known" (17 : Nat) (2147483647 : Int32)) ∈ GW := gw_at 417 (by decide +kernel) (by decide +kernel)
theorem gw418 : (Jvm.Cond.methodLink "LiquidChecker$Known" (18 : Nat) ({ cls := "java/util/Arrays", name := "fill", desc := "([II)V" } : Jvm.MethodName)) ∈ GW := gw_at 418 (by decide +kernel) (by decide +kernel)
theorem gw419 : (Jvm.Cond.static ({ cls := "java/util/Arrays", name := "fill", desc := "([II)V" } : Jvm.MethodName)) ∈ GW := gw_at 419 (by decide +kernel) (by decide +kernel)
theorem gw420 : (Jvm.Cond.code ({ cls := "java/util/Arrays", name := "fill", desc := "([II)V" } : Jvm.MethodName) prog_19_method_103_code (4 : Nat) (Option.none : Option Jvm.ClassFile.FieldType)) ∈ GW := gw_at 420 (by decide +kernel) (by decide +kernel)
theorem gw423 : (Jvm.Cond.instanceMethod ({ cls := "LiquidChecker$Relations", name := "learnedBy", desc := "(LLiquidChecker$Known;II)V" } : Jvm.MethodName)) ∈ GW := gw_at 423 (by decide +kernel) (by decide +kernel)
theorem gw424 : (Jvm.Cond.code ({ cls := "LiquidChecker$Relations", name := "learnedBy", desc := "(LLiquidChecker$Known;II)V" } : Jvm.MethodName) prog_4_method_3_code (5 : Nat) (Option.none : Option Jvm.ClassFile.FieldType)) ∈ GW := gw_at 424 (by decide +kernel) (by decide +kernel)
theorem gw425 : (Jvm.Cond.methodLink "LiquidChecker$Relations" (25 : Nat) ({ cls := "LiquidChecker$Relations", name := "nameFor", desc := "(III)I" } : Jvm.MethodName)) ∈ GW := gw_at 425 (by decide +kernel) (by decide +kernel)
theorem gw426 : (Jvm.Cond.static ({ cls := "LiquidChecker$Relations", name := "nameFor", desc := "(III)I" } : Jvm.MethodName)) ∈ GW := gw_at 426 (by decide +kernel) (by decide +kernel)
theorem gw427 : (Jvm.Cond.code ({ cls := "LiquidChecker$Relations", name := "nameFor", desc := "(III)I" } : Jvm.MethodName) prog_4_method_5_code (3 : Nat) (Option.some Jvm.ClassFile.FieldType.int)) ∈ GW := gw_at 427 (by decide +kernel) (by decide +kernel)
theorem gw430 : (Jvm.Cond.instanceMethod ({ cls := "LiquidChecker$Known", name := "learn", desc := "(III)V" } : Jvm.MethodName)) ∈ GW := gw_at 430 (by decide +kernel) (by decide +kernel)
theorem gw431 : (Jvm.Cond.code ({ cls := "LiquidChecker$Known", name := "learn", desc := "(III)V" } : Jvm.MethodName) prog_3_method_6_code (9 : Nat) (Option.none : Option Jvm.ClassFile.FieldType)) ∈ GW := gw_at 431 (by decide +kernel) (by decide +kernel)
theorem gw432 : (Jvm.Cond.methodLink "LiquidChecker$Walk" (73 : Nat) ({ cls := "LiquidChecker$Walk", name := "followFrom", desc := "(I[LLiquidChecker$Function;LLiquidChecker$Function;)V" } : Jvm.MethodName)) ∈ GW := gw_at 432 (by decide +kernel) (by decide +kernel)
theorem gw434 : (Jvm.Cond.instanceMethod ({ cls := "LiquidChecker$Walk", name := "followFrom", desc := "(I[LLiquidChecker$Function;LLiquidChecker$Function;)V" } : Jvm.MethodName)) ∈ GW := gw_at 434 (by decide +kernel) (by decide +kernel)
theorem gw435 : (Jvm.Cond.code ({ cls := "LiquidChecker$Walk", name := "followFrom", desc := "(I[LLiquidChecker$Function;LLiquidChecker$Function;)V" } : Jvm.MethodName) prog_6_method_5_code (6 : Nat) (Option.none : Option Jvm.ClassFile.FieldType)) ∈ GW := gw_at 435 (by decide +kernel) (by decide +kernel)
theorem gw436 : (Jvm.Cond.methodLink "LiquidChecker$Walk" (85 : Nat) ({ cls := "LiquidChecker$Walk", name := "comeTo", desc := "(I)V" } : Jvm.MethodName)) ∈ GW := gw_at 436 (by decide +kernel) (by decide +kernel)
theorem gw438 : (Jvm.Cond.instanceMethod ({ cls := "LiquidChecker$Walk", name := "comeTo", desc := "(I)V" } : Jvm.MethodName)) ∈ GW := gw_at 438 (by decide +kernel) (by decide +kernel)
theorem gw439 : (Jvm.Cond.code ({ cls := "LiquidChecker$Walk", name := "comeTo", desc := "(I)V" } : Jvm.MethodName) prog_6_method_6_code (2 : Nat) (Option.none : Option Jvm.ClassFile.FieldType)) ∈ GW := gw_at 439 (by decide +kernel) (by decide +kernel)
theorem gw442 : (Jvm.Cond.instanceMethod ({ cls := "LiquidChecker$Known", name := "bound", desc := "(II)I" } : Jvm.MethodName)) ∈ GW := gw_at 442 (by decide +kernel) (by decide +kernel)
theorem gw443 : (Jvm.Cond.code ({ cls := "LiquidChecker$Known", name := "bound", desc := "(II)I" } : Jvm.MethodName) prog_3_method_4_code (3 : Nat) (Option.some Jvm.ClassFile.FieldType.int)) ∈ GW := gw_at 443 (by decide +kernel) (by decide +kernel)
theorem gw444 : (Jvm.Cond.methodLink "LiquidChecker$Walk" (104 : Nat) ({ cls := "java/lang/Math", name := "max", desc := "(II)I" } : Jvm.MethodName)) ∈ GW := gw_at 444 (by decide +kernel) (by decide +kernel)
theorem gw445 : (Jvm.Cond.static ({ cls := "java/lang/Math", name := "max", desc := "(II)I" } : Jvm.MethodName)) ∈ GW := gw_at 445 (by decide +kernel) (by decide +kernel)
theorem gw446 : (Jvm.Cond.code ({ cls := "java/lang/Math", name := "max", desc := "(II)I" } : Jvm.MethodName) prog_13_method_65_code (2 : Nat) (Option.some Jvm.ClassFile.FieldType.int)) ∈ GW := gw_at 446 (by decide +kernel) (by decide +kernel)
theorem gw447 : (Jvm.Cond.methodLink "LiquidChecker$Walk" (92 : Nat) ({ cls := "LiquidChecker$Walk", name := "endAt", desc := "(ILLiquidChecker$Function;II)V" } : Jvm.MethodName)) ∈ GW := gw_at 447 (by decide +kernel) (by decide +kernel)
theorem gw449 : (Jvm.Cond.instanceMethod ({ cls := "LiquidChecker$Walk", name := "endAt", desc := "(ILLiquidChecker$Function;II)V" } : Jvm.MethodName)) ∈ GW := gw_at 449 (by decide +kernel) (by decide +kernel)
theorem gw450 : (Jvm.Cond.code ({ cls := "LiquidChecker$Walk", name := "endAt", desc := "(ILLiquidChecker$Function;II)V" } : Jvm.MethodName) prog_6_method_10_code (5 : Nat) (Option.none : Option Jvm.ClassFile.FieldType)) ∈ GW := gw_at 450 (by decide +kernel) (by decide +kernel)
theorem gw453 : (Jvm.Cond.instanceMethod ({ cls := "LiquidChecker$Known", name := "give", desc := "(III)V" } : Jvm.MethodName)) ∈ GW := gw_at 453 (by decide +kernel) (by decide +kernel)
theorem gw454 : (Jvm.Cond.code ({ cls := "LiquidChecker$Known", name := "give", desc := "(III)V" } : Jvm.MethodName) prog_3_method_7_code (5 : Nat) (Option.none : Option Jvm.ClassFile.FieldType)) ∈ GW := gw_at 454 (by decide +kernel) (by decide +kernel)
theorem gw455 : (Jvm.Cond.methodLink "LiquidChecker$Known" (34 : Nat) ({ cls := "LiquidChecker$Known", name := "moved", desc := "(II)I" } : Jvm.MethodName)) ∈ GW := gw_at 455 (by decide +kernel) (by decide +kernel)
theorem gw456 : (Jvm.Cond.static ({ cls := "LiquidChecker$Known", name := "moved", desc := "(II)I" } : Jvm.MethodName)) ∈ GW := gw_at 456 (by decide +kernel) (by decide +kernel)
theorem gw457 : (Jvm.Cond.code ({ cls := "LiquidChecker$Known", name := "moved", desc := "(II)I" } : Jvm.MethodName) prog_3_method_8_code (2 : Nat) (Option.some Jvm.ClassFile.FieldType.int)) ∈ GW := gw_at 457 (by decide +kernel) (by decide +kernel)
theorem gw460 : (Jvm.Cond.instanceMethod ({ cls := "LiquidChecker$Relations", name := "shownBy", desc := "(LLiquidChecker$Known;II)Z" } : Jvm.MethodName)) ∈ GW := gw_at 460 (by decide +kernel) (by decide +kernel)
theorem gw461 : (Jvm.Cond.code ({ cls := "LiquidChecker$Relations", name := "shownBy", desc := "(LLiquidChecker$Known;II)Z" } : Jvm.MethodName) prog_4_method_4_code (5 : Nat) (Option.some Jvm.ClassFile.FieldType.boolean)) ∈ GW := gw_at 461 (by decide +kernel) (by decide +kernel)
theorem gw464 : (Jvm.Cond.instanceMethod ({ cls := "LiquidChecker$Known", name := "shows", desc := "(III)Z" } : Jvm.MethodName)) ∈ GW := gw_at 464 (by decide +kernel) (by decide +kernel)
theorem gw465 : (Jvm.Cond.code ({ cls := "LiquidChecker$Known", name := "shows", desc := "(III)Z" } : Jvm.MethodName) prog_3_method_5_code (4 : Nat) (Option.some Jvm.ClassFile.FieldType.boolean)) ∈ GW := gw_at 465 (by decide +kernel) (by decide +kernel)
theorem gw466 : (Jvm.Cond.methodLink "LiquidChecker$Walk" (150 : Nat) ({ cls := "LiquidChecker$Walk", name := "noteShown", desc := "(IZ)V" } : Jvm.MethodName)) ∈ GW := gw_at 466 (by decide +kernel) (by decide +kernel)
theorem gw468 : (Jvm.Cond.instanceMethod ({ cls := "LiquidChecker$Walk", name := "noteShown", desc := "(IZ)V" } : Jvm.MethodName)) ∈ GW := gw_at 468 (by decide +kernel) (by decide +kernel)
theorem gw469 : (Jvm.Cond.code ({ cls := "LiquidChecker$Walk", name := "noteShown", desc := "(IZ)V" } : Jvm.MethodName) prog_6_method_11_code (3 : Nat) (Option.none : Option Jvm.ClassFile.FieldType)) ∈ GW := gw_at 469 (by decide +kernel) (by decide +kernel)
theorem gw470 : (Jvm.Cond.methodLink "LiquidChecker$Walk" (96 : Nat) ({ cls := "LiquidChecker$Walk", name := "pass", desc := "(I[LLiquidChecker$Function;LLiquidChecker$Function;)I" } : Jvm.MethodName)) ∈ GW := gw_at 470 (by decide +kernel) (by decide +kernel)
theorem gw472 : (Jvm.Cond.instanceMethod ({ cls := "LiquidChecker$Walk", name := "pass", desc := "(I[LLiquidChecker$Function;LLiquidChecker$Function;)I" } : Jvm.MethodName)) ∈ GW := gw_at 472 (by decide +kernel) (by decide +kernel)
theorem gw473 : (Jvm.Cond.code ({ cls := "LiquidChecker$Walk", name := "pass", desc := "(I[LLiquidChecker$Function;LLiquidChecker$Function;)I" } : Jvm.MethodName) prog_6_method_7_code (6 : Nat) (Option.some Jvm.ClassFile.FieldType.int)) ∈ GW := gw_at 473 (by decide +kernel) (by decide +kernel)
theorem gw474 : (Jvm.Cond.methodLink "LiquidChecker$Walk" (131 : Nat) ({ cls := "LiquidChecker$Walk", name := "passCall", desc := "(ILLiquidChecker$Statement;LLiquidChecker$Function;)V" } : Jvm.MethodName)) ∈ GW := gw_at 474 (by decide +kernel) (by decide +kernel)
theorem gw476 : (Jvm.Cond.instanceMethod ({ cls := "LiquidChecker$Walk", name := "passCall", desc := "(ILLiquidChecker$Statement;LLiquidChecker$Function;)V" } : Jvm.MethodName)) ∈ GW := gw_at 476 (by decide +kernel) (by decide +kernel)
theorem gw477 : (Jvm.Cond.code ({ cls := "LiquidChecker$Walk", name := "passCall", desc := "(ILLiquidChecker$Statement;LLiquidChecker$Function;)V" } : Jvm.MethodName) prog_6_method_8_code (4 : Nat) (Option.none : Option Jvm.ClassFile.FieldType)) ∈ GW := gw_at 477 (by decide +kernel) (by decide +kernel)
theorem gw480 : (Jvm.Cond.instanceMethod ({ cls := "LiquidChecker$Known", name := "forget", desc := "(I)V" } : Jvm.MethodName)) ∈ GW := gw_at 480 (by decide +kernel) (by decide +kernel)
theorem gw481 : (Jvm.Cond.code ({ cls := "LiquidChecker$Known", name := "forget", desc := "(I)V" } : Jvm.MethodName) prog_3_method_9_code (3 : Nat) (Option.none : Option Jvm.ClassFile.FieldType)) ∈ GW := gw_at 481 (by decide +kernel) (by decide +kernel)
theorem gw484 : (Jvm.Cond.instanceMethod ({ cls := "LiquidChecker$Function", name := "targetOf", desc := "(LLiquidChecker$Statement;)I" } : Jvm.MethodName)) ∈ GW := gw_at 484 (by decide +kernel) (by decide +kernel)
theorem gw485 : (Jvm.Cond.code ({ cls := "LiquidChecker$Function", name := "targetOf", desc := "(LLiquidChecker$Statement;)I" } : Jvm.MethodName) prog_2_method_11_code (2 : Nat) (Option.some Jvm.ClassFile.FieldType.int)) ∈ GW := gw_at 485 (by decide +kernel) (by decide +kernel)
theorem gw486 : (Jvm.Cond.methodLink "LiquidChecker$Walk" (139 : Nat) ({ cls := "LiquidChecker$Walk", name := "leaveOtherSide", desc := "(LLiquidChecker$Statement;I)V" } : Jvm.MethodName)) ∈ GW := gw_at 486 (by decide +kernel) (by decide +kernel)
theorem gw488 : (Jvm.Cond.instanceMethod ({ cls := "LiquidChecker$Walk", name := "leaveOtherSide", desc := "(LLiquidChecker$Statement;I)V" } : Jvm.MethodName)) ∈ GW := gw_at 488 (by decide +kernel) (by decide +kernel)
theorem gw489 : (Jvm.Cond.code ({ cls := "LiquidChecker$Walk", name := "leaveOtherSide", desc := "(LLiquidChecker$Statement;I)V" } : Jvm.MethodName) prog_6_method_9_code (4 : Nat) (Option.none : Option Jvm.ClassFile.FieldType)) ∈ GW := gw_at 489 (by decide +kernel) (by decide +kernel)
theorem gw492 : (Jvm.Cond.instanceMethod ({ cls := "LiquidChecker$Known", name := "copyFrom", desc := "(LLiquidChecker$Known;)V" } : Jvm.MethodName)) ∈ GW := gw_at 492 (by decide +kernel) (by decide +kernel)
theorem gw493 : (Jvm.Cond.code ({ cls := "LiquidChecker$Known", name := "copyFrom", desc := "(LLiquidChecker$Known;)V" } : Jvm.MethodName) prog_3_method_3_code (2 : Nat) (Option.none : Option Jvm.ClassFile.FieldType)) ∈ GW := gw_at 493 (by decide +kernel) (by decide +kernel)
theorem gw494 : (Jvm.Cond.methodLink "LiquidChecker$Known" (28 : Nat) ({ cls := "java/lang/System", name := "arraycopy", desc := "(Ljava/lang/Object;ILjava/lang/Object;II)V" } : Jvm.MethodName)) ∈ GW := gw_at 494 (by decide +kernel) (by decide +kernel)
theorem gw495 : (Jvm.Cond.static ({ cls := "java/lang/System", name := "arraycopy", desc := "(Ljava/lang/Object;ILjava/lang/Object;II)V" } : Jvm.MethodName)) ∈ GW := gw_at 495 (by decide +kernel) (by decide +kernel)
theorem gw496 : (Jvm.Cond.native ({ cls := "java/lang/System", name := "arraycopy", desc := "(Ljava/lang/Object;ILjava/lang/Object;II)V" } : Jvm.MethodName)) ∈ GW := gw_at 496 (by decide +kernel) (by decide +kernel)
theorem gw499 : (Jvm.Cond.methodLink "LiquidChecker$Walk" (77 : Nat) ({ cls := "LiquidChecker$Walk", name := "takeWaitingSide", desc := "()I" } : Jvm.MethodName)) ∈ GW := gw_at 499 (by decide +kernel) (by decide +kernel)
theorem gw501 : (Jvm.Cond.instanceMethod ({ cls := "LiquidChecker$Walk", name := "takeWaitingSide", desc := "()I" } : Jvm.MethodName)) ∈ GW := gw_at 501 (by decide +kernel) (by decide +kernel)
theorem gw502 : (Jvm.Cond.code ({ cls := "LiquidChecker$Walk", name := "takeWaitingSide", desc := "()I" } : Jvm.MethodName) prog_6_method_4_code (1 : Nat) (Option.some Jvm.ClassFile.FieldType.int)) ∈ GW := gw_at 502 (by decide +kernel) (by decide +kernel)
theorem gw503 : (Jvm.Cond.methodLink "LiquidCheckerLaw" (76 : Nat) ({ cls := "LiquidCheckerLaw", name := "ways", desc := "(LLiquidChecker;I[J)I" } : Jvm.MethodName)) ∈ GW := gw_at 503 (by decide +kernel) (by decide +kernel)
theorem gw504 : (Jvm.Cond.static ({ cls := "LiquidCheckerLaw", name := "ways", desc := "(LLiquidChecker;I[J)I" } : Jvm.MethodName)) ∈ GW := gw_at 504 (by decide +kernel) (by decide +kernel)
theorem gw505 : (Jvm.Cond.codeWith ({ cls := "LiquidCheckerLaw", name := "ways", desc := "(LLiquidChecker;I[J)I" } : Jvm.MethodName) method_7_code (4 : Nat) (Option.some Jvm.ClassFile.FieldType.int) [((0 : Nat), (9 : Nat), (12 : Nat), (13 : Nat))]) ∈ GW := gw_at 505 (by decide +kernel) (by decide +kernel)
theorem gw506 : (Jvm.Cond.methodLink "LiquidCheckerLaw" (30 : Nat) ({ cls := "LiquidChecker", name := "ways", desc := "(I)I" } : Jvm.MethodName)) ∈ GW := gw_at 506 (by decide +kernel) (by decide +kernel)
theorem gw507 : (Jvm.Cond.instanceMethod ({ cls := "LiquidChecker", name := "ways", desc := "(I)I" } : Jvm.MethodName)) ∈ GW := gw_at 507 (by decide +kernel) (by decide +kernel)
theorem gw508 : (Jvm.Cond.selects "LiquidChecker" ({ cls := "LiquidChecker", name := "ways", desc := "(I)I" } : Jvm.MethodName) ({ cls := "LiquidChecker", name := "ways", desc := "(I)I" } : Jvm.MethodName)) ∈ GW := gw_at 508 (by decide +kernel) (by decide +kernel)
theorem gw509 : (Jvm.Cond.code ({ cls := "LiquidChecker", name := "ways", desc := "(I)I" } : Jvm.MethodName) prog_1_method_6_code (2 : Nat) (Option.some Jvm.ClassFile.FieldType.int)) ∈ GW := gw_at 509 (by decide +kernel) (by decide +kernel)
theorem gw510 : (Jvm.Cond.methodLink "LiquidCheckerLaw" (79 : Nat) ({ cls := "LiquidCheckerLaw", name := "comes", desc := "(LLiquidChecker;II[J)I" } : Jvm.MethodName)) ∈ GW := gw_at 510 (by decide +kernel) (by decide +kernel)
theorem gw511 : (Jvm.Cond.static ({ cls := "LiquidCheckerLaw", name := "comes", desc := "(LLiquidChecker;II[J)I" } : Jvm.MethodName)) ∈ GW := gw_at 511 (by decide +kernel) (by decide +kernel)
theorem gw512 : (Jvm.Cond.codeWith ({ cls := "LiquidCheckerLaw", name := "comes", desc := "(LLiquidChecker;II[J)I" } : Jvm.MethodName) method_8_code (5 : Nat) (Option.some Jvm.ClassFile.FieldType.int) [((0 : Nat), (10 : Nat), (13 : Nat), (13 : Nat))]) ∈ GW := gw_at 512 (by decide +kernel) (by decide +kernel)
theorem gw513 : (Jvm.Cond.methodLink "LiquidCheckerLaw" (33 : Nat) ({ cls := "LiquidChecker", name := "comes", desc := "(II)I" } : Jvm.MethodName)) ∈ GW := gw_at 513 (by decide +kernel) (by decide +kernel)
theorem gw514 : (Jvm.Cond.instanceMethod ({ cls := "LiquidChecker", name := "comes", desc := "(II)I" } : Jvm.MethodName)) ∈ GW := gw_at 514 (by decide +kernel) (by decide +kernel)
theorem gw515 : (Jvm.Cond.selects "LiquidChecker" ({ cls := "LiquidChecker", name := "comes", desc := "(II)I" } : Jvm.MethodName) ({ cls := "LiquidChecker", name := "comes", desc := "(II)I" } : Jvm.MethodName)) ∈ GW := gw_at 515 (by decide +kernel) (by decide +kernel)
theorem gw516 : (Jvm.Cond.code ({ cls := "LiquidChecker", name := "comes", desc := "(II)I" } : Jvm.MethodName) prog_1_method_7_code (3 : Nat) (Option.some Jvm.ClassFile.FieldType.int)) ∈ GW := gw_at 516 (by decide +kernel) (by decide +kernel)
theorem gw517 : (Jvm.Cond.methodLink "LiquidChecker" (114 : Nat) ({ cls := "LiquidChecker", name := "isPlace", desc := "(II)Z" } : Jvm.MethodName)) ∈ GW := gw_at 517 (by decide +kernel) (by decide +kernel)
theorem gw519 : (Jvm.Cond.instanceMethod ({ cls := "LiquidChecker", name := "isPlace", desc := "(II)Z" } : Jvm.MethodName)) ∈ GW := gw_at 519 (by decide +kernel) (by decide +kernel)
theorem gw520 : (Jvm.Cond.code ({ cls := "LiquidChecker", name := "isPlace", desc := "(II)Z" } : Jvm.MethodName) prog_1_method_11_code (3 : Nat) (Option.some Jvm.ClassFile.FieldType.boolean)) ∈ GW := gw_at 520 (by decide +kernel) (by decide +kernel)
theorem gw524 : (Jvm.Cond.instanceMethod ({ cls := "LiquidChecker$Walk", name := "cameTo", desc := "(I)Z" } : Jvm.MethodName)) ∈ GW := gw_at 524 (by decide +kernel) (by decide +kernel)
theorem gw525 : (Jvm.Cond.code ({ cls := "LiquidChecker$Walk", name := "cameTo", desc := "(I)Z" } : Jvm.MethodName) prog_6_method_2_code (2 : Nat) (Option.some Jvm.ClassFile.FieldType.boolean)) ∈ GW := gw_at 525 (by decide +kernel) (by decide +kernel)
theorem gw526 : (Jvm.Cond.methodLink "LiquidCheckerLaw" (83 : Nat) ({ cls := "LiquidCheckerLaw", name := "most", desc := "(LLiquidChecker;IIII[J)I" } : Jvm.MethodName)) ∈ GW := gw_at 526 (by decide +kernel) (by decide +kernel)
theorem gw527 : (Jvm.Cond.static ({ cls := "LiquidCheckerLaw", name := "most", desc := "(LLiquidChecker;IIII[J)I" } : Jvm.MethodName)) ∈ GW := gw_at 527 (by decide +kernel) (by decide +kernel)
theorem gw528 : (Jvm.Cond.codeWith ({ cls := "LiquidCheckerLaw", name := "most", desc := "(LLiquidChecker;IIII[J)I" } : Jvm.MethodName) method_9_code (7 : Nat) (Option.some Jvm.ClassFile.FieldType.int) [((0 : Nat), (14 : Nat), (17 : Nat), (13 : Nat)), ((0 : Nat), (14 : Nat), (21 : Nat), (41 : Nat)), ((0 : Nat), (14 : Nat), (25 : Nat), (43 : Nat))]) ∈ GW := gw_at 528 (by decide +kernel) (by decide +kernel)
theorem gw529 : (Jvm.Cond.classLink "LiquidCheckerLaw" (41 : Nat) "java/util/NoSuchElementException") ∈ GW := gw_at 529 (by decide +kernel) (by decide +kernel)
theorem gw530 : (Jvm.Cond.classLink "LiquidCheckerLaw" (43 : Nat) "java/lang/ArithmeticException") ∈ GW := gw_at 530 (by decide +kernel) (by decide +kernel)
theorem gw531 : (Jvm.Cond.methodLink "LiquidCheckerLaw" (37 : Nat) ({ cls := "LiquidChecker", name := "most", desc := "(IIII)I" } : Jvm.MethodName)) ∈ GW := gw_at 531 (by decide +kernel) (by decide +kernel)
theorem gw532 : (Jvm.Cond.instanceMethod ({ cls := "LiquidChecker", name := "most", desc := "(IIII)I" } : Jvm.MethodName)) ∈ GW := gw_at 532 (by decide +kernel) (by decide +kernel)
theorem gw533 : (Jvm.Cond.selects "LiquidChecker" ({ cls := "LiquidChecker", name := "most", desc := "(IIII)I" } : Jvm.MethodName) ({ cls := "LiquidChecker", name := "most", desc := "(IIII)I" } : Jvm.MethodName)) ∈ GW := gw_at 533 (by decide +kernel) (by decide +kernel)
theorem gw534 : (Jvm.Cond.code ({ cls := "LiquidChecker", name := "most", desc := "(IIII)I" } : Jvm.MethodName) prog_1_method_8_code (5 : Nat) (Option.some Jvm.ClassFile.FieldType.int)) ∈ GW := gw_at 534 (by decide +kernel) (by decide +kernel)
theorem gw536 : (Jvm.Cond.classLink "LiquidChecker" (128 : Nat) "java/util/NoSuchElementException") ∈ GW := gw_at 536 (by decide +kernel) (by decide +kernel)
theorem gw537 : (Jvm.Cond.instantiable "java/util/NoSuchElementException" (6 : Nat)) ∈ GW := gw_at 537 (by decide +kernel) (by decide +kernel)
theorem gw539 : (Jvm.Cond.selects "java/util/NoSuchElementException" ({ cls := "java/lang/Throwable", name := "fillInStackTrace", desc := "(I)Ljava/lang/Throwable;" } : Jvm.MethodName) ({ cls := "java/lang/Throwable", name := "fillInStackTrace", desc := "(I)Ljava/lang/Throwable;" } : Jvm.MethodName)) ∈ GW := gw_at 539 (by decide +kernel) (by decide +kernel)
theorem gw540 : (Jvm.Cond.lays "java/util/NoSuchElementException" "java/lang/Throwable" "cause" "Ljava/lang/Throwable;") ∈ GW := gw_at 540 (by decide +kernel) (by decide +kernel)
theorem gw541 : (Jvm.Cond.lays "java/util/NoSuchElementException" "java/lang/Throwable" "stackTrace" "[Ljava/lang/StackTraceElement;") ∈ GW := gw_at 541 (by decide +kernel) (by decide +kernel)
theorem gw542 : (Jvm.Cond.lays "java/util/NoSuchElementException" "java/lang/Throwable" "suppressedExceptions" "Ljava/util/List;") ∈ GW := gw_at 542 (by decide +kernel) (by decide +kernel)
theorem gw543 : (Jvm.Cond.lays "java/util/NoSuchElementException" "java/lang/Throwable" "detailMessage" "Ljava/lang/String;") ∈ GW := gw_at 543 (by decide +kernel) (by decide +kernel)
theorem gw544 : (Jvm.Cond.lays "java/util/NoSuchElementException" "java/lang/Throwable" "backtrace" "Ljava/lang/Object;") ∈ GW := gw_at 544 (by decide +kernel) (by decide +kernel)
theorem gw546 : (Jvm.Cond.methodLink "LiquidChecker" (132 : Nat) ({ cls := "java/util/NoSuchElementException", name := "<init>", desc := "(Ljava/lang/String;)V" } : Jvm.MethodName)) ∈ GW := gw_at 546 (by decide +kernel) (by decide +kernel)
theorem gw547 : (Jvm.Cond.instanceMethod ({ cls := "java/util/NoSuchElementException", name := "<init>", desc := "(Ljava/lang/String;)V" } : Jvm.MethodName)) ∈ GW := gw_at 547 (by decide +kernel) (by decide +kernel)
theorem gw548 : (Jvm.Cond.code ({ cls := "java/util/NoSuchElementException", name := "<init>", desc := "(Ljava/lang/String;)V" } : Jvm.MethodName) prog_20_method_4_code (2 : Nat) (Option.none : Option Jvm.ClassFile.FieldType)) ∈ GW := gw_at 548 (by decide +kernel) (by decide +kernel)
theorem gw549 : (Jvm.Cond.methodLink "java/util/NoSuchElementException" (13 : Nat) ({ cls := "java/lang/RuntimeException", name := "<init>", desc := "(Ljava/lang/String;)V" } : Jvm.MethodName)) ∈ GW := gw_at 549 (by decide +kernel) (by decide +kernel)
theorem gw550 : (Jvm.Cond.lays "java/util/NoSuchElementException" "java/lang/Throwable" "depth" "I") ∈ GW := gw_at 550 (by decide +kernel) (by decide +kernel)
theorem gw552 : (Jvm.Cond.constant "LiquidChecker" (136 : Nat) (2147483647 : Int32)) ∈ GW := gw_at 552 (by decide +kernel) (by decide +kernel)
theorem gw553 : (Jvm.Cond.classLink "LiquidChecker" (137 : Nat) "java/lang/ArithmeticException") ∈ GW := gw_at 553 (by decide +kernel) (by decide +kernel)
theorem gw554 : (Jvm.Cond.instantiable "java/lang/ArithmeticException" (6 : Nat)) ∈ GW := gw_at 554 (by decide +kernel) (by decide +kernel)
theorem gw556 : (Jvm.Cond.selects "java/lang/ArithmeticException" ({ cls := "java/lang/Throwable", name := "fillInStackTrace", desc := "(I)Ljava/lang/Throwable;" } : Jvm.MethodName) ({ cls := "java/lang/Throwable", name := "fillInStackTrace", desc := "(I)Ljava/lang/Throwable;" } : Jvm.MethodName)) ∈ GW := gw_at 556 (by decide +kernel) (by decide +kernel)
theorem gw557 : (Jvm.Cond.lays "java/lang/ArithmeticException" "java/lang/Throwable" "cause" "Ljava/lang/Throwable;") ∈ GW := gw_at 557 (by decide +kernel) (by decide +kernel)
theorem gw558 : (Jvm.Cond.lays "java/lang/ArithmeticException" "java/lang/Throwable" "stackTrace" "[Ljava/lang/StackTraceElement;") ∈ GW := gw_at 558 (by decide +kernel) (by decide +kernel)
theorem gw559 : (Jvm.Cond.lays "java/lang/ArithmeticException" "java/lang/Throwable" "suppressedExceptions" "Ljava/util/List;") ∈ GW := gw_at 559 (by decide +kernel) (by decide +kernel)
theorem gw560 : (Jvm.Cond.lays "java/lang/ArithmeticException" "java/lang/Throwable" "detailMessage" "Ljava/lang/String;") ∈ GW := gw_at 560 (by decide +kernel) (by decide +kernel)
theorem gw561 : (Jvm.Cond.lays "java/lang/ArithmeticException" "java/lang/Throwable" "backtrace" "Ljava/lang/Object;") ∈ GW := gw_at 561 (by decide +kernel) (by decide +kernel)
theorem gw563 : (Jvm.Cond.methodLink "LiquidChecker" (141 : Nat) ({ cls := "java/lang/ArithmeticException", name := "<init>", desc := "(Ljava/lang/String;)V" } : Jvm.MethodName)) ∈ GW := gw_at 563 (by decide +kernel) (by decide +kernel)
theorem gw564 : (Jvm.Cond.instanceMethod ({ cls := "java/lang/ArithmeticException", name := "<init>", desc := "(Ljava/lang/String;)V" } : Jvm.MethodName)) ∈ GW := gw_at 564 (by decide +kernel) (by decide +kernel)
theorem gw565 : (Jvm.Cond.code ({ cls := "java/lang/ArithmeticException", name := "<init>", desc := "(Ljava/lang/String;)V" } : Jvm.MethodName) prog_9_method_2_code (2 : Nat) (Option.none : Option Jvm.ClassFile.FieldType)) ∈ GW := gw_at 565 (by decide +kernel) (by decide +kernel)
theorem gw566 : (Jvm.Cond.methodLink "java/lang/ArithmeticException" (7 : Nat) ({ cls := "java/lang/RuntimeException", name := "<init>", desc := "(Ljava/lang/String;)V" } : Jvm.MethodName)) ∈ GW := gw_at 566 (by decide +kernel) (by decide +kernel)
theorem gw567 : (Jvm.Cond.lays "java/lang/ArithmeticException" "java/lang/Throwable" "depth" "I") ∈ GW := gw_at 567 (by decide +kernel) (by decide +kernel)
theorem gw569 : (Jvm.Cond.methodLink "LiquidCheckerLaw" (87 : Nat) ({ cls := "LiquidCheckerLaw", name := "follows", desc := "(LLiquidChecker;II[J)I" } : Jvm.MethodName)) ∈ GW := gw_at 569 (by decide +kernel) (by decide +kernel)
theorem gw570 : (Jvm.Cond.static ({ cls := "LiquidCheckerLaw", name := "follows", desc := "(LLiquidChecker;II[J)I" } : Jvm.MethodName)) ∈ GW := gw_at 570 (by decide +kernel) (by decide +kernel)
theorem gw571 : (Jvm.Cond.codeWith ({ cls := "LiquidCheckerLaw", name := "follows", desc := "(LLiquidChecker;II[J)I" } : Jvm.MethodName) method_10_code (5 : Nat) (Option.some Jvm.ClassFile.FieldType.int) [((0 : Nat), (10 : Nat), (13 : Nat), (13 : Nat))]) ∈ GW := gw_at 571 (by decide +kernel) (by decide +kernel)
theorem gw572 : (Jvm.Cond.methodLink "LiquidCheckerLaw" (45 : Nat) ({ cls := "LiquidChecker", name := "follows", desc := "(II)I" } : Jvm.MethodName)) ∈ GW := gw_at 572 (by decide +kernel) (by decide +kernel)
theorem gw573 : (Jvm.Cond.instanceMethod ({ cls := "LiquidChecker", name := "follows", desc := "(II)I" } : Jvm.MethodName)) ∈ GW := gw_at 573 (by decide +kernel) (by decide +kernel)
theorem gw574 : (Jvm.Cond.selects "LiquidChecker" ({ cls := "LiquidChecker", name := "follows", desc := "(II)I" } : Jvm.MethodName) ({ cls := "LiquidChecker", name := "follows", desc := "(II)I" } : Jvm.MethodName)) ∈ GW := gw_at 574 (by decide +kernel) (by decide +kernel)
theorem gw575 : (Jvm.Cond.code ({ cls := "LiquidChecker", name := "follows", desc := "(II)I" } : Jvm.MethodName) prog_1_method_9_code (4 : Nat) (Option.some Jvm.ClassFile.FieldType.int)) ∈ GW := gw_at 575 (by decide +kernel) (by decide +kernel)
theorem gw579 : (Jvm.Cond.methodLink "LiquidCheckerLaw" (90 : Nat) ({ cls := "LiquidCheckerLaw", name := "count", desc := "(LLiquidChecker;II[J)I" } : Jvm.MethodName)) ∈ GW := gw_at 579 (by decide +kernel) (by decide +kernel)
theorem gw580 : (Jvm.Cond.static ({ cls := "LiquidCheckerLaw", name := "count", desc := "(LLiquidChecker;II[J)I" } : Jvm.MethodName)) ∈ GW := gw_at 580 (by decide +kernel) (by decide +kernel)
theorem gw581 : (Jvm.Cond.codeWith ({ cls := "LiquidCheckerLaw", name := "count", desc := "(LLiquidChecker;II[J)I" } : Jvm.MethodName) method_11_code (5 : Nat) (Option.some Jvm.ClassFile.FieldType.int) [((0 : Nat), (10 : Nat), (13 : Nat), (13 : Nat))]) ∈ GW := gw_at 581 (by decide +kernel) (by decide +kernel)
theorem gw582 : (Jvm.Cond.methodLink "LiquidCheckerLaw" (48 : Nat) ({ cls := "LiquidChecker", name := "count", desc := "(II)I" } : Jvm.MethodName)) ∈ GW := gw_at 582 (by decide +kernel) (by decide +kernel)
theorem gw583 : (Jvm.Cond.instanceMethod ({ cls := "LiquidChecker", name := "count", desc := "(II)I" } : Jvm.MethodName)) ∈ GW := gw_at 583 (by decide +kernel) (by decide +kernel)
theorem gw584 : (Jvm.Cond.selects "LiquidChecker" ({ cls := "LiquidChecker", name := "count", desc := "(II)I" } : Jvm.MethodName) ({ cls := "LiquidChecker", name := "count", desc := "(II)I" } : Jvm.MethodName)) ∈ GW := gw_at 584 (by decide +kernel) (by decide +kernel)
theorem gw585 : (Jvm.Cond.code ({ cls := "LiquidChecker", name := "count", desc := "(II)I" } : Jvm.MethodName) prog_1_method_10_code (4 : Nat) (Option.some Jvm.ClassFile.FieldType.int)) ∈ GW := gw_at 585 (by decide +kernel) (by decide +kernel)
theorem gw587 : (Jvm.Cond.classLink "LiquidCheckerLaw" (52 : Nat) "LiquidCheckerModel") ∈ GW := gw_at 587 (by decide +kernel) (by decide +kernel)
theorem gw588 : (Jvm.Cond.instantiable "LiquidCheckerModel" (29 : Nat)) ∈ GW := gw_at 588 (by decide +kernel) (by decide +kernel)
theorem gw589 : (Jvm.Cond.methodLink "LiquidCheckerLaw" (54 : Nat) ({ cls := "LiquidCheckerModel", name := "<init>", desc := "()V" } : Jvm.MethodName)) ∈ GW := gw_at 589 (by decide +kernel) (by decide +kernel)
theorem gw590 : (Jvm.Cond.instanceMethod ({ cls := "LiquidCheckerModel", name := "<init>", desc := "()V" } : Jvm.MethodName)) ∈ GW := gw_at 590 (by decide +kernel) (by decide +kernel)
theorem gw591 : (Jvm.Cond.code ({ cls := "LiquidCheckerModel", name := "<init>", desc := "()V" } : Jvm.MethodName) prog_8_method_1_code (1 : Nat) (Option.none : Option Jvm.ClassFile.FieldType)) ∈ GW := gw_at 591 (by decide +kernel) (by decide +kernel)
theorem gw592 : (Jvm.Cond.methodLink "LiquidCheckerModel" (1 : Nat) ({ cls := "java/lang/Object", name := "<init>", desc := "()V" } : Jvm.MethodName)) ∈ GW := gw_at 592 (by decide +kernel) (by decide +kernel)
theorem gw593 : (Jvm.Cond.fieldLink "LiquidCheckerModel" (66 : Nat) "LiquidCheckerModel" "thrown" "I") ∈ GW := gw_at 593 (by decide +kernel) (by decide +kernel)
theorem gw594 : (Jvm.Cond.fieldLink "LiquidCheckerModel" (7 : Nat) "LiquidCheckerModel" "rA" "[I") ∈ GW := gw_at 594 (by decide +kernel) (by decide +kernel)
theorem gw595 : (Jvm.Cond.fieldLink "LiquidCheckerModel" (13 : Nat) "LiquidCheckerModel" "rB" "[I") ∈ GW := gw_at 595 (by decide +kernel) (by decide +kernel)
theorem gw596 : (Jvm.Cond.fieldLink "LiquidCheckerModel" (16 : Nat) "LiquidCheckerModel" "rK" "[I") ∈ GW := gw_at 596 (by decide +kernel) (by decide +kernel)
theorem gw597 : (Jvm.Cond.fieldLink "LiquidCheckerModel" (19 : Nat) "LiquidCheckerModel" "relations" "[I") ∈ GW := gw_at 597 (by decide +kernel) (by decide +kernel)
theorem gw598 : (Jvm.Cond.fieldLink "LiquidCheckerModel" (22 : Nat) "LiquidCheckerModel" "sKind" "[I") ∈ GW := gw_at 598 (by decide +kernel) (by decide +kernel)
theorem gw599 : (Jvm.Cond.fieldLink "LiquidCheckerModel" (25 : Nat) "LiquidCheckerModel" "sA" "[I") ∈ GW := gw_at 599 (by decide +kernel) (by decide +kernel)
theorem gw600 : (Jvm.Cond.fieldLink "LiquidCheckerModel" (28 : Nat) "LiquidCheckerModel" "sB" "[I") ∈ GW := gw_at 600 (by decide +kernel) (by decide +kernel)
theorem gw601 : (Jvm.Cond.fieldLink "LiquidCheckerModel" (31 : Nat) "LiquidCheckerModel" "sC" "[I") ∈ GW := gw_at 601 (by decide +kernel) (by decide +kernel)
theorem gw602 : (Jvm.Cond.fieldLink "LiquidCheckerModel" (34 : Nat) "LiquidCheckerModel" "sK" "[I") ∈ GW := gw_at 602 (by decide +kernel) (by decide +kernel)
theorem gw603 : (Jvm.Cond.fieldLink "LiquidCheckerModel" (37 : Nat) "LiquidCheckerModel" "size" "[I") ∈ GW := gw_at 603 (by decide +kernel) (by decide +kernel)
theorem gw604 : (Jvm.Cond.fieldLink "LiquidCheckerModel" (40 : Nat) "LiquidCheckerModel" "ifNumber" "[I") ∈ GW := gw_at 604 (by decide +kernel) (by decide +kernel)
theorem gw605 : (Jvm.Cond.fieldLink "LiquidCheckerModel" (43 : Nat) "LiquidCheckerModel" "elseAt" "[I") ∈ GW := gw_at 605 (by decide +kernel) (by decide +kernel)
theorem gw606 : (Jvm.Cond.fieldLink "LiquidCheckerModel" (46 : Nat) "LiquidCheckerModel" "endAt" "[I") ∈ GW := gw_at 606 (by decide +kernel) (by decide +kernel)
theorem gw607 : (Jvm.Cond.fieldLink "LiquidCheckerModel" (49 : Nat) "LiquidCheckerModel" "ifs" "[I") ∈ GW := gw_at 607 (by decide +kernel) (by decide +kernel)
theorem gw608 : (Jvm.Cond.fieldLink "LiquidCheckerModel" (52 : Nat) "LiquidCheckerModel" "open" "[I") ∈ GW := gw_at 608 (by decide +kernel) (by decide +kernel)
theorem gw609 : (Jvm.Cond.fieldLink "LiquidCheckerModel" (55 : Nat) "LiquidCheckerModel" "opened" "[I") ∈ GW := gw_at 609 (by decide +kernel) (by decide +kernel)
theorem gw610 : (Jvm.Cond.fieldLink "LiquidCheckerModel" (58 : Nat) "LiquidCheckerModel" "apart" "[J") ∈ GW := gw_at 610 (by decide +kernel) (by decide +kernel)
theorem gw611 : (Jvm.Cond.fieldLink "LiquidCheckerModel" (98 : Nat) "LiquidCheckerModel" "feasible" "Z") ∈ GW := gw_at 611 (by decide +kernel) (by decide +kernel)
theorem gw612 : (Jvm.Cond.fieldLink "LiquidCheckerModel" (144 : Nat) "LiquidCheckerModel" "met" "I") ∈ GW := gw_at 612 (by decide +kernel) (by decide +kernel)
theorem gw613 : (Jvm.Cond.fieldLink "LiquidCheckerModel" (121 : Nat) "LiquidCheckerModel" "function" "I") ∈ GW := gw_at 613 (by decide +kernel) (by decide +kernel)
theorem gw614 : (Jvm.Cond.fieldLink "LiquidCheckerModel" (118 : Nat) "LiquidCheckerModel" "least" "I") ∈ GW := gw_at 614 (by decide +kernel) (by decide +kernel)
theorem gw615 : (Jvm.Cond.fieldLink "LiquidCheckerModel" (130 : Nat) "LiquidCheckerModel" "ends" "I") ∈ GW := gw_at 615 (by decide +kernel) (by decide +kernel)
theorem gw616 : (Jvm.Cond.fieldLink "LiquidCheckerModel" (62 : Nat) "LiquidCheckerModel" "came" "[Z") ∈ GW := gw_at 616 (by decide +kernel) (by decide +kernel)
theorem gw617 : (Jvm.Cond.fieldLink "LiquidCheckerModel" (147 : Nat) "LiquidCheckerModel" "seekPlace" "I") ∈ GW := gw_at 617 (by decide +kernel) (by decide +kernel)
theorem gw618 : (Jvm.Cond.fieldLink "LiquidCheckerModel" (150 : Nat) "LiquidCheckerModel" "seekA" "I") ∈ GW := gw_at 618 (by decide +kernel) (by decide +kernel)
theorem gw619 : (Jvm.Cond.fieldLink "LiquidCheckerModel" (153 : Nat) "LiquidCheckerModel" "seekB" "I") ∈ GW := gw_at 619 (by decide +kernel) (by decide +kernel)
theorem gw620 : (Jvm.Cond.fieldLink "LiquidCheckerModel" (159 : Nat) "LiquidCheckerModel" "most" "J") ∈ GW := gw_at 620 (by decide +kernel) (by decide +kernel)
theorem gw621 : (Jvm.Cond.fieldLink "LiquidCheckerModel" (156 : Nat) "LiquidCheckerModel" "seen" "Z") ∈ GW := gw_at 621 (by decide +kernel) (by decide +kernel)
theorem gw622 : (Jvm.Cond.lays "LiquidCheckerModel" "LiquidCheckerModel" "thrown" "I") ∈ GW := gw_at 622 (by decide +kernel) (by decide +kernel)
theorem gw624 : (Jvm.Cond.laysFinal "LiquidCheckerModel" "LiquidCheckerModel" "rA" "[I") ∈ GW := gw_at 624 (by decide +kernel) (by decide +kernel)
theorem gw626 : (Jvm.Cond.laysFinal "LiquidCheckerModel" "LiquidCheckerModel" "rB" "[I") ∈ GW := gw_at 626 (by decide +kernel) (by decide +kernel)
theorem gw628 : (Jvm.Cond.laysFinal "LiquidCheckerModel" "LiquidCheckerModel" "rK" "[I") ∈ GW := gw_at 628 (by decide +kernel) (by decide +kernel)
theorem gw630 : (Jvm.Cond.laysFinal "LiquidCheckerModel" "LiquidCheckerModel" "relations" "[I") ∈ GW := gw_at 630 (by decide +kernel) (by decide +kernel)
theorem gw632 : (Jvm.Cond.laysFinal "LiquidCheckerModel" "LiquidCheckerModel" "sKind" "[I") ∈ GW := gw_at 632 (by decide +kernel) (by decide +kernel)
theorem gw634 : (Jvm.Cond.laysFinal "LiquidCheckerModel" "LiquidCheckerModel" "sA" "[I") ∈ GW := gw_at 634 (by decide +kernel) (by decide +kernel)
theorem gw636 : (Jvm.Cond.laysFinal "LiquidCheckerModel" "LiquidCheckerModel" "sB" "[I") ∈ GW := gw_at 636 (by decide +kernel) (by decide +kernel)
theorem gw638 : (Jvm.Cond.laysFinal "LiquidCheckerModel" "LiquidCheckerModel" "sC" "[I") ∈ GW := gw_at 638 (by decide +kernel) (by decide +kernel)
theorem gw640 : (Jvm.Cond.laysFinal "LiquidCheckerModel" "LiquidCheckerModel" "sK" "[I") ∈ GW := gw_at 640 (by decide +kernel) (by decide +kernel)
theorem gw642 : (Jvm.Cond.laysFinal "LiquidCheckerModel" "LiquidCheckerModel" "size" "[I") ∈ GW := gw_at 642 (by decide +kernel) (by decide +kernel)
theorem gw644 : (Jvm.Cond.laysFinal "LiquidCheckerModel" "LiquidCheckerModel" "ifNumber" "[I") ∈ GW := gw_at 644 (by decide +kernel) (by decide +kernel)
theorem gw646 : (Jvm.Cond.laysFinal "LiquidCheckerModel" "LiquidCheckerModel" "elseAt" "[I") ∈ GW := gw_at 646 (by decide +kernel) (by decide +kernel)
theorem gw648 : (Jvm.Cond.laysFinal "LiquidCheckerModel" "LiquidCheckerModel" "endAt" "[I") ∈ GW := gw_at 648 (by decide +kernel) (by decide +kernel)
theorem gw650 : (Jvm.Cond.laysFinal "LiquidCheckerModel" "LiquidCheckerModel" "ifs" "[I") ∈ GW := gw_at 650 (by decide +kernel) (by decide +kernel)
theorem gw652 : (Jvm.Cond.laysFinal "LiquidCheckerModel" "LiquidCheckerModel" "open" "[I") ∈ GW := gw_at 652 (by decide +kernel) (by decide +kernel)
theorem gw654 : (Jvm.Cond.laysFinal "LiquidCheckerModel" "LiquidCheckerModel" "opened" "[I") ∈ GW := gw_at 654 (by decide +kernel) (by decide +kernel)
theorem gw656 : (Jvm.Cond.laysFinal "LiquidCheckerModel" "LiquidCheckerModel" "apart" "[J") ∈ GW := gw_at 656 (by decide +kernel) (by decide +kernel)
theorem gw658 : (Jvm.Cond.lays "LiquidCheckerModel" "LiquidCheckerModel" "feasible" "Z") ∈ GW := gw_at 658 (by decide +kernel) (by decide +kernel)
theorem gw660 : (Jvm.Cond.lays "LiquidCheckerModel" "LiquidCheckerModel" "met" "I") ∈ GW := gw_at 660 (by decide +kernel) (by decide +kernel)
theorem gw662 : (Jvm.Cond.lays "LiquidCheckerModel" "LiquidCheckerModel" "function" "I") ∈ GW := gw_at 662 (by decide +kernel) (by decide +kernel)
theorem gw664 : (Jvm.Cond.lays "LiquidCheckerModel" "LiquidCheckerModel" "least" "I") ∈ GW := gw_at 664 (by decide +kernel) (by decide +kernel)
theorem gw666 : (Jvm.Cond.lays "LiquidCheckerModel" "LiquidCheckerModel" "ends" "I") ∈ GW := gw_at 666 (by decide +kernel) (by decide +kernel)
theorem gw668 : (Jvm.Cond.laysFinal "LiquidCheckerModel" "LiquidCheckerModel" "came" "[Z") ∈ GW := gw_at 668 (by decide +kernel) (by decide +kernel)
theorem gw670 : (Jvm.Cond.lays "LiquidCheckerModel" "LiquidCheckerModel" "seekPlace" "I") ∈ GW := gw_at 670 (by decide +kernel) (by decide +kernel)
theorem gw672 : (Jvm.Cond.lays "LiquidCheckerModel" "LiquidCheckerModel" "seekA" "I") ∈ GW := gw_at 672 (by decide +kernel) (by decide +kernel)
theorem gw674 : (Jvm.Cond.lays "LiquidCheckerModel" "LiquidCheckerModel" "seekB" "I") ∈ GW := gw_at 674 (by decide +kernel) (by decide +kernel)
theorem gw676 : (Jvm.Cond.lays "LiquidCheckerModel" "LiquidCheckerModel" "most" "J") ∈ GW := gw_at 676 (by decide +kernel) (by decide +kernel)
theorem gw678 : (Jvm.Cond.lays "LiquidCheckerModel" "LiquidCheckerModel" "seen" "Z") ∈ GW := gw_at 678 (by decide +kernel) (by decide +kernel)
theorem gw681 : (Jvm.Cond.arrayClass Jvm.ClassFile.FieldType.long) ∈ GW := gw_at 681 (by decide +kernel) (by decide +kernel)
theorem gw682 : (Jvm.Cond.arrayClass Jvm.ClassFile.FieldType.boolean) ∈ GW := gw_at 682 (by decide +kernel) (by decide +kernel)
theorem gw683 : (Jvm.Cond.methodLink "LiquidCheckerLaw" (61 : Nat) ({ cls := "LiquidCheckerModel", name := "thrown", desc := "()I" } : Jvm.MethodName)) ∈ GW := gw_at 683 (by decide +kernel) (by decide +kernel)
theorem gw684 : (Jvm.Cond.instanceMethod ({ cls := "LiquidCheckerModel", name := "thrown", desc := "()I" } : Jvm.MethodName)) ∈ GW := gw_at 684 (by decide +kernel) (by decide +kernel)
theorem gw685 : (Jvm.Cond.selects "LiquidCheckerModel" ({ cls := "LiquidCheckerModel", name := "thrown", desc := "()I" } : Jvm.MethodName) ({ cls := "LiquidCheckerModel", name := "thrown", desc := "()I" } : Jvm.MethodName)) ∈ GW := gw_at 685 (by decide +kernel) (by decide +kernel)
theorem gw686 : (Jvm.Cond.code ({ cls := "LiquidCheckerModel", name := "thrown", desc := "()I" } : Jvm.MethodName) prog_8_method_2_code (1 : Nat) (Option.some Jvm.ClassFile.FieldType.int)) ∈ GW := gw_at 686 (by decide +kernel) (by decide +kernel)
theorem gw687 : (Jvm.Cond.methodLink "LiquidCheckerLaw" (60 : Nat) ({ cls := "LiquidCheckerModel", name := "refine", desc := "(IIIII)I" } : Jvm.MethodName)) ∈ GW := gw_at 687 (by decide +kernel) (by decide +kernel)
theorem gw688 : (Jvm.Cond.instanceMethod ({ cls := "LiquidCheckerModel", name := "refine", desc := "(IIIII)I" } : Jvm.MethodName)) ∈ GW := gw_at 688 (by decide +kernel) (by decide +kernel)
theorem gw689 : (Jvm.Cond.selects "LiquidCheckerModel" ({ cls := "LiquidCheckerModel", name := "refine", desc := "(IIIII)I" } : Jvm.MethodName) ({ cls := "LiquidCheckerModel", name := "refine", desc := "(IIIII)I" } : Jvm.MethodName)) ∈ GW := gw_at 689 (by decide +kernel) (by decide +kernel)
theorem gw690 : (Jvm.Cond.code ({ cls := "LiquidCheckerModel", name := "refine", desc := "(IIIII)I" } : Jvm.MethodName) prog_8_method_6_code (8 : Nat) (Option.some Jvm.ClassFile.FieldType.int)) ∈ GW := gw_at 690 (by decide +kernel) (by decide +kernel)
theorem gw691 : (Jvm.Cond.methodLink "LiquidCheckerModel" (74 : Nat) ({ cls := "LiquidCheckerModel", name := "noFunction", desc := "(I)Z" } : Jvm.MethodName)) ∈ GW := gw_at 691 (by decide +kernel) (by decide +kernel)
theorem gw692 : (Jvm.Cond.static ({ cls := "LiquidCheckerModel", name := "noFunction", desc := "(I)Z" } : Jvm.MethodName)) ∈ GW := gw_at 692 (by decide +kernel) (by decide +kernel)
theorem gw693 : (Jvm.Cond.code ({ cls := "LiquidCheckerModel", name := "noFunction", desc := "(I)Z" } : Jvm.MethodName) prog_8_method_5_code (1 : Nat) (Option.some Jvm.ClassFile.FieldType.boolean)) ∈ GW := gw_at 693 (by decide +kernel) (by decide +kernel)
theorem gw694 : (Jvm.Cond.methodLink "LiquidCheckerModel" (70 : Nat) ({ cls := "LiquidCheckerModel", name := "in", desc := "(III)Z" } : Jvm.MethodName)) ∈ GW := gw_at 694 (by decide +kernel) (by decide +kernel)
theorem gw695 : (Jvm.Cond.static ({ cls := "LiquidCheckerModel", name := "in", desc := "(III)Z" } : Jvm.MethodName)) ∈ GW := gw_at 695 (by decide +kernel) (by decide +kernel)
theorem gw696 : (Jvm.Cond.code ({ cls := "LiquidCheckerModel", name := "in", desc := "(III)Z" } : Jvm.MethodName) prog_8_method_4_code (3 : Nat) (Option.some Jvm.ClassFile.FieldType.boolean)) ∈ GW := gw_at 696 (by decide +kernel) (by decide +kernel)
theorem gw697 : (Jvm.Cond.methodLink "LiquidCheckerModel" (78 : Nat) ({ cls := "LiquidCheckerModel", name := "raise", desc := "(I)I" } : Jvm.MethodName)) ∈ GW := gw_at 697 (by decide +kernel) (by decide +kernel)
theorem gw699 : (Jvm.Cond.instanceMethod ({ cls := "LiquidCheckerModel", name := "raise", desc := "(I)I" } : Jvm.MethodName)) ∈ GW := gw_at 699 (by decide +kernel) (by decide +kernel)
theorem gw700 : (Jvm.Cond.code ({ cls := "LiquidCheckerModel", name := "raise", desc := "(I)I" } : Jvm.MethodName) prog_8_method_3_code (2 : Nat) (Option.some Jvm.ClassFile.FieldType.int)) ∈ GW := gw_at 700 (by decide +kernel) (by decide +kernel)
theorem gw701 : (Jvm.Cond.methodLink "LiquidCheckerLaw" (68 : Nat) ({ cls := "LiquidCheckerModel", name := "statement", desc := "(IIIIII)I" } : Jvm.MethodName)) ∈ GW := gw_at 701 (by decide +kernel) (by decide +kernel)
theorem gw702 : (Jvm.Cond.instanceMethod ({ cls := "LiquidCheckerModel", name := "statement", desc := "(IIIIII)I" } : Jvm.MethodName)) ∈ GW := gw_at 702 (by decide +kernel) (by decide +kernel)
theorem gw703 : (Jvm.Cond.selects "LiquidCheckerModel" ({ cls := "LiquidCheckerModel", name := "statement", desc := "(IIIIII)I" } : Jvm.MethodName) ({ cls := "LiquidCheckerModel", name := "statement", desc := "(IIIIII)I" } : Jvm.MethodName)) ∈ GW := gw_at 703 (by decide +kernel) (by decide +kernel)
theorem gw704 : (Jvm.Cond.code ({ cls := "LiquidCheckerModel", name := "statement", desc := "(IIIIII)I" } : Jvm.MethodName) prog_8_method_11_code (9 : Nat) (Option.some Jvm.ClassFile.FieldType.int)) ∈ GW := gw_at 704 (by decide +kernel) (by decide +kernel)
theorem gw705 : (Jvm.Cond.methodLink "LiquidCheckerModel" (89 : Nat) ({ cls := "LiquidCheckerModel", name := "fits", desc := "(IIIII)Z" } : Jvm.MethodName)) ∈ GW := gw_at 705 (by decide +kernel) (by decide +kernel)
theorem gw706 : (Jvm.Cond.static ({ cls := "LiquidCheckerModel", name := "fits", desc := "(IIIII)Z" } : Jvm.MethodName)) ∈ GW := gw_at 706 (by decide +kernel) (by decide +kernel)
theorem gw707 : (Jvm.Cond.code ({ cls := "LiquidCheckerModel", name := "fits", desc := "(IIIII)Z" } : Jvm.MethodName) prog_8_method_8_code (7 : Nat) (Option.some Jvm.ClassFile.FieldType.boolean)) ∈ GW := gw_at 707 (by decide +kernel) (by decide +kernel)
theorem gw708 : (Jvm.Cond.methodLink "LiquidCheckerModel" (82 : Nat) ({ cls := "LiquidCheckerModel", name := "name", desc := "(I)Z" } : Jvm.MethodName)) ∈ GW := gw_at 708 (by decide +kernel) (by decide +kernel)
theorem gw709 : (Jvm.Cond.static ({ cls := "LiquidCheckerModel", name := "name", desc := "(I)Z" } : Jvm.MethodName)) ∈ GW := gw_at 709 (by decide +kernel) (by decide +kernel)
theorem gw710 : (Jvm.Cond.code ({ cls := "LiquidCheckerModel", name := "name", desc := "(I)Z" } : Jvm.MethodName) prog_8_method_7_code (1 : Nat) (Option.some Jvm.ClassFile.FieldType.boolean)) ∈ GW := gw_at 710 (by decide +kernel) (by decide +kernel)
theorem gw711 : (Jvm.Cond.methodLink "LiquidCheckerModel" (93 : Nat) ({ cls := "LiquidCheckerModel", name := "stands", desc := "(IIIII)Z" } : Jvm.MethodName)) ∈ GW := gw_at 711 (by decide +kernel) (by decide +kernel)
theorem gw713 : (Jvm.Cond.instanceMethod ({ cls := "LiquidCheckerModel", name := "stands", desc := "(IIIII)Z" } : Jvm.MethodName)) ∈ GW := gw_at 713 (by decide +kernel) (by decide +kernel)
theorem gw714 : (Jvm.Cond.code ({ cls := "LiquidCheckerModel", name := "stands", desc := "(IIIII)Z" } : Jvm.MethodName) prog_8_method_10_code (7 : Nat) (Option.some Jvm.ClassFile.FieldType.boolean)) ∈ GW := gw_at 714 (by decide +kernel) (by decide +kernel)
theorem gw715 : (Jvm.Cond.methodLink "LiquidCheckerModel" (85 : Nat) ({ cls := "LiquidCheckerModel", name := "given", desc := "(II)Z" } : Jvm.MethodName)) ∈ GW := gw_at 715 (by decide +kernel) (by decide +kernel)
theorem gw717 : (Jvm.Cond.instanceMethod ({ cls := "LiquidCheckerModel", name := "given", desc := "(II)Z" } : Jvm.MethodName)) ∈ GW := gw_at 717 (by decide +kernel) (by decide +kernel)
theorem gw718 : (Jvm.Cond.code ({ cls := "LiquidCheckerModel", name := "given", desc := "(II)Z" } : Jvm.MethodName) prog_8_method_9_code (4 : Nat) (Option.some Jvm.ClassFile.FieldType.boolean)) ∈ GW := gw_at 718 (by decide +kernel) (by decide +kernel)
theorem gw719 : (Jvm.Cond.methodLink "LiquidCheckerLaw" (72 : Nat) ({ cls := "LiquidCheckerModel", name := "clear", desc := "(I)I" } : Jvm.MethodName)) ∈ GW := gw_at 719 (by decide +kernel) (by decide +kernel)
theorem gw720 : (Jvm.Cond.instanceMethod ({ cls := "LiquidCheckerModel", name := "clear", desc := "(I)I" } : Jvm.MethodName)) ∈ GW := gw_at 720 (by decide +kernel) (by decide +kernel)
theorem gw721 : (Jvm.Cond.selects "LiquidCheckerModel" ({ cls := "LiquidCheckerModel", name := "clear", desc := "(I)I" } : Jvm.MethodName) ({ cls := "LiquidCheckerModel", name := "clear", desc := "(I)I" } : Jvm.MethodName)) ∈ GW := gw_at 721 (by decide +kernel) (by decide +kernel)
theorem gw722 : (Jvm.Cond.code ({ cls := "LiquidCheckerModel", name := "clear", desc := "(I)I" } : Jvm.MethodName) prog_8_method_12_code (3 : Nat) (Option.some Jvm.ClassFile.FieldType.int)) ∈ GW := gw_at 722 (by decide +kernel) (by decide +kernel)
theorem gw723 : (Jvm.Cond.methodLink "LiquidCheckerLaw" (75 : Nat) ({ cls := "LiquidCheckerModel", name := "check", desc := "(I)I" } : Jvm.MethodName)) ∈ GW := gw_at 723 (by decide +kernel) (by decide +kernel)
theorem gw724 : (Jvm.Cond.instanceMethod ({ cls := "LiquidCheckerModel", name := "check", desc := "(I)I" } : Jvm.MethodName)) ∈ GW := gw_at 724 (by decide +kernel) (by decide +kernel)
theorem gw725 : (Jvm.Cond.selects "LiquidCheckerModel" ({ cls := "LiquidCheckerModel", name := "check", desc := "(I)I" } : Jvm.MethodName) ({ cls := "LiquidCheckerModel", name := "check", desc := "(I)I" } : Jvm.MethodName)) ∈ GW := gw_at 725 (by decide +kernel) (by decide +kernel)
theorem gw726 : (Jvm.Cond.code ({ cls := "LiquidCheckerModel", name := "check", desc := "(I)I" } : Jvm.MethodName) prog_8_method_29_code (2 : Nat) (Option.some Jvm.ClassFile.FieldType.int)) ∈ GW := gw_at 726 (by decide +kernel) (by decide +kernel)
theorem gw727 : (Jvm.Cond.methodLink "LiquidCheckerModel" (179 : Nat) ({ cls := "LiquidCheckerModel", name := "explore", desc := "(I)V" } : Jvm.MethodName)) ∈ GW := gw_at 727 (by decide +kernel) (by decide +kernel)
theorem gw729 : (Jvm.Cond.instanceMethod ({ cls := "LiquidCheckerModel", name := "explore", desc := "(I)V" } : Jvm.MethodName)) ∈ GW := gw_at 729 (by decide +kernel) (by decide +kernel)
theorem gw730 : (Jvm.Cond.code ({ cls := "LiquidCheckerModel", name := "explore", desc := "(I)V" } : Jvm.MethodName) prog_8_method_27_code (3 : Nat) (Option.none : Option Jvm.ClassFile.FieldType)) ∈ GW := gw_at 730 (by decide +kernel) (by decide +kernel)
theorem gw731 : (Jvm.Cond.methodLink "LiquidCheckerModel" (176 : Nat) ({ cls := "LiquidCheckerModel", name := "walk", desc := "(I)V" } : Jvm.MethodName)) ∈ GW := gw_at 731 (by decide +kernel) (by decide +kernel)
theorem gw733 : (Jvm.Cond.instanceMethod ({ cls := "LiquidCheckerModel", name := "walk", desc := "(I)V" } : Jvm.MethodName)) ∈ GW := gw_at 733 (by decide +kernel) (by decide +kernel)
theorem gw734 : (Jvm.Cond.code ({ cls := "LiquidCheckerModel", name := "walk", desc := "(I)V" } : Jvm.MethodName) prog_8_method_26_code (6 : Nat) (Option.none : Option Jvm.ClassFile.FieldType)) ∈ GW := gw_at 734 (by decide +kernel) (by decide +kernel)
theorem gw735 : (Jvm.Cond.methodLink "LiquidCheckerModel" (163 : Nat) ({ cls := "LiquidCheckerModel", name := "begin", desc := "()V" } : Jvm.MethodName)) ∈ GW := gw_at 735 (by decide +kernel) (by decide +kernel)
theorem gw737 : (Jvm.Cond.instanceMethod ({ cls := "LiquidCheckerModel", name := "begin", desc := "()V" } : Jvm.MethodName)) ∈ GW := gw_at 737 (by decide +kernel) (by decide +kernel)
theorem gw738 : (Jvm.Cond.code ({ cls := "LiquidCheckerModel", name := "begin", desc := "()V" } : Jvm.MethodName) prog_8_method_13_code (3 : Nat) (Option.none : Option Jvm.ClassFile.FieldType)) ∈ GW := gw_at 738 (by decide +kernel) (by decide +kernel)
theorem gw739 : (Jvm.Cond.constantLong "LiquidCheckerModel" (96 : Nat) (1000000000000 : Int64)) ∈ GW := gw_at 739 (by decide +kernel) (by decide +kernel)
theorem gw740 : (Jvm.Cond.methodLink "LiquidCheckerModel" (133 : Nat) ({ cls := "LiquidCheckerModel", name := "knowAll", desc := "(III)V" } : Jvm.MethodName)) ∈ GW := gw_at 740 (by decide +kernel) (by decide +kernel)
theorem gw742 : (Jvm.Cond.instanceMethod ({ cls := "LiquidCheckerModel", name := "knowAll", desc := "(III)V" } : Jvm.MethodName)) ∈ GW := gw_at 742 (by decide +kernel) (by decide +kernel)
theorem gw743 : (Jvm.Cond.code ({ cls := "LiquidCheckerModel", name := "knowAll", desc := "(III)V" } : Jvm.MethodName) prog_8_method_19_code (5 : Nat) (Option.none : Option Jvm.ClassFile.FieldType)) ∈ GW := gw_at 743 (by decide +kernel) (by decide +kernel)
theorem gw744 : (Jvm.Cond.methodLink "LiquidCheckerModel" (106 : Nat) ({ cls := "LiquidCheckerModel", name := "stand", desc := "(III)I" } : Jvm.MethodName)) ∈ GW := gw_at 744 (by decide +kernel) (by decide +kernel)
theorem gw745 : (Jvm.Cond.static ({ cls := "LiquidCheckerModel", name := "stand", desc := "(III)I" } : Jvm.MethodName)) ∈ GW := gw_at 745 (by decide +kernel) (by decide +kernel)
theorem gw746 : (Jvm.Cond.code ({ cls := "LiquidCheckerModel", name := "stand", desc := "(III)I" } : Jvm.MethodName) prog_8_method_18_code (3 : Nat) (Option.some Jvm.ClassFile.FieldType.int)) ∈ GW := gw_at 746 (by decide +kernel) (by decide +kernel)
theorem gw747 : (Jvm.Cond.methodLink "LiquidCheckerModel" (110 : Nat) ({ cls := "LiquidCheckerModel", name := "know", desc := "(IIJ)V" } : Jvm.MethodName)) ∈ GW := gw_at 747 (by decide +kernel) (by decide +kernel)
theorem gw749 : (Jvm.Cond.instanceMethod ({ cls := "LiquidCheckerModel", name := "know", desc := "(IIJ)V" } : Jvm.MethodName)) ∈ GW := gw_at 749 (by decide +kernel) (by decide +kernel)
theorem gw750 : (Jvm.Cond.code ({ cls := "LiquidCheckerModel", name := "know", desc := "(IIJ)V" } : Jvm.MethodName) prog_8_method_14_code (9 : Nat) (Option.none : Option Jvm.ClassFile.FieldType)) ∈ GW := gw_at 750 (by decide +kernel) (by decide +kernel)
theorem gw751 : (Jvm.Cond.methodLink "LiquidCheckerModel" (166 : Nat) ({ cls := "LiquidCheckerModel", name := "look", desc := "(I)V" } : Jvm.MethodName)) ∈ GW := gw_at 751 (by decide +kernel) (by decide +kernel)
theorem gw753 : (Jvm.Cond.instanceMethod ({ cls := "LiquidCheckerModel", name := "look", desc := "(I)V" } : Jvm.MethodName)) ∈ GW := gw_at 753 (by decide +kernel) (by decide +kernel)
theorem gw754 : (Jvm.Cond.code ({ cls := "LiquidCheckerModel", name := "look", desc := "(I)V" } : Jvm.MethodName) prog_8_method_25_code (4 : Nat) (Option.none : Option Jvm.ClassFile.FieldType)) ∈ GW := gw_at 754 (by decide +kernel) (by decide +kernel)
theorem gw755 : (Jvm.Cond.methodLink "LiquidCheckerModel" (169 : Nat) ({ cls := "LiquidCheckerModel", name := "returns", desc := "(III)V" } : Jvm.MethodName)) ∈ GW := gw_at 755 (by decide +kernel) (by decide +kernel)
theorem gw757 : (Jvm.Cond.instanceMethod ({ cls := "LiquidCheckerModel", name := "returns", desc := "(III)V" } : Jvm.MethodName)) ∈ GW := gw_at 757 (by decide +kernel) (by decide +kernel)
theorem gw758 : (Jvm.Cond.code ({ cls := "LiquidCheckerModel", name := "returns", desc := "(III)V" } : Jvm.MethodName) prog_8_method_22_code (4 : Nat) (Option.none : Option Jvm.ClassFile.FieldType)) ∈ GW := gw_at 758 (by decide +kernel) (by decide +kernel)
theorem gw759 : (Jvm.Cond.methodLink "LiquidCheckerModel" (124 : Nat) ({ cls := "LiquidCheckerModel", name := "showsAll", desc := "(III)Z" } : Jvm.MethodName)) ∈ GW := gw_at 759 (by decide +kernel) (by decide +kernel)
theorem gw761 : (Jvm.Cond.instanceMethod ({ cls := "LiquidCheckerModel", name := "showsAll", desc := "(III)Z" } : Jvm.MethodName)) ∈ GW := gw_at 761 (by decide +kernel) (by decide +kernel)
theorem gw762 : (Jvm.Cond.code ({ cls := "LiquidCheckerModel", name := "showsAll", desc := "(III)Z" } : Jvm.MethodName) prog_8_method_20_code (5 : Nat) (Option.some Jvm.ClassFile.FieldType.boolean)) ∈ GW := gw_at 762 (by decide +kernel) (by decide +kernel)
theorem gw763 : (Jvm.Cond.methodLink "LiquidCheckerModel" (114 : Nat) ({ cls := "LiquidCheckerModel", name := "shows", desc := "(IIJ)Z" } : Jvm.MethodName)) ∈ GW := gw_at 763 (by decide +kernel) (by decide +kernel)
theorem gw765 : (Jvm.Cond.instanceMethod ({ cls := "LiquidCheckerModel", name := "shows", desc := "(IIJ)Z" } : Jvm.MethodName)) ∈ GW := gw_at 765 (by decide +kernel) (by decide +kernel)
theorem gw766 : (Jvm.Cond.code ({ cls := "LiquidCheckerModel", name := "shows", desc := "(IIJ)Z" } : Jvm.MethodName) prog_8_method_15_code (5 : Nat) (Option.some Jvm.ClassFile.FieldType.boolean)) ∈ GW := gw_at 766 (by decide +kernel) (by decide +kernel)
theorem gw767 : (Jvm.Cond.methodLink "LiquidCheckerModel" (127 : Nat) ({ cls := "LiquidCheckerModel", name := "blame", desc := "(I)V" } : Jvm.MethodName)) ∈ GW := gw_at 767 (by decide +kernel) (by decide +kernel)
theorem gw769 : (Jvm.Cond.instanceMethod ({ cls := "LiquidCheckerModel", name := "blame", desc := "(I)V" } : Jvm.MethodName)) ∈ GW := gw_at 769 (by decide +kernel) (by decide +kernel)
theorem gw770 : (Jvm.Cond.code ({ cls := "LiquidCheckerModel", name := "blame", desc := "(I)V" } : Jvm.MethodName) prog_8_method_21_code (2 : Nat) (Option.none : Option Jvm.ClassFile.FieldType)) ∈ GW := gw_at 770 (by decide +kernel) (by decide +kernel)
theorem gw771 : (Jvm.Cond.methodLink "LiquidCheckerModel" (172 : Nat) ({ cls := "LiquidCheckerModel", name := "perform", desc := "(II)I" } : Jvm.MethodName)) ∈ GW := gw_at 771 (by decide +kernel) (by decide +kernel)
theorem gw773 : (Jvm.Cond.instanceMethod ({ cls := "LiquidCheckerModel", name := "perform", desc := "(II)I" } : Jvm.MethodName)) ∈ GW := gw_at 773 (by decide +kernel) (by decide +kernel)
theorem gw774 : (Jvm.Cond.code ({ cls := "LiquidCheckerModel", name := "perform", desc := "(II)I" } : Jvm.MethodName) prog_8_method_24_code (8 : Nat) (Option.some Jvm.ClassFile.FieldType.int)) ∈ GW := gw_at 774 (by decide +kernel) (by decide +kernel)
theorem gw775 : (Jvm.Cond.methodLink "LiquidCheckerModel" (137 : Nat) ({ cls := "LiquidCheckerModel", name := "rename", desc := "(I)V" } : Jvm.MethodName)) ∈ GW := gw_at 775 (by decide +kernel) (by decide +kernel)
theorem gw777 : (Jvm.Cond.instanceMethod ({ cls := "LiquidCheckerModel", name := "rename", desc := "(I)V" } : Jvm.MethodName)) ∈ GW := gw_at 777 (by decide +kernel) (by decide +kernel)
theorem gw778 : (Jvm.Cond.code ({ cls := "LiquidCheckerModel", name := "rename", desc := "(I)V" } : Jvm.MethodName) prog_8_method_17_code (3 : Nat) (Option.none : Option Jvm.ClassFile.FieldType)) ∈ GW := gw_at 778 (by decide +kernel) (by decide +kernel)
theorem gw779 : (Jvm.Cond.methodLink "LiquidCheckerModel" (102 : Nat) ({ cls := "LiquidCheckerModel", name := "forget", desc := "(I)V" } : Jvm.MethodName)) ∈ GW := gw_at 779 (by decide +kernel) (by decide +kernel)
theorem gw781 : (Jvm.Cond.instanceMethod ({ cls := "LiquidCheckerModel", name := "forget", desc := "(I)V" } : Jvm.MethodName)) ∈ GW := gw_at 781 (by decide +kernel) (by decide +kernel)
theorem gw782 : (Jvm.Cond.code ({ cls := "LiquidCheckerModel", name := "forget", desc := "(I)V" } : Jvm.MethodName) prog_8_method_16_code (3 : Nat) (Option.none : Option Jvm.ClassFile.FieldType)) ∈ GW := gw_at 782 (by decide +kernel) (by decide +kernel)
theorem gw783 : (Jvm.Cond.methodLink "LiquidCheckerModel" (140 : Nat) ({ cls := "LiquidCheckerModel", name := "call", desc := "(II)V" } : Jvm.MethodName)) ∈ GW := gw_at 783 (by decide +kernel) (by decide +kernel)
theorem gw785 : (Jvm.Cond.instanceMethod ({ cls := "LiquidCheckerModel", name := "call", desc := "(II)V" } : Jvm.MethodName)) ∈ GW := gw_at 785 (by decide +kernel) (by decide +kernel)
theorem gw786 : (Jvm.Cond.code ({ cls := "LiquidCheckerModel", name := "call", desc := "(II)V" } : Jvm.MethodName) prog_8_method_23_code (3 : Nat) (Option.none : Option Jvm.ClassFile.FieldType)) ∈ GW := gw_at 786 (by decide +kernel) (by decide +kernel)
theorem gw787 : (Jvm.Cond.methodLink "LiquidCheckerLaw" (78 : Nat) ({ cls := "LiquidCheckerModel", name := "ways", desc := "(I)I" } : Jvm.MethodName)) ∈ GW := gw_at 787 (by decide +kernel) (by decide +kernel)
theorem gw788 : (Jvm.Cond.instanceMethod ({ cls := "LiquidCheckerModel", name := "ways", desc := "(I)I" } : Jvm.MethodName)) ∈ GW := gw_at 788 (by decide +kernel) (by decide +kernel)
theorem gw789 : (Jvm.Cond.selects "LiquidCheckerModel" ({ cls := "LiquidCheckerModel", name := "ways", desc := "(I)I" } : Jvm.MethodName) ({ cls := "LiquidCheckerModel", name := "ways", desc := "(I)I" } : Jvm.MethodName)) ∈ GW := gw_at 789 (by decide +kernel) (by decide +kernel)
theorem gw790 : (Jvm.Cond.code ({ cls := "LiquidCheckerModel", name := "ways", desc := "(I)I" } : Jvm.MethodName) prog_8_method_30_code (2 : Nat) (Option.some Jvm.ClassFile.FieldType.int)) ∈ GW := gw_at 790 (by decide +kernel) (by decide +kernel)
theorem gw791 : (Jvm.Cond.methodLink "LiquidCheckerLaw" (82 : Nat) ({ cls := "LiquidCheckerModel", name := "comes", desc := "(II)I" } : Jvm.MethodName)) ∈ GW := gw_at 791 (by decide +kernel) (by decide +kernel)
theorem gw792 : (Jvm.Cond.instanceMethod ({ cls := "LiquidCheckerModel", name := "comes", desc := "(II)I" } : Jvm.MethodName)) ∈ GW := gw_at 792 (by decide +kernel) (by decide +kernel)
theorem gw793 : (Jvm.Cond.selects "LiquidCheckerModel" ({ cls := "LiquidCheckerModel", name := "comes", desc := "(II)I" } : Jvm.MethodName) ({ cls := "LiquidCheckerModel", name := "comes", desc := "(II)I" } : Jvm.MethodName)) ∈ GW := gw_at 793 (by decide +kernel) (by decide +kernel)
theorem gw794 : (Jvm.Cond.code ({ cls := "LiquidCheckerModel", name := "comes", desc := "(II)I" } : Jvm.MethodName) prog_8_method_31_code (3 : Nat) (Option.some Jvm.ClassFile.FieldType.int)) ∈ GW := gw_at 794 (by decide +kernel) (by decide +kernel)
theorem gw795 : (Jvm.Cond.methodLink "LiquidCheckerModel" (182 : Nat) ({ cls := "LiquidCheckerModel", name := "noPlace", desc := "(II)Z" } : Jvm.MethodName)) ∈ GW := gw_at 795 (by decide +kernel) (by decide +kernel)
theorem gw797 : (Jvm.Cond.instanceMethod ({ cls := "LiquidCheckerModel", name := "noPlace", desc := "(II)Z" } : Jvm.MethodName)) ∈ GW := gw_at 797 (by decide +kernel) (by decide +kernel)
theorem gw798 : (Jvm.Cond.code ({ cls := "LiquidCheckerModel", name := "noPlace", desc := "(II)Z" } : Jvm.MethodName) prog_8_method_28_code (3 : Nat) (Option.some Jvm.ClassFile.FieldType.boolean)) ∈ GW := gw_at 798 (by decide +kernel) (by decide +kernel)
theorem gw799 : (Jvm.Cond.methodLink "LiquidCheckerLaw" (86 : Nat) ({ cls := "LiquidCheckerModel", name := "most", desc := "(IIII)I" } : Jvm.MethodName)) ∈ GW := gw_at 799 (by decide +kernel) (by decide +kernel)
theorem gw800 : (Jvm.Cond.instanceMethod ({ cls := "LiquidCheckerModel", name := "most", desc := "(IIII)I" } : Jvm.MethodName)) ∈ GW := gw_at 800 (by decide +kernel) (by decide +kernel)
theorem gw801 : (Jvm.Cond.selects "LiquidCheckerModel" ({ cls := "LiquidCheckerModel", name := "most", desc := "(IIII)I" } : Jvm.MethodName) ({ cls := "LiquidCheckerModel", name := "most", desc := "(IIII)I" } : Jvm.MethodName)) ∈ GW := gw_at 801 (by decide +kernel) (by decide +kernel)
theorem gw802 : (Jvm.Cond.code ({ cls := "LiquidCheckerModel", name := "most", desc := "(IIII)I" } : Jvm.MethodName) prog_8_method_32_code (5 : Nat) (Option.some Jvm.ClassFile.FieldType.int)) ∈ GW := gw_at 802 (by decide +kernel) (by decide +kernel)
theorem gw803 : (Jvm.Cond.methodLink "LiquidCheckerLaw" (89 : Nat) ({ cls := "LiquidCheckerModel", name := "follows", desc := "(II)I" } : Jvm.MethodName)) ∈ GW := gw_at 803 (by decide +kernel) (by decide +kernel)
theorem gw804 : (Jvm.Cond.instanceMethod ({ cls := "LiquidCheckerModel", name := "follows", desc := "(II)I" } : Jvm.MethodName)) ∈ GW := gw_at 804 (by decide +kernel) (by decide +kernel)
theorem gw805 : (Jvm.Cond.selects "LiquidCheckerModel" ({ cls := "LiquidCheckerModel", name := "follows", desc := "(II)I" } : Jvm.MethodName) ({ cls := "LiquidCheckerModel", name := "follows", desc := "(II)I" } : Jvm.MethodName)) ∈ GW := gw_at 805 (by decide +kernel) (by decide +kernel)
theorem gw806 : (Jvm.Cond.code ({ cls := "LiquidCheckerModel", name := "follows", desc := "(II)I" } : Jvm.MethodName) prog_8_method_33_code (3 : Nat) (Option.some Jvm.ClassFile.FieldType.int)) ∈ GW := gw_at 806 (by decide +kernel) (by decide +kernel)
theorem gw807 : (Jvm.Cond.methodLink "LiquidCheckerLaw" (92 : Nat) ({ cls := "LiquidCheckerModel", name := "count", desc := "(II)I" } : Jvm.MethodName)) ∈ GW := gw_at 807 (by decide +kernel) (by decide +kernel)
theorem gw808 : (Jvm.Cond.instanceMethod ({ cls := "LiquidCheckerModel", name := "count", desc := "(II)I" } : Jvm.MethodName)) ∈ GW := gw_at 808 (by decide +kernel) (by decide +kernel)
theorem gw809 : (Jvm.Cond.selects "LiquidCheckerModel" ({ cls := "LiquidCheckerModel", name := "count", desc := "(II)I" } : Jvm.MethodName) ({ cls := "LiquidCheckerModel", name := "count", desc := "(II)I" } : Jvm.MethodName)) ∈ GW := gw_at 809 (by decide +kernel) (by decide +kernel)
theorem gw810 : (Jvm.Cond.code ({ cls := "LiquidCheckerModel", name := "count", desc := "(II)I" } : Jvm.MethodName) prog_8_method_34_code (3 : Nat) (Option.some Jvm.ClassFile.FieldType.int)) ∈ GW := gw_at 810 (by decide +kernel) (by decide +kernel)
end
section
theorem inF : ∀ w ∈ u_ws RF TF 8, w ∈ GW := by
  intro w h
  obtain ⟨k, hk, rfl⟩ := List.mem_map.mp h
  have hk := List.mem_range.mp hk
  match k, hk with
  | 0, _ => exact gw166
  | 1, _ => exact gw168
  | 2, _ => exact gw170
  | 3, _ => exact gw172
  | 4, _ => exact gw174
  | 5, _ => exact gw176
  | 6, _ => exact gw178
  | 7, _ => exact gw180
  | k + 8, hk => exact absurd hk (by omega)
theorem inK : ∀ w ∈ u_ws RK TK 2, w ∈ GW := by
  intro w h
  obtain ⟨k, hk, rfl⟩ := List.mem_map.mp h
  have hk := List.mem_range.mp hk
  match k, hk with
  | 0, _ => exact gw45
  | 1, _ => exact gw47
  | k + 2, hk => exact absurd hk (by omega)
theorem inR : ∀ w ∈ u_ws RR TR 4, w ∈ GW := by
  intro w h
  obtain ⟨k, hk, rfl⟩ := List.mem_map.mp h
  have hk := List.mem_range.mp hk
  match k, hk with
  | 0, _ => exact gw108
  | 1, _ => exact gw110
  | 2, _ => exact gw112
  | 3, _ => exact gw114
  | k + 4, hk => exact absurd hk (by omega)
theorem inS : ∀ w ∈ u_ws RS TS 6, w ∈ GW := by
  intro w h
  obtain ⟨k, hk, rfl⟩ := List.mem_map.mp h
  have hk := List.mem_range.mp hk
  match k, hk with
  | 0, _ => exact gw137
  | 1, _ => exact gw139
  | 2, _ => exact gw141
  | 3, _ => exact gw143
  | 4, _ => exact gw145
  | 5, _ => exact gw147
  | k + 6, hk => exact absurd hk (by omega)
theorem inW : ∀ w ∈ u_ws RW TW 11, w ∈ GW := by
  intro w h
  obtain ⟨k, hk, rfl⟩ := List.mem_map.mp h
  have hk := List.mem_range.mp hk
  match k, hk with
  | 0, _ => exact gw66
  | 1, _ => exact gw68
  | 2, _ => exact gw70
  | 3, _ => exact gw72
  | 4, _ => exact gw74
  | 5, _ => exact gw76
  | 6, _ => exact gw78
  | 7, _ => exact gw80
  | 8, _ => exact gw82
  | 9, _ => exact gw84
  | 10, _ => exact gw86
  | k + 11, hk => exact absurd hk (by omega)
theorem inC : ∀ w ∈ u_ws RC TC 3, w ∈ GW := by
  intro w h
  obtain ⟨k, hk, rfl⟩ := List.mem_map.mp h
  have hk := List.mem_range.mp hk
  match k, hk with
  | 0, _ => exact gw186
  | 1, _ => exact gw188
  | 2, _ => exact gw190
  | k + 3, hk => exact absurd hk (by omega)
theorem inM : ∀ w ∈ u_ws RM TM 29, w ∈ GW := by
  intro w h
  obtain ⟨k, hk, rfl⟩ := List.mem_map.mp h
  have hk := List.mem_range.mp hk
  match k, hk with
  | 0, _ => exact gw622
  | 1, _ => exact gw624
  | 2, _ => exact gw626
  | 3, _ => exact gw628
  | 4, _ => exact gw630
  | 5, _ => exact gw632
  | 6, _ => exact gw634
  | 7, _ => exact gw636
  | 8, _ => exact gw638
  | 9, _ => exact gw640
  | 10, _ => exact gw642
  | 11, _ => exact gw644
  | 12, _ => exact gw646
  | 13, _ => exact gw648
  | 14, _ => exact gw650
  | 15, _ => exact gw652
  | 16, _ => exact gw654
  | 17, _ => exact gw656
  | 18, _ => exact gw658
  | 19, _ => exact gw660
  | 20, _ => exact gw662
  | 21, _ => exact gw664
  | 22, _ => exact gw666
  | 23, _ => exact gw668
  | 24, _ => exact gw670
  | 25, _ => exact gw672
  | 26, _ => exact gw674
  | 27, _ => exact gw676
  | 28, _ => exact gw678
  | k + 29, hk => exact absurd hk (by omega)
def isNx : Cond → Bool
  | .fieldLinkNest .. => true
  | .methodLinkNest .. => true
  | _ => false
def NXW : List Cond := tables_1.filter isNx
theorem nx_at {w : Cond} (i : Nat) (h : tables_1[i]? = some w) (hg : isNx w = true) : w ∈ NXW := List.mem_filter.mpr ⟨List.mem_of_getElem? h, hg⟩
def Nx (U : State) : Prop := ∀ w ∈ NXW, va_Nw w U
theorem Nx.warm {s U : State} (hW : s.WarmedH U.vm) (h : Nx s) : Nx U := fun w hw => by
  have h1 := h w hw
  have h2 := (List.mem_filter.mp hw).2
  cases w with
  | fieldLinkNest => exact va_Nw.warmF hW h1
  | methodLinkNest => exact va_Nw.warmM hW h1
  | _ => cases h2
theorem Nx.same {u U : State} (h : u.vm = U.vm) (hN : Nx u) : Nx U := fun w hw => by
  have h1 := hN w hw
  have h2 := (List.mem_filter.mp hw).2
  cases w with
  | fieldLinkNest => exact va_Nw.same rfl h h1
  | methodLinkNest => exact va_Nw.same rfl h h1
  | _ => cases h2
theorem nx31 : (Jvm.Cond.methodLinkNest "LiquidChecker" (17 : Nat) ({ cls := "LiquidChecker$Walk", name := "<init>", desc := "()V" } : Jvm.MethodName) "LiquidChecker") ∈ NXW := nx_at 31 (by decide +kernel) (by decide +kernel)
theorem nx37 : (Jvm.Cond.methodLinkNest "LiquidChecker$Walk" (11 : Nat) ({ cls := "LiquidChecker$Known", name := "<init>", desc := "()V" } : Jvm.MethodName) "LiquidChecker") ∈ NXW := nx_at 37 (by decide +kernel) (by decide +kernel)
theorem nx43 : (Jvm.Cond.fieldLinkNest "LiquidChecker$Walk" (69 : Nat) "LiquidChecker$Known" "possible" "Z" "LiquidChecker") ∈ NXW := nx_at 43 (by decide +kernel) (by decide +kernel)
theorem nx44 : (Jvm.Cond.fieldLinkNest "LiquidChecker" (149 : Nat) "LiquidChecker$Known" "possible" "Z" "LiquidChecker") ∈ NXW := nx_at 44 (by decide +kernel) (by decide +kernel)
theorem nx60 : (Jvm.Cond.fieldLinkNest "LiquidChecker" (133 : Nat) "LiquidChecker$Walk" "greatest" "I" "LiquidChecker") ∈ NXW := nx_at 60 (by decide +kernel) (by decide +kernel)
theorem nx63 : (Jvm.Cond.fieldLinkNest "LiquidChecker" (108 : Nat) "LiquidChecker$Walk" "leastUnshown" "I" "LiquidChecker") ∈ NXW := nx_at 63 (by decide +kernel) (by decide +kernel)
theorem nx65 : (Jvm.Cond.fieldLinkNest "LiquidChecker" (111 : Nat) "LiquidChecker$Walk" "ended" "I" "LiquidChecker") ∈ NXW := nx_at 65 (by decide +kernel) (by decide +kernel)
theorem nx90 : (Jvm.Cond.methodLinkNest "LiquidChecker" (24 : Nat) ({ cls := "LiquidChecker$Known", name := "<init>", desc := "()V" } : Jvm.MethodName) "LiquidChecker") ∈ NXW := nx_at 90 (by decide +kernel) (by decide +kernel)
theorem nx92 : (Jvm.Cond.methodLinkNest "LiquidChecker" (29 : Nat) ({ cls := "LiquidChecker$Function", name := "<init>", desc := "()V" } : Jvm.MethodName) "LiquidChecker") ∈ NXW := nx_at 92 (by decide +kernel) (by decide +kernel)
theorem nx98 : (Jvm.Cond.methodLinkNest "LiquidChecker$Function" (11 : Nat) ({ cls := "LiquidChecker$Relations", name := "<init>", desc := "()V" } : Jvm.MethodName) "LiquidChecker") ∈ NXW := nx_at 98 (by decide +kernel) (by decide +kernel)
theorem nx106 : (Jvm.Cond.fieldLinkNest "LiquidChecker$Function" (32 : Nat) "LiquidChecker$Relations" "size" "I" "LiquidChecker") ∈ NXW := nx_at 106 (by decide +kernel) (by decide +kernel)
theorem nx107 : (Jvm.Cond.fieldLinkNest "LiquidChecker" (57 : Nat) "LiquidChecker$Relations" "size" "I" "LiquidChecker") ∈ NXW := nx_at 107 (by decide +kernel) (by decide +kernel)
theorem nx120 : (Jvm.Cond.methodLinkNest "LiquidChecker$Function" (31 : Nat) ({ cls := "LiquidChecker$Statement", name := "<init>", desc := "()V" } : Jvm.MethodName) "LiquidChecker") ∈ NXW := nx_at 120 (by decide +kernel) (by decide +kernel)
theorem nx125 : (Jvm.Cond.fieldLinkNest "LiquidChecker$Function" (59 : Nat) "LiquidChecker$Statement" "kind" "I" "LiquidChecker") ∈ NXW := nx_at 125 (by decide +kernel) (by decide +kernel)
theorem nx126 : (Jvm.Cond.fieldLinkNest "LiquidChecker$Walk" (113 : Nat) "LiquidChecker$Statement" "kind" "I" "LiquidChecker") ∈ NXW := nx_at 126 (by decide +kernel) (by decide +kernel)
theorem nx128 : (Jvm.Cond.fieldLinkNest "LiquidChecker$Walk" (118 : Nat) "LiquidChecker$Statement" "a" "I" "LiquidChecker") ∈ NXW := nx_at 128 (by decide +kernel) (by decide +kernel)
theorem nx130 : (Jvm.Cond.fieldLinkNest "LiquidChecker$Walk" (121 : Nat) "LiquidChecker$Statement" "b" "I" "LiquidChecker") ∈ NXW := nx_at 130 (by decide +kernel) (by decide +kernel)
theorem nx132 : (Jvm.Cond.fieldLinkNest "LiquidChecker$Walk" (157 : Nat) "LiquidChecker$Statement" "c" "I" "LiquidChecker") ∈ NXW := nx_at 132 (by decide +kernel) (by decide +kernel)
theorem nx134 : (Jvm.Cond.fieldLinkNest "LiquidChecker$Walk" (124 : Nat) "LiquidChecker$Statement" "k" "I" "LiquidChecker") ∈ NXW := nx_at 134 (by decide +kernel) (by decide +kernel)
theorem nx136 : (Jvm.Cond.fieldLinkNest "LiquidChecker$Function" (79 : Nat) "LiquidChecker$Statement" "leadsTo" "I" "LiquidChecker") ∈ NXW := nx_at 136 (by decide +kernel) (by decide +kernel)
theorem nx151 : (Jvm.Cond.fieldLinkNest "LiquidChecker" (50 : Nat) "LiquidChecker$Function" "demands" "LLiquidChecker$Relations;" "LiquidChecker") ∈ NXW := nx_at 151 (by decide +kernel) (by decide +kernel)
theorem nx152 : (Jvm.Cond.fieldLinkNest "LiquidChecker$Walk" (57 : Nat) "LiquidChecker$Function" "demands" "LLiquidChecker$Relations;" "LiquidChecker") ∈ NXW := nx_at 152 (by decide +kernel) (by decide +kernel)
theorem nx154 : (Jvm.Cond.fieldLinkNest "LiquidChecker" (54 : Nat) "LiquidChecker$Function" "promises" "LLiquidChecker$Relations;" "LiquidChecker") ∈ NXW := nx_at 154 (by decide +kernel) (by decide +kernel)
theorem nx155 : (Jvm.Cond.fieldLinkNest "LiquidChecker$Walk" (164 : Nat) "LiquidChecker$Function" "promises" "LLiquidChecker$Relations;" "LiquidChecker") ∈ NXW := nx_at 155 (by decide +kernel) (by decide +kernel)
theorem nx157 : (Jvm.Cond.fieldLinkNest "LiquidChecker$Walk" (109 : Nat) "LiquidChecker$Function" "statements" "[LLiquidChecker$Statement;" "LiquidChecker") ∈ NXW := nx_at 157 (by decide +kernel) (by decide +kernel)
theorem nx160 : (Jvm.Cond.fieldLinkNest "LiquidChecker" (100 : Nat) "LiquidChecker$Function" "size" "I" "LiquidChecker") ∈ NXW := nx_at 160 (by decide +kernel) (by decide +kernel)
theorem nx161 : (Jvm.Cond.fieldLinkNest "LiquidChecker$Walk" (89 : Nat) "LiquidChecker$Function" "size" "I" "LiquidChecker") ∈ NXW := nx_at 161 (by decide +kernel) (by decide +kernel)
theorem nx163 : (Jvm.Cond.fieldLinkNest "LiquidChecker" (159 : Nat) "LiquidChecker$Function" "openIfs" "I" "LiquidChecker") ∈ NXW := nx_at 163 (by decide +kernel) (by decide +kernel)
theorem nx298 : (Jvm.Cond.methodLinkNest "LiquidChecker" (68 : Nat) ({ cls := "LiquidChecker$Relations", name := "append", desc := "(III)I" } : Jvm.MethodName) "LiquidChecker") ∈ NXW := nx_at 298 (by decide +kernel) (by decide +kernel)
theorem nx332 : (Jvm.Cond.methodLinkNest "LiquidChecker" (78 : Nat) ({ cls := "LiquidChecker$Function", name := "hasGivenWhatIsUsed", desc := "(IIII)Z" } : Jvm.MethodName) "LiquidChecker") ∈ NXW := nx_at 332 (by decide +kernel) (by decide +kernel)
theorem nx336 : (Jvm.Cond.methodLinkNest "LiquidChecker$Function" (46 : Nat) ({ cls := "LiquidChecker", name := "usesA", desc := "(I)Z" } : Jvm.MethodName) "LiquidChecker") ∈ NXW := nx_at 336 (by decide +kernel) (by decide +kernel)
theorem nx341 : (Jvm.Cond.methodLinkNest "LiquidChecker$Function" (53 : Nat) ({ cls := "LiquidChecker", name := "usesB", desc := "(I)Z" } : Jvm.MethodName) "LiquidChecker") ∈ NXW := nx_at 341 (by decide +kernel) (by decide +kernel)
theorem nx342 : (Jvm.Cond.methodLinkNest "LiquidChecker$Function" (56 : Nat) ({ cls := "LiquidChecker", name := "usesC", desc := "(I)Z" } : Jvm.MethodName) "LiquidChecker") ∈ NXW := nx_at 342 (by decide +kernel) (by decide +kernel)
theorem nx343 : (Jvm.Cond.methodLinkNest "LiquidChecker" (82 : Nat) ({ cls := "LiquidChecker$Function", name := "isOpenFor", desc := "(I)Z" } : Jvm.MethodName) "LiquidChecker") ∈ NXW := nx_at 343 (by decide +kernel) (by decide +kernel)
theorem nx363 : (Jvm.Cond.methodLinkNest "LiquidChecker" (90 : Nat) ({ cls := "LiquidChecker$Function", name := "hasRoomFor", desc := "(I)Z" } : Jvm.MethodName) "LiquidChecker") ∈ NXW := nx_at 363 (by decide +kernel) (by decide +kernel)
theorem nx368 : (Jvm.Cond.methodLinkNest "LiquidChecker" (95 : Nat) ({ cls := "LiquidChecker$Function", name := "append", desc := "(IIIII)I" } : Jvm.MethodName) "LiquidChecker") ∈ NXW := nx_at 368 (by decide +kernel) (by decide +kernel)
theorem nx372 : (Jvm.Cond.methodLinkNest "LiquidChecker$Function" (62 : Nat) ({ cls := "LiquidChecker$Statement", name := "write", desc := "(IIIII)V" } : Jvm.MethodName) "LiquidChecker") ∈ NXW := nx_at 372 (by decide +kernel) (by decide +kernel)
theorem nx376 : (Jvm.Cond.methodLinkNest "LiquidChecker$Function" (66 : Nat) ({ cls := "LiquidChecker", name := "givesA", desc := "(I)Z" } : Jvm.MethodName) "LiquidChecker") ∈ NXW := nx_at 376 (by decide +kernel) (by decide +kernel)
theorem nx397 : (Jvm.Cond.methodLinkNest "LiquidChecker" (101 : Nat) ({ cls := "LiquidChecker$Function", name := "empty", desc := "()V" } : Jvm.MethodName) "LiquidChecker") ∈ NXW := nx_at 397 (by decide +kernel) (by decide +kernel)
theorem nx408 : (Jvm.Cond.methodLinkNest "LiquidChecker" (104 : Nat) ({ cls := "LiquidChecker$Walk", name := "through", desc := "([LLiquidChecker$Function;LLiquidChecker$Function;III)V" } : Jvm.MethodName) "LiquidChecker") ∈ NXW := nx_at 408 (by decide +kernel) (by decide +kernel)
theorem nx413 : (Jvm.Cond.methodLinkNest "LiquidChecker$Walk" (54 : Nat) ({ cls := "LiquidChecker$Known", name := "forgetAll", desc := "()V" } : Jvm.MethodName) "LiquidChecker") ∈ NXW := nx_at 413 (by decide +kernel) (by decide +kernel)
theorem nx421 : (Jvm.Cond.methodLinkNest "LiquidChecker$Walk" (63 : Nat) ({ cls := "LiquidChecker$Relations", name := "learnedBy", desc := "(LLiquidChecker$Known;II)V" } : Jvm.MethodName) "LiquidChecker") ∈ NXW := nx_at 421 (by decide +kernel) (by decide +kernel)
theorem nx428 : (Jvm.Cond.methodLinkNest "LiquidChecker$Relations" (29 : Nat) ({ cls := "LiquidChecker$Known", name := "learn", desc := "(III)V" } : Jvm.MethodName) "LiquidChecker") ∈ NXW := nx_at 428 (by decide +kernel) (by decide +kernel)
theorem nx440 : (Jvm.Cond.methodLinkNest "LiquidChecker$Walk" (100 : Nat) ({ cls := "LiquidChecker$Known", name := "bound", desc := "(II)I" } : Jvm.MethodName) "LiquidChecker") ∈ NXW := nx_at 440 (by decide +kernel) (by decide +kernel)
theorem nx451 : (Jvm.Cond.methodLinkNest "LiquidChecker$Walk" (127 : Nat) ({ cls := "LiquidChecker$Known", name := "give", desc := "(III)V" } : Jvm.MethodName) "LiquidChecker") ∈ NXW := nx_at 451 (by decide +kernel) (by decide +kernel)
theorem nx458 : (Jvm.Cond.methodLinkNest "LiquidChecker$Walk" (160 : Nat) ({ cls := "LiquidChecker$Relations", name := "shownBy", desc := "(LLiquidChecker$Known;II)Z" } : Jvm.MethodName) "LiquidChecker") ∈ NXW := nx_at 458 (by decide +kernel) (by decide +kernel)
theorem nx462 : (Jvm.Cond.methodLinkNest "LiquidChecker$Relations" (35 : Nat) ({ cls := "LiquidChecker$Known", name := "shows", desc := "(III)Z" } : Jvm.MethodName) "LiquidChecker") ∈ NXW := nx_at 462 (by decide +kernel) (by decide +kernel)
theorem nx478 : (Jvm.Cond.methodLinkNest "LiquidChecker$Walk" (154 : Nat) ({ cls := "LiquidChecker$Known", name := "forget", desc := "(I)V" } : Jvm.MethodName) "LiquidChecker") ∈ NXW := nx_at 478 (by decide +kernel) (by decide +kernel)
theorem nx482 : (Jvm.Cond.methodLinkNest "LiquidChecker$Walk" (135 : Nat) ({ cls := "LiquidChecker$Function", name := "targetOf", desc := "(LLiquidChecker$Statement;)I" } : Jvm.MethodName) "LiquidChecker") ∈ NXW := nx_at 482 (by decide +kernel) (by decide +kernel)
theorem nx490 : (Jvm.Cond.methodLinkNest "LiquidChecker$Walk" (81 : Nat) ({ cls := "LiquidChecker$Known", name := "copyFrom", desc := "(LLiquidChecker$Known;)V" } : Jvm.MethodName) "LiquidChecker") ∈ NXW := nx_at 490 (by decide +kernel) (by decide +kernel)
theorem nx497 : (Jvm.Cond.methodLinkNest "LiquidChecker$Walk" (143 : Nat) ({ cls := "LiquidChecker$Known", name := "learn", desc := "(III)V" } : Jvm.MethodName) "LiquidChecker") ∈ NXW := nx_at 497 (by decide +kernel) (by decide +kernel)
theorem nx498 : (Jvm.Cond.methodLinkNest "LiquidChecker$Walk" (146 : Nat) ({ cls := "LiquidChecker$Known", name := "shows", desc := "(III)Z" } : Jvm.MethodName) "LiquidChecker") ∈ NXW := nx_at 498 (by decide +kernel) (by decide +kernel)
theorem nx522 : (Jvm.Cond.methodLinkNest "LiquidChecker" (120 : Nat) ({ cls := "LiquidChecker$Walk", name := "cameTo", desc := "(I)Z" } : Jvm.MethodName) "LiquidChecker") ∈ NXW := nx_at 522 (by decide +kernel) (by decide +kernel)
theorem nx576 : (Jvm.Cond.methodLinkNest "LiquidChecker" (142 : Nat) ({ cls := "LiquidChecker$Known", name := "forgetAll", desc := "()V" } : Jvm.MethodName) "LiquidChecker") ∈ NXW := nx_at 576 (by decide +kernel) (by decide +kernel)
theorem nx577 : (Jvm.Cond.methodLinkNest "LiquidChecker" (145 : Nat) ({ cls := "LiquidChecker$Relations", name := "learnedBy", desc := "(LLiquidChecker$Known;II)V" } : Jvm.MethodName) "LiquidChecker") ∈ NXW := nx_at 577 (by decide +kernel) (by decide +kernel)
theorem nx578 : (Jvm.Cond.methodLinkNest "LiquidChecker" (153 : Nat) ({ cls := "LiquidChecker$Relations", name := "shownBy", desc := "(LLiquidChecker$Known;II)Z" } : Jvm.MethodName) "LiquidChecker") ∈ NXW := nx_at 578 (by decide +kernel) (by decide +kernel)
theorem gsR_append : Cond.selects "LiquidChecker$Relations" (⟨"LiquidChecker$Relations", "append", "(III)I"⟩ : MethodName) (⟨"LiquidChecker$Relations", "append", "(III)I"⟩ : MethodName) ∈ GW := gw_sel (y := ⟨"LiquidChecker$Relations", "append", "(III)I"⟩) (n := 4) 1 (by decide +kernel) (by decide +kernel)
theorem gsF_hasGivenWhatIsUsed : Cond.selects "LiquidChecker$Function" (⟨"LiquidChecker$Function", "hasGivenWhatIsUsed", "(IIII)Z"⟩ : MethodName) (⟨"LiquidChecker$Function", "hasGivenWhatIsUsed", "(IIII)Z"⟩ : MethodName) ∈ GW := gw_sel (y := ⟨"LiquidChecker$Function", "hasGivenWhatIsUsed", "(IIII)Z"⟩) (n := 8) 2 (by decide +kernel) (by decide +kernel)
theorem gsF_hasGiven : Cond.selects "LiquidChecker$Function" (⟨"LiquidChecker$Function", "hasGiven", "(I)Z"⟩ : MethodName) (⟨"LiquidChecker$Function", "hasGiven", "(I)Z"⟩ : MethodName) ∈ GW := gw_sel (y := ⟨"LiquidChecker$Function", "hasGiven", "(I)Z"⟩) (n := 8) 3 (by decide +kernel) (by decide +kernel)
theorem gsF_isOpenFor : Cond.selects "LiquidChecker$Function" (⟨"LiquidChecker$Function", "isOpenFor", "(I)Z"⟩ : MethodName) (⟨"LiquidChecker$Function", "isOpenFor", "(I)Z"⟩ : MethodName) ∈ GW := gw_sel (y := ⟨"LiquidChecker$Function", "isOpenFor", "(I)Z"⟩) (n := 8) 4 (by decide +kernel) (by decide +kernel)
theorem gsF_hasRoomFor : Cond.selects "LiquidChecker$Function" (⟨"LiquidChecker$Function", "hasRoomFor", "(I)Z"⟩ : MethodName) (⟨"LiquidChecker$Function", "hasRoomFor", "(I)Z"⟩ : MethodName) ∈ GW := gw_sel (y := ⟨"LiquidChecker$Function", "hasRoomFor", "(I)Z"⟩) (n := 8) 5 (by decide +kernel) (by decide +kernel)
theorem gsF_append : Cond.selects "LiquidChecker$Function" (⟨"LiquidChecker$Function", "append", "(IIIII)I"⟩ : MethodName) (⟨"LiquidChecker$Function", "append", "(IIIII)I"⟩ : MethodName) ∈ GW := gw_sel (y := ⟨"LiquidChecker$Function", "append", "(IIIII)I"⟩) (n := 8) 6 (by decide +kernel) (by decide +kernel)
theorem gsS_write : Cond.selects "LiquidChecker$Statement" (⟨"LiquidChecker$Statement", "write", "(IIIII)V"⟩ : MethodName) (⟨"LiquidChecker$Statement", "write", "(IIIII)V"⟩ : MethodName) ∈ GW := gw_sel (y := ⟨"LiquidChecker$Statement", "write", "(IIIII)V"⟩) (n := 6) 7 (by decide +kernel) (by decide +kernel)
theorem gsF_openIf : Cond.selects "LiquidChecker$Function" (⟨"LiquidChecker$Function", "openIf", "(I)V"⟩ : MethodName) (⟨"LiquidChecker$Function", "openIf", "(I)V"⟩ : MethodName) ∈ GW := gw_sel (y := ⟨"LiquidChecker$Function", "openIf", "(I)V"⟩) (n := 8) 8 (by decide +kernel) (by decide +kernel)
theorem gsF_turnToElse : Cond.selects "LiquidChecker$Function" (⟨"LiquidChecker$Function", "turnToElse", "(I)V"⟩ : MethodName) (⟨"LiquidChecker$Function", "turnToElse", "(I)V"⟩ : MethodName) ∈ GW := gw_sel (y := ⟨"LiquidChecker$Function", "turnToElse", "(I)V"⟩) (n := 8) 9 (by decide +kernel) (by decide +kernel)
theorem gsF_closeIf : Cond.selects "LiquidChecker$Function" (⟨"LiquidChecker$Function", "closeIf", "(I)V"⟩ : MethodName) (⟨"LiquidChecker$Function", "closeIf", "(I)V"⟩ : MethodName) ∈ GW := gw_sel (y := ⟨"LiquidChecker$Function", "closeIf", "(I)V"⟩) (n := 8) 10 (by decide +kernel) (by decide +kernel)
theorem gsF_empty : Cond.selects "LiquidChecker$Function" (⟨"LiquidChecker$Function", "empty", "()V"⟩ : MethodName) (⟨"LiquidChecker$Function", "empty", "()V"⟩ : MethodName) ∈ GW := gw_sel (y := ⟨"LiquidChecker$Function", "empty", "()V"⟩) (n := 8) 11 (by decide +kernel) (by decide +kernel)
theorem gsW_through : Cond.selects "LiquidChecker$Walk" (⟨"LiquidChecker$Walk", "through", "([LLiquidChecker$Function;LLiquidChecker$Function;III)V"⟩ : MethodName) (⟨"LiquidChecker$Walk", "through", "([LLiquidChecker$Function;LLiquidChecker$Function;III)V"⟩ : MethodName) ∈ GW := gw_sel (y := ⟨"LiquidChecker$Walk", "through", "([LLiquidChecker$Function;LLiquidChecker$Function;III)V"⟩) (n := 11) 12 (by decide +kernel) (by decide +kernel)
theorem gsK_forgetAll : Cond.selects "LiquidChecker$Known" (⟨"LiquidChecker$Known", "forgetAll", "()V"⟩ : MethodName) (⟨"LiquidChecker$Known", "forgetAll", "()V"⟩ : MethodName) ∈ GW := gw_sel (y := ⟨"LiquidChecker$Known", "forgetAll", "()V"⟩) (n := 2) 13 (by decide +kernel) (by decide +kernel)
theorem gsR_learnedBy : Cond.selects "LiquidChecker$Relations" (⟨"LiquidChecker$Relations", "learnedBy", "(LLiquidChecker$Known;II)V"⟩ : MethodName) (⟨"LiquidChecker$Relations", "learnedBy", "(LLiquidChecker$Known;II)V"⟩ : MethodName) ∈ GW := gw_sel (y := ⟨"LiquidChecker$Relations", "learnedBy", "(LLiquidChecker$Known;II)V"⟩) (n := 4) 14 (by decide +kernel) (by decide +kernel)
theorem gsK_learn : Cond.selects "LiquidChecker$Known" (⟨"LiquidChecker$Known", "learn", "(III)V"⟩ : MethodName) (⟨"LiquidChecker$Known", "learn", "(III)V"⟩ : MethodName) ∈ GW := gw_sel (y := ⟨"LiquidChecker$Known", "learn", "(III)V"⟩) (n := 2) 15 (by decide +kernel) (by decide +kernel)
theorem gsW_followFrom : Cond.selects "LiquidChecker$Walk" (⟨"LiquidChecker$Walk", "followFrom", "(I[LLiquidChecker$Function;LLiquidChecker$Function;)V"⟩ : MethodName) (⟨"LiquidChecker$Walk", "followFrom", "(I[LLiquidChecker$Function;LLiquidChecker$Function;)V"⟩ : MethodName) ∈ GW := gw_sel (y := ⟨"LiquidChecker$Walk", "followFrom", "(I[LLiquidChecker$Function;LLiquidChecker$Function;)V"⟩) (n := 11) 16 (by decide +kernel) (by decide +kernel)
theorem gsW_comeTo : Cond.selects "LiquidChecker$Walk" (⟨"LiquidChecker$Walk", "comeTo", "(I)V"⟩ : MethodName) (⟨"LiquidChecker$Walk", "comeTo", "(I)V"⟩ : MethodName) ∈ GW := gw_sel (y := ⟨"LiquidChecker$Walk", "comeTo", "(I)V"⟩) (n := 11) 17 (by decide +kernel) (by decide +kernel)
theorem gsK_bound : Cond.selects "LiquidChecker$Known" (⟨"LiquidChecker$Known", "bound", "(II)I"⟩ : MethodName) (⟨"LiquidChecker$Known", "bound", "(II)I"⟩ : MethodName) ∈ GW := gw_sel (y := ⟨"LiquidChecker$Known", "bound", "(II)I"⟩) (n := 2) 18 (by decide +kernel) (by decide +kernel)
theorem gsW_endAt : Cond.selects "LiquidChecker$Walk" (⟨"LiquidChecker$Walk", "endAt", "(ILLiquidChecker$Function;II)V"⟩ : MethodName) (⟨"LiquidChecker$Walk", "endAt", "(ILLiquidChecker$Function;II)V"⟩ : MethodName) ∈ GW := gw_sel (y := ⟨"LiquidChecker$Walk", "endAt", "(ILLiquidChecker$Function;II)V"⟩) (n := 11) 19 (by decide +kernel) (by decide +kernel)
theorem gsK_give : Cond.selects "LiquidChecker$Known" (⟨"LiquidChecker$Known", "give", "(III)V"⟩ : MethodName) (⟨"LiquidChecker$Known", "give", "(III)V"⟩ : MethodName) ∈ GW := gw_sel (y := ⟨"LiquidChecker$Known", "give", "(III)V"⟩) (n := 2) 20 (by decide +kernel) (by decide +kernel)
theorem gsR_shownBy : Cond.selects "LiquidChecker$Relations" (⟨"LiquidChecker$Relations", "shownBy", "(LLiquidChecker$Known;II)Z"⟩ : MethodName) (⟨"LiquidChecker$Relations", "shownBy", "(LLiquidChecker$Known;II)Z"⟩ : MethodName) ∈ GW := gw_sel (y := ⟨"LiquidChecker$Relations", "shownBy", "(LLiquidChecker$Known;II)Z"⟩) (n := 4) 21 (by decide +kernel) (by decide +kernel)
theorem gsK_shows : Cond.selects "LiquidChecker$Known" (⟨"LiquidChecker$Known", "shows", "(III)Z"⟩ : MethodName) (⟨"LiquidChecker$Known", "shows", "(III)Z"⟩ : MethodName) ∈ GW := gw_sel (y := ⟨"LiquidChecker$Known", "shows", "(III)Z"⟩) (n := 2) 22 (by decide +kernel) (by decide +kernel)
theorem gsW_noteShown : Cond.selects "LiquidChecker$Walk" (⟨"LiquidChecker$Walk", "noteShown", "(IZ)V"⟩ : MethodName) (⟨"LiquidChecker$Walk", "noteShown", "(IZ)V"⟩ : MethodName) ∈ GW := gw_sel (y := ⟨"LiquidChecker$Walk", "noteShown", "(IZ)V"⟩) (n := 11) 23 (by decide +kernel) (by decide +kernel)
theorem gsW_pass : Cond.selects "LiquidChecker$Walk" (⟨"LiquidChecker$Walk", "pass", "(I[LLiquidChecker$Function;LLiquidChecker$Function;)I"⟩ : MethodName) (⟨"LiquidChecker$Walk", "pass", "(I[LLiquidChecker$Function;LLiquidChecker$Function;)I"⟩ : MethodName) ∈ GW := gw_sel (y := ⟨"LiquidChecker$Walk", "pass", "(I[LLiquidChecker$Function;LLiquidChecker$Function;)I"⟩) (n := 11) 24 (by decide +kernel) (by decide +kernel)
theorem gsW_passCall : Cond.selects "LiquidChecker$Walk" (⟨"LiquidChecker$Walk", "passCall", "(ILLiquidChecker$Statement;LLiquidChecker$Function;)V"⟩ : MethodName) (⟨"LiquidChecker$Walk", "passCall", "(ILLiquidChecker$Statement;LLiquidChecker$Function;)V"⟩ : MethodName) ∈ GW := gw_sel (y := ⟨"LiquidChecker$Walk", "passCall", "(ILLiquidChecker$Statement;LLiquidChecker$Function;)V"⟩) (n := 11) 25 (by decide +kernel) (by decide +kernel)
theorem gsK_forget : Cond.selects "LiquidChecker$Known" (⟨"LiquidChecker$Known", "forget", "(I)V"⟩ : MethodName) (⟨"LiquidChecker$Known", "forget", "(I)V"⟩ : MethodName) ∈ GW := gw_sel (y := ⟨"LiquidChecker$Known", "forget", "(I)V"⟩) (n := 2) 26 (by decide +kernel) (by decide +kernel)
theorem gsF_targetOf : Cond.selects "LiquidChecker$Function" (⟨"LiquidChecker$Function", "targetOf", "(LLiquidChecker$Statement;)I"⟩ : MethodName) (⟨"LiquidChecker$Function", "targetOf", "(LLiquidChecker$Statement;)I"⟩ : MethodName) ∈ GW := gw_sel (y := ⟨"LiquidChecker$Function", "targetOf", "(LLiquidChecker$Statement;)I"⟩) (n := 8) 27 (by decide +kernel) (by decide +kernel)
theorem gsW_leaveOtherSide : Cond.selects "LiquidChecker$Walk" (⟨"LiquidChecker$Walk", "leaveOtherSide", "(LLiquidChecker$Statement;I)V"⟩ : MethodName) (⟨"LiquidChecker$Walk", "leaveOtherSide", "(LLiquidChecker$Statement;I)V"⟩ : MethodName) ∈ GW := gw_sel (y := ⟨"LiquidChecker$Walk", "leaveOtherSide", "(LLiquidChecker$Statement;I)V"⟩) (n := 11) 28 (by decide +kernel) (by decide +kernel)
theorem gsK_copyFrom : Cond.selects "LiquidChecker$Known" (⟨"LiquidChecker$Known", "copyFrom", "(LLiquidChecker$Known;)V"⟩ : MethodName) (⟨"LiquidChecker$Known", "copyFrom", "(LLiquidChecker$Known;)V"⟩ : MethodName) ∈ GW := gw_sel (y := ⟨"LiquidChecker$Known", "copyFrom", "(LLiquidChecker$Known;)V"⟩) (n := 2) 29 (by decide +kernel) (by decide +kernel)
theorem gsW_takeWaitingSide : Cond.selects "LiquidChecker$Walk" (⟨"LiquidChecker$Walk", "takeWaitingSide", "()I"⟩ : MethodName) (⟨"LiquidChecker$Walk", "takeWaitingSide", "()I"⟩ : MethodName) ∈ GW := gw_sel (y := ⟨"LiquidChecker$Walk", "takeWaitingSide", "()I"⟩) (n := 11) 30 (by decide +kernel) (by decide +kernel)
theorem gsC_isPlace : Cond.selects "LiquidChecker" (⟨"LiquidChecker", "isPlace", "(II)Z"⟩ : MethodName) (⟨"LiquidChecker", "isPlace", "(II)Z"⟩ : MethodName) ∈ GW := gw_sel (y := ⟨"LiquidChecker", "isPlace", "(II)Z"⟩) (n := 3) 31 (by decide +kernel) (by decide +kernel)
theorem gsW_cameTo : Cond.selects "LiquidChecker$Walk" (⟨"LiquidChecker$Walk", "cameTo", "(I)Z"⟩ : MethodName) (⟨"LiquidChecker$Walk", "cameTo", "(I)Z"⟩ : MethodName) ∈ GW := gw_sel (y := ⟨"LiquidChecker$Walk", "cameTo", "(I)Z"⟩) (n := 11) 32 (by decide +kernel) (by decide +kernel)
theorem gsM_raise : Cond.selects "LiquidCheckerModel" (⟨"LiquidCheckerModel", "raise", "(I)I"⟩ : MethodName) (⟨"LiquidCheckerModel", "raise", "(I)I"⟩ : MethodName) ∈ GW := gw_sel (y := ⟨"LiquidCheckerModel", "raise", "(I)I"⟩) (n := 29) 33 (by decide +kernel) (by decide +kernel)
theorem gsM_stands : Cond.selects "LiquidCheckerModel" (⟨"LiquidCheckerModel", "stands", "(IIIII)Z"⟩ : MethodName) (⟨"LiquidCheckerModel", "stands", "(IIIII)Z"⟩ : MethodName) ∈ GW := gw_sel (y := ⟨"LiquidCheckerModel", "stands", "(IIIII)Z"⟩) (n := 29) 34 (by decide +kernel) (by decide +kernel)
theorem gsM_given : Cond.selects "LiquidCheckerModel" (⟨"LiquidCheckerModel", "given", "(II)Z"⟩ : MethodName) (⟨"LiquidCheckerModel", "given", "(II)Z"⟩ : MethodName) ∈ GW := gw_sel (y := ⟨"LiquidCheckerModel", "given", "(II)Z"⟩) (n := 29) 35 (by decide +kernel) (by decide +kernel)
theorem gsM_explore : Cond.selects "LiquidCheckerModel" (⟨"LiquidCheckerModel", "explore", "(I)V"⟩ : MethodName) (⟨"LiquidCheckerModel", "explore", "(I)V"⟩ : MethodName) ∈ GW := gw_sel (y := ⟨"LiquidCheckerModel", "explore", "(I)V"⟩) (n := 29) 36 (by decide +kernel) (by decide +kernel)
theorem gsM_walk : Cond.selects "LiquidCheckerModel" (⟨"LiquidCheckerModel", "walk", "(I)V"⟩ : MethodName) (⟨"LiquidCheckerModel", "walk", "(I)V"⟩ : MethodName) ∈ GW := gw_sel (y := ⟨"LiquidCheckerModel", "walk", "(I)V"⟩) (n := 29) 37 (by decide +kernel) (by decide +kernel)
theorem gsM_begin : Cond.selects "LiquidCheckerModel" (⟨"LiquidCheckerModel", "begin", "()V"⟩ : MethodName) (⟨"LiquidCheckerModel", "begin", "()V"⟩ : MethodName) ∈ GW := gw_sel (y := ⟨"LiquidCheckerModel", "begin", "()V"⟩) (n := 29) 38 (by decide +kernel) (by decide +kernel)
theorem gsM_knowAll : Cond.selects "LiquidCheckerModel" (⟨"LiquidCheckerModel", "knowAll", "(III)V"⟩ : MethodName) (⟨"LiquidCheckerModel", "knowAll", "(III)V"⟩ : MethodName) ∈ GW := gw_sel (y := ⟨"LiquidCheckerModel", "knowAll", "(III)V"⟩) (n := 29) 39 (by decide +kernel) (by decide +kernel)
theorem gsM_know : Cond.selects "LiquidCheckerModel" (⟨"LiquidCheckerModel", "know", "(IIJ)V"⟩ : MethodName) (⟨"LiquidCheckerModel", "know", "(IIJ)V"⟩ : MethodName) ∈ GW := gw_sel (y := ⟨"LiquidCheckerModel", "know", "(IIJ)V"⟩) (n := 29) 40 (by decide +kernel) (by decide +kernel)
theorem gsM_look : Cond.selects "LiquidCheckerModel" (⟨"LiquidCheckerModel", "look", "(I)V"⟩ : MethodName) (⟨"LiquidCheckerModel", "look", "(I)V"⟩ : MethodName) ∈ GW := gw_sel (y := ⟨"LiquidCheckerModel", "look", "(I)V"⟩) (n := 29) 41 (by decide +kernel) (by decide +kernel)
theorem gsM_returns : Cond.selects "LiquidCheckerModel" (⟨"LiquidCheckerModel", "returns", "(III)V"⟩ : MethodName) (⟨"LiquidCheckerModel", "returns", "(III)V"⟩ : MethodName) ∈ GW := gw_sel (y := ⟨"LiquidCheckerModel", "returns", "(III)V"⟩) (n := 29) 42 (by decide +kernel) (by decide +kernel)
theorem gsM_showsAll : Cond.selects "LiquidCheckerModel" (⟨"LiquidCheckerModel", "showsAll", "(III)Z"⟩ : MethodName) (⟨"LiquidCheckerModel", "showsAll", "(III)Z"⟩ : MethodName) ∈ GW := gw_sel (y := ⟨"LiquidCheckerModel", "showsAll", "(III)Z"⟩) (n := 29) 43 (by decide +kernel) (by decide +kernel)
theorem gsM_shows : Cond.selects "LiquidCheckerModel" (⟨"LiquidCheckerModel", "shows", "(IIJ)Z"⟩ : MethodName) (⟨"LiquidCheckerModel", "shows", "(IIJ)Z"⟩ : MethodName) ∈ GW := gw_sel (y := ⟨"LiquidCheckerModel", "shows", "(IIJ)Z"⟩) (n := 29) 44 (by decide +kernel) (by decide +kernel)
theorem gsM_blame : Cond.selects "LiquidCheckerModel" (⟨"LiquidCheckerModel", "blame", "(I)V"⟩ : MethodName) (⟨"LiquidCheckerModel", "blame", "(I)V"⟩ : MethodName) ∈ GW := gw_sel (y := ⟨"LiquidCheckerModel", "blame", "(I)V"⟩) (n := 29) 45 (by decide +kernel) (by decide +kernel)
theorem gsM_perform : Cond.selects "LiquidCheckerModel" (⟨"LiquidCheckerModel", "perform", "(II)I"⟩ : MethodName) (⟨"LiquidCheckerModel", "perform", "(II)I"⟩ : MethodName) ∈ GW := gw_sel (y := ⟨"LiquidCheckerModel", "perform", "(II)I"⟩) (n := 29) 46 (by decide +kernel) (by decide +kernel)
theorem gsM_rename : Cond.selects "LiquidCheckerModel" (⟨"LiquidCheckerModel", "rename", "(I)V"⟩ : MethodName) (⟨"LiquidCheckerModel", "rename", "(I)V"⟩ : MethodName) ∈ GW := gw_sel (y := ⟨"LiquidCheckerModel", "rename", "(I)V"⟩) (n := 29) 47 (by decide +kernel) (by decide +kernel)
theorem gsM_forget : Cond.selects "LiquidCheckerModel" (⟨"LiquidCheckerModel", "forget", "(I)V"⟩ : MethodName) (⟨"LiquidCheckerModel", "forget", "(I)V"⟩ : MethodName) ∈ GW := gw_sel (y := ⟨"LiquidCheckerModel", "forget", "(I)V"⟩) (n := 29) 48 (by decide +kernel) (by decide +kernel)
theorem gsM_call : Cond.selects "LiquidCheckerModel" (⟨"LiquidCheckerModel", "call", "(II)V"⟩ : MethodName) (⟨"LiquidCheckerModel", "call", "(II)V"⟩ : MethodName) ∈ GW := gw_sel (y := ⟨"LiquidCheckerModel", "call", "(II)V"⟩) (n := 29) 49 (by decide +kernel) (by decide +kernel)
theorem gsM_noPlace : Cond.selects "LiquidCheckerModel" (⟨"LiquidCheckerModel", "noPlace", "(II)Z"⟩ : MethodName) (⟨"LiquidCheckerModel", "noPlace", "(II)Z"⟩ : MethodName) ∈ GW := gw_sel (y := ⟨"LiquidCheckerModel", "noPlace", "(II)Z"⟩) (n := 29) 50 (by decide +kernel) (by decide +kernel)
theorem gsC_refine : (Jvm.Cond.selects "LiquidChecker" ({ cls := "LiquidChecker", name := "refine", desc := "(IIIII)I" } : Jvm.MethodName) ({ cls := "LiquidChecker", name := "refine", desc := "(IIIII)I" } : Jvm.MethodName)) ∈ GW := gw200
theorem gsC_statement : (Jvm.Cond.selects "LiquidChecker" ({ cls := "LiquidChecker", name := "statement", desc := "(IIIIII)I" } : Jvm.MethodName) ({ cls := "LiquidChecker", name := "statement", desc := "(IIIIII)I" } : Jvm.MethodName)) ∈ GW := gw308
theorem gsC_clear : (Jvm.Cond.selects "LiquidChecker" ({ cls := "LiquidChecker", name := "clear", desc := "(I)I" } : Jvm.MethodName) ({ cls := "LiquidChecker", name := "clear", desc := "(I)I" } : Jvm.MethodName)) ∈ GW := gw394
theorem gsC_check : (Jvm.Cond.selects "LiquidChecker" ({ cls := "LiquidChecker", name := "check", desc := "(I)I" } : Jvm.MethodName) ({ cls := "LiquidChecker", name := "check", desc := "(I)I" } : Jvm.MethodName)) ∈ GW := gw406
theorem gsC_ways : (Jvm.Cond.selects "LiquidChecker" ({ cls := "LiquidChecker", name := "ways", desc := "(I)I" } : Jvm.MethodName) ({ cls := "LiquidChecker", name := "ways", desc := "(I)I" } : Jvm.MethodName)) ∈ GW := gw508
theorem gsC_comes : (Jvm.Cond.selects "LiquidChecker" ({ cls := "LiquidChecker", name := "comes", desc := "(II)I" } : Jvm.MethodName) ({ cls := "LiquidChecker", name := "comes", desc := "(II)I" } : Jvm.MethodName)) ∈ GW := gw515
theorem gsC_most : (Jvm.Cond.selects "LiquidChecker" ({ cls := "LiquidChecker", name := "most", desc := "(IIII)I" } : Jvm.MethodName) ({ cls := "LiquidChecker", name := "most", desc := "(IIII)I" } : Jvm.MethodName)) ∈ GW := gw533
theorem gsC_follows : (Jvm.Cond.selects "LiquidChecker" ({ cls := "LiquidChecker", name := "follows", desc := "(II)I" } : Jvm.MethodName) ({ cls := "LiquidChecker", name := "follows", desc := "(II)I" } : Jvm.MethodName)) ∈ GW := gw574
theorem gsC_count : (Jvm.Cond.selects "LiquidChecker" ({ cls := "LiquidChecker", name := "count", desc := "(II)I" } : Jvm.MethodName) ({ cls := "LiquidChecker", name := "count", desc := "(II)I" } : Jvm.MethodName)) ∈ GW := gw584
theorem gsM_thrown : (Jvm.Cond.selects "LiquidCheckerModel" ({ cls := "LiquidCheckerModel", name := "thrown", desc := "()I" } : Jvm.MethodName) ({ cls := "LiquidCheckerModel", name := "thrown", desc := "()I" } : Jvm.MethodName)) ∈ GW := gw685
theorem gsM_refine : (Jvm.Cond.selects "LiquidCheckerModel" ({ cls := "LiquidCheckerModel", name := "refine", desc := "(IIIII)I" } : Jvm.MethodName) ({ cls := "LiquidCheckerModel", name := "refine", desc := "(IIIII)I" } : Jvm.MethodName)) ∈ GW := gw689
theorem gsM_statement : (Jvm.Cond.selects "LiquidCheckerModel" ({ cls := "LiquidCheckerModel", name := "statement", desc := "(IIIIII)I" } : Jvm.MethodName) ({ cls := "LiquidCheckerModel", name := "statement", desc := "(IIIIII)I" } : Jvm.MethodName)) ∈ GW := gw703
theorem gsM_clear : (Jvm.Cond.selects "LiquidCheckerModel" ({ cls := "LiquidCheckerModel", name := "clear", desc := "(I)I" } : Jvm.MethodName) ({ cls := "LiquidCheckerModel", name := "clear", desc := "(I)I" } : Jvm.MethodName)) ∈ GW := gw721
theorem gsM_check : (Jvm.Cond.selects "LiquidCheckerModel" ({ cls := "LiquidCheckerModel", name := "check", desc := "(I)I" } : Jvm.MethodName) ({ cls := "LiquidCheckerModel", name := "check", desc := "(I)I" } : Jvm.MethodName)) ∈ GW := gw725
theorem gsM_ways : (Jvm.Cond.selects "LiquidCheckerModel" ({ cls := "LiquidCheckerModel", name := "ways", desc := "(I)I" } : Jvm.MethodName) ({ cls := "LiquidCheckerModel", name := "ways", desc := "(I)I" } : Jvm.MethodName)) ∈ GW := gw789
theorem gsM_comes : (Jvm.Cond.selects "LiquidCheckerModel" ({ cls := "LiquidCheckerModel", name := "comes", desc := "(II)I" } : Jvm.MethodName) ({ cls := "LiquidCheckerModel", name := "comes", desc := "(II)I" } : Jvm.MethodName)) ∈ GW := gw793
theorem gsM_most : (Jvm.Cond.selects "LiquidCheckerModel" ({ cls := "LiquidCheckerModel", name := "most", desc := "(IIII)I" } : Jvm.MethodName) ({ cls := "LiquidCheckerModel", name := "most", desc := "(IIII)I" } : Jvm.MethodName)) ∈ GW := gw801
theorem gsM_follows : (Jvm.Cond.selects "LiquidCheckerModel" ({ cls := "LiquidCheckerModel", name := "follows", desc := "(II)I" } : Jvm.MethodName) ({ cls := "LiquidCheckerModel", name := "follows", desc := "(II)I" } : Jvm.MethodName)) ∈ GW := gw805
theorem gsM_count : (Jvm.Cond.selects "LiquidCheckerModel" ({ cls := "LiquidCheckerModel", name := "count", desc := "(II)I" } : Jvm.MethodName) ({ cls := "LiquidCheckerModel", name := "count", desc := "(II)I" } : Jvm.MethodName)) ∈ GW := gw809
abbrev cC_init : ByteArray := prog_1_method_1_code
abbrev yC_init : MethodName := ⟨"LiquidChecker", "<init>", "()V"⟩
abbrev wC_init : List Cond := Cond.code yC_init cC_init 2 none :: GW
abbrev cW_init : ByteArray := prog_6_method_1_code
abbrev yW_init : MethodName := ⟨"LiquidChecker$Walk", "<init>", "()V"⟩
abbrev wW_init : List Cond := Cond.code yW_init cW_init 2 none :: GW
abbrev cK_init : ByteArray := prog_3_method_1_code
abbrev yK_init : MethodName := ⟨"LiquidChecker$Known", "<init>", "()V"⟩
abbrev wK_init : List Cond := Cond.code yK_init cK_init 1 none :: GW
abbrev cF_init : ByteArray := prog_2_method_1_code
abbrev yF_init : MethodName := ⟨"LiquidChecker$Function", "<init>", "()V"⟩
abbrev wF_init : List Cond := Cond.code yF_init cF_init 2 none :: GW
abbrev cR_init : ByteArray := prog_4_method_1_code
abbrev yR_init : MethodName := ⟨"LiquidChecker$Relations", "<init>", "()V"⟩
abbrev wR_init : List Cond := Cond.code yR_init cR_init 1 none :: GW
abbrev cS_init : ByteArray := prog_5_method_1_code
abbrev yS_init : MethodName := ⟨"LiquidChecker$Statement", "<init>", "()V"⟩
abbrev wS_init : List Cond := Cond.code yS_init cS_init 1 none :: GW
abbrev cL_refine : ByteArray := method_3_code
abbrev yL_refine : MethodName := ⟨"LiquidCheckerLaw", "refine", "(LLiquidChecker;IIIII[J)I"⟩
abbrev cC_refine : ByteArray := prog_1_method_2_code
abbrev yC_refine : MethodName := ⟨"LiquidChecker", "refine", "(IIIII)I"⟩
abbrev wC_refine : List Cond := Cond.code yC_refine cC_refine 8 (some .int) :: GW
abbrev cC_isFunction : ByteArray := prog_1_method_13_code
abbrev yC_isFunction : MethodName := ⟨"LiquidChecker", "isFunction", "(I)Z"⟩
abbrev wC_isFunction : List Cond := Cond.code yC_isFunction cC_isFunction 1 (some .boolean) :: GW
abbrev cC_isWithin : ByteArray := prog_1_method_12_code
abbrev yC_isWithin : MethodName := ⟨"LiquidChecker", "isWithin", "(III)Z"⟩
abbrev wC_isWithin : List Cond := Cond.code yC_isWithin cC_isWithin 3 (some .boolean) :: GW
abbrev cC_isDifference : ByteArray := prog_1_method_14_code
abbrev yC_isDifference : MethodName := ⟨"LiquidChecker", "isDifference", "(I)Z"⟩
abbrev wC_isDifference : List Cond := Cond.code yC_isDifference cC_isDifference 1 (some .boolean) :: GW
abbrev cR_append : ByteArray := prog_4_method_2_code
abbrev yR_append : MethodName := ⟨"LiquidChecker$Relations", "append", "(III)I"⟩
abbrev wR_append : List Cond := Cond.code yR_append cR_append 4 (some .int) :: GW
abbrev cL_statement : ByteArray := method_4_code
abbrev yL_statement : MethodName := ⟨"LiquidCheckerLaw", "statement", "(LLiquidChecker;IIIIII[J)I"⟩
abbrev cC_statement : ByteArray := prog_1_method_3_code
abbrev yC_statement : MethodName := ⟨"LiquidChecker", "statement", "(IIIIII)I"⟩
abbrev wC_statement : List Cond := Cond.code yC_statement cC_statement 8 (some .int) :: GW
abbrev cC_isStatement : ByteArray := prog_1_method_21_code
abbrev yC_isStatement : MethodName := ⟨"LiquidChecker", "isStatement", "(IIIII)Z"⟩
abbrev wC_isStatement : List Cond := Cond.code yC_isStatement cC_isStatement 5 (some .boolean) :: GW
abbrev cC_givesA : ByteArray := prog_1_method_17_code
abbrev yC_givesA : MethodName := ⟨"LiquidChecker", "givesA", "(I)Z"⟩
abbrev wC_givesA : List Cond := Cond.code yC_givesA cC_givesA 1 (some .boolean) :: GW
abbrev cC_isGivable : ByteArray := prog_1_method_15_code
abbrev yC_isGivable : MethodName := ⟨"LiquidChecker", "isGivable", "(I)Z"⟩
abbrev wC_isGivable : List Cond := Cond.code yC_isGivable cC_isGivable 1 (some .boolean) :: GW
abbrev cC_usesA : ByteArray := prog_1_method_18_code
abbrev yC_usesA : MethodName := ⟨"LiquidChecker", "usesA", "(I)Z"⟩
abbrev wC_usesA : List Cond := Cond.code yC_usesA cC_usesA 1 (some .boolean) :: GW
abbrev cC_isUsable : ByteArray := prog_1_method_16_code
abbrev yC_isUsable : MethodName := ⟨"LiquidChecker", "isUsable", "(I)Z"⟩
abbrev wC_isUsable : List Cond := Cond.code yC_isUsable cC_isUsable 1 (some .boolean) :: GW
abbrev cC_usesB : ByteArray := prog_1_method_19_code
abbrev yC_usesB : MethodName := ⟨"LiquidChecker", "usesB", "(I)Z"⟩
abbrev wC_usesB : List Cond := Cond.code yC_usesB cC_usesB 1 (some .boolean) :: GW
abbrev cC_usesC : ByteArray := prog_1_method_20_code
abbrev yC_usesC : MethodName := ⟨"LiquidChecker", "usesC", "(I)Z"⟩
abbrev wC_usesC : List Cond := Cond.code yC_usesC cC_usesC 1 (some .boolean) :: GW
abbrev cF_hasGivenWhatIsUsed : ByteArray := prog_2_method_3_code
abbrev yF_hasGivenWhatIsUsed : MethodName := ⟨"LiquidChecker$Function", "hasGivenWhatIsUsed", "(IIII)Z"⟩
abbrev wF_hasGivenWhatIsUsed : List Cond := Cond.code yF_hasGivenWhatIsUsed cF_hasGivenWhatIsUsed 5 (some .boolean) :: GW
abbrev cF_hasGiven : ByteArray := prog_2_method_4_code
abbrev yF_hasGiven : MethodName := ⟨"LiquidChecker$Function", "hasGiven", "(I)Z"⟩
abbrev wF_hasGiven : List Cond := Cond.code yF_hasGiven cF_hasGiven 2 (some .boolean) :: GW
abbrev cF_isOpenFor : ByteArray := prog_2_method_5_code
abbrev yF_isOpenFor : MethodName := ⟨"LiquidChecker$Function", "isOpenFor", "(I)Z"⟩
abbrev wF_isOpenFor : List Cond := Cond.code yF_isOpenFor cF_isOpenFor 2 (some .boolean) :: GW
abbrev cF_hasRoomFor : ByteArray := prog_2_method_6_code
abbrev yF_hasRoomFor : MethodName := ⟨"LiquidChecker$Function", "hasRoomFor", "(I)Z"⟩
abbrev wF_hasRoomFor : List Cond := Cond.code yF_hasRoomFor cF_hasRoomFor 2 (some .boolean) :: GW
abbrev cF_append : ByteArray := prog_2_method_7_code
abbrev yF_append : MethodName := ⟨"LiquidChecker$Function", "append", "(IIIII)I"⟩
abbrev wF_append : List Cond := Cond.code yF_append cF_append 7 (some .int) :: GW
abbrev cS_write : ByteArray := prog_5_method_2_code
abbrev yS_write : MethodName := ⟨"LiquidChecker$Statement", "write", "(IIIII)V"⟩
abbrev wS_write : List Cond := Cond.code yS_write cS_write 6 none :: GW
abbrev cF_openIf : ByteArray := prog_2_method_8_code
abbrev yF_openIf : MethodName := ⟨"LiquidChecker$Function", "openIf", "(I)V"⟩
abbrev wF_openIf : List Cond := Cond.code yF_openIf cF_openIf 2 none :: GW
abbrev cF_turnToElse : ByteArray := prog_2_method_9_code
abbrev yF_turnToElse : MethodName := ⟨"LiquidChecker$Function", "turnToElse", "(I)V"⟩
abbrev wF_turnToElse : List Cond := Cond.code yF_turnToElse cF_turnToElse 2 none :: GW
abbrev cF_closeIf : ByteArray := prog_2_method_10_code
abbrev yF_closeIf : MethodName := ⟨"LiquidChecker$Function", "closeIf", "(I)V"⟩
abbrev wF_closeIf : List Cond := Cond.code yF_closeIf cF_closeIf 2 none :: GW
abbrev cL_clear : ByteArray := method_5_code
abbrev yL_clear : MethodName := ⟨"LiquidCheckerLaw", "clear", "(LLiquidChecker;I[J)I"⟩
abbrev cC_clear : ByteArray := prog_1_method_4_code
abbrev yC_clear : MethodName := ⟨"LiquidChecker", "clear", "(I)I"⟩
abbrev wC_clear : List Cond := Cond.code yC_clear cC_clear 3 (some .int) :: GW
abbrev cF_empty : ByteArray := prog_2_method_2_code
abbrev yF_empty : MethodName := ⟨"LiquidChecker$Function", "empty", "()V"⟩
abbrev wF_empty : List Cond := Cond.code yF_empty cF_empty 1 none :: GW
abbrev cL_check : ByteArray := method_6_code
abbrev yL_check : MethodName := ⟨"LiquidCheckerLaw", "check", "(LLiquidChecker;I[J)I"⟩
abbrev cC_check : ByteArray := prog_1_method_5_code
abbrev yC_check : MethodName := ⟨"LiquidChecker", "check", "(I)I"⟩
abbrev wC_check : List Cond := Cond.code yC_check cC_check 2 (some .int) :: GW
abbrev cW_through : ByteArray := prog_6_method_3_code
abbrev yW_through : MethodName := ⟨"LiquidChecker$Walk", "through", "([LLiquidChecker$Function;LLiquidChecker$Function;III)V"⟩
abbrev wW_through : List Cond := Cond.code yW_through cW_through 8 none :: GW
abbrev cK_forgetAll : ByteArray := prog_3_method_2_code
abbrev yK_forgetAll : MethodName := ⟨"LiquidChecker$Known", "forgetAll", "()V"⟩
abbrev wK_forgetAll : List Cond := Cond.code yK_forgetAll cK_forgetAll 2 none :: GW
abbrev cA_fill : ByteArray := prog_19_method_103_code
abbrev yA_fill : MethodName := ⟨"java/util/Arrays", "fill", "([II)V"⟩
abbrev wA_fill : List Cond := Cond.code yA_fill cA_fill 4 none :: GW
abbrev cR_learnedBy : ByteArray := prog_4_method_3_code
abbrev yR_learnedBy : MethodName := ⟨"LiquidChecker$Relations", "learnedBy", "(LLiquidChecker$Known;II)V"⟩
abbrev wR_learnedBy : List Cond := Cond.code yR_learnedBy cR_learnedBy 5 none :: GW
abbrev cR_nameFor : ByteArray := prog_4_method_5_code
abbrev yR_nameFor : MethodName := ⟨"LiquidChecker$Relations", "nameFor", "(III)I"⟩
abbrev wR_nameFor : List Cond := Cond.code yR_nameFor cR_nameFor 3 (some .int) :: GW
abbrev cK_learn : ByteArray := prog_3_method_6_code
abbrev yK_learn : MethodName := ⟨"LiquidChecker$Known", "learn", "(III)V"⟩
abbrev wK_learn : List Cond := Cond.code yK_learn cK_learn 9 none :: GW
abbrev cW_followFrom : ByteArray := prog_6_method_5_code
abbrev yW_followFrom : MethodName := ⟨"LiquidChecker$Walk", "followFrom", "(I[LLiquidChecker$Function;LLiquidChecker$Function;)V"⟩
abbrev wW_followFrom : List Cond := Cond.code yW_followFrom cW_followFrom 6 none :: GW
abbrev cW_comeTo : ByteArray := prog_6_method_6_code
abbrev yW_comeTo : MethodName := ⟨"LiquidChecker$Walk", "comeTo", "(I)V"⟩
abbrev wW_comeTo : List Cond := Cond.code yW_comeTo cW_comeTo 2 none :: GW
abbrev cK_bound : ByteArray := prog_3_method_4_code
abbrev yK_bound : MethodName := ⟨"LiquidChecker$Known", "bound", "(II)I"⟩
abbrev wK_bound : List Cond := Cond.code yK_bound cK_bound 3 (some .int) :: GW
abbrev cW_endAt : ByteArray := prog_6_method_10_code
abbrev yW_endAt : MethodName := ⟨"LiquidChecker$Walk", "endAt", "(ILLiquidChecker$Function;II)V"⟩
abbrev wW_endAt : List Cond := Cond.code yW_endAt cW_endAt 5 none :: GW
abbrev cK_give : ByteArray := prog_3_method_7_code
abbrev yK_give : MethodName := ⟨"LiquidChecker$Known", "give", "(III)V"⟩
abbrev wK_give : List Cond := Cond.code yK_give cK_give 5 none :: GW
abbrev cK_moved : ByteArray := prog_3_method_8_code
abbrev yK_moved : MethodName := ⟨"LiquidChecker$Known", "moved", "(II)I"⟩
abbrev wK_moved : List Cond := Cond.code yK_moved cK_moved 2 (some .int) :: GW
abbrev cR_shownBy : ByteArray := prog_4_method_4_code
abbrev yR_shownBy : MethodName := ⟨"LiquidChecker$Relations", "shownBy", "(LLiquidChecker$Known;II)Z"⟩
abbrev wR_shownBy : List Cond := Cond.code yR_shownBy cR_shownBy 5 (some .boolean) :: GW
abbrev cK_shows : ByteArray := prog_3_method_5_code
abbrev yK_shows : MethodName := ⟨"LiquidChecker$Known", "shows", "(III)Z"⟩
abbrev wK_shows : List Cond := Cond.code yK_shows cK_shows 4 (some .boolean) :: GW
abbrev cW_noteShown : ByteArray := prog_6_method_11_code
abbrev yW_noteShown : MethodName := ⟨"LiquidChecker$Walk", "noteShown", "(IZ)V"⟩
abbrev wW_noteShown : List Cond := Cond.code yW_noteShown cW_noteShown 3 none :: GW
abbrev cW_pass : ByteArray := prog_6_method_7_code
abbrev yW_pass : MethodName := ⟨"LiquidChecker$Walk", "pass", "(I[LLiquidChecker$Function;LLiquidChecker$Function;)I"⟩
abbrev wW_pass : List Cond := Cond.code yW_pass cW_pass 6 (some .int) :: GW
abbrev cW_passCall : ByteArray := prog_6_method_8_code
abbrev yW_passCall : MethodName := ⟨"LiquidChecker$Walk", "passCall", "(ILLiquidChecker$Statement;LLiquidChecker$Function;)V"⟩
abbrev wW_passCall : List Cond := Cond.code yW_passCall cW_passCall 4 none :: GW
abbrev cK_forget : ByteArray := prog_3_method_9_code
abbrev yK_forget : MethodName := ⟨"LiquidChecker$Known", "forget", "(I)V"⟩
abbrev wK_forget : List Cond := Cond.code yK_forget cK_forget 3 none :: GW
abbrev cF_targetOf : ByteArray := prog_2_method_11_code
abbrev yF_targetOf : MethodName := ⟨"LiquidChecker$Function", "targetOf", "(LLiquidChecker$Statement;)I"⟩
abbrev wF_targetOf : List Cond := Cond.code yF_targetOf cF_targetOf 2 (some .int) :: GW
abbrev cW_leaveOtherSide : ByteArray := prog_6_method_9_code
abbrev yW_leaveOtherSide : MethodName := ⟨"LiquidChecker$Walk", "leaveOtherSide", "(LLiquidChecker$Statement;I)V"⟩
abbrev wW_leaveOtherSide : List Cond := Cond.code yW_leaveOtherSide cW_leaveOtherSide 4 none :: GW
abbrev cK_copyFrom : ByteArray := prog_3_method_3_code
abbrev yK_copyFrom : MethodName := ⟨"LiquidChecker$Known", "copyFrom", "(LLiquidChecker$Known;)V"⟩
abbrev wK_copyFrom : List Cond := Cond.code yK_copyFrom cK_copyFrom 2 none :: GW
abbrev cW_takeWaitingSide : ByteArray := prog_6_method_4_code
abbrev yW_takeWaitingSide : MethodName := ⟨"LiquidChecker$Walk", "takeWaitingSide", "()I"⟩
abbrev wW_takeWaitingSide : List Cond := Cond.code yW_takeWaitingSide cW_takeWaitingSide 1 (some .int) :: GW
abbrev cL_ways : ByteArray := method_7_code
abbrev yL_ways : MethodName := ⟨"LiquidCheckerLaw", "ways", "(LLiquidChecker;I[J)I"⟩
abbrev cC_ways : ByteArray := prog_1_method_6_code
abbrev yC_ways : MethodName := ⟨"LiquidChecker", "ways", "(I)I"⟩
abbrev wC_ways : List Cond := Cond.code yC_ways cC_ways 2 (some .int) :: GW
abbrev cL_comes : ByteArray := method_8_code
abbrev yL_comes : MethodName := ⟨"LiquidCheckerLaw", "comes", "(LLiquidChecker;II[J)I"⟩
abbrev cC_comes : ByteArray := prog_1_method_7_code
abbrev yC_comes : MethodName := ⟨"LiquidChecker", "comes", "(II)I"⟩
abbrev wC_comes : List Cond := Cond.code yC_comes cC_comes 3 (some .int) :: GW
abbrev cC_isPlace : ByteArray := prog_1_method_11_code
abbrev yC_isPlace : MethodName := ⟨"LiquidChecker", "isPlace", "(II)Z"⟩
abbrev wC_isPlace : List Cond := Cond.code yC_isPlace cC_isPlace 3 (some .boolean) :: GW
abbrev cW_cameTo : ByteArray := prog_6_method_2_code
abbrev yW_cameTo : MethodName := ⟨"LiquidChecker$Walk", "cameTo", "(I)Z"⟩
abbrev wW_cameTo : List Cond := Cond.code yW_cameTo cW_cameTo 2 (some .boolean) :: GW
abbrev cL_most : ByteArray := method_9_code
abbrev yL_most : MethodName := ⟨"LiquidCheckerLaw", "most", "(LLiquidChecker;IIII[J)I"⟩
abbrev cC_most : ByteArray := prog_1_method_8_code
abbrev yC_most : MethodName := ⟨"LiquidChecker", "most", "(IIII)I"⟩
abbrev wC_most : List Cond := Cond.code yC_most cC_most 5 (some .int) :: GW
abbrev cL_follows : ByteArray := method_10_code
abbrev yL_follows : MethodName := ⟨"LiquidCheckerLaw", "follows", "(LLiquidChecker;II[J)I"⟩
abbrev cC_follows : ByteArray := prog_1_method_9_code
abbrev yC_follows : MethodName := ⟨"LiquidChecker", "follows", "(II)I"⟩
abbrev wC_follows : List Cond := Cond.code yC_follows cC_follows 4 (some .int) :: GW
abbrev cL_count : ByteArray := method_11_code
abbrev yL_count : MethodName := ⟨"LiquidCheckerLaw", "count", "(LLiquidChecker;II[J)I"⟩
abbrev cC_count : ByteArray := prog_1_method_10_code
abbrev yC_count : MethodName := ⟨"LiquidChecker", "count", "(II)I"⟩
abbrev wC_count : List Cond := Cond.code yC_count cC_count 4 (some .int) :: GW
abbrev cM_init : ByteArray := prog_8_method_1_code
abbrev yM_init : MethodName := ⟨"LiquidCheckerModel", "<init>", "()V"⟩
abbrev wM_init : List Cond := Cond.code yM_init cM_init 1 none :: GW
abbrev cM_thrown : ByteArray := prog_8_method_2_code
abbrev yM_thrown : MethodName := ⟨"LiquidCheckerModel", "thrown", "()I"⟩
abbrev wM_thrown : List Cond := Cond.code yM_thrown cM_thrown 1 (some .int) :: GW
abbrev cM_refine : ByteArray := prog_8_method_6_code
abbrev yM_refine : MethodName := ⟨"LiquidCheckerModel", "refine", "(IIIII)I"⟩
abbrev wM_refine : List Cond := Cond.code yM_refine cM_refine 8 (some .int) :: GW
abbrev cM_noFunction : ByteArray := prog_8_method_5_code
abbrev yM_noFunction : MethodName := ⟨"LiquidCheckerModel", "noFunction", "(I)Z"⟩
abbrev wM_noFunction : List Cond := Cond.code yM_noFunction cM_noFunction 1 (some .boolean) :: GW
abbrev cM_in : ByteArray := prog_8_method_4_code
abbrev yM_in : MethodName := ⟨"LiquidCheckerModel", "in", "(III)Z"⟩
abbrev wM_in : List Cond := Cond.code yM_in cM_in 3 (some .boolean) :: GW
abbrev cM_raise : ByteArray := prog_8_method_3_code
abbrev yM_raise : MethodName := ⟨"LiquidCheckerModel", "raise", "(I)I"⟩
abbrev wM_raise : List Cond := Cond.code yM_raise cM_raise 2 (some .int) :: GW
abbrev cM_statement : ByteArray := prog_8_method_11_code
abbrev yM_statement : MethodName := ⟨"LiquidCheckerModel", "statement", "(IIIIII)I"⟩
abbrev wM_statement : List Cond := Cond.code yM_statement cM_statement 9 (some .int) :: GW
abbrev cM_fits : ByteArray := prog_8_method_8_code
abbrev yM_fits : MethodName := ⟨"LiquidCheckerModel", "fits", "(IIIII)Z"⟩
abbrev wM_fits : List Cond := Cond.code yM_fits cM_fits 7 (some .boolean) :: GW
abbrev cM_name : ByteArray := prog_8_method_7_code
abbrev yM_name : MethodName := ⟨"LiquidCheckerModel", "name", "(I)Z"⟩
abbrev wM_name : List Cond := Cond.code yM_name cM_name 1 (some .boolean) :: GW
abbrev cM_stands : ByteArray := prog_8_method_10_code
abbrev yM_stands : MethodName := ⟨"LiquidCheckerModel", "stands", "(IIIII)Z"⟩
abbrev wM_stands : List Cond := Cond.code yM_stands cM_stands 7 (some .boolean) :: GW
abbrev cM_given : ByteArray := prog_8_method_9_code
abbrev yM_given : MethodName := ⟨"LiquidCheckerModel", "given", "(II)Z"⟩
abbrev wM_given : List Cond := Cond.code yM_given cM_given 4 (some .boolean) :: GW
abbrev cM_clear : ByteArray := prog_8_method_12_code
abbrev yM_clear : MethodName := ⟨"LiquidCheckerModel", "clear", "(I)I"⟩
abbrev wM_clear : List Cond := Cond.code yM_clear cM_clear 3 (some .int) :: GW
abbrev cM_check : ByteArray := prog_8_method_29_code
abbrev yM_check : MethodName := ⟨"LiquidCheckerModel", "check", "(I)I"⟩
abbrev wM_check : List Cond := Cond.code yM_check cM_check 2 (some .int) :: GW
abbrev cM_explore : ByteArray := prog_8_method_27_code
abbrev yM_explore : MethodName := ⟨"LiquidCheckerModel", "explore", "(I)V"⟩
abbrev wM_explore : List Cond := Cond.code yM_explore cM_explore 3 none :: GW
abbrev cM_walk : ByteArray := prog_8_method_26_code
abbrev yM_walk : MethodName := ⟨"LiquidCheckerModel", "walk", "(I)V"⟩
abbrev wM_walk : List Cond := Cond.code yM_walk cM_walk 6 none :: GW
abbrev cM_begin : ByteArray := prog_8_method_13_code
abbrev yM_begin : MethodName := ⟨"LiquidCheckerModel", "begin", "()V"⟩
abbrev wM_begin : List Cond := Cond.code yM_begin cM_begin 3 none :: GW
abbrev cM_knowAll : ByteArray := prog_8_method_19_code
abbrev yM_knowAll : MethodName := ⟨"LiquidCheckerModel", "knowAll", "(III)V"⟩
abbrev wM_knowAll : List Cond := Cond.code yM_knowAll cM_knowAll 5 none :: GW
abbrev cM_stand : ByteArray := prog_8_method_18_code
abbrev yM_stand : MethodName := ⟨"LiquidCheckerModel", "stand", "(III)I"⟩
abbrev wM_stand : List Cond := Cond.code yM_stand cM_stand 3 (some .int) :: GW
abbrev cM_know : ByteArray := prog_8_method_14_code
abbrev yM_know : MethodName := ⟨"LiquidCheckerModel", "know", "(IIJ)V"⟩
abbrev wM_know : List Cond := Cond.code yM_know cM_know 9 none :: GW
abbrev cM_look : ByteArray := prog_8_method_25_code
abbrev yM_look : MethodName := ⟨"LiquidCheckerModel", "look", "(I)V"⟩
abbrev wM_look : List Cond := Cond.code yM_look cM_look 4 none :: GW
abbrev cM_returns : ByteArray := prog_8_method_22_code
abbrev yM_returns : MethodName := ⟨"LiquidCheckerModel", "returns", "(III)V"⟩
abbrev wM_returns : List Cond := Cond.code yM_returns cM_returns 4 none :: GW
abbrev cM_showsAll : ByteArray := prog_8_method_20_code
abbrev yM_showsAll : MethodName := ⟨"LiquidCheckerModel", "showsAll", "(III)Z"⟩
abbrev wM_showsAll : List Cond := Cond.code yM_showsAll cM_showsAll 5 (some .boolean) :: GW
abbrev cM_shows : ByteArray := prog_8_method_15_code
abbrev yM_shows : MethodName := ⟨"LiquidCheckerModel", "shows", "(IIJ)Z"⟩
abbrev wM_shows : List Cond := Cond.code yM_shows cM_shows 5 (some .boolean) :: GW
abbrev cM_blame : ByteArray := prog_8_method_21_code
abbrev yM_blame : MethodName := ⟨"LiquidCheckerModel", "blame", "(I)V"⟩
abbrev wM_blame : List Cond := Cond.code yM_blame cM_blame 2 none :: GW
abbrev cM_perform : ByteArray := prog_8_method_24_code
abbrev yM_perform : MethodName := ⟨"LiquidCheckerModel", "perform", "(II)I"⟩
abbrev wM_perform : List Cond := Cond.code yM_perform cM_perform 8 (some .int) :: GW
abbrev cM_rename : ByteArray := prog_8_method_17_code
abbrev yM_rename : MethodName := ⟨"LiquidCheckerModel", "rename", "(I)V"⟩
abbrev wM_rename : List Cond := Cond.code yM_rename cM_rename 3 none :: GW
abbrev cM_forget : ByteArray := prog_8_method_16_code
abbrev yM_forget : MethodName := ⟨"LiquidCheckerModel", "forget", "(I)V"⟩
abbrev wM_forget : List Cond := Cond.code yM_forget cM_forget 3 none :: GW
abbrev cM_call : ByteArray := prog_8_method_23_code
abbrev yM_call : MethodName := ⟨"LiquidCheckerModel", "call", "(II)V"⟩
abbrev wM_call : List Cond := Cond.code yM_call cM_call 3 none :: GW
abbrev cM_ways : ByteArray := prog_8_method_30_code
abbrev yM_ways : MethodName := ⟨"LiquidCheckerModel", "ways", "(I)I"⟩
abbrev wM_ways : List Cond := Cond.code yM_ways cM_ways 2 (some .int) :: GW
abbrev cM_comes : ByteArray := prog_8_method_31_code
abbrev yM_comes : MethodName := ⟨"LiquidCheckerModel", "comes", "(II)I"⟩
abbrev wM_comes : List Cond := Cond.code yM_comes cM_comes 3 (some .int) :: GW
abbrev cM_noPlace : ByteArray := prog_8_method_28_code
abbrev yM_noPlace : MethodName := ⟨"LiquidCheckerModel", "noPlace", "(II)Z"⟩
abbrev wM_noPlace : List Cond := Cond.code yM_noPlace cM_noPlace 3 (some .boolean) :: GW
abbrev cM_most : ByteArray := prog_8_method_32_code
abbrev yM_most : MethodName := ⟨"LiquidCheckerModel", "most", "(IIII)I"⟩
abbrev wM_most : List Cond := Cond.code yM_most cM_most 5 (some .int) :: GW
abbrev cM_follows : ByteArray := prog_8_method_33_code
abbrev yM_follows : MethodName := ⟨"LiquidCheckerModel", "follows", "(II)I"⟩
abbrev wM_follows : List Cond := Cond.code yM_follows cM_follows 3 (some .int) :: GW
abbrev cM_count : ByteArray := prog_8_method_34_code
abbrev yM_count : MethodName := ⟨"LiquidCheckerModel", "count", "(II)I"⟩
abbrev wM_count : List Cond := Cond.code yM_count cM_count 3 (some .int) :: GW
end
section
theorem dK_init_0 : decode cK_init 0 = .ok (.aload_n 0, 1) := by decide +kernel
theorem dK_init_1 : decode cK_init 1 = .ok (.invokespecial 5, 3) := by decide +kernel
theorem dK_init_4 : decode cK_init 4 = .ok (.aload_n 0, 1) := by decide +kernel
theorem dK_init_5 : decode cK_init 5 = .ok (.sipush 144, 3) := by decide +kernel
theorem dK_init_8 : decode cK_init 8 = .ok (.newarray .int, 2) := by decide +kernel
theorem dK_init_10 : decode cK_init 10 = .ok (.putfield 11, 3) := by decide +kernel
theorem dK_init_13 : decode cK_init 13 = .ok (.return_, 1) := by decide +kernel
theorem dR_init_0 : decode cR_init 0 = .ok (.aload_n 0, 1) := by decide +kernel
theorem dR_init_1 : decode cR_init 1 = .ok (.invokespecial 3, 3) := by decide +kernel
theorem dR_init_4 : decode cR_init 4 = .ok (.aload_n 0, 1) := by decide +kernel
theorem dR_init_5 : decode cR_init 5 = .ok (.iconst 4, 1) := by decide +kernel
theorem dR_init_6 : decode cR_init 6 = .ok (.newarray .int, 2) := by decide +kernel
theorem dR_init_8 : decode cR_init 8 = .ok (.putfield 9, 3) := by decide +kernel
theorem dR_init_11 : decode cR_init 11 = .ok (.aload_n 0, 1) := by decide +kernel
theorem dR_init_12 : decode cR_init 12 = .ok (.iconst 4, 1) := by decide +kernel
theorem dR_init_13 : decode cR_init 13 = .ok (.newarray .int, 2) := by decide +kernel
theorem dR_init_15 : decode cR_init 15 = .ok (.putfield 15, 3) := by decide +kernel
theorem dR_init_18 : decode cR_init 18 = .ok (.aload_n 0, 1) := by decide +kernel
theorem dR_init_19 : decode cR_init 19 = .ok (.iconst 4, 1) := by decide +kernel
theorem dR_init_20 : decode cR_init 20 = .ok (.newarray .int, 2) := by decide +kernel
theorem dR_init_22 : decode cR_init 22 = .ok (.putfield 18, 3) := by decide +kernel
theorem dR_init_25 : decode cR_init 25 = .ok (.return_, 1) := by decide +kernel
theorem dS_init_0 : decode cS_init 0 = .ok (.aload_n 0, 1) := by decide +kernel
theorem dS_init_1 : decode cS_init 1 = .ok (.invokespecial 3, 3) := by decide +kernel
theorem dS_init_4 : decode cS_init 4 = .ok (.return_, 1) := by decide +kernel
theorem dR_append_0 : decode cR_append 0 = .ok (.aload_n 0, 1) := by decide +kernel
theorem dR_append_1 : decode cR_append 1 = .ok (.getfield 9, 3) := by decide +kernel
theorem dR_append_4 : decode cR_append 4 = .ok (.aload_n 0, 1) := by decide +kernel
theorem dR_append_5 : decode cR_append 5 = .ok (.getfield 21, 3) := by decide +kernel
theorem dR_append_8 : decode cR_append 8 = .ok (.iload_n 1, 1) := by decide +kernel
theorem dR_append_9 : decode cR_append 9 = .ok (.iastore, 1) := by decide +kernel
theorem dR_append_10 : decode cR_append 10 = .ok (.aload_n 0, 1) := by decide +kernel
theorem dR_append_11 : decode cR_append 11 = .ok (.getfield 15, 3) := by decide +kernel
theorem dR_append_14 : decode cR_append 14 = .ok (.aload_n 0, 1) := by decide +kernel
theorem dR_append_15 : decode cR_append 15 = .ok (.getfield 21, 3) := by decide +kernel
theorem dR_append_18 : decode cR_append 18 = .ok (.iload_n 2, 1) := by decide +kernel
theorem dR_append_19 : decode cR_append 19 = .ok (.iastore, 1) := by decide +kernel
theorem dR_append_20 : decode cR_append 20 = .ok (.aload_n 0, 1) := by decide +kernel
theorem dR_append_21 : decode cR_append 21 = .ok (.getfield 18, 3) := by decide +kernel
theorem dR_append_24 : decode cR_append 24 = .ok (.aload_n 0, 1) := by decide +kernel
theorem dR_append_25 : decode cR_append 25 = .ok (.getfield 21, 3) := by decide +kernel
theorem dR_append_28 : decode cR_append 28 = .ok (.iload_n 3, 1) := by decide +kernel
theorem dR_append_29 : decode cR_append 29 = .ok (.iastore, 1) := by decide +kernel
theorem dR_append_30 : decode cR_append 30 = .ok (.aload_n 0, 1) := by decide +kernel
theorem dR_append_31 : decode cR_append 31 = .ok (.dup, 1) := by decide +kernel
theorem dR_append_32 : decode cR_append 32 = .ok (.getfield 21, 3) := by decide +kernel
theorem dR_append_35 : decode cR_append 35 = .ok (.iconst 1, 1) := by decide +kernel
theorem dR_append_36 : decode cR_append 36 = .ok (.iadd, 1) := by decide +kernel
theorem dR_append_37 : decode cR_append 37 = .ok (.putfield 21, 3) := by decide +kernel
theorem dR_append_40 : decode cR_append 40 = .ok (.aload_n 0, 1) := by decide +kernel
theorem dR_append_41 : decode cR_append 41 = .ok (.getfield 21, 3) := by decide +kernel
theorem dR_append_44 : decode cR_append 44 = .ok (.ireturn, 1) := by decide +kernel
theorem dS_write_0 : decode cS_write 0 = .ok (.aload_n 0, 1) := by decide +kernel
theorem dS_write_1 : decode cS_write 1 = .ok (.iload_n 1, 1) := by decide +kernel
theorem dS_write_2 : decode cS_write 2 = .ok (.putfield 9, 3) := by decide +kernel
theorem dS_write_5 : decode cS_write 5 = .ok (.aload_n 0, 1) := by decide +kernel
theorem dS_write_6 : decode cS_write 6 = .ok (.iload_n 2, 1) := by decide +kernel
theorem dS_write_7 : decode cS_write 7 = .ok (.putfield 15, 3) := by decide +kernel
theorem dS_write_10 : decode cS_write 10 = .ok (.aload_n 0, 1) := by decide +kernel
theorem dS_write_11 : decode cS_write 11 = .ok (.iload_n 3, 1) := by decide +kernel
theorem dS_write_12 : decode cS_write 12 = .ok (.putfield 18, 3) := by decide +kernel
theorem dS_write_15 : decode cS_write 15 = .ok (.aload_n 0, 1) := by decide +kernel
theorem dS_write_16 : decode cS_write 16 = .ok (.iload 4, 2) := by decide +kernel
theorem dS_write_18 : decode cS_write 18 = .ok (.putfield 21, 3) := by decide +kernel
theorem dS_write_21 : decode cS_write 21 = .ok (.aload_n 0, 1) := by decide +kernel
theorem dS_write_22 : decode cS_write 22 = .ok (.iload 5, 2) := by decide +kernel
theorem dS_write_24 : decode cS_write 24 = .ok (.putfield 24, 3) := by decide +kernel
theorem dS_write_27 : decode cS_write 27 = .ok (.aload_n 0, 1) := by decide +kernel
theorem dS_write_28 : decode cS_write 28 = .ok (.iconst (-1), 1) := by decide +kernel
theorem dS_write_29 : decode cS_write 29 = .ok (.putfield 27, 3) := by decide +kernel
theorem dS_write_32 : decode cS_write 32 = .ok (.return_, 1) := by decide +kernel
theorem dK_forgetAll_0 : decode cK_forgetAll 0 = .ok (.aload_n 0, 1) := by decide +kernel
theorem dK_forgetAll_1 : decode cK_forgetAll 1 = .ok (.getfield 11, 3) := by decide +kernel
theorem dK_forgetAll_4 : decode cK_forgetAll 4 = .ok (.ldc 17, 2) := by decide +kernel
theorem dK_forgetAll_6 : decode cK_forgetAll 6 = .ok (.invokestatic 18, 3) := by decide +kernel
theorem dK_forgetAll_9 : decode cK_forgetAll 9 = .ok (.iconst 0, 1) := by decide +kernel
theorem dK_forgetAll_10 : decode cK_forgetAll 10 = .ok (.istore_n 1, 1) := by decide +kernel
theorem dK_forgetAll_11 : decode cK_forgetAll 11 = .ok (.iload_n 1, 1) := by decide +kernel
theorem dK_forgetAll_12 : decode cK_forgetAll 12 = .ok (.bipush 12, 2) := by decide +kernel
theorem dK_forgetAll_14 : decode cK_forgetAll 14 = .ok (.if_icmp .ge 21, 3) := by decide +kernel
theorem dK_forgetAll_17 : decode cK_forgetAll 17 = .ok (.aload_n 0, 1) := by decide +kernel
theorem dK_forgetAll_18 : decode cK_forgetAll 18 = .ok (.getfield 11, 3) := by decide +kernel
theorem dK_forgetAll_21 : decode cK_forgetAll 21 = .ok (.iload_n 1, 1) := by decide +kernel
theorem dK_forgetAll_22 : decode cK_forgetAll 22 = .ok (.bipush 12, 2) := by decide +kernel
theorem dK_forgetAll_24 : decode cK_forgetAll 24 = .ok (.imul, 1) := by decide +kernel
theorem dK_forgetAll_25 : decode cK_forgetAll 25 = .ok (.iload_n 1, 1) := by decide +kernel
theorem dK_forgetAll_26 : decode cK_forgetAll 26 = .ok (.iadd, 1) := by decide +kernel
theorem dK_forgetAll_27 : decode cK_forgetAll 27 = .ok (.iconst 0, 1) := by decide +kernel
theorem dK_forgetAll_28 : decode cK_forgetAll 28 = .ok (.iastore, 1) := by decide +kernel
theorem dK_forgetAll_29 : decode cK_forgetAll 29 = .ok (.iinc 1 1, 3) := by decide +kernel
theorem dK_forgetAll_32 : decode cK_forgetAll 32 = .ok (.goto (-21), 3) := by decide +kernel
theorem dK_forgetAll_35 : decode cK_forgetAll 35 = .ok (.aload_n 0, 1) := by decide +kernel
theorem dK_forgetAll_36 : decode cK_forgetAll 36 = .ok (.iconst 1, 1) := by decide +kernel
theorem dK_forgetAll_37 : decode cK_forgetAll 37 = .ok (.putfield 24, 3) := by decide +kernel
theorem dK_forgetAll_40 : decode cK_forgetAll 40 = .ok (.return_, 1) := by decide +kernel
theorem dR_learnedBy_0 : decode cR_learnedBy 0 = .ok (.iconst 0, 1) := by decide +kernel
theorem dR_learnedBy_1 : decode cR_learnedBy 1 = .ok (.istore 4, 2) := by decide +kernel
theorem dR_learnedBy_3 : decode cR_learnedBy 3 = .ok (.iload 4, 2) := by decide +kernel
theorem dR_learnedBy_5 : decode cR_learnedBy 5 = .ok (.aload_n 0, 1) := by decide +kernel
theorem dR_learnedBy_6 : decode cR_learnedBy 6 = .ok (.getfield 21, 3) := by decide +kernel
theorem dR_learnedBy_9 : decode cR_learnedBy 9 = .ok (.if_icmp .ge 44, 3) := by decide +kernel
theorem dR_learnedBy_12 : decode cR_learnedBy 12 = .ok (.aload_n 1, 1) := by decide +kernel
theorem dR_learnedBy_13 : decode cR_learnedBy 13 = .ok (.aload_n 0, 1) := by decide +kernel
theorem dR_learnedBy_14 : decode cR_learnedBy 14 = .ok (.getfield 9, 3) := by decide +kernel
theorem dR_learnedBy_17 : decode cR_learnedBy 17 = .ok (.iload 4, 2) := by decide +kernel
theorem dR_learnedBy_19 : decode cR_learnedBy 19 = .ok (.iaload, 1) := by decide +kernel
theorem dR_learnedBy_20 : decode cR_learnedBy 20 = .ok (.iload_n 2, 1) := by decide +kernel
theorem dR_learnedBy_21 : decode cR_learnedBy 21 = .ok (.iload_n 3, 1) := by decide +kernel
theorem dR_learnedBy_22 : decode cR_learnedBy 22 = .ok (.invokestatic 25, 3) := by decide +kernel
theorem dR_learnedBy_25 : decode cR_learnedBy 25 = .ok (.aload_n 0, 1) := by decide +kernel
theorem dR_learnedBy_26 : decode cR_learnedBy 26 = .ok (.getfield 15, 3) := by decide +kernel
theorem dR_learnedBy_29 : decode cR_learnedBy 29 = .ok (.iload 4, 2) := by decide +kernel
theorem dR_learnedBy_31 : decode cR_learnedBy 31 = .ok (.iaload, 1) := by decide +kernel
theorem dR_learnedBy_32 : decode cR_learnedBy 32 = .ok (.iload_n 2, 1) := by decide +kernel
theorem dR_learnedBy_33 : decode cR_learnedBy 33 = .ok (.iload_n 3, 1) := by decide +kernel
theorem dR_learnedBy_34 : decode cR_learnedBy 34 = .ok (.invokestatic 25, 3) := by decide +kernel
theorem dR_learnedBy_37 : decode cR_learnedBy 37 = .ok (.aload_n 0, 1) := by decide +kernel
theorem dR_learnedBy_38 : decode cR_learnedBy 38 = .ok (.getfield 18, 3) := by decide +kernel
theorem dR_learnedBy_41 : decode cR_learnedBy 41 = .ok (.iload 4, 2) := by decide +kernel
theorem dR_learnedBy_43 : decode cR_learnedBy 43 = .ok (.iaload, 1) := by decide +kernel
theorem dR_learnedBy_44 : decode cR_learnedBy 44 = .ok (.invokevirtual 29, 3) := by decide +kernel
theorem dR_learnedBy_47 : decode cR_learnedBy 47 = .ok (.iinc 4 1, 3) := by decide +kernel
theorem dR_learnedBy_50 : decode cR_learnedBy 50 = .ok (.goto (-47), 3) := by decide +kernel
theorem dR_learnedBy_53 : decode cR_learnedBy 53 = .ok (.return_, 1) := by decide +kernel
theorem dR_nameFor_0 : decode cR_nameFor 0 = .ok (.iload_n 0, 1) := by decide +kernel
theorem dR_nameFor_1 : decode cR_nameFor 1 = .ok (.iconst 1, 1) := by decide +kernel
theorem dR_nameFor_2 : decode cR_nameFor 2 = .ok (.if_icmp .ne 5, 3) := by decide +kernel
theorem dR_nameFor_5 : decode cR_nameFor 5 = .ok (.iload_n 1, 1) := by decide +kernel
theorem dR_nameFor_6 : decode cR_nameFor 6 = .ok (.ireturn, 1) := by decide +kernel
theorem dR_nameFor_7 : decode cR_nameFor 7 = .ok (.iload_n 0, 1) := by decide +kernel
theorem dR_nameFor_8 : decode cR_nameFor 8 = .ok (.iconst 2, 1) := by decide +kernel
theorem dR_nameFor_9 : decode cR_nameFor 9 = .ok (.if_icmp .ne 7, 3) := by decide +kernel
theorem dR_nameFor_12 : decode cR_nameFor 12 = .ok (.iload_n 2, 1) := by decide +kernel
theorem dR_nameFor_13 : decode cR_nameFor 13 = .ok (.goto 4, 3) := by decide +kernel
theorem dR_nameFor_16 : decode cR_nameFor 16 = .ok (.iload_n 0, 1) := by decide +kernel
theorem dR_nameFor_17 : decode cR_nameFor 17 = .ok (.ireturn, 1) := by decide +kernel
theorem dK_learn_0 : decode cK_learn 0 = .ok (.aload_n 0, 1) := by decide +kernel
theorem dK_learn_1 : decode cK_learn 1 = .ok (.getfield 24, 3) := by decide +kernel
theorem dK_learn_4 : decode cK_learn 4 = .ok (.ifCond .eq 18, 3) := by decide +kernel
theorem dK_learn_7 : decode cK_learn 7 = .ok (.aload_n 0, 1) := by decide +kernel
theorem dK_learn_8 : decode cK_learn 8 = .ok (.getfield 11, 3) := by decide +kernel
theorem dK_learn_11 : decode cK_learn 11 = .ok (.iload_n 1, 1) := by decide +kernel
theorem dK_learn_12 : decode cK_learn 12 = .ok (.bipush 12, 2) := by decide +kernel
theorem dK_learn_14 : decode cK_learn 14 = .ok (.imul, 1) := by decide +kernel
theorem dK_learn_15 : decode cK_learn 15 = .ok (.iload_n 2, 1) := by decide +kernel
theorem dK_learn_16 : decode cK_learn 16 = .ok (.iadd, 1) := by decide +kernel
theorem dK_learn_17 : decode cK_learn 17 = .ok (.iaload, 1) := by decide +kernel
theorem dK_learn_18 : decode cK_learn 18 = .ok (.iload_n 3, 1) := by decide +kernel
theorem dK_learn_19 : decode cK_learn 19 = .ok (.if_icmp .gt 4, 3) := by decide +kernel
theorem dK_learn_22 : decode cK_learn 22 = .ok (.return_, 1) := by decide +kernel
theorem dK_learn_23 : decode cK_learn 23 = .ok (.aload_n 0, 1) := by decide +kernel
theorem dK_learn_24 : decode cK_learn 24 = .ok (.getfield 11, 3) := by decide +kernel
theorem dK_learn_27 : decode cK_learn 27 = .ok (.iload_n 2, 1) := by decide +kernel
theorem dK_learn_28 : decode cK_learn 28 = .ok (.bipush 12, 2) := by decide +kernel
theorem dK_learn_30 : decode cK_learn 30 = .ok (.imul, 1) := by decide +kernel
theorem dK_learn_31 : decode cK_learn 31 = .ok (.iload_n 1, 1) := by decide +kernel
theorem dK_learn_32 : decode cK_learn 32 = .ok (.iadd, 1) := by decide +kernel
theorem dK_learn_33 : decode cK_learn 33 = .ok (.iaload, 1) := by decide +kernel
theorem dK_learn_34 : decode cK_learn 34 = .ok (.istore 4, 2) := by decide +kernel
theorem dK_learn_36 : decode cK_learn 36 = .ok (.iload 4, 2) := by decide +kernel
theorem dK_learn_38 : decode cK_learn 38 = .ok (.ldc 17, 2) := by decide +kernel
theorem dK_learn_40 : decode cK_learn 40 = .ok (.if_icmp .eq 16, 3) := by decide +kernel
theorem dK_learn_43 : decode cK_learn 43 = .ok (.iload 4, 2) := by decide +kernel
theorem dK_learn_45 : decode cK_learn 45 = .ok (.iload_n 3, 1) := by decide +kernel
theorem dK_learn_46 : decode cK_learn 46 = .ok (.iadd, 1) := by decide +kernel
theorem dK_learn_47 : decode cK_learn 47 = .ok (.ifCond .ge 9, 3) := by decide +kernel
theorem dK_learn_50 : decode cK_learn 50 = .ok (.aload_n 0, 1) := by decide +kernel
theorem dK_learn_51 : decode cK_learn 51 = .ok (.iconst 0, 1) := by decide +kernel
theorem dK_learn_52 : decode cK_learn 52 = .ok (.putfield 24, 3) := by decide +kernel
theorem dK_learn_55 : decode cK_learn 55 = .ok (.return_, 1) := by decide +kernel
theorem dK_learn_56 : decode cK_learn 56 = .ok (.iconst 0, 1) := by decide +kernel
theorem dK_learn_57 : decode cK_learn 57 = .ok (.istore 5, 2) := by decide +kernel
theorem dK_learn_59 : decode cK_learn 59 = .ok (.iload 5, 2) := by decide +kernel
theorem dK_learn_61 : decode cK_learn 61 = .ok (.bipush 12, 2) := by decide +kernel
theorem dK_learn_63 : decode cK_learn 63 = .ok (.if_icmp .ge 110, 3) := by decide +kernel
theorem dK_learn_66 : decode cK_learn 66 = .ok (.aload_n 0, 1) := by decide +kernel
theorem dK_learn_67 : decode cK_learn 67 = .ok (.getfield 11, 3) := by decide +kernel
theorem dK_learn_70 : decode cK_learn 70 = .ok (.iload 5, 2) := by decide +kernel
theorem dK_learn_72 : decode cK_learn 72 = .ok (.bipush 12, 2) := by decide +kernel
theorem dK_learn_74 : decode cK_learn 74 = .ok (.imul, 1) := by decide +kernel
theorem dK_learn_75 : decode cK_learn 75 = .ok (.iload_n 1, 1) := by decide +kernel
theorem dK_learn_76 : decode cK_learn 76 = .ok (.iadd, 1) := by decide +kernel
theorem dK_learn_77 : decode cK_learn 77 = .ok (.iaload, 1) := by decide +kernel
theorem dK_learn_78 : decode cK_learn 78 = .ok (.istore 6, 2) := by decide +kernel
theorem dK_learn_80 : decode cK_learn 80 = .ok (.iconst 0, 1) := by decide +kernel
theorem dK_learn_81 : decode cK_learn 81 = .ok (.istore 7, 2) := by decide +kernel
theorem dK_learn_83 : decode cK_learn 83 = .ok (.iload 7, 2) := by decide +kernel
theorem dK_learn_85 : decode cK_learn 85 = .ok (.bipush 12, 2) := by decide +kernel
theorem dK_learn_87 : decode cK_learn 87 = .ok (.if_icmp .ge 80, 3) := by decide +kernel
theorem dK_learn_90 : decode cK_learn 90 = .ok (.iload 6, 2) := by decide +kernel
theorem dK_learn_92 : decode cK_learn 92 = .ok (.ldc 17, 2) := by decide +kernel
theorem dK_learn_94 : decode cK_learn 94 = .ok (.if_icmp .eq 73, 3) := by decide +kernel
theorem dK_learn_97 : decode cK_learn 97 = .ok (.aload_n 0, 1) := by decide +kernel
theorem dK_learn_98 : decode cK_learn 98 = .ok (.getfield 11, 3) := by decide +kernel
theorem dK_learn_101 : decode cK_learn 101 = .ok (.iload_n 2, 1) := by decide +kernel
theorem dK_learn_102 : decode cK_learn 102 = .ok (.bipush 12, 2) := by decide +kernel
theorem dK_learn_104 : decode cK_learn 104 = .ok (.imul, 1) := by decide +kernel
theorem dK_learn_105 : decode cK_learn 105 = .ok (.iload 7, 2) := by decide +kernel
theorem dK_learn_107 : decode cK_learn 107 = .ok (.iadd, 1) := by decide +kernel
theorem dK_learn_108 : decode cK_learn 108 = .ok (.iaload, 1) := by decide +kernel
theorem dK_learn_109 : decode cK_learn 109 = .ok (.istore 8, 2) := by decide +kernel
theorem dK_learn_111 : decode cK_learn 111 = .ok (.iload 8, 2) := by decide +kernel
theorem dK_learn_113 : decode cK_learn 113 = .ok (.ldc 17, 2) := by decide +kernel
theorem dK_learn_115 : decode cK_learn 115 = .ok (.if_icmp .eq 46, 3) := by decide +kernel
theorem dK_learn_118 : decode cK_learn 118 = .ok (.iload 6, 2) := by decide +kernel
theorem dK_learn_120 : decode cK_learn 120 = .ok (.iload_n 3, 1) := by decide +kernel
theorem dK_learn_121 : decode cK_learn 121 = .ok (.iadd, 1) := by decide +kernel
theorem dK_learn_122 : decode cK_learn 122 = .ok (.iload 8, 2) := by decide +kernel
theorem dK_learn_124 : decode cK_learn 124 = .ok (.iadd, 1) := by decide +kernel
theorem dK_learn_125 : decode cK_learn 125 = .ok (.aload_n 0, 1) := by decide +kernel
theorem dK_learn_126 : decode cK_learn 126 = .ok (.getfield 11, 3) := by decide +kernel
theorem dK_learn_129 : decode cK_learn 129 = .ok (.iload 5, 2) := by decide +kernel
theorem dK_learn_131 : decode cK_learn 131 = .ok (.bipush 12, 2) := by decide +kernel
theorem dK_learn_133 : decode cK_learn 133 = .ok (.imul, 1) := by decide +kernel
theorem dK_learn_134 : decode cK_learn 134 = .ok (.iload 7, 2) := by decide +kernel
theorem dK_learn_136 : decode cK_learn 136 = .ok (.iadd, 1) := by decide +kernel
theorem dK_learn_137 : decode cK_learn 137 = .ok (.iaload, 1) := by decide +kernel
theorem dK_learn_138 : decode cK_learn 138 = .ok (.if_icmp .ge 23, 3) := by decide +kernel
theorem dK_learn_141 : decode cK_learn 141 = .ok (.aload_n 0, 1) := by decide +kernel
theorem dK_learn_142 : decode cK_learn 142 = .ok (.getfield 11, 3) := by decide +kernel
theorem dK_learn_145 : decode cK_learn 145 = .ok (.iload 5, 2) := by decide +kernel
theorem dK_learn_147 : decode cK_learn 147 = .ok (.bipush 12, 2) := by decide +kernel
theorem dK_learn_149 : decode cK_learn 149 = .ok (.imul, 1) := by decide +kernel
theorem dK_learn_150 : decode cK_learn 150 = .ok (.iload 7, 2) := by decide +kernel
theorem dK_learn_152 : decode cK_learn 152 = .ok (.iadd, 1) := by decide +kernel
theorem dK_learn_153 : decode cK_learn 153 = .ok (.iload 6, 2) := by decide +kernel
theorem dK_learn_155 : decode cK_learn 155 = .ok (.iload_n 3, 1) := by decide +kernel
theorem dK_learn_156 : decode cK_learn 156 = .ok (.iadd, 1) := by decide +kernel
theorem dK_learn_157 : decode cK_learn 157 = .ok (.iload 8, 2) := by decide +kernel
theorem dK_learn_159 : decode cK_learn 159 = .ok (.iadd, 1) := by decide +kernel
theorem dK_learn_160 : decode cK_learn 160 = .ok (.iastore, 1) := by decide +kernel
theorem dK_learn_161 : decode cK_learn 161 = .ok (.iinc 7 1, 3) := by decide +kernel
theorem dK_learn_164 : decode cK_learn 164 = .ok (.goto (-81), 3) := by decide +kernel
theorem dK_learn_167 : decode cK_learn 167 = .ok (.iinc 5 1, 3) := by decide +kernel
theorem dK_learn_170 : decode cK_learn 170 = .ok (.goto (-111), 3) := by decide +kernel
theorem dK_learn_173 : decode cK_learn 173 = .ok (.return_, 1) := by decide +kernel
theorem dK_bound_0 : decode cK_bound 0 = .ok (.aload_n 0, 1) := by decide +kernel
theorem dK_bound_1 : decode cK_bound 1 = .ok (.getfield 11, 3) := by decide +kernel
theorem dK_bound_4 : decode cK_bound 4 = .ok (.iload_n 1, 1) := by decide +kernel
theorem dK_bound_5 : decode cK_bound 5 = .ok (.bipush 12, 2) := by decide +kernel
theorem dK_bound_7 : decode cK_bound 7 = .ok (.imul, 1) := by decide +kernel
theorem dK_bound_8 : decode cK_bound 8 = .ok (.iload_n 2, 1) := by decide +kernel
theorem dK_bound_9 : decode cK_bound 9 = .ok (.iadd, 1) := by decide +kernel
theorem dK_bound_10 : decode cK_bound 10 = .ok (.iaload, 1) := by decide +kernel
theorem dK_bound_11 : decode cK_bound 11 = .ok (.ireturn, 1) := by decide +kernel
theorem dK_give_0 : decode cK_give 0 = .ok (.iconst 0, 1) := by decide +kernel
theorem dK_give_1 : decode cK_give 1 = .ok (.istore 4, 2) := by decide +kernel
theorem dK_give_3 : decode cK_give 3 = .ok (.iload 4, 2) := by decide +kernel
theorem dK_give_5 : decode cK_give 5 = .ok (.bipush 12, 2) := by decide +kernel
theorem dK_give_7 : decode cK_give 7 = .ok (.if_icmp .ge 72, 3) := by decide +kernel
theorem dK_give_10 : decode cK_give 10 = .ok (.iload 4, 2) := by decide +kernel
theorem dK_give_12 : decode cK_give 12 = .ok (.iload_n 1, 1) := by decide +kernel
theorem dK_give_13 : decode cK_give 13 = .ok (.if_icmp .eq 60, 3) := by decide +kernel
theorem dK_give_16 : decode cK_give 16 = .ok (.aload_n 0, 1) := by decide +kernel
theorem dK_give_17 : decode cK_give 17 = .ok (.getfield 11, 3) := by decide +kernel
theorem dK_give_20 : decode cK_give 20 = .ok (.iload_n 1, 1) := by decide +kernel
theorem dK_give_21 : decode cK_give 21 = .ok (.bipush 12, 2) := by decide +kernel
theorem dK_give_23 : decode cK_give 23 = .ok (.imul, 1) := by decide +kernel
theorem dK_give_24 : decode cK_give 24 = .ok (.iload 4, 2) := by decide +kernel
theorem dK_give_26 : decode cK_give 26 = .ok (.iadd, 1) := by decide +kernel
theorem dK_give_27 : decode cK_give 27 = .ok (.aload_n 0, 1) := by decide +kernel
theorem dK_give_28 : decode cK_give 28 = .ok (.getfield 11, 3) := by decide +kernel
theorem dK_give_31 : decode cK_give 31 = .ok (.iload_n 2, 1) := by decide +kernel
theorem dK_give_32 : decode cK_give 32 = .ok (.bipush 12, 2) := by decide +kernel
theorem dK_give_34 : decode cK_give 34 = .ok (.imul, 1) := by decide +kernel
theorem dK_give_35 : decode cK_give 35 = .ok (.iload 4, 2) := by decide +kernel
theorem dK_give_37 : decode cK_give 37 = .ok (.iadd, 1) := by decide +kernel
theorem dK_give_38 : decode cK_give 38 = .ok (.iaload, 1) := by decide +kernel
theorem dK_give_39 : decode cK_give 39 = .ok (.iload_n 3, 1) := by decide +kernel
theorem dK_give_40 : decode cK_give 40 = .ok (.invokestatic 34, 3) := by decide +kernel
theorem dK_give_43 : decode cK_give 43 = .ok (.iastore, 1) := by decide +kernel
theorem dK_give_44 : decode cK_give 44 = .ok (.aload_n 0, 1) := by decide +kernel
theorem dK_give_45 : decode cK_give 45 = .ok (.getfield 11, 3) := by decide +kernel
theorem dK_give_48 : decode cK_give 48 = .ok (.iload 4, 2) := by decide +kernel
theorem dK_give_50 : decode cK_give 50 = .ok (.bipush 12, 2) := by decide +kernel
theorem dK_give_52 : decode cK_give 52 = .ok (.imul, 1) := by decide +kernel
theorem dK_give_53 : decode cK_give 53 = .ok (.iload_n 1, 1) := by decide +kernel
theorem dK_give_54 : decode cK_give 54 = .ok (.iadd, 1) := by decide +kernel
theorem dK_give_55 : decode cK_give 55 = .ok (.aload_n 0, 1) := by decide +kernel
theorem dK_give_56 : decode cK_give 56 = .ok (.getfield 11, 3) := by decide +kernel
theorem dK_give_59 : decode cK_give 59 = .ok (.iload 4, 2) := by decide +kernel
theorem dK_give_61 : decode cK_give 61 = .ok (.bipush 12, 2) := by decide +kernel
theorem dK_give_63 : decode cK_give 63 = .ok (.imul, 1) := by decide +kernel
theorem dK_give_64 : decode cK_give 64 = .ok (.iload_n 2, 1) := by decide +kernel
theorem dK_give_65 : decode cK_give 65 = .ok (.iadd, 1) := by decide +kernel
theorem dK_give_66 : decode cK_give 66 = .ok (.iaload, 1) := by decide +kernel
theorem dK_give_67 : decode cK_give 67 = .ok (.iload_n 3, 1) := by decide +kernel
theorem dK_give_68 : decode cK_give 68 = .ok (.ineg, 1) := by decide +kernel
theorem dK_give_69 : decode cK_give 69 = .ok (.invokestatic 34, 3) := by decide +kernel
theorem dK_give_72 : decode cK_give 72 = .ok (.iastore, 1) := by decide +kernel
theorem dK_give_73 : decode cK_give 73 = .ok (.iinc 4 1, 3) := by decide +kernel
theorem dK_give_76 : decode cK_give 76 = .ok (.goto (-73), 3) := by decide +kernel
theorem dK_give_79 : decode cK_give 79 = .ok (.return_, 1) := by decide +kernel
theorem dK_moved_0 : decode cK_moved 0 = .ok (.iload_n 0, 1) := by decide +kernel
theorem dK_moved_1 : decode cK_moved 1 = .ok (.ldc 17, 2) := by decide +kernel
theorem dK_moved_3 : decode cK_moved 3 = .ok (.if_icmp .ne 8, 3) := by decide +kernel
theorem dK_moved_6 : decode cK_moved 6 = .ok (.ldc 17, 2) := by decide +kernel
theorem dK_moved_8 : decode cK_moved 8 = .ok (.goto 6, 3) := by decide +kernel
theorem dK_moved_11 : decode cK_moved 11 = .ok (.iload_n 0, 1) := by decide +kernel
theorem dK_moved_12 : decode cK_moved 12 = .ok (.iload_n 1, 1) := by decide +kernel
theorem dK_moved_13 : decode cK_moved 13 = .ok (.iadd, 1) := by decide +kernel
theorem dK_moved_14 : decode cK_moved 14 = .ok (.ireturn, 1) := by decide +kernel
theorem dR_shownBy_0 : decode cR_shownBy 0 = .ok (.iconst 0, 1) := by decide +kernel
theorem dR_shownBy_1 : decode cR_shownBy 1 = .ok (.istore 4, 2) := by decide +kernel
theorem dR_shownBy_3 : decode cR_shownBy 3 = .ok (.iload 4, 2) := by decide +kernel
theorem dR_shownBy_5 : decode cR_shownBy 5 = .ok (.aload_n 0, 1) := by decide +kernel
theorem dR_shownBy_6 : decode cR_shownBy 6 = .ok (.getfield 21, 3) := by decide +kernel
theorem dR_shownBy_9 : decode cR_shownBy 9 = .ok (.if_icmp .ge 49, 3) := by decide +kernel
theorem dR_shownBy_12 : decode cR_shownBy 12 = .ok (.aload_n 1, 1) := by decide +kernel
theorem dR_shownBy_13 : decode cR_shownBy 13 = .ok (.aload_n 0, 1) := by decide +kernel
theorem dR_shownBy_14 : decode cR_shownBy 14 = .ok (.getfield 9, 3) := by decide +kernel
theorem dR_shownBy_17 : decode cR_shownBy 17 = .ok (.iload 4, 2) := by decide +kernel
theorem dR_shownBy_19 : decode cR_shownBy 19 = .ok (.iaload, 1) := by decide +kernel
theorem dR_shownBy_20 : decode cR_shownBy 20 = .ok (.iload_n 2, 1) := by decide +kernel
theorem dR_shownBy_21 : decode cR_shownBy 21 = .ok (.iload_n 3, 1) := by decide +kernel
theorem dR_shownBy_22 : decode cR_shownBy 22 = .ok (.invokestatic 25, 3) := by decide +kernel
theorem dR_shownBy_25 : decode cR_shownBy 25 = .ok (.aload_n 0, 1) := by decide +kernel
theorem dR_shownBy_26 : decode cR_shownBy 26 = .ok (.getfield 15, 3) := by decide +kernel
theorem dR_shownBy_29 : decode cR_shownBy 29 = .ok (.iload 4, 2) := by decide +kernel
theorem dR_shownBy_31 : decode cR_shownBy 31 = .ok (.iaload, 1) := by decide +kernel
theorem dR_shownBy_32 : decode cR_shownBy 32 = .ok (.iload_n 2, 1) := by decide +kernel
theorem dR_shownBy_33 : decode cR_shownBy 33 = .ok (.iload_n 3, 1) := by decide +kernel
theorem dR_shownBy_34 : decode cR_shownBy 34 = .ok (.invokestatic 25, 3) := by decide +kernel
theorem dR_shownBy_37 : decode cR_shownBy 37 = .ok (.aload_n 0, 1) := by decide +kernel
theorem dR_shownBy_38 : decode cR_shownBy 38 = .ok (.getfield 18, 3) := by decide +kernel
theorem dR_shownBy_41 : decode cR_shownBy 41 = .ok (.iload 4, 2) := by decide +kernel
theorem dR_shownBy_43 : decode cR_shownBy 43 = .ok (.iaload, 1) := by decide +kernel
theorem dR_shownBy_44 : decode cR_shownBy 44 = .ok (.invokevirtual 35, 3) := by decide +kernel
theorem dR_shownBy_47 : decode cR_shownBy 47 = .ok (.ifCond .ne 5, 3) := by decide +kernel
theorem dR_shownBy_50 : decode cR_shownBy 50 = .ok (.iconst 0, 1) := by decide +kernel
theorem dR_shownBy_51 : decode cR_shownBy 51 = .ok (.ireturn, 1) := by decide +kernel
theorem dR_shownBy_52 : decode cR_shownBy 52 = .ok (.iinc 4 1, 3) := by decide +kernel
theorem dR_shownBy_55 : decode cR_shownBy 55 = .ok (.goto (-52), 3) := by decide +kernel
theorem dR_shownBy_58 : decode cR_shownBy 58 = .ok (.iconst 1, 1) := by decide +kernel
theorem dR_shownBy_59 : decode cR_shownBy 59 = .ok (.ireturn, 1) := by decide +kernel
theorem dK_shows_0 : decode cK_shows 0 = .ok (.aload_n 0, 1) := by decide +kernel
theorem dK_shows_1 : decode cK_shows 1 = .ok (.getfield 11, 3) := by decide +kernel
theorem dK_shows_4 : decode cK_shows 4 = .ok (.iload_n 1, 1) := by decide +kernel
theorem dK_shows_5 : decode cK_shows 5 = .ok (.bipush 12, 2) := by decide +kernel
theorem dK_shows_7 : decode cK_shows 7 = .ok (.imul, 1) := by decide +kernel
theorem dK_shows_8 : decode cK_shows 8 = .ok (.iload_n 2, 1) := by decide +kernel
theorem dK_shows_9 : decode cK_shows 9 = .ok (.iadd, 1) := by decide +kernel
theorem dK_shows_10 : decode cK_shows 10 = .ok (.iaload, 1) := by decide +kernel
theorem dK_shows_11 : decode cK_shows 11 = .ok (.iload_n 3, 1) := by decide +kernel
theorem dK_shows_12 : decode cK_shows 12 = .ok (.if_icmp .gt 7, 3) := by decide +kernel
theorem dK_shows_15 : decode cK_shows 15 = .ok (.iconst 1, 1) := by decide +kernel
theorem dK_shows_16 : decode cK_shows 16 = .ok (.goto 4, 3) := by decide +kernel
theorem dK_shows_19 : decode cK_shows 19 = .ok (.iconst 0, 1) := by decide +kernel
theorem dK_shows_20 : decode cK_shows 20 = .ok (.ireturn, 1) := by decide +kernel
theorem dK_forget_0 : decode cK_forget 0 = .ok (.iconst 0, 1) := by decide +kernel
theorem dK_forget_1 : decode cK_forget 1 = .ok (.istore_n 2, 1) := by decide +kernel
theorem dK_forget_2 : decode cK_forget 2 = .ok (.iload_n 2, 1) := by decide +kernel
theorem dK_forget_3 : decode cK_forget 3 = .ok (.bipush 12, 2) := by decide +kernel
theorem dK_forget_5 : decode cK_forget 5 = .ok (.if_icmp .ge 40, 3) := by decide +kernel
theorem dK_forget_8 : decode cK_forget 8 = .ok (.iload_n 2, 1) := by decide +kernel
theorem dK_forget_9 : decode cK_forget 9 = .ok (.iload_n 1, 1) := by decide +kernel
theorem dK_forget_10 : decode cK_forget 10 = .ok (.if_icmp .eq 29, 3) := by decide +kernel
theorem dK_forget_13 : decode cK_forget 13 = .ok (.aload_n 0, 1) := by decide +kernel
theorem dK_forget_14 : decode cK_forget 14 = .ok (.getfield 11, 3) := by decide +kernel
theorem dK_forget_17 : decode cK_forget 17 = .ok (.iload_n 1, 1) := by decide +kernel
theorem dK_forget_18 : decode cK_forget 18 = .ok (.bipush 12, 2) := by decide +kernel
theorem dK_forget_20 : decode cK_forget 20 = .ok (.imul, 1) := by decide +kernel
theorem dK_forget_21 : decode cK_forget 21 = .ok (.iload_n 2, 1) := by decide +kernel
theorem dK_forget_22 : decode cK_forget 22 = .ok (.iadd, 1) := by decide +kernel
theorem dK_forget_23 : decode cK_forget 23 = .ok (.ldc 17, 2) := by decide +kernel
theorem dK_forget_25 : decode cK_forget 25 = .ok (.iastore, 1) := by decide +kernel
theorem dK_forget_26 : decode cK_forget 26 = .ok (.aload_n 0, 1) := by decide +kernel
theorem dK_forget_27 : decode cK_forget 27 = .ok (.getfield 11, 3) := by decide +kernel
theorem dK_forget_30 : decode cK_forget 30 = .ok (.iload_n 2, 1) := by decide +kernel
theorem dK_forget_31 : decode cK_forget 31 = .ok (.bipush 12, 2) := by decide +kernel
theorem dK_forget_33 : decode cK_forget 33 = .ok (.imul, 1) := by decide +kernel
theorem dK_forget_34 : decode cK_forget 34 = .ok (.iload_n 1, 1) := by decide +kernel
theorem dK_forget_35 : decode cK_forget 35 = .ok (.iadd, 1) := by decide +kernel
theorem dK_forget_36 : decode cK_forget 36 = .ok (.ldc 17, 2) := by decide +kernel
theorem dK_forget_38 : decode cK_forget 38 = .ok (.iastore, 1) := by decide +kernel
theorem dK_forget_39 : decode cK_forget 39 = .ok (.iinc 2 1, 3) := by decide +kernel
theorem dK_forget_42 : decode cK_forget 42 = .ok (.goto (-40), 3) := by decide +kernel
theorem dK_forget_45 : decode cK_forget 45 = .ok (.return_, 1) := by decide +kernel
theorem dK_copyFrom_0 : decode cK_copyFrom 0 = .ok (.aload_n 1, 1) := by decide +kernel
theorem dK_copyFrom_1 : decode cK_copyFrom 1 = .ok (.getfield 11, 3) := by decide +kernel
theorem dK_copyFrom_4 : decode cK_copyFrom 4 = .ok (.iconst 0, 1) := by decide +kernel
theorem dK_copyFrom_5 : decode cK_copyFrom 5 = .ok (.aload_n 0, 1) := by decide +kernel
theorem dK_copyFrom_6 : decode cK_copyFrom 6 = .ok (.getfield 11, 3) := by decide +kernel
theorem dK_copyFrom_9 : decode cK_copyFrom 9 = .ok (.iconst 0, 1) := by decide +kernel
theorem dK_copyFrom_10 : decode cK_copyFrom 10 = .ok (.aload_n 0, 1) := by decide +kernel
theorem dK_copyFrom_11 : decode cK_copyFrom 11 = .ok (.getfield 11, 3) := by decide +kernel
theorem dK_copyFrom_14 : decode cK_copyFrom 14 = .ok (.arraylength, 1) := by decide +kernel
theorem dK_copyFrom_15 : decode cK_copyFrom 15 = .ok (.invokestatic 28, 3) := by decide +kernel
theorem dK_copyFrom_18 : decode cK_copyFrom 18 = .ok (.aload_n 0, 1) := by decide +kernel
theorem dK_copyFrom_19 : decode cK_copyFrom 19 = .ok (.aload_n 1, 1) := by decide +kernel
theorem dK_copyFrom_20 : decode cK_copyFrom 20 = .ok (.getfield 24, 3) := by decide +kernel
theorem dK_copyFrom_23 : decode cK_copyFrom 23 = .ok (.putfield 24, 3) := by decide +kernel
theorem dK_copyFrom_26 : decode cK_copyFrom 26 = .ok (.return_, 1) := by decide +kernel
end
section
theorem dW_init_0 : decode cW_init 0 = .ok (.aload_n 0, 1) := by decide +kernel
theorem dW_init_1 : decode cW_init 1 = .ok (.invokespecial 3, 3) := by decide +kernel
theorem dW_init_4 : decode cW_init 4 = .ok (.aload_n 0, 1) := by decide +kernel
theorem dW_init_5 : decode cW_init 5 = .ok (.new 9, 3) := by decide +kernel
theorem dW_init_8 : decode cW_init 8 = .ok (.dup, 1) := by decide +kernel
theorem dW_init_9 : decode cW_init 9 = .ok (.invokespecial 11, 3) := by decide +kernel
theorem dW_init_12 : decode cW_init 12 = .ok (.putfield 12, 3) := by decide +kernel
theorem dW_init_15 : decode cW_init 15 = .ok (.aload_n 0, 1) := by decide +kernel
theorem dW_init_16 : decode cW_init 16 = .ok (.bipush 6, 2) := by decide +kernel
theorem dW_init_18 : decode cW_init 18 = .ok (.anewarray 9, 3) := by decide +kernel
theorem dW_init_21 : decode cW_init 21 = .ok (.putfield 18, 3) := by decide +kernel
theorem dW_init_24 : decode cW_init 24 = .ok (.aload_n 0, 1) := by decide +kernel
theorem dW_init_25 : decode cW_init 25 = .ok (.bipush 6, 2) := by decide +kernel
theorem dW_init_27 : decode cW_init 27 = .ok (.newarray .int, 2) := by decide +kernel
theorem dW_init_29 : decode cW_init 29 = .ok (.putfield 22, 3) := by decide +kernel
theorem dW_init_32 : decode cW_init 32 = .ok (.iconst 0, 1) := by decide +kernel
theorem dW_init_33 : decode cW_init 33 = .ok (.istore_n 1, 1) := by decide +kernel
theorem dW_init_34 : decode cW_init 34 = .ok (.iload_n 1, 1) := by decide +kernel
theorem dW_init_35 : decode cW_init 35 = .ok (.bipush 6, 2) := by decide +kernel
theorem dW_init_37 : decode cW_init 37 = .ok (.if_icmp .ge 22, 3) := by decide +kernel
theorem dW_init_40 : decode cW_init 40 = .ok (.aload_n 0, 1) := by decide +kernel
theorem dW_init_41 : decode cW_init 41 = .ok (.getfield 18, 3) := by decide +kernel
theorem dW_init_44 : decode cW_init 44 = .ok (.iload_n 1, 1) := by decide +kernel
theorem dW_init_45 : decode cW_init 45 = .ok (.new 9, 3) := by decide +kernel
theorem dW_init_48 : decode cW_init 48 = .ok (.dup, 1) := by decide +kernel
theorem dW_init_49 : decode cW_init 49 = .ok (.invokespecial 11, 3) := by decide +kernel
theorem dW_init_52 : decode cW_init 52 = .ok (.aastore, 1) := by decide +kernel
theorem dW_init_53 : decode cW_init 53 = .ok (.iinc 1 1, 3) := by decide +kernel
theorem dW_init_56 : decode cW_init 56 = .ok (.goto (-22), 3) := by decide +kernel
theorem dW_init_59 : decode cW_init 59 = .ok (.return_, 1) := by decide +kernel
theorem dF_init_0 : decode cF_init 0 = .ok (.aload_n 0, 1) := by decide +kernel
theorem dF_init_1 : decode cF_init 1 = .ok (.invokespecial 3, 3) := by decide +kernel
theorem dF_init_4 : decode cF_init 4 = .ok (.aload_n 0, 1) := by decide +kernel
theorem dF_init_5 : decode cF_init 5 = .ok (.new 9, 3) := by decide +kernel
theorem dF_init_8 : decode cF_init 8 = .ok (.dup, 1) := by decide +kernel
theorem dF_init_9 : decode cF_init 9 = .ok (.invokespecial 11, 3) := by decide +kernel
theorem dF_init_12 : decode cF_init 12 = .ok (.putfield 12, 3) := by decide +kernel
theorem dF_init_15 : decode cF_init 15 = .ok (.aload_n 0, 1) := by decide +kernel
theorem dF_init_16 : decode cF_init 16 = .ok (.new 9, 3) := by decide +kernel
theorem dF_init_19 : decode cF_init 19 = .ok (.dup, 1) := by decide +kernel
theorem dF_init_20 : decode cF_init 20 = .ok (.invokespecial 11, 3) := by decide +kernel
theorem dF_init_23 : decode cF_init 23 = .ok (.putfield 18, 3) := by decide +kernel
theorem dF_init_26 : decode cF_init 26 = .ok (.aload_n 0, 1) := by decide +kernel
theorem dF_init_27 : decode cF_init 27 = .ok (.bipush 16, 2) := by decide +kernel
theorem dF_init_29 : decode cF_init 29 = .ok (.anewarray 21, 3) := by decide +kernel
theorem dF_init_32 : decode cF_init 32 = .ok (.putfield 23, 3) := by decide +kernel
theorem dF_init_35 : decode cF_init 35 = .ok (.aload_n 0, 1) := by decide +kernel
theorem dF_init_36 : decode cF_init 36 = .ok (.bipush 6, 2) := by decide +kernel
theorem dF_init_38 : decode cF_init 38 = .ok (.newarray .int, 2) := by decide +kernel
theorem dF_init_40 : decode cF_init 40 = .ok (.putfield 27, 3) := by decide +kernel
theorem dF_init_43 : decode cF_init 43 = .ok (.iconst 0, 1) := by decide +kernel
theorem dF_init_44 : decode cF_init 44 = .ok (.istore_n 1, 1) := by decide +kernel
theorem dF_init_45 : decode cF_init 45 = .ok (.iload_n 1, 1) := by decide +kernel
theorem dF_init_46 : decode cF_init 46 = .ok (.bipush 16, 2) := by decide +kernel
theorem dF_init_48 : decode cF_init 48 = .ok (.if_icmp .ge 22, 3) := by decide +kernel
theorem dF_init_51 : decode cF_init 51 = .ok (.aload_n 0, 1) := by decide +kernel
theorem dF_init_52 : decode cF_init 52 = .ok (.getfield 23, 3) := by decide +kernel
theorem dF_init_55 : decode cF_init 55 = .ok (.iload_n 1, 1) := by decide +kernel
theorem dF_init_56 : decode cF_init 56 = .ok (.new 21, 3) := by decide +kernel
theorem dF_init_59 : decode cF_init 59 = .ok (.dup, 1) := by decide +kernel
theorem dF_init_60 : decode cF_init 60 = .ok (.invokespecial 31, 3) := by decide +kernel
theorem dF_init_63 : decode cF_init 63 = .ok (.aastore, 1) := by decide +kernel
theorem dF_init_64 : decode cF_init 64 = .ok (.iinc 1 1, 3) := by decide +kernel
theorem dF_init_67 : decode cF_init 67 = .ok (.goto (-22), 3) := by decide +kernel
theorem dF_init_70 : decode cF_init 70 = .ok (.return_, 1) := by decide +kernel
theorem dF_hasGivenWhatIsUsed_0 : decode cF_hasGivenWhatIsUsed 0 = .ok (.iload_n 1, 1) := by decide +kernel
theorem dF_hasGivenWhatIsUsed_1 : decode cF_hasGivenWhatIsUsed 1 = .ok (.invokestatic 46, 3) := by decide +kernel
theorem dF_hasGivenWhatIsUsed_4 : decode cF_hasGivenWhatIsUsed 4 = .ok (.ifCond .eq 11, 3) := by decide +kernel
theorem dF_hasGivenWhatIsUsed_7 : decode cF_hasGivenWhatIsUsed 7 = .ok (.aload_n 0, 1) := by decide +kernel
theorem dF_hasGivenWhatIsUsed_8 : decode cF_hasGivenWhatIsUsed 8 = .ok (.iload_n 2, 1) := by decide +kernel
theorem dF_hasGivenWhatIsUsed_9 : decode cF_hasGivenWhatIsUsed 9 = .ok (.invokevirtual 50, 3) := by decide +kernel
theorem dF_hasGivenWhatIsUsed_12 : decode cF_hasGivenWhatIsUsed 12 = .ok (.ifCond .eq 38, 3) := by decide +kernel
theorem dF_hasGivenWhatIsUsed_15 : decode cF_hasGivenWhatIsUsed 15 = .ok (.iload_n 1, 1) := by decide +kernel
theorem dF_hasGivenWhatIsUsed_16 : decode cF_hasGivenWhatIsUsed 16 = .ok (.invokestatic 53, 3) := by decide +kernel
theorem dF_hasGivenWhatIsUsed_19 : decode cF_hasGivenWhatIsUsed 19 = .ok (.ifCond .eq 11, 3) := by decide +kernel
theorem dF_hasGivenWhatIsUsed_22 : decode cF_hasGivenWhatIsUsed 22 = .ok (.aload_n 0, 1) := by decide +kernel
theorem dF_hasGivenWhatIsUsed_23 : decode cF_hasGivenWhatIsUsed 23 = .ok (.iload_n 3, 1) := by decide +kernel
theorem dF_hasGivenWhatIsUsed_24 : decode cF_hasGivenWhatIsUsed 24 = .ok (.invokevirtual 50, 3) := by decide +kernel
theorem dF_hasGivenWhatIsUsed_27 : decode cF_hasGivenWhatIsUsed 27 = .ok (.ifCond .eq 23, 3) := by decide +kernel
theorem dF_hasGivenWhatIsUsed_30 : decode cF_hasGivenWhatIsUsed 30 = .ok (.iload_n 1, 1) := by decide +kernel
theorem dF_hasGivenWhatIsUsed_31 : decode cF_hasGivenWhatIsUsed 31 = .ok (.invokestatic 56, 3) := by decide +kernel
theorem dF_hasGivenWhatIsUsed_34 : decode cF_hasGivenWhatIsUsed 34 = .ok (.ifCond .eq 12, 3) := by decide +kernel
theorem dF_hasGivenWhatIsUsed_37 : decode cF_hasGivenWhatIsUsed 37 = .ok (.aload_n 0, 1) := by decide +kernel
theorem dF_hasGivenWhatIsUsed_38 : decode cF_hasGivenWhatIsUsed 38 = .ok (.iload 4, 2) := by decide +kernel
theorem dF_hasGivenWhatIsUsed_40 : decode cF_hasGivenWhatIsUsed 40 = .ok (.invokevirtual 50, 3) := by decide +kernel
theorem dF_hasGivenWhatIsUsed_43 : decode cF_hasGivenWhatIsUsed 43 = .ok (.ifCond .eq 7, 3) := by decide +kernel
theorem dF_hasGivenWhatIsUsed_46 : decode cF_hasGivenWhatIsUsed 46 = .ok (.iconst 1, 1) := by decide +kernel
theorem dF_hasGivenWhatIsUsed_47 : decode cF_hasGivenWhatIsUsed 47 = .ok (.goto 4, 3) := by decide +kernel
theorem dF_hasGivenWhatIsUsed_50 : decode cF_hasGivenWhatIsUsed 50 = .ok (.iconst 0, 1) := by decide +kernel
theorem dF_hasGivenWhatIsUsed_51 : decode cF_hasGivenWhatIsUsed 51 = .ok (.ireturn, 1) := by decide +kernel
theorem dF_hasGiven_0 : decode cF_hasGiven 0 = .ok (.iload_n 1, 1) := by decide +kernel
theorem dF_hasGiven_1 : decode cF_hasGiven 1 = .ok (.iconst 4, 1) := by decide +kernel
theorem dF_hasGiven_2 : decode cF_hasGiven 2 = .ok (.if_icmp .lt 15, 3) := by decide +kernel
theorem dF_hasGiven_5 : decode cF_hasGiven 5 = .ok (.aload_n 0, 1) := by decide +kernel
theorem dF_hasGiven_6 : decode cF_hasGiven 6 = .ok (.getfield 43, 3) := by decide +kernel
theorem dF_hasGiven_9 : decode cF_hasGiven 9 = .ok (.iload_n 1, 1) := by decide +kernel
theorem dF_hasGiven_10 : decode cF_hasGiven 10 = .ok (.ishr, 1) := by decide +kernel
theorem dF_hasGiven_11 : decode cF_hasGiven 11 = .ok (.iconst 1, 1) := by decide +kernel
theorem dF_hasGiven_12 : decode cF_hasGiven 12 = .ok (.iand, 1) := by decide +kernel
theorem dF_hasGiven_13 : decode cF_hasGiven 13 = .ok (.iconst 1, 1) := by decide +kernel
theorem dF_hasGiven_14 : decode cF_hasGiven 14 = .ok (.if_icmp .ne 7, 3) := by decide +kernel
theorem dF_hasGiven_17 : decode cF_hasGiven 17 = .ok (.iconst 1, 1) := by decide +kernel
theorem dF_hasGiven_18 : decode cF_hasGiven 18 = .ok (.goto 4, 3) := by decide +kernel
theorem dF_hasGiven_21 : decode cF_hasGiven 21 = .ok (.iconst 0, 1) := by decide +kernel
theorem dF_hasGiven_22 : decode cF_hasGiven 22 = .ok (.ireturn, 1) := by decide +kernel
theorem dF_isOpenFor_0 : decode cF_isOpenFor 0 = .ok (.iload_n 1, 1) := by decide +kernel
theorem dF_isOpenFor_1 : decode cF_isOpenFor 1 = .ok (.iconst 3, 1) := by decide +kernel
theorem dF_isOpenFor_2 : decode cF_isOpenFor 2 = .ok (.if_icmp .eq 10, 3) := by decide +kernel
theorem dF_isOpenFor_5 : decode cF_isOpenFor 5 = .ok (.iload_n 1, 1) := by decide +kernel
theorem dF_isOpenFor_6 : decode cF_isOpenFor 6 = .ok (.iconst 4, 1) := by decide +kernel
theorem dF_isOpenFor_7 : decode cF_isOpenFor 7 = .ok (.if_icmp .eq 5, 3) := by decide +kernel
theorem dF_isOpenFor_10 : decode cF_isOpenFor 10 = .ok (.iconst 1, 1) := by decide +kernel
theorem dF_isOpenFor_11 : decode cF_isOpenFor 11 = .ok (.ireturn, 1) := by decide +kernel
theorem dF_isOpenFor_12 : decode cF_isOpenFor 12 = .ok (.aload_n 0, 1) := by decide +kernel
theorem dF_isOpenFor_13 : decode cF_isOpenFor 13 = .ok (.getfield 37, 3) := by decide +kernel
theorem dF_isOpenFor_16 : decode cF_isOpenFor 16 = .ok (.ifCond .ne 5, 3) := by decide +kernel
theorem dF_isOpenFor_19 : decode cF_isOpenFor 19 = .ok (.iconst 0, 1) := by decide +kernel
theorem dF_isOpenFor_20 : decode cF_isOpenFor 20 = .ok (.ireturn, 1) := by decide +kernel
theorem dF_isOpenFor_21 : decode cF_isOpenFor 21 = .ok (.iload_n 1, 1) := by decide +kernel
theorem dF_isOpenFor_22 : decode cF_isOpenFor 22 = .ok (.iconst 4, 1) := by decide +kernel
theorem dF_isOpenFor_23 : decode cF_isOpenFor 23 = .ok (.if_icmp .eq 26, 3) := by decide +kernel
theorem dF_isOpenFor_26 : decode cF_isOpenFor 26 = .ok (.aload_n 0, 1) := by decide +kernel
theorem dF_isOpenFor_27 : decode cF_isOpenFor 27 = .ok (.getfield 23, 3) := by decide +kernel
theorem dF_isOpenFor_30 : decode cF_isOpenFor 30 = .ok (.aload_n 0, 1) := by decide +kernel
theorem dF_isOpenFor_31 : decode cF_isOpenFor 31 = .ok (.getfield 27, 3) := by decide +kernel
theorem dF_isOpenFor_34 : decode cF_isOpenFor 34 = .ok (.aload_n 0, 1) := by decide +kernel
theorem dF_isOpenFor_35 : decode cF_isOpenFor 35 = .ok (.getfield 37, 3) := by decide +kernel
theorem dF_isOpenFor_38 : decode cF_isOpenFor 38 = .ok (.iconst 1, 1) := by decide +kernel
theorem dF_isOpenFor_39 : decode cF_isOpenFor 39 = .ok (.isub, 1) := by decide +kernel
theorem dF_isOpenFor_40 : decode cF_isOpenFor 40 = .ok (.iaload, 1) := by decide +kernel
theorem dF_isOpenFor_41 : decode cF_isOpenFor 41 = .ok (.aaload, 1) := by decide +kernel
theorem dF_isOpenFor_42 : decode cF_isOpenFor 42 = .ok (.getfield 59, 3) := by decide +kernel
theorem dF_isOpenFor_45 : decode cF_isOpenFor 45 = .ok (.iconst 2, 1) := by decide +kernel
theorem dF_isOpenFor_46 : decode cF_isOpenFor 46 = .ok (.if_icmp .ne 7, 3) := by decide +kernel
theorem dF_isOpenFor_49 : decode cF_isOpenFor 49 = .ok (.iconst 1, 1) := by decide +kernel
theorem dF_isOpenFor_50 : decode cF_isOpenFor 50 = .ok (.goto 4, 3) := by decide +kernel
theorem dF_isOpenFor_53 : decode cF_isOpenFor 53 = .ok (.iconst 0, 1) := by decide +kernel
theorem dF_isOpenFor_54 : decode cF_isOpenFor 54 = .ok (.ireturn, 1) := by decide +kernel
theorem dF_hasRoomFor_0 : decode cF_hasRoomFor 0 = .ok (.aload_n 0, 1) := by decide +kernel
theorem dF_hasRoomFor_1 : decode cF_hasRoomFor 1 = .ok (.getfield 36, 3) := by decide +kernel
theorem dF_hasRoomFor_4 : decode cF_hasRoomFor 4 = .ok (.bipush 16, 2) := by decide +kernel
theorem dF_hasRoomFor_6 : decode cF_hasRoomFor 6 = .ok (.if_icmp .ge 21, 3) := by decide +kernel
theorem dF_hasRoomFor_9 : decode cF_hasRoomFor 9 = .ok (.iload_n 1, 1) := by decide +kernel
theorem dF_hasRoomFor_10 : decode cF_hasRoomFor 10 = .ok (.iconst 2, 1) := by decide +kernel
theorem dF_hasRoomFor_11 : decode cF_hasRoomFor 11 = .ok (.if_icmp .ne 12, 3) := by decide +kernel
theorem dF_hasRoomFor_14 : decode cF_hasRoomFor 14 = .ok (.aload_n 0, 1) := by decide +kernel
theorem dF_hasRoomFor_15 : decode cF_hasRoomFor 15 = .ok (.getfield 40, 3) := by decide +kernel
theorem dF_hasRoomFor_18 : decode cF_hasRoomFor 18 = .ok (.bipush 6, 2) := by decide +kernel
theorem dF_hasRoomFor_20 : decode cF_hasRoomFor 20 = .ok (.if_icmp .ge 7, 3) := by decide +kernel
theorem dF_hasRoomFor_23 : decode cF_hasRoomFor 23 = .ok (.iconst 1, 1) := by decide +kernel
theorem dF_hasRoomFor_24 : decode cF_hasRoomFor 24 = .ok (.goto 4, 3) := by decide +kernel
theorem dF_hasRoomFor_27 : decode cF_hasRoomFor 27 = .ok (.iconst 0, 1) := by decide +kernel
theorem dF_hasRoomFor_28 : decode cF_hasRoomFor 28 = .ok (.ireturn, 1) := by decide +kernel
theorem dF_append_0 : decode cF_append 0 = .ok (.aload_n 0, 1) := by decide +kernel
theorem dF_append_1 : decode cF_append 1 = .ok (.getfield 36, 3) := by decide +kernel
theorem dF_append_4 : decode cF_append 4 = .ok (.istore 6, 2) := by decide +kernel
theorem dF_append_6 : decode cF_append 6 = .ok (.aload_n 0, 1) := by decide +kernel
theorem dF_append_7 : decode cF_append 7 = .ok (.getfield 23, 3) := by decide +kernel
theorem dF_append_10 : decode cF_append 10 = .ok (.iload 6, 2) := by decide +kernel
theorem dF_append_12 : decode cF_append 12 = .ok (.aaload, 1) := by decide +kernel
theorem dF_append_13 : decode cF_append 13 = .ok (.iload_n 1, 1) := by decide +kernel
theorem dF_append_14 : decode cF_append 14 = .ok (.iload_n 2, 1) := by decide +kernel
theorem dF_append_15 : decode cF_append 15 = .ok (.iload_n 3, 1) := by decide +kernel
theorem dF_append_16 : decode cF_append 16 = .ok (.iload 4, 2) := by decide +kernel
theorem dF_append_18 : decode cF_append 18 = .ok (.iload 5, 2) := by decide +kernel
theorem dF_append_20 : decode cF_append 20 = .ok (.invokevirtual 62, 3) := by decide +kernel
theorem dF_append_23 : decode cF_append 23 = .ok (.aload_n 0, 1) := by decide +kernel
theorem dF_append_24 : decode cF_append 24 = .ok (.dup, 1) := by decide +kernel
theorem dF_append_25 : decode cF_append 25 = .ok (.getfield 36, 3) := by decide +kernel
theorem dF_append_28 : decode cF_append 28 = .ok (.iconst 1, 1) := by decide +kernel
theorem dF_append_29 : decode cF_append 29 = .ok (.iadd, 1) := by decide +kernel
theorem dF_append_30 : decode cF_append 30 = .ok (.putfield 36, 3) := by decide +kernel
theorem dF_append_33 : decode cF_append 33 = .ok (.iload_n 1, 1) := by decide +kernel
theorem dF_append_34 : decode cF_append 34 = .ok (.invokestatic 66, 3) := by decide +kernel
theorem dF_append_37 : decode cF_append 37 = .ok (.ifCond .eq 15, 3) := by decide +kernel
theorem dF_append_40 : decode cF_append 40 = .ok (.aload_n 0, 1) := by decide +kernel
theorem dF_append_41 : decode cF_append 41 = .ok (.dup, 1) := by decide +kernel
theorem dF_append_42 : decode cF_append 42 = .ok (.getfield 43, 3) := by decide +kernel
theorem dF_append_45 : decode cF_append 45 = .ok (.iconst 1, 1) := by decide +kernel
theorem dF_append_46 : decode cF_append 46 = .ok (.iload_n 2, 1) := by decide +kernel
theorem dF_append_47 : decode cF_append 47 = .ok (.ishl, 1) := by decide +kernel
theorem dF_append_48 : decode cF_append 48 = .ok (.ior, 1) := by decide +kernel
theorem dF_append_49 : decode cF_append 49 = .ok (.putfield 43, 3) := by decide +kernel
theorem dF_append_52 : decode cF_append 52 = .ok (.iload_n 1, 1) := by decide +kernel
theorem dF_append_53 : decode cF_append 53 = .ok (.tableswitch 54 2 4 #[27, 36, 45], 27) := by decide +kernel
theorem dF_append_80 : decode cF_append 80 = .ok (.aload_n 0, 1) := by decide +kernel
theorem dF_append_81 : decode cF_append 81 = .ok (.iload 6, 2) := by decide +kernel
theorem dF_append_83 : decode cF_append 83 = .ok (.invokevirtual 69, 3) := by decide +kernel
theorem dF_append_86 : decode cF_append 86 = .ok (.goto 21, 3) := by decide +kernel
theorem dF_append_89 : decode cF_append 89 = .ok (.aload_n 0, 1) := by decide +kernel
theorem dF_append_90 : decode cF_append 90 = .ok (.iload 6, 2) := by decide +kernel
theorem dF_append_92 : decode cF_append 92 = .ok (.invokevirtual 73, 3) := by decide +kernel
theorem dF_append_95 : decode cF_append 95 = .ok (.goto 12, 3) := by decide +kernel
theorem dF_append_98 : decode cF_append 98 = .ok (.aload_n 0, 1) := by decide +kernel
theorem dF_append_99 : decode cF_append 99 = .ok (.iload 6, 2) := by decide +kernel
theorem dF_append_101 : decode cF_append 101 = .ok (.invokevirtual 76, 3) := by decide +kernel
theorem dF_append_104 : decode cF_append 104 = .ok (.goto 3, 3) := by decide +kernel
theorem dF_append_107 : decode cF_append 107 = .ok (.iload 6, 2) := by decide +kernel
theorem dF_append_109 : decode cF_append 109 = .ok (.ireturn, 1) := by decide +kernel
theorem dF_openIf_0 : decode cF_openIf 0 = .ok (.aload_n 0, 1) := by decide +kernel
theorem dF_openIf_1 : decode cF_openIf 1 = .ok (.getfield 27, 3) := by decide +kernel
theorem dF_openIf_4 : decode cF_openIf 4 = .ok (.aload_n 0, 1) := by decide +kernel
theorem dF_openIf_5 : decode cF_openIf 5 = .ok (.getfield 37, 3) := by decide +kernel
theorem dF_openIf_8 : decode cF_openIf 8 = .ok (.iload_n 1, 1) := by decide +kernel
theorem dF_openIf_9 : decode cF_openIf 9 = .ok (.iastore, 1) := by decide +kernel
theorem dF_openIf_10 : decode cF_openIf 10 = .ok (.aload_n 0, 1) := by decide +kernel
theorem dF_openIf_11 : decode cF_openIf 11 = .ok (.dup, 1) := by decide +kernel
theorem dF_openIf_12 : decode cF_openIf 12 = .ok (.getfield 37, 3) := by decide +kernel
theorem dF_openIf_15 : decode cF_openIf 15 = .ok (.iconst 1, 1) := by decide +kernel
theorem dF_openIf_16 : decode cF_openIf 16 = .ok (.iadd, 1) := by decide +kernel
theorem dF_openIf_17 : decode cF_openIf 17 = .ok (.putfield 37, 3) := by decide +kernel
theorem dF_openIf_20 : decode cF_openIf 20 = .ok (.aload_n 0, 1) := by decide +kernel
theorem dF_openIf_21 : decode cF_openIf 21 = .ok (.dup, 1) := by decide +kernel
theorem dF_openIf_22 : decode cF_openIf 22 = .ok (.getfield 40, 3) := by decide +kernel
theorem dF_openIf_25 : decode cF_openIf 25 = .ok (.iconst 1, 1) := by decide +kernel
theorem dF_openIf_26 : decode cF_openIf 26 = .ok (.iadd, 1) := by decide +kernel
theorem dF_openIf_27 : decode cF_openIf 27 = .ok (.putfield 40, 3) := by decide +kernel
theorem dF_openIf_30 : decode cF_openIf 30 = .ok (.return_, 1) := by decide +kernel
theorem dF_turnToElse_0 : decode cF_turnToElse 0 = .ok (.aload_n 0, 1) := by decide +kernel
theorem dF_turnToElse_1 : decode cF_turnToElse 1 = .ok (.getfield 23, 3) := by decide +kernel
theorem dF_turnToElse_4 : decode cF_turnToElse 4 = .ok (.aload_n 0, 1) := by decide +kernel
theorem dF_turnToElse_5 : decode cF_turnToElse 5 = .ok (.getfield 27, 3) := by decide +kernel
theorem dF_turnToElse_8 : decode cF_turnToElse 8 = .ok (.aload_n 0, 1) := by decide +kernel
theorem dF_turnToElse_9 : decode cF_turnToElse 9 = .ok (.getfield 37, 3) := by decide +kernel
theorem dF_turnToElse_12 : decode cF_turnToElse 12 = .ok (.iconst 1, 1) := by decide +kernel
theorem dF_turnToElse_13 : decode cF_turnToElse 13 = .ok (.isub, 1) := by decide +kernel
theorem dF_turnToElse_14 : decode cF_turnToElse 14 = .ok (.iaload, 1) := by decide +kernel
theorem dF_turnToElse_15 : decode cF_turnToElse 15 = .ok (.aaload, 1) := by decide +kernel
theorem dF_turnToElse_16 : decode cF_turnToElse 16 = .ok (.iload_n 1, 1) := by decide +kernel
theorem dF_turnToElse_17 : decode cF_turnToElse 17 = .ok (.iconst 1, 1) := by decide +kernel
theorem dF_turnToElse_18 : decode cF_turnToElse 18 = .ok (.iadd, 1) := by decide +kernel
theorem dF_turnToElse_19 : decode cF_turnToElse 19 = .ok (.putfield 79, 3) := by decide +kernel
theorem dF_turnToElse_22 : decode cF_turnToElse 22 = .ok (.aload_n 0, 1) := by decide +kernel
theorem dF_turnToElse_23 : decode cF_turnToElse 23 = .ok (.getfield 27, 3) := by decide +kernel
theorem dF_turnToElse_26 : decode cF_turnToElse 26 = .ok (.aload_n 0, 1) := by decide +kernel
theorem dF_turnToElse_27 : decode cF_turnToElse 27 = .ok (.getfield 37, 3) := by decide +kernel
theorem dF_turnToElse_30 : decode cF_turnToElse 30 = .ok (.iconst 1, 1) := by decide +kernel
theorem dF_turnToElse_31 : decode cF_turnToElse 31 = .ok (.isub, 1) := by decide +kernel
theorem dF_turnToElse_32 : decode cF_turnToElse 32 = .ok (.iload_n 1, 1) := by decide +kernel
theorem dF_turnToElse_33 : decode cF_turnToElse 33 = .ok (.iastore, 1) := by decide +kernel
theorem dF_turnToElse_34 : decode cF_turnToElse 34 = .ok (.return_, 1) := by decide +kernel
theorem dF_closeIf_0 : decode cF_closeIf 0 = .ok (.aload_n 0, 1) := by decide +kernel
theorem dF_closeIf_1 : decode cF_closeIf 1 = .ok (.dup, 1) := by decide +kernel
theorem dF_closeIf_2 : decode cF_closeIf 2 = .ok (.getfield 37, 3) := by decide +kernel
theorem dF_closeIf_5 : decode cF_closeIf 5 = .ok (.iconst 1, 1) := by decide +kernel
theorem dF_closeIf_6 : decode cF_closeIf 6 = .ok (.isub, 1) := by decide +kernel
theorem dF_closeIf_7 : decode cF_closeIf 7 = .ok (.putfield 37, 3) := by decide +kernel
theorem dF_closeIf_10 : decode cF_closeIf 10 = .ok (.aload_n 0, 1) := by decide +kernel
theorem dF_closeIf_11 : decode cF_closeIf 11 = .ok (.getfield 23, 3) := by decide +kernel
theorem dF_closeIf_14 : decode cF_closeIf 14 = .ok (.aload_n 0, 1) := by decide +kernel
theorem dF_closeIf_15 : decode cF_closeIf 15 = .ok (.getfield 27, 3) := by decide +kernel
theorem dF_closeIf_18 : decode cF_closeIf 18 = .ok (.aload_n 0, 1) := by decide +kernel
theorem dF_closeIf_19 : decode cF_closeIf 19 = .ok (.getfield 37, 3) := by decide +kernel
theorem dF_closeIf_22 : decode cF_closeIf 22 = .ok (.iaload, 1) := by decide +kernel
theorem dF_closeIf_23 : decode cF_closeIf 23 = .ok (.aaload, 1) := by decide +kernel
theorem dF_closeIf_24 : decode cF_closeIf 24 = .ok (.iload_n 1, 1) := by decide +kernel
theorem dF_closeIf_25 : decode cF_closeIf 25 = .ok (.putfield 79, 3) := by decide +kernel
theorem dF_closeIf_28 : decode cF_closeIf 28 = .ok (.return_, 1) := by decide +kernel
theorem dF_empty_0 : decode cF_empty 0 = .ok (.aload_n 0, 1) := by decide +kernel
theorem dF_empty_1 : decode cF_empty 1 = .ok (.getfield 12, 3) := by decide +kernel
theorem dF_empty_4 : decode cF_empty 4 = .ok (.iconst 0, 1) := by decide +kernel
theorem dF_empty_5 : decode cF_empty 5 = .ok (.putfield 32, 3) := by decide +kernel
theorem dF_empty_8 : decode cF_empty 8 = .ok (.aload_n 0, 1) := by decide +kernel
theorem dF_empty_9 : decode cF_empty 9 = .ok (.getfield 18, 3) := by decide +kernel
theorem dF_empty_12 : decode cF_empty 12 = .ok (.iconst 0, 1) := by decide +kernel
theorem dF_empty_13 : decode cF_empty 13 = .ok (.putfield 32, 3) := by decide +kernel
theorem dF_empty_16 : decode cF_empty 16 = .ok (.aload_n 0, 1) := by decide +kernel
theorem dF_empty_17 : decode cF_empty 17 = .ok (.iconst 0, 1) := by decide +kernel
theorem dF_empty_18 : decode cF_empty 18 = .ok (.putfield 36, 3) := by decide +kernel
theorem dF_empty_21 : decode cF_empty 21 = .ok (.aload_n 0, 1) := by decide +kernel
theorem dF_empty_22 : decode cF_empty 22 = .ok (.iconst 0, 1) := by decide +kernel
theorem dF_empty_23 : decode cF_empty 23 = .ok (.putfield 37, 3) := by decide +kernel
theorem dF_empty_26 : decode cF_empty 26 = .ok (.aload_n 0, 1) := by decide +kernel
theorem dF_empty_27 : decode cF_empty 27 = .ok (.iconst 0, 1) := by decide +kernel
theorem dF_empty_28 : decode cF_empty 28 = .ok (.putfield 40, 3) := by decide +kernel
theorem dF_empty_31 : decode cF_empty 31 = .ok (.aload_n 0, 1) := by decide +kernel
theorem dF_empty_32 : decode cF_empty 32 = .ok (.iconst 0, 1) := by decide +kernel
theorem dF_empty_33 : decode cF_empty 33 = .ok (.putfield 43, 3) := by decide +kernel
theorem dF_empty_36 : decode cF_empty 36 = .ok (.return_, 1) := by decide +kernel
theorem dW_through_0 : decode cW_through 0 = .ok (.aload_n 0, 1) := by decide +kernel
theorem dW_through_1 : decode cW_through 1 = .ok (.iload_n 3, 1) := by decide +kernel
theorem dW_through_2 : decode cW_through 2 = .ok (.putfield 30, 3) := by decide +kernel
theorem dW_through_5 : decode cW_through 5 = .ok (.aload_n 0, 1) := by decide +kernel
theorem dW_through_6 : decode cW_through 6 = .ok (.iload 4, 2) := by decide +kernel
theorem dW_through_8 : decode cW_through 8 = .ok (.putfield 33, 3) := by decide +kernel
theorem dW_through_11 : decode cW_through 11 = .ok (.aload_n 0, 1) := by decide +kernel
theorem dW_through_12 : decode cW_through 12 = .ok (.iload 5, 2) := by decide +kernel
theorem dW_through_14 : decode cW_through 14 = .ok (.putfield 36, 3) := by decide +kernel
theorem dW_through_17 : decode cW_through 17 = .ok (.aload_n 0, 1) := by decide +kernel
theorem dW_through_18 : decode cW_through 18 = .ok (.ldc 41, 2) := by decide +kernel
theorem dW_through_20 : decode cW_through 20 = .ok (.putfield 42, 3) := by decide +kernel
theorem dW_through_23 : decode cW_through 23 = .ok (.aload_n 0, 1) := by decide +kernel
theorem dW_through_24 : decode cW_through 24 = .ok (.iconst 0, 1) := by decide +kernel
theorem dW_through_25 : decode cW_through 25 = .ok (.putfield 26, 3) := by decide +kernel
theorem dW_through_28 : decode cW_through 28 = .ok (.aload_n 0, 1) := by decide +kernel
theorem dW_through_29 : decode cW_through 29 = .ok (.iconst (-1), 1) := by decide +kernel
theorem dW_through_30 : decode cW_through 30 = .ok (.putfield 45, 3) := by decide +kernel
theorem dW_through_33 : decode cW_through 33 = .ok (.aload_n 0, 1) := by decide +kernel
theorem dW_through_34 : decode cW_through 34 = .ok (.iconst 0, 1) := by decide +kernel
theorem dW_through_35 : decode cW_through 35 = .ok (.putfield 48, 3) := by decide +kernel
theorem dW_through_38 : decode cW_through 38 = .ok (.aload_n 0, 1) := by decide +kernel
theorem dW_through_39 : decode cW_through 39 = .ok (.iconst 0, 1) := by decide +kernel
theorem dW_through_40 : decode cW_through 40 = .ok (.putfield 51, 3) := by decide +kernel
theorem dW_through_43 : decode cW_through 43 = .ok (.aload_n 0, 1) := by decide +kernel
theorem dW_through_44 : decode cW_through 44 = .ok (.getfield 12, 3) := by decide +kernel
theorem dW_through_47 : decode cW_through 47 = .ok (.invokevirtual 54, 3) := by decide +kernel
theorem dW_through_50 : decode cW_through 50 = .ok (.aload_n 2, 1) := by decide +kernel
theorem dW_through_51 : decode cW_through 51 = .ok (.getfield 57, 3) := by decide +kernel
theorem dW_through_54 : decode cW_through 54 = .ok (.aload_n 0, 1) := by decide +kernel
theorem dW_through_55 : decode cW_through 55 = .ok (.getfield 12, 3) := by decide +kernel
theorem dW_through_58 : decode cW_through 58 = .ok (.iconst 1, 1) := by decide +kernel
theorem dW_through_59 : decode cW_through 59 = .ok (.iconst 2, 1) := by decide +kernel
theorem dW_through_60 : decode cW_through 60 = .ok (.invokevirtual 63, 3) := by decide +kernel
theorem dW_through_63 : decode cW_through 63 = .ok (.aload_n 0, 1) := by decide +kernel
theorem dW_through_64 : decode cW_through 64 = .ok (.getfield 12, 3) := by decide +kernel
theorem dW_through_67 : decode cW_through 67 = .ok (.getfield 69, 3) := by decide +kernel
theorem dW_through_70 : decode cW_through 70 = .ok (.ifCond .eq 7, 3) := by decide +kernel
theorem dW_through_73 : decode cW_through 73 = .ok (.iconst 0, 1) := by decide +kernel
theorem dW_through_74 : decode cW_through 74 = .ok (.goto 4, 3) := by decide +kernel
theorem dW_through_77 : decode cW_through 77 = .ok (.iconst (-1), 1) := by decide +kernel
theorem dW_through_78 : decode cW_through 78 = .ok (.istore 6, 2) := by decide +kernel
theorem dW_through_80 : decode cW_through 80 = .ok (.iconst 0, 1) := by decide +kernel
theorem dW_through_81 : decode cW_through 81 = .ok (.istore 7, 2) := by decide +kernel
theorem dW_through_83 : decode cW_through 83 = .ok (.iload 7, 2) := by decide +kernel
theorem dW_through_85 : decode cW_through 85 = .ok (.bipush 64, 2) := by decide +kernel
theorem dW_through_87 : decode cW_through 87 = .ok (.if_icmp .ge 29, 3) := by decide +kernel
theorem dW_through_90 : decode cW_through 90 = .ok (.iload 6, 2) := by decide +kernel
theorem dW_through_92 : decode cW_through 92 = .ok (.iconst (-1), 1) := by decide +kernel
theorem dW_through_93 : decode cW_through 93 = .ok (.if_icmp .eq 23, 3) := by decide +kernel
theorem dW_through_96 : decode cW_through 96 = .ok (.aload_n 0, 1) := by decide +kernel
theorem dW_through_97 : decode cW_through 97 = .ok (.iload 6, 2) := by decide +kernel
theorem dW_through_99 : decode cW_through 99 = .ok (.aload_n 1, 1) := by decide +kernel
theorem dW_through_100 : decode cW_through 100 = .ok (.aload_n 2, 1) := by decide +kernel
theorem dW_through_101 : decode cW_through 101 = .ok (.invokevirtual 73, 3) := by decide +kernel
theorem dW_through_104 : decode cW_through 104 = .ok (.aload_n 0, 1) := by decide +kernel
theorem dW_through_105 : decode cW_through 105 = .ok (.invokevirtual 77, 3) := by decide +kernel
theorem dW_through_108 : decode cW_through 108 = .ok (.istore 6, 2) := by decide +kernel
theorem dW_through_110 : decode cW_through 110 = .ok (.iinc 7 1, 3) := by decide +kernel
theorem dW_through_113 : decode cW_through 113 = .ok (.goto (-30), 3) := by decide +kernel
theorem dW_through_116 : decode cW_through 116 = .ok (.return_, 1) := by decide +kernel
theorem dA_fill_0 : decode cA_fill 0 = .ok (.iconst 0, 1) := by decide +kernel
theorem dA_fill_1 : decode cA_fill 1 = .ok (.istore_n 2, 1) := by decide +kernel
theorem dA_fill_2 : decode cA_fill 2 = .ok (.aload_n 0, 1) := by decide +kernel
theorem dA_fill_3 : decode cA_fill 3 = .ok (.arraylength, 1) := by decide +kernel
theorem dA_fill_4 : decode cA_fill 4 = .ok (.istore_n 3, 1) := by decide +kernel
theorem dA_fill_5 : decode cA_fill 5 = .ok (.iload_n 2, 1) := by decide +kernel
theorem dA_fill_6 : decode cA_fill 6 = .ok (.iload_n 3, 1) := by decide +kernel
theorem dA_fill_7 : decode cA_fill 7 = .ok (.if_icmp .ge 13, 3) := by decide +kernel
theorem dA_fill_10 : decode cA_fill 10 = .ok (.aload_n 0, 1) := by decide +kernel
theorem dA_fill_11 : decode cA_fill 11 = .ok (.iload_n 2, 1) := by decide +kernel
theorem dA_fill_12 : decode cA_fill 12 = .ok (.iload_n 1, 1) := by decide +kernel
theorem dA_fill_13 : decode cA_fill 13 = .ok (.iastore, 1) := by decide +kernel
theorem dA_fill_14 : decode cA_fill 14 = .ok (.iinc 2 1, 3) := by decide +kernel
theorem dA_fill_17 : decode cA_fill 17 = .ok (.goto (-12), 3) := by decide +kernel
theorem dA_fill_20 : decode cA_fill 20 = .ok (.return_, 1) := by decide +kernel
theorem dW_followFrom_0 : decode cW_followFrom 0 = .ok (.iload_n 1, 1) := by decide +kernel
theorem dW_followFrom_1 : decode cW_followFrom 1 = .ok (.istore 4, 2) := by decide +kernel
theorem dW_followFrom_3 : decode cW_followFrom 3 = .ok (.iconst 0, 1) := by decide +kernel
theorem dW_followFrom_4 : decode cW_followFrom 4 = .ok (.istore 5, 2) := by decide +kernel
theorem dW_followFrom_6 : decode cW_followFrom 6 = .ok (.iload 5, 2) := by decide +kernel
theorem dW_followFrom_8 : decode cW_followFrom 8 = .ok (.bipush 16, 2) := by decide +kernel
theorem dW_followFrom_10 : decode cW_followFrom 10 = .ok (.if_icmp .gt 55, 3) := by decide +kernel
theorem dW_followFrom_13 : decode cW_followFrom 13 = .ok (.iload 4, 2) := by decide +kernel
theorem dW_followFrom_15 : decode cW_followFrom 15 = .ok (.iconst (-1), 1) := by decide +kernel
theorem dW_followFrom_16 : decode cW_followFrom 16 = .ok (.if_icmp .eq 49, 3) := by decide +kernel
theorem dW_followFrom_19 : decode cW_followFrom 19 = .ok (.aload_n 0, 1) := by decide +kernel
theorem dW_followFrom_20 : decode cW_followFrom 20 = .ok (.iload 4, 2) := by decide +kernel
theorem dW_followFrom_22 : decode cW_followFrom 22 = .ok (.invokevirtual 85, 3) := by decide +kernel
theorem dW_followFrom_25 : decode cW_followFrom 25 = .ok (.iload 4, 2) := by decide +kernel
theorem dW_followFrom_27 : decode cW_followFrom 27 = .ok (.aload_n 3, 1) := by decide +kernel
theorem dW_followFrom_28 : decode cW_followFrom 28 = .ok (.getfield 89, 3) := by decide +kernel
theorem dW_followFrom_31 : decode cW_followFrom 31 = .ok (.if_icmp .lt 18, 3) := by decide +kernel
theorem dW_followFrom_34 : decode cW_followFrom 34 = .ok (.aload_n 0, 1) := by decide +kernel
theorem dW_followFrom_35 : decode cW_followFrom 35 = .ok (.iload 4, 2) := by decide +kernel
theorem dW_followFrom_37 : decode cW_followFrom 37 = .ok (.aload_n 3, 1) := by decide +kernel
theorem dW_followFrom_38 : decode cW_followFrom 38 = .ok (.iconst 0, 1) := by decide +kernel
theorem dW_followFrom_39 : decode cW_followFrom 39 = .ok (.iconst 0, 1) := by decide +kernel
theorem dW_followFrom_40 : decode cW_followFrom 40 = .ok (.invokevirtual 92, 3) := by decide +kernel
theorem dW_followFrom_43 : decode cW_followFrom 43 = .ok (.iconst (-1), 1) := by decide +kernel
theorem dW_followFrom_44 : decode cW_followFrom 44 = .ok (.istore 4, 2) := by decide +kernel
theorem dW_followFrom_46 : decode cW_followFrom 46 = .ok (.goto 13, 3) := by decide +kernel
theorem dW_followFrom_49 : decode cW_followFrom 49 = .ok (.aload_n 0, 1) := by decide +kernel
theorem dW_followFrom_50 : decode cW_followFrom 50 = .ok (.iload 4, 2) := by decide +kernel
theorem dW_followFrom_52 : decode cW_followFrom 52 = .ok (.aload_n 2, 1) := by decide +kernel
theorem dW_followFrom_53 : decode cW_followFrom 53 = .ok (.aload_n 3, 1) := by decide +kernel
theorem dW_followFrom_54 : decode cW_followFrom 54 = .ok (.invokevirtual 96, 3) := by decide +kernel
theorem dW_followFrom_57 : decode cW_followFrom 57 = .ok (.istore 4, 2) := by decide +kernel
theorem dW_followFrom_59 : decode cW_followFrom 59 = .ok (.iinc 5 1, 3) := by decide +kernel
theorem dW_followFrom_62 : decode cW_followFrom 62 = .ok (.goto (-56), 3) := by decide +kernel
theorem dW_followFrom_65 : decode cW_followFrom 65 = .ok (.return_, 1) := by decide +kernel
theorem dW_comeTo_0 : decode cW_comeTo 0 = .ok (.aload_n 0, 1) := by decide +kernel
theorem dW_comeTo_1 : decode cW_comeTo 1 = .ok (.dup, 1) := by decide +kernel
theorem dW_comeTo_2 : decode cW_comeTo 2 = .ok (.getfield 26, 3) := by decide +kernel
theorem dW_comeTo_5 : decode cW_comeTo 5 = .ok (.iconst 1, 1) := by decide +kernel
theorem dW_comeTo_6 : decode cW_comeTo 6 = .ok (.iload_n 1, 1) := by decide +kernel
theorem dW_comeTo_7 : decode cW_comeTo 7 = .ok (.ishl, 1) := by decide +kernel
theorem dW_comeTo_8 : decode cW_comeTo 8 = .ok (.ior, 1) := by decide +kernel
theorem dW_comeTo_9 : decode cW_comeTo 9 = .ok (.putfield 26, 3) := by decide +kernel
theorem dW_comeTo_12 : decode cW_comeTo 12 = .ok (.iload_n 1, 1) := by decide +kernel
theorem dW_comeTo_13 : decode cW_comeTo 13 = .ok (.aload_n 0, 1) := by decide +kernel
theorem dW_comeTo_14 : decode cW_comeTo 14 = .ok (.getfield 30, 3) := by decide +kernel
theorem dW_comeTo_17 : decode cW_comeTo 17 = .ok (.if_icmp .ne 29, 3) := by decide +kernel
theorem dW_comeTo_20 : decode cW_comeTo 20 = .ok (.aload_n 0, 1) := by decide +kernel
theorem dW_comeTo_21 : decode cW_comeTo 21 = .ok (.aload_n 0, 1) := by decide +kernel
theorem dW_comeTo_22 : decode cW_comeTo 22 = .ok (.getfield 42, 3) := by decide +kernel
theorem dW_comeTo_25 : decode cW_comeTo 25 = .ok (.aload_n 0, 1) := by decide +kernel
theorem dW_comeTo_26 : decode cW_comeTo 26 = .ok (.getfield 12, 3) := by decide +kernel
theorem dW_comeTo_29 : decode cW_comeTo 29 = .ok (.aload_n 0, 1) := by decide +kernel
theorem dW_comeTo_30 : decode cW_comeTo 30 = .ok (.getfield 33, 3) := by decide +kernel
theorem dW_comeTo_33 : decode cW_comeTo 33 = .ok (.aload_n 0, 1) := by decide +kernel
theorem dW_comeTo_34 : decode cW_comeTo 34 = .ok (.getfield 36, 3) := by decide +kernel
theorem dW_comeTo_37 : decode cW_comeTo 37 = .ok (.invokevirtual 100, 3) := by decide +kernel
theorem dW_comeTo_40 : decode cW_comeTo 40 = .ok (.invokestatic 104, 3) := by decide +kernel
theorem dW_comeTo_43 : decode cW_comeTo 43 = .ok (.putfield 42, 3) := by decide +kernel
theorem dW_comeTo_46 : decode cW_comeTo 46 = .ok (.return_, 1) := by decide +kernel
theorem dW_endAt_0 : decode cW_endAt 0 = .ok (.aload_n 0, 1) := by decide +kernel
theorem dW_endAt_1 : decode cW_endAt 1 = .ok (.getfield 12, 3) := by decide +kernel
theorem dW_endAt_4 : decode cW_endAt 4 = .ok (.iconst 3, 1) := by decide +kernel
theorem dW_endAt_5 : decode cW_endAt 5 = .ok (.iload_n 3, 1) := by decide +kernel
theorem dW_endAt_6 : decode cW_endAt 6 = .ok (.iload 4, 2) := by decide +kernel
theorem dW_endAt_8 : decode cW_endAt 8 = .ok (.invokevirtual 127, 3) := by decide +kernel
theorem dW_endAt_11 : decode cW_endAt 11 = .ok (.aload_n 0, 1) := by decide +kernel
theorem dW_endAt_12 : decode cW_endAt 12 = .ok (.iload_n 1, 1) := by decide +kernel
theorem dW_endAt_13 : decode cW_endAt 13 = .ok (.aload_n 2, 1) := by decide +kernel
theorem dW_endAt_14 : decode cW_endAt 14 = .ok (.getfield 164, 3) := by decide +kernel
theorem dW_endAt_17 : decode cW_endAt 17 = .ok (.aload_n 0, 1) := by decide +kernel
theorem dW_endAt_18 : decode cW_endAt 18 = .ok (.getfield 12, 3) := by decide +kernel
theorem dW_endAt_21 : decode cW_endAt 21 = .ok (.iconst 1, 1) := by decide +kernel
theorem dW_endAt_22 : decode cW_endAt 22 = .ok (.iconst 2, 1) := by decide +kernel
theorem dW_endAt_23 : decode cW_endAt 23 = .ok (.invokevirtual 160, 3) := by decide +kernel
theorem dW_endAt_26 : decode cW_endAt 26 = .ok (.invokevirtual 150, 3) := by decide +kernel
theorem dW_endAt_29 : decode cW_endAt 29 = .ok (.aload_n 0, 1) := by decide +kernel
theorem dW_endAt_30 : decode cW_endAt 30 = .ok (.dup, 1) := by decide +kernel
theorem dW_endAt_31 : decode cW_endAt 31 = .ok (.getfield 48, 3) := by decide +kernel
theorem dW_endAt_34 : decode cW_endAt 34 = .ok (.iconst 1, 1) := by decide +kernel
theorem dW_endAt_35 : decode cW_endAt 35 = .ok (.iadd, 1) := by decide +kernel
theorem dW_endAt_36 : decode cW_endAt 36 = .ok (.putfield 48, 3) := by decide +kernel
theorem dW_endAt_39 : decode cW_endAt 39 = .ok (.return_, 1) := by decide +kernel
theorem dW_noteShown_0 : decode cW_noteShown 0 = .ok (.iload_n 2, 1) := by decide +kernel
theorem dW_noteShown_1 : decode cW_noteShown 1 = .ok (.ifCond .ne 24, 3) := by decide +kernel
theorem dW_noteShown_4 : decode cW_noteShown 4 = .ok (.aload_n 0, 1) := by decide +kernel
theorem dW_noteShown_5 : decode cW_noteShown 5 = .ok (.getfield 45, 3) := by decide +kernel
theorem dW_noteShown_8 : decode cW_noteShown 8 = .ok (.iconst (-1), 1) := by decide +kernel
theorem dW_noteShown_9 : decode cW_noteShown 9 = .ok (.if_icmp .eq 11, 3) := by decide +kernel
theorem dW_noteShown_12 : decode cW_noteShown 12 = .ok (.iload_n 1, 1) := by decide +kernel
theorem dW_noteShown_13 : decode cW_noteShown 13 = .ok (.aload_n 0, 1) := by decide +kernel
theorem dW_noteShown_14 : decode cW_noteShown 14 = .ok (.getfield 45, 3) := by decide +kernel
theorem dW_noteShown_17 : decode cW_noteShown 17 = .ok (.if_icmp .ge 8, 3) := by decide +kernel
theorem dW_noteShown_20 : decode cW_noteShown 20 = .ok (.aload_n 0, 1) := by decide +kernel
theorem dW_noteShown_21 : decode cW_noteShown 21 = .ok (.iload_n 1, 1) := by decide +kernel
theorem dW_noteShown_22 : decode cW_noteShown 22 = .ok (.putfield 45, 3) := by decide +kernel
theorem dW_noteShown_25 : decode cW_noteShown 25 = .ok (.return_, 1) := by decide +kernel
theorem dW_pass_0 : decode cW_pass 0 = .ok (.aload_n 3, 1) := by decide +kernel
theorem dW_pass_1 : decode cW_pass 1 = .ok (.getfield 109, 3) := by decide +kernel
theorem dW_pass_4 : decode cW_pass 4 = .ok (.iload_n 1, 1) := by decide +kernel
theorem dW_pass_5 : decode cW_pass 5 = .ok (.aaload, 1) := by decide +kernel
theorem dW_pass_6 : decode cW_pass 6 = .ok (.astore 4, 2) := by decide +kernel
theorem dW_pass_8 : decode cW_pass 8 = .ok (.iload_n 1, 1) := by decide +kernel
theorem dW_pass_9 : decode cW_pass 9 = .ok (.iconst 1, 1) := by decide +kernel
theorem dW_pass_10 : decode cW_pass 10 = .ok (.iadd, 1) := by decide +kernel
theorem dW_pass_11 : decode cW_pass 11 = .ok (.istore 5, 2) := by decide +kernel
theorem dW_pass_13 : decode cW_pass 13 = .ok (.aload 4, 2) := by decide +kernel
theorem dW_pass_15 : decode cW_pass 15 = .ok (.getfield 113, 3) := by decide +kernel
theorem dW_pass_18 : decode cW_pass 18 = .ok (.tableswitch 221 0 7 #[46, 71, 88, 125, 221, 136, 188, 206], 46) := by decide +kernel
theorem dW_pass_64 : decode cW_pass 64 = .ok (.aload_n 0, 1) := by decide +kernel
theorem dW_pass_65 : decode cW_pass 65 = .ok (.getfield 12, 3) := by decide +kernel
theorem dW_pass_68 : decode cW_pass 68 = .ok (.aload 4, 2) := by decide +kernel
theorem dW_pass_70 : decode cW_pass 70 = .ok (.getfield 118, 3) := by decide +kernel
theorem dW_pass_73 : decode cW_pass 73 = .ok (.aload 4, 2) := by decide +kernel
theorem dW_pass_75 : decode cW_pass 75 = .ok (.getfield 121, 3) := by decide +kernel
theorem dW_pass_78 : decode cW_pass 78 = .ok (.aload 4, 2) := by decide +kernel
theorem dW_pass_80 : decode cW_pass 80 = .ok (.getfield 124, 3) := by decide +kernel
theorem dW_pass_83 : decode cW_pass 83 = .ok (.invokevirtual 127, 3) := by decide +kernel
theorem dW_pass_86 : decode cW_pass 86 = .ok (.goto 153, 3) := by decide +kernel
theorem dW_pass_89 : decode cW_pass 89 = .ok (.aload_n 0, 1) := by decide +kernel
theorem dW_pass_90 : decode cW_pass 90 = .ok (.iload_n 1, 1) := by decide +kernel
theorem dW_pass_91 : decode cW_pass 91 = .ok (.aload 4, 2) := by decide +kernel
theorem dW_pass_93 : decode cW_pass 93 = .ok (.aload_n 2, 1) := by decide +kernel
theorem dW_pass_94 : decode cW_pass 94 = .ok (.aload 4, 2) := by decide +kernel
theorem dW_pass_96 : decode cW_pass 96 = .ok (.getfield 124, 3) := by decide +kernel
theorem dW_pass_99 : decode cW_pass 99 = .ok (.aaload, 1) := by decide +kernel
theorem dW_pass_100 : decode cW_pass 100 = .ok (.invokevirtual 131, 3) := by decide +kernel
theorem dW_pass_103 : decode cW_pass 103 = .ok (.goto 136, 3) := by decide +kernel
theorem dW_pass_106 : decode cW_pass 106 = .ok (.aload_n 0, 1) := by decide +kernel
theorem dW_pass_107 : decode cW_pass 107 = .ok (.aload 4, 2) := by decide +kernel
theorem dW_pass_109 : decode cW_pass 109 = .ok (.aload_n 3, 1) := by decide +kernel
theorem dW_pass_110 : decode cW_pass 110 = .ok (.aload 4, 2) := by decide +kernel
theorem dW_pass_112 : decode cW_pass 112 = .ok (.invokevirtual 135, 3) := by decide +kernel
theorem dW_pass_115 : decode cW_pass 115 = .ok (.invokevirtual 139, 3) := by decide +kernel
theorem dW_pass_118 : decode cW_pass 118 = .ok (.aload_n 0, 1) := by decide +kernel
theorem dW_pass_119 : decode cW_pass 119 = .ok (.getfield 12, 3) := by decide +kernel
theorem dW_pass_122 : decode cW_pass 122 = .ok (.aload 4, 2) := by decide +kernel
theorem dW_pass_124 : decode cW_pass 124 = .ok (.getfield 118, 3) := by decide +kernel
theorem dW_pass_127 : decode cW_pass 127 = .ok (.aload 4, 2) := by decide +kernel
theorem dW_pass_129 : decode cW_pass 129 = .ok (.getfield 121, 3) := by decide +kernel
theorem dW_pass_132 : decode cW_pass 132 = .ok (.aload 4, 2) := by decide +kernel
theorem dW_pass_134 : decode cW_pass 134 = .ok (.getfield 124, 3) := by decide +kernel
theorem dW_pass_137 : decode cW_pass 137 = .ok (.invokevirtual 143, 3) := by decide +kernel
theorem dW_pass_140 : decode cW_pass 140 = .ok (.goto 99, 3) := by decide +kernel
theorem dW_pass_143 : decode cW_pass 143 = .ok (.aload_n 3, 1) := by decide +kernel
theorem dW_pass_144 : decode cW_pass 144 = .ok (.aload 4, 2) := by decide +kernel
theorem dW_pass_146 : decode cW_pass 146 = .ok (.invokevirtual 135, 3) := by decide +kernel
theorem dW_pass_149 : decode cW_pass 149 = .ok (.istore 5, 2) := by decide +kernel
theorem dW_pass_151 : decode cW_pass 151 = .ok (.goto 88, 3) := by decide +kernel
theorem dW_pass_154 : decode cW_pass 154 = .ok (.aload_n 0, 1) := by decide +kernel
theorem dW_pass_155 : decode cW_pass 155 = .ok (.iload_n 1, 1) := by decide +kernel
theorem dW_pass_156 : decode cW_pass 156 = .ok (.aload_n 0, 1) := by decide +kernel
theorem dW_pass_157 : decode cW_pass 157 = .ok (.getfield 12, 3) := by decide +kernel
theorem dW_pass_160 : decode cW_pass 160 = .ok (.aload 4, 2) := by decide +kernel
theorem dW_pass_162 : decode cW_pass 162 = .ok (.getfield 118, 3) := by decide +kernel
theorem dW_pass_165 : decode cW_pass 165 = .ok (.aload 4, 2) := by decide +kernel
theorem dW_pass_167 : decode cW_pass 167 = .ok (.getfield 121, 3) := by decide +kernel
theorem dW_pass_170 : decode cW_pass 170 = .ok (.aload 4, 2) := by decide +kernel
theorem dW_pass_172 : decode cW_pass 172 = .ok (.getfield 124, 3) := by decide +kernel
theorem dW_pass_175 : decode cW_pass 175 = .ok (.invokevirtual 146, 3) := by decide +kernel
theorem dW_pass_178 : decode cW_pass 178 = .ok (.invokevirtual 150, 3) := by decide +kernel
theorem dW_pass_181 : decode cW_pass 181 = .ok (.aload_n 0, 1) := by decide +kernel
theorem dW_pass_182 : decode cW_pass 182 = .ok (.getfield 12, 3) := by decide +kernel
theorem dW_pass_185 : decode cW_pass 185 = .ok (.aload 4, 2) := by decide +kernel
theorem dW_pass_187 : decode cW_pass 187 = .ok (.getfield 118, 3) := by decide +kernel
theorem dW_pass_190 : decode cW_pass 190 = .ok (.aload 4, 2) := by decide +kernel
theorem dW_pass_192 : decode cW_pass 192 = .ok (.getfield 121, 3) := by decide +kernel
theorem dW_pass_195 : decode cW_pass 195 = .ok (.aload 4, 2) := by decide +kernel
theorem dW_pass_197 : decode cW_pass 197 = .ok (.getfield 124, 3) := by decide +kernel
theorem dW_pass_200 : decode cW_pass 200 = .ok (.invokevirtual 143, 3) := by decide +kernel
theorem dW_pass_203 : decode cW_pass 203 = .ok (.goto 36, 3) := by decide +kernel
theorem dW_pass_206 : decode cW_pass 206 = .ok (.aload_n 0, 1) := by decide +kernel
theorem dW_pass_207 : decode cW_pass 207 = .ok (.iload_n 1, 1) := by decide +kernel
theorem dW_pass_208 : decode cW_pass 208 = .ok (.aload_n 3, 1) := by decide +kernel
theorem dW_pass_209 : decode cW_pass 209 = .ok (.aload 4, 2) := by decide +kernel
theorem dW_pass_211 : decode cW_pass 211 = .ok (.getfield 121, 3) := by decide +kernel
theorem dW_pass_214 : decode cW_pass 214 = .ok (.aload 4, 2) := by decide +kernel
theorem dW_pass_216 : decode cW_pass 216 = .ok (.getfield 124, 3) := by decide +kernel
theorem dW_pass_219 : decode cW_pass 219 = .ok (.invokevirtual 92, 3) := by decide +kernel
theorem dW_pass_222 : decode cW_pass 222 = .ok (.iconst (-1), 1) := by decide +kernel
theorem dW_pass_223 : decode cW_pass 223 = .ok (.ireturn, 1) := by decide +kernel
theorem dW_pass_224 : decode cW_pass 224 = .ok (.aload_n 0, 1) := by decide +kernel
theorem dW_pass_225 : decode cW_pass 225 = .ok (.getfield 12, 3) := by decide +kernel
theorem dW_pass_228 : decode cW_pass 228 = .ok (.aload 4, 2) := by decide +kernel
theorem dW_pass_230 : decode cW_pass 230 = .ok (.getfield 118, 3) := by decide +kernel
theorem dW_pass_233 : decode cW_pass 233 = .ok (.invokevirtual 154, 3) := by decide +kernel
theorem dW_pass_236 : decode cW_pass 236 = .ok (.goto 3, 3) := by decide +kernel
theorem dW_pass_239 : decode cW_pass 239 = .ok (.aload_n 0, 1) := by decide +kernel
theorem dW_pass_240 : decode cW_pass 240 = .ok (.getfield 12, 3) := by decide +kernel
theorem dW_pass_243 : decode cW_pass 243 = .ok (.getfield 69, 3) := by decide +kernel
theorem dW_pass_246 : decode cW_pass 246 = .ok (.ifCond .eq 8, 3) := by decide +kernel
theorem dW_pass_249 : decode cW_pass 249 = .ok (.iload 5, 2) := by decide +kernel
theorem dW_pass_251 : decode cW_pass 251 = .ok (.goto 4, 3) := by decide +kernel
theorem dW_pass_254 : decode cW_pass 254 = .ok (.iconst (-1), 1) := by decide +kernel
theorem dW_pass_255 : decode cW_pass 255 = .ok (.ireturn, 1) := by decide +kernel
theorem dW_passCall_0 : decode cW_passCall 0 = .ok (.aload_n 0, 1) := by decide +kernel
theorem dW_passCall_1 : decode cW_passCall 1 = .ok (.iload_n 1, 1) := by decide +kernel
theorem dW_passCall_2 : decode cW_passCall 2 = .ok (.aload_n 3, 1) := by decide +kernel
theorem dW_passCall_3 : decode cW_passCall 3 = .ok (.getfield 57, 3) := by decide +kernel
theorem dW_passCall_6 : decode cW_passCall 6 = .ok (.aload_n 0, 1) := by decide +kernel
theorem dW_passCall_7 : decode cW_passCall 7 = .ok (.getfield 12, 3) := by decide +kernel
theorem dW_passCall_10 : decode cW_passCall 10 = .ok (.aload_n 2, 1) := by decide +kernel
theorem dW_passCall_11 : decode cW_passCall 11 = .ok (.getfield 121, 3) := by decide +kernel
theorem dW_passCall_14 : decode cW_passCall 14 = .ok (.aload_n 2, 1) := by decide +kernel
theorem dW_passCall_15 : decode cW_passCall 15 = .ok (.getfield 157, 3) := by decide +kernel
theorem dW_passCall_18 : decode cW_passCall 18 = .ok (.invokevirtual 160, 3) := by decide +kernel
theorem dW_passCall_21 : decode cW_passCall 21 = .ok (.invokevirtual 150, 3) := by decide +kernel
theorem dW_passCall_24 : decode cW_passCall 24 = .ok (.aload_n 3, 1) := by decide +kernel
theorem dW_passCall_25 : decode cW_passCall 25 = .ok (.getfield 164, 3) := by decide +kernel
theorem dW_passCall_28 : decode cW_passCall 28 = .ok (.aload_n 0, 1) := by decide +kernel
theorem dW_passCall_29 : decode cW_passCall 29 = .ok (.getfield 12, 3) := by decide +kernel
theorem dW_passCall_32 : decode cW_passCall 32 = .ok (.aload_n 2, 1) := by decide +kernel
theorem dW_passCall_33 : decode cW_passCall 33 = .ok (.getfield 121, 3) := by decide +kernel
theorem dW_passCall_36 : decode cW_passCall 36 = .ok (.aload_n 2, 1) := by decide +kernel
theorem dW_passCall_37 : decode cW_passCall 37 = .ok (.getfield 157, 3) := by decide +kernel
theorem dW_passCall_40 : decode cW_passCall 40 = .ok (.invokevirtual 63, 3) := by decide +kernel
theorem dW_passCall_43 : decode cW_passCall 43 = .ok (.aload_n 0, 1) := by decide +kernel
theorem dW_passCall_44 : decode cW_passCall 44 = .ok (.getfield 12, 3) := by decide +kernel
theorem dW_passCall_47 : decode cW_passCall 47 = .ok (.aload_n 2, 1) := by decide +kernel
theorem dW_passCall_48 : decode cW_passCall 48 = .ok (.getfield 118, 3) := by decide +kernel
theorem dW_passCall_51 : decode cW_passCall 51 = .ok (.iconst 3, 1) := by decide +kernel
theorem dW_passCall_52 : decode cW_passCall 52 = .ok (.iconst 0, 1) := by decide +kernel
theorem dW_passCall_53 : decode cW_passCall 53 = .ok (.invokevirtual 127, 3) := by decide +kernel
theorem dW_passCall_56 : decode cW_passCall 56 = .ok (.aload_n 0, 1) := by decide +kernel
theorem dW_passCall_57 : decode cW_passCall 57 = .ok (.getfield 12, 3) := by decide +kernel
theorem dW_passCall_60 : decode cW_passCall 60 = .ok (.iconst 3, 1) := by decide +kernel
theorem dW_passCall_61 : decode cW_passCall 61 = .ok (.invokevirtual 154, 3) := by decide +kernel
theorem dW_passCall_64 : decode cW_passCall 64 = .ok (.return_, 1) := by decide +kernel
theorem dF_targetOf_0 : decode cF_targetOf 0 = .ok (.aload_n 1, 1) := by decide +kernel
theorem dF_targetOf_1 : decode cF_targetOf 1 = .ok (.getfield 79, 3) := by decide +kernel
theorem dF_targetOf_4 : decode cF_targetOf 4 = .ok (.iconst (-1), 1) := by decide +kernel
theorem dF_targetOf_5 : decode cF_targetOf 5 = .ok (.if_icmp .ne 10, 3) := by decide +kernel
theorem dF_targetOf_8 : decode cF_targetOf 8 = .ok (.aload_n 0, 1) := by decide +kernel
theorem dF_targetOf_9 : decode cF_targetOf 9 = .ok (.getfield 36, 3) := by decide +kernel
theorem dF_targetOf_12 : decode cF_targetOf 12 = .ok (.goto 7, 3) := by decide +kernel
theorem dF_targetOf_15 : decode cF_targetOf 15 = .ok (.aload_n 1, 1) := by decide +kernel
theorem dF_targetOf_16 : decode cF_targetOf 16 = .ok (.getfield 79, 3) := by decide +kernel
theorem dF_targetOf_19 : decode cF_targetOf 19 = .ok (.ireturn, 1) := by decide +kernel
theorem dW_leaveOtherSide_0 : decode cW_leaveOtherSide 0 = .ok (.aload_n 0, 1) := by decide +kernel
theorem dW_leaveOtherSide_1 : decode cW_leaveOtherSide 1 = .ok (.getfield 51, 3) := by decide +kernel
theorem dW_leaveOtherSide_4 : decode cW_leaveOtherSide 4 = .ok (.bipush 6, 2) := by decide +kernel
theorem dW_leaveOtherSide_6 : decode cW_leaveOtherSide 6 = .ok (.if_icmp .lt 4, 3) := by decide +kernel
theorem dW_leaveOtherSide_9 : decode cW_leaveOtherSide 9 = .ok (.return_, 1) := by decide +kernel
theorem dW_leaveOtherSide_10 : decode cW_leaveOtherSide 10 = .ok (.aload_n 0, 1) := by decide +kernel
theorem dW_leaveOtherSide_11 : decode cW_leaveOtherSide 11 = .ok (.getfield 18, 3) := by decide +kernel
theorem dW_leaveOtherSide_14 : decode cW_leaveOtherSide 14 = .ok (.aload_n 0, 1) := by decide +kernel
theorem dW_leaveOtherSide_15 : decode cW_leaveOtherSide 15 = .ok (.getfield 51, 3) := by decide +kernel
theorem dW_leaveOtherSide_18 : decode cW_leaveOtherSide 18 = .ok (.aaload, 1) := by decide +kernel
theorem dW_leaveOtherSide_19 : decode cW_leaveOtherSide 19 = .ok (.astore_n 3, 1) := by decide +kernel
theorem dW_leaveOtherSide_20 : decode cW_leaveOtherSide 20 = .ok (.aload_n 3, 1) := by decide +kernel
theorem dW_leaveOtherSide_21 : decode cW_leaveOtherSide 21 = .ok (.aload_n 0, 1) := by decide +kernel
theorem dW_leaveOtherSide_22 : decode cW_leaveOtherSide 22 = .ok (.getfield 12, 3) := by decide +kernel
theorem dW_leaveOtherSide_25 : decode cW_leaveOtherSide 25 = .ok (.invokevirtual 81, 3) := by decide +kernel
theorem dW_leaveOtherSide_28 : decode cW_leaveOtherSide 28 = .ok (.aload_n 3, 1) := by decide +kernel
theorem dW_leaveOtherSide_29 : decode cW_leaveOtherSide 29 = .ok (.aload_n 1, 1) := by decide +kernel
theorem dW_leaveOtherSide_30 : decode cW_leaveOtherSide 30 = .ok (.getfield 121, 3) := by decide +kernel
theorem dW_leaveOtherSide_33 : decode cW_leaveOtherSide 33 = .ok (.aload_n 1, 1) := by decide +kernel
theorem dW_leaveOtherSide_34 : decode cW_leaveOtherSide 34 = .ok (.getfield 118, 3) := by decide +kernel
theorem dW_leaveOtherSide_37 : decode cW_leaveOtherSide 37 = .ok (.aload_n 1, 1) := by decide +kernel
theorem dW_leaveOtherSide_38 : decode cW_leaveOtherSide 38 = .ok (.getfield 124, 3) := by decide +kernel
theorem dW_leaveOtherSide_41 : decode cW_leaveOtherSide 41 = .ok (.ineg, 1) := by decide +kernel
theorem dW_leaveOtherSide_42 : decode cW_leaveOtherSide 42 = .ok (.iconst 1, 1) := by decide +kernel
theorem dW_leaveOtherSide_43 : decode cW_leaveOtherSide 43 = .ok (.isub, 1) := by decide +kernel
theorem dW_leaveOtherSide_44 : decode cW_leaveOtherSide 44 = .ok (.invokevirtual 143, 3) := by decide +kernel
theorem dW_leaveOtherSide_47 : decode cW_leaveOtherSide 47 = .ok (.aload_n 3, 1) := by decide +kernel
theorem dW_leaveOtherSide_48 : decode cW_leaveOtherSide 48 = .ok (.getfield 69, 3) := by decide +kernel
theorem dW_leaveOtherSide_51 : decode cW_leaveOtherSide 51 = .ok (.ifCond .eq 23, 3) := by decide +kernel
theorem dW_leaveOtherSide_54 : decode cW_leaveOtherSide 54 = .ok (.aload_n 0, 1) := by decide +kernel
theorem dW_leaveOtherSide_55 : decode cW_leaveOtherSide 55 = .ok (.getfield 22, 3) := by decide +kernel
theorem dW_leaveOtherSide_58 : decode cW_leaveOtherSide 58 = .ok (.aload_n 0, 1) := by decide +kernel
theorem dW_leaveOtherSide_59 : decode cW_leaveOtherSide 59 = .ok (.getfield 51, 3) := by decide +kernel
theorem dW_leaveOtherSide_62 : decode cW_leaveOtherSide 62 = .ok (.iload_n 2, 1) := by decide +kernel
theorem dW_leaveOtherSide_63 : decode cW_leaveOtherSide 63 = .ok (.iastore, 1) := by decide +kernel
theorem dW_leaveOtherSide_64 : decode cW_leaveOtherSide 64 = .ok (.aload_n 0, 1) := by decide +kernel
theorem dW_leaveOtherSide_65 : decode cW_leaveOtherSide 65 = .ok (.dup, 1) := by decide +kernel
theorem dW_leaveOtherSide_66 : decode cW_leaveOtherSide 66 = .ok (.getfield 51, 3) := by decide +kernel
theorem dW_leaveOtherSide_69 : decode cW_leaveOtherSide 69 = .ok (.iconst 1, 1) := by decide +kernel
theorem dW_leaveOtherSide_70 : decode cW_leaveOtherSide 70 = .ok (.iadd, 1) := by decide +kernel
theorem dW_leaveOtherSide_71 : decode cW_leaveOtherSide 71 = .ok (.putfield 51, 3) := by decide +kernel
theorem dW_leaveOtherSide_74 : decode cW_leaveOtherSide 74 = .ok (.return_, 1) := by decide +kernel
theorem dW_takeWaitingSide_0 : decode cW_takeWaitingSide 0 = .ok (.aload_n 0, 1) := by decide +kernel
theorem dW_takeWaitingSide_1 : decode cW_takeWaitingSide 1 = .ok (.getfield 51, 3) := by decide +kernel
theorem dW_takeWaitingSide_4 : decode cW_takeWaitingSide 4 = .ok (.ifCond .ne 5, 3) := by decide +kernel
theorem dW_takeWaitingSide_7 : decode cW_takeWaitingSide 7 = .ok (.iconst (-1), 1) := by decide +kernel
theorem dW_takeWaitingSide_8 : decode cW_takeWaitingSide 8 = .ok (.ireturn, 1) := by decide +kernel
theorem dW_takeWaitingSide_9 : decode cW_takeWaitingSide 9 = .ok (.aload_n 0, 1) := by decide +kernel
theorem dW_takeWaitingSide_10 : decode cW_takeWaitingSide 10 = .ok (.dup, 1) := by decide +kernel
theorem dW_takeWaitingSide_11 : decode cW_takeWaitingSide 11 = .ok (.getfield 51, 3) := by decide +kernel
theorem dW_takeWaitingSide_14 : decode cW_takeWaitingSide 14 = .ok (.iconst 1, 1) := by decide +kernel
theorem dW_takeWaitingSide_15 : decode cW_takeWaitingSide 15 = .ok (.isub, 1) := by decide +kernel
theorem dW_takeWaitingSide_16 : decode cW_takeWaitingSide 16 = .ok (.putfield 51, 3) := by decide +kernel
theorem dW_takeWaitingSide_19 : decode cW_takeWaitingSide 19 = .ok (.aload_n 0, 1) := by decide +kernel
theorem dW_takeWaitingSide_20 : decode cW_takeWaitingSide 20 = .ok (.getfield 12, 3) := by decide +kernel
theorem dW_takeWaitingSide_23 : decode cW_takeWaitingSide 23 = .ok (.aload_n 0, 1) := by decide +kernel
theorem dW_takeWaitingSide_24 : decode cW_takeWaitingSide 24 = .ok (.getfield 18, 3) := by decide +kernel
theorem dW_takeWaitingSide_27 : decode cW_takeWaitingSide 27 = .ok (.aload_n 0, 1) := by decide +kernel
theorem dW_takeWaitingSide_28 : decode cW_takeWaitingSide 28 = .ok (.getfield 51, 3) := by decide +kernel
theorem dW_takeWaitingSide_31 : decode cW_takeWaitingSide 31 = .ok (.aaload, 1) := by decide +kernel
theorem dW_takeWaitingSide_32 : decode cW_takeWaitingSide 32 = .ok (.invokevirtual 81, 3) := by decide +kernel
theorem dW_takeWaitingSide_35 : decode cW_takeWaitingSide 35 = .ok (.aload_n 0, 1) := by decide +kernel
theorem dW_takeWaitingSide_36 : decode cW_takeWaitingSide 36 = .ok (.getfield 22, 3) := by decide +kernel
theorem dW_takeWaitingSide_39 : decode cW_takeWaitingSide 39 = .ok (.aload_n 0, 1) := by decide +kernel
theorem dW_takeWaitingSide_40 : decode cW_takeWaitingSide 40 = .ok (.getfield 51, 3) := by decide +kernel
theorem dW_takeWaitingSide_43 : decode cW_takeWaitingSide 43 = .ok (.iaload, 1) := by decide +kernel
theorem dW_takeWaitingSide_44 : decode cW_takeWaitingSide 44 = .ok (.ireturn, 1) := by decide +kernel
theorem dW_cameTo_0 : decode cW_cameTo 0 = .ok (.aload_n 0, 1) := by decide +kernel
theorem dW_cameTo_1 : decode cW_cameTo 1 = .ok (.getfield 26, 3) := by decide +kernel
theorem dW_cameTo_4 : decode cW_cameTo 4 = .ok (.iload_n 1, 1) := by decide +kernel
theorem dW_cameTo_5 : decode cW_cameTo 5 = .ok (.ishr, 1) := by decide +kernel
theorem dW_cameTo_6 : decode cW_cameTo 6 = .ok (.iconst 1, 1) := by decide +kernel
theorem dW_cameTo_7 : decode cW_cameTo 7 = .ok (.iand, 1) := by decide +kernel
theorem dW_cameTo_8 : decode cW_cameTo 8 = .ok (.iconst 1, 1) := by decide +kernel
theorem dW_cameTo_9 : decode cW_cameTo 9 = .ok (.if_icmp .ne 7, 3) := by decide +kernel
theorem dW_cameTo_12 : decode cW_cameTo 12 = .ok (.iconst 1, 1) := by decide +kernel
theorem dW_cameTo_13 : decode cW_cameTo 13 = .ok (.goto 4, 3) := by decide +kernel
theorem dW_cameTo_16 : decode cW_cameTo 16 = .ok (.iconst 0, 1) := by decide +kernel
theorem dW_cameTo_17 : decode cW_cameTo 17 = .ok (.ireturn, 1) := by decide +kernel
end
section
theorem dC_init_0 : decode cC_init 0 = .ok (.aload_n 0, 1) := by decide +kernel
theorem dC_init_1 : decode cC_init 1 = .ok (.invokespecial 3, 3) := by decide +kernel
theorem dC_init_4 : decode cC_init 4 = .ok (.aload_n 0, 1) := by decide +kernel
theorem dC_init_5 : decode cC_init 5 = .ok (.iconst 4, 1) := by decide +kernel
theorem dC_init_6 : decode cC_init 6 = .ok (.anewarray 9, 3) := by decide +kernel
theorem dC_init_9 : decode cC_init 9 = .ok (.putfield 11, 3) := by decide +kernel
theorem dC_init_12 : decode cC_init 12 = .ok (.aload_n 0, 1) := by decide +kernel
theorem dC_init_13 : decode cC_init 13 = .ok (.new 15, 3) := by decide +kernel
theorem dC_init_16 : decode cC_init 16 = .ok (.dup, 1) := by decide +kernel
theorem dC_init_17 : decode cC_init 17 = .ok (.invokespecial 17, 3) := by decide +kernel
theorem dC_init_20 : decode cC_init 20 = .ok (.putfield 18, 3) := by decide +kernel
theorem dC_init_23 : decode cC_init 23 = .ok (.aload_n 0, 1) := by decide +kernel
theorem dC_init_24 : decode cC_init 24 = .ok (.new 22, 3) := by decide +kernel
theorem dC_init_27 : decode cC_init 27 = .ok (.dup, 1) := by decide +kernel
theorem dC_init_28 : decode cC_init 28 = .ok (.invokespecial 24, 3) := by decide +kernel
theorem dC_init_31 : decode cC_init 31 = .ok (.putfield 25, 3) := by decide +kernel
theorem dC_init_34 : decode cC_init 34 = .ok (.iconst 0, 1) := by decide +kernel
theorem dC_init_35 : decode cC_init 35 = .ok (.istore_n 1, 1) := by decide +kernel
theorem dC_init_36 : decode cC_init 36 = .ok (.iload_n 1, 1) := by decide +kernel
theorem dC_init_37 : decode cC_init 37 = .ok (.iconst 4, 1) := by decide +kernel
theorem dC_init_38 : decode cC_init 38 = .ok (.if_icmp .ge 22, 3) := by decide +kernel
theorem dC_init_41 : decode cC_init 41 = .ok (.aload_n 0, 1) := by decide +kernel
theorem dC_init_42 : decode cC_init 42 = .ok (.getfield 11, 3) := by decide +kernel
theorem dC_init_45 : decode cC_init 45 = .ok (.iload_n 1, 1) := by decide +kernel
theorem dC_init_46 : decode cC_init 46 = .ok (.new 9, 3) := by decide +kernel
theorem dC_init_49 : decode cC_init 49 = .ok (.dup, 1) := by decide +kernel
theorem dC_init_50 : decode cC_init 50 = .ok (.invokespecial 29, 3) := by decide +kernel
theorem dC_init_53 : decode cC_init 53 = .ok (.aastore, 1) := by decide +kernel
theorem dC_init_54 : decode cC_init 54 = .ok (.iinc 1 1, 3) := by decide +kernel
theorem dC_init_57 : decode cC_init 57 = .ok (.goto (-21), 3) := by decide +kernel
theorem dC_init_60 : decode cC_init 60 = .ok (.return_, 1) := by decide +kernel
theorem dC_refine_0 : decode cC_refine 0 = .ok (.iload_n 1, 1) := by decide +kernel
theorem dC_refine_1 : decode cC_refine 1 = .ok (.invokestatic 30, 3) := by decide +kernel
theorem dC_refine_4 : decode cC_refine 4 = .ok (.ifCond .eq 12, 3) := by decide +kernel
theorem dC_refine_7 : decode cC_refine 7 = .ok (.iload_n 2, 1) := by decide +kernel
theorem dC_refine_8 : decode cC_refine 8 = .ok (.iconst 0, 1) := by decide +kernel
theorem dC_refine_9 : decode cC_refine 9 = .ok (.iconst 1, 1) := by decide +kernel
theorem dC_refine_10 : decode cC_refine 10 = .ok (.invokestatic 34, 3) := by decide +kernel
theorem dC_refine_13 : decode cC_refine 13 = .ok (.ifCond .ne 13, 3) := by decide +kernel
theorem dC_refine_16 : decode cC_refine 16 = .ok (.new 38, 3) := by decide +kernel
theorem dC_refine_19 : decode cC_refine 19 = .ok (.dup, 1) := by decide +kernel
theorem dC_refine_20 : decode cC_refine 20 = .ok (.ldc 40, 2) := by decide +kernel
theorem dC_refine_22 : decode cC_refine 22 = .ok (.invokespecial 42, 3) := by decide +kernel
theorem dC_refine_25 : decode cC_refine 25 = .ok (.athrow, 1) := by decide +kernel
theorem dC_refine_26 : decode cC_refine 26 = .ok (.iload_n 2, 1) := by decide +kernel
theorem dC_refine_27 : decode cC_refine 27 = .ok (.ifCond .ne 7, 3) := by decide +kernel
theorem dC_refine_30 : decode cC_refine 30 = .ok (.iconst 2, 1) := by decide +kernel
theorem dC_refine_31 : decode cC_refine 31 = .ok (.goto 4, 3) := by decide +kernel
theorem dC_refine_34 : decode cC_refine 34 = .ok (.iconst 3, 1) := by decide +kernel
theorem dC_refine_35 : decode cC_refine 35 = .ok (.istore 6, 2) := by decide +kernel
theorem dC_refine_37 : decode cC_refine 37 = .ok (.iload_n 3, 1) := by decide +kernel
theorem dC_refine_38 : decode cC_refine 38 = .ok (.iconst 0, 1) := by decide +kernel
theorem dC_refine_39 : decode cC_refine 39 = .ok (.iload 6, 2) := by decide +kernel
theorem dC_refine_41 : decode cC_refine 41 = .ok (.invokestatic 34, 3) := by decide +kernel
theorem dC_refine_44 : decode cC_refine 44 = .ok (.ifCond .eq 22, 3) := by decide +kernel
theorem dC_refine_47 : decode cC_refine 47 = .ok (.iload 4, 2) := by decide +kernel
theorem dC_refine_49 : decode cC_refine 49 = .ok (.iconst 0, 1) := by decide +kernel
theorem dC_refine_50 : decode cC_refine 50 = .ok (.iload 6, 2) := by decide +kernel
theorem dC_refine_52 : decode cC_refine 52 = .ok (.invokestatic 34, 3) := by decide +kernel
theorem dC_refine_55 : decode cC_refine 55 = .ok (.ifCond .eq 11, 3) := by decide +kernel
theorem dC_refine_58 : decode cC_refine 58 = .ok (.iload 5, 2) := by decide +kernel
theorem dC_refine_60 : decode cC_refine 60 = .ok (.invokestatic 45, 3) := by decide +kernel
theorem dC_refine_63 : decode cC_refine 63 = .ok (.ifCond .ne 13, 3) := by decide +kernel
theorem dC_refine_66 : decode cC_refine 66 = .ok (.new 38, 3) := by decide +kernel
theorem dC_refine_69 : decode cC_refine 69 = .ok (.dup, 1) := by decide +kernel
theorem dC_refine_70 : decode cC_refine 70 = .ok (.ldc 48, 2) := by decide +kernel
theorem dC_refine_72 : decode cC_refine 72 = .ok (.invokespecial 42, 3) := by decide +kernel
theorem dC_refine_75 : decode cC_refine 75 = .ok (.athrow, 1) := by decide +kernel
theorem dC_refine_76 : decode cC_refine 76 = .ok (.iload_n 2, 1) := by decide +kernel
theorem dC_refine_77 : decode cC_refine 77 = .ok (.ifCond .ne 15, 3) := by decide +kernel
theorem dC_refine_80 : decode cC_refine 80 = .ok (.aload_n 0, 1) := by decide +kernel
theorem dC_refine_81 : decode cC_refine 81 = .ok (.getfield 11, 3) := by decide +kernel
theorem dC_refine_84 : decode cC_refine 84 = .ok (.iload_n 1, 1) := by decide +kernel
theorem dC_refine_85 : decode cC_refine 85 = .ok (.aaload, 1) := by decide +kernel
theorem dC_refine_86 : decode cC_refine 86 = .ok (.getfield 50, 3) := by decide +kernel
theorem dC_refine_89 : decode cC_refine 89 = .ok (.goto 12, 3) := by decide +kernel
theorem dC_refine_92 : decode cC_refine 92 = .ok (.aload_n 0, 1) := by decide +kernel
theorem dC_refine_93 : decode cC_refine 93 = .ok (.getfield 11, 3) := by decide +kernel
theorem dC_refine_96 : decode cC_refine 96 = .ok (.iload_n 1, 1) := by decide +kernel
theorem dC_refine_97 : decode cC_refine 97 = .ok (.aaload, 1) := by decide +kernel
theorem dC_refine_98 : decode cC_refine 98 = .ok (.getfield 54, 3) := by decide +kernel
theorem dC_refine_101 : decode cC_refine 101 = .ok (.astore 7, 2) := by decide +kernel
theorem dC_refine_103 : decode cC_refine 103 = .ok (.aload 7, 2) := by decide +kernel
theorem dC_refine_105 : decode cC_refine 105 = .ok (.getfield 57, 3) := by decide +kernel
theorem dC_refine_108 : decode cC_refine 108 = .ok (.iconst 4, 1) := by decide +kernel
theorem dC_refine_109 : decode cC_refine 109 = .ok (.if_icmp .lt 13, 3) := by decide +kernel
theorem dC_refine_112 : decode cC_refine 112 = .ok (.new 63, 3) := by decide +kernel
theorem dC_refine_115 : decode cC_refine 115 = .ok (.dup, 1) := by decide +kernel
theorem dC_refine_116 : decode cC_refine 116 = .ok (.ldc 65, 2) := by decide +kernel
theorem dC_refine_118 : decode cC_refine 118 = .ok (.invokespecial 67, 3) := by decide +kernel
theorem dC_refine_121 : decode cC_refine 121 = .ok (.athrow, 1) := by decide +kernel
theorem dC_refine_122 : decode cC_refine 122 = .ok (.aload 7, 2) := by decide +kernel
theorem dC_refine_124 : decode cC_refine 124 = .ok (.iload_n 3, 1) := by decide +kernel
theorem dC_refine_125 : decode cC_refine 125 = .ok (.iload 4, 2) := by decide +kernel
theorem dC_refine_127 : decode cC_refine 127 = .ok (.iload 5, 2) := by decide +kernel
theorem dC_refine_129 : decode cC_refine 129 = .ok (.invokevirtual 68, 3) := by decide +kernel
theorem dC_refine_132 : decode cC_refine 132 = .ok (.ireturn, 1) := by decide +kernel
theorem dC_isFunction_0 : decode cC_isFunction 0 = .ok (.iload_n 0, 1) := by decide +kernel
theorem dC_isFunction_1 : decode cC_isFunction 1 = .ok (.iconst 0, 1) := by decide +kernel
theorem dC_isFunction_2 : decode cC_isFunction 2 = .ok (.iconst 3, 1) := by decide +kernel
theorem dC_isFunction_3 : decode cC_isFunction 3 = .ok (.invokestatic 34, 3) := by decide +kernel
theorem dC_isFunction_6 : decode cC_isFunction 6 = .ok (.ireturn, 1) := by decide +kernel
theorem dC_isWithin_0 : decode cC_isWithin 0 = .ok (.iload_n 0, 1) := by decide +kernel
theorem dC_isWithin_1 : decode cC_isWithin 1 = .ok (.iload_n 1, 1) := by decide +kernel
theorem dC_isWithin_2 : decode cC_isWithin 2 = .ok (.if_icmp .lt 12, 3) := by decide +kernel
theorem dC_isWithin_5 : decode cC_isWithin 5 = .ok (.iload_n 0, 1) := by decide +kernel
theorem dC_isWithin_6 : decode cC_isWithin 6 = .ok (.iload_n 2, 1) := by decide +kernel
theorem dC_isWithin_7 : decode cC_isWithin 7 = .ok (.if_icmp .gt 7, 3) := by decide +kernel
theorem dC_isWithin_10 : decode cC_isWithin 10 = .ok (.iconst 1, 1) := by decide +kernel
theorem dC_isWithin_11 : decode cC_isWithin 11 = .ok (.goto 4, 3) := by decide +kernel
theorem dC_isWithin_14 : decode cC_isWithin 14 = .ok (.iconst 0, 1) := by decide +kernel
theorem dC_isWithin_15 : decode cC_isWithin 15 = .ok (.ireturn, 1) := by decide +kernel
theorem dC_isDifference_0 : decode cC_isDifference 0 = .ok (.iload_n 0, 1) := by decide +kernel
theorem dC_isDifference_1 : decode cC_isDifference 1 = .ok (.sipush (-1000), 3) := by decide +kernel
theorem dC_isDifference_4 : decode cC_isDifference 4 = .ok (.sipush 1000, 3) := by decide +kernel
theorem dC_isDifference_7 : decode cC_isDifference 7 = .ok (.invokestatic 34, 3) := by decide +kernel
theorem dC_isDifference_10 : decode cC_isDifference 10 = .ok (.ireturn, 1) := by decide +kernel
theorem dC_statement_0 : decode cC_statement 0 = .ok (.iload_n 1, 1) := by decide +kernel
theorem dC_statement_1 : decode cC_statement 1 = .ok (.invokestatic 30, 3) := by decide +kernel
theorem dC_statement_4 : decode cC_statement 4 = .ok (.ifCond .eq 17, 3) := by decide +kernel
theorem dC_statement_7 : decode cC_statement 7 = .ok (.iload_n 2, 1) := by decide +kernel
theorem dC_statement_8 : decode cC_statement 8 = .ok (.iload_n 3, 1) := by decide +kernel
theorem dC_statement_9 : decode cC_statement 9 = .ok (.iload 4, 2) := by decide +kernel
theorem dC_statement_11 : decode cC_statement 11 = .ok (.iload 5, 2) := by decide +kernel
theorem dC_statement_13 : decode cC_statement 13 = .ok (.iload 6, 2) := by decide +kernel
theorem dC_statement_15 : decode cC_statement 15 = .ok (.invokestatic 72, 3) := by decide +kernel
theorem dC_statement_18 : decode cC_statement 18 = .ok (.ifCond .ne 13, 3) := by decide +kernel
theorem dC_statement_21 : decode cC_statement 21 = .ok (.new 38, 3) := by decide +kernel
theorem dC_statement_24 : decode cC_statement 24 = .ok (.dup, 1) := by decide +kernel
theorem dC_statement_25 : decode cC_statement 25 = .ok (.ldc 76, 2) := by decide +kernel
theorem dC_statement_27 : decode cC_statement 27 = .ok (.invokespecial 42, 3) := by decide +kernel
theorem dC_statement_30 : decode cC_statement 30 = .ok (.athrow, 1) := by decide +kernel
theorem dC_statement_31 : decode cC_statement 31 = .ok (.aload_n 0, 1) := by decide +kernel
theorem dC_statement_32 : decode cC_statement 32 = .ok (.getfield 11, 3) := by decide +kernel
theorem dC_statement_35 : decode cC_statement 35 = .ok (.iload_n 1, 1) := by decide +kernel
theorem dC_statement_36 : decode cC_statement 36 = .ok (.aaload, 1) := by decide +kernel
theorem dC_statement_37 : decode cC_statement 37 = .ok (.astore 7, 2) := by decide +kernel
theorem dC_statement_39 : decode cC_statement 39 = .ok (.aload 7, 2) := by decide +kernel
theorem dC_statement_41 : decode cC_statement 41 = .ok (.iload_n 2, 1) := by decide +kernel
theorem dC_statement_42 : decode cC_statement 42 = .ok (.iload_n 3, 1) := by decide +kernel
theorem dC_statement_43 : decode cC_statement 43 = .ok (.iload 4, 2) := by decide +kernel
theorem dC_statement_45 : decode cC_statement 45 = .ok (.iload 5, 2) := by decide +kernel
theorem dC_statement_47 : decode cC_statement 47 = .ok (.invokevirtual 78, 3) := by decide +kernel
theorem dC_statement_50 : decode cC_statement 50 = .ok (.ifCond .eq 12, 3) := by decide +kernel
theorem dC_statement_53 : decode cC_statement 53 = .ok (.aload 7, 2) := by decide +kernel
theorem dC_statement_55 : decode cC_statement 55 = .ok (.iload_n 2, 1) := by decide +kernel
theorem dC_statement_56 : decode cC_statement 56 = .ok (.invokevirtual 82, 3) := by decide +kernel
theorem dC_statement_59 : decode cC_statement 59 = .ok (.ifCond .ne 13, 3) := by decide +kernel
theorem dC_statement_62 : decode cC_statement 62 = .ok (.new 85, 3) := by decide +kernel
theorem dC_statement_65 : decode cC_statement 65 = .ok (.dup, 1) := by decide +kernel
theorem dC_statement_66 : decode cC_statement 66 = .ok (.ldc 87, 2) := by decide +kernel
theorem dC_statement_68 : decode cC_statement 68 = .ok (.invokespecial 89, 3) := by decide +kernel
theorem dC_statement_71 : decode cC_statement 71 = .ok (.athrow, 1) := by decide +kernel
theorem dC_statement_72 : decode cC_statement 72 = .ok (.aload 7, 2) := by decide +kernel
theorem dC_statement_74 : decode cC_statement 74 = .ok (.iload_n 2, 1) := by decide +kernel
theorem dC_statement_75 : decode cC_statement 75 = .ok (.invokevirtual 90, 3) := by decide +kernel
theorem dC_statement_78 : decode cC_statement 78 = .ok (.ifCond .ne 13, 3) := by decide +kernel
theorem dC_statement_81 : decode cC_statement 81 = .ok (.new 63, 3) := by decide +kernel
theorem dC_statement_84 : decode cC_statement 84 = .ok (.dup, 1) := by decide +kernel
theorem dC_statement_85 : decode cC_statement 85 = .ok (.ldc 93, 2) := by decide +kernel
theorem dC_statement_87 : decode cC_statement 87 = .ok (.invokespecial 67, 3) := by decide +kernel
theorem dC_statement_90 : decode cC_statement 90 = .ok (.athrow, 1) := by decide +kernel
theorem dC_statement_91 : decode cC_statement 91 = .ok (.aload 7, 2) := by decide +kernel
theorem dC_statement_93 : decode cC_statement 93 = .ok (.iload_n 2, 1) := by decide +kernel
theorem dC_statement_94 : decode cC_statement 94 = .ok (.iload_n 3, 1) := by decide +kernel
theorem dC_statement_95 : decode cC_statement 95 = .ok (.iload 4, 2) := by decide +kernel
theorem dC_statement_97 : decode cC_statement 97 = .ok (.iload 5, 2) := by decide +kernel
theorem dC_statement_99 : decode cC_statement 99 = .ok (.iload 6, 2) := by decide +kernel
theorem dC_statement_101 : decode cC_statement 101 = .ok (.invokevirtual 95, 3) := by decide +kernel
theorem dC_statement_104 : decode cC_statement 104 = .ok (.ireturn, 1) := by decide +kernel
theorem dC_isStatement_0 : decode cC_isStatement 0 = .ok (.iload_n 0, 1) := by decide +kernel
theorem dC_isStatement_1 : decode cC_isStatement 1 = .ok (.iconst 0, 1) := by decide +kernel
theorem dC_isStatement_2 : decode cC_isStatement 2 = .ok (.bipush 7, 2) := by decide +kernel
theorem dC_isStatement_4 : decode cC_isStatement 4 = .ok (.invokestatic 34, 3) := by decide +kernel
theorem dC_isStatement_7 : decode cC_isStatement 7 = .ok (.ifCond .ne 5, 3) := by decide +kernel
theorem dC_isStatement_10 : decode cC_isStatement 10 = .ok (.iconst 0, 1) := by decide +kernel
theorem dC_isStatement_11 : decode cC_isStatement 11 = .ok (.ireturn, 1) := by decide +kernel
theorem dC_isStatement_12 : decode cC_isStatement 12 = .ok (.iload_n 0, 1) := by decide +kernel
theorem dC_isStatement_13 : decode cC_isStatement 13 = .ok (.invokestatic 165, 3) := by decide +kernel
theorem dC_isStatement_16 : decode cC_isStatement 16 = .ok (.ifCond .eq 12, 3) := by decide +kernel
theorem dC_isStatement_19 : decode cC_isStatement 19 = .ok (.iload_n 1, 1) := by decide +kernel
theorem dC_isStatement_20 : decode cC_isStatement 20 = .ok (.invokestatic 162, 3) := by decide +kernel
theorem dC_isStatement_23 : decode cC_isStatement 23 = .ok (.ifCond .ne 5, 3) := by decide +kernel
theorem dC_isStatement_26 : decode cC_isStatement 26 = .ok (.iconst 0, 1) := by decide +kernel
theorem dC_isStatement_27 : decode cC_isStatement 27 = .ok (.ireturn, 1) := by decide +kernel
theorem dC_isStatement_28 : decode cC_isStatement 28 = .ok (.iload_n 0, 1) := by decide +kernel
theorem dC_isStatement_29 : decode cC_isStatement 29 = .ok (.invokestatic 168, 3) := by decide +kernel
theorem dC_isStatement_32 : decode cC_isStatement 32 = .ok (.ifCond .eq 10, 3) := by decide +kernel
theorem dC_isStatement_35 : decode cC_isStatement 35 = .ok (.iload_n 1, 1) := by decide +kernel
theorem dC_isStatement_36 : decode cC_isStatement 36 = .ok (.invokestatic 123, 3) := by decide +kernel
theorem dC_isStatement_39 : decode cC_isStatement 39 = .ok (.ifCond .eq 31, 3) := by decide +kernel
theorem dC_isStatement_42 : decode cC_isStatement 42 = .ok (.iload_n 0, 1) := by decide +kernel
theorem dC_isStatement_43 : decode cC_isStatement 43 = .ok (.invokestatic 171, 3) := by decide +kernel
theorem dC_isStatement_46 : decode cC_isStatement 46 = .ok (.ifCond .eq 10, 3) := by decide +kernel
theorem dC_isStatement_49 : decode cC_isStatement 49 = .ok (.iload_n 2, 1) := by decide +kernel
theorem dC_isStatement_50 : decode cC_isStatement 50 = .ok (.invokestatic 123, 3) := by decide +kernel
theorem dC_isStatement_53 : decode cC_isStatement 53 = .ok (.ifCond .eq 17, 3) := by decide +kernel
theorem dC_isStatement_56 : decode cC_isStatement 56 = .ok (.iload_n 0, 1) := by decide +kernel
theorem dC_isStatement_57 : decode cC_isStatement 57 = .ok (.invokestatic 174, 3) := by decide +kernel
theorem dC_isStatement_60 : decode cC_isStatement 60 = .ok (.ifCond .eq 12, 3) := by decide +kernel
theorem dC_isStatement_63 : decode cC_isStatement 63 = .ok (.iload_n 3, 1) := by decide +kernel
theorem dC_isStatement_64 : decode cC_isStatement 64 = .ok (.invokestatic 123, 3) := by decide +kernel
theorem dC_isStatement_67 : decode cC_isStatement 67 = .ok (.ifCond .ne 5, 3) := by decide +kernel
theorem dC_isStatement_70 : decode cC_isStatement 70 = .ok (.iconst 0, 1) := by decide +kernel
theorem dC_isStatement_71 : decode cC_isStatement 71 = .ok (.ireturn, 1) := by decide +kernel
theorem dC_isStatement_72 : decode cC_isStatement 72 = .ok (.iload_n 0, 1) := by decide +kernel
theorem dC_isStatement_73 : decode cC_isStatement 73 = .ok (.iconst 1, 1) := by decide +kernel
theorem dC_isStatement_74 : decode cC_isStatement 74 = .ok (.if_icmp .ne 9, 3) := by decide +kernel
theorem dC_isStatement_77 : decode cC_isStatement 77 = .ok (.iload 4, 2) := by decide +kernel
theorem dC_isStatement_79 : decode cC_isStatement 79 = .ok (.invokestatic 30, 3) := by decide +kernel
theorem dC_isStatement_82 : decode cC_isStatement 82 = .ok (.ireturn, 1) := by decide +kernel
theorem dC_isStatement_83 : decode cC_isStatement 83 = .ok (.iload_n 0, 1) := by decide +kernel
theorem dC_isStatement_84 : decode cC_isStatement 84 = .ok (.invokestatic 171, 3) := by decide +kernel
theorem dC_isStatement_87 : decode cC_isStatement 87 = .ok (.ifCond .eq 11, 3) := by decide +kernel
theorem dC_isStatement_90 : decode cC_isStatement 90 = .ok (.iload 4, 2) := by decide +kernel
theorem dC_isStatement_92 : decode cC_isStatement 92 = .ok (.invokestatic 45, 3) := by decide +kernel
theorem dC_isStatement_95 : decode cC_isStatement 95 = .ok (.ifCond .eq 7, 3) := by decide +kernel
theorem dC_isStatement_98 : decode cC_isStatement 98 = .ok (.iconst 1, 1) := by decide +kernel
theorem dC_isStatement_99 : decode cC_isStatement 99 = .ok (.goto 4, 3) := by decide +kernel
theorem dC_isStatement_102 : decode cC_isStatement 102 = .ok (.iconst 0, 1) := by decide +kernel
theorem dC_isStatement_103 : decode cC_isStatement 103 = .ok (.ireturn, 1) := by decide +kernel
theorem dC_givesA_0 : decode cC_givesA 0 = .ok (.iload_n 0, 1) := by decide +kernel
theorem dC_givesA_1 : decode cC_givesA 1 = .ok (.ifCond .eq 14, 3) := by decide +kernel
theorem dC_givesA_4 : decode cC_givesA 4 = .ok (.iload_n 0, 1) := by decide +kernel
theorem dC_givesA_5 : decode cC_givesA 5 = .ok (.iconst 1, 1) := by decide +kernel
theorem dC_givesA_6 : decode cC_givesA 6 = .ok (.if_icmp .eq 9, 3) := by decide +kernel
theorem dC_givesA_9 : decode cC_givesA 9 = .ok (.iload_n 0, 1) := by decide +kernel
theorem dC_givesA_10 : decode cC_givesA 10 = .ok (.bipush 7, 2) := by decide +kernel
theorem dC_givesA_12 : decode cC_givesA 12 = .ok (.if_icmp .ne 7, 3) := by decide +kernel
theorem dC_givesA_15 : decode cC_givesA 15 = .ok (.iconst 1, 1) := by decide +kernel
theorem dC_givesA_16 : decode cC_givesA 16 = .ok (.goto 4, 3) := by decide +kernel
theorem dC_givesA_19 : decode cC_givesA 19 = .ok (.iconst 0, 1) := by decide +kernel
theorem dC_givesA_20 : decode cC_givesA 20 = .ok (.ireturn, 1) := by decide +kernel
theorem dC_isGivable_0 : decode cC_isGivable 0 = .ok (.iload_n 0, 1) := by decide +kernel
theorem dC_isGivable_1 : decode cC_isGivable 1 = .ok (.iconst 4, 1) := by decide +kernel
theorem dC_isGivable_2 : decode cC_isGivable 2 = .ok (.bipush 11, 2) := by decide +kernel
theorem dC_isGivable_4 : decode cC_isGivable 4 = .ok (.invokestatic 34, 3) := by decide +kernel
theorem dC_isGivable_7 : decode cC_isGivable 7 = .ok (.ireturn, 1) := by decide +kernel
theorem dC_usesA_0 : decode cC_usesA 0 = .ok (.iload_n 0, 1) := by decide +kernel
theorem dC_usesA_1 : decode cC_usesA 1 = .ok (.iconst 2, 1) := by decide +kernel
theorem dC_usesA_2 : decode cC_usesA 2 = .ok (.if_icmp .eq 8, 3) := by decide +kernel
theorem dC_usesA_5 : decode cC_usesA 5 = .ok (.iload_n 0, 1) := by decide +kernel
theorem dC_usesA_6 : decode cC_usesA 6 = .ok (.iconst 5, 1) := by decide +kernel
theorem dC_usesA_7 : decode cC_usesA 7 = .ok (.if_icmp .ne 7, 3) := by decide +kernel
theorem dC_usesA_10 : decode cC_usesA 10 = .ok (.iconst 1, 1) := by decide +kernel
theorem dC_usesA_11 : decode cC_usesA 11 = .ok (.goto 4, 3) := by decide +kernel
theorem dC_usesA_14 : decode cC_usesA 14 = .ok (.iconst 0, 1) := by decide +kernel
theorem dC_usesA_15 : decode cC_usesA 15 = .ok (.ireturn, 1) := by decide +kernel
theorem dC_isUsable_0 : decode cC_isUsable 0 = .ok (.iload_n 0, 1) := by decide +kernel
theorem dC_isUsable_1 : decode cC_isUsable 1 = .ok (.iconst 0, 1) := by decide +kernel
theorem dC_isUsable_2 : decode cC_isUsable 2 = .ok (.iconst 2, 1) := by decide +kernel
theorem dC_isUsable_3 : decode cC_isUsable 3 = .ok (.invokestatic 34, 3) := by decide +kernel
theorem dC_isUsable_6 : decode cC_isUsable 6 = .ok (.ifCond .ne 10, 3) := by decide +kernel
theorem dC_isUsable_9 : decode cC_isUsable 9 = .ok (.iload_n 0, 1) := by decide +kernel
theorem dC_isUsable_10 : decode cC_isUsable 10 = .ok (.invokestatic 162, 3) := by decide +kernel
theorem dC_isUsable_13 : decode cC_isUsable 13 = .ok (.ifCond .eq 7, 3) := by decide +kernel
theorem dC_isUsable_16 : decode cC_isUsable 16 = .ok (.iconst 1, 1) := by decide +kernel
theorem dC_isUsable_17 : decode cC_isUsable 17 = .ok (.goto 4, 3) := by decide +kernel
theorem dC_isUsable_20 : decode cC_isUsable 20 = .ok (.iconst 0, 1) := by decide +kernel
theorem dC_isUsable_21 : decode cC_isUsable 21 = .ok (.ireturn, 1) := by decide +kernel
theorem dC_usesB_0 : decode cC_usesB 0 = .ok (.iload_n 0, 1) := by decide +kernel
theorem dC_usesB_1 : decode cC_usesB 1 = .ok (.ifCond .eq 24, 3) := by decide +kernel
theorem dC_usesB_4 : decode cC_usesB 4 = .ok (.iload_n 0, 1) := by decide +kernel
theorem dC_usesB_5 : decode cC_usesB 5 = .ok (.iconst 1, 1) := by decide +kernel
theorem dC_usesB_6 : decode cC_usesB 6 = .ok (.if_icmp .eq 19, 3) := by decide +kernel
theorem dC_usesB_9 : decode cC_usesB 9 = .ok (.iload_n 0, 1) := by decide +kernel
theorem dC_usesB_10 : decode cC_usesB 10 = .ok (.iconst 2, 1) := by decide +kernel
theorem dC_usesB_11 : decode cC_usesB 11 = .ok (.if_icmp .eq 14, 3) := by decide +kernel
theorem dC_usesB_14 : decode cC_usesB 14 = .ok (.iload_n 0, 1) := by decide +kernel
theorem dC_usesB_15 : decode cC_usesB 15 = .ok (.iconst 5, 1) := by decide +kernel
theorem dC_usesB_16 : decode cC_usesB 16 = .ok (.if_icmp .eq 9, 3) := by decide +kernel
theorem dC_usesB_19 : decode cC_usesB 19 = .ok (.iload_n 0, 1) := by decide +kernel
theorem dC_usesB_20 : decode cC_usesB 20 = .ok (.bipush 6, 2) := by decide +kernel
theorem dC_usesB_22 : decode cC_usesB 22 = .ok (.if_icmp .ne 7, 3) := by decide +kernel
theorem dC_usesB_25 : decode cC_usesB 25 = .ok (.iconst 1, 1) := by decide +kernel
theorem dC_usesB_26 : decode cC_usesB 26 = .ok (.goto 4, 3) := by decide +kernel
theorem dC_usesB_29 : decode cC_usesB 29 = .ok (.iconst 0, 1) := by decide +kernel
theorem dC_usesB_30 : decode cC_usesB 30 = .ok (.ireturn, 1) := by decide +kernel
theorem dC_usesC_0 : decode cC_usesC 0 = .ok (.iload_n 0, 1) := by decide +kernel
theorem dC_usesC_1 : decode cC_usesC 1 = .ok (.iconst 1, 1) := by decide +kernel
theorem dC_usesC_2 : decode cC_usesC 2 = .ok (.if_icmp .ne 7, 3) := by decide +kernel
theorem dC_usesC_5 : decode cC_usesC 5 = .ok (.iconst 1, 1) := by decide +kernel
theorem dC_usesC_6 : decode cC_usesC 6 = .ok (.goto 4, 3) := by decide +kernel
theorem dC_usesC_9 : decode cC_usesC 9 = .ok (.iconst 0, 1) := by decide +kernel
theorem dC_usesC_10 : decode cC_usesC 10 = .ok (.ireturn, 1) := by decide +kernel
theorem dC_clear_0 : decode cC_clear 0 = .ok (.iload_n 1, 1) := by decide +kernel
theorem dC_clear_1 : decode cC_clear 1 = .ok (.invokestatic 30, 3) := by decide +kernel
theorem dC_clear_4 : decode cC_clear 4 = .ok (.ifCond .ne 13, 3) := by decide +kernel
theorem dC_clear_7 : decode cC_clear 7 = .ok (.new 38, 3) := by decide +kernel
theorem dC_clear_10 : decode cC_clear 10 = .ok (.dup, 1) := by decide +kernel
theorem dC_clear_11 : decode cC_clear 11 = .ok (.ldc 98, 2) := by decide +kernel
theorem dC_clear_13 : decode cC_clear 13 = .ok (.invokespecial 42, 3) := by decide +kernel
theorem dC_clear_16 : decode cC_clear 16 = .ok (.athrow, 1) := by decide +kernel
theorem dC_clear_17 : decode cC_clear 17 = .ok (.aload_n 0, 1) := by decide +kernel
theorem dC_clear_18 : decode cC_clear 18 = .ok (.getfield 11, 3) := by decide +kernel
theorem dC_clear_21 : decode cC_clear 21 = .ok (.iload_n 1, 1) := by decide +kernel
theorem dC_clear_22 : decode cC_clear 22 = .ok (.aaload, 1) := by decide +kernel
theorem dC_clear_23 : decode cC_clear 23 = .ok (.getfield 100, 3) := by decide +kernel
theorem dC_clear_26 : decode cC_clear 26 = .ok (.istore_n 2, 1) := by decide +kernel
theorem dC_clear_27 : decode cC_clear 27 = .ok (.aload_n 0, 1) := by decide +kernel
theorem dC_clear_28 : decode cC_clear 28 = .ok (.getfield 11, 3) := by decide +kernel
theorem dC_clear_31 : decode cC_clear 31 = .ok (.iload_n 1, 1) := by decide +kernel
theorem dC_clear_32 : decode cC_clear 32 = .ok (.aaload, 1) := by decide +kernel
theorem dC_clear_33 : decode cC_clear 33 = .ok (.invokevirtual 101, 3) := by decide +kernel
theorem dC_clear_36 : decode cC_clear 36 = .ok (.iload_n 2, 1) := by decide +kernel
theorem dC_clear_37 : decode cC_clear 37 = .ok (.ireturn, 1) := by decide +kernel
theorem dC_check_0 : decode cC_check 0 = .ok (.iload_n 1, 1) := by decide +kernel
theorem dC_check_1 : decode cC_check 1 = .ok (.invokestatic 30, 3) := by decide +kernel
theorem dC_check_4 : decode cC_check 4 = .ok (.ifCond .ne 13, 3) := by decide +kernel
theorem dC_check_7 : decode cC_check 7 = .ok (.new 38, 3) := by decide +kernel
theorem dC_check_10 : decode cC_check 10 = .ok (.dup, 1) := by decide +kernel
theorem dC_check_11 : decode cC_check 11 = .ok (.ldc 98, 2) := by decide +kernel
theorem dC_check_13 : decode cC_check 13 = .ok (.invokespecial 42, 3) := by decide +kernel
theorem dC_check_16 : decode cC_check 16 = .ok (.athrow, 1) := by decide +kernel
theorem dC_check_17 : decode cC_check 17 = .ok (.aload_n 0, 1) := by decide +kernel
theorem dC_check_18 : decode cC_check 18 = .ok (.getfield 18, 3) := by decide +kernel
theorem dC_check_21 : decode cC_check 21 = .ok (.aload_n 0, 1) := by decide +kernel
theorem dC_check_22 : decode cC_check 22 = .ok (.getfield 11, 3) := by decide +kernel
theorem dC_check_25 : decode cC_check 25 = .ok (.aload_n 0, 1) := by decide +kernel
theorem dC_check_26 : decode cC_check 26 = .ok (.getfield 11, 3) := by decide +kernel
theorem dC_check_29 : decode cC_check 29 = .ok (.iload_n 1, 1) := by decide +kernel
theorem dC_check_30 : decode cC_check 30 = .ok (.aaload, 1) := by decide +kernel
theorem dC_check_31 : decode cC_check 31 = .ok (.iconst (-1), 1) := by decide +kernel
theorem dC_check_32 : decode cC_check 32 = .ok (.iconst 0, 1) := by decide +kernel
theorem dC_check_33 : decode cC_check 33 = .ok (.iconst 0, 1) := by decide +kernel
theorem dC_check_34 : decode cC_check 34 = .ok (.invokevirtual 104, 3) := by decide +kernel
theorem dC_check_37 : decode cC_check 37 = .ok (.aload_n 0, 1) := by decide +kernel
theorem dC_check_38 : decode cC_check 38 = .ok (.getfield 18, 3) := by decide +kernel
theorem dC_check_41 : decode cC_check 41 = .ok (.getfield 108, 3) := by decide +kernel
theorem dC_check_44 : decode cC_check 44 = .ok (.ireturn, 1) := by decide +kernel
theorem dC_ways_0 : decode cC_ways 0 = .ok (.iload_n 1, 1) := by decide +kernel
theorem dC_ways_1 : decode cC_ways 1 = .ok (.invokestatic 30, 3) := by decide +kernel
theorem dC_ways_4 : decode cC_ways 4 = .ok (.ifCond .ne 13, 3) := by decide +kernel
theorem dC_ways_7 : decode cC_ways 7 = .ok (.new 38, 3) := by decide +kernel
theorem dC_ways_10 : decode cC_ways 10 = .ok (.dup, 1) := by decide +kernel
theorem dC_ways_11 : decode cC_ways 11 = .ok (.ldc 98, 2) := by decide +kernel
theorem dC_ways_13 : decode cC_ways 13 = .ok (.invokespecial 42, 3) := by decide +kernel
theorem dC_ways_16 : decode cC_ways 16 = .ok (.athrow, 1) := by decide +kernel
theorem dC_ways_17 : decode cC_ways 17 = .ok (.aload_n 0, 1) := by decide +kernel
theorem dC_ways_18 : decode cC_ways 18 = .ok (.getfield 18, 3) := by decide +kernel
theorem dC_ways_21 : decode cC_ways 21 = .ok (.aload_n 0, 1) := by decide +kernel
theorem dC_ways_22 : decode cC_ways 22 = .ok (.getfield 11, 3) := by decide +kernel
theorem dC_ways_25 : decode cC_ways 25 = .ok (.aload_n 0, 1) := by decide +kernel
theorem dC_ways_26 : decode cC_ways 26 = .ok (.getfield 11, 3) := by decide +kernel
theorem dC_ways_29 : decode cC_ways 29 = .ok (.iload_n 1, 1) := by decide +kernel
theorem dC_ways_30 : decode cC_ways 30 = .ok (.aaload, 1) := by decide +kernel
theorem dC_ways_31 : decode cC_ways 31 = .ok (.iconst (-1), 1) := by decide +kernel
theorem dC_ways_32 : decode cC_ways 32 = .ok (.iconst 0, 1) := by decide +kernel
theorem dC_ways_33 : decode cC_ways 33 = .ok (.iconst 0, 1) := by decide +kernel
theorem dC_ways_34 : decode cC_ways 34 = .ok (.invokevirtual 104, 3) := by decide +kernel
theorem dC_ways_37 : decode cC_ways 37 = .ok (.aload_n 0, 1) := by decide +kernel
theorem dC_ways_38 : decode cC_ways 38 = .ok (.getfield 18, 3) := by decide +kernel
theorem dC_ways_41 : decode cC_ways 41 = .ok (.getfield 111, 3) := by decide +kernel
theorem dC_ways_44 : decode cC_ways 44 = .ok (.ireturn, 1) := by decide +kernel
theorem dC_comes_0 : decode cC_comes 0 = .ok (.iload_n 1, 1) := by decide +kernel
theorem dC_comes_1 : decode cC_comes 1 = .ok (.invokestatic 30, 3) := by decide +kernel
theorem dC_comes_4 : decode cC_comes 4 = .ok (.ifCond .eq 12, 3) := by decide +kernel
theorem dC_comes_7 : decode cC_comes 7 = .ok (.aload_n 0, 1) := by decide +kernel
theorem dC_comes_8 : decode cC_comes 8 = .ok (.iload_n 1, 1) := by decide +kernel
theorem dC_comes_9 : decode cC_comes 9 = .ok (.iload_n 2, 1) := by decide +kernel
theorem dC_comes_10 : decode cC_comes 10 = .ok (.invokevirtual 114, 3) := by decide +kernel
theorem dC_comes_13 : decode cC_comes 13 = .ok (.ifCond .ne 13, 3) := by decide +kernel
theorem dC_comes_16 : decode cC_comes 16 = .ok (.new 38, 3) := by decide +kernel
theorem dC_comes_19 : decode cC_comes 19 = .ok (.dup, 1) := by decide +kernel
theorem dC_comes_20 : decode cC_comes 20 = .ok (.ldc 118, 2) := by decide +kernel
theorem dC_comes_22 : decode cC_comes 22 = .ok (.invokespecial 42, 3) := by decide +kernel
theorem dC_comes_25 : decode cC_comes 25 = .ok (.athrow, 1) := by decide +kernel
theorem dC_comes_26 : decode cC_comes 26 = .ok (.aload_n 0, 1) := by decide +kernel
theorem dC_comes_27 : decode cC_comes 27 = .ok (.getfield 18, 3) := by decide +kernel
theorem dC_comes_30 : decode cC_comes 30 = .ok (.aload_n 0, 1) := by decide +kernel
theorem dC_comes_31 : decode cC_comes 31 = .ok (.getfield 11, 3) := by decide +kernel
theorem dC_comes_34 : decode cC_comes 34 = .ok (.aload_n 0, 1) := by decide +kernel
theorem dC_comes_35 : decode cC_comes 35 = .ok (.getfield 11, 3) := by decide +kernel
theorem dC_comes_38 : decode cC_comes 38 = .ok (.iload_n 1, 1) := by decide +kernel
theorem dC_comes_39 : decode cC_comes 39 = .ok (.aaload, 1) := by decide +kernel
theorem dC_comes_40 : decode cC_comes 40 = .ok (.iconst (-1), 1) := by decide +kernel
theorem dC_comes_41 : decode cC_comes 41 = .ok (.iconst 0, 1) := by decide +kernel
theorem dC_comes_42 : decode cC_comes 42 = .ok (.iconst 0, 1) := by decide +kernel
theorem dC_comes_43 : decode cC_comes 43 = .ok (.invokevirtual 104, 3) := by decide +kernel
theorem dC_comes_46 : decode cC_comes 46 = .ok (.aload_n 0, 1) := by decide +kernel
theorem dC_comes_47 : decode cC_comes 47 = .ok (.getfield 18, 3) := by decide +kernel
theorem dC_comes_50 : decode cC_comes 50 = .ok (.iload_n 2, 1) := by decide +kernel
theorem dC_comes_51 : decode cC_comes 51 = .ok (.invokevirtual 120, 3) := by decide +kernel
theorem dC_comes_54 : decode cC_comes 54 = .ok (.ifCond .eq 7, 3) := by decide +kernel
theorem dC_comes_57 : decode cC_comes 57 = .ok (.iconst 1, 1) := by decide +kernel
theorem dC_comes_58 : decode cC_comes 58 = .ok (.goto 4, 3) := by decide +kernel
theorem dC_comes_61 : decode cC_comes 61 = .ok (.iconst 0, 1) := by decide +kernel
theorem dC_comes_62 : decode cC_comes 62 = .ok (.ireturn, 1) := by decide +kernel
theorem dC_isPlace_0 : decode cC_isPlace 0 = .ok (.iload_n 2, 1) := by decide +kernel
theorem dC_isPlace_1 : decode cC_isPlace 1 = .ok (.iconst 0, 1) := by decide +kernel
theorem dC_isPlace_2 : decode cC_isPlace 2 = .ok (.aload_n 0, 1) := by decide +kernel
theorem dC_isPlace_3 : decode cC_isPlace 3 = .ok (.getfield 11, 3) := by decide +kernel
theorem dC_isPlace_6 : decode cC_isPlace 6 = .ok (.iload_n 1, 1) := by decide +kernel
theorem dC_isPlace_7 : decode cC_isPlace 7 = .ok (.aaload, 1) := by decide +kernel
theorem dC_isPlace_8 : decode cC_isPlace 8 = .ok (.getfield 100, 3) := by decide +kernel
theorem dC_isPlace_11 : decode cC_isPlace 11 = .ok (.invokestatic 34, 3) := by decide +kernel
theorem dC_isPlace_14 : decode cC_isPlace 14 = .ok (.ireturn, 1) := by decide +kernel
theorem dC_most_0 : decode cC_most 0 = .ok (.iload_n 1, 1) := by decide +kernel
theorem dC_most_1 : decode cC_most 1 = .ok (.invokestatic 30, 3) := by decide +kernel
theorem dC_most_4 : decode cC_most 4 = .ok (.ifCond .eq 27, 3) := by decide +kernel
theorem dC_most_7 : decode cC_most 7 = .ok (.aload_n 0, 1) := by decide +kernel
theorem dC_most_8 : decode cC_most 8 = .ok (.iload_n 1, 1) := by decide +kernel
theorem dC_most_9 : decode cC_most 9 = .ok (.iload_n 2, 1) := by decide +kernel
theorem dC_most_10 : decode cC_most 10 = .ok (.invokevirtual 114, 3) := by decide +kernel
theorem dC_most_13 : decode cC_most 13 = .ok (.ifCond .eq 18, 3) := by decide +kernel
theorem dC_most_16 : decode cC_most 16 = .ok (.iload_n 3, 1) := by decide +kernel
theorem dC_most_17 : decode cC_most 17 = .ok (.invokestatic 123, 3) := by decide +kernel
theorem dC_most_20 : decode cC_most 20 = .ok (.ifCond .eq 11, 3) := by decide +kernel
theorem dC_most_23 : decode cC_most 23 = .ok (.iload 4, 2) := by decide +kernel
theorem dC_most_25 : decode cC_most 25 = .ok (.invokestatic 123, 3) := by decide +kernel
theorem dC_most_28 : decode cC_most 28 = .ok (.ifCond .ne 13, 3) := by decide +kernel
theorem dC_most_31 : decode cC_most 31 = .ok (.new 38, 3) := by decide +kernel
theorem dC_most_34 : decode cC_most 34 = .ok (.dup, 1) := by decide +kernel
theorem dC_most_35 : decode cC_most 35 = .ok (.ldc 126, 2) := by decide +kernel
theorem dC_most_37 : decode cC_most 37 = .ok (.invokespecial 42, 3) := by decide +kernel
theorem dC_most_40 : decode cC_most 40 = .ok (.athrow, 1) := by decide +kernel
theorem dC_most_41 : decode cC_most 41 = .ok (.aload_n 0, 1) := by decide +kernel
theorem dC_most_42 : decode cC_most 42 = .ok (.getfield 18, 3) := by decide +kernel
theorem dC_most_45 : decode cC_most 45 = .ok (.aload_n 0, 1) := by decide +kernel
theorem dC_most_46 : decode cC_most 46 = .ok (.getfield 11, 3) := by decide +kernel
theorem dC_most_49 : decode cC_most 49 = .ok (.aload_n 0, 1) := by decide +kernel
theorem dC_most_50 : decode cC_most 50 = .ok (.getfield 11, 3) := by decide +kernel
theorem dC_most_53 : decode cC_most 53 = .ok (.iload_n 1, 1) := by decide +kernel
theorem dC_most_54 : decode cC_most 54 = .ok (.aaload, 1) := by decide +kernel
theorem dC_most_55 : decode cC_most 55 = .ok (.iload_n 2, 1) := by decide +kernel
theorem dC_most_56 : decode cC_most 56 = .ok (.iload_n 3, 1) := by decide +kernel
theorem dC_most_57 : decode cC_most 57 = .ok (.iload 4, 2) := by decide +kernel
theorem dC_most_59 : decode cC_most 59 = .ok (.invokevirtual 104, 3) := by decide +kernel
theorem dC_most_62 : decode cC_most 62 = .ok (.aload_n 0, 1) := by decide +kernel
theorem dC_most_63 : decode cC_most 63 = .ok (.getfield 18, 3) := by decide +kernel
theorem dC_most_66 : decode cC_most 66 = .ok (.iload_n 2, 1) := by decide +kernel
theorem dC_most_67 : decode cC_most 67 = .ok (.invokevirtual 120, 3) := by decide +kernel
theorem dC_most_70 : decode cC_most 70 = .ok (.ifCond .ne 13, 3) := by decide +kernel
theorem dC_most_73 : decode cC_most 73 = .ok (.new 128, 3) := by decide +kernel
theorem dC_most_76 : decode cC_most 76 = .ok (.dup, 1) := by decide +kernel
theorem dC_most_77 : decode cC_most 77 = .ok (.ldc 130, 2) := by decide +kernel
theorem dC_most_79 : decode cC_most 79 = .ok (.invokespecial 132, 3) := by decide +kernel
theorem dC_most_82 : decode cC_most 82 = .ok (.athrow, 1) := by decide +kernel
theorem dC_most_83 : decode cC_most 83 = .ok (.aload_n 0, 1) := by decide +kernel
theorem dC_most_84 : decode cC_most 84 = .ok (.getfield 18, 3) := by decide +kernel
theorem dC_most_87 : decode cC_most 87 = .ok (.getfield 133, 3) := by decide +kernel
theorem dC_most_90 : decode cC_most 90 = .ok (.ldc 136, 2) := by decide +kernel
theorem dC_most_92 : decode cC_most 92 = .ok (.if_icmp .ne 13, 3) := by decide +kernel
theorem dC_most_95 : decode cC_most 95 = .ok (.new 137, 3) := by decide +kernel
theorem dC_most_98 : decode cC_most 98 = .ok (.dup, 1) := by decide +kernel
theorem dC_most_99 : decode cC_most 99 = .ok (.ldc 139, 2) := by decide +kernel
theorem dC_most_101 : decode cC_most 101 = .ok (.invokespecial 141, 3) := by decide +kernel
theorem dC_most_104 : decode cC_most 104 = .ok (.athrow, 1) := by decide +kernel
theorem dC_most_105 : decode cC_most 105 = .ok (.aload_n 0, 1) := by decide +kernel
theorem dC_most_106 : decode cC_most 106 = .ok (.getfield 18, 3) := by decide +kernel
theorem dC_most_109 : decode cC_most 109 = .ok (.getfield 133, 3) := by decide +kernel
theorem dC_most_112 : decode cC_most 112 = .ok (.ireturn, 1) := by decide +kernel
theorem dC_follows_0 : decode cC_follows 0 = .ok (.iload_n 1, 1) := by decide +kernel
theorem dC_follows_1 : decode cC_follows 1 = .ok (.invokestatic 30, 3) := by decide +kernel
theorem dC_follows_4 : decode cC_follows 4 = .ok (.ifCond .eq 10, 3) := by decide +kernel
theorem dC_follows_7 : decode cC_follows 7 = .ok (.iload_n 2, 1) := by decide +kernel
theorem dC_follows_8 : decode cC_follows 8 = .ok (.invokestatic 30, 3) := by decide +kernel
theorem dC_follows_11 : decode cC_follows 11 = .ok (.ifCond .ne 13, 3) := by decide +kernel
theorem dC_follows_14 : decode cC_follows 14 = .ok (.new 38, 3) := by decide +kernel
theorem dC_follows_17 : decode cC_follows 17 = .ok (.dup, 1) := by decide +kernel
theorem dC_follows_18 : decode cC_follows 18 = .ok (.ldc 98, 2) := by decide +kernel
theorem dC_follows_20 : decode cC_follows 20 = .ok (.invokespecial 42, 3) := by decide +kernel
theorem dC_follows_23 : decode cC_follows 23 = .ok (.athrow, 1) := by decide +kernel
theorem dC_follows_24 : decode cC_follows 24 = .ok (.aload_n 0, 1) := by decide +kernel
theorem dC_follows_25 : decode cC_follows 25 = .ok (.getfield 25, 3) := by decide +kernel
theorem dC_follows_28 : decode cC_follows 28 = .ok (.invokevirtual 142, 3) := by decide +kernel
theorem dC_follows_31 : decode cC_follows 31 = .ok (.aload_n 0, 1) := by decide +kernel
theorem dC_follows_32 : decode cC_follows 32 = .ok (.getfield 11, 3) := by decide +kernel
theorem dC_follows_35 : decode cC_follows 35 = .ok (.iload_n 1, 1) := by decide +kernel
theorem dC_follows_36 : decode cC_follows 36 = .ok (.aaload, 1) := by decide +kernel
theorem dC_follows_37 : decode cC_follows 37 = .ok (.getfield 50, 3) := by decide +kernel
theorem dC_follows_40 : decode cC_follows 40 = .ok (.aload_n 0, 1) := by decide +kernel
theorem dC_follows_41 : decode cC_follows 41 = .ok (.getfield 25, 3) := by decide +kernel
theorem dC_follows_44 : decode cC_follows 44 = .ok (.iconst 1, 1) := by decide +kernel
theorem dC_follows_45 : decode cC_follows 45 = .ok (.iconst 2, 1) := by decide +kernel
theorem dC_follows_46 : decode cC_follows 46 = .ok (.invokevirtual 145, 3) := by decide +kernel
theorem dC_follows_49 : decode cC_follows 49 = .ok (.aload_n 0, 1) := by decide +kernel
theorem dC_follows_50 : decode cC_follows 50 = .ok (.getfield 11, 3) := by decide +kernel
theorem dC_follows_53 : decode cC_follows 53 = .ok (.iload_n 2, 1) := by decide +kernel
theorem dC_follows_54 : decode cC_follows 54 = .ok (.aaload, 1) := by decide +kernel
theorem dC_follows_55 : decode cC_follows 55 = .ok (.getfield 54, 3) := by decide +kernel
theorem dC_follows_58 : decode cC_follows 58 = .ok (.aload_n 0, 1) := by decide +kernel
theorem dC_follows_59 : decode cC_follows 59 = .ok (.getfield 25, 3) := by decide +kernel
theorem dC_follows_62 : decode cC_follows 62 = .ok (.iconst 1, 1) := by decide +kernel
theorem dC_follows_63 : decode cC_follows 63 = .ok (.iconst 2, 1) := by decide +kernel
theorem dC_follows_64 : decode cC_follows 64 = .ok (.invokevirtual 145, 3) := by decide +kernel
theorem dC_follows_67 : decode cC_follows 67 = .ok (.aload_n 0, 1) := by decide +kernel
theorem dC_follows_68 : decode cC_follows 68 = .ok (.getfield 25, 3) := by decide +kernel
theorem dC_follows_71 : decode cC_follows 71 = .ok (.getfield 149, 3) := by decide +kernel
theorem dC_follows_74 : decode cC_follows 74 = .ok (.ifCond .eq 24, 3) := by decide +kernel
theorem dC_follows_77 : decode cC_follows 77 = .ok (.aload_n 0, 1) := by decide +kernel
theorem dC_follows_78 : decode cC_follows 78 = .ok (.getfield 11, 3) := by decide +kernel
theorem dC_follows_81 : decode cC_follows 81 = .ok (.iload_n 1, 1) := by decide +kernel
theorem dC_follows_82 : decode cC_follows 82 = .ok (.aaload, 1) := by decide +kernel
theorem dC_follows_83 : decode cC_follows 83 = .ok (.getfield 54, 3) := by decide +kernel
theorem dC_follows_86 : decode cC_follows 86 = .ok (.aload_n 0, 1) := by decide +kernel
theorem dC_follows_87 : decode cC_follows 87 = .ok (.getfield 25, 3) := by decide +kernel
theorem dC_follows_90 : decode cC_follows 90 = .ok (.iconst 1, 1) := by decide +kernel
theorem dC_follows_91 : decode cC_follows 91 = .ok (.iconst 2, 1) := by decide +kernel
theorem dC_follows_92 : decode cC_follows 92 = .ok (.invokevirtual 153, 3) := by decide +kernel
theorem dC_follows_95 : decode cC_follows 95 = .ok (.ifCond .eq 7, 3) := by decide +kernel
theorem dC_follows_98 : decode cC_follows 98 = .ok (.iconst 1, 1) := by decide +kernel
theorem dC_follows_99 : decode cC_follows 99 = .ok (.goto 4, 3) := by decide +kernel
theorem dC_follows_102 : decode cC_follows 102 = .ok (.iconst 0, 1) := by decide +kernel
theorem dC_follows_103 : decode cC_follows 103 = .ok (.istore_n 3, 1) := by decide +kernel
theorem dC_follows_104 : decode cC_follows 104 = .ok (.iload_n 3, 1) := by decide +kernel
theorem dC_follows_105 : decode cC_follows 105 = .ok (.ifCond .eq 7, 3) := by decide +kernel
theorem dC_follows_108 : decode cC_follows 108 = .ok (.iconst 1, 1) := by decide +kernel
theorem dC_follows_109 : decode cC_follows 109 = .ok (.goto 4, 3) := by decide +kernel
theorem dC_follows_112 : decode cC_follows 112 = .ok (.iconst 0, 1) := by decide +kernel
theorem dC_follows_113 : decode cC_follows 113 = .ok (.ireturn, 1) := by decide +kernel
theorem dC_count_0 : decode cC_count 0 = .ok (.iload_n 1, 1) := by decide +kernel
theorem dC_count_1 : decode cC_count 1 = .ok (.invokestatic 30, 3) := by decide +kernel
theorem dC_count_4 : decode cC_count 4 = .ok (.ifCond .eq 12, 3) := by decide +kernel
theorem dC_count_7 : decode cC_count 7 = .ok (.iload_n 2, 1) := by decide +kernel
theorem dC_count_8 : decode cC_count 8 = .ok (.iconst 0, 1) := by decide +kernel
theorem dC_count_9 : decode cC_count 9 = .ok (.iconst 3, 1) := by decide +kernel
theorem dC_count_10 : decode cC_count 10 = .ok (.invokestatic 34, 3) := by decide +kernel
theorem dC_count_13 : decode cC_count 13 = .ok (.ifCond .ne 13, 3) := by decide +kernel
theorem dC_count_16 : decode cC_count 16 = .ok (.new 38, 3) := by decide +kernel
theorem dC_count_19 : decode cC_count 19 = .ok (.dup, 1) := by decide +kernel
theorem dC_count_20 : decode cC_count 20 = .ok (.ldc 157, 2) := by decide +kernel
theorem dC_count_22 : decode cC_count 22 = .ok (.invokespecial 42, 3) := by decide +kernel
theorem dC_count_25 : decode cC_count 25 = .ok (.athrow, 1) := by decide +kernel
theorem dC_count_26 : decode cC_count 26 = .ok (.aload_n 0, 1) := by decide +kernel
theorem dC_count_27 : decode cC_count 27 = .ok (.getfield 11, 3) := by decide +kernel
theorem dC_count_30 : decode cC_count 30 = .ok (.iload_n 1, 1) := by decide +kernel
theorem dC_count_31 : decode cC_count 31 = .ok (.aaload, 1) := by decide +kernel
theorem dC_count_32 : decode cC_count 32 = .ok (.astore_n 3, 1) := by decide +kernel
theorem dC_count_33 : decode cC_count 33 = .ok (.iload_n 2, 1) := by decide +kernel
theorem dC_count_34 : decode cC_count 34 = .ok (.tableswitch 44 0 2 #[26, 31, 36], 26) := by decide +kernel
theorem dC_count_60 : decode cC_count 60 = .ok (.aload_n 3, 1) := by decide +kernel
theorem dC_count_61 : decode cC_count 61 = .ok (.getfield 100, 3) := by decide +kernel
theorem dC_count_64 : decode cC_count 64 = .ok (.ireturn, 1) := by decide +kernel
theorem dC_count_65 : decode cC_count 65 = .ok (.aload_n 3, 1) := by decide +kernel
theorem dC_count_66 : decode cC_count 66 = .ok (.getfield 159, 3) := by decide +kernel
theorem dC_count_69 : decode cC_count 69 = .ok (.ireturn, 1) := by decide +kernel
theorem dC_count_70 : decode cC_count 70 = .ok (.aload_n 3, 1) := by decide +kernel
theorem dC_count_71 : decode cC_count 71 = .ok (.getfield 50, 3) := by decide +kernel
theorem dC_count_74 : decode cC_count 74 = .ok (.getfield 57, 3) := by decide +kernel
theorem dC_count_77 : decode cC_count 77 = .ok (.ireturn, 1) := by decide +kernel
theorem dC_count_78 : decode cC_count 78 = .ok (.aload_n 3, 1) := by decide +kernel
theorem dC_count_79 : decode cC_count 79 = .ok (.getfield 54, 3) := by decide +kernel
theorem dC_count_82 : decode cC_count 82 = .ok (.getfield 57, 3) := by decide +kernel
theorem dC_count_85 : decode cC_count 85 = .ok (.ireturn, 1) := by decide +kernel
end
section
theorem dM_init_0 : decode cM_init 0 = .ok (.aload_n 0, 1) := by decide +kernel
theorem dM_init_1 : decode cM_init 1 = .ok (.invokespecial 1, 3) := by decide +kernel
theorem dM_init_4 : decode cM_init 4 = .ok (.aload_n 0, 1) := by decide +kernel
theorem dM_init_5 : decode cM_init 5 = .ok (.bipush 32, 2) := by decide +kernel
theorem dM_init_7 : decode cM_init 7 = .ok (.newarray .int, 2) := by decide +kernel
theorem dM_init_9 : decode cM_init 9 = .ok (.putfield 7, 3) := by decide +kernel
theorem dM_init_12 : decode cM_init 12 = .ok (.aload_n 0, 1) := by decide +kernel
theorem dM_init_13 : decode cM_init 13 = .ok (.bipush 32, 2) := by decide +kernel
theorem dM_init_15 : decode cM_init 15 = .ok (.newarray .int, 2) := by decide +kernel
theorem dM_init_17 : decode cM_init 17 = .ok (.putfield 13, 3) := by decide +kernel
theorem dM_init_20 : decode cM_init 20 = .ok (.aload_n 0, 1) := by decide +kernel
theorem dM_init_21 : decode cM_init 21 = .ok (.bipush 32, 2) := by decide +kernel
theorem dM_init_23 : decode cM_init 23 = .ok (.newarray .int, 2) := by decide +kernel
theorem dM_init_25 : decode cM_init 25 = .ok (.putfield 16, 3) := by decide +kernel
theorem dM_init_28 : decode cM_init 28 = .ok (.aload_n 0, 1) := by decide +kernel
theorem dM_init_29 : decode cM_init 29 = .ok (.bipush 8, 2) := by decide +kernel
theorem dM_init_31 : decode cM_init 31 = .ok (.newarray .int, 2) := by decide +kernel
theorem dM_init_33 : decode cM_init 33 = .ok (.putfield 19, 3) := by decide +kernel
theorem dM_init_36 : decode cM_init 36 = .ok (.aload_n 0, 1) := by decide +kernel
theorem dM_init_37 : decode cM_init 37 = .ok (.bipush 64, 2) := by decide +kernel
theorem dM_init_39 : decode cM_init 39 = .ok (.newarray .int, 2) := by decide +kernel
theorem dM_init_41 : decode cM_init 41 = .ok (.putfield 22, 3) := by decide +kernel
theorem dM_init_44 : decode cM_init 44 = .ok (.aload_n 0, 1) := by decide +kernel
theorem dM_init_45 : decode cM_init 45 = .ok (.bipush 64, 2) := by decide +kernel
theorem dM_init_47 : decode cM_init 47 = .ok (.newarray .int, 2) := by decide +kernel
theorem dM_init_49 : decode cM_init 49 = .ok (.putfield 25, 3) := by decide +kernel
theorem dM_init_52 : decode cM_init 52 = .ok (.aload_n 0, 1) := by decide +kernel
theorem dM_init_53 : decode cM_init 53 = .ok (.bipush 64, 2) := by decide +kernel
theorem dM_init_55 : decode cM_init 55 = .ok (.newarray .int, 2) := by decide +kernel
theorem dM_init_57 : decode cM_init 57 = .ok (.putfield 28, 3) := by decide +kernel
theorem dM_init_60 : decode cM_init 60 = .ok (.aload_n 0, 1) := by decide +kernel
theorem dM_init_61 : decode cM_init 61 = .ok (.bipush 64, 2) := by decide +kernel
theorem dM_init_63 : decode cM_init 63 = .ok (.newarray .int, 2) := by decide +kernel
theorem dM_init_65 : decode cM_init 65 = .ok (.putfield 31, 3) := by decide +kernel
theorem dM_init_68 : decode cM_init 68 = .ok (.aload_n 0, 1) := by decide +kernel
theorem dM_init_69 : decode cM_init 69 = .ok (.bipush 64, 2) := by decide +kernel
theorem dM_init_71 : decode cM_init 71 = .ok (.newarray .int, 2) := by decide +kernel
theorem dM_init_73 : decode cM_init 73 = .ok (.putfield 34, 3) := by decide +kernel
theorem dM_init_76 : decode cM_init 76 = .ok (.aload_n 0, 1) := by decide +kernel
theorem dM_init_77 : decode cM_init 77 = .ok (.iconst 4, 1) := by decide +kernel
theorem dM_init_78 : decode cM_init 78 = .ok (.newarray .int, 2) := by decide +kernel
theorem dM_init_80 : decode cM_init 80 = .ok (.putfield 37, 3) := by decide +kernel
theorem dM_init_83 : decode cM_init 83 = .ok (.aload_n 0, 1) := by decide +kernel
theorem dM_init_84 : decode cM_init 84 = .ok (.bipush 64, 2) := by decide +kernel
theorem dM_init_86 : decode cM_init 86 = .ok (.newarray .int, 2) := by decide +kernel
theorem dM_init_88 : decode cM_init 88 = .ok (.putfield 40, 3) := by decide +kernel
theorem dM_init_91 : decode cM_init 91 = .ok (.aload_n 0, 1) := by decide +kernel
theorem dM_init_92 : decode cM_init 92 = .ok (.bipush 64, 2) := by decide +kernel
theorem dM_init_94 : decode cM_init 94 = .ok (.newarray .int, 2) := by decide +kernel
theorem dM_init_96 : decode cM_init 96 = .ok (.putfield 43, 3) := by decide +kernel
theorem dM_init_99 : decode cM_init 99 = .ok (.aload_n 0, 1) := by decide +kernel
theorem dM_init_100 : decode cM_init 100 = .ok (.bipush 64, 2) := by decide +kernel
theorem dM_init_102 : decode cM_init 102 = .ok (.newarray .int, 2) := by decide +kernel
theorem dM_init_104 : decode cM_init 104 = .ok (.putfield 46, 3) := by decide +kernel
theorem dM_init_107 : decode cM_init 107 = .ok (.aload_n 0, 1) := by decide +kernel
theorem dM_init_108 : decode cM_init 108 = .ok (.iconst 4, 1) := by decide +kernel
theorem dM_init_109 : decode cM_init 109 = .ok (.newarray .int, 2) := by decide +kernel
theorem dM_init_111 : decode cM_init 111 = .ok (.putfield 49, 3) := by decide +kernel
theorem dM_init_114 : decode cM_init 114 = .ok (.aload_n 0, 1) := by decide +kernel
theorem dM_init_115 : decode cM_init 115 = .ok (.bipush 24, 2) := by decide +kernel
theorem dM_init_117 : decode cM_init 117 = .ok (.newarray .int, 2) := by decide +kernel
theorem dM_init_119 : decode cM_init 119 = .ok (.putfield 52, 3) := by decide +kernel
theorem dM_init_122 : decode cM_init 122 = .ok (.aload_n 0, 1) := by decide +kernel
theorem dM_init_123 : decode cM_init 123 = .ok (.iconst 4, 1) := by decide +kernel
theorem dM_init_124 : decode cM_init 124 = .ok (.newarray .int, 2) := by decide +kernel
theorem dM_init_126 : decode cM_init 126 = .ok (.putfield 55, 3) := by decide +kernel
theorem dM_init_129 : decode cM_init 129 = .ok (.aload_n 0, 1) := by decide +kernel
theorem dM_init_130 : decode cM_init 130 = .ok (.sipush 169, 3) := by decide +kernel
theorem dM_init_133 : decode cM_init 133 = .ok (.newarray .long, 2) := by decide +kernel
theorem dM_init_135 : decode cM_init 135 = .ok (.putfield 58, 3) := by decide +kernel
theorem dM_init_138 : decode cM_init 138 = .ok (.aload_n 0, 1) := by decide +kernel
theorem dM_init_139 : decode cM_init 139 = .ok (.bipush 17, 2) := by decide +kernel
theorem dM_init_141 : decode cM_init 141 = .ok (.newarray .boolean, 2) := by decide +kernel
theorem dM_init_143 : decode cM_init 143 = .ok (.putfield 62, 3) := by decide +kernel
theorem dM_init_146 : decode cM_init 146 = .ok (.return_, 1) := by decide +kernel
theorem dM_thrown_0 : decode cM_thrown 0 = .ok (.aload_n 0, 1) := by decide +kernel
theorem dM_thrown_1 : decode cM_thrown 1 = .ok (.getfield 66, 3) := by decide +kernel
theorem dM_thrown_4 : decode cM_thrown 4 = .ok (.ireturn, 1) := by decide +kernel
theorem dM_refine_0 : decode cM_refine 0 = .ok (.aload_n 0, 1) := by decide +kernel
theorem dM_refine_1 : decode cM_refine 1 = .ok (.iconst 0, 1) := by decide +kernel
theorem dM_refine_2 : decode cM_refine 2 = .ok (.putfield 66, 3) := by decide +kernel
theorem dM_refine_5 : decode cM_refine 5 = .ok (.iload_n 1, 1) := by decide +kernel
theorem dM_refine_6 : decode cM_refine 6 = .ok (.invokestatic 74, 3) := by decide +kernel
theorem dM_refine_9 : decode cM_refine 9 = .ok (.ifCond .ne 49, 3) := by decide +kernel
theorem dM_refine_12 : decode cM_refine 12 = .ok (.iload_n 2, 1) := by decide +kernel
theorem dM_refine_13 : decode cM_refine 13 = .ok (.iconst 0, 1) := by decide +kernel
theorem dM_refine_14 : decode cM_refine 14 = .ok (.iconst 1, 1) := by decide +kernel
theorem dM_refine_15 : decode cM_refine 15 = .ok (.invokestatic 70, 3) := by decide +kernel
theorem dM_refine_18 : decode cM_refine 18 = .ok (.ifCond .eq 40, 3) := by decide +kernel
theorem dM_refine_21 : decode cM_refine 21 = .ok (.iload_n 3, 1) := by decide +kernel
theorem dM_refine_22 : decode cM_refine 22 = .ok (.iconst 0, 1) := by decide +kernel
theorem dM_refine_23 : decode cM_refine 23 = .ok (.iconst 2, 1) := by decide +kernel
theorem dM_refine_24 : decode cM_refine 24 = .ok (.iload_n 2, 1) := by decide +kernel
theorem dM_refine_25 : decode cM_refine 25 = .ok (.iadd, 1) := by decide +kernel
theorem dM_refine_26 : decode cM_refine 26 = .ok (.invokestatic 70, 3) := by decide +kernel
theorem dM_refine_29 : decode cM_refine 29 = .ok (.ifCond .eq 29, 3) := by decide +kernel
theorem dM_refine_32 : decode cM_refine 32 = .ok (.iload 4, 2) := by decide +kernel
theorem dM_refine_34 : decode cM_refine 34 = .ok (.iconst 0, 1) := by decide +kernel
theorem dM_refine_35 : decode cM_refine 35 = .ok (.iconst 2, 1) := by decide +kernel
theorem dM_refine_36 : decode cM_refine 36 = .ok (.iload_n 2, 1) := by decide +kernel
theorem dM_refine_37 : decode cM_refine 37 = .ok (.iadd, 1) := by decide +kernel
theorem dM_refine_38 : decode cM_refine 38 = .ok (.invokestatic 70, 3) := by decide +kernel
theorem dM_refine_41 : decode cM_refine 41 = .ok (.ifCond .eq 17, 3) := by decide +kernel
theorem dM_refine_44 : decode cM_refine 44 = .ok (.iload 5, 2) := by decide +kernel
theorem dM_refine_46 : decode cM_refine 46 = .ok (.sipush (-1000), 3) := by decide +kernel
theorem dM_refine_49 : decode cM_refine 49 = .ok (.sipush 1000, 3) := by decide +kernel
theorem dM_refine_52 : decode cM_refine 52 = .ok (.invokestatic 70, 3) := by decide +kernel
theorem dM_refine_55 : decode cM_refine 55 = .ok (.ifCond .ne 9, 3) := by decide +kernel
theorem dM_refine_58 : decode cM_refine 58 = .ok (.aload_n 0, 1) := by decide +kernel
theorem dM_refine_59 : decode cM_refine 59 = .ok (.iconst 1, 1) := by decide +kernel
theorem dM_refine_60 : decode cM_refine 60 = .ok (.invokevirtual 78, 3) := by decide +kernel
theorem dM_refine_63 : decode cM_refine 63 = .ok (.ireturn, 1) := by decide +kernel
theorem dM_refine_64 : decode cM_refine 64 = .ok (.iconst 2, 1) := by decide +kernel
theorem dM_refine_65 : decode cM_refine 65 = .ok (.iload_n 1, 1) := by decide +kernel
theorem dM_refine_66 : decode cM_refine 66 = .ok (.imul, 1) := by decide +kernel
theorem dM_refine_67 : decode cM_refine 67 = .ok (.iload_n 2, 1) := by decide +kernel
theorem dM_refine_68 : decode cM_refine 68 = .ok (.iadd, 1) := by decide +kernel
theorem dM_refine_69 : decode cM_refine 69 = .ok (.istore 6, 2) := by decide +kernel
theorem dM_refine_71 : decode cM_refine 71 = .ok (.aload_n 0, 1) := by decide +kernel
theorem dM_refine_72 : decode cM_refine 72 = .ok (.getfield 19, 3) := by decide +kernel
theorem dM_refine_75 : decode cM_refine 75 = .ok (.iload 6, 2) := by decide +kernel
theorem dM_refine_77 : decode cM_refine 77 = .ok (.iaload, 1) := by decide +kernel
theorem dM_refine_78 : decode cM_refine 78 = .ok (.iconst 4, 1) := by decide +kernel
theorem dM_refine_79 : decode cM_refine 79 = .ok (.if_icmp .ne 9, 3) := by decide +kernel
theorem dM_refine_82 : decode cM_refine 82 = .ok (.aload_n 0, 1) := by decide +kernel
theorem dM_refine_83 : decode cM_refine 83 = .ok (.iconst 2, 1) := by decide +kernel
theorem dM_refine_84 : decode cM_refine 84 = .ok (.invokevirtual 78, 3) := by decide +kernel
theorem dM_refine_87 : decode cM_refine 87 = .ok (.ireturn, 1) := by decide +kernel
theorem dM_refine_88 : decode cM_refine 88 = .ok (.iconst 4, 1) := by decide +kernel
theorem dM_refine_89 : decode cM_refine 89 = .ok (.iload 6, 2) := by decide +kernel
theorem dM_refine_91 : decode cM_refine 91 = .ok (.imul, 1) := by decide +kernel
theorem dM_refine_92 : decode cM_refine 92 = .ok (.aload_n 0, 1) := by decide +kernel
theorem dM_refine_93 : decode cM_refine 93 = .ok (.getfield 19, 3) := by decide +kernel
theorem dM_refine_96 : decode cM_refine 96 = .ok (.iload 6, 2) := by decide +kernel
theorem dM_refine_98 : decode cM_refine 98 = .ok (.iaload, 1) := by decide +kernel
theorem dM_refine_99 : decode cM_refine 99 = .ok (.iadd, 1) := by decide +kernel
theorem dM_refine_100 : decode cM_refine 100 = .ok (.istore 7, 2) := by decide +kernel
theorem dM_refine_102 : decode cM_refine 102 = .ok (.aload_n 0, 1) := by decide +kernel
theorem dM_refine_103 : decode cM_refine 103 = .ok (.getfield 7, 3) := by decide +kernel
theorem dM_refine_106 : decode cM_refine 106 = .ok (.iload 7, 2) := by decide +kernel
theorem dM_refine_108 : decode cM_refine 108 = .ok (.iload_n 3, 1) := by decide +kernel
theorem dM_refine_109 : decode cM_refine 109 = .ok (.iastore, 1) := by decide +kernel
theorem dM_refine_110 : decode cM_refine 110 = .ok (.aload_n 0, 1) := by decide +kernel
theorem dM_refine_111 : decode cM_refine 111 = .ok (.getfield 13, 3) := by decide +kernel
theorem dM_refine_114 : decode cM_refine 114 = .ok (.iload 7, 2) := by decide +kernel
theorem dM_refine_116 : decode cM_refine 116 = .ok (.iload 4, 2) := by decide +kernel
theorem dM_refine_118 : decode cM_refine 118 = .ok (.iastore, 1) := by decide +kernel
theorem dM_refine_119 : decode cM_refine 119 = .ok (.aload_n 0, 1) := by decide +kernel
theorem dM_refine_120 : decode cM_refine 120 = .ok (.getfield 16, 3) := by decide +kernel
theorem dM_refine_123 : decode cM_refine 123 = .ok (.iload 7, 2) := by decide +kernel
theorem dM_refine_125 : decode cM_refine 125 = .ok (.iload 5, 2) := by decide +kernel
theorem dM_refine_127 : decode cM_refine 127 = .ok (.iastore, 1) := by decide +kernel
theorem dM_refine_128 : decode cM_refine 128 = .ok (.aload_n 0, 1) := by decide +kernel
theorem dM_refine_129 : decode cM_refine 129 = .ok (.getfield 19, 3) := by decide +kernel
theorem dM_refine_132 : decode cM_refine 132 = .ok (.iload 6, 2) := by decide +kernel
theorem dM_refine_134 : decode cM_refine 134 = .ok (.dup2, 1) := by decide +kernel
theorem dM_refine_135 : decode cM_refine 135 = .ok (.iaload, 1) := by decide +kernel
theorem dM_refine_136 : decode cM_refine 136 = .ok (.iconst 1, 1) := by decide +kernel
theorem dM_refine_137 : decode cM_refine 137 = .ok (.iadd, 1) := by decide +kernel
theorem dM_refine_138 : decode cM_refine 138 = .ok (.iastore, 1) := by decide +kernel
theorem dM_refine_139 : decode cM_refine 139 = .ok (.aload_n 0, 1) := by decide +kernel
theorem dM_refine_140 : decode cM_refine 140 = .ok (.getfield 19, 3) := by decide +kernel
theorem dM_refine_143 : decode cM_refine 143 = .ok (.iload 6, 2) := by decide +kernel
theorem dM_refine_145 : decode cM_refine 145 = .ok (.iaload, 1) := by decide +kernel
theorem dM_refine_146 : decode cM_refine 146 = .ok (.ireturn, 1) := by decide +kernel
theorem dM_noFunction_0 : decode cM_noFunction 0 = .ok (.iload_n 0, 1) := by decide +kernel
theorem dM_noFunction_1 : decode cM_noFunction 1 = .ok (.iconst 0, 1) := by decide +kernel
theorem dM_noFunction_2 : decode cM_noFunction 2 = .ok (.iconst 3, 1) := by decide +kernel
theorem dM_noFunction_3 : decode cM_noFunction 3 = .ok (.invokestatic 70, 3) := by decide +kernel
theorem dM_noFunction_6 : decode cM_noFunction 6 = .ok (.ifCond .ne 7, 3) := by decide +kernel
theorem dM_noFunction_9 : decode cM_noFunction 9 = .ok (.iconst 1, 1) := by decide +kernel
theorem dM_noFunction_10 : decode cM_noFunction 10 = .ok (.goto 4, 3) := by decide +kernel
theorem dM_noFunction_13 : decode cM_noFunction 13 = .ok (.iconst 0, 1) := by decide +kernel
theorem dM_noFunction_14 : decode cM_noFunction 14 = .ok (.ireturn, 1) := by decide +kernel
theorem dM_in_0 : decode cM_in 0 = .ok (.iload_n 0, 1) := by decide +kernel
theorem dM_in_1 : decode cM_in 1 = .ok (.iload_n 1, 1) := by decide +kernel
theorem dM_in_2 : decode cM_in 2 = .ok (.if_icmp .lt 12, 3) := by decide +kernel
theorem dM_in_5 : decode cM_in 5 = .ok (.iload_n 0, 1) := by decide +kernel
theorem dM_in_6 : decode cM_in 6 = .ok (.iload_n 2, 1) := by decide +kernel
theorem dM_in_7 : decode cM_in 7 = .ok (.if_icmp .gt 7, 3) := by decide +kernel
theorem dM_in_10 : decode cM_in 10 = .ok (.iconst 1, 1) := by decide +kernel
theorem dM_in_11 : decode cM_in 11 = .ok (.goto 4, 3) := by decide +kernel
theorem dM_in_14 : decode cM_in 14 = .ok (.iconst 0, 1) := by decide +kernel
theorem dM_in_15 : decode cM_in 15 = .ok (.ireturn, 1) := by decide +kernel
theorem dM_raise_0 : decode cM_raise 0 = .ok (.aload_n 0, 1) := by decide +kernel
theorem dM_raise_1 : decode cM_raise 1 = .ok (.iload_n 1, 1) := by decide +kernel
theorem dM_raise_2 : decode cM_raise 2 = .ok (.putfield 66, 3) := by decide +kernel
theorem dM_raise_5 : decode cM_raise 5 = .ok (.iconst 0, 1) := by decide +kernel
theorem dM_raise_6 : decode cM_raise 6 = .ok (.ireturn, 1) := by decide +kernel
theorem dM_statement_0 : decode cM_statement 0 = .ok (.aload_n 0, 1) := by decide +kernel
theorem dM_statement_1 : decode cM_statement 1 = .ok (.iconst 0, 1) := by decide +kernel
theorem dM_statement_2 : decode cM_statement 2 = .ok (.putfield 66, 3) := by decide +kernel
theorem dM_statement_5 : decode cM_statement 5 = .ok (.iload_n 1, 1) := by decide +kernel
theorem dM_statement_6 : decode cM_statement 6 = .ok (.invokestatic 74, 3) := by decide +kernel
theorem dM_statement_9 : decode cM_statement 9 = .ok (.ifCond .ne 17, 3) := by decide +kernel
theorem dM_statement_12 : decode cM_statement 12 = .ok (.iload_n 2, 1) := by decide +kernel
theorem dM_statement_13 : decode cM_statement 13 = .ok (.iload_n 3, 1) := by decide +kernel
theorem dM_statement_14 : decode cM_statement 14 = .ok (.iload 4, 2) := by decide +kernel
theorem dM_statement_16 : decode cM_statement 16 = .ok (.iload 5, 2) := by decide +kernel
theorem dM_statement_18 : decode cM_statement 18 = .ok (.iload 6, 2) := by decide +kernel
theorem dM_statement_20 : decode cM_statement 20 = .ok (.invokestatic 89, 3) := by decide +kernel
theorem dM_statement_23 : decode cM_statement 23 = .ok (.ifCond .ne 9, 3) := by decide +kernel
theorem dM_statement_26 : decode cM_statement 26 = .ok (.aload_n 0, 1) := by decide +kernel
theorem dM_statement_27 : decode cM_statement 27 = .ok (.iconst 1, 1) := by decide +kernel
theorem dM_statement_28 : decode cM_statement 28 = .ok (.invokevirtual 78, 3) := by decide +kernel
theorem dM_statement_31 : decode cM_statement 31 = .ok (.ireturn, 1) := by decide +kernel
theorem dM_statement_32 : decode cM_statement 32 = .ok (.aload_n 0, 1) := by decide +kernel
theorem dM_statement_33 : decode cM_statement 33 = .ok (.iload_n 1, 1) := by decide +kernel
theorem dM_statement_34 : decode cM_statement 34 = .ok (.iload_n 2, 1) := by decide +kernel
theorem dM_statement_35 : decode cM_statement 35 = .ok (.iload_n 3, 1) := by decide +kernel
theorem dM_statement_36 : decode cM_statement 36 = .ok (.iload 4, 2) := by decide +kernel
theorem dM_statement_38 : decode cM_statement 38 = .ok (.iload 5, 2) := by decide +kernel
theorem dM_statement_40 : decode cM_statement 40 = .ok (.invokevirtual 93, 3) := by decide +kernel
theorem dM_statement_43 : decode cM_statement 43 = .ok (.ifCond .ne 9, 3) := by decide +kernel
theorem dM_statement_46 : decode cM_statement 46 = .ok (.aload_n 0, 1) := by decide +kernel
theorem dM_statement_47 : decode cM_statement 47 = .ok (.iconst 2, 1) := by decide +kernel
theorem dM_statement_48 : decode cM_statement 48 = .ok (.invokevirtual 78, 3) := by decide +kernel
theorem dM_statement_51 : decode cM_statement 51 = .ok (.ireturn, 1) := by decide +kernel
theorem dM_statement_52 : decode cM_statement 52 = .ok (.aload_n 0, 1) := by decide +kernel
theorem dM_statement_53 : decode cM_statement 53 = .ok (.getfield 37, 3) := by decide +kernel
theorem dM_statement_56 : decode cM_statement 56 = .ok (.iload_n 1, 1) := by decide +kernel
theorem dM_statement_57 : decode cM_statement 57 = .ok (.iaload, 1) := by decide +kernel
theorem dM_statement_58 : decode cM_statement 58 = .ok (.bipush 16, 2) := by decide +kernel
theorem dM_statement_60 : decode cM_statement 60 = .ok (.if_icmp .eq 19, 3) := by decide +kernel
theorem dM_statement_63 : decode cM_statement 63 = .ok (.iload_n 2, 1) := by decide +kernel
theorem dM_statement_64 : decode cM_statement 64 = .ok (.iconst 2, 1) := by decide +kernel
theorem dM_statement_65 : decode cM_statement 65 = .ok (.if_icmp .ne 20, 3) := by decide +kernel
theorem dM_statement_68 : decode cM_statement 68 = .ok (.aload_n 0, 1) := by decide +kernel
theorem dM_statement_69 : decode cM_statement 69 = .ok (.getfield 49, 3) := by decide +kernel
theorem dM_statement_72 : decode cM_statement 72 = .ok (.iload_n 1, 1) := by decide +kernel
theorem dM_statement_73 : decode cM_statement 73 = .ok (.iaload, 1) := by decide +kernel
theorem dM_statement_74 : decode cM_statement 74 = .ok (.bipush 6, 2) := by decide +kernel
theorem dM_statement_76 : decode cM_statement 76 = .ok (.if_icmp .ne 9, 3) := by decide +kernel
theorem dM_statement_79 : decode cM_statement 79 = .ok (.aload_n 0, 1) := by decide +kernel
theorem dM_statement_80 : decode cM_statement 80 = .ok (.iconst 3, 1) := by decide +kernel
theorem dM_statement_81 : decode cM_statement 81 = .ok (.invokevirtual 78, 3) := by decide +kernel
theorem dM_statement_84 : decode cM_statement 84 = .ok (.ireturn, 1) := by decide +kernel
theorem dM_statement_85 : decode cM_statement 85 = .ok (.bipush 16, 2) := by decide +kernel
theorem dM_statement_87 : decode cM_statement 87 = .ok (.iload_n 1, 1) := by decide +kernel
theorem dM_statement_88 : decode cM_statement 88 = .ok (.imul, 1) := by decide +kernel
theorem dM_statement_89 : decode cM_statement 89 = .ok (.aload_n 0, 1) := by decide +kernel
theorem dM_statement_90 : decode cM_statement 90 = .ok (.getfield 37, 3) := by decide +kernel
theorem dM_statement_93 : decode cM_statement 93 = .ok (.iload_n 1, 1) := by decide +kernel
theorem dM_statement_94 : decode cM_statement 94 = .ok (.iaload, 1) := by decide +kernel
theorem dM_statement_95 : decode cM_statement 95 = .ok (.iadd, 1) := by decide +kernel
theorem dM_statement_96 : decode cM_statement 96 = .ok (.istore 7, 2) := by decide +kernel
theorem dM_statement_98 : decode cM_statement 98 = .ok (.aload_n 0, 1) := by decide +kernel
theorem dM_statement_99 : decode cM_statement 99 = .ok (.getfield 22, 3) := by decide +kernel
theorem dM_statement_102 : decode cM_statement 102 = .ok (.iload 7, 2) := by decide +kernel
theorem dM_statement_104 : decode cM_statement 104 = .ok (.iload_n 2, 1) := by decide +kernel
theorem dM_statement_105 : decode cM_statement 105 = .ok (.iastore, 1) := by decide +kernel
theorem dM_statement_106 : decode cM_statement 106 = .ok (.aload_n 0, 1) := by decide +kernel
theorem dM_statement_107 : decode cM_statement 107 = .ok (.getfield 25, 3) := by decide +kernel
theorem dM_statement_110 : decode cM_statement 110 = .ok (.iload 7, 2) := by decide +kernel
theorem dM_statement_112 : decode cM_statement 112 = .ok (.iload_n 3, 1) := by decide +kernel
theorem dM_statement_113 : decode cM_statement 113 = .ok (.iastore, 1) := by decide +kernel
theorem dM_statement_114 : decode cM_statement 114 = .ok (.aload_n 0, 1) := by decide +kernel
theorem dM_statement_115 : decode cM_statement 115 = .ok (.getfield 28, 3) := by decide +kernel
theorem dM_statement_118 : decode cM_statement 118 = .ok (.iload 7, 2) := by decide +kernel
theorem dM_statement_120 : decode cM_statement 120 = .ok (.iload 4, 2) := by decide +kernel
theorem dM_statement_122 : decode cM_statement 122 = .ok (.iastore, 1) := by decide +kernel
theorem dM_statement_123 : decode cM_statement 123 = .ok (.aload_n 0, 1) := by decide +kernel
theorem dM_statement_124 : decode cM_statement 124 = .ok (.getfield 31, 3) := by decide +kernel
theorem dM_statement_127 : decode cM_statement 127 = .ok (.iload 7, 2) := by decide +kernel
theorem dM_statement_129 : decode cM_statement 129 = .ok (.iload 5, 2) := by decide +kernel
theorem dM_statement_131 : decode cM_statement 131 = .ok (.iastore, 1) := by decide +kernel
theorem dM_statement_132 : decode cM_statement 132 = .ok (.aload_n 0, 1) := by decide +kernel
theorem dM_statement_133 : decode cM_statement 133 = .ok (.getfield 34, 3) := by decide +kernel
theorem dM_statement_136 : decode cM_statement 136 = .ok (.iload 7, 2) := by decide +kernel
theorem dM_statement_138 : decode cM_statement 138 = .ok (.iload 6, 2) := by decide +kernel
theorem dM_statement_140 : decode cM_statement 140 = .ok (.iastore, 1) := by decide +kernel
theorem dM_statement_141 : decode cM_statement 141 = .ok (.aload_n 0, 1) := by decide +kernel
theorem dM_statement_142 : decode cM_statement 142 = .ok (.getfield 43, 3) := by decide +kernel
theorem dM_statement_145 : decode cM_statement 145 = .ok (.iload 7, 2) := by decide +kernel
theorem dM_statement_147 : decode cM_statement 147 = .ok (.iconst (-1), 1) := by decide +kernel
theorem dM_statement_148 : decode cM_statement 148 = .ok (.iastore, 1) := by decide +kernel
theorem dM_statement_149 : decode cM_statement 149 = .ok (.aload_n 0, 1) := by decide +kernel
theorem dM_statement_150 : decode cM_statement 150 = .ok (.getfield 46, 3) := by decide +kernel
theorem dM_statement_153 : decode cM_statement 153 = .ok (.iload 7, 2) := by decide +kernel
theorem dM_statement_155 : decode cM_statement 155 = .ok (.iconst (-1), 1) := by decide +kernel
theorem dM_statement_156 : decode cM_statement 156 = .ok (.iastore, 1) := by decide +kernel
theorem dM_statement_157 : decode cM_statement 157 = .ok (.bipush 6, 2) := by decide +kernel
theorem dM_statement_159 : decode cM_statement 159 = .ok (.iload_n 1, 1) := by decide +kernel
theorem dM_statement_160 : decode cM_statement 160 = .ok (.imul, 1) := by decide +kernel
theorem dM_statement_161 : decode cM_statement 161 = .ok (.aload_n 0, 1) := by decide +kernel
theorem dM_statement_162 : decode cM_statement 162 = .ok (.getfield 55, 3) := by decide +kernel
theorem dM_statement_165 : decode cM_statement 165 = .ok (.iload_n 1, 1) := by decide +kernel
theorem dM_statement_166 : decode cM_statement 166 = .ok (.iaload, 1) := by decide +kernel
theorem dM_statement_167 : decode cM_statement 167 = .ok (.iadd, 1) := by decide +kernel
theorem dM_statement_168 : decode cM_statement 168 = .ok (.istore 8, 2) := by decide +kernel
theorem dM_statement_170 : decode cM_statement 170 = .ok (.iload_n 2, 1) := by decide +kernel
theorem dM_statement_171 : decode cM_statement 171 = .ok (.iconst 2, 1) := by decide +kernel
theorem dM_statement_172 : decode cM_statement 172 = .ok (.if_icmp .ne 45, 3) := by decide +kernel
theorem dM_statement_175 : decode cM_statement 175 = .ok (.aload_n 0, 1) := by decide +kernel
theorem dM_statement_176 : decode cM_statement 176 = .ok (.getfield 40, 3) := by decide +kernel
theorem dM_statement_179 : decode cM_statement 179 = .ok (.iload 7, 2) := by decide +kernel
theorem dM_statement_181 : decode cM_statement 181 = .ok (.aload_n 0, 1) := by decide +kernel
theorem dM_statement_182 : decode cM_statement 182 = .ok (.getfield 49, 3) := by decide +kernel
theorem dM_statement_185 : decode cM_statement 185 = .ok (.iload_n 1, 1) := by decide +kernel
theorem dM_statement_186 : decode cM_statement 186 = .ok (.iaload, 1) := by decide +kernel
theorem dM_statement_187 : decode cM_statement 187 = .ok (.iastore, 1) := by decide +kernel
theorem dM_statement_188 : decode cM_statement 188 = .ok (.aload_n 0, 1) := by decide +kernel
theorem dM_statement_189 : decode cM_statement 189 = .ok (.getfield 49, 3) := by decide +kernel
theorem dM_statement_192 : decode cM_statement 192 = .ok (.iload_n 1, 1) := by decide +kernel
theorem dM_statement_193 : decode cM_statement 193 = .ok (.dup2, 1) := by decide +kernel
theorem dM_statement_194 : decode cM_statement 194 = .ok (.iaload, 1) := by decide +kernel
theorem dM_statement_195 : decode cM_statement 195 = .ok (.iconst 1, 1) := by decide +kernel
theorem dM_statement_196 : decode cM_statement 196 = .ok (.iadd, 1) := by decide +kernel
theorem dM_statement_197 : decode cM_statement 197 = .ok (.iastore, 1) := by decide +kernel
theorem dM_statement_198 : decode cM_statement 198 = .ok (.aload_n 0, 1) := by decide +kernel
theorem dM_statement_199 : decode cM_statement 199 = .ok (.getfield 52, 3) := by decide +kernel
theorem dM_statement_202 : decode cM_statement 202 = .ok (.iload 8, 2) := by decide +kernel
theorem dM_statement_204 : decode cM_statement 204 = .ok (.iload 7, 2) := by decide +kernel
theorem dM_statement_206 : decode cM_statement 206 = .ok (.iastore, 1) := by decide +kernel
theorem dM_statement_207 : decode cM_statement 207 = .ok (.aload_n 0, 1) := by decide +kernel
theorem dM_statement_208 : decode cM_statement 208 = .ok (.getfield 55, 3) := by decide +kernel
theorem dM_statement_211 : decode cM_statement 211 = .ok (.iload_n 1, 1) := by decide +kernel
theorem dM_statement_212 : decode cM_statement 212 = .ok (.dup2, 1) := by decide +kernel
theorem dM_statement_213 : decode cM_statement 213 = .ok (.iaload, 1) := by decide +kernel
theorem dM_statement_214 : decode cM_statement 214 = .ok (.iconst 1, 1) := by decide +kernel
theorem dM_statement_215 : decode cM_statement 215 = .ok (.iadd, 1) := by decide +kernel
theorem dM_statement_216 : decode cM_statement 216 = .ok (.iastore, 1) := by decide +kernel
theorem dM_statement_217 : decode cM_statement 217 = .ok (.iload_n 2, 1) := by decide +kernel
theorem dM_statement_218 : decode cM_statement 218 = .ok (.iconst 3, 1) := by decide +kernel
theorem dM_statement_219 : decode cM_statement 219 = .ok (.if_icmp .ne 23, 3) := by decide +kernel
theorem dM_statement_222 : decode cM_statement 222 = .ok (.aload_n 0, 1) := by decide +kernel
theorem dM_statement_223 : decode cM_statement 223 = .ok (.getfield 43, 3) := by decide +kernel
theorem dM_statement_226 : decode cM_statement 226 = .ok (.aload_n 0, 1) := by decide +kernel
theorem dM_statement_227 : decode cM_statement 227 = .ok (.getfield 52, 3) := by decide +kernel
theorem dM_statement_230 : decode cM_statement 230 = .ok (.iload 8, 2) := by decide +kernel
theorem dM_statement_232 : decode cM_statement 232 = .ok (.iconst 1, 1) := by decide +kernel
theorem dM_statement_233 : decode cM_statement 233 = .ok (.isub, 1) := by decide +kernel
theorem dM_statement_234 : decode cM_statement 234 = .ok (.iaload, 1) := by decide +kernel
theorem dM_statement_235 : decode cM_statement 235 = .ok (.aload_n 0, 1) := by decide +kernel
theorem dM_statement_236 : decode cM_statement 236 = .ok (.getfield 37, 3) := by decide +kernel
theorem dM_statement_239 : decode cM_statement 239 = .ok (.iload_n 1, 1) := by decide +kernel
theorem dM_statement_240 : decode cM_statement 240 = .ok (.iaload, 1) := by decide +kernel
theorem dM_statement_241 : decode cM_statement 241 = .ok (.iastore, 1) := by decide +kernel
theorem dM_statement_242 : decode cM_statement 242 = .ok (.iload_n 2, 1) := by decide +kernel
theorem dM_statement_243 : decode cM_statement 243 = .ok (.iconst 4, 1) := by decide +kernel
theorem dM_statement_244 : decode cM_statement 244 = .ok (.if_icmp .ne 33, 3) := by decide +kernel
theorem dM_statement_247 : decode cM_statement 247 = .ok (.aload_n 0, 1) := by decide +kernel
theorem dM_statement_248 : decode cM_statement 248 = .ok (.getfield 46, 3) := by decide +kernel
theorem dM_statement_251 : decode cM_statement 251 = .ok (.aload_n 0, 1) := by decide +kernel
theorem dM_statement_252 : decode cM_statement 252 = .ok (.getfield 52, 3) := by decide +kernel
theorem dM_statement_255 : decode cM_statement 255 = .ok (.iload 8, 2) := by decide +kernel
theorem dM_statement_257 : decode cM_statement 257 = .ok (.iconst 1, 1) := by decide +kernel
theorem dM_statement_258 : decode cM_statement 258 = .ok (.isub, 1) := by decide +kernel
theorem dM_statement_259 : decode cM_statement 259 = .ok (.iaload, 1) := by decide +kernel
theorem dM_statement_260 : decode cM_statement 260 = .ok (.aload_n 0, 1) := by decide +kernel
theorem dM_statement_261 : decode cM_statement 261 = .ok (.getfield 37, 3) := by decide +kernel
theorem dM_statement_264 : decode cM_statement 264 = .ok (.iload_n 1, 1) := by decide +kernel
theorem dM_statement_265 : decode cM_statement 265 = .ok (.iaload, 1) := by decide +kernel
theorem dM_statement_266 : decode cM_statement 266 = .ok (.iastore, 1) := by decide +kernel
theorem dM_statement_267 : decode cM_statement 267 = .ok (.aload_n 0, 1) := by decide +kernel
theorem dM_statement_268 : decode cM_statement 268 = .ok (.getfield 55, 3) := by decide +kernel
theorem dM_statement_271 : decode cM_statement 271 = .ok (.iload_n 1, 1) := by decide +kernel
theorem dM_statement_272 : decode cM_statement 272 = .ok (.dup2, 1) := by decide +kernel
theorem dM_statement_273 : decode cM_statement 273 = .ok (.iaload, 1) := by decide +kernel
theorem dM_statement_274 : decode cM_statement 274 = .ok (.iconst 1, 1) := by decide +kernel
theorem dM_statement_275 : decode cM_statement 275 = .ok (.isub, 1) := by decide +kernel
theorem dM_statement_276 : decode cM_statement 276 = .ok (.iastore, 1) := by decide +kernel
theorem dM_statement_277 : decode cM_statement 277 = .ok (.aload_n 0, 1) := by decide +kernel
theorem dM_statement_278 : decode cM_statement 278 = .ok (.getfield 37, 3) := by decide +kernel
theorem dM_statement_281 : decode cM_statement 281 = .ok (.iload_n 1, 1) := by decide +kernel
theorem dM_statement_282 : decode cM_statement 282 = .ok (.dup2, 1) := by decide +kernel
theorem dM_statement_283 : decode cM_statement 283 = .ok (.iaload, 1) := by decide +kernel
theorem dM_statement_284 : decode cM_statement 284 = .ok (.iconst 1, 1) := by decide +kernel
theorem dM_statement_285 : decode cM_statement 285 = .ok (.iadd, 1) := by decide +kernel
theorem dM_statement_286 : decode cM_statement 286 = .ok (.iastore, 1) := by decide +kernel
theorem dM_statement_287 : decode cM_statement 287 = .ok (.aload_n 0, 1) := by decide +kernel
theorem dM_statement_288 : decode cM_statement 288 = .ok (.getfield 37, 3) := by decide +kernel
theorem dM_statement_291 : decode cM_statement 291 = .ok (.iload_n 1, 1) := by decide +kernel
theorem dM_statement_292 : decode cM_statement 292 = .ok (.iaload, 1) := by decide +kernel
theorem dM_statement_293 : decode cM_statement 293 = .ok (.iconst 1, 1) := by decide +kernel
theorem dM_statement_294 : decode cM_statement 294 = .ok (.isub, 1) := by decide +kernel
theorem dM_statement_295 : decode cM_statement 295 = .ok (.ireturn, 1) := by decide +kernel
theorem dM_fits_0 : decode cM_fits 0 = .ok (.iload_n 0, 1) := by decide +kernel
theorem dM_fits_1 : decode cM_fits 1 = .ok (.iconst 2, 1) := by decide +kernel
theorem dM_fits_2 : decode cM_fits 2 = .ok (.if_icmp .lt 9, 3) := by decide +kernel
theorem dM_fits_5 : decode cM_fits 5 = .ok (.iload_n 0, 1) := by decide +kernel
theorem dM_fits_6 : decode cM_fits 6 = .ok (.bipush 7, 2) := by decide +kernel
theorem dM_fits_8 : decode cM_fits 8 = .ok (.if_icmp .ne 7, 3) := by decide +kernel
theorem dM_fits_11 : decode cM_fits 11 = .ok (.iconst 1, 1) := by decide +kernel
theorem dM_fits_12 : decode cM_fits 12 = .ok (.goto 4, 3) := by decide +kernel
theorem dM_fits_15 : decode cM_fits 15 = .ok (.iconst 0, 1) := by decide +kernel
theorem dM_fits_16 : decode cM_fits 16 = .ok (.istore 5, 2) := by decide +kernel
theorem dM_fits_18 : decode cM_fits 18 = .ok (.iload_n 0, 1) := by decide +kernel
theorem dM_fits_19 : decode cM_fits 19 = .ok (.iconst 2, 1) := by decide +kernel
theorem dM_fits_20 : decode cM_fits 20 = .ok (.if_icmp .eq 8, 3) := by decide +kernel
theorem dM_fits_23 : decode cM_fits 23 = .ok (.iload_n 0, 1) := by decide +kernel
theorem dM_fits_24 : decode cM_fits 24 = .ok (.iconst 5, 1) := by decide +kernel
theorem dM_fits_25 : decode cM_fits 25 = .ok (.if_icmp .ne 7, 3) := by decide +kernel
theorem dM_fits_28 : decode cM_fits 28 = .ok (.iconst 1, 1) := by decide +kernel
theorem dM_fits_29 : decode cM_fits 29 = .ok (.goto 4, 3) := by decide +kernel
theorem dM_fits_32 : decode cM_fits 32 = .ok (.iconst 0, 1) := by decide +kernel
theorem dM_fits_33 : decode cM_fits 33 = .ok (.istore 6, 2) := by decide +kernel
theorem dM_fits_35 : decode cM_fits 35 = .ok (.iload_n 0, 1) := by decide +kernel
theorem dM_fits_36 : decode cM_fits 36 = .ok (.iconst 0, 1) := by decide +kernel
theorem dM_fits_37 : decode cM_fits 37 = .ok (.bipush 7, 2) := by decide +kernel
theorem dM_fits_39 : decode cM_fits 39 = .ok (.invokestatic 70, 3) := by decide +kernel
theorem dM_fits_42 : decode cM_fits 42 = .ok (.ifCond .eq 18, 3) := by decide +kernel
theorem dM_fits_45 : decode cM_fits 45 = .ok (.iload 5, 2) := by decide +kernel
theorem dM_fits_47 : decode cM_fits 47 = .ok (.ifCond .eq 15, 3) := by decide +kernel
theorem dM_fits_50 : decode cM_fits 50 = .ok (.iload_n 1, 1) := by decide +kernel
theorem dM_fits_51 : decode cM_fits 51 = .ok (.iconst 4, 1) := by decide +kernel
theorem dM_fits_52 : decode cM_fits 52 = .ok (.bipush 11, 2) := by decide +kernel
theorem dM_fits_54 : decode cM_fits 54 = .ok (.invokestatic 70, 3) := by decide +kernel
theorem dM_fits_57 : decode cM_fits 57 = .ok (.ifCond .ne 5, 3) := by decide +kernel
theorem dM_fits_60 : decode cM_fits 60 = .ok (.iconst 0, 1) := by decide +kernel
theorem dM_fits_61 : decode cM_fits 61 = .ok (.ireturn, 1) := by decide +kernel
theorem dM_fits_62 : decode cM_fits 62 = .ok (.iload 6, 2) := by decide +kernel
theorem dM_fits_64 : decode cM_fits 64 = .ok (.ifCond .eq 10, 3) := by decide +kernel
theorem dM_fits_67 : decode cM_fits 67 = .ok (.iload_n 1, 1) := by decide +kernel
theorem dM_fits_68 : decode cM_fits 68 = .ok (.invokestatic 82, 3) := by decide +kernel
theorem dM_fits_71 : decode cM_fits 71 = .ok (.ifCond .eq 38, 3) := by decide +kernel
theorem dM_fits_74 : decode cM_fits 74 = .ok (.iload_n 0, 1) := by decide +kernel
theorem dM_fits_75 : decode cM_fits 75 = .ok (.iconst 2, 1) := by decide +kernel
theorem dM_fits_76 : decode cM_fits 76 = .ok (.if_icmp .lt 14, 3) := by decide +kernel
theorem dM_fits_79 : decode cM_fits 79 = .ok (.iload 6, 2) := by decide +kernel
theorem dM_fits_81 : decode cM_fits 81 = .ok (.ifCond .ne 9, 3) := by decide +kernel
theorem dM_fits_84 : decode cM_fits 84 = .ok (.iload_n 0, 1) := by decide +kernel
theorem dM_fits_85 : decode cM_fits 85 = .ok (.bipush 6, 2) := by decide +kernel
theorem dM_fits_87 : decode cM_fits 87 = .ok (.if_icmp .ne 10, 3) := by decide +kernel
theorem dM_fits_90 : decode cM_fits 90 = .ok (.iload_n 2, 1) := by decide +kernel
theorem dM_fits_91 : decode cM_fits 91 = .ok (.invokestatic 82, 3) := by decide +kernel
theorem dM_fits_94 : decode cM_fits 94 = .ok (.ifCond .eq 15, 3) := by decide +kernel
theorem dM_fits_97 : decode cM_fits 97 = .ok (.iload_n 0, 1) := by decide +kernel
theorem dM_fits_98 : decode cM_fits 98 = .ok (.iconst 1, 1) := by decide +kernel
theorem dM_fits_99 : decode cM_fits 99 = .ok (.if_icmp .ne 12, 3) := by decide +kernel
theorem dM_fits_102 : decode cM_fits 102 = .ok (.iload_n 3, 1) := by decide +kernel
theorem dM_fits_103 : decode cM_fits 103 = .ok (.invokestatic 82, 3) := by decide +kernel
theorem dM_fits_106 : decode cM_fits 106 = .ok (.ifCond .ne 5, 3) := by decide +kernel
theorem dM_fits_109 : decode cM_fits 109 = .ok (.iconst 0, 1) := by decide +kernel
theorem dM_fits_110 : decode cM_fits 110 = .ok (.ireturn, 1) := by decide +kernel
theorem dM_fits_111 : decode cM_fits 111 = .ok (.iload_n 0, 1) := by decide +kernel
theorem dM_fits_112 : decode cM_fits 112 = .ok (.iconst 1, 1) := by decide +kernel
theorem dM_fits_113 : decode cM_fits 113 = .ok (.if_icmp .ne 11, 3) := by decide +kernel
theorem dM_fits_116 : decode cM_fits 116 = .ok (.iload 4, 2) := by decide +kernel
theorem dM_fits_118 : decode cM_fits 118 = .ok (.iconst 0, 1) := by decide +kernel
theorem dM_fits_119 : decode cM_fits 119 = .ok (.iconst 3, 1) := by decide +kernel
theorem dM_fits_120 : decode cM_fits 120 = .ok (.invokestatic 70, 3) := by decide +kernel
theorem dM_fits_123 : decode cM_fits 123 = .ok (.ireturn, 1) := by decide +kernel
theorem dM_fits_124 : decode cM_fits 124 = .ok (.iload_n 0, 1) := by decide +kernel
theorem dM_fits_125 : decode cM_fits 125 = .ok (.iconst 3, 1) := by decide +kernel
theorem dM_fits_126 : decode cM_fits 126 = .ok (.if_icmp .eq 28, 3) := by decide +kernel
theorem dM_fits_129 : decode cM_fits 129 = .ok (.iload_n 0, 1) := by decide +kernel
theorem dM_fits_130 : decode cM_fits 130 = .ok (.iconst 4, 1) := by decide +kernel
theorem dM_fits_131 : decode cM_fits 131 = .ok (.if_icmp .eq 23, 3) := by decide +kernel
theorem dM_fits_134 : decode cM_fits 134 = .ok (.iload_n 0, 1) := by decide +kernel
theorem dM_fits_135 : decode cM_fits 135 = .ok (.bipush 7, 2) := by decide +kernel
theorem dM_fits_137 : decode cM_fits 137 = .ok (.if_icmp .eq 17, 3) := by decide +kernel
theorem dM_fits_140 : decode cM_fits 140 = .ok (.iload 4, 2) := by decide +kernel
theorem dM_fits_142 : decode cM_fits 142 = .ok (.sipush (-1000), 3) := by decide +kernel
theorem dM_fits_145 : decode cM_fits 145 = .ok (.sipush 1000, 3) := by decide +kernel
theorem dM_fits_148 : decode cM_fits 148 = .ok (.invokestatic 70, 3) := by decide +kernel
theorem dM_fits_151 : decode cM_fits 151 = .ok (.ifCond .eq 7, 3) := by decide +kernel
theorem dM_fits_154 : decode cM_fits 154 = .ok (.iconst 1, 1) := by decide +kernel
theorem dM_fits_155 : decode cM_fits 155 = .ok (.goto 4, 3) := by decide +kernel
theorem dM_fits_158 : decode cM_fits 158 = .ok (.iconst 0, 1) := by decide +kernel
theorem dM_fits_159 : decode cM_fits 159 = .ok (.ireturn, 1) := by decide +kernel
theorem dM_name_0 : decode cM_name 0 = .ok (.iload_n 0, 1) := by decide +kernel
theorem dM_name_1 : decode cM_name 1 = .ok (.iconst 0, 1) := by decide +kernel
theorem dM_name_2 : decode cM_name 2 = .ok (.iconst 2, 1) := by decide +kernel
theorem dM_name_3 : decode cM_name 3 = .ok (.invokestatic 70, 3) := by decide +kernel
theorem dM_name_6 : decode cM_name 6 = .ok (.ifCond .ne 13, 3) := by decide +kernel
theorem dM_name_9 : decode cM_name 9 = .ok (.iload_n 0, 1) := by decide +kernel
theorem dM_name_10 : decode cM_name 10 = .ok (.iconst 4, 1) := by decide +kernel
theorem dM_name_11 : decode cM_name 11 = .ok (.bipush 11, 2) := by decide +kernel
theorem dM_name_13 : decode cM_name 13 = .ok (.invokestatic 70, 3) := by decide +kernel
theorem dM_name_16 : decode cM_name 16 = .ok (.ifCond .eq 7, 3) := by decide +kernel
theorem dM_name_19 : decode cM_name 19 = .ok (.iconst 1, 1) := by decide +kernel
theorem dM_name_20 : decode cM_name 20 = .ok (.goto 4, 3) := by decide +kernel
theorem dM_name_23 : decode cM_name 23 = .ok (.iconst 0, 1) := by decide +kernel
theorem dM_name_24 : decode cM_name 24 = .ok (.ireturn, 1) := by decide +kernel
theorem dM_stands_0 : decode cM_stands 0 = .ok (.iload_n 2, 1) := by decide +kernel
theorem dM_stands_1 : decode cM_stands 1 = .ok (.iconst 2, 1) := by decide +kernel
theorem dM_stands_2 : decode cM_stands 2 = .ok (.if_icmp .eq 8, 3) := by decide +kernel
theorem dM_stands_5 : decode cM_stands 5 = .ok (.iload_n 2, 1) := by decide +kernel
theorem dM_stands_6 : decode cM_stands 6 = .ok (.iconst 5, 1) := by decide +kernel
theorem dM_stands_7 : decode cM_stands 7 = .ok (.if_icmp .ne 7, 3) := by decide +kernel
theorem dM_stands_10 : decode cM_stands 10 = .ok (.iconst 1, 1) := by decide +kernel
theorem dM_stands_11 : decode cM_stands 11 = .ok (.goto 4, 3) := by decide +kernel
theorem dM_stands_14 : decode cM_stands 14 = .ok (.iconst 0, 1) := by decide +kernel
theorem dM_stands_15 : decode cM_stands 15 = .ok (.istore 6, 2) := by decide +kernel
theorem dM_stands_17 : decode cM_stands 17 = .ok (.iload 6, 2) := by decide +kernel
theorem dM_stands_19 : decode cM_stands 19 = .ok (.ifCond .eq 12, 3) := by decide +kernel
theorem dM_stands_22 : decode cM_stands 22 = .ok (.aload_n 0, 1) := by decide +kernel
theorem dM_stands_23 : decode cM_stands 23 = .ok (.iload_n 1, 1) := by decide +kernel
theorem dM_stands_24 : decode cM_stands 24 = .ok (.iload_n 3, 1) := by decide +kernel
theorem dM_stands_25 : decode cM_stands 25 = .ok (.invokevirtual 85, 3) := by decide +kernel
theorem dM_stands_28 : decode cM_stands 28 = .ok (.ifCond .eq 44, 3) := by decide +kernel
theorem dM_stands_31 : decode cM_stands 31 = .ok (.iload_n 2, 1) := by decide +kernel
theorem dM_stands_32 : decode cM_stands 32 = .ok (.iconst 2, 1) := by decide +kernel
theorem dM_stands_33 : decode cM_stands 33 = .ok (.if_icmp .lt 14, 3) := by decide +kernel
theorem dM_stands_36 : decode cM_stands 36 = .ok (.iload 6, 2) := by decide +kernel
theorem dM_stands_38 : decode cM_stands 38 = .ok (.ifCond .ne 9, 3) := by decide +kernel
theorem dM_stands_41 : decode cM_stands 41 = .ok (.iload_n 2, 1) := by decide +kernel
theorem dM_stands_42 : decode cM_stands 42 = .ok (.bipush 6, 2) := by decide +kernel
theorem dM_stands_44 : decode cM_stands 44 = .ok (.if_icmp .ne 13, 3) := by decide +kernel
theorem dM_stands_47 : decode cM_stands 47 = .ok (.aload_n 0, 1) := by decide +kernel
theorem dM_stands_48 : decode cM_stands 48 = .ok (.iload_n 1, 1) := by decide +kernel
theorem dM_stands_49 : decode cM_stands 49 = .ok (.iload 4, 2) := by decide +kernel
theorem dM_stands_51 : decode cM_stands 51 = .ok (.invokevirtual 85, 3) := by decide +kernel
theorem dM_stands_54 : decode cM_stands 54 = .ok (.ifCond .eq 18, 3) := by decide +kernel
theorem dM_stands_57 : decode cM_stands 57 = .ok (.iload_n 2, 1) := by decide +kernel
theorem dM_stands_58 : decode cM_stands 58 = .ok (.iconst 1, 1) := by decide +kernel
theorem dM_stands_59 : decode cM_stands 59 = .ok (.if_icmp .ne 15, 3) := by decide +kernel
theorem dM_stands_62 : decode cM_stands 62 = .ok (.aload_n 0, 1) := by decide +kernel
theorem dM_stands_63 : decode cM_stands 63 = .ok (.iload_n 1, 1) := by decide +kernel
theorem dM_stands_64 : decode cM_stands 64 = .ok (.iload 5, 2) := by decide +kernel
theorem dM_stands_66 : decode cM_stands 66 = .ok (.invokevirtual 85, 3) := by decide +kernel
theorem dM_stands_69 : decode cM_stands 69 = .ok (.ifCond .ne 5, 3) := by decide +kernel
theorem dM_stands_72 : decode cM_stands 72 = .ok (.iconst 0, 1) := by decide +kernel
theorem dM_stands_73 : decode cM_stands 73 = .ok (.ireturn, 1) := by decide +kernel
theorem dM_stands_74 : decode cM_stands 74 = .ok (.iload_n 2, 1) := by decide +kernel
theorem dM_stands_75 : decode cM_stands 75 = .ok (.iconst 3, 1) := by decide +kernel
theorem dM_stands_76 : decode cM_stands 76 = .ok (.if_icmp .eq 10, 3) := by decide +kernel
theorem dM_stands_79 : decode cM_stands 79 = .ok (.iload_n 2, 1) := by decide +kernel
theorem dM_stands_80 : decode cM_stands 80 = .ok (.iconst 4, 1) := by decide +kernel
theorem dM_stands_81 : decode cM_stands 81 = .ok (.if_icmp .eq 5, 3) := by decide +kernel
theorem dM_stands_84 : decode cM_stands 84 = .ok (.iconst 1, 1) := by decide +kernel
theorem dM_stands_85 : decode cM_stands 85 = .ok (.ireturn, 1) := by decide +kernel
theorem dM_stands_86 : decode cM_stands 86 = .ok (.aload_n 0, 1) := by decide +kernel
theorem dM_stands_87 : decode cM_stands 87 = .ok (.getfield 55, 3) := by decide +kernel
theorem dM_stands_90 : decode cM_stands 90 = .ok (.iload_n 1, 1) := by decide +kernel
theorem dM_stands_91 : decode cM_stands 91 = .ok (.iaload, 1) := by decide +kernel
theorem dM_stands_92 : decode cM_stands 92 = .ok (.ifCond .le 38, 3) := by decide +kernel
theorem dM_stands_95 : decode cM_stands 95 = .ok (.iload_n 2, 1) := by decide +kernel
theorem dM_stands_96 : decode cM_stands 96 = .ok (.iconst 4, 1) := by decide +kernel
theorem dM_stands_97 : decode cM_stands 97 = .ok (.if_icmp .eq 29, 3) := by decide +kernel
theorem dM_stands_100 : decode cM_stands 100 = .ok (.aload_n 0, 1) := by decide +kernel
theorem dM_stands_101 : decode cM_stands 101 = .ok (.getfield 43, 3) := by decide +kernel
theorem dM_stands_104 : decode cM_stands 104 = .ok (.aload_n 0, 1) := by decide +kernel
theorem dM_stands_105 : decode cM_stands 105 = .ok (.getfield 52, 3) := by decide +kernel
theorem dM_stands_108 : decode cM_stands 108 = .ok (.bipush 6, 2) := by decide +kernel
theorem dM_stands_110 : decode cM_stands 110 = .ok (.iload_n 1, 1) := by decide +kernel
theorem dM_stands_111 : decode cM_stands 111 = .ok (.imul, 1) := by decide +kernel
theorem dM_stands_112 : decode cM_stands 112 = .ok (.aload_n 0, 1) := by decide +kernel
theorem dM_stands_113 : decode cM_stands 113 = .ok (.getfield 55, 3) := by decide +kernel
theorem dM_stands_116 : decode cM_stands 116 = .ok (.iload_n 1, 1) := by decide +kernel
theorem dM_stands_117 : decode cM_stands 117 = .ok (.iaload, 1) := by decide +kernel
theorem dM_stands_118 : decode cM_stands 118 = .ok (.iadd, 1) := by decide +kernel
theorem dM_stands_119 : decode cM_stands 119 = .ok (.iconst 1, 1) := by decide +kernel
theorem dM_stands_120 : decode cM_stands 120 = .ok (.isub, 1) := by decide +kernel
theorem dM_stands_121 : decode cM_stands 121 = .ok (.iaload, 1) := by decide +kernel
theorem dM_stands_122 : decode cM_stands 122 = .ok (.iaload, 1) := by decide +kernel
theorem dM_stands_123 : decode cM_stands 123 = .ok (.ifCond .ge 7, 3) := by decide +kernel
theorem dM_stands_126 : decode cM_stands 126 = .ok (.iconst 1, 1) := by decide +kernel
theorem dM_stands_127 : decode cM_stands 127 = .ok (.goto 4, 3) := by decide +kernel
theorem dM_stands_130 : decode cM_stands 130 = .ok (.iconst 0, 1) := by decide +kernel
theorem dM_stands_131 : decode cM_stands 131 = .ok (.ireturn, 1) := by decide +kernel
theorem dM_given_0 : decode cM_given 0 = .ok (.iload_n 2, 1) := by decide +kernel
theorem dM_given_1 : decode cM_given 1 = .ok (.iconst 4, 1) := by decide +kernel
theorem dM_given_2 : decode cM_given 2 = .ok (.if_icmp .ge 5, 3) := by decide +kernel
theorem dM_given_5 : decode cM_given 5 = .ok (.iconst 1, 1) := by decide +kernel
theorem dM_given_6 : decode cM_given 6 = .ok (.ireturn, 1) := by decide +kernel
theorem dM_given_7 : decode cM_given 7 = .ok (.bipush 16, 2) := by decide +kernel
theorem dM_given_9 : decode cM_given 9 = .ok (.iload_n 1, 1) := by decide +kernel
theorem dM_given_10 : decode cM_given 10 = .ok (.imul, 1) := by decide +kernel
theorem dM_given_11 : decode cM_given 11 = .ok (.istore_n 3, 1) := by decide +kernel
theorem dM_given_12 : decode cM_given 12 = .ok (.iload_n 3, 1) := by decide +kernel
theorem dM_given_13 : decode cM_given 13 = .ok (.bipush 16, 2) := by decide +kernel
theorem dM_given_15 : decode cM_given 15 = .ok (.iload_n 1, 1) := by decide +kernel
theorem dM_given_16 : decode cM_given 16 = .ok (.imul, 1) := by decide +kernel
theorem dM_given_17 : decode cM_given 17 = .ok (.aload_n 0, 1) := by decide +kernel
theorem dM_given_18 : decode cM_given 18 = .ok (.getfield 37, 3) := by decide +kernel
theorem dM_given_21 : decode cM_given 21 = .ok (.iload_n 1, 1) := by decide +kernel
theorem dM_given_22 : decode cM_given 22 = .ok (.iaload, 1) := by decide +kernel
theorem dM_given_23 : decode cM_given 23 = .ok (.iadd, 1) := by decide +kernel
theorem dM_given_24 : decode cM_given 24 = .ok (.if_icmp .ge 42, 3) := by decide +kernel
theorem dM_given_27 : decode cM_given 27 = .ok (.aload_n 0, 1) := by decide +kernel
theorem dM_given_28 : decode cM_given 28 = .ok (.getfield 22, 3) := by decide +kernel
theorem dM_given_31 : decode cM_given 31 = .ok (.iload_n 3, 1) := by decide +kernel
theorem dM_given_32 : decode cM_given 32 = .ok (.iaload, 1) := by decide +kernel
theorem dM_given_33 : decode cM_given 33 = .ok (.iconst 2, 1) := by decide +kernel
theorem dM_given_34 : decode cM_given 34 = .ok (.if_icmp .lt 14, 3) := by decide +kernel
theorem dM_given_37 : decode cM_given 37 = .ok (.aload_n 0, 1) := by decide +kernel
theorem dM_given_38 : decode cM_given 38 = .ok (.getfield 22, 3) := by decide +kernel
theorem dM_given_41 : decode cM_given 41 = .ok (.iload_n 3, 1) := by decide +kernel
theorem dM_given_42 : decode cM_given 42 = .ok (.iaload, 1) := by decide +kernel
theorem dM_given_43 : decode cM_given 43 = .ok (.bipush 7, 2) := by decide +kernel
theorem dM_given_45 : decode cM_given 45 = .ok (.if_icmp .ne 15, 3) := by decide +kernel
theorem dM_given_48 : decode cM_given 48 = .ok (.aload_n 0, 1) := by decide +kernel
theorem dM_given_49 : decode cM_given 49 = .ok (.getfield 25, 3) := by decide +kernel
theorem dM_given_52 : decode cM_given 52 = .ok (.iload_n 3, 1) := by decide +kernel
theorem dM_given_53 : decode cM_given 53 = .ok (.iaload, 1) := by decide +kernel
theorem dM_given_54 : decode cM_given 54 = .ok (.iload_n 2, 1) := by decide +kernel
theorem dM_given_55 : decode cM_given 55 = .ok (.if_icmp .ne 5, 3) := by decide +kernel
theorem dM_given_58 : decode cM_given 58 = .ok (.iconst 1, 1) := by decide +kernel
theorem dM_given_59 : decode cM_given 59 = .ok (.ireturn, 1) := by decide +kernel
theorem dM_given_60 : decode cM_given 60 = .ok (.iinc 3 1, 3) := by decide +kernel
theorem dM_given_63 : decode cM_given 63 = .ok (.goto (-51), 3) := by decide +kernel
theorem dM_given_66 : decode cM_given 66 = .ok (.iconst 0, 1) := by decide +kernel
theorem dM_given_67 : decode cM_given 67 = .ok (.ireturn, 1) := by decide +kernel
theorem dM_clear_0 : decode cM_clear 0 = .ok (.aload_n 0, 1) := by decide +kernel
theorem dM_clear_1 : decode cM_clear 1 = .ok (.iconst 0, 1) := by decide +kernel
theorem dM_clear_2 : decode cM_clear 2 = .ok (.putfield 66, 3) := by decide +kernel
theorem dM_clear_5 : decode cM_clear 5 = .ok (.iload_n 1, 1) := by decide +kernel
theorem dM_clear_6 : decode cM_clear 6 = .ok (.invokestatic 74, 3) := by decide +kernel
theorem dM_clear_9 : decode cM_clear 9 = .ok (.ifCond .eq 9, 3) := by decide +kernel
theorem dM_clear_12 : decode cM_clear 12 = .ok (.aload_n 0, 1) := by decide +kernel
theorem dM_clear_13 : decode cM_clear 13 = .ok (.iconst 1, 1) := by decide +kernel
theorem dM_clear_14 : decode cM_clear 14 = .ok (.invokevirtual 78, 3) := by decide +kernel
theorem dM_clear_17 : decode cM_clear 17 = .ok (.ireturn, 1) := by decide +kernel
theorem dM_clear_18 : decode cM_clear 18 = .ok (.aload_n 0, 1) := by decide +kernel
theorem dM_clear_19 : decode cM_clear 19 = .ok (.getfield 37, 3) := by decide +kernel
theorem dM_clear_22 : decode cM_clear 22 = .ok (.iload_n 1, 1) := by decide +kernel
theorem dM_clear_23 : decode cM_clear 23 = .ok (.iaload, 1) := by decide +kernel
theorem dM_clear_24 : decode cM_clear 24 = .ok (.istore_n 2, 1) := by decide +kernel
theorem dM_clear_25 : decode cM_clear 25 = .ok (.aload_n 0, 1) := by decide +kernel
theorem dM_clear_26 : decode cM_clear 26 = .ok (.getfield 37, 3) := by decide +kernel
theorem dM_clear_29 : decode cM_clear 29 = .ok (.iload_n 1, 1) := by decide +kernel
theorem dM_clear_30 : decode cM_clear 30 = .ok (.iconst 0, 1) := by decide +kernel
theorem dM_clear_31 : decode cM_clear 31 = .ok (.iastore, 1) := by decide +kernel
theorem dM_clear_32 : decode cM_clear 32 = .ok (.aload_n 0, 1) := by decide +kernel
theorem dM_clear_33 : decode cM_clear 33 = .ok (.getfield 49, 3) := by decide +kernel
theorem dM_clear_36 : decode cM_clear 36 = .ok (.iload_n 1, 1) := by decide +kernel
theorem dM_clear_37 : decode cM_clear 37 = .ok (.iconst 0, 1) := by decide +kernel
theorem dM_clear_38 : decode cM_clear 38 = .ok (.iastore, 1) := by decide +kernel
theorem dM_clear_39 : decode cM_clear 39 = .ok (.aload_n 0, 1) := by decide +kernel
theorem dM_clear_40 : decode cM_clear 40 = .ok (.getfield 55, 3) := by decide +kernel
theorem dM_clear_43 : decode cM_clear 43 = .ok (.iload_n 1, 1) := by decide +kernel
theorem dM_clear_44 : decode cM_clear 44 = .ok (.iconst 0, 1) := by decide +kernel
theorem dM_clear_45 : decode cM_clear 45 = .ok (.iastore, 1) := by decide +kernel
theorem dM_clear_46 : decode cM_clear 46 = .ok (.aload_n 0, 1) := by decide +kernel
theorem dM_clear_47 : decode cM_clear 47 = .ok (.getfield 19, 3) := by decide +kernel
theorem dM_clear_50 : decode cM_clear 50 = .ok (.iconst 2, 1) := by decide +kernel
theorem dM_clear_51 : decode cM_clear 51 = .ok (.iload_n 1, 1) := by decide +kernel
theorem dM_clear_52 : decode cM_clear 52 = .ok (.imul, 1) := by decide +kernel
theorem dM_clear_53 : decode cM_clear 53 = .ok (.iconst 0, 1) := by decide +kernel
theorem dM_clear_54 : decode cM_clear 54 = .ok (.iastore, 1) := by decide +kernel
theorem dM_clear_55 : decode cM_clear 55 = .ok (.aload_n 0, 1) := by decide +kernel
theorem dM_clear_56 : decode cM_clear 56 = .ok (.getfield 19, 3) := by decide +kernel
theorem dM_clear_59 : decode cM_clear 59 = .ok (.iconst 2, 1) := by decide +kernel
theorem dM_clear_60 : decode cM_clear 60 = .ok (.iload_n 1, 1) := by decide +kernel
theorem dM_clear_61 : decode cM_clear 61 = .ok (.imul, 1) := by decide +kernel
theorem dM_clear_62 : decode cM_clear 62 = .ok (.iconst 1, 1) := by decide +kernel
theorem dM_clear_63 : decode cM_clear 63 = .ok (.iadd, 1) := by decide +kernel
theorem dM_clear_64 : decode cM_clear 64 = .ok (.iconst 0, 1) := by decide +kernel
theorem dM_clear_65 : decode cM_clear 65 = .ok (.iastore, 1) := by decide +kernel
theorem dM_clear_66 : decode cM_clear 66 = .ok (.iload_n 2, 1) := by decide +kernel
theorem dM_clear_67 : decode cM_clear 67 = .ok (.ireturn, 1) := by decide +kernel
theorem dM_check_0 : decode cM_check 0 = .ok (.aload_n 0, 1) := by decide +kernel
theorem dM_check_1 : decode cM_check 1 = .ok (.iconst 0, 1) := by decide +kernel
theorem dM_check_2 : decode cM_check 2 = .ok (.putfield 66, 3) := by decide +kernel
theorem dM_check_5 : decode cM_check 5 = .ok (.iload_n 1, 1) := by decide +kernel
theorem dM_check_6 : decode cM_check 6 = .ok (.invokestatic 74, 3) := by decide +kernel
theorem dM_check_9 : decode cM_check 9 = .ok (.ifCond .eq 9, 3) := by decide +kernel
theorem dM_check_12 : decode cM_check 12 = .ok (.aload_n 0, 1) := by decide +kernel
theorem dM_check_13 : decode cM_check 13 = .ok (.iconst 1, 1) := by decide +kernel
theorem dM_check_14 : decode cM_check 14 = .ok (.invokevirtual 78, 3) := by decide +kernel
theorem dM_check_17 : decode cM_check 17 = .ok (.ireturn, 1) := by decide +kernel
theorem dM_check_18 : decode cM_check 18 = .ok (.aload_n 0, 1) := by decide +kernel
theorem dM_check_19 : decode cM_check 19 = .ok (.iconst (-1), 1) := by decide +kernel
theorem dM_check_20 : decode cM_check 20 = .ok (.putfield 147, 3) := by decide +kernel
theorem dM_check_23 : decode cM_check 23 = .ok (.aload_n 0, 1) := by decide +kernel
theorem dM_check_24 : decode cM_check 24 = .ok (.iload_n 1, 1) := by decide +kernel
theorem dM_check_25 : decode cM_check 25 = .ok (.invokevirtual 179, 3) := by decide +kernel
theorem dM_check_28 : decode cM_check 28 = .ok (.aload_n 0, 1) := by decide +kernel
theorem dM_check_29 : decode cM_check 29 = .ok (.getfield 118, 3) := by decide +kernel
theorem dM_check_32 : decode cM_check 32 = .ok (.ireturn, 1) := by decide +kernel
theorem dM_explore_0 : decode cM_explore 0 = .ok (.aload_n 0, 1) := by decide +kernel
theorem dM_explore_1 : decode cM_explore 1 = .ok (.iload_n 1, 1) := by decide +kernel
theorem dM_explore_2 : decode cM_explore 2 = .ok (.putfield 121, 3) := by decide +kernel
theorem dM_explore_5 : decode cM_explore 5 = .ok (.aload_n 0, 1) := by decide +kernel
theorem dM_explore_6 : decode cM_explore 6 = .ok (.iconst (-1), 1) := by decide +kernel
theorem dM_explore_7 : decode cM_explore 7 = .ok (.putfield 118, 3) := by decide +kernel
theorem dM_explore_10 : decode cM_explore 10 = .ok (.aload_n 0, 1) := by decide +kernel
theorem dM_explore_11 : decode cM_explore 11 = .ok (.iconst 0, 1) := by decide +kernel
theorem dM_explore_12 : decode cM_explore 12 = .ok (.putfield 130, 3) := by decide +kernel
theorem dM_explore_15 : decode cM_explore 15 = .ok (.aload_n 0, 1) := by decide +kernel
theorem dM_explore_16 : decode cM_explore 16 = .ok (.iconst 0, 1) := by decide +kernel
theorem dM_explore_17 : decode cM_explore 17 = .ok (.putfield 156, 3) := by decide +kernel
theorem dM_explore_20 : decode cM_explore 20 = .ok (.aload_n 0, 1) := by decide +kernel
theorem dM_explore_21 : decode cM_explore 21 = .ok (.lconst 0, 1) := by decide +kernel
theorem dM_explore_22 : decode cM_explore 22 = .ok (.putfield 159, 3) := by decide +kernel
theorem dM_explore_25 : decode cM_explore 25 = .ok (.iconst 0, 1) := by decide +kernel
theorem dM_explore_26 : decode cM_explore 26 = .ok (.istore_n 2, 1) := by decide +kernel
theorem dM_explore_27 : decode cM_explore 27 = .ok (.iload_n 2, 1) := by decide +kernel
theorem dM_explore_28 : decode cM_explore 28 = .ok (.bipush 17, 2) := by decide +kernel
theorem dM_explore_30 : decode cM_explore 30 = .ok (.if_icmp .ge 16, 3) := by decide +kernel
theorem dM_explore_33 : decode cM_explore 33 = .ok (.aload_n 0, 1) := by decide +kernel
theorem dM_explore_34 : decode cM_explore 34 = .ok (.getfield 62, 3) := by decide +kernel
theorem dM_explore_37 : decode cM_explore 37 = .ok (.iload_n 2, 1) := by decide +kernel
theorem dM_explore_38 : decode cM_explore 38 = .ok (.iconst 0, 1) := by decide +kernel
theorem dM_explore_39 : decode cM_explore 39 = .ok (.bastore, 1) := by decide +kernel
theorem dM_explore_40 : decode cM_explore 40 = .ok (.iinc 2 1, 3) := by decide +kernel
theorem dM_explore_43 : decode cM_explore 43 = .ok (.goto (-16), 3) := by decide +kernel
theorem dM_explore_46 : decode cM_explore 46 = .ok (.iconst 0, 1) := by decide +kernel
theorem dM_explore_47 : decode cM_explore 47 = .ok (.istore_n 2, 1) := by decide +kernel
theorem dM_explore_48 : decode cM_explore 48 = .ok (.iload_n 2, 1) := by decide +kernel
theorem dM_explore_49 : decode cM_explore 49 = .ok (.iconst 1, 1) := by decide +kernel
theorem dM_explore_50 : decode cM_explore 50 = .ok (.aload_n 0, 1) := by decide +kernel
theorem dM_explore_51 : decode cM_explore 51 = .ok (.getfield 49, 3) := by decide +kernel
theorem dM_explore_54 : decode cM_explore 54 = .ok (.iload_n 1, 1) := by decide +kernel
theorem dM_explore_55 : decode cM_explore 55 = .ok (.iaload, 1) := by decide +kernel
theorem dM_explore_56 : decode cM_explore 56 = .ok (.ishl, 1) := by decide +kernel
theorem dM_explore_57 : decode cM_explore 57 = .ok (.if_icmp .ge 14, 3) := by decide +kernel
theorem dM_explore_60 : decode cM_explore 60 = .ok (.aload_n 0, 1) := by decide +kernel
theorem dM_explore_61 : decode cM_explore 61 = .ok (.iload_n 2, 1) := by decide +kernel
theorem dM_explore_62 : decode cM_explore 62 = .ok (.invokevirtual 176, 3) := by decide +kernel
theorem dM_explore_65 : decode cM_explore 65 = .ok (.iinc 2 1, 3) := by decide +kernel
theorem dM_explore_68 : decode cM_explore 68 = .ok (.goto (-20), 3) := by decide +kernel
theorem dM_explore_71 : decode cM_explore 71 = .ok (.return_, 1) := by decide +kernel
theorem dM_walk_0 : decode cM_walk 0 = .ok (.aload_n 0, 1) := by decide +kernel
theorem dM_walk_1 : decode cM_walk 1 = .ok (.invokevirtual 163, 3) := by decide +kernel
theorem dM_walk_4 : decode cM_walk 4 = .ok (.aload_n 0, 1) := by decide +kernel
theorem dM_walk_5 : decode cM_walk 5 = .ok (.iconst 2, 1) := by decide +kernel
theorem dM_walk_6 : decode cM_walk 6 = .ok (.aload_n 0, 1) := by decide +kernel
theorem dM_walk_7 : decode cM_walk 7 = .ok (.getfield 121, 3) := by decide +kernel
theorem dM_walk_10 : decode cM_walk 10 = .ok (.imul, 1) := by decide +kernel
theorem dM_walk_11 : decode cM_walk 11 = .ok (.iconst 1, 1) := by decide +kernel
theorem dM_walk_12 : decode cM_walk 12 = .ok (.iconst 2, 1) := by decide +kernel
theorem dM_walk_13 : decode cM_walk 13 = .ok (.invokevirtual 133, 3) := by decide +kernel
theorem dM_walk_16 : decode cM_walk 16 = .ok (.aload_n 0, 1) := by decide +kernel
theorem dM_walk_17 : decode cM_walk 17 = .ok (.iconst 0, 1) := by decide +kernel
theorem dM_walk_18 : decode cM_walk 18 = .ok (.putfield 144, 3) := by decide +kernel
theorem dM_walk_21 : decode cM_walk 21 = .ok (.iconst 0, 1) := by decide +kernel
theorem dM_walk_22 : decode cM_walk 22 = .ok (.istore_n 2, 1) := by decide +kernel
theorem dM_walk_23 : decode cM_walk 23 = .ok (.aload_n 0, 1) := by decide +kernel
theorem dM_walk_24 : decode cM_walk 24 = .ok (.getfield 98, 3) := by decide +kernel
theorem dM_walk_27 : decode cM_walk 27 = .ok (.ifCond .eq 131, 3) := by decide +kernel
theorem dM_walk_30 : decode cM_walk 30 = .ok (.aload_n 0, 1) := by decide +kernel
theorem dM_walk_31 : decode cM_walk 31 = .ok (.iload_n 2, 1) := by decide +kernel
theorem dM_walk_32 : decode cM_walk 32 = .ok (.invokevirtual 166, 3) := by decide +kernel
theorem dM_walk_35 : decode cM_walk 35 = .ok (.bipush 16, 2) := by decide +kernel
theorem dM_walk_37 : decode cM_walk 37 = .ok (.aload_n 0, 1) := by decide +kernel
theorem dM_walk_38 : decode cM_walk 38 = .ok (.getfield 121, 3) := by decide +kernel
theorem dM_walk_41 : decode cM_walk 41 = .ok (.imul, 1) := by decide +kernel
theorem dM_walk_42 : decode cM_walk 42 = .ok (.iload_n 2, 1) := by decide +kernel
theorem dM_walk_43 : decode cM_walk 43 = .ok (.iadd, 1) := by decide +kernel
theorem dM_walk_44 : decode cM_walk 44 = .ok (.istore_n 3, 1) := by decide +kernel
theorem dM_walk_45 : decode cM_walk 45 = .ok (.iload_n 2, 1) := by decide +kernel
theorem dM_walk_46 : decode cM_walk 46 = .ok (.aload_n 0, 1) := by decide +kernel
theorem dM_walk_47 : decode cM_walk 47 = .ok (.getfield 37, 3) := by decide +kernel
theorem dM_walk_50 : decode cM_walk 50 = .ok (.aload_n 0, 1) := by decide +kernel
theorem dM_walk_51 : decode cM_walk 51 = .ok (.getfield 121, 3) := by decide +kernel
theorem dM_walk_54 : decode cM_walk 54 = .ok (.iaload, 1) := by decide +kernel
theorem dM_walk_55 : decode cM_walk 55 = .ok (.if_icmp .eq 14, 3) := by decide +kernel
theorem dM_walk_58 : decode cM_walk 58 = .ok (.aload_n 0, 1) := by decide +kernel
theorem dM_walk_59 : decode cM_walk 59 = .ok (.getfield 22, 3) := by decide +kernel
theorem dM_walk_62 : decode cM_walk 62 = .ok (.iload_n 3, 1) := by decide +kernel
theorem dM_walk_63 : decode cM_walk 63 = .ok (.iaload, 1) := by decide +kernel
theorem dM_walk_64 : decode cM_walk 64 = .ok (.bipush 6, 2) := by decide +kernel
theorem dM_walk_66 : decode cM_walk 66 = .ok (.if_icmp .ne 82, 3) := by decide +kernel
theorem dM_walk_69 : decode cM_walk 69 = .ok (.iload_n 2, 1) := by decide +kernel
theorem dM_walk_70 : decode cM_walk 70 = .ok (.aload_n 0, 1) := by decide +kernel
theorem dM_walk_71 : decode cM_walk 71 = .ok (.getfield 37, 3) := by decide +kernel
theorem dM_walk_74 : decode cM_walk 74 = .ok (.aload_n 0, 1) := by decide +kernel
theorem dM_walk_75 : decode cM_walk 75 = .ok (.getfield 121, 3) := by decide +kernel
theorem dM_walk_78 : decode cM_walk 78 = .ok (.iaload, 1) := by decide +kernel
theorem dM_walk_79 : decode cM_walk 79 = .ok (.if_icmp .ne 7, 3) := by decide +kernel
theorem dM_walk_82 : decode cM_walk 82 = .ok (.iconst 1, 1) := by decide +kernel
theorem dM_walk_83 : decode cM_walk 83 = .ok (.goto 4, 3) := by decide +kernel
theorem dM_walk_86 : decode cM_walk 86 = .ok (.iconst 0, 1) := by decide +kernel
theorem dM_walk_87 : decode cM_walk 87 = .ok (.istore 4, 2) := by decide +kernel
theorem dM_walk_89 : decode cM_walk 89 = .ok (.aload_n 0, 1) := by decide +kernel
theorem dM_walk_90 : decode cM_walk 90 = .ok (.getfield 130, 3) := by decide +kernel
theorem dM_walk_93 : decode cM_walk 93 = .ok (.istore 5, 2) := by decide +kernel
theorem dM_walk_95 : decode cM_walk 95 = .ok (.aload_n 0, 1) := by decide +kernel
theorem dM_walk_96 : decode cM_walk 96 = .ok (.iload_n 2, 1) := by decide +kernel
theorem dM_walk_97 : decode cM_walk 97 = .ok (.iload 4, 2) := by decide +kernel
theorem dM_walk_99 : decode cM_walk 99 = .ok (.ifCond .eq 7, 3) := by decide +kernel
theorem dM_walk_102 : decode cM_walk 102 = .ok (.iconst 0, 1) := by decide +kernel
theorem dM_walk_103 : decode cM_walk 103 = .ok (.goto 9, 3) := by decide +kernel
theorem dM_walk_106 : decode cM_walk 106 = .ok (.aload_n 0, 1) := by decide +kernel
theorem dM_walk_107 : decode cM_walk 107 = .ok (.getfield 28, 3) := by decide +kernel
theorem dM_walk_110 : decode cM_walk 110 = .ok (.iload_n 3, 1) := by decide +kernel
theorem dM_walk_111 : decode cM_walk 111 = .ok (.iaload, 1) := by decide +kernel
theorem dM_walk_112 : decode cM_walk 112 = .ok (.iload 4, 2) := by decide +kernel
theorem dM_walk_114 : decode cM_walk 114 = .ok (.ifCond .eq 7, 3) := by decide +kernel
theorem dM_walk_117 : decode cM_walk 117 = .ok (.iconst 0, 1) := by decide +kernel
theorem dM_walk_118 : decode cM_walk 118 = .ok (.goto 9, 3) := by decide +kernel
theorem dM_walk_121 : decode cM_walk 121 = .ok (.aload_n 0, 1) := by decide +kernel
theorem dM_walk_122 : decode cM_walk 122 = .ok (.getfield 34, 3) := by decide +kernel
theorem dM_walk_125 : decode cM_walk 125 = .ok (.iload_n 3, 1) := by decide +kernel
theorem dM_walk_126 : decode cM_walk 126 = .ok (.iaload, 1) := by decide +kernel
theorem dM_walk_127 : decode cM_walk 127 = .ok (.invokevirtual 169, 3) := by decide +kernel
theorem dM_walk_130 : decode cM_walk 130 = .ok (.iload_n 1, 1) := by decide +kernel
theorem dM_walk_131 : decode cM_walk 131 = .ok (.aload_n 0, 1) := by decide +kernel
theorem dM_walk_132 : decode cM_walk 132 = .ok (.getfield 144, 3) := by decide +kernel
theorem dM_walk_135 : decode cM_walk 135 = .ok (.iconst (-1), 1) := by decide +kernel
theorem dM_walk_136 : decode cM_walk 136 = .ok (.ixor, 1) := by decide +kernel
theorem dM_walk_137 : decode cM_walk 137 = .ok (.iand, 1) := by decide +kernel
theorem dM_walk_138 : decode cM_walk 138 = .ok (.ifCond .eq 9, 3) := by decide +kernel
theorem dM_walk_141 : decode cM_walk 141 = .ok (.aload_n 0, 1) := by decide +kernel
theorem dM_walk_142 : decode cM_walk 142 = .ok (.iload 5, 2) := by decide +kernel
theorem dM_walk_144 : decode cM_walk 144 = .ok (.putfield 130, 3) := by decide +kernel
theorem dM_walk_147 : decode cM_walk 147 = .ok (.return_, 1) := by decide +kernel
theorem dM_walk_148 : decode cM_walk 148 = .ok (.aload_n 0, 1) := by decide +kernel
theorem dM_walk_149 : decode cM_walk 149 = .ok (.iload_n 2, 1) := by decide +kernel
theorem dM_walk_150 : decode cM_walk 150 = .ok (.iload_n 1, 1) := by decide +kernel
theorem dM_walk_151 : decode cM_walk 151 = .ok (.invokevirtual 172, 3) := by decide +kernel
theorem dM_walk_154 : decode cM_walk 154 = .ok (.istore_n 2, 1) := by decide +kernel
theorem dM_walk_155 : decode cM_walk 155 = .ok (.goto (-132), 3) := by decide +kernel
theorem dM_walk_158 : decode cM_walk 158 = .ok (.return_, 1) := by decide +kernel
theorem dM_begin_0 : decode cM_begin 0 = .ok (.iconst 0, 1) := by decide +kernel
theorem dM_begin_1 : decode cM_begin 1 = .ok (.istore_n 1, 1) := by decide +kernel
theorem dM_begin_2 : decode cM_begin 2 = .ok (.iload_n 1, 1) := by decide +kernel
theorem dM_begin_3 : decode cM_begin 3 = .ok (.bipush 13, 2) := by decide +kernel
theorem dM_begin_5 : decode cM_begin 5 = .ok (.if_icmp .ge 46, 3) := by decide +kernel
theorem dM_begin_8 : decode cM_begin 8 = .ok (.iconst 0, 1) := by decide +kernel
theorem dM_begin_9 : decode cM_begin 9 = .ok (.istore_n 2, 1) := by decide +kernel
theorem dM_begin_10 : decode cM_begin 10 = .ok (.iload_n 2, 1) := by decide +kernel
theorem dM_begin_11 : decode cM_begin 11 = .ok (.bipush 13, 2) := by decide +kernel
theorem dM_begin_13 : decode cM_begin 13 = .ok (.if_icmp .ge 32, 3) := by decide +kernel
theorem dM_begin_16 : decode cM_begin 16 = .ok (.aload_n 0, 1) := by decide +kernel
theorem dM_begin_17 : decode cM_begin 17 = .ok (.getfield 58, 3) := by decide +kernel
theorem dM_begin_20 : decode cM_begin 20 = .ok (.bipush 13, 2) := by decide +kernel
theorem dM_begin_22 : decode cM_begin 22 = .ok (.iload_n 1, 1) := by decide +kernel
theorem dM_begin_23 : decode cM_begin 23 = .ok (.imul, 1) := by decide +kernel
theorem dM_begin_24 : decode cM_begin 24 = .ok (.iload_n 2, 1) := by decide +kernel
theorem dM_begin_25 : decode cM_begin 25 = .ok (.iadd, 1) := by decide +kernel
theorem dM_begin_26 : decode cM_begin 26 = .ok (.iload_n 1, 1) := by decide +kernel
theorem dM_begin_27 : decode cM_begin 27 = .ok (.iload_n 2, 1) := by decide +kernel
theorem dM_begin_28 : decode cM_begin 28 = .ok (.if_icmp .ne 7, 3) := by decide +kernel
theorem dM_begin_31 : decode cM_begin 31 = .ok (.lconst 0, 1) := by decide +kernel
theorem dM_begin_32 : decode cM_begin 32 = .ok (.goto 6, 3) := by decide +kernel
theorem dM_begin_35 : decode cM_begin 35 = .ok (.ldc2_w 96, 3) := by decide +kernel
theorem dM_begin_38 : decode cM_begin 38 = .ok (.lastore, 1) := by decide +kernel
theorem dM_begin_39 : decode cM_begin 39 = .ok (.iinc 2 1, 3) := by decide +kernel
theorem dM_begin_42 : decode cM_begin 42 = .ok (.goto (-32), 3) := by decide +kernel
theorem dM_begin_45 : decode cM_begin 45 = .ok (.iinc 1 1, 3) := by decide +kernel
theorem dM_begin_48 : decode cM_begin 48 = .ok (.goto (-46), 3) := by decide +kernel
theorem dM_begin_51 : decode cM_begin 51 = .ok (.aload_n 0, 1) := by decide +kernel
theorem dM_begin_52 : decode cM_begin 52 = .ok (.iconst 1, 1) := by decide +kernel
theorem dM_begin_53 : decode cM_begin 53 = .ok (.putfield 98, 3) := by decide +kernel
theorem dM_begin_56 : decode cM_begin 56 = .ok (.return_, 1) := by decide +kernel
theorem dM_knowAll_0 : decode cM_knowAll 0 = .ok (.iconst 4, 1) := by decide +kernel
theorem dM_knowAll_1 : decode cM_knowAll 1 = .ok (.iload_n 1, 1) := by decide +kernel
theorem dM_knowAll_2 : decode cM_knowAll 2 = .ok (.imul, 1) := by decide +kernel
theorem dM_knowAll_3 : decode cM_knowAll 3 = .ok (.istore 4, 2) := by decide +kernel
theorem dM_knowAll_5 : decode cM_knowAll 5 = .ok (.iload 4, 2) := by decide +kernel
theorem dM_knowAll_7 : decode cM_knowAll 7 = .ok (.iconst 4, 1) := by decide +kernel
theorem dM_knowAll_8 : decode cM_knowAll 8 = .ok (.iload_n 1, 1) := by decide +kernel
theorem dM_knowAll_9 : decode cM_knowAll 9 = .ok (.imul, 1) := by decide +kernel
theorem dM_knowAll_10 : decode cM_knowAll 10 = .ok (.aload_n 0, 1) := by decide +kernel
theorem dM_knowAll_11 : decode cM_knowAll 11 = .ok (.getfield 19, 3) := by decide +kernel
theorem dM_knowAll_14 : decode cM_knowAll 14 = .ok (.iload_n 1, 1) := by decide +kernel
theorem dM_knowAll_15 : decode cM_knowAll 15 = .ok (.iaload, 1) := by decide +kernel
theorem dM_knowAll_16 : decode cM_knowAll 16 = .ok (.iadd, 1) := by decide +kernel
theorem dM_knowAll_17 : decode cM_knowAll 17 = .ok (.if_icmp .ge 45, 3) := by decide +kernel
theorem dM_knowAll_20 : decode cM_knowAll 20 = .ok (.aload_n 0, 1) := by decide +kernel
theorem dM_knowAll_21 : decode cM_knowAll 21 = .ok (.aload_n 0, 1) := by decide +kernel
theorem dM_knowAll_22 : decode cM_knowAll 22 = .ok (.getfield 7, 3) := by decide +kernel
theorem dM_knowAll_25 : decode cM_knowAll 25 = .ok (.iload 4, 2) := by decide +kernel
theorem dM_knowAll_27 : decode cM_knowAll 27 = .ok (.iaload, 1) := by decide +kernel
theorem dM_knowAll_28 : decode cM_knowAll 28 = .ok (.iload_n 2, 1) := by decide +kernel
theorem dM_knowAll_29 : decode cM_knowAll 29 = .ok (.iload_n 3, 1) := by decide +kernel
theorem dM_knowAll_30 : decode cM_knowAll 30 = .ok (.invokestatic 106, 3) := by decide +kernel
theorem dM_knowAll_33 : decode cM_knowAll 33 = .ok (.aload_n 0, 1) := by decide +kernel
theorem dM_knowAll_34 : decode cM_knowAll 34 = .ok (.getfield 13, 3) := by decide +kernel
theorem dM_knowAll_37 : decode cM_knowAll 37 = .ok (.iload 4, 2) := by decide +kernel
theorem dM_knowAll_39 : decode cM_knowAll 39 = .ok (.iaload, 1) := by decide +kernel
theorem dM_knowAll_40 : decode cM_knowAll 40 = .ok (.iload_n 2, 1) := by decide +kernel
theorem dM_knowAll_41 : decode cM_knowAll 41 = .ok (.iload_n 3, 1) := by decide +kernel
theorem dM_knowAll_42 : decode cM_knowAll 42 = .ok (.invokestatic 106, 3) := by decide +kernel
theorem dM_knowAll_45 : decode cM_knowAll 45 = .ok (.aload_n 0, 1) := by decide +kernel
theorem dM_knowAll_46 : decode cM_knowAll 46 = .ok (.getfield 16, 3) := by decide +kernel
theorem dM_knowAll_49 : decode cM_knowAll 49 = .ok (.iload 4, 2) := by decide +kernel
theorem dM_knowAll_51 : decode cM_knowAll 51 = .ok (.iaload, 1) := by decide +kernel
theorem dM_knowAll_52 : decode cM_knowAll 52 = .ok (.i2l, 1) := by decide +kernel
theorem dM_knowAll_53 : decode cM_knowAll 53 = .ok (.invokevirtual 110, 3) := by decide +kernel
theorem dM_knowAll_56 : decode cM_knowAll 56 = .ok (.iinc 4 1, 3) := by decide +kernel
theorem dM_knowAll_59 : decode cM_knowAll 59 = .ok (.goto (-54), 3) := by decide +kernel
theorem dM_knowAll_62 : decode cM_knowAll 62 = .ok (.return_, 1) := by decide +kernel
theorem dM_stand_0 : decode cM_stand 0 = .ok (.iload_n 0, 1) := by decide +kernel
theorem dM_stand_1 : decode cM_stand 1 = .ok (.ifCond .ne 7, 3) := by decide +kernel
theorem dM_stand_4 : decode cM_stand 4 = .ok (.iconst 0, 1) := by decide +kernel
theorem dM_stand_5 : decode cM_stand 5 = .ok (.goto 23, 3) := by decide +kernel
theorem dM_stand_8 : decode cM_stand 8 = .ok (.iload_n 0, 1) := by decide +kernel
theorem dM_stand_9 : decode cM_stand 9 = .ok (.iconst 1, 1) := by decide +kernel
theorem dM_stand_10 : decode cM_stand 10 = .ok (.if_icmp .ne 7, 3) := by decide +kernel
theorem dM_stand_13 : decode cM_stand 13 = .ok (.iload_n 1, 1) := by decide +kernel
theorem dM_stand_14 : decode cM_stand 14 = .ok (.goto 14, 3) := by decide +kernel
theorem dM_stand_17 : decode cM_stand 17 = .ok (.iload_n 0, 1) := by decide +kernel
theorem dM_stand_18 : decode cM_stand 18 = .ok (.iconst 2, 1) := by decide +kernel
theorem dM_stand_19 : decode cM_stand 19 = .ok (.if_icmp .ne 7, 3) := by decide +kernel
theorem dM_stand_22 : decode cM_stand 22 = .ok (.iload_n 2, 1) := by decide +kernel
theorem dM_stand_23 : decode cM_stand 23 = .ok (.goto 5, 3) := by decide +kernel
theorem dM_stand_26 : decode cM_stand 26 = .ok (.bipush 12, 2) := by decide +kernel
theorem dM_stand_28 : decode cM_stand 28 = .ok (.ireturn, 1) := by decide +kernel
theorem dM_know_0 : decode cM_know 0 = .ok (.aload_n 0, 1) := by decide +kernel
theorem dM_know_1 : decode cM_know 1 = .ok (.getfield 58, 3) := by decide +kernel
theorem dM_know_4 : decode cM_know 4 = .ok (.bipush 13, 2) := by decide +kernel
theorem dM_know_6 : decode cM_know 6 = .ok (.iload_n 2, 1) := by decide +kernel
theorem dM_know_7 : decode cM_know 7 = .ok (.imul, 1) := by decide +kernel
theorem dM_know_8 : decode cM_know 8 = .ok (.iload_n 1, 1) := by decide +kernel
theorem dM_know_9 : decode cM_know 9 = .ok (.iadd, 1) := by decide +kernel
theorem dM_know_10 : decode cM_know 10 = .ok (.laload, 1) := by decide +kernel
theorem dM_know_11 : decode cM_know 11 = .ok (.lload_n 3, 1) := by decide +kernel
theorem dM_know_12 : decode cM_know 12 = .ok (.ladd, 1) := by decide +kernel
theorem dM_know_13 : decode cM_know 13 = .ok (.lconst 0, 1) := by decide +kernel
theorem dM_know_14 : decode cM_know 14 = .ok (.lcmp, 1) := by decide +kernel
theorem dM_know_15 : decode cM_know 15 = .ok (.ifCond .ge 8, 3) := by decide +kernel
theorem dM_know_18 : decode cM_know 18 = .ok (.aload_n 0, 1) := by decide +kernel
theorem dM_know_19 : decode cM_know 19 = .ok (.iconst 0, 1) := by decide +kernel
theorem dM_know_20 : decode cM_know 20 = .ok (.putfield 98, 3) := by decide +kernel
theorem dM_know_23 : decode cM_know 23 = .ok (.aload_n 0, 1) := by decide +kernel
theorem dM_know_24 : decode cM_know 24 = .ok (.getfield 98, 3) := by decide +kernel
theorem dM_know_27 : decode cM_know 27 = .ok (.ifCond .eq 19, 3) := by decide +kernel
theorem dM_know_30 : decode cM_know 30 = .ok (.aload_n 0, 1) := by decide +kernel
theorem dM_know_31 : decode cM_know 31 = .ok (.getfield 58, 3) := by decide +kernel
theorem dM_know_34 : decode cM_know 34 = .ok (.bipush 13, 2) := by decide +kernel
theorem dM_know_36 : decode cM_know 36 = .ok (.iload_n 1, 1) := by decide +kernel
theorem dM_know_37 : decode cM_know 37 = .ok (.imul, 1) := by decide +kernel
theorem dM_know_38 : decode cM_know 38 = .ok (.iload_n 2, 1) := by decide +kernel
theorem dM_know_39 : decode cM_know 39 = .ok (.iadd, 1) := by decide +kernel
theorem dM_know_40 : decode cM_know 40 = .ok (.laload, 1) := by decide +kernel
theorem dM_know_41 : decode cM_know 41 = .ok (.lload_n 3, 1) := by decide +kernel
theorem dM_know_42 : decode cM_know 42 = .ok (.lcmp, 1) := by decide +kernel
theorem dM_know_43 : decode cM_know 43 = .ok (.ifCond .gt 4, 3) := by decide +kernel
theorem dM_know_46 : decode cM_know 46 = .ok (.return_, 1) := by decide +kernel
theorem dM_know_47 : decode cM_know 47 = .ok (.iconst 0, 1) := by decide +kernel
theorem dM_know_48 : decode cM_know 48 = .ok (.istore 5, 2) := by decide +kernel
theorem dM_know_50 : decode cM_know 50 = .ok (.iload 5, 2) := by decide +kernel
theorem dM_know_52 : decode cM_know 52 = .ok (.bipush 13, 2) := by decide +kernel
theorem dM_know_54 : decode cM_know 54 = .ok (.if_icmp .ge 134, 3) := by decide +kernel
theorem dM_know_57 : decode cM_know 57 = .ok (.aload_n 0, 1) := by decide +kernel
theorem dM_know_58 : decode cM_know 58 = .ok (.getfield 58, 3) := by decide +kernel
theorem dM_know_61 : decode cM_know 61 = .ok (.bipush 13, 2) := by decide +kernel
theorem dM_know_63 : decode cM_know 63 = .ok (.iload 5, 2) := by decide +kernel
theorem dM_know_65 : decode cM_know 65 = .ok (.imul, 1) := by decide +kernel
theorem dM_know_66 : decode cM_know 66 = .ok (.iload_n 1, 1) := by decide +kernel
theorem dM_know_67 : decode cM_know 67 = .ok (.iadd, 1) := by decide +kernel
theorem dM_know_68 : decode cM_know 68 = .ok (.laload, 1) := by decide +kernel
theorem dM_know_69 : decode cM_know 69 = .ok (.ldc2_w 96, 3) := by decide +kernel
theorem dM_know_72 : decode cM_know 72 = .ok (.lcmp, 1) := by decide +kernel
theorem dM_know_73 : decode cM_know 73 = .ok (.ifCond .ne 6, 3) := by decide +kernel
theorem dM_know_76 : decode cM_know 76 = .ok (.goto 106, 3) := by decide +kernel
theorem dM_know_79 : decode cM_know 79 = .ok (.iconst 0, 1) := by decide +kernel
theorem dM_know_80 : decode cM_know 80 = .ok (.istore 6, 2) := by decide +kernel
theorem dM_know_82 : decode cM_know 82 = .ok (.iload 6, 2) := by decide +kernel
theorem dM_know_84 : decode cM_know 84 = .ok (.bipush 13, 2) := by decide +kernel
theorem dM_know_86 : decode cM_know 86 = .ok (.if_icmp .ge 96, 3) := by decide +kernel
theorem dM_know_89 : decode cM_know 89 = .ok (.aload_n 0, 1) := by decide +kernel
theorem dM_know_90 : decode cM_know 90 = .ok (.getfield 58, 3) := by decide +kernel
theorem dM_know_93 : decode cM_know 93 = .ok (.bipush 13, 2) := by decide +kernel
theorem dM_know_95 : decode cM_know 95 = .ok (.iload_n 2, 1) := by decide +kernel
theorem dM_know_96 : decode cM_know 96 = .ok (.imul, 1) := by decide +kernel
theorem dM_know_97 : decode cM_know 97 = .ok (.iload 6, 2) := by decide +kernel
theorem dM_know_99 : decode cM_know 99 = .ok (.iadd, 1) := by decide +kernel
theorem dM_know_100 : decode cM_know 100 = .ok (.laload, 1) := by decide +kernel
theorem dM_know_101 : decode cM_know 101 = .ok (.lstore 7, 2) := by decide +kernel
theorem dM_know_103 : decode cM_know 103 = .ok (.lload 7, 2) := by decide +kernel
theorem dM_know_105 : decode cM_know 105 = .ok (.ldc2_w 96, 3) := by decide +kernel
theorem dM_know_108 : decode cM_know 108 = .ok (.lcmp, 1) := by decide +kernel
theorem dM_know_109 : decode cM_know 109 = .ok (.ifCond .eq 67, 3) := by decide +kernel
theorem dM_know_112 : decode cM_know 112 = .ok (.aload_n 0, 1) := by decide +kernel
theorem dM_know_113 : decode cM_know 113 = .ok (.getfield 58, 3) := by decide +kernel
theorem dM_know_116 : decode cM_know 116 = .ok (.bipush 13, 2) := by decide +kernel
theorem dM_know_118 : decode cM_know 118 = .ok (.iload 5, 2) := by decide +kernel
theorem dM_know_120 : decode cM_know 120 = .ok (.imul, 1) := by decide +kernel
theorem dM_know_121 : decode cM_know 121 = .ok (.iload_n 1, 1) := by decide +kernel
theorem dM_know_122 : decode cM_know 122 = .ok (.iadd, 1) := by decide +kernel
theorem dM_know_123 : decode cM_know 123 = .ok (.laload, 1) := by decide +kernel
theorem dM_know_124 : decode cM_know 124 = .ok (.lload_n 3, 1) := by decide +kernel
theorem dM_know_125 : decode cM_know 125 = .ok (.ladd, 1) := by decide +kernel
theorem dM_know_126 : decode cM_know 126 = .ok (.lload 7, 2) := by decide +kernel
theorem dM_know_128 : decode cM_know 128 = .ok (.ladd, 1) := by decide +kernel
theorem dM_know_129 : decode cM_know 129 = .ok (.aload_n 0, 1) := by decide +kernel
theorem dM_know_130 : decode cM_know 130 = .ok (.getfield 58, 3) := by decide +kernel
theorem dM_know_133 : decode cM_know 133 = .ok (.bipush 13, 2) := by decide +kernel
theorem dM_know_135 : decode cM_know 135 = .ok (.iload 5, 2) := by decide +kernel
theorem dM_know_137 : decode cM_know 137 = .ok (.imul, 1) := by decide +kernel
theorem dM_know_138 : decode cM_know 138 = .ok (.iload 6, 2) := by decide +kernel
theorem dM_know_140 : decode cM_know 140 = .ok (.iadd, 1) := by decide +kernel
theorem dM_know_141 : decode cM_know 141 = .ok (.laload, 1) := by decide +kernel
theorem dM_know_142 : decode cM_know 142 = .ok (.lcmp, 1) := by decide +kernel
theorem dM_know_143 : decode cM_know 143 = .ok (.ifCond .ge 33, 3) := by decide +kernel
theorem dM_know_146 : decode cM_know 146 = .ok (.aload_n 0, 1) := by decide +kernel
theorem dM_know_147 : decode cM_know 147 = .ok (.getfield 58, 3) := by decide +kernel
theorem dM_know_150 : decode cM_know 150 = .ok (.bipush 13, 2) := by decide +kernel
theorem dM_know_152 : decode cM_know 152 = .ok (.iload 5, 2) := by decide +kernel
theorem dM_know_154 : decode cM_know 154 = .ok (.imul, 1) := by decide +kernel
theorem dM_know_155 : decode cM_know 155 = .ok (.iload 6, 2) := by decide +kernel
theorem dM_know_157 : decode cM_know 157 = .ok (.iadd, 1) := by decide +kernel
theorem dM_know_158 : decode cM_know 158 = .ok (.aload_n 0, 1) := by decide +kernel
theorem dM_know_159 : decode cM_know 159 = .ok (.getfield 58, 3) := by decide +kernel
theorem dM_know_162 : decode cM_know 162 = .ok (.bipush 13, 2) := by decide +kernel
theorem dM_know_164 : decode cM_know 164 = .ok (.iload 5, 2) := by decide +kernel
theorem dM_know_166 : decode cM_know 166 = .ok (.imul, 1) := by decide +kernel
theorem dM_know_167 : decode cM_know 167 = .ok (.iload_n 1, 1) := by decide +kernel
theorem dM_know_168 : decode cM_know 168 = .ok (.iadd, 1) := by decide +kernel
theorem dM_know_169 : decode cM_know 169 = .ok (.laload, 1) := by decide +kernel
theorem dM_know_170 : decode cM_know 170 = .ok (.lload_n 3, 1) := by decide +kernel
theorem dM_know_171 : decode cM_know 171 = .ok (.ladd, 1) := by decide +kernel
theorem dM_know_172 : decode cM_know 172 = .ok (.lload 7, 2) := by decide +kernel
theorem dM_know_174 : decode cM_know 174 = .ok (.ladd, 1) := by decide +kernel
theorem dM_know_175 : decode cM_know 175 = .ok (.lastore, 1) := by decide +kernel
theorem dM_know_176 : decode cM_know 176 = .ok (.iinc 6 1, 3) := by decide +kernel
theorem dM_know_179 : decode cM_know 179 = .ok (.goto (-97), 3) := by decide +kernel
theorem dM_know_182 : decode cM_know 182 = .ok (.iinc 5 1, 3) := by decide +kernel
theorem dM_know_185 : decode cM_know 185 = .ok (.goto (-135), 3) := by decide +kernel
theorem dM_know_188 : decode cM_know 188 = .ok (.return_, 1) := by decide +kernel
theorem dM_look_0 : decode cM_look 0 = .ok (.aload_n 0, 1) := by decide +kernel
theorem dM_look_1 : decode cM_look 1 = .ok (.getfield 62, 3) := by decide +kernel
theorem dM_look_4 : decode cM_look 4 = .ok (.iload_n 1, 1) := by decide +kernel
theorem dM_look_5 : decode cM_look 5 = .ok (.iconst 1, 1) := by decide +kernel
theorem dM_look_6 : decode cM_look 6 = .ok (.bastore, 1) := by decide +kernel
theorem dM_look_7 : decode cM_look 7 = .ok (.iload_n 1, 1) := by decide +kernel
theorem dM_look_8 : decode cM_look 8 = .ok (.aload_n 0, 1) := by decide +kernel
theorem dM_look_9 : decode cM_look 9 = .ok (.getfield 147, 3) := by decide +kernel
theorem dM_look_12 : decode cM_look 12 = .ok (.if_icmp .eq 4, 3) := by decide +kernel
theorem dM_look_15 : decode cM_look 15 = .ok (.return_, 1) := by decide +kernel
theorem dM_look_16 : decode cM_look 16 = .ok (.aload_n 0, 1) := by decide +kernel
theorem dM_look_17 : decode cM_look 17 = .ok (.getfield 150, 3) := by decide +kernel
theorem dM_look_20 : decode cM_look 20 = .ok (.aload_n 0, 1) := by decide +kernel
theorem dM_look_21 : decode cM_look 21 = .ok (.getfield 153, 3) := by decide +kernel
theorem dM_look_24 : decode cM_look 24 = .ok (.if_icmp .ne 7, 3) := by decide +kernel
theorem dM_look_27 : decode cM_look 27 = .ok (.lconst 0, 1) := by decide +kernel
theorem dM_look_28 : decode cM_look 28 = .ok (.goto 20, 3) := by decide +kernel
theorem dM_look_31 : decode cM_look 31 = .ok (.aload_n 0, 1) := by decide +kernel
theorem dM_look_32 : decode cM_look 32 = .ok (.getfield 58, 3) := by decide +kernel
theorem dM_look_35 : decode cM_look 35 = .ok (.bipush 13, 2) := by decide +kernel
theorem dM_look_37 : decode cM_look 37 = .ok (.aload_n 0, 1) := by decide +kernel
theorem dM_look_38 : decode cM_look 38 = .ok (.getfield 150, 3) := by decide +kernel
theorem dM_look_41 : decode cM_look 41 = .ok (.imul, 1) := by decide +kernel
theorem dM_look_42 : decode cM_look 42 = .ok (.aload_n 0, 1) := by decide +kernel
theorem dM_look_43 : decode cM_look 43 = .ok (.getfield 153, 3) := by decide +kernel
theorem dM_look_46 : decode cM_look 46 = .ok (.iadd, 1) := by decide +kernel
theorem dM_look_47 : decode cM_look 47 = .ok (.laload, 1) := by decide +kernel
theorem dM_look_48 : decode cM_look 48 = .ok (.lstore_n 2, 1) := by decide +kernel
theorem dM_look_49 : decode cM_look 49 = .ok (.aload_n 0, 1) := by decide +kernel
theorem dM_look_50 : decode cM_look 50 = .ok (.getfield 156, 3) := by decide +kernel
theorem dM_look_53 : decode cM_look 53 = .ok (.ifCond .eq 12, 3) := by decide +kernel
theorem dM_look_56 : decode cM_look 56 = .ok (.lload_n 2, 1) := by decide +kernel
theorem dM_look_57 : decode cM_look 57 = .ok (.aload_n 0, 1) := by decide +kernel
theorem dM_look_58 : decode cM_look 58 = .ok (.getfield 159, 3) := by decide +kernel
theorem dM_look_61 : decode cM_look 61 = .ok (.lcmp, 1) := by decide +kernel
theorem dM_look_62 : decode cM_look 62 = .ok (.ifCond .le 8, 3) := by decide +kernel
theorem dM_look_65 : decode cM_look 65 = .ok (.aload_n 0, 1) := by decide +kernel
theorem dM_look_66 : decode cM_look 66 = .ok (.lload_n 2, 1) := by decide +kernel
theorem dM_look_67 : decode cM_look 67 = .ok (.putfield 159, 3) := by decide +kernel
theorem dM_look_70 : decode cM_look 70 = .ok (.aload_n 0, 1) := by decide +kernel
theorem dM_look_71 : decode cM_look 71 = .ok (.iconst 1, 1) := by decide +kernel
theorem dM_look_72 : decode cM_look 72 = .ok (.putfield 156, 3) := by decide +kernel
theorem dM_look_75 : decode cM_look 75 = .ok (.return_, 1) := by decide +kernel
theorem dM_returns_0 : decode cM_returns 0 = .ok (.aload_n 0, 1) := by decide +kernel
theorem dM_returns_1 : decode cM_returns 1 = .ok (.bipush 12, 2) := by decide +kernel
theorem dM_returns_3 : decode cM_returns 3 = .ok (.iload_n 2, 1) := by decide +kernel
theorem dM_returns_4 : decode cM_returns 4 = .ok (.iload_n 3, 1) := by decide +kernel
theorem dM_returns_5 : decode cM_returns 5 = .ok (.i2l, 1) := by decide +kernel
theorem dM_returns_6 : decode cM_returns 6 = .ok (.invokevirtual 110, 3) := by decide +kernel
theorem dM_returns_9 : decode cM_returns 9 = .ok (.aload_n 0, 1) := by decide +kernel
theorem dM_returns_10 : decode cM_returns 10 = .ok (.iload_n 2, 1) := by decide +kernel
theorem dM_returns_11 : decode cM_returns 11 = .ok (.bipush 12, 2) := by decide +kernel
theorem dM_returns_13 : decode cM_returns 13 = .ok (.iload_n 3, 1) := by decide +kernel
theorem dM_returns_14 : decode cM_returns 14 = .ok (.ineg, 1) := by decide +kernel
theorem dM_returns_15 : decode cM_returns 15 = .ok (.i2l, 1) := by decide +kernel
theorem dM_returns_16 : decode cM_returns 16 = .ok (.invokevirtual 110, 3) := by decide +kernel
theorem dM_returns_19 : decode cM_returns 19 = .ok (.aload_n 0, 1) := by decide +kernel
theorem dM_returns_20 : decode cM_returns 20 = .ok (.iconst 2, 1) := by decide +kernel
theorem dM_returns_21 : decode cM_returns 21 = .ok (.aload_n 0, 1) := by decide +kernel
theorem dM_returns_22 : decode cM_returns 22 = .ok (.getfield 121, 3) := by decide +kernel
theorem dM_returns_25 : decode cM_returns 25 = .ok (.imul, 1) := by decide +kernel
theorem dM_returns_26 : decode cM_returns 26 = .ok (.iconst 1, 1) := by decide +kernel
theorem dM_returns_27 : decode cM_returns 27 = .ok (.iadd, 1) := by decide +kernel
theorem dM_returns_28 : decode cM_returns 28 = .ok (.iconst 1, 1) := by decide +kernel
theorem dM_returns_29 : decode cM_returns 29 = .ok (.iconst 2, 1) := by decide +kernel
theorem dM_returns_30 : decode cM_returns 30 = .ok (.invokevirtual 124, 3) := by decide +kernel
theorem dM_returns_33 : decode cM_returns 33 = .ok (.ifCond .ne 8, 3) := by decide +kernel
theorem dM_returns_36 : decode cM_returns 36 = .ok (.aload_n 0, 1) := by decide +kernel
theorem dM_returns_37 : decode cM_returns 37 = .ok (.iload_n 1, 1) := by decide +kernel
theorem dM_returns_38 : decode cM_returns 38 = .ok (.invokevirtual 127, 3) := by decide +kernel
theorem dM_returns_41 : decode cM_returns 41 = .ok (.aload_n 0, 1) := by decide +kernel
theorem dM_returns_42 : decode cM_returns 42 = .ok (.dup, 1) := by decide +kernel
theorem dM_returns_43 : decode cM_returns 43 = .ok (.getfield 130, 3) := by decide +kernel
theorem dM_returns_46 : decode cM_returns 46 = .ok (.iconst 1, 1) := by decide +kernel
theorem dM_returns_47 : decode cM_returns 47 = .ok (.iadd, 1) := by decide +kernel
theorem dM_returns_48 : decode cM_returns 48 = .ok (.putfield 130, 3) := by decide +kernel
theorem dM_returns_51 : decode cM_returns 51 = .ok (.return_, 1) := by decide +kernel
theorem dM_showsAll_0 : decode cM_showsAll 0 = .ok (.iconst 4, 1) := by decide +kernel
theorem dM_showsAll_1 : decode cM_showsAll 1 = .ok (.iload_n 1, 1) := by decide +kernel
theorem dM_showsAll_2 : decode cM_showsAll 2 = .ok (.imul, 1) := by decide +kernel
theorem dM_showsAll_3 : decode cM_showsAll 3 = .ok (.istore 4, 2) := by decide +kernel
theorem dM_showsAll_5 : decode cM_showsAll 5 = .ok (.iload 4, 2) := by decide +kernel
theorem dM_showsAll_7 : decode cM_showsAll 7 = .ok (.iconst 4, 1) := by decide +kernel
theorem dM_showsAll_8 : decode cM_showsAll 8 = .ok (.iload_n 1, 1) := by decide +kernel
theorem dM_showsAll_9 : decode cM_showsAll 9 = .ok (.imul, 1) := by decide +kernel
theorem dM_showsAll_10 : decode cM_showsAll 10 = .ok (.aload_n 0, 1) := by decide +kernel
theorem dM_showsAll_11 : decode cM_showsAll 11 = .ok (.getfield 19, 3) := by decide +kernel
theorem dM_showsAll_14 : decode cM_showsAll 14 = .ok (.iload_n 1, 1) := by decide +kernel
theorem dM_showsAll_15 : decode cM_showsAll 15 = .ok (.iaload, 1) := by decide +kernel
theorem dM_showsAll_16 : decode cM_showsAll 16 = .ok (.iadd, 1) := by decide +kernel
theorem dM_showsAll_17 : decode cM_showsAll 17 = .ok (.if_icmp .ge 50, 3) := by decide +kernel
theorem dM_showsAll_20 : decode cM_showsAll 20 = .ok (.aload_n 0, 1) := by decide +kernel
theorem dM_showsAll_21 : decode cM_showsAll 21 = .ok (.aload_n 0, 1) := by decide +kernel
theorem dM_showsAll_22 : decode cM_showsAll 22 = .ok (.getfield 7, 3) := by decide +kernel
theorem dM_showsAll_25 : decode cM_showsAll 25 = .ok (.iload 4, 2) := by decide +kernel
theorem dM_showsAll_27 : decode cM_showsAll 27 = .ok (.iaload, 1) := by decide +kernel
theorem dM_showsAll_28 : decode cM_showsAll 28 = .ok (.iload_n 2, 1) := by decide +kernel
theorem dM_showsAll_29 : decode cM_showsAll 29 = .ok (.iload_n 3, 1) := by decide +kernel
theorem dM_showsAll_30 : decode cM_showsAll 30 = .ok (.invokestatic 106, 3) := by decide +kernel
theorem dM_showsAll_33 : decode cM_showsAll 33 = .ok (.aload_n 0, 1) := by decide +kernel
theorem dM_showsAll_34 : decode cM_showsAll 34 = .ok (.getfield 13, 3) := by decide +kernel
theorem dM_showsAll_37 : decode cM_showsAll 37 = .ok (.iload 4, 2) := by decide +kernel
theorem dM_showsAll_39 : decode cM_showsAll 39 = .ok (.iaload, 1) := by decide +kernel
theorem dM_showsAll_40 : decode cM_showsAll 40 = .ok (.iload_n 2, 1) := by decide +kernel
theorem dM_showsAll_41 : decode cM_showsAll 41 = .ok (.iload_n 3, 1) := by decide +kernel
theorem dM_showsAll_42 : decode cM_showsAll 42 = .ok (.invokestatic 106, 3) := by decide +kernel
theorem dM_showsAll_45 : decode cM_showsAll 45 = .ok (.aload_n 0, 1) := by decide +kernel
theorem dM_showsAll_46 : decode cM_showsAll 46 = .ok (.getfield 16, 3) := by decide +kernel
theorem dM_showsAll_49 : decode cM_showsAll 49 = .ok (.iload 4, 2) := by decide +kernel
theorem dM_showsAll_51 : decode cM_showsAll 51 = .ok (.iaload, 1) := by decide +kernel
theorem dM_showsAll_52 : decode cM_showsAll 52 = .ok (.i2l, 1) := by decide +kernel
theorem dM_showsAll_53 : decode cM_showsAll 53 = .ok (.invokevirtual 114, 3) := by decide +kernel
theorem dM_showsAll_56 : decode cM_showsAll 56 = .ok (.ifCond .ne 5, 3) := by decide +kernel
theorem dM_showsAll_59 : decode cM_showsAll 59 = .ok (.iconst 0, 1) := by decide +kernel
theorem dM_showsAll_60 : decode cM_showsAll 60 = .ok (.ireturn, 1) := by decide +kernel
theorem dM_showsAll_61 : decode cM_showsAll 61 = .ok (.iinc 4 1, 3) := by decide +kernel
theorem dM_showsAll_64 : decode cM_showsAll 64 = .ok (.goto (-59), 3) := by decide +kernel
theorem dM_showsAll_67 : decode cM_showsAll 67 = .ok (.iconst 1, 1) := by decide +kernel
theorem dM_showsAll_68 : decode cM_showsAll 68 = .ok (.ireturn, 1) := by decide +kernel
theorem dM_shows_0 : decode cM_shows 0 = .ok (.aload_n 0, 1) := by decide +kernel
theorem dM_shows_1 : decode cM_shows 1 = .ok (.getfield 58, 3) := by decide +kernel
theorem dM_shows_4 : decode cM_shows 4 = .ok (.bipush 13, 2) := by decide +kernel
theorem dM_shows_6 : decode cM_shows 6 = .ok (.iload_n 1, 1) := by decide +kernel
theorem dM_shows_7 : decode cM_shows 7 = .ok (.imul, 1) := by decide +kernel
theorem dM_shows_8 : decode cM_shows 8 = .ok (.iload_n 2, 1) := by decide +kernel
theorem dM_shows_9 : decode cM_shows 9 = .ok (.iadd, 1) := by decide +kernel
theorem dM_shows_10 : decode cM_shows 10 = .ok (.laload, 1) := by decide +kernel
theorem dM_shows_11 : decode cM_shows 11 = .ok (.lload_n 3, 1) := by decide +kernel
theorem dM_shows_12 : decode cM_shows 12 = .ok (.lcmp, 1) := by decide +kernel
theorem dM_shows_13 : decode cM_shows 13 = .ok (.ifCond .gt 7, 3) := by decide +kernel
theorem dM_shows_16 : decode cM_shows 16 = .ok (.iconst 1, 1) := by decide +kernel
theorem dM_shows_17 : decode cM_shows 17 = .ok (.goto 4, 3) := by decide +kernel
theorem dM_shows_20 : decode cM_shows 20 = .ok (.iconst 0, 1) := by decide +kernel
theorem dM_shows_21 : decode cM_shows 21 = .ok (.ireturn, 1) := by decide +kernel
theorem dM_blame_0 : decode cM_blame 0 = .ok (.aload_n 0, 1) := by decide +kernel
theorem dM_blame_1 : decode cM_blame 1 = .ok (.getfield 118, 3) := by decide +kernel
theorem dM_blame_4 : decode cM_blame 4 = .ok (.ifCond .lt 11, 3) := by decide +kernel
theorem dM_blame_7 : decode cM_blame 7 = .ok (.iload_n 1, 1) := by decide +kernel
theorem dM_blame_8 : decode cM_blame 8 = .ok (.aload_n 0, 1) := by decide +kernel
theorem dM_blame_9 : decode cM_blame 9 = .ok (.getfield 118, 3) := by decide +kernel
theorem dM_blame_12 : decode cM_blame 12 = .ok (.if_icmp .ge 8, 3) := by decide +kernel
theorem dM_blame_15 : decode cM_blame 15 = .ok (.aload_n 0, 1) := by decide +kernel
theorem dM_blame_16 : decode cM_blame 16 = .ok (.iload_n 1, 1) := by decide +kernel
theorem dM_blame_17 : decode cM_blame 17 = .ok (.putfield 118, 3) := by decide +kernel
theorem dM_blame_20 : decode cM_blame 20 = .ok (.return_, 1) := by decide +kernel
theorem dM_perform_0 : decode cM_perform 0 = .ok (.bipush 16, 2) := by decide +kernel
theorem dM_perform_2 : decode cM_perform 2 = .ok (.aload_n 0, 1) := by decide +kernel
theorem dM_perform_3 : decode cM_perform 3 = .ok (.getfield 121, 3) := by decide +kernel
theorem dM_perform_6 : decode cM_perform 6 = .ok (.imul, 1) := by decide +kernel
theorem dM_perform_7 : decode cM_perform 7 = .ok (.iload_n 1, 1) := by decide +kernel
theorem dM_perform_8 : decode cM_perform 8 = .ok (.iadd, 1) := by decide +kernel
theorem dM_perform_9 : decode cM_perform 9 = .ok (.istore_n 3, 1) := by decide +kernel
theorem dM_perform_10 : decode cM_perform 10 = .ok (.aload_n 0, 1) := by decide +kernel
theorem dM_perform_11 : decode cM_perform 11 = .ok (.getfield 25, 3) := by decide +kernel
theorem dM_perform_14 : decode cM_perform 14 = .ok (.iload_n 3, 1) := by decide +kernel
theorem dM_perform_15 : decode cM_perform 15 = .ok (.iaload, 1) := by decide +kernel
theorem dM_perform_16 : decode cM_perform 16 = .ok (.istore 4, 2) := by decide +kernel
theorem dM_perform_18 : decode cM_perform 18 = .ok (.aload_n 0, 1) := by decide +kernel
theorem dM_perform_19 : decode cM_perform 19 = .ok (.getfield 28, 3) := by decide +kernel
theorem dM_perform_22 : decode cM_perform 22 = .ok (.iload_n 3, 1) := by decide +kernel
theorem dM_perform_23 : decode cM_perform 23 = .ok (.iaload, 1) := by decide +kernel
theorem dM_perform_24 : decode cM_perform 24 = .ok (.istore 5, 2) := by decide +kernel
theorem dM_perform_26 : decode cM_perform 26 = .ok (.aload_n 0, 1) := by decide +kernel
theorem dM_perform_27 : decode cM_perform 27 = .ok (.getfield 37, 3) := by decide +kernel
theorem dM_perform_30 : decode cM_perform 30 = .ok (.aload_n 0, 1) := by decide +kernel
theorem dM_perform_31 : decode cM_perform 31 = .ok (.getfield 121, 3) := by decide +kernel
theorem dM_perform_34 : decode cM_perform 34 = .ok (.iaload, 1) := by decide +kernel
theorem dM_perform_35 : decode cM_perform 35 = .ok (.istore 6, 2) := by decide +kernel
theorem dM_perform_37 : decode cM_perform 37 = .ok (.aload_n 0, 1) := by decide +kernel
theorem dM_perform_38 : decode cM_perform 38 = .ok (.getfield 22, 3) := by decide +kernel
theorem dM_perform_41 : decode cM_perform 41 = .ok (.iload_n 3, 1) := by decide +kernel
theorem dM_perform_42 : decode cM_perform 42 = .ok (.iaload, 1) := by decide +kernel
theorem dM_perform_43 : decode cM_perform 43 = .ok (.tableswitch 325 0 7 #[45, 86, 96, 204, 325, 273, 325, 315], 45) := by decide +kernel
theorem dM_perform_88 : decode cM_perform 88 = .ok (.aload_n 0, 1) := by decide +kernel
theorem dM_perform_89 : decode cM_perform 89 = .ok (.bipush 12, 2) := by decide +kernel
theorem dM_perform_91 : decode cM_perform 91 = .ok (.iload 5, 2) := by decide +kernel
theorem dM_perform_93 : decode cM_perform 93 = .ok (.aload_n 0, 1) := by decide +kernel
theorem dM_perform_94 : decode cM_perform 94 = .ok (.getfield 34, 3) := by decide +kernel
theorem dM_perform_97 : decode cM_perform 97 = .ok (.iload_n 3, 1) := by decide +kernel
theorem dM_perform_98 : decode cM_perform 98 = .ok (.iaload, 1) := by decide +kernel
theorem dM_perform_99 : decode cM_perform 99 = .ok (.i2l, 1) := by decide +kernel
theorem dM_perform_100 : decode cM_perform 100 = .ok (.invokevirtual 110, 3) := by decide +kernel
theorem dM_perform_103 : decode cM_perform 103 = .ok (.aload_n 0, 1) := by decide +kernel
theorem dM_perform_104 : decode cM_perform 104 = .ok (.iload 5, 2) := by decide +kernel
theorem dM_perform_106 : decode cM_perform 106 = .ok (.bipush 12, 2) := by decide +kernel
theorem dM_perform_108 : decode cM_perform 108 = .ok (.aload_n 0, 1) := by decide +kernel
theorem dM_perform_109 : decode cM_perform 109 = .ok (.getfield 34, 3) := by decide +kernel
theorem dM_perform_112 : decode cM_perform 112 = .ok (.iload_n 3, 1) := by decide +kernel
theorem dM_perform_113 : decode cM_perform 113 = .ok (.iaload, 1) := by decide +kernel
theorem dM_perform_114 : decode cM_perform 114 = .ok (.ineg, 1) := by decide +kernel
theorem dM_perform_115 : decode cM_perform 115 = .ok (.i2l, 1) := by decide +kernel
theorem dM_perform_116 : decode cM_perform 116 = .ok (.invokevirtual 110, 3) := by decide +kernel
theorem dM_perform_119 : decode cM_perform 119 = .ok (.aload_n 0, 1) := by decide +kernel
theorem dM_perform_120 : decode cM_perform 120 = .ok (.iload 4, 2) := by decide +kernel
theorem dM_perform_122 : decode cM_perform 122 = .ok (.invokevirtual 137, 3) := by decide +kernel
theorem dM_perform_125 : decode cM_perform 125 = .ok (.iload_n 1, 1) := by decide +kernel
theorem dM_perform_126 : decode cM_perform 126 = .ok (.iconst 1, 1) := by decide +kernel
theorem dM_perform_127 : decode cM_perform 127 = .ok (.iadd, 1) := by decide +kernel
theorem dM_perform_128 : decode cM_perform 128 = .ok (.ireturn, 1) := by decide +kernel
theorem dM_perform_129 : decode cM_perform 129 = .ok (.aload_n 0, 1) := by decide +kernel
theorem dM_perform_130 : decode cM_perform 130 = .ok (.iload_n 1, 1) := by decide +kernel
theorem dM_perform_131 : decode cM_perform 131 = .ok (.iload_n 3, 1) := by decide +kernel
theorem dM_perform_132 : decode cM_perform 132 = .ok (.invokevirtual 140, 3) := by decide +kernel
theorem dM_perform_135 : decode cM_perform 135 = .ok (.iload_n 1, 1) := by decide +kernel
theorem dM_perform_136 : decode cM_perform 136 = .ok (.iconst 1, 1) := by decide +kernel
theorem dM_perform_137 : decode cM_perform 137 = .ok (.iadd, 1) := by decide +kernel
theorem dM_perform_138 : decode cM_perform 138 = .ok (.ireturn, 1) := by decide +kernel
theorem dM_perform_139 : decode cM_perform 139 = .ok (.aload_n 0, 1) := by decide +kernel
theorem dM_perform_140 : decode cM_perform 140 = .ok (.dup, 1) := by decide +kernel
theorem dM_perform_141 : decode cM_perform 141 = .ok (.getfield 144, 3) := by decide +kernel
theorem dM_perform_144 : decode cM_perform 144 = .ok (.iconst 1, 1) := by decide +kernel
theorem dM_perform_145 : decode cM_perform 145 = .ok (.aload_n 0, 1) := by decide +kernel
theorem dM_perform_146 : decode cM_perform 146 = .ok (.getfield 40, 3) := by decide +kernel
theorem dM_perform_149 : decode cM_perform 149 = .ok (.iload_n 3, 1) := by decide +kernel
theorem dM_perform_150 : decode cM_perform 150 = .ok (.iaload, 1) := by decide +kernel
theorem dM_perform_151 : decode cM_perform 151 = .ok (.ishl, 1) := by decide +kernel
theorem dM_perform_152 : decode cM_perform 152 = .ok (.ior, 1) := by decide +kernel
theorem dM_perform_153 : decode cM_perform 153 = .ok (.putfield 144, 3) := by decide +kernel
theorem dM_perform_156 : decode cM_perform 156 = .ok (.iload_n 2, 1) := by decide +kernel
theorem dM_perform_157 : decode cM_perform 157 = .ok (.aload_n 0, 1) := by decide +kernel
theorem dM_perform_158 : decode cM_perform 158 = .ok (.getfield 40, 3) := by decide +kernel
theorem dM_perform_161 : decode cM_perform 161 = .ok (.iload_n 3, 1) := by decide +kernel
theorem dM_perform_162 : decode cM_perform 162 = .ok (.iaload, 1) := by decide +kernel
theorem dM_perform_163 : decode cM_perform 163 = .ok (.ishr, 1) := by decide +kernel
theorem dM_perform_164 : decode cM_perform 164 = .ok (.iconst 1, 1) := by decide +kernel
theorem dM_perform_165 : decode cM_perform 165 = .ok (.iand, 1) := by decide +kernel
theorem dM_perform_166 : decode cM_perform 166 = .ok (.ifCond .ne 22, 3) := by decide +kernel
theorem dM_perform_169 : decode cM_perform 169 = .ok (.aload_n 0, 1) := by decide +kernel
theorem dM_perform_170 : decode cM_perform 170 = .ok (.iload 4, 2) := by decide +kernel
theorem dM_perform_172 : decode cM_perform 172 = .ok (.iload 5, 2) := by decide +kernel
theorem dM_perform_174 : decode cM_perform 174 = .ok (.aload_n 0, 1) := by decide +kernel
theorem dM_perform_175 : decode cM_perform 175 = .ok (.getfield 34, 3) := by decide +kernel
theorem dM_perform_178 : decode cM_perform 178 = .ok (.iload_n 3, 1) := by decide +kernel
theorem dM_perform_179 : decode cM_perform 179 = .ok (.iaload, 1) := by decide +kernel
theorem dM_perform_180 : decode cM_perform 180 = .ok (.i2l, 1) := by decide +kernel
theorem dM_perform_181 : decode cM_perform 181 = .ok (.invokevirtual 110, 3) := by decide +kernel
theorem dM_perform_184 : decode cM_perform 184 = .ok (.iload_n 1, 1) := by decide +kernel
theorem dM_perform_185 : decode cM_perform 185 = .ok (.iconst 1, 1) := by decide +kernel
theorem dM_perform_186 : decode cM_perform 186 = .ok (.iadd, 1) := by decide +kernel
theorem dM_perform_187 : decode cM_perform 187 = .ok (.ireturn, 1) := by decide +kernel
theorem dM_perform_188 : decode cM_perform 188 = .ok (.aload_n 0, 1) := by decide +kernel
theorem dM_perform_189 : decode cM_perform 189 = .ok (.iload 5, 2) := by decide +kernel
theorem dM_perform_191 : decode cM_perform 191 = .ok (.iload 4, 2) := by decide +kernel
theorem dM_perform_193 : decode cM_perform 193 = .ok (.aload_n 0, 1) := by decide +kernel
theorem dM_perform_194 : decode cM_perform 194 = .ok (.getfield 34, 3) := by decide +kernel
theorem dM_perform_197 : decode cM_perform 197 = .ok (.iload_n 3, 1) := by decide +kernel
theorem dM_perform_198 : decode cM_perform 198 = .ok (.iaload, 1) := by decide +kernel
theorem dM_perform_199 : decode cM_perform 199 = .ok (.ineg, 1) := by decide +kernel
theorem dM_perform_200 : decode cM_perform 200 = .ok (.i2l, 1) := by decide +kernel
theorem dM_perform_201 : decode cM_perform 201 = .ok (.lconst 1, 1) := by decide +kernel
theorem dM_perform_202 : decode cM_perform 202 = .ok (.lsub, 1) := by decide +kernel
theorem dM_perform_203 : decode cM_perform 203 = .ok (.invokevirtual 110, 3) := by decide +kernel
theorem dM_perform_206 : decode cM_perform 206 = .ok (.aload_n 0, 1) := by decide +kernel
theorem dM_perform_207 : decode cM_perform 207 = .ok (.getfield 43, 3) := by decide +kernel
theorem dM_perform_210 : decode cM_perform 210 = .ok (.iload_n 3, 1) := by decide +kernel
theorem dM_perform_211 : decode cM_perform 211 = .ok (.iaload, 1) := by decide +kernel
theorem dM_perform_212 : decode cM_perform 212 = .ok (.ifCond .lt 14, 3) := by decide +kernel
theorem dM_perform_215 : decode cM_perform 215 = .ok (.aload_n 0, 1) := by decide +kernel
theorem dM_perform_216 : decode cM_perform 216 = .ok (.getfield 43, 3) := by decide +kernel
theorem dM_perform_219 : decode cM_perform 219 = .ok (.iload_n 3, 1) := by decide +kernel
theorem dM_perform_220 : decode cM_perform 220 = .ok (.iaload, 1) := by decide +kernel
theorem dM_perform_221 : decode cM_perform 221 = .ok (.iconst 1, 1) := by decide +kernel
theorem dM_perform_222 : decode cM_perform 222 = .ok (.iadd, 1) := by decide +kernel
theorem dM_perform_223 : decode cM_perform 223 = .ok (.goto 23, 3) := by decide +kernel
theorem dM_perform_226 : decode cM_perform 226 = .ok (.aload_n 0, 1) := by decide +kernel
theorem dM_perform_227 : decode cM_perform 227 = .ok (.getfield 46, 3) := by decide +kernel
theorem dM_perform_230 : decode cM_perform 230 = .ok (.iload_n 3, 1) := by decide +kernel
theorem dM_perform_231 : decode cM_perform 231 = .ok (.iaload, 1) := by decide +kernel
theorem dM_perform_232 : decode cM_perform 232 = .ok (.ifCond .lt 12, 3) := by decide +kernel
theorem dM_perform_235 : decode cM_perform 235 = .ok (.aload_n 0, 1) := by decide +kernel
theorem dM_perform_236 : decode cM_perform 236 = .ok (.getfield 46, 3) := by decide +kernel
theorem dM_perform_239 : decode cM_perform 239 = .ok (.iload_n 3, 1) := by decide +kernel
theorem dM_perform_240 : decode cM_perform 240 = .ok (.iaload, 1) := by decide +kernel
theorem dM_perform_241 : decode cM_perform 241 = .ok (.goto 5, 3) := by decide +kernel
theorem dM_perform_244 : decode cM_perform 244 = .ok (.iload 6, 2) := by decide +kernel
theorem dM_perform_246 : decode cM_perform 246 = .ok (.ireturn, 1) := by decide +kernel
theorem dM_perform_247 : decode cM_perform 247 = .ok (.bipush 16, 2) := by decide +kernel
theorem dM_perform_249 : decode cM_perform 249 = .ok (.aload_n 0, 1) := by decide +kernel
theorem dM_perform_250 : decode cM_perform 250 = .ok (.getfield 121, 3) := by decide +kernel
theorem dM_perform_253 : decode cM_perform 253 = .ok (.imul, 1) := by decide +kernel
theorem dM_perform_254 : decode cM_perform 254 = .ok (.istore 7, 2) := by decide +kernel
theorem dM_perform_256 : decode cM_perform 256 = .ok (.iload 7, 2) := by decide +kernel
theorem dM_perform_258 : decode cM_perform 258 = .ok (.iload_n 3, 1) := by decide +kernel
theorem dM_perform_259 : decode cM_perform 259 = .ok (.if_icmp .ge 54, 3) := by decide +kernel
theorem dM_perform_262 : decode cM_perform 262 = .ok (.aload_n 0, 1) := by decide +kernel
theorem dM_perform_263 : decode cM_perform 263 = .ok (.getfield 22, 3) := by decide +kernel
theorem dM_perform_266 : decode cM_perform 266 = .ok (.iload 7, 2) := by decide +kernel
theorem dM_perform_268 : decode cM_perform 268 = .ok (.iaload, 1) := by decide +kernel
theorem dM_perform_269 : decode cM_perform 269 = .ok (.iconst 2, 1) := by decide +kernel
theorem dM_perform_270 : decode cM_perform 270 = .ok (.if_icmp .ne 37, 3) := by decide +kernel
theorem dM_perform_273 : decode cM_perform 273 = .ok (.aload_n 0, 1) := by decide +kernel
theorem dM_perform_274 : decode cM_perform 274 = .ok (.getfield 43, 3) := by decide +kernel
theorem dM_perform_277 : decode cM_perform 277 = .ok (.iload 7, 2) := by decide +kernel
theorem dM_perform_279 : decode cM_perform 279 = .ok (.iaload, 1) := by decide +kernel
theorem dM_perform_280 : decode cM_perform 280 = .ok (.iload_n 1, 1) := by decide +kernel
theorem dM_perform_281 : decode cM_perform 281 = .ok (.if_icmp .ne 26, 3) := by decide +kernel
theorem dM_perform_284 : decode cM_perform 284 = .ok (.aload_n 0, 1) := by decide +kernel
theorem dM_perform_285 : decode cM_perform 285 = .ok (.getfield 46, 3) := by decide +kernel
theorem dM_perform_288 : decode cM_perform 288 = .ok (.iload 7, 2) := by decide +kernel
theorem dM_perform_290 : decode cM_perform 290 = .ok (.iaload, 1) := by decide +kernel
theorem dM_perform_291 : decode cM_perform 291 = .ok (.ifCond .lt 13, 3) := by decide +kernel
theorem dM_perform_294 : decode cM_perform 294 = .ok (.aload_n 0, 1) := by decide +kernel
theorem dM_perform_295 : decode cM_perform 295 = .ok (.getfield 46, 3) := by decide +kernel
theorem dM_perform_298 : decode cM_perform 298 = .ok (.iload 7, 2) := by decide +kernel
theorem dM_perform_300 : decode cM_perform 300 = .ok (.iaload, 1) := by decide +kernel
theorem dM_perform_301 : decode cM_perform 301 = .ok (.goto 5, 3) := by decide +kernel
theorem dM_perform_304 : decode cM_perform 304 = .ok (.iload 6, 2) := by decide +kernel
theorem dM_perform_306 : decode cM_perform 306 = .ok (.ireturn, 1) := by decide +kernel
theorem dM_perform_307 : decode cM_perform 307 = .ok (.iinc 7 1, 3) := by decide +kernel
theorem dM_perform_310 : decode cM_perform 310 = .ok (.goto (-54), 3) := by decide +kernel
theorem dM_perform_313 : decode cM_perform 313 = .ok (.iload 6, 2) := by decide +kernel
theorem dM_perform_315 : decode cM_perform 315 = .ok (.ireturn, 1) := by decide +kernel
theorem dM_perform_316 : decode cM_perform 316 = .ok (.aload_n 0, 1) := by decide +kernel
theorem dM_perform_317 : decode cM_perform 317 = .ok (.iload 4, 2) := by decide +kernel
theorem dM_perform_319 : decode cM_perform 319 = .ok (.iload 5, 2) := by decide +kernel
theorem dM_perform_321 : decode cM_perform 321 = .ok (.aload_n 0, 1) := by decide +kernel
theorem dM_perform_322 : decode cM_perform 322 = .ok (.getfield 34, 3) := by decide +kernel
theorem dM_perform_325 : decode cM_perform 325 = .ok (.iload_n 3, 1) := by decide +kernel
theorem dM_perform_326 : decode cM_perform 326 = .ok (.iaload, 1) := by decide +kernel
theorem dM_perform_327 : decode cM_perform 327 = .ok (.i2l, 1) := by decide +kernel
theorem dM_perform_328 : decode cM_perform 328 = .ok (.invokevirtual 114, 3) := by decide +kernel
theorem dM_perform_331 : decode cM_perform 331 = .ok (.ifCond .ne 8, 3) := by decide +kernel
theorem dM_perform_334 : decode cM_perform 334 = .ok (.aload_n 0, 1) := by decide +kernel
theorem dM_perform_335 : decode cM_perform 335 = .ok (.iload_n 1, 1) := by decide +kernel
theorem dM_perform_336 : decode cM_perform 336 = .ok (.invokevirtual 127, 3) := by decide +kernel
theorem dM_perform_339 : decode cM_perform 339 = .ok (.aload_n 0, 1) := by decide +kernel
theorem dM_perform_340 : decode cM_perform 340 = .ok (.iload 4, 2) := by decide +kernel
theorem dM_perform_342 : decode cM_perform 342 = .ok (.iload 5, 2) := by decide +kernel
theorem dM_perform_344 : decode cM_perform 344 = .ok (.aload_n 0, 1) := by decide +kernel
theorem dM_perform_345 : decode cM_perform 345 = .ok (.getfield 34, 3) := by decide +kernel
theorem dM_perform_348 : decode cM_perform 348 = .ok (.iload_n 3, 1) := by decide +kernel
theorem dM_perform_349 : decode cM_perform 349 = .ok (.iaload, 1) := by decide +kernel
theorem dM_perform_350 : decode cM_perform 350 = .ok (.i2l, 1) := by decide +kernel
theorem dM_perform_351 : decode cM_perform 351 = .ok (.invokevirtual 110, 3) := by decide +kernel
theorem dM_perform_354 : decode cM_perform 354 = .ok (.iload_n 1, 1) := by decide +kernel
theorem dM_perform_355 : decode cM_perform 355 = .ok (.iconst 1, 1) := by decide +kernel
theorem dM_perform_356 : decode cM_perform 356 = .ok (.iadd, 1) := by decide +kernel
theorem dM_perform_357 : decode cM_perform 357 = .ok (.ireturn, 1) := by decide +kernel
theorem dM_perform_358 : decode cM_perform 358 = .ok (.aload_n 0, 1) := by decide +kernel
theorem dM_perform_359 : decode cM_perform 359 = .ok (.iload 4, 2) := by decide +kernel
theorem dM_perform_361 : decode cM_perform 361 = .ok (.invokevirtual 102, 3) := by decide +kernel
theorem dM_perform_364 : decode cM_perform 364 = .ok (.iload_n 1, 1) := by decide +kernel
theorem dM_perform_365 : decode cM_perform 365 = .ok (.iconst 1, 1) := by decide +kernel
theorem dM_perform_366 : decode cM_perform 366 = .ok (.iadd, 1) := by decide +kernel
theorem dM_perform_367 : decode cM_perform 367 = .ok (.ireturn, 1) := by decide +kernel
theorem dM_perform_368 : decode cM_perform 368 = .ok (.iload_n 1, 1) := by decide +kernel
theorem dM_perform_369 : decode cM_perform 369 = .ok (.iconst 1, 1) := by decide +kernel
theorem dM_perform_370 : decode cM_perform 370 = .ok (.iadd, 1) := by decide +kernel
theorem dM_perform_371 : decode cM_perform 371 = .ok (.ireturn, 1) := by decide +kernel
theorem dM_rename_0 : decode cM_rename 0 = .ok (.iconst 0, 1) := by decide +kernel
theorem dM_rename_1 : decode cM_rename 1 = .ok (.istore_n 2, 1) := by decide +kernel
theorem dM_rename_2 : decode cM_rename 2 = .ok (.iload_n 2, 1) := by decide +kernel
theorem dM_rename_3 : decode cM_rename 3 = .ok (.bipush 12, 2) := by decide +kernel
theorem dM_rename_5 : decode cM_rename 5 = .ok (.if_icmp .ge 61, 3) := by decide +kernel
theorem dM_rename_8 : decode cM_rename 8 = .ok (.iload_n 2, 1) := by decide +kernel
theorem dM_rename_9 : decode cM_rename 9 = .ok (.iload_n 1, 1) := by decide +kernel
theorem dM_rename_10 : decode cM_rename 10 = .ok (.if_icmp .ne 6, 3) := by decide +kernel
theorem dM_rename_13 : decode cM_rename 13 = .ok (.goto 47, 3) := by decide +kernel
theorem dM_rename_16 : decode cM_rename 16 = .ok (.aload_n 0, 1) := by decide +kernel
theorem dM_rename_17 : decode cM_rename 17 = .ok (.getfield 58, 3) := by decide +kernel
theorem dM_rename_20 : decode cM_rename 20 = .ok (.bipush 13, 2) := by decide +kernel
theorem dM_rename_22 : decode cM_rename 22 = .ok (.iload_n 1, 1) := by decide +kernel
theorem dM_rename_23 : decode cM_rename 23 = .ok (.imul, 1) := by decide +kernel
theorem dM_rename_24 : decode cM_rename 24 = .ok (.iload_n 2, 1) := by decide +kernel
theorem dM_rename_25 : decode cM_rename 25 = .ok (.iadd, 1) := by decide +kernel
theorem dM_rename_26 : decode cM_rename 26 = .ok (.aload_n 0, 1) := by decide +kernel
theorem dM_rename_27 : decode cM_rename 27 = .ok (.getfield 58, 3) := by decide +kernel
theorem dM_rename_30 : decode cM_rename 30 = .ok (.sipush 156, 3) := by decide +kernel
theorem dM_rename_33 : decode cM_rename 33 = .ok (.iload_n 2, 1) := by decide +kernel
theorem dM_rename_34 : decode cM_rename 34 = .ok (.iadd, 1) := by decide +kernel
theorem dM_rename_35 : decode cM_rename 35 = .ok (.laload, 1) := by decide +kernel
theorem dM_rename_36 : decode cM_rename 36 = .ok (.lastore, 1) := by decide +kernel
theorem dM_rename_37 : decode cM_rename 37 = .ok (.aload_n 0, 1) := by decide +kernel
theorem dM_rename_38 : decode cM_rename 38 = .ok (.getfield 58, 3) := by decide +kernel
theorem dM_rename_41 : decode cM_rename 41 = .ok (.bipush 13, 2) := by decide +kernel
theorem dM_rename_43 : decode cM_rename 43 = .ok (.iload_n 2, 1) := by decide +kernel
theorem dM_rename_44 : decode cM_rename 44 = .ok (.imul, 1) := by decide +kernel
theorem dM_rename_45 : decode cM_rename 45 = .ok (.iload_n 1, 1) := by decide +kernel
theorem dM_rename_46 : decode cM_rename 46 = .ok (.iadd, 1) := by decide +kernel
theorem dM_rename_47 : decode cM_rename 47 = .ok (.aload_n 0, 1) := by decide +kernel
theorem dM_rename_48 : decode cM_rename 48 = .ok (.getfield 58, 3) := by decide +kernel
theorem dM_rename_51 : decode cM_rename 51 = .ok (.bipush 13, 2) := by decide +kernel
theorem dM_rename_53 : decode cM_rename 53 = .ok (.iload_n 2, 1) := by decide +kernel
theorem dM_rename_54 : decode cM_rename 54 = .ok (.imul, 1) := by decide +kernel
theorem dM_rename_55 : decode cM_rename 55 = .ok (.bipush 12, 2) := by decide +kernel
theorem dM_rename_57 : decode cM_rename 57 = .ok (.iadd, 1) := by decide +kernel
theorem dM_rename_58 : decode cM_rename 58 = .ok (.laload, 1) := by decide +kernel
theorem dM_rename_59 : decode cM_rename 59 = .ok (.lastore, 1) := by decide +kernel
theorem dM_rename_60 : decode cM_rename 60 = .ok (.iinc 2 1, 3) := by decide +kernel
theorem dM_rename_63 : decode cM_rename 63 = .ok (.goto (-61), 3) := by decide +kernel
theorem dM_rename_66 : decode cM_rename 66 = .ok (.aload_n 0, 1) := by decide +kernel
theorem dM_rename_67 : decode cM_rename 67 = .ok (.bipush 12, 2) := by decide +kernel
theorem dM_rename_69 : decode cM_rename 69 = .ok (.invokevirtual 102, 3) := by decide +kernel
theorem dM_rename_72 : decode cM_rename 72 = .ok (.return_, 1) := by decide +kernel
theorem dM_forget_0 : decode cM_forget 0 = .ok (.iconst 0, 1) := by decide +kernel
theorem dM_forget_1 : decode cM_forget 1 = .ok (.istore_n 2, 1) := by decide +kernel
theorem dM_forget_2 : decode cM_forget 2 = .ok (.iload_n 2, 1) := by decide +kernel
theorem dM_forget_3 : decode cM_forget 3 = .ok (.bipush 13, 2) := by decide +kernel
theorem dM_forget_5 : decode cM_forget 5 = .ok (.if_icmp .ge 45, 3) := by decide +kernel
theorem dM_forget_8 : decode cM_forget 8 = .ok (.iload_n 2, 1) := by decide +kernel
theorem dM_forget_9 : decode cM_forget 9 = .ok (.iload_n 1, 1) := by decide +kernel
theorem dM_forget_10 : decode cM_forget 10 = .ok (.if_icmp .ne 6, 3) := by decide +kernel
theorem dM_forget_13 : decode cM_forget 13 = .ok (.goto 31, 3) := by decide +kernel
theorem dM_forget_16 : decode cM_forget 16 = .ok (.aload_n 0, 1) := by decide +kernel
theorem dM_forget_17 : decode cM_forget 17 = .ok (.getfield 58, 3) := by decide +kernel
theorem dM_forget_20 : decode cM_forget 20 = .ok (.bipush 13, 2) := by decide +kernel
theorem dM_forget_22 : decode cM_forget 22 = .ok (.iload_n 1, 1) := by decide +kernel
theorem dM_forget_23 : decode cM_forget 23 = .ok (.imul, 1) := by decide +kernel
theorem dM_forget_24 : decode cM_forget 24 = .ok (.iload_n 2, 1) := by decide +kernel
theorem dM_forget_25 : decode cM_forget 25 = .ok (.iadd, 1) := by decide +kernel
theorem dM_forget_26 : decode cM_forget 26 = .ok (.ldc2_w 96, 3) := by decide +kernel
theorem dM_forget_29 : decode cM_forget 29 = .ok (.lastore, 1) := by decide +kernel
theorem dM_forget_30 : decode cM_forget 30 = .ok (.aload_n 0, 1) := by decide +kernel
theorem dM_forget_31 : decode cM_forget 31 = .ok (.getfield 58, 3) := by decide +kernel
theorem dM_forget_34 : decode cM_forget 34 = .ok (.bipush 13, 2) := by decide +kernel
theorem dM_forget_36 : decode cM_forget 36 = .ok (.iload_n 2, 1) := by decide +kernel
theorem dM_forget_37 : decode cM_forget 37 = .ok (.imul, 1) := by decide +kernel
theorem dM_forget_38 : decode cM_forget 38 = .ok (.iload_n 1, 1) := by decide +kernel
theorem dM_forget_39 : decode cM_forget 39 = .ok (.iadd, 1) := by decide +kernel
theorem dM_forget_40 : decode cM_forget 40 = .ok (.ldc2_w 96, 3) := by decide +kernel
theorem dM_forget_43 : decode cM_forget 43 = .ok (.lastore, 1) := by decide +kernel
theorem dM_forget_44 : decode cM_forget 44 = .ok (.iinc 2 1, 3) := by decide +kernel
theorem dM_forget_47 : decode cM_forget 47 = .ok (.goto (-45), 3) := by decide +kernel
theorem dM_forget_50 : decode cM_forget 50 = .ok (.return_, 1) := by decide +kernel
theorem dM_call_0 : decode cM_call 0 = .ok (.aload_n 0, 1) := by decide +kernel
theorem dM_call_1 : decode cM_call 1 = .ok (.iconst 2, 1) := by decide +kernel
theorem dM_call_2 : decode cM_call 2 = .ok (.aload_n 0, 1) := by decide +kernel
theorem dM_call_3 : decode cM_call 3 = .ok (.getfield 34, 3) := by decide +kernel
theorem dM_call_6 : decode cM_call 6 = .ok (.iload_n 2, 1) := by decide +kernel
theorem dM_call_7 : decode cM_call 7 = .ok (.iaload, 1) := by decide +kernel
theorem dM_call_8 : decode cM_call 8 = .ok (.imul, 1) := by decide +kernel
theorem dM_call_9 : decode cM_call 9 = .ok (.aload_n 0, 1) := by decide +kernel
theorem dM_call_10 : decode cM_call 10 = .ok (.getfield 28, 3) := by decide +kernel
theorem dM_call_13 : decode cM_call 13 = .ok (.iload_n 2, 1) := by decide +kernel
theorem dM_call_14 : decode cM_call 14 = .ok (.iaload, 1) := by decide +kernel
theorem dM_call_15 : decode cM_call 15 = .ok (.aload_n 0, 1) := by decide +kernel
theorem dM_call_16 : decode cM_call 16 = .ok (.getfield 31, 3) := by decide +kernel
theorem dM_call_19 : decode cM_call 19 = .ok (.iload_n 2, 1) := by decide +kernel
theorem dM_call_20 : decode cM_call 20 = .ok (.iaload, 1) := by decide +kernel
theorem dM_call_21 : decode cM_call 21 = .ok (.invokevirtual 124, 3) := by decide +kernel
theorem dM_call_24 : decode cM_call 24 = .ok (.ifCond .ne 8, 3) := by decide +kernel
theorem dM_call_27 : decode cM_call 27 = .ok (.aload_n 0, 1) := by decide +kernel
theorem dM_call_28 : decode cM_call 28 = .ok (.iload_n 1, 1) := by decide +kernel
theorem dM_call_29 : decode cM_call 29 = .ok (.invokevirtual 127, 3) := by decide +kernel
theorem dM_call_32 : decode cM_call 32 = .ok (.aload_n 0, 1) := by decide +kernel
theorem dM_call_33 : decode cM_call 33 = .ok (.iconst 2, 1) := by decide +kernel
theorem dM_call_34 : decode cM_call 34 = .ok (.aload_n 0, 1) := by decide +kernel
theorem dM_call_35 : decode cM_call 35 = .ok (.getfield 34, 3) := by decide +kernel
theorem dM_call_38 : decode cM_call 38 = .ok (.iload_n 2, 1) := by decide +kernel
theorem dM_call_39 : decode cM_call 39 = .ok (.iaload, 1) := by decide +kernel
theorem dM_call_40 : decode cM_call 40 = .ok (.imul, 1) := by decide +kernel
theorem dM_call_41 : decode cM_call 41 = .ok (.iconst 1, 1) := by decide +kernel
theorem dM_call_42 : decode cM_call 42 = .ok (.iadd, 1) := by decide +kernel
theorem dM_call_43 : decode cM_call 43 = .ok (.aload_n 0, 1) := by decide +kernel
theorem dM_call_44 : decode cM_call 44 = .ok (.getfield 28, 3) := by decide +kernel
theorem dM_call_47 : decode cM_call 47 = .ok (.iload_n 2, 1) := by decide +kernel
theorem dM_call_48 : decode cM_call 48 = .ok (.iaload, 1) := by decide +kernel
theorem dM_call_49 : decode cM_call 49 = .ok (.aload_n 0, 1) := by decide +kernel
theorem dM_call_50 : decode cM_call 50 = .ok (.getfield 31, 3) := by decide +kernel
theorem dM_call_53 : decode cM_call 53 = .ok (.iload_n 2, 1) := by decide +kernel
theorem dM_call_54 : decode cM_call 54 = .ok (.iaload, 1) := by decide +kernel
theorem dM_call_55 : decode cM_call 55 = .ok (.invokevirtual 133, 3) := by decide +kernel
theorem dM_call_58 : decode cM_call 58 = .ok (.aload_n 0, 1) := by decide +kernel
theorem dM_call_59 : decode cM_call 59 = .ok (.getfield 98, 3) := by decide +kernel
theorem dM_call_62 : decode cM_call 62 = .ok (.ifCond .eq 13, 3) := by decide +kernel
theorem dM_call_65 : decode cM_call 65 = .ok (.aload_n 0, 1) := by decide +kernel
theorem dM_call_66 : decode cM_call 66 = .ok (.aload_n 0, 1) := by decide +kernel
theorem dM_call_67 : decode cM_call 67 = .ok (.getfield 25, 3) := by decide +kernel
theorem dM_call_70 : decode cM_call 70 = .ok (.iload_n 2, 1) := by decide +kernel
theorem dM_call_71 : decode cM_call 71 = .ok (.iaload, 1) := by decide +kernel
theorem dM_call_72 : decode cM_call 72 = .ok (.invokevirtual 137, 3) := by decide +kernel
theorem dM_call_75 : decode cM_call 75 = .ok (.return_, 1) := by decide +kernel
theorem dM_ways_0 : decode cM_ways 0 = .ok (.aload_n 0, 1) := by decide +kernel
theorem dM_ways_1 : decode cM_ways 1 = .ok (.iconst 0, 1) := by decide +kernel
theorem dM_ways_2 : decode cM_ways 2 = .ok (.putfield 66, 3) := by decide +kernel
theorem dM_ways_5 : decode cM_ways 5 = .ok (.iload_n 1, 1) := by decide +kernel
theorem dM_ways_6 : decode cM_ways 6 = .ok (.invokestatic 74, 3) := by decide +kernel
theorem dM_ways_9 : decode cM_ways 9 = .ok (.ifCond .eq 9, 3) := by decide +kernel
theorem dM_ways_12 : decode cM_ways 12 = .ok (.aload_n 0, 1) := by decide +kernel
theorem dM_ways_13 : decode cM_ways 13 = .ok (.iconst 1, 1) := by decide +kernel
theorem dM_ways_14 : decode cM_ways 14 = .ok (.invokevirtual 78, 3) := by decide +kernel
theorem dM_ways_17 : decode cM_ways 17 = .ok (.ireturn, 1) := by decide +kernel
theorem dM_ways_18 : decode cM_ways 18 = .ok (.aload_n 0, 1) := by decide +kernel
theorem dM_ways_19 : decode cM_ways 19 = .ok (.iconst (-1), 1) := by decide +kernel
theorem dM_ways_20 : decode cM_ways 20 = .ok (.putfield 147, 3) := by decide +kernel
theorem dM_ways_23 : decode cM_ways 23 = .ok (.aload_n 0, 1) := by decide +kernel
theorem dM_ways_24 : decode cM_ways 24 = .ok (.iload_n 1, 1) := by decide +kernel
theorem dM_ways_25 : decode cM_ways 25 = .ok (.invokevirtual 179, 3) := by decide +kernel
theorem dM_ways_28 : decode cM_ways 28 = .ok (.aload_n 0, 1) := by decide +kernel
theorem dM_ways_29 : decode cM_ways 29 = .ok (.getfield 130, 3) := by decide +kernel
theorem dM_ways_32 : decode cM_ways 32 = .ok (.ireturn, 1) := by decide +kernel
theorem dM_comes_0 : decode cM_comes 0 = .ok (.aload_n 0, 1) := by decide +kernel
theorem dM_comes_1 : decode cM_comes 1 = .ok (.iconst 0, 1) := by decide +kernel
theorem dM_comes_2 : decode cM_comes 2 = .ok (.putfield 66, 3) := by decide +kernel
theorem dM_comes_5 : decode cM_comes 5 = .ok (.aload_n 0, 1) := by decide +kernel
theorem dM_comes_6 : decode cM_comes 6 = .ok (.iload_n 1, 1) := by decide +kernel
theorem dM_comes_7 : decode cM_comes 7 = .ok (.iload_n 2, 1) := by decide +kernel
theorem dM_comes_8 : decode cM_comes 8 = .ok (.invokevirtual 182, 3) := by decide +kernel
theorem dM_comes_11 : decode cM_comes 11 = .ok (.ifCond .eq 9, 3) := by decide +kernel
theorem dM_comes_14 : decode cM_comes 14 = .ok (.aload_n 0, 1) := by decide +kernel
theorem dM_comes_15 : decode cM_comes 15 = .ok (.iconst 1, 1) := by decide +kernel
theorem dM_comes_16 : decode cM_comes 16 = .ok (.invokevirtual 78, 3) := by decide +kernel
theorem dM_comes_19 : decode cM_comes 19 = .ok (.ireturn, 1) := by decide +kernel
theorem dM_comes_20 : decode cM_comes 20 = .ok (.aload_n 0, 1) := by decide +kernel
theorem dM_comes_21 : decode cM_comes 21 = .ok (.iconst (-1), 1) := by decide +kernel
theorem dM_comes_22 : decode cM_comes 22 = .ok (.putfield 147, 3) := by decide +kernel
theorem dM_comes_25 : decode cM_comes 25 = .ok (.aload_n 0, 1) := by decide +kernel
theorem dM_comes_26 : decode cM_comes 26 = .ok (.iload_n 1, 1) := by decide +kernel
theorem dM_comes_27 : decode cM_comes 27 = .ok (.invokevirtual 179, 3) := by decide +kernel
theorem dM_comes_30 : decode cM_comes 30 = .ok (.aload_n 0, 1) := by decide +kernel
theorem dM_comes_31 : decode cM_comes 31 = .ok (.getfield 62, 3) := by decide +kernel
theorem dM_comes_34 : decode cM_comes 34 = .ok (.iload_n 2, 1) := by decide +kernel
theorem dM_comes_35 : decode cM_comes 35 = .ok (.baload, 1) := by decide +kernel
theorem dM_comes_36 : decode cM_comes 36 = .ok (.ifCond .eq 7, 3) := by decide +kernel
theorem dM_comes_39 : decode cM_comes 39 = .ok (.iconst 1, 1) := by decide +kernel
theorem dM_comes_40 : decode cM_comes 40 = .ok (.goto 4, 3) := by decide +kernel
theorem dM_comes_43 : decode cM_comes 43 = .ok (.iconst 0, 1) := by decide +kernel
theorem dM_comes_44 : decode cM_comes 44 = .ok (.ireturn, 1) := by decide +kernel
theorem dM_noPlace_0 : decode cM_noPlace 0 = .ok (.iload_n 1, 1) := by decide +kernel
theorem dM_noPlace_1 : decode cM_noPlace 1 = .ok (.invokestatic 74, 3) := by decide +kernel
theorem dM_noPlace_4 : decode cM_noPlace 4 = .ok (.ifCond .ne 17, 3) := by decide +kernel
theorem dM_noPlace_7 : decode cM_noPlace 7 = .ok (.iload_n 2, 1) := by decide +kernel
theorem dM_noPlace_8 : decode cM_noPlace 8 = .ok (.iconst 0, 1) := by decide +kernel
theorem dM_noPlace_9 : decode cM_noPlace 9 = .ok (.aload_n 0, 1) := by decide +kernel
theorem dM_noPlace_10 : decode cM_noPlace 10 = .ok (.getfield 37, 3) := by decide +kernel
theorem dM_noPlace_13 : decode cM_noPlace 13 = .ok (.iload_n 1, 1) := by decide +kernel
theorem dM_noPlace_14 : decode cM_noPlace 14 = .ok (.iaload, 1) := by decide +kernel
theorem dM_noPlace_15 : decode cM_noPlace 15 = .ok (.invokestatic 70, 3) := by decide +kernel
theorem dM_noPlace_18 : decode cM_noPlace 18 = .ok (.ifCond .ne 7, 3) := by decide +kernel
theorem dM_noPlace_21 : decode cM_noPlace 21 = .ok (.iconst 1, 1) := by decide +kernel
theorem dM_noPlace_22 : decode cM_noPlace 22 = .ok (.goto 4, 3) := by decide +kernel
theorem dM_noPlace_25 : decode cM_noPlace 25 = .ok (.iconst 0, 1) := by decide +kernel
theorem dM_noPlace_26 : decode cM_noPlace 26 = .ok (.ireturn, 1) := by decide +kernel
theorem dM_most_0 : decode cM_most 0 = .ok (.aload_n 0, 1) := by decide +kernel
theorem dM_most_1 : decode cM_most 1 = .ok (.iconst 0, 1) := by decide +kernel
theorem dM_most_2 : decode cM_most 2 = .ok (.putfield 66, 3) := by decide +kernel
theorem dM_most_5 : decode cM_most 5 = .ok (.aload_n 0, 1) := by decide +kernel
theorem dM_most_6 : decode cM_most 6 = .ok (.iload_n 1, 1) := by decide +kernel
theorem dM_most_7 : decode cM_most 7 = .ok (.iload_n 2, 1) := by decide +kernel
theorem dM_most_8 : decode cM_most 8 = .ok (.invokevirtual 182, 3) := by decide +kernel
theorem dM_most_11 : decode cM_most 11 = .ok (.ifCond .ne 18, 3) := by decide +kernel
theorem dM_most_14 : decode cM_most 14 = .ok (.iload_n 3, 1) := by decide +kernel
theorem dM_most_15 : decode cM_most 15 = .ok (.invokestatic 82, 3) := by decide +kernel
theorem dM_most_18 : decode cM_most 18 = .ok (.ifCond .eq 11, 3) := by decide +kernel
theorem dM_most_21 : decode cM_most 21 = .ok (.iload 4, 2) := by decide +kernel
theorem dM_most_23 : decode cM_most 23 = .ok (.invokestatic 82, 3) := by decide +kernel
theorem dM_most_26 : decode cM_most 26 = .ok (.ifCond .ne 9, 3) := by decide +kernel
theorem dM_most_29 : decode cM_most 29 = .ok (.aload_n 0, 1) := by decide +kernel
theorem dM_most_30 : decode cM_most 30 = .ok (.iconst 1, 1) := by decide +kernel
theorem dM_most_31 : decode cM_most 31 = .ok (.invokevirtual 78, 3) := by decide +kernel
theorem dM_most_34 : decode cM_most 34 = .ok (.ireturn, 1) := by decide +kernel
theorem dM_most_35 : decode cM_most 35 = .ok (.aload_n 0, 1) := by decide +kernel
theorem dM_most_36 : decode cM_most 36 = .ok (.iload_n 2, 1) := by decide +kernel
theorem dM_most_37 : decode cM_most 37 = .ok (.putfield 147, 3) := by decide +kernel
theorem dM_most_40 : decode cM_most 40 = .ok (.aload_n 0, 1) := by decide +kernel
theorem dM_most_41 : decode cM_most 41 = .ok (.iload_n 3, 1) := by decide +kernel
theorem dM_most_42 : decode cM_most 42 = .ok (.putfield 150, 3) := by decide +kernel
theorem dM_most_45 : decode cM_most 45 = .ok (.aload_n 0, 1) := by decide +kernel
theorem dM_most_46 : decode cM_most 46 = .ok (.iload 4, 2) := by decide +kernel
theorem dM_most_48 : decode cM_most 48 = .ok (.putfield 153, 3) := by decide +kernel
theorem dM_most_51 : decode cM_most 51 = .ok (.aload_n 0, 1) := by decide +kernel
theorem dM_most_52 : decode cM_most 52 = .ok (.iload_n 1, 1) := by decide +kernel
theorem dM_most_53 : decode cM_most 53 = .ok (.invokevirtual 179, 3) := by decide +kernel
theorem dM_most_56 : decode cM_most 56 = .ok (.aload_n 0, 1) := by decide +kernel
theorem dM_most_57 : decode cM_most 57 = .ok (.getfield 156, 3) := by decide +kernel
theorem dM_most_60 : decode cM_most 60 = .ok (.ifCond .ne 9, 3) := by decide +kernel
theorem dM_most_63 : decode cM_most 63 = .ok (.aload_n 0, 1) := by decide +kernel
theorem dM_most_64 : decode cM_most 64 = .ok (.iconst 2, 1) := by decide +kernel
theorem dM_most_65 : decode cM_most 65 = .ok (.invokevirtual 78, 3) := by decide +kernel
theorem dM_most_68 : decode cM_most 68 = .ok (.ireturn, 1) := by decide +kernel
theorem dM_most_69 : decode cM_most 69 = .ok (.aload_n 0, 1) := by decide +kernel
theorem dM_most_70 : decode cM_most 70 = .ok (.getfield 159, 3) := by decide +kernel
theorem dM_most_73 : decode cM_most 73 = .ok (.ldc2_w 96, 3) := by decide +kernel
theorem dM_most_76 : decode cM_most 76 = .ok (.lcmp, 1) := by decide +kernel
theorem dM_most_77 : decode cM_most 77 = .ok (.ifCond .ne 11, 3) := by decide +kernel
theorem dM_most_80 : decode cM_most 80 = .ok (.aload_n 0, 1) := by decide +kernel
theorem dM_most_81 : decode cM_most 81 = .ok (.iconst 3, 1) := by decide +kernel
theorem dM_most_82 : decode cM_most 82 = .ok (.invokevirtual 78, 3) := by decide +kernel
theorem dM_most_85 : decode cM_most 85 = .ok (.goto 8, 3) := by decide +kernel
theorem dM_most_88 : decode cM_most 88 = .ok (.aload_n 0, 1) := by decide +kernel
theorem dM_most_89 : decode cM_most 89 = .ok (.getfield 159, 3) := by decide +kernel
theorem dM_most_92 : decode cM_most 92 = .ok (.l2i, 1) := by decide +kernel
theorem dM_most_93 : decode cM_most 93 = .ok (.ireturn, 1) := by decide +kernel
theorem dM_follows_0 : decode cM_follows 0 = .ok (.aload_n 0, 1) := by decide +kernel
theorem dM_follows_1 : decode cM_follows 1 = .ok (.iconst 0, 1) := by decide +kernel
theorem dM_follows_2 : decode cM_follows 2 = .ok (.putfield 66, 3) := by decide +kernel
theorem dM_follows_5 : decode cM_follows 5 = .ok (.iload_n 1, 1) := by decide +kernel
theorem dM_follows_6 : decode cM_follows 6 = .ok (.invokestatic 74, 3) := by decide +kernel
theorem dM_follows_9 : decode cM_follows 9 = .ok (.ifCond .ne 10, 3) := by decide +kernel
theorem dM_follows_12 : decode cM_follows 12 = .ok (.iload_n 2, 1) := by decide +kernel
theorem dM_follows_13 : decode cM_follows 13 = .ok (.invokestatic 74, 3) := by decide +kernel
theorem dM_follows_16 : decode cM_follows 16 = .ok (.ifCond .eq 9, 3) := by decide +kernel
theorem dM_follows_19 : decode cM_follows 19 = .ok (.aload_n 0, 1) := by decide +kernel
theorem dM_follows_20 : decode cM_follows 20 = .ok (.iconst 1, 1) := by decide +kernel
theorem dM_follows_21 : decode cM_follows 21 = .ok (.invokevirtual 78, 3) := by decide +kernel
theorem dM_follows_24 : decode cM_follows 24 = .ok (.ireturn, 1) := by decide +kernel
theorem dM_follows_25 : decode cM_follows 25 = .ok (.aload_n 0, 1) := by decide +kernel
theorem dM_follows_26 : decode cM_follows 26 = .ok (.invokevirtual 163, 3) := by decide +kernel
theorem dM_follows_29 : decode cM_follows 29 = .ok (.aload_n 0, 1) := by decide +kernel
theorem dM_follows_30 : decode cM_follows 30 = .ok (.iconst 2, 1) := by decide +kernel
theorem dM_follows_31 : decode cM_follows 31 = .ok (.iload_n 1, 1) := by decide +kernel
theorem dM_follows_32 : decode cM_follows 32 = .ok (.imul, 1) := by decide +kernel
theorem dM_follows_33 : decode cM_follows 33 = .ok (.iconst 1, 1) := by decide +kernel
theorem dM_follows_34 : decode cM_follows 34 = .ok (.iconst 2, 1) := by decide +kernel
theorem dM_follows_35 : decode cM_follows 35 = .ok (.invokevirtual 133, 3) := by decide +kernel
theorem dM_follows_38 : decode cM_follows 38 = .ok (.aload_n 0, 1) := by decide +kernel
theorem dM_follows_39 : decode cM_follows 39 = .ok (.iconst 2, 1) := by decide +kernel
theorem dM_follows_40 : decode cM_follows 40 = .ok (.iload_n 2, 1) := by decide +kernel
theorem dM_follows_41 : decode cM_follows 41 = .ok (.imul, 1) := by decide +kernel
theorem dM_follows_42 : decode cM_follows 42 = .ok (.iconst 1, 1) := by decide +kernel
theorem dM_follows_43 : decode cM_follows 43 = .ok (.iadd, 1) := by decide +kernel
theorem dM_follows_44 : decode cM_follows 44 = .ok (.iconst 1, 1) := by decide +kernel
theorem dM_follows_45 : decode cM_follows 45 = .ok (.iconst 2, 1) := by decide +kernel
theorem dM_follows_46 : decode cM_follows 46 = .ok (.invokevirtual 133, 3) := by decide +kernel
theorem dM_follows_49 : decode cM_follows 49 = .ok (.aload_n 0, 1) := by decide +kernel
theorem dM_follows_50 : decode cM_follows 50 = .ok (.getfield 98, 3) := by decide +kernel
theorem dM_follows_53 : decode cM_follows 53 = .ok (.ifCond .eq 17, 3) := by decide +kernel
theorem dM_follows_56 : decode cM_follows 56 = .ok (.aload_n 0, 1) := by decide +kernel
theorem dM_follows_57 : decode cM_follows 57 = .ok (.iconst 2, 1) := by decide +kernel
theorem dM_follows_58 : decode cM_follows 58 = .ok (.iload_n 1, 1) := by decide +kernel
theorem dM_follows_59 : decode cM_follows 59 = .ok (.imul, 1) := by decide +kernel
theorem dM_follows_60 : decode cM_follows 60 = .ok (.iconst 1, 1) := by decide +kernel
theorem dM_follows_61 : decode cM_follows 61 = .ok (.iadd, 1) := by decide +kernel
theorem dM_follows_62 : decode cM_follows 62 = .ok (.iconst 1, 1) := by decide +kernel
theorem dM_follows_63 : decode cM_follows 63 = .ok (.iconst 2, 1) := by decide +kernel
theorem dM_follows_64 : decode cM_follows 64 = .ok (.invokevirtual 124, 3) := by decide +kernel
theorem dM_follows_67 : decode cM_follows 67 = .ok (.ifCond .eq 7, 3) := by decide +kernel
theorem dM_follows_70 : decode cM_follows 70 = .ok (.iconst 1, 1) := by decide +kernel
theorem dM_follows_71 : decode cM_follows 71 = .ok (.goto 4, 3) := by decide +kernel
theorem dM_follows_74 : decode cM_follows 74 = .ok (.iconst 0, 1) := by decide +kernel
theorem dM_follows_75 : decode cM_follows 75 = .ok (.ireturn, 1) := by decide +kernel
theorem dM_count_0 : decode cM_count 0 = .ok (.aload_n 0, 1) := by decide +kernel
theorem dM_count_1 : decode cM_count 1 = .ok (.iconst 0, 1) := by decide +kernel
theorem dM_count_2 : decode cM_count 2 = .ok (.putfield 66, 3) := by decide +kernel
theorem dM_count_5 : decode cM_count 5 = .ok (.iload_n 1, 1) := by decide +kernel
theorem dM_count_6 : decode cM_count 6 = .ok (.invokestatic 74, 3) := by decide +kernel
theorem dM_count_9 : decode cM_count 9 = .ok (.ifCond .eq 9, 3) := by decide +kernel
theorem dM_count_12 : decode cM_count 12 = .ok (.aload_n 0, 1) := by decide +kernel
theorem dM_count_13 : decode cM_count 13 = .ok (.iconst 1, 1) := by decide +kernel
theorem dM_count_14 : decode cM_count 14 = .ok (.invokevirtual 78, 3) := by decide +kernel
theorem dM_count_17 : decode cM_count 17 = .ok (.ireturn, 1) := by decide +kernel
theorem dM_count_18 : decode cM_count 18 = .ok (.iload_n 2, 1) := by decide +kernel
theorem dM_count_19 : decode cM_count 19 = .ok (.tableswitch 56 0 3 #[29, 36, 43, 43], 29) := by decide +kernel
theorem dM_count_48 : decode cM_count 48 = .ok (.aload_n 0, 1) := by decide +kernel
theorem dM_count_49 : decode cM_count 49 = .ok (.getfield 37, 3) := by decide +kernel
theorem dM_count_52 : decode cM_count 52 = .ok (.iload_n 1, 1) := by decide +kernel
theorem dM_count_53 : decode cM_count 53 = .ok (.iaload, 1) := by decide +kernel
theorem dM_count_54 : decode cM_count 54 = .ok (.ireturn, 1) := by decide +kernel
theorem dM_count_55 : decode cM_count 55 = .ok (.aload_n 0, 1) := by decide +kernel
theorem dM_count_56 : decode cM_count 56 = .ok (.getfield 55, 3) := by decide +kernel
theorem dM_count_59 : decode cM_count 59 = .ok (.iload_n 1, 1) := by decide +kernel
theorem dM_count_60 : decode cM_count 60 = .ok (.iaload, 1) := by decide +kernel
theorem dM_count_61 : decode cM_count 61 = .ok (.ireturn, 1) := by decide +kernel
theorem dM_count_62 : decode cM_count 62 = .ok (.aload_n 0, 1) := by decide +kernel
theorem dM_count_63 : decode cM_count 63 = .ok (.getfield 19, 3) := by decide +kernel
theorem dM_count_66 : decode cM_count 66 = .ok (.iconst 2, 1) := by decide +kernel
theorem dM_count_67 : decode cM_count 67 = .ok (.iload_n 1, 1) := by decide +kernel
theorem dM_count_68 : decode cM_count 68 = .ok (.imul, 1) := by decide +kernel
theorem dM_count_69 : decode cM_count 69 = .ok (.iload_n 2, 1) := by decide +kernel
theorem dM_count_70 : decode cM_count 70 = .ok (.iadd, 1) := by decide +kernel
theorem dM_count_71 : decode cM_count 71 = .ok (.iconst 2, 1) := by decide +kernel
theorem dM_count_72 : decode cM_count 72 = .ok (.isub, 1) := by decide +kernel
theorem dM_count_73 : decode cM_count 73 = .ok (.iaload, 1) := by decide +kernel
theorem dM_count_74 : decode cM_count 74 = .ok (.ireturn, 1) := by decide +kernel
theorem dM_count_75 : decode cM_count 75 = .ok (.aload_n 0, 1) := by decide +kernel
theorem dM_count_76 : decode cM_count 76 = .ok (.iconst 1, 1) := by decide +kernel
theorem dM_count_77 : decode cM_count 77 = .ok (.invokevirtual 78, 3) := by decide +kernel
theorem dM_count_80 : decode cM_count 80 = .ok (.ireturn, 1) := by decide +kernel
end
section
theorem dL_refine_0 : decode cL_refine 0 = .ok (.aload 6, 2) := by decide +kernel
theorem dL_refine_2 : decode cL_refine 2 = .ok (.iconst 0, 1) := by decide +kernel
theorem dL_refine_3 : decode cL_refine 3 = .ok (.aload_n 0, 1) := by decide +kernel
theorem dL_refine_4 : decode cL_refine 4 = .ok (.iload_n 1, 1) := by decide +kernel
theorem dL_refine_5 : decode cL_refine 5 = .ok (.iload_n 2, 1) := by decide +kernel
theorem dL_refine_6 : decode cL_refine 6 = .ok (.iload_n 3, 1) := by decide +kernel
theorem dL_refine_7 : decode cL_refine 7 = .ok (.iload 4, 2) := by decide +kernel
theorem dL_refine_9 : decode cL_refine 9 = .ok (.iload 5, 2) := by decide +kernel
theorem dL_refine_11 : decode cL_refine 11 = .ok (.invokevirtual 7, 3) := by decide +kernel
theorem dL_refine_14 : decode cL_refine 14 = .ok (.i2l, 1) := by decide +kernel
theorem dL_refine_15 : decode cL_refine 15 = .ok (.lastore, 1) := by decide +kernel
theorem dL_refine_16 : decode cL_refine 16 = .ok (.goto 11, 3) := by decide +kernel
theorem dL_refine_19 : decode cL_refine 19 = .ok (.astore 7, 2) := by decide +kernel
theorem dL_refine_21 : decode cL_refine 21 = .ok (.iconst 1, 1) := by decide +kernel
theorem dL_refine_22 : decode cL_refine 22 = .ok (.ireturn, 1) := by decide +kernel
theorem dL_refine_23 : decode cL_refine 23 = .ok (.astore 7, 2) := by decide +kernel
theorem dL_refine_25 : decode cL_refine 25 = .ok (.iconst 2, 1) := by decide +kernel
theorem dL_refine_26 : decode cL_refine 26 = .ok (.ireturn, 1) := by decide +kernel
theorem dL_refine_27 : decode cL_refine 27 = .ok (.iconst 0, 1) := by decide +kernel
theorem dL_refine_28 : decode cL_refine 28 = .ok (.ireturn, 1) := by decide +kernel
theorem dL_statement_0 : decode cL_statement 0 = .ok (.aload 7, 2) := by decide +kernel
theorem dL_statement_2 : decode cL_statement 2 = .ok (.iconst 0, 1) := by decide +kernel
theorem dL_statement_3 : decode cL_statement 3 = .ok (.aload_n 0, 1) := by decide +kernel
theorem dL_statement_4 : decode cL_statement 4 = .ok (.iload_n 1, 1) := by decide +kernel
theorem dL_statement_5 : decode cL_statement 5 = .ok (.iload_n 2, 1) := by decide +kernel
theorem dL_statement_6 : decode cL_statement 6 = .ok (.iload_n 3, 1) := by decide +kernel
theorem dL_statement_7 : decode cL_statement 7 = .ok (.iload 4, 2) := by decide +kernel
theorem dL_statement_9 : decode cL_statement 9 = .ok (.iload 5, 2) := by decide +kernel
theorem dL_statement_11 : decode cL_statement 11 = .ok (.iload 6, 2) := by decide +kernel
theorem dL_statement_13 : decode cL_statement 13 = .ok (.invokevirtual 17, 3) := by decide +kernel
theorem dL_statement_16 : decode cL_statement 16 = .ok (.i2l, 1) := by decide +kernel
theorem dL_statement_17 : decode cL_statement 17 = .ok (.lastore, 1) := by decide +kernel
theorem dL_statement_18 : decode cL_statement 18 = .ok (.goto 15, 3) := by decide +kernel
theorem dL_statement_21 : decode cL_statement 21 = .ok (.astore 8, 2) := by decide +kernel
theorem dL_statement_23 : decode cL_statement 23 = .ok (.iconst 1, 1) := by decide +kernel
theorem dL_statement_24 : decode cL_statement 24 = .ok (.ireturn, 1) := by decide +kernel
theorem dL_statement_25 : decode cL_statement 25 = .ok (.astore 8, 2) := by decide +kernel
theorem dL_statement_27 : decode cL_statement 27 = .ok (.iconst 2, 1) := by decide +kernel
theorem dL_statement_28 : decode cL_statement 28 = .ok (.ireturn, 1) := by decide +kernel
theorem dL_statement_29 : decode cL_statement 29 = .ok (.astore 8, 2) := by decide +kernel
theorem dL_statement_31 : decode cL_statement 31 = .ok (.iconst 3, 1) := by decide +kernel
theorem dL_statement_32 : decode cL_statement 32 = .ok (.ireturn, 1) := by decide +kernel
theorem dL_statement_33 : decode cL_statement 33 = .ok (.iconst 0, 1) := by decide +kernel
theorem dL_statement_34 : decode cL_statement 34 = .ok (.ireturn, 1) := by decide +kernel
theorem dL_clear_0 : decode cL_clear 0 = .ok (.aload_n 2, 1) := by decide +kernel
theorem dL_clear_1 : decode cL_clear 1 = .ok (.iconst 0, 1) := by decide +kernel
theorem dL_clear_2 : decode cL_clear 2 = .ok (.aload_n 0, 1) := by decide +kernel
theorem dL_clear_3 : decode cL_clear 3 = .ok (.iload_n 1, 1) := by decide +kernel
theorem dL_clear_4 : decode cL_clear 4 = .ok (.invokevirtual 23, 3) := by decide +kernel
theorem dL_clear_7 : decode cL_clear 7 = .ok (.i2l, 1) := by decide +kernel
theorem dL_clear_8 : decode cL_clear 8 = .ok (.lastore, 1) := by decide +kernel
theorem dL_clear_9 : decode cL_clear 9 = .ok (.goto 6, 3) := by decide +kernel
theorem dL_clear_12 : decode cL_clear 12 = .ok (.astore_n 3, 1) := by decide +kernel
theorem dL_clear_13 : decode cL_clear 13 = .ok (.iconst 1, 1) := by decide +kernel
theorem dL_clear_14 : decode cL_clear 14 = .ok (.ireturn, 1) := by decide +kernel
theorem dL_clear_15 : decode cL_clear 15 = .ok (.iconst 0, 1) := by decide +kernel
theorem dL_clear_16 : decode cL_clear 16 = .ok (.ireturn, 1) := by decide +kernel
theorem dL_check_0 : decode cL_check 0 = .ok (.aload_n 2, 1) := by decide +kernel
theorem dL_check_1 : decode cL_check 1 = .ok (.iconst 0, 1) := by decide +kernel
theorem dL_check_2 : decode cL_check 2 = .ok (.aload_n 0, 1) := by decide +kernel
theorem dL_check_3 : decode cL_check 3 = .ok (.iload_n 1, 1) := by decide +kernel
theorem dL_check_4 : decode cL_check 4 = .ok (.invokevirtual 27, 3) := by decide +kernel
theorem dL_check_7 : decode cL_check 7 = .ok (.i2l, 1) := by decide +kernel
theorem dL_check_8 : decode cL_check 8 = .ok (.lastore, 1) := by decide +kernel
theorem dL_check_9 : decode cL_check 9 = .ok (.goto 6, 3) := by decide +kernel
theorem dL_check_12 : decode cL_check 12 = .ok (.astore_n 3, 1) := by decide +kernel
theorem dL_check_13 : decode cL_check 13 = .ok (.iconst 1, 1) := by decide +kernel
theorem dL_check_14 : decode cL_check 14 = .ok (.ireturn, 1) := by decide +kernel
theorem dL_check_15 : decode cL_check 15 = .ok (.iconst 0, 1) := by decide +kernel
theorem dL_check_16 : decode cL_check 16 = .ok (.ireturn, 1) := by decide +kernel
theorem dL_ways_0 : decode cL_ways 0 = .ok (.aload_n 2, 1) := by decide +kernel
theorem dL_ways_1 : decode cL_ways 1 = .ok (.iconst 0, 1) := by decide +kernel
theorem dL_ways_2 : decode cL_ways 2 = .ok (.aload_n 0, 1) := by decide +kernel
theorem dL_ways_3 : decode cL_ways 3 = .ok (.iload_n 1, 1) := by decide +kernel
theorem dL_ways_4 : decode cL_ways 4 = .ok (.invokevirtual 30, 3) := by decide +kernel
theorem dL_ways_7 : decode cL_ways 7 = .ok (.i2l, 1) := by decide +kernel
theorem dL_ways_8 : decode cL_ways 8 = .ok (.lastore, 1) := by decide +kernel
theorem dL_ways_9 : decode cL_ways 9 = .ok (.goto 6, 3) := by decide +kernel
theorem dL_ways_12 : decode cL_ways 12 = .ok (.astore_n 3, 1) := by decide +kernel
theorem dL_ways_13 : decode cL_ways 13 = .ok (.iconst 1, 1) := by decide +kernel
theorem dL_ways_14 : decode cL_ways 14 = .ok (.ireturn, 1) := by decide +kernel
theorem dL_ways_15 : decode cL_ways 15 = .ok (.iconst 0, 1) := by decide +kernel
theorem dL_ways_16 : decode cL_ways 16 = .ok (.ireturn, 1) := by decide +kernel
theorem dL_comes_0 : decode cL_comes 0 = .ok (.aload_n 3, 1) := by decide +kernel
theorem dL_comes_1 : decode cL_comes 1 = .ok (.iconst 0, 1) := by decide +kernel
theorem dL_comes_2 : decode cL_comes 2 = .ok (.aload_n 0, 1) := by decide +kernel
theorem dL_comes_3 : decode cL_comes 3 = .ok (.iload_n 1, 1) := by decide +kernel
theorem dL_comes_4 : decode cL_comes 4 = .ok (.iload_n 2, 1) := by decide +kernel
theorem dL_comes_5 : decode cL_comes 5 = .ok (.invokevirtual 33, 3) := by decide +kernel
theorem dL_comes_8 : decode cL_comes 8 = .ok (.i2l, 1) := by decide +kernel
theorem dL_comes_9 : decode cL_comes 9 = .ok (.lastore, 1) := by decide +kernel
theorem dL_comes_10 : decode cL_comes 10 = .ok (.goto 7, 3) := by decide +kernel
theorem dL_comes_13 : decode cL_comes 13 = .ok (.astore 4, 2) := by decide +kernel
theorem dL_comes_15 : decode cL_comes 15 = .ok (.iconst 1, 1) := by decide +kernel
theorem dL_comes_16 : decode cL_comes 16 = .ok (.ireturn, 1) := by decide +kernel
theorem dL_comes_17 : decode cL_comes 17 = .ok (.iconst 0, 1) := by decide +kernel
theorem dL_comes_18 : decode cL_comes 18 = .ok (.ireturn, 1) := by decide +kernel
theorem dL_most_0 : decode cL_most 0 = .ok (.aload 5, 2) := by decide +kernel
theorem dL_most_2 : decode cL_most 2 = .ok (.iconst 0, 1) := by decide +kernel
theorem dL_most_3 : decode cL_most 3 = .ok (.aload_n 0, 1) := by decide +kernel
theorem dL_most_4 : decode cL_most 4 = .ok (.iload_n 1, 1) := by decide +kernel
theorem dL_most_5 : decode cL_most 5 = .ok (.iload_n 2, 1) := by decide +kernel
theorem dL_most_6 : decode cL_most 6 = .ok (.iload_n 3, 1) := by decide +kernel
theorem dL_most_7 : decode cL_most 7 = .ok (.iload 4, 2) := by decide +kernel
theorem dL_most_9 : decode cL_most 9 = .ok (.invokevirtual 37, 3) := by decide +kernel
theorem dL_most_12 : decode cL_most 12 = .ok (.i2l, 1) := by decide +kernel
theorem dL_most_13 : decode cL_most 13 = .ok (.lastore, 1) := by decide +kernel
theorem dL_most_14 : decode cL_most 14 = .ok (.goto 15, 3) := by decide +kernel
theorem dL_most_17 : decode cL_most 17 = .ok (.astore 6, 2) := by decide +kernel
theorem dL_most_19 : decode cL_most 19 = .ok (.iconst 1, 1) := by decide +kernel
theorem dL_most_20 : decode cL_most 20 = .ok (.ireturn, 1) := by decide +kernel
theorem dL_most_21 : decode cL_most 21 = .ok (.astore 6, 2) := by decide +kernel
theorem dL_most_23 : decode cL_most 23 = .ok (.iconst 2, 1) := by decide +kernel
theorem dL_most_24 : decode cL_most 24 = .ok (.ireturn, 1) := by decide +kernel
theorem dL_most_25 : decode cL_most 25 = .ok (.astore 6, 2) := by decide +kernel
theorem dL_most_27 : decode cL_most 27 = .ok (.iconst 3, 1) := by decide +kernel
theorem dL_most_28 : decode cL_most 28 = .ok (.ireturn, 1) := by decide +kernel
theorem dL_most_29 : decode cL_most 29 = .ok (.iconst 0, 1) := by decide +kernel
theorem dL_most_30 : decode cL_most 30 = .ok (.ireturn, 1) := by decide +kernel
theorem dL_follows_0 : decode cL_follows 0 = .ok (.aload_n 3, 1) := by decide +kernel
theorem dL_follows_1 : decode cL_follows 1 = .ok (.iconst 0, 1) := by decide +kernel
theorem dL_follows_2 : decode cL_follows 2 = .ok (.aload_n 0, 1) := by decide +kernel
theorem dL_follows_3 : decode cL_follows 3 = .ok (.iload_n 1, 1) := by decide +kernel
theorem dL_follows_4 : decode cL_follows 4 = .ok (.iload_n 2, 1) := by decide +kernel
theorem dL_follows_5 : decode cL_follows 5 = .ok (.invokevirtual 45, 3) := by decide +kernel
theorem dL_follows_8 : decode cL_follows 8 = .ok (.i2l, 1) := by decide +kernel
theorem dL_follows_9 : decode cL_follows 9 = .ok (.lastore, 1) := by decide +kernel
theorem dL_follows_10 : decode cL_follows 10 = .ok (.goto 7, 3) := by decide +kernel
theorem dL_follows_13 : decode cL_follows 13 = .ok (.astore 4, 2) := by decide +kernel
theorem dL_follows_15 : decode cL_follows 15 = .ok (.iconst 1, 1) := by decide +kernel
theorem dL_follows_16 : decode cL_follows 16 = .ok (.ireturn, 1) := by decide +kernel
theorem dL_follows_17 : decode cL_follows 17 = .ok (.iconst 0, 1) := by decide +kernel
theorem dL_follows_18 : decode cL_follows 18 = .ok (.ireturn, 1) := by decide +kernel
theorem dL_count_0 : decode cL_count 0 = .ok (.aload_n 3, 1) := by decide +kernel
theorem dL_count_1 : decode cL_count 1 = .ok (.iconst 0, 1) := by decide +kernel
theorem dL_count_2 : decode cL_count 2 = .ok (.aload_n 0, 1) := by decide +kernel
theorem dL_count_3 : decode cL_count 3 = .ok (.iload_n 1, 1) := by decide +kernel
theorem dL_count_4 : decode cL_count 4 = .ok (.iload_n 2, 1) := by decide +kernel
theorem dL_count_5 : decode cL_count 5 = .ok (.invokevirtual 48, 3) := by decide +kernel
theorem dL_count_8 : decode cL_count 8 = .ok (.i2l, 1) := by decide +kernel
theorem dL_count_9 : decode cL_count 9 = .ok (.lastore, 1) := by decide +kernel
theorem dL_count_10 : decode cL_count 10 = .ok (.goto 7, 3) := by decide +kernel
theorem dL_count_13 : decode cL_count 13 = .ok (.astore 4, 2) := by decide +kernel
theorem dL_count_15 : decode cL_count 15 = .ok (.iconst 1, 1) := by decide +kernel
theorem dL_count_16 : decode cL_count 16 = .ok (.ireturn, 1) := by decide +kernel
theorem dL_count_17 : decode cL_count 17 = .ok (.iconst 0, 1) := by decide +kernel
theorem dL_count_18 : decode cL_count 18 = .ok (.ireturn, 1) := by decide +kernel
theorem dL_law_0 : decode code 0 = .ok (.new 8, 3) := by decide +kernel
theorem dL_law_3 : decode code 3 = .ok (.dup, 1) := by decide +kernel
theorem dL_law_4 : decode code 4 = .ok (.invokespecial 51, 3) := by decide +kernel
theorem dL_law_7 : decode code 7 = .ok (.astore_n 1, 1) := by decide +kernel
theorem dL_law_8 : decode code 8 = .ok (.new 52, 3) := by decide +kernel
theorem dL_law_11 : decode code 11 = .ok (.dup, 1) := by decide +kernel
theorem dL_law_12 : decode code 12 = .ok (.invokespecial 54, 3) := by decide +kernel
theorem dL_law_15 : decode code 15 = .ok (.astore_n 2, 1) := by decide +kernel
theorem dL_law_16 : decode code 16 = .ok (.iconst 1, 1) := by decide +kernel
theorem dL_law_17 : decode code 17 = .ok (.newarray .long, 2) := by decide +kernel
theorem dL_law_19 : decode code 19 = .ok (.astore_n 3, 1) := by decide +kernel
theorem dL_law_20 : decode code 20 = .ok (.iconst 0, 1) := by decide +kernel
theorem dL_law_21 : decode code 21 = .ok (.istore 4, 2) := by decide +kernel
theorem dL_law_23 : decode code 23 = .ok (.iload 4, 2) := by decide +kernel
theorem dL_law_25 : decode code 25 = .ok (.aload_n 0, 1) := by decide +kernel
theorem dL_law_26 : decode code 26 = .ok (.arraylength, 1) := by decide +kernel
theorem dL_law_27 : decode code 27 = .ok (.bipush 7, 2) := by decide +kernel
theorem dL_law_29 : decode code 29 = .ok (.isub, 1) := by decide +kernel
theorem dL_law_30 : decode code 30 = .ok (.if_icmp .gt 754, 3) := by decide +kernel
theorem dL_law_33 : decode code 33 = .ok (.aload_n 0, 1) := by decide +kernel
theorem dL_law_34 : decode code 34 = .ok (.iload 4, 2) := by decide +kernel
theorem dL_law_36 : decode code 36 = .ok (.iaload, 1) := by decide +kernel
theorem dL_law_37 : decode code 37 = .ok (.bipush 15, 2) := by decide +kernel
theorem dL_law_39 : decode code 39 = .ok (.iand, 1) := by decide +kernel
theorem dL_law_40 : decode code 40 = .ok (.tableswitch 738 0 8 #[52, 156, 274, 330, 386, 442, 510, 602, 670], 52) := by decide +kernel
theorem dL_law_92 : decode code 92 = .ok (.aload_n 1, 1) := by decide +kernel
theorem dL_law_93 : decode code 93 = .ok (.aload_n 0, 1) := by decide +kernel
theorem dL_law_94 : decode code 94 = .ok (.iload 4, 2) := by decide +kernel
theorem dL_law_96 : decode code 96 = .ok (.iconst 1, 1) := by decide +kernel
theorem dL_law_97 : decode code 97 = .ok (.iadd, 1) := by decide +kernel
theorem dL_law_98 : decode code 98 = .ok (.iaload, 1) := by decide +kernel
theorem dL_law_99 : decode code 99 = .ok (.aload_n 0, 1) := by decide +kernel
theorem dL_law_100 : decode code 100 = .ok (.iload 4, 2) := by decide +kernel
theorem dL_law_102 : decode code 102 = .ok (.iconst 2, 1) := by decide +kernel
theorem dL_law_103 : decode code 103 = .ok (.iadd, 1) := by decide +kernel
theorem dL_law_104 : decode code 104 = .ok (.iaload, 1) := by decide +kernel
theorem dL_law_105 : decode code 105 = .ok (.aload_n 0, 1) := by decide +kernel
theorem dL_law_106 : decode code 106 = .ok (.iload 4, 2) := by decide +kernel
theorem dL_law_108 : decode code 108 = .ok (.iconst 3, 1) := by decide +kernel
theorem dL_law_109 : decode code 109 = .ok (.iadd, 1) := by decide +kernel
theorem dL_law_110 : decode code 110 = .ok (.iaload, 1) := by decide +kernel
theorem dL_law_111 : decode code 111 = .ok (.aload_n 0, 1) := by decide +kernel
theorem dL_law_112 : decode code 112 = .ok (.iload 4, 2) := by decide +kernel
theorem dL_law_114 : decode code 114 = .ok (.iconst 4, 1) := by decide +kernel
theorem dL_law_115 : decode code 115 = .ok (.iadd, 1) := by decide +kernel
theorem dL_law_116 : decode code 116 = .ok (.iaload, 1) := by decide +kernel
theorem dL_law_117 : decode code 117 = .ok (.aload_n 0, 1) := by decide +kernel
theorem dL_law_118 : decode code 118 = .ok (.iload 4, 2) := by decide +kernel
theorem dL_law_120 : decode code 120 = .ok (.iconst 5, 1) := by decide +kernel
theorem dL_law_121 : decode code 121 = .ok (.iadd, 1) := by decide +kernel
theorem dL_law_122 : decode code 122 = .ok (.iaload, 1) := by decide +kernel
theorem dL_law_123 : decode code 123 = .ok (.aload_n 3, 1) := by decide +kernel
theorem dL_law_124 : decode code 124 = .ok (.invokestatic 55, 3) := by decide +kernel
theorem dL_law_127 : decode code 127 = .ok (.istore 5, 2) := by decide +kernel
theorem dL_law_129 : decode code 129 = .ok (.aload_n 2, 1) := by decide +kernel
theorem dL_law_130 : decode code 130 = .ok (.aload_n 0, 1) := by decide +kernel
theorem dL_law_131 : decode code 131 = .ok (.iload 4, 2) := by decide +kernel
theorem dL_law_133 : decode code 133 = .ok (.iconst 1, 1) := by decide +kernel
theorem dL_law_134 : decode code 134 = .ok (.iadd, 1) := by decide +kernel
theorem dL_law_135 : decode code 135 = .ok (.iaload, 1) := by decide +kernel
theorem dL_law_136 : decode code 136 = .ok (.aload_n 0, 1) := by decide +kernel
theorem dL_law_137 : decode code 137 = .ok (.iload 4, 2) := by decide +kernel
theorem dL_law_139 : decode code 139 = .ok (.iconst 2, 1) := by decide +kernel
theorem dL_law_140 : decode code 140 = .ok (.iadd, 1) := by decide +kernel
theorem dL_law_141 : decode code 141 = .ok (.iaload, 1) := by decide +kernel
theorem dL_law_142 : decode code 142 = .ok (.aload_n 0, 1) := by decide +kernel
theorem dL_law_143 : decode code 143 = .ok (.iload 4, 2) := by decide +kernel
theorem dL_law_145 : decode code 145 = .ok (.iconst 3, 1) := by decide +kernel
theorem dL_law_146 : decode code 146 = .ok (.iadd, 1) := by decide +kernel
theorem dL_law_147 : decode code 147 = .ok (.iaload, 1) := by decide +kernel
theorem dL_law_148 : decode code 148 = .ok (.aload_n 0, 1) := by decide +kernel
theorem dL_law_149 : decode code 149 = .ok (.iload 4, 2) := by decide +kernel
theorem dL_law_151 : decode code 151 = .ok (.iconst 4, 1) := by decide +kernel
theorem dL_law_152 : decode code 152 = .ok (.iadd, 1) := by decide +kernel
theorem dL_law_153 : decode code 153 = .ok (.iaload, 1) := by decide +kernel
theorem dL_law_154 : decode code 154 = .ok (.aload_n 0, 1) := by decide +kernel
theorem dL_law_155 : decode code 155 = .ok (.iload 4, 2) := by decide +kernel
theorem dL_law_157 : decode code 157 = .ok (.iconst 5, 1) := by decide +kernel
theorem dL_law_158 : decode code 158 = .ok (.iadd, 1) := by decide +kernel
theorem dL_law_159 : decode code 159 = .ok (.iaload, 1) := by decide +kernel
theorem dL_law_160 : decode code 160 = .ok (.invokevirtual 60, 3) := by decide +kernel
theorem dL_law_163 : decode code 163 = .ok (.istore 6, 2) := by decide +kernel
theorem dL_law_165 : decode code 165 = .ok (.aload_n 2, 1) := by decide +kernel
theorem dL_law_166 : decode code 166 = .ok (.invokevirtual 61, 3) := by decide +kernel
theorem dL_law_169 : decode code 169 = .ok (.iload 5, 2) := by decide +kernel
theorem dL_law_171 : decode code 171 = .ok (.if_icmp .eq 5, 3) := by decide +kernel
theorem dL_law_174 : decode code 174 = .ok (.iconst 0, 1) := by decide +kernel
theorem dL_law_175 : decode code 175 = .ok (.ireturn, 1) := by decide +kernel
theorem dL_law_176 : decode code 176 = .ok (.iload 5, 2) := by decide +kernel
theorem dL_law_178 : decode code 178 = .ok (.ifCond .ne 15, 3) := by decide +kernel
theorem dL_law_181 : decode code 181 = .ok (.aload_n 3, 1) := by decide +kernel
theorem dL_law_182 : decode code 182 = .ok (.iconst 0, 1) := by decide +kernel
theorem dL_law_183 : decode code 183 = .ok (.laload, 1) := by decide +kernel
theorem dL_law_184 : decode code 184 = .ok (.iload 6, 2) := by decide +kernel
theorem dL_law_186 : decode code 186 = .ok (.i2l, 1) := by decide +kernel
theorem dL_law_187 : decode code 187 = .ok (.lcmp, 1) := by decide +kernel
theorem dL_law_188 : decode code 188 = .ok (.ifCond .eq 5, 3) := by decide +kernel
theorem dL_law_191 : decode code 191 = .ok (.iconst 0, 1) := by decide +kernel
theorem dL_law_192 : decode code 192 = .ok (.ireturn, 1) := by decide +kernel
theorem dL_law_193 : decode code 193 = .ok (.goto 585, 3) := by decide +kernel
theorem dL_law_196 : decode code 196 = .ok (.aload_n 1, 1) := by decide +kernel
theorem dL_law_197 : decode code 197 = .ok (.aload_n 0, 1) := by decide +kernel
theorem dL_law_198 : decode code 198 = .ok (.iload 4, 2) := by decide +kernel
theorem dL_law_200 : decode code 200 = .ok (.iconst 1, 1) := by decide +kernel
theorem dL_law_201 : decode code 201 = .ok (.iadd, 1) := by decide +kernel
theorem dL_law_202 : decode code 202 = .ok (.iaload, 1) := by decide +kernel
theorem dL_law_203 : decode code 203 = .ok (.aload_n 0, 1) := by decide +kernel
theorem dL_law_204 : decode code 204 = .ok (.iload 4, 2) := by decide +kernel
theorem dL_law_206 : decode code 206 = .ok (.iconst 2, 1) := by decide +kernel
theorem dL_law_207 : decode code 207 = .ok (.iadd, 1) := by decide +kernel
theorem dL_law_208 : decode code 208 = .ok (.iaload, 1) := by decide +kernel
theorem dL_law_209 : decode code 209 = .ok (.aload_n 0, 1) := by decide +kernel
theorem dL_law_210 : decode code 210 = .ok (.iload 4, 2) := by decide +kernel
theorem dL_law_212 : decode code 212 = .ok (.iconst 3, 1) := by decide +kernel
theorem dL_law_213 : decode code 213 = .ok (.iadd, 1) := by decide +kernel
theorem dL_law_214 : decode code 214 = .ok (.iaload, 1) := by decide +kernel
theorem dL_law_215 : decode code 215 = .ok (.aload_n 0, 1) := by decide +kernel
theorem dL_law_216 : decode code 216 = .ok (.iload 4, 2) := by decide +kernel
theorem dL_law_218 : decode code 218 = .ok (.iconst 4, 1) := by decide +kernel
theorem dL_law_219 : decode code 219 = .ok (.iadd, 1) := by decide +kernel
theorem dL_law_220 : decode code 220 = .ok (.iaload, 1) := by decide +kernel
theorem dL_law_221 : decode code 221 = .ok (.aload_n 0, 1) := by decide +kernel
theorem dL_law_222 : decode code 222 = .ok (.iload 4, 2) := by decide +kernel
theorem dL_law_224 : decode code 224 = .ok (.iconst 5, 1) := by decide +kernel
theorem dL_law_225 : decode code 225 = .ok (.iadd, 1) := by decide +kernel
theorem dL_law_226 : decode code 226 = .ok (.iaload, 1) := by decide +kernel
theorem dL_law_227 : decode code 227 = .ok (.aload_n 0, 1) := by decide +kernel
theorem dL_law_228 : decode code 228 = .ok (.iload 4, 2) := by decide +kernel
theorem dL_law_230 : decode code 230 = .ok (.bipush 6, 2) := by decide +kernel
theorem dL_law_232 : decode code 232 = .ok (.iadd, 1) := by decide +kernel
theorem dL_law_233 : decode code 233 = .ok (.iaload, 1) := by decide +kernel
theorem dL_law_234 : decode code 234 = .ok (.aload_n 3, 1) := by decide +kernel
theorem dL_law_235 : decode code 235 = .ok (.invokestatic 65, 3) := by decide +kernel
theorem dL_law_238 : decode code 238 = .ok (.istore 5, 2) := by decide +kernel
theorem dL_law_240 : decode code 240 = .ok (.aload_n 2, 1) := by decide +kernel
theorem dL_law_241 : decode code 241 = .ok (.aload_n 0, 1) := by decide +kernel
theorem dL_law_242 : decode code 242 = .ok (.iload 4, 2) := by decide +kernel
theorem dL_law_244 : decode code 244 = .ok (.iconst 1, 1) := by decide +kernel
theorem dL_law_245 : decode code 245 = .ok (.iadd, 1) := by decide +kernel
theorem dL_law_246 : decode code 246 = .ok (.iaload, 1) := by decide +kernel
theorem dL_law_247 : decode code 247 = .ok (.aload_n 0, 1) := by decide +kernel
theorem dL_law_248 : decode code 248 = .ok (.iload 4, 2) := by decide +kernel
theorem dL_law_250 : decode code 250 = .ok (.iconst 2, 1) := by decide +kernel
theorem dL_law_251 : decode code 251 = .ok (.iadd, 1) := by decide +kernel
theorem dL_law_252 : decode code 252 = .ok (.iaload, 1) := by decide +kernel
theorem dL_law_253 : decode code 253 = .ok (.aload_n 0, 1) := by decide +kernel
theorem dL_law_254 : decode code 254 = .ok (.iload 4, 2) := by decide +kernel
theorem dL_law_256 : decode code 256 = .ok (.iconst 3, 1) := by decide +kernel
theorem dL_law_257 : decode code 257 = .ok (.iadd, 1) := by decide +kernel
theorem dL_law_258 : decode code 258 = .ok (.iaload, 1) := by decide +kernel
theorem dL_law_259 : decode code 259 = .ok (.aload_n 0, 1) := by decide +kernel
theorem dL_law_260 : decode code 260 = .ok (.iload 4, 2) := by decide +kernel
theorem dL_law_262 : decode code 262 = .ok (.iconst 4, 1) := by decide +kernel
theorem dL_law_263 : decode code 263 = .ok (.iadd, 1) := by decide +kernel
theorem dL_law_264 : decode code 264 = .ok (.iaload, 1) := by decide +kernel
theorem dL_law_265 : decode code 265 = .ok (.aload_n 0, 1) := by decide +kernel
theorem dL_law_266 : decode code 266 = .ok (.iload 4, 2) := by decide +kernel
theorem dL_law_268 : decode code 268 = .ok (.iconst 5, 1) := by decide +kernel
theorem dL_law_269 : decode code 269 = .ok (.iadd, 1) := by decide +kernel
theorem dL_law_270 : decode code 270 = .ok (.iaload, 1) := by decide +kernel
theorem dL_law_271 : decode code 271 = .ok (.aload_n 0, 1) := by decide +kernel
theorem dL_law_272 : decode code 272 = .ok (.iload 4, 2) := by decide +kernel
theorem dL_law_274 : decode code 274 = .ok (.bipush 6, 2) := by decide +kernel
theorem dL_law_276 : decode code 276 = .ok (.iadd, 1) := by decide +kernel
theorem dL_law_277 : decode code 277 = .ok (.iaload, 1) := by decide +kernel
theorem dL_law_278 : decode code 278 = .ok (.invokevirtual 68, 3) := by decide +kernel
theorem dL_law_281 : decode code 281 = .ok (.istore 6, 2) := by decide +kernel
theorem dL_law_283 : decode code 283 = .ok (.aload_n 2, 1) := by decide +kernel
theorem dL_law_284 : decode code 284 = .ok (.invokevirtual 61, 3) := by decide +kernel
theorem dL_law_287 : decode code 287 = .ok (.iload 5, 2) := by decide +kernel
theorem dL_law_289 : decode code 289 = .ok (.if_icmp .eq 5, 3) := by decide +kernel
theorem dL_law_292 : decode code 292 = .ok (.iconst 0, 1) := by decide +kernel
theorem dL_law_293 : decode code 293 = .ok (.ireturn, 1) := by decide +kernel
theorem dL_law_294 : decode code 294 = .ok (.iload 5, 2) := by decide +kernel
theorem dL_law_296 : decode code 296 = .ok (.ifCond .ne 15, 3) := by decide +kernel
theorem dL_law_299 : decode code 299 = .ok (.aload_n 3, 1) := by decide +kernel
theorem dL_law_300 : decode code 300 = .ok (.iconst 0, 1) := by decide +kernel
theorem dL_law_301 : decode code 301 = .ok (.laload, 1) := by decide +kernel
theorem dL_law_302 : decode code 302 = .ok (.iload 6, 2) := by decide +kernel
theorem dL_law_304 : decode code 304 = .ok (.i2l, 1) := by decide +kernel
theorem dL_law_305 : decode code 305 = .ok (.lcmp, 1) := by decide +kernel
theorem dL_law_306 : decode code 306 = .ok (.ifCond .eq 5, 3) := by decide +kernel
theorem dL_law_309 : decode code 309 = .ok (.iconst 0, 1) := by decide +kernel
theorem dL_law_310 : decode code 310 = .ok (.ireturn, 1) := by decide +kernel
theorem dL_law_311 : decode code 311 = .ok (.goto 467, 3) := by decide +kernel
theorem dL_law_314 : decode code 314 = .ok (.aload_n 1, 1) := by decide +kernel
theorem dL_law_315 : decode code 315 = .ok (.aload_n 0, 1) := by decide +kernel
theorem dL_law_316 : decode code 316 = .ok (.iload 4, 2) := by decide +kernel
theorem dL_law_318 : decode code 318 = .ok (.iconst 1, 1) := by decide +kernel
theorem dL_law_319 : decode code 319 = .ok (.iadd, 1) := by decide +kernel
theorem dL_law_320 : decode code 320 = .ok (.iaload, 1) := by decide +kernel
theorem dL_law_321 : decode code 321 = .ok (.aload_n 3, 1) := by decide +kernel
theorem dL_law_322 : decode code 322 = .ok (.invokestatic 69, 3) := by decide +kernel
theorem dL_law_325 : decode code 325 = .ok (.istore 5, 2) := by decide +kernel
theorem dL_law_327 : decode code 327 = .ok (.aload_n 2, 1) := by decide +kernel
theorem dL_law_328 : decode code 328 = .ok (.aload_n 0, 1) := by decide +kernel
theorem dL_law_329 : decode code 329 = .ok (.iload 4, 2) := by decide +kernel
theorem dL_law_331 : decode code 331 = .ok (.iconst 1, 1) := by decide +kernel
theorem dL_law_332 : decode code 332 = .ok (.iadd, 1) := by decide +kernel
theorem dL_law_333 : decode code 333 = .ok (.iaload, 1) := by decide +kernel
theorem dL_law_334 : decode code 334 = .ok (.invokevirtual 72, 3) := by decide +kernel
theorem dL_law_337 : decode code 337 = .ok (.istore 6, 2) := by decide +kernel
theorem dL_law_339 : decode code 339 = .ok (.aload_n 2, 1) := by decide +kernel
theorem dL_law_340 : decode code 340 = .ok (.invokevirtual 61, 3) := by decide +kernel
theorem dL_law_343 : decode code 343 = .ok (.iload 5, 2) := by decide +kernel
theorem dL_law_345 : decode code 345 = .ok (.if_icmp .eq 5, 3) := by decide +kernel
theorem dL_law_348 : decode code 348 = .ok (.iconst 0, 1) := by decide +kernel
theorem dL_law_349 : decode code 349 = .ok (.ireturn, 1) := by decide +kernel
theorem dL_law_350 : decode code 350 = .ok (.iload 5, 2) := by decide +kernel
theorem dL_law_352 : decode code 352 = .ok (.ifCond .ne 15, 3) := by decide +kernel
theorem dL_law_355 : decode code 355 = .ok (.aload_n 3, 1) := by decide +kernel
theorem dL_law_356 : decode code 356 = .ok (.iconst 0, 1) := by decide +kernel
theorem dL_law_357 : decode code 357 = .ok (.laload, 1) := by decide +kernel
theorem dL_law_358 : decode code 358 = .ok (.iload 6, 2) := by decide +kernel
theorem dL_law_360 : decode code 360 = .ok (.i2l, 1) := by decide +kernel
theorem dL_law_361 : decode code 361 = .ok (.lcmp, 1) := by decide +kernel
theorem dL_law_362 : decode code 362 = .ok (.ifCond .eq 5, 3) := by decide +kernel
theorem dL_law_365 : decode code 365 = .ok (.iconst 0, 1) := by decide +kernel
theorem dL_law_366 : decode code 366 = .ok (.ireturn, 1) := by decide +kernel
theorem dL_law_367 : decode code 367 = .ok (.goto 411, 3) := by decide +kernel
theorem dL_law_370 : decode code 370 = .ok (.aload_n 1, 1) := by decide +kernel
theorem dL_law_371 : decode code 371 = .ok (.aload_n 0, 1) := by decide +kernel
theorem dL_law_372 : decode code 372 = .ok (.iload 4, 2) := by decide +kernel
theorem dL_law_374 : decode code 374 = .ok (.iconst 1, 1) := by decide +kernel
theorem dL_law_375 : decode code 375 = .ok (.iadd, 1) := by decide +kernel
theorem dL_law_376 : decode code 376 = .ok (.iaload, 1) := by decide +kernel
theorem dL_law_377 : decode code 377 = .ok (.aload_n 3, 1) := by decide +kernel
theorem dL_law_378 : decode code 378 = .ok (.invokestatic 73, 3) := by decide +kernel
theorem dL_law_381 : decode code 381 = .ok (.istore 5, 2) := by decide +kernel
theorem dL_law_383 : decode code 383 = .ok (.aload_n 2, 1) := by decide +kernel
theorem dL_law_384 : decode code 384 = .ok (.aload_n 0, 1) := by decide +kernel
theorem dL_law_385 : decode code 385 = .ok (.iload 4, 2) := by decide +kernel
theorem dL_law_387 : decode code 387 = .ok (.iconst 1, 1) := by decide +kernel
theorem dL_law_388 : decode code 388 = .ok (.iadd, 1) := by decide +kernel
theorem dL_law_389 : decode code 389 = .ok (.iaload, 1) := by decide +kernel
theorem dL_law_390 : decode code 390 = .ok (.invokevirtual 75, 3) := by decide +kernel
theorem dL_law_393 : decode code 393 = .ok (.istore 6, 2) := by decide +kernel
theorem dL_law_395 : decode code 395 = .ok (.aload_n 2, 1) := by decide +kernel
theorem dL_law_396 : decode code 396 = .ok (.invokevirtual 61, 3) := by decide +kernel
theorem dL_law_399 : decode code 399 = .ok (.iload 5, 2) := by decide +kernel
theorem dL_law_401 : decode code 401 = .ok (.if_icmp .eq 5, 3) := by decide +kernel
theorem dL_law_404 : decode code 404 = .ok (.iconst 0, 1) := by decide +kernel
theorem dL_law_405 : decode code 405 = .ok (.ireturn, 1) := by decide +kernel
theorem dL_law_406 : decode code 406 = .ok (.iload 5, 2) := by decide +kernel
theorem dL_law_408 : decode code 408 = .ok (.ifCond .ne 15, 3) := by decide +kernel
theorem dL_law_411 : decode code 411 = .ok (.aload_n 3, 1) := by decide +kernel
theorem dL_law_412 : decode code 412 = .ok (.iconst 0, 1) := by decide +kernel
theorem dL_law_413 : decode code 413 = .ok (.laload, 1) := by decide +kernel
theorem dL_law_414 : decode code 414 = .ok (.iload 6, 2) := by decide +kernel
theorem dL_law_416 : decode code 416 = .ok (.i2l, 1) := by decide +kernel
theorem dL_law_417 : decode code 417 = .ok (.lcmp, 1) := by decide +kernel
theorem dL_law_418 : decode code 418 = .ok (.ifCond .eq 5, 3) := by decide +kernel
theorem dL_law_421 : decode code 421 = .ok (.iconst 0, 1) := by decide +kernel
theorem dL_law_422 : decode code 422 = .ok (.ireturn, 1) := by decide +kernel
theorem dL_law_423 : decode code 423 = .ok (.goto 355, 3) := by decide +kernel
theorem dL_law_426 : decode code 426 = .ok (.aload_n 1, 1) := by decide +kernel
theorem dL_law_427 : decode code 427 = .ok (.aload_n 0, 1) := by decide +kernel
theorem dL_law_428 : decode code 428 = .ok (.iload 4, 2) := by decide +kernel
theorem dL_law_430 : decode code 430 = .ok (.iconst 1, 1) := by decide +kernel
theorem dL_law_431 : decode code 431 = .ok (.iadd, 1) := by decide +kernel
theorem dL_law_432 : decode code 432 = .ok (.iaload, 1) := by decide +kernel
theorem dL_law_433 : decode code 433 = .ok (.aload_n 3, 1) := by decide +kernel
theorem dL_law_434 : decode code 434 = .ok (.invokestatic 76, 3) := by decide +kernel
theorem dL_law_437 : decode code 437 = .ok (.istore 5, 2) := by decide +kernel
theorem dL_law_439 : decode code 439 = .ok (.aload_n 2, 1) := by decide +kernel
theorem dL_law_440 : decode code 440 = .ok (.aload_n 0, 1) := by decide +kernel
theorem dL_law_441 : decode code 441 = .ok (.iload 4, 2) := by decide +kernel
theorem dL_law_443 : decode code 443 = .ok (.iconst 1, 1) := by decide +kernel
theorem dL_law_444 : decode code 444 = .ok (.iadd, 1) := by decide +kernel
theorem dL_law_445 : decode code 445 = .ok (.iaload, 1) := by decide +kernel
theorem dL_law_446 : decode code 446 = .ok (.invokevirtual 78, 3) := by decide +kernel
theorem dL_law_449 : decode code 449 = .ok (.istore 6, 2) := by decide +kernel
theorem dL_law_451 : decode code 451 = .ok (.aload_n 2, 1) := by decide +kernel
theorem dL_law_452 : decode code 452 = .ok (.invokevirtual 61, 3) := by decide +kernel
theorem dL_law_455 : decode code 455 = .ok (.iload 5, 2) := by decide +kernel
theorem dL_law_457 : decode code 457 = .ok (.if_icmp .eq 5, 3) := by decide +kernel
theorem dL_law_460 : decode code 460 = .ok (.iconst 0, 1) := by decide +kernel
theorem dL_law_461 : decode code 461 = .ok (.ireturn, 1) := by decide +kernel
theorem dL_law_462 : decode code 462 = .ok (.iload 5, 2) := by decide +kernel
theorem dL_law_464 : decode code 464 = .ok (.ifCond .ne 15, 3) := by decide +kernel
theorem dL_law_467 : decode code 467 = .ok (.aload_n 3, 1) := by decide +kernel
theorem dL_law_468 : decode code 468 = .ok (.iconst 0, 1) := by decide +kernel
theorem dL_law_469 : decode code 469 = .ok (.laload, 1) := by decide +kernel
theorem dL_law_470 : decode code 470 = .ok (.iload 6, 2) := by decide +kernel
theorem dL_law_472 : decode code 472 = .ok (.i2l, 1) := by decide +kernel
theorem dL_law_473 : decode code 473 = .ok (.lcmp, 1) := by decide +kernel
theorem dL_law_474 : decode code 474 = .ok (.ifCond .eq 5, 3) := by decide +kernel
theorem dL_law_477 : decode code 477 = .ok (.iconst 0, 1) := by decide +kernel
theorem dL_law_478 : decode code 478 = .ok (.ireturn, 1) := by decide +kernel
theorem dL_law_479 : decode code 479 = .ok (.goto 299, 3) := by decide +kernel
theorem dL_law_482 : decode code 482 = .ok (.aload_n 1, 1) := by decide +kernel
theorem dL_law_483 : decode code 483 = .ok (.aload_n 0, 1) := by decide +kernel
theorem dL_law_484 : decode code 484 = .ok (.iload 4, 2) := by decide +kernel
theorem dL_law_486 : decode code 486 = .ok (.iconst 1, 1) := by decide +kernel
theorem dL_law_487 : decode code 487 = .ok (.iadd, 1) := by decide +kernel
theorem dL_law_488 : decode code 488 = .ok (.iaload, 1) := by decide +kernel
theorem dL_law_489 : decode code 489 = .ok (.aload_n 0, 1) := by decide +kernel
theorem dL_law_490 : decode code 490 = .ok (.iload 4, 2) := by decide +kernel
theorem dL_law_492 : decode code 492 = .ok (.iconst 2, 1) := by decide +kernel
theorem dL_law_493 : decode code 493 = .ok (.iadd, 1) := by decide +kernel
theorem dL_law_494 : decode code 494 = .ok (.iaload, 1) := by decide +kernel
theorem dL_law_495 : decode code 495 = .ok (.aload_n 3, 1) := by decide +kernel
theorem dL_law_496 : decode code 496 = .ok (.invokestatic 79, 3) := by decide +kernel
theorem dL_law_499 : decode code 499 = .ok (.istore 5, 2) := by decide +kernel
theorem dL_law_501 : decode code 501 = .ok (.aload_n 2, 1) := by decide +kernel
theorem dL_law_502 : decode code 502 = .ok (.aload_n 0, 1) := by decide +kernel
theorem dL_law_503 : decode code 503 = .ok (.iload 4, 2) := by decide +kernel
theorem dL_law_505 : decode code 505 = .ok (.iconst 1, 1) := by decide +kernel
theorem dL_law_506 : decode code 506 = .ok (.iadd, 1) := by decide +kernel
theorem dL_law_507 : decode code 507 = .ok (.iaload, 1) := by decide +kernel
theorem dL_law_508 : decode code 508 = .ok (.aload_n 0, 1) := by decide +kernel
theorem dL_law_509 : decode code 509 = .ok (.iload 4, 2) := by decide +kernel
theorem dL_law_511 : decode code 511 = .ok (.iconst 2, 1) := by decide +kernel
theorem dL_law_512 : decode code 512 = .ok (.iadd, 1) := by decide +kernel
theorem dL_law_513 : decode code 513 = .ok (.iaload, 1) := by decide +kernel
theorem dL_law_514 : decode code 514 = .ok (.invokevirtual 82, 3) := by decide +kernel
theorem dL_law_517 : decode code 517 = .ok (.istore 6, 2) := by decide +kernel
theorem dL_law_519 : decode code 519 = .ok (.aload_n 2, 1) := by decide +kernel
theorem dL_law_520 : decode code 520 = .ok (.invokevirtual 61, 3) := by decide +kernel
theorem dL_law_523 : decode code 523 = .ok (.iload 5, 2) := by decide +kernel
theorem dL_law_525 : decode code 525 = .ok (.if_icmp .eq 5, 3) := by decide +kernel
theorem dL_law_528 : decode code 528 = .ok (.iconst 0, 1) := by decide +kernel
theorem dL_law_529 : decode code 529 = .ok (.ireturn, 1) := by decide +kernel
theorem dL_law_530 : decode code 530 = .ok (.iload 5, 2) := by decide +kernel
theorem dL_law_532 : decode code 532 = .ok (.ifCond .ne 15, 3) := by decide +kernel
theorem dL_law_535 : decode code 535 = .ok (.aload_n 3, 1) := by decide +kernel
theorem dL_law_536 : decode code 536 = .ok (.iconst 0, 1) := by decide +kernel
theorem dL_law_537 : decode code 537 = .ok (.laload, 1) := by decide +kernel
theorem dL_law_538 : decode code 538 = .ok (.iload 6, 2) := by decide +kernel
theorem dL_law_540 : decode code 540 = .ok (.i2l, 1) := by decide +kernel
theorem dL_law_541 : decode code 541 = .ok (.lcmp, 1) := by decide +kernel
theorem dL_law_542 : decode code 542 = .ok (.ifCond .eq 5, 3) := by decide +kernel
theorem dL_law_545 : decode code 545 = .ok (.iconst 0, 1) := by decide +kernel
theorem dL_law_546 : decode code 546 = .ok (.ireturn, 1) := by decide +kernel
theorem dL_law_547 : decode code 547 = .ok (.goto 231, 3) := by decide +kernel
theorem dL_law_550 : decode code 550 = .ok (.aload_n 1, 1) := by decide +kernel
theorem dL_law_551 : decode code 551 = .ok (.aload_n 0, 1) := by decide +kernel
theorem dL_law_552 : decode code 552 = .ok (.iload 4, 2) := by decide +kernel
theorem dL_law_554 : decode code 554 = .ok (.iconst 1, 1) := by decide +kernel
theorem dL_law_555 : decode code 555 = .ok (.iadd, 1) := by decide +kernel
theorem dL_law_556 : decode code 556 = .ok (.iaload, 1) := by decide +kernel
theorem dL_law_557 : decode code 557 = .ok (.aload_n 0, 1) := by decide +kernel
theorem dL_law_558 : decode code 558 = .ok (.iload 4, 2) := by decide +kernel
theorem dL_law_560 : decode code 560 = .ok (.iconst 2, 1) := by decide +kernel
theorem dL_law_561 : decode code 561 = .ok (.iadd, 1) := by decide +kernel
theorem dL_law_562 : decode code 562 = .ok (.iaload, 1) := by decide +kernel
theorem dL_law_563 : decode code 563 = .ok (.aload_n 0, 1) := by decide +kernel
theorem dL_law_564 : decode code 564 = .ok (.iload 4, 2) := by decide +kernel
theorem dL_law_566 : decode code 566 = .ok (.iconst 3, 1) := by decide +kernel
theorem dL_law_567 : decode code 567 = .ok (.iadd, 1) := by decide +kernel
theorem dL_law_568 : decode code 568 = .ok (.iaload, 1) := by decide +kernel
theorem dL_law_569 : decode code 569 = .ok (.aload_n 0, 1) := by decide +kernel
theorem dL_law_570 : decode code 570 = .ok (.iload 4, 2) := by decide +kernel
theorem dL_law_572 : decode code 572 = .ok (.iconst 4, 1) := by decide +kernel
theorem dL_law_573 : decode code 573 = .ok (.iadd, 1) := by decide +kernel
theorem dL_law_574 : decode code 574 = .ok (.iaload, 1) := by decide +kernel
theorem dL_law_575 : decode code 575 = .ok (.aload_n 3, 1) := by decide +kernel
theorem dL_law_576 : decode code 576 = .ok (.invokestatic 83, 3) := by decide +kernel
theorem dL_law_579 : decode code 579 = .ok (.istore 5, 2) := by decide +kernel
theorem dL_law_581 : decode code 581 = .ok (.aload_n 2, 1) := by decide +kernel
theorem dL_law_582 : decode code 582 = .ok (.aload_n 0, 1) := by decide +kernel
theorem dL_law_583 : decode code 583 = .ok (.iload 4, 2) := by decide +kernel
theorem dL_law_585 : decode code 585 = .ok (.iconst 1, 1) := by decide +kernel
theorem dL_law_586 : decode code 586 = .ok (.iadd, 1) := by decide +kernel
theorem dL_law_587 : decode code 587 = .ok (.iaload, 1) := by decide +kernel
theorem dL_law_588 : decode code 588 = .ok (.aload_n 0, 1) := by decide +kernel
theorem dL_law_589 : decode code 589 = .ok (.iload 4, 2) := by decide +kernel
theorem dL_law_591 : decode code 591 = .ok (.iconst 2, 1) := by decide +kernel
theorem dL_law_592 : decode code 592 = .ok (.iadd, 1) := by decide +kernel
theorem dL_law_593 : decode code 593 = .ok (.iaload, 1) := by decide +kernel
theorem dL_law_594 : decode code 594 = .ok (.aload_n 0, 1) := by decide +kernel
theorem dL_law_595 : decode code 595 = .ok (.iload 4, 2) := by decide +kernel
theorem dL_law_597 : decode code 597 = .ok (.iconst 3, 1) := by decide +kernel
theorem dL_law_598 : decode code 598 = .ok (.iadd, 1) := by decide +kernel
theorem dL_law_599 : decode code 599 = .ok (.iaload, 1) := by decide +kernel
theorem dL_law_600 : decode code 600 = .ok (.aload_n 0, 1) := by decide +kernel
theorem dL_law_601 : decode code 601 = .ok (.iload 4, 2) := by decide +kernel
theorem dL_law_603 : decode code 603 = .ok (.iconst 4, 1) := by decide +kernel
theorem dL_law_604 : decode code 604 = .ok (.iadd, 1) := by decide +kernel
theorem dL_law_605 : decode code 605 = .ok (.iaload, 1) := by decide +kernel
theorem dL_law_606 : decode code 606 = .ok (.invokevirtual 86, 3) := by decide +kernel
theorem dL_law_609 : decode code 609 = .ok (.istore 6, 2) := by decide +kernel
theorem dL_law_611 : decode code 611 = .ok (.aload_n 2, 1) := by decide +kernel
theorem dL_law_612 : decode code 612 = .ok (.invokevirtual 61, 3) := by decide +kernel
theorem dL_law_615 : decode code 615 = .ok (.iload 5, 2) := by decide +kernel
theorem dL_law_617 : decode code 617 = .ok (.if_icmp .eq 5, 3) := by decide +kernel
theorem dL_law_620 : decode code 620 = .ok (.iconst 0, 1) := by decide +kernel
theorem dL_law_621 : decode code 621 = .ok (.ireturn, 1) := by decide +kernel
theorem dL_law_622 : decode code 622 = .ok (.iload 5, 2) := by decide +kernel
theorem dL_law_624 : decode code 624 = .ok (.ifCond .ne 15, 3) := by decide +kernel
theorem dL_law_627 : decode code 627 = .ok (.aload_n 3, 1) := by decide +kernel
theorem dL_law_628 : decode code 628 = .ok (.iconst 0, 1) := by decide +kernel
theorem dL_law_629 : decode code 629 = .ok (.laload, 1) := by decide +kernel
theorem dL_law_630 : decode code 630 = .ok (.iload 6, 2) := by decide +kernel
theorem dL_law_632 : decode code 632 = .ok (.i2l, 1) := by decide +kernel
theorem dL_law_633 : decode code 633 = .ok (.lcmp, 1) := by decide +kernel
theorem dL_law_634 : decode code 634 = .ok (.ifCond .eq 5, 3) := by decide +kernel
theorem dL_law_637 : decode code 637 = .ok (.iconst 0, 1) := by decide +kernel
theorem dL_law_638 : decode code 638 = .ok (.ireturn, 1) := by decide +kernel
theorem dL_law_639 : decode code 639 = .ok (.goto 139, 3) := by decide +kernel
theorem dL_law_642 : decode code 642 = .ok (.aload_n 1, 1) := by decide +kernel
theorem dL_law_643 : decode code 643 = .ok (.aload_n 0, 1) := by decide +kernel
theorem dL_law_644 : decode code 644 = .ok (.iload 4, 2) := by decide +kernel
theorem dL_law_646 : decode code 646 = .ok (.iconst 1, 1) := by decide +kernel
theorem dL_law_647 : decode code 647 = .ok (.iadd, 1) := by decide +kernel
theorem dL_law_648 : decode code 648 = .ok (.iaload, 1) := by decide +kernel
theorem dL_law_649 : decode code 649 = .ok (.aload_n 0, 1) := by decide +kernel
theorem dL_law_650 : decode code 650 = .ok (.iload 4, 2) := by decide +kernel
theorem dL_law_652 : decode code 652 = .ok (.iconst 2, 1) := by decide +kernel
theorem dL_law_653 : decode code 653 = .ok (.iadd, 1) := by decide +kernel
theorem dL_law_654 : decode code 654 = .ok (.iaload, 1) := by decide +kernel
theorem dL_law_655 : decode code 655 = .ok (.aload_n 3, 1) := by decide +kernel
theorem dL_law_656 : decode code 656 = .ok (.invokestatic 87, 3) := by decide +kernel
theorem dL_law_659 : decode code 659 = .ok (.istore 5, 2) := by decide +kernel
theorem dL_law_661 : decode code 661 = .ok (.aload_n 2, 1) := by decide +kernel
theorem dL_law_662 : decode code 662 = .ok (.aload_n 0, 1) := by decide +kernel
theorem dL_law_663 : decode code 663 = .ok (.iload 4, 2) := by decide +kernel
theorem dL_law_665 : decode code 665 = .ok (.iconst 1, 1) := by decide +kernel
theorem dL_law_666 : decode code 666 = .ok (.iadd, 1) := by decide +kernel
theorem dL_law_667 : decode code 667 = .ok (.iaload, 1) := by decide +kernel
theorem dL_law_668 : decode code 668 = .ok (.aload_n 0, 1) := by decide +kernel
theorem dL_law_669 : decode code 669 = .ok (.iload 4, 2) := by decide +kernel
theorem dL_law_671 : decode code 671 = .ok (.iconst 2, 1) := by decide +kernel
theorem dL_law_672 : decode code 672 = .ok (.iadd, 1) := by decide +kernel
theorem dL_law_673 : decode code 673 = .ok (.iaload, 1) := by decide +kernel
theorem dL_law_674 : decode code 674 = .ok (.invokevirtual 89, 3) := by decide +kernel
theorem dL_law_677 : decode code 677 = .ok (.istore 6, 2) := by decide +kernel
theorem dL_law_679 : decode code 679 = .ok (.aload_n 2, 1) := by decide +kernel
theorem dL_law_680 : decode code 680 = .ok (.invokevirtual 61, 3) := by decide +kernel
theorem dL_law_683 : decode code 683 = .ok (.iload 5, 2) := by decide +kernel
theorem dL_law_685 : decode code 685 = .ok (.if_icmp .eq 5, 3) := by decide +kernel
theorem dL_law_688 : decode code 688 = .ok (.iconst 0, 1) := by decide +kernel
theorem dL_law_689 : decode code 689 = .ok (.ireturn, 1) := by decide +kernel
theorem dL_law_690 : decode code 690 = .ok (.iload 5, 2) := by decide +kernel
theorem dL_law_692 : decode code 692 = .ok (.ifCond .ne 15, 3) := by decide +kernel
theorem dL_law_695 : decode code 695 = .ok (.aload_n 3, 1) := by decide +kernel
theorem dL_law_696 : decode code 696 = .ok (.iconst 0, 1) := by decide +kernel
theorem dL_law_697 : decode code 697 = .ok (.laload, 1) := by decide +kernel
theorem dL_law_698 : decode code 698 = .ok (.iload 6, 2) := by decide +kernel
theorem dL_law_700 : decode code 700 = .ok (.i2l, 1) := by decide +kernel
theorem dL_law_701 : decode code 701 = .ok (.lcmp, 1) := by decide +kernel
theorem dL_law_702 : decode code 702 = .ok (.ifCond .eq 5, 3) := by decide +kernel
theorem dL_law_705 : decode code 705 = .ok (.iconst 0, 1) := by decide +kernel
theorem dL_law_706 : decode code 706 = .ok (.ireturn, 1) := by decide +kernel
theorem dL_law_707 : decode code 707 = .ok (.goto 71, 3) := by decide +kernel
theorem dL_law_710 : decode code 710 = .ok (.aload_n 1, 1) := by decide +kernel
theorem dL_law_711 : decode code 711 = .ok (.aload_n 0, 1) := by decide +kernel
theorem dL_law_712 : decode code 712 = .ok (.iload 4, 2) := by decide +kernel
theorem dL_law_714 : decode code 714 = .ok (.iconst 1, 1) := by decide +kernel
theorem dL_law_715 : decode code 715 = .ok (.iadd, 1) := by decide +kernel
theorem dL_law_716 : decode code 716 = .ok (.iaload, 1) := by decide +kernel
theorem dL_law_717 : decode code 717 = .ok (.aload_n 0, 1) := by decide +kernel
theorem dL_law_718 : decode code 718 = .ok (.iload 4, 2) := by decide +kernel
theorem dL_law_720 : decode code 720 = .ok (.iconst 2, 1) := by decide +kernel
theorem dL_law_721 : decode code 721 = .ok (.iadd, 1) := by decide +kernel
theorem dL_law_722 : decode code 722 = .ok (.iaload, 1) := by decide +kernel
theorem dL_law_723 : decode code 723 = .ok (.aload_n 3, 1) := by decide +kernel
theorem dL_law_724 : decode code 724 = .ok (.invokestatic 90, 3) := by decide +kernel
theorem dL_law_727 : decode code 727 = .ok (.istore 5, 2) := by decide +kernel
theorem dL_law_729 : decode code 729 = .ok (.aload_n 2, 1) := by decide +kernel
theorem dL_law_730 : decode code 730 = .ok (.aload_n 0, 1) := by decide +kernel
theorem dL_law_731 : decode code 731 = .ok (.iload 4, 2) := by decide +kernel
theorem dL_law_733 : decode code 733 = .ok (.iconst 1, 1) := by decide +kernel
theorem dL_law_734 : decode code 734 = .ok (.iadd, 1) := by decide +kernel
theorem dL_law_735 : decode code 735 = .ok (.iaload, 1) := by decide +kernel
theorem dL_law_736 : decode code 736 = .ok (.aload_n 0, 1) := by decide +kernel
theorem dL_law_737 : decode code 737 = .ok (.iload 4, 2) := by decide +kernel
theorem dL_law_739 : decode code 739 = .ok (.iconst 2, 1) := by decide +kernel
theorem dL_law_740 : decode code 740 = .ok (.iadd, 1) := by decide +kernel
theorem dL_law_741 : decode code 741 = .ok (.iaload, 1) := by decide +kernel
theorem dL_law_742 : decode code 742 = .ok (.invokevirtual 92, 3) := by decide +kernel
theorem dL_law_745 : decode code 745 = .ok (.istore 6, 2) := by decide +kernel
theorem dL_law_747 : decode code 747 = .ok (.aload_n 2, 1) := by decide +kernel
theorem dL_law_748 : decode code 748 = .ok (.invokevirtual 61, 3) := by decide +kernel
theorem dL_law_751 : decode code 751 = .ok (.iload 5, 2) := by decide +kernel
theorem dL_law_753 : decode code 753 = .ok (.if_icmp .eq 5, 3) := by decide +kernel
theorem dL_law_756 : decode code 756 = .ok (.iconst 0, 1) := by decide +kernel
theorem dL_law_757 : decode code 757 = .ok (.ireturn, 1) := by decide +kernel
theorem dL_law_758 : decode code 758 = .ok (.iload 5, 2) := by decide +kernel
theorem dL_law_760 : decode code 760 = .ok (.ifCond .ne 15, 3) := by decide +kernel
theorem dL_law_763 : decode code 763 = .ok (.aload_n 3, 1) := by decide +kernel
theorem dL_law_764 : decode code 764 = .ok (.iconst 0, 1) := by decide +kernel
theorem dL_law_765 : decode code 765 = .ok (.laload, 1) := by decide +kernel
theorem dL_law_766 : decode code 766 = .ok (.iload 6, 2) := by decide +kernel
theorem dL_law_768 : decode code 768 = .ok (.i2l, 1) := by decide +kernel
theorem dL_law_769 : decode code 769 = .ok (.lcmp, 1) := by decide +kernel
theorem dL_law_770 : decode code 770 = .ok (.ifCond .eq 5, 3) := by decide +kernel
theorem dL_law_773 : decode code 773 = .ok (.iconst 0, 1) := by decide +kernel
theorem dL_law_774 : decode code 774 = .ok (.ireturn, 1) := by decide +kernel
theorem dL_law_775 : decode code 775 = .ok (.goto 3, 3) := by decide +kernel
theorem dL_law_778 : decode code 778 = .ok (.iinc 4 7, 3) := by decide +kernel
theorem dL_law_781 : decode code 781 = .ok (.goto (-758), 3) := by decide +kernel
theorem dL_law_784 : decode code 784 = .ok (.iconst 1, 1) := by decide +kernel
theorem dL_law_785 : decode code 785 = .ok (.ireturn, 1) := by decide +kernel
end
section
/-! Differences of numbers: matrices of bounds, none where there is no bound. Pure; nothing of the machine. -/
def zd_L (g : Nat → Nat → Option Int) (x y : Nat) (c : Int) : Prop := ∃ d, g x y = some d ∧ d ≤ c
theorem zd_L.mono {g : Nat → Nat → Option Int} {x y : Nat} {c e : Int} (h : zd_L g x y c) (hc : c ≤ e) : zd_L g x y e := by
  obtain ⟨d, h1, h2⟩ := h
  exact ⟨d, h1, by omega⟩
theorem zd_L.eq {g : Nat → Nat → Option Int} {x y : Nat} {c : Int} (h : g x y = some c) : zd_L g x y c := ⟨c, h, Int.le_refl c⟩
def zd_Sat (n : Nat) (g : Nat → Nat → Option Int) (v : Nat → Int) : Prop := ∀ (x y : Nat) (c : Int), x < n → y < n → zd_L g x y c → v x - v y ≤ c
def zd_Cls (n : Nat) (g : Nat → Nat → Option Int) : Prop :=
  (∀ x, x < n → g x x = some 0) ∧ ∀ (x y z : Nat) (c e : Int), x < n → y < n → z < n → zd_L g x y c → zd_L g y z e → zd_L g x z (c + e)
def zd_mn (g : Nat → Nat → Option Int) (x : Nat) : Nat → Int
  | 0 => 0
  | k + 1 => match g x k with
    | none => zd_mn g x k
    | some d => if d ≤ zd_mn g x k then d else zd_mn g x k
theorem zd_mn_le {g : Nat → Nat → Option Int} {x : Nat} : ∀ (n z : Nat) (d : Int), z < n → g x z = some d → zd_mn g x n ≤ d := by
  intro n
  induction n with
  | zero => intro z d h; omega
  | succ n ih =>
    intro z d hz hd
    by_cases e : z = n
    · subst e
      simp only [zd_mn, hd]
      split <;> omega
    · have h1 := ih z d (by omega) hd
      simp only [zd_mn]
      cases h : g x n with
      | none => exact h1
      | some w =>
        simp only []
        split <;> omega
theorem zd_mn_at {g : Nat → Nat → Option Int} {x : Nat} : ∀ (n : Nat), zd_mn g x n = 0 ∨ ∃ z, z < n ∧ g x z = some (zd_mn g x n) := by
  intro n
  induction n with
  | zero => exact Or.inl rfl
  | succ n ih =>
    simp only [zd_mn]
    cases h : g x n with
    | none =>
      simp only []
      rcases ih with h1 | ⟨z, h1, h2⟩
      · exact Or.inl h1
      · exact Or.inr ⟨z, by omega, h2⟩
    | some w =>
      simp only []
      split
      · exact Or.inr ⟨n, by omega, h⟩
      · rcases ih with h1 | ⟨z, h1, h2⟩
        · exact Or.inl h1
        · exact Or.inr ⟨z, by omega, h2⟩
/-- a closed matrix has numbers -/
theorem zd_sat {n : Nat} {g : Nat → Nat → Option Int} (h : zd_Cls n g) : ∃ v, zd_Sat n g v := by
  refine ⟨fun x => zd_mn g x n, ?_⟩
  intro x y c hx hy hL
  have hz : ∃ z, z < n ∧ g y z = some (zd_mn g y n) := by
    rcases zd_mn_at (g := g) (x := y) n with h1 | h1
    · exact ⟨y, hy, by rw [h1]; exact h.1 y hy⟩
    · exact h1
  obtain ⟨z, hz, e⟩ := hz
  obtain ⟨d, h1, h2⟩ := h.2 x y z c _ hx hy hz hL (zd_L.eq e)
  have := zd_mn_le n z d hz h1
  show zd_mn g x n - zd_mn g y n ≤ c
  omega
/-- a bound more -/
def zd_lrn (a b : Nat) (k : Int) (g : Nat → Nat → Option Int) : Nat → Nat → Option Int := fun x y =>
  match g x a, g b y with
  | some p, some q => (match g x y with
    | none => some (p + k + q)
    | some d => if p + k + q < d then some (p + k + q) else some d)
  | _, _ => g x y
theorem zd_lrn_L {a b : Nat} {k : Int} {g : Nat → Nat → Option Int} {x y : Nat} {c : Int} : zd_L (zd_lrn a b k g) x y c ↔ zd_L g x y c ∨ ∃ p q, zd_L g x a p ∧ zd_L g b y q ∧ p + k + q ≤ c := by
  unfold zd_L zd_lrn
  cases h1 : g x a with
  | none => simp
  | some p =>
    cases h2 : g b y with
    | none => simp
    | some q =>
      cases h3 : g x y with
      | none =>
        constructor
        · rintro ⟨d, hd, hc⟩
          simp only [Option.some.injEq] at hd
          exact Or.inr ⟨p, q, ⟨p, rfl, Int.le_refl p⟩, ⟨q, rfl, Int.le_refl q⟩, by omega⟩
        · rintro (⟨d, hd, hc⟩ | ⟨p', q', ⟨d, hd, hc⟩, ⟨d', hd', hc'⟩, h⟩)
          · cases hd
          · cases hd; cases hd'
            exact ⟨_, rfl, by omega⟩
      | some w =>
        simp only []
        constructor
        · rintro ⟨d, hd, hc⟩
          split at hd
          · cases hd
            exact Or.inr ⟨p, q, ⟨p, rfl, Int.le_refl p⟩, ⟨q, rfl, Int.le_refl q⟩, by omega⟩
          · cases hd
            exact Or.inl ⟨_, rfl, hc⟩
        · rintro (⟨d, hd, hc⟩ | ⟨p', q', ⟨d, hd, hc⟩, ⟨d', hd', hc'⟩, h⟩)
          · cases hd
            split
            · exact ⟨_, rfl, by omega⟩
            · exact ⟨_, rfl, hc⟩
          · cases hd; cases hd'
            split
            · exact ⟨_, rfl, by omega⟩
            · exact ⟨_, rfl, by omega⟩
theorem zd_lrn_diag {n a b : Nat} {k : Int} {g : Nat → Nat → Option Int} (h : zd_Cls n g) (ha : a < n) (hb : b < n) (hk : ∀ d, zd_L g b a d → 0 ≤ d + k) {x : Nat} (hx : x < n) : zd_lrn a b k g x x = some 0 := by
  have h0 := h.1 x hx
  unfold zd_lrn
  cases h1 : g x a with
  | none => simpa using h0
  | some p =>
    cases h2 : g b x with
    | none => simpa using h0
    | some q =>
      simp only [h0]
      have h3 := hk _ (h.2 b x a q p hb hx ha (zd_L.eq h2) (zd_L.eq h1))
      rw [if_neg (by omega)]
theorem zd_lrn_cls {n a b : Nat} {k : Int} {g : Nat → Nat → Option Int} (h : zd_Cls n g) (ha : a < n) (hb : b < n) (hk : ∀ d, zd_L g b a d → 0 ≤ d + k) : zd_Cls n (zd_lrn a b k g) := by
  refine ⟨fun x hx => zd_lrn_diag h ha hb hk hx, ?_⟩
  intro x y z c e hx hy hz h1 h2
  rw [zd_lrn_L] at h1 h2 ⊢
  rcases h1 with h1 | ⟨p1, q1, h1, h1', l1⟩
  · rcases h2 with h2 | ⟨p2, q2, h2, h2', l2⟩
    · exact Or.inl (h.2 x y z c e hx hy hz h1 h2)
    · exact Or.inr ⟨c + p2, q2, h.2 x y a c p2 hx hy ha h1 h2, h2', by omega⟩
  · rcases h2 with h2 | ⟨p2, q2, h2, h2', l2⟩
    · exact Or.inr ⟨p1, q1 + e, h1, h.2 b y z q1 e hb hy hz h1' h2, by omega⟩
    · have h3 := hk _ (h.2 b y a q1 p2 hb hy ha h1' h2)
      exact Or.inr ⟨p1, q2, h1, h2', by omega⟩
theorem zd_lrn_sat {n a b : Nat} {k : Int} {g : Nat → Nat → Option Int} (h : zd_Cls n g) (ha : a < n) (hb : b < n) {v : Nat → Int} : zd_Sat n (zd_lrn a b k g) v ↔ zd_Sat n g v ∧ v a - v b ≤ k := by
  constructor
  · intro hs
    refine ⟨fun x y c hx hy hL => hs x y c hx hy (zd_lrn_L.mpr (Or.inl hL)), ?_⟩
    exact hs a b k ha hb (zd_lrn_L.mpr (Or.inr ⟨0, 0, zd_L.eq (h.1 a ha), zd_L.eq (h.1 b hb), by omega⟩))
  · rintro ⟨hs, hk⟩ x y c hx hy hL
    rcases zd_lrn_L.mp hL with h1 | ⟨p, q, h1, h2, l⟩
    · exact hs x y c hx hy h1
    · have a1 := hs x a p hx ha h1
      have a2 := hs b y q hb hy h2
      omega
/-- a bound that breaks what is known leaves no numbers -/
theorem zd_no {n a b : Nat} {k d : Int} {g : Nat → Nat → Option Int} (ha : a < n) (hb : b < n) (hL : zd_L g b a d) (hk : d + k < 0) {v : Nat → Int} (hs : zd_Sat n g v) (hv : v a - v b ≤ k) : False := by
  have := hs b a d hb ha hL
  omega
/-- the bounds of a closed matrix are reached -/
theorem zd_sup {n : Nat} {g : Nat → Nat → Option Int} (h : zd_Cls n g) {x y : Nat} (hx : x < n) (hy : y < n) {d : Int} (hd : g x y = some d) : ∃ v, zd_Sat n g v ∧ v x - v y = d := by
  have hk : ∀ e, zd_L g x y e → 0 ≤ e + (-d) := by
    rintro e ⟨e', h1, h2⟩
    rw [hd] at h1
    cases h1
    omega
  obtain ⟨v, hv⟩ := zd_sat (zd_lrn_cls h hy hx hk)
  obtain ⟨h1, h2⟩ := (zd_lrn_sat h hy hx).mp hv
  have := h1 x y d hx hy (zd_L.eq hd)
  exact ⟨v, h1, by omega⟩
theorem zd_inf {n : Nat} {g : Nat → Nat → Option Int} (h : zd_Cls n g) {x y : Nat} (hx : x < n) (hy : y < n) (hd : g x y = none) (M : Int) : ∃ v, zd_Sat n g v ∧ M ≤ v x - v y := by
  have hk : ∀ e, zd_L g x y e → 0 ≤ e + (-M) := by
    rintro e ⟨e', h1, h2⟩
    rw [hd] at h1
    cases h1
  obtain ⟨v, hv⟩ := zd_sat (zd_lrn_cls h hy hx hk)
  obtain ⟨h1, h2⟩ := (zd_lrn_sat h hy hx).mp hv
  exact ⟨v, h1, by omega⟩
/-- what holds for all numbers is what the matrix says -/
theorem zd_shown {n : Nat} {g : Nat → Nat → Option Int} (h : zd_Cls n g) {x y : Nat} (hx : x < n) (hy : y < n) (k : Int) : zd_L g x y k ↔ ∀ v, zd_Sat n g v → v x - v y ≤ k := by
  constructor
  · exact fun hL v hs => hs x y k hx hy hL
  · intro hall
    cases hd : g x y with
    | none =>
      obtain ⟨v, h1, h2⟩ := zd_inf h hx hy hd (k + 1)
      have := hall v h1
      omega
    | some d =>
      obtain ⟨v, h1, h2⟩ := zd_sup h hx hy hd
      have := hall v h1
      exact ⟨d, hd, by omega⟩
/-- a name becomes another one's number plus k -/
def zd_mp (a b x : Nat) : Nat := if x = a then b else x
def zd_sh (a : Nat) (k : Int) (x : Nat) : Int := if x = a then k else 0
def zd_giv (a b : Nat) (k : Int) (g : Nat → Nat → Option Int) : Nat → Nat → Option Int := fun x y =>
  (g (zd_mp a b x) (zd_mp a b y)).map (fun d => d + zd_sh a k x - zd_sh a k y)
theorem zd_mp_lt {n a b x : Nat} (hb : b < n) (hx : x < n) : zd_mp a b x < n := by
  unfold zd_mp
  split <;> assumption
theorem zd_giv_L {a b : Nat} {k : Int} {g : Nat → Nat → Option Int} {x y : Nat} {c : Int} : zd_L (zd_giv a b k g) x y c ↔ zd_L g (zd_mp a b x) (zd_mp a b y) (c - zd_sh a k x + zd_sh a k y) := by
  unfold zd_L zd_giv
  cases h : g (zd_mp a b x) (zd_mp a b y) with
  | none => simp
  | some d =>
    simp only [Option.map_some, Option.some.injEq]
    constructor
    · rintro ⟨d', rfl, hc⟩
      exact ⟨d, rfl, by omega⟩
    · rintro ⟨d', rfl, hc⟩
      exact ⟨_, rfl, by omega⟩
theorem zd_giv_cls {n a b : Nat} {k : Int} {g : Nat → Nat → Option Int} (h : zd_Cls n g) (hb : b < n) : zd_Cls n (zd_giv a b k g) := by
  refine ⟨fun x hx => ?_, ?_⟩
  · unfold zd_giv
    rw [h.1 _ (zd_mp_lt hb hx)]
    simp only [Option.map_some, Option.some.injEq]
    omega
  · intro x y z c e hx hy hz h1 h2
    rw [zd_giv_L] at h1 h2 ⊢
    exact (h.2 _ _ _ _ _ (zd_mp_lt hb hx) (zd_mp_lt hb hy) (zd_mp_lt hb hz) h1 h2).mono (by omega)
/-- nothing is known of a name -/
def zd_fgt (a : Nat) (g : Nat → Nat → Option Int) : Nat → Nat → Option Int := fun x y =>
  if x = a ∨ y = a then (if x = y then some 0 else none) else g x y
theorem zd_fgt_cls {n a : Nat} {g : Nat → Nat → Option Int} (h : zd_Cls n g) : zd_Cls n (zd_fgt a g) := by
  refine ⟨fun x hx => ?_, ?_⟩
  · unfold zd_fgt
    split
    · rw [if_pos rfl]
    · exact h.1 x hx
  · intro x y z c e hx hy hz h1 h2
    unfold zd_L zd_fgt at *
    obtain ⟨d1, h1, l1⟩ := h1
    obtain ⟨d2, h2, l2⟩ := h2
    by_cases ex : x = a
    · rw [if_pos (Or.inl ex)] at h1
      by_cases exy : x = y
      · rw [if_pos exy] at h1
        cases h1
        subst exy
        exact ⟨d2, h2, by omega⟩
      · rw [if_neg exy] at h1
        cases h1
    · by_cases ey : y = a
      · rw [if_pos (Or.inr ey), if_neg (by omega)] at h1
        cases h1
      · rw [if_neg (by omega)] at h1
        by_cases ez : z = a
        · rw [if_pos (Or.inr ez), if_neg (by omega)] at h2
          cases h2
        · rw [if_neg (by omega)] at h2
          obtain ⟨c', h3, l3⟩ := h.2 x y z c e hx hy hz ⟨d1, h1, l1⟩ ⟨d2, h2, l2⟩
          rw [if_neg (by omega)]
          exact ⟨c', h3, l3⟩
/-- a number between lower and upper bounds -/
theorem zd_between (lo hi : Nat → Option Int) : ∀ (n : Nat), (∀ i j l u, i < n → j < n → lo i = some l → hi j = some u → l ≤ u) → ∃ t, (∀ i l, i < n → lo i = some l → l ≤ t) ∧ (∀ j u, j < n → hi j = some u → t ≤ u) := by
  intro n
  induction n with
  | zero => exact fun _ => ⟨0, fun i l h => by omega, fun i l h => by omega⟩
  | succ n ih =>
    intro h
    obtain ⟨t, h1, h2⟩ := ih (fun i j l u hi hj => h i j l u (by omega) (by omega))
    obtain ⟨t1, a1, a2⟩ : ∃ t1, (∀ i l, i < n + 1 → lo i = some l → l ≤ t1) ∧ (∀ j u, j < n → hi j = some u → t1 ≤ u) := by
      cases e : lo n with
      | none =>
        refine ⟨t, fun i l hi hl => ?_, h2⟩
        by_cases ei : i = n
        · subst ei; rw [e] at hl; cases hl
        · exact h1 i l (by omega) hl
      | some l0 =>
        refine ⟨if l0 ≤ t then t else l0, fun i l hi hl => ?_, fun j u hj hu => ?_⟩
        · by_cases ei : i = n
          · subst ei; rw [e] at hl; cases hl
            split <;> omega
          · have := h1 i l (by omega) hl
            split <;> omega
        · have b1 := h2 j u hj hu
          have b2 := h n j l0 u (by omega) (by omega) e hu
          split <;> omega
    cases e : hi n with
    | none =>
      refine ⟨t1, a1, fun j u hj hu => ?_⟩
      by_cases ej : j = n
      · subst ej; rw [e] at hu; cases hu
      · exact a2 j u (by omega) hu
    | some u0 =>
      refine ⟨if t1 ≤ u0 then t1 else u0, fun i l hi hl => ?_, fun j u hj hu => ?_⟩
      · have b1 := a1 i l hi hl
        have b2 := h i n l u0 hi (by omega) hl e
        split <;> omega
      · by_cases ej : j = n
        · subst ej; rw [e] at hu; cases hu
          split <;> omega
        · have := a2 j u (by omega) hu
          split <;> omega
/-- numbers for all names but one can be filled up -/
def zd_up (v : Nat → Int) (a : Nat) (t : Int) : Nat → Int := fun x => if x = a then t else v x
theorem zd_fill {n a : Nat} {g : Nat → Nat → Option Int} (h : zd_Cls n g) (ha : a < n) {v : Nat → Int} (hs : zd_Sat n (zd_fgt a g) v) : ∃ t, zd_Sat n g (zd_up v a t) := by
  have hg : ∀ x y c, x < n → y < n → x ≠ a → y ≠ a → zd_L g x y c → v x - v y ≤ c := fun x y c hx hy ex ey hL => hs x y c hx hy (by
    obtain ⟨d, h1, h2⟩ := hL
    exact ⟨d, by unfold zd_fgt; rw [if_neg (by omega)]; exact h1, h2⟩)
  obtain ⟨t, h1, h2⟩ := zd_between (fun x => if x = a then none else (g x a).map (fun d => v x - d)) (fun y => if y = a then none else (g a y).map (fun d => v y + d)) n (by
    intro i j l u hi hj hl hu
    split at hl
    · cases hl
    · split at hu
      · cases hu
      · cases e1 : g i a with
        | none => rw [e1] at hl; cases hl
        | some d1 =>
          cases e2 : g a j with
          | none => rw [e2] at hu; cases hu
          | some d2 =>
            rw [e1] at hl
            rw [e2] at hu
            simp only [Option.map_some, Option.some.injEq] at hl hu
            have := hg i j (d1 + d2) hi hj (by assumption) (by assumption) (h.2 i a j d1 d2 hi ha hj (zd_L.eq e1) (zd_L.eq e2))
            omega)
  refine ⟨t, ?_⟩
  intro x y c hx hy hL
  unfold zd_up
  by_cases ex : x = a
  · rw [if_pos ex]
    by_cases ey : y = a
    · rw [if_pos ey]
      obtain ⟨d, e1, l1⟩ := hL
      rw [ex, ey, h.1 a ha] at e1
      cases e1
      omega
    · rw [if_neg ey]
      obtain ⟨d, e1, l1⟩ := hL
      rw [ex] at e1
      have := h2 y (v y + d) hy (by simp only [if_neg ey, e1, Option.map_some])
      omega
  · rw [if_neg ex]
    by_cases ey : y = a
    · rw [if_pos ey]
      obtain ⟨d, e1, l1⟩ := hL
      rw [ey] at e1
      have := h1 x (v x - d) hx (by simp only [if_neg ex, e1, Option.map_some])
      omega
    · rw [if_neg ey]
      exact hg x y c hx hy ex ey hL
/-- forgetting is exact -/
theorem zd_fgt_sat {n a : Nat} {g : Nat → Nat → Option Int} (h : zd_Cls n g) (ha : a < n) {v : Nat → Int} : zd_Sat n (zd_fgt a g) v ↔ ∃ t, zd_Sat n g (zd_up v a t) := by
  constructor
  · exact fun hs => zd_fill h ha hs
  · rintro ⟨t, hs⟩ x y c hx hy ⟨d, h1, l1⟩
    unfold zd_fgt at h1
    by_cases e : x = a ∨ y = a
    · rw [if_pos e] at h1
      by_cases e2 : x = y
      · rw [if_pos e2] at h1
        cases h1
        subst e2
        omega
      · rw [if_neg e2] at h1
        cases h1
    · rw [if_neg e] at h1
      have := hs x y c hx hy ⟨d, h1, l1⟩
      unfold zd_up at this
      rw [if_neg (by omega), if_neg (by omega)] at this
      exact this
/-- giving is exact -/
theorem zd_giv_sat {n a b : Nat} {k : Int} {g : Nat → Nat → Option Int} (h : zd_Cls n g) (ha : a < n) (hb : b < n) {v : Nat → Int} : zd_Sat n (zd_giv a b k g) v ↔ ∃ w, zd_Sat n g w ∧ v a = w b + k ∧ ∀ x, x < n → x ≠ a → v x = w x := by
  constructor
  · intro hs
    by_cases eab : a = b
    · subst eab
      refine ⟨fun x => v x - zd_sh a k x, ?_, ?_, ?_⟩
      · intro x y c hx hy hL
        have hid : ∀ z, zd_mp a a z = z := fun z => by unfold zd_mp; split <;> omega
        have := hs x y (c + zd_sh a k x - zd_sh a k y) hx hy (zd_giv_L.mpr (by rw [hid, hid]; exact hL.mono (by omega)))
        show v x - zd_sh a k x - (v y - zd_sh a k y) ≤ c
        omega
      · simp [zd_sh]
      · intro x _ ex
        simp [zd_sh, ex]
    · -- v satisfies what g says of the others
      have hf : zd_Sat n (zd_fgt a g) v := by
        intro x y c hx hy hL
        obtain ⟨d, h1, l1⟩ := hL
        unfold zd_fgt at h1
        by_cases e : x = a ∨ y = a
        · rw [if_pos e] at h1
          by_cases e2 : x = y
          · rw [if_pos e2] at h1
            cases h1
            subst e2
            omega
          · rw [if_neg e2] at h1
            cases h1
        · rw [if_neg e] at h1
          refine hs x y c hx hy (zd_giv_L.mpr ?_)
          have e1 : zd_mp a b x = x := by unfold zd_mp; rw [if_neg (by omega)]
          have e2 : zd_mp a b y = y := by unfold zd_mp; rw [if_neg (by omega)]
          have e3 : zd_sh a k x = 0 := by unfold zd_sh; rw [if_neg (by omega)]
          have e4 : zd_sh a k y = 0 := by unfold zd_sh; rw [if_neg (by omega)]
          rw [e1, e2, e3, e4]
          exact ⟨d, h1, by omega⟩
      obtain ⟨t, ht⟩ := zd_fill h ha hf
      refine ⟨zd_up v a t, ht, ?_, ?_⟩
      · have e1 : zd_mp a b a = b := by unfold zd_mp; rw [if_pos rfl]
        have e2 : zd_mp a b b = b := by unfold zd_mp; rw [if_neg (by omega)]
        have e3 : zd_sh a k a = k := by unfold zd_sh; rw [if_pos rfl]
        have e4 : zd_sh a k b = 0 := by unfold zd_sh; rw [if_neg (by omega)]
        have h0 := zd_L.eq (h.1 b hb)
        have b1 := hs a b k ha hb (zd_giv_L.mpr (by rw [e1, e2, e3, e4]; exact h0.mono (by omega)))
        have b2 := hs b a (-k) hb ha (zd_giv_L.mpr (by rw [e1, e2, e3, e4]; exact h0.mono (by omega)))
        unfold zd_up
        rw [if_neg (by omega)]
        omega
      · intro x _ ex
        unfold zd_up
        rw [if_neg ex]
  · rintro ⟨w, hs, e1, e2⟩ x y c hx hy hL
    have hL' := hs _ _ _ (zd_mp_lt hb hx) (zd_mp_lt hb hy) (zd_giv_L.mp hL)
    have hv : ∀ z, z < n → v z = w (zd_mp a b z) + zd_sh a k z := by
      intro z hz
      unfold zd_mp zd_sh
      split
      · subst_vars; exact e1
      · rw [e2 z hz (by assumption)]; omega
    rw [hv x hx, hv y hy]
    omega
end
section
/-! How large the bounds of a matrix can grow: every step adds no more than its own number. -/
def zd_v (g : Nat → Nat → Option Int) (p : Nat × Nat) : Int := (g p.1 p.2).getD 0
def zd_fin (n : Nat) (g : Nat → Nat → Option Int) (p : Nat × Nat) : Prop := p.1 < n ∧ p.2 < n ∧ g p.1 p.2 = some (zd_v g p)
def zd_St (g : Nat → Nat → Option Int) (p q : Nat × Nat) : Prop := ∀ u w, g p.1 q.2 = some u → g q.1 p.2 = some w → zd_v g p + zd_v g q < u + w
def zd_sum (g : Nat → Nat → Option Int) : List (Nat × Nat) → Int
  | [] => 0
  | p :: l => zd_v g p + zd_sum g l
def zd_Bd (n : Nat) (T : Int) (g : Nat → Nat → Option Int) : Prop := ∀ l : List (Nat × Nat), (∀ p ∈ l, zd_fin n g p) → l.Pairwise (zd_St g) → -T ≤ zd_sum g l ∧ zd_sum g l ≤ T
theorem zd_St.symm {g : Nat → Nat → Option Int} {p q : Nat × Nat} (h : zd_St g p q) : zd_St g q p := fun u w h1 h2 => by
  have := h w u h2 h1
  omega
theorem zd_sum_app {g : Nat → Nat → Option Int} (l k : List (Nat × Nat)) : zd_sum g (l ++ k) = zd_sum g l + zd_sum g k := by
  induction l with
  | nil => simp [zd_sum]
  | cons p l ih => simp only [List.cons_append, zd_sum, ih]; omega
theorem zd_sum_congr {g g' : Nat → Nat → Option Int} (l : List (Nat × Nat)) (h : ∀ p ∈ l, zd_v g p = zd_v g' p) : zd_sum g l = zd_sum g' l := by
  induction l with
  | nil => rfl
  | cons p l ih =>
    simp only [zd_sum]
    rw [h p List.mem_cons_self, ih (fun q hq => h q (List.mem_cons_of_mem _ hq))]
theorem zd_v_some {g : Nat → Nat → Option Int} {p : Nat × Nat} {d : Int} (h : g p.1 p.2 = some d) : zd_v g p = d := by
  unfold zd_v
  rw [h]
  rfl
theorem zd_Bd.one {n : Nat} {T : Int} {g : Nat → Nat → Option Int} (h : zd_Bd n T g) {x y : Nat} {d : Int} (hx : x < n) (hy : y < n) (hd : g x y = some d) : -T ≤ d ∧ d ≤ T := by
  have e : zd_v g (x, y) = d := zd_v_some hd
  have := h [(x, y)] (fun p hp => by
    rcases List.mem_singleton.mp hp with rfl
    exact ⟨hx, hy, by rw [e]; exact hd⟩) (List.pairwise_singleton _ _)
  simp only [zd_sum, e] at this
  omega
theorem zd_lrn_le {a b : Nat} {k : Int} {g : Nat → Nat → Option Int} {x y : Nat} {d : Int} (h : g x y = some d) : ∃ d', zd_lrn a b k g x y = some d' ∧ d' ≤ d := zd_lrn_L.mpr (Or.inl (zd_L.eq h))
theorem zd_lrn_le2 {a b : Nat} {k : Int} {g : Nat → Nat → Option Int} {x y : Nat} {p q : Int} (h : g x a = some p) (h2 : g b y = some q) : ∃ d', zd_lrn a b k g x y = some d' ∧ d' ≤ p + k + q := zd_lrn_L.mpr (Or.inr ⟨p, q, zd_L.eq h, zd_L.eq h2, Int.le_refl _⟩)
theorem zd_lrn_cases (a b : Nat) (k : Int) (g : Nat → Nat → Option Int) (x y : Nat) : zd_lrn a b k g x y = g x y ∨ ∃ p q, g x a = some p ∧ g b y = some q ∧ zd_lrn a b k g x y = some (p + k + q) ∧ ∀ d, g x y = some d → p + k + q < d := by
  unfold zd_lrn
  cases h1 : g x a with
  | none => exact Or.inl rfl
  | some p =>
    cases h2 : g b y with
    | none => exact Or.inl rfl
    | some q =>
      cases h3 : g x y with
      | none => exact Or.inr ⟨p, q, rfl, rfl, rfl, fun d hd => by cases hd⟩
      | some d =>
        simp only []
        split
        · exact Or.inr ⟨p, q, rfl, rfl, rfl, fun d' hd => by cases hd; assumption⟩
        · exact Or.inl rfl
theorem zd_Bd_lrn {n a b : Nat} {k T K : Int} {g : Nat → Nat → Option Int} (hk : ∀ d, g b a = some d → 0 ≤ d + k) (ha : a < n) (hb : b < n) (h : zd_Bd n T g) (hK : -K ≤ k ∧ k ≤ K) : zd_Bd n (T + K) (zd_lrn a b k g) := by
  intro l hf hp
  have old : ∀ l2 : List (Nat × Nat), (∀ p ∈ l2, p ∈ l) → (∀ p ∈ l2, zd_lrn a b k g p.1 p.2 = g p.1 p.2) → (∀ p ∈ l2, zd_fin n g p ∧ zd_v (zd_lrn a b k g) p = zd_v g p) ∧ ∀ p ∈ l2, ∀ q ∈ l2, zd_St (zd_lrn a b k g) p q → zd_St g p q := by
    intro l2 hin ho
    have h1 : ∀ p ∈ l2, zd_v (zd_lrn a b k g) p = zd_v g p := fun p hp => by unfold zd_v; rw [ho p hp]
    refine ⟨fun p hp => ⟨?_, h1 p hp⟩, ?_⟩
    · obtain ⟨f1, f2, f3⟩ := hf p (hin p hp)
      exact ⟨f1, f2, by rw [← h1 p hp, ← f3, ho p hp]⟩
    · intro p hp q hq hs u w hu hw
      obtain ⟨u', e1, l1⟩ := zd_lrn_le (a := a) (b := b) (k := k) hu
      obtain ⟨w', e2, l2⟩ := zd_lrn_le (a := a) (b := b) (k := k) hw
      have := hs u' w' e1 e2
      rw [h1 p hp, h1 q hq] at this
      omega
  by_cases hn : ∃ p, p ∈ l ∧ ¬ zd_lrn a b k g p.1 p.2 = g p.1 p.2
  · obtain ⟨p, hpl, hnew⟩ := hn
    have hN : ∃ u w, g p.1 a = some u ∧ g b p.2 = some w ∧ zd_lrn a b k g p.1 p.2 = some (u + k + w) ∧ ∀ d, g p.1 p.2 = some d → u + k + w < d := by
      rcases zd_lrn_cases a b k g p.1 p.2 with e | e
      · exact absurd e hnew
      · exact e
    obtain ⟨u, w, e1, e2, e3, e4⟩ := hN
    have hvp : zd_v (zd_lrn a b k g) p = u + k + w := zd_v_some e3
    obtain ⟨s, t, rfl⟩ := List.append_of_mem hpl
    obtain ⟨ps, ppt, pst⟩ := List.pairwise_append.mp hp
    obtain ⟨pp, pt⟩ := List.pairwise_cons.mp ppt
    have hst : ∀ q, q ∈ s ++ t → zd_St (zd_lrn a b k g) p q := by
      intro q hq
      rcases List.mem_append.mp hq with h1 | h1
      · exact (pst q h1 p List.mem_cons_self).symm
      · exact pp q h1
    have hin : ∀ q ∈ s ++ t, q ∈ s ++ p :: t := by
      intro q hq
      rcases List.mem_append.mp hq with h1 | h1
      · exact List.mem_append_left _ h1
      · exact List.mem_append_right _ (List.mem_cons_of_mem _ h1)
    have ho : ∀ q ∈ s ++ t, zd_lrn a b k g q.1 q.2 = g q.1 q.2 := by
      intro q hq
      rcases zd_lrn_cases a b k g q.1 q.2 with e | ⟨u', w', f1, f2, f3, f4⟩
      · exact e
      · exfalso
        obtain ⟨d1, i1, i2⟩ := zd_lrn_le2 (k := k) e1 f2
        obtain ⟨d2, i3, i4⟩ := zd_lrn_le2 (k := k) f1 e2
        have := hst q hq d1 d2 i1 i3
        rw [hvp, zd_v_some f3] at this
        omega
    obtain ⟨o1, o2⟩ := old (s ++ t) hin ho
    have hv1 : zd_v g (p.1, a) = u := zd_v_some e1
    have hv2 : zd_v g (b, p.2) = w := zd_v_some e2
    obtain ⟨fp1, fp2, fp3⟩ := hf p hpl
    have hb2 := h ((p.1, a) :: (b, p.2) :: (s ++ t)) (by
      intro q hq
      rcases List.mem_cons.mp hq with rfl | hq
      · exact ⟨fp1, ha, by rw [hv1]; exact e1⟩
      · rcases List.mem_cons.mp hq with rfl | hq
        · exact ⟨hb, fp2, by rw [hv2]; exact e2⟩
        · exact (o1 q hq).1) (by
      have hpq : (s ++ t).Pairwise (zd_St g) := by
        have hst2 : (s ++ t).Pairwise (zd_St (zd_lrn a b k g)) := List.pairwise_append.mpr ⟨ps, pt, fun x hx y hy => pst x hx y (List.mem_cons_of_mem _ hy)⟩
        exact hst2.imp_of_mem (fun hx hy hr => o2 _ hx _ hy hr)
      refine List.pairwise_cons.mpr ⟨?_, List.pairwise_cons.mpr ⟨?_, hpq⟩⟩
      · intro q hq
        rcases List.mem_cons.mp hq with rfl | hq
        · intro x y hx hy
          rw [hv1, hv2]
          have a1 := e4 x hx
          have a2 := hk y hy
          omega
        · intro x y hx hy
          rw [hv1]
          obtain ⟨d1, i1, i2⟩ := zd_lrn_le (a := a) (b := b) (k := k) hx
          obtain ⟨d2, i3, i4⟩ := zd_lrn_le2 (k := k) hy e2
          have := hst q hq d1 d2 i1 i3
          rw [hvp, (o1 q hq).2] at this
          omega
      · intro q hq x y hx hy
        rw [hv2]
        obtain ⟨d1, i1, i2⟩ := zd_lrn_le2 (k := k) e1 hx
        obtain ⟨d2, i3, i4⟩ := zd_lrn_le (a := a) (b := b) (k := k) hy
        have := hst q hq d1 d2 i1 i3
        rw [hvp, (o1 q hq).2] at this
        omega)
    have hsum : zd_sum (zd_lrn a b k g) (s ++ p :: t) = zd_sum g ((p.1, a) :: (b, p.2) :: (s ++ t)) + k := by
      have c1 : zd_sum (zd_lrn a b k g) s = zd_sum g s := zd_sum_congr s (fun q hq => (o1 q (List.mem_append_left _ hq)).2)
      have c2 : zd_sum (zd_lrn a b k g) t = zd_sum g t := zd_sum_congr t (fun q hq => (o1 q (List.mem_append_right _ hq)).2)
      simp only [zd_sum_app, zd_sum, c1, c2, hvp, hv1, hv2]
      omega
    rw [hsum]
    omega
  · have ho : ∀ p ∈ l, zd_lrn a b k g p.1 p.2 = g p.1 p.2 := fun p hp => Classical.byContradiction fun h => hn ⟨p, hp, h⟩
    obtain ⟨o1, o2⟩ := old l (fun _ h => h) ho
    have hb2 := h l (fun p hp => (o1 p hp).1) (hp.imp_of_mem (fun hx hy hr => o2 _ hx _ hy hr))
    rw [zd_sum_congr l (fun p hp => (o1 p hp).2)]
    omega
theorem zd_St_x {g : Nat → Nat → Option Int} {n : Nat} {p q : Nat × Nat} (hp : zd_fin n g p) (hq : zd_fin n g q) (h : zd_St g p q) : p.1 ≠ q.1 := by
  intro e
  have := h (zd_v g q) (zd_v g p) (by rw [e]; exact hq.2.2) (by rw [← e]; exact hp.2.2)
  omega
theorem zd_St_y {g : Nat → Nat → Option Int} {n : Nat} {p q : Nat × Nat} (hp : zd_fin n g p) (hq : zd_fin n g q) (h : zd_St g p q) : p.2 ≠ q.2 := by
  intro e
  have := h (zd_v g p) (zd_v g q) (by rw [← e]; exact hp.2.2) (by rw [e]; exact hq.2.2)
  omega
def zd_s1 (a : Nat) (k : Int) : List (Nat × Nat) → Int
  | [] => 0
  | p :: l => zd_sh a k p.1 + zd_s1 a k l
def zd_s2 (a : Nat) (k : Int) : List (Nat × Nat) → Int
  | [] => 0
  | p :: l => zd_sh a k p.2 + zd_s2 a k l
theorem zd_s1_no {a : Nat} {k : Int} (l : List (Nat × Nat)) (h : ∀ p ∈ l, p.1 ≠ a) : zd_s1 a k l = 0 := by
  induction l with
  | nil => rfl
  | cons p l ih =>
    simp only [zd_s1]
    rw [ih (fun q hq => h q (List.mem_cons_of_mem _ hq))]
    have := h p List.mem_cons_self
    simp [zd_sh, this]
theorem zd_s2_no {a : Nat} {k : Int} (l : List (Nat × Nat)) (h : ∀ p ∈ l, p.2 ≠ a) : zd_s2 a k l = 0 := by
  induction l with
  | nil => rfl
  | cons p l ih =>
    simp only [zd_s2]
    rw [ih (fun q hq => h q (List.mem_cons_of_mem _ hq))]
    have := h p List.mem_cons_self
    simp [zd_sh, this]
theorem zd_s1_in {a : Nat} {k : Int} (l : List (Nat × Nat)) (h : l.Pairwise (fun p q => p.1 ≠ q.1)) : zd_s1 a k l = 0 ∨ zd_s1 a k l = k := by
  induction l with
  | nil => exact Or.inl rfl
  | cons p l ih =>
    obtain ⟨h1, h2⟩ := List.pairwise_cons.mp h
    simp only [zd_s1]
    by_cases e : p.1 = a
    · right
      rw [zd_s1_no l (fun q hq => by have := h1 q hq; omega)]
      simp [zd_sh, e]
    · have : zd_sh a k p.1 = 0 := by simp [zd_sh, e]
      rw [this]
      rcases ih h2 with h3 | h3 <;> omega
theorem zd_s2_in {a : Nat} {k : Int} (l : List (Nat × Nat)) (h : l.Pairwise (fun p q => p.2 ≠ q.2)) : zd_s2 a k l = 0 ∨ zd_s2 a k l = k := by
  induction l with
  | nil => exact Or.inl rfl
  | cons p l ih =>
    obtain ⟨h1, h2⟩ := List.pairwise_cons.mp h
    simp only [zd_s2]
    by_cases e : p.2 = a
    · right
      rw [zd_s2_no l (fun q hq => by have := h1 q hq; omega)]
      simp [zd_sh, e]
    · have : zd_sh a k p.2 = 0 := by simp [zd_sh, e]
      rw [this]
      rcases ih h2 with h3 | h3 <;> omega
theorem zd_giv_v {a b : Nat} {k : Int} {g : Nat → Nat → Option Int} {x y : Nat} {d : Int} (h : zd_giv a b k g x y = some d) : g (zd_mp a b x) (zd_mp a b y) = some (d - zd_sh a k x + zd_sh a k y) := by
  unfold zd_giv at h
  cases e : g (zd_mp a b x) (zd_mp a b y) with
  | none => rw [e] at h; cases h
  | some c =>
    rw [e] at h
    simp only [Option.map_some, Option.some.injEq] at h
    simp only [Option.some.injEq]
    omega
theorem zd_giv_of {a b : Nat} {k : Int} {g : Nat → Nat → Option Int} {x y : Nat} {d : Int} (h : g (zd_mp a b x) (zd_mp a b y) = some d) : zd_giv a b k g x y = some (d + zd_sh a k x - zd_sh a k y) := by
  unfold zd_giv
  rw [h]
  rfl
theorem zd_Bd_giv {n a b : Nat} {k T K : Int} {g : Nat → Nat → Option Int} (hb : b < n) (h : zd_Bd n T g) (hK : -K ≤ k ∧ k ≤ K) : zd_Bd n (T + K) (zd_giv a b k g) := by
  intro l hf hp
  have hv : ∀ p ∈ l, zd_v g (zd_mp a b p.1, zd_mp a b p.2) = zd_v (zd_giv a b k g) p - zd_sh a k p.1 + zd_sh a k p.2 := fun p hp => zd_v_some (zd_giv_v (hf p hp).2.2)
  have hb2 := h (l.map (fun p => (zd_mp a b p.1, zd_mp a b p.2))) (by
    intro q hq
    obtain ⟨p, hp, rfl⟩ := List.mem_map.mp hq
    obtain ⟨f1, f2, f3⟩ := hf p hp
    refine ⟨zd_mp_lt hb f1, zd_mp_lt hb f2, ?_⟩
    rw [hv p hp]
    exact zd_giv_v f3) (by
    refine List.pairwise_map.mpr (hp.imp_of_mem (fun {p q} hx hy hr => ?_))
    intro u w hu hw
    have := hr _ _ (zd_giv_of (k := k) hu) (zd_giv_of (k := k) hw)
    rw [hv p hx, hv q hy]
    omega)
  have hs : ∀ l2 : List (Nat × Nat), (∀ p ∈ l2, p ∈ l) → zd_sum (zd_giv a b k g) l2 = zd_sum g (l2.map (fun p => (zd_mp a b p.1, zd_mp a b p.2))) + zd_s1 a k l2 - zd_s2 a k l2 := by
    intro l2
    induction l2 with
    | nil => intro _; rfl
    | cons p l2 ih =>
      intro hin
      simp only [List.map_cons, zd_sum, zd_s1, zd_s2]
      rw [ih (fun q hq => hin q (List.mem_cons_of_mem _ hq)), hv p (hin p List.mem_cons_self)]
      omega
  rw [hs l (fun _ h => h)]
  have c1 := zd_s1_in (a := a) (k := k) l (hp.imp_of_mem (fun hx hy hr => zd_St_x (hf _ hx) (hf _ hy) hr))
  have c2 := zd_s2_in (a := a) (k := k) l (hp.imp_of_mem (fun hx hy hr => zd_St_y (hf _ hx) (hf _ hy) hr))
  rcases c1 with c1 | c1 <;> rcases c2 with c2 | c2 <;> omega
theorem zd_sum_filter {g : Nat → Nat → Option Int} (f : Nat × Nat → Bool) (l : List (Nat × Nat)) (h : ∀ p ∈ l, f p = false → zd_v g p = 0) : zd_sum g (l.filter f) = zd_sum g l := by
  induction l with
  | nil => rfl
  | cons p l ih =>
    have ih := ih (fun q hq => h q (List.mem_cons_of_mem _ hq))
    cases e : f p with
    | true =>
      rw [List.filter_cons_of_pos e]
      simp only [zd_sum, ih]
    | false =>
      rw [List.filter_cons_of_neg (by simp [e])]
      have := h p List.mem_cons_self e
      simp only [zd_sum, ih]
      omega
theorem zd_Bd_fgt {n a : Nat} {T : Int} {g : Nat → Nat → Option Int} (h : zd_Bd n T g) : zd_Bd n T (zd_fgt a g) := by
  intro l hf hp
  have hz : ∀ p ∈ l, (decide (p.1 ≠ a ∧ p.2 ≠ a)) = false → zd_v (zd_fgt a g) p = 0 := by
    intro p hp he
    obtain ⟨f1, f2, f3⟩ := hf p hp
    have he : ¬ (p.1 ≠ a ∧ p.2 ≠ a) := by simpa using he
    by_cases e : p.1 = p.2
    · apply zd_v_some
      unfold zd_fgt
      rw [if_pos (by omega), if_pos e]
    · unfold zd_fgt at f3
      rw [if_pos (by omega), if_neg e] at f3
      cases f3
  have heq : ∀ x y, x ≠ a → y ≠ a → zd_fgt a g x y = g x y := fun x y hx hy => by unfold zd_fgt; rw [if_neg (by omega)]
  have hq : ∀ p ∈ l.filter (fun p => decide (p.1 ≠ a ∧ p.2 ≠ a)), p ∈ l ∧ p.1 ≠ a ∧ p.2 ≠ a := by
    intro p hp
    have := List.mem_filter.mp hp
    exact ⟨this.1, by simpa using this.2⟩
  have hvv : ∀ p ∈ l.filter (fun p => decide (p.1 ≠ a ∧ p.2 ≠ a)), zd_v (zd_fgt a g) p = zd_v g p := by
    intro p hp
    unfold zd_v
    rw [heq _ _ (hq p hp).2.1 (hq p hp).2.2]
  have hb2 := h (l.filter (fun p => decide (p.1 ≠ a ∧ p.2 ≠ a))) (by
    intro p hp
    obtain ⟨i1, i2, i3⟩ := hq p hp
    obtain ⟨f1, f2, f3⟩ := hf p i1
    exact ⟨f1, f2, by rw [← hvv p hp, ← heq _ _ i2 i3]; exact f3⟩) (by
    refine (hp.filter _).imp_of_mem (fun {p q} hx hy hr => ?_)
    intro u w hu hw
    have := hr u w (by rw [heq _ _ (hq p hx).2.1 (hq q hy).2.2]; exact hu) (by rw [heq _ _ (hq q hy).2.1 (hq p hx).2.2]; exact hw)
    rw [hvv p hx, hvv q hy] at this
    exact this)
  rw [← zd_sum_filter (fun p => decide (p.1 ≠ a ∧ p.2 ≠ a)) l hz, zd_sum_congr _ hvv]
  exact hb2
theorem zd_Bd_0 {n : Nat} {g : Nat → Nat → Option Int} (h : ∀ x y d, x < n → y < n → g x y = some d → d = 0) : zd_Bd n 0 g := by
  intro l hf _
  have : ∀ l2 : List (Nat × Nat), (∀ p ∈ l2, p ∈ l) → zd_sum g l2 = 0 := by
    intro l2
    induction l2 with
    | nil => intro _; rfl
    | cons p l2 ih =>
      intro hin
      obtain ⟨f1, f2, f3⟩ := hf p (hin p List.mem_cons_self)
      simp only [zd_sum]
      rw [ih (fun q hq => hin q (List.mem_cons_of_mem _ hq)), h _ _ _ f1 f2 f3]
      rfl
  rw [this l (fun _ h => h)]
  omega
theorem zd_Bd.mono {n : Nat} {T U : Int} {g : Nat → Nat → Option Int} (h : zd_Bd n T g) (hT : T ≤ U) : zd_Bd n U g := fun l hf hp => by
  have := h l hf hp
  omega
end
section
/-! What is known, as the class keeps it: whether there are numbers, and a closed matrix of 12 names. -/
def kl_le (o : Option Int) (k : Int) : Bool := match o with
  | none => false
  | some d => decide (d ≤ k)
theorem kl_le_iff {g : Nat → Nat → Option Int} {x y : Nat} {k : Int} : kl_le (g x y) k = true ↔ zd_L g x y k := by
  unfold kl_le zd_L
  cases h : g x y with
  | none => simp
  | some d => simp
abbrev kl_K : Type := Bool × (Nat → Nat → Option Int)
def kl_0 : kl_K := (true, fun x y => if x = y then some 0 else none)
def kl_learn (a b : Nat) (k : Int) (K : kl_K) : kl_K :=
  if K.1 = false ∨ kl_le (K.2 a b) k = true then K
  else if kl_le (K.2 b a) (-k - 1) = true then (false, K.2)
  else (K.1, zd_lrn a b k K.2)
def kl_give (a b : Nat) (k : Int) (K : kl_K) : kl_K := (K.1, zd_giv a b k K.2)
def kl_forget (a : Nat) (K : kl_K) : kl_K := (K.1, zd_fgt a K.2)
def kl_ok (T : Int) (K : kl_K) : Prop := zd_Cls 12 K.2 ∧ zd_Bd 12 T K.2
def kl_sem (K : kl_K) (v : Nat → Int) : Prop := K.1 = true ∧ zd_Sat 12 K.2 v
theorem kl_ok.mono {T U : Int} {K : kl_K} (h : kl_ok T K) (hT : T ≤ U) : kl_ok U K := ⟨h.1, h.2.mono hT⟩
theorem kl_0_ok : kl_ok 0 kl_0 := by
  refine ⟨⟨fun x _ => by simp [kl_0], ?_⟩, zd_Bd_0 ?_⟩
  · rintro x y z c e _ _ _ ⟨d1, h1, l1⟩ ⟨d2, h2, l2⟩
    simp only [kl_0] at h1 h2
    split at h1
    · split at h2
      · cases h1; cases h2
        subst_vars
        exact ⟨0, by simp [kl_0], by omega⟩
      · cases h2
    · cases h1
  · intro x y d _ _ h
    simp only [kl_0] at h
    split at h
    · cases h; rfl
    · cases h
theorem kl_0_sem (v : Nat → Int) : kl_sem kl_0 v := by
  refine ⟨rfl, ?_⟩
  rintro x y c _ _ ⟨d, h, l⟩
  simp only [kl_0] at h
  split at h
  · cases h; subst_vars; omega
  · cases h
theorem kl_cons {a b : Nat} {k : Int} {g : Nat → Nat → Option Int} (h : ¬ kl_le (g b a) (-k - 1) = true) : ∀ d, zd_L g b a d → 0 ≤ d + k := by
  intro d hd
  rw [kl_le_iff] at h
  by_cases e : 0 ≤ d + k
  · exact e
  · exact absurd (hd.mono (by omega)) h
theorem kl_learn_ok {T : Int} {K : kl_K} {a b : Nat} {k : Int} (ha : a < 12) (hb : b < 12) (hk : -1001 ≤ k ∧ k ≤ 1001) (h : kl_ok T K) : kl_ok (T + 1001) (kl_learn a b k K) := by
  unfold kl_learn
  split
  · exact h.mono (by omega)
  · split
    · exact ⟨h.1, h.2.mono (by omega)⟩
    · rename_i h1 h2
      exact ⟨zd_lrn_cls h.1 ha hb (kl_cons h2), zd_Bd_lrn (fun d hd => kl_cons h2 d (zd_L.eq hd)) ha hb h.2 (by omega)⟩
theorem kl_learn_sem {T : Int} {K : kl_K} {a b : Nat} {k : Int} (ha : a < 12) (hb : b < 12) (h : kl_ok T K) (v : Nat → Int) : kl_sem (kl_learn a b k K) v ↔ kl_sem K v ∧ v a - v b ≤ k := by
  unfold kl_learn
  split
  · rename_i h1
    constructor
    · intro hs
      refine ⟨hs, ?_⟩
      rcases h1 with h1 | h1
      · rw [hs.1] at h1; cases h1
      · exact hs.2 a b k ha hb (kl_le_iff.mp h1)
    · exact fun hs => hs.1
  · split
    · rename_i h1 h2
      constructor
      · rintro ⟨h3, _⟩
        cases h3
      · rintro ⟨⟨_, hs⟩, hv⟩
        exact (zd_no ha hb (kl_le_iff.mp h2) (by omega) hs hv).elim
    · unfold kl_sem
      rw [zd_lrn_sat h.1 ha hb]
      exact ⟨fun ⟨h1, h2, h3⟩ => ⟨⟨h1, h2⟩, h3⟩, fun ⟨⟨h1, h2⟩, h3⟩ => ⟨h1, h2, h3⟩⟩
theorem kl_give_ok {T : Int} {K : kl_K} {a b : Nat} {k : Int} (hb : b < 12) (hk : -1001 ≤ k ∧ k ≤ 1001) (h : kl_ok T K) : kl_ok (T + 1001) (kl_give a b k K) := ⟨zd_giv_cls h.1 hb, zd_Bd_giv hb h.2 (by omega)⟩
theorem kl_give0_ok {T : Int} {K : kl_K} {a b : Nat} (hb : b < 12) (h : kl_ok T K) : kl_ok T (kl_give a b 0 K) := ⟨zd_giv_cls h.1 hb, (zd_Bd_giv (K := 0) hb h.2 (by omega)).mono (by omega)⟩
theorem kl_forget_ok {T : Int} {K : kl_K} {a : Nat} (h : kl_ok T K) : kl_ok T (kl_forget a K) := ⟨zd_fgt_cls h.1, zd_Bd_fgt h.2⟩
theorem kl_give_sem {T : Int} {K : kl_K} {a b : Nat} {k : Int} (ha : a < 12) (hb : b < 12) (h : kl_ok T K) (v : Nat → Int) : kl_sem (kl_give a b k K) v ↔ ∃ w, kl_sem K w ∧ v a = w b + k ∧ ∀ x, x < 12 → x ≠ a → v x = w x := by
  unfold kl_sem kl_give
  rw [zd_giv_sat h.1 ha hb]
  constructor
  · rintro ⟨h1, w, h2, h3, h4⟩
    exact ⟨w, ⟨h1, h2⟩, h3, h4⟩
  · rintro ⟨w, ⟨h1, h2⟩, h3, h4⟩
    exact ⟨h1, w, h2, h3, h4⟩
theorem kl_forget_sem {T : Int} {K : kl_K} {a : Nat} (ha : a < 12) (h : kl_ok T K) (v : Nat → Int) : kl_sem (kl_forget a K) v ↔ ∃ t, kl_sem K (zd_up v a t) := by
  unfold kl_sem kl_forget
  rw [zd_fgt_sat h.1 ha]
  constructor
  · rintro ⟨h1, t, h2⟩
    exact ⟨t, h1, h2⟩
  · rintro ⟨t, h1, h2⟩
    exact ⟨h1, t, h2⟩
theorem kl_any {T : Int} {K : kl_K} (h : kl_ok T K) : K.1 = true ↔ ∃ v, kl_sem K v := by
  constructor
  · intro h1
    obtain ⟨v, hv⟩ := zd_sat h.1
    exact ⟨v, h1, hv⟩
  · rintro ⟨v, h1, _⟩
    exact h1
/-- a relation is shown where it holds for all numbers -/
theorem kl_shown {T : Int} {K : kl_K} (h : kl_ok T K) (hp : K.1 = true) {x y : Nat} (hx : x < 12) (hy : y < 12) (k : Int) : kl_le (K.2 x y) k = true ↔ ∀ v, kl_sem K v → v x - v y ≤ k := by
  rw [kl_le_iff, zd_shown h.1 hx hy k]
  exact ⟨fun h1 v hv => h1 v hv.2, fun h1 v hv => h1 v ⟨hp, hv⟩⟩
end
section
/-! Memory: the cells at the addresses of a list L hold what f says of each address. Rows of the kit over such a world. -/
theorem mm_D {A : Nat → Prop} {L : List Nat} {f : Nat → va_E} (hn : L.Nodup) (hA : ∀ a ∈ L, A a) : va_D A (va_pl L f) := by
  have hg : ∀ (i : Nat) (p : Nat × va_E), (va_pl L f)[i]? = some p → L[i]? = some p.1 := by
    intro i p h
    unfold va_pl at h
    rw [List.getElem?_map] at h
    cases e : L[i]? with
    | none => rw [e] at h; cases h
    | some a => rw [e] at h; cases h; rfl
  refine ⟨fun i j p q hp hq e => ?_, fun k q hk => hA _ (List.mem_of_getElem? (hg k q hk))⟩
  have h1 := hg i p hp
  have h2 := hg j q hq
  have hi : i < L.length := (List.getElem?_eq_some_iff.mp h1).1
  exact (List.getElem?_inj hi hn).mp (by rw [h1, h2, e])
theorem mm_at {L : List Nat} {f : Nat → va_E} {a : Nat} {x : va_E} (h : a ∈ L) (hf : f a = x) : ∃ k : Nat, (va_pl L f)[k]? = some (a, x) := by
  subst hf
  exact va_pl_get (X := []) h
theorem mm_set {A : Nat → Prop} {L : List Nat} {f : Nat → va_E} {a k : Nat} {x y : va_E} (hD : va_D A (va_pl L f)) (h : a ∈ L) (hf : f a = x) (hk : (va_pl L f)[k]? = some (a, x)) : (va_pl L f).set k (a, y) = va_pl L (va_up f a y) := by
  subst hf
  exact va_pl_set (X := []) hD h hk
/-- an array of ints at an address; an array of references -/
def mm_I (tys : List (ClassId × FieldType)) (f : Nat → va_E) (a n : Nat) (g : Nat → Int32) : Prop := ∃ cA, f a = .inl (cA, n, .inl g) ∧ (cA, FieldType.int) ∈ tys
def mm_Q (tys : List (ClassId × FieldType)) (C : String) (f : Nat → va_E) (a n : Nat) (g : Nat → Option Nat) : Prop := ∃ cA, f a = .inl (cA, n, .inr (.inr (.inr (.inr g)))) ∧ (cA, FieldType.object C) ∈ tys
def mm_si (f : Nat → va_E) (a : Nat) (g : Nat → Int32) : Nat → va_E := va_up f a (match f a with
  | .inl (cA, n, _) => .inl (cA, n, .inl g)
  | x => x)
def mm_sq (f : Nat → va_E) (a : Nat) (g : Nat → Option Nat) : Nat → va_E := va_up f a (match f a with
  | .inl (cA, n, _) => .inl (cA, n, .inr (.inr (.inr (.inr g))))
  | x => x)
theorem mm_si_eq {f : Nat → va_E} {a n : Nat} {cA : ClassId} {g g' : Nat → Int32} (h : f a = .inl (cA, n, .inl g)) : mm_si f a g' = va_up f a (.inl (cA, n, .inl g')) := by
  unfold mm_si
  rw [h]
theorem mm_sq_eq {f : Nat → va_E} {a n : Nat} {cA : ClassId} {g g' : Nat → Option Nat} (h : f a = .inl (cA, n, .inr (.inr (.inr (.inr g))))) : mm_sq f a g' = va_up f a (.inl (cA, n, .inr (.inr (.inr (.inr g'))))) := by
  unfold mm_sq
  rw [h]
theorem mm_I.set {tys : List (ClassId × FieldType)} {f : Nat → va_E} {a n : Nat} {g g' : Nat → Int32} (h : mm_I tys f a n g) : mm_I tys (mm_si f a g') a n g' := by
  obtain ⟨cA, h1, h2⟩ := h
  exact ⟨cA, by rw [mm_si_eq h1, va_up_self], h2⟩
theorem mm_Q.set {tys : List (ClassId × FieldType)} {C : String} {f : Nat → va_E} {a n : Nat} {g g' : Nat → Option Nat} (h : mm_Q tys C f a n g) : mm_Q tys C (mm_sq f a g') a n g' := by
  obtain ⟨cA, h1, h2⟩ := h
  exact ⟨cA, by rw [mm_sq_eq h1, va_up_self], h2⟩
theorem mm_si_ne {f : Nat → va_E} {a b : Nat} {g : Nat → Int32} (h : b ≠ a) : mm_si f a g b = f b := va_up_ne _ _ h
theorem mm_sq_ne {f : Nat → va_E} {a b : Nat} {g : Nat → Option Nat} (h : b ≠ a) : mm_sq f a g b = f b := va_up_ne _ _ h
theorem mm_I.eq {tys : List (ClassId × FieldType)} {f f' : Nat → va_E} {a n : Nat} {g : Nat → Int32} (h : mm_I tys f a n g) (e : f' a = f a) : mm_I tys f' a n g := by
  obtain ⟨cA, h1, h2⟩ := h
  exact ⟨cA, by rw [e]; exact h1, h2⟩
theorem mm_Q.eq {tys : List (ClassId × FieldType)} {C : String} {f f' : Nat → va_E} {a n : Nat} {g : Nat → Option Nat} (h : mm_Q tys C f a n g) (e : f' a = f a) : mm_Q tys C f' a n g := by
  obtain ⟨cA, h1, h2⟩ := h
  exact ⟨cA, by rw [e]; exact h1, h2⟩
theorem mm_IO {tys : List (ClassId × FieldType)} {f : Nat → va_E} {a b n ci : Nat} {fs : List Value} {g : Nat → Int32} (h : mm_I tys f a n g) (h2 : f b = .inr (ci, fs)) : b ≠ a := by
  rintro rfl
  obtain ⟨cA, h1, -⟩ := h
  rw [h1] at h2
  cases h2
theorem mm_QO {tys : List (ClassId × FieldType)} {C : String} {f : Nat → va_E} {a b n ci : Nat} {fs : List Value} {g : Nat → Option Nat} (h : mm_Q tys C f a n g) (h2 : f b = .inr (ci, fs)) : b ≠ a := by
  rintro rfl
  obtain ⟨cA, h1, -⟩ := h
  rw [h1] at h2
  cases h2
section MM
variable {p : Program} {l : Launch} {e : Env} {R : Room} {s : State} {m : MethodId} {args : Array Value} {below : List Frame} {meth : Method} {c : Code} {H : Heap} {locs : List Loc} {cells slots : Nat} {Q : State → Prop}
variable {cc : ByteArray} {pc : Nat} {ls : Array Slot} {rest : List Value} {D : va_G} {cl : List vw_C} {A : Nat → Prop} {a : Nat} {tys : List (ClassId × FieldType)} {H0 : Heap} {L : List Nat} {f : Nat → va_E}
theorem mm_get (hexec : p.tables.exec = Jvm.exec) (hb : c.code = cc) {own ref C : String} {T : u_T} {N ci index : Nat} {Ts : List Cond} (hts : ∀ w ∈ Ts, w.before args s = true) (hin : ∀ w ∈ u_ws C T N, w ∈ Ts) (hown : s.vm.findClass own = some m.cls) (hK : va_K D cl tys s) (hP : va_P D cl (va_pl L f) H) {fs : List Value} (ha : a ∈ L) (hf : f a = .inr (ci, fs)) (hc : cl[ci]? = some (C, T, N)) (k : Nat) (hk : k < N) (hlink : (Cond.fieldLink own index ref (T k).2.1 (T k).2.2.1).before args s = true) (hsame : ∀ x, s.fieldFound? (T k).1 (T k).2.1 (T k).2.2.1 = some x → s.fieldFound? ref (T k).2.1 (T k).2.2.1 = some x) {v : Value} (hv : fs[k]? = some v) (hdg : decode cc pc = .ok (.getfield index, 3))
    (kk : W p l e R s m args below meth c H locs cells slots Q (F0 m (pc + 3) ls (v :: rest))) : W p l e R s m args below meth c H locs cells slots Q (F0 m pc ls (.ref a :: rest)) := by
  obtain ⟨q0, hq⟩ := mm_at ha hf
  exact va_get hexec hb hts hin hown hK hP q0 hq hc k hk hlink hsame hv hdg kk
theorem mm_getN (hexec : p.tables.exec = Jvm.exec) (hb : c.code = cc) {own ref C host : String} {T : u_T} {N ci index : Nat} {Ts : List Cond} (hts : ∀ w ∈ Ts, w.before args s = true) (hin : ∀ w ∈ u_ws C T N, w ∈ Ts) (hown : s.vm.findClass own = some m.cls) (hK : va_K D cl tys s) (hP : va_P D cl (va_pl L f) H) {fs : List Value} (ha : a ∈ L) (hf : f a = .inr (ci, fs)) (hc : cl[ci]? = some (C, T, N)) (k : Nat) (hk : k < N) (hlink : (Cond.fieldLinkNest own index ref (T k).2.1 (T k).2.2.1 host).before args s = true) (hsame : ∀ x, s.fieldFound? (T k).1 (T k).2.1 (T k).2.2.1 = some x → s.fieldFound? ref (T k).2.1 (T k).2.2.1 = some x) {v : Value} (hv : fs[k]? = some v) (hdg : decode cc pc = .ok (.getfield index, 3))
    (kk : W p l e R s m args below meth c H locs cells slots Q (F0 m (pc + 3) ls (v :: rest))) : W p l e R s m args below meth c H locs cells slots Q (F0 m pc ls (.ref a :: rest)) := by
  obtain ⟨q0, hq⟩ := mm_at ha hf
  exact va_getN hexec hb hts hin hown hK hP q0 hq hc k hk hlink hsame hv hdg kk
theorem mm_put (hexec : p.tables.exec = Jvm.exec) (hb : c.code = cc) {own ref C : String} {T : u_T} {N ci index : Nat} {Ts : List Cond} (hts : ∀ w ∈ Ts, w.before args s = true) (hin : ∀ w ∈ u_ws C T N, w ∈ Ts) (ty0 : Nat → FieldType) (hty : ∀ k, k < N → parseFieldDescriptor (T k).2.2.1 = some (ty0 k)) (hnm : ∀ a, a < N → ∀ b, b < N → a ≠ b → (T a).2.1 ≠ (T b).2.1) (hown : s.vm.findClass own = some m.cls) (hK : va_K D cl tys s) (hn : L.Nodup) (hA : ∀ a ∈ L, A a) (hP : va_P D cl (va_pl L f) H) (hS0 : va_S A H0 H locs) {fs : List Value} (ha : a ∈ L) (hf : f a = .inr (ci, fs)) (hc : cl[ci]? = some (C, T, N)) (k : Nat) (hk : k < N) (hlink : (Cond.fieldLink own index ref (T k).2.1 (T k).2.2.1).before args s = true) (hsame : ∀ x, s.fieldFound? (T k).1 (T k).2.1 (T k).2.2.1 = some x → s.fieldFound? ref (T k).2.1 (T k).2.2.1 = some x) (hfin : (T k).2.2.2 = false) {ty : FieldType} {v : Value} (hd : parseFieldDescriptor (T k).2.2.1 = some ty) (hnr : narrow ty v = v) (hfit : fits ty v = true) (hl : k < fs.length) (hdg : decode cc pc = .ok (.putfield index, 3))
    (kk : ∀ (H1 : Heap) (locs1 : List Loc), va_P D cl (va_pl L (va_up f a (.inr (ci, fs.set k v)))) H1 → va_S A H0 H1 locs1 → W p l e R s m args below meth c H1 locs1 cells slots Q (F0 m (pc + 3) ls rest)) : W p l e R s m args below meth c H locs cells slots Q (F0 m pc ls (v :: .ref a :: rest)) := by
  obtain ⟨q0, hq⟩ := mm_at ha hf
  have hD : va_D A (va_pl L f) := mm_D hn hA
  refine va_put hexec hb hts hin ty0 hty hnm hown hK hP hD hS0 q0 hq hc k hk hlink hsame hfin hd hnr hfit hl hdg (fun H1 locs1 h1 _ h3 => kk H1 locs1 ?_ h3)
  rw [← mm_set hD ha hf hq]
  exact h1
theorem mm_putN (hexec : p.tables.exec = Jvm.exec) (hb : c.code = cc) {own ref C host : String} {T : u_T} {N ci index : Nat} {Ts : List Cond} (hts : ∀ w ∈ Ts, w.before args s = true) (hin : ∀ w ∈ u_ws C T N, w ∈ Ts) (ty0 : Nat → FieldType) (hty : ∀ k, k < N → parseFieldDescriptor (T k).2.2.1 = some (ty0 k)) (hnm : ∀ a, a < N → ∀ b, b < N → a ≠ b → (T a).2.1 ≠ (T b).2.1) (hown : s.vm.findClass own = some m.cls) (hK : va_K D cl tys s) (hn : L.Nodup) (hA : ∀ a ∈ L, A a) (hP : va_P D cl (va_pl L f) H) (hS0 : va_S A H0 H locs) {fs : List Value} (ha : a ∈ L) (hf : f a = .inr (ci, fs)) (hc : cl[ci]? = some (C, T, N)) (k : Nat) (hk : k < N) (hlink : (Cond.fieldLinkNest own index ref (T k).2.1 (T k).2.2.1 host).before args s = true) (hsame : ∀ x, s.fieldFound? (T k).1 (T k).2.1 (T k).2.2.1 = some x → s.fieldFound? ref (T k).2.1 (T k).2.2.1 = some x) (hfin : (T k).2.2.2 = false) {ty : FieldType} {v : Value} (hd : parseFieldDescriptor (T k).2.2.1 = some ty) (hnr : narrow ty v = v) (hfit : fits ty v = true) (hl : k < fs.length) (hdg : decode cc pc = .ok (.putfield index, 3))
    (kk : ∀ (H1 : Heap) (locs1 : List Loc), va_P D cl (va_pl L (va_up f a (.inr (ci, fs.set k v)))) H1 → va_S A H0 H1 locs1 → W p l e R s m args below meth c H1 locs1 cells slots Q (F0 m (pc + 3) ls rest)) : W p l e R s m args below meth c H locs cells slots Q (F0 m pc ls (v :: .ref a :: rest)) := by
  obtain ⟨q0, hq⟩ := mm_at ha hf
  have hD : va_D A (va_pl L f) := mm_D hn hA
  refine va_putN hexec hb hts hin ty0 hty hnm hown hK hP hD hS0 q0 hq hc k hk hlink hsame hfin hd hnr hfit hl hdg (fun H1 locs1 h1 _ h3 => kk H1 locs1 ?_ h3)
  rw [← mm_set hD ha hf hq]
  exact h1
theorem mm_iald (hexec : p.tables.exec = Jvm.exec) (hb : c.code = cc) (hK : va_K D cl tys s) (hP : va_P D cl (va_pl L f) H) {n : Nat} {g : Nat → Int32} (ha : a ∈ L) (hf : mm_I tys f a n g) {i : Int32} (hin : vp_in i n) (hdg : decode cc pc = .ok (.iaload, 1))
    (kk : W p l e R s m args below meth c H locs cells slots Q (F0 m (pc + 1) ls (.int (g i.toNatClampNeg) :: rest))) : W p l e R s m args below meth c H locs cells slots Q (F0 m pc ls (.int i :: .ref a :: rest)) := by
  obtain ⟨cA, h1, h2⟩ := hf
  obtain ⟨q0, hq⟩ := mm_at ha h1
  obtain ⟨t0, ht⟩ := List.getElem?_of_mem h2
  exact va_iald hexec hb hK hP q0 t0 hq ht hin hdg kk
theorem mm_iast (hexec : p.tables.exec = Jvm.exec) (hb : c.code = cc) (hK : va_K D cl tys s) (hn : L.Nodup) (hA : ∀ a ∈ L, A a) (hP : va_P D cl (va_pl L f) H) (hS : va_S A H0 H locs) {n : Nat} {g : Nat → Int32} (ha : a ∈ L) (hf : mm_I tys f a n g) {i x : Int32} (hin : vp_in i n) (hdg : decode cc pc = .ok (.iastore, 1))
    (kk : ∀ (H1 : Heap) (locs1 : List Loc), va_P D cl (va_pl L (mm_si f a (upd g i.toNatClampNeg x))) H1 → va_S A H0 H1 locs1 → W p l e R s m args below meth c H1 locs1 cells slots Q (F0 m (pc + 1) ls rest)) : W p l e R s m args below meth c H locs cells slots Q (F0 m pc ls (.int x :: .int i :: .ref a :: rest)) := by
  obtain ⟨cA, h1, h2⟩ := hf
  obtain ⟨q0, hq⟩ := mm_at ha h1
  obtain ⟨t0, ht⟩ := List.getElem?_of_mem h2
  have hD : va_D A (va_pl L f) := mm_D hn hA
  refine va_iast hexec hb hK hP hD hS q0 t0 hq ht hin hdg (fun H1 locs1 p1 _ p3 => kk H1 locs1 ?_ p3)
  rw [mm_si_eq h1, ← mm_set hD ha h1 hq]
  exact p1
theorem mm_aldq (hexec : p.tables.exec = Jvm.exec) (hb : c.code = cc) (hK : va_K D cl tys s) (hP : va_P D cl (va_pl L f) H) {C : String} {n : Nat} {g : Nat → Option Nat} (ha : a ∈ L) (hf : mm_Q tys C f a n g) {i : Int32} (hin : vp_in i n) {q : Nat} (hq : g i.toNatClampNeg = some q) (hdg : decode cc pc = .ok (.aaload, 1))
    (kk : W p l e R s m args below meth c H locs cells slots Q (F0 m (pc + 1) ls (.ref q :: rest))) : W p l e R s m args below meth c H locs cells slots Q (F0 m pc ls (.int i :: .ref a :: rest)) := by
  obtain ⟨cA, h1, h2⟩ := hf
  obtain ⟨q0, hq0⟩ := mm_at ha h1
  obtain ⟨t0, ht⟩ := List.getElem?_of_mem h2
  refine va_aldq hexec hb hK hP q0 t0 hq0 ht hin hdg ?_
  rw [hq]
  exact kk
theorem mm_alen (hexec : p.tables.exec = Jvm.exec) (hb : c.code = cc) (hK : va_K D cl tys s) (hP : va_P D cl (va_pl L f) H) {n : Nat} {g : Nat → Int32} (ha : a ∈ L) (hf : mm_I tys f a n g) (hdg : decode cc pc = .ok (.arraylength, 1))
    (kk : W p l e R s m args below meth c H locs cells slots Q (F0 m (pc + 1) ls (.int (nI n) :: rest))) : W p l e R s m args below meth c H locs cells slots Q (F0 m pc ls (.ref a :: rest)) := by
  obtain ⟨cA, h1, h2⟩ := hf
  obtain ⟨q0, hq0⟩ := mm_at ha h1
  obtain ⟨t0, ht⟩ := List.getElem?_of_mem h2
  exact va_alen hexec hb hK hP q0 t0 hq0 ht rfl hdg kk
end MM
end
section
/-! Contracts over one memory: a method is given all cells of L and hands back the same addresses with other contents. -/
def cPre (D : va_G) (tys : List (ClassId × FieldType)) (L : List Nat) (f : Nat → va_E) (av : List Value) : Array Value → State → Prop := va_Pc av (fun U => va_P D zCl (va_pl L f) U.heap ∧ va_K D zCl tys U ∧ Nx U)
theorem cPre_blind {D : va_G} {tys : List (ClassId × FieldType)} {L : List Nat} {f : Nat → va_E} {av : List Value} : FrameBlind (cPre D tys L f av) := fun a U g mk q => by
  obtain ⟨q0, qP, qK, qN⟩ := q
  exact ⟨q0, qP, va_K.moved (u := U) (U := U.calling g mk a) (Vm.Alike.refl U.vm) qK, Nx.same (u := U) (U := U.calling g mk a) rfl qN⟩
abbrev cB (D : va_G) (L : List Nat) : (Nat → va_E) → State → Prop := fun f' t => va_P D zCl (va_pl L f') t.heap
abbrev inL (L : List Nat) : Nat → Prop := fun a => a ∈ L
abbrev MetI (l : Launch) (y : MethodName) (ws : List Cond) (rm : Room) (D : va_G) (tys : List (ClassId × FieldType)) (L : List Nat) (f : Nat → va_E) (av : List Value) (post : Int32 → (Nat → va_E) → Prop) : Prop := Met l y ws rm (cPre D tys L f av) (va_Qi post (cB D L) (inL L)) 0 0 (inL L)
abbrev MetV (l : Launch) (y : MethodName) (ws : List Cond) (rm : Room) (D : va_G) (tys : List (ClassId × FieldType)) (L : List Nat) (f : Nat → va_E) (av : List Value) (post : (Nat → va_E) → Prop) : Prop := Met l y ws rm (cPre D tys L f av) (va_Qv post (cB D L) (inL L)) 0 0 (inL L)
abbrev Cx (p : Program) (s : State) (m : MethodId) (args : Array Value) (meth : Method) (c : Code) (cc : ByteArray) (nL : Nat) (own : String) (ret : Option FieldType) (D : va_G) (tys : List (ClassId × FieldType)) : Prop :=
  p.tables.exec = Jvm.exec ∧ c.code = cc ∧ c.maxLocals = nL ∧ s.vm.findClass own = some m.cls ∧ (∀ w ∈ GW, w.before args s = true) ∧ meth.sig.returnType = ret ∧ meth.locks = false ∧ va_K D zCl tys s ∧ Nx s
theorem gw_in0 {d : Cond} (h : d ∈ GW) : GoodIn GW (d :: GW) := fun w hw => by
  rcases List.mem_cons.mp hw with rfl | hw
  · exact ⟨h, good_of_word (gw_good h)⟩
  · exact ⟨hw, good_of_word (gw_good hw)⟩
theorem met_of {l : Launch} {y : MethodName} {cc : ByteArray} {maxL : Nat} {ret : Option FieldType} {rm : Room} {D : va_G} {tys : List (ClassId × FieldType)} {L : List Nat} {f : Nat → va_E} {av : List Value} {Qc : Array Value → State → Outcome → State → Prop} (own : String) (hy : plainName y.cls = true) (hcls : y.cls = own) (hlen : (lg_sl av).length ≤ maxL)
    (body : ∀ (p : Program) (e : Env) (s : State) (m : MethodId) (below : List Frame) (meth : Method) (c : Code) (ls : Array Slot), Cx p s m av.toArray meth c cc maxL own ret D tys → va_P D zCl (va_pl L f) s.heap → lv_has ls maxL (lv_args 0 av) → W p l e rm s m av.toArray below meth c s.heap [] 0 0 (MQ below Qc av.toArray s 0 0 (inL L)) (F0 m 0 ls [])) :
    Met l y (Cond.code y cc maxL ret :: GW) rm (cPre D tys L f av) Qc 0 0 (inL L) := by
  refine Met.ofW (cc := cc) (maxL := maxL) (ret := ret) hy rfl ?_
  intro p e s m args below meth c s₁ B hml hv
  obtain ⟨rfl, hP, hK, hN⟩ := hv
  have hts := atoms_spec (ws := Cond.code y cc maxL ret :: GW) B.pre
  rw [lg_entry_eq]
  exact body p e s m below meth c _ ⟨B.exec, B.bytes, hml, by rw [← hcls]; exact findClass_of_methodNamed B.named, fun w h => hts w (List.mem_cons_of_mem _ h), B.returns, B.notSynchronized, hK, hN⟩ hP (lv_entry av hlen)
section MC
variable {p : Program} {l : Launch} {e : Env} {R : Room} {s : State} {m : MethodId} {args : Array Value} {below : List Frame} {meth : Method} {c : Code} {H : Heap} {locs : List Loc} {cells slots : Nat} {Q : State → Prop}
variable {cc : ByteArray} {nL : Nat} {own : String} {pc : Nat} {ls : Array Slot} {rest : List Value} {D : va_G} {tys : List (ClassId × FieldType)} {H0 : Heap} {L : List Nat} {f : Nat → va_E}
theorem ret_i (C0 : Cx p s m args meth c cc nL own (some .int) D tys) {v : Int32} {post : Int32 → (Nat → va_E) → Prop} (hP : va_P D zCl (va_pl L f) H) (hS : va_S (inL L) s.heap H locs) (hp : post v f) (hdg : decode cc pc = .ok (.ireturn, 1)) : W p l e R s m args below meth c H locs 0 0 (MQ below (va_Qi post (cB D L) (inL L)) args s 0 0 (inL L)) (F0 m pc ls [.int v]) := by
  obtain ⟨hx, hb, -, -, -, hr, hlocks, -, -⟩ := C0
  exact W.iret hx hb hr (fun t ht hW => ⟨⟨v, f, rfl, hp, by show va_P D zCl (va_pl L f) t.heap; rw [ht]; exact hP⟩, hS.F ht⟩) hS.2.2 hdg
theorem ret_z (C0 : Cx p s m args meth c cc nL own (some .boolean) D tys) {v : Int32} {post : Int32 → (Nat → va_E) → Prop} (hn : narrow .boolean (.int v) = .int v) (hP : va_P D zCl (va_pl L f) H) (hS : va_S (inL L) s.heap H locs) (hp : post v f) (hdg : decode cc pc = .ok (.ireturn, 1)) : W p l e R s m args below meth c H locs 0 0 (MQ below (va_Qi post (cB D L) (inL L)) args s 0 0 (inL L)) (F0 m pc ls [.int v]) := by
  obtain ⟨hx, hb, -, -, -, hr, hlocks, -, -⟩ := C0
  exact W.zret hx hb hr hn (fun t ht hW => ⟨⟨v, f, rfl, hp, by show va_P D zCl (va_pl L f) t.heap; rw [ht]; exact hP⟩, hS.F ht⟩) hS.2.2 hdg
theorem ret_v (C0 : Cx p s m args meth c cc nL own none D tys) {post : (Nat → va_E) → Prop} (hP : va_P D zCl (va_pl L f) H) (hS : va_S (inL L) s.heap H locs) (hp : post f) (hdg : decode cc pc = .ok (.return_, 1)) : W p l e R s m args below meth c H locs 0 0 (MQ below (va_Qv post (cB D L) (inL L)) args s 0 0 (inL L)) (F0 m pc ls []) := by
  obtain ⟨hx, hb, -, -, -, hr, hlocks, -, -⟩ := C0
  exact W.vret hx hb hr (fun t ht hW => ⟨⟨f, rfl, hp, by show va_P D zCl (va_pl L f) t.heap; rw [ht]; exact hP⟩, hS.F ht⟩) hS.2.2 hdg
variable {ret0 : Option FieldType} {y : MethodName} {bytes : ByteArray} {maxL n index ci : Nat} {ret : Option FieldType} {rm : Room} {Qc : Array Value → State → Outcome → State → Prop} {free : Addr → Prop} {b : Addr} {As : List Value} {fs : List Value} {q : vw_C} {host : String} {st : List Value} {mc ms : Nat}
theorem run_V (C0 : Cx p s m args meth c cc nL own ret0 D tys) (hM : Met l y (Cond.code y bytes maxL ret :: GW) rm (cPre D tys L f (.ref b :: As)) Qc mc ms free) (hcode : Cond.code y bytes maxL ret ∈ GW) (hl : Cond.methodLink own index y ∈ GW) (hi : Cond.instanceMethod y ∈ GW) (hse : Cond.selects y.cls y y ∈ GW) (hini : Cond.initialized y.cls ∈ GW)
    (hd : y.cls ≠ "java/lang/invoke/MethodHandle" ∧ y.cls ≠ "java/lang/invoke/VarHandle" ∧ (parseMethodDescriptor y.desc).map (fun d => d.parameters.length) = some n) (hR : rm.frames + 1 ≤ R.frames ∧ 8 + (maxL + 11) + rm.locals ≤ R.locals) (hrc : rm.cells = mc) (hrs : rm.slots = ms) (hcs : cells + mc ≤ R.cells ∧ slots + ms ≤ R.slots)
    (hP : va_P D zCl (va_pl L f) H) (hb : b ∈ L) (hf : f b = .inr (ci, fs)) (hc : zCl[ci]? = some q) (hq : q.1 = y.cls) (hn : As.length = n) (hsize : ls.size = nL) (hst : st = As.reverse ++ .ref b :: rest) (hW : (rest.map fun v => v.category).sum ≤ 8) (hdg : decode cc pc = .ok (.invokevirtual index, 3)) :
    va_Run p l e R s m args below meth c H locs cells slots mc ms (F0 m pc ls st) rest (Qc (Value.ref b :: As).toArray) free := by
  obtain ⟨hx, hb', hml, hown, hg, -, -, hK, hN⟩ := C0
  obtain ⟨k, hk⟩ := mm_at hb hf
  exact va_runV (C := y.cls) (Ts := GW) (n := n) ⟨hx, hb', hml, hown, hg⟩ hM ⟨callB_of n hg (gw_in0 hcode) rfl hrc hrs (hg _ hini) (hg _ hl) hd hR, hg _ hi, hg _ hse⟩ ⟨cPre_blind, by rw [← hq]; exact va_recv hK hP hc hk, fun U hU hW => ⟨rfl, by rw [hU]; exact hP, va_K.moved hW.alike hK, hN.warm hW⟩⟩ rfl hn hsize hst (lv_room hW) hdg hcs
theorem run_VN (C0 : Cx p s m args meth c cc nL own ret0 D tys) (hM : Met l y (Cond.code y bytes maxL ret :: GW) rm (cPre D tys L f (.ref b :: As)) Qc mc ms free) (hcode : Cond.code y bytes maxL ret ∈ GW) (hl : Cond.methodLinkNest own index y host ∈ NXW) (hi : Cond.instanceMethod y ∈ GW) (hse : Cond.selects y.cls y y ∈ GW) (hini : Cond.initialized y.cls ∈ GW)
    (hd : y.cls ≠ "java/lang/invoke/MethodHandle" ∧ y.cls ≠ "java/lang/invoke/VarHandle" ∧ (parseMethodDescriptor y.desc).map (fun d => d.parameters.length) = some n) (hR : rm.frames + 1 ≤ R.frames ∧ 8 + (maxL + 11) + rm.locals ≤ R.locals) (hrc : rm.cells = mc) (hrs : rm.slots = ms) (hcs : cells + mc ≤ R.cells ∧ slots + ms ≤ R.slots)
    (hP : va_P D zCl (va_pl L f) H) (hb : b ∈ L) (hf : f b = .inr (ci, fs)) (hc : zCl[ci]? = some q) (hq : q.1 = y.cls) (hn : As.length = n) (hsize : ls.size = nL) (hst : st = As.reverse ++ .ref b :: rest) (hW : (rest.map fun v => v.category).sum ≤ 8) (hdg : decode cc pc = .ok (.invokevirtual index, 3)) :
    va_Run p l e R s m args below meth c H locs cells slots mc ms (F0 m pc ls st) rest (Qc (Value.ref b :: As).toArray) free := by
  obtain ⟨hx, hb', hml, hown, hg, -, -, hK, hN⟩ := C0
  obtain ⟨k, hk⟩ := mm_at hb hf
  exact va_runVN (C := y.cls) (Ts := GW) (n := n) ⟨hx, hb', hml, hown, hg⟩ hM ⟨va_cnB n hg (gw_in0 hcode) rfl hrc hrs (hN _ hl) (hg _ hini) hd hR, hg _ hi, hg _ hse⟩ ⟨cPre_blind, by rw [← hq]; exact va_recv hK hP hc hk, fun U hU hW => ⟨rfl, by rw [hU]; exact hP, va_K.moved hW.alike hK, hN.warm hW⟩⟩ rfl hn hsize hst (lv_room hW) hdg hcs
theorem run_S (C0 : Cx p s m args meth c cc nL own ret0 D tys) (hM : Met l y (Cond.code y bytes maxL ret :: GW) rm (cPre D tys L f As) Qc mc ms free) (hcode : Cond.code y bytes maxL ret ∈ GW) (hl : Cond.methodLink own index y ∈ GW) (hi : Cond.static y ∈ GW) (hini : Cond.initialized y.cls ∈ GW)
    (hd : y.cls ≠ "java/lang/invoke/MethodHandle" ∧ y.cls ≠ "java/lang/invoke/VarHandle" ∧ (parseMethodDescriptor y.desc).map (fun d => d.parameters.length) = some n) (hR : rm.frames + 1 ≤ R.frames ∧ 8 + (maxL + 11) + rm.locals ≤ R.locals) (hrc : rm.cells = mc) (hrs : rm.slots = ms) (hcs : cells + mc ≤ R.cells ∧ slots + ms ≤ R.slots)
    (hP : va_P D zCl (va_pl L f) H) (hn : As.length = n) (hsize : ls.size = nL) (hst : st = As.reverse ++ rest) (hW : (rest.map fun v => v.category).sum ≤ 8) (hdg : decode cc pc = .ok (.invokestatic index, 3)) :
    va_Run p l e R s m args below meth c H locs cells slots mc ms (F0 m pc ls st) rest (Qc As.toArray) free := by
  obtain ⟨hx, hb', hml, hown, hg, -, -, hK, hN⟩ := C0
  exact va_runS (Ts := GW) (n := n) ⟨hx, hb', hml, hown, hg⟩ hM ⟨callB_of n hg (gw_in0 hcode) rfl hrc hrs (hg _ hini) (hg _ hl) hd hR, hg _ hi⟩ ⟨cPre_blind, fun U hU hW => ⟨rfl, by rw [hU]; exact hP, va_K.moved hW.alike hK, hN.warm hW⟩⟩ rfl hn hsize hst (lv_room hW) hdg hcs
theorem run_SN (C0 : Cx p s m args meth c cc nL own ret0 D tys) (hM : Met l y (Cond.code y bytes maxL ret :: GW) rm (cPre D tys L f As) Qc mc ms free) (hcode : Cond.code y bytes maxL ret ∈ GW) (hl : Cond.methodLinkNest own index y host ∈ NXW) (hi : Cond.static y ∈ GW) (hini : Cond.initialized y.cls ∈ GW)
    (hd : y.cls ≠ "java/lang/invoke/MethodHandle" ∧ y.cls ≠ "java/lang/invoke/VarHandle" ∧ (parseMethodDescriptor y.desc).map (fun d => d.parameters.length) = some n) (hR : rm.frames + 1 ≤ R.frames ∧ 8 + (maxL + 11) + rm.locals ≤ R.locals) (hrc : rm.cells = mc) (hrs : rm.slots = ms) (hcs : cells + mc ≤ R.cells ∧ slots + ms ≤ R.slots)
    (hP : va_P D zCl (va_pl L f) H) (hn : As.length = n) (hsize : ls.size = nL) (hst : st = As.reverse ++ rest) (hW : (rest.map fun v => v.category).sum ≤ 8) (hdg : decode cc pc = .ok (.invokestatic index, 3)) :
    va_Run p l e R s m args below meth c H locs cells slots mc ms (F0 m pc ls st) rest (Qc As.toArray) free := by
  obtain ⟨hx, hb', hml, hown, hg, -, -, hK, hN⟩ := C0
  exact va_runSN (Ts := GW) (n := n) ⟨hx, hb', hml, hown, hg⟩ hM ⟨va_cnB n hg (gw_in0 hcode) rfl hrc hrs (hN _ hl) (hg _ hini) hd hR, hg _ hi, trivial⟩ ⟨cPre_blind, fun U hU hW => ⟨rfl, by rw [hU]; exact hP, va_K.moved hW.alike hK, hN.warm hW⟩⟩ rfl hn hsize hst (lv_room hW) hdg hcs
theorem then_i {A0 : Nat → Prop} {a : Array Value} {post : Int32 → (Nat → va_E) → Prop} (hr : va_Run p l e R s m args below meth c H locs cells slots 0 0 (F0 m pc ls st) rest (va_Qi post (cB D L) (inL L) a) (inL L)) (hS : va_S A0 H0 H locs) (hA : ∀ a ∈ L, A0 a)
    (kk : ∀ (r : Int32) (f' : Nat → va_E) (H1 : Heap) (locs1 : List Loc), post r f' → va_P D zCl (va_pl L f') H1 → va_S A0 H0 H1 locs1 → W p l e R s m args below meth c H1 locs1 cells slots Q (F0 m (pc + 3) ls (.int r :: rest))) : W p l e R s m args below meth c H locs cells slots Q (F0 m pc ls st) :=
  va_calli hr hS (fun q _ h => hA q h) (fun q h => hA q h) (fun r u t H1 locs1 ht _ hp hB _ _ hS' => kk r u H1 locs1 hp (by rw [← ht]; exact hB) hS')
theorem then_v {A0 : Nat → Prop} {a : Array Value} {post : (Nat → va_E) → Prop} (hr : va_Run p l e R s m args below meth c H locs cells slots 0 0 (F0 m pc ls st) rest (va_Qv post (cB D L) (inL L) a) (inL L)) (hS : va_S A0 H0 H locs) (hA : ∀ a ∈ L, A0 a)
    (kk : ∀ (f' : Nat → va_E) (H1 : Heap) (locs1 : List Loc), post f' → va_P D zCl (va_pl L f') H1 → va_S A0 H0 H1 locs1 → W p l e R s m args below meth c H1 locs1 cells slots Q (F0 m (pc + 3) ls rest)) : W p l e R s m args below meth c H locs cells slots Q (F0 m pc ls st) :=
  va_callv hr hS (fun q _ h => hA q h) (fun q h => hA q h) (fun u t H1 locs1 ht _ hp hB _ _ hS' => kk u H1 locs1 hp (by rw [← ht]; exact hB) hS')
end MC
end
section
/-! Known: its methods, as they stand in the code: over the row of 144 numbers. -/
def r_it {σ : Type} (st : Nat → σ → σ) : Nat → Nat → σ → σ
  | 0, _, s => s
  | n + 1, i, s => r_it st n (i + 1) (st i s)
theorem mm_si_si {f : Nat → va_E} {a : Nat} {g g' : Nat → Int32} : mm_si (mm_si f a g) a g' = mm_si f a g' := by
  unfold mm_si
  rw [bx_uu, va_up_self]
  cases h : f a with
  | inl x => obtain ⟨cA, n, y⟩ := x; rfl
  | inr x => rfl
theorem mm_si_id {tys : List (ClassId × FieldType)} {f : Nat → va_E} {a n : Nat} {g : Nat → Int32} (h : mm_I tys f a n g) : mm_si f a g = f := by
  obtain ⟨cA, h1, -⟩ := h
  rw [mm_si_eq h1]
  funext x
  unfold va_up
  split
  · rename_i e; rw [e, h1]
  · rfl
set_option maxRecDepth 100000 in
set_option maxHeartbeats 4000000 in
theorem k_bound {l : Launch} {D : va_G} {tys : List (ClassId × FieldType)} {L : List Nat} {f : Nat → va_E} (hn : L.Nodup) {h b : Nat} {pv : Int32} {g : Nat → Int32} (hh : h ∈ L) (hbL : b ∈ L) (h1 : f h = .inr (1, [.ref b, .int pv])) (h2 : mm_I tys f b 144 g) {x y : Nat} (hx0 : x < 12) (hy0 : y < 12) : MetI l yK_bound wK_bound ({ frames := 0, cells := 0, slots := 0, locals := 0 } : Room) D tys L f [.ref h, .int (nI x), .int (nI y)] (fun r f' => r = g (x * 12 + y) ∧ f' = f) := by
  refine met_of "LiquidChecker$Known" (by decide) rfl (Nat.le_of_ble_eq_true rfl) ?_
  intro p e s m below meth c ls C0 hP hl
  obtain ⟨hx, hb, hml, hown, hg, hr, hlocks, hK, hN⟩ := id C0
  have hA : ∀ a ∈ L, inL L a := fun _ h => h
  obtain ⟨H, hH⟩ : ∃ z, z = s.heap := ⟨_, rfl⟩
  rw [← hH] at hP ⊢
  have hS : va_S (inL L) s.heap H [] := by rw [hH]; exact va_S.rf
  have hl : lv_has ls 3 [(0, .ref h), (1, .int (nI x)), (2, .int (nI y))] := hl
  refine lv_aload_n hx hb dK_bound_0 rfl (lv_at hl 0 rfl) ?_
  refine mm_get (v := .ref b) hx hb hg inK hown hK hP hh h1 rfl 0 (by decide) (hg _ gw41) (fun _ h9 => h9) rfl dK_bound_1 ?_
  refine lv_iload_n hx hb dK_bound_4 rfl (lv_at hl 1 rfl) ?_
  refine lv_bipush (v := nI 12) hx hb dK_bound_5 (by decide) ?_
  refine lv_imul hx hb dK_bound_7 ?_
  rw [pk_mul]
  refine lv_iload_n hx hb dK_bound_8 rfl (lv_at hl 2 rfl) ?_
  refine lv_iadd hx hb dK_bound_9 ?_
  rw [nI_add]
  refine mm_iald hx hb hK hP hbL h2 (vp_in_nI (show (x * 12) + y < 144 by omega) (by omega)) dK_bound_10 ?_
  rw [nI_clamp (by omega)]
  exact ret_i C0 hP hS ⟨rfl, rfl⟩ dK_bound_11
set_option maxRecDepth 100000 in
set_option maxHeartbeats 4000000 in
theorem k_shows {l : Launch} {D : va_G} {tys : List (ClassId × FieldType)} {L : List Nat} {f : Nat → va_E} (hn : L.Nodup) {h b : Nat} {pv : Int32} {g : Nat → Int32} (hh : h ∈ L) (hbL : b ∈ L) (h1 : f h = .inr (1, [.ref b, .int pv])) (h2 : mm_I tys f b 144 g) {x y : Nat} {k : Int32} (hx0 : x < 12) (hy0 : y < 12) : MetI l yK_shows wK_shows ({ frames := 0, cells := 0, slots := 0, locals := 0 } : Room) D tys L f [.ref h, .int (nI x), .int (nI y), .int k] (fun r f' => r = (if k < g (x * 12 + y) then nI 0 else nI 1) ∧ f' = f) := by
  refine met_of "LiquidChecker$Known" (by decide) rfl (Nat.le_of_ble_eq_true rfl) ?_
  intro p e s m below meth c ls C0 hP hl
  obtain ⟨hx, hb, hml, hown, hg, hr, hlocks, hK, hN⟩ := id C0
  have hA : ∀ a ∈ L, inL L a := fun _ h => h
  obtain ⟨H, hH⟩ : ∃ z, z = s.heap := ⟨_, rfl⟩
  rw [← hH] at hP ⊢
  have hS : va_S (inL L) s.heap H [] := by rw [hH]; exact va_S.rf
  have hl : lv_has ls 4 [(0, .ref h), (1, .int (nI x)), (2, .int (nI y)), (3, .int k)] := hl
  refine lv_aload_n hx hb dK_shows_0 rfl (lv_at hl 0 rfl) ?_
  refine mm_get (v := .ref b) hx hb hg inK hown hK hP hh h1 rfl 0 (by decide) (hg _ gw41) (fun _ h9 => h9) rfl dK_shows_1 ?_
  refine lv_iload_n hx hb dK_shows_4 rfl (lv_at hl 1 rfl) ?_
  refine lv_bipush (v := nI 12) hx hb dK_shows_5 (by decide) ?_
  refine lv_imul hx hb dK_shows_7 ?_
  rw [pk_mul]
  refine lv_iload_n hx hb dK_shows_8 rfl (lv_at hl 2 rfl) ?_
  refine lv_iadd hx hb dK_shows_9 ?_
  rw [nI_add]
  refine mm_iald hx hb hK hP hbL h2 (vp_in_nI (show (x * 12) + y < 144 by omega) (by omega)) dK_shows_10 ?_
  rw [nI_clamp (by omega)]
  refine lv_iload_n hx hb dK_shows_11 rfl (lv_at hl 3 rfl) ?_
  refine lv_icmp_gt (tgt := 19) hx hb dK_shows_12 (by decide) (fun c12 => ?_) (fun c12 => ?_)
  · refine lv_iconst (v := nI 0) hx hb dK_shows_19 (by decide) ?_
    exact ret_z C0 rfl hP hS ⟨(if_pos c12).symm, rfl⟩ dK_shows_20
  · refine lv_iconst (v := nI 1) hx hb dK_shows_15 (by decide) ?_
    refine lv_goto (tgt := 20) hx hb dK_shows_16 (by decide) ?_
    exact ret_z C0 rfl hP hS ⟨(if_neg c12).symm, rfl⟩ dK_shows_20
set_option maxRecDepth 100000 in
set_option maxHeartbeats 4000000 in
theorem k_moved {l : Launch} {D : va_G} {tys : List (ClassId × FieldType)} {L : List Nat} {f : Nat → va_E} (hn : L.Nodup) {x k : Int32} : MetI l yK_moved wK_moved ({ frames := 0, cells := 0, slots := 0, locals := 0 } : Room) D tys L f [.int x, .int k] (fun r f' => r = (if x = 2147483647 then 2147483647 else x + k) ∧ f' = f) := by
  refine met_of "LiquidChecker$Known" (by decide) rfl (Nat.le_of_ble_eq_true rfl) ?_
  intro p e s m below meth c ls C0 hP hl
  obtain ⟨hx, hb, hml, hown, hg, hr, hlocks, hK, hN⟩ := id C0
  have hA : ∀ a ∈ L, inL L a := fun _ h => h
  obtain ⟨H, hH⟩ : ∃ z, z = s.heap := ⟨_, rfl⟩
  rw [← hH] at hP ⊢
  have hS : va_S (inL L) s.heap H [] := by rw [hH]; exact va_S.rf
  have hl : lv_has ls 2 [(0, .int x), (1, .int k)] := hl
  refine lv_iload_n hx hb dK_moved_0 rfl (lv_at hl 0 rfl) ?_
  refine lv_ldc hx hb hown (hg _ gw417) dK_moved_1 ?_
  refine lv_icmp_ne (tgt := 11) hx hb dK_moved_3 (by decide) (fun c3 => ?_) (fun c3 => ?_)
  · refine lv_iload_n hx hb dK_moved_11 rfl (lv_at hl 0 rfl) ?_
    refine lv_iload_n hx hb dK_moved_12 rfl (lv_at hl 1 rfl) ?_
    refine lv_iadd hx hb dK_moved_13 ?_
    exact ret_i C0 hP hS ⟨(if_neg c3).symm, rfl⟩ dK_moved_14
  · refine lv_ldc hx hb hown (hg _ gw417) dK_moved_6 ?_
    refine lv_goto (tgt := 14) hx hb dK_moved_8 (by decide) ?_
    exact ret_i C0 hP hS ⟨(if_pos c3).symm, rfl⟩ dK_moved_14
/-- nothing is known of a: a step, a name -/
def r_fg (a i : Nat) (g : Nat → Int32) : Nat → Int32 := if i = a then g else upd (upd g (a * 12 + i) 2147483647) (i * 12 + a) 2147483647
def r_gv (a b : Nat) (k : Int32) (i : Nat) (g : Nat → Int32) : Nat → Int32 := if i = a then g else
  (let g1 := upd g (a * 12 + i) (if g (b * 12 + i) = 2147483647 then 2147483647 else g (b * 12 + i) + k)
  upd g1 (i * 12 + a) (if g1 (i * 12 + b) = 2147483647 then 2147483647 else g1 (i * 12 + b) + -k))
set_option maxRecDepth 100000 in
set_option maxHeartbeats 4000000 in
theorem k_forget_loop {p : Program} {l : Launch} {e : Env} {s : State} {m : MethodId} {args : Array Value} {below : List Frame} {meth : Method} {c : Code} {D : va_G} {tys : List (ClassId × FieldType)} {L : List Nat} {f : Nat → va_E} {Q : State → Prop} (C0 : Cx p s m args meth c cK_forget 3 "LiquidChecker$Known" none D tys) (hn : L.Nodup) {h b : Nat} {pv : Int32} {g : Nat → Int32} (hh : h ∈ L) (hbL : b ∈ L) (h1 : f h = .inr (1, [.ref b, .int pv])) (h2 : mm_I tys f b 144 g) {a : Nat} (ha : a < 12) : ∀ (n i : Nat) (g : Nat → Int32), i + n = 12 → ∀ (H : Heap) (locs : List Loc) (ls : Array Slot), va_P D zCl (va_pl L (mm_si f b g)) H → va_S (inL L) s.heap H locs → lv_has ls 3 [(2, .int (nI i)), (0, .ref h), (1, .int (nI a))] → (∀ (H : Heap) (locs : List Loc) (ls : Array Slot), va_P D zCl (va_pl L (mm_si f b (r_it (r_fg a) n i g))) H → va_S (inL L) s.heap H locs → lv_has ls 3 [(2, .int (nI 12)), (0, .ref h), (1, .int (nI a))] → W p l e ({ frames := 0, cells := 0, slots := 0, locals := 0 } : Room) s m args below meth c H locs 0 0 Q (F0 m 45 ls [])) → W p l e ({ frames := 0, cells := 0, slots := 0, locals := 0 } : Room) s m args below meth c H locs 0 0 Q (F0 m 2 ls []) := by
  obtain ⟨hx, hb, hml, hown, hg, hr, hlocks, hK, hN⟩ := id C0
  have hA : ∀ a ∈ L, inL L a := fun _ h => h
  intro n
  induction n with
  | zero =>
    intro i g hi H locs ls hP hS hl hk
    obtain rfl : i = 12 := by omega
    have q2 : mm_I tys (mm_si f b g) b 144 g := h2.set
    have q1 : mm_si f b g h = .inr (1, [.ref b, .int pv]) := by rw [mm_si_ne (mm_IO h2 h1)]; exact h1
    refine lv_iload_n hx hb dK_forget_2 rfl (lv_at hl 0 rfl) ?_
    refine lv_bipush (v := nI 12) hx hb dK_forget_3 (by decide) ?_
    refine lv_icmp_ge (tgt := 45) hx hb dK_forget_5 (by decide) (fun c5 => ?_) (fun c5 => absurd (nI_le (by omega) (by omega)) c5)
    exact hk H locs ls hP hS (lv_sub hl [0, 1, 2] rfl)
  | succ n ih =>
    intro i g hi H locs ls hP hS hl hk
    have q2 : mm_I tys (mm_si f b g) b 144 g := h2.set
    have q1 : mm_si f b g h = .inr (1, [.ref b, .int pv]) := by rw [mm_si_ne (mm_IO h2 h1)]; exact h1
    refine lv_iload_n hx hb dK_forget_2 rfl (lv_at hl 0 rfl) ?_
    refine lv_bipush (v := nI 12) hx hb dK_forget_3 (by decide) ?_
    refine lv_icmp_ge (tgt := 45) hx hb dK_forget_5 (by decide) (fun c5 => absurd c5 (nI_ge (show i < 12 by omega) (by omega))) (fun c5 => ?_)
    refine lv_iload_n hx hb dK_forget_8 rfl (lv_at hl 0 rfl) ?_
    refine lv_iload_n hx hb dK_forget_9 rfl (lv_at hl 2 rfl) ?_
    refine lv_icmp_eq (tgt := 39) hx hb dK_forget_10 (by decide) (fun c10 => ?_) (fun c10 => ?_)
    · refine lv_iinc (v := nI (i + 1)) (lv' := [(2, .int (nI (i + 1))), (0, .ref h), (1, .int (nI a))]) hx hb dK_forget_39 hl (k := 0) rfl (nI_add i 1) (by decide) rfl (fun ls hl => ?_)
      refine lv_goto (tgt := 2) hx hb dK_forget_42 (by decide) ?_
      refine ih (i + 1) ((r_fg a) i g) (by omega) H locs ls ?_ hS (lv_sub hl [0, 1, 2] rfl) hk
      rw [show (r_fg a) i g = g from if_pos ((nI_eq (by omega) (by omega)).mp c10)]
      exact hP
    · refine lv_aload_n hx hb dK_forget_13 rfl (lv_at hl 1 rfl) ?_
      refine mm_get (v := .ref b) hx hb hg inK hown hK hP hh q1 rfl 0 (by decide) (hg _ gw41) (fun _ h9 => h9) rfl dK_forget_14 ?_
      refine lv_iload_n hx hb dK_forget_17 rfl (lv_at hl 2 rfl) ?_
      refine lv_bipush (v := nI 12) hx hb dK_forget_18 (by decide) ?_
      refine lv_imul hx hb dK_forget_20 ?_
      rw [pk_mul]
      refine lv_iload_n hx hb dK_forget_21 rfl (lv_at hl 0 rfl) ?_
      refine lv_iadd hx hb dK_forget_22 ?_
      rw [nI_add]
      refine lv_ldc hx hb hown (hg _ gw417) dK_forget_23 ?_
      refine mm_iast hx hb hK hn hA hP hS hbL q2 (vp_in_nI (show (a * 12) + i < 144 by omega) (by omega)) dK_forget_25 (fun H locs hP hS => ?_)
      rw [nI_clamp (by omega)] at hP
      obtain ⟨f1, hf1⟩ : ∃ z, z = mm_si (mm_si f b g) b (upd g ((a * 12) + i) 2147483647) := ⟨_, rfl⟩
      have hP : va_P D zCl (va_pl L f1) H := by rw [hf1]; exact hP
      have p2 : f1 h = .inr (1, [.ref b, .int pv]) := by rw [hf1, mm_si_ne (mm_IO q2 q1)]; exact q1
      have p3 : mm_I tys f1 b 144 (upd g ((a * 12) + i) 2147483647) := by rw [hf1]; exact q2.set
      refine lv_aload_n hx hb dK_forget_26 rfl (lv_at hl 1 rfl) ?_
      refine mm_get (v := .ref b) hx hb hg inK hown hK hP hh p2 rfl 0 (by decide) (hg _ gw41) (fun _ h9 => h9) rfl dK_forget_27 ?_
      refine lv_iload_n hx hb dK_forget_30 rfl (lv_at hl 0 rfl) ?_
      refine lv_bipush (v := nI 12) hx hb dK_forget_31 (by decide) ?_
      refine lv_imul hx hb dK_forget_33 ?_
      rw [pk_mul]
      refine lv_iload_n hx hb dK_forget_34 rfl (lv_at hl 2 rfl) ?_
      refine lv_iadd hx hb dK_forget_35 ?_
      rw [nI_add]
      refine lv_ldc hx hb hown (hg _ gw417) dK_forget_36 ?_
      refine mm_iast hx hb hK hn hA hP hS hbL p3 (vp_in_nI (show (i * 12) + a < 144 by omega) (by omega)) dK_forget_38 (fun H locs hP hS => ?_)
      rw [nI_clamp (by omega)] at hP
      obtain ⟨f4, hf4⟩ : ∃ z, z = mm_si f1 b (upd (upd g ((a * 12) + i) 2147483647) ((i * 12) + a) 2147483647) := ⟨_, rfl⟩
      have hP : va_P D zCl (va_pl L f4) H := by rw [hf4]; exact hP
      have p5 : f4 h = .inr (1, [.ref b, .int pv]) := by rw [hf4, mm_si_ne (mm_IO p3 p2)]; exact p2
      have p6 : mm_I tys f4 b 144 (upd (upd g ((a * 12) + i) 2147483647) ((i * 12) + a) 2147483647) := by rw [hf4]; exact p3.set
      refine lv_iinc (v := nI (i + 1)) (lv' := [(2, .int (nI (i + 1))), (0, .ref h), (1, .int (nI a))]) hx hb dK_forget_39 hl (k := 0) rfl (nI_add i 1) (by decide) rfl (fun ls hl => ?_)
      refine lv_goto (tgt := 2) hx hb dK_forget_42 (by decide) ?_
      refine ih (i + 1) ((r_fg a) i g) (by omega) H locs ls ?_ hS (lv_sub hl [0, 1, 2] rfl) hk
      rw [show (r_fg a) i g = _ from if_neg (fun e9 => c10 (by rw [e9]))]
      rw [hf4, hf1, mm_si_si, mm_si_si] at hP
      exact hP
set_option maxRecDepth 100000 in
set_option maxHeartbeats 4000000 in
theorem k_forget {l : Launch} {D : va_G} {tys : List (ClassId × FieldType)} {L : List Nat} {f : Nat → va_E} (hn : L.Nodup) {h b : Nat} {pv : Int32} {g : Nat → Int32} (hh : h ∈ L) (hbL : b ∈ L) (h1 : f h = .inr (1, [.ref b, .int pv])) (h2 : mm_I tys f b 144 g) {a : Nat} (ha : a < 12) : MetV l yK_forget wK_forget ({ frames := 0, cells := 0, slots := 0, locals := 0 } : Room) D tys L f [.ref h, .int (nI a)] (fun f' => f' = mm_si f b (r_it (r_fg a) 12 0 g)) := by
  refine met_of "LiquidChecker$Known" (by decide) rfl (Nat.le_of_ble_eq_true rfl) ?_
  intro p e s m below meth c ls C0 hP hl
  obtain ⟨hx, hb, hml, hown, hg, hr, hlocks, hK, hN⟩ := id C0
  have hA : ∀ a ∈ L, inL L a := fun _ h => h
  obtain ⟨H, hH⟩ : ∃ z, z = s.heap := ⟨_, rfl⟩
  rw [← hH] at hP ⊢
  have hS : va_S (inL L) s.heap H [] := by rw [hH]; exact va_S.rf
  have hl : lv_has ls 3 [(0, .ref h), (1, .int (nI a))] := hl
  refine lv_iconst (v := nI 0) hx hb dK_forget_0 (by decide) ?_
  refine lv_istore_n (lv' := [(2, .int (nI 0)), (0, .ref h), (1, .int (nI a))]) hx hb dK_forget_1 rfl hl (by decide) rfl (fun ls hl => ?_)
  refine k_forget_loop C0 hn hh hbL h1 h2 ha 12 0 g (by omega) H [] ls (by rw [mm_si_id h2]; exact hP) hS (lv_sub hl [0, 1, 2] rfl) (fun H locs ls hP hS hl => ?_)
  exact ret_v C0 hP hS rfl dK_forget_45
set_option maxRecDepth 100000 in
set_option maxHeartbeats 4000000 in
theorem k_give_loop {p : Program} {l : Launch} {e : Env} {s : State} {m : MethodId} {args : Array Value} {below : List Frame} {meth : Method} {c : Code} {D : va_G} {tys : List (ClassId × FieldType)} {L : List Nat} {f : Nat → va_E} {Q : State → Prop} (C0 : Cx p s m args meth c cK_give 5 "LiquidChecker$Known" none D tys) (hn : L.Nodup) {h b : Nat} {pv : Int32} {g : Nat → Int32} (hh : h ∈ L) (hbL : b ∈ L) (h1 : f h = .inr (1, [.ref b, .int pv])) (h2 : mm_I tys f b 144 g) {a bb : Nat} {k : Int32} (ha : a < 12) (hbb : bb < 12) : ∀ (n i : Nat) (g : Nat → Int32), i + n = 12 → ∀ (H : Heap) (locs : List Loc) (ls : Array Slot), va_P D zCl (va_pl L (mm_si f b g)) H → va_S (inL L) s.heap H locs → lv_has ls 5 [(4, .int (nI i)), (0, .ref h), (1, .int (nI a)), (2, .int (nI bb)), (3, .int k)] → (∀ (H : Heap) (locs : List Loc) (ls : Array Slot), va_P D zCl (va_pl L (mm_si f b (r_it (r_gv a bb k) n i g))) H → va_S (inL L) s.heap H locs → lv_has ls 5 [(4, .int (nI 12)), (0, .ref h), (1, .int (nI a)), (2, .int (nI bb)), (3, .int k)] → W p l e ({ frames := 1, cells := 0, slots := 0, locals := 21 } : Room) s m args below meth c H locs 0 0 Q (F0 m 79 ls [])) → W p l e ({ frames := 1, cells := 0, slots := 0, locals := 21 } : Room) s m args below meth c H locs 0 0 Q (F0 m 3 ls []) := by
  obtain ⟨hx, hb, hml, hown, hg, hr, hlocks, hK, hN⟩ := id C0
  have hA : ∀ a ∈ L, inL L a := fun _ h => h
  intro n
  induction n with
  | zero =>
    intro i g hi H locs ls hP hS hl hk
    obtain rfl : i = 12 := by omega
    have q2 : mm_I tys (mm_si f b g) b 144 g := h2.set
    have q1 : mm_si f b g h = .inr (1, [.ref b, .int pv]) := by rw [mm_si_ne (mm_IO h2 h1)]; exact h1
    refine lv_iload hx hb dK_give_3 (lv_at hl 0 rfl) ?_
    refine lv_bipush (v := nI 12) hx hb dK_give_5 (by decide) ?_
    refine lv_icmp_ge (tgt := 79) hx hb dK_give_7 (by decide) (fun c7 => ?_) (fun c7 => absurd (nI_le (by omega) (by omega)) c7)
    exact hk H locs ls hP hS (lv_sub hl [0, 1, 2, 3, 4] rfl)
  | succ n ih =>
    intro i g hi H locs ls hP hS hl hk
    have q2 : mm_I tys (mm_si f b g) b 144 g := h2.set
    have q1 : mm_si f b g h = .inr (1, [.ref b, .int pv]) := by rw [mm_si_ne (mm_IO h2 h1)]; exact h1
    refine lv_iload hx hb dK_give_3 (lv_at hl 0 rfl) ?_
    refine lv_bipush (v := nI 12) hx hb dK_give_5 (by decide) ?_
    refine lv_icmp_ge (tgt := 79) hx hb dK_give_7 (by decide) (fun c7 => absurd c7 (nI_ge (show i < 12 by omega) (by omega))) (fun c7 => ?_)
    refine lv_iload hx hb dK_give_10 (lv_at hl 0 rfl) ?_
    refine lv_iload_n hx hb dK_give_12 rfl (lv_at hl 2 rfl) ?_
    refine lv_icmp_eq (tgt := 73) hx hb dK_give_13 (by decide) (fun c13 => ?_) (fun c13 => ?_)
    · refine lv_iinc (v := nI (i + 1)) (lv' := [(4, .int (nI (i + 1))), (0, .ref h), (1, .int (nI a)), (2, .int (nI bb)), (3, .int k)]) hx hb dK_give_73 hl (k := 0) rfl (nI_add i 1) (by decide) rfl (fun ls hl => ?_)
      refine lv_goto (tgt := 3) hx hb dK_give_76 (by decide) ?_
      refine ih (i + 1) ((r_gv a bb k) i g) (by omega) H locs ls ?_ hS (lv_sub hl [0, 1, 2, 3, 4] rfl) hk
      rw [show (r_gv a bb k) i g = g from if_pos ((nI_eq (by omega) (by omega)).mp c13)]
      exact hP
    · refine lv_aload_n hx hb dK_give_16 rfl (lv_at hl 1 rfl) ?_
      refine mm_get (v := .ref b) hx hb hg inK hown hK hP hh q1 rfl 0 (by decide) (hg _ gw41) (fun _ h9 => h9) rfl dK_give_17 ?_
      refine lv_iload_n hx hb dK_give_20 rfl (lv_at hl 2 rfl) ?_
      refine lv_bipush (v := nI 12) hx hb dK_give_21 (by decide) ?_
      refine lv_imul hx hb dK_give_23 ?_
      rw [pk_mul]
      refine lv_iload hx hb dK_give_24 (lv_at hl 0 rfl) ?_
      refine lv_iadd hx hb dK_give_26 ?_
      rw [nI_add]
      refine lv_aload_n hx hb dK_give_27 rfl (lv_at hl 1 rfl) ?_
      refine mm_get (v := .ref b) hx hb hg inK hown hK hP hh q1 rfl 0 (by decide) (hg _ gw41) (fun _ h9 => h9) rfl dK_give_28 ?_
      refine lv_iload_n hx hb dK_give_31 rfl (lv_at hl 3 rfl) ?_
      refine lv_bipush (v := nI 12) hx hb dK_give_32 (by decide) ?_
      refine lv_imul hx hb dK_give_34 ?_
      rw [pk_mul]
      refine lv_iload hx hb dK_give_35 (lv_at hl 0 rfl) ?_
      refine lv_iadd hx hb dK_give_37 ?_
      rw [nI_add]
      refine mm_iald hx hb hK hP hbL q2 (vp_in_nI (show (bb * 12) + i < 144 by omega) (by omega)) dK_give_38 ?_
      rw [nI_clamp (by omega)]
      refine lv_iload_n hx hb dK_give_39 rfl (lv_at hl 4 rfl) ?_
      refine then_i (run_S (n := 2) (As := [.int (g ((bb * 12) + i)), .int k]) (rest := [.int (nI ((a * 12) + i)), .ref b]) C0 (k_moved hn) gw457 gw455 gw456 gw3 (by decide +kernel) ⟨Nat.le_of_ble_eq_true rfl, Nat.le_of_ble_eq_true rfl⟩ rfl rfl ⟨Nat.le_of_ble_eq_true rfl, Nat.le_of_ble_eq_true rfl⟩ hP rfl hl.1 rfl (Nat.le_of_ble_eq_true rfl) dK_give_40) hS hA (fun r2 f1 H locs hq40 hP hS => ?_)
      obtain ⟨er2, ef1⟩ := hq40
      subst er2
      rw [ef1] at hP
      refine mm_iast hx hb hK hn hA hP hS hbL q2 (vp_in_nI (show (a * 12) + i < 144 by omega) (by omega)) dK_give_43 (fun H locs hP hS => ?_)
      rw [nI_clamp (by omega)] at hP
      obtain ⟨f3, hf3⟩ : ∃ z, z = mm_si (mm_si f b g) b (upd g ((a * 12) + i) (if (g ((bb * 12) + i)) = 2147483647 then 2147483647 else (g ((bb * 12) + i)) + k)) := ⟨_, rfl⟩
      have hP : va_P D zCl (va_pl L f3) H := by rw [hf3]; exact hP
      have p4 : f3 h = .inr (1, [.ref b, .int pv]) := by rw [hf3, mm_si_ne (mm_IO q2 q1)]; exact q1
      have p5 : mm_I tys f3 b 144 (upd g ((a * 12) + i) (if (g ((bb * 12) + i)) = 2147483647 then 2147483647 else (g ((bb * 12) + i)) + k)) := by rw [hf3]; exact q2.set
      refine lv_aload_n hx hb dK_give_44 rfl (lv_at hl 1 rfl) ?_
      refine mm_get (v := .ref b) hx hb hg inK hown hK hP hh p4 rfl 0 (by decide) (hg _ gw41) (fun _ h9 => h9) rfl dK_give_45 ?_
      refine lv_iload hx hb dK_give_48 (lv_at hl 0 rfl) ?_
      refine lv_bipush (v := nI 12) hx hb dK_give_50 (by decide) ?_
      refine lv_imul hx hb dK_give_52 ?_
      rw [pk_mul]
      refine lv_iload_n hx hb dK_give_53 rfl (lv_at hl 2 rfl) ?_
      refine lv_iadd hx hb dK_give_54 ?_
      rw [nI_add]
      refine lv_aload_n hx hb dK_give_55 rfl (lv_at hl 1 rfl) ?_
      refine mm_get (v := .ref b) hx hb hg inK hown hK hP hh p4 rfl 0 (by decide) (hg _ gw41) (fun _ h9 => h9) rfl dK_give_56 ?_
      refine lv_iload hx hb dK_give_59 (lv_at hl 0 rfl) ?_
      refine lv_bipush (v := nI 12) hx hb dK_give_61 (by decide) ?_
      refine lv_imul hx hb dK_give_63 ?_
      rw [pk_mul]
      refine lv_iload_n hx hb dK_give_64 rfl (lv_at hl 3 rfl) ?_
      refine lv_iadd hx hb dK_give_65 ?_
      rw [nI_add]
      refine mm_iald hx hb hK hP hbL p5 (vp_in_nI (show (i * 12) + bb < 144 by omega) (by omega)) dK_give_66 ?_
      rw [nI_clamp (by omega)]
      refine lv_iload_n hx hb dK_give_67 rfl (lv_at hl 4 rfl) ?_
      refine lv_ineg hx hb dK_give_68 ?_
      refine then_i (run_S (n := 2) (As := [.int ((upd g ((a * 12) + i) (if (g ((bb * 12) + i)) = 2147483647 then 2147483647 else (g ((bb * 12) + i)) + k)) ((i * 12) + bb)), .int (-k)]) (rest := [.int (nI ((i * 12) + a)), .ref b]) C0 (k_moved hn) gw457 gw455 gw456 gw3 (by decide +kernel) ⟨Nat.le_of_ble_eq_true rfl, Nat.le_of_ble_eq_true rfl⟩ rfl rfl ⟨Nat.le_of_ble_eq_true rfl, Nat.le_of_ble_eq_true rfl⟩ hP rfl hl.1 rfl (Nat.le_of_ble_eq_true rfl) dK_give_69) hS hA (fun r7 f6 H locs hq69 hP hS => ?_)
      obtain ⟨er7, ef6⟩ := hq69
      subst er7
      rw [ef6] at hP
      refine mm_iast hx hb hK hn hA hP hS hbL p5 (vp_in_nI (show (i * 12) + a < 144 by omega) (by omega)) dK_give_72 (fun H locs hP hS => ?_)
      rw [nI_clamp (by omega)] at hP
      obtain ⟨f8, hf8⟩ : ∃ z, z = mm_si f3 b (upd (upd g ((a * 12) + i) (if (g ((bb * 12) + i)) = 2147483647 then 2147483647 else (g ((bb * 12) + i)) + k)) ((i * 12) + a) (if ((upd g ((a * 12) + i) (if (g ((bb * 12) + i)) = 2147483647 then 2147483647 else (g ((bb * 12) + i)) + k)) ((i * 12) + bb)) = 2147483647 then 2147483647 else ((upd g ((a * 12) + i) (if (g ((bb * 12) + i)) = 2147483647 then 2147483647 else (g ((bb * 12) + i)) + k)) ((i * 12) + bb)) + (-k))) := ⟨_, rfl⟩
      have hP : va_P D zCl (va_pl L f8) H := by rw [hf8]; exact hP
      have p9 : f8 h = .inr (1, [.ref b, .int pv]) := by rw [hf8, mm_si_ne (mm_IO p5 p4)]; exact p4
      have p10 : mm_I tys f8 b 144 (upd (upd g ((a * 12) + i) (if (g ((bb * 12) + i)) = 2147483647 then 2147483647 else (g ((bb * 12) + i)) + k)) ((i * 12) + a) (if ((upd g ((a * 12) + i) (if (g ((bb * 12) + i)) = 2147483647 then 2147483647 else (g ((bb * 12) + i)) + k)) ((i * 12) + bb)) = 2147483647 then 2147483647 else ((upd g ((a * 12) + i) (if (g ((bb * 12) + i)) = 2147483647 then 2147483647 else (g ((bb * 12) + i)) + k)) ((i * 12) + bb)) + (-k))) := by rw [hf8]; exact p5.set
      refine lv_iinc (v := nI (i + 1)) (lv' := [(4, .int (nI (i + 1))), (0, .ref h), (1, .int (nI a)), (2, .int (nI bb)), (3, .int k)]) hx hb dK_give_73 hl (k := 0) rfl (nI_add i 1) (by decide) rfl (fun ls hl => ?_)
      refine lv_goto (tgt := 3) hx hb dK_give_76 (by decide) ?_
      refine ih (i + 1) ((r_gv a bb k) i g) (by omega) H locs ls ?_ hS (lv_sub hl [0, 1, 2, 3, 4] rfl) hk
      rw [show (r_gv a bb k) i g = _ from if_neg (fun e9 => c13 (by rw [e9]))]
      rw [hf8, hf3, mm_si_si, mm_si_si] at hP
      exact hP
set_option maxRecDepth 100000 in
set_option maxHeartbeats 4000000 in
theorem k_give {l : Launch} {D : va_G} {tys : List (ClassId × FieldType)} {L : List Nat} {f : Nat → va_E} (hn : L.Nodup) {h b : Nat} {pv : Int32} {g : Nat → Int32} (hh : h ∈ L) (hbL : b ∈ L) (h1 : f h = .inr (1, [.ref b, .int pv])) (h2 : mm_I tys f b 144 g) {a bb : Nat} {k : Int32} (ha : a < 12) (hbb : bb < 12) : MetV l yK_give wK_give ({ frames := 1, cells := 0, slots := 0, locals := 21 } : Room) D tys L f [.ref h, .int (nI a), .int (nI bb), .int k] (fun f' => f' = mm_si f b (r_it (r_gv a bb k) 12 0 g)) := by
  refine met_of "LiquidChecker$Known" (by decide) rfl (Nat.le_of_ble_eq_true rfl) ?_
  intro p e s m below meth c ls C0 hP hl
  obtain ⟨hx, hb, hml, hown, hg, hr, hlocks, hK, hN⟩ := id C0
  have hA : ∀ a ∈ L, inL L a := fun _ h => h
  obtain ⟨H, hH⟩ : ∃ z, z = s.heap := ⟨_, rfl⟩
  rw [← hH] at hP ⊢
  have hS : va_S (inL L) s.heap H [] := by rw [hH]; exact va_S.rf
  have hl : lv_has ls 5 [(0, .ref h), (1, .int (nI a)), (2, .int (nI bb)), (3, .int k)] := hl
  refine lv_iconst (v := nI 0) hx hb dK_give_0 (by decide) ?_
  refine lv_istore (lv' := [(4, .int (nI 0)), (0, .ref h), (1, .int (nI a)), (2, .int (nI bb)), (3, .int k)]) hx hb dK_give_1 hl (by decide) rfl (fun ls hl => ?_)
  refine k_give_loop C0 hn hh hbL h1 h2 ha hbb 12 0 g (by omega) H [] ls (by rw [mm_si_id h2]; exact hP) hS (lv_sub hl [0, 1, 2, 3, 4] rfl) (fun H locs ls hP hS hl => ?_)
  exact ret_v C0 hP hS rfl dK_give_79
end
section
/-! Known.learn -/
def r_l1 (fr b : Nat) (k ab : Int32) (to : Nat) (g : Nat → Int32) : Nat → Int32 :=
  if g (b * 12 + to) = 2147483647 then g else if g (fr * 12 + to) ≤ ab + k + g (b * 12 + to) then g else upd g (fr * 12 + to) (ab + k + g (b * 12 + to))
def r_l2 (a b : Nat) (k : Int32) (fr : Nat) (g : Nat → Int32) : Nat → Int32 :=
  if g (fr * 12 + a) = 2147483647 then g else r_it (r_l1 fr b k (g (fr * 12 + a))) 12 0 g
def r_ln (a b : Nat) (k : Int32) (g : Nat → Int32) : Nat → Int32 := r_it (r_l2 a b k) 12 0 g
set_option maxRecDepth 100000 in
set_option maxHeartbeats 4000000 in
theorem k_learn_in {p : Program} {l : Launch} {e : Env} {s : State} {m : MethodId} {args : Array Value} {below : List Frame} {meth : Method} {c : Code} {D : va_G} {tys : List (ClassId × FieldType)} {L : List Nat} {f : Nat → va_E} {Q : State → Prop} (C0 : Cx p s m args meth c cK_learn 9 "LiquidChecker$Known" none D tys) (hn : L.Nodup) {h b : Nat} {pv : Int32} {g0 : Nat → Int32} (hh : h ∈ L) (hbL : b ∈ L) (h1 : f h = .inr (1, [.ref b, .int pv])) (h2 : mm_I tys f b 144 g0) {a bb fr : Nat} {k bk ab : Int32} (ha : a < 12) (hbb : bb < 12) (hfr : fr < 12) (hab : ¬ ab = 2147483647) : ∀ (n i : Nat) (g : Nat → Int32), i + n = 12 → ∀ (H : Heap) (locs : List Loc) (ls : Array Slot), va_P D zCl (va_pl L (mm_si f b g)) H → va_S (inL L) s.heap H locs → lv_has ls 9 [(7, .int (nI i)), (5, .int (nI fr)), (6, .int ab), (0, .ref h), (1, .int (nI a)), (2, .int (nI bb)), (3, .int k), (4, .int bk)] → (∀ (H : Heap) (locs : List Loc) (ls : Array Slot), va_P D zCl (va_pl L (mm_si f b (r_it (r_l1 fr bb k ab) n i g))) H → va_S (inL L) s.heap H locs → lv_has ls 9 [(7, .int (nI 12)), (5, .int (nI fr)), (6, .int ab), (0, .ref h), (1, .int (nI a)), (2, .int (nI bb)), (3, .int k), (4, .int bk)] → W p l e ({ frames := 0, cells := 0, slots := 0, locals := 0 } : Room) s m args below meth c H locs 0 0 Q (F0 m 167 ls [])) → W p l e ({ frames := 0, cells := 0, slots := 0, locals := 0 } : Room) s m args below meth c H locs 0 0 Q (F0 m 83 ls []) := by
  obtain ⟨hx, hb, hml, hown, hg, hr, hlocks, hK, hN⟩ := id C0
  have hA : ∀ a ∈ L, inL L a := fun _ h => h
  intro n
  induction n with
  | zero =>
    intro i g hi H locs ls hP hS hl hk
    obtain rfl : i = 12 := by omega
    have q2 : mm_I tys (mm_si f b g) b 144 g := h2.set
    have q1 : mm_si f b g h = .inr (1, [.ref b, .int pv]) := by rw [mm_si_ne (mm_IO h2 h1)]; exact h1
    refine lv_iload hx hb dK_learn_83 (lv_at hl 0 rfl) ?_
    refine lv_bipush (v := nI 12) hx hb dK_learn_85 (by decide) ?_
    refine lv_icmp_ge (tgt := 167) hx hb dK_learn_87 (by decide) (fun c87 => ?_) (fun c87 => absurd (nI_le (by omega) (by omega)) c87)
    exact hk H locs ls hP hS (lv_sub hl [0, 1, 2, 3, 4, 5, 6, 7] rfl)
  | succ n ih =>
    intro i g hi H locs ls hP hS hl hk
    have q2 : mm_I tys (mm_si f b g) b 144 g := h2.set
    have q1 : mm_si f b g h = .inr (1, [.ref b, .int pv]) := by rw [mm_si_ne (mm_IO h2 h1)]; exact h1
    refine lv_iload hx hb dK_learn_83 (lv_at hl 0 rfl) ?_
    refine lv_bipush (v := nI 12) hx hb dK_learn_85 (by decide) ?_
    refine lv_icmp_ge (tgt := 167) hx hb dK_learn_87 (by decide) (fun c87 => absurd c87 (nI_ge (show i < 12 by omega) (by omega))) (fun c87 => ?_)
    refine lv_iload hx hb dK_learn_90 (lv_at hl 2 rfl) ?_
    refine lv_ldc hx hb hown (hg _ gw417) dK_learn_92 ?_
    refine lv_icmp_eq (tgt := 167) hx hb dK_learn_94 (by decide) (fun c94 => absurd c94 hab) (fun c94 => ?_)
    refine lv_aload_n hx hb dK_learn_97 rfl (lv_at hl 3 rfl) ?_
    refine mm_get (v := .ref b) hx hb hg inK hown hK hP hh q1 rfl 0 (by decide) (hg _ gw41) (fun _ h9 => h9) rfl dK_learn_98 ?_
    refine lv_iload_n hx hb dK_learn_101 rfl (lv_at hl 5 rfl) ?_
    refine lv_bipush (v := nI 12) hx hb dK_learn_102 (by decide) ?_
    refine lv_imul hx hb dK_learn_104 ?_
    rw [pk_mul]
    refine lv_iload hx hb dK_learn_105 (lv_at hl 0 rfl) ?_
    refine lv_iadd hx hb dK_learn_107 ?_
    rw [nI_add]
    refine mm_iald hx hb hK hP hbL q2 (vp_in_nI (show (bb * 12) + i < 144 by omega) (by omega)) dK_learn_108 ?_
    rw [nI_clamp (by omega)]
    refine lv_topi (fun v ev => ?_)
    refine lv_istore (lv' := [(8, .int v), (7, .int (nI i)), (5, .int (nI fr)), (6, .int ab), (0, .ref h), (1, .int (nI a)), (2, .int (nI bb)), (3, .int k), (4, .int bk)]) hx hb dK_learn_109 hl (by decide) rfl (fun ls hl => ?_)
    refine lv_iload hx hb dK_learn_111 (lv_at hl 0 rfl) ?_
    refine lv_ldc hx hb hown (hg _ gw417) dK_learn_113 ?_
    refine lv_icmp_eq (tgt := 161) hx hb dK_learn_115 (by decide) (fun c115 => ?_) (fun c115 => ?_)
    · refine lv_iinc (v := nI (i + 1)) (lv' := [(7, .int (nI (i + 1))), (8, .int v), (5, .int (nI fr)), (6, .int ab), (0, .ref h), (1, .int (nI a)), (2, .int (nI bb)), (3, .int k), (4, .int bk)]) hx hb dK_learn_161 hl (k := 1) rfl (nI_add i 1) (by decide) rfl (fun ls hl => ?_)
      refine lv_goto (tgt := 83) hx hb dK_learn_164 (by decide) ?_
      refine ih (i + 1) (r_l1 fr bb k ab i g) (by omega) H locs ls ?_ hS (lv_sub hl [0, 2, 3, 4, 5, 6, 7, 8] rfl) hk
      rw [show r_l1 fr bb k ab i g = g from if_pos (by rw [← ev]; exact c115)]
      exact hP
    · refine lv_iload hx hb dK_learn_118 (lv_at hl 3 rfl) ?_
      refine lv_iload_n hx hb dK_learn_120 rfl (lv_at hl 7 rfl) ?_
      refine lv_iadd hx hb dK_learn_121 ?_
      refine lv_iload hx hb dK_learn_122 (lv_at hl 0 rfl) ?_
      refine lv_iadd hx hb dK_learn_124 ?_
      refine lv_aload_n hx hb dK_learn_125 rfl (lv_at hl 4 rfl) ?_
      refine mm_get (v := .ref b) hx hb hg inK hown hK hP hh q1 rfl 0 (by decide) (hg _ gw41) (fun _ h9 => h9) rfl dK_learn_126 ?_
      refine lv_iload hx hb dK_learn_129 (lv_at hl 2 rfl) ?_
      refine lv_bipush (v := nI 12) hx hb dK_learn_131 (by decide) ?_
      refine lv_imul hx hb dK_learn_133 ?_
      rw [pk_mul]
      refine lv_iload hx hb dK_learn_134 (lv_at hl 1 rfl) ?_
      refine lv_iadd hx hb dK_learn_136 ?_
      rw [nI_add]
      refine mm_iald hx hb hK hP hbL q2 (vp_in_nI (show (fr * 12) + i < 144 by omega) (by omega)) dK_learn_137 ?_
      rw [nI_clamp (by omega)]
      refine lv_icmp_ge (tgt := 161) hx hb dK_learn_138 (by decide) (fun c138 => ?_) (fun c138 => ?_)
      · refine lv_iinc (v := nI (i + 1)) (lv' := [(7, .int (nI (i + 1))), (8, .int v), (5, .int (nI fr)), (6, .int ab), (0, .ref h), (1, .int (nI a)), (2, .int (nI bb)), (3, .int k), (4, .int bk)]) hx hb dK_learn_161 hl (k := 1) rfl (nI_add i 1) (by decide) rfl (fun ls hl => ?_)
        refine lv_goto (tgt := 83) hx hb dK_learn_164 (by decide) ?_
        refine ih (i + 1) (r_l1 fr bb k ab i g) (by omega) H locs ls ?_ hS (lv_sub hl [0, 2, 3, 4, 5, 6, 7, 8] rfl) hk
        rw [show r_l1 fr bb k ab i g = g from by unfold r_l1; rw [if_neg (by rw [← ev]; exact c115), if_pos (by rw [← ev]; exact c138)]]
        exact hP
      · refine lv_aload_n hx hb dK_learn_141 rfl (lv_at hl 4 rfl) ?_
        refine mm_get (v := .ref b) hx hb hg inK hown hK hP hh q1 rfl 0 (by decide) (hg _ gw41) (fun _ h9 => h9) rfl dK_learn_142 ?_
        refine lv_iload hx hb dK_learn_145 (lv_at hl 2 rfl) ?_
        refine lv_bipush (v := nI 12) hx hb dK_learn_147 (by decide) ?_
        refine lv_imul hx hb dK_learn_149 ?_
        rw [pk_mul]
        refine lv_iload hx hb dK_learn_150 (lv_at hl 1 rfl) ?_
        refine lv_iadd hx hb dK_learn_152 ?_
        rw [nI_add]
        refine lv_iload hx hb dK_learn_153 (lv_at hl 3 rfl) ?_
        refine lv_iload_n hx hb dK_learn_155 rfl (lv_at hl 7 rfl) ?_
        refine lv_iadd hx hb dK_learn_156 ?_
        refine lv_iload hx hb dK_learn_157 (lv_at hl 0 rfl) ?_
        refine lv_iadd hx hb dK_learn_159 ?_
        refine mm_iast hx hb hK hn hA hP hS hbL q2 (vp_in_nI (show (fr * 12) + i < 144 by omega) (by omega)) dK_learn_160 (fun H locs hP hS => ?_)
        rw [nI_clamp (by omega)] at hP
        obtain ⟨f1, hf1⟩ : ∃ z, z = mm_si (mm_si f b g) b (upd g ((fr * 12) + i) ((ab + k) + v)) := ⟨_, rfl⟩
        have hP : va_P D zCl (va_pl L f1) H := by rw [hf1]; exact hP
        have p2 : f1 h = .inr (1, [.ref b, .int pv]) := by rw [hf1, mm_si_ne (mm_IO q2 q1)]; exact q1
        have p3 : mm_I tys f1 b 144 (upd g ((fr * 12) + i) ((ab + k) + v)) := by rw [hf1]; exact q2.set
        refine lv_iinc (v := nI (i + 1)) (lv' := [(7, .int (nI (i + 1))), (8, .int v), (5, .int (nI fr)), (6, .int ab), (0, .ref h), (1, .int (nI a)), (2, .int (nI bb)), (3, .int k), (4, .int bk)]) hx hb dK_learn_161 hl (k := 1) rfl (nI_add i 1) (by decide) rfl (fun ls hl => ?_)
        refine lv_goto (tgt := 83) hx hb dK_learn_164 (by decide) ?_
        refine ih (i + 1) (r_l1 fr bb k ab i g) (by omega) H locs ls ?_ hS (lv_sub hl [0, 2, 3, 4, 5, 6, 7, 8] rfl) hk
        rw [show r_l1 fr bb k ab i g = upd g (fr * 12 + i) (ab + k + v) from by unfold r_l1; rw [if_neg (by rw [← ev]; exact c115), if_neg (by rw [← ev]; exact c138), ev]]
        rw [hf1, mm_si_si] at hP
        exact hP
set_option maxRecDepth 100000 in
set_option maxHeartbeats 4000000 in
theorem k_learn_out {p : Program} {l : Launch} {e : Env} {s : State} {m : MethodId} {args : Array Value} {below : List Frame} {meth : Method} {c : Code} {D : va_G} {tys : List (ClassId × FieldType)} {L : List Nat} {f : Nat → va_E} {Q : State → Prop} (C0 : Cx p s m args meth c cK_learn 9 "LiquidChecker$Known" none D tys) (hn : L.Nodup) {h b : Nat} {pv : Int32} {g0 : Nat → Int32} (hh : h ∈ L) (hbL : b ∈ L) (h1 : f h = .inr (1, [.ref b, .int pv])) (h2 : mm_I tys f b 144 g0) {a bb : Nat} {k bk : Int32} (ha : a < 12) (hbb : bb < 12) : ∀ (n i : Nat) (g : Nat → Int32), i + n = 12 → ∀ (H : Heap) (locs : List Loc) (ls : Array Slot), va_P D zCl (va_pl L (mm_si f b g)) H → va_S (inL L) s.heap H locs → lv_has ls 9 [(5, .int (nI i)), (0, .ref h), (1, .int (nI a)), (2, .int (nI bb)), (3, .int k), (4, .int bk)] → (∀ (H : Heap) (locs : List Loc) (ls : Array Slot), va_P D zCl (va_pl L (mm_si f b (r_it (r_l2 a bb k) n i g))) H → va_S (inL L) s.heap H locs → lv_has ls 9 [(5, .int (nI 12)), (0, .ref h), (1, .int (nI a)), (2, .int (nI bb)), (3, .int k), (4, .int bk)] → W p l e ({ frames := 0, cells := 0, slots := 0, locals := 0 } : Room) s m args below meth c H locs 0 0 Q (F0 m 173 ls [])) → W p l e ({ frames := 0, cells := 0, slots := 0, locals := 0 } : Room) s m args below meth c H locs 0 0 Q (F0 m 59 ls []) := by
  obtain ⟨hx, hb, hml, hown, hg, hr, hlocks, hK, hN⟩ := id C0
  have hA : ∀ a ∈ L, inL L a := fun _ h => h
  intro n
  induction n with
  | zero =>
    intro i g hi H locs ls hP hS hl hk
    obtain rfl : i = 12 := by omega
    have q2 : mm_I tys (mm_si f b g) b 144 g := h2.set
    have q1 : mm_si f b g h = .inr (1, [.ref b, .int pv]) := by rw [mm_si_ne (mm_IO h2 h1)]; exact h1
    refine lv_iload hx hb dK_learn_59 (lv_at hl 0 rfl) ?_
    refine lv_bipush (v := nI 12) hx hb dK_learn_61 (by decide) ?_
    refine lv_icmp_ge (tgt := 173) hx hb dK_learn_63 (by decide) (fun c63 => ?_) (fun c63 => absurd (nI_le (by omega) (by omega)) c63)
    exact hk H locs ls hP hS (lv_sub hl [0, 1, 2, 3, 4, 5] rfl)
  | succ n ih =>
    intro i g hi H locs ls hP hS hl hk
    have q2 : mm_I tys (mm_si f b g) b 144 g := h2.set
    have q1 : mm_si f b g h = .inr (1, [.ref b, .int pv]) := by rw [mm_si_ne (mm_IO h2 h1)]; exact h1
    refine lv_iload hx hb dK_learn_59 (lv_at hl 0 rfl) ?_
    refine lv_bipush (v := nI 12) hx hb dK_learn_61 (by decide) ?_
    refine lv_icmp_ge (tgt := 173) hx hb dK_learn_63 (by decide) (fun c63 => absurd c63 (nI_ge (show i < 12 by omega) (by omega))) (fun c63 => ?_)
    refine lv_aload_n hx hb dK_learn_66 rfl (lv_at hl 1 rfl) ?_
    refine mm_get (v := .ref b) hx hb hg inK hown hK hP hh q1 rfl 0 (by decide) (hg _ gw41) (fun _ h9 => h9) rfl dK_learn_67 ?_
    refine lv_iload hx hb dK_learn_70 (lv_at hl 0 rfl) ?_
    refine lv_bipush (v := nI 12) hx hb dK_learn_72 (by decide) ?_
    refine lv_imul hx hb dK_learn_74 ?_
    rw [pk_mul]
    refine lv_iload_n hx hb dK_learn_75 rfl (lv_at hl 2 rfl) ?_
    refine lv_iadd hx hb dK_learn_76 ?_
    rw [nI_add]
    refine mm_iald hx hb hK hP hbL q2 (vp_in_nI (show (i * 12) + a < 144 by omega) (by omega)) dK_learn_77 ?_
    rw [nI_clamp (by omega)]
    refine lv_topi (fun ab eab => ?_)
    refine lv_istore (lv' := [(6, .int ab), (5, .int (nI i)), (0, .ref h), (1, .int (nI a)), (2, .int (nI bb)), (3, .int k), (4, .int bk)]) hx hb dK_learn_78 hl (by decide) rfl (fun ls hl => ?_)
    refine lv_iconst (v := nI 0) hx hb dK_learn_80 (by decide) ?_
    refine lv_istore (lv' := [(7, .int (nI 0)), (6, .int ab), (5, .int (nI i)), (0, .ref h), (1, .int (nI a)), (2, .int (nI bb)), (3, .int k), (4, .int bk)]) hx hb dK_learn_81 hl (by decide) rfl (fun ls hl => ?_)
    by_cases hab : ab = 2147483647
    · refine lv_iload hx hb dK_learn_83 (lv_at hl 0 rfl) ?_
      refine lv_bipush (v := nI 12) hx hb dK_learn_85 (by decide) ?_
      refine lv_icmp_ge (tgt := 167) hx hb dK_learn_87 (by decide) (fun c87 => absurd c87 (nI_ge (show 0 < 12 by omega) (by omega))) (fun c87 => ?_)
      refine lv_iload hx hb dK_learn_90 (lv_at hl 1 rfl) ?_
      refine lv_ldc hx hb hown (hg _ gw417) dK_learn_92 ?_
      refine lv_icmp_eq (tgt := 167) hx hb dK_learn_94 (by decide) (fun c94 => ?_) (fun c94 => absurd hab c94)
      refine lv_iinc (v := nI (i + 1)) (lv' := [(5, .int (nI (i + 1))), (7, .int (nI 0)), (6, .int ab), (0, .ref h), (1, .int (nI a)), (2, .int (nI bb)), (3, .int k), (4, .int bk)]) hx hb dK_learn_167 hl (k := 2) rfl (nI_add i 1) (by decide) rfl (fun ls hl => ?_)
      refine lv_goto (tgt := 59) hx hb dK_learn_170 (by decide) ?_
      refine ih (i + 1) (r_l2 a bb k i g) (by omega) H locs ls ?_ hS (lv_sub hl [0, 3, 4, 5, 6, 7] rfl) hk
      rw [show r_l2 a bb k i g = g from if_pos (by rw [← eab]; exact hab)]
      exact hP
    · refine k_learn_in C0 hn hh hbL h1 h2 ha hbb (show i < 12 by omega) hab 12 0 g (by omega) H locs ls hP hS (lv_sub hl [0, 2, 1, 3, 4, 5, 6, 7] rfl) (fun H locs ls hP hS hl => ?_)
      refine lv_iinc (v := nI (i + 1)) (lv' := [(5, .int (nI (i + 1))), (7, .int (nI 12)), (6, .int ab), (0, .ref h), (1, .int (nI a)), (2, .int (nI bb)), (3, .int k), (4, .int bk)]) hx hb dK_learn_167 hl (k := 1) rfl (nI_add i 1) (by decide) rfl (fun ls hl => ?_)
      refine lv_goto (tgt := 59) hx hb dK_learn_170 (by decide) ?_
      refine ih (i + 1) (r_l2 a bb k i g) (by omega) H locs ls ?_ hS (lv_sub hl [0, 3, 4, 5, 6, 7] rfl) hk
      rw [show r_l2 a bb k i g = r_it (r_l1 i bb k ab) 12 0 g from by unfold r_l2; rw [← eab]; exact if_neg hab]
      exact hP
/-- what learn leaves -/
def r_learn (a b : Nat) (k pv : Int32) (g : Nat → Int32) (h hb : Nat) (f : Nat → va_E) : Nat → va_E :=
  if pv = 0 then f else if ¬ k < g (a * 12 + b) then f else if ¬ g (b * 12 + a) = 2147483647 ∧ ¬ 0 ≤ g (b * 12 + a) + k then va_up f h (.inr (1, [.ref hb, .int (nI 0)])) else mm_si f hb (r_ln a b k g)
set_option maxRecDepth 100000 in
set_option maxHeartbeats 4000000 in
theorem k_learn {l : Launch} {D : va_G} {tys : List (ClassId × FieldType)} {L : List Nat} {f : Nat → va_E} (hn : L.Nodup) {h b : Nat} {pv : Int32} {g : Nat → Int32} (hh : h ∈ L) (hbL : b ∈ L) (h1 : f h = .inr (1, [.ref b, .int pv])) (h2 : mm_I tys f b 144 g) {a bb : Nat} {k : Int32} (ha : a < 12) (hbb : bb < 12) : MetV l yK_learn wK_learn ({ frames := 0, cells := 0, slots := 0, locals := 0 } : Room) D tys L f [.ref h, .int (nI a), .int (nI bb), .int k] (fun f' => f' = r_learn a bb k pv g h b f) := by
  refine met_of "LiquidChecker$Known" (by decide) rfl (Nat.le_of_ble_eq_true rfl) ?_
  intro p e s m below meth c ls C0 hP hl
  obtain ⟨hx, hb, hml, hown, hg, hr, hlocks, hK, hN⟩ := id C0
  have hA : ∀ a ∈ L, inL L a := fun _ h => h
  obtain ⟨H, hH⟩ : ∃ z, z = s.heap := ⟨_, rfl⟩
  rw [← hH] at hP ⊢
  have hS : va_S (inL L) s.heap H [] := by rw [hH]; exact va_S.rf
  have hl : lv_has ls 9 [(0, .ref h), (1, .int (nI a)), (2, .int (nI bb)), (3, .int k)] := hl
  refine lv_aload_n hx hb dK_learn_0 rfl (lv_at hl 0 rfl) ?_
  refine mm_get (v := .int pv) hx hb hg inK hown hK hP hh h1 rfl 1 (by decide) (hg _ gw42) (fun _ h9 => h9) rfl dK_learn_1 ?_
  refine lv_if_eq (tgt := 22) hx hb dK_learn_4 (by decide) (fun c4 => ?_) (fun c4 => ?_)
  · exact ret_v C0 hP hS (by unfold r_learn; rw [if_pos c4]) dK_learn_22
  · refine lv_aload_n hx hb dK_learn_7 rfl (lv_at hl 0 rfl) ?_
    refine mm_get (v := .ref b) hx hb hg inK hown hK hP hh h1 rfl 0 (by decide) (hg _ gw41) (fun _ h9 => h9) rfl dK_learn_8 ?_
    refine lv_iload_n hx hb dK_learn_11 rfl (lv_at hl 1 rfl) ?_
    refine lv_bipush (v := nI 12) hx hb dK_learn_12 (by decide) ?_
    refine lv_imul hx hb dK_learn_14 ?_
    rw [pk_mul]
    refine lv_iload_n hx hb dK_learn_15 rfl (lv_at hl 2 rfl) ?_
    refine lv_iadd hx hb dK_learn_16 ?_
    rw [nI_add]
    refine mm_iald hx hb hK hP hbL h2 (vp_in_nI (show (a * 12) + bb < 144 by omega) (by omega)) dK_learn_17 ?_
    rw [nI_clamp (by omega)]
    refine lv_iload_n hx hb dK_learn_18 rfl (lv_at hl 3 rfl) ?_
    refine lv_icmp_gt (tgt := 23) hx hb dK_learn_19 (by decide) (fun c19 => ?_) (fun c19 => ?_)
    · refine lv_aload_n hx hb dK_learn_23 rfl (lv_at hl 0 rfl) ?_
      refine mm_get (v := .ref b) hx hb hg inK hown hK hP hh h1 rfl 0 (by decide) (hg _ gw41) (fun _ h9 => h9) rfl dK_learn_24 ?_
      refine lv_iload_n hx hb dK_learn_27 rfl (lv_at hl 2 rfl) ?_
      refine lv_bipush (v := nI 12) hx hb dK_learn_28 (by decide) ?_
      refine lv_imul hx hb dK_learn_30 ?_
      rw [pk_mul]
      refine lv_iload_n hx hb dK_learn_31 rfl (lv_at hl 1 rfl) ?_
      refine lv_iadd hx hb dK_learn_32 ?_
      rw [nI_add]
      refine mm_iald hx hb hK hP hbL h2 (vp_in_nI (show (bb * 12) + a < 144 by omega) (by omega)) dK_learn_33 ?_
      rw [nI_clamp (by omega)]
      refine lv_topi (fun bk ebk => ?_)
      refine lv_istore (lv' := [(4, .int bk), (0, .ref h), (1, .int (nI a)), (2, .int (nI bb)), (3, .int k)]) hx hb dK_learn_34 hl (by decide) rfl (fun ls hl => ?_)
      refine lv_iload hx hb dK_learn_36 (lv_at hl 0 rfl) ?_
      refine lv_ldc hx hb hown (hg _ gw417) dK_learn_38 ?_
      refine lv_icmp_eq (tgt := 56) hx hb dK_learn_40 (by decide) (fun c40 => ?_) (fun c40 => ?_)
      · refine lv_iconst (v := nI 0) hx hb dK_learn_56 (by decide) ?_
        refine lv_istore (lv' := [(5, .int (nI 0)), (4, .int bk), (0, .ref h), (1, .int (nI a)), (2, .int (nI bb)), (3, .int k)]) hx hb dK_learn_57 hl (by decide) rfl (fun ls hl => ?_)
        refine k_learn_out C0 hn hh hbL h1 h2 ha hbb 12 0 g (by omega) H [] ls (by rw [mm_si_id h2]; exact hP) hS (lv_sub hl [0, 2, 3, 4, 5, 1] rfl) (fun H locs ls hP hS hl => ?_)
        exact ret_v C0 hP hS (by unfold r_learn; rw [if_neg c4, if_neg (Decidable.not_not.mpr c19), if_neg (by rw [← ebk]; exact fun h9 => h9.1 c40)]; rfl) dK_learn_173
      · refine lv_iload hx hb dK_learn_43 (lv_at hl 0 rfl) ?_
        refine lv_iload_n hx hb dK_learn_45 rfl (lv_at hl 4 rfl) ?_
        refine lv_iadd hx hb dK_learn_46 ?_
        refine lv_if_ge (tgt := 56) hx hb dK_learn_47 (by decide) (fun c47 => ?_) (fun c47 => ?_)
        · refine lv_iconst (v := nI 0) hx hb dK_learn_56 (by decide) ?_
          refine lv_istore (lv' := [(5, .int (nI 0)), (4, .int bk), (0, .ref h), (1, .int (nI a)), (2, .int (nI bb)), (3, .int k)]) hx hb dK_learn_57 hl (by decide) rfl (fun ls hl => ?_)
          refine k_learn_out C0 hn hh hbL h1 h2 ha hbb 12 0 g (by omega) H [] ls (by rw [mm_si_id h2]; exact hP) hS (lv_sub hl [0, 2, 3, 4, 5, 1] rfl) (fun H locs ls hP hS hl => ?_)
          exact ret_v C0 hP hS (by unfold r_learn; rw [if_neg c4, if_neg (Decidable.not_not.mpr c19), if_neg (by rw [← ebk]; exact fun h9 => h9.2 c47)]; rfl) dK_learn_173
        · refine lv_aload_n hx hb dK_learn_50 rfl (lv_at hl 1 rfl) ?_
          refine lv_iconst (v := nI 0) hx hb dK_learn_51 (by decide) ?_
          refine mm_put (v := .int (nI 0)) (ty := .boolean) hx hb hg inK tyK tyK_ok nmK hown hK hn hA hP hS hh h1 rfl 1 (by decide) (hg _ gw42) (fun _ h9 => h9) rfl (by decide +kernel) rfl rfl (Nat.le_of_ble_eq_true rfl) dK_learn_52 (fun H locs hP hS => ?_)
          obtain ⟨f1, hf1⟩ : ∃ z, z = va_up f h (.inr (1, [.ref b, .int (nI 0)])) := ⟨_, rfl⟩
          have hP : va_P D zCl (va_pl L f1) H := by rw [hf1]; exact hP
          have p2 : mm_I tys f1 b 144 g := h2.eq (by rw [hf1, va_up_ne _ _ (Ne.symm (mm_IO h2 h1))])
          have p3 : f1 h = .inr (1, [.ref b, .int (nI 0)]) := by rw [hf1]; exact va_up_self _ _ _
          exact ret_v C0 hP hS (by rw [hf1]; unfold r_learn; rw [if_neg c4, if_neg (Decidable.not_not.mpr c19), if_pos ⟨by rw [← ebk]; exact c40, by rw [← ebk]; exact c47⟩]) dK_learn_55
    · exact ret_v C0 hP hS (by unfold r_learn; rw [if_neg c4, if_pos c19]) dK_learn_22
end
section
/-! Arrays.fill of ints, System.arraycopy of a whole row, Known.forgetAll, Known.copyFrom -/
theorem b01 {v : Int32} (h : v = nI 0 ∨ v = nI 1) : narrow .boolean (.int v) = .int v ∧ fits .boolean (.int v) = true := by
  rcases h with rfl | rfl <;> exact ⟨rfl, rfl⟩
theorem met_imp {l : Launch} {y : MethodName} {ws : List Cond} {rm : Room} {Pc : Array Value → State → Prop} {Qc Qc' : Array Value → State → Outcome → State → Prop} {mc ms : Nat} {free : Addr → Prop} (h : Met l y ws rm Pc Qc mc ms free) (hi : ∀ a s o t, Qc a s o t → Qc' a s o t) : Met l y ws rm Pc Qc' mc ms free := fun p e h1 h2 h3 s m args below h4 h5 h6 h7 => by
  obtain ⟨n, o, a1, a2, a3, a4, L, a5, a6⟩ := h p e h1 h2 h3 s m args below h4 h5 h6 h7
  exact ⟨n, o, a1, a2, a3, hi _ _ _ _ a4, L, a5, a6⟩
theorem metv_imp {l : Launch} {y : MethodName} {ws : List Cond} {rm : Room} {D : va_G} {tys : List (ClassId × FieldType)} {L : List Nat} {f : Nat → va_E} {av : List Value} {post post' : (Nat → va_E) → Prop} (h : MetV l y ws rm D tys L f av post) (hi : ∀ f', post f' → post' f') : MetV l y ws rm D tys L f av post' := met_imp h (fun a s o t ⟨⟨u, h1, h2, h3⟩, h4⟩ => ⟨⟨u, h1, hi u h2, h3⟩, h4⟩)
theorem meti_imp {l : Launch} {y : MethodName} {ws : List Cond} {rm : Room} {D : va_G} {tys : List (ClassId × FieldType)} {L : List Nat} {f : Nat → va_E} {av : List Value} {post post' : Int32 → (Nat → va_E) → Prop} (h : MetI l y ws rm D tys L f av post) (hi : ∀ r f', post r f' → post' r f') : MetI l y ws rm D tys L f av post' := met_imp h (fun a s o t ⟨⟨r, u, h1, h2, h3⟩, h4⟩ => ⟨⟨r, u, h1, hi r u h2, h3⟩, h4⟩)
section MCP
variable {p : Program} {l : Launch} {e : Env} {R : Room} {s : State} {m : MethodId} {args : Array Value} {below : List Frame} {meth : Method} {c : Code} {H : Heap} {locs : List Loc} {cells slots : Nat} {Q : State → Prop}
variable {cc : ByteArray} {pc : Nat} {ls : Array Slot} {rest : List Value} {D : va_G} {cl : List vw_C} {A : Nat → Prop} {a a0 : Nat} {tys : List (ClassId × FieldType)} {H0 : Heap} {L : List Nat} {f : Nat → va_E}
theorem mm_copyi (hexec : p.tables.exec = Jvm.exec) (hb : c.code = cc) (hml : c.maxLocals = ls.size) {own : String} {index : Nat} (hown : s.vm.findClass own = some m.cls) (hlink : (Cond.methodLink own index arraycopyName).before args s = true) (hnat : (Cond.native arraycopyName).before args s = true) (hstat : (Cond.static arraycopyName).before args s = true) (hini : (Cond.initialized "java/lang/System").before args s = true)
    (hK : va_K D cl tys s) (hn : L.Nodup) (hA : ∀ a ∈ L, A a) (hP : va_P D cl (va_pl L f) H) (hS : va_S A H0 H locs) {n0 n1 n : Nat} {g0 g1 : Nat → Int32} (h0 : a0 ∈ L) (hf0 : mm_I tys f a0 n0 g0) (ha : a ∈ L) (hf1 : mm_I tys f a n1 g1) (hn0 : n ≤ n0) (hn1 : n ≤ n1) (hn2 : n < 2 ^ 31)
    (hframes : 1 ≤ R.frames) (hlocals : (rest.map fun v => v.category).sum + (nativeFrameWords "java/lang/System" "arraycopy" 5 + 11) ≤ R.locals) (hdg : decode cc pc = .ok (.invokestatic index, 3))
    (kk : ∀ (H1 : Heap) (locs1 : List Loc), va_P D cl (va_pl L (mm_si f a (va_cpy g0 g1 0 0 n))) H1 → va_S A H0 H1 locs1 → W p l e R s m args below meth c H1 locs1 cells slots Q (F0 m (pc + 3) ls rest)) : W p l e R s m args below meth c H locs cells slots Q (F0 m pc ls (.int (nI n) :: .int (nI 0) :: .ref a :: .int (nI 0) :: .ref a0 :: rest)) := by
  obtain ⟨c0, e0, t0⟩ := hf0
  obtain ⟨c1, e1, t1⟩ := hf1
  obtain ⟨q0, hq0⟩ := mm_at h0 e0
  obtain ⟨q1, hq1⟩ := mm_at ha e1
  obtain ⟨u0, hu0⟩ := List.getElem?_of_mem t0
  obtain ⟨u1, hu1⟩ := List.getElem?_of_mem t1
  have hD : va_D A (va_pl L f) := mm_D hn hA
  have z0 : (nI 0).toNatClampNeg = 0 := nI_clamp (by omega)
  have zn : (nI n).toNatClampNeg = n := nI_clamp hn2
  refine va_copyi hexec hb hml hown hlink hnat hstat hini hK hP hD hS q0 q1 u0 u1 hq0 hq1 hu0 hu1 rfl (nI_pos (by omega)) (nI_pos (by omega)) (nI_pos hn2) (by rw [z0, zn]; omega) (by rw [z0, zn]; omega) (fun i _ => rfl) hframes hlocals hdg (fun H1 locs1 p1 _ p3 => kk H1 locs1 ?_ p3)
  rw [z0, zn] at p1
  rw [mm_si_eq e1, ← mm_set hD ha e1 hq1]
  exact p1
end MCP
set_option maxRecDepth 100000 in
set_option maxHeartbeats 4000000 in
theorem a_fill_loop {p : Program} {l : Launch} {e : Env} {s : State} {m : MethodId} {args : Array Value} {below : List Frame} {meth : Method} {c : Code} {D : va_G} {tys : List (ClassId × FieldType)} {L : List Nat} {f : Nat → va_E} {Q : State → Prop} (C0 : Cx p s m args meth c cA_fill 4 "java/util/Arrays" none D tys) (hn : L.Nodup) {b N : Nat} {v : Int32} {g0 : Nat → Int32} (hN2 : N < 2 ^ 31) (hbL : b ∈ L) (h2 : mm_I tys f b N g0) : ∀ (n i : Nat) (g : Nat → Int32), i + n = N → ∀ (H : Heap) (locs : List Loc) (ls : Array Slot), va_P D zCl (va_pl L (mm_si f b g)) H → va_S (inL L) s.heap H locs → lv_has ls 4 [(2, .int (nI i)), (0, .ref b), (1, .int v), (3, .int (nI N))] → (∀ (H : Heap) (locs : List Loc) (ls : Array Slot), va_P D zCl (va_pl L (mm_si f b (r_it (fun j g => upd g j v) n i g))) H → va_S (inL L) s.heap H locs → lv_has ls 4 [(2, .int (nI N)), (0, .ref b), (1, .int v), (3, .int (nI N))] → W p l e ({ frames := 0, cells := 0, slots := 0, locals := 0 } : Room) s m args below meth c H locs 0 0 Q (F0 m 20 ls [])) → W p l e ({ frames := 0, cells := 0, slots := 0, locals := 0 } : Room) s m args below meth c H locs 0 0 Q (F0 m 5 ls []) := by
  obtain ⟨hx, hb, hml, hown, hg, hr, hlocks, hK, hN⟩ := id C0
  have hA : ∀ a ∈ L, inL L a := fun _ h => h
  intro n
  induction n with
  | zero =>
    intro i g hi H locs ls hP hS hl hk
    obtain rfl : N = i := by omega
    have q2 : mm_I tys (mm_si f b g) b N g := h2.set
    refine lv_iload_n hx hb dA_fill_5 rfl (lv_at hl 0 rfl) ?_
    refine lv_iload_n hx hb dA_fill_6 rfl (lv_at hl 3 rfl) ?_
    refine lv_icmp_ge (tgt := 20) hx hb dA_fill_7 (by decide) (fun c7 => ?_) (fun c7 => absurd (nI_le (by omega) (by omega)) c7)
    exact hk H locs ls hP hS (lv_sub hl [0, 1, 2, 3] rfl)
  | succ n ih =>
    intro i g hi H locs ls hP hS hl hk
    have q2 : mm_I tys (mm_si f b g) b N g := h2.set
    refine lv_iload_n hx hb dA_fill_5 rfl (lv_at hl 0 rfl) ?_
    refine lv_iload_n hx hb dA_fill_6 rfl (lv_at hl 3 rfl) ?_
    refine lv_icmp_ge (tgt := 20) hx hb dA_fill_7 (by decide) (fun c7 => absurd c7 (nI_ge (show i < N by omega) (by omega))) (fun c7 => ?_)
    refine lv_aload_n hx hb dA_fill_10 rfl (lv_at hl 1 rfl) ?_
    refine lv_iload_n hx hb dA_fill_11 rfl (lv_at hl 0 rfl) ?_
    refine lv_iload_n hx hb dA_fill_12 rfl (lv_at hl 2 rfl) ?_
    refine mm_iast hx hb hK hn hA hP hS hbL q2 (vp_in_nI (show i < N by omega) (by omega)) dA_fill_13 (fun H locs hP hS => ?_)
    rw [nI_clamp (by omega)] at hP
    obtain ⟨f1, hf1⟩ : ∃ z, z = mm_si (mm_si f b g) b (upd g i v) := ⟨_, rfl⟩
    have hP : va_P D zCl (va_pl L f1) H := by rw [hf1]; exact hP
    have p2 : mm_I tys f1 b N (upd g i v) := by rw [hf1]; exact q2.set
    refine lv_iinc (v := nI (i + 1)) (lv' := [(2, .int (nI (i + 1))), (0, .ref b), (1, .int v), (3, .int (nI N))]) hx hb dA_fill_14 hl (k := 0) rfl (nI_add i 1) (by decide) rfl (fun ls hl => ?_)
    refine lv_goto (tgt := 5) hx hb dA_fill_17 (by decide) ?_
    refine ih (i + 1) (upd g i v) (by omega) H locs ls ?_ hS (lv_sub hl [0, 1, 2, 3] rfl) hk
    rw [hf1, mm_si_si] at hP
    exact hP
set_option maxRecDepth 100000 in
set_option maxHeartbeats 4000000 in
theorem a_fill {l : Launch} {D : va_G} {tys : List (ClassId × FieldType)} {L : List Nat} {f : Nat → va_E} (hn : L.Nodup) {b N : Nat} {v : Int32} {g0 : Nat → Int32} (hN2 : N < 2 ^ 31) (hbL : b ∈ L) (h2 : mm_I tys f b N g0) : MetV l yA_fill wA_fill ({ frames := 0, cells := 0, slots := 0, locals := 0 } : Room) D tys L f [.ref b, .int v] (fun f' => f' = mm_si f b (r_it (fun j g => upd g j v) N 0 g0)) := by
  refine met_of "java/util/Arrays" (by decide) rfl (Nat.le_of_ble_eq_true rfl) ?_
  intro p e s m below meth c ls C0 hP hl
  obtain ⟨hx, hb, hml, hown, hg, hr, hlocks, hK, hN⟩ := id C0
  have hA : ∀ a ∈ L, inL L a := fun _ h => h
  obtain ⟨H, hH⟩ : ∃ z, z = s.heap := ⟨_, rfl⟩
  rw [← hH] at hP ⊢
  have hS : va_S (inL L) s.heap H [] := by rw [hH]; exact va_S.rf
  have hl : lv_has ls 4 [(0, .ref b), (1, .int v)] := hl
  refine lv_iconst (v := nI 0) hx hb dA_fill_0 (by decide) ?_
  refine lv_istore_n (lv' := [(2, .int (nI 0)), (0, .ref b), (1, .int v)]) hx hb dA_fill_1 rfl hl (by decide) rfl (fun ls hl => ?_)
  refine lv_aload_n hx hb dA_fill_2 rfl (lv_at hl 1 rfl) ?_
  refine mm_alen hx hb hK hP hbL h2 dA_fill_3 ?_
  refine lv_istore_n (lv' := [(3, .int (nI N)), (2, .int (nI 0)), (0, .ref b), (1, .int v)]) hx hb dA_fill_4 rfl hl (by decide) rfl (fun ls hl => ?_)
  refine a_fill_loop C0 hn hN2 hbL h2 N 0 g0 (by omega) H [] ls (by rw [mm_si_id h2]; exact hP) hS (lv_sub hl [1, 2, 3, 0] rfl) (fun H locs ls hP hS hl => ?_)
  exact ret_v C0 hP hS rfl dA_fill_20
set_option maxRecDepth 100000 in
set_option maxHeartbeats 4000000 in
theorem k_fa_loop {p : Program} {l : Launch} {e : Env} {s : State} {m : MethodId} {args : Array Value} {below : List Frame} {meth : Method} {c : Code} {D : va_G} {tys : List (ClassId × FieldType)} {L : List Nat} {f : Nat → va_E} {Q : State → Prop} (C0 : Cx p s m args meth c cK_forgetAll 2 "LiquidChecker$Known" none D tys) (hn : L.Nodup) {h b : Nat} {pv : Int32} {g0 : Nat → Int32} (hh : h ∈ L) (hbL : b ∈ L) (h1 : f h = .inr (1, [.ref b, .int pv])) (h2 : mm_I tys f b 144 g0) : ∀ (n i : Nat) (g : Nat → Int32), i + n = 12 → ∀ (H : Heap) (locs : List Loc) (ls : Array Slot), va_P D zCl (va_pl L (mm_si f b g)) H → va_S (inL L) s.heap H locs → lv_has ls 2 [(1, .int (nI i)), (0, .ref h)] → (∀ (H : Heap) (locs : List Loc) (ls : Array Slot), va_P D zCl (va_pl L (mm_si f b (r_it (fun j g => upd g (j * 12 + j) (nI 0)) n i g))) H → va_S (inL L) s.heap H locs → lv_has ls 2 [(1, .int (nI 12)), (0, .ref h)] → W p l e ({ frames := 1, cells := 0, slots := 0, locals := 23 } : Room) s m args below meth c H locs 0 0 Q (F0 m 35 ls [])) → W p l e ({ frames := 1, cells := 0, slots := 0, locals := 23 } : Room) s m args below meth c H locs 0 0 Q (F0 m 11 ls []) := by
  obtain ⟨hx, hb, hml, hown, hg, hr, hlocks, hK, hN⟩ := id C0
  have hA : ∀ a ∈ L, inL L a := fun _ h => h
  intro n
  induction n with
  | zero =>
    intro i g hi H locs ls hP hS hl hk
    obtain rfl : i = 12 := by omega
    have q2 : mm_I tys (mm_si f b g) b 144 g := h2.set
    have q1 : mm_si f b g h = .inr (1, [.ref b, .int pv]) := by rw [mm_si_ne (mm_IO h2 h1)]; exact h1
    refine lv_iload_n hx hb dK_forgetAll_11 rfl (lv_at hl 0 rfl) ?_
    refine lv_bipush (v := nI 12) hx hb dK_forgetAll_12 (by decide) ?_
    refine lv_icmp_ge (tgt := 35) hx hb dK_forgetAll_14 (by decide) (fun c14 => ?_) (fun c14 => absurd (nI_le (by omega) (by omega)) c14)
    exact hk H locs ls hP hS (lv_sub hl [0, 1] rfl)
  | succ n ih =>
    intro i g hi H locs ls hP hS hl hk
    have q2 : mm_I tys (mm_si f b g) b 144 g := h2.set
    have q1 : mm_si f b g h = .inr (1, [.ref b, .int pv]) := by rw [mm_si_ne (mm_IO h2 h1)]; exact h1
    refine lv_iload_n hx hb dK_forgetAll_11 rfl (lv_at hl 0 rfl) ?_
    refine lv_bipush (v := nI 12) hx hb dK_forgetAll_12 (by decide) ?_
    refine lv_icmp_ge (tgt := 35) hx hb dK_forgetAll_14 (by decide) (fun c14 => absurd c14 (nI_ge (show i < 12 by omega) (by omega))) (fun c14 => ?_)
    refine lv_aload_n hx hb dK_forgetAll_17 rfl (lv_at hl 1 rfl) ?_
    refine mm_get (v := .ref b) hx hb hg inK hown hK hP hh q1 rfl 0 (by decide) (hg _ gw41) (fun _ h9 => h9) rfl dK_forgetAll_18 ?_
    refine lv_iload_n hx hb dK_forgetAll_21 rfl (lv_at hl 0 rfl) ?_
    refine lv_bipush (v := nI 12) hx hb dK_forgetAll_22 (by decide) ?_
    refine lv_imul hx hb dK_forgetAll_24 ?_
    rw [pk_mul]
    refine lv_iload_n hx hb dK_forgetAll_25 rfl (lv_at hl 0 rfl) ?_
    refine lv_iadd hx hb dK_forgetAll_26 ?_
    rw [nI_add]
    refine lv_iconst (v := nI 0) hx hb dK_forgetAll_27 (by decide) ?_
    refine mm_iast hx hb hK hn hA hP hS hbL q2 (vp_in_nI (show (i * 12) + i < 144 by omega) (by omega)) dK_forgetAll_28 (fun H locs hP hS => ?_)
    rw [nI_clamp (by omega)] at hP
    obtain ⟨f1, hf1⟩ : ∃ z, z = mm_si (mm_si f b g) b (upd g ((i * 12) + i) (nI 0)) := ⟨_, rfl⟩
    have hP : va_P D zCl (va_pl L f1) H := by rw [hf1]; exact hP
    have p2 : f1 h = .inr (1, [.ref b, .int pv]) := by rw [hf1, mm_si_ne (mm_IO q2 q1)]; exact q1
    have p3 : mm_I tys f1 b 144 (upd g ((i * 12) + i) (nI 0)) := by rw [hf1]; exact q2.set
    refine lv_iinc (v := nI (i + 1)) (lv' := [(1, .int (nI (i + 1))), (0, .ref h)]) hx hb dK_forgetAll_29 hl (k := 0) rfl (nI_add i 1) (by decide) rfl (fun ls hl => ?_)
    refine lv_goto (tgt := 11) hx hb dK_forgetAll_32 (by decide) ?_
    refine ih (i + 1) (upd g (i * 12 + i) (nI 0)) (by omega) H locs ls ?_ hS (lv_sub hl [0, 1] rfl) hk
    rw [hf1, mm_si_si] at hP
    exact hP
def r_fa (g : Nat → Int32) : Nat → Int32 := r_it (fun j g => upd g (j * 12 + j) (nI 0)) 12 0 (r_it (fun j g => upd g j 2147483647) 144 0 g)
set_option maxRecDepth 100000 in
set_option maxHeartbeats 4000000 in
theorem k_forgetAll {l : Launch} {D : va_G} {tys : List (ClassId × FieldType)} {L : List Nat} {f : Nat → va_E} (hn : L.Nodup) {h b : Nat} {pv : Int32} {g0 : Nat → Int32} (hh : h ∈ L) (hbL : b ∈ L) (h1 : f h = .inr (1, [.ref b, .int pv])) (h2 : mm_I tys f b 144 g0) : MetV l yK_forgetAll wK_forgetAll ({ frames := 1, cells := 0, slots := 0, locals := 23 } : Room) D tys L f [.ref h] (fun f' => f' = va_up (mm_si f b (r_fa g0)) h (.inr (1, [.ref b, .int (nI 1)]))) := by
  refine met_of "LiquidChecker$Known" (by decide) rfl (Nat.le_of_ble_eq_true rfl) ?_
  intro p e s m below meth c ls C0 hP hl
  obtain ⟨hx, hb, hml, hown, hg, hr, hlocks, hK, hN⟩ := id C0
  have hA : ∀ a ∈ L, inL L a := fun _ h => h
  obtain ⟨H, hH⟩ : ∃ z, z = s.heap := ⟨_, rfl⟩
  rw [← hH] at hP ⊢
  have hS : va_S (inL L) s.heap H [] := by rw [hH]; exact va_S.rf
  have hl : lv_has ls 2 [(0, .ref h)] := hl
  refine lv_aload_n hx hb dK_forgetAll_0 rfl (lv_at hl 0 rfl) ?_
  refine mm_get (v := .ref b) hx hb hg inK hown hK hP hh h1 rfl 0 (by decide) (hg _ gw41) (fun _ h9 => h9) rfl dK_forgetAll_1 ?_
  refine lv_ldc hx hb hown (hg _ gw417) dK_forgetAll_4 ?_
  refine then_v (run_S (n := 2) (As := [.ref b, .int 2147483647]) (rest := []) C0 (a_fill hn (by omega) hbL h2) gw420 gw418 gw419 gw14 (by decide +kernel) ⟨Nat.le_of_ble_eq_true rfl, Nat.le_of_ble_eq_true rfl⟩ rfl rfl ⟨Nat.le_of_ble_eq_true rfl, Nat.le_of_ble_eq_true rfl⟩ hP rfl hl.1 rfl (Nat.le_of_ble_eq_true rfl) dK_forgetAll_6) hS hA (fun f1 H locs hq6 hP hS => ?_)
  rw [hq6] at hP
  obtain ⟨g, hgg⟩ : ∃ z, z = r_it (fun j g => upd g j 2147483647) 144 0 g0 := ⟨_, rfl⟩
  rw [← hgg] at hP
  have q2 : mm_I tys (mm_si f b g) b 144 g := h2.set
  have q1 : mm_si f b g h = .inr (1, [.ref b, .int pv]) := by rw [mm_si_ne (mm_IO h2 h1)]; exact h1
  refine lv_iconst (v := nI 0) hx hb dK_forgetAll_9 (by decide) ?_
  refine lv_istore_n (lv' := [(1, .int (nI 0)), (0, .ref h)]) hx hb dK_forgetAll_10 rfl hl (by decide) rfl (fun ls hl => ?_)
  refine k_fa_loop C0 hn hh hbL h1 h2 12 0 g (by omega) H locs ls hP hS (lv_sub hl [0, 1] rfl) (fun H locs ls hP hS hl => ?_)
  obtain ⟨g2, hg2⟩ : ∃ z, z = r_it (fun j g => upd g (j * 12 + j) (nI 0)) 12 0 g := ⟨_, rfl⟩
  rw [← hg2] at hP
  have q2 : mm_I tys (mm_si f b g2) b 144 g2 := h2.set
  have q1 : mm_si f b g2 h = .inr (1, [.ref b, .int pv]) := by rw [mm_si_ne (mm_IO h2 h1)]; exact h1
  refine lv_aload_n hx hb dK_forgetAll_35 rfl (lv_at hl 1 rfl) ?_
  refine lv_iconst (v := nI 1) hx hb dK_forgetAll_36 (by decide) ?_
  refine mm_put (v := .int (nI 1)) (ty := .boolean) hx hb hg inK tyK tyK_ok nmK hown hK hn hA hP hS hh q1 rfl 1 (by decide) (hg _ gw42) (fun _ h9 => h9) rfl (by decide +kernel) rfl rfl (Nat.le_of_ble_eq_true rfl) dK_forgetAll_37 (fun H locs hP hS => ?_)
  obtain ⟨f51, hf51⟩ : ∃ z, z = va_up (mm_si f b g2) h (.inr (1, [.ref b, .int (nI 1)])) := ⟨_, rfl⟩
  have hP : va_P D zCl (va_pl L f51) H := by rw [hf51]; exact hP
  have p52 : mm_I tys f51 b 144 g2 := q2.eq (by rw [hf51, va_up_ne _ _ (Ne.symm (mm_IO q2 q1))])
  have p53 : f51 h = .inr (1, [.ref b, .int (nI 1)]) := by rw [hf51]; exact va_up_self _ _ _
  exact ret_v C0 hP hS (by rw [hf51, hg2, hgg]; rfl) dK_forgetAll_40
set_option maxRecDepth 100000 in
set_option maxHeartbeats 4000000 in
theorem k_copyFrom {l : Launch} {D : va_G} {tys : List (ClassId × FieldType)} {L : List Nat} {f : Nat → va_E} (hn : L.Nodup) {h b h8 b8 : Nat} {pv pv8 : Int32} {g g8 : Nat → Int32} (hh : h ∈ L) (hbL : b ∈ L) (h1 : f h = .inr (1, [.ref b, .int pv])) (h2 : mm_I tys f b 144 g) (hh8 : h8 ∈ L) (hb8 : b8 ∈ L) (h18 : f h8 = .inr (1, [.ref b8, .int pv8])) (h28 : mm_I tys f b8 144 g8) (hbb : b8 ≠ b) (hhh : h8 ≠ h) (hz : pv8 = nI 0 ∨ pv8 = nI 1) : MetV l yK_copyFrom wK_copyFrom ({ frames := 1, cells := 0, slots := 0, locals := 18 } : Room) D tys L f [.ref h, .ref h8] (fun f' => f' = va_up (mm_si f b (va_cpy g8 g 0 0 144)) h (.inr (1, [.ref b, .int pv8]))) := by
  refine met_of "LiquidChecker$Known" (by decide) rfl (Nat.le_of_ble_eq_true rfl) ?_
  intro p e s m below meth c ls C0 hP hl
  obtain ⟨hx, hb, hml, hown, hg, hr, hlocks, hK, hN⟩ := id C0
  have hA : ∀ a ∈ L, inL L a := fun _ h => h
  obtain ⟨H, hH⟩ : ∃ z, z = s.heap := ⟨_, rfl⟩
  rw [← hH] at hP ⊢
  have hS : va_S (inL L) s.heap H [] := by rw [hH]; exact va_S.rf
  have hl : lv_has ls 2 [(0, .ref h), (1, .ref h8)] := hl
  refine lv_aload_n hx hb dK_copyFrom_0 rfl (lv_at hl 1 rfl) ?_
  refine mm_get (v := .ref b8) hx hb hg inK hown hK hP hh8 h18 rfl 0 (by decide) (hg _ gw41) (fun _ h9 => h9) rfl dK_copyFrom_1 ?_
  refine lv_iconst (v := nI 0) hx hb dK_copyFrom_4 (by decide) ?_
  refine lv_aload_n hx hb dK_copyFrom_5 rfl (lv_at hl 0 rfl) ?_
  refine mm_get (v := .ref b) hx hb hg inK hown hK hP hh h1 rfl 0 (by decide) (hg _ gw41) (fun _ h9 => h9) rfl dK_copyFrom_6 ?_
  refine lv_iconst (v := nI 0) hx hb dK_copyFrom_9 (by decide) ?_
  refine lv_aload_n hx hb dK_copyFrom_10 rfl (lv_at hl 0 rfl) ?_
  refine mm_get (v := .ref b) hx hb hg inK hown hK hP hh h1 rfl 0 (by decide) (hg _ gw41) (fun _ h9 => h9) rfl dK_copyFrom_11 ?_
  refine mm_alen hx hb hK hP hbL h2 dK_copyFrom_14 ?_
  refine mm_copyi (n := 144) hx hb (hml.trans hl.1.symm) hown (hg _ gw494) (hg _ gw496) (hg _ gw495) (hg _ gw16) hK hn hA hP hS hb8 h28 hbL h2 (by omega) (by omega) (by omega) (Nat.le_of_ble_eq_true rfl) (by decide +kernel) dK_copyFrom_15 (fun H locs hP hS => ?_)
  obtain ⟨f1, hf1⟩ : ∃ z, z = mm_si f b (va_cpy g8 g 0 0 144) := ⟨_, rfl⟩
  have hP : va_P D zCl (va_pl L f1) H := by rw [hf1]; exact hP
  have p2 : f1 h = .inr (1, [.ref b, .int pv]) := by rw [hf1, mm_si_ne (mm_IO h2 h1)]; exact h1
  have p3 : f1 h8 = .inr (1, [.ref b8, .int pv8]) := by rw [hf1, mm_si_ne (mm_IO h2 h18)]; exact h18
  have p4 : mm_I tys f1 b8 144 g8 := h28.eq (by rw [hf1, mm_si_ne hbb])
  have p5 : mm_I tys f1 b 144 (va_cpy g8 g 0 0 144) := by rw [hf1]; exact h2.set
  refine lv_aload_n hx hb dK_copyFrom_18 rfl (lv_at hl 0 rfl) ?_
  refine lv_aload_n hx hb dK_copyFrom_19 rfl (lv_at hl 1 rfl) ?_
  refine mm_get (v := .int pv8) hx hb hg inK hown hK hP hh8 p3 rfl 1 (by decide) (hg _ gw42) (fun _ h9 => h9) rfl dK_copyFrom_20 ?_
  refine mm_put (v := .int pv8) (ty := .boolean) hx hb hg inK tyK tyK_ok nmK hown hK hn hA hP hS hh p2 rfl 1 (by decide) (hg _ gw42) (fun _ h9 => h9) rfl (by decide +kernel) (b01 hz).1 (b01 hz).2 (Nat.le_of_ble_eq_true rfl) dK_copyFrom_23 (fun H locs hP hS => ?_)
  obtain ⟨f6, hf6⟩ : ∃ z, z = va_up f1 h (.inr (1, [.ref b, .int pv8])) := ⟨_, rfl⟩
  have hP : va_P D zCl (va_pl L f6) H := by rw [hf6]; exact hP
  have p7 : f6 h8 = .inr (1, [.ref b8, .int pv8]) := by rw [hf6, va_up_ne _ _ hhh]; exact p3
  have p8 : mm_I tys f6 b8 144 g8 := p4.eq (by rw [hf6, va_up_ne _ _ (Ne.symm (mm_IO p4 p2))])
  have p9 : mm_I tys f6 b 144 (va_cpy g8 g 0 0 144) := p5.eq (by rw [hf6, va_up_ne _ _ (Ne.symm (mm_IO p5 p2))])
  have p10 : f6 h = .inr (1, [.ref b, .int pv8]) := by rw [hf6]; exact va_up_self _ _ _
  exact ret_v C0 hP hS (by rw [hf6, hf1]) dK_copyFrom_26
end
section
/-! The rows of numbers stand for matrices: what the class's methods do to a row is what kl_learn, kl_give, kl_forget say. -/
theorem r_it_inv {σ : Type} (st : Nat → σ → σ) (I : Nat → σ → Prop) : ∀ (n i : Nat) (s : σ), I i s → (∀ j s, i ≤ j → j < i + n → I j s → I (j + 1) (st j s)) → I (i + n) (r_it st n i s) := by
  intro n
  induction n with
  | zero => intro i s h _; exact h
  | succ n ih =>
    intro i s h hs
    have := ih (i + 1) (st i s) (hs i s (Nat.le_refl _) (by omega) h) (fun j s h1 h2 => hs j s (by omega) (by omega))
    rw [show i + (n + 1) = i + 1 + n by omega]
    exact this
def encI (o : Option Int) : Int32 := match o with
  | none => 2147483647
  | some d => Int32.ofInt d
def Rp (g : Nat → Int32) (G : Nat → Nat → Option Int) : Prop := ∀ x y, x < 12 → y < 12 → g (x * 12 + y) = encI (G x y)
def Sml (n : Nat) (G : Nat → Nat → Option Int) : Prop := ∀ x y d, x < n → y < n → G x y = some d → -1000000 ≤ d ∧ d ≤ 1000000
theorem Sml.of {n : Nat} {G : Nat → Nat → Option Int} {T : Int} (h : zd_Bd n T G) (hT : T ≤ 1000000) : Sml n G := fun x y d hx hy hd => by
  have := h.one hx hy hd
  omega
theorem i32_max : (2147483647 : Int32).toInt = 2147483647 := by decide +kernel
theorem i32_of {d : Int} (h : -100000000 ≤ d ∧ d ≤ 100000000) : (Int32.ofInt d).toInt = d := Int32.toInt_ofInt_of_le (by omega) (by omega)
theorem enc_max {d : Int} (h : -100000000 ≤ d ∧ d ≤ 100000000) : ¬ Int32.ofInt d = 2147483647 := fun e => by
  have := congrArg Int32.toInt e
  rw [i32_of h, i32_max] at this
  omega
theorem enc_none {o : Option Int} (ho : ∀ d, o = some d → -1000000 ≤ d ∧ d ≤ 1000000) : encI o = 2147483647 ↔ o = none := by
  cases o with
  | none => exact ⟨fun _ => rfl, fun _ => rfl⟩
  | some d =>
    have := ho d rfl
    exact ⟨fun h => absurd h (enc_max (by omega)), fun h => by cases h⟩
theorem enc_le {o : Option Int} {k : Int32} (ho : ∀ d, o = some d → -1000000 ≤ d ∧ d ≤ 1000000) (hk : -1000000 ≤ k.toInt ∧ k.toInt ≤ 1000000) : ¬ k < encI o ↔ kl_le o k.toInt = true := by
  rw [Int32.lt_iff_toInt_lt]
  cases o with
  | none =>
    simp only [encI, kl_le, i32_max]
    constructor
    · intro h; omega
    · intro h; cases h
  | some d =>
    have := ho d rfl
    simp only [encI, kl_le, i32_of (d := d) (by omega), decide_eq_true_eq]
    omega
theorem upd_at (g : Nat → Int32) (x y a b : Nat) (v : Int32) (hy : y < 12) (hb : b < 12) : upd g (a * 12 + b) v (x * 12 + y) = if x = a ∧ y = b then v else g (x * 12 + y) := by
  unfold upd
  by_cases e : x = a ∧ y = b
  · obtain ⟨rfl, rfl⟩ := e
    rw [if_pos rfl, if_pos ⟨rfl, rfl⟩]
  · rw [if_neg e, if_neg (fun h => e (by omega))]
theorem rp_forget {g : Nat → Int32} {G : Nat → Nat → Option Int} {a : Nat} (ha : a < 12) (hd : G a a = some 0) (h : Rp g G) : Rp (r_it (r_fg a) 12 0 g) (zd_fgt a G) := by
  have := r_it_inv (r_fg a) (fun j g' => ∀ x y, x < 12 → y < 12 → g' (x * 12 + y) = encI (if (x = a ∧ y ≠ a ∧ y < j) ∨ (y = a ∧ x ≠ a ∧ x < j) then none else G x y)) 12 0 g (fun x y hx hy => by
      rw [if_neg (by omega)]; exact h x y hx hy) (fun j g' _ hj hi x y hx hy => by
      unfold r_fg
      by_cases e : j = a
      · rw [if_pos e, hi x y hx hy]
        by_cases c : (x = a ∧ y ≠ a ∧ y < j) ∨ (y = a ∧ x ≠ a ∧ x < j)
        · rw [if_pos c, if_pos (by omega)]
        · rw [if_neg c, if_neg (by omega)]
      · rw [if_neg e, upd_at _ _ _ _ _ _ hy ha, upd_at _ _ _ _ _ _ hy (by omega)]
        by_cases c1 : x = j ∧ y = a
        · rw [if_pos c1, if_pos (by omega)]; rfl
        · rw [if_neg c1]
          by_cases c2 : x = a ∧ y = j
          · rw [if_pos c2, if_pos (by omega)]; rfl
          · rw [if_neg c2, hi x y hx hy]
            by_cases c : (x = a ∧ y ≠ a ∧ y < j) ∨ (y = a ∧ x ≠ a ∧ x < j)
            · rw [if_pos c, if_pos (by omega)]
            · rw [if_neg c, if_neg (by omega)])
  intro x y hx hy
  rw [this x y hx hy]
  unfold zd_fgt
  by_cases c : x = a ∨ y = a
  · rw [if_pos c]
    by_cases e : x = y
    · rw [if_pos e, if_neg (by omega)]
      rw [show x = a by omega, show y = a by omega, hd]
    · rw [if_neg e, if_pos (by omega)]
  · rw [if_neg c, if_neg (by omega)]
theorem enc_mv {o : Option Int} {k : Int32} (ho : ∀ d, o = some d → -1000000 ≤ d ∧ d ≤ 1000000) : (if encI o = 2147483647 then 2147483647 else encI o + k) = encI (o.map (fun d => d + k.toInt)) := by
  cases o with
  | none => rfl
  | some d =>
    have := ho d rfl
    have e : ¬ encI (some d) = 2147483647 := enc_max (by omega)
    rw [if_neg e]
    show Int32.ofInt d + k = Int32.ofInt (d + k.toInt)
    rw [Int32.ofInt_add, Int32.ofInt_toInt]
theorem i32_neg {k : Int32} (hk : -1000000 ≤ k.toInt ∧ k.toInt ≤ 1000000) : (-k).toInt = -k.toInt := by
  rw [Int32.toInt_neg]
  exact Int.bmod_eq_of_le (by omega) (by omega)
theorem giv_row {a b y : Nat} {k : Int} {G : Nat → Nat → Option Int} (hy : y ≠ a) : zd_giv a b k G a y = (G b y).map (fun d => d + k) := by
  unfold zd_giv zd_mp zd_sh
  rw [if_pos rfl, if_neg hy, if_pos rfl, if_neg hy]
  congr 1
  funext d
  omega
theorem giv_col {a b x : Nat} {k : Int} {G : Nat → Nat → Option Int} (hx : x ≠ a) : zd_giv a b k G x a = (G x b).map (fun d => d + -k) := by
  unfold zd_giv zd_mp zd_sh
  rw [if_pos rfl, if_neg hx, if_pos rfl, if_neg hx]
  congr 1
  funext d
  omega
theorem giv_off {a b x y : Nat} {k : Int} {G : Nat → Nat → Option Int} (hx : x ≠ a) (hy : y ≠ a) : zd_giv a b k G x y = G x y := by
  unfold zd_giv zd_mp zd_sh
  rw [if_neg hx, if_neg hy, if_neg hx, if_neg hy]
  cases G x y with
  | none => rfl
  | some d => simp
theorem giv_diag {a b : Nat} {k : Int} {G : Nat → Nat → Option Int} (hb : G b b = some 0) : zd_giv a b k G a a = some 0 := by
  unfold zd_giv zd_mp zd_sh
  rw [if_pos rfl, if_pos rfl, hb]
  simp only [Option.map_some, Option.some.injEq]
  omega
theorem rp_give {g : Nat → Int32} {G : Nat → Nat → Option Int} {a b : Nat} {k : Int32} (ha : a < 12) (hb : b < 12) (hk : -1000000 ≤ k.toInt ∧ k.toInt ≤ 1000000) (hda : G a a = some 0) (hdb : G b b = some 0) (hs : Sml 12 G) (h : Rp g G) : Rp (r_it (r_gv a b k) 12 0 g) (zd_giv a b k.toInt G) := by
  have := r_it_inv (r_gv a b k) (fun j g' => ∀ x y, x < 12 → y < 12 → g' (x * 12 + y) = encI (if (x = a ∧ y ≠ a ∧ y < j) ∨ (y = a ∧ x ≠ a ∧ x < j) then zd_giv a b k.toInt G x y else G x y)) 12 0 g (fun x y hx hy => by
      rw [if_neg (by omega)]; exact h x y hx hy) (fun j g' _ hj hi x y hx hy => by
      unfold r_gv
      by_cases e : j = a
      · rw [if_pos e, hi x y hx hy]
        by_cases c : (x = a ∧ y ≠ a ∧ y < j) ∨ (y = a ∧ x ≠ a ∧ x < j)
        · rw [if_pos c, if_pos (by omega)]
        · rw [if_neg c, if_neg (by omega)]
      · rw [if_neg e]
        have r1 : g' (b * 12 + j) = encI (G b j) := by rw [hi b j hb (by omega), if_neg (by omega)]
        have r2 : ∀ v, upd g' (a * 12 + j) v (j * 12 + b) = encI (G j b) := fun v => by
          rw [upd_at _ _ _ _ _ _ hb (by omega), if_neg (by omega), hi j b (by omega) hb, if_neg (by omega)]
        simp only [r1, r2]
        rw [upd_at _ _ _ _ _ _ hy ha, upd_at _ _ _ _ _ _ hy (by omega)]
        rw [enc_mv (hs b j · hb (by omega)), enc_mv (hs j b · (by omega) hb), i32_neg hk]
        by_cases c1 : x = j ∧ y = a
        · rw [if_pos c1, if_pos (by omega), c1.1, c1.2, giv_col e]
        · rw [if_neg c1]
          by_cases c2 : x = a ∧ y = j
          · rw [if_pos c2, if_pos (by omega), c2.1, c2.2, giv_row e]
          · rw [if_neg c2, hi x y hx hy]
            by_cases c : (x = a ∧ y ≠ a ∧ y < j) ∨ (y = a ∧ x ≠ a ∧ x < j)
            · rw [if_pos c, if_pos (by omega)]
            · rw [if_neg c, if_neg (by omega)])
  intro x y hx hy
  rw [this x y hx hy]
  by_cases cx : x = a
  · by_cases cy : y = a
    · rw [if_neg (by omega), cx, cy, giv_diag hdb, hda]
    · rw [if_pos (by omega)]
  · by_cases cy : y = a
    · rw [if_pos (by omega)]
    · rw [if_neg (by omega), giv_off cx cy]
theorem lrn_row_b {a b y : Nat} {k : Int} {G : Nat → Nat → Option Int} (hc : ∀ d, zd_L G b a d → 0 ≤ d + k) : zd_lrn a b k G b y = G b y := by
  unfold zd_lrn
  cases h1 : G b a with
  | none => rfl
  | some p =>
    cases h2 : G b y with
    | none => rfl
    | some q =>
      have := hc p (zd_L.eq h1)
      simp only []
      rw [if_neg (by omega)]
theorem lrn_none {a b x y : Nat} {k : Int} {G : Nat → Nat → Option Int} (h : G x a = none) : zd_lrn a b k G x y = G x y := by
  unfold zd_lrn
  rw [h]
theorem rp_learn {g : Nat → Int32} {G : Nat → Nat → Option Int} {a b : Nat} {k : Int32} (ha : a < 12) (hb : b < 12) (hk : -1000000 ≤ k.toInt ∧ k.toInt ≤ 1000000) (hc : ∀ d, zd_L G b a d → 0 ≤ d + k.toInt) (hs : Sml 12 G) (h : Rp g G) : Rp (r_ln a b k g) (zd_lrn a b k.toInt G) := by
  have := r_it_inv (r_l2 a b k) (fun i g' => ∀ x y, x < 12 → y < 12 → g' (x * 12 + y) = encI (if x < i then zd_lrn a b k.toInt G x y else G x y)) 12 0 g (fun x y hx hy => by
      rw [if_neg (by omega)]; exact h x y hx hy) (fun i g' _ hi12 hi => by
      have ra : g' (i * 12 + a) = encI (G i a) := by rw [hi i a (by omega) ha, if_neg (by omega)]
      unfold r_l2
      by_cases e : G i a = none
      · rw [if_pos (by rw [ra]; exact (enc_none (hs i a · (by omega) ha)).mpr e)]
        intro x y hx hy
        rw [hi x y hx hy]
        by_cases c : x < i
        · rw [if_pos c, if_pos (by omega)]
        · rw [if_neg c]
          by_cases c2 : x = i
          · rw [if_pos (by omega), c2, lrn_none e]
          · rw [if_neg (by omega)]
      · rw [if_neg (fun e2 => e ((enc_none (hs i a · (by omega) ha)).mp (by rw [← ra]; exact e2))), ra]
        obtain ⟨p, hp⟩ : ∃ p, G i a = some p := by
          cases h9 : G i a with
          | none => exact absurd h9 e
          | some p => exact ⟨p, rfl⟩
        have hpb := hs i a p (by omega) ha hp
        have inner := r_it_inv (r_l1 i b k (encI (G i a))) (fun j g2 => ∀ x y, x < 12 → y < 12 → g2 (x * 12 + y) = encI (if x < i ∨ (x = i ∧ y < j) then zd_lrn a b k.toInt G x y else G x y)) 12 0 g' (fun x y hx hy => by
            rw [hi x y hx hy]
            by_cases c : x < i
            · rw [if_pos c, if_pos (by omega)]
            · rw [if_neg c, if_neg (by omega)]) (fun j g2 _ hj hi2 => by
            have rb : g2 (b * 12 + j) = encI (G b j) := by
              rw [hi2 b j hb (by omega)]
              split
              · rw [lrn_row_b hc]
              · rfl
            have rf : g2 (i * 12 + j) = encI (G i j) := by rw [hi2 i j (by omega) (by omega), if_neg (by omega)]
            have keep : zd_lrn a b k.toInt G i j = G i j → ∀ x y, x < 12 → y < 12 → g2 (x * 12 + y) = encI (if x < i ∨ (x = i ∧ y < j + 1) then zd_lrn a b k.toInt G x y else G x y) := fun hk2 x y hx hy => by
              rw [hi2 x y hx hy]
              by_cases c : x < i ∨ (x = i ∧ y < j)
              · rw [if_pos c, if_pos (by omega)]
              · rw [if_neg c]
                by_cases c2 : x = i ∧ y = j
                · rw [if_pos (by omega), c2.1, c2.2, hk2]
                · rw [if_neg (by omega)]
            unfold r_l1
            by_cases e1 : G b j = none
            · rw [if_pos (by rw [rb]; exact (enc_none (hs b j · hb (by omega))).mpr e1)]
              refine keep ?_
              unfold zd_lrn
              rw [hp, e1]
            · rw [if_neg (fun e2 => e1 ((enc_none (hs b j · hb (by omega))).mp (by rw [← rb]; exact e2))), rb, rf]
              obtain ⟨q, hq⟩ : ∃ q, G b j = some q := by
                cases h9 : G b j with
                | none => exact absurd h9 e1
                | some q => exact ⟨q, rfl⟩
              have hqb := hs b j q hb (by omega) hq
              have hsum : encI (G i a) + k + encI (G b j) = Int32.ofInt (p + k.toInt + q) := by
                rw [hp, hq]
                show Int32.ofInt p + k + Int32.ofInt q = _
                rw [Int32.ofInt_add, Int32.ofInt_add, Int32.ofInt_toInt]
              rw [hsum]
              have hst : (Int32.ofInt (p + k.toInt + q)).toInt = p + k.toInt + q := i32_of (by omega)
              have hlrn : zd_lrn a b k.toInt G i j = match G i j with
                  | none => some (p + k.toInt + q)
                  | some d => if p + k.toInt + q < d then some (p + k.toInt + q) else some d := by
                unfold zd_lrn
                rw [hp, hq]
                cases G i j <;> rfl
              have put : zd_lrn a b k.toInt G i j = some (p + k.toInt + q) → ∀ x y, x < 12 → y < 12 → upd g2 (i * 12 + j) (Int32.ofInt (p + k.toInt + q)) (x * 12 + y) = encI (if x < i ∨ (x = i ∧ y < j + 1) then zd_lrn a b k.toInt G x y else G x y) := fun hk2 x y hx hy => by
                rw [upd_at _ _ _ _ _ _ hy (by omega)]
                by_cases c2 : x = i ∧ y = j
                · rw [if_pos c2, if_pos (by omega), c2.1, c2.2, hk2]; rfl
                · rw [if_neg c2, hi2 x y hx hy]
                  by_cases c : x < i ∨ (x = i ∧ y < j)
                  · rw [if_pos c, if_pos (by omega)]
                  · rw [if_neg c, if_neg (by omega)]
              cases hG : G i j with
              | none =>
                rw [hG] at hlrn
                rw [if_neg (fun h9 => by
                  rw [Int32.le_iff_toInt_le, hst] at h9
                  simp only [encI, i32_max] at h9
                  omega)]
                exact put hlrn
              | some d =>
                rw [hG] at hlrn
                have hdb := hs i j d (by omega) (by omega) hG
                by_cases c9 : p + k.toInt + q < d
                · rw [if_neg (fun h9 => by
                    rw [Int32.le_iff_toInt_le, hst] at h9
                    simp only [encI, i32_of (d := d) (by omega)] at h9
                    omega)]
                  simp only [if_pos c9] at hlrn
                  exact put hlrn
                · rw [if_pos (by
                    rw [Int32.le_iff_toInt_le, hst]
                    simp only [encI, i32_of (d := d) (by omega)]
                    omega)]
                  simp only [if_neg c9] at hlrn
                  exact keep (by rw [hlrn, hG]))
        intro x y hx hy
        rw [inner x y hx hy]
        by_cases c : x < i + 1
        · rw [if_pos c, if_pos (by omega)]
        · rw [if_neg c, if_neg (by omega)])
  intro x y hx hy
  rw [show r_ln a b k g = r_it (r_l2 a b k) 12 0 g from rfl, this x y hx hy, if_pos (by omega)]
theorem rp_all {g : Nat → Int32} : Rp (r_fa g) kl_0.2 := by
  have h1 := r_it_inv (fun j (g : Nat → Int32) => upd g j 2147483647) (fun j g' => ∀ z, z < j → g' z = 2147483647) 144 0 g (fun z hz => by omega) (fun j g' _ _ hi z hz => by
    show upd g' j 2147483647 z = _
    unfold upd
    by_cases e : z = j
    · rw [if_pos e]
    · rw [if_neg e]; exact hi z (by omega))
  have h2 := r_it_inv (fun j (g : Nat → Int32) => upd g (j * 12 + j) (nI 0)) (fun j g' => ∀ x y, x < 12 → y < 12 → g' (x * 12 + y) = encI (if x = y ∧ x < j then some 0 else none)) 12 0 (r_it (fun j g => upd g j 2147483647) 144 0 g) (fun x y hx hy => by
    rw [if_neg (by omega)]; exact h1 _ (by omega)) (fun j g' _ _ hi x y hx hy => by
    show upd g' (j * 12 + j) (nI 0) (x * 12 + y) = _
    rw [upd_at _ _ _ _ _ _ hy (by omega)]
    by_cases e : x = j ∧ y = j
    · rw [if_pos e, if_pos (by omega)]; rfl
    · rw [if_neg e, hi x y hx hy]
      by_cases c : x = y ∧ x < j
      · rw [if_pos c, if_pos (by omega)]
      · rw [if_neg c, if_neg (by omega)])
  intro x y hx hy
  rw [show r_fa g = r_it (fun j g => upd g (j * 12 + j) (nI 0)) 12 0 (r_it (fun j g => upd g j 2147483647) 144 0 g) from rfl, h2 x y hx hy]
  simp only [kl_0]
  by_cases e : x = y
  · rw [if_pos ⟨e, by omega⟩, if_pos e]
  · rw [if_neg (by omega), if_neg e]
theorem rp_copy {g g' : Nat → Int32} {G : Nat → Nat → Option Int} (h : Rp g G) : Rp (va_cpy g g' 0 0 144) G := fun x y hx hy => by
  rw [pk_cpy_in (by omega) (by omega), show 0 + (x * 12 + y - 0) = x * 12 + y by omega]
  exact h x y hx hy
end
section
/-! Known, as what is known: contracts in the words of kl_learn, kl_give, kl_forget. -/
def kb (x : Bool) : Int32 := if x = true then nI 1 else nI 0
theorem kb_or (x : Bool) : kb x = nI 0 ∨ kb x = nI 1 := by
  cases x
  · exact Or.inl rfl
  · exact Or.inr rfl
theorem kb_0 {x : Bool} : kb x = 0 ↔ x = false := by
  cases x
  · exact ⟨fun _ => rfl, fun _ => rfl⟩
  · exact ⟨fun h => absurd h (by decide +kernel), fun h => by cases h⟩
def KnAt (tys : List (ClassId × FieldType)) (f : Nat → va_E) (h b : Nat) (K : kl_K) : Prop := f h = .inr (1, [.ref b, .int (kb K.1)]) ∧ ∃ g, mm_I tys f b 144 g ∧ Rp g K.2
theorem KnAt.ne {tys : List (ClassId × FieldType)} {f : Nat → va_E} {h b : Nat} {K : kl_K} (hk : KnAt tys f h b K) : h ≠ b := by
  obtain ⟨h1, g, h2, -⟩ := hk
  exact mm_IO h2 h1
theorem KnAt.eq {tys : List (ClassId × FieldType)} {f f' : Nat → va_E} {h b : Nat} {K : kl_K} (hk : KnAt tys f h b K) (e1 : f' h = f h) (e2 : f' b = f b) : KnAt tys f' h b K := by
  obtain ⟨h1, g, h2, h3⟩ := hk
  exact ⟨by rw [e1]; exact h1, g, h2.eq e2, h3⟩
/-- nothing but these two cells has changed -/
def Same2 (f f' : Nat → va_E) (h b : Nat) : Prop := ∀ x, x ≠ h → x ≠ b → f' x = f x
theorem ka_bound {l : Launch} {D : va_G} {tys : List (ClassId × FieldType)} {L : List Nat} {f : Nat → va_E} (hn : L.Nodup) {h b : Nat} {K : kl_K} (hh : h ∈ L) (hbL : b ∈ L) (hk : KnAt tys f h b K) {x y : Nat} (hx0 : x < 12) (hy0 : y < 12) : MetI l yK_bound wK_bound ({ frames := 0, cells := 0, slots := 0, locals := 0 } : Room) D tys L f [.ref h, .int (nI x), .int (nI y)] (fun r f' => r = encI (K.2 x y) ∧ f' = f) := by
  obtain ⟨h1, g, h2, h3⟩ := hk
  exact meti_imp (k_bound hn hh hbL h1 h2 hx0 hy0) (fun r f' ⟨e1, e2⟩ => ⟨by rw [e1]; exact h3 x y hx0 hy0, e2⟩)
theorem ka_shows {l : Launch} {D : va_G} {tys : List (ClassId × FieldType)} {L : List Nat} {f : Nat → va_E} (hn : L.Nodup) {h b : Nat} {K : kl_K} (hh : h ∈ L) (hbL : b ∈ L) (hk : KnAt tys f h b K) {T : Int} (hok : kl_ok T K) (hT : T ≤ 1000000) {x y : Nat} {k : Int32} (hx0 : x < 12) (hy0 : y < 12) (hkk : -1001 ≤ k.toInt ∧ k.toInt ≤ 1001) : MetI l yK_shows wK_shows ({ frames := 0, cells := 0, slots := 0, locals := 0 } : Room) D tys L f [.ref h, .int (nI x), .int (nI y), .int k] (fun r f' => r = kb (kl_le (K.2 x y) k.toInt) ∧ f' = f) := by
  obtain ⟨h1, g, h2, h3⟩ := hk
  refine meti_imp (k_shows hn hh hbL h1 h2 hx0 hy0) (fun r f' ⟨e1, e2⟩ => ⟨?_, e2⟩)
  have hs := Sml.of hok.2 hT
  have h4 := enc_le (o := K.2 x y) (k := k) (hs x y · hx0 hy0) (by omega)
  rw [e1, h3 x y hx0 hy0]
  by_cases c : k < encI (K.2 x y)
  · rw [if_pos c]
    cases e : kl_le (K.2 x y) k.toInt with
    | false => rfl
    | true => exact absurd c (h4.mpr e)
  · rw [if_neg c, h4.mp c]
    rfl
theorem ka_learn {l : Launch} {D : va_G} {tys : List (ClassId × FieldType)} {L : List Nat} {f : Nat → va_E} (hn : L.Nodup) {h b : Nat} {K : kl_K} (hh : h ∈ L) (hbL : b ∈ L) (hk : KnAt tys f h b K) {T : Int} (hok : kl_ok T K) (hT : T ≤ 1000000) {a bb : Nat} {k : Int32} (ha : a < 12) (hbb : bb < 12) (hkk : -1001 ≤ k.toInt ∧ k.toInt ≤ 1001) : MetV l yK_learn wK_learn ({ frames := 0, cells := 0, slots := 0, locals := 0 } : Room) D tys L f [.ref h, .int (nI a), .int (nI bb), .int k] (fun f' => KnAt tys f' h b (kl_learn a bb k.toInt K) ∧ Same2 f f' h b) := by
  have hne := hk.ne
  obtain ⟨h1, g, h2, h3⟩ := hk
  refine metv_imp (k_learn hn hh hbL h1 h2 ha hbb) (fun f' e => ?_)
  have hs := Sml.of hok.2 hT
  subst e
  unfold r_learn kl_learn
  by_cases c1 : K.1 = false
  · rw [if_pos (kb_0.mpr c1), if_pos (Or.inl c1)]
    exact ⟨⟨h1, g, h2, h3⟩, fun _ _ _ => rfl⟩
  · have h4 := enc_le (o := K.2 a bb) (k := k) (hs a bb · ha hbb) (by omega)
    rw [if_neg (fun e => c1 (kb_0.mp e)), h3 a bb ha hbb]
    by_cases c2 : ¬ k < encI (K.2 a bb)
    · rw [if_pos c2, if_pos (Or.inr (h4.mp c2))]
      exact ⟨⟨h1, g, h2, h3⟩, fun _ _ _ => rfl⟩
    · rw [if_neg c2, if_neg (c := K.1 = false ∨ kl_le (K.2 a bb) k.toInt = true) (fun e => e.elim c1 (fun e => c2 (h4.mpr e))), h3 bb a hbb ha]
      have h5 : (¬ encI (K.2 bb a) = 2147483647 ∧ ¬ 0 ≤ encI (K.2 bb a) + k) ↔ kl_le (K.2 bb a) (-k.toInt - 1) = true := by
        rw [Int32.le_iff_toInt_le]
        cases hG : K.2 bb a with
        | none => exact ⟨fun z => absurd rfl z.1, fun z => by cases z⟩
        | some d =>
          have hd := hs bb a d hbb ha hG
          have e1 : encI (some d) + k = Int32.ofInt (d + k.toInt) := by
            show Int32.ofInt d + k = _
            rw [Int32.ofInt_add, Int32.ofInt_toInt]
          rw [e1, i32_of (d := d + k.toInt) (by omega)]
          simp only [kl_le, decide_eq_true_eq]
          have e0 : (0 : Int32).toInt = 0 := by decide +kernel
          rw [e0]
          constructor
          · intro z; omega
          · intro z
            exact ⟨enc_max (by omega), by omega⟩
      by_cases c3 : ¬ encI (K.2 bb a) = 2147483647 ∧ ¬ 0 ≤ encI (K.2 bb a) + k
      · rw [if_pos c3, if_pos (h5.mp c3)]
        refine ⟨⟨by rw [va_up_self]; rfl, g, h2.eq (va_up_ne _ _ (Ne.symm hne)), h3⟩, fun x hx _ => va_up_ne _ _ hx⟩
      · rw [if_neg c3, if_neg (fun e => c3 (h5.mpr e))]
        exact ⟨⟨by rw [mm_si_ne hne]; exact h1, _, h2.set, rp_learn ha hbb (by omega) (kl_cons (fun e => c3 (h5.mpr e))) hs h3⟩, fun x _ hx => mm_si_ne hx⟩
theorem ka_give {l : Launch} {D : va_G} {tys : List (ClassId × FieldType)} {L : List Nat} {f : Nat → va_E} (hn : L.Nodup) {h b : Nat} {K : kl_K} (hh : h ∈ L) (hbL : b ∈ L) (hk : KnAt tys f h b K) {T : Int} (hok : kl_ok T K) (hT : T ≤ 1000000) {a bb : Nat} {k : Int32} (ha : a < 12) (hbb : bb < 12) (hkk : -1001 ≤ k.toInt ∧ k.toInt ≤ 1001) : MetV l yK_give wK_give ({ frames := 1, cells := 0, slots := 0, locals := 21 } : Room) D tys L f [.ref h, .int (nI a), .int (nI bb), .int k] (fun f' => KnAt tys f' h b (kl_give a bb k.toInt K) ∧ Same2 f f' h b) := by
  have hne := hk.ne
  obtain ⟨h1, g, h2, h3⟩ := hk
  refine metv_imp (k_give hn hh hbL h1 h2 ha hbb) (fun f' e => ?_)
  subst e
  exact ⟨⟨by rw [mm_si_ne hne]; exact h1, _, h2.set, rp_give ha hbb (by omega) (hok.1.1 a ha) (hok.1.1 bb hbb) (Sml.of hok.2 hT) h3⟩, fun x _ hx => mm_si_ne hx⟩
theorem ka_forget {l : Launch} {D : va_G} {tys : List (ClassId × FieldType)} {L : List Nat} {f : Nat → va_E} (hn : L.Nodup) {h b : Nat} {K : kl_K} (hh : h ∈ L) (hbL : b ∈ L) (hk : KnAt tys f h b K) {T : Int} (hok : kl_ok T K) {a : Nat} (ha : a < 12) : MetV l yK_forget wK_forget ({ frames := 0, cells := 0, slots := 0, locals := 0 } : Room) D tys L f [.ref h, .int (nI a)] (fun f' => KnAt tys f' h b (kl_forget a K) ∧ Same2 f f' h b) := by
  have hne := hk.ne
  obtain ⟨h1, g, h2, h3⟩ := hk
  refine metv_imp (k_forget hn hh hbL h1 h2 ha) (fun f' e => ?_)
  subst e
  exact ⟨⟨by rw [mm_si_ne hne]; exact h1, _, h2.set, rp_forget ha (hok.1.1 a ha) h3⟩, fun x _ hx => mm_si_ne hx⟩
/-- a Known with whatever it holds -/
def KnAny (tys : List (ClassId × FieldType)) (f : Nat → va_E) (h b : Nat) : Prop := (∃ pv, f h = .inr (1, [.ref b, .int pv])) ∧ ∃ g, mm_I tys f b 144 g
theorem KnAt.any {tys : List (ClassId × FieldType)} {f : Nat → va_E} {h b : Nat} {K : kl_K} (hk : KnAt tys f h b K) : KnAny tys f h b := by
  obtain ⟨h1, g, h2, -⟩ := hk
  exact ⟨⟨_, h1⟩, g, h2⟩
theorem KnAny.eq {tys : List (ClassId × FieldType)} {f f' : Nat → va_E} {h b : Nat} (hk : KnAny tys f h b) (e1 : f' h = f h) (e2 : f' b = f b) : KnAny tys f' h b := by
  obtain ⟨⟨pv, h1⟩, g, h2⟩ := hk
  exact ⟨⟨pv, by rw [e1]; exact h1⟩, g, h2.eq e2⟩
theorem ka_forgetAll {l : Launch} {D : va_G} {tys : List (ClassId × FieldType)} {L : List Nat} {f : Nat → va_E} (hn : L.Nodup) {h b : Nat} (hh : h ∈ L) (hbL : b ∈ L) (hk : KnAny tys f h b) : MetV l yK_forgetAll wK_forgetAll ({ frames := 1, cells := 0, slots := 0, locals := 23 } : Room) D tys L f [.ref h] (fun f' => KnAt tys f' h b kl_0 ∧ Same2 f f' h b) := by
  obtain ⟨⟨pv, h1⟩, g, h2⟩ := hk
  have hne : h ≠ b := mm_IO h2 h1
  refine metv_imp (k_forgetAll hn hh hbL h1 h2) (fun f' e => ?_)
  subst e
  exact ⟨⟨by rw [va_up_self]; rfl, _, h2.set.eq (va_up_ne _ _ (Ne.symm hne)), rp_all⟩, fun x hx hx2 => by rw [va_up_ne _ _ hx, mm_si_ne hx2]⟩
theorem ka_copyFrom {l : Launch} {D : va_G} {tys : List (ClassId × FieldType)} {L : List Nat} {f : Nat → va_E} (hn : L.Nodup) {h b h8 b8 : Nat} {K : kl_K} (hh : h ∈ L) (hbL : b ∈ L) (hk : KnAny tys f h b) (hh8 : h8 ∈ L) (hb8 : b8 ∈ L) (hk8 : KnAt tys f h8 b8 K) (hbb : b8 ≠ b) (hhh : h8 ≠ h) : MetV l yK_copyFrom wK_copyFrom ({ frames := 1, cells := 0, slots := 0, locals := 18 } : Room) D tys L f [.ref h, .ref h8] (fun f' => KnAt tys f' h b K ∧ Same2 f f' h b) := by
  obtain ⟨⟨pv, h1⟩, g, h2⟩ := hk
  have hne : h ≠ b := mm_IO h2 h1
  obtain ⟨h18, g8, h28, h38⟩ := hk8
  refine metv_imp (k_copyFrom hn hh hbL h1 h2 hh8 hb8 h18 h28 hbb hhh (kb_or _)) (fun f' e => ?_)
  subst e
  exact ⟨⟨by rw [va_up_self], _, h2.set.eq (va_up_ne _ _ (Ne.symm hne)), rp_copy h38⟩, fun x hx hx2 => by rw [va_up_ne _ _ hx, mm_si_ne hx2]⟩
end
section
/-! Relations and Statement -/
theorem mm_OO {f : Nat → va_E} {a b i j : Nat} {fs gs : List Value} (h1 : f a = .inr (i, fs)) (h2 : f b = .inr (j, gs)) (hij : i ≠ j) : a ≠ b := by
  rintro rfl
  rw [h1] at h2
  cases h2
  exact hij rfl
theorem mm_II {tys : List (ClassId × FieldType)} {f : Nat → va_E} {a b n k : Nat} {g g' : Nat → Int32} (h1 : mm_I tys f a n g) (h2 : mm_I tys f b k g') (hij : n ≠ k) : a ≠ b := by
  rintro rfl
  obtain ⟨c1, e1, -⟩ := h1
  obtain ⟨c2, e2, -⟩ := h2
  rw [e1] at e2
  cases e2
  exact hij rfl
theorem mm_IQ {tys : List (ClassId × FieldType)} {C : String} {f : Nat → va_E} {a b n k : Nat} {g : Nat → Int32} {g' : Nat → Option Nat} (h1 : mm_I tys f a n g) (h2 : mm_Q tys C f b k g') : a ≠ b := by
  rintro rfl
  obtain ⟨c1, e1, -⟩ := h1
  obtain ⟨c2, e2, -⟩ := h2
  rw [e1] at e2
  cases e2
def nf (x u v : Nat) : Nat := if x = 1 then u else if x = 2 then v else x
theorem nf_lt {x u v : Nat} (hx : x < 4) (hu : u < 12) (hv : v < 12) : nf x u v < 12 := by
  unfold nf
  split
  · exact hu
  · split
    · exact hv
    · omega
/-- all relations learned; all shown -/
def kl_rel (u v : Nat) (xa xb : Nat → Nat) (xk : Nat → Int32) (j : Nat) (K : kl_K) : kl_K := kl_learn (nf (xa j) u v) (nf (xb j) u v) (xk j).toInt K
def kl_sh (u v : Nat) (xa xb : Nat → Nat) (xk : Nat → Int32) (K : kl_K) (j : Nat) : Bool := kl_le (K.2 (nf (xa j) u v) (nf (xb j) u v)) (xk j).toInt
def allB (p : Nat → Bool) : Nat → Nat → Bool
  | 0, _ => true
  | n + 1, i => p i && allB p n (i + 1)
set_option maxRecDepth 100000 in
set_option maxHeartbeats 4000000 in
theorem r_nameFor {l : Launch} {D : va_G} {tys : List (ClassId × FieldType)} {L : List Nat} {f : Nat → va_E} (hn : L.Nodup) {x u v : Nat} (hx0 : x < 4) : MetI l yR_nameFor wR_nameFor ({ frames := 0, cells := 0, slots := 0, locals := 0 } : Room) D tys L f [.int (nI x), .int (nI u), .int (nI v)] (fun r f' => r = nI (nf x u v) ∧ f' = f) := by
  refine met_of "LiquidChecker$Relations" (by decide) rfl (Nat.le_of_ble_eq_true rfl) ?_
  intro p e s m below meth c ls C0 hP hl
  obtain ⟨hx, hb, hml, hown, hg, hr, hlocks, hK, hN⟩ := id C0
  have hA : ∀ a ∈ L, inL L a := fun _ h => h
  obtain ⟨H, hH⟩ : ∃ z, z = s.heap := ⟨_, rfl⟩
  rw [← hH] at hP ⊢
  have hS : va_S (inL L) s.heap H [] := by rw [hH]; exact va_S.rf
  have hl : lv_has ls 3 [(0, .int (nI x)), (1, .int (nI u)), (2, .int (nI v))] := hl
  refine lv_iload_n hx hb dR_nameFor_0 rfl (lv_at hl 0 rfl) ?_
  refine lv_iconst (v := nI 1) hx hb dR_nameFor_1 (by decide) ?_
  refine lv_icmp_ne (tgt := 7) hx hb dR_nameFor_2 (by decide) (fun c2 => ?_) (fun c2 => ?_)
  · refine lv_iload_n hx hb dR_nameFor_7 rfl (lv_at hl 0 rfl) ?_
    refine lv_iconst (v := nI 2) hx hb dR_nameFor_8 (by decide) ?_
    refine lv_icmp_ne (tgt := 16) hx hb dR_nameFor_9 (by decide) (fun c9 => ?_) (fun c9 => ?_)
    · refine lv_iload_n hx hb dR_nameFor_16 rfl (lv_at hl 0 rfl) ?_
      exact ret_i C0 hP hS ⟨congrArg nI (Eq.symm ((if_neg (fun z => c2 (by rw [z]))).trans (if_neg (fun z => c9 (by rw [z]))))), rfl⟩ dR_nameFor_17
    · refine lv_iload_n hx hb dR_nameFor_12 rfl (lv_at hl 2 rfl) ?_
      refine lv_goto (tgt := 17) hx hb dR_nameFor_13 (by decide) ?_
      exact ret_i C0 hP hS ⟨congrArg nI (Eq.symm ((if_neg (fun z => c2 (by rw [z]))).trans (if_pos ((nI_eq (by omega) (by omega)).mp c9)))), rfl⟩ dR_nameFor_17
  · refine lv_iload_n hx hb dR_nameFor_5 rfl (lv_at hl 1 rfl) ?_
    exact ret_i C0 hP hS ⟨congrArg nI (Eq.symm (if_pos ((nI_eq (by omega) (by omega)).mp c2))), rfl⟩ dR_nameFor_6
set_option maxRecDepth 100000 in
set_option maxHeartbeats 4000000 in
theorem r_append {l : Launch} {D : va_G} {tys : List (ClassId × FieldType)} {L : List Nat} {f : Nat → va_E} (hn : L.Nodup) {r ra rb rk N : Nat} {ga gb gk : Nat → Int32} (hrL : r ∈ L) (hraL : ra ∈ L) (hrbL : rb ∈ L) (hrkL : rk ∈ L) (r1 : f r = .inr (2, [.ref ra, .ref rb, .ref rk, .int (nI N)])) (r2 : mm_I tys f ra 4 ga) (r3 : mm_I tys f rb 4 gb) (r4 : mm_I tys f rk 4 gk) (hNr : N < 4) (n1 : ra ≠ rb) (n2 : ra ≠ rk) (n3 : rb ≠ rk) {a b k : Int32} : MetI l yR_append wR_append ({ frames := 0, cells := 0, slots := 0, locals := 0 } : Room) D tys L f [.ref r, .int a, .int b, .int k] (fun x f' => x = nI (N + 1) ∧ f' r = .inr (2, [.ref ra, .ref rb, .ref rk, .int (nI (N + 1))]) ∧ mm_I tys f' ra 4 (upd ga N a) ∧ mm_I tys f' rb 4 (upd gb N b) ∧ mm_I tys f' rk 4 (upd gk N k) ∧ ∀ z, z ≠ r → z ≠ ra → z ≠ rb → z ≠ rk → f' z = f z) := by
  refine met_of "LiquidChecker$Relations" (by decide) rfl (Nat.le_of_ble_eq_true rfl) ?_
  intro p e s m below meth c ls C0 hP hl
  obtain ⟨hx, hb, hml, hown, hg, hr, hlocks, hK, hN⟩ := id C0
  have hA : ∀ a ∈ L, inL L a := fun _ h => h
  obtain ⟨H, hH⟩ : ∃ z, z = s.heap := ⟨_, rfl⟩
  rw [← hH] at hP ⊢
  have hS : va_S (inL L) s.heap H [] := by rw [hH]; exact va_S.rf
  have hl : lv_has ls 4 [(0, .ref r), (1, .int a), (2, .int b), (3, .int k)] := hl
  refine lv_aload_n hx hb dR_append_0 rfl (lv_at hl 0 rfl) ?_
  refine mm_get (v := .ref ra) hx hb hg inR hown hK hP hrL r1 rfl 0 (by decide) (hg _ gw102) (fun _ h9 => h9) rfl dR_append_1 ?_
  refine lv_aload_n hx hb dR_append_4 rfl (lv_at hl 0 rfl) ?_
  refine mm_get (v := .int (nI N)) hx hb hg inR hown hK hP hrL r1 rfl 3 (by decide) (hg _ gw105) (fun _ h9 => h9) rfl dR_append_5 ?_
  refine lv_iload_n hx hb dR_append_8 rfl (lv_at hl 1 rfl) ?_
  refine mm_iast hx hb hK hn hA hP hS hraL r2 (vp_in_nI (show N < 4 by omega) (by omega)) dR_append_9 (fun H locs hP hS => ?_)
  rw [nI_clamp (by omega)] at hP
  obtain ⟨f1, hf1⟩ : ∃ z, z = mm_si f ra (upd ga N a) := ⟨_, rfl⟩
  have hP : va_P D zCl (va_pl L f1) H := by rw [hf1]; exact hP
  have p2 : f1 r = .inr (2, [.ref ra, .ref rb, .ref rk, .int (nI N)]) := by rw [hf1, mm_si_ne (mm_IO r2 r1)]; exact r1
  have p3 : mm_I tys f1 rb 4 gb := r3.eq (by rw [hf1, mm_si_ne (Ne.symm n1)])
  have p4 : mm_I tys f1 rk 4 gk := r4.eq (by rw [hf1, mm_si_ne (Ne.symm n2)])
  have p5 : mm_I tys f1 ra 4 (upd ga N a) := by rw [hf1]; exact r2.set
  refine lv_aload_n hx hb dR_append_10 rfl (lv_at hl 0 rfl) ?_
  refine mm_get (v := .ref rb) hx hb hg inR hown hK hP hrL p2 rfl 1 (by decide) (hg _ gw103) (fun _ h9 => h9) rfl dR_append_11 ?_
  refine lv_aload_n hx hb dR_append_14 rfl (lv_at hl 0 rfl) ?_
  refine mm_get (v := .int (nI N)) hx hb hg inR hown hK hP hrL p2 rfl 3 (by decide) (hg _ gw105) (fun _ h9 => h9) rfl dR_append_15 ?_
  refine lv_iload_n hx hb dR_append_18 rfl (lv_at hl 2 rfl) ?_
  refine mm_iast hx hb hK hn hA hP hS hrbL p3 (vp_in_nI (show N < 4 by omega) (by omega)) dR_append_19 (fun H locs hP hS => ?_)
  rw [nI_clamp (by omega)] at hP
  obtain ⟨f6, hf6⟩ : ∃ z, z = mm_si f1 rb (upd gb N b) := ⟨_, rfl⟩
  have hP : va_P D zCl (va_pl L f6) H := by rw [hf6]; exact hP
  have p7 : f6 r = .inr (2, [.ref ra, .ref rb, .ref rk, .int (nI N)]) := by rw [hf6, mm_si_ne (mm_IO p3 p2)]; exact p2
  have p8 : mm_I tys f6 rk 4 gk := p4.eq (by rw [hf6, mm_si_ne (Ne.symm n3)])
  have p9 : mm_I tys f6 ra 4 (upd ga N a) := p5.eq (by rw [hf6, mm_si_ne n1])
  have p10 : mm_I tys f6 rb 4 (upd gb N b) := by rw [hf6]; exact p3.set
  refine lv_aload_n hx hb dR_append_20 rfl (lv_at hl 0 rfl) ?_
  refine mm_get (v := .ref rk) hx hb hg inR hown hK hP hrL p7 rfl 2 (by decide) (hg _ gw104) (fun _ h9 => h9) rfl dR_append_21 ?_
  refine lv_aload_n hx hb dR_append_24 rfl (lv_at hl 0 rfl) ?_
  refine mm_get (v := .int (nI N)) hx hb hg inR hown hK hP hrL p7 rfl 3 (by decide) (hg _ gw105) (fun _ h9 => h9) rfl dR_append_25 ?_
  refine lv_iload_n hx hb dR_append_28 rfl (lv_at hl 3 rfl) ?_
  refine mm_iast hx hb hK hn hA hP hS hrkL p8 (vp_in_nI (show N < 4 by omega) (by omega)) dR_append_29 (fun H locs hP hS => ?_)
  rw [nI_clamp (by omega)] at hP
  obtain ⟨f11, hf11⟩ : ∃ z, z = mm_si f6 rk (upd gk N k) := ⟨_, rfl⟩
  have hP : va_P D zCl (va_pl L f11) H := by rw [hf11]; exact hP
  have p12 : f11 r = .inr (2, [.ref ra, .ref rb, .ref rk, .int (nI N)]) := by rw [hf11, mm_si_ne (mm_IO p8 p7)]; exact p7
  have p13 : mm_I tys f11 ra 4 (upd ga N a) := p9.eq (by rw [hf11, mm_si_ne n2])
  have p14 : mm_I tys f11 rb 4 (upd gb N b) := p10.eq (by rw [hf11, mm_si_ne n3])
  have p15 : mm_I tys f11 rk 4 (upd gk N k) := by rw [hf11]; exact p8.set
  refine lv_aload_n hx hb dR_append_30 rfl (lv_at hl 0 rfl) ?_
  refine lv_dup hx hb dR_append_31 rfl ?_
  refine mm_get (v := .int (nI N)) hx hb hg inR hown hK hP hrL p12 rfl 3 (by decide) (hg _ gw105) (fun _ h9 => h9) rfl dR_append_32 ?_
  refine lv_iconst (v := nI 1) hx hb dR_append_35 (by decide) ?_
  refine lv_iadd hx hb dR_append_36 ?_
  rw [nI_add]
  refine mm_put (v := .int (nI (N + 1))) (ty := .int) hx hb hg inR tyR tyR_ok nmR hown hK hn hA hP hS hrL p12 rfl 3 (by decide) (hg _ gw105) (fun _ h9 => h9) rfl (by decide +kernel) rfl rfl (Nat.le_of_ble_eq_true rfl) dR_append_37 (fun H locs hP hS => ?_)
  obtain ⟨f16, hf16⟩ : ∃ z, z = va_up f11 r (.inr (2, [.ref ra, .ref rb, .ref rk, .int (nI (N + 1))])) := ⟨_, rfl⟩
  have hP : va_P D zCl (va_pl L f16) H := by rw [hf16]; exact hP
  have p17 : mm_I tys f16 ra 4 (upd ga N a) := p13.eq (by rw [hf16, va_up_ne _ _ (Ne.symm (mm_IO p13 p12))])
  have p18 : mm_I tys f16 rb 4 (upd gb N b) := p14.eq (by rw [hf16, va_up_ne _ _ (Ne.symm (mm_IO p14 p12))])
  have p19 : mm_I tys f16 rk 4 (upd gk N k) := p15.eq (by rw [hf16, va_up_ne _ _ (Ne.symm (mm_IO p15 p12))])
  have p20 : f16 r = .inr (2, [.ref ra, .ref rb, .ref rk, .int (nI (N + 1))]) := by rw [hf16]; exact va_up_self _ _ _
  refine lv_aload_n hx hb dR_append_40 rfl (lv_at hl 0 rfl) ?_
  refine mm_get (v := .int (nI (N + 1))) hx hb hg inR hown hK hP hrL p20 rfl 3 (by decide) (hg _ gw105) (fun _ h9 => h9) rfl dR_append_41 ?_
  exact ret_i C0 hP hS ⟨rfl, p20, p17, p18, p19, fun z z1 z2 z3 z4 => by rw [hf16, hf11, hf6, hf1, va_up_ne _ _ z1, mm_si_ne z4, mm_si_ne z3, mm_si_ne z2]⟩ dR_append_44
set_option maxRecDepth 100000 in
set_option maxHeartbeats 4000000 in
theorem s_write {l : Launch} {D : va_G} {tys : List (ClassId × FieldType)} {L : List Nat} {f : Nat → va_E} (hn : L.Nodup) {q : Nat} {i0 i1 i2 i3 i4 i5 kd a b cc k : Int32} (hqL : q ∈ L) (q1 : f q = .inr (3, [.int i0, .int i1, .int i2, .int i3, .int i4, .int i5])) : MetV l yS_write wS_write ({ frames := 0, cells := 0, slots := 0, locals := 0 } : Room) D tys L f [.ref q, .int kd, .int a, .int b, .int cc, .int k] (fun f' => f' q = .inr (3, [.int kd, .int a, .int b, .int cc, .int k, .int (-1)]) ∧ ∀ z, z ≠ q → f' z = f z) := by
  refine met_of "LiquidChecker$Statement" (by decide) rfl (Nat.le_of_ble_eq_true rfl) ?_
  intro p e s m below meth c ls C0 hP hl
  obtain ⟨hx, hb, hml, hown, hg, hr, hlocks, hK, hN⟩ := id C0
  have hA : ∀ a ∈ L, inL L a := fun _ h => h
  obtain ⟨H, hH⟩ : ∃ z, z = s.heap := ⟨_, rfl⟩
  rw [← hH] at hP ⊢
  have hS : va_S (inL L) s.heap H [] := by rw [hH]; exact va_S.rf
  have hl : lv_has ls 6 [(0, .ref q), (1, .int kd), (2, .int a), (3, .int b), (4, .int cc), (5, .int k)] := hl
  refine lv_aload_n hx hb dS_write_0 rfl (lv_at hl 0 rfl) ?_
  refine lv_iload_n hx hb dS_write_1 rfl (lv_at hl 1 rfl) ?_
  refine mm_put (v := .int kd) (ty := .int) hx hb hg inS tyS tyS_ok nmS hown hK hn hA hP hS hqL q1 rfl 0 (by decide) (hg _ gw124) (fun _ h9 => h9) rfl (by decide +kernel) rfl rfl (Nat.le_of_ble_eq_true rfl) dS_write_2 (fun H locs hP hS => ?_)
  obtain ⟨f1, hf1⟩ : ∃ z, z = va_up f q (.inr (3, [.int kd, .int i1, .int i2, .int i3, .int i4, .int i5])) := ⟨_, rfl⟩
  have hP : va_P D zCl (va_pl L f1) H := by rw [hf1]; exact hP
  have p2 : f1 q = .inr (3, [.int kd, .int i1, .int i2, .int i3, .int i4, .int i5]) := by rw [hf1]; exact va_up_self _ _ _
  refine lv_aload_n hx hb dS_write_5 rfl (lv_at hl 0 rfl) ?_
  refine lv_iload_n hx hb dS_write_6 rfl (lv_at hl 2 rfl) ?_
  refine mm_put (v := .int a) (ty := .int) hx hb hg inS tyS tyS_ok nmS hown hK hn hA hP hS hqL p2 rfl 1 (by decide) (hg _ gw127) (fun _ h9 => h9) rfl (by decide +kernel) rfl rfl (Nat.le_of_ble_eq_true rfl) dS_write_7 (fun H locs hP hS => ?_)
  obtain ⟨f3, hf3⟩ : ∃ z, z = va_up f1 q (.inr (3, [.int kd, .int a, .int i2, .int i3, .int i4, .int i5])) := ⟨_, rfl⟩
  have hP : va_P D zCl (va_pl L f3) H := by rw [hf3]; exact hP
  have p4 : f3 q = .inr (3, [.int kd, .int a, .int i2, .int i3, .int i4, .int i5]) := by rw [hf3]; exact va_up_self _ _ _
  refine lv_aload_n hx hb dS_write_10 rfl (lv_at hl 0 rfl) ?_
  refine lv_iload_n hx hb dS_write_11 rfl (lv_at hl 3 rfl) ?_
  refine mm_put (v := .int b) (ty := .int) hx hb hg inS tyS tyS_ok nmS hown hK hn hA hP hS hqL p4 rfl 2 (by decide) (hg _ gw129) (fun _ h9 => h9) rfl (by decide +kernel) rfl rfl (Nat.le_of_ble_eq_true rfl) dS_write_12 (fun H locs hP hS => ?_)
  obtain ⟨f5, hf5⟩ : ∃ z, z = va_up f3 q (.inr (3, [.int kd, .int a, .int b, .int i3, .int i4, .int i5])) := ⟨_, rfl⟩
  have hP : va_P D zCl (va_pl L f5) H := by rw [hf5]; exact hP
  have p6 : f5 q = .inr (3, [.int kd, .int a, .int b, .int i3, .int i4, .int i5]) := by rw [hf5]; exact va_up_self _ _ _
  refine lv_aload_n hx hb dS_write_15 rfl (lv_at hl 0 rfl) ?_
  refine lv_iload hx hb dS_write_16 (lv_at hl 4 rfl) ?_
  refine mm_put (v := .int cc) (ty := .int) hx hb hg inS tyS tyS_ok nmS hown hK hn hA hP hS hqL p6 rfl 3 (by decide) (hg _ gw131) (fun _ h9 => h9) rfl (by decide +kernel) rfl rfl (Nat.le_of_ble_eq_true rfl) dS_write_18 (fun H locs hP hS => ?_)
  obtain ⟨f7, hf7⟩ : ∃ z, z = va_up f5 q (.inr (3, [.int kd, .int a, .int b, .int cc, .int i4, .int i5])) := ⟨_, rfl⟩
  have hP : va_P D zCl (va_pl L f7) H := by rw [hf7]; exact hP
  have p8 : f7 q = .inr (3, [.int kd, .int a, .int b, .int cc, .int i4, .int i5]) := by rw [hf7]; exact va_up_self _ _ _
  refine lv_aload_n hx hb dS_write_21 rfl (lv_at hl 0 rfl) ?_
  refine lv_iload hx hb dS_write_22 (lv_at hl 5 rfl) ?_
  refine mm_put (v := .int k) (ty := .int) hx hb hg inS tyS tyS_ok nmS hown hK hn hA hP hS hqL p8 rfl 4 (by decide) (hg _ gw133) (fun _ h9 => h9) rfl (by decide +kernel) rfl rfl (Nat.le_of_ble_eq_true rfl) dS_write_24 (fun H locs hP hS => ?_)
  obtain ⟨f9, hf9⟩ : ∃ z, z = va_up f7 q (.inr (3, [.int kd, .int a, .int b, .int cc, .int k, .int i5])) := ⟨_, rfl⟩
  have hP : va_P D zCl (va_pl L f9) H := by rw [hf9]; exact hP
  have p10 : f9 q = .inr (3, [.int kd, .int a, .int b, .int cc, .int k, .int i5]) := by rw [hf9]; exact va_up_self _ _ _
  refine lv_aload_n hx hb dS_write_27 rfl (lv_at hl 0 rfl) ?_
  refine lv_iconst (v := (-1)) hx hb dS_write_28 (by decide) ?_
  refine mm_put (v := .int (-1)) (ty := .int) hx hb hg inS tyS tyS_ok nmS hown hK hn hA hP hS hqL p10 rfl 5 (by decide) (hg _ gw135) (fun _ h9 => h9) rfl (by decide +kernel) rfl rfl (Nat.le_of_ble_eq_true rfl) dS_write_29 (fun H locs hP hS => ?_)
  obtain ⟨f11, hf11⟩ : ∃ z, z = va_up f9 q (.inr (3, [.int kd, .int a, .int b, .int cc, .int k, .int (-1)])) := ⟨_, rfl⟩
  have hP : va_P D zCl (va_pl L f11) H := by rw [hf11]; exact hP
  have p12 : f11 q = .inr (3, [.int kd, .int a, .int b, .int cc, .int k, .int (-1)]) := by rw [hf11]; exact va_up_self _ _ _
  exact ret_v C0 hP hS ⟨p12, fun z z1 => by rw [hf11, hf9, hf7, hf5, hf3, hf1, va_up_ne _ _ z1, va_up_ne _ _ z1, va_up_ne _ _ z1, va_up_ne _ _ z1, va_up_ne _ _ z1, va_up_ne _ _ z1]⟩ dS_write_32
set_option maxRecDepth 100000 in
set_option maxHeartbeats 4000000 in
theorem r_learned_loop {p : Program} {l : Launch} {e : Env} {s : State} {m : MethodId} {args : Array Value} {below : List Frame} {meth : Method} {c : Code} {D : va_G} {tys : List (ClassId × FieldType)} {L : List Nat} {f : Nat → va_E} {Q : State → Prop} (C0 : Cx p s m args meth c cR_learnedBy 5 "LiquidChecker$Relations" none D tys) (hn : L.Nodup) {r ra rb rk N : Nat} {ga gb gk : Nat → Int32} (hrL : r ∈ L) (hraL : ra ∈ L) (hrbL : rb ∈ L) (hrkL : rk ∈ L) (r1 : f r = .inr (2, [.ref ra, .ref rb, .ref rk, .int (nI N)])) (r2 : mm_I tys f ra 4 ga) (r3 : mm_I tys f rb 4 gb) (r4 : mm_I tys f rk 4 gk) (hNr : N ≤ 4) {h b : Nat} (hh : h ∈ L) (hbL : b ∈ L) {T : Int} (hT : T + 4004 ≤ 1000000) {xa xb : Nat → Nat} {u v : Nat} (hu : u < 12) (hv : v < 12) (hra : ∀ j, j < N → ga j = nI (xa j) ∧ xa j < 4) (hrb : ∀ j, j < N → gb j = nI (xb j) ∧ xb j < 4) (hrk : ∀ j, j < N → -1001 ≤ (gk j).toInt ∧ (gk j).toInt ≤ 1001) (dr : r ≠ h) (hr2 : r ≠ b) (da1 : ra ≠ h) (da2 : ra ≠ b) (db1 : rb ≠ h) (db2 : rb ≠ b) (dk1 : rk ≠ h) (dk2 : rk ≠ b) : ∀ (n i : Nat) (K : kl_K) (f1 : Nat → va_E), i + n = N → KnAt tys f1 h b K → Same2 f f1 h b → kl_ok (T + 1001 * (i : Int)) K → ∀ (H : Heap) (locs : List Loc) (ls : Array Slot), va_P D zCl (va_pl L f1) H → va_S (inL L) s.heap H locs → lv_has ls 5 [(4, .int (nI i)), (0, .ref r), (1, .ref h), (2, .int (nI u)), (3, .int (nI v))] → (∀ (f1 : Nat → va_E) (H : Heap) (locs : List Loc) (ls : Array Slot), KnAt tys f1 h b (r_it (kl_rel u v xa xb gk) n i K) → Same2 f f1 h b → va_P D zCl (va_pl L f1) H → va_S (inL L) s.heap H locs → lv_has ls 5 [(4, .int (nI N)), (0, .ref r), (1, .ref h), (2, .int (nI u)), (3, .int (nI v))] → W p l e ({ frames := 1, cells := 0, slots := 0, locals := 28 } : Room) s m args below meth c H locs 0 0 Q (F0 m 53 ls [])) → W p l e ({ frames := 1, cells := 0, slots := 0, locals := 28 } : Room) s m args below meth c H locs 0 0 Q (F0 m 3 ls []) := by
  obtain ⟨hx, hb, hml, hown, hg, hr, hlocks, hK, hN⟩ := id C0
  have hA : ∀ a ∈ L, inL L a := fun _ h => h
  intro n
  induction n with
  | zero =>
    intro i K f1 hi hk hsm hok H locs ls hP hS hl hx2
    obtain rfl : N = i := by omega
    have z1 : f1 r = .inr (2, [.ref ra, .ref rb, .ref rk, .int (nI N)]) := by rw [hsm r dr hr2]; exact r1
    have z2 : mm_I tys f1 ra 4 ga := r2.eq (hsm ra da1 da2)
    have z3 : mm_I tys f1 rb 4 gb := r3.eq (hsm rb db1 db2)
    have z4 : mm_I tys f1 rk 4 gk := r4.eq (hsm rk dk1 dk2)
    refine lv_iload hx hb dR_learnedBy_3 (lv_at hl 0 rfl) ?_
    refine lv_aload_n hx hb dR_learnedBy_5 rfl (lv_at hl 1 rfl) ?_
    refine mm_get (v := .int (nI N)) hx hb hg inR hown hK hP hrL z1 rfl 3 (by decide) (hg _ gw105) (fun _ h9 => h9) rfl dR_learnedBy_6 ?_
    refine lv_icmp_ge (tgt := 53) hx hb dR_learnedBy_9 (by decide) (fun c9 => ?_) (fun c9 => absurd (nI_le (by omega) (by omega)) c9)
    exact hx2 f1 H locs ls hk hsm hP hS (lv_sub hl [0, 1, 2, 3, 4] rfl)
  | succ n ih =>
    intro i K f1 hi hk hsm hok H locs ls hP hS hl hx2
    have z1 : f1 r = .inr (2, [.ref ra, .ref rb, .ref rk, .int (nI N)]) := by rw [hsm r dr hr2]; exact r1
    have z2 : mm_I tys f1 ra 4 ga := r2.eq (hsm ra da1 da2)
    have z3 : mm_I tys f1 rb 4 gb := r3.eq (hsm rb db1 db2)
    have z4 : mm_I tys f1 rk 4 gk := r4.eq (hsm rk dk1 dk2)
    refine lv_iload hx hb dR_learnedBy_3 (lv_at hl 0 rfl) ?_
    refine lv_aload_n hx hb dR_learnedBy_5 rfl (lv_at hl 1 rfl) ?_
    refine mm_get (v := .int (nI N)) hx hb hg inR hown hK hP hrL z1 rfl 3 (by decide) (hg _ gw105) (fun _ h9 => h9) rfl dR_learnedBy_6 ?_
    refine lv_icmp_ge (tgt := 53) hx hb dR_learnedBy_9 (by decide) (fun c9 => absurd c9 (nI_ge (show i < N by omega) (by omega))) (fun c9 => ?_)
    refine lv_aload_n hx hb dR_learnedBy_12 rfl (lv_at hl 2 rfl) ?_
    refine lv_aload_n hx hb dR_learnedBy_13 rfl (lv_at hl 1 rfl) ?_
    refine mm_get (v := .ref ra) hx hb hg inR hown hK hP hrL z1 rfl 0 (by decide) (hg _ gw102) (fun _ h9 => h9) rfl dR_learnedBy_14 ?_
    refine lv_iload hx hb dR_learnedBy_17 (lv_at hl 0 rfl) ?_
    refine mm_iald hx hb hK hP hraL z2 (vp_in_nI (show i < 4 by omega) (by omega)) dR_learnedBy_19 ?_
    rw [nI_clamp (by omega)]
    rw [(hra i (by omega)).1]
    refine lv_iload_n hx hb dR_learnedBy_20 rfl (lv_at hl 3 rfl) ?_
    refine lv_iload_n hx hb dR_learnedBy_21 rfl (lv_at hl 4 rfl) ?_
    refine then_i (run_S (n := 3) (As := [.int (nI (xa i)), .int (nI u), .int (nI v)]) (rest := [.ref h]) C0 (r_nameFor hn (hra i (by omega)).2) gw427 gw425 gw426 gw5 (by decide +kernel) ⟨Nat.le_of_ble_eq_true rfl, Nat.le_of_ble_eq_true rfl⟩ rfl rfl ⟨Nat.le_of_ble_eq_true rfl, Nat.le_of_ble_eq_true rfl⟩ hP rfl hl.1 rfl (Nat.le_of_ble_eq_true rfl) dR_learnedBy_22) hS hA (fun r2 f1 H locs hq22 hP hS => ?_)
    obtain ⟨er2, ef1⟩ := hq22
    subst er2
    rw [ef1] at hP
    refine lv_aload_n hx hb dR_learnedBy_25 rfl (lv_at hl 1 rfl) ?_
    refine mm_get (v := .ref rb) hx hb hg inR hown hK hP hrL z1 rfl 1 (by decide) (hg _ gw103) (fun _ h9 => h9) rfl dR_learnedBy_26 ?_
    refine lv_iload hx hb dR_learnedBy_29 (lv_at hl 0 rfl) ?_
    refine mm_iald hx hb hK hP hrbL z3 (vp_in_nI (show i < 4 by omega) (by omega)) dR_learnedBy_31 ?_
    rw [nI_clamp (by omega)]
    rw [(hrb i (by omega)).1]
    refine lv_iload_n hx hb dR_learnedBy_32 rfl (lv_at hl 3 rfl) ?_
    refine lv_iload_n hx hb dR_learnedBy_33 rfl (lv_at hl 4 rfl) ?_
    refine then_i (run_S (n := 3) (As := [.int (nI (xb i)), .int (nI u), .int (nI v)]) (rest := [.int (nI (nf (xa i) u v)), .ref h]) C0 (r_nameFor hn (hrb i (by omega)).2) gw427 gw425 gw426 gw5 (by decide +kernel) ⟨Nat.le_of_ble_eq_true rfl, Nat.le_of_ble_eq_true rfl⟩ rfl rfl ⟨Nat.le_of_ble_eq_true rfl, Nat.le_of_ble_eq_true rfl⟩ hP rfl hl.1 rfl (Nat.le_of_ble_eq_true rfl) dR_learnedBy_34) hS hA (fun r4 f3 H locs hq34 hP hS => ?_)
    obtain ⟨er4, ef3⟩ := hq34
    subst er4
    rw [ef3] at hP
    refine lv_aload_n hx hb dR_learnedBy_37 rfl (lv_at hl 1 rfl) ?_
    refine mm_get (v := .ref rk) hx hb hg inR hown hK hP hrL z1 rfl 2 (by decide) (hg _ gw104) (fun _ h9 => h9) rfl dR_learnedBy_38 ?_
    refine lv_iload hx hb dR_learnedBy_41 (lv_at hl 0 rfl) ?_
    refine mm_iald hx hb hK hP hrkL z4 (vp_in_nI (show i < 4 by omega) (by omega)) dR_learnedBy_43 ?_
    rw [nI_clamp (by omega)]
    refine then_v (run_VN (n := 3) (As := [.int (nI (nf (xa i) u v)), .int (nI (nf (xb i) u v)), .int (gk i)]) (rest := []) C0 (ka_learn hn hh hbL hk hok (by omega) (nf_lt (hra i (by omega)).2 hu hv) (nf_lt (hrb i (by omega)).2 hu hv) (hrk i (by omega))) gw431 nx428 gw430 gsK_learn gw3 (by decide +kernel) ⟨Nat.le_of_ble_eq_true rfl, Nat.le_of_ble_eq_true rfl⟩ rfl rfl ⟨Nat.le_of_ble_eq_true rfl, Nat.le_of_ble_eq_true rfl⟩ hP hh hk.1 rfl rfl rfl hl.1 rfl (Nat.le_of_ble_eq_true rfl) dR_learnedBy_44) hS hA (fun f5 H locs hq44 hP hS => ?_)
    obtain ⟨hk2, hsm2⟩ := hq44
    refine lv_iinc (v := nI (i + 1)) (lv' := [(4, .int (nI (i + 1))), (0, .ref r), (1, .ref h), (2, .int (nI u)), (3, .int (nI v))]) hx hb dR_learnedBy_47 hl (k := 0) rfl (nI_add i 1) (by decide) rfl (fun ls hl => ?_)
    refine lv_goto (tgt := 3) hx hb dR_learnedBy_50 (by decide) ?_
    exact ih (i + 1) (kl_rel u v xa xb gk i K) f5 (by omega) hk2 (fun z y1 y2 => by rw [hsm2 z y1 y2]; exact hsm z y1 y2) ((kl_learn_ok (nf_lt (hra i (by omega)).2 hu hv) (nf_lt (hrb i (by omega)).2 hu hv) (hrk i (by omega)) hok).mono (by omega)) H locs ls hP hS (lv_sub hl [0, 1, 2, 3, 4] rfl) hx2
set_option maxRecDepth 100000 in
set_option maxHeartbeats 4000000 in
theorem r_learnedBy {l : Launch} {D : va_G} {tys : List (ClassId × FieldType)} {L : List Nat} {f : Nat → va_E} (hn : L.Nodup) {r ra rb rk N : Nat} {ga gb gk : Nat → Int32} (hrL : r ∈ L) (hraL : ra ∈ L) (hrbL : rb ∈ L) (hrkL : rk ∈ L) (r1 : f r = .inr (2, [.ref ra, .ref rb, .ref rk, .int (nI N)])) (r2 : mm_I tys f ra 4 ga) (r3 : mm_I tys f rb 4 gb) (r4 : mm_I tys f rk 4 gk) (hNr : N ≤ 4) {h b : Nat} (hh : h ∈ L) (hbL : b ∈ L) {T : Int} (hT : T + 4004 ≤ 1000000) {xa xb : Nat → Nat} {u v : Nat} (hu : u < 12) (hv : v < 12) (hra : ∀ j, j < N → ga j = nI (xa j) ∧ xa j < 4) (hrb : ∀ j, j < N → gb j = nI (xb j) ∧ xb j < 4) (hrk : ∀ j, j < N → -1001 ≤ (gk j).toInt ∧ (gk j).toInt ≤ 1001) (dr : r ≠ h) (hr2 : r ≠ b) (da1 : ra ≠ h) (da2 : ra ≠ b) (db1 : rb ≠ h) (db2 : rb ≠ b) (dk1 : rk ≠ h) (dk2 : rk ≠ b) {K : kl_K} (hk : KnAt tys f h b K) (hok : kl_ok T K) : MetV l yR_learnedBy wR_learnedBy ({ frames := 1, cells := 0, slots := 0, locals := 28 } : Room) D tys L f [.ref r, .ref h, .int (nI u), .int (nI v)] (fun f' => KnAt tys f' h b (r_it (kl_rel u v xa xb gk) N 0 K) ∧ Same2 f f' h b) := by
  refine met_of "LiquidChecker$Relations" (by decide) rfl (Nat.le_of_ble_eq_true rfl) ?_
  intro p e s m below meth c ls C0 hP hl
  obtain ⟨hx, hb, hml, hown, hg, hr, hlocks, hK, hN⟩ := id C0
  have hA : ∀ a ∈ L, inL L a := fun _ h => h
  obtain ⟨H, hH⟩ : ∃ z, z = s.heap := ⟨_, rfl⟩
  rw [← hH] at hP ⊢
  have hS : va_S (inL L) s.heap H [] := by rw [hH]; exact va_S.rf
  have hl : lv_has ls 5 [(0, .ref r), (1, .ref h), (2, .int (nI u)), (3, .int (nI v))] := hl
  refine lv_iconst (v := nI 0) hx hb dR_learnedBy_0 (by decide) ?_
  refine lv_istore (lv' := [(4, .int (nI 0)), (0, .ref r), (1, .ref h), (2, .int (nI u)), (3, .int (nI v))]) hx hb dR_learnedBy_1 hl (by decide) rfl (fun ls hl => ?_)
  refine r_learned_loop C0 hn hrL hraL hrbL hrkL r1 r2 r3 r4 hNr hh hbL hT hu hv hra hrb hrk dr hr2 da1 da2 db1 db2 dk1 dk2 N 0 K f (by omega) hk (fun _ _ _ => rfl) (hok.mono (by omega)) H [] ls hP hS (lv_sub hl [0, 1, 2, 3, 4] rfl) (fun f1 H locs ls hk1 hsm hP hS hl => ?_)
  exact ret_v C0 hP hS ⟨hk1, hsm⟩ dR_learnedBy_53
theorem ts_nf9 {x : Bool} (h : ¬ x = false) : x = true := by cases x; exact absurd rfl h; rfl
set_option maxRecDepth 100000 in
set_option maxHeartbeats 4000000 in
theorem r_shown_loop {p : Program} {l : Launch} {e : Env} {s : State} {m : MethodId} {args : Array Value} {below : List Frame} {meth : Method} {c : Code} {D : va_G} {tys : List (ClassId × FieldType)} {L : List Nat} {f : Nat → va_E} (C0 : Cx p s m args meth c cR_shownBy 5 "LiquidChecker$Relations" (some .boolean) D tys) (hn : L.Nodup) {r ra rb rk N : Nat} {ga gb gk : Nat → Int32} (hrL : r ∈ L) (hraL : ra ∈ L) (hrbL : rb ∈ L) (hrkL : rk ∈ L) (r1 : f r = .inr (2, [.ref ra, .ref rb, .ref rk, .int (nI N)])) (r2 : mm_I tys f ra 4 ga) (r3 : mm_I tys f rb 4 gb) (r4 : mm_I tys f rk 4 gk) (hNr : N ≤ 4) {h b : Nat} (hh : h ∈ L) (hbL : b ∈ L) {T : Int} (hT : T ≤ 1000000) {xa xb : Nat → Nat} {u v : Nat} (hu : u < 12) (hv : v < 12) (hra : ∀ j, j < N → ga j = nI (xa j) ∧ xa j < 4) (hrb : ∀ j, j < N → gb j = nI (xb j) ∧ xb j < 4) (hrk : ∀ j, j < N → -1001 ≤ (gk j).toInt ∧ (gk j).toInt ≤ 1001) {K : kl_K} (hk : KnAt tys f h b K) (hok : kl_ok T K) : ∀ (n i : Nat), i + n = N → allB (kl_sh u v xa xb gk K) N 0 = allB (kl_sh u v xa xb gk K) n i → ∀ (H : Heap) (locs : List Loc) (ls : Array Slot), va_P D zCl (va_pl L f) H → va_S (inL L) s.heap H locs → lv_has ls 5 [(4, .int (nI i)), (0, .ref r), (1, .ref h), (2, .int (nI u)), (3, .int (nI v))] → W p l e ({ frames := 1, cells := 0, slots := 0, locals := 23 } : Room) s m args below meth c H locs 0 0 (MQ below (va_Qi (fun r f' => r = kb (allB (kl_sh u v xa xb gk K) N 0) ∧ f' = f) (cB D L) (inL L)) args s 0 0 (inL L)) (F0 m 3 ls []) := by
  obtain ⟨hx, hb, hml, hown, hg, hr, hlocks, hK, hN⟩ := id C0
  have hA : ∀ a ∈ L, inL L a := fun _ h => h
  intro n
  induction n with
  | zero =>
    intro i hi hal H locs ls hP hS hl
    obtain rfl : N = i := by omega
    refine lv_iload hx hb dR_shownBy_3 (lv_at hl 0 rfl) ?_
    refine lv_aload_n hx hb dR_shownBy_5 rfl (lv_at hl 1 rfl) ?_
    refine mm_get (v := .int (nI N)) hx hb hg inR hown hK hP hrL r1 rfl 3 (by decide) (hg _ gw105) (fun _ h9 => h9) rfl dR_shownBy_6 ?_
    refine lv_icmp_ge (tgt := 58) hx hb dR_shownBy_9 (by decide) (fun c9 => ?_) (fun c9 => absurd (nI_le (by omega) (by omega)) c9)
    refine lv_iconst (v := nI 1) hx hb dR_shownBy_58 (by decide) ?_
    exact ret_z C0 rfl hP hS ⟨by rw [hal]; rfl, rfl⟩ dR_shownBy_59
  | succ n ih =>
    intro i hi hal H locs ls hP hS hl
    refine lv_iload hx hb dR_shownBy_3 (lv_at hl 0 rfl) ?_
    refine lv_aload_n hx hb dR_shownBy_5 rfl (lv_at hl 1 rfl) ?_
    refine mm_get (v := .int (nI N)) hx hb hg inR hown hK hP hrL r1 rfl 3 (by decide) (hg _ gw105) (fun _ h9 => h9) rfl dR_shownBy_6 ?_
    refine lv_icmp_ge (tgt := 58) hx hb dR_shownBy_9 (by decide) (fun c9 => absurd c9 (nI_ge (show i < N by omega) (by omega))) (fun c9 => ?_)
    refine lv_aload_n hx hb dR_shownBy_12 rfl (lv_at hl 2 rfl) ?_
    refine lv_aload_n hx hb dR_shownBy_13 rfl (lv_at hl 1 rfl) ?_
    refine mm_get (v := .ref ra) hx hb hg inR hown hK hP hrL r1 rfl 0 (by decide) (hg _ gw102) (fun _ h9 => h9) rfl dR_shownBy_14 ?_
    refine lv_iload hx hb dR_shownBy_17 (lv_at hl 0 rfl) ?_
    refine mm_iald hx hb hK hP hraL r2 (vp_in_nI (show i < 4 by omega) (by omega)) dR_shownBy_19 ?_
    rw [nI_clamp (by omega)]
    rw [(hra i (by omega)).1]
    refine lv_iload_n hx hb dR_shownBy_20 rfl (lv_at hl 3 rfl) ?_
    refine lv_iload_n hx hb dR_shownBy_21 rfl (lv_at hl 4 rfl) ?_
    refine then_i (run_S (n := 3) (As := [.int (nI (xa i)), .int (nI u), .int (nI v)]) (rest := [.ref h]) C0 (r_nameFor hn (hra i (by omega)).2) gw427 gw425 gw426 gw5 (by decide +kernel) ⟨Nat.le_of_ble_eq_true rfl, Nat.le_of_ble_eq_true rfl⟩ rfl rfl ⟨Nat.le_of_ble_eq_true rfl, Nat.le_of_ble_eq_true rfl⟩ hP rfl hl.1 rfl (Nat.le_of_ble_eq_true rfl) dR_shownBy_22) hS hA (fun r2 f1 H locs hq22 hP hS => ?_)
    obtain ⟨er2, ef1⟩ := hq22
    subst er2
    rw [ef1] at hP
    refine lv_aload_n hx hb dR_shownBy_25 rfl (lv_at hl 1 rfl) ?_
    refine mm_get (v := .ref rb) hx hb hg inR hown hK hP hrL r1 rfl 1 (by decide) (hg _ gw103) (fun _ h9 => h9) rfl dR_shownBy_26 ?_
    refine lv_iload hx hb dR_shownBy_29 (lv_at hl 0 rfl) ?_
    refine mm_iald hx hb hK hP hrbL r3 (vp_in_nI (show i < 4 by omega) (by omega)) dR_shownBy_31 ?_
    rw [nI_clamp (by omega)]
    rw [(hrb i (by omega)).1]
    refine lv_iload_n hx hb dR_shownBy_32 rfl (lv_at hl 3 rfl) ?_
    refine lv_iload_n hx hb dR_shownBy_33 rfl (lv_at hl 4 rfl) ?_
    refine then_i (run_S (n := 3) (As := [.int (nI (xb i)), .int (nI u), .int (nI v)]) (rest := [.int (nI (nf (xa i) u v)), .ref h]) C0 (r_nameFor hn (hrb i (by omega)).2) gw427 gw425 gw426 gw5 (by decide +kernel) ⟨Nat.le_of_ble_eq_true rfl, Nat.le_of_ble_eq_true rfl⟩ rfl rfl ⟨Nat.le_of_ble_eq_true rfl, Nat.le_of_ble_eq_true rfl⟩ hP rfl hl.1 rfl (Nat.le_of_ble_eq_true rfl) dR_shownBy_34) hS hA (fun r4 f3 H locs hq34 hP hS => ?_)
    obtain ⟨er4, ef3⟩ := hq34
    subst er4
    rw [ef3] at hP
    refine lv_aload_n hx hb dR_shownBy_37 rfl (lv_at hl 1 rfl) ?_
    refine mm_get (v := .ref rk) hx hb hg inR hown hK hP hrL r1 rfl 2 (by decide) (hg _ gw104) (fun _ h9 => h9) rfl dR_shownBy_38 ?_
    refine lv_iload hx hb dR_shownBy_41 (lv_at hl 0 rfl) ?_
    refine mm_iald hx hb hK hP hrkL r4 (vp_in_nI (show i < 4 by omega) (by omega)) dR_shownBy_43 ?_
    rw [nI_clamp (by omega)]
    refine then_i (run_VN (n := 3) (As := [.int (nI (nf (xa i) u v)), .int (nI (nf (xb i) u v)), .int (gk i)]) (rest := []) C0 (ka_shows hn hh hbL hk hok hT (nf_lt (hra i (by omega)).2 hu hv) (nf_lt (hrb i (by omega)).2 hu hv) (hrk i (by omega))) gw465 nx462 gw464 gsK_shows gw3 (by decide +kernel) ⟨Nat.le_of_ble_eq_true rfl, Nat.le_of_ble_eq_true rfl⟩ rfl rfl ⟨Nat.le_of_ble_eq_true rfl, Nat.le_of_ble_eq_true rfl⟩ hP hh hk.1 rfl rfl rfl hl.1 rfl (Nat.le_of_ble_eq_true rfl) dR_shownBy_44) hS hA (fun r6 f5 H locs hq44 hP hS => ?_)
    obtain ⟨er6, ef5⟩ := hq44
    subst er6
    rw [ef5] at hP
    refine lv_if_ne (tgt := 52) hx hb dR_shownBy_47 (by decide) (fun c47 => ?_) (fun c47 => ?_)
    · refine lv_iinc (v := nI (i + 1)) (lv' := [(4, .int (nI (i + 1))), (0, .ref r), (1, .ref h), (2, .int (nI u)), (3, .int (nI v))]) hx hb dR_shownBy_52 hl (k := 0) rfl (nI_add i 1) (by decide) rfl (fun ls hl => ?_)
      refine lv_goto (tgt := 3) hx hb dR_shownBy_55 (by decide) ?_
      exact ih (i + 1) (by omega) (by rw [hal]; show (kl_sh u v xa xb gk K i && _) = _; rw [show kl_sh u v xa xb gk K i = true from ts_nf9 (fun z => c47 (kb_0.mpr z))]; rfl) H locs ls hP hS (lv_sub hl [0, 1, 2, 3, 4] rfl)
    · refine lv_iconst (v := nI 0) hx hb dR_shownBy_50 (by decide) ?_
      exact ret_z C0 rfl hP hS ⟨by rw [hal]; show _ = kb (kl_sh u v xa xb gk K i && _); rw [show kl_sh u v xa xb gk K i = false from kb_0.mp c47]; rfl, rfl⟩ dR_shownBy_51
set_option maxRecDepth 100000 in
set_option maxHeartbeats 4000000 in
theorem r_shownBy {l : Launch} {D : va_G} {tys : List (ClassId × FieldType)} {L : List Nat} {f : Nat → va_E} (hn : L.Nodup) {r ra rb rk N : Nat} {ga gb gk : Nat → Int32} (hrL : r ∈ L) (hraL : ra ∈ L) (hrbL : rb ∈ L) (hrkL : rk ∈ L) (r1 : f r = .inr (2, [.ref ra, .ref rb, .ref rk, .int (nI N)])) (r2 : mm_I tys f ra 4 ga) (r3 : mm_I tys f rb 4 gb) (r4 : mm_I tys f rk 4 gk) (hNr : N ≤ 4) {h b : Nat} (hh : h ∈ L) (hbL : b ∈ L) {T : Int} (hT : T ≤ 1000000) {xa xb : Nat → Nat} {u v : Nat} (hu : u < 12) (hv : v < 12) (hra : ∀ j, j < N → ga j = nI (xa j) ∧ xa j < 4) (hrb : ∀ j, j < N → gb j = nI (xb j) ∧ xb j < 4) (hrk : ∀ j, j < N → -1001 ≤ (gk j).toInt ∧ (gk j).toInt ≤ 1001) {K : kl_K} (hk : KnAt tys f h b K) (hok : kl_ok T K) : MetI l yR_shownBy wR_shownBy ({ frames := 1, cells := 0, slots := 0, locals := 23 } : Room) D tys L f [.ref r, .ref h, .int (nI u), .int (nI v)] (fun r f' => r = kb (allB (kl_sh u v xa xb gk K) N 0) ∧ f' = f) := by
  refine met_of "LiquidChecker$Relations" (by decide) rfl (Nat.le_of_ble_eq_true rfl) ?_
  intro p e s m below meth c ls C0 hP hl
  obtain ⟨hx, hb, hml, hown, hg, hr, hlocks, hK, hN⟩ := id C0
  have hA : ∀ a ∈ L, inL L a := fun _ h => h
  obtain ⟨H, hH⟩ : ∃ z, z = s.heap := ⟨_, rfl⟩
  rw [← hH] at hP ⊢
  have hS : va_S (inL L) s.heap H [] := by rw [hH]; exact va_S.rf
  have hl : lv_has ls 5 [(0, .ref r), (1, .ref h), (2, .int (nI u)), (3, .int (nI v))] := hl
  refine lv_iconst (v := nI 0) hx hb dR_shownBy_0 (by decide) ?_
  refine lv_istore (lv' := [(4, .int (nI 0)), (0, .ref r), (1, .ref h), (2, .int (nI u)), (3, .int (nI v))]) hx hb dR_shownBy_1 hl (by decide) rfl (fun ls hl => ?_)
  exact r_shown_loop C0 hn hrL hraL hrbL hrkL r1 r2 r3 r4 hNr hh hbL hT hu hv hra hrb hrk hk hok N 0 (by omega) rfl H [] ls hP hS (lv_sub hl [0, 1, 2, 3, 4] rfl)
end
section
/-! LiquidChecker: its small questions -/
theorem kb_t {x : Bool} : ¬ kb x = 0 ↔ x = true := by
  cases x
  · exact ⟨fun h => absurd rfl h, fun h => by cases h⟩
  · exact ⟨fun _ => rfl, fun _ => by decide +kernel⟩
def q_in (x lo hi : Int32) : Bool := !decide (x < lo) && !decide (hi < x)
def q_fn (x : Int32) : Bool := q_in x (nI 0) (nI 3)
def q_df (x : Int32) : Bool := q_in x (-1000) (nI 1000)
def q_gv (x : Int32) : Bool := q_in x (nI 4) (nI 11)
def q_us (x : Int32) : Bool := q_in x (nI 0) (nI 2) || q_gv x
def q_gA (x : Int32) : Bool := decide (x = 0) || decide (x = nI 1) || decide (x = nI 7)
def q_uA (x : Int32) : Bool := decide (x = nI 2) || decide (x = nI 5)
def q_uB (x : Int32) : Bool := decide (x = 0) || decide (x = nI 1) || decide (x = nI 2) || decide (x = nI 5) || decide (x = nI 6)
def q_uC (x : Int32) : Bool := decide (x = nI 1)
def q_st (kd a b c k : Int32) : Bool := q_in kd (nI 0) (nI 7) && (!q_gA kd || q_gv a) && (!q_uA kd || q_us a) && (!q_uB kd || q_us b) && (!q_uC kd || q_us c) && (if kd = nI 1 then q_fn k else !q_uB kd || q_df k)
set_option maxRecDepth 100000 in
set_option maxHeartbeats 4000000 in
theorem qC_isWithin {l : Launch} {D : va_G} {tys : List (ClassId × FieldType)} {L : List Nat} {f : Nat → va_E} (hn : L.Nodup) {x lo hi : Int32} : MetI l yC_isWithin wC_isWithin ({ frames := 0, cells := 0, slots := 0, locals := 0 } : Room) D tys L f [.int x, .int lo, .int hi] (fun r f' => r = kb (q_in x lo hi) ∧ f' = f) := by
  refine met_of "LiquidChecker" (by decide) rfl (Nat.le_of_ble_eq_true rfl) ?_
  intro p e s m below meth c ls C0 hP hl
  obtain ⟨hx, hb, hml, hown, hg, hr, hlocks, hK, hN⟩ := id C0
  have hA : ∀ a ∈ L, inL L a := fun _ h => h
  obtain ⟨H, hH⟩ : ∃ z, z = s.heap := ⟨_, rfl⟩
  rw [← hH] at hP ⊢
  have hS : va_S (inL L) s.heap H [] := by rw [hH]; exact va_S.rf
  have hl : lv_has ls 3 [(0, .int x), (1, .int lo), (2, .int hi)] := hl
  refine lv_iload_n hx hb dC_isWithin_0 rfl (lv_at hl 0 rfl) ?_
  refine lv_iload_n hx hb dC_isWithin_1 rfl (lv_at hl 1 rfl) ?_
  refine lv_icmp_lt (tgt := 14) hx hb dC_isWithin_2 (by decide) (fun c2 => ?_) (fun c2 => ?_)
  · refine lv_iconst (v := nI 0) hx hb dC_isWithin_14 (by decide) ?_
    exact ret_z C0 rfl hP hS ⟨by simp [q_in, kb, c2], rfl⟩ dC_isWithin_15
  · refine lv_iload_n hx hb dC_isWithin_5 rfl (lv_at hl 0 rfl) ?_
    refine lv_iload_n hx hb dC_isWithin_6 rfl (lv_at hl 2 rfl) ?_
    refine lv_icmp_gt (tgt := 14) hx hb dC_isWithin_7 (by decide) (fun c7 => ?_) (fun c7 => ?_)
    · refine lv_iconst (v := nI 0) hx hb dC_isWithin_14 (by decide) ?_
      exact ret_z C0 rfl hP hS ⟨by simp [q_in, kb, c2, c7], rfl⟩ dC_isWithin_15
    · refine lv_iconst (v := nI 1) hx hb dC_isWithin_10 (by decide) ?_
      refine lv_goto (tgt := 15) hx hb dC_isWithin_11 (by decide) ?_
      exact ret_z C0 rfl hP hS ⟨by simp [q_in, kb, c2, c7], rfl⟩ dC_isWithin_15
set_option maxRecDepth 100000 in
set_option maxHeartbeats 4000000 in
theorem qC_isFunction {l : Launch} {D : va_G} {tys : List (ClassId × FieldType)} {L : List Nat} {f : Nat → va_E} (hn : L.Nodup) {x : Int32} : MetI l yC_isFunction wC_isFunction ({ frames := 1, cells := 0, slots := 0, locals := 22 } : Room) D tys L f [.int x] (fun r f' => r = kb (q_fn x) ∧ f' = f) := by
  refine met_of "LiquidChecker" (by decide) rfl (Nat.le_of_ble_eq_true rfl) ?_
  intro p e s m below meth c ls C0 hP hl
  obtain ⟨hx, hb, hml, hown, hg, hr, hlocks, hK, hN⟩ := id C0
  have hA : ∀ a ∈ L, inL L a := fun _ h => h
  obtain ⟨H, hH⟩ : ∃ z, z = s.heap := ⟨_, rfl⟩
  rw [← hH] at hP ⊢
  have hS : va_S (inL L) s.heap H [] := by rw [hH]; exact va_S.rf
  have hl : lv_has ls 1 [(0, .int x)] := hl
  refine lv_iload_n hx hb dC_isFunction_0 rfl (lv_at hl 0 rfl) ?_
  refine lv_iconst (v := nI 0) hx hb dC_isFunction_1 (by decide) ?_
  refine lv_iconst (v := nI 3) hx hb dC_isFunction_2 (by decide) ?_
  refine then_i (run_S (n := 3) (As := [.int x, .int (nI 0), .int (nI 3)]) (rest := []) C0 (qC_isWithin hn) gw207 gw205 gw206 gw1 (by decide +kernel) ⟨Nat.le_of_ble_eq_true rfl, Nat.le_of_ble_eq_true rfl⟩ rfl rfl ⟨Nat.le_of_ble_eq_true rfl, Nat.le_of_ble_eq_true rfl⟩ hP rfl hl.1 rfl (Nat.le_of_ble_eq_true rfl) dC_isFunction_3) hS hA (fun r2 f1 H locs hq3 hP hS => ?_)
  obtain ⟨er2, ef1⟩ := hq3
  subst er2
  rw [ef1] at hP
  exact ret_z C0 (b01 (kb_or _)).1 hP hS ⟨by simp [q_fn], rfl⟩ dC_isFunction_6
set_option maxRecDepth 100000 in
set_option maxHeartbeats 4000000 in
theorem qC_isDifference {l : Launch} {D : va_G} {tys : List (ClassId × FieldType)} {L : List Nat} {f : Nat → va_E} (hn : L.Nodup) {x : Int32} : MetI l yC_isDifference wC_isDifference ({ frames := 1, cells := 0, slots := 0, locals := 22 } : Room) D tys L f [.int x] (fun r f' => r = kb (q_df x) ∧ f' = f) := by
  refine met_of "LiquidChecker" (by decide) rfl (Nat.le_of_ble_eq_true rfl) ?_
  intro p e s m below meth c ls C0 hP hl
  obtain ⟨hx, hb, hml, hown, hg, hr, hlocks, hK, hN⟩ := id C0
  have hA : ∀ a ∈ L, inL L a := fun _ h => h
  obtain ⟨H, hH⟩ : ∃ z, z = s.heap := ⟨_, rfl⟩
  rw [← hH] at hP ⊢
  have hS : va_S (inL L) s.heap H [] := by rw [hH]; exact va_S.rf
  have hl : lv_has ls 1 [(0, .int x)] := hl
  refine lv_iload_n hx hb dC_isDifference_0 rfl (lv_at hl 0 rfl) ?_
  refine lv_sipush (v := (-1000)) hx hb dC_isDifference_1 (by decide) ?_
  refine lv_sipush (v := nI 1000) hx hb dC_isDifference_4 (by decide) ?_
  refine then_i (run_S (n := 3) (As := [.int x, .int (-1000), .int (nI 1000)]) (rest := []) C0 (qC_isWithin hn) gw207 gw205 gw206 gw1 (by decide +kernel) ⟨Nat.le_of_ble_eq_true rfl, Nat.le_of_ble_eq_true rfl⟩ rfl rfl ⟨Nat.le_of_ble_eq_true rfl, Nat.le_of_ble_eq_true rfl⟩ hP rfl hl.1 rfl (Nat.le_of_ble_eq_true rfl) dC_isDifference_7) hS hA (fun r2 f1 H locs hq7 hP hS => ?_)
  obtain ⟨er2, ef1⟩ := hq7
  subst er2
  rw [ef1] at hP
  exact ret_z C0 (b01 (kb_or _)).1 hP hS ⟨by simp [q_df], rfl⟩ dC_isDifference_10
set_option maxRecDepth 100000 in
set_option maxHeartbeats 4000000 in
theorem qC_isGivable {l : Launch} {D : va_G} {tys : List (ClassId × FieldType)} {L : List Nat} {f : Nat → va_E} (hn : L.Nodup) {x : Int32} : MetI l yC_isGivable wC_isGivable ({ frames := 1, cells := 0, slots := 0, locals := 22 } : Room) D tys L f [.int x] (fun r f' => r = kb (q_gv x) ∧ f' = f) := by
  refine met_of "LiquidChecker" (by decide) rfl (Nat.le_of_ble_eq_true rfl) ?_
  intro p e s m below meth c ls C0 hP hl
  obtain ⟨hx, hb, hml, hown, hg, hr, hlocks, hK, hN⟩ := id C0
  have hA : ∀ a ∈ L, inL L a := fun _ h => h
  obtain ⟨H, hH⟩ : ∃ z, z = s.heap := ⟨_, rfl⟩
  rw [← hH] at hP ⊢
  have hS : va_S (inL L) s.heap H [] := by rw [hH]; exact va_S.rf
  have hl : lv_has ls 1 [(0, .int x)] := hl
  refine lv_iload_n hx hb dC_isGivable_0 rfl (lv_at hl 0 rfl) ?_
  refine lv_iconst (v := nI 4) hx hb dC_isGivable_1 (by decide) ?_
  refine lv_bipush (v := nI 11) hx hb dC_isGivable_2 (by decide) ?_
  refine then_i (run_S (n := 3) (As := [.int x, .int (nI 4), .int (nI 11)]) (rest := []) C0 (qC_isWithin hn) gw207 gw205 gw206 gw1 (by decide +kernel) ⟨Nat.le_of_ble_eq_true rfl, Nat.le_of_ble_eq_true rfl⟩ rfl rfl ⟨Nat.le_of_ble_eq_true rfl, Nat.le_of_ble_eq_true rfl⟩ hP rfl hl.1 rfl (Nat.le_of_ble_eq_true rfl) dC_isGivable_4) hS hA (fun r2 f1 H locs hq4 hP hS => ?_)
  obtain ⟨er2, ef1⟩ := hq4
  subst er2
  rw [ef1] at hP
  exact ret_z C0 (b01 (kb_or _)).1 hP hS ⟨by simp [q_gv], rfl⟩ dC_isGivable_7
set_option maxRecDepth 100000 in
set_option maxHeartbeats 4000000 in
theorem qC_isUsable {l : Launch} {D : va_G} {tys : List (ClassId × FieldType)} {L : List Nat} {f : Nat → va_E} (hn : L.Nodup) {x : Int32} : MetI l yC_isUsable wC_isUsable ({ frames := 2, cells := 0, slots := 0, locals := 42 } : Room) D tys L f [.int x] (fun r f' => r = kb (q_us x) ∧ f' = f) := by
  refine met_of "LiquidChecker" (by decide) rfl (Nat.le_of_ble_eq_true rfl) ?_
  intro p e s m below meth c ls C0 hP hl
  obtain ⟨hx, hb, hml, hown, hg, hr, hlocks, hK, hN⟩ := id C0
  have hA : ∀ a ∈ L, inL L a := fun _ h => h
  obtain ⟨H, hH⟩ : ∃ z, z = s.heap := ⟨_, rfl⟩
  rw [← hH] at hP ⊢
  have hS : va_S (inL L) s.heap H [] := by rw [hH]; exact va_S.rf
  have hl : lv_has ls 1 [(0, .int x)] := hl
  refine lv_iload_n hx hb dC_isUsable_0 rfl (lv_at hl 0 rfl) ?_
  refine lv_iconst (v := nI 0) hx hb dC_isUsable_1 (by decide) ?_
  refine lv_iconst (v := nI 2) hx hb dC_isUsable_2 (by decide) ?_
  refine then_i (run_S (n := 3) (As := [.int x, .int (nI 0), .int (nI 2)]) (rest := []) C0 (qC_isWithin hn) gw207 gw205 gw206 gw1 (by decide +kernel) ⟨Nat.le_of_ble_eq_true rfl, Nat.le_of_ble_eq_true rfl⟩ rfl rfl ⟨Nat.le_of_ble_eq_true rfl, Nat.le_of_ble_eq_true rfl⟩ hP rfl hl.1 rfl (Nat.le_of_ble_eq_true rfl) dC_isUsable_3) hS hA (fun r2 f1 H locs hq3 hP hS => ?_)
  obtain ⟨er2, ef1⟩ := hq3
  subst er2
  rw [ef1] at hP
  refine lv_if_ne (tgt := 16) hx hb dC_isUsable_6 (by decide) (fun c6 => ?_) (fun c6 => ?_)
  · have c6 : (q_in x (nI 0) (nI 2)) = true := kb_t.mp c6
    refine lv_iconst (v := nI 1) hx hb dC_isUsable_16 (by decide) ?_
    refine lv_goto (tgt := 21) hx hb dC_isUsable_17 (by decide) ?_
    exact ret_z C0 rfl hP hS ⟨by simp [q_us, kb, c6], rfl⟩ dC_isUsable_21
  · have c6 : (q_in x (nI 0) (nI 2)) = false := kb_0.mp c6
    refine lv_iload_n hx hb dC_isUsable_9 rfl (lv_at hl 0 rfl) ?_
    refine then_i (run_S (n := 1) (As := [.int x]) (rest := []) C0 (qC_isGivable hn) gw318 gw316 gw317 gw1 (by decide +kernel) ⟨Nat.le_of_ble_eq_true rfl, Nat.le_of_ble_eq_true rfl⟩ rfl rfl ⟨Nat.le_of_ble_eq_true rfl, Nat.le_of_ble_eq_true rfl⟩ hP rfl hl.1 rfl (Nat.le_of_ble_eq_true rfl) dC_isUsable_10) hS hA (fun r4 f3 H locs hq10 hP hS => ?_)
    obtain ⟨er4, ef3⟩ := hq10
    subst er4
    rw [ef3] at hP
    refine lv_if_eq (tgt := 20) hx hb dC_isUsable_13 (by decide) (fun c13 => ?_) (fun c13 => ?_)
    · have c13 : (q_gv x) = false := kb_0.mp c13
      refine lv_iconst (v := nI 0) hx hb dC_isUsable_20 (by decide) ?_
      exact ret_z C0 rfl hP hS ⟨by simp [q_us, kb, c6, c13], rfl⟩ dC_isUsable_21
    · have c13 : (q_gv x) = true := kb_t.mp c13
      refine lv_iconst (v := nI 1) hx hb dC_isUsable_16 (by decide) ?_
      refine lv_goto (tgt := 21) hx hb dC_isUsable_17 (by decide) ?_
      exact ret_z C0 rfl hP hS ⟨by simp [q_us, kb, c6, c13], rfl⟩ dC_isUsable_21
set_option maxRecDepth 100000 in
set_option maxHeartbeats 4000000 in
theorem qC_givesA {l : Launch} {D : va_G} {tys : List (ClassId × FieldType)} {L : List Nat} {f : Nat → va_E} (hn : L.Nodup) {x : Int32} : MetI l yC_givesA wC_givesA ({ frames := 0, cells := 0, slots := 0, locals := 0 } : Room) D tys L f [.int x] (fun r f' => r = kb (q_gA x) ∧ f' = f) := by
  refine met_of "LiquidChecker" (by decide) rfl (Nat.le_of_ble_eq_true rfl) ?_
  intro p e s m below meth c ls C0 hP hl
  obtain ⟨hx, hb, hml, hown, hg, hr, hlocks, hK, hN⟩ := id C0
  have hA : ∀ a ∈ L, inL L a := fun _ h => h
  obtain ⟨H, hH⟩ : ∃ z, z = s.heap := ⟨_, rfl⟩
  rw [← hH] at hP ⊢
  have hS : va_S (inL L) s.heap H [] := by rw [hH]; exact va_S.rf
  have hl : lv_has ls 1 [(0, .int x)] := hl
  refine lv_iload_n hx hb dC_givesA_0 rfl (lv_at hl 0 rfl) ?_
  refine lv_if_eq (tgt := 15) hx hb dC_givesA_1 (by decide) (fun c1 => ?_) (fun c1 => ?_)
  · refine lv_iconst (v := nI 1) hx hb dC_givesA_15 (by decide) ?_
    refine lv_goto (tgt := 20) hx hb dC_givesA_16 (by decide) ?_
    exact ret_z C0 rfl hP hS ⟨by simp [q_gA, kb, c1], rfl⟩ dC_givesA_20
  · refine lv_iload_n hx hb dC_givesA_4 rfl (lv_at hl 0 rfl) ?_
    refine lv_iconst (v := nI 1) hx hb dC_givesA_5 (by decide) ?_
    refine lv_icmp_eq (tgt := 15) hx hb dC_givesA_6 (by decide) (fun c6 => ?_) (fun c6 => ?_)
    · refine lv_iconst (v := nI 1) hx hb dC_givesA_15 (by decide) ?_
      refine lv_goto (tgt := 20) hx hb dC_givesA_16 (by decide) ?_
      exact ret_z C0 rfl hP hS ⟨by simp [q_gA, kb, c1, c6], rfl⟩ dC_givesA_20
    · refine lv_iload_n hx hb dC_givesA_9 rfl (lv_at hl 0 rfl) ?_
      refine lv_bipush (v := nI 7) hx hb dC_givesA_10 (by decide) ?_
      refine lv_icmp_ne (tgt := 19) hx hb dC_givesA_12 (by decide) (fun c12 => ?_) (fun c12 => ?_)
      · refine lv_iconst (v := nI 0) hx hb dC_givesA_19 (by decide) ?_
        exact ret_z C0 rfl hP hS ⟨by simp [q_gA, kb, c1, c6, c12], rfl⟩ dC_givesA_20
      · refine lv_iconst (v := nI 1) hx hb dC_givesA_15 (by decide) ?_
        refine lv_goto (tgt := 20) hx hb dC_givesA_16 (by decide) ?_
        exact ret_z C0 rfl hP hS ⟨by simp [q_gA, kb, c1, c6, c12], rfl⟩ dC_givesA_20
set_option maxRecDepth 100000 in
set_option maxHeartbeats 4000000 in
theorem qC_usesA {l : Launch} {D : va_G} {tys : List (ClassId × FieldType)} {L : List Nat} {f : Nat → va_E} (hn : L.Nodup) {x : Int32} : MetI l yC_usesA wC_usesA ({ frames := 0, cells := 0, slots := 0, locals := 0 } : Room) D tys L f [.int x] (fun r f' => r = kb (q_uA x) ∧ f' = f) := by
  refine met_of "LiquidChecker" (by decide) rfl (Nat.le_of_ble_eq_true rfl) ?_
  intro p e s m below meth c ls C0 hP hl
  obtain ⟨hx, hb, hml, hown, hg, hr, hlocks, hK, hN⟩ := id C0
  have hA : ∀ a ∈ L, inL L a := fun _ h => h
  obtain ⟨H, hH⟩ : ∃ z, z = s.heap := ⟨_, rfl⟩
  rw [← hH] at hP ⊢
  have hS : va_S (inL L) s.heap H [] := by rw [hH]; exact va_S.rf
  have hl : lv_has ls 1 [(0, .int x)] := hl
  refine lv_iload_n hx hb dC_usesA_0 rfl (lv_at hl 0 rfl) ?_
  refine lv_iconst (v := nI 2) hx hb dC_usesA_1 (by decide) ?_
  refine lv_icmp_eq (tgt := 10) hx hb dC_usesA_2 (by decide) (fun c2 => ?_) (fun c2 => ?_)
  · refine lv_iconst (v := nI 1) hx hb dC_usesA_10 (by decide) ?_
    refine lv_goto (tgt := 15) hx hb dC_usesA_11 (by decide) ?_
    exact ret_z C0 rfl hP hS ⟨by simp [q_uA, kb, c2], rfl⟩ dC_usesA_15
  · refine lv_iload_n hx hb dC_usesA_5 rfl (lv_at hl 0 rfl) ?_
    refine lv_iconst (v := nI 5) hx hb dC_usesA_6 (by decide) ?_
    refine lv_icmp_ne (tgt := 14) hx hb dC_usesA_7 (by decide) (fun c7 => ?_) (fun c7 => ?_)
    · refine lv_iconst (v := nI 0) hx hb dC_usesA_14 (by decide) ?_
      exact ret_z C0 rfl hP hS ⟨by simp [q_uA, kb, c2, c7], rfl⟩ dC_usesA_15
    · refine lv_iconst (v := nI 1) hx hb dC_usesA_10 (by decide) ?_
      refine lv_goto (tgt := 15) hx hb dC_usesA_11 (by decide) ?_
      exact ret_z C0 rfl hP hS ⟨by simp [q_uA, kb, c2, c7], rfl⟩ dC_usesA_15
set_option maxRecDepth 100000 in
set_option maxHeartbeats 4000000 in
theorem qC_usesB {l : Launch} {D : va_G} {tys : List (ClassId × FieldType)} {L : List Nat} {f : Nat → va_E} (hn : L.Nodup) {x : Int32} : MetI l yC_usesB wC_usesB ({ frames := 0, cells := 0, slots := 0, locals := 0 } : Room) D tys L f [.int x] (fun r f' => r = kb (q_uB x) ∧ f' = f) := by
  refine met_of "LiquidChecker" (by decide) rfl (Nat.le_of_ble_eq_true rfl) ?_
  intro p e s m below meth c ls C0 hP hl
  obtain ⟨hx, hb, hml, hown, hg, hr, hlocks, hK, hN⟩ := id C0
  have hA : ∀ a ∈ L, inL L a := fun _ h => h
  obtain ⟨H, hH⟩ : ∃ z, z = s.heap := ⟨_, rfl⟩
  rw [← hH] at hP ⊢
  have hS : va_S (inL L) s.heap H [] := by rw [hH]; exact va_S.rf
  have hl : lv_has ls 1 [(0, .int x)] := hl
  refine lv_iload_n hx hb dC_usesB_0 rfl (lv_at hl 0 rfl) ?_
  refine lv_if_eq (tgt := 25) hx hb dC_usesB_1 (by decide) (fun c1 => ?_) (fun c1 => ?_)
  · refine lv_iconst (v := nI 1) hx hb dC_usesB_25 (by decide) ?_
    refine lv_goto (tgt := 30) hx hb dC_usesB_26 (by decide) ?_
    exact ret_z C0 rfl hP hS ⟨by simp [q_uB, kb, c1], rfl⟩ dC_usesB_30
  · refine lv_iload_n hx hb dC_usesB_4 rfl (lv_at hl 0 rfl) ?_
    refine lv_iconst (v := nI 1) hx hb dC_usesB_5 (by decide) ?_
    refine lv_icmp_eq (tgt := 25) hx hb dC_usesB_6 (by decide) (fun c6 => ?_) (fun c6 => ?_)
    · refine lv_iconst (v := nI 1) hx hb dC_usesB_25 (by decide) ?_
      refine lv_goto (tgt := 30) hx hb dC_usesB_26 (by decide) ?_
      exact ret_z C0 rfl hP hS ⟨by simp [q_uB, kb, c1, c6], rfl⟩ dC_usesB_30
    · refine lv_iload_n hx hb dC_usesB_9 rfl (lv_at hl 0 rfl) ?_
      refine lv_iconst (v := nI 2) hx hb dC_usesB_10 (by decide) ?_
      refine lv_icmp_eq (tgt := 25) hx hb dC_usesB_11 (by decide) (fun c11 => ?_) (fun c11 => ?_)
      · refine lv_iconst (v := nI 1) hx hb dC_usesB_25 (by decide) ?_
        refine lv_goto (tgt := 30) hx hb dC_usesB_26 (by decide) ?_
        exact ret_z C0 rfl hP hS ⟨by simp [q_uB, kb, c1, c6, c11], rfl⟩ dC_usesB_30
      · refine lv_iload_n hx hb dC_usesB_14 rfl (lv_at hl 0 rfl) ?_
        refine lv_iconst (v := nI 5) hx hb dC_usesB_15 (by decide) ?_
        refine lv_icmp_eq (tgt := 25) hx hb dC_usesB_16 (by decide) (fun c16 => ?_) (fun c16 => ?_)
        · refine lv_iconst (v := nI 1) hx hb dC_usesB_25 (by decide) ?_
          refine lv_goto (tgt := 30) hx hb dC_usesB_26 (by decide) ?_
          exact ret_z C0 rfl hP hS ⟨by simp [q_uB, kb, c1, c6, c11, c16], rfl⟩ dC_usesB_30
        · refine lv_iload_n hx hb dC_usesB_19 rfl (lv_at hl 0 rfl) ?_
          refine lv_bipush (v := nI 6) hx hb dC_usesB_20 (by decide) ?_
          refine lv_icmp_ne (tgt := 29) hx hb dC_usesB_22 (by decide) (fun c22 => ?_) (fun c22 => ?_)
          · refine lv_iconst (v := nI 0) hx hb dC_usesB_29 (by decide) ?_
            exact ret_z C0 rfl hP hS ⟨by simp [q_uB, kb, c1, c6, c11, c16, c22], rfl⟩ dC_usesB_30
          · refine lv_iconst (v := nI 1) hx hb dC_usesB_25 (by decide) ?_
            refine lv_goto (tgt := 30) hx hb dC_usesB_26 (by decide) ?_
            exact ret_z C0 rfl hP hS ⟨by simp [q_uB, kb, c1, c6, c11, c16, c22], rfl⟩ dC_usesB_30
set_option maxRecDepth 100000 in
set_option maxHeartbeats 4000000 in
theorem qC_usesC {l : Launch} {D : va_G} {tys : List (ClassId × FieldType)} {L : List Nat} {f : Nat → va_E} (hn : L.Nodup) {x : Int32} : MetI l yC_usesC wC_usesC ({ frames := 0, cells := 0, slots := 0, locals := 0 } : Room) D tys L f [.int x] (fun r f' => r = kb (q_uC x) ∧ f' = f) := by
  refine met_of "LiquidChecker" (by decide) rfl (Nat.le_of_ble_eq_true rfl) ?_
  intro p e s m below meth c ls C0 hP hl
  obtain ⟨hx, hb, hml, hown, hg, hr, hlocks, hK, hN⟩ := id C0
  have hA : ∀ a ∈ L, inL L a := fun _ h => h
  obtain ⟨H, hH⟩ : ∃ z, z = s.heap := ⟨_, rfl⟩
  rw [← hH] at hP ⊢
  have hS : va_S (inL L) s.heap H [] := by rw [hH]; exact va_S.rf
  have hl : lv_has ls 1 [(0, .int x)] := hl
  refine lv_iload_n hx hb dC_usesC_0 rfl (lv_at hl 0 rfl) ?_
  refine lv_iconst (v := nI 1) hx hb dC_usesC_1 (by decide) ?_
  refine lv_icmp_ne (tgt := 9) hx hb dC_usesC_2 (by decide) (fun c2 => ?_) (fun c2 => ?_)
  · refine lv_iconst (v := nI 0) hx hb dC_usesC_9 (by decide) ?_
    exact ret_z C0 rfl hP hS ⟨by simp [q_uC, kb, c2], rfl⟩ dC_usesC_10
  · refine lv_iconst (v := nI 1) hx hb dC_usesC_5 (by decide) ?_
    refine lv_goto (tgt := 10) hx hb dC_usesC_6 (by decide) ?_
    exact ret_z C0 rfl hP hS ⟨by simp [q_uC, kb, c2], rfl⟩ dC_usesC_10
set_option maxRecDepth 100000 in
set_option maxHeartbeats 4000000 in
theorem qC_isStatement {l : Launch} {D : va_G} {tys : List (ClassId × FieldType)} {L : List Nat} {f : Nat → va_E} (hn : L.Nodup) {kd a b cc k : Int32} : MetI l yC_isStatement wC_isStatement ({ frames := 3, cells := 0, slots := 0, locals := 62 } : Room) D tys L f [.int kd, .int a, .int b, .int cc, .int k] (fun r f' => r = kb (q_st kd a b cc k) ∧ f' = f) := by
  refine met_of "LiquidChecker" (by decide) rfl (Nat.le_of_ble_eq_true rfl) ?_
  intro p e s m below meth c ls C0 hP hl
  obtain ⟨hx, hb, hml, hown, hg, hr, hlocks, hK, hN⟩ := id C0
  have hA : ∀ a ∈ L, inL L a := fun _ h => h
  obtain ⟨H, hH⟩ : ∃ z, z = s.heap := ⟨_, rfl⟩
  rw [← hH] at hP ⊢
  have hS : va_S (inL L) s.heap H [] := by rw [hH]; exact va_S.rf
  have hl : lv_has ls 5 [(0, .int kd), (1, .int a), (2, .int b), (3, .int cc), (4, .int k)] := hl
  refine lv_iload_n hx hb dC_isStatement_0 rfl (lv_at hl 0 rfl) ?_
  refine lv_iconst (v := nI 0) hx hb dC_isStatement_1 (by decide) ?_
  refine lv_bipush (v := nI 7) hx hb dC_isStatement_2 (by decide) ?_
  refine then_i (run_S (n := 3) (As := [.int kd, .int (nI 0), .int (nI 7)]) (rest := []) C0 (qC_isWithin hn) gw207 gw205 gw206 gw1 (by decide +kernel) ⟨Nat.le_of_ble_eq_true rfl, Nat.le_of_ble_eq_true rfl⟩ rfl rfl ⟨Nat.le_of_ble_eq_true rfl, Nat.le_of_ble_eq_true rfl⟩ hP rfl hl.1 rfl (Nat.le_of_ble_eq_true rfl) dC_isStatement_4) hS hA (fun r2 f1 H locs hq4 hP hS => ?_)
  obtain ⟨er2, ef1⟩ := hq4
  subst er2
  rw [ef1] at hP
  refine lv_if_ne (tgt := 12) hx hb dC_isStatement_7 (by decide) (fun c7 => ?_) (fun c7 => ?_)
  · have c7 : (q_in kd (nI 0) (nI 7)) = true := kb_t.mp c7
    refine lv_iload_n hx hb dC_isStatement_12 rfl (lv_at hl 0 rfl) ?_
    refine then_i (run_S (n := 1) (As := [.int kd]) (rest := []) C0 (qC_givesA hn) gw315 gw313 gw314 gw1 (by decide +kernel) ⟨Nat.le_of_ble_eq_true rfl, Nat.le_of_ble_eq_true rfl⟩ rfl rfl ⟨Nat.le_of_ble_eq_true rfl, Nat.le_of_ble_eq_true rfl⟩ hP rfl hl.1 rfl (Nat.le_of_ble_eq_true rfl) dC_isStatement_13) hS hA (fun r4 f3 H locs hq13 hP hS => ?_)
    obtain ⟨er4, ef3⟩ := hq13
    subst er4
    rw [ef3] at hP
    refine lv_if_eq (tgt := 28) hx hb dC_isStatement_16 (by decide) (fun c16 => ?_) (fun c16 => ?_)
    · have c16 : (q_gA kd) = false := kb_0.mp c16
      refine lv_iload_n hx hb dC_isStatement_28 rfl (lv_at hl 0 rfl) ?_
      refine then_i (run_S (n := 1) (As := [.int kd]) (rest := []) C0 (qC_usesA hn) gw321 gw319 gw320 gw1 (by decide +kernel) ⟨Nat.le_of_ble_eq_true rfl, Nat.le_of_ble_eq_true rfl⟩ rfl rfl ⟨Nat.le_of_ble_eq_true rfl, Nat.le_of_ble_eq_true rfl⟩ hP rfl hl.1 rfl (Nat.le_of_ble_eq_true rfl) dC_isStatement_29) hS hA (fun r6 f5 H locs hq29 hP hS => ?_)
      obtain ⟨er6, ef5⟩ := hq29
      subst er6
      rw [ef5] at hP
      refine lv_if_eq (tgt := 42) hx hb dC_isStatement_32 (by decide) (fun c32 => ?_) (fun c32 => ?_)
      · have c32 : (q_uA kd) = false := kb_0.mp c32
        refine lv_iload_n hx hb dC_isStatement_42 rfl (lv_at hl 0 rfl) ?_
        refine then_i (run_S (n := 1) (As := [.int kd]) (rest := []) C0 (qC_usesB hn) gw327 gw325 gw326 gw1 (by decide +kernel) ⟨Nat.le_of_ble_eq_true rfl, Nat.le_of_ble_eq_true rfl⟩ rfl rfl ⟨Nat.le_of_ble_eq_true rfl, Nat.le_of_ble_eq_true rfl⟩ hP rfl hl.1 rfl (Nat.le_of_ble_eq_true rfl) dC_isStatement_43) hS hA (fun r8 f7 H locs hq43 hP hS => ?_)
        obtain ⟨er8, ef7⟩ := hq43
        subst er8
        rw [ef7] at hP
        refine lv_if_eq (tgt := 56) hx hb dC_isStatement_46 (by decide) (fun c46 => ?_) (fun c46 => ?_)
        · have c46 : (q_uB kd) = false := kb_0.mp c46
          refine lv_iload_n hx hb dC_isStatement_56 rfl (lv_at hl 0 rfl) ?_
          refine then_i (run_S (n := 1) (As := [.int kd]) (rest := []) C0 (qC_usesC hn) gw330 gw328 gw329 gw1 (by decide +kernel) ⟨Nat.le_of_ble_eq_true rfl, Nat.le_of_ble_eq_true rfl⟩ rfl rfl ⟨Nat.le_of_ble_eq_true rfl, Nat.le_of_ble_eq_true rfl⟩ hP rfl hl.1 rfl (Nat.le_of_ble_eq_true rfl) dC_isStatement_57) hS hA (fun r10 f9 H locs hq57 hP hS => ?_)
          obtain ⟨er10, ef9⟩ := hq57
          subst er10
          rw [ef9] at hP
          refine lv_if_eq (tgt := 72) hx hb dC_isStatement_60 (by decide) (fun c60 => ?_) (fun c60 => ?_)
          · have c60 : (q_uC kd) = false := kb_0.mp c60
            refine lv_iload_n hx hb dC_isStatement_72 rfl (lv_at hl 0 rfl) ?_
            refine lv_iconst (v := nI 1) hx hb dC_isStatement_73 (by decide) ?_
            refine lv_icmp_ne (tgt := 83) hx hb dC_isStatement_74 (by decide) (fun c74 => ?_) (fun c74 => ?_)
            · refine lv_iload_n hx hb dC_isStatement_83 rfl (lv_at hl 0 rfl) ?_
              refine then_i (run_S (n := 1) (As := [.int kd]) (rest := []) C0 (qC_usesB hn) gw327 gw325 gw326 gw1 (by decide +kernel) ⟨Nat.le_of_ble_eq_true rfl, Nat.le_of_ble_eq_true rfl⟩ rfl rfl ⟨Nat.le_of_ble_eq_true rfl, Nat.le_of_ble_eq_true rfl⟩ hP rfl hl.1 rfl (Nat.le_of_ble_eq_true rfl) dC_isStatement_84) hS hA (fun r12 f11 H locs hq84 hP hS => ?_)
              obtain ⟨er12, ef11⟩ := hq84
              subst er12
              rw [ef11] at hP
              refine lv_if_eq (tgt := 98) hx hb dC_isStatement_87 (by decide) (fun _ => ?_) (fun c87 => absurd (kb_0.mpr c46) c87)
              refine lv_iconst (v := nI 1) hx hb dC_isStatement_98 (by decide) ?_
              refine lv_goto (tgt := 103) hx hb dC_isStatement_99 (by decide) ?_
              exact ret_z C0 rfl hP hS ⟨by simp [q_st, kb, c7, c16, c32, c46, c60, if_neg c74], rfl⟩ dC_isStatement_103
            · refine lv_iload hx hb dC_isStatement_77 (lv_at hl 4 rfl) ?_
              refine then_i (run_S (n := 1) (As := [.int k]) (rest := []) C0 (qC_isFunction hn) gw204 gw202 gw203 gw1 (by decide +kernel) ⟨Nat.le_of_ble_eq_true rfl, Nat.le_of_ble_eq_true rfl⟩ rfl rfl ⟨Nat.le_of_ble_eq_true rfl, Nat.le_of_ble_eq_true rfl⟩ hP rfl hl.1 rfl (Nat.le_of_ble_eq_true rfl) dC_isStatement_79) hS hA (fun r14 f13 H locs hq79 hP hS => ?_)
              obtain ⟨er14, ef13⟩ := hq79
              subst er14
              rw [ef13] at hP
              exact ret_z C0 (b01 (kb_or _)).1 hP hS ⟨by simp [q_st, c7, c16, c32, c46, c60, if_pos c74], rfl⟩ dC_isStatement_82
          · have c60 : (q_uC kd) = true := kb_t.mp c60
            refine lv_iload_n hx hb dC_isStatement_63 rfl (lv_at hl 3 rfl) ?_
            refine then_i (run_S (n := 1) (As := [.int cc]) (rest := []) C0 (qC_isUsable hn) gw324 gw322 gw323 gw1 (by decide +kernel) ⟨Nat.le_of_ble_eq_true rfl, Nat.le_of_ble_eq_true rfl⟩ rfl rfl ⟨Nat.le_of_ble_eq_true rfl, Nat.le_of_ble_eq_true rfl⟩ hP rfl hl.1 rfl (Nat.le_of_ble_eq_true rfl) dC_isStatement_64) hS hA (fun r16 f15 H locs hq64 hP hS => ?_)
            obtain ⟨er16, ef15⟩ := hq64
            subst er16
            rw [ef15] at hP
            refine lv_if_ne (tgt := 72) hx hb dC_isStatement_67 (by decide) (fun c67 => ?_) (fun c67 => ?_)
            · have c67 : (q_us cc) = true := kb_t.mp c67
              refine lv_iload_n hx hb dC_isStatement_72 rfl (lv_at hl 0 rfl) ?_
              refine lv_iconst (v := nI 1) hx hb dC_isStatement_73 (by decide) ?_
              refine lv_icmp_ne (tgt := 83) hx hb dC_isStatement_74 (by decide) (fun c74 => ?_) (fun c74 => ?_)
              · refine lv_iload_n hx hb dC_isStatement_83 rfl (lv_at hl 0 rfl) ?_
                refine then_i (run_S (n := 1) (As := [.int kd]) (rest := []) C0 (qC_usesB hn) gw327 gw325 gw326 gw1 (by decide +kernel) ⟨Nat.le_of_ble_eq_true rfl, Nat.le_of_ble_eq_true rfl⟩ rfl rfl ⟨Nat.le_of_ble_eq_true rfl, Nat.le_of_ble_eq_true rfl⟩ hP rfl hl.1 rfl (Nat.le_of_ble_eq_true rfl) dC_isStatement_84) hS hA (fun r18 f17 H locs hq84 hP hS => ?_)
                obtain ⟨er18, ef17⟩ := hq84
                subst er18
                rw [ef17] at hP
                refine lv_if_eq (tgt := 98) hx hb dC_isStatement_87 (by decide) (fun _ => ?_) (fun c87 => absurd (kb_0.mpr c46) c87)
                refine lv_iconst (v := nI 1) hx hb dC_isStatement_98 (by decide) ?_
                refine lv_goto (tgt := 103) hx hb dC_isStatement_99 (by decide) ?_
                exact ret_z C0 rfl hP hS ⟨by simp [q_st, kb, c7, c16, c32, c46, c60, c67, if_neg c74], rfl⟩ dC_isStatement_103
              · refine lv_iload hx hb dC_isStatement_77 (lv_at hl 4 rfl) ?_
                refine then_i (run_S (n := 1) (As := [.int k]) (rest := []) C0 (qC_isFunction hn) gw204 gw202 gw203 gw1 (by decide +kernel) ⟨Nat.le_of_ble_eq_true rfl, Nat.le_of_ble_eq_true rfl⟩ rfl rfl ⟨Nat.le_of_ble_eq_true rfl, Nat.le_of_ble_eq_true rfl⟩ hP rfl hl.1 rfl (Nat.le_of_ble_eq_true rfl) dC_isStatement_79) hS hA (fun r20 f19 H locs hq79 hP hS => ?_)
                obtain ⟨er20, ef19⟩ := hq79
                subst er20
                rw [ef19] at hP
                exact ret_z C0 (b01 (kb_or _)).1 hP hS ⟨by simp [q_st, c7, c16, c32, c46, c60, c67, if_pos c74], rfl⟩ dC_isStatement_82
            · have c67 : (q_us cc) = false := kb_0.mp c67
              refine lv_iconst (v := nI 0) hx hb dC_isStatement_70 (by decide) ?_
              exact ret_z C0 rfl hP hS ⟨by simp [q_st, kb, c7, c16, c32, c46, c60, c67], rfl⟩ dC_isStatement_71
        · have c46 : (q_uB kd) = true := kb_t.mp c46
          refine lv_iload_n hx hb dC_isStatement_49 rfl (lv_at hl 2 rfl) ?_
          refine then_i (run_S (n := 1) (As := [.int b]) (rest := []) C0 (qC_isUsable hn) gw324 gw322 gw323 gw1 (by decide +kernel) ⟨Nat.le_of_ble_eq_true rfl, Nat.le_of_ble_eq_true rfl⟩ rfl rfl ⟨Nat.le_of_ble_eq_true rfl, Nat.le_of_ble_eq_true rfl⟩ hP rfl hl.1 rfl (Nat.le_of_ble_eq_true rfl) dC_isStatement_50) hS hA (fun r22 f21 H locs hq50 hP hS => ?_)
          obtain ⟨er22, ef21⟩ := hq50
          subst er22
          rw [ef21] at hP
          refine lv_if_eq (tgt := 70) hx hb dC_isStatement_53 (by decide) (fun c53 => ?_) (fun c53 => ?_)
          · have c53 : (q_us b) = false := kb_0.mp c53
            refine lv_iconst (v := nI 0) hx hb dC_isStatement_70 (by decide) ?_
            exact ret_z C0 rfl hP hS ⟨by simp [q_st, kb, c7, c16, c32, c46, c53], rfl⟩ dC_isStatement_71
          · have c53 : (q_us b) = true := kb_t.mp c53
            refine lv_iload_n hx hb dC_isStatement_56 rfl (lv_at hl 0 rfl) ?_
            refine then_i (run_S (n := 1) (As := [.int kd]) (rest := []) C0 (qC_usesC hn) gw330 gw328 gw329 gw1 (by decide +kernel) ⟨Nat.le_of_ble_eq_true rfl, Nat.le_of_ble_eq_true rfl⟩ rfl rfl ⟨Nat.le_of_ble_eq_true rfl, Nat.le_of_ble_eq_true rfl⟩ hP rfl hl.1 rfl (Nat.le_of_ble_eq_true rfl) dC_isStatement_57) hS hA (fun r24 f23 H locs hq57 hP hS => ?_)
            obtain ⟨er24, ef23⟩ := hq57
            subst er24
            rw [ef23] at hP
            refine lv_if_eq (tgt := 72) hx hb dC_isStatement_60 (by decide) (fun c60 => ?_) (fun c60 => ?_)
            · have c60 : (q_uC kd) = false := kb_0.mp c60
              refine lv_iload_n hx hb dC_isStatement_72 rfl (lv_at hl 0 rfl) ?_
              refine lv_iconst (v := nI 1) hx hb dC_isStatement_73 (by decide) ?_
              refine lv_icmp_ne (tgt := 83) hx hb dC_isStatement_74 (by decide) (fun c74 => ?_) (fun c74 => ?_)
              · refine lv_iload_n hx hb dC_isStatement_83 rfl (lv_at hl 0 rfl) ?_
                refine then_i (run_S (n := 1) (As := [.int kd]) (rest := []) C0 (qC_usesB hn) gw327 gw325 gw326 gw1 (by decide +kernel) ⟨Nat.le_of_ble_eq_true rfl, Nat.le_of_ble_eq_true rfl⟩ rfl rfl ⟨Nat.le_of_ble_eq_true rfl, Nat.le_of_ble_eq_true rfl⟩ hP rfl hl.1 rfl (Nat.le_of_ble_eq_true rfl) dC_isStatement_84) hS hA (fun r26 f25 H locs hq84 hP hS => ?_)
                obtain ⟨er26, ef25⟩ := hq84
                subst er26
                rw [ef25] at hP
                refine lv_if_eq (tgt := 98) hx hb dC_isStatement_87 (by decide) (fun c87 => absurd c87 (kb_t.mpr c46)) (fun _ => ?_)
                refine lv_iload hx hb dC_isStatement_90 (lv_at hl 4 rfl) ?_
                refine then_i (run_S (n := 1) (As := [.int k]) (rest := []) C0 (qC_isDifference hn) gw280 gw278 gw279 gw1 (by decide +kernel) ⟨Nat.le_of_ble_eq_true rfl, Nat.le_of_ble_eq_true rfl⟩ rfl rfl ⟨Nat.le_of_ble_eq_true rfl, Nat.le_of_ble_eq_true rfl⟩ hP rfl hl.1 rfl (Nat.le_of_ble_eq_true rfl) dC_isStatement_92) hS hA (fun r28 f27 H locs hq92 hP hS => ?_)
                obtain ⟨er28, ef27⟩ := hq92
                subst er28
                rw [ef27] at hP
                refine lv_if_eq (tgt := 102) hx hb dC_isStatement_95 (by decide) (fun c95 => ?_) (fun c95 => ?_)
                · have c95 : (q_df k) = false := kb_0.mp c95
                  refine lv_iconst (v := nI 0) hx hb dC_isStatement_102 (by decide) ?_
                  exact ret_z C0 rfl hP hS ⟨by simp [q_st, kb, c7, c16, c32, c46, c53, c60, if_neg c74, c95], rfl⟩ dC_isStatement_103
                · have c95 : (q_df k) = true := kb_t.mp c95
                  refine lv_iconst (v := nI 1) hx hb dC_isStatement_98 (by decide) ?_
                  refine lv_goto (tgt := 103) hx hb dC_isStatement_99 (by decide) ?_
                  exact ret_z C0 rfl hP hS ⟨by simp [q_st, kb, c7, c16, c32, c46, c53, c60, if_neg c74, c95], rfl⟩ dC_isStatement_103
              · refine lv_iload hx hb dC_isStatement_77 (lv_at hl 4 rfl) ?_
                refine then_i (run_S (n := 1) (As := [.int k]) (rest := []) C0 (qC_isFunction hn) gw204 gw202 gw203 gw1 (by decide +kernel) ⟨Nat.le_of_ble_eq_true rfl, Nat.le_of_ble_eq_true rfl⟩ rfl rfl ⟨Nat.le_of_ble_eq_true rfl, Nat.le_of_ble_eq_true rfl⟩ hP rfl hl.1 rfl (Nat.le_of_ble_eq_true rfl) dC_isStatement_79) hS hA (fun r30 f29 H locs hq79 hP hS => ?_)
                obtain ⟨er30, ef29⟩ := hq79
                subst er30
                rw [ef29] at hP
                exact ret_z C0 (b01 (kb_or _)).1 hP hS ⟨by simp [q_st, c7, c16, c32, c46, c53, c60, if_pos c74], rfl⟩ dC_isStatement_82
            · have c60 : (q_uC kd) = true := kb_t.mp c60
              refine lv_iload_n hx hb dC_isStatement_63 rfl (lv_at hl 3 rfl) ?_
              refine then_i (run_S (n := 1) (As := [.int cc]) (rest := []) C0 (qC_isUsable hn) gw324 gw322 gw323 gw1 (by decide +kernel) ⟨Nat.le_of_ble_eq_true rfl, Nat.le_of_ble_eq_true rfl⟩ rfl rfl ⟨Nat.le_of_ble_eq_true rfl, Nat.le_of_ble_eq_true rfl⟩ hP rfl hl.1 rfl (Nat.le_of_ble_eq_true rfl) dC_isStatement_64) hS hA (fun r32 f31 H locs hq64 hP hS => ?_)
              obtain ⟨er32, ef31⟩ := hq64
              subst er32
              rw [ef31] at hP
              refine lv_if_ne (tgt := 72) hx hb dC_isStatement_67 (by decide) (fun c67 => ?_) (fun c67 => ?_)
              · have c67 : (q_us cc) = true := kb_t.mp c67
                refine lv_iload_n hx hb dC_isStatement_72 rfl (lv_at hl 0 rfl) ?_
                refine lv_iconst (v := nI 1) hx hb dC_isStatement_73 (by decide) ?_
                refine lv_icmp_ne (tgt := 83) hx hb dC_isStatement_74 (by decide) (fun c74 => ?_) (fun c74 => ?_)
                · refine lv_iload_n hx hb dC_isStatement_83 rfl (lv_at hl 0 rfl) ?_
                  refine then_i (run_S (n := 1) (As := [.int kd]) (rest := []) C0 (qC_usesB hn) gw327 gw325 gw326 gw1 (by decide +kernel) ⟨Nat.le_of_ble_eq_true rfl, Nat.le_of_ble_eq_true rfl⟩ rfl rfl ⟨Nat.le_of_ble_eq_true rfl, Nat.le_of_ble_eq_true rfl⟩ hP rfl hl.1 rfl (Nat.le_of_ble_eq_true rfl) dC_isStatement_84) hS hA (fun r34 f33 H locs hq84 hP hS => ?_)
                  obtain ⟨er34, ef33⟩ := hq84
                  subst er34
                  rw [ef33] at hP
                  refine lv_if_eq (tgt := 98) hx hb dC_isStatement_87 (by decide) (fun c87 => absurd c87 (kb_t.mpr c46)) (fun _ => ?_)
                  refine lv_iload hx hb dC_isStatement_90 (lv_at hl 4 rfl) ?_
                  refine then_i (run_S (n := 1) (As := [.int k]) (rest := []) C0 (qC_isDifference hn) gw280 gw278 gw279 gw1 (by decide +kernel) ⟨Nat.le_of_ble_eq_true rfl, Nat.le_of_ble_eq_true rfl⟩ rfl rfl ⟨Nat.le_of_ble_eq_true rfl, Nat.le_of_ble_eq_true rfl⟩ hP rfl hl.1 rfl (Nat.le_of_ble_eq_true rfl) dC_isStatement_92) hS hA (fun r36 f35 H locs hq92 hP hS => ?_)
                  obtain ⟨er36, ef35⟩ := hq92
                  subst er36
                  rw [ef35] at hP
                  refine lv_if_eq (tgt := 102) hx hb dC_isStatement_95 (by decide) (fun c95 => ?_) (fun c95 => ?_)
                  · have c95 : (q_df k) = false := kb_0.mp c95
                    refine lv_iconst (v := nI 0) hx hb dC_isStatement_102 (by decide) ?_
                    exact ret_z C0 rfl hP hS ⟨by simp [q_st, kb, c7, c16, c32, c46, c53, c60, c67, if_neg c74, c95], rfl⟩ dC_isStatement_103
                  · have c95 : (q_df k) = true := kb_t.mp c95
                    refine lv_iconst (v := nI 1) hx hb dC_isStatement_98 (by decide) ?_
                    refine lv_goto (tgt := 103) hx hb dC_isStatement_99 (by decide) ?_
                    exact ret_z C0 rfl hP hS ⟨by simp [q_st, kb, c7, c16, c32, c46, c53, c60, c67, if_neg c74, c95], rfl⟩ dC_isStatement_103
                · refine lv_iload hx hb dC_isStatement_77 (lv_at hl 4 rfl) ?_
                  refine then_i (run_S (n := 1) (As := [.int k]) (rest := []) C0 (qC_isFunction hn) gw204 gw202 gw203 gw1 (by decide +kernel) ⟨Nat.le_of_ble_eq_true rfl, Nat.le_of_ble_eq_true rfl⟩ rfl rfl ⟨Nat.le_of_ble_eq_true rfl, Nat.le_of_ble_eq_true rfl⟩ hP rfl hl.1 rfl (Nat.le_of_ble_eq_true rfl) dC_isStatement_79) hS hA (fun r38 f37 H locs hq79 hP hS => ?_)
                  obtain ⟨er38, ef37⟩ := hq79
                  subst er38
                  rw [ef37] at hP
                  exact ret_z C0 (b01 (kb_or _)).1 hP hS ⟨by simp [q_st, c7, c16, c32, c46, c53, c60, c67, if_pos c74], rfl⟩ dC_isStatement_82
              · have c67 : (q_us cc) = false := kb_0.mp c67
                refine lv_iconst (v := nI 0) hx hb dC_isStatement_70 (by decide) ?_
                exact ret_z C0 rfl hP hS ⟨by simp [q_st, kb, c7, c16, c32, c46, c53, c60, c67], rfl⟩ dC_isStatement_71
      · have c32 : (q_uA kd) = true := kb_t.mp c32
        refine lv_iload_n hx hb dC_isStatement_35 rfl (lv_at hl 1 rfl) ?_
        refine then_i (run_S (n := 1) (As := [.int a]) (rest := []) C0 (qC_isUsable hn) gw324 gw322 gw323 gw1 (by decide +kernel) ⟨Nat.le_of_ble_eq_true rfl, Nat.le_of_ble_eq_true rfl⟩ rfl rfl ⟨Nat.le_of_ble_eq_true rfl, Nat.le_of_ble_eq_true rfl⟩ hP rfl hl.1 rfl (Nat.le_of_ble_eq_true rfl) dC_isStatement_36) hS hA (fun r40 f39 H locs hq36 hP hS => ?_)
        obtain ⟨er40, ef39⟩ := hq36
        subst er40
        rw [ef39] at hP
        refine lv_if_eq (tgt := 70) hx hb dC_isStatement_39 (by decide) (fun c39 => ?_) (fun c39 => ?_)
        · have c39 : (q_us a) = false := kb_0.mp c39
          refine lv_iconst (v := nI 0) hx hb dC_isStatement_70 (by decide) ?_
          exact ret_z C0 rfl hP hS ⟨by simp [q_st, kb, c7, c16, c32, c39], rfl⟩ dC_isStatement_71
        · have c39 : (q_us a) = true := kb_t.mp c39
          refine lv_iload_n hx hb dC_isStatement_42 rfl (lv_at hl 0 rfl) ?_
          refine then_i (run_S (n := 1) (As := [.int kd]) (rest := []) C0 (qC_usesB hn) gw327 gw325 gw326 gw1 (by decide +kernel) ⟨Nat.le_of_ble_eq_true rfl, Nat.le_of_ble_eq_true rfl⟩ rfl rfl ⟨Nat.le_of_ble_eq_true rfl, Nat.le_of_ble_eq_true rfl⟩ hP rfl hl.1 rfl (Nat.le_of_ble_eq_true rfl) dC_isStatement_43) hS hA (fun r42 f41 H locs hq43 hP hS => ?_)
          obtain ⟨er42, ef41⟩ := hq43
          subst er42
          rw [ef41] at hP
          refine lv_if_eq (tgt := 56) hx hb dC_isStatement_46 (by decide) (fun c46 => ?_) (fun c46 => ?_)
          · have c46 : (q_uB kd) = false := kb_0.mp c46
            refine lv_iload_n hx hb dC_isStatement_56 rfl (lv_at hl 0 rfl) ?_
            refine then_i (run_S (n := 1) (As := [.int kd]) (rest := []) C0 (qC_usesC hn) gw330 gw328 gw329 gw1 (by decide +kernel) ⟨Nat.le_of_ble_eq_true rfl, Nat.le_of_ble_eq_true rfl⟩ rfl rfl ⟨Nat.le_of_ble_eq_true rfl, Nat.le_of_ble_eq_true rfl⟩ hP rfl hl.1 rfl (Nat.le_of_ble_eq_true rfl) dC_isStatement_57) hS hA (fun r44 f43 H locs hq57 hP hS => ?_)
            obtain ⟨er44, ef43⟩ := hq57
            subst er44
            rw [ef43] at hP
            refine lv_if_eq (tgt := 72) hx hb dC_isStatement_60 (by decide) (fun c60 => ?_) (fun c60 => ?_)
            · have c60 : (q_uC kd) = false := kb_0.mp c60
              refine lv_iload_n hx hb dC_isStatement_72 rfl (lv_at hl 0 rfl) ?_
              refine lv_iconst (v := nI 1) hx hb dC_isStatement_73 (by decide) ?_
              refine lv_icmp_ne (tgt := 83) hx hb dC_isStatement_74 (by decide) (fun c74 => ?_) (fun c74 => ?_)
              · refine lv_iload_n hx hb dC_isStatement_83 rfl (lv_at hl 0 rfl) ?_
                refine then_i (run_S (n := 1) (As := [.int kd]) (rest := []) C0 (qC_usesB hn) gw327 gw325 gw326 gw1 (by decide +kernel) ⟨Nat.le_of_ble_eq_true rfl, Nat.le_of_ble_eq_true rfl⟩ rfl rfl ⟨Nat.le_of_ble_eq_true rfl, Nat.le_of_ble_eq_true rfl⟩ hP rfl hl.1 rfl (Nat.le_of_ble_eq_true rfl) dC_isStatement_84) hS hA (fun r46 f45 H locs hq84 hP hS => ?_)
                obtain ⟨er46, ef45⟩ := hq84
                subst er46
                rw [ef45] at hP
                refine lv_if_eq (tgt := 98) hx hb dC_isStatement_87 (by decide) (fun _ => ?_) (fun c87 => absurd (kb_0.mpr c46) c87)
                refine lv_iconst (v := nI 1) hx hb dC_isStatement_98 (by decide) ?_
                refine lv_goto (tgt := 103) hx hb dC_isStatement_99 (by decide) ?_
                exact ret_z C0 rfl hP hS ⟨by simp [q_st, kb, c7, c16, c32, c39, c46, c60, if_neg c74], rfl⟩ dC_isStatement_103
              · refine lv_iload hx hb dC_isStatement_77 (lv_at hl 4 rfl) ?_
                refine then_i (run_S (n := 1) (As := [.int k]) (rest := []) C0 (qC_isFunction hn) gw204 gw202 gw203 gw1 (by decide +kernel) ⟨Nat.le_of_ble_eq_true rfl, Nat.le_of_ble_eq_true rfl⟩ rfl rfl ⟨Nat.le_of_ble_eq_true rfl, Nat.le_of_ble_eq_true rfl⟩ hP rfl hl.1 rfl (Nat.le_of_ble_eq_true rfl) dC_isStatement_79) hS hA (fun r48 f47 H locs hq79 hP hS => ?_)
                obtain ⟨er48, ef47⟩ := hq79
                subst er48
                rw [ef47] at hP
                exact ret_z C0 (b01 (kb_or _)).1 hP hS ⟨by simp [q_st, c7, c16, c32, c39, c46, c60, if_pos c74], rfl⟩ dC_isStatement_82
            · have c60 : (q_uC kd) = true := kb_t.mp c60
              refine lv_iload_n hx hb dC_isStatement_63 rfl (lv_at hl 3 rfl) ?_
              refine then_i (run_S (n := 1) (As := [.int cc]) (rest := []) C0 (qC_isUsable hn) gw324 gw322 gw323 gw1 (by decide +kernel) ⟨Nat.le_of_ble_eq_true rfl, Nat.le_of_ble_eq_true rfl⟩ rfl rfl ⟨Nat.le_of_ble_eq_true rfl, Nat.le_of_ble_eq_true rfl⟩ hP rfl hl.1 rfl (Nat.le_of_ble_eq_true rfl) dC_isStatement_64) hS hA (fun r50 f49 H locs hq64 hP hS => ?_)
              obtain ⟨er50, ef49⟩ := hq64
              subst er50
              rw [ef49] at hP
              refine lv_if_ne (tgt := 72) hx hb dC_isStatement_67 (by decide) (fun c67 => ?_) (fun c67 => ?_)
              · have c67 : (q_us cc) = true := kb_t.mp c67
                refine lv_iload_n hx hb dC_isStatement_72 rfl (lv_at hl 0 rfl) ?_
                refine lv_iconst (v := nI 1) hx hb dC_isStatement_73 (by decide) ?_
                refine lv_icmp_ne (tgt := 83) hx hb dC_isStatement_74 (by decide) (fun c74 => ?_) (fun c74 => ?_)
                · refine lv_iload_n hx hb dC_isStatement_83 rfl (lv_at hl 0 rfl) ?_
                  refine then_i (run_S (n := 1) (As := [.int kd]) (rest := []) C0 (qC_usesB hn) gw327 gw325 gw326 gw1 (by decide +kernel) ⟨Nat.le_of_ble_eq_true rfl, Nat.le_of_ble_eq_true rfl⟩ rfl rfl ⟨Nat.le_of_ble_eq_true rfl, Nat.le_of_ble_eq_true rfl⟩ hP rfl hl.1 rfl (Nat.le_of_ble_eq_true rfl) dC_isStatement_84) hS hA (fun r52 f51 H locs hq84 hP hS => ?_)
                  obtain ⟨er52, ef51⟩ := hq84
                  subst er52
                  rw [ef51] at hP
                  refine lv_if_eq (tgt := 98) hx hb dC_isStatement_87 (by decide) (fun _ => ?_) (fun c87 => absurd (kb_0.mpr c46) c87)
                  refine lv_iconst (v := nI 1) hx hb dC_isStatement_98 (by decide) ?_
                  refine lv_goto (tgt := 103) hx hb dC_isStatement_99 (by decide) ?_
                  exact ret_z C0 rfl hP hS ⟨by simp [q_st, kb, c7, c16, c32, c39, c46, c60, c67, if_neg c74], rfl⟩ dC_isStatement_103
                · refine lv_iload hx hb dC_isStatement_77 (lv_at hl 4 rfl) ?_
                  refine then_i (run_S (n := 1) (As := [.int k]) (rest := []) C0 (qC_isFunction hn) gw204 gw202 gw203 gw1 (by decide +kernel) ⟨Nat.le_of_ble_eq_true rfl, Nat.le_of_ble_eq_true rfl⟩ rfl rfl ⟨Nat.le_of_ble_eq_true rfl, Nat.le_of_ble_eq_true rfl⟩ hP rfl hl.1 rfl (Nat.le_of_ble_eq_true rfl) dC_isStatement_79) hS hA (fun r54 f53 H locs hq79 hP hS => ?_)
                  obtain ⟨er54, ef53⟩ := hq79
                  subst er54
                  rw [ef53] at hP
                  exact ret_z C0 (b01 (kb_or _)).1 hP hS ⟨by simp [q_st, c7, c16, c32, c39, c46, c60, c67, if_pos c74], rfl⟩ dC_isStatement_82
              · have c67 : (q_us cc) = false := kb_0.mp c67
                refine lv_iconst (v := nI 0) hx hb dC_isStatement_70 (by decide) ?_
                exact ret_z C0 rfl hP hS ⟨by simp [q_st, kb, c7, c16, c32, c39, c46, c60, c67], rfl⟩ dC_isStatement_71
          · have c46 : (q_uB kd) = true := kb_t.mp c46
            refine lv_iload_n hx hb dC_isStatement_49 rfl (lv_at hl 2 rfl) ?_
            refine then_i (run_S (n := 1) (As := [.int b]) (rest := []) C0 (qC_isUsable hn) gw324 gw322 gw323 gw1 (by decide +kernel) ⟨Nat.le_of_ble_eq_true rfl, Nat.le_of_ble_eq_true rfl⟩ rfl rfl ⟨Nat.le_of_ble_eq_true rfl, Nat.le_of_ble_eq_true rfl⟩ hP rfl hl.1 rfl (Nat.le_of_ble_eq_true rfl) dC_isStatement_50) hS hA (fun r56 f55 H locs hq50 hP hS => ?_)
            obtain ⟨er56, ef55⟩ := hq50
            subst er56
            rw [ef55] at hP
            refine lv_if_eq (tgt := 70) hx hb dC_isStatement_53 (by decide) (fun c53 => ?_) (fun c53 => ?_)
            · have c53 : (q_us b) = false := kb_0.mp c53
              refine lv_iconst (v := nI 0) hx hb dC_isStatement_70 (by decide) ?_
              exact ret_z C0 rfl hP hS ⟨by simp [q_st, kb, c7, c16, c32, c39, c46, c53], rfl⟩ dC_isStatement_71
            · have c53 : (q_us b) = true := kb_t.mp c53
              refine lv_iload_n hx hb dC_isStatement_56 rfl (lv_at hl 0 rfl) ?_
              refine then_i (run_S (n := 1) (As := [.int kd]) (rest := []) C0 (qC_usesC hn) gw330 gw328 gw329 gw1 (by decide +kernel) ⟨Nat.le_of_ble_eq_true rfl, Nat.le_of_ble_eq_true rfl⟩ rfl rfl ⟨Nat.le_of_ble_eq_true rfl, Nat.le_of_ble_eq_true rfl⟩ hP rfl hl.1 rfl (Nat.le_of_ble_eq_true rfl) dC_isStatement_57) hS hA (fun r58 f57 H locs hq57 hP hS => ?_)
              obtain ⟨er58, ef57⟩ := hq57
              subst er58
              rw [ef57] at hP
              refine lv_if_eq (tgt := 72) hx hb dC_isStatement_60 (by decide) (fun c60 => ?_) (fun c60 => ?_)
              · have c60 : (q_uC kd) = false := kb_0.mp c60
                refine lv_iload_n hx hb dC_isStatement_72 rfl (lv_at hl 0 rfl) ?_
                refine lv_iconst (v := nI 1) hx hb dC_isStatement_73 (by decide) ?_
                refine lv_icmp_ne (tgt := 83) hx hb dC_isStatement_74 (by decide) (fun c74 => ?_) (fun c74 => ?_)
                · refine lv_iload_n hx hb dC_isStatement_83 rfl (lv_at hl 0 rfl) ?_
                  refine then_i (run_S (n := 1) (As := [.int kd]) (rest := []) C0 (qC_usesB hn) gw327 gw325 gw326 gw1 (by decide +kernel) ⟨Nat.le_of_ble_eq_true rfl, Nat.le_of_ble_eq_true rfl⟩ rfl rfl ⟨Nat.le_of_ble_eq_true rfl, Nat.le_of_ble_eq_true rfl⟩ hP rfl hl.1 rfl (Nat.le_of_ble_eq_true rfl) dC_isStatement_84) hS hA (fun r60 f59 H locs hq84 hP hS => ?_)
                  obtain ⟨er60, ef59⟩ := hq84
                  subst er60
                  rw [ef59] at hP
                  refine lv_if_eq (tgt := 98) hx hb dC_isStatement_87 (by decide) (fun c87 => absurd c87 (kb_t.mpr c46)) (fun _ => ?_)
                  refine lv_iload hx hb dC_isStatement_90 (lv_at hl 4 rfl) ?_
                  refine then_i (run_S (n := 1) (As := [.int k]) (rest := []) C0 (qC_isDifference hn) gw280 gw278 gw279 gw1 (by decide +kernel) ⟨Nat.le_of_ble_eq_true rfl, Nat.le_of_ble_eq_true rfl⟩ rfl rfl ⟨Nat.le_of_ble_eq_true rfl, Nat.le_of_ble_eq_true rfl⟩ hP rfl hl.1 rfl (Nat.le_of_ble_eq_true rfl) dC_isStatement_92) hS hA (fun r62 f61 H locs hq92 hP hS => ?_)
                  obtain ⟨er62, ef61⟩ := hq92
                  subst er62
                  rw [ef61] at hP
                  refine lv_if_eq (tgt := 102) hx hb dC_isStatement_95 (by decide) (fun c95 => ?_) (fun c95 => ?_)
                  · have c95 : (q_df k) = false := kb_0.mp c95
                    refine lv_iconst (v := nI 0) hx hb dC_isStatement_102 (by decide) ?_
                    exact ret_z C0 rfl hP hS ⟨by simp [q_st, kb, c7, c16, c32, c39, c46, c53, c60, if_neg c74, c95], rfl⟩ dC_isStatement_103
                  · have c95 : (q_df k) = true := kb_t.mp c95
                    refine lv_iconst (v := nI 1) hx hb dC_isStatement_98 (by decide) ?_
                    refine lv_goto (tgt := 103) hx hb dC_isStatement_99 (by decide) ?_
                    exact ret_z C0 rfl hP hS ⟨by simp [q_st, kb, c7, c16, c32, c39, c46, c53, c60, if_neg c74, c95], rfl⟩ dC_isStatement_103
                · refine lv_iload hx hb dC_isStatement_77 (lv_at hl 4 rfl) ?_
                  refine then_i (run_S (n := 1) (As := [.int k]) (rest := []) C0 (qC_isFunction hn) gw204 gw202 gw203 gw1 (by decide +kernel) ⟨Nat.le_of_ble_eq_true rfl, Nat.le_of_ble_eq_true rfl⟩ rfl rfl ⟨Nat.le_of_ble_eq_true rfl, Nat.le_of_ble_eq_true rfl⟩ hP rfl hl.1 rfl (Nat.le_of_ble_eq_true rfl) dC_isStatement_79) hS hA (fun r64 f63 H locs hq79 hP hS => ?_)
                  obtain ⟨er64, ef63⟩ := hq79
                  subst er64
                  rw [ef63] at hP
                  exact ret_z C0 (b01 (kb_or _)).1 hP hS ⟨by simp [q_st, c7, c16, c32, c39, c46, c53, c60, if_pos c74], rfl⟩ dC_isStatement_82
              · have c60 : (q_uC kd) = true := kb_t.mp c60
                refine lv_iload_n hx hb dC_isStatement_63 rfl (lv_at hl 3 rfl) ?_
                refine then_i (run_S (n := 1) (As := [.int cc]) (rest := []) C0 (qC_isUsable hn) gw324 gw322 gw323 gw1 (by decide +kernel) ⟨Nat.le_of_ble_eq_true rfl, Nat.le_of_ble_eq_true rfl⟩ rfl rfl ⟨Nat.le_of_ble_eq_true rfl, Nat.le_of_ble_eq_true rfl⟩ hP rfl hl.1 rfl (Nat.le_of_ble_eq_true rfl) dC_isStatement_64) hS hA (fun r66 f65 H locs hq64 hP hS => ?_)
                obtain ⟨er66, ef65⟩ := hq64
                subst er66
                rw [ef65] at hP
                refine lv_if_ne (tgt := 72) hx hb dC_isStatement_67 (by decide) (fun c67 => ?_) (fun c67 => ?_)
                · have c67 : (q_us cc) = true := kb_t.mp c67
                  refine lv_iload_n hx hb dC_isStatement_72 rfl (lv_at hl 0 rfl) ?_
                  refine lv_iconst (v := nI 1) hx hb dC_isStatement_73 (by decide) ?_
                  refine lv_icmp_ne (tgt := 83) hx hb dC_isStatement_74 (by decide) (fun c74 => ?_) (fun c74 => ?_)
                  · refine lv_iload_n hx hb dC_isStatement_83 rfl (lv_at hl 0 rfl) ?_
                    refine then_i (run_S (n := 1) (As := [.int kd]) (rest := []) C0 (qC_usesB hn) gw327 gw325 gw326 gw1 (by decide +kernel) ⟨Nat.le_of_ble_eq_true rfl, Nat.le_of_ble_eq_true rfl⟩ rfl rfl ⟨Nat.le_of_ble_eq_true rfl, Nat.le_of_ble_eq_true rfl⟩ hP rfl hl.1 rfl (Nat.le_of_ble_eq_true rfl) dC_isStatement_84) hS hA (fun r68 f67 H locs hq84 hP hS => ?_)
                    obtain ⟨er68, ef67⟩ := hq84
                    subst er68
                    rw [ef67] at hP
                    refine lv_if_eq (tgt := 98) hx hb dC_isStatement_87 (by decide) (fun c87 => absurd c87 (kb_t.mpr c46)) (fun _ => ?_)
                    refine lv_iload hx hb dC_isStatement_90 (lv_at hl 4 rfl) ?_
                    refine then_i (run_S (n := 1) (As := [.int k]) (rest := []) C0 (qC_isDifference hn) gw280 gw278 gw279 gw1 (by decide +kernel) ⟨Nat.le_of_ble_eq_true rfl, Nat.le_of_ble_eq_true rfl⟩ rfl rfl ⟨Nat.le_of_ble_eq_true rfl, Nat.le_of_ble_eq_true rfl⟩ hP rfl hl.1 rfl (Nat.le_of_ble_eq_true rfl) dC_isStatement_92) hS hA (fun r70 f69 H locs hq92 hP hS => ?_)
                    obtain ⟨er70, ef69⟩ := hq92
                    subst er70
                    rw [ef69] at hP
                    refine lv_if_eq (tgt := 102) hx hb dC_isStatement_95 (by decide) (fun c95 => ?_) (fun c95 => ?_)
                    · have c95 : (q_df k) = false := kb_0.mp c95
                      refine lv_iconst (v := nI 0) hx hb dC_isStatement_102 (by decide) ?_
                      exact ret_z C0 rfl hP hS ⟨by simp [q_st, kb, c7, c16, c32, c39, c46, c53, c60, c67, if_neg c74, c95], rfl⟩ dC_isStatement_103
                    · have c95 : (q_df k) = true := kb_t.mp c95
                      refine lv_iconst (v := nI 1) hx hb dC_isStatement_98 (by decide) ?_
                      refine lv_goto (tgt := 103) hx hb dC_isStatement_99 (by decide) ?_
                      exact ret_z C0 rfl hP hS ⟨by simp [q_st, kb, c7, c16, c32, c39, c46, c53, c60, c67, if_neg c74, c95], rfl⟩ dC_isStatement_103
                  · refine lv_iload hx hb dC_isStatement_77 (lv_at hl 4 rfl) ?_
                    refine then_i (run_S (n := 1) (As := [.int k]) (rest := []) C0 (qC_isFunction hn) gw204 gw202 gw203 gw1 (by decide +kernel) ⟨Nat.le_of_ble_eq_true rfl, Nat.le_of_ble_eq_true rfl⟩ rfl rfl ⟨Nat.le_of_ble_eq_true rfl, Nat.le_of_ble_eq_true rfl⟩ hP rfl hl.1 rfl (Nat.le_of_ble_eq_true rfl) dC_isStatement_79) hS hA (fun r72 f71 H locs hq79 hP hS => ?_)
                    obtain ⟨er72, ef71⟩ := hq79
                    subst er72
                    rw [ef71] at hP
                    exact ret_z C0 (b01 (kb_or _)).1 hP hS ⟨by simp [q_st, c7, c16, c32, c39, c46, c53, c60, c67, if_pos c74], rfl⟩ dC_isStatement_82
                · have c67 : (q_us cc) = false := kb_0.mp c67
                  refine lv_iconst (v := nI 0) hx hb dC_isStatement_70 (by decide) ?_
                  exact ret_z C0 rfl hP hS ⟨by simp [q_st, kb, c7, c16, c32, c39, c46, c53, c60, c67], rfl⟩ dC_isStatement_71
    · have c16 : (q_gA kd) = true := kb_t.mp c16
      refine lv_iload_n hx hb dC_isStatement_19 rfl (lv_at hl 1 rfl) ?_
      refine then_i (run_S (n := 1) (As := [.int a]) (rest := []) C0 (qC_isGivable hn) gw318 gw316 gw317 gw1 (by decide +kernel) ⟨Nat.le_of_ble_eq_true rfl, Nat.le_of_ble_eq_true rfl⟩ rfl rfl ⟨Nat.le_of_ble_eq_true rfl, Nat.le_of_ble_eq_true rfl⟩ hP rfl hl.1 rfl (Nat.le_of_ble_eq_true rfl) dC_isStatement_20) hS hA (fun r74 f73 H locs hq20 hP hS => ?_)
      obtain ⟨er74, ef73⟩ := hq20
      subst er74
      rw [ef73] at hP
      refine lv_if_ne (tgt := 28) hx hb dC_isStatement_23 (by decide) (fun c23 => ?_) (fun c23 => ?_)
      · have c23 : (q_gv a) = true := kb_t.mp c23
        refine lv_iload_n hx hb dC_isStatement_28 rfl (lv_at hl 0 rfl) ?_
        refine then_i (run_S (n := 1) (As := [.int kd]) (rest := []) C0 (qC_usesA hn) gw321 gw319 gw320 gw1 (by decide +kernel) ⟨Nat.le_of_ble_eq_true rfl, Nat.le_of_ble_eq_true rfl⟩ rfl rfl ⟨Nat.le_of_ble_eq_true rfl, Nat.le_of_ble_eq_true rfl⟩ hP rfl hl.1 rfl (Nat.le_of_ble_eq_true rfl) dC_isStatement_29) hS hA (fun r76 f75 H locs hq29 hP hS => ?_)
        obtain ⟨er76, ef75⟩ := hq29
        subst er76
        rw [ef75] at hP
        refine lv_if_eq (tgt := 42) hx hb dC_isStatement_32 (by decide) (fun c32 => ?_) (fun c32 => ?_)
        · have c32 : (q_uA kd) = false := kb_0.mp c32
          refine lv_iload_n hx hb dC_isStatement_42 rfl (lv_at hl 0 rfl) ?_
          refine then_i (run_S (n := 1) (As := [.int kd]) (rest := []) C0 (qC_usesB hn) gw327 gw325 gw326 gw1 (by decide +kernel) ⟨Nat.le_of_ble_eq_true rfl, Nat.le_of_ble_eq_true rfl⟩ rfl rfl ⟨Nat.le_of_ble_eq_true rfl, Nat.le_of_ble_eq_true rfl⟩ hP rfl hl.1 rfl (Nat.le_of_ble_eq_true rfl) dC_isStatement_43) hS hA (fun r78 f77 H locs hq43 hP hS => ?_)
          obtain ⟨er78, ef77⟩ := hq43
          subst er78
          rw [ef77] at hP
          refine lv_if_eq (tgt := 56) hx hb dC_isStatement_46 (by decide) (fun c46 => ?_) (fun c46 => ?_)
          · have c46 : (q_uB kd) = false := kb_0.mp c46
            refine lv_iload_n hx hb dC_isStatement_56 rfl (lv_at hl 0 rfl) ?_
            refine then_i (run_S (n := 1) (As := [.int kd]) (rest := []) C0 (qC_usesC hn) gw330 gw328 gw329 gw1 (by decide +kernel) ⟨Nat.le_of_ble_eq_true rfl, Nat.le_of_ble_eq_true rfl⟩ rfl rfl ⟨Nat.le_of_ble_eq_true rfl, Nat.le_of_ble_eq_true rfl⟩ hP rfl hl.1 rfl (Nat.le_of_ble_eq_true rfl) dC_isStatement_57) hS hA (fun r80 f79 H locs hq57 hP hS => ?_)
            obtain ⟨er80, ef79⟩ := hq57
            subst er80
            rw [ef79] at hP
            refine lv_if_eq (tgt := 72) hx hb dC_isStatement_60 (by decide) (fun c60 => ?_) (fun c60 => ?_)
            · have c60 : (q_uC kd) = false := kb_0.mp c60
              refine lv_iload_n hx hb dC_isStatement_72 rfl (lv_at hl 0 rfl) ?_
              refine lv_iconst (v := nI 1) hx hb dC_isStatement_73 (by decide) ?_
              refine lv_icmp_ne (tgt := 83) hx hb dC_isStatement_74 (by decide) (fun c74 => ?_) (fun c74 => ?_)
              · refine lv_iload_n hx hb dC_isStatement_83 rfl (lv_at hl 0 rfl) ?_
                refine then_i (run_S (n := 1) (As := [.int kd]) (rest := []) C0 (qC_usesB hn) gw327 gw325 gw326 gw1 (by decide +kernel) ⟨Nat.le_of_ble_eq_true rfl, Nat.le_of_ble_eq_true rfl⟩ rfl rfl ⟨Nat.le_of_ble_eq_true rfl, Nat.le_of_ble_eq_true rfl⟩ hP rfl hl.1 rfl (Nat.le_of_ble_eq_true rfl) dC_isStatement_84) hS hA (fun r82 f81 H locs hq84 hP hS => ?_)
                obtain ⟨er82, ef81⟩ := hq84
                subst er82
                rw [ef81] at hP
                refine lv_if_eq (tgt := 98) hx hb dC_isStatement_87 (by decide) (fun _ => ?_) (fun c87 => absurd (kb_0.mpr c46) c87)
                refine lv_iconst (v := nI 1) hx hb dC_isStatement_98 (by decide) ?_
                refine lv_goto (tgt := 103) hx hb dC_isStatement_99 (by decide) ?_
                exact ret_z C0 rfl hP hS ⟨by simp [q_st, kb, c7, c16, c23, c32, c46, c60, if_neg c74], rfl⟩ dC_isStatement_103
              · refine lv_iload hx hb dC_isStatement_77 (lv_at hl 4 rfl) ?_
                refine then_i (run_S (n := 1) (As := [.int k]) (rest := []) C0 (qC_isFunction hn) gw204 gw202 gw203 gw1 (by decide +kernel) ⟨Nat.le_of_ble_eq_true rfl, Nat.le_of_ble_eq_true rfl⟩ rfl rfl ⟨Nat.le_of_ble_eq_true rfl, Nat.le_of_ble_eq_true rfl⟩ hP rfl hl.1 rfl (Nat.le_of_ble_eq_true rfl) dC_isStatement_79) hS hA (fun r84 f83 H locs hq79 hP hS => ?_)
                obtain ⟨er84, ef83⟩ := hq79
                subst er84
                rw [ef83] at hP
                exact ret_z C0 (b01 (kb_or _)).1 hP hS ⟨by simp [q_st, c7, c16, c23, c32, c46, c60, if_pos c74], rfl⟩ dC_isStatement_82
            · have c60 : (q_uC kd) = true := kb_t.mp c60
              refine lv_iload_n hx hb dC_isStatement_63 rfl (lv_at hl 3 rfl) ?_
              refine then_i (run_S (n := 1) (As := [.int cc]) (rest := []) C0 (qC_isUsable hn) gw324 gw322 gw323 gw1 (by decide +kernel) ⟨Nat.le_of_ble_eq_true rfl, Nat.le_of_ble_eq_true rfl⟩ rfl rfl ⟨Nat.le_of_ble_eq_true rfl, Nat.le_of_ble_eq_true rfl⟩ hP rfl hl.1 rfl (Nat.le_of_ble_eq_true rfl) dC_isStatement_64) hS hA (fun r86 f85 H locs hq64 hP hS => ?_)
              obtain ⟨er86, ef85⟩ := hq64
              subst er86
              rw [ef85] at hP
              refine lv_if_ne (tgt := 72) hx hb dC_isStatement_67 (by decide) (fun c67 => ?_) (fun c67 => ?_)
              · have c67 : (q_us cc) = true := kb_t.mp c67
                refine lv_iload_n hx hb dC_isStatement_72 rfl (lv_at hl 0 rfl) ?_
                refine lv_iconst (v := nI 1) hx hb dC_isStatement_73 (by decide) ?_
                refine lv_icmp_ne (tgt := 83) hx hb dC_isStatement_74 (by decide) (fun c74 => ?_) (fun c74 => ?_)
                · refine lv_iload_n hx hb dC_isStatement_83 rfl (lv_at hl 0 rfl) ?_
                  refine then_i (run_S (n := 1) (As := [.int kd]) (rest := []) C0 (qC_usesB hn) gw327 gw325 gw326 gw1 (by decide +kernel) ⟨Nat.le_of_ble_eq_true rfl, Nat.le_of_ble_eq_true rfl⟩ rfl rfl ⟨Nat.le_of_ble_eq_true rfl, Nat.le_of_ble_eq_true rfl⟩ hP rfl hl.1 rfl (Nat.le_of_ble_eq_true rfl) dC_isStatement_84) hS hA (fun r88 f87 H locs hq84 hP hS => ?_)
                  obtain ⟨er88, ef87⟩ := hq84
                  subst er88
                  rw [ef87] at hP
                  refine lv_if_eq (tgt := 98) hx hb dC_isStatement_87 (by decide) (fun _ => ?_) (fun c87 => absurd (kb_0.mpr c46) c87)
                  refine lv_iconst (v := nI 1) hx hb dC_isStatement_98 (by decide) ?_
                  refine lv_goto (tgt := 103) hx hb dC_isStatement_99 (by decide) ?_
                  exact ret_z C0 rfl hP hS ⟨by simp [q_st, kb, c7, c16, c23, c32, c46, c60, c67, if_neg c74], rfl⟩ dC_isStatement_103
                · refine lv_iload hx hb dC_isStatement_77 (lv_at hl 4 rfl) ?_
                  refine then_i (run_S (n := 1) (As := [.int k]) (rest := []) C0 (qC_isFunction hn) gw204 gw202 gw203 gw1 (by decide +kernel) ⟨Nat.le_of_ble_eq_true rfl, Nat.le_of_ble_eq_true rfl⟩ rfl rfl ⟨Nat.le_of_ble_eq_true rfl, Nat.le_of_ble_eq_true rfl⟩ hP rfl hl.1 rfl (Nat.le_of_ble_eq_true rfl) dC_isStatement_79) hS hA (fun r90 f89 H locs hq79 hP hS => ?_)
                  obtain ⟨er90, ef89⟩ := hq79
                  subst er90
                  rw [ef89] at hP
                  exact ret_z C0 (b01 (kb_or _)).1 hP hS ⟨by simp [q_st, c7, c16, c23, c32, c46, c60, c67, if_pos c74], rfl⟩ dC_isStatement_82
              · have c67 : (q_us cc) = false := kb_0.mp c67
                refine lv_iconst (v := nI 0) hx hb dC_isStatement_70 (by decide) ?_
                exact ret_z C0 rfl hP hS ⟨by simp [q_st, kb, c7, c16, c23, c32, c46, c60, c67], rfl⟩ dC_isStatement_71
          · have c46 : (q_uB kd) = true := kb_t.mp c46
            refine lv_iload_n hx hb dC_isStatement_49 rfl (lv_at hl 2 rfl) ?_
            refine then_i (run_S (n := 1) (As := [.int b]) (rest := []) C0 (qC_isUsable hn) gw324 gw322 gw323 gw1 (by decide +kernel) ⟨Nat.le_of_ble_eq_true rfl, Nat.le_of_ble_eq_true rfl⟩ rfl rfl ⟨Nat.le_of_ble_eq_true rfl, Nat.le_of_ble_eq_true rfl⟩ hP rfl hl.1 rfl (Nat.le_of_ble_eq_true rfl) dC_isStatement_50) hS hA (fun r92 f91 H locs hq50 hP hS => ?_)
            obtain ⟨er92, ef91⟩ := hq50
            subst er92
            rw [ef91] at hP
            refine lv_if_eq (tgt := 70) hx hb dC_isStatement_53 (by decide) (fun c53 => ?_) (fun c53 => ?_)
            · have c53 : (q_us b) = false := kb_0.mp c53
              refine lv_iconst (v := nI 0) hx hb dC_isStatement_70 (by decide) ?_
              exact ret_z C0 rfl hP hS ⟨by simp [q_st, kb, c7, c16, c23, c32, c46, c53], rfl⟩ dC_isStatement_71
            · have c53 : (q_us b) = true := kb_t.mp c53
              refine lv_iload_n hx hb dC_isStatement_56 rfl (lv_at hl 0 rfl) ?_
              refine then_i (run_S (n := 1) (As := [.int kd]) (rest := []) C0 (qC_usesC hn) gw330 gw328 gw329 gw1 (by decide +kernel) ⟨Nat.le_of_ble_eq_true rfl, Nat.le_of_ble_eq_true rfl⟩ rfl rfl ⟨Nat.le_of_ble_eq_true rfl, Nat.le_of_ble_eq_true rfl⟩ hP rfl hl.1 rfl (Nat.le_of_ble_eq_true rfl) dC_isStatement_57) hS hA (fun r94 f93 H locs hq57 hP hS => ?_)
              obtain ⟨er94, ef93⟩ := hq57
              subst er94
              rw [ef93] at hP
              refine lv_if_eq (tgt := 72) hx hb dC_isStatement_60 (by decide) (fun c60 => ?_) (fun c60 => ?_)
              · have c60 : (q_uC kd) = false := kb_0.mp c60
                refine lv_iload_n hx hb dC_isStatement_72 rfl (lv_at hl 0 rfl) ?_
                refine lv_iconst (v := nI 1) hx hb dC_isStatement_73 (by decide) ?_
                refine lv_icmp_ne (tgt := 83) hx hb dC_isStatement_74 (by decide) (fun c74 => ?_) (fun c74 => ?_)
                · refine lv_iload_n hx hb dC_isStatement_83 rfl (lv_at hl 0 rfl) ?_
                  refine then_i (run_S (n := 1) (As := [.int kd]) (rest := []) C0 (qC_usesB hn) gw327 gw325 gw326 gw1 (by decide +kernel) ⟨Nat.le_of_ble_eq_true rfl, Nat.le_of_ble_eq_true rfl⟩ rfl rfl ⟨Nat.le_of_ble_eq_true rfl, Nat.le_of_ble_eq_true rfl⟩ hP rfl hl.1 rfl (Nat.le_of_ble_eq_true rfl) dC_isStatement_84) hS hA (fun r96 f95 H locs hq84 hP hS => ?_)
                  obtain ⟨er96, ef95⟩ := hq84
                  subst er96
                  rw [ef95] at hP
                  refine lv_if_eq (tgt := 98) hx hb dC_isStatement_87 (by decide) (fun c87 => absurd c87 (kb_t.mpr c46)) (fun _ => ?_)
                  refine lv_iload hx hb dC_isStatement_90 (lv_at hl 4 rfl) ?_
                  refine then_i (run_S (n := 1) (As := [.int k]) (rest := []) C0 (qC_isDifference hn) gw280 gw278 gw279 gw1 (by decide +kernel) ⟨Nat.le_of_ble_eq_true rfl, Nat.le_of_ble_eq_true rfl⟩ rfl rfl ⟨Nat.le_of_ble_eq_true rfl, Nat.le_of_ble_eq_true rfl⟩ hP rfl hl.1 rfl (Nat.le_of_ble_eq_true rfl) dC_isStatement_92) hS hA (fun r98 f97 H locs hq92 hP hS => ?_)
                  obtain ⟨er98, ef97⟩ := hq92
                  subst er98
                  rw [ef97] at hP
                  refine lv_if_eq (tgt := 102) hx hb dC_isStatement_95 (by decide) (fun c95 => ?_) (fun c95 => ?_)
                  · have c95 : (q_df k) = false := kb_0.mp c95
                    refine lv_iconst (v := nI 0) hx hb dC_isStatement_102 (by decide) ?_
                    exact ret_z C0 rfl hP hS ⟨by simp [q_st, kb, c7, c16, c23, c32, c46, c53, c60, if_neg c74, c95], rfl⟩ dC_isStatement_103
                  · have c95 : (q_df k) = true := kb_t.mp c95
                    refine lv_iconst (v := nI 1) hx hb dC_isStatement_98 (by decide) ?_
                    refine lv_goto (tgt := 103) hx hb dC_isStatement_99 (by decide) ?_
                    exact ret_z C0 rfl hP hS ⟨by simp [q_st, kb, c7, c16, c23, c32, c46, c53, c60, if_neg c74, c95], rfl⟩ dC_isStatement_103
                · refine lv_iload hx hb dC_isStatement_77 (lv_at hl 4 rfl) ?_
                  refine then_i (run_S (n := 1) (As := [.int k]) (rest := []) C0 (qC_isFunction hn) gw204 gw202 gw203 gw1 (by decide +kernel) ⟨Nat.le_of_ble_eq_true rfl, Nat.le_of_ble_eq_true rfl⟩ rfl rfl ⟨Nat.le_of_ble_eq_true rfl, Nat.le_of_ble_eq_true rfl⟩ hP rfl hl.1 rfl (Nat.le_of_ble_eq_true rfl) dC_isStatement_79) hS hA (fun r100 f99 H locs hq79 hP hS => ?_)
                  obtain ⟨er100, ef99⟩ := hq79
                  subst er100
                  rw [ef99] at hP
                  exact ret_z C0 (b01 (kb_or _)).1 hP hS ⟨by simp [q_st, c7, c16, c23, c32, c46, c53, c60, if_pos c74], rfl⟩ dC_isStatement_82
              · have c60 : (q_uC kd) = true := kb_t.mp c60
                refine lv_iload_n hx hb dC_isStatement_63 rfl (lv_at hl 3 rfl) ?_
                refine then_i (run_S (n := 1) (As := [.int cc]) (rest := []) C0 (qC_isUsable hn) gw324 gw322 gw323 gw1 (by decide +kernel) ⟨Nat.le_of_ble_eq_true rfl, Nat.le_of_ble_eq_true rfl⟩ rfl rfl ⟨Nat.le_of_ble_eq_true rfl, Nat.le_of_ble_eq_true rfl⟩ hP rfl hl.1 rfl (Nat.le_of_ble_eq_true rfl) dC_isStatement_64) hS hA (fun r102 f101 H locs hq64 hP hS => ?_)
                obtain ⟨er102, ef101⟩ := hq64
                subst er102
                rw [ef101] at hP
                refine lv_if_ne (tgt := 72) hx hb dC_isStatement_67 (by decide) (fun c67 => ?_) (fun c67 => ?_)
                · have c67 : (q_us cc) = true := kb_t.mp c67
                  refine lv_iload_n hx hb dC_isStatement_72 rfl (lv_at hl 0 rfl) ?_
                  refine lv_iconst (v := nI 1) hx hb dC_isStatement_73 (by decide) ?_
                  refine lv_icmp_ne (tgt := 83) hx hb dC_isStatement_74 (by decide) (fun c74 => ?_) (fun c74 => ?_)
                  · refine lv_iload_n hx hb dC_isStatement_83 rfl (lv_at hl 0 rfl) ?_
                    refine then_i (run_S (n := 1) (As := [.int kd]) (rest := []) C0 (qC_usesB hn) gw327 gw325 gw326 gw1 (by decide +kernel) ⟨Nat.le_of_ble_eq_true rfl, Nat.le_of_ble_eq_true rfl⟩ rfl rfl ⟨Nat.le_of_ble_eq_true rfl, Nat.le_of_ble_eq_true rfl⟩ hP rfl hl.1 rfl (Nat.le_of_ble_eq_true rfl) dC_isStatement_84) hS hA (fun r104 f103 H locs hq84 hP hS => ?_)
                    obtain ⟨er104, ef103⟩ := hq84
                    subst er104
                    rw [ef103] at hP
                    refine lv_if_eq (tgt := 98) hx hb dC_isStatement_87 (by decide) (fun c87 => absurd c87 (kb_t.mpr c46)) (fun _ => ?_)
                    refine lv_iload hx hb dC_isStatement_90 (lv_at hl 4 rfl) ?_
                    refine then_i (run_S (n := 1) (As := [.int k]) (rest := []) C0 (qC_isDifference hn) gw280 gw278 gw279 gw1 (by decide +kernel) ⟨Nat.le_of_ble_eq_true rfl, Nat.le_of_ble_eq_true rfl⟩ rfl rfl ⟨Nat.le_of_ble_eq_true rfl, Nat.le_of_ble_eq_true rfl⟩ hP rfl hl.1 rfl (Nat.le_of_ble_eq_true rfl) dC_isStatement_92) hS hA (fun r106 f105 H locs hq92 hP hS => ?_)
                    obtain ⟨er106, ef105⟩ := hq92
                    subst er106
                    rw [ef105] at hP
                    refine lv_if_eq (tgt := 102) hx hb dC_isStatement_95 (by decide) (fun c95 => ?_) (fun c95 => ?_)
                    · have c95 : (q_df k) = false := kb_0.mp c95
                      refine lv_iconst (v := nI 0) hx hb dC_isStatement_102 (by decide) ?_
                      exact ret_z C0 rfl hP hS ⟨by simp [q_st, kb, c7, c16, c23, c32, c46, c53, c60, c67, if_neg c74, c95], rfl⟩ dC_isStatement_103
                    · have c95 : (q_df k) = true := kb_t.mp c95
                      refine lv_iconst (v := nI 1) hx hb dC_isStatement_98 (by decide) ?_
                      refine lv_goto (tgt := 103) hx hb dC_isStatement_99 (by decide) ?_
                      exact ret_z C0 rfl hP hS ⟨by simp [q_st, kb, c7, c16, c23, c32, c46, c53, c60, c67, if_neg c74, c95], rfl⟩ dC_isStatement_103
                  · refine lv_iload hx hb dC_isStatement_77 (lv_at hl 4 rfl) ?_
                    refine then_i (run_S (n := 1) (As := [.int k]) (rest := []) C0 (qC_isFunction hn) gw204 gw202 gw203 gw1 (by decide +kernel) ⟨Nat.le_of_ble_eq_true rfl, Nat.le_of_ble_eq_true rfl⟩ rfl rfl ⟨Nat.le_of_ble_eq_true rfl, Nat.le_of_ble_eq_true rfl⟩ hP rfl hl.1 rfl (Nat.le_of_ble_eq_true rfl) dC_isStatement_79) hS hA (fun r108 f107 H locs hq79 hP hS => ?_)
                    obtain ⟨er108, ef107⟩ := hq79
                    subst er108
                    rw [ef107] at hP
                    exact ret_z C0 (b01 (kb_or _)).1 hP hS ⟨by simp [q_st, c7, c16, c23, c32, c46, c53, c60, c67, if_pos c74], rfl⟩ dC_isStatement_82
                · have c67 : (q_us cc) = false := kb_0.mp c67
                  refine lv_iconst (v := nI 0) hx hb dC_isStatement_70 (by decide) ?_
                  exact ret_z C0 rfl hP hS ⟨by simp [q_st, kb, c7, c16, c23, c32, c46, c53, c60, c67], rfl⟩ dC_isStatement_71
        · have c32 : (q_uA kd) = true := kb_t.mp c32
          refine lv_iload_n hx hb dC_isStatement_35 rfl (lv_at hl 1 rfl) ?_
          refine then_i (run_S (n := 1) (As := [.int a]) (rest := []) C0 (qC_isUsable hn) gw324 gw322 gw323 gw1 (by decide +kernel) ⟨Nat.le_of_ble_eq_true rfl, Nat.le_of_ble_eq_true rfl⟩ rfl rfl ⟨Nat.le_of_ble_eq_true rfl, Nat.le_of_ble_eq_true rfl⟩ hP rfl hl.1 rfl (Nat.le_of_ble_eq_true rfl) dC_isStatement_36) hS hA (fun r110 f109 H locs hq36 hP hS => ?_)
          obtain ⟨er110, ef109⟩ := hq36
          subst er110
          rw [ef109] at hP
          refine lv_if_eq (tgt := 70) hx hb dC_isStatement_39 (by decide) (fun c39 => ?_) (fun c39 => ?_)
          · have c39 : (q_us a) = false := kb_0.mp c39
            refine lv_iconst (v := nI 0) hx hb dC_isStatement_70 (by decide) ?_
            exact ret_z C0 rfl hP hS ⟨by simp [q_st, kb, c7, c16, c23, c32, c39], rfl⟩ dC_isStatement_71
          · have c39 : (q_us a) = true := kb_t.mp c39
            refine lv_iload_n hx hb dC_isStatement_42 rfl (lv_at hl 0 rfl) ?_
            refine then_i (run_S (n := 1) (As := [.int kd]) (rest := []) C0 (qC_usesB hn) gw327 gw325 gw326 gw1 (by decide +kernel) ⟨Nat.le_of_ble_eq_true rfl, Nat.le_of_ble_eq_true rfl⟩ rfl rfl ⟨Nat.le_of_ble_eq_true rfl, Nat.le_of_ble_eq_true rfl⟩ hP rfl hl.1 rfl (Nat.le_of_ble_eq_true rfl) dC_isStatement_43) hS hA (fun r112 f111 H locs hq43 hP hS => ?_)
            obtain ⟨er112, ef111⟩ := hq43
            subst er112
            rw [ef111] at hP
            refine lv_if_eq (tgt := 56) hx hb dC_isStatement_46 (by decide) (fun c46 => ?_) (fun c46 => ?_)
            · have c46 : (q_uB kd) = false := kb_0.mp c46
              refine lv_iload_n hx hb dC_isStatement_56 rfl (lv_at hl 0 rfl) ?_
              refine then_i (run_S (n := 1) (As := [.int kd]) (rest := []) C0 (qC_usesC hn) gw330 gw328 gw329 gw1 (by decide +kernel) ⟨Nat.le_of_ble_eq_true rfl, Nat.le_of_ble_eq_true rfl⟩ rfl rfl ⟨Nat.le_of_ble_eq_true rfl, Nat.le_of_ble_eq_true rfl⟩ hP rfl hl.1 rfl (Nat.le_of_ble_eq_true rfl) dC_isStatement_57) hS hA (fun r114 f113 H locs hq57 hP hS => ?_)
              obtain ⟨er114, ef113⟩ := hq57
              subst er114
              rw [ef113] at hP
              refine lv_if_eq (tgt := 72) hx hb dC_isStatement_60 (by decide) (fun c60 => ?_) (fun c60 => ?_)
              · have c60 : (q_uC kd) = false := kb_0.mp c60
                refine lv_iload_n hx hb dC_isStatement_72 rfl (lv_at hl 0 rfl) ?_
                refine lv_iconst (v := nI 1) hx hb dC_isStatement_73 (by decide) ?_
                refine lv_icmp_ne (tgt := 83) hx hb dC_isStatement_74 (by decide) (fun c74 => ?_) (fun c74 => ?_)
                · refine lv_iload_n hx hb dC_isStatement_83 rfl (lv_at hl 0 rfl) ?_
                  refine then_i (run_S (n := 1) (As := [.int kd]) (rest := []) C0 (qC_usesB hn) gw327 gw325 gw326 gw1 (by decide +kernel) ⟨Nat.le_of_ble_eq_true rfl, Nat.le_of_ble_eq_true rfl⟩ rfl rfl ⟨Nat.le_of_ble_eq_true rfl, Nat.le_of_ble_eq_true rfl⟩ hP rfl hl.1 rfl (Nat.le_of_ble_eq_true rfl) dC_isStatement_84) hS hA (fun r116 f115 H locs hq84 hP hS => ?_)
                  obtain ⟨er116, ef115⟩ := hq84
                  subst er116
                  rw [ef115] at hP
                  refine lv_if_eq (tgt := 98) hx hb dC_isStatement_87 (by decide) (fun _ => ?_) (fun c87 => absurd (kb_0.mpr c46) c87)
                  refine lv_iconst (v := nI 1) hx hb dC_isStatement_98 (by decide) ?_
                  refine lv_goto (tgt := 103) hx hb dC_isStatement_99 (by decide) ?_
                  exact ret_z C0 rfl hP hS ⟨by simp [q_st, kb, c7, c16, c23, c32, c39, c46, c60, if_neg c74], rfl⟩ dC_isStatement_103
                · refine lv_iload hx hb dC_isStatement_77 (lv_at hl 4 rfl) ?_
                  refine then_i (run_S (n := 1) (As := [.int k]) (rest := []) C0 (qC_isFunction hn) gw204 gw202 gw203 gw1 (by decide +kernel) ⟨Nat.le_of_ble_eq_true rfl, Nat.le_of_ble_eq_true rfl⟩ rfl rfl ⟨Nat.le_of_ble_eq_true rfl, Nat.le_of_ble_eq_true rfl⟩ hP rfl hl.1 rfl (Nat.le_of_ble_eq_true rfl) dC_isStatement_79) hS hA (fun r118 f117 H locs hq79 hP hS => ?_)
                  obtain ⟨er118, ef117⟩ := hq79
                  subst er118
                  rw [ef117] at hP
                  exact ret_z C0 (b01 (kb_or _)).1 hP hS ⟨by simp [q_st, c7, c16, c23, c32, c39, c46, c60, if_pos c74], rfl⟩ dC_isStatement_82
              · have c60 : (q_uC kd) = true := kb_t.mp c60
                refine lv_iload_n hx hb dC_isStatement_63 rfl (lv_at hl 3 rfl) ?_
                refine then_i (run_S (n := 1) (As := [.int cc]) (rest := []) C0 (qC_isUsable hn) gw324 gw322 gw323 gw1 (by decide +kernel) ⟨Nat.le_of_ble_eq_true rfl, Nat.le_of_ble_eq_true rfl⟩ rfl rfl ⟨Nat.le_of_ble_eq_true rfl, Nat.le_of_ble_eq_true rfl⟩ hP rfl hl.1 rfl (Nat.le_of_ble_eq_true rfl) dC_isStatement_64) hS hA (fun r120 f119 H locs hq64 hP hS => ?_)
                obtain ⟨er120, ef119⟩ := hq64
                subst er120
                rw [ef119] at hP
                refine lv_if_ne (tgt := 72) hx hb dC_isStatement_67 (by decide) (fun c67 => ?_) (fun c67 => ?_)
                · have c67 : (q_us cc) = true := kb_t.mp c67
                  refine lv_iload_n hx hb dC_isStatement_72 rfl (lv_at hl 0 rfl) ?_
                  refine lv_iconst (v := nI 1) hx hb dC_isStatement_73 (by decide) ?_
                  refine lv_icmp_ne (tgt := 83) hx hb dC_isStatement_74 (by decide) (fun c74 => ?_) (fun c74 => ?_)
                  · refine lv_iload_n hx hb dC_isStatement_83 rfl (lv_at hl 0 rfl) ?_
                    refine then_i (run_S (n := 1) (As := [.int kd]) (rest := []) C0 (qC_usesB hn) gw327 gw325 gw326 gw1 (by decide +kernel) ⟨Nat.le_of_ble_eq_true rfl, Nat.le_of_ble_eq_true rfl⟩ rfl rfl ⟨Nat.le_of_ble_eq_true rfl, Nat.le_of_ble_eq_true rfl⟩ hP rfl hl.1 rfl (Nat.le_of_ble_eq_true rfl) dC_isStatement_84) hS hA (fun r122 f121 H locs hq84 hP hS => ?_)
                    obtain ⟨er122, ef121⟩ := hq84
                    subst er122
                    rw [ef121] at hP
                    refine lv_if_eq (tgt := 98) hx hb dC_isStatement_87 (by decide) (fun _ => ?_) (fun c87 => absurd (kb_0.mpr c46) c87)
                    refine lv_iconst (v := nI 1) hx hb dC_isStatement_98 (by decide) ?_
                    refine lv_goto (tgt := 103) hx hb dC_isStatement_99 (by decide) ?_
                    exact ret_z C0 rfl hP hS ⟨by simp [q_st, kb, c7, c16, c23, c32, c39, c46, c60, c67, if_neg c74], rfl⟩ dC_isStatement_103
                  · refine lv_iload hx hb dC_isStatement_77 (lv_at hl 4 rfl) ?_
                    refine then_i (run_S (n := 1) (As := [.int k]) (rest := []) C0 (qC_isFunction hn) gw204 gw202 gw203 gw1 (by decide +kernel) ⟨Nat.le_of_ble_eq_true rfl, Nat.le_of_ble_eq_true rfl⟩ rfl rfl ⟨Nat.le_of_ble_eq_true rfl, Nat.le_of_ble_eq_true rfl⟩ hP rfl hl.1 rfl (Nat.le_of_ble_eq_true rfl) dC_isStatement_79) hS hA (fun r124 f123 H locs hq79 hP hS => ?_)
                    obtain ⟨er124, ef123⟩ := hq79
                    subst er124
                    rw [ef123] at hP
                    exact ret_z C0 (b01 (kb_or _)).1 hP hS ⟨by simp [q_st, c7, c16, c23, c32, c39, c46, c60, c67, if_pos c74], rfl⟩ dC_isStatement_82
                · have c67 : (q_us cc) = false := kb_0.mp c67
                  refine lv_iconst (v := nI 0) hx hb dC_isStatement_70 (by decide) ?_
                  exact ret_z C0 rfl hP hS ⟨by simp [q_st, kb, c7, c16, c23, c32, c39, c46, c60, c67], rfl⟩ dC_isStatement_71
            · have c46 : (q_uB kd) = true := kb_t.mp c46
              refine lv_iload_n hx hb dC_isStatement_49 rfl (lv_at hl 2 rfl) ?_
              refine then_i (run_S (n := 1) (As := [.int b]) (rest := []) C0 (qC_isUsable hn) gw324 gw322 gw323 gw1 (by decide +kernel) ⟨Nat.le_of_ble_eq_true rfl, Nat.le_of_ble_eq_true rfl⟩ rfl rfl ⟨Nat.le_of_ble_eq_true rfl, Nat.le_of_ble_eq_true rfl⟩ hP rfl hl.1 rfl (Nat.le_of_ble_eq_true rfl) dC_isStatement_50) hS hA (fun r126 f125 H locs hq50 hP hS => ?_)
              obtain ⟨er126, ef125⟩ := hq50
              subst er126
              rw [ef125] at hP
              refine lv_if_eq (tgt := 70) hx hb dC_isStatement_53 (by decide) (fun c53 => ?_) (fun c53 => ?_)
              · have c53 : (q_us b) = false := kb_0.mp c53
                refine lv_iconst (v := nI 0) hx hb dC_isStatement_70 (by decide) ?_
                exact ret_z C0 rfl hP hS ⟨by simp [q_st, kb, c7, c16, c23, c32, c39, c46, c53], rfl⟩ dC_isStatement_71
              · have c53 : (q_us b) = true := kb_t.mp c53
                refine lv_iload_n hx hb dC_isStatement_56 rfl (lv_at hl 0 rfl) ?_
                refine then_i (run_S (n := 1) (As := [.int kd]) (rest := []) C0 (qC_usesC hn) gw330 gw328 gw329 gw1 (by decide +kernel) ⟨Nat.le_of_ble_eq_true rfl, Nat.le_of_ble_eq_true rfl⟩ rfl rfl ⟨Nat.le_of_ble_eq_true rfl, Nat.le_of_ble_eq_true rfl⟩ hP rfl hl.1 rfl (Nat.le_of_ble_eq_true rfl) dC_isStatement_57) hS hA (fun r128 f127 H locs hq57 hP hS => ?_)
                obtain ⟨er128, ef127⟩ := hq57
                subst er128
                rw [ef127] at hP
                refine lv_if_eq (tgt := 72) hx hb dC_isStatement_60 (by decide) (fun c60 => ?_) (fun c60 => ?_)
                · have c60 : (q_uC kd) = false := kb_0.mp c60
                  refine lv_iload_n hx hb dC_isStatement_72 rfl (lv_at hl 0 rfl) ?_
                  refine lv_iconst (v := nI 1) hx hb dC_isStatement_73 (by decide) ?_
                  refine lv_icmp_ne (tgt := 83) hx hb dC_isStatement_74 (by decide) (fun c74 => ?_) (fun c74 => ?_)
                  · refine lv_iload_n hx hb dC_isStatement_83 rfl (lv_at hl 0 rfl) ?_
                    refine then_i (run_S (n := 1) (As := [.int kd]) (rest := []) C0 (qC_usesB hn) gw327 gw325 gw326 gw1 (by decide +kernel) ⟨Nat.le_of_ble_eq_true rfl, Nat.le_of_ble_eq_true rfl⟩ rfl rfl ⟨Nat.le_of_ble_eq_true rfl, Nat.le_of_ble_eq_true rfl⟩ hP rfl hl.1 rfl (Nat.le_of_ble_eq_true rfl) dC_isStatement_84) hS hA (fun r130 f129 H locs hq84 hP hS => ?_)
                    obtain ⟨er130, ef129⟩ := hq84
                    subst er130
                    rw [ef129] at hP
                    refine lv_if_eq (tgt := 98) hx hb dC_isStatement_87 (by decide) (fun c87 => absurd c87 (kb_t.mpr c46)) (fun _ => ?_)
                    refine lv_iload hx hb dC_isStatement_90 (lv_at hl 4 rfl) ?_
                    refine then_i (run_S (n := 1) (As := [.int k]) (rest := []) C0 (qC_isDifference hn) gw280 gw278 gw279 gw1 (by decide +kernel) ⟨Nat.le_of_ble_eq_true rfl, Nat.le_of_ble_eq_true rfl⟩ rfl rfl ⟨Nat.le_of_ble_eq_true rfl, Nat.le_of_ble_eq_true rfl⟩ hP rfl hl.1 rfl (Nat.le_of_ble_eq_true rfl) dC_isStatement_92) hS hA (fun r132 f131 H locs hq92 hP hS => ?_)
                    obtain ⟨er132, ef131⟩ := hq92
                    subst er132
                    rw [ef131] at hP
                    refine lv_if_eq (tgt := 102) hx hb dC_isStatement_95 (by decide) (fun c95 => ?_) (fun c95 => ?_)
                    · have c95 : (q_df k) = false := kb_0.mp c95
                      refine lv_iconst (v := nI 0) hx hb dC_isStatement_102 (by decide) ?_
                      exact ret_z C0 rfl hP hS ⟨by simp [q_st, kb, c7, c16, c23, c32, c39, c46, c53, c60, if_neg c74, c95], rfl⟩ dC_isStatement_103
                    · have c95 : (q_df k) = true := kb_t.mp c95
                      refine lv_iconst (v := nI 1) hx hb dC_isStatement_98 (by decide) ?_
                      refine lv_goto (tgt := 103) hx hb dC_isStatement_99 (by decide) ?_
                      exact ret_z C0 rfl hP hS ⟨by simp [q_st, kb, c7, c16, c23, c32, c39, c46, c53, c60, if_neg c74, c95], rfl⟩ dC_isStatement_103
                  · refine lv_iload hx hb dC_isStatement_77 (lv_at hl 4 rfl) ?_
                    refine then_i (run_S (n := 1) (As := [.int k]) (rest := []) C0 (qC_isFunction hn) gw204 gw202 gw203 gw1 (by decide +kernel) ⟨Nat.le_of_ble_eq_true rfl, Nat.le_of_ble_eq_true rfl⟩ rfl rfl ⟨Nat.le_of_ble_eq_true rfl, Nat.le_of_ble_eq_true rfl⟩ hP rfl hl.1 rfl (Nat.le_of_ble_eq_true rfl) dC_isStatement_79) hS hA (fun r134 f133 H locs hq79 hP hS => ?_)
                    obtain ⟨er134, ef133⟩ := hq79
                    subst er134
                    rw [ef133] at hP
                    exact ret_z C0 (b01 (kb_or _)).1 hP hS ⟨by simp [q_st, c7, c16, c23, c32, c39, c46, c53, c60, if_pos c74], rfl⟩ dC_isStatement_82
                · have c60 : (q_uC kd) = true := kb_t.mp c60
                  refine lv_iload_n hx hb dC_isStatement_63 rfl (lv_at hl 3 rfl) ?_
                  refine then_i (run_S (n := 1) (As := [.int cc]) (rest := []) C0 (qC_isUsable hn) gw324 gw322 gw323 gw1 (by decide +kernel) ⟨Nat.le_of_ble_eq_true rfl, Nat.le_of_ble_eq_true rfl⟩ rfl rfl ⟨Nat.le_of_ble_eq_true rfl, Nat.le_of_ble_eq_true rfl⟩ hP rfl hl.1 rfl (Nat.le_of_ble_eq_true rfl) dC_isStatement_64) hS hA (fun r136 f135 H locs hq64 hP hS => ?_)
                  obtain ⟨er136, ef135⟩ := hq64
                  subst er136
                  rw [ef135] at hP
                  refine lv_if_ne (tgt := 72) hx hb dC_isStatement_67 (by decide) (fun c67 => ?_) (fun c67 => ?_)
                  · have c67 : (q_us cc) = true := kb_t.mp c67
                    refine lv_iload_n hx hb dC_isStatement_72 rfl (lv_at hl 0 rfl) ?_
                    refine lv_iconst (v := nI 1) hx hb dC_isStatement_73 (by decide) ?_
                    refine lv_icmp_ne (tgt := 83) hx hb dC_isStatement_74 (by decide) (fun c74 => ?_) (fun c74 => ?_)
                    · refine lv_iload_n hx hb dC_isStatement_83 rfl (lv_at hl 0 rfl) ?_
                      refine then_i (run_S (n := 1) (As := [.int kd]) (rest := []) C0 (qC_usesB hn) gw327 gw325 gw326 gw1 (by decide +kernel) ⟨Nat.le_of_ble_eq_true rfl, Nat.le_of_ble_eq_true rfl⟩ rfl rfl ⟨Nat.le_of_ble_eq_true rfl, Nat.le_of_ble_eq_true rfl⟩ hP rfl hl.1 rfl (Nat.le_of_ble_eq_true rfl) dC_isStatement_84) hS hA (fun r138 f137 H locs hq84 hP hS => ?_)
                      obtain ⟨er138, ef137⟩ := hq84
                      subst er138
                      rw [ef137] at hP
                      refine lv_if_eq (tgt := 98) hx hb dC_isStatement_87 (by decide) (fun c87 => absurd c87 (kb_t.mpr c46)) (fun _ => ?_)
                      refine lv_iload hx hb dC_isStatement_90 (lv_at hl 4 rfl) ?_
                      refine then_i (run_S (n := 1) (As := [.int k]) (rest := []) C0 (qC_isDifference hn) gw280 gw278 gw279 gw1 (by decide +kernel) ⟨Nat.le_of_ble_eq_true rfl, Nat.le_of_ble_eq_true rfl⟩ rfl rfl ⟨Nat.le_of_ble_eq_true rfl, Nat.le_of_ble_eq_true rfl⟩ hP rfl hl.1 rfl (Nat.le_of_ble_eq_true rfl) dC_isStatement_92) hS hA (fun r140 f139 H locs hq92 hP hS => ?_)
                      obtain ⟨er140, ef139⟩ := hq92
                      subst er140
                      rw [ef139] at hP
                      refine lv_if_eq (tgt := 102) hx hb dC_isStatement_95 (by decide) (fun c95 => ?_) (fun c95 => ?_)
                      · have c95 : (q_df k) = false := kb_0.mp c95
                        refine lv_iconst (v := nI 0) hx hb dC_isStatement_102 (by decide) ?_
                        exact ret_z C0 rfl hP hS ⟨by simp [q_st, kb, c7, c16, c23, c32, c39, c46, c53, c60, c67, if_neg c74, c95], rfl⟩ dC_isStatement_103
                      · have c95 : (q_df k) = true := kb_t.mp c95
                        refine lv_iconst (v := nI 1) hx hb dC_isStatement_98 (by decide) ?_
                        refine lv_goto (tgt := 103) hx hb dC_isStatement_99 (by decide) ?_
                        exact ret_z C0 rfl hP hS ⟨by simp [q_st, kb, c7, c16, c23, c32, c39, c46, c53, c60, c67, if_neg c74, c95], rfl⟩ dC_isStatement_103
                    · refine lv_iload hx hb dC_isStatement_77 (lv_at hl 4 rfl) ?_
                      refine then_i (run_S (n := 1) (As := [.int k]) (rest := []) C0 (qC_isFunction hn) gw204 gw202 gw203 gw1 (by decide +kernel) ⟨Nat.le_of_ble_eq_true rfl, Nat.le_of_ble_eq_true rfl⟩ rfl rfl ⟨Nat.le_of_ble_eq_true rfl, Nat.le_of_ble_eq_true rfl⟩ hP rfl hl.1 rfl (Nat.le_of_ble_eq_true rfl) dC_isStatement_79) hS hA (fun r142 f141 H locs hq79 hP hS => ?_)
                      obtain ⟨er142, ef141⟩ := hq79
                      subst er142
                      rw [ef141] at hP
                      exact ret_z C0 (b01 (kb_or _)).1 hP hS ⟨by simp [q_st, c7, c16, c23, c32, c39, c46, c53, c60, c67, if_pos c74], rfl⟩ dC_isStatement_82
                  · have c67 : (q_us cc) = false := kb_0.mp c67
                    refine lv_iconst (v := nI 0) hx hb dC_isStatement_70 (by decide) ?_
                    exact ret_z C0 rfl hP hS ⟨by simp [q_st, kb, c7, c16, c23, c32, c39, c46, c53, c60, c67], rfl⟩ dC_isStatement_71
      · have c23 : (q_gv a) = false := kb_0.mp c23
        refine lv_iconst (v := nI 0) hx hb dC_isStatement_26 (by decide) ?_
        exact ret_z C0 rfl hP hS ⟨by simp [q_st, kb, c7, c16, c23], rfl⟩ dC_isStatement_27
  · have c7 : (q_in kd (nI 0) (nI 7)) = false := kb_0.mp c7
    refine lv_iconst (v := nI 0) hx hb dC_isStatement_10 (by decide) ?_
    exact ret_z C0 rfl hP hS ⟨by simp [q_st, kb, c7], rfl⟩ dC_isStatement_11
end
section
/-! Function: its methods -/
def q_hg (gv x : Int32) : Bool := decide (x < nI 4) || decide ((gv >>> (x &&& 31)) &&& nI 1 = nI 1)
def q_hw (gv kd a b c : Int32) : Bool := (!q_uA kd || q_hg gv a) && (!q_uB kd || q_hg gv b) && (!q_uC kd || q_hg gv c)
def q_op (oi : Nat) (top kd : Int32) : Bool := (!decide (kd = nI 3) && !decide (kd = nI 4)) || (!decide (nI oi = 0) && (decide (kd = nI 4) || decide (top = nI 2)))
def q_rm (sz ni : Nat) (kd : Int32) : Bool := !decide (nI 16 ≤ nI sz) && (!decide (kd = nI 2) || !decide (nI 6 ≤ nI ni))
theorem nl34 : ¬ nI 3 = nI 4 := by decide +kernel
theorem nI_sub1 {n : Nat} (h : 0 < n) : nI n - nI 1 = nI (n - 1) := pk_sub h
set_option maxRecDepth 100000 in
set_option maxHeartbeats 4000000 in
theorem f_hasGiven {l : Launch} {D : va_G} {tys : List (ClassId × FieldType)} {L : List Nat} {f : Nat → va_E} (hn : L.Nodup) {F dR pR sA oA sz oi ni : Nat} {gv : Int32} (hFL : F ∈ L) (u1 : f F = .inr (0, [.ref dR, .ref pR, .ref sA, .ref oA, .int (nI sz), .int (nI oi), .int (nI ni), .int gv])) {x : Int32} : MetI l yF_hasGiven wF_hasGiven ({ frames := 0, cells := 0, slots := 0, locals := 0 } : Room) D tys L f [.ref F, .int x] (fun r f' => r = kb (q_hg gv x) ∧ f' = f) := by
  refine met_of "LiquidChecker$Function" (by decide) rfl (Nat.le_of_ble_eq_true rfl) ?_
  intro p e s m below meth c ls C0 hP hl
  obtain ⟨hx, hb, hml, hown, hg, hr, hlocks, hK, hN⟩ := id C0
  have hA : ∀ a ∈ L, inL L a := fun _ h => h
  obtain ⟨H, hH⟩ : ∃ z, z = s.heap := ⟨_, rfl⟩
  rw [← hH] at hP ⊢
  have hS : va_S (inL L) s.heap H [] := by rw [hH]; exact va_S.rf
  have hl : lv_has ls 2 [(0, .ref F), (1, .int x)] := hl
  refine lv_iload_n hx hb dF_hasGiven_0 rfl (lv_at hl 1 rfl) ?_
  refine lv_iconst (v := nI 4) hx hb dF_hasGiven_1 (by decide) ?_
  refine lv_icmp_lt (tgt := 17) hx hb dF_hasGiven_2 (by decide) (fun c2 => ?_) (fun c2 => ?_)
  · refine lv_iconst (v := nI 1) hx hb dF_hasGiven_17 (by decide) ?_
    refine lv_goto (tgt := 22) hx hb dF_hasGiven_18 (by decide) ?_
    exact ret_z C0 rfl hP hS ⟨by first | (simp [q_hg, kb, nl34, c2]; done), rfl⟩ dF_hasGiven_22
  · refine lv_aload_n hx hb dF_hasGiven_5 rfl (lv_at hl 0 rfl) ?_
    refine mm_get (v := .int gv) hx hb hg inF hown hK hP hFL u1 rfl 7 (by decide) (hg _ gw165) (fun _ h9 => h9) rfl dF_hasGiven_6 ?_
    refine lv_iload_n hx hb dF_hasGiven_9 rfl (lv_at hl 1 rfl) ?_
    refine lv_ishr hx hb dF_hasGiven_10 ?_
    refine lv_iconst (v := nI 1) hx hb dF_hasGiven_11 (by decide) ?_
    refine lv_iand hx hb dF_hasGiven_12 ?_
    refine lv_iconst (v := nI 1) hx hb dF_hasGiven_13 (by decide) ?_
    refine lv_icmp_ne (tgt := 21) hx hb dF_hasGiven_14 (by decide) (fun c14 => ?_) (fun c14 => ?_)
    · refine lv_iconst (v := nI 0) hx hb dF_hasGiven_21 (by decide) ?_
      exact ret_z C0 rfl hP hS ⟨by first | (simp [q_hg, kb, nl34, c2, c14]; done), rfl⟩ dF_hasGiven_22
    · refine lv_iconst (v := nI 1) hx hb dF_hasGiven_17 (by decide) ?_
      refine lv_goto (tgt := 22) hx hb dF_hasGiven_18 (by decide) ?_
      exact ret_z C0 rfl hP hS ⟨by first | (simp [q_hg, kb, nl34, c2, c14]; done) | exact absurd c14 c2, rfl⟩ dF_hasGiven_22
set_option maxRecDepth 100000 in
set_option maxHeartbeats 4000000 in
theorem f_hasGivenWhatIsUsed {l : Launch} {D : va_G} {tys : List (ClassId × FieldType)} {L : List Nat} {f : Nat → va_E} (hn : L.Nodup) {F dR pR sA oA sz oi ni : Nat} {gv : Int32} (hFL : F ∈ L) (u1 : f F = .inr (0, [.ref dR, .ref pR, .ref sA, .ref oA, .int (nI sz), .int (nI oi), .int (nI ni), .int gv])) {kd a b cc : Int32} : MetI l yF_hasGivenWhatIsUsed wF_hasGivenWhatIsUsed ({ frames := 1, cells := 0, slots := 0, locals := 21 } : Room) D tys L f [.ref F, .int kd, .int a, .int b, .int cc] (fun r f' => r = kb (q_hw gv kd a b cc) ∧ f' = f) := by
  refine met_of "LiquidChecker$Function" (by decide) rfl (Nat.le_of_ble_eq_true rfl) ?_
  intro p e s m below meth c ls C0 hP hl
  obtain ⟨hx, hb, hml, hown, hg, hr, hlocks, hK, hN⟩ := id C0
  have hA : ∀ a ∈ L, inL L a := fun _ h => h
  obtain ⟨H, hH⟩ : ∃ z, z = s.heap := ⟨_, rfl⟩
  rw [← hH] at hP ⊢
  have hS : va_S (inL L) s.heap H [] := by rw [hH]; exact va_S.rf
  have hl : lv_has ls 5 [(0, .ref F), (1, .int kd), (2, .int a), (3, .int b), (4, .int cc)] := hl
  refine lv_iload_n hx hb dF_hasGivenWhatIsUsed_0 rfl (lv_at hl 1 rfl) ?_
  refine then_i (run_SN (n := 1) (As := [.int kd]) (rest := []) C0 (qC_usesA hn) gw321 nx336 gw320 gw1 (by decide +kernel) ⟨Nat.le_of_ble_eq_true rfl, Nat.le_of_ble_eq_true rfl⟩ rfl rfl ⟨Nat.le_of_ble_eq_true rfl, Nat.le_of_ble_eq_true rfl⟩ hP rfl hl.1 rfl (Nat.le_of_ble_eq_true rfl) dF_hasGivenWhatIsUsed_1) hS hA (fun r2 f1 H locs hq1 hP hS => ?_)
  obtain ⟨er2, ef1⟩ := hq1
  subst er2
  rw [ef1] at hP
  refine lv_if_eq (tgt := 15) hx hb dF_hasGivenWhatIsUsed_4 (by decide) (fun c4 => ?_) (fun c4 => ?_)
  · have c4 : (q_uA kd) = false := kb_0.mp c4
    refine lv_iload_n hx hb dF_hasGivenWhatIsUsed_15 rfl (lv_at hl 1 rfl) ?_
    refine then_i (run_SN (n := 1) (As := [.int kd]) (rest := []) C0 (qC_usesB hn) gw327 nx341 gw326 gw1 (by decide +kernel) ⟨Nat.le_of_ble_eq_true rfl, Nat.le_of_ble_eq_true rfl⟩ rfl rfl ⟨Nat.le_of_ble_eq_true rfl, Nat.le_of_ble_eq_true rfl⟩ hP rfl hl.1 rfl (Nat.le_of_ble_eq_true rfl) dF_hasGivenWhatIsUsed_16) hS hA (fun r4 f3 H locs hq16 hP hS => ?_)
    obtain ⟨er4, ef3⟩ := hq16
    subst er4
    rw [ef3] at hP
    refine lv_if_eq (tgt := 30) hx hb dF_hasGivenWhatIsUsed_19 (by decide) (fun c19 => ?_) (fun c19 => ?_)
    · have c19 : (q_uB kd) = false := kb_0.mp c19
      refine lv_iload_n hx hb dF_hasGivenWhatIsUsed_30 rfl (lv_at hl 1 rfl) ?_
      refine then_i (run_SN (n := 1) (As := [.int kd]) (rest := []) C0 (qC_usesC hn) gw330 nx342 gw329 gw1 (by decide +kernel) ⟨Nat.le_of_ble_eq_true rfl, Nat.le_of_ble_eq_true rfl⟩ rfl rfl ⟨Nat.le_of_ble_eq_true rfl, Nat.le_of_ble_eq_true rfl⟩ hP rfl hl.1 rfl (Nat.le_of_ble_eq_true rfl) dF_hasGivenWhatIsUsed_31) hS hA (fun r6 f5 H locs hq31 hP hS => ?_)
      obtain ⟨er6, ef5⟩ := hq31
      subst er6
      rw [ef5] at hP
      refine lv_if_eq (tgt := 46) hx hb dF_hasGivenWhatIsUsed_34 (by decide) (fun c34 => ?_) (fun c34 => ?_)
      · have c34 : (q_uC kd) = false := kb_0.mp c34
        refine lv_iconst (v := nI 1) hx hb dF_hasGivenWhatIsUsed_46 (by decide) ?_
        refine lv_goto (tgt := 51) hx hb dF_hasGivenWhatIsUsed_47 (by decide) ?_
        exact ret_z C0 rfl hP hS ⟨by first | (simp [q_hw, kb, nl34, c4, c19, c34]; done) | exact absurd (c4.symm.trans c19) (by decide +kernel) | exact absurd (c4.symm.trans c34) (by decide +kernel) | exact absurd (c19.symm.trans c34) (by decide +kernel), rfl⟩ dF_hasGivenWhatIsUsed_51
      · have c34 : (q_uC kd) = true := kb_t.mp c34
        refine lv_aload_n hx hb dF_hasGivenWhatIsUsed_37 rfl (lv_at hl 0 rfl) ?_
        refine lv_iload hx hb dF_hasGivenWhatIsUsed_38 (lv_at hl 4 rfl) ?_
        refine then_i (run_V (n := 1) (As := [.int cc]) (rest := []) C0 (f_hasGiven hn hFL u1) gw340 gw337 gw339 gsF_hasGiven gw4 (by decide +kernel) ⟨Nat.le_of_ble_eq_true rfl, Nat.le_of_ble_eq_true rfl⟩ rfl rfl ⟨Nat.le_of_ble_eq_true rfl, Nat.le_of_ble_eq_true rfl⟩ hP hFL u1 rfl rfl rfl hl.1 rfl (Nat.le_of_ble_eq_true rfl) dF_hasGivenWhatIsUsed_40) hS hA (fun r8 f7 H locs hq40 hP hS => ?_)
        obtain ⟨er8, ef7⟩ := hq40
        subst er8
        rw [ef7] at hP
        refine lv_if_eq (tgt := 50) hx hb dF_hasGivenWhatIsUsed_43 (by decide) (fun c43 => ?_) (fun c43 => ?_)
        · have c43 : (q_hg gv cc) = false := kb_0.mp c43
          refine lv_iconst (v := nI 0) hx hb dF_hasGivenWhatIsUsed_50 (by decide) ?_
          exact ret_z C0 rfl hP hS ⟨by first | (simp [q_hw, kb, nl34, c4, c19, c34, c43]; done) | exact absurd (c4.symm.trans c19) (by decide +kernel) | exact absurd (c4.symm.trans c43) (by decide +kernel) | exact absurd (c19.symm.trans c43) (by decide +kernel) | exact absurd c4 c34 | exact absurd c19 c34 | exact absurd c43 c34, rfl⟩ dF_hasGivenWhatIsUsed_51
        · have c43 : (q_hg gv cc) = true := kb_t.mp c43
          refine lv_iconst (v := nI 1) hx hb dF_hasGivenWhatIsUsed_46 (by decide) ?_
          refine lv_goto (tgt := 51) hx hb dF_hasGivenWhatIsUsed_47 (by decide) ?_
          exact ret_z C0 rfl hP hS ⟨by first | (simp [q_hw, kb, nl34, c4, c19, c34, c43]; done) | exact absurd (c4.symm.trans c19) (by decide +kernel) | exact absurd c4 c34 | exact absurd c4 c43 | exact absurd c19 c34 | exact absurd c19 c43, rfl⟩ dF_hasGivenWhatIsUsed_51
    · have c19 : (q_uB kd) = true := kb_t.mp c19
      refine lv_aload_n hx hb dF_hasGivenWhatIsUsed_22 rfl (lv_at hl 0 rfl) ?_
      refine lv_iload_n hx hb dF_hasGivenWhatIsUsed_23 rfl (lv_at hl 3 rfl) ?_
      refine then_i (run_V (n := 1) (As := [.int b]) (rest := []) C0 (f_hasGiven hn hFL u1) gw340 gw337 gw339 gsF_hasGiven gw4 (by decide +kernel) ⟨Nat.le_of_ble_eq_true rfl, Nat.le_of_ble_eq_true rfl⟩ rfl rfl ⟨Nat.le_of_ble_eq_true rfl, Nat.le_of_ble_eq_true rfl⟩ hP hFL u1 rfl rfl rfl hl.1 rfl (Nat.le_of_ble_eq_true rfl) dF_hasGivenWhatIsUsed_24) hS hA (fun r10 f9 H locs hq24 hP hS => ?_)
      obtain ⟨er10, ef9⟩ := hq24
      subst er10
      rw [ef9] at hP
      refine lv_if_eq (tgt := 50) hx hb dF_hasGivenWhatIsUsed_27 (by decide) (fun c27 => ?_) (fun c27 => ?_)
      · have c27 : (q_hg gv b) = false := kb_0.mp c27
        refine lv_iconst (v := nI 0) hx hb dF_hasGivenWhatIsUsed_50 (by decide) ?_
        exact ret_z C0 rfl hP hS ⟨by first | (simp [q_hw, kb, nl34, c4, c19, c27]; done) | exact absurd (c4.symm.trans c27) (by decide +kernel) | exact absurd c4 c19 | exact absurd c27 c19, rfl⟩ dF_hasGivenWhatIsUsed_51
      · have c27 : (q_hg gv b) = true := kb_t.mp c27
        refine lv_iload_n hx hb dF_hasGivenWhatIsUsed_30 rfl (lv_at hl 1 rfl) ?_
        refine then_i (run_SN (n := 1) (As := [.int kd]) (rest := []) C0 (qC_usesC hn) gw330 nx342 gw329 gw1 (by decide +kernel) ⟨Nat.le_of_ble_eq_true rfl, Nat.le_of_ble_eq_true rfl⟩ rfl rfl ⟨Nat.le_of_ble_eq_true rfl, Nat.le_of_ble_eq_true rfl⟩ hP rfl hl.1 rfl (Nat.le_of_ble_eq_true rfl) dF_hasGivenWhatIsUsed_31) hS hA (fun r12 f11 H locs hq31 hP hS => ?_)
        obtain ⟨er12, ef11⟩ := hq31
        subst er12
        rw [ef11] at hP
        refine lv_if_eq (tgt := 46) hx hb dF_hasGivenWhatIsUsed_34 (by decide) (fun c34 => ?_) (fun c34 => ?_)
        · have c34 : (q_uC kd) = false := kb_0.mp c34
          refine lv_iconst (v := nI 1) hx hb dF_hasGivenWhatIsUsed_46 (by decide) ?_
          refine lv_goto (tgt := 51) hx hb dF_hasGivenWhatIsUsed_47 (by decide) ?_
          exact ret_z C0 rfl hP hS ⟨by first | (simp [q_hw, kb, nl34, c4, c19, c27, c34]; done) | exact absurd (c4.symm.trans c34) (by decide +kernel) | exact absurd c4 c19 | exact absurd c4 c27 | exact absurd c34 c19 | exact absurd c34 c27, rfl⟩ dF_hasGivenWhatIsUsed_51
        · have c34 : (q_uC kd) = true := kb_t.mp c34
          refine lv_aload_n hx hb dF_hasGivenWhatIsUsed_37 rfl (lv_at hl 0 rfl) ?_
          refine lv_iload hx hb dF_hasGivenWhatIsUsed_38 (lv_at hl 4 rfl) ?_
          refine then_i (run_V (n := 1) (As := [.int cc]) (rest := []) C0 (f_hasGiven hn hFL u1) gw340 gw337 gw339 gsF_hasGiven gw4 (by decide +kernel) ⟨Nat.le_of_ble_eq_true rfl, Nat.le_of_ble_eq_true rfl⟩ rfl rfl ⟨Nat.le_of_ble_eq_true rfl, Nat.le_of_ble_eq_true rfl⟩ hP hFL u1 rfl rfl rfl hl.1 rfl (Nat.le_of_ble_eq_true rfl) dF_hasGivenWhatIsUsed_40) hS hA (fun r14 f13 H locs hq40 hP hS => ?_)
          obtain ⟨er14, ef13⟩ := hq40
          subst er14
          rw [ef13] at hP
          refine lv_if_eq (tgt := 50) hx hb dF_hasGivenWhatIsUsed_43 (by decide) (fun c43 => ?_) (fun c43 => ?_)
          · have c43 : (q_hg gv cc) = false := kb_0.mp c43
            refine lv_iconst (v := nI 0) hx hb dF_hasGivenWhatIsUsed_50 (by decide) ?_
            exact ret_z C0 rfl hP hS ⟨by first | (simp [q_hw, kb, nl34, c4, c19, c27, c34, c43]; done) | exact absurd (c4.symm.trans c43) (by decide +kernel) | exact absurd c4 c19 | exact absurd c4 c27 | exact absurd c4 c34 | exact absurd c43 c19 | exact absurd c43 c27 | exact absurd c43 c34, rfl⟩ dF_hasGivenWhatIsUsed_51
          · have c43 : (q_hg gv cc) = true := kb_t.mp c43
            refine lv_iconst (v := nI 1) hx hb dF_hasGivenWhatIsUsed_46 (by decide) ?_
            refine lv_goto (tgt := 51) hx hb dF_hasGivenWhatIsUsed_47 (by decide) ?_
            exact ret_z C0 rfl hP hS ⟨by first | (simp [q_hw, kb, nl34, c4, c19, c27, c34, c43]; done) | exact absurd c4 c19 | exact absurd c4 c27 | exact absurd c4 c34 | exact absurd c4 c43, rfl⟩ dF_hasGivenWhatIsUsed_51
  · have c4 : (q_uA kd) = true := kb_t.mp c4
    refine lv_aload_n hx hb dF_hasGivenWhatIsUsed_7 rfl (lv_at hl 0 rfl) ?_
    refine lv_iload_n hx hb dF_hasGivenWhatIsUsed_8 rfl (lv_at hl 2 rfl) ?_
    refine then_i (run_V (n := 1) (As := [.int a]) (rest := []) C0 (f_hasGiven hn hFL u1) gw340 gw337 gw339 gsF_hasGiven gw4 (by decide +kernel) ⟨Nat.le_of_ble_eq_true rfl, Nat.le_of_ble_eq_true rfl⟩ rfl rfl ⟨Nat.le_of_ble_eq_true rfl, Nat.le_of_ble_eq_true rfl⟩ hP hFL u1 rfl rfl rfl hl.1 rfl (Nat.le_of_ble_eq_true rfl) dF_hasGivenWhatIsUsed_9) hS hA (fun r16 f15 H locs hq9 hP hS => ?_)
    obtain ⟨er16, ef15⟩ := hq9
    subst er16
    rw [ef15] at hP
    refine lv_if_eq (tgt := 50) hx hb dF_hasGivenWhatIsUsed_12 (by decide) (fun c12 => ?_) (fun c12 => ?_)
    · have c12 : (q_hg gv a) = false := kb_0.mp c12
      refine lv_iconst (v := nI 0) hx hb dF_hasGivenWhatIsUsed_50 (by decide) ?_
      exact ret_z C0 rfl hP hS ⟨by first | (simp [q_hw, kb, nl34, c4, c12]; done) | exact absurd c12 c4, rfl⟩ dF_hasGivenWhatIsUsed_51
    · have c12 : (q_hg gv a) = true := kb_t.mp c12
      refine lv_iload_n hx hb dF_hasGivenWhatIsUsed_15 rfl (lv_at hl 1 rfl) ?_
      refine then_i (run_SN (n := 1) (As := [.int kd]) (rest := []) C0 (qC_usesB hn) gw327 nx341 gw326 gw1 (by decide +kernel) ⟨Nat.le_of_ble_eq_true rfl, Nat.le_of_ble_eq_true rfl⟩ rfl rfl ⟨Nat.le_of_ble_eq_true rfl, Nat.le_of_ble_eq_true rfl⟩ hP rfl hl.1 rfl (Nat.le_of_ble_eq_true rfl) dF_hasGivenWhatIsUsed_16) hS hA (fun r18 f17 H locs hq16 hP hS => ?_)
      obtain ⟨er18, ef17⟩ := hq16
      subst er18
      rw [ef17] at hP
      refine lv_if_eq (tgt := 30) hx hb dF_hasGivenWhatIsUsed_19 (by decide) (fun c19 => ?_) (fun c19 => ?_)
      · have c19 : (q_uB kd) = false := kb_0.mp c19
        refine lv_iload_n hx hb dF_hasGivenWhatIsUsed_30 rfl (lv_at hl 1 rfl) ?_
        refine then_i (run_SN (n := 1) (As := [.int kd]) (rest := []) C0 (qC_usesC hn) gw330 nx342 gw329 gw1 (by decide +kernel) ⟨Nat.le_of_ble_eq_true rfl, Nat.le_of_ble_eq_true rfl⟩ rfl rfl ⟨Nat.le_of_ble_eq_true rfl, Nat.le_of_ble_eq_true rfl⟩ hP rfl hl.1 rfl (Nat.le_of_ble_eq_true rfl) dF_hasGivenWhatIsUsed_31) hS hA (fun r20 f19 H locs hq31 hP hS => ?_)
        obtain ⟨er20, ef19⟩ := hq31
        subst er20
        rw [ef19] at hP
        refine lv_if_eq (tgt := 46) hx hb dF_hasGivenWhatIsUsed_34 (by decide) (fun c34 => ?_) (fun c34 => ?_)
        · have c34 : (q_uC kd) = false := kb_0.mp c34
          refine lv_iconst (v := nI 1) hx hb dF_hasGivenWhatIsUsed_46 (by decide) ?_
          refine lv_goto (tgt := 51) hx hb dF_hasGivenWhatIsUsed_47 (by decide) ?_
          exact ret_z C0 rfl hP hS ⟨by first | (simp [q_hw, kb, nl34, c4, c12, c19, c34]; done) | exact absurd (c19.symm.trans c34) (by decide +kernel) | exact absurd c19 c4 | exact absurd c19 c12 | exact absurd c34 c4 | exact absurd c34 c12, rfl⟩ dF_hasGivenWhatIsUsed_51
        · have c34 : (q_uC kd) = true := kb_t.mp c34
          refine lv_aload_n hx hb dF_hasGivenWhatIsUsed_37 rfl (lv_at hl 0 rfl) ?_
          refine lv_iload hx hb dF_hasGivenWhatIsUsed_38 (lv_at hl 4 rfl) ?_
          refine then_i (run_V (n := 1) (As := [.int cc]) (rest := []) C0 (f_hasGiven hn hFL u1) gw340 gw337 gw339 gsF_hasGiven gw4 (by decide +kernel) ⟨Nat.le_of_ble_eq_true rfl, Nat.le_of_ble_eq_true rfl⟩ rfl rfl ⟨Nat.le_of_ble_eq_true rfl, Nat.le_of_ble_eq_true rfl⟩ hP hFL u1 rfl rfl rfl hl.1 rfl (Nat.le_of_ble_eq_true rfl) dF_hasGivenWhatIsUsed_40) hS hA (fun r22 f21 H locs hq40 hP hS => ?_)
          obtain ⟨er22, ef21⟩ := hq40
          subst er22
          rw [ef21] at hP
          refine lv_if_eq (tgt := 50) hx hb dF_hasGivenWhatIsUsed_43 (by decide) (fun c43 => ?_) (fun c43 => ?_)
          · have c43 : (q_hg gv cc) = false := kb_0.mp c43
            refine lv_iconst (v := nI 0) hx hb dF_hasGivenWhatIsUsed_50 (by decide) ?_
            exact ret_z C0 rfl hP hS ⟨by first | (simp [q_hw, kb, nl34, c4, c12, c19, c34, c43]; done) | exact absurd (c19.symm.trans c43) (by decide +kernel) | exact absurd c19 c4 | exact absurd c19 c12 | exact absurd c19 c34 | exact absurd c43 c4 | exact absurd c43 c12 | exact absurd c43 c34, rfl⟩ dF_hasGivenWhatIsUsed_51
          · have c43 : (q_hg gv cc) = true := kb_t.mp c43
            refine lv_iconst (v := nI 1) hx hb dF_hasGivenWhatIsUsed_46 (by decide) ?_
            refine lv_goto (tgt := 51) hx hb dF_hasGivenWhatIsUsed_47 (by decide) ?_
            exact ret_z C0 rfl hP hS ⟨by first | (simp [q_hw, kb, nl34, c4, c12, c19, c34, c43]; done) | exact absurd c19 c4 | exact absurd c19 c12 | exact absurd c19 c34 | exact absurd c19 c43, rfl⟩ dF_hasGivenWhatIsUsed_51
      · have c19 : (q_uB kd) = true := kb_t.mp c19
        refine lv_aload_n hx hb dF_hasGivenWhatIsUsed_22 rfl (lv_at hl 0 rfl) ?_
        refine lv_iload_n hx hb dF_hasGivenWhatIsUsed_23 rfl (lv_at hl 3 rfl) ?_
        refine then_i (run_V (n := 1) (As := [.int b]) (rest := []) C0 (f_hasGiven hn hFL u1) gw340 gw337 gw339 gsF_hasGiven gw4 (by decide +kernel) ⟨Nat.le_of_ble_eq_true rfl, Nat.le_of_ble_eq_true rfl⟩ rfl rfl ⟨Nat.le_of_ble_eq_true rfl, Nat.le_of_ble_eq_true rfl⟩ hP hFL u1 rfl rfl rfl hl.1 rfl (Nat.le_of_ble_eq_true rfl) dF_hasGivenWhatIsUsed_24) hS hA (fun r24 f23 H locs hq24 hP hS => ?_)
        obtain ⟨er24, ef23⟩ := hq24
        subst er24
        rw [ef23] at hP
        refine lv_if_eq (tgt := 50) hx hb dF_hasGivenWhatIsUsed_27 (by decide) (fun c27 => ?_) (fun c27 => ?_)
        · have c27 : (q_hg gv b) = false := kb_0.mp c27
          refine lv_iconst (v := nI 0) hx hb dF_hasGivenWhatIsUsed_50 (by decide) ?_
          exact ret_z C0 rfl hP hS ⟨by first | (simp [q_hw, kb, nl34, c4, c12, c19, c27]; done) | exact absurd c27 c4 | exact absurd c27 c12 | exact absurd c27 c19, rfl⟩ dF_hasGivenWhatIsUsed_51
        · have c27 : (q_hg gv b) = true := kb_t.mp c27
          refine lv_iload_n hx hb dF_hasGivenWhatIsUsed_30 rfl (lv_at hl 1 rfl) ?_
          refine then_i (run_SN (n := 1) (As := [.int kd]) (rest := []) C0 (qC_usesC hn) gw330 nx342 gw329 gw1 (by decide +kernel) ⟨Nat.le_of_ble_eq_true rfl, Nat.le_of_ble_eq_true rfl⟩ rfl rfl ⟨Nat.le_of_ble_eq_true rfl, Nat.le_of_ble_eq_true rfl⟩ hP rfl hl.1 rfl (Nat.le_of_ble_eq_true rfl) dF_hasGivenWhatIsUsed_31) hS hA (fun r26 f25 H locs hq31 hP hS => ?_)
          obtain ⟨er26, ef25⟩ := hq31
          subst er26
          rw [ef25] at hP
          refine lv_if_eq (tgt := 46) hx hb dF_hasGivenWhatIsUsed_34 (by decide) (fun c34 => ?_) (fun c34 => ?_)
          · have c34 : (q_uC kd) = false := kb_0.mp c34
            refine lv_iconst (v := nI 1) hx hb dF_hasGivenWhatIsUsed_46 (by decide) ?_
            refine lv_goto (tgt := 51) hx hb dF_hasGivenWhatIsUsed_47 (by decide) ?_
            exact ret_z C0 rfl hP hS ⟨by first | (simp [q_hw, kb, nl34, c4, c12, c19, c27, c34]; done) | exact absurd c34 c4 | exact absurd c34 c12 | exact absurd c34 c19 | exact absurd c34 c27, rfl⟩ dF_hasGivenWhatIsUsed_51
          · have c34 : (q_uC kd) = true := kb_t.mp c34
            refine lv_aload_n hx hb dF_hasGivenWhatIsUsed_37 rfl (lv_at hl 0 rfl) ?_
            refine lv_iload hx hb dF_hasGivenWhatIsUsed_38 (lv_at hl 4 rfl) ?_
            refine then_i (run_V (n := 1) (As := [.int cc]) (rest := []) C0 (f_hasGiven hn hFL u1) gw340 gw337 gw339 gsF_hasGiven gw4 (by decide +kernel) ⟨Nat.le_of_ble_eq_true rfl, Nat.le_of_ble_eq_true rfl⟩ rfl rfl ⟨Nat.le_of_ble_eq_true rfl, Nat.le_of_ble_eq_true rfl⟩ hP hFL u1 rfl rfl rfl hl.1 rfl (Nat.le_of_ble_eq_true rfl) dF_hasGivenWhatIsUsed_40) hS hA (fun r28 f27 H locs hq40 hP hS => ?_)
            obtain ⟨er28, ef27⟩ := hq40
            subst er28
            rw [ef27] at hP
            refine lv_if_eq (tgt := 50) hx hb dF_hasGivenWhatIsUsed_43 (by decide) (fun c43 => ?_) (fun c43 => ?_)
            · have c43 : (q_hg gv cc) = false := kb_0.mp c43
              refine lv_iconst (v := nI 0) hx hb dF_hasGivenWhatIsUsed_50 (by decide) ?_
              exact ret_z C0 rfl hP hS ⟨by first | (simp [q_hw, kb, nl34, c4, c12, c19, c27, c34, c43]; done) | exact absurd c43 c4 | exact absurd c43 c12 | exact absurd c43 c19 | exact absurd c43 c27 | exact absurd c43 c34, rfl⟩ dF_hasGivenWhatIsUsed_51
            · have c43 : (q_hg gv cc) = true := kb_t.mp c43
              refine lv_iconst (v := nI 1) hx hb dF_hasGivenWhatIsUsed_46 (by decide) ?_
              refine lv_goto (tgt := 51) hx hb dF_hasGivenWhatIsUsed_47 (by decide) ?_
              exact ret_z C0 rfl hP hS ⟨by first | (simp [q_hw, kb, nl34, c4, c12, c19, c27, c34, c43]; done), rfl⟩ dF_hasGivenWhatIsUsed_51
set_option maxRecDepth 100000 in
set_option maxHeartbeats 4000000 in
theorem f_hasRoomFor {l : Launch} {D : va_G} {tys : List (ClassId × FieldType)} {L : List Nat} {f : Nat → va_E} (hn : L.Nodup) {F dR pR sA oA sz oi ni : Nat} {gv : Int32} (hFL : F ∈ L) (u1 : f F = .inr (0, [.ref dR, .ref pR, .ref sA, .ref oA, .int (nI sz), .int (nI oi), .int (nI ni), .int gv])) {kd : Int32} : MetI l yF_hasRoomFor wF_hasRoomFor ({ frames := 0, cells := 0, slots := 0, locals := 0 } : Room) D tys L f [.ref F, .int kd] (fun r f' => r = kb (q_rm sz ni kd) ∧ f' = f) := by
  refine met_of "LiquidChecker$Function" (by decide) rfl (Nat.le_of_ble_eq_true rfl) ?_
  intro p e s m below meth c ls C0 hP hl
  obtain ⟨hx, hb, hml, hown, hg, hr, hlocks, hK, hN⟩ := id C0
  have hA : ∀ a ∈ L, inL L a := fun _ h => h
  obtain ⟨H, hH⟩ : ∃ z, z = s.heap := ⟨_, rfl⟩
  rw [← hH] at hP ⊢
  have hS : va_S (inL L) s.heap H [] := by rw [hH]; exact va_S.rf
  have hl : lv_has ls 2 [(0, .ref F), (1, .int kd)] := hl
  refine lv_aload_n hx hb dF_hasRoomFor_0 rfl (lv_at hl 0 rfl) ?_
  refine mm_get (v := .int (nI sz)) hx hb hg inF hown hK hP hFL u1 rfl 4 (by decide) (hg _ gw159) (fun _ h9 => h9) rfl dF_hasRoomFor_1 ?_
  refine lv_bipush (v := nI 16) hx hb dF_hasRoomFor_4 (by decide) ?_
  refine lv_icmp_ge (tgt := 27) hx hb dF_hasRoomFor_6 (by decide) (fun c6 => ?_) (fun c6 => ?_)
  · refine lv_iconst (v := nI 0) hx hb dF_hasRoomFor_27 (by decide) ?_
    exact ret_z C0 rfl hP hS ⟨by first | (simp [q_rm, kb, nl34, c6]; done), rfl⟩ dF_hasRoomFor_28
  · refine lv_iload_n hx hb dF_hasRoomFor_9 rfl (lv_at hl 1 rfl) ?_
    refine lv_iconst (v := nI 2) hx hb dF_hasRoomFor_10 (by decide) ?_
    refine lv_icmp_ne (tgt := 23) hx hb dF_hasRoomFor_11 (by decide) (fun c11 => ?_) (fun c11 => ?_)
    · refine lv_iconst (v := nI 1) hx hb dF_hasRoomFor_23 (by decide) ?_
      refine lv_goto (tgt := 28) hx hb dF_hasRoomFor_24 (by decide) ?_
      exact ret_z C0 rfl hP hS ⟨by first | (simp [q_rm, kb, nl34, c6, c11]; done), rfl⟩ dF_hasRoomFor_28
    · refine lv_aload_n hx hb dF_hasRoomFor_14 rfl (lv_at hl 0 rfl) ?_
      refine mm_get (v := .int (nI ni)) hx hb hg inF hown hK hP hFL u1 rfl 6 (by decide) (hg _ gw164) (fun _ h9 => h9) rfl dF_hasRoomFor_15 ?_
      refine lv_bipush (v := nI 6) hx hb dF_hasRoomFor_18 (by decide) ?_
      refine lv_icmp_ge (tgt := 27) hx hb dF_hasRoomFor_20 (by decide) (fun c20 => ?_) (fun c20 => ?_)
      · refine lv_iconst (v := nI 0) hx hb dF_hasRoomFor_27 (by decide) ?_
        exact ret_z C0 rfl hP hS ⟨by first | (simp [q_rm, kb, nl34, c6, c11, c20]; done) | exact absurd (c11.symm.trans c20) (by decide +kernel) | exact absurd c11 c6 | exact absurd c20 c6, rfl⟩ dF_hasRoomFor_28
      · refine lv_iconst (v := nI 1) hx hb dF_hasRoomFor_23 (by decide) ?_
        refine lv_goto (tgt := 28) hx hb dF_hasRoomFor_24 (by decide) ?_
        exact ret_z C0 rfl hP hS ⟨by first | (simp [q_rm, kb, nl34, c6, c11, c20]; done) | exact absurd c11 c6 | exact absurd c11 c20, rfl⟩ dF_hasRoomFor_28
set_option maxRecDepth 100000 in
set_option maxHeartbeats 4000000 in
theorem f_isOpenFor {l : Launch} {D : va_G} {tys : List (ClassId × FieldType)} {L : List Nat} {f : Nat → va_E} (hn : L.Nodup) {F dR pR sA oA sz oi ni : Nat} {gv : Int32} (hFL : F ∈ L) (u1 : f F = .inr (0, [.ref dR, .ref pR, .ref sA, .ref oA, .int (nI sz), .int (nI oi), .int (nI ni), .int gv])) {sq : Nat → Nat} {sk sa sb sc sK sl go : Nat → Int32} (hsAL : sA ∈ L) (u2 : mm_Q tys "LiquidChecker$Statement" f sA 16 (fun j => some (sq j))) (hoAL : oA ∈ L) (u3 : mm_I tys f oA 6 go) (hsqL : ∀ j, j < 16 → sq j ∈ L) (u4 : ∀ j, j < 16 → f (sq j) = .inr (3, [.int (sk j), .int (sa j), .int (sb j), .int (sc j), .int (sK j), .int (sl j)])) {t : Nat} (ht : oi ≠ 0 → go (oi - 1) = nI t ∧ t < 16) (hoi : oi ≤ 6) {kd : Int32} : MetI l yF_isOpenFor wF_isOpenFor ({ frames := 0, cells := 0, slots := 0, locals := 0 } : Room) D tys L f [.ref F, .int kd] (fun r f' => r = kb (q_op oi (sk t) kd) ∧ f' = f) := by
  refine met_of "LiquidChecker$Function" (by decide) rfl (Nat.le_of_ble_eq_true rfl) ?_
  intro p e s m below meth c ls C0 hP hl
  obtain ⟨hx, hb, hml, hown, hg, hr, hlocks, hK, hN⟩ := id C0
  have hA : ∀ a ∈ L, inL L a := fun _ h => h
  obtain ⟨H, hH⟩ : ∃ z, z = s.heap := ⟨_, rfl⟩
  rw [← hH] at hP ⊢
  have hS : va_S (inL L) s.heap H [] := by rw [hH]; exact va_S.rf
  have hl : lv_has ls 2 [(0, .ref F), (1, .int kd)] := hl
  refine lv_iload_n hx hb dF_isOpenFor_0 rfl (lv_at hl 1 rfl) ?_
  refine lv_iconst (v := nI 3) hx hb dF_isOpenFor_1 (by decide) ?_
  refine lv_icmp_eq (tgt := 12) hx hb dF_isOpenFor_2 (by decide) (fun c2 => ?_) (fun c2 => ?_)
  · refine lv_aload_n hx hb dF_isOpenFor_12 rfl (lv_at hl 0 rfl) ?_
    refine mm_get (v := .int (nI oi)) hx hb hg inF hown hK hP hFL u1 rfl 5 (by decide) (hg _ gw162) (fun _ h9 => h9) rfl dF_isOpenFor_13 ?_
    refine lv_if_ne (tgt := 21) hx hb dF_isOpenFor_16 (by decide) (fun c16 => ?_) (fun c16 => ?_)
    · refine lv_iload_n hx hb dF_isOpenFor_21 rfl (lv_at hl 1 rfl) ?_
      refine lv_iconst (v := nI 4) hx hb dF_isOpenFor_22 (by decide) ?_
      refine lv_icmp_eq (tgt := 49) hx hb dF_isOpenFor_23 (by decide) (fun c23 => ?_) (fun c23 => ?_)
      · refine lv_iconst (v := nI 1) hx hb dF_isOpenFor_49 (by decide) ?_
        refine lv_goto (tgt := 54) hx hb dF_isOpenFor_50 (by decide) ?_
        exact ret_z C0 rfl hP hS ⟨by first | (simp [q_op, kb, nl34, c2, c16, c23]; done) | exact absurd (c2.symm.trans c23) (by decide +kernel) | exact absurd c2 c16 | exact absurd c23 c16, rfl⟩ dF_isOpenFor_54
      · refine lv_aload_n hx hb dF_isOpenFor_26 rfl (lv_at hl 0 rfl) ?_
        refine mm_get (v := .ref sA) hx hb hg inF hown hK hP hFL u1 rfl 2 (by decide) (hg _ gw156) (fun _ h9 => h9) rfl dF_isOpenFor_27 ?_
        refine lv_aload_n hx hb dF_isOpenFor_30 rfl (lv_at hl 0 rfl) ?_
        refine mm_get (v := .ref oA) hx hb hg inF hown hK hP hFL u1 rfl 3 (by decide) (hg _ gw158) (fun _ h9 => h9) rfl dF_isOpenFor_31 ?_
        refine lv_aload_n hx hb dF_isOpenFor_34 rfl (lv_at hl 0 rfl) ?_
        refine mm_get (v := .int (nI oi)) hx hb hg inF hown hK hP hFL u1 rfl 5 (by decide) (hg _ gw162) (fun _ h9 => h9) rfl dF_isOpenFor_35 ?_
        refine lv_iconst (v := nI 1) hx hb dF_isOpenFor_38 (by decide) ?_
        refine lv_isub hx hb dF_isOpenFor_39 ?_
        have hoi0 : oi ≠ 0 := fun z => c16 (by rw [z]; rfl)
        rw [nI_sub1 (by omega)]
        refine mm_iald hx hb hK hP hoAL u3 (vp_in_nI (show oi - 1 < 6 by omega) (by omega)) dF_isOpenFor_40 ?_
        rw [nI_clamp (by omega)]
        rw [(ht hoi0).1]
        refine mm_aldq hx hb hK hP hsAL u2 (vp_in_nI (show t < 16 from (ht hoi0).2) (by omega)) (q := (sq t)) (by rw [nI_clamp (by omega)]) dF_isOpenFor_41 ?_
        refine mm_getN (v := .int (sk t)) hx hb hg inS hown hK hP (hsqL t (ht hoi0).2) (u4 t (ht hoi0).2) rfl 0 (by decide) (va_Nw.use rfl (hN _ nx125)) (fun _ h9 => h9) rfl dF_isOpenFor_42 ?_
        refine lv_iconst (v := nI 2) hx hb dF_isOpenFor_45 (by decide) ?_
        refine lv_icmp_ne (tgt := 53) hx hb dF_isOpenFor_46 (by decide) (fun c46 => ?_) (fun c46 => ?_)
        · refine lv_iconst (v := nI 0) hx hb dF_isOpenFor_53 (by decide) ?_
          exact ret_z C0 rfl hP hS ⟨by first | (simp [q_op, kb, nl34, c2, c16, c23, c46]; done) | exact absurd c2 c16 | exact absurd c2 c23 | exact absurd c2 c46, rfl⟩ dF_isOpenFor_54
        · refine lv_iconst (v := nI 1) hx hb dF_isOpenFor_49 (by decide) ?_
          refine lv_goto (tgt := 54) hx hb dF_isOpenFor_50 (by decide) ?_
          exact ret_z C0 rfl hP hS ⟨by first | (simp [q_op, kb, nl34, c2, c16, c23, c46]; done) | exact absurd (c2.symm.trans c46) (by decide +kernel) | exact absurd c2 c16 | exact absurd c2 c23 | exact absurd c46 c16 | exact absurd c46 c23, rfl⟩ dF_isOpenFor_54
    · refine lv_iconst (v := nI 0) hx hb dF_isOpenFor_19 (by decide) ?_
      exact ret_z C0 rfl hP hS ⟨by first | (simp [q_op, kb, nl34, c2, c16]; done) | exact absurd (c2.symm.trans c16) (by decide +kernel), rfl⟩ dF_isOpenFor_20
  · refine lv_iload_n hx hb dF_isOpenFor_5 rfl (lv_at hl 1 rfl) ?_
    refine lv_iconst (v := nI 4) hx hb dF_isOpenFor_6 (by decide) ?_
    refine lv_icmp_eq (tgt := 12) hx hb dF_isOpenFor_7 (by decide) (fun c7 => ?_) (fun c7 => ?_)
    · refine lv_aload_n hx hb dF_isOpenFor_12 rfl (lv_at hl 0 rfl) ?_
      refine mm_get (v := .int (nI oi)) hx hb hg inF hown hK hP hFL u1 rfl 5 (by decide) (hg _ gw162) (fun _ h9 => h9) rfl dF_isOpenFor_13 ?_
      refine lv_if_ne (tgt := 21) hx hb dF_isOpenFor_16 (by decide) (fun c16 => ?_) (fun c16 => ?_)
      · refine lv_iload_n hx hb dF_isOpenFor_21 rfl (lv_at hl 1 rfl) ?_
        refine lv_iconst (v := nI 4) hx hb dF_isOpenFor_22 (by decide) ?_
        refine lv_icmp_eq (tgt := 49) hx hb dF_isOpenFor_23 (by decide) (fun c23 => ?_) (fun c23 => ?_)
        · refine lv_iconst (v := nI 1) hx hb dF_isOpenFor_49 (by decide) ?_
          refine lv_goto (tgt := 54) hx hb dF_isOpenFor_50 (by decide) ?_
          exact ret_z C0 rfl hP hS ⟨by first | (simp [q_op, kb, nl34, c2, c7, c16, c23]; done) | exact absurd (c7.symm.trans c23) (by decide +kernel) | exact absurd c7 c2 | exact absurd c7 c16 | exact absurd c23 c2 | exact absurd c23 c16, rfl⟩ dF_isOpenFor_54
        · refine lv_aload_n hx hb dF_isOpenFor_26 rfl (lv_at hl 0 rfl) ?_
          refine mm_get (v := .ref sA) hx hb hg inF hown hK hP hFL u1 rfl 2 (by decide) (hg _ gw156) (fun _ h9 => h9) rfl dF_isOpenFor_27 ?_
          refine lv_aload_n hx hb dF_isOpenFor_30 rfl (lv_at hl 0 rfl) ?_
          refine mm_get (v := .ref oA) hx hb hg inF hown hK hP hFL u1 rfl 3 (by decide) (hg _ gw158) (fun _ h9 => h9) rfl dF_isOpenFor_31 ?_
          refine lv_aload_n hx hb dF_isOpenFor_34 rfl (lv_at hl 0 rfl) ?_
          refine mm_get (v := .int (nI oi)) hx hb hg inF hown hK hP hFL u1 rfl 5 (by decide) (hg _ gw162) (fun _ h9 => h9) rfl dF_isOpenFor_35 ?_
          refine lv_iconst (v := nI 1) hx hb dF_isOpenFor_38 (by decide) ?_
          refine lv_isub hx hb dF_isOpenFor_39 ?_
          have hoi0 : oi ≠ 0 := fun z => c16 (by rw [z]; rfl)
          rw [nI_sub1 (by omega)]
          refine mm_iald hx hb hK hP hoAL u3 (vp_in_nI (show oi - 1 < 6 by omega) (by omega)) dF_isOpenFor_40 ?_
          rw [nI_clamp (by omega)]
          rw [(ht hoi0).1]
          refine mm_aldq hx hb hK hP hsAL u2 (vp_in_nI (show t < 16 from (ht hoi0).2) (by omega)) (q := (sq t)) (by rw [nI_clamp (by omega)]) dF_isOpenFor_41 ?_
          refine mm_getN (v := .int (sk t)) hx hb hg inS hown hK hP (hsqL t (ht hoi0).2) (u4 t (ht hoi0).2) rfl 0 (by decide) (va_Nw.use rfl (hN _ nx125)) (fun _ h9 => h9) rfl dF_isOpenFor_42 ?_
          refine lv_iconst (v := nI 2) hx hb dF_isOpenFor_45 (by decide) ?_
          refine lv_icmp_ne (tgt := 53) hx hb dF_isOpenFor_46 (by decide) (fun c46 => ?_) (fun c46 => ?_)
          · refine lv_iconst (v := nI 0) hx hb dF_isOpenFor_53 (by decide) ?_
            exact ret_z C0 rfl hP hS ⟨by first | (simp [q_op, kb, nl34, c2, c7, c16, c23, c46]; done) | exact absurd c7 c2 | exact absurd c7 c16 | exact absurd c7 c23 | exact absurd c7 c46, rfl⟩ dF_isOpenFor_54
          · refine lv_iconst (v := nI 1) hx hb dF_isOpenFor_49 (by decide) ?_
            refine lv_goto (tgt := 54) hx hb dF_isOpenFor_50 (by decide) ?_
            exact ret_z C0 rfl hP hS ⟨by first | (simp [q_op, kb, nl34, c2, c7, c16, c23, c46]; done) | exact absurd (c7.symm.trans c46) (by decide +kernel) | exact absurd c7 c2 | exact absurd c7 c16 | exact absurd c7 c23 | exact absurd c46 c2 | exact absurd c46 c16 | exact absurd c46 c23, rfl⟩ dF_isOpenFor_54
      · refine lv_iconst (v := nI 0) hx hb dF_isOpenFor_19 (by decide) ?_
        exact ret_z C0 rfl hP hS ⟨by first | (simp [q_op, kb, nl34, c2, c7, c16]; done) | exact absurd (c7.symm.trans c16) (by decide +kernel) | exact absurd c7 c2 | exact absurd c16 c2, rfl⟩ dF_isOpenFor_20
    · refine lv_iconst (v := nI 1) hx hb dF_isOpenFor_10 (by decide) ?_
      exact ret_z C0 rfl hP hS ⟨by first | (simp [q_op, kb, nl34, c2, c7]; done), rfl⟩ dF_isOpenFor_11
set_option maxRecDepth 100000 in
set_option maxHeartbeats 4000000 in
theorem f_targetOf {l : Launch} {D : va_G} {tys : List (ClassId × FieldType)} {L : List Nat} {f : Nat → va_E} (hn : L.Nodup) {F dR pR sA oA sz oi ni : Nat} {gv : Int32} (hFL : F ∈ L) (u1 : f F = .inr (0, [.ref dR, .ref pR, .ref sA, .ref oA, .int (nI sz), .int (nI oi), .int (nI ni), .int gv])) {q : Nat} {i0 i1 i2 i3 i4 i5 : Int32} (hqL : q ∈ L) (q1 : f q = .inr (3, [.int i0, .int i1, .int i2, .int i3, .int i4, .int i5])) : MetI l yF_targetOf wF_targetOf ({ frames := 0, cells := 0, slots := 0, locals := 0 } : Room) D tys L f [.ref F, .ref q] (fun r f' => r = (if i5 = -1 then nI sz else i5) ∧ f' = f) := by
  refine met_of "LiquidChecker$Function" (by decide) rfl (Nat.le_of_ble_eq_true rfl) ?_
  intro p e s m below meth c ls C0 hP hl
  obtain ⟨hx, hb, hml, hown, hg, hr, hlocks, hK, hN⟩ := id C0
  have hA : ∀ a ∈ L, inL L a := fun _ h => h
  obtain ⟨H, hH⟩ : ∃ z, z = s.heap := ⟨_, rfl⟩
  rw [← hH] at hP ⊢
  have hS : va_S (inL L) s.heap H [] := by rw [hH]; exact va_S.rf
  have hl : lv_has ls 2 [(0, .ref F), (1, .ref q)] := hl
  refine lv_aload_n hx hb dF_targetOf_0 rfl (lv_at hl 1 rfl) ?_
  refine mm_getN (v := .int i5) hx hb hg inS hown hK hP hqL q1 rfl 5 (by decide) (va_Nw.use rfl (hN _ nx136)) (fun _ h9 => h9) rfl dF_targetOf_1 ?_
  refine lv_iconst (v := (-1)) hx hb dF_targetOf_4 (by decide) ?_
  refine lv_icmp_ne (tgt := 15) hx hb dF_targetOf_5 (by decide) (fun c5 => ?_) (fun c5 => ?_)
  · refine lv_aload_n hx hb dF_targetOf_15 rfl (lv_at hl 1 rfl) ?_
    refine mm_getN (v := .int i5) hx hb hg inS hown hK hP hqL q1 rfl 5 (by decide) (va_Nw.use rfl (hN _ nx136)) (fun _ h9 => h9) rfl dF_targetOf_16 ?_
    exact ret_i C0 hP hS ⟨(if_neg c5).symm, rfl⟩ dF_targetOf_19
  · refine lv_aload_n hx hb dF_targetOf_8 rfl (lv_at hl 0 rfl) ?_
    refine mm_get (v := .int (nI sz)) hx hb hg inF hown hK hP hFL u1 rfl 4 (by decide) (hg _ gw159) (fun _ h9 => h9) rfl dF_targetOf_9 ?_
    refine lv_goto (tgt := 19) hx hb dF_targetOf_12 (by decide) ?_
    exact ret_i C0 hP hS ⟨(if_pos c5).symm, rfl⟩ dF_targetOf_19
set_option maxRecDepth 100000 in
set_option maxHeartbeats 4000000 in
theorem f_openIf {l : Launch} {D : va_G} {tys : List (ClassId × FieldType)} {L : List Nat} {f : Nat → va_E} (hn : L.Nodup) {F dR pR sA oA sz oi ni : Nat} {gv : Int32} (hFL : F ∈ L) (u1 : f F = .inr (0, [.ref dR, .ref pR, .ref sA, .ref oA, .int (nI sz), .int (nI oi), .int (nI ni), .int gv])) {go : Nat → Int32} (hoAL : oA ∈ L) (u3 : mm_I tys f oA 6 go) (hoi : oi < 6) {pl : Nat} : MetV l yF_openIf wF_openIf ({ frames := 0, cells := 0, slots := 0, locals := 0 } : Room) D tys L f [.ref F, .int (nI pl)] (fun f' => f' F = .inr (0, [.ref dR, .ref pR, .ref sA, .ref oA, .int (nI sz), .int (nI (oi + 1)), .int (nI (ni + 1)), .int gv]) ∧ mm_I tys f' oA 6 (upd go oi (nI pl)) ∧ ∀ z, z ≠ F → z ≠ oA → f' z = f z) := by
  refine met_of "LiquidChecker$Function" (by decide) rfl (Nat.le_of_ble_eq_true rfl) ?_
  intro p e s m below meth c ls C0 hP hl
  obtain ⟨hx, hb, hml, hown, hg, hr, hlocks, hK, hN⟩ := id C0
  have hA : ∀ a ∈ L, inL L a := fun _ h => h
  obtain ⟨H, hH⟩ : ∃ z, z = s.heap := ⟨_, rfl⟩
  rw [← hH] at hP ⊢
  have hS : va_S (inL L) s.heap H [] := by rw [hH]; exact va_S.rf
  have hl : lv_has ls 2 [(0, .ref F), (1, .int (nI pl))] := hl
  refine lv_aload_n hx hb dF_openIf_0 rfl (lv_at hl 0 rfl) ?_
  refine mm_get (v := .ref oA) hx hb hg inF hown hK hP hFL u1 rfl 3 (by decide) (hg _ gw158) (fun _ h9 => h9) rfl dF_openIf_1 ?_
  refine lv_aload_n hx hb dF_openIf_4 rfl (lv_at hl 0 rfl) ?_
  refine mm_get (v := .int (nI oi)) hx hb hg inF hown hK hP hFL u1 rfl 5 (by decide) (hg _ gw162) (fun _ h9 => h9) rfl dF_openIf_5 ?_
  refine lv_iload_n hx hb dF_openIf_8 rfl (lv_at hl 1 rfl) ?_
  refine mm_iast hx hb hK hn hA hP hS hoAL u3 (vp_in_nI (show oi < 6 by omega) (by omega)) dF_openIf_9 (fun H locs hP hS => ?_)
  rw [nI_clamp (by omega)] at hP
  obtain ⟨f1, hf1⟩ : ∃ z, z = mm_si f oA (upd go oi (nI pl)) := ⟨_, rfl⟩
  have hP : va_P D zCl (va_pl L f1) H := by rw [hf1]; exact hP
  have p2 : f1 F = .inr (0, [.ref dR, .ref pR, .ref sA, .ref oA, .int (nI sz), .int (nI oi), .int (nI ni), .int gv]) := by rw [hf1, mm_si_ne (mm_IO u3 u1)]; exact u1
  have p3 : mm_I tys f1 oA 6 (upd go oi (nI pl)) := by rw [hf1]; exact u3.set
  refine lv_aload_n hx hb dF_openIf_10 rfl (lv_at hl 0 rfl) ?_
  refine lv_dup hx hb dF_openIf_11 rfl ?_
  refine mm_get (v := .int (nI oi)) hx hb hg inF hown hK hP hFL p2 rfl 5 (by decide) (hg _ gw162) (fun _ h9 => h9) rfl dF_openIf_12 ?_
  refine lv_iconst (v := nI 1) hx hb dF_openIf_15 (by decide) ?_
  refine lv_iadd hx hb dF_openIf_16 ?_
  rw [nI_add]
  refine mm_put (v := .int (nI (oi + 1))) (ty := .int) hx hb hg inF tyF tyF_ok nmF hown hK hn hA hP hS hFL p2 rfl 5 (by decide) (hg _ gw162) (fun _ h9 => h9) rfl (by decide +kernel) rfl rfl (Nat.le_of_ble_eq_true rfl) dF_openIf_17 (fun H locs hP hS => ?_)
  obtain ⟨f4, hf4⟩ : ∃ z, z = va_up f1 F (.inr (0, [.ref dR, .ref pR, .ref sA, .ref oA, .int (nI sz), .int (nI (oi + 1)), .int (nI ni), .int gv])) := ⟨_, rfl⟩
  have hP : va_P D zCl (va_pl L f4) H := by rw [hf4]; exact hP
  have p5 : mm_I tys f4 oA 6 (upd go oi (nI pl)) := p3.eq (by rw [hf4, va_up_ne _ _ (Ne.symm (mm_IO p3 p2))])
  have p6 : f4 F = .inr (0, [.ref dR, .ref pR, .ref sA, .ref oA, .int (nI sz), .int (nI (oi + 1)), .int (nI ni), .int gv]) := by rw [hf4]; exact va_up_self _ _ _
  refine lv_aload_n hx hb dF_openIf_20 rfl (lv_at hl 0 rfl) ?_
  refine lv_dup hx hb dF_openIf_21 rfl ?_
  refine mm_get (v := .int (nI ni)) hx hb hg inF hown hK hP hFL p6 rfl 6 (by decide) (hg _ gw164) (fun _ h9 => h9) rfl dF_openIf_22 ?_
  refine lv_iconst (v := nI 1) hx hb dF_openIf_25 (by decide) ?_
  refine lv_iadd hx hb dF_openIf_26 ?_
  rw [nI_add]
  refine mm_put (v := .int (nI (ni + 1))) (ty := .int) hx hb hg inF tyF tyF_ok nmF hown hK hn hA hP hS hFL p6 rfl 6 (by decide) (hg _ gw164) (fun _ h9 => h9) rfl (by decide +kernel) rfl rfl (Nat.le_of_ble_eq_true rfl) dF_openIf_27 (fun H locs hP hS => ?_)
  obtain ⟨f7, hf7⟩ : ∃ z, z = va_up f4 F (.inr (0, [.ref dR, .ref pR, .ref sA, .ref oA, .int (nI sz), .int (nI (oi + 1)), .int (nI (ni + 1)), .int gv])) := ⟨_, rfl⟩
  have hP : va_P D zCl (va_pl L f7) H := by rw [hf7]; exact hP
  have p8 : mm_I tys f7 oA 6 (upd go oi (nI pl)) := p5.eq (by rw [hf7, va_up_ne _ _ (Ne.symm (mm_IO p5 p6))])
  have p9 : f7 F = .inr (0, [.ref dR, .ref pR, .ref sA, .ref oA, .int (nI sz), .int (nI (oi + 1)), .int (nI (ni + 1)), .int gv]) := by rw [hf7]; exact va_up_self _ _ _
  exact ret_v C0 hP hS ⟨p9, p8, fun z z1 z2 => by rw [hf7, hf4, hf1, va_up_ne _ _ z1, va_up_ne _ _ z1, mm_si_ne z2]⟩ dF_openIf_30
set_option maxRecDepth 100000 in
set_option maxHeartbeats 4000000 in
theorem f_turnToElse {l : Launch} {D : va_G} {tys : List (ClassId × FieldType)} {L : List Nat} {f : Nat → va_E} (hn : L.Nodup) {F dR pR sA oA sz oi ni : Nat} {gv : Int32} (hFL : F ∈ L) (u1 : f F = .inr (0, [.ref dR, .ref pR, .ref sA, .ref oA, .int (nI sz), .int (nI oi), .int (nI ni), .int gv])) {sq : Nat → Nat} {sk sa sb sc sK sl go : Nat → Int32} (hsAL : sA ∈ L) (u2 : mm_Q tys "LiquidChecker$Statement" f sA 16 (fun j => some (sq j))) (hoAL : oA ∈ L) (u3 : mm_I tys f oA 6 go) (hsqL : ∀ j, j < 16 → sq j ∈ L) (u4 : ∀ j, j < 16 → f (sq j) = .inr (3, [.int (sk j), .int (sa j), .int (sb j), .int (sc j), .int (sK j), .int (sl j)])) {t : Nat} (hoi0 : 0 < oi) (htg : go (oi - 1) = nI t) (ht : t < 16) (hoi : oi ≤ 6) {pl : Nat} : MetV l yF_turnToElse wF_turnToElse ({ frames := 0, cells := 0, slots := 0, locals := 0 } : Room) D tys L f [.ref F, .int (nI pl)] (fun f' => f' (sq t) = .inr (3, [.int (sk t), .int (sa t), .int (sb t), .int (sc t), .int (sK t), .int (nI (pl + 1))]) ∧ mm_I tys f' oA 6 (upd go (oi - 1) (nI pl)) ∧ ∀ z, z ≠ sq t → z ≠ oA → f' z = f z) := by
  refine met_of "LiquidChecker$Function" (by decide) rfl (Nat.le_of_ble_eq_true rfl) ?_
  intro p e s m below meth c ls C0 hP hl
  obtain ⟨hx, hb, hml, hown, hg, hr, hlocks, hK, hN⟩ := id C0
  have hA : ∀ a ∈ L, inL L a := fun _ h => h
  obtain ⟨H, hH⟩ : ∃ z, z = s.heap := ⟨_, rfl⟩
  rw [← hH] at hP ⊢
  have hS : va_S (inL L) s.heap H [] := by rw [hH]; exact va_S.rf
  have hl : lv_has ls 2 [(0, .ref F), (1, .int (nI pl))] := hl
  refine lv_aload_n hx hb dF_turnToElse_0 rfl (lv_at hl 0 rfl) ?_
  refine mm_get (v := .ref sA) hx hb hg inF hown hK hP hFL u1 rfl 2 (by decide) (hg _ gw156) (fun _ h9 => h9) rfl dF_turnToElse_1 ?_
  refine lv_aload_n hx hb dF_turnToElse_4 rfl (lv_at hl 0 rfl) ?_
  refine mm_get (v := .ref oA) hx hb hg inF hown hK hP hFL u1 rfl 3 (by decide) (hg _ gw158) (fun _ h9 => h9) rfl dF_turnToElse_5 ?_
  refine lv_aload_n hx hb dF_turnToElse_8 rfl (lv_at hl 0 rfl) ?_
  refine mm_get (v := .int (nI oi)) hx hb hg inF hown hK hP hFL u1 rfl 5 (by decide) (hg _ gw162) (fun _ h9 => h9) rfl dF_turnToElse_9 ?_
  refine lv_iconst (v := nI 1) hx hb dF_turnToElse_12 (by decide) ?_
  refine lv_isub hx hb dF_turnToElse_13 ?_
  rw [nI_sub1 hoi0]
  refine mm_iald hx hb hK hP hoAL u3 (vp_in_nI (show oi - 1 < 6 by omega) (by omega)) dF_turnToElse_14 ?_
  rw [nI_clamp (by omega)]
  rw [htg]
  refine mm_aldq hx hb hK hP hsAL u2 (vp_in_nI (show t < 16 by omega) (by omega)) (q := (sq t)) (by rw [nI_clamp (by omega)]) dF_turnToElse_15 ?_
  refine lv_iload_n hx hb dF_turnToElse_16 rfl (lv_at hl 1 rfl) ?_
  refine lv_iconst (v := nI 1) hx hb dF_turnToElse_17 (by decide) ?_
  refine lv_iadd hx hb dF_turnToElse_18 ?_
  rw [nI_add]
  refine mm_putN (v := .int (nI (pl + 1))) (ty := .int) hx hb hg inS tyS tyS_ok nmS hown hK hn hA hP hS (hsqL t ht) (u4 t ht) rfl 5 (by decide) (va_Nw.use rfl (hN _ nx136)) (fun _ h9 => h9) rfl (by decide +kernel) rfl rfl (Nat.le_of_ble_eq_true rfl) dF_turnToElse_19 (fun H locs hP hS => ?_)
  obtain ⟨f1, hf1⟩ : ∃ z, z = va_up f (sq t) (.inr (3, [.int (sk t), .int (sa t), .int (sb t), .int (sc t), .int (sK t), .int (nI (pl + 1))])) := ⟨_, rfl⟩
  have hP : va_P D zCl (va_pl L f1) H := by rw [hf1]; exact hP
  have p2 : mm_Q tys "LiquidChecker$Statement" f1 sA 16 (fun j => some (sq j)) := u2.eq (by rw [hf1, va_up_ne _ _ (Ne.symm (mm_QO u2 (u4 t ht)))])
  have p3 : mm_I tys f1 oA 6 go := u3.eq (by rw [hf1, va_up_ne _ _ (Ne.symm (mm_IO u3 (u4 t ht)))])
  have p4 : f1 F = .inr (0, [.ref dR, .ref pR, .ref sA, .ref oA, .int (nI sz), .int (nI oi), .int (nI ni), .int gv]) := by rw [hf1, va_up_ne _ _ (mm_OO u1 (u4 t ht) (by decide))]; exact u1
  have p5 : f1 (sq t) = .inr (3, [.int (sk t), .int (sa t), .int (sb t), .int (sc t), .int (sK t), .int (nI (pl + 1))]) := by rw [hf1]; exact va_up_self _ _ _
  refine lv_aload_n hx hb dF_turnToElse_22 rfl (lv_at hl 0 rfl) ?_
  refine mm_get (v := .ref oA) hx hb hg inF hown hK hP hFL p4 rfl 3 (by decide) (hg _ gw158) (fun _ h9 => h9) rfl dF_turnToElse_23 ?_
  refine lv_aload_n hx hb dF_turnToElse_26 rfl (lv_at hl 0 rfl) ?_
  refine mm_get (v := .int (nI oi)) hx hb hg inF hown hK hP hFL p4 rfl 5 (by decide) (hg _ gw162) (fun _ h9 => h9) rfl dF_turnToElse_27 ?_
  refine lv_iconst (v := nI 1) hx hb dF_turnToElse_30 (by decide) ?_
  refine lv_isub hx hb dF_turnToElse_31 ?_
  rw [nI_sub1 hoi0]
  refine lv_iload_n hx hb dF_turnToElse_32 rfl (lv_at hl 1 rfl) ?_
  refine mm_iast hx hb hK hn hA hP hS hoAL p3 (vp_in_nI (show oi - 1 < 6 by omega) (by omega)) dF_turnToElse_33 (fun H locs hP hS => ?_)
  rw [nI_clamp (by omega)] at hP
  obtain ⟨f6, hf6⟩ : ∃ z, z = mm_si f1 oA (upd go (oi - 1) (nI pl)) := ⟨_, rfl⟩
  have hP : va_P D zCl (va_pl L f6) H := by rw [hf6]; exact hP
  have p7 : mm_Q tys "LiquidChecker$Statement" f6 sA 16 (fun j => some (sq j)) := p2.eq (by rw [hf6, mm_si_ne (Ne.symm (mm_IQ p3 p2))])
  have p8 : f6 F = .inr (0, [.ref dR, .ref pR, .ref sA, .ref oA, .int (nI sz), .int (nI oi), .int (nI ni), .int gv]) := by rw [hf6, mm_si_ne (mm_IO p3 p4)]; exact p4
  have p9 : f6 (sq t) = .inr (3, [.int (sk t), .int (sa t), .int (sb t), .int (sc t), .int (sK t), .int (nI (pl + 1))]) := by rw [hf6, mm_si_ne (mm_IO p3 p5)]; exact p5
  have p10 : mm_I tys f6 oA 6 (upd go (oi - 1) (nI pl)) := by rw [hf6]; exact p3.set
  exact ret_v C0 hP hS ⟨p9, p10, fun z z1 z2 => by rw [hf6, hf1, mm_si_ne z2, va_up_ne _ _ z1]⟩ dF_turnToElse_34
set_option maxRecDepth 100000 in
set_option maxHeartbeats 4000000 in
theorem f_closeIf {l : Launch} {D : va_G} {tys : List (ClassId × FieldType)} {L : List Nat} {f : Nat → va_E} (hn : L.Nodup) {F dR pR sA oA sz oi ni : Nat} {gv : Int32} (hFL : F ∈ L) (u1 : f F = .inr (0, [.ref dR, .ref pR, .ref sA, .ref oA, .int (nI sz), .int (nI oi), .int (nI ni), .int gv])) {sq : Nat → Nat} {sk sa sb sc sK sl go : Nat → Int32} (hsAL : sA ∈ L) (u2 : mm_Q tys "LiquidChecker$Statement" f sA 16 (fun j => some (sq j))) (hoAL : oA ∈ L) (u3 : mm_I tys f oA 6 go) (hsqL : ∀ j, j < 16 → sq j ∈ L) (u4 : ∀ j, j < 16 → f (sq j) = .inr (3, [.int (sk j), .int (sa j), .int (sb j), .int (sc j), .int (sK j), .int (sl j)])) {t : Nat} (hoi0 : 0 < oi) (htg : go (oi - 1) = nI t) (ht : t < 16) (hoi : oi ≤ 6) {pl : Nat} : MetV l yF_closeIf wF_closeIf ({ frames := 0, cells := 0, slots := 0, locals := 0 } : Room) D tys L f [.ref F, .int (nI pl)] (fun f' => f' F = .inr (0, [.ref dR, .ref pR, .ref sA, .ref oA, .int (nI sz), .int (nI (oi - 1)), .int (nI ni), .int gv]) ∧ f' (sq t) = .inr (3, [.int (sk t), .int (sa t), .int (sb t), .int (sc t), .int (sK t), .int (nI pl)]) ∧ ∀ z, z ≠ F → z ≠ sq t → f' z = f z) := by
  refine met_of "LiquidChecker$Function" (by decide) rfl (Nat.le_of_ble_eq_true rfl) ?_
  intro p e s m below meth c ls C0 hP hl
  obtain ⟨hx, hb, hml, hown, hg, hr, hlocks, hK, hN⟩ := id C0
  have hA : ∀ a ∈ L, inL L a := fun _ h => h
  obtain ⟨H, hH⟩ : ∃ z, z = s.heap := ⟨_, rfl⟩
  rw [← hH] at hP ⊢
  have hS : va_S (inL L) s.heap H [] := by rw [hH]; exact va_S.rf
  have hl : lv_has ls 2 [(0, .ref F), (1, .int (nI pl))] := hl
  refine lv_aload_n hx hb dF_closeIf_0 rfl (lv_at hl 0 rfl) ?_
  refine lv_dup hx hb dF_closeIf_1 rfl ?_
  refine mm_get (v := .int (nI oi)) hx hb hg inF hown hK hP hFL u1 rfl 5 (by decide) (hg _ gw162) (fun _ h9 => h9) rfl dF_closeIf_2 ?_
  refine lv_iconst (v := nI 1) hx hb dF_closeIf_5 (by decide) ?_
  refine lv_isub hx hb dF_closeIf_6 ?_
  rw [nI_sub1 hoi0]
  refine mm_put (v := .int (nI (oi - 1))) (ty := .int) hx hb hg inF tyF tyF_ok nmF hown hK hn hA hP hS hFL u1 rfl 5 (by decide) (hg _ gw162) (fun _ h9 => h9) rfl (by decide +kernel) rfl rfl (Nat.le_of_ble_eq_true rfl) dF_closeIf_7 (fun H locs hP hS => ?_)
  obtain ⟨f1, hf1⟩ : ∃ z, z = va_up f F (.inr (0, [.ref dR, .ref pR, .ref sA, .ref oA, .int (nI sz), .int (nI (oi - 1)), .int (nI ni), .int gv])) := ⟨_, rfl⟩
  have hP : va_P D zCl (va_pl L f1) H := by rw [hf1]; exact hP
  have p2 : mm_Q tys "LiquidChecker$Statement" f1 sA 16 (fun j => some (sq j)) := u2.eq (by rw [hf1, va_up_ne _ _ (Ne.symm (mm_QO u2 u1))])
  have p3 : mm_I tys f1 oA 6 go := u3.eq (by rw [hf1, va_up_ne _ _ (Ne.symm (mm_IO u3 u1))])
  have p4 : f1 F = .inr (0, [.ref dR, .ref pR, .ref sA, .ref oA, .int (nI sz), .int (nI (oi - 1)), .int (nI ni), .int gv]) := by rw [hf1]; exact va_up_self _ _ _
  refine lv_aload_n hx hb dF_closeIf_10 rfl (lv_at hl 0 rfl) ?_
  refine mm_get (v := .ref sA) hx hb hg inF hown hK hP hFL p4 rfl 2 (by decide) (hg _ gw156) (fun _ h9 => h9) rfl dF_closeIf_11 ?_
  refine lv_aload_n hx hb dF_closeIf_14 rfl (lv_at hl 0 rfl) ?_
  refine mm_get (v := .ref oA) hx hb hg inF hown hK hP hFL p4 rfl 3 (by decide) (hg _ gw158) (fun _ h9 => h9) rfl dF_closeIf_15 ?_
  refine lv_aload_n hx hb dF_closeIf_18 rfl (lv_at hl 0 rfl) ?_
  refine mm_get (v := .int (nI (oi - 1))) hx hb hg inF hown hK hP hFL p4 rfl 5 (by decide) (hg _ gw162) (fun _ h9 => h9) rfl dF_closeIf_19 ?_
  refine mm_iald hx hb hK hP hoAL p3 (vp_in_nI (show oi - 1 < 6 by omega) (by omega)) dF_closeIf_22 ?_
  rw [nI_clamp (by omega)]
  rw [htg]
  refine mm_aldq hx hb hK hP hsAL p2 (vp_in_nI (show t < 16 by omega) (by omega)) (q := (sq t)) (by rw [nI_clamp (by omega)]) dF_closeIf_23 ?_
  have p5 : f1 (sq t) = .inr (3, [.int (sk t), .int (sa t), .int (sb t), .int (sc t), .int (sK t), .int (sl t)]) := by rw [hf1, va_up_ne _ _ (mm_OO (u4 t ht) u1 (by decide))]; exact u4 t ht
  refine lv_iload_n hx hb dF_closeIf_24 rfl (lv_at hl 1 rfl) ?_
  refine mm_putN (v := .int (nI pl)) (ty := .int) hx hb hg inS tyS tyS_ok nmS hown hK hn hA hP hS (hsqL t ht) p5 rfl 5 (by decide) (va_Nw.use rfl (hN _ nx136)) (fun _ h9 => h9) rfl (by decide +kernel) rfl rfl (Nat.le_of_ble_eq_true rfl) dF_closeIf_25 (fun H locs hP hS => ?_)
  obtain ⟨f6, hf6⟩ : ∃ z, z = va_up f1 (sq t) (.inr (3, [.int (sk t), .int (sa t), .int (sb t), .int (sc t), .int (sK t), .int (nI pl)])) := ⟨_, rfl⟩
  have hP : va_P D zCl (va_pl L f6) H := by rw [hf6]; exact hP
  have p7 : mm_Q tys "LiquidChecker$Statement" f6 sA 16 (fun j => some (sq j)) := p2.eq (by rw [hf6, va_up_ne _ _ (Ne.symm (mm_QO p2 p5))])
  have p8 : mm_I tys f6 oA 6 go := p3.eq (by rw [hf6, va_up_ne _ _ (Ne.symm (mm_IO p3 p5))])
  have p9 : f6 F = .inr (0, [.ref dR, .ref pR, .ref sA, .ref oA, .int (nI sz), .int (nI (oi - 1)), .int (nI ni), .int gv]) := by rw [hf6, va_up_ne _ _ (mm_OO p4 p5 (by decide))]; exact p4
  have p10 : f6 (sq t) = .inr (3, [.int (sk t), .int (sa t), .int (sb t), .int (sc t), .int (sK t), .int (nI pl)]) := by rw [hf6]; exact va_up_self _ _ _
  exact ret_v C0 hP hS ⟨p9, p10, fun z z1 z2 => by rw [hf6, hf1, va_up_ne _ _ z2, va_up_ne _ _ z1]⟩ dF_closeIf_28
set_option maxRecDepth 100000 in
set_option maxHeartbeats 4000000 in
theorem f_empty {l : Launch} {D : va_G} {tys : List (ClassId × FieldType)} {L : List Nat} {f : Nat → va_E} (hn : L.Nodup) {F dR pR sA oA sz oi ni : Nat} {gv : Int32} (hFL : F ∈ L) (u1 : f F = .inr (0, [.ref dR, .ref pR, .ref sA, .ref oA, .int (nI sz), .int (nI oi), .int (nI ni), .int gv])) {a1 a2 a3 b1 b2 b3 : Nat} {n1 n2 : Int32} (hdL : dR ∈ L) (hpL : pR ∈ L) (g1 : f dR = .inr (2, [.ref a1, .ref a2, .ref a3, .int n1])) (g2 : f pR = .inr (2, [.ref b1, .ref b2, .ref b3, .int n2])) (hdp : dR ≠ pR) : MetV l yF_empty wF_empty ({ frames := 0, cells := 0, slots := 0, locals := 0 } : Room) D tys L f [.ref F] (fun f' => f' F = .inr (0, [.ref dR, .ref pR, .ref sA, .ref oA, .int (nI 0), .int (nI 0), .int (nI 0), .int (nI 0)]) ∧ f' dR = .inr (2, [.ref a1, .ref a2, .ref a3, .int (nI 0)]) ∧ f' pR = .inr (2, [.ref b1, .ref b2, .ref b3, .int (nI 0)]) ∧ ∀ z, z ≠ F → z ≠ dR → z ≠ pR → f' z = f z) := by
  refine met_of "LiquidChecker$Function" (by decide) rfl (Nat.le_of_ble_eq_true rfl) ?_
  intro p e s m below meth c ls C0 hP hl
  obtain ⟨hx, hb, hml, hown, hg, hr, hlocks, hK, hN⟩ := id C0
  have hA : ∀ a ∈ L, inL L a := fun _ h => h
  obtain ⟨H, hH⟩ : ∃ z, z = s.heap := ⟨_, rfl⟩
  rw [← hH] at hP ⊢
  have hS : va_S (inL L) s.heap H [] := by rw [hH]; exact va_S.rf
  have hl : lv_has ls 1 [(0, .ref F)] := hl
  refine lv_aload_n hx hb dF_empty_0 rfl (lv_at hl 0 rfl) ?_
  refine mm_get (v := .ref dR) hx hb hg inF hown hK hP hFL u1 rfl 0 (by decide) (hg _ gw150) (fun _ h9 => h9) rfl dF_empty_1 ?_
  refine lv_iconst (v := nI 0) hx hb dF_empty_4 (by decide) ?_
  refine mm_putN (v := .int (nI 0)) (ty := .int) hx hb hg inR tyR tyR_ok nmR hown hK hn hA hP hS hdL g1 rfl 3 (by decide) (va_Nw.use rfl (hN _ nx106)) (fun _ h9 => h9) rfl (by decide +kernel) rfl rfl (Nat.le_of_ble_eq_true rfl) dF_empty_5 (fun H locs hP hS => ?_)
  obtain ⟨f1, hf1⟩ : ∃ z, z = va_up f dR (.inr (2, [.ref a1, .ref a2, .ref a3, .int (nI 0)])) := ⟨_, rfl⟩
  have hP : va_P D zCl (va_pl L f1) H := by rw [hf1]; exact hP
  have p2 : f1 F = .inr (0, [.ref dR, .ref pR, .ref sA, .ref oA, .int (nI sz), .int (nI oi), .int (nI ni), .int gv]) := by rw [hf1, va_up_ne _ _ (mm_OO u1 g1 (by decide))]; exact u1
  have p3 : f1 pR = .inr (2, [.ref b1, .ref b2, .ref b3, .int n2]) := by rw [hf1, va_up_ne _ _ (Ne.symm hdp)]; exact g2
  have p4 : f1 dR = .inr (2, [.ref a1, .ref a2, .ref a3, .int (nI 0)]) := by rw [hf1]; exact va_up_self _ _ _
  refine lv_aload_n hx hb dF_empty_8 rfl (lv_at hl 0 rfl) ?_
  refine mm_get (v := .ref pR) hx hb hg inF hown hK hP hFL p2 rfl 1 (by decide) (hg _ gw153) (fun _ h9 => h9) rfl dF_empty_9 ?_
  refine lv_iconst (v := nI 0) hx hb dF_empty_12 (by decide) ?_
  refine mm_putN (v := .int (nI 0)) (ty := .int) hx hb hg inR tyR tyR_ok nmR hown hK hn hA hP hS hpL p3 rfl 3 (by decide) (va_Nw.use rfl (hN _ nx106)) (fun _ h9 => h9) rfl (by decide +kernel) rfl rfl (Nat.le_of_ble_eq_true rfl) dF_empty_13 (fun H locs hP hS => ?_)
  obtain ⟨f5, hf5⟩ : ∃ z, z = va_up f1 pR (.inr (2, [.ref b1, .ref b2, .ref b3, .int (nI 0)])) := ⟨_, rfl⟩
  have hP : va_P D zCl (va_pl L f5) H := by rw [hf5]; exact hP
  have p6 : f5 F = .inr (0, [.ref dR, .ref pR, .ref sA, .ref oA, .int (nI sz), .int (nI oi), .int (nI ni), .int gv]) := by rw [hf5, va_up_ne _ _ (mm_OO p2 p3 (by decide))]; exact p2
  have p7 : f5 dR = .inr (2, [.ref a1, .ref a2, .ref a3, .int (nI 0)]) := by rw [hf5, va_up_ne _ _ hdp]; exact p4
  have p8 : f5 pR = .inr (2, [.ref b1, .ref b2, .ref b3, .int (nI 0)]) := by rw [hf5]; exact va_up_self _ _ _
  refine lv_aload_n hx hb dF_empty_16 rfl (lv_at hl 0 rfl) ?_
  refine lv_iconst (v := nI 0) hx hb dF_empty_17 (by decide) ?_
  refine mm_put (v := .int (nI 0)) (ty := .int) hx hb hg inF tyF tyF_ok nmF hown hK hn hA hP hS hFL p6 rfl 4 (by decide) (hg _ gw159) (fun _ h9 => h9) rfl (by decide +kernel) rfl rfl (Nat.le_of_ble_eq_true rfl) dF_empty_18 (fun H locs hP hS => ?_)
  obtain ⟨f9, hf9⟩ : ∃ z, z = va_up f5 F (.inr (0, [.ref dR, .ref pR, .ref sA, .ref oA, .int (nI 0), .int (nI oi), .int (nI ni), .int gv])) := ⟨_, rfl⟩
  have hP : va_P D zCl (va_pl L f9) H := by rw [hf9]; exact hP
  have p10 : f9 dR = .inr (2, [.ref a1, .ref a2, .ref a3, .int (nI 0)]) := by rw [hf9, va_up_ne _ _ (mm_OO p7 p6 (by decide))]; exact p7
  have p11 : f9 pR = .inr (2, [.ref b1, .ref b2, .ref b3, .int (nI 0)]) := by rw [hf9, va_up_ne _ _ (mm_OO p8 p6 (by decide))]; exact p8
  have p12 : f9 F = .inr (0, [.ref dR, .ref pR, .ref sA, .ref oA, .int (nI 0), .int (nI oi), .int (nI ni), .int gv]) := by rw [hf9]; exact va_up_self _ _ _
  refine lv_aload_n hx hb dF_empty_21 rfl (lv_at hl 0 rfl) ?_
  refine lv_iconst (v := nI 0) hx hb dF_empty_22 (by decide) ?_
  refine mm_put (v := .int (nI 0)) (ty := .int) hx hb hg inF tyF tyF_ok nmF hown hK hn hA hP hS hFL p12 rfl 5 (by decide) (hg _ gw162) (fun _ h9 => h9) rfl (by decide +kernel) rfl rfl (Nat.le_of_ble_eq_true rfl) dF_empty_23 (fun H locs hP hS => ?_)
  obtain ⟨f13, hf13⟩ : ∃ z, z = va_up f9 F (.inr (0, [.ref dR, .ref pR, .ref sA, .ref oA, .int (nI 0), .int (nI 0), .int (nI ni), .int gv])) := ⟨_, rfl⟩
  have hP : va_P D zCl (va_pl L f13) H := by rw [hf13]; exact hP
  have p14 : f13 dR = .inr (2, [.ref a1, .ref a2, .ref a3, .int (nI 0)]) := by rw [hf13, va_up_ne _ _ (mm_OO p10 p12 (by decide))]; exact p10
  have p15 : f13 pR = .inr (2, [.ref b1, .ref b2, .ref b3, .int (nI 0)]) := by rw [hf13, va_up_ne _ _ (mm_OO p11 p12 (by decide))]; exact p11
  have p16 : f13 F = .inr (0, [.ref dR, .ref pR, .ref sA, .ref oA, .int (nI 0), .int (nI 0), .int (nI ni), .int gv]) := by rw [hf13]; exact va_up_self _ _ _
  refine lv_aload_n hx hb dF_empty_26 rfl (lv_at hl 0 rfl) ?_
  refine lv_iconst (v := nI 0) hx hb dF_empty_27 (by decide) ?_
  refine mm_put (v := .int (nI 0)) (ty := .int) hx hb hg inF tyF tyF_ok nmF hown hK hn hA hP hS hFL p16 rfl 6 (by decide) (hg _ gw164) (fun _ h9 => h9) rfl (by decide +kernel) rfl rfl (Nat.le_of_ble_eq_true rfl) dF_empty_28 (fun H locs hP hS => ?_)
  obtain ⟨f17, hf17⟩ : ∃ z, z = va_up f13 F (.inr (0, [.ref dR, .ref pR, .ref sA, .ref oA, .int (nI 0), .int (nI 0), .int (nI 0), .int gv])) := ⟨_, rfl⟩
  have hP : va_P D zCl (va_pl L f17) H := by rw [hf17]; exact hP
  have p18 : f17 dR = .inr (2, [.ref a1, .ref a2, .ref a3, .int (nI 0)]) := by rw [hf17, va_up_ne _ _ (mm_OO p14 p16 (by decide))]; exact p14
  have p19 : f17 pR = .inr (2, [.ref b1, .ref b2, .ref b3, .int (nI 0)]) := by rw [hf17, va_up_ne _ _ (mm_OO p15 p16 (by decide))]; exact p15
  have p20 : f17 F = .inr (0, [.ref dR, .ref pR, .ref sA, .ref oA, .int (nI 0), .int (nI 0), .int (nI 0), .int gv]) := by rw [hf17]; exact va_up_self _ _ _
  refine lv_aload_n hx hb dF_empty_31 rfl (lv_at hl 0 rfl) ?_
  refine lv_iconst (v := nI 0) hx hb dF_empty_32 (by decide) ?_
  refine mm_put (v := .int (nI 0)) (ty := .int) hx hb hg inF tyF tyF_ok nmF hown hK hn hA hP hS hFL p20 rfl 7 (by decide) (hg _ gw165) (fun _ h9 => h9) rfl (by decide +kernel) rfl rfl (Nat.le_of_ble_eq_true rfl) dF_empty_33 (fun H locs hP hS => ?_)
  obtain ⟨f21, hf21⟩ : ∃ z, z = va_up f17 F (.inr (0, [.ref dR, .ref pR, .ref sA, .ref oA, .int (nI 0), .int (nI 0), .int (nI 0), .int (nI 0)])) := ⟨_, rfl⟩
  have hP : va_P D zCl (va_pl L f21) H := by rw [hf21]; exact hP
  have p22 : f21 dR = .inr (2, [.ref a1, .ref a2, .ref a3, .int (nI 0)]) := by rw [hf21, va_up_ne _ _ (mm_OO p18 p20 (by decide))]; exact p18
  have p23 : f21 pR = .inr (2, [.ref b1, .ref b2, .ref b3, .int (nI 0)]) := by rw [hf21, va_up_ne _ _ (mm_OO p19 p20 (by decide))]; exact p19
  have p24 : f21 F = .inr (0, [.ref dR, .ref pR, .ref sA, .ref oA, .int (nI 0), .int (nI 0), .int (nI 0), .int (nI 0)]) := by rw [hf21]; exact va_up_self _ _ _
  exact ret_v C0 hP hS ⟨p24, p22, p23, fun z z1 z2 z3 => by rw [hf21, hf17, hf13, hf9, hf5, hf1, va_up_ne _ _ z1, va_up_ne _ _ z1, va_up_ne _ _ z1, va_up_ne _ _ z1, va_up_ne _ _ z3, va_up_ne _ _ z2]⟩ dF_empty_36
end
