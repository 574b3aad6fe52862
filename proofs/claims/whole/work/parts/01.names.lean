-- ===== PART A: goes FIRST, ahead of the names: the tables' words, and 'selects' of the private methods out of them =====
/-- a private method of a class that the tables say can be made, by its rows of tables_1 -/
def lw_okq (q : MethodName × Nat) : Prop := (q.1.cls ≠ "java/lang/invoke/MethodHandle" ∧ q.1.cls ≠ "java/lang/invoke/VarHandle") ∧ Cond.instantiable q.1.cls q.2 ∈ tables_1 ∧ Cond.privateMethod q.1 ∈ tables_1 ∧ Cond.instanceMethod q.1 ∈ tables_1
theorem lw_p0 : lw_okq (⟨"FrameForge", "writtenMethod", "(I)LFrameForge$Method;"⟩, 7) := ⟨⟨by decide +kernel, by decide +kernel⟩, List.mem_of_getElem? (i := 13) (by decide +kernel), List.mem_of_getElem? (i := 339) (by decide +kernel), List.mem_of_getElem? (i := 340) (by decide +kernel)⟩
theorem lw_p1 : lw_okq (⟨"FrameForge$Checker", "begin", "(LFrameForge$Method;)V"⟩, 10) := ⟨⟨by decide +kernel, by decide +kernel⟩, List.mem_of_getElem? (i := 109) (by decide +kernel), List.mem_of_getElem? (i := 384) (by decide +kernel), List.mem_of_getElem? (i := 385) (by decide +kernel)⟩
theorem lw_p2 : lw_okq (⟨"FrameForge$Checker", "comeTo", "(LFrameForge$Method;I[II)V"⟩, 10) := ⟨⟨by decide +kernel, by decide +kernel⟩, List.mem_of_getElem? (i := 109) (by decide +kernel), List.mem_of_getElem? (i := 388) (by decide +kernel), List.mem_of_getElem? (i := 389) (by decide +kernel)⟩
theorem lw_p3 : lw_okq (⟨"FrameForge$Checker", "meet", "(I[II)V"⟩, 10) := ⟨⟨by decide +kernel, by decide +kernel⟩, List.mem_of_getElem? (i := 109) (by decide +kernel), List.mem_of_getElem? (i := 393) (by decide +kernel), List.mem_of_getElem? (i := 394) (by decide +kernel)⟩
theorem lw_p4 : lw_okq (⟨"FrameForge$Checker", "followBacksAgain", "(LFrameForge$Method;)V"⟩, 10) := ⟨⟨by decide +kernel, by decide +kernel⟩, List.mem_of_getElem? (i := 109) (by decide +kernel), List.mem_of_getElem? (i := 398) (by decide +kernel), List.mem_of_getElem? (i := 399) (by decide +kernel)⟩
theorem lw_p5 : lw_okq (⟨"FrameForge$Checker", "goOnFrom", "(LFrameForge$Program;LFrameForge$Method;I)V"⟩, 10) := ⟨⟨by decide +kernel, by decide +kernel⟩, List.mem_of_getElem? (i := 109) (by decide +kernel), List.mem_of_getElem? (i := 402) (by decide +kernel), List.mem_of_getElem? (i := 403) (by decide +kernel)⟩
theorem lw_p6 : lw_okq (⟨"FrameForge$Checker", "passArguments", "(I)V"⟩, 10) := ⟨⟨by decide +kernel, by decide +kernel⟩, List.mem_of_getElem? (i := 109) (by decide +kernel), List.mem_of_getElem? (i := 410) (by decide +kernel), List.mem_of_getElem? (i := 411) (by decide +kernel)⟩
theorem lw_p7 : lw_okq (⟨"FrameForge$Checker", "take", "(I)V"⟩, 10) := ⟨⟨by decide +kernel, by decide +kernel⟩, List.mem_of_getElem? (i := 109) (by decide +kernel), List.mem_of_getElem? (i := 414) (by decide +kernel), List.mem_of_getElem? (i := 415) (by decide +kernel)⟩
theorem lw_p8 : lw_okq (⟨"FrameForge$Checker", "takeAny", "()I"⟩, 10) := ⟨⟨by decide +kernel, by decide +kernel⟩, List.mem_of_getElem? (i := 109) (by decide +kernel), List.mem_of_getElem? (i := 418) (by decide +kernel), List.mem_of_getElem? (i := 419) (by decide +kernel)⟩
theorem lw_p9 : lw_okq (⟨"FrameForge$Checker", "give", "(I)V"⟩, 10) := ⟨⟨by decide +kernel, by decide +kernel⟩, List.mem_of_getElem? (i := 109) (by decide +kernel), List.mem_of_getElem? (i := 422) (by decide +kernel), List.mem_of_getElem? (i := 423) (by decide +kernel)⟩
theorem lw_p10 : lw_okq (⟨"FrameForge$Checker", "takeAndGive", "(LFrameForge$Method;I)V"⟩, 10) := ⟨⟨by decide +kernel, by decide +kernel⟩, List.mem_of_getElem? (i := 109) (by decide +kernel), List.mem_of_getElem? (i := 426) (by decide +kernel), List.mem_of_getElem? (i := 427) (by decide +kernel)⟩
theorem lw_p11 : lw_okq (⟨"FrameForge$Checker", "useLocal", "(II)V"⟩, 10) := ⟨⟨by decide +kernel, by decide +kernel⟩, List.mem_of_getElem? (i := 109) (by decide +kernel), List.mem_of_getElem? (i := 430) (by decide +kernel), List.mem_of_getElem? (i := 431) (by decide +kernel)⟩
theorem lw_p12 : lw_okq (⟨"FrameForge$Checker", "useObject", "(I)V"⟩, 10) := ⟨⟨by decide +kernel, by decide +kernel⟩, List.mem_of_getElem? (i := 109) (by decide +kernel), List.mem_of_getElem? (i := 434) (by decide +kernel), List.mem_of_getElem? (i := 435) (by decide +kernel)⟩
theorem lw_p13 : lw_okq (⟨"FrameForge$Checker", "leadOn", "(LFrameForge$Method;I)V"⟩, 10) := ⟨⟨by decide +kernel, by decide +kernel⟩, List.mem_of_getElem? (i := 109) (by decide +kernel), List.mem_of_getElem? (i := 438) (by decide +kernel), List.mem_of_getElem? (i := 439) (by decide +kernel)⟩
theorem lw_p14 : lw_okq (⟨"FrameForge", "allSound", "(LFrameForge$Program;I)Z"⟩, 7) := ⟨⟨by decide +kernel, by decide +kernel⟩, List.mem_of_getElem? (i := 13) (by decide +kernel), List.mem_of_getElem? (i := 465) (by decide +kernel), List.mem_of_getElem? (i := 466) (by decide +kernel)⟩
theorem lw_p15 : lw_okq (⟨"FrameForge$Machine", "openFrame", "(I)LFrameForge$Frame;"⟩, 9) := ⟨⟨by decide +kernel, by decide +kernel⟩, List.mem_of_getElem? (i := 149) (by decide +kernel), List.mem_of_getElem? (i := 489) (by decide +kernel), List.mem_of_getElem? (i := 490) (by decide +kernel)⟩
def lw_privs_1 : List (MethodName × Nat) := [(⟨"FrameForge", "writtenMethod", "(I)LFrameForge$Method;"⟩, 7), (⟨"FrameForge$Checker", "begin", "(LFrameForge$Method;)V"⟩, 10), (⟨"FrameForge$Checker", "comeTo", "(LFrameForge$Method;I[II)V"⟩, 10), (⟨"FrameForge$Checker", "meet", "(I[II)V"⟩, 10), (⟨"FrameForge$Checker", "followBacksAgain", "(LFrameForge$Method;)V"⟩, 10), (⟨"FrameForge$Checker", "goOnFrom", "(LFrameForge$Program;LFrameForge$Method;I)V"⟩, 10), (⟨"FrameForge$Checker", "passArguments", "(I)V"⟩, 10), (⟨"FrameForge$Checker", "take", "(I)V"⟩, 10), (⟨"FrameForge$Checker", "takeAny", "()I"⟩, 10), (⟨"FrameForge$Checker", "give", "(I)V"⟩, 10), (⟨"FrameForge$Checker", "takeAndGive", "(LFrameForge$Method;I)V"⟩, 10), (⟨"FrameForge$Checker", "useLocal", "(II)V"⟩, 10), (⟨"FrameForge$Checker", "useObject", "(I)V"⟩, 10), (⟨"FrameForge$Checker", "leadOn", "(LFrameForge$Method;I)V"⟩, 10), (⟨"FrameForge", "allSound", "(LFrameForge$Program;I)Z"⟩, 7), (⟨"FrameForge$Machine", "openFrame", "(I)LFrameForge$Frame;"⟩, 9)]
theorem lw_r1 : ∀ q ∈ lw_privs_1, lw_okq q := List.forall_mem_cons.mpr ⟨lw_p0, List.forall_mem_cons.mpr ⟨lw_p1, List.forall_mem_cons.mpr ⟨lw_p2, List.forall_mem_cons.mpr ⟨lw_p3, List.forall_mem_cons.mpr ⟨lw_p4, List.forall_mem_cons.mpr ⟨lw_p5, List.forall_mem_cons.mpr ⟨lw_p6, List.forall_mem_cons.mpr ⟨lw_p7, List.forall_mem_cons.mpr ⟨lw_p8, List.forall_mem_cons.mpr ⟨lw_p9, List.forall_mem_cons.mpr ⟨lw_p10, List.forall_mem_cons.mpr ⟨lw_p11, List.forall_mem_cons.mpr ⟨lw_p12, List.forall_mem_cons.mpr ⟨lw_p13, List.forall_mem_cons.mpr ⟨lw_p14, List.forall_mem_cons.mpr ⟨lw_p15, fun _ h => absurd h List.not_mem_nil⟩⟩⟩⟩⟩⟩⟩⟩⟩⟩⟩⟩⟩⟩⟩⟩
theorem lw_p16 : lw_okq (⟨"FrameForge$Machine", "step", "(LFrameForge$Frame;)V"⟩, 9) := ⟨⟨by decide +kernel, by decide +kernel⟩, List.mem_of_getElem? (i := 149) (by decide +kernel), List.mem_of_getElem? (i := 504) (by decide +kernel), List.mem_of_getElem? (i := 505) (by decide +kernel)⟩
theorem lw_p17 : lw_okq (⟨"FrameForge$Machine", "useLocal", "(LFrameForge$Frame;III)V"⟩, 9) := ⟨⟨by decide +kernel, by decide +kernel⟩, List.mem_of_getElem? (i := 149) (by decide +kernel), List.mem_of_getElem? (i := 512) (by decide +kernel), List.mem_of_getElem? (i := 513) (by decide +kernel)⟩
theorem lw_p18 : lw_okq (⟨"FrameForge$Machine", "make", "(I)I"⟩, 9) := ⟨⟨by decide +kernel, by decide +kernel⟩, List.mem_of_getElem? (i := 149) (by decide +kernel), List.mem_of_getElem? (i := 520) (by decide +kernel), List.mem_of_getElem? (i := 521) (by decide +kernel)⟩
theorem lw_p19 : lw_okq (⟨"FrameForge$Machine", "turn", "(LFrameForge$Frame;III)V"⟩, 9) := ⟨⟨by decide +kernel, by decide +kernel⟩, List.mem_of_getElem? (i := 149) (by decide +kernel), List.mem_of_getElem? (i := 524) (by decide +kernel), List.mem_of_getElem? (i := 525) (by decide +kernel)⟩
theorem lw_p20 : lw_okq (⟨"FrameForge$Machine", "beginCall", "(LFrameForge$Frame;I)V"⟩, 9) := ⟨⟨by decide +kernel, by decide +kernel⟩, List.mem_of_getElem? (i := 149) (by decide +kernel), List.mem_of_getElem? (i := 531) (by decide +kernel), List.mem_of_getElem? (i := 532) (by decide +kernel)⟩
theorem lw_p21 : lw_okq (⟨"FrameForge$Machine", "throwNew", "(I)V"⟩, 9) := ⟨⟨by decide +kernel, by decide +kernel⟩, List.mem_of_getElem? (i := 149) (by decide +kernel), List.mem_of_getElem? (i := 535) (by decide +kernel), List.mem_of_getElem? (i := 536) (by decide +kernel)⟩
theorem lw_p22 : lw_okq (⟨"FrameForge$Machine", "throwObject", "(I)V"⟩, 9) := ⟨⟨by decide +kernel, by decide +kernel⟩, List.mem_of_getElem? (i := 149) (by decide +kernel), List.mem_of_getElem? (i := 539) (by decide +kernel), List.mem_of_getElem? (i := 540) (by decide +kernel)⟩
theorem lw_p23 : lw_okq (⟨"FrameForge$Machine", "closeFrame", "()V"⟩, 9) := ⟨⟨by decide +kernel, by decide +kernel⟩, List.mem_of_getElem? (i := 149) (by decide +kernel), List.mem_of_getElem? (i := 543) (by decide +kernel), List.mem_of_getElem? (i := 544) (by decide +kernel)⟩
theorem lw_p24 : lw_okq (⟨"FrameForge$Machine", "giveBack", "(I)V"⟩, 9) := ⟨⟨by decide +kernel, by decide +kernel⟩, List.mem_of_getElem? (i := 149) (by decide +kernel), List.mem_of_getElem? (i := 547) (by decide +kernel), List.mem_of_getElem? (i := 548) (by decide +kernel)⟩
theorem lw_p25 : lw_okq (⟨"FrameForge$Machine", "reckon", "(LFrameForge$Frame;I)V"⟩, 9) := ⟨⟨by decide +kernel, by decide +kernel⟩, List.mem_of_getElem? (i := 149) (by decide +kernel), List.mem_of_getElem? (i := 552) (by decide +kernel), List.mem_of_getElem? (i := 553) (by decide +kernel)⟩
theorem lw_p26 : lw_okq (⟨"FrameForge$Machine", "shuffle", "(LFrameForge$Frame;I)V"⟩, 9) := ⟨⟨by decide +kernel, by decide +kernel⟩, List.mem_of_getElem? (i := 149) (by decide +kernel), List.mem_of_getElem? (i := 556) (by decide +kernel), List.mem_of_getElem? (i := 557) (by decide +kernel)⟩
theorem lw_p27 : lw_okq (⟨"FrameForge$Machine", "useObject", "(LFrameForge$Frame;I)V"⟩, 9) := ⟨⟨by decide +kernel, by decide +kernel⟩, List.mem_of_getElem? (i := 149) (by decide +kernel), List.mem_of_getElem? (i := 560) (by decide +kernel), List.mem_of_getElem? (i := 561) (by decide +kernel)⟩
theorem lw_p28 : lw_okq (⟨"FrameForge$Machine", "enterLock", "(I)V"⟩, 9) := ⟨⟨by decide +kernel, by decide +kernel⟩, List.mem_of_getElem? (i := 149) (by decide +kernel), List.mem_of_getElem? (i := 564) (by decide +kernel), List.mem_of_getElem? (i := 565) (by decide +kernel)⟩
theorem lw_p29 : lw_okq (⟨"FrameForge$Machine", "leaveLock", "(LFrameForge$Frame;I)Z"⟩, 9) := ⟨⟨by decide +kernel, by decide +kernel⟩, List.mem_of_getElem? (i := 149) (by decide +kernel), List.mem_of_getElem? (i := 568) (by decide +kernel), List.mem_of_getElem? (i := 569) (by decide +kernel)⟩
theorem lw_p30 : lw_okq (⟨"FrameForge$Machine", "findRow", "()V"⟩, 9) := ⟨⟨by decide +kernel, by decide +kernel⟩, List.mem_of_getElem? (i := 149) (by decide +kernel), List.mem_of_getElem? (i := 573) (by decide +kernel), List.mem_of_getElem? (i := 574) (by decide +kernel)⟩
theorem lw_p31 : lw_okq (⟨"FrameForge$Method", "keepsPlain", "(III)Z"⟩, 11) := ⟨⟨by decide +kernel, by decide +kernel⟩, List.mem_of_getElem? (i := 29) (by decide +kernel), List.mem_of_getElem? (i := 632) (by decide +kernel), List.mem_of_getElem? (i := 633) (by decide +kernel)⟩
def lw_privs_2 : List (MethodName × Nat) := [(⟨"FrameForge$Machine", "step", "(LFrameForge$Frame;)V"⟩, 9), (⟨"FrameForge$Machine", "useLocal", "(LFrameForge$Frame;III)V"⟩, 9), (⟨"FrameForge$Machine", "make", "(I)I"⟩, 9), (⟨"FrameForge$Machine", "turn", "(LFrameForge$Frame;III)V"⟩, 9), (⟨"FrameForge$Machine", "beginCall", "(LFrameForge$Frame;I)V"⟩, 9), (⟨"FrameForge$Machine", "throwNew", "(I)V"⟩, 9), (⟨"FrameForge$Machine", "throwObject", "(I)V"⟩, 9), (⟨"FrameForge$Machine", "closeFrame", "()V"⟩, 9), (⟨"FrameForge$Machine", "giveBack", "(I)V"⟩, 9), (⟨"FrameForge$Machine", "reckon", "(LFrameForge$Frame;I)V"⟩, 9), (⟨"FrameForge$Machine", "shuffle", "(LFrameForge$Frame;I)V"⟩, 9), (⟨"FrameForge$Machine", "useObject", "(LFrameForge$Frame;I)V"⟩, 9), (⟨"FrameForge$Machine", "enterLock", "(I)V"⟩, 9), (⟨"FrameForge$Machine", "leaveLock", "(LFrameForge$Frame;I)Z"⟩, 9), (⟨"FrameForge$Machine", "findRow", "()V"⟩, 9), (⟨"FrameForge$Method", "keepsPlain", "(III)Z"⟩, 11)]
theorem lw_r2 : ∀ q ∈ lw_privs_2, lw_okq q := List.forall_mem_cons.mpr ⟨lw_p16, List.forall_mem_cons.mpr ⟨lw_p17, List.forall_mem_cons.mpr ⟨lw_p18, List.forall_mem_cons.mpr ⟨lw_p19, List.forall_mem_cons.mpr ⟨lw_p20, List.forall_mem_cons.mpr ⟨lw_p21, List.forall_mem_cons.mpr ⟨lw_p22, List.forall_mem_cons.mpr ⟨lw_p23, List.forall_mem_cons.mpr ⟨lw_p24, List.forall_mem_cons.mpr ⟨lw_p25, List.forall_mem_cons.mpr ⟨lw_p26, List.forall_mem_cons.mpr ⟨lw_p27, List.forall_mem_cons.mpr ⟨lw_p28, List.forall_mem_cons.mpr ⟨lw_p29, List.forall_mem_cons.mpr ⟨lw_p30, List.forall_mem_cons.mpr ⟨lw_p31, fun _ h => absurd h List.not_mem_nil⟩⟩⟩⟩⟩⟩⟩⟩⟩⟩⟩⟩⟩⟩⟩⟩
theorem lw_p32 : lw_okq (⟨"FrameForge$Method", "leadsInto", "(III)Z"⟩, 11) := ⟨⟨by decide +kernel, by decide +kernel⟩, List.mem_of_getElem? (i := 29) (by decide +kernel), List.mem_of_getElem? (i := 637) (by decide +kernel), List.mem_of_getElem? (i := 638) (by decide +kernel)⟩
theorem lw_p33 : lw_okq (⟨"FrameForge$Rewriter", "spread", "(LFrameForge$Method;II)V"⟩, 4) := ⟨⟨by decide +kernel, by decide +kernel⟩, List.mem_of_getElem? (i := 217) (by decide +kernel), List.mem_of_getElem? (i := 641) (by decide +kernel), List.mem_of_getElem? (i := 642) (by decide +kernel)⟩
theorem lw_p34 : lw_okq (⟨"FrameForge$Rewriter", "moved", "(I)I"⟩, 4) := ⟨⟨by decide +kernel, by decide +kernel⟩, List.mem_of_getElem? (i := 217) (by decide +kernel), List.mem_of_getElem? (i := 647) (by decide +kernel), List.mem_of_getElem? (i := 648) (by decide +kernel)⟩
theorem lw_p35 : lw_okq (⟨"FrameForge$Rewriter", "splitRow", "(LFrameForge$Method;III)V"⟩, 4) := ⟨⟨by decide +kernel, by decide +kernel⟩, List.mem_of_getElem? (i := 217) (by decide +kernel), List.mem_of_getElem? (i := 652) (by decide +kernel), List.mem_of_getElem? (i := 653) (by decide +kernel)⟩
theorem lw_p36 : lw_okq (⟨"FrameForge$Rewriter", "draftRow", "(IIII)V"⟩, 4) := ⟨⟨by decide +kernel, by decide +kernel⟩, List.mem_of_getElem? (i := 217) (by decide +kernel), List.mem_of_getElem? (i := 657) (by decide +kernel), List.mem_of_getElem? (i := 658) (by decide +kernel)⟩
theorem lw_p37 : lw_okq (⟨"FrameForge$Rewriter", "takeOver", "(LFrameForge$Method;)I"⟩, 4) := ⟨⟨by decide +kernel, by decide +kernel⟩, List.mem_of_getElem? (i := 217) (by decide +kernel), List.mem_of_getElem? (i := 663) (by decide +kernel), List.mem_of_getElem? (i := 664) (by decide +kernel)⟩
theorem lw_p38 : lw_okq (⟨"FrameForge$Rewriter", "putCalled", "(LFrameForge$Method;III)V"⟩, 4) := ⟨⟨by decide +kernel, by decide +kernel⟩, List.mem_of_getElem? (i := 217) (by decide +kernel), List.mem_of_getElem? (i := 692) (by decide +kernel), List.mem_of_getElem? (i := 693) (by decide +kernel)⟩
theorem lw_p39 : lw_okq (⟨"FrameForgeModel", "set", "(IIIII)V"⟩, 52) := ⟨⟨by decide +kernel, by decide +kernel⟩, List.mem_of_getElem? (i := 712) (by decide +kernel), List.mem_of_getElem? (i := 885) (by decide +kernel), List.mem_of_getElem? (i := 886) (by decide +kernel)⟩
theorem lw_p40 : lw_okq (⟨"FrameForgeModel", "setRow", "(IIIIII)V"⟩, 52) := ⟨⟨by decide +kernel, by decide +kernel⟩, List.mem_of_getElem? (i := 712) (by decide +kernel), List.mem_of_getElem? (i := 889) (by decide +kernel), List.mem_of_getElem? (i := 890) (by decide +kernel)⟩
theorem lw_p41 : lw_okq (⟨"FrameForgeModel", "own", "(I)I"⟩, 52) := ⟨⟨by decide +kernel, by decide +kernel⟩, List.mem_of_getElem? (i := 712) (by decide +kernel), List.mem_of_getElem? (i := 897) (by decide +kernel), List.mem_of_getElem? (i := 898) (by decide +kernel)⟩
theorem lw_p42 : lw_okq (⟨"FrameForgeModel", "put", "(IIIII)V"⟩, 52) := ⟨⟨by decide +kernel, by decide +kernel⟩, List.mem_of_getElem? (i := 712) (by decide +kernel), List.mem_of_getElem? (i := 914) (by decide +kernel), List.mem_of_getElem? (i := 915) (by decide +kernel)⟩
theorem lw_p43 : lw_okq (⟨"FrameForgeModel", "isRight", "(I)Z"⟩, 52) := ⟨⟨by decide +kernel, by decide +kernel⟩, List.mem_of_getElem? (i := 712) (by decide +kernel), List.mem_of_getElem? (i := 930) (by decide +kernel), List.mem_of_getElem? (i := 931) (by decide +kernel)⟩
theorem lw_p44 : lw_okq (⟨"FrameForgeModel", "arrive", "(II)V"⟩, 52) := ⟨⟨by decide +kernel, by decide +kernel⟩, List.mem_of_getElem? (i := 712) (by decide +kernel), List.mem_of_getElem? (i := 934) (by decide +kernel), List.mem_of_getElem? (i := 935) (by decide +kernel)⟩
theorem lw_p45 : lw_okq (⟨"FrameForgeModel", "fetch", "(I)V"⟩, 52) := ⟨⟨by decide +kernel, by decide +kernel⟩, List.mem_of_getElem? (i := 712) (by decide +kernel), List.mem_of_getElem? (i := 938) (by decide +kernel), List.mem_of_getElem? (i := 939) (by decide +kernel)⟩
theorem lw_p46 : lw_okq (⟨"FrameForgeModel", "leave", "(II)V"⟩, 52) := ⟨⟨by decide +kernel, by decide +kernel⟩, List.mem_of_getElem? (i := 712) (by decide +kernel), List.mem_of_getElem? (i := 942) (by decide +kernel), List.mem_of_getElem? (i := 943) (by decide +kernel)⟩
theorem lw_p47 : lw_okq (⟨"FrameForgeModel", "push", "(I)V"⟩, 52) := ⟨⟨by decide +kernel, by decide +kernel⟩, List.mem_of_getElem? (i := 712) (by decide +kernel), List.mem_of_getElem? (i := 946) (by decide +kernel), List.mem_of_getElem? (i := 947) (by decide +kernel)⟩
def lw_privs_3 : List (MethodName × Nat) := [(⟨"FrameForge$Method", "leadsInto", "(III)Z"⟩, 11), (⟨"FrameForge$Rewriter", "spread", "(LFrameForge$Method;II)V"⟩, 4), (⟨"FrameForge$Rewriter", "moved", "(I)I"⟩, 4), (⟨"FrameForge$Rewriter", "splitRow", "(LFrameForge$Method;III)V"⟩, 4), (⟨"FrameForge$Rewriter", "draftRow", "(IIII)V"⟩, 4), (⟨"FrameForge$Rewriter", "takeOver", "(LFrameForge$Method;)I"⟩, 4), (⟨"FrameForge$Rewriter", "putCalled", "(LFrameForge$Method;III)V"⟩, 4), (⟨"FrameForgeModel", "set", "(IIIII)V"⟩, 52), (⟨"FrameForgeModel", "setRow", "(IIIIII)V"⟩, 52), (⟨"FrameForgeModel", "own", "(I)I"⟩, 52), (⟨"FrameForgeModel", "put", "(IIIII)V"⟩, 52), (⟨"FrameForgeModel", "isRight", "(I)Z"⟩, 52), (⟨"FrameForgeModel", "arrive", "(II)V"⟩, 52), (⟨"FrameForgeModel", "fetch", "(I)V"⟩, 52), (⟨"FrameForgeModel", "leave", "(II)V"⟩, 52), (⟨"FrameForgeModel", "push", "(I)V"⟩, 52)]
theorem lw_r3 : ∀ q ∈ lw_privs_3, lw_okq q := List.forall_mem_cons.mpr ⟨lw_p32, List.forall_mem_cons.mpr ⟨lw_p33, List.forall_mem_cons.mpr ⟨lw_p34, List.forall_mem_cons.mpr ⟨lw_p35, List.forall_mem_cons.mpr ⟨lw_p36, List.forall_mem_cons.mpr ⟨lw_p37, List.forall_mem_cons.mpr ⟨lw_p38, List.forall_mem_cons.mpr ⟨lw_p39, List.forall_mem_cons.mpr ⟨lw_p40, List.forall_mem_cons.mpr ⟨lw_p41, List.forall_mem_cons.mpr ⟨lw_p42, List.forall_mem_cons.mpr ⟨lw_p43, List.forall_mem_cons.mpr ⟨lw_p44, List.forall_mem_cons.mpr ⟨lw_p45, List.forall_mem_cons.mpr ⟨lw_p46, List.forall_mem_cons.mpr ⟨lw_p47, fun _ h => absurd h List.not_mem_nil⟩⟩⟩⟩⟩⟩⟩⟩⟩⟩⟩⟩⟩⟩⟩⟩
theorem lw_p48 : lw_okq (⟨"FrameForgeModel", "take", "(I)V"⟩, 52) := ⟨⟨by decide +kernel, by decide +kernel⟩, List.mem_of_getElem? (i := 712) (by decide +kernel), List.mem_of_getElem? (i := 950) (by decide +kernel), List.mem_of_getElem? (i := 951) (by decide +kernel)⟩
theorem lw_p49 : lw_okq (⟨"FrameForgeModel", "move", "(I)V"⟩, 52) := ⟨⟨by decide +kernel, by decide +kernel⟩, List.mem_of_getElem? (i := 712) (by decide +kernel), List.mem_of_getElem? (i := 954) (by decide +kernel), List.mem_of_getElem? (i := 955) (by decide +kernel)⟩
theorem lw_p50 : lw_okq (⟨"FrameForgeModel", "goOn", "(II)V"⟩, 52) := ⟨⟨by decide +kernel, by decide +kernel⟩, List.mem_of_getElem? (i := 712) (by decide +kernel), List.mem_of_getElem? (i := 958) (by decide +kernel), List.mem_of_getElem? (i := 959) (by decide +kernel)⟩
theorem lw_p51 : lw_okq (⟨"FrameForgeModel", "refuse", "(II)V"⟩, 52) := ⟨⟨by decide +kernel, by decide +kernel⟩, List.mem_of_getElem? (i := 712) (by decide +kernel), List.mem_of_getElem? (i := 962) (by decide +kernel), List.mem_of_getElem? (i := 963) (by decide +kernel)⟩
theorem lw_p52 : lw_okq (⟨"FrameForgeModel", "allRight", "(I)Z"⟩, 52) := ⟨⟨by decide +kernel, by decide +kernel⟩, List.mem_of_getElem? (i := 712) (by decide +kernel), List.mem_of_getElem? (i := 974) (by decide +kernel), List.mem_of_getElem? (i := 975) (by decide +kernel)⟩
theorem lw_p53 : lw_okq (⟨"FrameForgeModel", "go", "(IIIII)I"⟩, 52) := ⟨⟨by decide +kernel, by decide +kernel⟩, List.mem_of_getElem? (i := 712) (by decide +kernel), List.mem_of_getElem? (i := 978) (by decide +kernel), List.mem_of_getElem? (i := 979) (by decide +kernel)⟩
theorem lw_p54 : lw_okq (⟨"FrameForgeModel", "begin", "(I)V"⟩, 52) := ⟨⟨by decide +kernel, by decide +kernel⟩, List.mem_of_getElem? (i := 712) (by decide +kernel), List.mem_of_getElem? (i := 982) (by decide +kernel), List.mem_of_getElem? (i := 983) (by decide +kernel)⟩
theorem lw_p55 : lw_okq (⟨"FrameForgeModel", "tell", "(II)V"⟩, 52) := ⟨⟨by decide +kernel, by decide +kernel⟩, List.mem_of_getElem? (i := 712) (by decide +kernel), List.mem_of_getElem? (i := 986) (by decide +kernel), List.mem_of_getElem? (i := 987) (by decide +kernel)⟩
theorem lw_p56 : lw_okq (⟨"FrameForgeModel", "step", "()V"⟩, 52) := ⟨⟨by decide +kernel, by decide +kernel⟩, List.mem_of_getElem? (i := 712) (by decide +kernel), List.mem_of_getElem? (i := 990) (by decide +kernel), List.mem_of_getElem? (i := 991) (by decide +kernel)⟩
theorem lw_p57 : lw_okq (⟨"FrameForgeModel", "pop", "()I"⟩, 52) := ⟨⟨by decide +kernel, by decide +kernel⟩, List.mem_of_getElem? (i := 712) (by decide +kernel), List.mem_of_getElem? (i := 994) (by decide +kernel), List.mem_of_getElem? (i := 995) (by decide +kernel)⟩
theorem lw_p58 : lw_okq (⟨"FrameForgeModel", "sum", "(III)V"⟩, 52) := ⟨⟨by decide +kernel, by decide +kernel⟩, List.mem_of_getElem? (i := 712) (by decide +kernel), List.mem_of_getElem? (i := 998) (by decide +kernel), List.mem_of_getElem? (i := 999) (by decide +kernel)⟩
theorem lw_p59 : lw_okq (⟨"FrameForgeModel", "machine", "(I)V"⟩, 52) := ⟨⟨by decide +kernel, by decide +kernel⟩, List.mem_of_getElem? (i := 712) (by decide +kernel), List.mem_of_getElem? (i := 1002) (by decide +kernel), List.mem_of_getElem? (i := 1003) (by decide +kernel)⟩
theorem lw_p60 : lw_okq (⟨"FrameForgeModel", "make", "(I)I"⟩, 52) := ⟨⟨by decide +kernel, by decide +kernel⟩, List.mem_of_getElem? (i := 712) (by decide +kernel), List.mem_of_getElem? (i := 1006) (by decide +kernel), List.mem_of_getElem? (i := 1007) (by decide +kernel)⟩
theorem lw_p61 : lw_okq (⟨"FrameForgeModel", "raise", "(I)V"⟩, 52) := ⟨⟨by decide +kernel, by decide +kernel⟩, List.mem_of_getElem? (i := 712) (by decide +kernel), List.mem_of_getElem? (i := 1010) (by decide +kernel), List.mem_of_getElem? (i := 1011) (by decide +kernel)⟩
theorem lw_p62 : lw_okq (⟨"FrameForgeModel", "finish", "(I)I"⟩, 52) := ⟨⟨by decide +kernel, by decide +kernel⟩, List.mem_of_getElem? (i := 712) (by decide +kernel), List.mem_of_getElem? (i := 1017) (by decide +kernel), List.mem_of_getElem? (i := 1018) (by decide +kernel)⟩
theorem lw_p63 : lw_okq (⟨"FrameForgeModel", "give", "(I)V"⟩, 52) := ⟨⟨by decide +kernel, by decide +kernel⟩, List.mem_of_getElem? (i := 712) (by decide +kernel), List.mem_of_getElem? (i := 1021) (by decide +kernel), List.mem_of_getElem? (i := 1022) (by decide +kernel)⟩
def lw_privs_4 : List (MethodName × Nat) := [(⟨"FrameForgeModel", "take", "(I)V"⟩, 52), (⟨"FrameForgeModel", "move", "(I)V"⟩, 52), (⟨"FrameForgeModel", "goOn", "(II)V"⟩, 52), (⟨"FrameForgeModel", "refuse", "(II)V"⟩, 52), (⟨"FrameForgeModel", "allRight", "(I)Z"⟩, 52), (⟨"FrameForgeModel", "go", "(IIIII)I"⟩, 52), (⟨"FrameForgeModel", "begin", "(I)V"⟩, 52), (⟨"FrameForgeModel", "tell", "(II)V"⟩, 52), (⟨"FrameForgeModel", "step", "()V"⟩, 52), (⟨"FrameForgeModel", "pop", "()I"⟩, 52), (⟨"FrameForgeModel", "sum", "(III)V"⟩, 52), (⟨"FrameForgeModel", "machine", "(I)V"⟩, 52), (⟨"FrameForgeModel", "make", "(I)I"⟩, 52), (⟨"FrameForgeModel", "raise", "(I)V"⟩, 52), (⟨"FrameForgeModel", "finish", "(I)I"⟩, 52), (⟨"FrameForgeModel", "give", "(I)V"⟩, 52)]
theorem lw_r4 : ∀ q ∈ lw_privs_4, lw_okq q := List.forall_mem_cons.mpr ⟨lw_p48, List.forall_mem_cons.mpr ⟨lw_p49, List.forall_mem_cons.mpr ⟨lw_p50, List.forall_mem_cons.mpr ⟨lw_p51, List.forall_mem_cons.mpr ⟨lw_p52, List.forall_mem_cons.mpr ⟨lw_p53, List.forall_mem_cons.mpr ⟨lw_p54, List.forall_mem_cons.mpr ⟨lw_p55, List.forall_mem_cons.mpr ⟨lw_p56, List.forall_mem_cons.mpr ⟨lw_p57, List.forall_mem_cons.mpr ⟨lw_p58, List.forall_mem_cons.mpr ⟨lw_p59, List.forall_mem_cons.mpr ⟨lw_p60, List.forall_mem_cons.mpr ⟨lw_p61, List.forall_mem_cons.mpr ⟨lw_p62, List.forall_mem_cons.mpr ⟨lw_p63, fun _ h => absurd h List.not_mem_nil⟩⟩⟩⟩⟩⟩⟩⟩⟩⟩⟩⟩⟩⟩⟩⟩
theorem lw_p64 : lw_okq (⟨"FrameForgeModel", "onObject", "(III)V"⟩, 52) := ⟨⟨by decide +kernel, by decide +kernel⟩, List.mem_of_getElem? (i := 712) (by decide +kernel), List.mem_of_getElem? (i := 1025) (by decide +kernel), List.mem_of_getElem? (i := 1026) (by decide +kernel)⟩
theorem lw_p65 : lw_okq (⟨"FrameForgeModel", "release", "(I)V"⟩, 52) := ⟨⟨by decide +kernel, by decide +kernel⟩, List.mem_of_getElem? (i := 712) (by decide +kernel), List.mem_of_getElem? (i := 1029) (by decide +kernel), List.mem_of_getElem? (i := 1030) (by decide +kernel)⟩
theorem lw_p66 : lw_okq (⟨"FrameForgeModel", "call", "(I)V"⟩, 52) := ⟨⟨by decide +kernel, by decide +kernel⟩, List.mem_of_getElem? (i := 712) (by decide +kernel), List.mem_of_getElem? (i := 1033) (by decide +kernel), List.mem_of_getElem? (i := 1034) (by decide +kernel)⟩
theorem lw_p67 : lw_okq (⟨"FrameForgeModel", "back", "(I)V"⟩, 52) := ⟨⟨by decide +kernel, by decide +kernel⟩, List.mem_of_getElem? (i := 712) (by decide +kernel), List.mem_of_getElem? (i := 1037) (by decide +kernel), List.mem_of_getElem? (i := 1038) (by decide +kernel)⟩
theorem lw_p68 : lw_okq (⟨"FrameForgeModel", "endOf", "(II)I"⟩, 52) := ⟨⟨by decide +kernel, by decide +kernel⟩, List.mem_of_getElem? (i := 712) (by decide +kernel), List.mem_of_getElem? (i := 1058) (by decide +kernel), List.mem_of_getElem? (i := 1059) (by decide +kernel)⟩
theorem lw_p69 : lw_okq (⟨"FrameForgeModel", "newRow", "(IIII)V"⟩, 52) := ⟨⟨by decide +kernel, by decide +kernel⟩, List.mem_of_getElem? (i := 712) (by decide +kernel), List.mem_of_getElem? (i := 1065) (by decide +kernel), List.mem_of_getElem? (i := 1066) (by decide +kernel)⟩
theorem lw_p70 : lw_okq (⟨"FrameForgeModel", "newInstruction", "(IIII)V"⟩, 52) := ⟨⟨by decide +kernel, by decide +kernel⟩, List.mem_of_getElem? (i := 712) (by decide +kernel), List.mem_of_getElem? (i := 1069) (by decide +kernel), List.mem_of_getElem? (i := 1070) (by decide +kernel)⟩
theorem lw_p71 : lw_okq (⟨"FrameForgeModel", "replace", "(III)I"⟩, 52) := ⟨⟨by decide +kernel, by decide +kernel⟩, List.mem_of_getElem? (i := 712) (by decide +kernel), List.mem_of_getElem? (i := 1073) (by decide +kernel), List.mem_of_getElem? (i := 1074) (by decide +kernel)⟩
theorem lw_p72 : lw_okq (⟨"FrameForgeModel", "greatest", "(IZ)I"⟩, 52) := ⟨⟨by decide +kernel, by decide +kernel⟩, List.mem_of_getElem? (i := 712) (by decide +kernel), List.mem_of_getElem? (i := 1081) (by decide +kernel), List.mem_of_getElem? (i := 1082) (by decide +kernel)⟩
theorem lw_p73 : lw_okq (⟨"FrameForgeModel", "mayInline", "(IIII)Z"⟩, 52) := ⟨⟨by decide +kernel, by decide +kernel⟩, List.mem_of_getElem? (i := 712) (by decide +kernel), List.mem_of_getElem? (i := 1085) (by decide +kernel), List.mem_of_getElem? (i := 1086) (by decide +kernel)⟩
def lw_privs_5 : List (MethodName × Nat) := [(⟨"FrameForgeModel", "onObject", "(III)V"⟩, 52), (⟨"FrameForgeModel", "release", "(I)V"⟩, 52), (⟨"FrameForgeModel", "call", "(I)V"⟩, 52), (⟨"FrameForgeModel", "back", "(I)V"⟩, 52), (⟨"FrameForgeModel", "endOf", "(II)I"⟩, 52), (⟨"FrameForgeModel", "newRow", "(IIII)V"⟩, 52), (⟨"FrameForgeModel", "newInstruction", "(IIII)V"⟩, 52), (⟨"FrameForgeModel", "replace", "(III)I"⟩, 52), (⟨"FrameForgeModel", "greatest", "(IZ)I"⟩, 52), (⟨"FrameForgeModel", "mayInline", "(IIII)Z"⟩, 52)]
theorem lw_r5 : ∀ q ∈ lw_privs_5, lw_okq q := List.forall_mem_cons.mpr ⟨lw_p64, List.forall_mem_cons.mpr ⟨lw_p65, List.forall_mem_cons.mpr ⟨lw_p66, List.forall_mem_cons.mpr ⟨lw_p67, List.forall_mem_cons.mpr ⟨lw_p68, List.forall_mem_cons.mpr ⟨lw_p69, List.forall_mem_cons.mpr ⟨lw_p70, List.forall_mem_cons.mpr ⟨lw_p71, List.forall_mem_cons.mpr ⟨lw_p72, List.forall_mem_cons.mpr ⟨lw_p73, fun _ h => absurd h List.not_mem_nil⟩⟩⟩⟩⟩⟩⟩⟩⟩⟩
def lw_privs : List (MethodName × Nat) := lw_privs_1 ++ (lw_privs_2 ++ (lw_privs_3 ++ (lw_privs_4 ++ (lw_privs_5))))
def lw_tbl : List Cond := k2_sels lw_privs ++ tables_1
theorem lw_privs_ok : ∀ q ∈ lw_privs, lw_okq q := by
  show ∀ q ∈ lw_privs_1 ++ (lw_privs_2 ++ (lw_privs_3 ++ (lw_privs_4 ++ (lw_privs_5)))), lw_okq q
  exact List.forall_mem_append.mpr ⟨lw_r1, List.forall_mem_append.mpr ⟨lw_r2, List.forall_mem_append.mpr ⟨lw_r3, List.forall_mem_append.mpr ⟨lw_r4, lw_r5⟩⟩⟩⟩

def am_R0 : String := "FrameForge"
def am_F0 : u_T := fun k => match k with
  | 0 => ("FrameForge", "programs", "[LFrameForge$Program;", true)
  | 1 => ("FrameForge", "checker", "LFrameForge$Checker;", true)
  | 2 => ("FrameForge", "machine", "LFrameForge$Machine;", true)
  | 3 => ("FrameForge", "rewriter", "LFrameForge$Rewriter;", true)
  | 4 => ("FrameForge", "latest", "LFrameForge$Ledger;", true)
  | 5 => ("FrameForge", "other", "LFrameForge$Ledger;", true)
  | _ => ("FrameForge", "written", "I", false)
def am_t0 : Nat → FieldType := fun k => match k with
  | 0 => .array (.object "FrameForge$Program")
  | 1 => .object "FrameForge$Checker"
  | 2 => .object "FrameForge$Machine"
  | 3 => .object "FrameForge$Rewriter"
  | 4 => .object "FrameForge$Ledger"
  | 5 => .object "FrameForge$Ledger"
  | _ => .int
def am_R1 : String := "FrameForge$Method"
def am_F1 : u_T := fun k => match k with
  | 0 => ("FrameForge$Method", "op", "[I", true)
  | 1 => ("FrameForge$Method", "a", "[I", true)
  | 2 => ("FrameForge$Method", "b", "[I", true)
  | 3 => ("FrameForge$Method", "from", "[I", true)
  | 4 => ("FrameForge$Method", "to", "[I", true)
  | 5 => ("FrameForge$Method", "at", "[I", true)
  | 6 => ("FrameForge$Method", "type", "[I", true)
  | 7 => ("FrameForge$Method", "size", "I", false)
  | 8 => ("FrameForge$Method", "rows", "I", false)
  | 9 => ("FrameForge$Method", "arguments", "I", false)
  | _ => ("FrameForge$Method", "locked", "Z", false)
def am_t1 : Nat → FieldType := fun k => match k with
  | 0 => .array .int
  | 1 => .array .int
  | 2 => .array .int
  | 3 => .array .int
  | 4 => .array .int
  | 5 => .array .int
  | 6 => .array .int
  | 7 => .int
  | 8 => .int
  | 9 => .int
  | _ => .boolean
def am_R2 : String := "FrameForge$Program"
def am_F2 : u_T := fun k => match k with
  | _ => ("FrameForge$Program", "methods", "[LFrameForge$Method;", true)
def am_t2 : Nat → FieldType := fun k => match k with
  | _ => .array (.object "FrameForge$Method")
def am_R3 : String := "FrameForge$Checker"
def am_F3 : u_T := fun k => match k with
  | 0 => ("FrameForge$Checker", "depths", "[I", true)
  | 1 => ("FrameForge$Checker", "places", "I", false)
  | 2 => ("FrameForge$Checker", "kinds", "[I", true)
  | 3 => ("FrameForge$Checker", "reached", "[Z", true)
  | 4 => ("FrameForge$Checker", "waiting", "[Z", true)
  | 5 => ("FrameForge$Checker", "now", "[I", true)
  | 6 => ("FrameForge$Checker", "caught", "[I", true)
  | 7 => ("FrameForge$Checker", "depth", "I", false)
  | 8 => ("FrameForge$Checker", "size", "I", false)
  | _ => ("FrameForge$Checker", "wrong", "Z", false)
def am_t3 : Nat → FieldType := fun k => match k with
  | 0 => .array .int
  | 1 => .int
  | 2 => .array .int
  | 3 => .array .boolean
  | 4 => .array .boolean
  | 5 => .array .int
  | 6 => .array .int
  | 7 => .int
  | 8 => .int
  | _ => .boolean
def am_R4 : String := "FrameForge$Ledger"
def am_F4 : u_T := fun k => match k with
  | 0 => ("FrameForge$Ledger", "kept", "[I", true)
  | 1 => ("FrameForge$Ledger", "ending", "I", false)
  | 2 => ("FrameForge$Ledger", "value", "I", false)
  | 3 => ("FrameForge$Ledger", "done", "I", false)
  | 4 => ("FrameForge$Ledger", "made", "I", false)
  | 5 => ("FrameForge$Ledger", "mostFrames", "I", false)
  | 6 => ("FrameForge$Ledger", "entries", "I", false)
  | _ => ("FrameForge$Ledger", "had", "I", false)
def am_t4 : Nat → FieldType := fun k => match k with
  | 0 => .array .int
  | 1 => .int
  | 2 => .int
  | 3 => .int
  | 4 => .int
  | 5 => .int
  | 6 => .int
  | _ => .int
def am_R5 : String := "FrameForge$Frame"
def am_F5 : u_T := fun k => match k with
  | 0 => ("FrameForge$Frame", "locals", "[I", true)
  | 1 => ("FrameForge$Frame", "stack", "[I", true)
  | 2 => ("FrameForge$Frame", "depth", "I", false)
  | 3 => ("FrameForge$Frame", "place", "I", false)
  | 4 => ("FrameForge$Frame", "next", "I", false)
  | 5 => ("FrameForge$Frame", "number", "I", false)
  | _ => ("FrameForge$Frame", "firstLock", "I", false)
def am_t5 : Nat → FieldType := fun k => match k with
  | 0 => .array .int
  | 1 => .array .int
  | 2 => .int
  | 3 => .int
  | 4 => .int
  | 5 => .int
  | _ => .int
def am_R6 : String := "FrameForge$Machine"
def am_F6 : u_T := fun k => match k with
  | 0 => ("FrameForge$Machine", "frames", "[LFrameForge$Frame;", true)
  | 1 => ("FrameForge$Machine", "types", "[I", true)
  | 2 => ("FrameForge$Machine", "items", "[I", true)
  | 3 => ("FrameForge$Machine", "locks", "[I", true)
  | 4 => ("FrameForge$Machine", "program", "LFrameForge$Program;", false)
  | 5 => ("FrameForge$Machine", "ledger", "LFrameForge$Ledger;", false)
  | 6 => ("FrameForge$Machine", "open", "I", false)
  | 7 => ("FrameForge$Machine", "held", "I", false)
  | _ => ("FrameForge$Machine", "thrown", "I", false)
def am_t6 : Nat → FieldType := fun k => match k with
  | 0 => .array (.object "FrameForge$Frame")
  | 1 => .array .int
  | 2 => .array .int
  | 3 => .array .int
  | 4 => .object "FrameForge$Program"
  | 5 => .object "FrameForge$Ledger"
  | 6 => .int
  | 7 => .int
  | _ => .int
def am_R7 : String := "FrameForge$Rewriter"
def am_F7 : u_T := fun k => match k with
  | 0 => ("FrameForge$Rewriter", "draft", "LFrameForge$Method;", true)
  | 1 => ("FrameForge$Rewriter", "gap", "I", false)
  | 2 => ("FrameForge$Rewriter", "more", "I", false)
  | _ => ("FrameForge$Rewriter", "full", "Z", false)
def am_t7 : Nat → FieldType := fun k => match k with
  | 0 => .object "FrameForge$Method"
  | 1 => .int
  | 2 => .int
  | _ => .boolean
def am_R8 : String := "FrameForgeModel"
def am_F8 : u_T := fun k => match k with
  | 0 => ("FrameForgeModel", "op", "[I", true)
  | 1 => ("FrameForgeModel", "one", "[I", true)
  | 2 => ("FrameForgeModel", "two", "[I", true)
  | 3 => ("FrameForgeModel", "many", "[I", true)
  | 4 => ("FrameForgeModel", "takes", "[I", true)
  | 5 => ("FrameForgeModel", "rows", "[I", true)
  | 6 => ("FrameForgeModel", "from", "[I", true)
  | 7 => ("FrameForgeModel", "to", "[I", true)
  | 8 => ("FrameForgeModel", "at", "[I", true)
  | 9 => ("FrameForgeModel", "type", "[I", true)
  | 10 => ("FrameForgeModel", "locked", "[Z", true)
  | 11 => ("FrameForgeModel", "written", "I", false)
  | 12 => ("FrameForgeModel", "come", "[Z", true)
  | 13 => ("FrameForgeModel", "deep", "[I", true)
  | 14 => ("FrameForgeModel", "sKind", "[I", true)
  | 15 => ("FrameForgeModel", "lKind", "[I", true)
  | 16 => ("FrameForgeModel", "kind", "[I", true)
  | 17 => ("FrameForgeModel", "local", "[I", true)
  | 18 => ("FrameForgeModel", "depth", "I", false)
  | 19 => ("FrameForgeModel", "checked", "I", false)
  | 20 => ("FrameForgeModel", "right", "Z", false)
  | 21 => ("FrameForgeModel", "changed", "Z", false)
  | 22 => ("FrameForgeModel", "seen", "[Z", true)
  | 23 => ("FrameForgeModel", "objectType", "[I", true)
  | 24 => ("FrameForgeModel", "item", "[I", true)
  | 25 => ("FrameForgeModel", "entered", "[I", true)
  | 26 => ("FrameForgeModel", "fMethod", "[I", true)
  | 27 => ("FrameForgeModel", "fPlace", "[I", true)
  | 28 => ("FrameForgeModel", "fDepth", "[I", true)
  | 29 => ("FrameForgeModel", "fBase", "[I", true)
  | 30 => ("FrameForgeModel", "value", "[I", true)
  | 31 => ("FrameForgeModel", "fLocal", "[I", true)
  | 32 => ("FrameForgeModel", "trace", "[I", true)
  | 33 => ("FrameForgeModel", "kept", "[I", true)
  | 34 => ("FrameForgeModel", "objects", "I", false)
  | 35 => ("FrameForgeModel", "holds", "I", false)
  | 36 => ("FrameForgeModel", "frames", "I", false)
  | 37 => ("FrameForgeModel", "most", "I", false)
  | 38 => ("FrameForgeModel", "done", "I", false)
  | 39 => ("FrameForgeModel", "told", "I", false)
  | 40 => ("FrameForgeModel", "had", "I", false)
  | 41 => ("FrameForgeModel", "result", "I", false)
  | 42 => ("FrameForgeModel", "ended", "I", false)
  | 43 => ("FrameForgeModel", "over", "Z", false)
  | 44 => ("FrameForgeModel", "newOp", "[I", true)
  | 45 => ("FrameForgeModel", "newOne", "[I", true)
  | 46 => ("FrameForgeModel", "newTwo", "[I", true)
  | 47 => ("FrameForgeModel", "newFrom", "[I", true)
  | 48 => ("FrameForgeModel", "newTo", "[I", true)
  | 49 => ("FrameForgeModel", "newAt", "[I", true)
  | 50 => ("FrameForgeModel", "newType", "[I", true)
  | _ => ("FrameForgeModel", "newRows", "I", false)
def am_t8 : Nat → FieldType := fun k => match k with
  | 0 => .array .int
  | 1 => .array .int
  | 2 => .array .int
  | 3 => .array .int
  | 4 => .array .int
  | 5 => .array .int
  | 6 => .array .int
  | 7 => .array .int
  | 8 => .array .int
  | 9 => .array .int
  | 10 => .array .boolean
  | 11 => .int
  | 12 => .array .boolean
  | 13 => .array .int
  | 14 => .array .int
  | 15 => .array .int
  | 16 => .array .int
  | 17 => .array .int
  | 18 => .int
  | 19 => .int
  | 20 => .boolean
  | 21 => .boolean
  | 22 => .array .boolean
  | 23 => .array .int
  | 24 => .array .int
  | 25 => .array .int
  | 26 => .array .int
  | 27 => .array .int
  | 28 => .array .int
  | 29 => .array .int
  | 30 => .array .int
  | 31 => .array .int
  | 32 => .array .int
  | 33 => .array .int
  | 34 => .int
  | 35 => .int
  | 36 => .int
  | 37 => .int
  | 38 => .int
  | 39 => .int
  | 40 => .int
  | 41 => .int
  | 42 => .int
  | 43 => .boolean
  | 44 => .array .int
  | 45 => .array .int
  | 46 => .array .int
  | 47 => .array .int
  | 48 => .array .int
  | 49 => .array .int
  | 50 => .array .int
  | _ => .int
abbrev am_cl : List vw_C := [(am_R0, am_F0, 7), (am_R1, am_F1, 11), (am_R2, am_F2, 1), (am_R3, am_F3, 10), (am_R4, am_F4, 8), (am_R5, am_F5, 7), (am_R6, am_F6, 9), (am_R7, am_F7, 4), (am_R8, am_F8, 52)]
def am_ft (ci : Nat) : Nat → FieldType := match ci with
  | 0 => am_t0
  | 1 => am_t1
  | 2 => am_t2
  | 3 => am_t3
  | 4 => am_t4
  | 5 => am_t5
  | 6 => am_t6
  | 7 => am_t7
  | _ => am_t8
def am_nrc : Nat := 3
def am_rc (t : Nat) : String := match t with
  | 0 => "FrameForge$Program"
  | 1 => "FrameForge$Method"
  | _ => "FrameForge$Frame"
def am_ms0 : List (MethodName × ByteArray × Nat × Option FieldType) := [
  (⟨"FrameForge", "<init>", "()V"⟩, prog_1_method_1_code, 2, .none),
  (⟨"FrameForge", "write", "(I)Z"⟩, prog_1_method_2_code, 2, .some (FieldType.boolean)),
  (⟨"FrameForge", "branch", "()I"⟩, prog_1_method_3_code, 1, .some (FieldType.int)),
  (⟨"FrameForge", "method", "(IIZ)Z"⟩, prog_1_method_4_code, 4, .some (FieldType.boolean)),
  (⟨"FrameForge", "add", "(IIII)I"⟩, prog_1_method_5_code, 6, .some (FieldType.int)),
  (⟨"FrameForge", "change", "(IIIII)Z"⟩, prog_1_method_6_code, 7, .some (FieldType.boolean)),
  (⟨"FrameForge", "row", "(IIIII)I"⟩, prog_1_method_7_code, 9, .some (FieldType.int)),
  (⟨"FrameForge", "check", "(I)I"⟩, prog_1_method_8_code, 2, .some (FieldType.int)),
  (⟨"FrameForge", "kindAt", "(III)I"⟩, prog_1_method_9_code, 6, .some (FieldType.int)),
  (⟨"FrameForge", "run", "(IIIIII)I"⟩, prog_1_method_10_code, 8, .some (FieldType.int)),
  (⟨"FrameForge", "ran", "(I)I"⟩, prog_1_method_11_code, 2, .some (FieldType.int)),
  (⟨"FrameForge", "trace", "(I)I"⟩, prog_1_method_12_code, 2, .some (FieldType.int)),
  (⟨"FrameForge", "compare", "(IIII)I"⟩, prog_1_method_13_code, 5, .some (FieldType.int)),
  (⟨"FrameForge", "unfold", "(II)I"⟩, prog_1_method_14_code, 3, .some (FieldType.int)),
  (⟨"FrameForge", "inline", "(II)I"⟩, prog_1_method_15_code, 9, .some (FieldType.int)),
  (⟨"FrameForge", "code", "(III)I"⟩, prog_1_method_16_code, 5, .some (FieldType.int)),
  (⟨"FrameForge", "table", "(III)I"⟩, prog_1_method_17_code, 5, .some (FieldType.int)),
  (⟨"FrameForge", "writtenMethod", "(I)LFrameForge$Method;"⟩, prog_1_method_18_code, 2, .some ((FieldType.object "FrameForge$Method"))),
  (⟨"FrameForge", "allSound", "(LFrameForge$Program;I)Z"⟩, prog_1_method_19_code, 5, .some (FieldType.boolean)),
  (⟨"FrameForge", "isBelow", "(II)Z"⟩, prog_1_method_20_code, 2, .some (FieldType.boolean)),
  (⟨"FrameForge", "hasBit", "(II)Z"⟩, prog_1_method_21_code, 2, .some (FieldType.boolean)),
  (⟨"FrameForge", "isInstruction", "(III)Z"⟩, prog_1_method_22_code, 3, .some (FieldType.boolean)),
  (⟨"FrameForge", "isOperand", "(II)Z"⟩, prog_1_method_23_code, 2, .some (FieldType.boolean)),
  (⟨"FrameForge", "isJump", "(I)Z"⟩, prog_1_method_24_code, 1, .some (FieldType.boolean)),
  (⟨"FrameForgeModel", "<init>", "()V"⟩, prog_10_method_1_code, 1, .none),
  (⟨"FrameForgeModel", "in", "(III)Z"⟩, prog_10_method_2_code, 3, .some (FieldType.boolean)),
  (⟨"FrameForgeModel", "own", "(I)I"⟩, prog_10_method_3_code, 2, .some (FieldType.int)),
  (⟨"FrameForgeModel", "write", "(I)Z"⟩, prog_10_method_4_code, 2, .some (FieldType.boolean)),
  (⟨"FrameForgeModel", "branch", "()I"⟩, prog_10_method_5_code, 4, .some (FieldType.int)),
  (⟨"FrameForgeModel", "method", "(IIZ)Z"⟩, prog_10_method_6_code, 5, .some (FieldType.boolean)),
  (⟨"FrameForgeModel", "set", "(IIIII)V"⟩, prog_10_method_7_code, 6, .none),
  (⟨"FrameForgeModel", "setRow", "(IIIIII)V"⟩, prog_10_method_8_code, 7, .none),
  (⟨"FrameForgeModel", "isJump", "(I)Z"⟩, prog_10_method_9_code, 1, .some (FieldType.boolean)),
  (⟨"FrameForgeModel", "mostA", "(I)I"⟩, prog_10_method_10_code, 1, .some (FieldType.int)),
  (⟨"FrameForgeModel", "isGood", "(III)Z"⟩, prog_10_method_11_code, 4, .some (FieldType.boolean)),
  (⟨"FrameForgeModel", "put", "(IIIII)V"⟩, prog_10_method_12_code, 6, .none),
  (⟨"FrameForgeModel", "add", "(IIII)I"⟩, prog_10_method_13_code, 7, .some (FieldType.int)),
  (⟨"FrameForgeModel", "change", "(IIIII)Z"⟩, prog_10_method_14_code, 7, .some (FieldType.boolean)),
  (⟨"FrameForgeModel", "row", "(IIIII)I"⟩, prog_10_method_15_code, 7, .some (FieldType.int)),
  (⟨"FrameForgeModel", "push", "(I)V"⟩, prog_10_method_16_code, 2, .none)]
def am_ms1 : List (MethodName × ByteArray × Nat × Option FieldType) := [
  (⟨"FrameForgeModel", "take", "(I)V"⟩, prog_10_method_17_code, 2, .none),
  (⟨"FrameForgeModel", "fetch", "(I)V"⟩, prog_10_method_18_code, 3, .none),
  (⟨"FrameForgeModel", "arrive", "(II)V"⟩, prog_10_method_19_code, 5, .none),
  (⟨"FrameForgeModel", "move", "(I)V"⟩, prog_10_method_20_code, 4, .none),
  (⟨"FrameForgeModel", "leave", "(II)V"⟩, prog_10_method_21_code, 6, .none),
  (⟨"FrameForgeModel", "goOn", "(II)V"⟩, prog_10_method_22_code, 7, .none),
  (⟨"FrameForgeModel", "refuse", "(II)V"⟩, prog_10_method_23_code, 4, .none),
  (⟨"FrameForgeModel", "isRight", "(I)Z"⟩, prog_10_method_24_code, 3, .some (FieldType.boolean)),
  (⟨"FrameForgeModel", "check", "(I)I"⟩, prog_10_method_25_code, 5, .some (FieldType.int)),
  (⟨"FrameForgeModel", "kindAt", "(III)I"⟩, prog_10_method_26_code, 5, .some (FieldType.int)),
  (⟨"FrameForgeModel", "isUnder", "(II)Z"⟩, prog_10_method_27_code, 3, .some (FieldType.boolean)),
  (⟨"FrameForgeModel", "tell", "(II)V"⟩, prog_10_method_28_code, 3, .none),
  (⟨"FrameForgeModel", "make", "(I)I"⟩, prog_10_method_29_code, 2, .some (FieldType.int)),
  (⟨"FrameForgeModel", "begin", "(I)V"⟩, prog_10_method_30_code, 2, .none),
  (⟨"FrameForgeModel", "finish", "(I)I"⟩, prog_10_method_31_code, 5, .some (FieldType.int)),
  (⟨"FrameForgeModel", "raise", "(I)V"⟩, prog_10_method_32_code, 8, .none),
  (⟨"FrameForgeModel", "machine", "(I)V"⟩, prog_10_method_33_code, 3, .none),
  (⟨"FrameForgeModel", "pop", "()I"⟩, prog_10_method_34_code, 2, .some (FieldType.int)),
  (⟨"FrameForgeModel", "give", "(I)V"⟩, prog_10_method_35_code, 3, .none),
  (⟨"FrameForgeModel", "call", "(I)V"⟩, prog_10_method_36_code, 5, .none),
  (⟨"FrameForgeModel", "back", "(I)V"⟩, prog_10_method_37_code, 3, .none),
  (⟨"FrameForgeModel", "release", "(I)V"⟩, prog_10_method_38_code, 4, .none),
  (⟨"FrameForgeModel", "sum", "(III)V"⟩, prog_10_method_39_code, 4, .none),
  (⟨"FrameForgeModel", "onObject", "(III)V"⟩, prog_10_method_40_code, 4, .none),
  (⟨"FrameForgeModel", "step", "()V"⟩, prog_10_method_41_code, 14, .none),
  (⟨"FrameForgeModel", "allRight", "(I)Z"⟩, prog_10_method_42_code, 6, .some (FieldType.boolean)),
  (⟨"FrameForgeModel", "go", "(IIIII)I"⟩, prog_10_method_43_code, 6, .some (FieldType.int)),
  (⟨"FrameForgeModel", "run", "(IIIIII)I"⟩, prog_10_method_44_code, 8, .some (FieldType.int)),
  (⟨"FrameForgeModel", "ran", "(I)I"⟩, prog_10_method_45_code, 2, .some (FieldType.int)),
  (⟨"FrameForgeModel", "trace", "(I)I"⟩, prog_10_method_46_code, 2, .some (FieldType.int)),
  (⟨"FrameForgeModel", "compare", "(IIII)I"⟩, prog_10_method_47_code, 11, .some (FieldType.int)),
  (⟨"FrameForgeModel", "shifted", "(III)I"⟩, prog_10_method_48_code, 3, .some (FieldType.int)),
  (⟨"FrameForgeModel", "newRow", "(IIII)V"⟩, prog_10_method_49_code, 5, .none),
  (⟨"FrameForgeModel", "replace", "(III)I"⟩, prog_10_method_50_code, 9, .some (FieldType.int)),
  (⟨"FrameForgeModel", "newInstruction", "(IIII)V"⟩, prog_10_method_51_code, 5, .none),
  (⟨"FrameForgeModel", "endOf", "(II)I"⟩, prog_10_method_52_code, 10, .some (FieldType.int)),
  (⟨"FrameForgeModel", "unfold", "(II)I"⟩, prog_10_method_53_code, 17, .some (FieldType.int)),
  (⟨"FrameForgeModel", "greatest", "(IZ)I"⟩, prog_10_method_54_code, 7, .some (FieldType.int)),
  (⟨"FrameForgeModel", "mayInline", "(IIII)Z"⟩, prog_10_method_55_code, 8, .some (FieldType.boolean)),
  (⟨"FrameForgeModel", "inline", "(II)I"⟩, prog_10_method_56_code, 14, .some (FieldType.int))]
def am_ms2 : List (MethodName × ByteArray × Nat × Option FieldType) := [
  (⟨"FrameForgeModel", "code", "(III)I"⟩, prog_10_method_57_code, 5, .some (FieldType.int)),
  (⟨"FrameForgeModel", "table", "(III)I"⟩, prog_10_method_58_code, 6, .some (FieldType.int)),
  (⟨"FrameForge$Checker", "<init>", "()V"⟩, prog_2_method_1_code, 1, .none),
  (⟨"FrameForge$Checker", "follow", "(LFrameForge$Program;I)Z"⟩, prog_2_method_2_code, 7, .some (FieldType.boolean)),
  (⟨"FrameForge$Checker", "comesTo", "(I)Z"⟩, prog_2_method_3_code, 2, .some (FieldType.boolean)),
  (⟨"FrameForge$Checker", "stackKind", "(II)I"⟩, prog_2_method_4_code, 3, .some (FieldType.int)),
  (⟨"FrameForge$Checker", "localKind", "(II)I"⟩, prog_2_method_5_code, 3, .some (FieldType.int)),
  (⟨"FrameForge$Checker", "returnsAlone", "(LFrameForge$Method;)Z"⟩, prog_2_method_6_code, 3, .some (FieldType.boolean)),
  (⟨"FrameForge$Checker", "begin", "(LFrameForge$Method;)V"⟩, prog_2_method_7_code, 3, .none),
  (⟨"FrameForge$Checker", "goOnFrom", "(LFrameForge$Program;LFrameForge$Method;I)V"⟩, prog_2_method_8_code, 5, .none),
  (⟨"FrameForge$Checker", "passArguments", "(I)V"⟩, prog_2_method_9_code, 3, .none),
  (⟨"FrameForge$Checker", "takeAndGive", "(LFrameForge$Method;I)V"⟩, prog_2_method_10_code, 6, .none),
  (⟨"FrameForge$Checker", "useLocal", "(II)V"⟩, prog_2_method_11_code, 4, .none),
  (⟨"FrameForge$Checker", "useObject", "(I)V"⟩, prog_2_method_12_code, 2, .none),
  (⟨"FrameForge$Checker", "give", "(I)V"⟩, prog_2_method_13_code, 2, .none),
  (⟨"FrameForge$Checker", "takeAny", "()I"⟩, prog_2_method_14_code, 1, .some (FieldType.int)),
  (⟨"FrameForge$Checker", "take", "(I)V"⟩, prog_2_method_15_code, 2, .none),
  (⟨"FrameForge$Checker", "leadOn", "(LFrameForge$Method;I)V"⟩, prog_2_method_16_code, 6, .none),
  (⟨"FrameForge$Checker", "comeTo", "(LFrameForge$Method;I[II)V"⟩, prog_2_method_17_code, 5, .none),
  (⟨"FrameForge$Checker", "meet", "(I[II)V"⟩, prog_2_method_18_code, 6, .none),
  (⟨"FrameForge$Checker", "followBacksAgain", "(LFrameForge$Method;)V"⟩, prog_2_method_19_code, 3, .none),
  (⟨"FrameForge$Frame", "<init>", "()V"⟩, prog_3_method_1_code, 1, .none),
  (⟨"FrameForge$Frame", "begin", "(II)V"⟩, prog_3_method_2_code, 3, .none),
  (⟨"FrameForge$Frame", "goOnWith", "(II)V"⟩, prog_3_method_3_code, 3, .none),
  (⟨"FrameForge$Frame", "push", "(I)V"⟩, prog_3_method_4_code, 2, .none),
  (⟨"FrameForge$Frame", "pop", "()I"⟩, prog_3_method_5_code, 1, .some (FieldType.int)),
  (⟨"FrameForge$Ledger", "<init>", "()V"⟩, prog_4_method_1_code, 1, .none),
  (⟨"FrameForge$Ledger", "clear", "()V"⟩, prog_4_method_2_code, 1, .none),
  (⟨"FrameForge$Ledger", "note", "(II)V"⟩, prog_4_method_3_code, 3, .none),
  (⟨"FrameForge$Ledger", "entriesKept", "()I"⟩, prog_4_method_4_code, 1, .some (FieldType.int)),
  (⟨"FrameForge$Ledger", "sameEntries", "(LFrameForge$Ledger;)Z"⟩, prog_4_method_5_code, 3, .some (FieldType.boolean)),
  (⟨"FrameForge$Machine", "<init>", "()V"⟩, prog_5_method_1_code, 2, .none),
  (⟨"FrameForge$Machine", "play", "(LFrameForge$Program;IIIIILFrameForge$Ledger;)V"⟩, prog_5_method_2_code, 10, .none),
  (⟨"FrameForge$Machine", "openFrame", "(I)LFrameForge$Frame;"⟩, prog_5_method_3_code, 3, .some ((FieldType.object "FrameForge$Frame"))),
  (⟨"FrameForge$Machine", "step", "(LFrameForge$Frame;)V"⟩, prog_5_method_4_code, 7, .none),
  (⟨"FrameForge$Machine", "useLocal", "(LFrameForge$Frame;III)V"⟩, prog_5_method_5_code, 5, .none),
  (⟨"FrameForge$Machine", "shuffle", "(LFrameForge$Frame;I)V"⟩, prog_5_method_6_code, 5, .none),
  (⟨"FrameForge$Machine", "reckon", "(LFrameForge$Frame;I)V"⟩, prog_5_method_7_code, 5, .none),
  (⟨"FrameForge$Machine", "turn", "(LFrameForge$Frame;III)V"⟩, prog_5_method_8_code, 6, .none),
  (⟨"FrameForge$Machine", "holds", "(II)Z"⟩, prog_5_method_9_code, 2, .some (FieldType.boolean))]
def am_ms3 : List (MethodName × ByteArray × Nat × Option FieldType) := [
  (⟨"FrameForge$Machine", "useObject", "(LFrameForge$Frame;I)V"⟩, prog_5_method_10_code, 6, .none),
  (⟨"FrameForge$Machine", "enterLock", "(I)V"⟩, prog_5_method_11_code, 2, .none),
  (⟨"FrameForge$Machine", "leaveLock", "(LFrameForge$Frame;I)Z"⟩, prog_5_method_12_code, 4, .some (FieldType.boolean)),
  (⟨"FrameForge$Machine", "make", "(I)I"⟩, prog_5_method_13_code, 2, .some (FieldType.int)),
  (⟨"FrameForge$Machine", "throwNew", "(I)V"⟩, prog_5_method_14_code, 2, .none),
  (⟨"FrameForge$Machine", "throwObject", "(I)V"⟩, prog_5_method_15_code, 2, .none),
  (⟨"FrameForge$Machine", "beginCall", "(LFrameForge$Frame;I)V"⟩, prog_5_method_16_code, 5, .none),
  (⟨"FrameForge$Machine", "giveBack", "(I)V"⟩, prog_5_method_17_code, 2, .none),
  (⟨"FrameForge$Machine", "closeFrame", "()V"⟩, prog_5_method_18_code, 2, .none),
  (⟨"FrameForge$Machine", "findRow", "()V"⟩, prog_5_method_19_code, 5, .none),
  (⟨"FrameForge$Method", "<init>", "()V"⟩, prog_6_method_1_code, 1, .none),
  (⟨"FrameForge$Method", "begin", "(IZ)V"⟩, prog_6_method_2_code, 3, .none),
  (⟨"FrameForge$Method", "become", "(LFrameForge$Method;)V"⟩, prog_6_method_3_code, 2, .none),
  (⟨"FrameForge$Method", "put", "(IIII)V"⟩, prog_6_method_4_code, 5, .none),
  (⟨"FrameForge$Method", "addRow", "(IIII)Z"⟩, prog_6_method_5_code, 5, .some (FieldType.boolean)),
  (⟨"FrameForge$Method", "hasAt", "(II)Z"⟩, prog_6_method_6_code, 3, .some (FieldType.boolean)),
  (⟨"FrameForge$Method", "rowCovers", "(II)Z"⟩, prog_6_method_7_code, 3, .some (FieldType.boolean)),
  (⟨"FrameForge$Method", "rowFor", "(II)I"⟩, prog_6_method_8_code, 4, .some (FieldType.int)),
  (⟨"FrameForge$Method", "rowPart", "(II)I"⟩, prog_6_method_9_code, 3, .some (FieldType.int)),
  (⟨"FrameForge$Method", "fact", "(I)I"⟩, prog_6_method_10_code, 2, .some (FieldType.int)),
  (⟨"FrameForge$Method", "calls", "()I"⟩, prog_6_method_11_code, 3, .some (FieldType.int)),
  (⟨"FrameForge$Method", "greatestLocal", "()I"⟩, prog_6_method_12_code, 3, .some (FieldType.int)),
  (⟨"FrameForge$Method", "hasLocksOrSubroutines", "()Z"⟩, prog_6_method_13_code, 2, .some (FieldType.boolean)),
  (⟨"FrameForge$Method", "plainEnd", "(I)I"⟩, prog_6_method_14_code, 5, .some (FieldType.int)),
  (⟨"FrameForge$Method", "keepsPlain", "(III)Z"⟩, prog_6_method_15_code, 5, .some (FieldType.boolean)),
  (⟨"FrameForge$Method", "leadsInto", "(III)Z"⟩, prog_6_method_16_code, 4, .some (FieldType.boolean)),
  (⟨"FrameForge$Program", "<init>", "()V"⟩, prog_7_method_1_code, 2, .none),
  (⟨"FrameForge$Program", "become", "(LFrameForge$Program;)V"⟩, prog_7_method_2_code, 3, .none),
  (⟨"FrameForge$Program", "instructions", "()I"⟩, prog_7_method_3_code, 3, .some (FieldType.int)),
  (⟨"FrameForge$Program", "calledFrom", "(I)I"⟩, prog_7_method_4_code, 6, .some (FieldType.int)),
  (⟨"FrameForge$Rewriter", "<init>", "()V"⟩, prog_8_method_1_code, 1, .none),
  (⟨"FrameForge$Rewriter", "writeOutSubroutine", "(LFrameForge$Method;I)I"⟩, prog_8_method_2_code, 9, .some (FieldType.int)),
  (⟨"FrameForge$Rewriter", "writeOutCall", "(LFrameForge$Method;ILFrameForge$Method;)I"⟩, prog_8_method_3_code, 9, .some (FieldType.int)),
  (⟨"FrameForge$Rewriter", "putCalled", "(LFrameForge$Method;III)V"⟩, prog_8_method_4_code, 9, .none),
  (⟨"FrameForge$Rewriter", "spread", "(LFrameForge$Method;II)V"⟩, prog_8_method_5_code, 7, .none),
  (⟨"FrameForge$Rewriter", "moved", "(I)I"⟩, prog_8_method_6_code, 2, .some (FieldType.int)),
  (⟨"FrameForge$Rewriter", "splitRow", "(LFrameForge$Method;III)V"⟩, prog_8_method_7_code, 10, .none),
  (⟨"FrameForge$Rewriter", "draftRow", "(IIII)V"⟩, prog_8_method_8_code, 5, .none),
  (⟨"FrameForge$Rewriter", "takeOver", "(LFrameForge$Method;)I"⟩, prog_8_method_9_code, 2, .some (FieldType.int)),
  (⟨"FrameForgeLaw", "law", "([I)Z"⟩, code, 4, .some (FieldType.boolean))]
def am_m (j : Nat) : MethodName × ByteArray × Nat × Option FieldType := match j / 40 with
  | 0 => (am_ms0[j % 40]?).getD (⟨"", "", ""⟩, ByteArray.empty, 0, .none)
  | 1 => (am_ms1[j % 40]?).getD (⟨"", "", ""⟩, ByteArray.empty, 0, .none)
  | 2 => (am_ms2[j % 40]?).getD (⟨"", "", ""⟩, ByteArray.empty, 0, .none)
  | _ => (am_ms3[j % 40]?).getD (⟨"", "", ""⟩, ByteArray.empty, 0, .none)
def am_y (j : Nat) : MethodName := (am_m j).1
def am_by (j : Nat) : ByteArray := (am_m j).2.1
def am_mx (j : Nat) : Nat := (am_m j).2.2.1
def am_ret (j : Nat) : Option FieldType := (am_m j).2.2.2
def am_own (j : Nat) : String := (am_y j).cls
abbrev jF_init : Nat := 0
abbrev jF_write : Nat := 1
abbrev jF_branch : Nat := 2
abbrev jF_method : Nat := 3
abbrev jF_add : Nat := 4
abbrev jF_change : Nat := 5
abbrev jF_row : Nat := 6
abbrev jF_check : Nat := 7
abbrev jF_kindAt : Nat := 8
abbrev jF_run : Nat := 9
abbrev jF_ran : Nat := 10
abbrev jF_trace : Nat := 11
abbrev jF_compare : Nat := 12
abbrev jF_unfold : Nat := 13
abbrev jF_inline : Nat := 14
abbrev jF_code : Nat := 15
abbrev jF_table : Nat := 16
abbrev jF_writtenMethod : Nat := 17
abbrev jF_allSound : Nat := 18
abbrev jF_isBelow : Nat := 19
abbrev jF_hasBit : Nat := 20
abbrev jF_isInstruction : Nat := 21
abbrev jF_isOperand : Nat := 22
abbrev jF_isJump : Nat := 23
abbrev jR_init : Nat := 24
abbrev jR_in : Nat := 25
abbrev jR_own : Nat := 26
abbrev jR_write : Nat := 27
abbrev jR_branch : Nat := 28
abbrev jR_method : Nat := 29
abbrev jR_set : Nat := 30
abbrev jR_setRow : Nat := 31
abbrev jR_isJump : Nat := 32
abbrev jR_mostA : Nat := 33
abbrev jR_isGood : Nat := 34
abbrev jR_put : Nat := 35
abbrev jR_add : Nat := 36
abbrev jR_change : Nat := 37
abbrev jR_row : Nat := 38
abbrev jR_push : Nat := 39
abbrev jR_take : Nat := 40
abbrev jR_fetch : Nat := 41
abbrev jR_arrive : Nat := 42
abbrev jR_move : Nat := 43
abbrev jR_leave : Nat := 44
abbrev jR_goOn : Nat := 45
abbrev jR_refuse : Nat := 46
abbrev jR_isRight : Nat := 47
abbrev jR_check : Nat := 48
abbrev jR_kindAt : Nat := 49
abbrev jR_isUnder : Nat := 50
abbrev jR_tell : Nat := 51
abbrev jR_make : Nat := 52
abbrev jR_begin : Nat := 53
abbrev jR_finish : Nat := 54
abbrev jR_raise : Nat := 55
abbrev jR_machine : Nat := 56
abbrev jR_pop : Nat := 57
abbrev jR_give : Nat := 58
abbrev jR_call : Nat := 59
abbrev jR_back : Nat := 60
abbrev jR_release : Nat := 61
abbrev jR_sum : Nat := 62
abbrev jR_onObject : Nat := 63
abbrev jR_step : Nat := 64
abbrev jR_allRight : Nat := 65
abbrev jR_go : Nat := 66
abbrev jR_run : Nat := 67
abbrev jR_ran : Nat := 68
abbrev jR_trace : Nat := 69
abbrev jR_compare : Nat := 70
abbrev jR_shifted : Nat := 71
abbrev jR_newRow : Nat := 72
abbrev jR_replace : Nat := 73
abbrev jR_newInstruction : Nat := 74
abbrev jR_endOf : Nat := 75
abbrev jR_unfold : Nat := 76
abbrev jR_greatest : Nat := 77
abbrev jR_mayInline : Nat := 78
abbrev jR_inline : Nat := 79
abbrev jR_code : Nat := 80
abbrev jR_table : Nat := 81
abbrev jC_init : Nat := 82
abbrev jC_follow : Nat := 83
abbrev jC_comesTo : Nat := 84
abbrev jC_stackKind : Nat := 85
abbrev jC_localKind : Nat := 86
abbrev jC_returnsAlone : Nat := 87
abbrev jC_begin : Nat := 88
abbrev jC_goOnFrom : Nat := 89
abbrev jC_passArguments : Nat := 90
abbrev jC_takeAndGive : Nat := 91
abbrev jC_useLocal : Nat := 92
abbrev jC_useObject : Nat := 93
abbrev jC_give : Nat := 94
abbrev jC_takeAny : Nat := 95
abbrev jC_take : Nat := 96
abbrev jC_leadOn : Nat := 97
abbrev jC_comeTo : Nat := 98
abbrev jC_meet : Nat := 99
abbrev jC_followBacksAgain : Nat := 100
abbrev jA_init : Nat := 101
abbrev jA_begin : Nat := 102
abbrev jA_goOnWith : Nat := 103
abbrev jA_push : Nat := 104
abbrev jA_pop : Nat := 105
abbrev jL_init : Nat := 106
abbrev jL_clear : Nat := 107
abbrev jL_note : Nat := 108
abbrev jL_entriesKept : Nat := 109
abbrev jL_sameEntries : Nat := 110
abbrev jM_init : Nat := 111
abbrev jM_play : Nat := 112
abbrev jM_openFrame : Nat := 113
abbrev jM_step : Nat := 114
abbrev jM_useLocal : Nat := 115
abbrev jM_shuffle : Nat := 116
abbrev jM_reckon : Nat := 117
abbrev jM_turn : Nat := 118
abbrev jM_holds : Nat := 119
abbrev jM_useObject : Nat := 120
abbrev jM_enterLock : Nat := 121
abbrev jM_leaveLock : Nat := 122
abbrev jM_make : Nat := 123
abbrev jM_throwNew : Nat := 124
abbrev jM_throwObject : Nat := 125
abbrev jM_beginCall : Nat := 126
abbrev jM_giveBack : Nat := 127
abbrev jM_closeFrame : Nat := 128
abbrev jM_findRow : Nat := 129
abbrev jE_init : Nat := 130
abbrev jE_begin : Nat := 131
abbrev jE_become : Nat := 132
abbrev jE_put : Nat := 133
abbrev jE_addRow : Nat := 134
abbrev jE_hasAt : Nat := 135
abbrev jE_rowCovers : Nat := 136
abbrev jE_rowFor : Nat := 137
abbrev jE_rowPart : Nat := 138
abbrev jE_fact : Nat := 139
abbrev jE_calls : Nat := 140
abbrev jE_greatestLocal : Nat := 141
abbrev jE_hasLocksOrSubroutines : Nat := 142
abbrev jE_plainEnd : Nat := 143
abbrev jE_keepsPlain : Nat := 144
abbrev jE_leadsInto : Nat := 145
abbrev jP_init : Nat := 146
abbrev jP_become : Nat := 147
abbrev jP_instructions : Nat := 148
abbrev jP_calledFrom : Nat := 149
abbrev jW_init : Nat := 150
abbrev jW_writeOutSubroutine : Nat := 151
abbrev jW_writeOutCall : Nat := 152
abbrev jW_putCalled : Nat := 153
abbrev jW_spread : Nat := 154
abbrev jW_moved : Nat := 155
abbrev jW_splitRow : Nat := 156
abbrev jW_draftRow : Nat := 157
abbrev jW_takeOver : Nat := 158
abbrev jY_law : Nat := 159
def am_ns : Nat := 3
def am_sC (_ : Nat) : String := "FrameForge"
def am_sn (k : Nat) : String := match k with
  | 0 => "MOST_A"
  | 1 => "MOST_B"
  | _ => "SELF_AND_ABOVE"
def am_s0 : List Int32 := [-1, 99, 7, 7, -1, -1, -1, -1, -1, -1, -1, -1, 2, -1, 7, -1, -1, -1, -1, -1, -1, 5, -1, -1, 7, -1, -1, 7]
def am_s1 : List Int32 := [-1, -1, -1, -1, -1, -1, -1, -1, -1, -1, -1, 59, 59, -1, -1, -1, -1, 59, -1, -1, -1, -1, -1, 59, -1, -1, -1, 99]
def am_s2 : List Int32 := [1, 3, 5, 9, 17, 35, 69, 163]
def am_sl (k : Nat) : List Int32 := match k with
  | 0 => am_s0
  | 1 => am_s1
  | _ => am_s2
def am_sN (k : Nat) : Nat := (am_sl k).length
def am_sf (k : Nat) : Nat → Int32 := fun j => (am_sl k).getD j 0
def am_T : List Cond := lw_tbl.filter goodWord
theorem am_T_good (w : Cond) (h : w ∈ am_T) : goodWord w = true := (List.mem_filter.mp h).2
theorem am_T_in (w : Cond) (h : w ∈ am_T) : w ∈ lw_tbl := (List.mem_filter.mp h).1
theorem wd_in {w : Cond} (i : Nat) (h : tables_1[i]? = some w) (hg : goodWord w = true) : w ∈ am_T := List.mem_filter.mpr ⟨List.mem_append_right _ (List.mem_of_getElem? h), hg⟩
theorem wd_ins {q : MethodName × Nat} (i : Nat) (h : lw_privs[i]? = some q) : Cond.selects q.1.cls q.1 q.1 ∈ am_T := List.mem_filter.mpr ⟨List.mem_append_left _ (List.mem_map.mpr ⟨q, List.mem_of_getElem? h, rfl⟩), rfl⟩
theorem wd_inr (ws : List Cond) (ps : List Nat) (hp : ws = ps.filterMap (fun i => tables_1[i]?)) (h : ws.all goodWord = true) : ∀ w ∈ ws, w ∈ am_T := fun w hw => by
  have h1 := List.all_eq_true.mp h w hw
  rw [hp] at hw
  obtain ⟨i, -, hi⟩ := List.mem_filterMap.mp hw
  exact wd_in i hi h1
def am_TF : List (String × Nat × String × String × String × String) := [("FrameForge$Method", 57, "FrameForge", "MOST_A", "[I", "FrameForge"), ("FrameForge$Method", 60, "FrameForge", "MOST_B", "[I", "FrameForge"), ("FrameForge$Method", 70, "FrameForge", "SELF_AND_ABOVE", "[I", "FrameForge")]
def am_TM : List (String × Nat × MethodName × String) := [("FrameForge$Program", 17, ⟨"FrameForge$Method", "<init>", "()V"⟩, "FrameForge"), ("FrameForge", 18, ⟨"FrameForge$Checker", "<init>", "()V"⟩, "FrameForge"), ("FrameForge$Machine", 27, ⟨"FrameForge$Frame", "<init>", "()V"⟩, "FrameForge"), ("FrameForge", 32, ⟨"FrameForge$Rewriter", "<init>", "()V"⟩, "FrameForge"), ("FrameForge$Rewriter", 11, ⟨"FrameForge$Method", "<init>", "()V"⟩, "FrameForge"), ("FrameForge", 39, ⟨"FrameForge$Ledger", "<init>", "()V"⟩, "FrameForge"), ("FrameForge$Checker", 53, ⟨"FrameForge", "isBelow", "(II)Z"⟩, "FrameForge"), ("FrameForge$Checker", 128, ⟨"FrameForge", "isJump", "(I)Z"⟩, "FrameForge"), ("FrameForge$Program", 26, ⟨"FrameForge", "hasBit", "(II)Z"⟩, "FrameForge"), ("FrameForge$Method", 73, ⟨"FrameForge", "hasBit", "(II)Z"⟩, "FrameForge"), ("FrameForge$Method", 63, ⟨"FrameForge", "isBelow", "(II)Z"⟩, "FrameForge"), ("FrameForge$Method", 92, ⟨"FrameForge", "isJump", "(I)Z"⟩, "FrameForge"), ("FrameForge$Rewriter", 41, ⟨"FrameForge", "isJump", "(I)Z"⟩, "FrameForge")]
