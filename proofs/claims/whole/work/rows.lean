section
-- ===== PART A: goes FIRST, ahead of the names: the tables' words, and 'selects' of the private methods out of them =====
/-- a private method of a class that the tables say can be made, by its rows of tables_1 -/
def lw_okq (q : MethodName × Nat) : Prop := (q.1.cls ≠ "java/lang/invoke/MethodHandle" ∧ q.1.cls ≠ "java/lang/invoke/VarHandle") ∧ Cond.instantiable q.1.cls q.2 ∈ tables_1 ∧ Cond.privateMethod q.1 ∈ tables_1 ∧ Cond.instanceMethod q.1 ∈ tables_1
theorem lw_p0 : lw_okq (⟨"FrameForge", "writtenMethod", "(I)LFrameForge$Method;"⟩, 7) := ⟨⟨by decide +kernel, by decide +kernel⟩, List.mem_of_getElem? (i := 13) (by decide +kernel), List.mem_of_getElem? (i := 339) (by decide +kernel), List.mem_of_getElem? (i := 340) (by decide +kernel)⟩
theorem lw_p1 : lw_okq (⟨"FrameForge$Checker", "begin", "(LFrameForge$Method;)V"⟩, 10) := ⟨⟨by decide +kernel, by decide +kernel⟩, List.mem_of_getElem? (i := 109) (by decide +kernel), List.mem_of_getElem? (i := 384) (by decide +kernel), List.mem_of_getElem? (i := 385) (by decide +kernel)⟩
theorem lw_p2 : lw_okq (⟨"FrameForge$Checker", "comeTo", "(LFrameForge$Method;I[II)V"⟩, 10) := ⟨⟨by decide +kernel, by decide +kernel⟩, List.mem_of_getElem? (i := 109) (by decide +kernel), List.mem_of_getElem? (i := 388) (by decide +kernel), List.mem_of_getElem? (i := 389) (by decide +kernel)⟩
theorem lw_p3 : lw_okq (⟨"FrameForge$Checker", "meet", "(I[II)V"⟩, 10) := ⟨⟨by decide +kernel, by decide +kernel⟩, List.mem_of_getElem? (i := 109) (by decide +kernel), List.mem_of_getElem? (i := 393) (by decide +kernel), List.mem_of_getElem? (i := 394) (by decide +kernel)⟩
theorem lw_p4 : lw_okq (⟨"FrameForge$Checker", "followBacksAgain", "(LFrameForge$Method;)V"⟩, 10) := ⟨⟨by decide +kernel, by decide +kernel⟩, List.mem_of_getElem? (i := 109) (by decide +kernel), List.mem_of_getElem? (i := 398) (by decide +kernel), List.mem_of_getElem? (i := 399) (by decide +kernel)⟩
theorem lw_p5 : lw_okq (⟨"FrameForge$Checker", "goOnFrom", "(LFrameForge$Program;LFrameForge$Method;I)V"⟩, 10) := ⟨⟨by decide +kernel, by decide +kernel⟩, List.mem_of_getElem? (i := 109) (by decide +kernel), List.mem_of_getElem? (i := 402) (by decide +kernel), List.mem_of_getElem? (i := 403) (by decide +kernel)⟩
theorem lw_p6 : lw_okq (⟨"FrameForge$Checker", "passArguments", "(I)V"⟩, 10) := ⟨⟨by decide +kernel, by decide +kernel⟩, List.mem_of_getElem? (i := 109) (by decide +kernel), List.mem_of_getElem? (i := 410) (by decide +kernel), List.mem_of_getElem? (i := 411) (by decide +kernel)⟩
theorem lw_p7 : lw_okq (⟨"FrameForge$Checker", "take", "(I)V"⟩, 10) := ⟨⟨by decide +kernel, by decide +kernel⟩, List.mem_of_getElem? (i := 109) (by decide +kernel), List.mem_of_getElem? (i := 414) (by decide +kernel), List.mem_of_getElem? (i := 415) (by decide +kernel)⟩
theorem lw_p8 : lw_okq (⟨"FrameForge$Checker", "takeAny", "()I"⟩, 10) := ⟨⟨by decide +kernel, by decide +kernel⟩, List.mem_of_getElem? (i := 109) (by decide +kernel), List.mem_of_getElem? (i := 418) (by decide +kernel), List.mem_of_getElem? (i := 419) (by decide +kernel)⟩
theorem lw_p9 : lw_okq (⟨"FrameForge$Checker", "give", "(I)V"⟩, 10) := ⟨⟨by decide +kernel, by decide +kernel⟩, List.mem_of_getElem? (i := 109) (by decide +kernel), List.mem_of_getElem? (i := 422) (by decide +kernel), List.mem_of_getElem? (i := 423) (by decide +kernel)⟩
theorem lw_p10 : lw_okq (⟨"FrameForge$Checker", "takeAndGive", "(LFrameForge$Method;I)V"⟩, 10) := ⟨⟨by decide +kernel, by decide +kernel⟩, List.mem_of_getElem? (i := 109) (by decide +kernel), List.mem_of_getElem? (i := 426) (by decide +kernel), List.mem_of_getElem? (i := 427) (by decide +kernel)⟩
theorem lw_p11 : lw_okq (⟨"FrameForge$Checker", "useLocal", "(II)V"⟩, 10) := ⟨⟨by decide +kernel, by decide +kernel⟩, List.mem_of_getElem? (i := 109) (by decide +kernel), List.mem_of_getElem? (i := 430) (by decide +kernel), List.mem_of_getElem? (i := 431) (by decide +kernel)⟩
theorem lw_p12 : lw_okq (⟨"FrameForge$Checker", "useObject", "(I)V"⟩, 10) := ⟨⟨by decide +kernel, by decide +kernel⟩, List.mem_of_getElem? (i := 109) (by decide +kernel), List.mem_of_getElem? (i := 434) (by decide +kernel), List.mem_of_getElem? (i := 435) (by decide +kernel)⟩
theorem lw_p13 : lw_okq (⟨"FrameForge$Checker", "leadOn", "(LFrameForge$Method;I)V"⟩, 10) := ⟨⟨by decide +kernel, by decide +kernel⟩, List.mem_of_getElem? (i := 109) (by decide +kernel), List.mem_of_getElem? (i := 438) (by decide +kernel), List.mem_of_getElem? (i := 439) (by decide +kernel)⟩
theorem lw_p14 : lw_okq (⟨"FrameForge", "allSound", "(LFrameForge$Program;I)Z"⟩, 7) := ⟨⟨by decide +kernel, by decide +kernel⟩, List.mem_of_getElem? (i := 13) (by decide +kernel), List.mem_of_getElem? (i := 465) (by decide +kernel), List.mem_of_getElem? (i := 466) (by decide +kernel)⟩
theorem lw_p15 : lw_okq (⟨"FrameForge$Machine", "openFrame", "(I)LFrameForge$Frame;"⟩, 9) := ⟨⟨by decide +kernel, by decide +kernel⟩, List.mem_of_getElem? (i := 149) (by decide +kernel), List.mem_of_getElem? (i := 489) (by decide +kernel), List.mem_of_getElem? (i := 490) (by decide +kernel)⟩
def lw_privs_1 : List (MethodName × Nat) := [(⟨"FrameForge", "writtenMethod", "(I)LFrameForge$Method;"⟩, 7), (⟨"FrameForge$Checker", "begin", "(LFrameForge$Method;)V"⟩, 10), (⟨"FrameForge$Checker", "comeTo", "(LFrameForge$Method;I[II)V"⟩, 10), (⟨"FrameForge$Checker", "meet", "(I[II)V"⟩, 10), (⟨"FrameForge$Checker", "followBacksAgain", "(LFrameForge$Method;)V"⟩, 10), (⟨"FrameForge$Checker", "goOnFrom", "(LFrameForge$Program;LFrameForge$Method;I)V"⟩, 10), (⟨"FrameForge$Checker", "passArguments", "(I)V"⟩, 10), (⟨"FrameForge$Checker", "take", "(I)V"⟩, 10), (⟨"FrameForge$Checker", "takeAny", "()I"⟩, 10), (⟨"FrameForge$Checker", "give", "(I)V"⟩, 10), (⟨"FrameForge$Checker", "takeAndGive", "(LFrameForge$Method;I)V"⟩, 10), (⟨"FrameForge$Checker", "useLocal", "(II)V"⟩, 10), (⟨"FrameForge$Checker", "useObject", "(I)V"⟩, 10), (⟨"FrameForge$Checker", "leadOn", "(LFrameForge$Method;I)V"⟩, 10), (⟨"FrameForge", "allSound", "(LFrameForge$Program;I)Z"⟩, 7), (⟨"FrameForge$Machine", "openFrame", "(I)LFrameForge$Frame;"⟩, 9)]
theorem lw_r1 : ∀ q ∈ lw_privs_1, lw_okq q := List.forall_mem_cons.mpr ⟨lw_p0, List.forall_mem_cons.mpr ⟨lw_p1, List.forall_mem_cons.mpr ⟨lw_p2, List.forall_mem_cons.mpr ⟨lw_p3, List.forall_mem_cons.mpr ⟨lw_p4, List.forall_mem_cons.mpr ⟨lw_p5, List.forall_mem_cons.mpr ⟨lw_p6, List.forall_mem_cons.mpr ⟨lw_p7, List.forall_mem_cons.mpr ⟨lw_p8, List.forall_mem_cons.mpr ⟨lw_p9, List.forall_mem_cons.mpr ⟨lw_p10, List.forall_mem_cons.mpr ⟨lw_p11, List.forall_mem_cons.mpr ⟨lw_p12, List.forall_mem_cons.mpr ⟨lw_p13, List.forall_mem_cons.mpr ⟨lw_p14, List.forall_mem_cons.mpr ⟨lw_p15, fun _ h => absurd h List.not_mem_nil⟩⟩⟩⟩⟩⟩⟩⟩⟩⟩⟩⟩⟩⟩⟩⟩
theorem lw_p16 : lw_okq (⟨"FrameForge$Machine", "step", "(LFrameForge$Frame;)V"⟩, 9) := ⟨⟨by decide +kernel, by decide +kernel⟩, List.mem_of_getElem? (i := 149) (by decide +kernel), List.mem_of_getElem? (i := 504) (by decide +kernel), List.mem_of_getElem? (i := 505) (by decide +kernel)⟩
theorem lw_p17 : lw_okq (⟨"FrameForge$Machine", "useLocal", "(LFrameForge$Frame;III)V"⟩, 9) := ⟨⟨by decide +kernel, by decide +kernel⟩, List.mem_of_getElem? (i := 149) (by decide +kernel), List.mem_of_getElem? (i := 512) (by decide +kernel), List.mem_of_getElem? (i := 513) (by decide +kernel)⟩
theorem lw_p18 : lw_okq (⟨"FrameForge$Machine", "make", "(I)I"⟩, 9) := ⟨⟨by decide +kernel, by decide +kernel⟩, List.mem_of_getElem? (i := 149) (by decide +kernel), List.mem_of_getElem? (i := 520) (by decide +kernel), List.mem_of_getElem? (i := 521) (by decide +kernel)⟩
theorem lw_p19 : lw_okq (⟨"FrameForge$Machine", "turn", "(LFrameForge$Frame;III)V"⟩, 9) := ⟨⟨by decide +kernel, by decide +kernel⟩, List.mem_of_getElem? (i := 149) (by decide +kernel), List.mem_of_getElem? (i := 524) (by decide +kernel), List.mem_of_getElem? (i := 525) (by decide +kernel)⟩
theorem lw_p20 : lw_okq (⟨"FrameForge$Machine", "beginCall", "(LFrameForge$Frame;I)V"⟩, 9) := ⟨⟨by decide +kernel, by decide +kernel⟩, List.mem_of_getElem? (i := 149) (by decide +kernel), List.mem_of_getElem? (i := 531) (by decide +kernel), List.mem_of_getElem? (i := 532) (by decide +kernel)⟩
theorem lw_p21 : lw_okq (⟨"FrameForge$Machine", "throwNew", "(I)V"⟩, 9) := ⟨⟨by decide +kernel, by decide +kernel⟩, List.mem_of_getElem? (i := 149) (by decide +kernel), List.mem_of_getElem? (i := 535) (by decide +kernel), List.mem_of_getElem? (i := 536) (by decide +kernel)⟩
theorem lw_p22 : lw_okq (⟨"FrameForge$Machine", "throwObject", "(I)V"⟩, 9) := ⟨⟨by decide +kernel, by decide +kernel⟩, List.mem_of_getElem? (i := 149) (by decide +kernel), List.mem_of_getElem? (i := 539) (by decide +kernel), List.mem_of_getElem? (i := 540) (by decide +kernel)⟩
theorem lw_p23 : lw_okq (⟨"FrameForge$Machine", "closeFrame", "()V"⟩, 9) := ⟨⟨by decide +kernel, by decide +kernel⟩, List.mem_of_getElem? (i := 149) (by decide +kernel), List.mem_of_getElem? (i := 543) (by decide +kernel), List.mem_of_getElem? (i := 544) (by decide +kernel)⟩
theorem lw_p24 : lw_okq (⟨"FrameForge$Machine", "giveBack", "(I)V"⟩, 9) := ⟨⟨by decide +kernel, by decide +kernel⟩, List.mem_of_getElem? (i := 149) (by decide +kernel), List.mem_of_getElem? (i := 547) (by decide +kernel), List.mem_of_getElem? (i := 548) (by decide +kernel)⟩
theorem lw_p25 : lw_okq (⟨"FrameForge$Machine", "reckon", "(LFrameForge$Frame;I)V"⟩, 9) := ⟨⟨by decide +kernel, by decide +kernel⟩, List.mem_of_getElem? (i := 149) (by decide +kernel), List.mem_of_getElem? (i := 552) (by decide +kernel), List.mem_of_getElem? (i := 553) (by decide +kernel)⟩
theorem lw_p26 : lw_okq (⟨"FrameForge$Machine", "shuffle", "(LFrameForge$Frame;I)V"⟩, 9) := ⟨⟨by decide +kernel, by decide +kernel⟩, List.mem_of_getElem? (i := 149) (by decide +kernel), List.mem_of_getElem? (i := 556) (by decide +kernel), List.mem_of_getElem? (i := 557) (by decide +kernel)⟩
theorem lw_p27 : lw_okq (⟨"FrameForge$Machine", "useObject", "(LFrameForge$Frame;I)V"⟩, 9) := ⟨⟨by decide +kernel, by decide +kernel⟩, List.mem_of_getElem? (i := 149) (by decide +kernel), List.mem_of_getElem? (i := 560) (by decide +kernel), List.mem_of_getElem? (i := 561) (by decide +kernel)⟩
theorem lw_p28 : lw_okq (⟨"FrameForge$Machine", "enterLock", "(I)V"⟩, 9) := ⟨⟨by decide +kernel, by decide +kernel⟩, List.mem_of_getElem? (i := 149) (by decide +kernel), List.mem_of_getElem? (i := 564) (by decide +kernel), List.mem_of_getElem? (i := 565) (by decide +kernel)⟩
theorem lw_p29 : lw_okq (⟨"FrameForge$Machine", "leaveLock", "(LFrameForge$Frame;I)Z"⟩, 9) := ⟨⟨by decide +kernel, by decide +kernel⟩, List.mem_of_getElem? (i := 149) (by decide +kernel), List.mem_of_getElem? (i := 568) (by decide +kernel), List.mem_of_getElem? (i := 569) (by decide +kernel)⟩
theorem lw_p30 : lw_okq (⟨"FrameForge$Machine", "findRow", "()V"⟩, 9) := ⟨⟨by decide +kernel, by decide +kernel⟩, List.mem_of_getElem? (i := 149) (by decide +kernel), List.mem_of_getElem? (i := 573) (by decide +kernel), List.mem_of_getElem? (i := 574) (by decide +kernel)⟩
theorem lw_p31 : lw_okq (⟨"FrameForge$Method", "keepsPlain", "(III)Z"⟩, 11) := ⟨⟨by decide +kernel, by decide +kernel⟩, List.mem_of_getElem? (i := 29) (by decide +kernel), List.mem_of_getElem? (i := 632) (by decide +kernel), List.mem_of_getElem? (i := 633) (by decide +kernel)⟩
def lw_privs_2 : List (MethodName × Nat) := [(⟨"FrameForge$Machine", "step", "(LFrameForge$Frame;)V"⟩, 9), (⟨"FrameForge$Machine", "useLocal", "(LFrameForge$Frame;III)V"⟩, 9), (⟨"FrameForge$Machine", "make", "(I)I"⟩, 9), (⟨"FrameForge$Machine", "turn", "(LFrameForge$Frame;III)V"⟩, 9), (⟨"FrameForge$Machine", "beginCall", "(LFrameForge$Frame;I)V"⟩, 9), (⟨"FrameForge$Machine", "throwNew", "(I)V"⟩, 9), (⟨"FrameForge$Machine", "throwObject", "(I)V"⟩, 9), (⟨"FrameForge$Machine", "closeFrame", "()V"⟩, 9), (⟨"FrameForge$Machine", "giveBack", "(I)V"⟩, 9), (⟨"FrameForge$Machine", "reckon", "(LFrameForge$Frame;I)V"⟩, 9), (⟨"FrameForge$Machine", "shuffle", "(LFrameForge$Frame;I)V"⟩, 9), (⟨"FrameForge$Machine", "useObject", "(LFrameForge$Frame;I)V"⟩, 9), (⟨"FrameForge$Machine", "enterLock", "(I)V"⟩, 9), (⟨"FrameForge$Machine", "leaveLock", "(LFrameForge$Frame;I)Z"⟩, 9), (⟨"FrameForge$Machine", "findRow", "()V"⟩, 9), (⟨"FrameForge$Method", "keepsPlain", "(III)Z"⟩, 11)]
theorem lw_r2 : ∀ q ∈ lw_privs_2, lw_okq q := List.forall_mem_cons.mpr ⟨lw_p16, List.forall_mem_cons.mpr ⟨lw_p17, List.forall_mem_cons.mpr ⟨lw_p18, List.forall_mem_cons.mpr ⟨lw_p19, List.forall_mem_cons.mpr ⟨lw_p20, List.forall_mem_cons.mpr ⟨lw_p21, List.forall_mem_cons.mpr ⟨lw_p22, List.forall_mem_cons.mpr ⟨lw_p23, List.forall_mem_cons.mpr ⟨lw_p24, List.forall_mem_cons.mpr ⟨lw_p25, List.forall_mem_cons.mpr ⟨lw_p26, List.forall_mem_cons.mpr ⟨lw_p27, List.forall_mem_cons.mpr ⟨lw_p28, List.forall_mem_cons.mpr ⟨lw_p29, List.forall_mem_cons.mpr ⟨lw_p30, List.forall_mem_cons.mpr ⟨lw_p31, fun _ h => absurd h List.not_mem_nil⟩⟩⟩⟩⟩⟩⟩⟩⟩⟩⟩⟩⟩⟩⟩⟩
theorem lw_p32 : lw_okq (⟨"FrameForge$Method", "leadsInto", "(III)Z"⟩, 11) := ⟨⟨by decide +kernel, by decide +kernel⟩, List.mem_of_getElem? (i := 29) (by decide +kernel), List.mem_of_getElem? (i := 637) (by decide +kernel), List.mem_of_getElem? (i := 638) (by decide +kernel)⟩
theorem lw_p33 : lw_okq (⟨"FrameForge$Rewriter", "spread", "(LFrameForge$Method;II)V"⟩, 4) := ⟨⟨by decide +kernel, by decide +kernel⟩, List.mem_of_getElem? (i := 217) (by decide +kernel), List.mem_of_getElem? (i := 641) (by decide +kernel), List.mem_of_getElem? (i := 642) (by decide +kernel)⟩
theorem lw_p34 : lw_okq (⟨"FrameForge$Rewriter", "moved", "(I)I"⟩, 4) := ⟨⟨by decide +kernel, by decide +kernel⟩, List.mem_of_getElem? (i := 217) (by decide +kernel), List.mem_of_getElem? (i := 647) (by decide +kernel), List.mem_of_getElem? (i := 648) (by decide +kernel)⟩
theorem lw_p35 : lw_okq (⟨"FrameForge$Rewriter", "splitRow", "(LFrameForge$Method;III)V"⟩, 4) := ⟨⟨by decide +kernel, by decide +kernel⟩, List.mem_of_getElem? (i := 217) (by decide +kernel), List.mem_of_getElem? (i := 652) (by decide +kernel), List.mem_of_getElem? (i := 653) (by decide +kernel)⟩
theorem lw_p36 : lw_okq (⟨"FrameForge$Rewriter", "draftRow", "(IIII)V"⟩, 4) := ⟨⟨by decide +kernel, by decide +kernel⟩, List.mem_of_getElem? (i := 217) (by decide +kernel), List.mem_of_getElem? (i := 657) (by decide +kernel), List.mem_of_getElem? (i := 658) (by decide +kernel)⟩
theorem lw_p37 : lw_okq (⟨"FrameForge$Rewriter", "takeOver", "(LFrameForge$Method;)I"⟩, 4) := ⟨⟨by decide +kernel, by decide +kernel⟩, List.mem_of_getElem? (i := 217) (by decide +kernel), List.mem_of_getElem? (i := 663) (by decide +kernel), List.mem_of_getElem? (i := 664) (by decide +kernel)⟩
theorem lw_p38 : lw_okq (⟨"FrameForge$Rewriter", "putCalled", "(LFrameForge$Method;III)V"⟩, 4) := ⟨⟨by decide +kernel, by decide +kernel⟩, List.mem_of_getElem? (i := 217) (by decide +kernel), List.mem_of_getElem? (i := 692) (by decide +kernel), List.mem_of_getElem? (i := 693) (by decide +kernel)⟩
theorem lw_p39 : lw_okq (⟨"FrameForgeModel", "set", "(IIIII)V"⟩, 52) := ⟨⟨by decide +kernel, by decide +kernel⟩, List.mem_of_getElem? (i := 712) (by decide +kernel), List.mem_of_getElem? (i := 885) (by decide +kernel), List.mem_of_getElem? (i := 886) (by decide +kernel)⟩
theorem lw_p40 : lw_okq (⟨"FrameForgeModel", "setRow", "(IIIIII)V"⟩, 52) := ⟨⟨by decide +kernel, by decide +kernel⟩, List.mem_of_getElem? (i := 712) (by decide +kernel), List.mem_of_getElem? (i := 889) (by decide +kernel), List.mem_of_getElem? (i := 890) (by decide +kernel)⟩
theorem lw_p41 : lw_okq (⟨"FrameForgeModel", "own", "(I)I"⟩, 52) := ⟨⟨by decide +kernel, by decide +kernel⟩, List.mem_of_getElem? (i := 712) (by decide +kernel), List.mem_of_getElem? (i := 897) (by decide +kernel), List.mem_of_getElem? (i := 898) (by decide +kernel)⟩
theorem lw_p42 : lw_okq (⟨"FrameForgeModel", "put", "(IIIII)V"⟩, 52) := ⟨⟨by decide +kernel, by decide +kernel⟩, List.mem_of_getElem? (i := 712) (by decide +kernel), List.mem_of_getElem? (i := 914) (by decide +kernel), List.mem_of_getElem? (i := 915) (by decide +kernel)⟩
theorem lw_p43 : lw_okq (⟨"FrameForgeModel", "isRight", "(I)Z"⟩, 52) := ⟨⟨by decide +kernel, by decide +kernel⟩, List.mem_of_getElem? (i := 712) (by decide +kernel), List.mem_of_getElem? (i := 930) (by decide +kernel), List.mem_of_getElem? (i := 931) (by decide +kernel)⟩
theorem lw_p44 : lw_okq (⟨"FrameForgeModel", "arrive", "(II)V"⟩, 52) := ⟨⟨by decide +kernel, by decide +kernel⟩, List.mem_of_getElem? (i := 712) (by decide +kernel), List.mem_of_getElem? (i := 934) (by decide +kernel), List.mem_of_getElem? (i := 935) (by decide +kernel)⟩
theorem lw_p45 : lw_okq (⟨"FrameForgeModel", "fetch", "(I)V"⟩, 52) := ⟨⟨by decide +kernel, by decide +kernel⟩, List.mem_of_getElem? (i := 712) (by decide +kernel), List.mem_of_getElem? (i := 938) (by decide +kernel), List.mem_of_getElem? (i := 939) (by decide +kernel)⟩
theorem lw_p46 : lw_okq (⟨"FrameForgeModel", "leave", "(II)V"⟩, 52) := ⟨⟨by decide +kernel, by decide +kernel⟩, List.mem_of_getElem? (i := 712) (by decide +kernel), List.mem_of_getElem? (i := 942) (by decide +kernel), List.mem_of_getElem? (i := 943) (by decide +kernel)⟩
theorem lw_p47 : lw_okq (⟨"FrameForgeModel", "push", "(I)V"⟩, 52) := ⟨⟨by decide +kernel, by decide +kernel⟩, List.mem_of_getElem? (i := 712) (by decide +kernel), List.mem_of_getElem? (i := 946) (by decide +kernel), List.mem_of_getElem? (i := 947) (by decide +kernel)⟩
def lw_privs_3 : List (MethodName × Nat) := [(⟨"FrameForge$Method", "leadsInto", "(III)Z"⟩, 11), (⟨"FrameForge$Rewriter", "spread", "(LFrameForge$Method;II)V"⟩, 4), (⟨"FrameForge$Rewriter", "moved", "(I)I"⟩, 4), (⟨"FrameForge$Rewriter", "splitRow", "(LFrameForge$Method;III)V"⟩, 4), (⟨"FrameForge$Rewriter", "draftRow", "(IIII)V"⟩, 4), (⟨"FrameForge$Rewriter", "takeOver", "(LFrameForge$Method;)I"⟩, 4), (⟨"FrameForge$Rewriter", "putCalled", "(LFrameForge$Method;III)V"⟩, 4), (⟨"FrameForgeModel", "set", "(IIIII)V"⟩, 52), (⟨"FrameForgeModel", "setRow", "(IIIIII)V"⟩, 52), (⟨"FrameForgeModel", "own", "(I)I"⟩, 52), (⟨"FrameForgeModel", "put", "(IIIII)V"⟩, 52), (⟨"FrameForgeModel", "isRight", "(I)Z"⟩, 52), (⟨"FrameForgeModel", "arrive", "(II)V"⟩, 52), (⟨"FrameForgeModel", "fetch", "(I)V"⟩, 52), (⟨"FrameForgeModel", "leave", "(II)V"⟩, 52), (⟨"FrameForgeModel", "push", "(I)V"⟩, 52)]
theorem lw_r3 : ∀ q ∈ lw_privs_3, lw_okq q := List.forall_mem_cons.mpr ⟨lw_p32, List.forall_mem_cons.mpr ⟨lw_p33, List.forall_mem_cons.mpr ⟨lw_p34, List.forall_mem_cons.mpr ⟨lw_p35, List.forall_mem_cons.mpr ⟨lw_p36, List.forall_mem_cons.mpr ⟨lw_p37, List.forall_mem_cons.mpr ⟨lw_p38, List.forall_mem_cons.mpr ⟨lw_p39, List.forall_mem_cons.mpr ⟨lw_p40, List.forall_mem_cons.mpr ⟨lw_p41, List.forall_mem_cons.mpr ⟨lw_p42, List.forall_mem_cons.mpr ⟨lw_p43, List.forall_mem_cons.mpr ⟨lw_p44, List.forall_mem_cons.mpr ⟨lw_p45, List.forall_mem_cons.mpr ⟨lw_p46, List.forall_mem_cons.mpr ⟨lw_p47, fun _ h => absurd h List.not_mem_nil⟩⟩⟩⟩⟩⟩⟩⟩⟩⟩⟩⟩⟩⟩⟩⟩
theorem lw_p48 : lw_okq (⟨"FrameForgeModel", "take", "(I)V"⟩, 52) := ⟨⟨by decide +kernel, by decide +kernel⟩, List.mem_of_getElem? (i := 712) (by decide +kernel), List.mem_of_getElem? (i := 950) (by decide +kernel), List.mem_of_getElem? (i := 951) (by decide +kernel)⟩
theorem lw_p49 : lw_okq (⟨"FrameForgeModel", "move", "(I)V"⟩, 52) := ⟨⟨by decide +kernel, by decide +kernel⟩, List.mem_of_getElem? (i := 712) (by decide +kernel), List.mem_of_getElem? (i := 954) (by decide +kernel), List.mem_of_getElem? (i := 955) (by decide +kernel)⟩
theorem lw_p50 : lw_okq (⟨"FrameForgeModel", "goOn", "(II)V"⟩, 52) := ⟨⟨by decide +kernel, by decide +kernel⟩, List.mem_of_getElem? (i := 712) (by decide +kernel), List.mem_of_getElem? (i := 958) (by decide +kernel), List.mem_of_getElem? (i := 959) (by decide +kernel)⟩
theorem lw_p51 : lw_okq (⟨"FrameForgeModel", "refuse", "(II)V"⟩, 52) := ⟨⟨by decide +kernel, by decide +kernel⟩, List.mem_of_getElem? (i := 712) (by decide +kernel), List.mem_of_getElem? (i := 962) (by decide +kernel), List.mem_of_getElem? (i := 963) (by decide +kernel)⟩
theorem lw_p52 : lw_okq (⟨"FrameForgeModel", "allRight", "(I)Z"⟩, 52) := ⟨⟨by decide +kernel, by decide +kernel⟩, List.mem_of_getElem? (i := 712) (by decide +kernel), List.mem_of_getElem? (i := 974) (by decide +kernel), List.mem_of_getElem? (i := 975) (by decide +kernel)⟩
theorem lw_p53 : lw_okq (⟨"FrameForgeModel", "go", "(IIIII)I"⟩, 52) := ⟨⟨by decide +kernel, by decide +kernel⟩, List.mem_of_getElem? (i := 712) (by decide +kernel), List.mem_of_getElem? (i := 978) (by decide +kernel), List.mem_of_getElem? (i := 979) (by decide +kernel)⟩
theorem lw_p54 : lw_okq (⟨"FrameForgeModel", "begin", "(I)V"⟩, 52) := ⟨⟨by decide +kernel, by decide +kernel⟩, List.mem_of_getElem? (i := 712) (by decide +kernel), List.mem_of_getElem? (i := 982) (by decide +kernel), List.mem_of_getElem? (i := 983) (by decide +kernel)⟩
theorem lw_p55 : lw_okq (⟨"FrameForgeModel", "tell", "(II)V"⟩, 52) := ⟨⟨by decide +kernel, by decide +kernel⟩, List.mem_of_getElem? (i := 712) (by decide +kernel), List.mem_of_getElem? (i := 986) (by decide +kernel), List.mem_of_getElem? (i := 987) (by decide +kernel)⟩
theorem lw_p56 : lw_okq (⟨"FrameForgeModel", "step", "()V"⟩, 52) := ⟨⟨by decide +kernel, by decide +kernel⟩, List.mem_of_getElem? (i := 712) (by decide +kernel), List.mem_of_getElem? (i := 990) (by decide +kernel), List.mem_of_getElem? (i := 991) (by decide +kernel)⟩
theorem lw_p57 : lw_okq (⟨"FrameForgeModel", "pop", "()I"⟩, 52) := ⟨⟨by decide +kernel, by decide +kernel⟩, List.mem_of_getElem? (i := 712) (by decide +kernel), List.mem_of_getElem? (i := 994) (by decide +kernel), List.mem_of_getElem? (i := 995) (by decide +kernel)⟩
theorem lw_p58 : lw_okq (⟨"FrameForgeModel", "sum", "(III)V"⟩, 52) := ⟨⟨by decide +kernel, by decide +kernel⟩, List.mem_of_getElem? (i := 712) (by decide +kernel), List.mem_of_getElem? (i := 998) (by decide +kernel), List.mem_of_getElem? (i := 999) (by decide +kernel)⟩
theorem lw_p59 : lw_okq (⟨"FrameForgeModel", "machine", "(I)V"⟩, 52) := ⟨⟨by decide +kernel, by decide +kernel⟩, List.mem_of_getElem? (i := 712) (by decide +kernel), List.mem_of_getElem? (i := 1002) (by decide +kernel), List.mem_of_getElem? (i := 1003) (by decide +kernel)⟩
theorem lw_p60 : lw_okq (⟨"FrameForgeModel", "make", "(I)I"⟩, 52) := ⟨⟨by decide +kernel, by decide +kernel⟩, List.mem_of_getElem? (i := 712) (by decide +kernel), List.mem_of_getElem? (i := 1006) (by decide +kernel), List.mem_of_getElem? (i := 1007) (by decide +kernel)⟩
theorem lw_p61 : lw_okq (⟨"FrameForgeModel", "raise", "(I)V"⟩, 52) := ⟨⟨by decide +kernel, by decide +kernel⟩, List.mem_of_getElem? (i := 712) (by decide +kernel), List.mem_of_getElem? (i := 1010) (by decide +kernel), List.mem_of_getElem? (i := 1011) (by decide +kernel)⟩
theorem lw_p62 : lw_okq (⟨"FrameForgeModel", "finish", "(I)I"⟩, 52) := ⟨⟨by decide +kernel, by decide +kernel⟩, List.mem_of_getElem? (i := 712) (by decide +kernel), List.mem_of_getElem? (i := 1017) (by decide +kernel), List.mem_of_getElem? (i := 1018) (by decide +kernel)⟩
theorem lw_p63 : lw_okq (⟨"FrameForgeModel", "give", "(I)V"⟩, 52) := ⟨⟨by decide +kernel, by decide +kernel⟩, List.mem_of_getElem? (i := 712) (by decide +kernel), List.mem_of_getElem? (i := 1021) (by decide +kernel), List.mem_of_getElem? (i := 1022) (by decide +kernel)⟩
def lw_privs_4 : List (MethodName × Nat) := [(⟨"FrameForgeModel", "take", "(I)V"⟩, 52), (⟨"FrameForgeModel", "move", "(I)V"⟩, 52), (⟨"FrameForgeModel", "goOn", "(II)V"⟩, 52), (⟨"FrameForgeModel", "refuse", "(II)V"⟩, 52), (⟨"FrameForgeModel", "allRight", "(I)Z"⟩, 52), (⟨"FrameForgeModel", "go", "(IIIII)I"⟩, 52), (⟨"FrameForgeModel", "begin", "(I)V"⟩, 52), (⟨"FrameForgeModel", "tell", "(II)V"⟩, 52), (⟨"FrameForgeModel", "step", "()V"⟩, 52), (⟨"FrameForgeModel", "pop", "()I"⟩, 52), (⟨"FrameForgeModel", "sum", "(III)V"⟩, 52), (⟨"FrameForgeModel", "machine", "(I)V"⟩, 52), (⟨"FrameForgeModel", "make", "(I)I"⟩, 52), (⟨"FrameForgeModel", "raise", "(I)V"⟩, 52), (⟨"FrameForgeModel", "finish", "(I)I"⟩, 52), (⟨"FrameForgeModel", "give", "(I)V"⟩, 52)]
theorem lw_r4 : ∀ q ∈ lw_privs_4, lw_okq q := List.forall_mem_cons.mpr ⟨lw_p48, List.forall_mem_cons.mpr ⟨lw_p49, List.forall_mem_cons.mpr ⟨lw_p50, List.forall_mem_cons.mpr ⟨lw_p51, List.forall_mem_cons.mpr ⟨lw_p52, List.forall_mem_cons.mpr ⟨lw_p53, List.forall_mem_cons.mpr ⟨lw_p54, List.forall_mem_cons.mpr ⟨lw_p55, List.forall_mem_cons.mpr ⟨lw_p56, List.forall_mem_cons.mpr ⟨lw_p57, List.forall_mem_cons.mpr ⟨lw_p58, List.forall_mem_cons.mpr ⟨lw_p59, List.forall_mem_cons.mpr ⟨lw_p60, List.forall_mem_cons.mpr ⟨lw_p61, List.forall_mem_cons.mpr ⟨lw_p62, List.forall_mem_cons.mpr ⟨lw_p63, fun _ h => absurd h List.not_mem_nil⟩⟩⟩⟩⟩⟩⟩⟩⟩⟩⟩⟩⟩⟩⟩⟩
theorem lw_p64 : lw_okq (⟨"FrameForgeModel", "onObject", "(III)V"⟩, 52) := ⟨⟨by decide +kernel, by decide +kernel⟩, List.mem_of_getElem? (i := 712) (by decide +kernel), List.mem_of_getElem? (i := 1025) (by decide +kernel), List.mem_of_getElem? (i := 1026) (by decide +kernel)⟩
theorem lw_p65 : lw_okq (⟨"FrameForgeModel", "release", "(I)V"⟩, 52) := ⟨⟨by decide +kernel, by decide +kernel⟩, List.mem_of_getElem? (i := 712) (by decide +kernel), List.mem_of_getElem? (i := 1029) (by decide +kernel), List.mem_of_getElem? (i := 1030) (by decide +kernel)⟩
theorem lw_p66 : lw_okq (⟨"FrameForgeModel", "call", "(I)V"⟩, 52) := ⟨⟨by decide +kernel, by decide +kernel⟩, List.mem_of_getElem? (i := 712) (by decide +kernel), List.mem_of_getElem? (i := 1033) (by decide +kernel), List.mem_of_getElem? (i := 1034) (by decide +kernel)⟩
theorem lw_p67 : lw_okq (⟨"FrameForgeModel", "back", "(I)V"⟩, 52) := ⟨⟨by decide +kernel, by decide +kernel⟩, List.mem_of_getElem? (i := 712) (by decide +kernel), List.mem_of_getElem? (i := 1037) (by decide +kernel), List.mem_of_getElem? (i := 1038) (by decide +kernel)⟩
theorem lw_p68 : lw_okq (⟨"FrameForgeModel", "endOf", "(II)I"⟩, 52) := ⟨⟨by decide +kernel, by decide +kernel⟩, List.mem_of_getElem? (i := 712) (by decide +kernel), List.mem_of_getElem? (i := 1058) (by decide +kernel), List.mem_of_getElem? (i := 1059) (by decide +kernel)⟩
theorem lw_p69 : lw_okq (⟨"FrameForgeModel", "newRow", "(IIII)V"⟩, 52) := ⟨⟨by decide +kernel, by decide +kernel⟩, List.mem_of_getElem? (i := 712) (by decide +kernel), List.mem_of_getElem? (i := 1065) (by decide +kernel), List.mem_of_getElem? (i := 1066) (by decide +kernel)⟩
theorem lw_p70 : lw_okq (⟨"FrameForgeModel", "newInstruction", "(IIII)V"⟩, 52) := ⟨⟨by decide +kernel, by decide +kernel⟩, List.mem_of_getElem? (i := 712) (by decide +kernel), List.mem_of_getElem? (i := 1069) (by decide +kernel), List.mem_of_getElem? (i := 1070) (by decide +kernel)⟩
theorem lw_p71 : lw_okq (⟨"FrameForgeModel", "replace", "(III)I"⟩, 52) := ⟨⟨by decide +kernel, by decide +kernel⟩, List.mem_of_getElem? (i := 712) (by decide +kernel), List.mem_of_getElem? (i := 1073) (by decide +kernel), List.mem_of_getElem? (i := 1074) (by decide +kernel)⟩
theorem lw_p72 : lw_okq (⟨"FrameForgeModel", "greatest", "(IZ)I"⟩, 52) := ⟨⟨by decide +kernel, by decide +kernel⟩, List.mem_of_getElem? (i := 712) (by decide +kernel), List.mem_of_getElem? (i := 1081) (by decide +kernel), List.mem_of_getElem? (i := 1082) (by decide +kernel)⟩
theorem lw_p73 : lw_okq (⟨"FrameForgeModel", "mayInline", "(IIII)Z"⟩, 52) := ⟨⟨by decide +kernel, by decide +kernel⟩, List.mem_of_getElem? (i := 712) (by decide +kernel), List.mem_of_getElem? (i := 1085) (by decide +kernel), List.mem_of_getElem? (i := 1086) (by decide +kernel)⟩
def lw_privs_5 : List (MethodName × Nat) := [(⟨"FrameForgeModel", "onObject", "(III)V"⟩, 52), (⟨"FrameForgeModel", "release", "(I)V"⟩, 52), (⟨"FrameForgeModel", "call", "(I)V"⟩, 52), (⟨"FrameForgeModel", "back", "(I)V"⟩, 52), (⟨"FrameForgeModel", "endOf", "(II)I"⟩, 52), (⟨"FrameForgeModel", "newRow", "(IIII)V"⟩, 52), (⟨"FrameForgeModel", "newInstruction", "(IIII)V"⟩, 52), (⟨"FrameForgeModel", "replace", "(III)I"⟩, 52), (⟨"FrameForgeModel", "greatest", "(IZ)I"⟩, 52), (⟨"FrameForgeModel", "mayInline", "(IIII)Z"⟩, 52)]
theorem lw_r5 : ∀ q ∈ lw_privs_5, lw_okq q := List.forall_mem_cons.mpr ⟨lw_p64, List.forall_mem_cons.mpr ⟨lw_p65, List.forall_mem_cons.mpr ⟨lw_p66, List.forall_mem_cons.mpr ⟨lw_p67, List.forall_mem_cons.mpr ⟨lw_p68, List.forall_mem_cons.mpr ⟨lw_p69, List.forall_mem_cons.mpr ⟨lw_p70, List.forall_mem_cons.mpr ⟨lw_p71, List.forall_mem_cons.mpr ⟨lw_p72, List.forall_mem_cons.mpr ⟨lw_p73, fun _ h => absurd h List.not_mem_nil⟩⟩⟩⟩⟩⟩⟩⟩⟩⟩
def lw_privs : List (MethodName × Nat) := lw_privs_1 ++ (lw_privs_2 ++ (lw_privs_3 ++ (lw_privs_4 ++ (lw_privs_5))))
def lw_tbl : List Cond := k2_sels lw_privs ++ tables_1
theorem lw_privs_ok : ∀ q ∈ lw_privs, lw_okq q := by
  show ∀ q ∈ lw_privs_1 ++ (lw_privs_2 ++ (lw_privs_3 ++ (lw_privs_4 ++ (lw_privs_5)))), lw_okq q
  exact List.forall_mem_append.mpr ⟨lw_r1, List.forall_mem_append.mpr ⟨lw_r2, List.forall_mem_append.mpr ⟨lw_r3, List.forall_mem_append.mpr ⟨lw_r4, lw_r5⟩⟩⟩⟩

def am_R0 : String := "FrameForge"
def am_F0 : u_T := fun k => match k with
  | 0 => ("FrameForge", "programs", "[LFrameForge$Program;", true)
  | 1 => ("FrameForge", "checker", "LFrameForge$Checker;", true)
  | 2 => ("FrameForge", "machine", "LFrameForge$Machine;", true)
  | 3 => ("FrameForge", "rewriter", "LFrameForge$Rewriter;", true)
  | 4 => ("FrameForge", "latest", "LFrameForge$Ledger;", true)
  | 5 => ("FrameForge", "other", "LFrameForge$Ledger;", true)
  | _ => ("FrameForge", "written", "I", false)
def am_t0 : Nat → FieldType := fun k => match k with
  | 0 => .array (.object "FrameForge$Program")
  | 1 => .object "FrameForge$Checker"
  | 2 => .object "FrameForge$Machine"
  | 3 => .object "FrameForge$Rewriter"
  | 4 => .object "FrameForge$Ledger"
  | 5 => .object "FrameForge$Ledger"
  | _ => .int
def am_R1 : String := "FrameForge$Method"
def am_F1 : u_T := fun k => match k with
  | 0 => ("FrameForge$Method", "op", "[I", true)
  | 1 => ("FrameForge$Method", "a", "[I", true)
  | 2 => ("FrameForge$Method", "b", "[I", true)
  | 3 => ("FrameForge$Method", "from", "[I", true)
  | 4 => ("FrameForge$Method", "to", "[I", true)
  | 5 => ("FrameForge$Method", "at", "[I", true)
  | 6 => ("FrameForge$Method", "type", "[I", true)
  | 7 => ("FrameForge$Method", "size", "I", false)
  | 8 => ("FrameForge$Method", "rows", "I", false)
  | 9 => ("FrameForge$Method", "arguments", "I", false)
  | _ => ("FrameForge$Method", "locked", "Z", false)
def am_t1 : Nat → FieldType := fun k => match k with
  | 0 => .array .int
  | 1 => .array .int
  | 2 => .array .int
  | 3 => .array .int
  | 4 => .array .int
  | 5 => .array .int
  | 6 => .array .int
  | 7 => .int
  | 8 => .int
  | 9 => .int
  | _ => .boolean
def am_R2 : String := "FrameForge$Program"
def am_F2 : u_T := fun k => match k with
  | _ => ("FrameForge$Program", "methods", "[LFrameForge$Method;", true)
def am_t2 : Nat → FieldType := fun k => match k with
  | _ => .array (.object "FrameForge$Method")
def am_R3 : String := "FrameForge$Checker"
def am_F3 : u_T := fun k => match k with
  | 0 => ("FrameForge$Checker", "depths", "[I", true)
  | 1 => ("FrameForge$Checker", "places", "I", false)
  | 2 => ("FrameForge$Checker", "kinds", "[I", true)
  | 3 => ("FrameForge$Checker", "reached", "[Z", true)
  | 4 => ("FrameForge$Checker", "waiting", "[Z", true)
  | 5 => ("FrameForge$Checker", "now", "[I", true)
  | 6 => ("FrameForge$Checker", "caught", "[I", true)
  | 7 => ("FrameForge$Checker", "depth", "I", false)
  | 8 => ("FrameForge$Checker", "size", "I", false)
  | _ => ("FrameForge$Checker", "wrong", "Z", false)
def am_t3 : Nat → FieldType := fun k => match k with
  | 0 => .array .int
  | 1 => .int
  | 2 => .array .int
  | 3 => .array .boolean
  | 4 => .array .boolean
  | 5 => .array .int
  | 6 => .array .int
  | 7 => .int
  | 8 => .int
  | _ => .boolean
def am_R4 : String := "FrameForge$Ledger"
def am_F4 : u_T := fun k => match k with
  | 0 => ("FrameForge$Ledger", "kept", "[I", true)
  | 1 => ("FrameForge$Ledger", "ending", "I", false)
  | 2 => ("FrameForge$Ledger", "value", "I", false)
  | 3 => ("FrameForge$Ledger", "done", "I", false)
  | 4 => ("FrameForge$Ledger", "made", "I", false)
  | 5 => ("FrameForge$Ledger", "mostFrames", "I", false)
  | 6 => ("FrameForge$Ledger", "entries", "I", false)
  | _ => ("FrameForge$Ledger", "had", "I", false)
def am_t4 : Nat → FieldType := fun k => match k with
  | 0 => .array .int
  | 1 => .int
  | 2 => .int
  | 3 => .int
  | 4 => .int
  | 5 => .int
  | 6 => .int
  | _ => .int
def am_R5 : String := "FrameForge$Frame"
def am_F5 : u_T := fun k => match k with
  | 0 => ("FrameForge$Frame", "locals", "[I", true)
  | 1 => ("FrameForge$Frame", "stack", "[I", true)
  | 2 => ("FrameForge$Frame", "depth", "I", false)
  | 3 => ("FrameForge$Frame", "place", "I", false)
  | 4 => ("FrameForge$Frame", "next", "I", false)
  | 5 => ("FrameForge$Frame", "number", "I", false)
  | _ => ("FrameForge$Frame", "firstLock", "I", false)
def am_t5 : Nat → FieldType := fun k => match k with
  | 0 => .array .int
  | 1 => .array .int
  | 2 => .int
  | 3 => .int
  | 4 => .int
  | 5 => .int
  | _ => .int
def am_R6 : String := "FrameForge$Machine"
def am_F6 : u_T := fun k => match k with
  | 0 => ("FrameForge$Machine", "frames", "[LFrameForge$Frame;", true)
  | 1 => ("FrameForge$Machine", "types", "[I", true)
  | 2 => ("FrameForge$Machine", "items", "[I", true)
  | 3 => ("FrameForge$Machine", "locks", "[I", true)
  | 4 => ("FrameForge$Machine", "program", "LFrameForge$Program;", false)
  | 5 => ("FrameForge$Machine", "ledger", "LFrameForge$Ledger;", false)
  | 6 => ("FrameForge$Machine", "open", "I", false)
  | 7 => ("FrameForge$Machine", "held", "I", false)
  | _ => ("FrameForge$Machine", "thrown", "I", false)
def am_t6 : Nat → FieldType := fun k => match k with
  | 0 => .array (.object "FrameForge$Frame")
  | 1 => .array .int
  | 2 => .array .int
  | 3 => .array .int
  | 4 => .object "FrameForge$Program"
  | 5 => .object "FrameForge$Ledger"
  | 6 => .int
  | 7 => .int
  | _ => .int
def am_R7 : String := "FrameForge$Rewriter"
def am_F7 : u_T := fun k => match k with
  | 0 => ("FrameForge$Rewriter", "draft", "LFrameForge$Method;", true)
  | 1 => ("FrameForge$Rewriter", "gap", "I", false)
  | 2 => ("FrameForge$Rewriter", "more", "I", false)
  | _ => ("FrameForge$Rewriter", "full", "Z", false)
def am_t7 : Nat → FieldType := fun k => match k with
  | 0 => .object "FrameForge$Method"
  | 1 => .int
  | 2 => .int
  | _ => .boolean
def am_R8 : String := "FrameForgeModel"
def am_F8 : u_T := fun k => match k with
  | 0 => ("FrameForgeModel", "op", "[I", true)
  | 1 => ("FrameForgeModel", "one", "[I", true)
  | 2 => ("FrameForgeModel", "two", "[I", true)
  | 3 => ("FrameForgeModel", "many", "[I", true)
  | 4 => ("FrameForgeModel", "takes", "[I", true)
  | 5 => ("FrameForgeModel", "rows", "[I", true)
  | 6 => ("FrameForgeModel", "from", "[I", true)
  | 7 => ("FrameForgeModel", "to", "[I", true)
  | 8 => ("FrameForgeModel", "at", "[I", true)
  | 9 => ("FrameForgeModel", "type", "[I", true)
  | 10 => ("FrameForgeModel", "locked", "[Z", true)
  | 11 => ("FrameForgeModel", "written", "I", false)
  | 12 => ("FrameForgeModel", "come", "[Z", true)
  | 13 => ("FrameForgeModel", "deep", "[I", true)
  | 14 => ("FrameForgeModel", "sKind", "[I", true)
  | 15 => ("FrameForgeModel", "lKind", "[I", true)
  | 16 => ("FrameForgeModel", "kind", "[I", true)
  | 17 => ("FrameForgeModel", "local", "[I", true)
  | 18 => ("FrameForgeModel", "depth", "I", false)
  | 19 => ("FrameForgeModel", "checked", "I", false)
  | 20 => ("FrameForgeModel", "right", "Z", false)
  | 21 => ("FrameForgeModel", "changed", "Z", false)
  | 22 => ("FrameForgeModel", "seen", "[Z", true)
  | 23 => ("FrameForgeModel", "objectType", "[I", true)
  | 24 => ("FrameForgeModel", "item", "[I", true)
  | 25 => ("FrameForgeModel", "entered", "[I", true)
  | 26 => ("FrameForgeModel", "fMethod", "[I", true)
  | 27 => ("FrameForgeModel", "fPlace", "[I", true)
  | 28 => ("FrameForgeModel", "fDepth", "[I", true)
  | 29 => ("FrameForgeModel", "fBase", "[I", true)
  | 30 => ("FrameForgeModel", "value", "[I", true)
  | 31 => ("FrameForgeModel", "fLocal", "[I", true)
  | 32 => ("FrameForgeModel", "trace", "[I", true)
  | 33 => ("FrameForgeModel", "kept", "[I", true)
  | 34 => ("FrameForgeModel", "objects", "I", false)
  | 35 => ("FrameForgeModel", "holds", "I", false)
  | 36 => ("FrameForgeModel", "frames", "I", false)
  | 37 => ("FrameForgeModel", "most", "I", false)
  | 38 => ("FrameForgeModel", "done", "I", false)
  | 39 => ("FrameForgeModel", "told", "I", false)
  | 40 => ("FrameForgeModel", "had", "I", false)
  | 41 => ("FrameForgeModel", "result", "I", false)
  | 42 => ("FrameForgeModel", "ended", "I", false)
  | 43 => ("FrameForgeModel", "over", "Z", false)
  | 44 => ("FrameForgeModel", "newOp", "[I", true)
  | 45 => ("FrameForgeModel", "newOne", "[I", true)
  | 46 => ("FrameForgeModel", "newTwo", "[I", true)
  | 47 => ("FrameForgeModel", "newFrom", "[I", true)
  | 48 => ("FrameForgeModel", "newTo", "[I", true)
  | 49 => ("FrameForgeModel", "newAt", "[I", true)
  | 50 => ("FrameForgeModel", "newType", "[I", true)
  | _ => ("FrameForgeModel", "newRows", "I", false)
def am_t8 : Nat → FieldType := fun k => match k with
  | 0 => .array .int
  | 1 => .array .int
  | 2 => .array .int
  | 3 => .array .int
  | 4 => .array .int
  | 5 => .array .int
  | 6 => .array .int
  | 7 => .array .int
  | 8 => .array .int
  | 9 => .array .int
  | 10 => .array .boolean
  | 11 => .int
  | 12 => .array .boolean
  | 13 => .array .int
  | 14 => .array .int
  | 15 => .array .int
  | 16 => .array .int
  | 17 => .array .int
  | 18 => .int
  | 19 => .int
  | 20 => .boolean
  | 21 => .boolean
  | 22 => .array .boolean
  | 23 => .array .int
  | 24 => .array .int
  | 25 => .array .int
  | 26 => .array .int
  | 27 => .array .int
  | 28 => .array .int
  | 29 => .array .int
  | 30 => .array .int
  | 31 => .array .int
  | 32 => .array .int
  | 33 => .array .int
  | 34 => .int
  | 35 => .int
  | 36 => .int
  | 37 => .int
  | 38 => .int
  | 39 => .int
  | 40 => .int
  | 41 => .int
  | 42 => .int
  | 43 => .boolean
  | 44 => .array .int
  | 45 => .array .int
  | 46 => .array .int
  | 47 => .array .int
  | 48 => .array .int
  | 49 => .array .int
  | 50 => .array .int
  | _ => .int
abbrev am_cl : List vw_C := [(am_R0, am_F0, 7), (am_R1, am_F1, 11), (am_R2, am_F2, 1), (am_R3, am_F3, 10), (am_R4, am_F4, 8), (am_R5, am_F5, 7), (am_R6, am_F6, 9), (am_R7, am_F7, 4), (am_R8, am_F8, 52)]
def am_ft (ci : Nat) : Nat → FieldType := match ci with
  | 0 => am_t0
  | 1 => am_t1
  | 2 => am_t2
  | 3 => am_t3
  | 4 => am_t4
  | 5 => am_t5
  | 6 => am_t6
  | 7 => am_t7
  | _ => am_t8
def am_nrc : Nat := 3
def am_rc (t : Nat) : String := match t with
  | 0 => "FrameForge$Program"
  | 1 => "FrameForge$Method"
  | _ => "FrameForge$Frame"
def am_ms0 : List (MethodName × ByteArray × Nat × Option FieldType) := [
  (⟨"FrameForge", "<init>", "()V"⟩, prog_1_method_1_code, 2, .none),
  (⟨"FrameForge", "write", "(I)Z"⟩, prog_1_method_2_code, 2, .some (FieldType.boolean)),
  (⟨"FrameForge", "branch", "()I"⟩, prog_1_method_3_code, 1, .some (FieldType.int)),
  (⟨"FrameForge", "method", "(IIZ)Z"⟩, prog_1_method_4_code, 4, .some (FieldType.boolean)),
  (⟨"FrameForge", "add", "(IIII)I"⟩, prog_1_method_5_code, 6, .some (FieldType.int)),
  (⟨"FrameForge", "change", "(IIIII)Z"⟩, prog_1_method_6_code, 7, .some (FieldType.boolean)),
  (⟨"FrameForge", "row", "(IIIII)I"⟩, prog_1_method_7_code, 9, .some (FieldType.int)),
  (⟨"FrameForge", "check", "(I)I"⟩, prog_1_method_8_code, 2, .some (FieldType.int)),
  (⟨"FrameForge", "kindAt", "(III)I"⟩, prog_1_method_9_code, 6, .some (FieldType.int)),
  (⟨"FrameForge", "run", "(IIIIII)I"⟩, prog_1_method_10_code, 8, .some (FieldType.int)),
  (⟨"FrameForge", "ran", "(I)I"⟩, prog_1_method_11_code, 2, .some (FieldType.int)),
  (⟨"FrameForge", "trace", "(I)I"⟩, prog_1_method_12_code, 2, .some (FieldType.int)),
  (⟨"FrameForge", "compare", "(IIII)I"⟩, prog_1_method_13_code, 5, .some (FieldType.int)),
  (⟨"FrameForge", "unfold", "(II)I"⟩, prog_1_method_14_code, 3, .some (FieldType.int)),
  (⟨"FrameForge", "inline", "(II)I"⟩, prog_1_method_15_code, 9, .some (FieldType.int)),
  (⟨"FrameForge", "code", "(III)I"⟩, prog_1_method_16_code, 5, .some (FieldType.int)),
  (⟨"FrameForge", "table", "(III)I"⟩, prog_1_method_17_code, 5, .some (FieldType.int)),
  (⟨"FrameForge", "writtenMethod", "(I)LFrameForge$Method;"⟩, prog_1_method_18_code, 2, .some ((FieldType.object "FrameForge$Method"))),
  (⟨"FrameForge", "allSound", "(LFrameForge$Program;I)Z"⟩, prog_1_method_19_code, 5, .some (FieldType.boolean)),
  (⟨"FrameForge", "isBelow", "(II)Z"⟩, prog_1_method_20_code, 2, .some (FieldType.boolean)),
  (⟨"FrameForge", "hasBit", "(II)Z"⟩, prog_1_method_21_code, 2, .some (FieldType.boolean)),
  (⟨"FrameForge", "isInstruction", "(III)Z"⟩, prog_1_method_22_code, 3, .some (FieldType.boolean)),
  (⟨"FrameForge", "isOperand", "(II)Z"⟩, prog_1_method_23_code, 2, .some (FieldType.boolean)),
  (⟨"FrameForge", "isJump", "(I)Z"⟩, prog_1_method_24_code, 1, .some (FieldType.boolean)),
  (⟨"FrameForgeModel", "<init>", "()V"⟩, prog_10_method_1_code, 1, .none),
  (⟨"FrameForgeModel", "in", "(III)Z"⟩, prog_10_method_2_code, 3, .some (FieldType.boolean)),
  (⟨"FrameForgeModel", "own", "(I)I"⟩, prog_10_method_3_code, 2, .some (FieldType.int)),
  (⟨"FrameForgeModel", "write", "(I)Z"⟩, prog_10_method_4_code, 2, .some (FieldType.boolean)),
  (⟨"FrameForgeModel", "branch", "()I"⟩, prog_10_method_5_code, 4, .some (FieldType.int)),
  (⟨"FrameForgeModel", "method", "(IIZ)Z"⟩, prog_10_method_6_code, 5, .some (FieldType.boolean)),
  (⟨"FrameForgeModel", "set", "(IIIII)V"⟩, prog_10_method_7_code, 6, .none),
  (⟨"FrameForgeModel", "setRow", "(IIIIII)V"⟩, prog_10_method_8_code, 7, .none),
  (⟨"FrameForgeModel", "isJump", "(I)Z"⟩, prog_10_method_9_code, 1, .some (FieldType.boolean)),
  (⟨"FrameForgeModel", "mostA", "(I)I"⟩, prog_10_method_10_code, 1, .some (FieldType.int)),
  (⟨"FrameForgeModel", "isGood", "(III)Z"⟩, prog_10_method_11_code, 4, .some (FieldType.boolean)),
  (⟨"FrameForgeModel", "put", "(IIIII)V"⟩, prog_10_method_12_code, 6, .none),
  (⟨"FrameForgeModel", "add", "(IIII)I"⟩, prog_10_method_13_code, 7, .some (FieldType.int)),
  (⟨"FrameForgeModel", "change", "(IIIII)Z"⟩, prog_10_method_14_code, 7, .some (FieldType.boolean)),
  (⟨"FrameForgeModel", "row", "(IIIII)I"⟩, prog_10_method_15_code, 7, .some (FieldType.int)),
  (⟨"FrameForgeModel", "push", "(I)V"⟩, prog_10_method_16_code, 2, .none)]
def am_ms1 : List (MethodName × ByteArray × Nat × Option FieldType) := [
  (⟨"FrameForgeModel", "take", "(I)V"⟩, prog_10_method_17_code, 2, .none),
  (⟨"FrameForgeModel", "fetch", "(I)V"⟩, prog_10_method_18_code, 3, .none),
  (⟨"FrameForgeModel", "arrive", "(II)V"⟩, prog_10_method_19_code, 5, .none),
  (⟨"FrameForgeModel", "move", "(I)V"⟩, prog_10_method_20_code, 4, .none),
  (⟨"FrameForgeModel", "leave", "(II)V"⟩, prog_10_method_21_code, 6, .none),
  (⟨"FrameForgeModel", "goOn", "(II)V"⟩, prog_10_method_22_code, 7, .none),
  (⟨"FrameForgeModel", "refuse", "(II)V"⟩, prog_10_method_23_code, 4, .none),
  (⟨"FrameForgeModel", "isRight", "(I)Z"⟩, prog_10_method_24_code, 3, .some (FieldType.boolean)),
  (⟨"FrameForgeModel", "check", "(I)I"⟩, prog_10_method_25_code, 5, .some (FieldType.int)),
  (⟨"FrameForgeModel", "kindAt", "(III)I"⟩, prog_10_method_26_code, 5, .some (FieldType.int)),
  (⟨"FrameForgeModel", "isUnder", "(II)Z"⟩, prog_10_method_27_code, 3, .some (FieldType.boolean)),
  (⟨"FrameForgeModel", "tell", "(II)V"⟩, prog_10_method_28_code, 3, .none),
  (⟨"FrameForgeModel", "make", "(I)I"⟩, prog_10_method_29_code, 2, .some (FieldType.int)),
  (⟨"FrameForgeModel", "begin", "(I)V"⟩, prog_10_method_30_code, 2, .none),
  (⟨"FrameForgeModel", "finish", "(I)I"⟩, prog_10_method_31_code, 5, .some (FieldType.int)),
  (⟨"FrameForgeModel", "raise", "(I)V"⟩, prog_10_method_32_code, 8, .none),
  (⟨"FrameForgeModel", "machine", "(I)V"⟩, prog_10_method_33_code, 3, .none),
  (⟨"FrameForgeModel", "pop", "()I"⟩, prog_10_method_34_code, 2, .some (FieldType.int)),
  (⟨"FrameForgeModel", "give", "(I)V"⟩, prog_10_method_35_code, 3, .none),
  (⟨"FrameForgeModel", "call", "(I)V"⟩, prog_10_method_36_code, 5, .none),
  (⟨"FrameForgeModel", "back", "(I)V"⟩, prog_10_method_37_code, 3, .none),
  (⟨"FrameForgeModel", "release", "(I)V"⟩, prog_10_method_38_code, 4, .none),
  (⟨"FrameForgeModel", "sum", "(III)V"⟩, prog_10_method_39_code, 4, .none),
  (⟨"FrameForgeModel", "onObject", "(III)V"⟩, prog_10_method_40_code, 4, .none),
  (⟨"FrameForgeModel", "step", "()V"⟩, prog_10_method_41_code, 14, .none),
  (⟨"FrameForgeModel", "allRight", "(I)Z"⟩, prog_10_method_42_code, 6, .some (FieldType.boolean)),
  (⟨"FrameForgeModel", "go", "(IIIII)I"⟩, prog_10_method_43_code, 6, .some (FieldType.int)),
  (⟨"FrameForgeModel", "run", "(IIIIII)I"⟩, prog_10_method_44_code, 8, .some (FieldType.int)),
  (⟨"FrameForgeModel", "ran", "(I)I"⟩, prog_10_method_45_code, 2, .some (FieldType.int)),
  (⟨"FrameForgeModel", "trace", "(I)I"⟩, prog_10_method_46_code, 2, .some (FieldType.int)),
  (⟨"FrameForgeModel", "compare", "(IIII)I"⟩, prog_10_method_47_code, 11, .some (FieldType.int)),
  (⟨"FrameForgeModel", "shifted", "(III)I"⟩, prog_10_method_48_code, 3, .some (FieldType.int)),
  (⟨"FrameForgeModel", "newRow", "(IIII)V"⟩, prog_10_method_49_code, 5, .none),
  (⟨"FrameForgeModel", "replace", "(III)I"⟩, prog_10_method_50_code, 9, .some (FieldType.int)),
  (⟨"FrameForgeModel", "newInstruction", "(IIII)V"⟩, prog_10_method_51_code, 5, .none),
  (⟨"FrameForgeModel", "endOf", "(II)I"⟩, prog_10_method_52_code, 10, .some (FieldType.int)),
  (⟨"FrameForgeModel", "unfold", "(II)I"⟩, prog_10_method_53_code, 17, .some (FieldType.int)),
  (⟨"FrameForgeModel", "greatest", "(IZ)I"⟩, prog_10_method_54_code, 7, .some (FieldType.int)),
  (⟨"FrameForgeModel", "mayInline", "(IIII)Z"⟩, prog_10_method_55_code, 8, .some (FieldType.boolean)),
  (⟨"FrameForgeModel", "inline", "(II)I"⟩, prog_10_method_56_code, 14, .some (FieldType.int))]
def am_ms2 : List (MethodName × ByteArray × Nat × Option FieldType) := [
  (⟨"FrameForgeModel", "code", "(III)I"⟩, prog_10_method_57_code, 5, .some (FieldType.int)),
  (⟨"FrameForgeModel", "table", "(III)I"⟩, prog_10_method_58_code, 6, .some (FieldType.int)),
  (⟨"FrameForge$Checker", "<init>", "()V"⟩, prog_2_method_1_code, 1, .none),
  (⟨"FrameForge$Checker", "follow", "(LFrameForge$Program;I)Z"⟩, prog_2_method_2_code, 7, .some (FieldType.boolean)),
  (⟨"FrameForge$Checker", "comesTo", "(I)Z"⟩, prog_2_method_3_code, 2, .some (FieldType.boolean)),
  (⟨"FrameForge$Checker", "stackKind", "(II)I"⟩, prog_2_method_4_code, 3, .some (FieldType.int)),
  (⟨"FrameForge$Checker", "localKind", "(II)I"⟩, prog_2_method_5_code, 3, .some (FieldType.int)),
  (⟨"FrameForge$Checker", "returnsAlone", "(LFrameForge$Method;)Z"⟩, prog_2_method_6_code, 3, .some (FieldType.boolean)),
  (⟨"FrameForge$Checker", "begin", "(LFrameForge$Method;)V"⟩, prog_2_method_7_code, 3, .none),
  (⟨"FrameForge$Checker", "goOnFrom", "(LFrameForge$Program;LFrameForge$Method;I)V"⟩, prog_2_method_8_code, 5, .none),
  (⟨"FrameForge$Checker", "passArguments", "(I)V"⟩, prog_2_method_9_code, 3, .none),
  (⟨"FrameForge$Checker", "takeAndGive", "(LFrameForge$Method;I)V"⟩, prog_2_method_10_code, 6, .none),
  (⟨"FrameForge$Checker", "useLocal", "(II)V"⟩, prog_2_method_11_code, 4, .none),
  (⟨"FrameForge$Checker", "useObject", "(I)V"⟩, prog_2_method_12_code, 2, .none),
  (⟨"FrameForge$Checker", "give", "(I)V"⟩, prog_2_method_13_code, 2, .none),
  (⟨"FrameForge$Checker", "takeAny", "()I"⟩, prog_2_method_14_code, 1, .some (FieldType.int)),
  (⟨"FrameForge$Checker", "take", "(I)V"⟩, prog_2_method_15_code, 2, .none),
  (⟨"FrameForge$Checker", "leadOn", "(LFrameForge$Method;I)V"⟩, prog_2_method_16_code, 6, .none),
  (⟨"FrameForge$Checker", "comeTo", "(LFrameForge$Method;I[II)V"⟩, prog_2_method_17_code, 5, .none),
  (⟨"FrameForge$Checker", "meet", "(I[II)V"⟩, prog_2_method_18_code, 6, .none),
  (⟨"FrameForge$Checker", "followBacksAgain", "(LFrameForge$Method;)V"⟩, prog_2_method_19_code, 3, .none),
  (⟨"FrameForge$Frame", "<init>", "()V"⟩, prog_3_method_1_code, 1, .none),
  (⟨"FrameForge$Frame", "begin", "(II)V"⟩, prog_3_method_2_code, 3, .none),
  (⟨"FrameForge$Frame", "goOnWith", "(II)V"⟩, prog_3_method_3_code, 3, .none),
  (⟨"FrameForge$Frame", "push", "(I)V"⟩, prog_3_method_4_code, 2, .none),
  (⟨"FrameForge$Frame", "pop", "()I"⟩, prog_3_method_5_code, 1, .some (FieldType.int)),
  (⟨"FrameForge$Ledger", "<init>", "()V"⟩, prog_4_method_1_code, 1, .none),
  (⟨"FrameForge$Ledger", "clear", "()V"⟩, prog_4_method_2_code, 1, .none),
  (⟨"FrameForge$Ledger", "note", "(II)V"⟩, prog_4_method_3_code, 3, .none),
  (⟨"FrameForge$Ledger", "entriesKept", "()I"⟩, prog_4_method_4_code, 1, .some (FieldType.int)),
  (⟨"FrameForge$Ledger", "sameEntries", "(LFrameForge$Ledger;)Z"⟩, prog_4_method_5_code, 3, .some (FieldType.boolean)),
  (⟨"FrameForge$Machine", "<init>", "()V"⟩, prog_5_method_1_code, 2, .none),
  (⟨"FrameForge$Machine", "play", "(LFrameForge$Program;IIIIILFrameForge$Ledger;)V"⟩, prog_5_method_2_code, 10, .none),
  (⟨"FrameForge$Machine", "openFrame", "(I)LFrameForge$Frame;"⟩, prog_5_method_3_code, 3, .some ((FieldType.object "FrameForge$Frame"))),
  (⟨"FrameForge$Machine", "step", "(LFrameForge$Frame;)V"⟩, prog_5_method_4_code, 7, .none),
  (⟨"FrameForge$Machine", "useLocal", "(LFrameForge$Frame;III)V"⟩, prog_5_method_5_code, 5, .none),
  (⟨"FrameForge$Machine", "shuffle", "(LFrameForge$Frame;I)V"⟩, prog_5_method_6_code, 5, .none),
  (⟨"FrameForge$Machine", "reckon", "(LFrameForge$Frame;I)V"⟩, prog_5_method_7_code, 5, .none),
  (⟨"FrameForge$Machine", "turn", "(LFrameForge$Frame;III)V"⟩, prog_5_method_8_code, 6, .none),
  (⟨"FrameForge$Machine", "holds", "(II)Z"⟩, prog_5_method_9_code, 2, .some (FieldType.boolean))]
def am_ms3 : List (MethodName × ByteArray × Nat × Option FieldType) := [
  (⟨"FrameForge$Machine", "useObject", "(LFrameForge$Frame;I)V"⟩, prog_5_method_10_code, 6, .none),
  (⟨"FrameForge$Machine", "enterLock", "(I)V"⟩, prog_5_method_11_code, 2, .none),
  (⟨"FrameForge$Machine", "leaveLock", "(LFrameForge$Frame;I)Z"⟩, prog_5_method_12_code, 4, .some (FieldType.boolean)),
  (⟨"FrameForge$Machine", "make", "(I)I"⟩, prog_5_method_13_code, 2, .some (FieldType.int)),
  (⟨"FrameForge$Machine", "throwNew", "(I)V"⟩, prog_5_method_14_code, 2, .none),
  (⟨"FrameForge$Machine", "throwObject", "(I)V"⟩, prog_5_method_15_code, 2, .none),
  (⟨"FrameForge$Machine", "beginCall", "(LFrameForge$Frame;I)V"⟩, prog_5_method_16_code, 5, .none),
  (⟨"FrameForge$Machine", "giveBack", "(I)V"⟩, prog_5_method_17_code, 2, .none),
  (⟨"FrameForge$Machine", "closeFrame", "()V"⟩, prog_5_method_18_code, 2, .none),
  (⟨"FrameForge$Machine", "findRow", "()V"⟩, prog_5_method_19_code, 5, .none),
  (⟨"FrameForge$Method", "<init>", "()V"⟩, prog_6_method_1_code, 1, .none),
  (⟨"FrameForge$Method", "begin", "(IZ)V"⟩, prog_6_method_2_code, 3, .none),
  (⟨"FrameForge$Method", "become", "(LFrameForge$Method;)V"⟩, prog_6_method_3_code, 2, .none),
  (⟨"FrameForge$Method", "put", "(IIII)V"⟩, prog_6_method_4_code, 5, .none),
  (⟨"FrameForge$Method", "addRow", "(IIII)Z"⟩, prog_6_method_5_code, 5, .some (FieldType.boolean)),
  (⟨"FrameForge$Method", "hasAt", "(II)Z"⟩, prog_6_method_6_code, 3, .some (FieldType.boolean)),
  (⟨"FrameForge$Method", "rowCovers", "(II)Z"⟩, prog_6_method_7_code, 3, .some (FieldType.boolean)),
  (⟨"FrameForge$Method", "rowFor", "(II)I"⟩, prog_6_method_8_code, 4, .some (FieldType.int)),
  (⟨"FrameForge$Method", "rowPart", "(II)I"⟩, prog_6_method_9_code, 3, .some (FieldType.int)),
  (⟨"FrameForge$Method", "fact", "(I)I"⟩, prog_6_method_10_code, 2, .some (FieldType.int)),
  (⟨"FrameForge$Method", "calls", "()I"⟩, prog_6_method_11_code, 3, .some (FieldType.int)),
  (⟨"FrameForge$Method", "greatestLocal", "()I"⟩, prog_6_method_12_code, 3, .some (FieldType.int)),
  (⟨"FrameForge$Method", "hasLocksOrSubroutines", "()Z"⟩, prog_6_method_13_code, 2, .some (FieldType.boolean)),
  (⟨"FrameForge$Method", "plainEnd", "(I)I"⟩, prog_6_method_14_code, 5, .some (FieldType.int)),
  (⟨"FrameForge$Method", "keepsPlain", "(III)Z"⟩, prog_6_method_15_code, 5, .some (FieldType.boolean)),
  (⟨"FrameForge$Method", "leadsInto", "(III)Z"⟩, prog_6_method_16_code, 4, .some (FieldType.boolean)),
  (⟨"FrameForge$Program", "<init>", "()V"⟩, prog_7_method_1_code, 2, .none),
  (⟨"FrameForge$Program", "become", "(LFrameForge$Program;)V"⟩, prog_7_method_2_code, 3, .none),
  (⟨"FrameForge$Program", "instructions", "()I"⟩, prog_7_method_3_code, 3, .some (FieldType.int)),
  (⟨"FrameForge$Program", "calledFrom", "(I)I"⟩, prog_7_method_4_code, 6, .some (FieldType.int)),
  (⟨"FrameForge$Rewriter", "<init>", "()V"⟩, prog_8_method_1_code, 1, .none),
  (⟨"FrameForge$Rewriter", "writeOutSubroutine", "(LFrameForge$Method;I)I"⟩, prog_8_method_2_code, 9, .some (FieldType.int)),
  (⟨"FrameForge$Rewriter", "writeOutCall", "(LFrameForge$Method;ILFrameForge$Method;)I"⟩, prog_8_method_3_code, 9, .some (FieldType.int)),
  (⟨"FrameForge$Rewriter", "putCalled", "(LFrameForge$Method;III)V"⟩, prog_8_method_4_code, 9, .none),
  (⟨"FrameForge$Rewriter", "spread", "(LFrameForge$Method;II)V"⟩, prog_8_method_5_code, 7, .none),
  (⟨"FrameForge$Rewriter", "moved", "(I)I"⟩, prog_8_method_6_code, 2, .some (FieldType.int)),
  (⟨"FrameForge$Rewriter", "splitRow", "(LFrameForge$Method;III)V"⟩, prog_8_method_7_code, 10, .none),
  (⟨"FrameForge$Rewriter", "draftRow", "(IIII)V"⟩, prog_8_method_8_code, 5, .none),
  (⟨"FrameForge$Rewriter", "takeOver", "(LFrameForge$Method;)I"⟩, prog_8_method_9_code, 2, .some (FieldType.int)),
  (⟨"FrameForgeLaw", "law", "([I)Z"⟩, code, 4, .some (FieldType.boolean))]
def am_m (j : Nat) : MethodName × ByteArray × Nat × Option FieldType := match j / 40 with
  | 0 => (am_ms0[j % 40]?).getD (⟨"", "", ""⟩, ByteArray.empty, 0, .none)
  | 1 => (am_ms1[j % 40]?).getD (⟨"", "", ""⟩, ByteArray.empty, 0, .none)
  | 2 => (am_ms2[j % 40]?).getD (⟨"", "", ""⟩, ByteArray.empty, 0, .none)
  | _ => (am_ms3[j % 40]?).getD (⟨"", "", ""⟩, ByteArray.empty, 0, .none)
def am_y (j : Nat) : MethodName := (am_m j).1
def am_by (j : Nat) : ByteArray := (am_m j).2.1
def am_mx (j : Nat) : Nat := (am_m j).2.2.1
def am_ret (j : Nat) : Option FieldType := (am_m j).2.2.2
def am_own (j : Nat) : String := (am_y j).cls
abbrev jF_init : Nat := 0
abbrev jF_write : Nat := 1
abbrev jF_branch : Nat := 2
abbrev jF_method : Nat := 3
abbrev jF_add : Nat := 4
abbrev jF_change : Nat := 5
abbrev jF_row : Nat := 6
abbrev jF_check : Nat := 7
abbrev jF_kindAt : Nat := 8
abbrev jF_run : Nat := 9
abbrev jF_ran : Nat := 10
abbrev jF_trace : Nat := 11
abbrev jF_compare : Nat := 12
abbrev jF_unfold : Nat := 13
abbrev jF_inline : Nat := 14
abbrev jF_code : Nat := 15
abbrev jF_table : Nat := 16
abbrev jF_writtenMethod : Nat := 17
abbrev jF_allSound : Nat := 18
abbrev jF_isBelow : Nat := 19
abbrev jF_hasBit : Nat := 20
abbrev jF_isInstruction : Nat := 21
abbrev jF_isOperand : Nat := 22
abbrev jF_isJump : Nat := 23
abbrev jR_init : Nat := 24
abbrev jR_in : Nat := 25
abbrev jR_own : Nat := 26
abbrev jR_write : Nat := 27
abbrev jR_branch : Nat := 28
abbrev jR_method : Nat := 29
abbrev jR_set : Nat := 30
abbrev jR_setRow : Nat := 31
abbrev jR_isJump : Nat := 32
abbrev jR_mostA : Nat := 33
abbrev jR_isGood : Nat := 34
abbrev jR_put : Nat := 35
abbrev jR_add : Nat := 36
abbrev jR_change : Nat := 37
abbrev jR_row : Nat := 38
abbrev jR_push : Nat := 39
abbrev jR_take : Nat := 40
abbrev jR_fetch : Nat := 41
abbrev jR_arrive : Nat := 42
abbrev jR_move : Nat := 43
abbrev jR_leave : Nat := 44
abbrev jR_goOn : Nat := 45
abbrev jR_refuse : Nat := 46
abbrev jR_isRight : Nat := 47
abbrev jR_check : Nat := 48
abbrev jR_kindAt : Nat := 49
abbrev jR_isUnder : Nat := 50
abbrev jR_tell : Nat := 51
abbrev jR_make : Nat := 52
abbrev jR_begin : Nat := 53
abbrev jR_finish : Nat := 54
abbrev jR_raise : Nat := 55
abbrev jR_machine : Nat := 56
abbrev jR_pop : Nat := 57
abbrev jR_give : Nat := 58
abbrev jR_call : Nat := 59
abbrev jR_back : Nat := 60
abbrev jR_release : Nat := 61
abbrev jR_sum : Nat := 62
abbrev jR_onObject : Nat := 63
abbrev jR_step : Nat := 64
abbrev jR_allRight : Nat := 65
abbrev jR_go : Nat := 66
abbrev jR_run : Nat := 67
abbrev jR_ran : Nat := 68
abbrev jR_trace : Nat := 69
abbrev jR_compare : Nat := 70
abbrev jR_shifted : Nat := 71
abbrev jR_newRow : Nat := 72
abbrev jR_replace : Nat := 73
abbrev jR_newInstruction : Nat := 74
abbrev jR_endOf : Nat := 75
abbrev jR_unfold : Nat := 76
abbrev jR_greatest : Nat := 77
abbrev jR_mayInline : Nat := 78
abbrev jR_inline : Nat := 79
abbrev jR_code : Nat := 80
abbrev jR_table : Nat := 81
abbrev jC_init : Nat := 82
abbrev jC_follow : Nat := 83
abbrev jC_comesTo : Nat := 84
abbrev jC_stackKind : Nat := 85
abbrev jC_localKind : Nat := 86
abbrev jC_returnsAlone : Nat := 87
abbrev jC_begin : Nat := 88
abbrev jC_goOnFrom : Nat := 89
abbrev jC_passArguments : Nat := 90
abbrev jC_takeAndGive : Nat := 91
abbrev jC_useLocal : Nat := 92
abbrev jC_useObject : Nat := 93
abbrev jC_give : Nat := 94
abbrev jC_takeAny : Nat := 95
abbrev jC_take : Nat := 96
abbrev jC_leadOn : Nat := 97
abbrev jC_comeTo : Nat := 98
abbrev jC_meet : Nat := 99
abbrev jC_followBacksAgain : Nat := 100
abbrev jA_init : Nat := 101
abbrev jA_begin : Nat := 102
abbrev jA_goOnWith : Nat := 103
abbrev jA_push : Nat := 104
abbrev jA_pop : Nat := 105
abbrev jL_init : Nat := 106
abbrev jL_clear : Nat := 107
abbrev jL_note : Nat := 108
abbrev jL_entriesKept : Nat := 109
abbrev jL_sameEntries : Nat := 110
abbrev jM_init : Nat := 111
abbrev jM_play : Nat := 112
abbrev jM_openFrame : Nat := 113
abbrev jM_step : Nat := 114
abbrev jM_useLocal : Nat := 115
abbrev jM_shuffle : Nat := 116
abbrev jM_reckon : Nat := 117
abbrev jM_turn : Nat := 118
abbrev jM_holds : Nat := 119
abbrev jM_useObject : Nat := 120
abbrev jM_enterLock : Nat := 121
abbrev jM_leaveLock : Nat := 122
abbrev jM_make : Nat := 123
abbrev jM_throwNew : Nat := 124
abbrev jM_throwObject : Nat := 125
abbrev jM_beginCall : Nat := 126
abbrev jM_giveBack : Nat := 127
abbrev jM_closeFrame : Nat := 128
abbrev jM_findRow : Nat := 129
abbrev jE_init : Nat := 130
abbrev jE_begin : Nat := 131
abbrev jE_become : Nat := 132
abbrev jE_put : Nat := 133
abbrev jE_addRow : Nat := 134
abbrev jE_hasAt : Nat := 135
abbrev jE_rowCovers : Nat := 136
abbrev jE_rowFor : Nat := 137
abbrev jE_rowPart : Nat := 138
abbrev jE_fact : Nat := 139
abbrev jE_calls : Nat := 140
abbrev jE_greatestLocal : Nat := 141
abbrev jE_hasLocksOrSubroutines : Nat := 142
abbrev jE_plainEnd : Nat := 143
abbrev jE_keepsPlain : Nat := 144
abbrev jE_leadsInto : Nat := 145
abbrev jP_init : Nat := 146
abbrev jP_become : Nat := 147
abbrev jP_instructions : Nat := 148
abbrev jP_calledFrom : Nat := 149
abbrev jW_init : Nat := 150
abbrev jW_writeOutSubroutine : Nat := 151
abbrev jW_writeOutCall : Nat := 152
abbrev jW_putCalled : Nat := 153
abbrev jW_spread : Nat := 154
abbrev jW_moved : Nat := 155
abbrev jW_splitRow : Nat := 156
abbrev jW_draftRow : Nat := 157
abbrev jW_takeOver : Nat := 158
abbrev jY_law : Nat := 159
def am_ns : Nat := 3
def am_sC (_ : Nat) : String := "FrameForge"
def am_sn (k : Nat) : String := match k with
  | 0 => "MOST_A"
  | 1 => "MOST_B"
  | _ => "SELF_AND_ABOVE"
def am_s0 : List Int32 := [-1, 99, 7, 7, -1, -1, -1, -1, -1, -1, -1, -1, 2, -1, 7, -1, -1, -1, -1, -1, -1, 5, -1, -1, 7, -1, -1, 7]
def am_s1 : List Int32 := [-1, -1, -1, -1, -1, -1, -1, -1, -1, -1, -1, 59, 59, -1, -1, -1, -1, 59, -1, -1, -1, -1, -1, 59, -1, -1, -1, 99]
def am_s2 : List Int32 := [1, 3, 5, 9, 17, 35, 69, 163]
def am_sl (k : Nat) : List Int32 := match k with
  | 0 => am_s0
  | 1 => am_s1
  | _ => am_s2
def am_sN (k : Nat) : Nat := (am_sl k).length
def am_sf (k : Nat) : Nat → Int32 := fun j => (am_sl k).getD j 0
def am_T : List Cond := lw_tbl.filter goodWord
theorem am_T_good (w : Cond) (h : w ∈ am_T) : goodWord w = true := (List.mem_filter.mp h).2
theorem am_T_in (w : Cond) (h : w ∈ am_T) : w ∈ lw_tbl := (List.mem_filter.mp h).1
theorem wd_in {w : Cond} (i : Nat) (h : tables_1[i]? = some w) (hg : goodWord w = true) : w ∈ am_T := List.mem_filter.mpr ⟨List.mem_append_right _ (List.mem_of_getElem? h), hg⟩
theorem wd_ins {q : MethodName × Nat} (i : Nat) (h : lw_privs[i]? = some q) : Cond.selects q.1.cls q.1 q.1 ∈ am_T := List.mem_filter.mpr ⟨List.mem_append_left _ (List.mem_map.mpr ⟨q, List.mem_of_getElem? h, rfl⟩), rfl⟩
theorem wd_inr (ws : List Cond) (ps : List Nat) (hp : ws = ps.filterMap (fun i => tables_1[i]?)) (h : ws.all goodWord = true) : ∀ w ∈ ws, w ∈ am_T := fun w hw => by
  have h1 := List.all_eq_true.mp h w hw
  rw [hp] at hw
  obtain ⟨i, -, hi⟩ := List.mem_filterMap.mp hw
  exact wd_in i hi h1
def am_TF : List (String × Nat × String × String × String × String) := [("FrameForge$Method", 57, "FrameForge", "MOST_A", "[I", "FrameForge"), ("FrameForge$Method", 60, "FrameForge", "MOST_B", "[I", "FrameForge"), ("FrameForge$Method", 70, "FrameForge", "SELF_AND_ABOVE", "[I", "FrameForge")]
def am_TM : List (String × Nat × MethodName × String) := [("FrameForge$Program", 17, ⟨"FrameForge$Method", "<init>", "()V"⟩, "FrameForge"), ("FrameForge", 18, ⟨"FrameForge$Checker", "<init>", "()V"⟩, "FrameForge"), ("FrameForge$Machine", 27, ⟨"FrameForge$Frame", "<init>", "()V"⟩, "FrameForge"), ("FrameForge", 32, ⟨"FrameForge$Rewriter", "<init>", "()V"⟩, "FrameForge"), ("FrameForge$Rewriter", 11, ⟨"FrameForge$Method", "<init>", "()V"⟩, "FrameForge"), ("FrameForge", 39, ⟨"FrameForge$Ledger", "<init>", "()V"⟩, "FrameForge"), ("FrameForge$Checker", 53, ⟨"FrameForge", "isBelow", "(II)Z"⟩, "FrameForge"), ("FrameForge$Checker", 128, ⟨"FrameForge", "isJump", "(I)Z"⟩, "FrameForge"), ("FrameForge$Program", 26, ⟨"FrameForge", "hasBit", "(II)Z"⟩, "FrameForge"), ("FrameForge$Method", 73, ⟨"FrameForge", "hasBit", "(II)Z"⟩, "FrameForge"), ("FrameForge$Method", 63, ⟨"FrameForge", "isBelow", "(II)Z"⟩, "FrameForge"), ("FrameForge$Method", 92, ⟨"FrameForge", "isJump", "(I)Z"⟩, "FrameForge"), ("FrameForge$Rewriter", 41, ⟨"FrameForge", "isJump", "(I)Z"⟩, "FrameForge")]
end
section
/-! THE ABSTRACT MACHINE. Objects have NUMBERS (0, 1, .. in the order of their making; from 1000000 on: the script, the static arrays); memory is two functions (ints, references by number).
am_Go says of a place in a method, over such a memory: the real machine comes to the method's return with P. Each instruction has one row (go_..); everything behind these rows speaks of am_Go alone. -/
abbrev am_V : Type := Int32 ⊕ Option Nat
abbrev am_G : Type := List (Nat × Nat) × (Nat → Nat → Int32) × (Nat → Nat → Option Nat)
/-- launch, class numbers and slots, array classes (0 int, 1 boolean, 2 + t of am_rc t), first new address, the script -/
abbrev am_W : Type := Launch × va_G × (Nat → ClassId) × Nat × Nat × (Nat → Int32)
def am_n (G : am_G) : Nat := G.1.length
def am_v (ad : Nat → Nat) (v : am_V) : Value := match v with
  | .inl x => .int x
  | .inr r => va_rf (r.map ad)
theorem am_cat (ad : Nat → Nat) (v : am_V) : (am_v ad v).category = 1 := by
  rcases v with x | r
  · rfl
  · cases r <;> rfl
def am_ok1 (n : Nat) (v : am_V) : Prop := match v with
  | .inl _ => True
  | .inr none => True
  | .inr (some i) => i < n ∨ 1000000 ≤ i
def am_vL (n : Nat) (L : List (Option am_V)) : Prop := ∀ (i : Nat) (v : am_V), L[i]? = some (some v) → am_ok1 n v
def am_vS (n : Nat) (st : List am_V) : Prop := ∀ v ∈ st, am_ok1 n v
def am_vG (G : am_G) : Prop := ∀ i k r : Nat, G.2.2 i k = some r → r < am_n G ∨ 1000000 ≤ r
def am_ext (n : Nat) (ad ad' : Nat → Nat) : Prop := ∀ i : Nat, (i < n ∨ 1000000 ≤ i) → ad' i = ad i
theorem am_ext.rf {n : Nat} {ad : Nat → Nat} : am_ext n ad ad := fun _ _ => rfl
theorem am_ext.tr {n n' : Nat} {a b c : Nat → Nat} (h : n ≤ n') (h1 : am_ext n a b) (h2 : am_ext n' b c) : am_ext n a c := fun i hi => by
  rw [h2 i (by omega), h1 i hi]
theorem am_ext.v {n : Nat} {ad ad' : Nat → Nat} (h : am_ext n ad ad') {v : am_V} (hv : am_ok1 n v) : am_v ad' v = am_v ad v := by
  rcases v with x | r
  · rfl
  · cases r with
    | none => rfl
    | some i =>
      show va_rf (some (ad' i)) = va_rf (some (ad i))
      rw [h i hv]
theorem am_ext.st {n : Nat} {ad ad' : Nat → Nat} (h : am_ext n ad ad') {st : List am_V} (hv : am_vS n st) : st.map (am_v ad') = st.map (am_v ad) :=
  List.map_congr_left fun v hm => h.v (hv v hm)
theorem am_ok1.up {n n' : Nat} (h : n ≤ n') {v : am_V} (hv : am_ok1 n v) : am_ok1 n' v := by
  rcases v with x | r
  · trivial
  · cases r with
    | none => trivial
    | some i =>
      have h1 : i < n ∨ 1000000 ≤ i := hv
      show i < n' ∨ 1000000 ≤ i
      omega
theorem am_vS.up {n n' : Nat} (h : n ≤ n') {st : List am_V} (hv : am_vS n st) : am_vS n' st := fun v hm => (hv v hm).up h
theorem am_vL.up {n n' : Nat} (h : n ≤ n') {L : List (Option am_V)} (hv : am_vL n L) : am_vL n' L := fun i v hm => (hv i v hm).up h
theorem am_vS.nil {n : Nat} : am_vS n [] := fun v h => by cases h
theorem am_vS.cons {n : Nat} {v : am_V} {st : List am_V} (h : am_ok1 n v) (hs : am_vS n st) : am_vS n (v :: st) := fun u hu => by
  rcases List.mem_cons.mp hu with rfl | hu
  · exact h
  · exact hs u hu
theorem am_vS.i {n : Nat} {x : Int32} {st : List am_V} (hs : am_vS n st) : am_vS n (.inl x :: st) := am_vS.cons (v := .inl x) trivial hs
theorem am_vS.nl {n : Nat} {st : List am_V} (hs : am_vS n st) : am_vS n (.inr none :: st) := am_vS.cons (v := .inr none) trivial hs
theorem am_vS.hd {n : Nat} {v : am_V} {st : List am_V} (h : am_vS n (v :: st)) : am_ok1 n v := h v List.mem_cons_self
theorem am_vS.tl {n : Nat} {v : am_V} {st : List am_V} (h : am_vS n (v :: st)) : am_vS n st := fun u hu => h u (List.mem_cons_of_mem _ hu)
theorem am_vS.app {n : Nat} {a b : List am_V} (h1 : am_vS n a) (h2 : am_vS n b) : am_vS n (a ++ b) := fun u hu => by
  rcases List.mem_append.mp hu with hu | hu
  · exact h1 u hu
  · exact h2 u hu
theorem am_vS.l {n : Nat} {a b : List am_V} (h : am_vS n (a ++ b)) : am_vS n a := fun u hu => h u (List.mem_append_left _ hu)
theorem am_vS.r {n : Nat} {a b : List am_V} (h : am_vS n (a ++ b)) : am_vS n b := fun u hu => h u (List.mem_append_right _ hu)
theorem am_vS.rev {n : Nat} {a : List am_V} (h : am_vS n a) : am_vS n a.reverse := fun u hu => h u (List.mem_reverse.mp hu)
theorem am_vL.set {n : Nat} {L : List (Option am_V)} {i : Nat} {v : am_V} (h : am_vL n L) (hv : am_ok1 n v) : am_vL n (L.set i (some v)) := fun q u hq => by
  rw [List.getElem?_set] at hq
  split at hq
  · split at hq
    · cases hq; exact hv
    · cases hq
  · exact h q u hq
/-- locals -/
def am_lv (ad : Nat → Nat) (L : List (Option am_V)) : List (Nat × Value) := (List.range L.length).filterMap fun i => match L[i]? with
  | some (some v) => some (i, am_v ad v)
  | _ => none
theorem am_lv_mem {ad : Nat → Nat} {L : List (Option am_V)} {q : Nat × Value} : q ∈ am_lv ad L ↔ ∃ v, L[q.1]? = some (some v) ∧ q.2 = am_v ad v := by
  unfold am_lv
  rw [List.mem_filterMap]
  constructor
  · rintro ⟨i, hi, h⟩
    split at h
    · rename_i v hv
      cases h
      exact ⟨v, hv, rfl⟩
    · cases h
  · rintro ⟨v, hv, he⟩
    refine ⟨q.1, ?_, ?_⟩
    · rw [List.mem_range]
      exact (List.getElem?_eq_some_iff.mp hv).1
    · rw [hv]
      show some (q.1, am_v ad v) = some q
      rw [← he]
abbrev am_Ls (ad : Nat → Nat) (L : List (Option am_V)) (ls : Array Slot) : Prop := lv_has ls L.length (am_lv ad L)
theorem am_Ls.at {ad : Nat → Nat} {L : List (Option am_V)} {ls : Array Slot} (h : am_Ls ad L ls) {i : Nat} {v : am_V} (hi : L[i]? = some (some v)) : ls[i]? = some (.val (am_v ad v)) :=
  h.2.2 (i, am_v ad v) (am_lv_mem.mpr ⟨v, hi, rfl⟩)
theorem am_Ls.st {ad : Nat → Nat} {L : List (Option am_V)} {i : Nat} {v : am_V} {ls' : Array Slot} {n : Nat} (hn : n = L.length)
    (h : lv_has ls' n ((i, am_v ad v) :: (am_lv ad L).filter (fun q => !(q.1 == i) && !(q.1 + 1 == i && q.2.category == 2)))) : am_Ls ad (L.set i (some v)) ls' := by
  subst hn
  refine ⟨by rw [List.length_set]; exact h.1, h.2.1, fun q hq => h.2.2 q ?_⟩
  obtain ⟨u, hu, he⟩ := am_lv_mem.mp hq
  rw [List.getElem?_set] at hu
  split at hu
  · rename_i e1
    split at hu
    · cases hu
      have : q = (i, am_v ad v) := Prod.ext e1.symm he
      rw [this]
      exact List.mem_cons_self
    · cases hu
  · rename_i e1
    refine List.mem_cons_of_mem _ (List.mem_filter.mpr ⟨am_lv_mem.mpr ⟨u, hu, he⟩, ?_⟩)
    have h1 : (q.1 == i) = false := by rw [beq_eq_false_iff_ne]; exact fun h => e1 h.symm
    have h2 : (q.2.category == 2) = false := by rw [he, am_cat]; rfl
    rw [h1, h2]
    simp
theorem am_Ls.ext {n : Nat} {ad ad' : Nat → Nat} {L : List (Option am_V)} {ls : Array Slot} (h : am_Ls ad L ls) (hx : am_ext n ad ad') (hv : am_vL n L) : am_Ls ad' L ls :=
  ⟨h.1, h.2.1, fun q hq => by
    obtain ⟨v, h1, h2⟩ := am_lv_mem.mp hq
    exact h.2.2 q (am_lv_mem.mpr ⟨v, h1, by rw [h2, hx.v (hv _ _ h1)]⟩)⟩
theorem am_args_mem : ∀ (vs : List Value), (∀ v ∈ vs, v.category = 1) → ∀ (k i : Nat) (v : Value), vs[i]? = some v → (k + i, v) ∈ lv_args k vs
  | [], _, _, _, _, h => by simp at h
  | u :: vs, hc, k, i, v, h => by
    have hu : u.category = 1 := hc u List.mem_cons_self
    have hr : lv_args k (u :: vs) = (k, u) :: lv_args (k + 1) vs := by simp [lv_args, hu]
    rw [hr]
    cases i with
    | zero => simp at h; rw [h]; exact List.mem_cons_self
    | succ i =>
      have := am_args_mem vs (fun v hv => hc v (List.mem_cons_of_mem _ hv)) (k + 1) i v (by simpa using h)
      rw [show k + (i + 1) = k + 1 + i by omega]
      exact List.mem_cons_of_mem _ this
theorem am_sl_len : ∀ (vs : List Value), (∀ v ∈ vs, v.category = 1) → (lg_sl vs).length = vs.length
  | [], _ => rfl
  | u :: vs, hc => by
    have hu : u.category = 1 := hc u List.mem_cons_self
    have ih := am_sl_len vs (fun v hv => hc v (List.mem_cons_of_mem _ hv))
    have : lg_sl (u :: vs) = .val u :: lg_sl vs := by simp [lg_sl, hu]
    rw [this, List.length_cons, ih, List.length_cons]
/-- the locals at a method's entry -/
def am_in (av : List am_V) (n : Nat) : List (Option am_V) := av.map some ++ List.replicate (n - av.length) none
theorem am_in_len {av : List am_V} {n : Nat} (h : av.length ≤ n) : (am_in av n).length = n := by
  simp [am_in]; omega
theorem am_in_at {av : List am_V} {n i : Nat} {v : am_V} (h : (am_in av n)[i]? = some (some v)) : av[i]? = some v := by
  unfold am_in at h
  rw [List.getElem?_append] at h
  split at h
  · simpa using h
  · rw [List.getElem?_replicate] at h
    split at h <;> cases h
theorem am_entry (ad : Nat → Nat) (av : List am_V) {n : Nat} (h : av.length ≤ n) : am_Ls ad (am_in av n) ((lg_sl (av.map (am_v ad)) ++ List.replicate (n - (lg_sl (av.map (am_v ad))).length) Slot.unset).toArray) := by
  have hc : ∀ v ∈ av.map (am_v ad), v.category = 1 := fun v hv => by
    obtain ⟨u, -, rfl⟩ := List.mem_map.mp hv
    exact am_cat ad u
  have h1 := lv_entry (av.map (am_v ad)) (n := n) (by rw [am_sl_len _ hc, List.length_map]; exact h)
  refine ⟨by rw [am_in_len h]; exact h1.1, h1.2.1, fun q hq => h1.2.2 q ?_⟩
  obtain ⟨v, g1, g2⟩ := am_lv_mem.mp hq
  have g3 := am_in_at g1
  have := am_args_mem (av.map (am_v ad)) hc 0 q.1 q.2 (by rw [List.getElem?_map, g3, g2]; rfl)
  rw [Nat.zero_add] at this
  exact this
theorem am_sumcat (ad : Nat → Nat) : ∀ st : List am_V, ((st.map (am_v ad)).map fun v => v.category).sum = st.length
  | [] => rfl
  | v :: st => by
    have ih := am_sumcat ad st
    rw [List.map_cons, List.map_cons, List.sum_cons, ih, am_cat, List.length_cons]
    omega
end
section
def am_A (w : am_W) : Nat → Prop := fun q => w.2.2.2.1 ≤ q
def am_N (ci : Nat) : Nat := ((am_cl[ci]?).map fun q => q.2.2).getD 0
def am_fv (ad : Nat → Nat) (G : am_G) (i ci k : Nat) : Value := if refKind (am_ft ci k) = true then va_rf ((G.2.2 i k).map ad) else .int (G.2.1 i k)
def am_e (w : am_W) (ad : Nat → Nat) (G : am_G) (i : Nat) : va_E := match G.1[i]? with
  | some (0, ci) => .inr (ci, (List.range (am_N ci)).map (am_fv ad G i ci))
  | some (1, x) => .inl (w.2.2.1 0, x, .inl (G.2.1 i))
  | some (2, x) => .inl (w.2.2.1 1, x, .inl (G.2.1 i))
  | some (t + 3, x) => .inl (w.2.2.1 (2 + t), x, .inr (.inr (.inr (.inr (fun j => (G.2.2 i j).map ad)))))
  | none => .inr (0, [])
def am_ws (w : am_W) (ad : Nat → Nat) (G : am_G) : va_W := (List.range G.1.length).map fun i => (ad i, am_e w ad G i)
def am_tys (w : am_W) : List (ClassId × FieldType) := (w.2.2.1 0, .int) :: (w.2.2.1 1, .boolean) :: (List.range am_nrc).map fun t => (w.2.2.1 (2 + t), .object (am_rc t))
/-- the static arrays, and the script -/
def am_Sta (w : am_W) (ad : Nat → Nat) (U : State) : Prop :=
  (∀ k, k < am_ns → va_Z (am_sC k) (am_sn k) "[I" (.ref (ad (1000001 + k))) (am_A w) U U.heap ∧ va_T .int (ad (1000001 + k)) (am_sN k) (fun j => .int (am_sf k j)) (am_A w) U U.heap) ∧
  va_X (ad 1000000) w.2.2.2.2.1 w.2.2.2.2.2 U U.heap ∧ ad 1000000 < U.heap.size ∧ ¬ am_A w (ad 1000000) ∧ w.2.2.2.1 ≤ U.heap.size ∧ (∀ t, t < am_nrc → va_AO (am_rc t) U) ∧
  (∀ q ∈ am_TF, va_Nw (.fieldLinkNest q.1 q.2.1 q.2.2.1 q.2.2.2.1 q.2.2.2.2.1 q.2.2.2.2.2) U) ∧ ∀ q ∈ am_TM, va_Nw (.methodLinkNest q.1 q.2.1 q.2.2.1 q.2.2.2) U
def am_Rel (w : am_W) (ad : Nat → Nat) (G : am_G) (s : State) (H : Heap) : Prop :=
  va_P w.2.1 am_cl (am_ws w ad G) H ∧ va_D (am_A w) (am_ws w ad G) ∧ va_K w.2.1 am_cl (am_tys w) s ∧ am_vG G
def am_Cx (w : am_W) (j d : Nat) (ad : Nat → Nat) (p : Program) (R : Room) (s : State) (m : MethodId) (args : Array Value) (meth : Method) (c : Code) : Prop :=
  p.tables.exec = Jvm.exec ∧ c.code = am_by j ∧ meth.sig.returnType = am_ret j ∧ c.maxLocals = am_mx j ∧ s.vm.findClass (am_own j) = some m.cls ∧ (∀ w ∈ am_T, w.before args s = true) ∧ meth.locks = false ∧ ((am_y j).name = "<init>" → meth.name = "<init>") ∧ d ≤ R.frames ∧ 42 * d ≤ R.locals ∧ am_Sta w ad s
def am_retAt (j pc : Nat) (r : Option am_V) : Prop := (decode (am_by j) pc = .ok (.ireturn, 1) ∧ ∃ (x : Int32) (ty : FieldType), r = some (.inl x) ∧ am_ret j = some ty ∧ narrow ty (.int x) = .int x) ∨ (decode (am_by j) pc = .ok (.areturn, 1) ∧ ∃ (x : Option Nat) (ty : FieldType), r = some (.inr x) ∧ am_ret j = some ty ∧ refKind ty = true) ∨ (decode (am_by j) pc = .ok (.return_, 1) ∧ r = none ∧ am_ret j = none)
def am_Go (w : am_W) (j d : Nat) (k : Nat × Nat) (pc : Nat) (L : List (Option am_V)) (st : List am_V) (G : am_G) (P : Option am_V → am_G → Prop) : Prop :=
  ∀ (p : Program) (e : Env) (R : Room) (s : State) (m : MethodId) (args : Array Value) (below : List Frame) (meth : Method) (c : Code) (ad0 ad : Nat → Nat) (H : Heap) (locs : List Loc) (cells slots : Nat) (ls : Array Slot) (Q : State → Prop) (n0 : Nat),
    am_Cx w j d ad0 p R s m args meth c → am_Rel w ad G s H → va_S (am_A w) s.heap H locs → am_Ls ad L ls → L.length = am_mx j → am_vL (am_n G) L → am_vS (am_n G) st → cells + k.1 ≤ R.cells → slots + k.2 ≤ R.slots → n0 ≤ am_n G → am_ext n0 ad0 ad →
    (∀ (r : Option am_V) (G' : am_G) (ad' : Nat → Nat) (H' : Heap) (locs' : List Loc) (pc' : Nat) (ls' : Array Slot), P r G' → am_Rel w ad' G' s H' → va_S (am_A w) s.heap H' locs' → n0 ≤ am_n G' → am_ext n0 ad0 ad' → (∀ v, r = some v → am_ok1 (am_n G') v) → am_retAt j pc' r →
      W p w.1 e R s m args below meth c H' locs' R.cells R.slots Q (F0 m pc' ls' (r.toList.map (am_v ad')))) →
    W p w.1 e R s m args below meth c H locs cells slots Q (F0 m pc ls (st.map (am_v ad)))
section AmCx
variable {w : am_W} {j d : Nat} {ad : Nat → Nat} {p : Program} {R : Room} {s : State} {m : MethodId} {args : Array Value} {meth : Method} {c : Code}
theorem am_Cx.exec (C : am_Cx w j d ad p R s m args meth c) : p.tables.exec = Jvm.exec := C.1
theorem am_Cx.byt (C : am_Cx w j d ad p R s m args meth c) : c.code = am_by j := C.2.1
theorem am_Cx.ret (C : am_Cx w j d ad p R s m args meth c) : meth.sig.returnType = am_ret j := C.2.2.1
theorem am_Cx.mx (C : am_Cx w j d ad p R s m args meth c) : c.maxLocals = am_mx j := C.2.2.2.1
theorem am_Cx.own (C : am_Cx w j d ad p R s m args meth c) : s.vm.findClass (am_own j) = some m.cls := C.2.2.2.2.1
theorem am_Cx.ts (C : am_Cx w j d ad p R s m args meth c) : ∀ w ∈ am_T, w.before args s = true := C.2.2.2.2.2.1
theorem am_Cx.lk (C : am_Cx w j d ad p R s m args meth c) : meth.locks = false := C.2.2.2.2.2.2.1
theorem am_Cx.ini (C : am_Cx w j d ad p R s m args meth c) : (am_y j).name = "<init>" → meth.name = "<init>" := C.2.2.2.2.2.2.2.1
theorem am_Cx.fr (C : am_Cx w j d ad p R s m args meth c) : d ≤ R.frames := C.2.2.2.2.2.2.2.2.1
theorem am_Cx.lo (C : am_Cx w j d ad p R s m args meth c) : 42 * d ≤ R.locals := C.2.2.2.2.2.2.2.2.2.1
theorem am_Cx.sta (C : am_Cx w j d ad p R s m args meth c) : am_Sta w ad s := C.2.2.2.2.2.2.2.2.2.2
theorem am_Cx.bs (C : am_Cx w j d ad p R s m args meth c) : w.2.2.2.1 ≤ s.heap.size := C.sta.2.2.2.2.1
theorem am_Cx.ao (C : am_Cx w j d ad p R s m args meth c) : ∀ t, t < am_nrc → va_AO (am_rc t) s := C.sta.2.2.2.2.2.1
end AmCx
/-- memory's changes -/
def am_wi (G : am_G) (i k : Nat) (x : Int32) : am_G := (G.1, va_up G.2.1 i (upd (G.2.1 i) k x), G.2.2)
def am_wr (G : am_G) (i k : Nat) (r : Option Nat) : am_G := (G.1, G.2.1, va_up G.2.2 i (va_up (G.2.2 i) k r))
def am_ro (G : am_G) (i : Nat) (f : Nat → Int32) : am_G := (G.1, va_up G.2.1 i f, G.2.2)
def am_nw (G : am_G) (sh : Nat × Nat) : am_G := (G.1 ++ [sh], va_up G.2.1 G.1.length (fun _ => 0), va_up G.2.2 G.1.length (fun _ => none))
theorem am_ws_at {w : am_W} {ad : Nat → Nat} {G : am_G} {i : Nat} (h : i < am_n G) : (am_ws w ad G)[i]? = some (ad i, am_e w ad G i) := by
  unfold am_ws
  have h' : i < G.1.length := h
  rw [List.getElem?_map, List.getElem?_range h']
  rfl
theorem am_ws_len {w : am_W} {ad : Nat → Nat} {G : am_G} : (am_ws w ad G).length = am_n G := by simp [am_ws, am_n]
theorem am_lt {G : am_G} {i : Nat} {sh : Nat × Nat} (h : G.1[i]? = some sh) : i < am_n G := (List.getElem?_eq_some_iff.mp h).1
theorem am_ws_set {w : am_W} {ad : Nat → Nat} {G G' : am_G} {i : Nat} (h1 : G'.1 = G.1) (hi : i < am_n G) (hj : ∀ q, q ≠ i → am_e w ad G' q = am_e w ad G q) : am_ws w ad G' = (am_ws w ad G).set i (ad i, am_e w ad G' i) := by
  apply List.ext_getElem?
  intro q
  rw [List.getElem?_set]
  by_cases hq : q < am_n G
  · have hq' : q < am_n G' := by unfold am_n; rw [h1]; exact hq
    rw [am_ws_at hq']
    by_cases e : i = q
    · subst e
      rw [if_pos rfl, if_pos (by rw [am_ws_len]; exact hi)]
    · rw [if_neg e, am_ws_at hq, hj q (fun h => e h.symm)]
  · have hq' : am_n G ≤ q := Nat.le_of_not_lt hq
    have hn : am_n G' = am_n G := by unfold am_n; rw [h1]
    rw [List.getElem?_eq_none (by rw [am_ws_len, hn]; exact hq')]
    have e : ¬ i = q := by omega
    rw [if_neg e, List.getElem?_eq_none (by rw [am_ws_len]; exact hq')]
theorem am_up_ne {α : Type} {f : Nat → α} {k j : Nat} {v : α} (h : j ≠ k) : va_up f k v j = f j := by unfold va_up; rw [if_neg h]
theorem am_up_eq {α : Type} {f : Nat → α} {k : Nat} {v : α} : va_up f k v k = v := by unfold va_up; rw [if_pos rfl]
theorem am_e_row {w : am_W} {ad : Nat → Nat} {G G' : am_G} {q : Nat} (h1 : G'.1[q]? = G.1[q]?) (h2 : G'.2.1 q = G.2.1 q) (h3 : G'.2.2 q = G.2.2 q) : am_e w ad G' q = am_e w ad G q := by
  unfold am_e am_fv
  rw [h1, h2, h3]
theorem am_e_obj {w : am_W} {ad : Nat → Nat} {G : am_G} {i ci : Nat} (h : G.1[i]? = some (0, ci)) : am_e w ad G i = .inr (ci, (List.range (am_N ci)).map (am_fv ad G i ci)) := by
  unfold am_e; rw [h]
theorem am_e_int {w : am_W} {ad : Nat → Nat} {G : am_G} {i x : Nat} (h : G.1[i]? = some (1, x)) : am_e w ad G i = .inl (w.2.2.1 0, x, .inl (G.2.1 i)) := by
  unfold am_e; rw [h]
theorem am_e_bool {w : am_W} {ad : Nat → Nat} {G : am_G} {i x : Nat} (h : G.1[i]? = some (2, x)) : am_e w ad G i = .inl (w.2.2.1 1, x, .inl (G.2.1 i)) := by
  unfold am_e; rw [h]
theorem am_e_ref {w : am_W} {ad : Nat → Nat} {G : am_G} {i t x : Nat} (h : G.1[i]? = some (t + 3, x)) : am_e w ad G i = .inl (w.2.2.1 (2 + t), x, .inr (.inr (.inr (.inr (fun j => (G.2.2 i j).map ad))))) := by
  unfold am_e; rw [h]
theorem am_tys_r {w : am_W} {t : Nat} (h : t < am_nrc) : (am_tys w)[2 + t]? = some (w.2.2.1 (2 + t), .object (am_rc t)) := by
  have g : (am_tys w)[t + 1 + 1]? = some (w.2.2.1 (2 + t), .object (am_rc t)) := by
    unfold am_tys
    rw [List.getElem?_cons_succ, List.getElem?_cons_succ, List.getElem?_map, List.getElem?_range h]
    rfl
  exact (congrArg (fun q => (am_tys w)[q]?) (show 2 + t = t + 1 + 1 by omega)).trans g
theorem am_fs {ad : Nat → Nat} {G : am_G} {i ci k N : Nat} (hk : k < N) : ((List.range N).map (am_fv ad G i ci))[k]? = some (am_fv ad G i ci k) := by
  rw [List.getElem?_map, List.getElem?_range hk]; rfl
theorem am_fs_set {ad : Nat → Nat} {G G' : am_G} {i ci k N : Nat} {v : Value} (hk : k < N) (h : am_fv ad G' i ci k = v) (ho : ∀ q, q ≠ k → am_fv ad G' i ci q = am_fv ad G i ci q) : ((List.range N).map (am_fv ad G i ci)).set k v = (List.range N).map (am_fv ad G' i ci) := by
  apply List.ext_getElem?
  intro q
  rw [List.getElem?_set]
  by_cases hq : q < N
  · rw [am_fs (G := G') hq]
    by_cases e : k = q
    · subst e
      rw [if_pos rfl, if_pos (by simpa using hk), h]
    · rw [if_neg e, am_fs hq, ho q (fun h => e h.symm)]
  · have e : ¬ k = q := by omega
    rw [if_neg e, List.getElem?_eq_none (by simp; omega), List.getElem?_eq_none (by simp; omega)]
/-- a field by its pool entry: class ci, field k -/
def am_Fl (own : String) (idx ci k : Nat) : Prop := ∃ (C : String) (T : u_T) (N : Nat), am_cl[ci]? = some (C, T, N) ∧ k < N ∧ (∀ w ∈ u_ws C T N, w ∈ am_T) ∧ Cond.fieldLink own idx (T k).1 (T k).2.1 (T k).2.2.1 ∈ am_T ∧
  (∀ q, q < N → parseFieldDescriptor (T q).2.2.1 = some (am_ft ci q)) ∧ (∀ a, a < N → ∀ b, b < N → a ≠ b → (T a).2.1 ≠ (T b).2.1)
section AmRows
variable {w : am_W} {j d : Nat} {k : Nat × Nat} {pc : Nat} {L : List (Option am_V)} {st : List am_V} {G : am_G} {P : Option am_V → am_G → Prop}
theorem go_pure {pc2 : Nat} {st2 : List am_V}
    (hW : ∀ (p : Program) (l : Launch) (e : Env) (R : Room) (s : State) (m : MethodId) (args : Array Value) (below : List Frame) (meth : Method) (c : Code) (H : Heap) (locs : List Loc) (cells slots : Nat) (Q : State → Prop) (ls : Array Slot) (ad : Nat → Nat),
      p.tables.exec = Jvm.exec → c.code = am_by j → W p l e R s m args below meth c H locs cells slots Q (F0 m pc2 ls (st2.map (am_v ad))) → W p l e R s m args below meth c H locs cells slots Q (F0 m pc ls (st.map (am_v ad))))
    (hv : ∀ n, am_vS n st → am_vS n st2) (kk : am_Go w j d k pc2 L st2 G P) : am_Go w j d k pc L st G P := by
  intro p e R s m args below meth c ad0 ad H locs cells slots ls Q n0 C hR hS hl hL vL vS hc hs hn hx hE
  exact hW _ _ _ _ _ _ _ _ _ _ _ _ _ _ _ _ ad C.exec C.byt (kk p e R s m args below meth c ad0 ad H locs cells slots ls Q n0 C hR hS hl hL vL (hv _ vS) hc hs hn hx hE)
theorem go_iconst {n : Int} (v : Int32) (hv : Int32.ofInt n = v) (h : decode (am_by j) pc = .ok (.iconst n, 1)) (kk : am_Go w j d k (pc + 1) L (.inl v :: st) G P) : am_Go w j d k pc L st G P :=
  go_pure (fun _ _ _ _ _ _ _ _ _ _ _ _ _ _ _ _ _ hx hb q => lv_iconst hx hb h hv q) (fun _ v => v.i) kk
theorem go_bipush {n : Int} (v : Int32) (hv : (Int8.ofInt n).toInt32 = v) (h : decode (am_by j) pc = .ok (.bipush n, 2)) (kk : am_Go w j d k (pc + 2) L (.inl v :: st) G P) : am_Go w j d k pc L st G P :=
  go_pure (fun _ _ _ _ _ _ _ _ _ _ _ _ _ _ _ _ _ hx hb q => lv_bipush hx hb h hv q) (fun _ v => v.i) kk
theorem go_sipush {n : Int} (v : Int32) (hv : (Int16.ofInt n).toInt32 = v) (h : decode (am_by j) pc = .ok (.sipush n, 3)) (kk : am_Go w j d k (pc + 3) L (.inl v :: st) G P) : am_Go w j d k pc L st G P :=
  go_pure (fun _ _ _ _ _ _ _ _ _ _ _ _ _ _ _ _ _ hx hb q => lv_sipush hx hb h hv q) (fun _ v => v.i) kk
theorem go_null (h : decode (am_by j) pc = .ok (.aconst_null, 1)) (kk : am_Go w j d k (pc + 1) L (.inr none :: st) G P) : am_Go w j d k pc L st G P :=
  go_pure (fun _ _ _ _ _ _ _ _ _ _ _ _ _ _ _ _ _ hx hb q => lv_null hx hb h q) (fun _ v => v.nl) kk
section Bin
variable {x y : Int32}
theorem go_iadd (h : decode (am_by j) pc = .ok (.iadd, 1)) (kk : am_Go w j d k (pc + 1) L (.inl (x + y) :: st) G P) : am_Go w j d k pc L (.inl y :: .inl x :: st) G P :=
  go_pure (fun _ _ _ _ _ _ _ _ _ _ _ _ _ _ _ _ _ hx hb q => lv_iadd hx hb h q) (fun _ v => v.tl.tl.i) kk
theorem go_isub (h : decode (am_by j) pc = .ok (.isub, 1)) (kk : am_Go w j d k (pc + 1) L (.inl (x - y) :: st) G P) : am_Go w j d k pc L (.inl y :: .inl x :: st) G P :=
  go_pure (fun _ _ _ _ _ _ _ _ _ _ _ _ _ _ _ _ _ hx hb q => lv_isub hx hb h q) (fun _ v => v.tl.tl.i) kk
theorem go_imul (h : decode (am_by j) pc = .ok (.imul, 1)) (kk : am_Go w j d k (pc + 1) L (.inl (x * y) :: st) G P) : am_Go w j d k pc L (.inl y :: .inl x :: st) G P :=
  go_pure (fun _ _ _ _ _ _ _ _ _ _ _ _ _ _ _ _ _ hx hb q => lv_imul hx hb h q) (fun _ v => v.tl.tl.i) kk
theorem go_iand (h : decode (am_by j) pc = .ok (.iand, 1)) (kk : am_Go w j d k (pc + 1) L (.inl (x &&& y) :: st) G P) : am_Go w j d k pc L (.inl y :: .inl x :: st) G P :=
  go_pure (fun _ _ _ _ _ _ _ _ _ _ _ _ _ _ _ _ _ hx hb q => lv_iand hx hb h q) (fun _ v => v.tl.tl.i) kk
theorem go_ior (h : decode (am_by j) pc = .ok (.ior, 1)) (kk : am_Go w j d k (pc + 1) L (.inl (x ||| y) :: st) G P) : am_Go w j d k pc L (.inl y :: .inl x :: st) G P :=
  go_pure (fun _ _ _ _ _ _ _ _ _ _ _ _ _ _ _ _ _ hx hb q => lv_ior hx hb h q) (fun _ v => v.tl.tl.i) kk
theorem go_ishl (h : decode (am_by j) pc = .ok (.ishl, 1)) (kk : am_Go w j d k (pc + 1) L (.inl (x <<< (y &&& 31)) :: st) G P) : am_Go w j d k pc L (.inl y :: .inl x :: st) G P :=
  go_pure (fun _ _ _ _ _ _ _ _ _ _ _ _ _ _ _ _ _ hx hb q => lv_ishl hx hb h q) (fun _ v => v.tl.tl.i) kk
theorem go_ishr (h : decode (am_by j) pc = .ok (.ishr, 1)) (kk : am_Go w j d k (pc + 1) L (.inl (x >>> (y &&& 31)) :: st) G P) : am_Go w j d k pc L (.inl y :: .inl x :: st) G P :=
  go_pure (fun _ _ _ _ _ _ _ _ _ _ _ _ _ _ _ _ _ hx hb q => lv_ishr hx hb h q) (fun _ v => v.tl.tl.i) kk
theorem go_idiv (hne : ¬ y = 0) (h : decode (am_by j) pc = .ok (.idiv, 1)) (kk : am_Go w j d k (pc + 1) L (.inl (x / y) :: st) G P) : am_Go w j d k pc L (.inl y :: .inl x :: st) G P :=
  go_pure (fun _ _ _ _ _ _ _ _ _ _ _ _ _ _ _ _ _ hx hb q => lv_idiv hx hb h hne q) (fun _ v => v.tl.tl.i) kk
theorem go_ineg (h : decode (am_by j) pc = .ok (.ineg, 1)) (kk : am_Go w j d k (pc + 1) L (.inl (-x) :: st) G P) : am_Go w j d k pc L (.inl x :: st) G P :=
  go_pure (fun _ _ _ _ _ _ _ _ _ _ _ _ _ _ _ _ _ hx hb q => lv_ineg hx hb h q) (fun _ v => v.tl.i) kk
end Bin
section Stk
variable {a b : am_V}
theorem go_dup (h : decode (am_by j) pc = .ok (.dup, 1)) (kk : am_Go w j d k (pc + 1) L (a :: a :: st) G P) : am_Go w j d k pc L (a :: st) G P :=
  go_pure (fun _ _ _ _ _ _ _ _ _ _ _ _ _ _ _ _ ad hx hb q => lv_dup hx hb h (am_cat ad a) q) (fun _ v => v.cons v.hd) kk
theorem go_pop (h : decode (am_by j) pc = .ok (.pop, 1)) (kk : am_Go w j d k (pc + 1) L st G P) : am_Go w j d k pc L (a :: st) G P :=
  go_pure (fun _ _ _ _ _ _ _ _ _ _ _ _ _ _ _ _ ad hx hb q => lv_pop hx hb h (am_cat ad a) q) (fun _ v => v.tl) kk
theorem go_dup_x1 (h : decode (am_by j) pc = .ok (.dup_x1, 1)) (kk : am_Go w j d k (pc + 1) L (a :: b :: a :: st) G P) : am_Go w j d k pc L (a :: b :: st) G P :=
  go_pure (fun _ _ _ _ _ _ _ _ _ _ _ _ _ _ _ _ ad hx hb q => lv_dup_x1 hx hb h (am_cat ad a) (am_cat ad b) q) (fun _ v => ((v.tl.tl.cons v.hd).cons v.tl.hd).cons v.hd) kk
theorem go_dup2 (h : decode (am_by j) pc = .ok (.dup2, 1)) (kk : am_Go w j d k (pc + 1) L (a :: b :: a :: b :: st) G P) : am_Go w j d k pc L (a :: b :: st) G P :=
  go_pure (fun _ _ _ _ _ _ _ _ _ _ _ _ _ _ _ _ ad hx hb q => lv_dup2_11 hx hb h (am_cat ad a) (am_cat ad b) q) (fun _ v => (v.cons v.tl.hd).cons v.hd) kk
end Stk
theorem go_goto {off : Int} {tgt : Nat} (h : decode (am_by j) pc = .ok (.goto off, 3)) (ht : (pc : Int) + off = (tgt : Int)) (kk : am_Go w j d k tgt L st G P) : am_Go w j d k pc L st G P :=
  go_pure (fun _ _ _ _ _ _ _ _ _ _ _ _ _ _ _ _ _ hx hb q => lv_goto hx hb h ht q) (fun _ v => v) kk
/-- branches -/
theorem go_br {st2 : List am_V} {cT cF : Prop} {tgt : Nat}
    (hW : ∀ (p : Program) (l : Launch) (e : Env) (R : Room) (s : State) (m : MethodId) (args : Array Value) (below : List Frame) (meth : Method) (c : Code) (H : Heap) (locs : List Loc) (cells slots : Nat) (Q : State → Prop) (ls : Array Slot) (ad : Nat → Nat),
      p.tables.exec = Jvm.exec → c.code = am_by j → (cT → W p l e R s m args below meth c H locs cells slots Q (F0 m tgt ls (st2.map (am_v ad)))) → (cF → W p l e R s m args below meth c H locs cells slots Q (F0 m (pc + 3) ls (st2.map (am_v ad)))) → W p l e R s m args below meth c H locs cells slots Q (F0 m pc ls (st.map (am_v ad))))
    (hv : ∀ n, am_vS n st → am_vS n st2) (kt : cT → am_Go w j d k tgt L st2 G P) (kf : cF → am_Go w j d k (pc + 3) L st2 G P) : am_Go w j d k pc L st G P := by
  intro p e R s m args below meth c ad0 ad H locs cells slots ls Q n0 C hR hS hl hL vL vS hc hs hn hx hE
  exact hW _ _ _ _ _ _ _ _ _ _ _ _ _ _ _ _ ad C.exec C.byt (fun q => kt q p e R s m args below meth c ad0 ad H locs cells slots ls Q n0 C hR hS hl hL vL (hv _ vS) hc hs hn hx hE) (fun q => kf q p e R s m args below meth c ad0 ad H locs cells slots ls Q n0 C hR hS hl hL vL (hv _ vS) hc hs hn hx hE)
section Brs
variable {x y : Int32} {off : Int} {tgt : Nat}
theorem go_if_eq (h : decode (am_by j) pc = .ok (.ifCond .eq off, 3)) (ht : (pc : Int) + off = (tgt : Int)) (kt : x = 0 → am_Go w j d k tgt L st G P) (kf : ¬ x = 0 → am_Go w j d k (pc + 3) L st G P) : am_Go w j d k pc L (.inl x :: st) G P :=
  go_br (fun _ _ _ _ _ _ _ _ _ _ _ _ _ _ _ _ _ hx hb q1 q2 => lv_if_eq hx hb h ht q1 q2) (fun _ v => v.tl) kt kf
theorem go_icmp_eq (h : decode (am_by j) pc = .ok (.if_icmp .eq off, 3)) (ht : (pc : Int) + off = (tgt : Int)) (kt : x = y → am_Go w j d k tgt L st G P) (kf : ¬ x = y → am_Go w j d k (pc + 3) L st G P) : am_Go w j d k pc L (.inl y :: .inl x :: st) G P :=
  go_br (fun _ _ _ _ _ _ _ _ _ _ _ _ _ _ _ _ _ hx hb q1 q2 => lv_icmp_eq hx hb h ht q1 q2) (fun _ v => v.tl.tl) kt kf
theorem go_if_ne (h : decode (am_by j) pc = .ok (.ifCond .ne off, 3)) (ht : (pc : Int) + off = (tgt : Int)) (kt : ¬ x = 0 → am_Go w j d k tgt L st G P) (kf : x = 0 → am_Go w j d k (pc + 3) L st G P) : am_Go w j d k pc L (.inl x :: st) G P :=
  go_br (fun _ _ _ _ _ _ _ _ _ _ _ _ _ _ _ _ _ hx hb q1 q2 => lv_if_ne hx hb h ht q1 q2) (fun _ v => v.tl) kt kf
theorem go_icmp_ne (h : decode (am_by j) pc = .ok (.if_icmp .ne off, 3)) (ht : (pc : Int) + off = (tgt : Int)) (kt : ¬ x = y → am_Go w j d k tgt L st G P) (kf : x = y → am_Go w j d k (pc + 3) L st G P) : am_Go w j d k pc L (.inl y :: .inl x :: st) G P :=
  go_br (fun _ _ _ _ _ _ _ _ _ _ _ _ _ _ _ _ _ hx hb q1 q2 => lv_icmp_ne hx hb h ht q1 q2) (fun _ v => v.tl.tl) kt kf
theorem go_if_lt (h : decode (am_by j) pc = .ok (.ifCond .lt off, 3)) (ht : (pc : Int) + off = (tgt : Int)) (kt : x < 0 → am_Go w j d k tgt L st G P) (kf : ¬ x < 0 → am_Go w j d k (pc + 3) L st G P) : am_Go w j d k pc L (.inl x :: st) G P :=
  go_br (fun _ _ _ _ _ _ _ _ _ _ _ _ _ _ _ _ _ hx hb q1 q2 => lv_if_lt hx hb h ht q1 q2) (fun _ v => v.tl) kt kf
theorem go_icmp_lt (h : decode (am_by j) pc = .ok (.if_icmp .lt off, 3)) (ht : (pc : Int) + off = (tgt : Int)) (kt : x < y → am_Go w j d k tgt L st G P) (kf : ¬ x < y → am_Go w j d k (pc + 3) L st G P) : am_Go w j d k pc L (.inl y :: .inl x :: st) G P :=
  go_br (fun _ _ _ _ _ _ _ _ _ _ _ _ _ _ _ _ _ hx hb q1 q2 => lv_icmp_lt hx hb h ht q1 q2) (fun _ v => v.tl.tl) kt kf
theorem go_if_ge (h : decode (am_by j) pc = .ok (.ifCond .ge off, 3)) (ht : (pc : Int) + off = (tgt : Int)) (kt : 0 ≤ x → am_Go w j d k tgt L st G P) (kf : ¬ 0 ≤ x → am_Go w j d k (pc + 3) L st G P) : am_Go w j d k pc L (.inl x :: st) G P :=
  go_br (fun _ _ _ _ _ _ _ _ _ _ _ _ _ _ _ _ _ hx hb q1 q2 => lv_if_ge hx hb h ht q1 q2) (fun _ v => v.tl) kt kf
theorem go_icmp_ge (h : decode (am_by j) pc = .ok (.if_icmp .ge off, 3)) (ht : (pc : Int) + off = (tgt : Int)) (kt : y ≤ x → am_Go w j d k tgt L st G P) (kf : ¬ y ≤ x → am_Go w j d k (pc + 3) L st G P) : am_Go w j d k pc L (.inl y :: .inl x :: st) G P :=
  go_br (fun _ _ _ _ _ _ _ _ _ _ _ _ _ _ _ _ _ hx hb q1 q2 => lv_icmp_ge hx hb h ht q1 q2) (fun _ v => v.tl.tl) kt kf
theorem go_if_gt (h : decode (am_by j) pc = .ok (.ifCond .gt off, 3)) (ht : (pc : Int) + off = (tgt : Int)) (kt : 0 < x → am_Go w j d k tgt L st G P) (kf : ¬ 0 < x → am_Go w j d k (pc + 3) L st G P) : am_Go w j d k pc L (.inl x :: st) G P :=
  go_br (fun _ _ _ _ _ _ _ _ _ _ _ _ _ _ _ _ _ hx hb q1 q2 => lv_if_gt hx hb h ht q1 q2) (fun _ v => v.tl) kt kf
theorem go_icmp_gt (h : decode (am_by j) pc = .ok (.if_icmp .gt off, 3)) (ht : (pc : Int) + off = (tgt : Int)) (kt : y < x → am_Go w j d k tgt L st G P) (kf : ¬ y < x → am_Go w j d k (pc + 3) L st G P) : am_Go w j d k pc L (.inl y :: .inl x :: st) G P :=
  go_br (fun _ _ _ _ _ _ _ _ _ _ _ _ _ _ _ _ _ hx hb q1 q2 => lv_icmp_gt hx hb h ht q1 q2) (fun _ v => v.tl.tl) kt kf
theorem go_if_le (h : decode (am_by j) pc = .ok (.ifCond .le off, 3)) (ht : (pc : Int) + off = (tgt : Int)) (kt : x ≤ 0 → am_Go w j d k tgt L st G P) (kf : ¬ x ≤ 0 → am_Go w j d k (pc + 3) L st G P) : am_Go w j d k pc L (.inl x :: st) G P :=
  go_br (fun _ _ _ _ _ _ _ _ _ _ _ _ _ _ _ _ _ hx hb q1 q2 => lv_if_le hx hb h ht q1 q2) (fun _ v => v.tl) kt kf
theorem go_icmp_le (h : decode (am_by j) pc = .ok (.if_icmp .le off, 3)) (ht : (pc : Int) + off = (tgt : Int)) (kt : x ≤ y → am_Go w j d k tgt L st G P) (kf : ¬ x ≤ y → am_Go w j d k (pc + 3) L st G P) : am_Go w j d k pc L (.inl y :: .inl x :: st) G P :=
  go_br (fun _ _ _ _ _ _ _ _ _ _ _ _ _ _ _ _ _ hx hb q1 q2 => lv_icmp_le hx hb h ht q1 q2) (fun _ v => v.tl.tl) kt kf
end Brs
/-- loads and stores of locals -/
theorem am_rfv {ad : Nat → Nat} {r : Option Nat} : am_v ad (.inr r) = .null ∨ ∃ a, am_v ad (.inr r) = .ref a := va_rf_or _
theorem go_ld {i len : Nat} {v : am_V} (hi : L[i]? = some (some v))
    (hW : ∀ (p : Program) (l : Launch) (e : Env) (R : Room) (s : State) (m : MethodId) (args : Array Value) (below : List Frame) (meth : Method) (c : Code) (H : Heap) (locs : List Loc) (cells slots : Nat) (Q : State → Prop) (ls : Array Slot) (ad : Nat → Nat),
      p.tables.exec = Jvm.exec → c.code = am_by j → ls[i]? = some (.val (am_v ad v)) → W p l e R s m args below meth c H locs cells slots Q (F0 m (pc + len) ls (am_v ad v :: st.map (am_v ad))) → W p l e R s m args below meth c H locs cells slots Q (F0 m pc ls (st.map (am_v ad))))
    (kk : am_Go w j d k (pc + len) L (v :: st) G P) : am_Go w j d k pc L st G P := by
  intro p e R s m args below meth c ad0 ad H locs cells slots ls Q n0 C hR hS hl hL vL vS hc hs hn hx hE
  exact hW _ _ _ _ _ _ _ _ _ _ _ _ _ _ _ _ ad C.exec C.byt (hl.at hi) (kk p e R s m args below meth c ad0 ad H locs cells slots ls Q n0 C hR hS hl hL vL (vS.cons (vL i v hi)) hc hs hn hx hE)
theorem go_iload_n {n : Fin 4} {i : Nat} {x : Int32} (h : decode (am_by j) pc = .ok (.iload_n n, 1)) (e : (n : Nat) = i) (hi : L[i]? = some (some (.inl x))) (kk : am_Go w j d k (pc + 1) L (.inl x :: st) G P) : am_Go w j d k pc L st G P :=
  go_ld hi (fun _ _ _ _ _ _ _ _ _ _ _ _ _ _ _ _ _ hx hb hl q => lv_iload_n hx hb h e hl q) kk
theorem go_iload {i : Nat} {x : Int32} (h : decode (am_by j) pc = .ok (.iload i, 2)) (hi : L[i]? = some (some (.inl x))) (kk : am_Go w j d k (pc + 2) L (.inl x :: st) G P) : am_Go w j d k pc L st G P :=
  go_ld hi (fun _ _ _ _ _ _ _ _ _ _ _ _ _ _ _ _ _ hx hb hl q => lv_iload hx hb h hl q) kk
theorem go_aload_n {n : Fin 4} {i : Nat} {r : Option Nat} (h : decode (am_by j) pc = .ok (.aload_n n, 1)) (e : (n : Nat) = i) (hi : L[i]? = some (some (.inr r))) (kk : am_Go w j d k (pc + 1) L (.inr r :: st) G P) : am_Go w j d k pc L st G P :=
  go_ld hi (fun _ _ _ _ _ _ _ _ _ _ _ _ _ _ _ _ ad hx hb hl q => by
    rcases am_rfv (ad := ad) (r := r) with g | ⟨a, g⟩
    · rw [g] at hl q; exact lv_aload_nN hx hb h e hl q
    · rw [g] at hl q; exact lv_aload_n hx hb h e hl q) kk
theorem go_aload {i : Nat} {r : Option Nat} (h : decode (am_by j) pc = .ok (.aload i, 2)) (hi : L[i]? = some (some (.inr r))) (kk : am_Go w j d k (pc + 2) L (.inr r :: st) G P) : am_Go w j d k pc L st G P :=
  go_ld hi (fun _ _ _ _ _ _ _ _ _ _ _ _ _ _ _ _ ad hx hb hl q => by
    rcases am_rfv (ad := ad) (r := r) with g | ⟨a, g⟩
    · rw [g] at hl q; exact lv_aloadN hx hb h hl q
    · rw [g] at hl q; exact lv_aload hx hb h hl q) kk
theorem go_sto {i len : Nat} {v : am_V}
    (hW : ∀ (p : Program) (l : Launch) (e : Env) (R : Room) (s : State) (m : MethodId) (args : Array Value) (below : List Frame) (meth : Method) (c : Code) (H : Heap) (locs : List Loc) (cells slots : Nat) (Q : State → Prop) (ls : Array Slot) (ad : Nat → Nat) (nL : Nat) (lv : List (Nat × Value)),
      p.tables.exec = Jvm.exec → c.code = am_by j → lv_has ls nL lv → i < nL → (∀ ls' : Array Slot, lv_has ls' nL ((i, am_v ad v) :: lv.filter (fun q => !(q.1 == i) && !(q.1 + 1 == i && q.2.category == 2))) → W p l e R s m args below meth c H locs cells slots Q (F0 m (pc + len) ls' (st.map (am_v ad)))) → W p l e R s m args below meth c H locs cells slots Q (F0 m pc ls (am_v ad v :: st.map (am_v ad))))
    (hi : i < L.length) (kk : am_Go w j d k (pc + len) (L.set i (some v)) st G P) : am_Go w j d k pc L (v :: st) G P := by
  intro p e R s m args below meth c ad0 ad H locs cells slots ls Q n0 C hR hS hl hL vL vS hc hs hn hx hE
  exact hW _ _ _ _ _ _ _ _ _ _ _ _ _ _ _ _ ad L.length (am_lv ad L) C.exec C.byt hl hi (fun ls' hl' => kk p e R s m args below meth c ad0 ad H locs cells slots ls' Q n0 C hR hS (am_Ls.st rfl hl') (by rw [List.length_set]; exact hL) (vL.set vS.hd) vS.tl hc hs hn hx hE)
theorem go_istore_n {n : Fin 4} {i : Nat} {x : Int32} (h : decode (am_by j) pc = .ok (.istore_n n, 1)) (e : (n : Nat) = i) (hi : i < L.length) (kk : am_Go w j d k (pc + 1) (L.set i (some (.inl x))) st G P) : am_Go w j d k pc L (.inl x :: st) G P :=
  go_sto (fun _ _ _ _ _ _ _ _ _ _ _ _ _ _ _ _ _ _ _ hx hb hl hi q => lv_istore_n hx hb h e hl hi rfl q) hi kk
theorem go_istore {i : Nat} {x : Int32} (h : decode (am_by j) pc = .ok (.istore i, 2)) (hi : i < L.length) (kk : am_Go w j d k (pc + 2) (L.set i (some (.inl x))) st G P) : am_Go w j d k pc L (.inl x :: st) G P :=
  go_sto (fun _ _ _ _ _ _ _ _ _ _ _ _ _ _ _ _ _ _ _ hx hb hl hi q => lv_istore hx hb h hl hi rfl q) hi kk
theorem go_astore_n {n : Fin 4} {i : Nat} {r : Option Nat} (h : decode (am_by j) pc = .ok (.astore_n n, 1)) (e : (n : Nat) = i) (hi : i < L.length) (kk : am_Go w j d k (pc + 1) (L.set i (some (.inr r))) st G P) : am_Go w j d k pc L (.inr r :: st) G P :=
  go_sto (fun _ _ _ _ _ _ _ _ _ _ _ _ _ _ _ _ ad _ _ hx hb hl hi q => by
    rcases am_rfv (ad := ad) (r := r) with g | ⟨a, g⟩
    · rw [g] at q ⊢; exact lv_astore_nN hx hb h e hl hi rfl q
    · rw [g] at q ⊢; exact lv_astore_n hx hb h e hl hi rfl q) hi kk
theorem go_astore {i : Nat} {r : Option Nat} (h : decode (am_by j) pc = .ok (.astore i, 2)) (hi : i < L.length) (kk : am_Go w j d k (pc + 2) (L.set i (some (.inr r))) st G P) : am_Go w j d k pc L (.inr r :: st) G P :=
  go_sto (fun _ _ _ _ _ _ _ _ _ _ _ _ _ _ _ _ ad _ _ hx hb hl hi q => by
    rcases am_rfv (ad := ad) (r := r) with g | ⟨a, g⟩
    · rw [g] at q ⊢; exact lv_astoreN hx hb h hl hi rfl q
    · rw [g] at q ⊢; exact lv_astore hx hb h hl hi rfl q) hi kk
theorem go_iinc {i : Nat} {n : Int} {x : Int32} (h : decode (am_by j) pc = .ok (.iinc i n, 3)) (hi : L[i]? = some (some (.inl x))) (kk : am_Go w j d k (pc + 3) (L.set i (some (.inl (x + Int32.ofInt n)))) st G P) : am_Go w j d k pc L st G P := by
  intro p e R s m args below meth c ad0 ad H locs cells slots ls Q n0 C hR hS hl hL vL vS hc hs hn hx hE
  obtain ⟨q, hq⟩ := List.getElem?_of_mem (am_lv_mem.mpr ⟨_, hi, rfl⟩ : (i, am_v ad (.inl x)) ∈ am_lv ad L)
  exact lv_iinc C.exec C.byt h hl (k := q) hq rfl (List.getElem?_eq_some_iff.mp hi).1 rfl (fun ls' hl' => kk p e R s m args below meth c ad0 ad H locs cells slots ls' Q n0 C hR hS (am_Ls.st (v := .inl (x + Int32.ofInt n)) rfl hl') (by rw [List.length_set]; exact hL) (vL.set trivial) vS hc hs hn hx hE)
/-- null tests -/
theorem go_ifnull {off : Int} {tgt : Nat} {r : Option Nat} (h : decode (am_by j) pc = .ok (.ifnull off, 3)) (ht : (pc : Int) + off = (tgt : Int)) (kt : r = none → am_Go w j d k tgt L st G P) (kf : ¬ r = none → am_Go w j d k (pc + 3) L st G P) : am_Go w j d k pc L (.inr r :: st) G P := by
  cases r with
  | none => exact go_pure (fun _ _ _ _ _ _ _ _ _ _ _ _ _ _ _ _ _ hx hb q => lv_ifnullN hx hb h ht q) (fun _ v => v.tl) (kt rfl)
  | some a => exact go_pure (fun _ _ _ _ _ _ _ _ _ _ _ _ _ _ _ _ _ hx hb q => lv_ifnull hx hb h q) (fun _ v => v.tl) (kf (fun h => by cases h))
theorem go_ifnonnull {off : Int} {tgt : Nat} {r : Option Nat} (h : decode (am_by j) pc = .ok (.ifnonnull off, 3)) (ht : (pc : Int) + off = (tgt : Int)) (kt : ¬ r = none → am_Go w j d k tgt L st G P) (kf : r = none → am_Go w j d k (pc + 3) L st G P) : am_Go w j d k pc L (.inr r :: st) G P := by
  cases r with
  | none => exact go_pure (fun _ _ _ _ _ _ _ _ _ _ _ _ _ _ _ _ _ hx hb q => lv_ifnonnullN hx hb h q) (fun _ v => v.tl) (kf rfl)
  | some a => exact go_pure (fun _ _ _ _ _ _ _ _ _ _ _ _ _ _ _ _ _ hx hb q => lv_ifnonnull hx hb h ht q) (fun _ v => v.tl) (kt (fun h => by cases h))
/-- switches -/
theorem go_lookup {dflt : Int} {ps : Array (Int × Int)} {len : Nat} {x : Int32} {off : Int} {tgt : Nat} (h : decode (am_by j) pc = .ok (.lookupswitch dflt ps, len)) (hp : (ps.toList.zip (ps.toList.drop 1)).all (fun (a, next) => a.1 < next.1) = true) (ho : Op.lookupswitch.offset ps.toList dflt x.toInt = off) (ht : (pc : Int) + off = (tgt : Int)) (kk : am_Go w j d k tgt L st G P) : am_Go w j d k pc L (.inl x :: st) G P :=
  go_pure (fun _ _ _ _ _ _ _ _ _ _ _ _ _ _ _ _ _ hx hb q => lv_lookup hx hb h hp ho ht q) (fun _ v => v.tl) kk
theorem go_tableOut {dflt lo hi : Int} {offs : Array Int} {len : Nat} {x : Int32} {tgt : Nat} (h : decode (am_by j) pc = .ok (.tableswitch dflt lo hi offs, len)) (ho : x.toInt < lo ∨ hi < x.toInt) (ht : (pc : Int) + dflt = (tgt : Int)) (kk : am_Go w j d k tgt L st G P) : am_Go w j d k pc L (.inl x :: st) G P :=
  go_pure (fun _ _ _ _ _ _ _ _ _ _ _ _ _ _ _ _ _ hx hb q => lv_tableOut hx hb h ho ht q) (fun _ v => v.tl) kk
theorem go_tableIn {dflt lo hi : Int} {offs : Array Int} {len : Nat} {x : Int32} {off : Int} {tgt : Nat} (h : decode (am_by j) pc = .ok (.tableswitch dflt lo hi offs, len)) (h1 : ¬ x.toInt < lo) (h2 : ¬ hi < x.toInt) (ho : offs[(x.toInt - lo).toNat]? = some off) (ht : (pc : Int) + off = (tgt : Int)) (kk : am_Go w j d k tgt L st G P) : am_Go w j d k pc L (.inl x :: st) G P :=
  go_pure (fun _ _ _ _ _ _ _ _ _ _ _ _ _ _ _ _ _ hx hb q => lv_tableIn hx hb h h1 h2 ho ht q) (fun _ v => v.tl) kk
/-- returns -/
theorem go_ret {r : Option am_V} (hr : am_retAt j pc r) (hp : P r G) : am_Go w j d k pc L r.toList G P := by
  intro p e R s m args below meth c ad0 ad H locs cells slots ls Q n0 C hR hS hl hL vL vS hc hs hn hx hE
  exact W.widen (by omega) (by omega) (hE r G ad H locs pc ls hp hR hS hn hx (fun v hv => vS v (by rw [hv]; exact List.mem_cons_self)) hr)
theorem go_ireturn {x : Int32} (hr : am_ret j = some .int) (h : decode (am_by j) pc = .ok (.ireturn, 1)) (hp : P (some (.inl x)) G) : am_Go w j d k pc L [.inl x] G P := go_ret (r := some (.inl x)) (Or.inl ⟨h, x, .int, rfl, hr, rfl⟩) hp
theorem go_zreturn {x : Int32} (hr : am_ret j = some .boolean) (hz : x = 0 ∨ x = 1) (h : decode (am_by j) pc = .ok (.ireturn, 1)) (hp : P (some (.inl x)) G) : am_Go w j d k pc L [.inl x] G P := go_ret (r := some (.inl x)) (Or.inl ⟨h, x, .boolean, rfl, hr, by rcases hz with rfl | rfl <;> decide⟩) hp
theorem go_areturn {x : Option Nat} {ty : FieldType} (hr : am_ret j = some ty) (ht : refKind ty = true) (h : decode (am_by j) pc = .ok (.areturn, 1)) (hp : P (some (.inr x)) G) : am_Go w j d k pc L [.inr x] G P := go_ret (r := some (.inr x)) (Or.inr (Or.inl ⟨h, x, ty, rfl, hr, ht⟩)) hp
theorem go_return (hr : am_ret j = none) (h : decode (am_by j) pc = .ok (.return_, 1)) (hp : P none G) : am_Go w j d k pc L [] G P := go_ret (r := none) (Or.inr (Or.inr ⟨h, rfl, hr⟩)) hp
/-- the consequence -/
theorem go_post {P' : Option am_V → am_G → Prop} (kk : am_Go w j d k pc L st G P') (h : ∀ r G', P' r G' → P r G') : am_Go w j d k pc L st G P := by
  intro p e R s m args below meth c ad0 ad H locs cells slots ls Q n0 C hR hS hl hL vL vS hc hs hn hx hE
  exact kk p e R s m args below meth c ad0 ad H locs cells slots ls Q n0 C hR hS hl hL vL vS hc hs hn hx (fun r G' ad' H' locs' pc' ls' hp => hE r G' ad' H' locs' pc' ls' (h r G' hp))
/-- less is known of the locals -/
theorem go_locals {L' : List (Option am_V)} (hlen : L'.length = L.length) (h : ∀ (i : Nat) (v : am_V), L'[i]? = some (some v) → L[i]? = some (some v)) (kk : am_Go w j d k pc L' st G P) : am_Go w j d k pc L st G P := by
  intro p e R s m args below meth c ad0 ad H locs cells slots ls Q n0 C hR hS hl hL vL vS hc hs hn hx hE
  exact kk p e R s m args below meth c ad0 ad H locs cells slots ls Q n0 C hR hS ⟨by rw [hlen]; exact hl.1, hl.2.1, fun q hq => by
    obtain ⟨v, h1, h2⟩ := am_lv_mem.mp hq
    exact hl.2.2 q (am_lv_mem.mpr ⟨v, h _ _ h1, h2⟩)⟩ (by rw [hlen]; exact hL) (fun i v hi => vL i v (h i v hi)) vS hc hs hn hx hE
theorem am_okR {i q : Nat} (h : am_vG G) : am_ok1 (am_n G) (.inr (G.2.2 i q)) := by
  cases e : G.2.2 i q with
  | none => trivial
  | some r => exact h i q r e
theorem go_getI {i ci q idx : Nat} (h : decode (am_by j) pc = .ok (.getfield idx, 3)) (hf : am_Fl (am_own j) idx ci q) (ht : refKind (am_ft ci q) = false) (hs : G.1[i]? = some (0, ci)) (kk : am_Go w j d k (pc + 3) L (.inl (G.2.1 i q) :: st) G P) : am_Go w j d k pc L (.inr (some i) :: st) G P := by
  intro p e R s m args below meth c ad0 ad H locs cells slots ls Q n0 C hR hS hl hL vL vS hc hs' hn hx hE
  obtain ⟨C0, T, N, hcl, hk, hin, hw, -, -⟩ := hf
  have hN : am_N ci = N := by unfold am_N; rw [hcl]; rfl
  have he := am_ws_at (w := w) (ad := ad) (am_lt hs)
  rw [am_e_obj hs, hN] at he
  have hv : ((List.range N).map (am_fv ad G i ci))[q]? = some (.int (G.2.1 i q)) := by
    rw [am_fs hk]; unfold am_fv; rw [ht]; rfl
  have kk' := kk p e R s m args below meth c ad0 ad H locs cells slots ls Q n0 C hR hS hl hL vL (vS.tl.i) hc hs' hn hx hE
  exact va_get (D := w.2.1) (tys := am_tys w) C.exec C.byt C.ts hin C.own hR.2.2.1 hR.1 i he hcl q hk (C.ts _ hw) (fun _ h9 => h9) hv h kk'
theorem go_getR {i ci q idx : Nat} (h : decode (am_by j) pc = .ok (.getfield idx, 3)) (hf : am_Fl (am_own j) idx ci q) (ht : refKind (am_ft ci q) = true) (hs : G.1[i]? = some (0, ci)) (kk : am_Go w j d k (pc + 3) L (.inr (G.2.2 i q) :: st) G P) : am_Go w j d k pc L (.inr (some i) :: st) G P := by
  intro p e R s m args below meth c ad0 ad H locs cells slots ls Q n0 C hR hS hl hL vL vS hc hs' hn hx hE
  obtain ⟨C0, T, N, hcl, hk, hin, hw, -, -⟩ := hf
  have hN : am_N ci = N := by unfold am_N; rw [hcl]; rfl
  have he := am_ws_at (w := w) (ad := ad) (am_lt hs)
  rw [am_e_obj hs, hN] at he
  have hv : ((List.range N).map (am_fv ad G i ci))[q]? = some (am_v ad (.inr (G.2.2 i q))) := by
    rw [am_fs hk]; unfold am_fv; rw [if_pos ht]; rfl
  have kk' := kk p e R s m args below meth c ad0 ad H locs cells slots ls Q n0 C hR hS hl hL vL (vS.tl.cons (am_okR hR.2.2.2)) hc hs' hn hx hE
  exact va_get (D := w.2.1) (tys := am_tys w) C.exec C.byt C.ts hin C.own hR.2.2.1 hR.1 i he hcl q hk (C.ts _ hw) (fun _ h9 => h9) hv h kk'
/-- a field that is written, by its pool entry; a final one (in its own constructor) -/
def am_Fp (own : String) (idx ci q : Nat) : Prop := am_Fl own idx ci q ∧ ∃ (C : String) (T : u_T) (N : Nat), am_cl[ci]? = some (C, T, N) ∧ (T q).2.2.2 = false
def am_Ff (own : String) (idx ci q : Nat) : Prop := am_Fl own idx ci q ∧ ∃ (C : String) (T : u_T) (N : Nat), am_cl[ci]? = some (C, T, N) ∧ (T q).2.2.2 = true ∧ (T q).1 = own
theorem go_put {i ci q idx : Nat} {v : am_V} {G' : am_G} (h : decode (am_by j) pc = .ok (.putfield idx, 3)) (hf : am_Fp (am_own j) idx ci q ∨ (am_Ff (am_own j) idx ci q ∧ (am_y j).name = "<init>")) (hs : G.1[i]? = some (0, ci)) (hfit : ∀ ad, narrow (am_ft ci q) (am_v ad v) = am_v ad v ∧ fits (am_ft ci q) (am_v ad v) = true)
    (h1 : G'.1 = G.1) (h2 : ∀ ad, am_fv ad G' i ci q = am_v ad v) (h3 : ∀ ad a, a ≠ q → am_fv ad G' i ci a = am_fv ad G i ci a) (h4 : ∀ a, a ≠ i → G'.2.1 a = G.2.1 a ∧ G'.2.2 a = G.2.2 a) (h5 : am_ok1 (am_n G) v → am_vG G → am_vG G')
    (kk : am_Go w j d k (pc + 3) L st G' P) : am_Go w j d k pc L (v :: .inr (some i) :: st) G P := by
  intro p e R s m args below meth c ad0 ad H locs cells slots ls Q n0 C hR hS hl hL vL vS hc hs' hn hx hE
  have hf0 : am_Fl (am_own j) idx ci q := hf.elim (fun h => h.1) (fun h => h.1.1)
  obtain ⟨C0, T, N, hcl, hk, hin, hw, hty, hnm⟩ := hf0
  have hN : am_N ci = N := by unfold am_N; rw [hcl]; rfl
  have he := am_ws_at (w := w) (ad := ad) (am_lt hs)
  rw [am_e_obj hs, hN] at he
  have hn' : am_n G' = am_n G := by unfold am_n; rw [h1]
  have hset : (am_ws w ad G).set i (ad i, .inr (ci, ((List.range N).map (am_fv ad G i ci)).set q (am_v ad v))) = am_ws w ad G' := by
    rw [am_fs_set hk (h2 ad) (h3 ad), am_ws_set h1 (am_lt hs) (fun a ha => am_e_row (by rw [h1]) (h4 a ha).1 (h4 a ha).2), am_e_obj (G := G') (by rw [h1]; exact hs), hN]
  have kk' : ∀ (H1 : Heap) (locs1 : List Loc), va_P w.2.1 am_cl ((am_ws w ad G).set i (ad i, .inr (ci, ((List.range N).map (am_fv ad G i ci)).set q (am_v ad v)))) H1 → va_D (am_A w) ((am_ws w ad G).set i (ad i, .inr (ci, ((List.range N).map (am_fv ad G i ci)).set q (am_v ad v)))) → va_S (am_A w) s.heap H1 locs1 →
      W p w.1 e R s m args below meth c H1 locs1 cells slots Q (F0 m (pc + 3) ls (st.map (am_v ad))) := by
    intro H1 locs1 hP1 hD1 hS1
    rw [hset] at hP1 hD1
    exact kk p e R s m args below meth c ad0 ad H1 locs1 cells slots ls Q n0 C ⟨hP1, hD1, hR.2.2.1, h5 vS.hd hR.2.2.2⟩ hS1 hl hL (by rw [hn']; exact vL) (by rw [hn']; exact vS.tl.tl) hc hs' (by rw [hn']; exact hn) hx hE
  rcases hf with ⟨-, C1, T1, N1, hcl1, hfin⟩ | ⟨⟨-, C1, T1, N1, hcl1, hfin, hd⟩, hy⟩
  · cases hcl.symm.trans hcl1
    exact va_put (D := w.2.1) (tys := am_tys w) C.exec C.byt C.ts hin (am_ft ci) hty hnm C.own hR.2.2.1 hR.1 hR.2.1 hS i he hcl q hk (C.ts _ hw) (fun _ h9 => h9) hfin (hty q hk) (hfit ad).1 (hfit ad).2 (by simp; exact hk) h kk'
  · cases hcl.symm.trans hcl1
    exact va_putF (D := w.2.1) (tys := am_tys w) C.exec C.byt C.ts hin (am_ft ci) hty hnm C.own hR.2.2.1 hR.1 hR.2.1 hS i he hcl q hk (C.ts _ hw) (fun _ h9 => h9) hfin (C.ini hy) hd (hty q hk) (hfit ad).1 (hfit ad).2 (by simp; exact hk) h kk'
theorem am_fv_wi {ad : Nat → Nat} {i ci q : Nat} {x : Int32} (ht : refKind (am_ft ci q) = false) : am_fv ad (am_wi G i q x) i ci q = .int x := by
  unfold am_fv am_wi; rw [if_neg (by rw [ht]; decide)]
  show Value.int (va_up G.2.1 i (upd (G.2.1 i) q x) i q) = _
  rw [am_up_eq, pk_us]
theorem am_fv_wi' {ad : Nat → Nat} {i ci q a : Nat} {x : Int32} (h : a ≠ q) : am_fv ad (am_wi G i q x) i ci a = am_fv ad G i ci a := by
  unfold am_fv am_wi
  show (if _ then _ else Value.int (va_up G.2.1 i (upd (G.2.1 i) q x) i a)) = _
  rw [am_up_eq, pk_un h]
theorem am_fv_wr {ad : Nat → Nat} {i ci q : Nat} {r : Option Nat} (ht : refKind (am_ft ci q) = true) : am_fv ad (am_wr G i q r) i ci q = am_v ad (.inr r) := by
  unfold am_fv am_wr; rw [if_pos ht]
  show va_rf ((va_up G.2.2 i (va_up (G.2.2 i) q r) i q).map ad) = _
  rw [am_up_eq, am_up_eq]; rfl
theorem am_fv_wr' {ad : Nat → Nat} {i ci q a : Nat} {r : Option Nat} (h : a ≠ q) : am_fv ad (am_wr G i q r) i ci a = am_fv ad G i ci a := by
  unfold am_fv am_wr
  show (if _ then va_rf ((va_up G.2.2 i (va_up (G.2.2 i) q r) i a).map ad) else _) = _
  rw [am_up_eq, am_up_ne h]
theorem am_vG_wr {i q : Nat} {r : Option Nat} (h : am_vG G) (hr : am_ok1 (am_n G) (.inr r)) : am_vG (am_wr G i q r) := by
  intro a b x hx
  have hx : va_up G.2.2 i (va_up (G.2.2 i) q r) a b = some x := hx
  by_cases h1 : a = i
  · subst h1
    rw [am_up_eq] at hx
    by_cases h2 : b = q
    · subst h2; rw [am_up_eq] at hx; subst hx; exact hr
    · rw [am_up_ne h2] at hx; exact h _ _ _ hx
  · rw [am_up_ne h1] at hx; exact h _ _ _ hx
theorem am_z0 : narrow .boolean (.int 0) = .int 0 := by decide
theorem am_z1 : narrow .boolean (.int 1) = .int 1 := by decide
theorem am_z2 : fits .boolean (.int 0) = true := by decide
theorem am_z3 : fits .boolean (.int 1) = true := by decide
theorem go_putI {i ci q idx : Nat} {x : Int32} (h : decode (am_by j) pc = .ok (.putfield idx, 3)) (hf : am_Fp (am_own j) idx ci q) (ht : am_ft ci q = .int) (hs : G.1[i]? = some (0, ci)) (kk : am_Go w j d k (pc + 3) L st (am_wi G i q x) P) : am_Go w j d k pc L (.inl x :: .inr (some i) :: st) G P :=
  go_put (G' := am_wi G i q x) h (Or.inl hf) hs (fun ad => by rw [ht]; exact ⟨rfl, rfl⟩) rfl (fun ad => am_fv_wi (by rw [ht]; rfl)) (fun ad a ha => am_fv_wi' ha) (fun a ha => ⟨am_up_ne ha, rfl⟩) (fun _ h => h) kk
theorem go_putZ {i ci q idx : Nat} {x : Int32} (hz : x = 0 ∨ x = 1) (h : decode (am_by j) pc = .ok (.putfield idx, 3)) (hf : am_Fp (am_own j) idx ci q) (ht : am_ft ci q = .boolean) (hs : G.1[i]? = some (0, ci)) (kk : am_Go w j d k (pc + 3) L st (am_wi G i q x) P) : am_Go w j d k pc L (.inl x :: .inr (some i) :: st) G P :=
  go_put (G' := am_wi G i q x) h (Or.inl hf) hs (fun ad => by rw [ht]; rcases hz with rfl | rfl; exact ⟨am_z0, am_z2⟩; exact ⟨am_z1, am_z3⟩) rfl (fun ad => am_fv_wi (by rw [ht]; rfl)) (fun ad a ha => am_fv_wi' ha) (fun a ha => ⟨am_up_ne ha, rfl⟩) (fun _ h => h) kk
theorem go_putR {i ci q idx : Nat} {r : Option Nat} (h : decode (am_by j) pc = .ok (.putfield idx, 3)) (hf : am_Fp (am_own j) idx ci q) (ht : refKind (am_ft ci q) = true) (hs : G.1[i]? = some (0, ci)) (kk : am_Go w j d k (pc + 3) L st (am_wr G i q r) P) : am_Go w j d k pc L (.inr r :: .inr (some i) :: st) G P :=
  go_put (G' := am_wr G i q r) h (Or.inl hf) hs (fun ad => by
    have g : ∀ ty : FieldType, refKind ty = true → narrow ty (am_v ad (.inr r)) = am_v ad (.inr r) ∧ fits ty (am_v ad (.inr r)) = true := by
      intro ty hty
      cases ty <;> first | (cases hty; done) | (cases r <;> exact ⟨rfl, rfl⟩)
    exact g _ ht) rfl (fun ad => am_fv_wr ht) (fun ad a ha => am_fv_wr' ha) (fun a ha => ⟨rfl, am_up_ne ha⟩) (fun hr h => am_vG_wr h hr) kk
theorem go_putF {i ci q idx : Nat} {r : Option Nat} (h : decode (am_by j) pc = .ok (.putfield idx, 3)) (hy : (am_y j).name = "<init>") (hf : am_Ff (am_own j) idx ci q) (ht : refKind (am_ft ci q) = true) (hs : G.1[i]? = some (0, ci)) (kk : am_Go w j d k (pc + 3) L st (am_wr G i q r) P) : am_Go w j d k pc L (.inr r :: .inr (some i) :: st) G P :=
  go_put (G' := am_wr G i q r) h (Or.inr ⟨hf, hy⟩) hs (fun ad => by
    have g : ∀ ty : FieldType, refKind ty = true → narrow ty (am_v ad (.inr r)) = am_v ad (.inr r) ∧ fits ty (am_v ad (.inr r)) = true := by
      intro ty hty
      cases ty <;> first | (cases hty; done) | (cases r <;> exact ⟨rfl, rfl⟩)
    exact g _ ht) rfl (fun ad => am_fv_wr ht) (fun ad a ha => am_fv_wr' ha) (fun a ha => ⟨rfl, am_up_ne ha⟩) (fun hr h => am_vG_wr h hr) kk
/-- arrays -/
theorem go_iaload {i n : Nat} {x : Int32} (hs : G.1[i]? = some (1, n)) (hin : vp_in x n) (h : decode (am_by j) pc = .ok (.iaload, 1)) (kk : am_Go w j d k (pc + 1) L (.inl (G.2.1 i x.toNatClampNeg) :: st) G P) : am_Go w j d k pc L (.inl x :: .inr (some i) :: st) G P := by
  intro p e R s m args below meth c ad0 ad H locs cells slots ls Q n0 C hR hS hl hL vL vS hc hs' hn hx hE
  have he := am_ws_at (w := w) (ad := ad) (am_lt hs)
  rw [am_e_int hs] at he
  exact va_iald (D := w.2.1) (tys := am_tys w) C.exec C.byt hR.2.2.1 hR.1 i 0 he rfl hin h (kk p e R s m args below meth c ad0 ad H locs cells slots ls Q n0 C hR hS hl hL vL (vS.tl.tl.i) hc hs' hn hx hE)
theorem go_baload {i n : Nat} {x : Int32} (hs : G.1[i]? = some (2, n)) (hin : vp_in x n) (h : decode (am_by j) pc = .ok (.baload, 1)) (kk : am_Go w j d k (pc + 1) L (.inl (G.2.1 i x.toNatClampNeg) :: st) G P) : am_Go w j d k pc L (.inl x :: .inr (some i) :: st) G P := by
  intro p e R s m args below meth c ad0 ad H locs cells slots ls Q n0 C hR hS hl hL vL vS hc hs' hn hx hE
  have he := am_ws_at (w := w) (ad := ad) (am_lt hs)
  rw [am_e_bool hs] at he
  exact va_zald (D := w.2.1) (tys := am_tys w) C.exec C.byt hR.2.2.1 hR.1 i 1 he rfl hin h (kk p e R s m args below meth c ad0 ad H locs cells slots ls Q n0 C hR hS hl hL vL (vS.tl.tl.i) hc hs' hn hx hE)
theorem go_aaload {i n t : Nat} {x : Int32} (htt : t < am_nrc) (hs : G.1[i]? = some (t + 3, n)) (hin : vp_in x n) (h : decode (am_by j) pc = .ok (.aaload, 1)) (kk : am_Go w j d k (pc + 1) L (.inr (G.2.2 i x.toNatClampNeg) :: st) G P) : am_Go w j d k pc L (.inl x :: .inr (some i) :: st) G P := by
  intro p e R s m args below meth c ad0 ad H locs cells slots ls Q n0 C hR hS hl hL vL vS hc hs' hn hx hE
  have he := am_ws_at (w := w) (ad := ad) (am_lt hs)
  rw [am_e_ref hs] at he
  exact va_aldq (D := w.2.1) (tys := am_tys w) C.exec C.byt hR.2.2.1 hR.1 i (2 + t) he (am_tys_r htt) hin h (kk p e R s m args below meth c ad0 ad H locs cells slots ls Q n0 C hR hS hl hL vL (vS.tl.tl.cons (am_okR hR.2.2.2)) hc hs' hn hx hE)
/-- a row of memory replaced: the world behind -/
theorem am_row_ws {ad : Nat → Nat} {i : Nat} {f : Nat → Int32} {n : Nat} {e : va_E} (hi : i < am_n G) (hb : am_e w ad (am_ro G i f) i = e) : (am_ws w ad G).set i (ad i, e) = am_ws w ad (am_ro G i f) := by
  rw [← hb, am_ws_set (G := G) (G' := am_ro G i f) rfl hi (fun a ha => am_e_row rfl (am_up_ne ha) rfl)]
theorem go_iastore {i n : Nat} {x v : Int32} (hs : G.1[i]? = some (1, n)) (hin : vp_in x n) (h : decode (am_by j) pc = .ok (.iastore, 1)) (kk : am_Go w j d k (pc + 1) L st (am_wi G i x.toNatClampNeg v) P) : am_Go w j d k pc L (.inl v :: .inl x :: .inr (some i) :: st) G P := by
  intro p e R s m args below meth c ad0 ad H locs cells slots ls Q n0 C hR hS hl hL vL vS hc hs' hn hx hE
  have he := am_ws_at (w := w) (ad := ad) (am_lt hs)
  rw [am_e_int hs] at he
  refine va_iast (D := w.2.1) (tys := am_tys w) C.exec C.byt hR.2.2.1 hR.1 hR.2.1 hS i 0 he rfl hin h (fun H1 locs1 hP1 hD1 hS1 => ?_)
  have hset : (am_ws w ad G).set i (ad i, .inl (w.2.2.1 0, n, .inl (upd (G.2.1 i) x.toNatClampNeg v))) = am_ws w ad (am_wi G i x.toNatClampNeg v) :=
    am_row_ws (f := upd (G.2.1 i) x.toNatClampNeg v) (n := n) (am_lt hs) (by rw [am_e_int (G := am_ro G i (upd (G.2.1 i) x.toNatClampNeg v)) (x := n) hs]; unfold am_ro; simp only [am_up_eq])
  rw [hset] at hP1 hD1
  exact kk p e R s m args below meth c ad0 ad H1 locs1 cells slots ls Q n0 C ⟨hP1, hD1, hR.2.2.1, hR.2.2.2⟩ hS1 hl hL vL vS.tl.tl.tl hc hs' hn hx hE
theorem go_bastore {i n : Nat} {x v : Int32} (hs : G.1[i]? = some (2, n)) (hin : vp_in x n) (h : decode (am_by j) pc = .ok (.bastore, 1)) (kk : am_Go w j d k (pc + 1) L st (am_wi G i x.toNatClampNeg (v &&& 1)) P) : am_Go w j d k pc L (.inl v :: .inl x :: .inr (some i) :: st) G P := by
  intro p e R s m args below meth c ad0 ad H locs cells slots ls Q n0 C hR hS hl hL vL vS hc hs' hn hx hE
  have he := am_ws_at (w := w) (ad := ad) (am_lt hs)
  rw [am_e_bool hs] at he
  refine va_zast (D := w.2.1) (tys := am_tys w) C.exec C.byt hR.2.2.1 hR.1 hR.2.1 hS i 1 he rfl hin h (fun H1 locs1 hP1 hD1 hS1 => ?_)
  have hset : (am_ws w ad G).set i (ad i, .inl (w.2.2.1 1, n, .inl (upd (G.2.1 i) x.toNatClampNeg (vp_nar .boolean v)))) = am_ws w ad (am_wi G i x.toNatClampNeg (v &&& 1)) :=
    am_row_ws (f := upd (G.2.1 i) x.toNatClampNeg (v &&& 1)) (n := n) (am_lt hs) (by rw [am_e_bool (G := am_ro G i (upd (G.2.1 i) x.toNatClampNeg (v &&& 1))) (x := n) hs]; unfold am_ro; simp only [am_up_eq]; rfl)
  rw [hset] at hP1 hD1
  exact kk p e R s m args below meth c ad0 ad H1 locs1 cells slots ls Q n0 C ⟨hP1, hD1, hR.2.2.1, hR.2.2.2⟩ hS1 hl hL vL vS.tl.tl.tl hc hs' hn hx hE
theorem go_alen {i n t : Nat} (hs : G.1[i]? = some (t + 1, n)) (htt : t < am_nrc + 2) (h : decode (am_by j) pc = .ok (.arraylength, 1)) (kk : am_Go w j d k (pc + 1) L (.inl (nI n) :: st) G P) : am_Go w j d k pc L (.inr (some i) :: st) G P := by
  intro p e R s m args below meth c ad0 ad H locs cells slots ls Q n0 C hR hS hl hL vL vS hc hs' hn hx hE
  have he := am_ws_at (w := w) (ad := ad) (am_lt hs)
  have kk' := kk p e R s m args below meth c ad0 ad H locs cells slots ls Q n0 C hR hS hl hL vL (vS.tl.i) hc hs' hn hx hE
  match t, hs, htt with
  | 0, hs, _ => rw [am_e_int hs] at he; exact va_alen (D := w.2.1) (tys := am_tys w) C.exec C.byt hR.2.2.1 hR.1 i 0 he rfl rfl h kk'
  | 1, hs, _ => rw [am_e_bool hs] at he; exact va_alen (D := w.2.1) (tys := am_tys w) C.exec C.byt hR.2.2.1 hR.1 i 1 he rfl rfl h kk'
  | t + 2, hs, htt => rw [am_e_ref hs] at he; exact va_alen (D := w.2.1) (tys := am_tys w) C.exec C.byt hR.2.2.1 hR.1 i (2 + t) he (am_tys_r (by omega)) rfl h kk'
theorem go_aastore {i n t ci q : Nat} {x : Int32} (htt : t < am_nrc) (hs : G.1[i]? = some (t + 3, n)) (hin : vp_in x n) (hq : G.1[q]? = some (0, ci)) (hc0 : (am_cl[ci]?).map (fun r => r.1) = some (am_rc t)) (h : decode (am_by j) pc = .ok (.aastore, 1)) (kk : am_Go w j d k (pc + 1) L st (am_wr G i x.toNatClampNeg (some q)) P) : am_Go w j d k pc L (.inr (some q) :: .inl x :: .inr (some i) :: st) G P := by
  intro p e R s m args below meth c ad0 ad H locs cells slots ls Q n0 C hR hS hl hL vL vS hc hs' hn hx hE
  have he := am_ws_at (w := w) (ad := ad) (am_lt hs)
  rw [am_e_ref hs] at he
  have hv := am_ws_at (w := w) (ad := ad) (am_lt hq)
  rw [am_e_obj hq] at hv
  obtain ⟨r, hr, hr2⟩ := Option.map_eq_some_iff.mp hc0
  refine va_astq (D := w.2.1) (tys := am_tys w) C.exec C.byt hR.2.2.1 hR.1 hR.2.1 hS i (2 + t) q ci he (by rw [hr2]; exact am_tys_r htt) hv hr hin h (fun H1 locs1 hP1 hD1 hS1 => ?_)
  have hset : (am_ws w ad G).set i (ad i, .inl (w.2.2.1 (2 + t), n, .inr (.inr (.inr (.inr (va_up (fun j => (G.2.2 i j).map ad) x.toNatClampNeg (some (ad q)))))))) = am_ws w ad (am_wr G i x.toNatClampNeg (some q)) := by
    rw [am_ws_set (G := G) (G' := am_wr G i x.toNatClampNeg (some q)) rfl (am_lt hs) (fun a ha => am_e_row rfl rfl (am_up_ne ha)), am_e_ref (G := am_wr G i x.toNatClampNeg (some q)) hs]
    have : (fun j => ((am_wr G i x.toNatClampNeg (some q)).2.2 i j).map ad) = va_up (fun j => (G.2.2 i j).map ad) x.toNatClampNeg (some (ad q)) := by
      funext a
      show (va_up G.2.2 i (va_up (G.2.2 i) x.toNatClampNeg (some q)) i a).map ad = _
      rw [am_up_eq]
      by_cases e1 : a = x.toNatClampNeg
      · rw [e1, am_up_eq, am_up_eq]; rfl
      · rw [am_up_ne e1, am_up_ne e1]
    rw [this]
  rw [hset] at hP1 hD1
  exact kk p e R s m args below meth c ad0 ad H1 locs1 cells slots ls Q n0 C ⟨hP1, hD1, hR.2.2.1, am_vG_wr hR.2.2.2 vS.hd⟩ hS1 hl hL vL vS.tl.tl.tl hc hs' hn hx hE
/-- a new cell: the world behind -/
theorem am_new_ws {ad : Nat → Nat} {sh : Nat × Nat} {q : Nat} {e : va_E} (h6 : am_n G < 1000000) (hv : am_vG G) (he : am_e w (va_up ad (am_n G) q) (am_nw G sh) (am_n G) = e) :
    am_ws w ad G ++ [(q, e)] = am_ws w (va_up ad (am_n G) q) (am_nw G sh) := by
  have hn : am_n (am_nw G sh) = am_n G + 1 := by simp [am_n, am_nw]
  have hmap : ∀ r : Option Nat, (∀ x, r = some x → x < am_n G ∨ 1000000 ≤ x) → r.map (va_up ad (am_n G) q) = r.map ad := by
    intro r hr
    cases r with
    | none => rfl
    | some x =>
      have h1 := hr x rfl
      show some (va_up ad (am_n G) q x) = some (ad x)
      rw [am_up_ne (by omega)]
  apply List.ext_getElem?
  intro i
  by_cases hi : i < am_n G
  · rw [List.getElem?_append_left (by rw [am_ws_len]; exact hi), am_ws_at hi, am_ws_at (by rw [hn]; omega)]
    have h1 : va_up ad (am_n G) q i = ad i := am_up_ne (by omega)
    have h2 : am_e w (va_up ad (am_n G) q) (am_nw G sh) i = am_e w ad G i := by
      have g1 : (am_nw G sh).1[i]? = G.1[i]? := List.getElem?_append_left hi
      have g2 : (am_nw G sh).2.1 i = G.2.1 i := am_up_ne (show i ≠ G.1.length from Nat.ne_of_lt hi)
      have g3 : (am_nw G sh).2.2 i = G.2.2 i := am_up_ne (show i ≠ G.1.length from Nat.ne_of_lt hi)
      have g4 : ∀ k : Nat, (G.2.2 i k).map (va_up ad (am_n G) q) = (G.2.2 i k).map ad := fun k => hmap _ (fun x hx => hv i k x hx)
      unfold am_e am_fv
      rw [g1, g2, g3]
      simp only [g4]
    rw [h1, h2]
  · by_cases hi2 : i = am_n G
    · subst hi2
      rw [List.getElem?_append_right (by rw [am_ws_len]; exact Nat.le_refl _), am_ws_len, Nat.sub_self, am_ws_at (by rw [hn]; omega), he, am_up_eq]
      rfl
    · rw [List.getElem?_eq_none (by rw [List.length_append, am_ws_len]; simp; omega), List.getElem?_eq_none (by rw [am_ws_len, hn]; omega)]
theorem am_new_ext {n0 : Nat} {ad0 ad : Nat → Nat} {n q : Nat} (h6 : n < 1000000) (hn : n0 ≤ n) (hx : am_ext n0 ad0 ad) : am_ext n0 ad0 (va_up ad n q) := fun i hi => by
  rw [am_up_ne (by omega)]; exact hx i hi
theorem am_new_vG {sh : Nat × Nat} (hv : am_vG G) : am_vG (am_nw G sh) := by
  intro i q r h
  have hn : am_n (am_nw G sh) = am_n G + 1 := by simp [am_n, am_nw]
  have h : va_up G.2.2 G.1.length (fun _ => none) i q = some r := h
  by_cases hi : i = G.1.length
  · subst hi; rw [am_up_eq] at h; cases h
  · rw [am_up_ne hi] at h
    have := hv i q r h
    omega
/-- behind a cell's making -/
theorem am_new_go {sh : Nat × Nat} {len N : Nat} (h6 : am_n G < 1000000) (kk : am_Go w j d (k.1 - 1, k.2 - N) (pc + len) L (.inr (some (am_n G)) :: st) (am_nw G sh) P)
    {p : Program} {e : Env} {R : Room} {s : State} {m : MethodId} {args : Array Value} {below : List Frame} {meth : Method} {c : Code} {ad0 ad : Nat → Nat} {H1 : Heap} {locs : List Loc} {cells slots : Nat} {ls : Array Slot} {Q : State → Prop} {n0 : Nat} {q : Nat} {ev : va_E}
    (C : am_Cx w j d ad0 p R s m args meth c) (hK : va_K w.2.1 am_cl (am_tys w) s) (hv : am_vG G) (he : am_e w (va_up ad (am_n G) q) (am_nw G sh) (am_n G) = ev)
    (hP1 : va_P w.2.1 am_cl (am_ws w ad G ++ [(q, ev)]) H1) (hD1 : va_D (am_A w) (am_ws w ad G ++ [(q, ev)])) (hS1 : va_S (am_A w) s.heap H1 locs) (hl : am_Ls ad L ls) (hL : L.length = am_mx j) (vL : am_vL (am_n G) L) (vS : am_vS (am_n G) st)
    (hk1 : 1 ≤ k.1) (hk2 : N ≤ k.2) (hc : cells + k.1 ≤ R.cells) (hs : slots + k.2 ≤ R.slots) (hn : n0 ≤ am_n G) (hx : am_ext n0 ad0 ad)
    (hE : ∀ (r : Option am_V) (G' : am_G) (ad' : Nat → Nat) (H' : Heap) (locs' : List Loc) (pc' : Nat) (ls' : Array Slot), P r G' → am_Rel w ad' G' s H' → va_S (am_A w) s.heap H' locs' → n0 ≤ am_n G' → am_ext n0 ad0 ad' → (∀ v, r = some v → am_ok1 (am_n G') v) → am_retAt j pc' r →
      W p w.1 e R s m args below meth c H' locs' R.cells R.slots Q (F0 m pc' ls' (r.toList.map (am_v ad')))) :
    W p w.1 e R s m args below meth c H1 locs (cells + 1) (slots + N) Q (F0 m (pc + len) ls (.ref q :: st.map (am_v ad))) := by
  have hn1 : am_n (am_nw G sh) = am_n G + 1 := by simp [am_n, am_nw]
  have hx1 : am_ext (am_n G) ad (va_up ad (am_n G) q) := am_new_ext h6 (Nat.le_refl _) am_ext.rf
  rw [am_new_ws h6 hv he] at hP1 hD1
  have g := kk p e R s m args below meth c ad0 (va_up ad (am_n G) q) H1 locs (cells + 1) (slots + N) ls Q n0 C ⟨hP1, hD1, hK, am_new_vG hv⟩ hS1 (hl.ext hx1 vL) hL (by rw [hn1]; exact vL.up (by omega)) (by rw [hn1]; exact (vS.up (by omega)).cons (show am_n G < am_n G + 1 ∨ _ by omega)) (by show cells + 1 + (k.1 - 1) ≤ R.cells; omega) (by show slots + N + (k.2 - N) ≤ R.slots; omega) (by rw [hn1]; omega) (am_new_ext h6 hn hx) hE
  have e1 : (Sum.inr (some (am_n G)) :: st).map (am_v (va_up ad (am_n G) q)) = .ref q :: st.map (am_v ad) := by
    rw [List.map_cons, hx1.st vS]
    show va_rf (some (va_up ad (am_n G) q (am_n G))) :: _ = _
    rw [am_up_eq]; rfl
  rw [e1] at g
  exact g
/-- a class that method j makes, by its pool entry -/
def am_Cn (own : String) (idx ci N : Nat) : Prop := ∃ (C : String) (T : u_T), am_cl[ci]? = some (C, T, N) ∧ (∀ w ∈ u_ws C T N, w ∈ am_T) ∧ (∀ q, q < N → parseFieldDescriptor (T q).2.2.1 = some (am_ft ci q)) ∧ (∀ q, q < N → defaultValue (am_ft ci q) = if refKind (am_ft ci q) = true then .null else .int 0) ∧ Cond.classLink own idx C ∈ am_T ∧ Cond.instantiable C N ∈ am_T ∧ Cond.initialized C ∈ am_T
theorem go_new {idx ci N : Nat} (h6 : am_n G < 1000000) (hk1 : 1 ≤ k.1) (hk2 : N ≤ k.2) (h : decode (am_by j) pc = .ok (.new idx, 3)) (hf : am_Cn (am_own j) idx ci N) (kk : am_Go w j d (k.1 - 1, k.2 - N) (pc + 3) L (.inr (some (am_n G)) :: st) (am_nw G (0, ci)) P) : am_Go w j d k pc L st G P := by
  intro p e R s m args below meth c ad0 ad H locs cells slots ls Q n0 C hR hS hl hL vL vS hc hs hn hx hE
  obtain ⟨Cn, T, hcl, hin, hty, hdef, w1, w2, w3⟩ := hf
  have hN : am_N ci = N := by unfold am_N; rw [hcl]; rfl
  have hts := C.ts
  have hB := C.bs
  refine va_new (D := w.2.1) (tys := am_tys w) (ci := ci) (fs := (List.range N).map fun q => if refKind (am_ft ci q) = true then .null else .int 0) (C := Cn) (T := T) (N := N) C.exec C.byt hts hin (am_ft ci) hty C.own (hts _ w1) (hts _ w2) (hts _ w3) hR.2.2.1 hR.1 hR.2.1 hS (fun q hq => Nat.le_trans hB hq) hcl (fun q hq => ?_) (by omega) (by omega) h (fun q H1 hP1 hD1 hS1 => ?_)
  · rw [hdef q hq]
    unfold vp_V
    rw [List.getD_eq_getElem?_getD, List.getElem?_map, List.getElem?_range hq]
    rfl
  · refine am_new_go h6 kk C hR.2.2.1 hR.2.2.2 ?_ hP1 hD1 hS1 hl hL vL vS hk1 hk2 hc hs hn hx hE
    have hsh : (am_nw G (0, ci)).1[am_n G]? = some (0, ci) := by simp [am_nw, am_n]
    rw [am_e_obj hsh, hN]
    have : am_fv (va_up ad (am_n G) q) (am_nw G (0, ci)) (am_n G) ci = fun q => if refKind (am_ft ci q) = true then .null else .int 0 := by
      funext a
      unfold am_fv am_nw am_n
      show (if _ then va_rf ((va_up G.2.2 G.1.length (fun _ => none) G.1.length a).map _) else Value.int (va_up G.2.1 G.1.length (fun _ => 0) G.1.length a)) = _
      rw [am_up_eq, am_up_eq]
      rfl
    rw [this]
theorem am_arr_eq {s : State} {cA : ClassId} {ty : FieldType} {q : Nat} (hK : va_K w.2.1 am_cl (am_tys w) s) (hK2 : va_K w.2.1 am_cl (am_tys w ++ [(cA, ty)]) s) {c1 : ClassId} (hq : (am_tys w)[q]? = some (c1, ty)) (hp : ty = .int ∨ ty = .boolean ∨ ∃ C, ty = .object C) : cA = c1 := by
  have h1 := (hK.2 q _ hq).2
  have h2 := (hK2.2 (am_tys w).length (cA, ty) (by rw [List.getElem?_append_right (Nat.le_refl _), Nat.sub_self]; rfl)).2
  rcases hp with rfl | rfl | ⟨C, rfl⟩
  · have g1 : s.vm.findClass ("[" ++ FieldType.int.toString) = some c1 := h1
    have g2 : s.vm.findClass ("[" ++ FieldType.int.toString) = some cA := h2
    exact Option.some.inj (g2.symm.trans g1)
  · have g1 : s.vm.findClass ("[" ++ FieldType.boolean.toString) = some c1 := h1
    have g2 : s.vm.findClass ("[" ++ FieldType.boolean.toString) = some cA := h2
    exact Option.some.inj (g2.symm.trans g1)
  · obtain ⟨_, _, _, _, _, g1⟩ := h1
    obtain ⟨_, _, _, _, _, g2⟩ := h2
    exact Option.some.inj (g2.symm.trans g1)
theorem go_newI {x : Int32} {n : Nat} (h6 : am_n G < 1000000) (hx0 : x = nI n) (hn0 : n < 100000) (hk1 : 1 ≤ k.1) (hk2 : n ≤ k.2) (hw : Cond.arrayClass .int ∈ am_T) (h : decode (am_by j) pc = .ok (.newarray .int, 2)) (kk : am_Go w j d (k.1 - 1, k.2 - n) (pc + 2) L (.inr (some (am_n G)) :: st) (am_nw G (1, n)) P) : am_Go w j d k pc L (.inl x :: st) G P := by
  intro p e R s m args below meth c ad0 ad H locs cells slots ls Q n0 C hR hS hl hL vL vS hc hs hn hx hE
  have hB := C.bs
  refine va_newa (D := w.2.1) (tys := am_tys w) (atype := .int) (ty := .int) (a0 := (n, .inl (fun _ => 0))) C.exec C.byt (C.ts _ hw) rfl hR.2.2.1 hR.1 hR.2.1 hS (fun q hq => Nat.le_trans hB hq) (N' := n) (fun cA => rfl) (by rw [hx0]; exact nI_pos (by omega)) (by rw [hx0]; exact nI_clamp (by omega)) (by show n * 4 ≤ _; omega) (by omega) (by omega) h (fun q cA H1 hK1 hP1 hD1 hS1 => ?_)
  have hcA := am_arr_eq (q := 0) hR.2.2.1 hK1 rfl (Or.inl rfl)
  subst hcA
  refine am_new_go h6 kk C hR.2.2.1 hR.2.2.2 ?_ hP1 hD1 hS1 hl hL vL vS.tl hk1 hk2 hc hs hn hx hE
  have hsh : (am_nw G (1, n)).1[am_n G]? = some (1, n) := by simp [am_nw, am_n]
  rw [am_e_int hsh]
  unfold am_nw am_n
  simp only [am_up_eq]
theorem go_newZ {x : Int32} {n : Nat} (h6 : am_n G < 1000000) (hx0 : x = nI n) (hn0 : n < 100000) (hk1 : 1 ≤ k.1) (hk2 : n ≤ k.2) (hw : Cond.arrayClass .boolean ∈ am_T) (h : decode (am_by j) pc = .ok (.newarray .boolean, 2)) (kk : am_Go w j d (k.1 - 1, k.2 - n) (pc + 2) L (.inr (some (am_n G)) :: st) (am_nw G (2, n)) P) : am_Go w j d k pc L (.inl x :: st) G P := by
  intro p e R s m args below meth c ad0 ad H locs cells slots ls Q n0 C hR hS hl hL vL vS hc hs hn hx hE
  have hB := C.bs
  refine va_newa (D := w.2.1) (tys := am_tys w) (atype := .boolean) (ty := .boolean) (a0 := (n, .inl (fun _ => 0))) C.exec C.byt (C.ts _ hw) rfl hR.2.2.1 hR.1 hR.2.1 hS (fun q hq => Nat.le_trans hB hq) (N' := n) (fun cA => rfl) (by rw [hx0]; exact nI_pos (by omega)) (by rw [hx0]; exact nI_clamp (by omega)) (by show n * 1 ≤ _; omega) (by omega) (by omega) h (fun q cA H1 hK1 hP1 hD1 hS1 => ?_)
  have hcA := am_arr_eq (q := 1) hR.2.2.1 hK1 rfl (Or.inr (Or.inl rfl))
  subst hcA
  refine am_new_go h6 kk C hR.2.2.1 hR.2.2.2 ?_ hP1 hD1 hS1 hl hL vL vS.tl hk1 hk2 hc hs hn hx hE
  have hsh : (am_nw G (2, n)).1[am_n G]? = some (2, n) := by simp [am_nw, am_n]
  rw [am_e_bool hsh]
  unfold am_nw am_n
  simp only [am_up_eq]
theorem go_newR {x : Int32} {n t idx : Nat} (htt : t < am_nrc) (h6 : am_n G < 1000000) (hx0 : x = nI n) (hn0 : n < 100000) (hk1 : 1 ≤ k.1) (hk2 : n ≤ k.2) (hw : Cond.classLink (am_own j) idx (am_rc t) ∈ am_T) (h : decode (am_by j) pc = .ok (.anewarray idx, 3)) (kk : am_Go w j d (k.1 - 1, k.2 - n) (pc + 3) L (.inr (some (am_n G)) :: st) (am_nw G (t + 3, n)) P) : am_Go w j d k pc L (.inl x :: st) G P := by
  intro p e R s m args below meth c ad0 ad H locs cells slots ls Q n0 C hR hS hl hL vL vS hc hs hn hx hE
  have hB := C.bs
  have hAO := C.ao t htt
  refine va_newq (D := w.2.1) (tys := am_tys w) C.exec C.byt C.own (C.ts _ hw) hAO hR.2.2.1 hR.1 hR.2.1 hS (fun q hq => Nat.le_trans hB hq) (N' := n) (by rw [hx0]; exact nI_pos (by omega)) (by rw [hx0]; exact nI_clamp (by omega)) (by omega) (by omega) (by omega) h (fun q cA H1 hK1 hP1 hD1 hS1 => ?_)
  have hcA := am_arr_eq (q := 2 + t) hR.2.2.1 hK1 (am_tys_r htt) (Or.inr (Or.inr ⟨_, rfl⟩))
  subst hcA
  refine am_new_go h6 kk C hR.2.2.1 hR.2.2.2 ?_ hP1 hD1 hS1 hl hL vL vS.tl hk1 hk2 hc hs hn hx hE
  have hsh : (am_nw G (t + 3, n)).1[am_n G]? = some (t + 3, n) := by simp [am_nw, am_n]
  rw [am_e_ref hsh]
  unfold am_nw am_n
  simp only [am_up_eq]
  rfl
/-- static arrays, and the script -/
theorem go_getstatic {idx q : Nat} (hq : q < am_ns) (h : decode (am_by j) pc = .ok (.getstatic idx, 3)) (hw : Cond.fieldLink (am_own j) idx (am_sC q) (am_sn q) "[I" ∈ am_T ∨ ∃ host, (am_own j, idx, am_sC q, am_sn q, "[I", host) ∈ am_TF) (kk : am_Go w j d k (pc + 3) L (.inr (some (1000001 + q)) :: st) G P) : am_Go w j d k pc L st G P := by
  intro p e R s m args below meth c ad0 ad H locs cells slots ls Q n0 C hR hS hl hL vL vS hc hs hn hx hE
  have hZ := (C.sta.1 q hq).1
  rw [← hx (1000001 + q) (Or.inr (by omega))] at hZ
  have kk' := kk p e R s m args below meth c ad0 ad H locs cells slots ls Q n0 C hR hS hl hL vL (vS.cons (show _ ∨ 1000000 ≤ 1000001 + q by omega)) hc hs hn hx hE
  rcases hw with hw | ⟨host, hw⟩
  · exact va_gets C.exec C.byt hZ hS C.own (C.ts _ hw) (fun _ h9 => h9) h kk'
  · exact va_getsN C.exec C.byt hZ hS C.own (va_Nw.use rfl (C.sta.2.2.2.2.2.2.1 _ hw)) (fun _ h9 => h9) h kk'
theorem go_ialoadS {q : Nat} {x : Int32} (hq : q < am_ns) (hin : vp_in x (am_sN q)) (h : decode (am_by j) pc = .ok (.iaload, 1)) (kk : am_Go w j d k (pc + 1) L (.inl (am_sf q x.toNatClampNeg) :: st) G P) : am_Go w j d k pc L (.inl x :: .inr (some (1000001 + q)) :: st) G P := by
  intro p e R s m args below meth c ad0 ad H locs cells slots ls Q n0 C hR hS hl hL vL vS hc hs hn hx hE
  have hT := (C.sta.1 q hq).2
  rw [← hx (1000001 + q) (Or.inr (by omega))] at hT
  exact va_ti C.exec C.byt hT hS hin rfl h (kk p e R s m args below meth c ad0 ad H locs cells slots ls Q n0 C hR hS hl hL vL (vS.tl.tl.i) hc hs hn hx hE)
theorem go_alenS {q : Nat} (hq : q < am_ns) (h : decode (am_by j) pc = .ok (.arraylength, 1)) (kk : am_Go w j d k (pc + 1) L (.inl (nI (am_sN q)) :: st) G P) : am_Go w j d k pc L (.inr (some (1000001 + q)) :: st) G P := by
  intro p e R s m args below meth c ad0 ad H locs cells slots ls Q n0 C hR hS hl hL vL vS hc hs hn hx hE
  have hT := (C.sta.1 q hq).2
  rw [← hx (1000001 + q) (Or.inr (by omega))] at hT
  exact va_tlen C.exec C.byt hT hS rfl h (kk p e R s m args below meth c ad0 ad H locs cells slots ls Q n0 C hR hS hl hL vL (vS.tl.i) hc hs hn hx hE)
theorem go_ialoadX {x : Int32} (hin : vp_in x w.2.2.2.2.1) (h : decode (am_by j) pc = .ok (.iaload, 1)) (kk : am_Go w j d k (pc + 1) L (.inl (w.2.2.2.2.2 x.toNatClampNeg) :: st) G P) : am_Go w j d k pc L (.inl x :: .inr (some 1000000) :: st) G P := by
  intro p e R s m args below meth c ad0 ad H locs cells slots ls Q n0 C hR hS hl hL vL vS hc hs hn hx hE
  obtain ⟨-, hX, hb, hA, -⟩ := C.sta
  rw [← hx 1000000 (Or.inr (Nat.le_refl _))] at hX hb hA
  exact va_sld C.exec C.byt hX hb hA hS hin h (kk p e R s m args below meth c ad0 ad H locs cells slots ls Q n0 C hR hS hl hL vL (vS.tl.tl.i) hc hs hn hx hE)
theorem go_alenX (h : decode (am_by j) pc = .ok (.arraylength, 1)) (kk : am_Go w j d k (pc + 1) L (.inl (nI w.2.2.2.2.1) :: st) G P) : am_Go w j d k pc L (.inr (some 1000000) :: st) G P := by
  intro p e R s m args below meth c ad0 ad H locs cells slots ls Q n0 C hR hS hl hL vL vS hc hs hn hx hE
  obtain ⟨-, hX, hb, hA, -⟩ := C.sta
  rw [← hx 1000000 (Or.inr (Nat.le_refl _))] at hX hb hA
  exact va_slen C.exec C.byt hX hb hA hS h (kk p e R s m args below meth c ad0 ad H locs cells slots ls Q n0 C hR hS hl hL vL (vS.tl.i) hc hs hn hx hE)
theorem go_ldc {idx : Nat} {v : Int32} (hw : Cond.constant (am_own j) idx v ∈ am_T) (h : decode (am_by j) pc = .ok (.ldc idx, 2)) (kk : am_Go w j d k (pc + 2) L (.inl v :: st) G P) : am_Go w j d k pc L st G P := by
  intro p e R s m args below meth c ad0 ad H locs cells slots ls Q n0 C hR hS hl hL vL vS hc hs hn hx hE
  exact lv_ldc C.exec C.byt C.own (C.ts _ hw) h (kk p e R s m args below meth c ad0 ad H locs cells slots ls Q n0 C hR hS hl hL vL (vS.i) hc hs hn hx hE)
theorem go_ldcw {idx : Nat} {v : Int32} (hw : Cond.constant (am_own j) idx v ∈ am_T) (h : decode (am_by j) pc = .ok (.ldc_w idx, 3)) (kk : am_Go w j d k (pc + 3) L (.inl v :: st) G P) : am_Go w j d k pc L st G P := by
  intro p e R s m args below meth c ad0 ad H locs cells slots ls Q n0 C hR hS hl hL vL vS hc hs hn hx hE
  exact lv_ldcw C.exec C.byt C.own (C.ts _ hw) h (kk p e R s m args below meth c ad0 ad H locs cells slots ls Q n0 C hR hS hl hL vL (vS.i) hc hs hn hx hE)
/-- the library's own methods -/
theorem go_objInit {idx i : Nat} (hd : 1 ≤ d) (hsl : st.length ≤ 8) (hw : Cond.methodLink (am_own j) idx objectInit ∈ am_T) (hw2 : Cond.instanceMethod objectInit ∈ am_T) (hw3 : Cond.code objectInit ⟨#[0xb1]⟩ 1 none ∈ am_T) (h : decode (am_by j) pc = .ok (.invokespecial idx, 3)) (kk : am_Go w j d k (pc + 3) L st G P) : am_Go w j d k pc L (.inr (some i) :: st) G P := by
  intro p e R s m args below meth c ad0 ad H locs cells slots ls Q n0 C hR hS hl hL vL vS hc hs hn hx hE
  have hf := C.fr
  have hlo := C.lo
  refine W.objInit C.exec C.byt C.own (C.ts _ hw) (C.ts _ hw2) (C.ts _ hw3) rfl (by rw [C.mx, ← hL]; exact hl.1) rfl h (by omega) ?_ ?_
  · have := am_sumcat ad st
    show 2 * 0 + ((st.map (am_v ad)).map fun v => v.category).sum + 12 ≤ R.locals
    omega
  · exact kk p e R s m args below meth c ad0 ad H locs cells slots ls Q n0 C hR hS hl hL vL vS.tl hc hs hn hx hE
theorem go_max {idx : Nat} {x y : Int32} (hd : 1 ≤ d) (hsl : st.length ≤ 8) (hw : Cond.methodLink (am_own j) idx Lib.Math.max.name ∈ am_T) (hw2 : Cond.static Lib.Math.max.name ∈ am_T) (hw3 : Cond.initialized "java/lang/Math" ∈ am_T) (hw4 : Cond.code Lib.Math.max.name Lib.Math.max.code 2 (some .int) ∈ am_T) (h : decode (am_by j) pc = .ok (.invokestatic idx, 3))
    (kk : am_Go w j d k (pc + 3) L (.inl (if x < y then y else x) :: st) G P) : am_Go w j d k pc L (.inl y :: .inl x :: st) G P := by
  intro p e R s m args below meth c ad0 ad H locs cells slots ls Q n0 C hR hS hl hL vL vS hc hs hn hx hE
  have hf := C.fr
  have hlo := C.lo
  have := am_sumcat ad st
  exact va_mmax C.exec C.byt (by rw [C.mx, ← hL]; exact hl.1.symm) C.own (C.ts _ hw) (C.ts _ hw2) (C.ts _ hw3) (C.ts _ hw4) (by omega) (by omega) (by omega) (by omega) h (kk p e R s m args below meth c ad0 ad H locs cells slots ls Q n0 C hR hS hl hL vL (vS.tl.tl.i) hc hs hn hx hE)
theorem go_min {idx : Nat} {x y : Int32} (hd : 1 ≤ d) (hsl : st.length ≤ 8) (hw : Cond.methodLink (am_own j) idx Lib.Math.min.name ∈ am_T) (hw2 : Cond.static Lib.Math.min.name ∈ am_T) (hw3 : Cond.initialized "java/lang/Math" ∈ am_T) (hw4 : Cond.code Lib.Math.min.name Lib.Math.min.code 2 (some .int) ∈ am_T) (h : decode (am_by j) pc = .ok (.invokestatic idx, 3))
    (kk : am_Go w j d k (pc + 3) L (.inl (if y < x then y else x) :: st) G P) : am_Go w j d k pc L (.inl y :: .inl x :: st) G P := by
  intro p e R s m args below meth c ad0 ad H locs cells slots ls Q n0 C hR hS hl hL vL vS hc hs hn hx hE
  have hf := C.fr
  have hlo := C.lo
  have := am_sumcat ad st
  exact va_mmin C.exec C.byt (by rw [C.mx, ← hL]; exact hl.1.symm) C.own (C.ts _ hw) (C.ts _ hw2) (C.ts _ hw3) (C.ts _ hw4) (by omega) (by omega) (by omega) (by omega) h (kk p e R s m args below meth c ad0 ad H locs cells slots ls Q n0 C hR hS hl hL vL (vS.tl.tl.i) hc hs hn hx hE)
theorem go_copyI {idx i0 i1 m0 m1 : Nat} {sp dp n : Int32} (hd : 1 ≤ d) (hsl : st.length ≤ 8) (hw : Cond.methodLink (am_own j) idx arraycopyName ∈ am_T) (hw2 : Cond.native arraycopyName ∈ am_T) (hw3 : Cond.static arraycopyName ∈ am_T) (hw4 : Cond.initialized "java/lang/System" ∈ am_T) (hs0 : G.1[i0]? = some (1, m0)) (hs1 : G.1[i1]? = some (1, m1))
    (h1 : ¬ sp < 0) (h2 : ¬ dp < 0) (h3 : ¬ n < 0) (h4 : sp.toNatClampNeg + n.toNatClampNeg ≤ m0) (h5 : dp.toNatClampNeg + n.toNatClampNeg ≤ m1) (h : decode (am_by j) pc = .ok (.invokestatic idx, 3))
    (kk : am_Go w j d k (pc + 3) L st (am_ro G i1 (va_cpy (G.2.1 i0) (G.2.1 i1) sp.toNatClampNeg dp.toNatClampNeg n.toNatClampNeg)) P) : am_Go w j d k pc L (.inl n :: .inl dp :: .inr (some i1) :: .inl sp :: .inr (some i0) :: st) G P := by
  intro p e R s m args below meth c ad0 ad H locs cells slots ls Q n0 C hR hS hl hL vL vS hc hs hn hx hE
  have hf := C.fr
  have hlo := C.lo
  have hsum := am_sumcat ad st
  have he0 := am_ws_at (w := w) (ad := ad) (am_lt hs0)
  rw [am_e_int hs0] at he0
  have he1 := am_ws_at (w := w) (ad := ad) (am_lt hs1)
  rw [am_e_int hs1] at he1
  refine va_copyi (D := w.2.1) (tys := am_tys w) C.exec C.byt (by rw [C.mx, ← hL]; exact hl.1.symm) C.own (C.ts _ hw) (C.ts _ hw2) (C.ts _ hw3) (C.ts _ hw4) hR.2.2.1 hR.1 hR.2.1 hS i0 i1 0 0 (ty := .int) he0 he1 rfl rfl rfl h1 h2 h3 h4 h5 (fun i hi => rfl) (by omega) (by show _ + (7 + 11) ≤ R.locals; omega) h (fun H1 locs1 hP1 hD1 hS1 => ?_)
  have hset : (am_ws w ad G).set i1 (ad i1, .inl (w.2.2.1 0, m1, .inl (va_cpy (G.2.1 i0) (G.2.1 i1) sp.toNatClampNeg dp.toNatClampNeg n.toNatClampNeg))) = am_ws w ad (am_ro G i1 (va_cpy (G.2.1 i0) (G.2.1 i1) sp.toNatClampNeg dp.toNatClampNeg n.toNatClampNeg)) :=
    am_row_ws (n := m1) (am_lt hs1) (by rw [am_e_int (G := am_ro G i1 (va_cpy (G.2.1 i0) (G.2.1 i1) sp.toNatClampNeg dp.toNatClampNeg n.toNatClampNeg)) (x := m1) hs1]; unfold am_ro; simp only [am_up_eq])
  rw [hset] at hP1 hD1
  exact kk p e R s m args below meth c ad0 ad H1 locs1 cells slots ls Q n0 C ⟨hP1, hD1, hR.2.2.1, hR.2.2.2⟩ hS1 hl hL vL vS.tl.tl.tl.tl.tl hc hs hn hx hE
end AmRows
/-- contracts -/
def am_ws1 (j : Nat) : List Cond := Cond.code (am_y j) (am_by j) (am_mx j) (am_ret j) :: am_T
def am_rm (d : Nat) (k : Nat × Nat) : Room := { frames := d, cells := k.1, slots := k.2, locals := 42 * d }
def am_St (w : am_W) (ad : Nat → Nat) (G : am_G) (U : State) : Prop := am_Rel w ad G U U.heap ∧ am_Sta w ad U
def am_Q (w : am_W) (ad : Nat → Nat) (n : Nat) (P : Option am_V → am_G → Prop) : Array Value → State → Outcome → State → Prop := fun _ st oc t =>
  (∃ (r : Option am_V) (G' : am_G) (ad' : Nat → Nat), oc = .returned (r.map (am_v ad')) ∧ P r G' ∧ n ≤ am_n G' ∧ am_ext n ad ad' ∧ (∀ v, r = some v → am_ok1 (am_n G') v) ∧ am_Rel w ad' G' t t.heap) ∧ va_F (am_A w) st t
def am_Ok (w : am_W) (j d : Nat) (k : Nat × Nat) (av : List am_V) (G : am_G) (P : Option am_V → am_G → Prop) : Prop :=
  ∀ ad : Nat → Nat, Met w.1 (am_y j) (am_ws1 j) (am_rm d k) (va_Pc (av.map (am_v ad)) (fun U => am_St w ad G U ∧ am_vS (am_n G) av)) (am_Q w ad (am_n G) P) k.1 k.2 (am_A w)
theorem am_Sta.moved {w : am_W} {ad : Nat → Nat} {u U : State} (hvm : u.vm.Alike U.vm) (hN : u.vm = U.vm ∨ u.WarmedH U.vm) (hz : u.heap.size ≤ U.heap.size) (hq : ∀ a : Nat, a < u.heap.size → ¬ am_A w a → U.heap[a]? = u.heap[a]?) (h : am_Sta w ad u) : am_Sta w ad U :=
  ⟨fun k hk => ⟨((h.1 k hk).1.moved hvm).kept hq, ((h.1 k hk).2.moved hvm).kept hq⟩, (h.2.1.moved hvm).kept (hq _ h.2.2.1 h.2.2.2.1), Nat.lt_of_lt_of_le h.2.2.1 hz, h.2.2.2.1, Nat.le_trans h.2.2.2.2.1 hz, fun t ht => (h.2.2.2.2.2.1 t ht).moved hvm,
    fun q hq => hN.elim (fun e => va_Nw.same rfl e (h.2.2.2.2.2.2.1 q hq)) (fun e => va_Nw.warmF e (h.2.2.2.2.2.2.1 q hq)), fun q hq => hN.elim (fun e => va_Nw.same rfl e (h.2.2.2.2.2.2.2 q hq)) (fun e => va_Nw.warmM e (h.2.2.2.2.2.2.2 q hq))⟩
theorem am_Sta.ext {w : am_W} {n : Nat} {ad ad' : Nat → Nat} {u : State} (hx : am_ext n ad ad') (h : am_Sta w ad u) : am_Sta w ad' u := by
  have e0 := hx 1000000 (Or.inr (Nat.le_refl _))
  refine ⟨fun k hk => ?_, by rw [e0]; exact h.2.1, by rw [e0]; exact h.2.2.1, by rw [e0]; exact h.2.2.2.1, h.2.2.2.2⟩
  rw [hx (1000001 + k) (Or.inr (by omega))]
  exact h.1 k hk
theorem am_ok_of {w : am_W} {j d : Nat} {k : Nat × Nat} {av : List am_V} {G : am_G} {P : Option am_V → am_G → Prop} (hj : plainName (am_y j).cls = true) (hlen : av.length ≤ am_mx j) (kk : am_Go w j d k 0 (am_in av (am_mx j)) [] G P) : am_Ok w j d k av G P := by
  intro ad
  refine Met.ofW (cc := am_by j) (maxL := am_mx j) (ret := am_ret j) hj rfl ?_
  intro p e s m args below meth c s₁ B hml hv
  obtain ⟨rfl, ⟨hR, hSt⟩, hvS⟩ := hv
  have hts := atoms_spec (ws := am_ws1 j) B.pre
  have hlocks := B.notSynchronized
  have hown : s.vm.findClass (am_own j) = some m.cls := findClass_of_methodNamed B.named
  have C : am_Cx w j d ad p (headSpec (am_ws1 j) (am_rm d k)).room s m (av.map (am_v ad)).toArray meth c := ⟨B.exec, B.bytes, B.returns, hml, hown, fun w hw => hts w (List.mem_cons_of_mem _ hw), hlocks, fun h => (name_of_methodNamed B.named B.method).1.trans h, Nat.le_refl _, Nat.le_refl _, hSt⟩
  rw [lg_entry_eq]
  refine kk p e _ s m _ below meth c ad ad s.heap [] 0 0 _ _ (am_n G) C hR va_S.rf (am_entry ad av hlen) (am_in_len hlen) (fun i v hi => hvS v (List.mem_of_getElem? (am_in_at hi))) am_vS.nil (by rw [Nat.zero_add]; exact Nat.le_refl _) (by rw [Nat.zero_add]; exact Nat.le_refl _) (Nat.le_refl _) am_ext.rf ?_
  intro r G' ad' H' locs' pc' ls' hp hR' hS' hn' hx' hok hret
  have hq : ∀ (o : Option Value), o = r.map (am_v ad') → ∀ t : State, t.heap = H' → s.WarmedH t.vm → am_Q w ad (am_n G) P (av.map (am_v ad)).toArray s (.returned o) t := by
    intro o ho t ht hW
    subst ho
    exact ⟨⟨r, G', ad', rfl, hp, hn', hx', hok, by rw [ht]; exact hR'.1, hR'.2.1, va_K.moved hW.alike hR'.2.2.1, hR'.2.2.2⟩, hS'.F ht⟩
  rcases hret with ⟨hd, x, ty, rfl, hty, hnar⟩ | ⟨hd, x, ty, rfl, hty, hrk⟩ | ⟨hd, rfl, hty⟩
  · exact W.zret C.exec C.byt (C.ret.trans hty) hnar (hq _ rfl) hS'.2.2 hd
  · refine W.aret C.exec C.byt (C.ret.trans hty) ?_ (am_rfv (ad := ad') (r := x)) (hq _ rfl) hS'.2.2 hd
    cases ty <;> first | (cases hrk; done) | exact Or.inl ⟨_, rfl⟩ | exact Or.inr ⟨_, rfl⟩
  · exact W.vret C.exec C.byt (C.ret.trans hty) (hq _ rfl) hS'.2.2 hd
theorem am_Ok.post {w : am_W} {j d : Nat} {k : Nat × Nat} {av : List am_V} {G : am_G} {P P' : Option am_V → am_G → Prop} (h : am_Ok w j d k av G P') (hp : ∀ r G', P' r G' → P r G') : am_Ok w j d k av G P := by
  intro ad p e ha hc hk s m args below hf happ hpre htr
  obtain ⟨k2, o, h1, h2, h3, ⟨⟨r, G', ad', g1, g2, g3⟩, hF⟩, hL⟩ := h ad p e ha hc hk s m args below hf happ hpre htr
  exact ⟨k2, o, h1, h2, h3, ⟨⟨r, G', ad', g1, hp r G' g2, g3⟩, hF⟩, hL⟩
section AmCalls
variable {w : am_W} {j d : Nat} {k : Nat × Nat} {pc : Nat} {L : List (Option am_V)} {st : List am_V} {G : am_G} {P P' : Option am_V → am_G → Prop}
theorem am_after {k' : Nat × Nat} {n : Nat} {a : Array Value} {st0 rest : List Value} {ad : Nat → Nat}
    {p : Program} {l : Launch} {e : Env} {R : Room} {s : State} {m : MethodId} {args : Array Value} {below : List Frame} {meth : Method} {c : Code} {H : Heap} {locs : List Loc} {cells slots : Nat} {ls : Array Slot} {Q : State → Prop}
    (hr : va_Run p l e R s m args below meth c H locs cells slots k'.1 k'.2 (F0 m pc ls st0) rest (am_Q w ad n P' a) (am_A w)) (hS : va_S (am_A w) s.heap H locs)
    (kk : ∀ (r : Option am_V) (G' : am_G) (ad' : Nat → Nat) (H1 : Heap) (locs1 : List Loc), P' r G' → n ≤ am_n G' → am_ext n ad ad' → (∀ v, r = some v → am_ok1 (am_n G') v) → am_Rel w ad' G' s H1 → va_S (am_A w) s.heap H1 locs1 →
      W p l e R s m args below meth c H1 locs1 (cells + k'.1) (slots + k'.2) Q (F0 m (pc + 3) ls ((r.map (am_v ad')).toList ++ rest))) : W p l e R s m args below meth c H locs cells slots Q (F0 m pc ls st0) := by
  intro T hT X
  obtain ⟨v, st₀, t, T', L', h0, X', hL, e1, e2, ⟨⟨r, G', ad', hv, hp, hn, hx, hok, hR⟩, hz, hk⟩, stp⟩ := hr T hT X
  cases hv
  rw [h0] at hz hk
  obtain ⟨t2, a1, b1⟩ := kk r G' ad' T'.heap (locs ++ L') hp hn hx hok ⟨by rw [e1]; exact hR.1, hR.2.1, va_K.moved (by rw [← e2]; exact X'.warmed.alike.symm) hR.2.2.1, hR.2.2.2⟩
    ⟨Nat.le_trans hS.1 (by rw [e1]; exact hz), fun q h1 h2 => by rw [e1, hk q (Nat.lt_of_lt_of_le h1 hS.1) h2]; exact hS.2.1 q h1 h2, fun q hq => by
      rcases List.mem_append.mp hq with h | h
      · exact hS.2.2 q h
      · exact hL q h⟩ T' rfl X'
  exact ⟨t2, stp t2 a1, b1⟩
/-- a call's words: by pool entry idx, method j calls method j' of n arguments -/
def am_Cs (own : String) (idx j' n : Nat) : Prop := Cond.code (am_y j') (am_by j') (am_mx j') (am_ret j') ∈ am_T ∧ Cond.initialized (am_y j').cls ∈ am_T ∧ ((am_y j').cls ≠ "java/lang/invoke/MethodHandle" ∧ (am_y j').cls ≠ "java/lang/invoke/VarHandle" ∧ (parseMethodDescriptor (am_y j').desc).map (fun d => d.parameters.length) = some n) ∧ am_mx j' ≤ 23 ∧
  (Cond.methodLink own idx (am_y j') ∈ am_T ∨ ∃ host, (own, idx, am_y j', host) ∈ am_TM)
theorem am_good {j' : Nat} (h : Cond.code (am_y j') (am_by j') (am_mx j') (am_ret j') ∈ am_T) : GoodIn am_T (am_ws1 j') := by
  intro x hx
  have hx2 : x ∈ am_T := by
    rcases List.mem_cons.mp hx with rfl | hx
    · exact h
    · exact hx
  exact ⟨hx2, good_of_word (am_T_good x hx2)⟩
theorem am_pre {ad0 ad : Nat → Nat} {n0 : Nat} {av : List am_V} {p : Program} {R : Room} {s : State} {m : MethodId} {args : Array Value} {meth : Method} {c : Code} {H : Heap} {locs : List Loc}
    (C : am_Cx w j d ad0 p R s m args meth c) (hR : am_Rel w ad G s H) (hS : va_S (am_A w) s.heap H locs) (hx : am_ext n0 ad0 ad) (hv : am_vS (am_n G) av) :
    PreS s H (va_Pc (av.map (am_v ad)) (fun U => am_St w ad G U ∧ am_vS (am_n G) av)) (av.map (am_v ad)) := by
  refine ⟨fun a U g mk hp => ?_, fun U hU hW => ?_⟩
  · obtain ⟨h1, ⟨h2, h3⟩, h4⟩ := hp
    exact ⟨h1, ⟨⟨h2.1, h2.2.1, va_K.moved (u := U) (U := U.calling g mk a) (Vm.Alike.refl U.vm) h2.2.2.1, h2.2.2.2⟩, am_Sta.moved (u := U) (U := U.calling g mk a) (Vm.Alike.refl U.vm) (Or.inl rfl) (Nat.le_refl _) (fun _ _ _ => rfl) h3⟩, h4⟩
  · refine ⟨rfl, ⟨⟨by rw [hU]; exact hR.1, hR.2.1, va_K.moved hW.alike hR.2.2.1, hR.2.2.2⟩, ?_⟩, hv⟩
    exact am_Sta.moved hW.alike (Or.inr hW) (by rw [hU]; exact hS.1) (fun a h1 h2 => by rw [hU]; exact hS.2.1 a h1 h2) (C.sta.ext hx)
/-- behind the call -/
theorem am_back {k' : Nat × Nat} (hk : k'.1 ≤ k.1 ∧ k'.2 ≤ k.2) (kk : ∀ (r : Option am_V) (G' : am_G), P' r G' → am_n G ≤ am_n G' → am_Go w j d (k.1 - k'.1, k.2 - k'.2) (pc + 3) L (r.toList ++ st) G' P)
    {p : Program} {e : Env} {R : Room} {s : State} {m : MethodId} {args : Array Value} {below : List Frame} {meth : Method} {c : Code} {ad0 ad : Nat → Nat} {locs : List Loc} {cells slots : Nat} {ls : Array Slot} {Q : State → Prop} {n0 : Nat} {H : Heap} {st0 : List Value} {a : Array Value}
    (hr : va_Run p w.1 e R s m args below meth c H locs cells slots k'.1 k'.2 (F0 m pc ls st0) (st.map (am_v ad)) (am_Q w ad (am_n G) P' a) (am_A w))
    (C : am_Cx w j d ad0 p R s m args meth c) (hS : va_S (am_A w) s.heap H locs) (hl : am_Ls ad L ls) (hL : L.length = am_mx j) (vL : am_vL (am_n G) L) (vS : am_vS (am_n G) st)
    (hc : cells + k.1 ≤ R.cells) (hs : slots + k.2 ≤ R.slots) (hn : n0 ≤ am_n G) (hx : am_ext n0 ad0 ad)
    (hE : ∀ (r : Option am_V) (G' : am_G) (ad' : Nat → Nat) (H' : Heap) (locs' : List Loc) (pc' : Nat) (ls' : Array Slot), P r G' → am_Rel w ad' G' s H' → va_S (am_A w) s.heap H' locs' → n0 ≤ am_n G' → am_ext n0 ad0 ad' → (∀ v, r = some v → am_ok1 (am_n G') v) → am_retAt j pc' r →
      W p w.1 e R s m args below meth c H' locs' R.cells R.slots Q (F0 m pc' ls' (r.toList.map (am_v ad')))) :
    W p w.1 e R s m args below meth c H locs cells slots Q (F0 m pc ls st0) := by
  refine am_after hr hS (fun r G' ad' H1 locs1 hp hn1 hx1 hok hR1 hS1 => ?_)
  have g := kk r G' hp hn1 p e R s m args below meth c ad0 ad' H1 locs1 (cells + k'.1) (slots + k'.2) ls Q n0 C hR1 hS1 (hl.ext hx1 vL) hL (vL.up hn1) (am_vS.app (fun v hv => hok v (by cases r with | none => cases hv | some u => rw [List.mem_singleton.mp hv])) (vS.up hn1)) (by show cells + k'.1 + (k.1 - k'.1) ≤ R.cells; omega) (by show slots + k'.2 + (k.2 - k'.2) ≤ R.slots; omega) (Nat.le_trans hn hn1) (hx.tr hn hx1) hE
  rw [List.map_append, hx1.st vS] at g
  cases r with
  | none => exact g
  | some u => exact g
theorem am_cb {idx j' n d' : Nat} {k' : Nat × Nat} {ad0 : Nat → Nat} {p : Program} {R : Room} {s : State} {m : MethodId} {args : Array Value} {meth : Method} {c : Code} (C : am_Cx w j d ad0 p R s m args meth c) (hc : am_Cs (am_own j) idx j' n) (hd : d' + 1 ≤ d) :
    CallB R s args (am_own j) idx (am_y j') (am_by j') (am_mx j') (am_ret j') (am_ws1 j') (am_rm d' k') k'.1 k'.2 n ∨ ∃ host, va_CN R s args (am_own j) idx (am_y j') host (am_by j') (am_mx j') (am_ret j') (am_ws1 j') (am_rm d' k') k'.1 k'.2 n := by
  obtain ⟨c1, c2, c3, c4, c5⟩ := hc
  have hf := C.fr
  have hlo := C.lo
  have hR : (am_rm d' k').frames + 1 ≤ R.frames ∧ 8 + (am_mx j' + 11) + (am_rm d' k').locals ≤ R.locals := ⟨show d' + 1 ≤ R.frames by omega, show 8 + (am_mx j' + 11) + 42 * d' ≤ R.locals by omega⟩
  rcases c5 with c5 | ⟨host, c5⟩
  · exact Or.inl (callB_of n C.ts (am_good c1) rfl rfl rfl (C.ts _ c2) (C.ts _ c5) c3 hR)
  · exact Or.inr ⟨host, va_cnB n C.ts (am_good c1) rfl rfl rfl (C.sta.2.2.2.2.2.2.2 _ c5) (C.ts _ c2) c3 hR⟩
theorem go_callS {idx j' n d' : Nat} {k' : Nat × Nat} (av : List am_V) (hc0 : am_Cs (am_own j) idx j' n) (hw : Cond.static (am_y j') ∈ am_T) (hn0 : av.length = n) (hd : d' + 1 ≤ d) (hk : k'.1 ≤ k.1 ∧ k'.2 ≤ k.2) (hsl : st.length ≤ 8) (h : decode (am_by j) pc = .ok (.invokestatic idx, 3)) (hM : am_Ok w j' d' k' av G P')
    (kk : ∀ (r : Option am_V) (G' : am_G), P' r G' → am_n G ≤ am_n G' → am_Go w j d (k.1 - k'.1, k.2 - k'.2) (pc + 3) L (r.toList ++ st) G' P) : am_Go w j d k pc L (av.reverse ++ st) G P := by
  intro p e R s m args below meth c ad0 ad H locs cells slots ls Q n0 C hR hS hl hL vL vS hc hs hn hx hE
  have hsum := am_sumcat ad st
  have hpre := am_pre C hR hS hx (av := av) (fun v hv => vS.l v (List.mem_reverse.mpr hv))
  have hstk : (F0 m pc ls ((av.reverse ++ st).map (am_v ad))).stack = (av.map (am_v ad)).reverse ++ st.map (am_v ad) := by
    show (av.reverse ++ st).map (am_v ad) = _
    rw [List.map_append, List.map_reverse]
  have hroom : 2 * (F0 m pc ls ((av.reverse ++ st).map (am_v ad))).monitorRoom + ((st.map (am_v ad)).map fun v => v.category).sum ≤ 8 := by
    show 2 * 0 + ((st.map (am_v ad)).map fun v => v.category).sum ≤ 8
    omega
  have hfx : CallFix p m c (am_by j) (am_mx j) s args am_T (am_own j) := ⟨C.exec, C.byt, C.mx, C.own, C.ts⟩
  have hfit : cells + k'.1 ≤ R.cells ∧ slots + k'.2 ≤ R.slots := ⟨by omega, by omega⟩
  have hsz : (F0 m pc ls ((av.reverse ++ st).map (am_v ad))).locals.size = am_mx j := by rw [← hL]; exact hl.1
  rcases am_cb (k' := k') C hc0 hd with hb | ⟨host, hb⟩
  · exact am_back hk kk (va_runS (Ts := am_T) hfx (hM ad) ⟨hb, C.ts _ hw⟩ hpre rfl (by rw [List.length_map]; exact hn0) hsz hstk hroom h hfit) C hS hl hL vL vS.r hc hs hn hx hE
  · exact am_back hk kk (va_runSN (Ts := am_T) hfx (hM ad) ⟨hb, C.ts _ hw, trivial⟩ hpre rfl (by rw [List.length_map]; exact hn0) hsz hstk hroom h hfit) C hS hl hL vL vS.r hc hs hn hx hE
theorem go_callV {idx j' n d' i ci : Nat} {k' : Nat × Nat} (av : List am_V) (hc0 : am_Cs (am_own j) idx j' n) (hsh : G.1[i]? = some (0, ci)) (hcl : (am_cl[ci]?).map (fun r => r.1) = some (am_y j').cls) (hw : Cond.instanceMethod (am_y j') ∈ am_T) (hw2 : Cond.selects (am_y j').cls (am_y j') (am_y j') ∈ am_T) (hn0 : av.length = n) (hd : d' + 1 ≤ d) (hk : k'.1 ≤ k.1 ∧ k'.2 ≤ k.2) (hsl : st.length ≤ 8) (h : decode (am_by j) pc = .ok (.invokevirtual idx, 3)) (hM : am_Ok w j' d' k' (.inr (some i) :: av) G P')
    (kk : ∀ (r : Option am_V) (G' : am_G), P' r G' → am_n G ≤ am_n G' → am_Go w j d (k.1 - k'.1, k.2 - k'.2) (pc + 3) L (r.toList ++ st) G' P) : am_Go w j d k pc L (av.reverse ++ .inr (some i) :: st) G P := by
  intro p e R s m args below meth c ad0 ad H locs cells slots ls Q n0 C hR hS hl hL vL vS hc hs hn hx hE
  have hsum := am_sumcat ad st
  have hpre := am_pre C hR hS hx (av := .inr (some i) :: av) (fun v hv => by
    rcases List.mem_cons.mp hv with rfl | hv
    · exact vS.r.hd
    · exact vS.l v (List.mem_reverse.mpr hv))
  obtain ⟨r, hr1, hr2⟩ := Option.map_eq_some_iff.mp hcl
  have he := am_ws_at (w := w) (ad := ad) (am_lt hsh)
  rw [am_e_obj hsh] at he
  have hrec := va_recv (q0 := i) hR.2.2.1 hR.1 hr1 he
  rw [hr2] at hrec
  have hstk : (F0 m pc ls ((av.reverse ++ .inr (some i) :: st).map (am_v ad))).stack = (av.map (am_v ad)).reverse ++ .ref (ad i) :: st.map (am_v ad) := by
    show (av.reverse ++ .inr (some i) :: st).map (am_v ad) = _
    rw [List.map_append, List.map_reverse]
    rfl
  have hroom : 2 * (F0 m pc ls ((av.reverse ++ .inr (some i) :: st).map (am_v ad))).monitorRoom + ((st.map (am_v ad)).map fun v => v.category).sum ≤ 8 := by
    show 2 * 0 + ((st.map (am_v ad)).map fun v => v.category).sum ≤ 8
    omega
  have hfx : CallFix p m c (am_by j) (am_mx j) s args am_T (am_own j) := ⟨C.exec, C.byt, C.mx, C.own, C.ts⟩
  have hfit : cells + k'.1 ≤ R.cells ∧ slots + k'.2 ≤ R.slots := ⟨by omega, by omega⟩
  have hsz : (F0 m pc ls ((av.reverse ++ .inr (some i) :: st).map (am_v ad))).locals.size = am_mx j := by rw [← hL]; exact hl.1
  rcases am_cb (k' := k') C hc0 hd with hb | ⟨host, hb⟩
  · exact am_back hk kk (va_runV (Ts := am_T) (C := (am_y j').cls) (b := ad i) (As := av.map (am_v ad)) hfx (hM ad) ⟨hb, C.ts _ hw, C.ts _ hw2⟩ ⟨hpre.1, hrec, hpre.2⟩ rfl (by rw [List.length_map]; exact hn0) hsz hstk hroom h hfit) C hS hl hL vL vS.r.tl hc hs hn hx hE
  · exact am_back hk kk (va_runVN (Ts := am_T) (C := (am_y j').cls) (b := ad i) (As := av.map (am_v ad)) hfx (hM ad) ⟨hb, C.ts _ hw, C.ts _ hw2⟩ ⟨hpre.1, hrec, hpre.2⟩ rfl (by rw [List.length_map]; exact hn0) hsz hstk hroom h hfit) C hS hl hL vL vS.r.tl hc hs hn hx hE
theorem go_callI {idx j' n d' i : Nat} {k' : Nat × Nat} (av : List am_V) (hc0 : am_Cs (am_own j) idx j' n) (hnm : (am_y j').name = "<init>") (hrt : am_ret j' = none) (hw : Cond.instanceMethod (am_y j') ∈ am_T) (hn0 : av.length = n) (hd : d' + 1 ≤ d) (hk : k'.1 ≤ k.1 ∧ k'.2 ≤ k.2) (hsl : st.length ≤ 8) (h : decode (am_by j) pc = .ok (.invokespecial idx, 3)) (hM : am_Ok w j' d' k' (.inr (some i) :: av) G P')
    (kk : ∀ (r : Option am_V) (G' : am_G), P' r G' → am_n G ≤ am_n G' → am_Go w j d (k.1 - k'.1, k.2 - k'.2) (pc + 3) L (r.toList ++ st) G' P) : am_Go w j d k pc L (av.reverse ++ .inr (some i) :: st) G P := by
  intro p e R s m args below meth c ad0 ad H locs cells slots ls Q n0 C hR hS hl hL vL vS hc hs hn hx hE
  have hsum := am_sumcat ad st
  have hpre := am_pre C hR hS hx (av := .inr (some i) :: av) (fun v hv => by
    rcases List.mem_cons.mp hv with rfl | hv
    · exact vS.r.hd
    · exact vS.l v (List.mem_reverse.mpr hv))
  have hstk : (F0 m pc ls ((av.reverse ++ .inr (some i) :: st).map (am_v ad))).stack = (av.map (am_v ad)).reverse ++ .ref (ad i) :: st.map (am_v ad) := by
    show (av.reverse ++ .inr (some i) :: st).map (am_v ad) = _
    rw [List.map_append, List.map_reverse]
    rfl
  have hroom : 2 * (F0 m pc ls ((av.reverse ++ .inr (some i) :: st).map (am_v ad))).monitorRoom + ((st.map (am_v ad)).map fun v => v.category).sum ≤ 8 := by
    show 2 * 0 + ((st.map (am_v ad)).map fun v => v.category).sum ≤ 8
    omega
  have hfx : CallFix p m c (am_by j) (am_mx j) s args am_T (am_own j) := ⟨C.exec, C.byt, C.mx, C.own, C.ts⟩
  have hfit : cells + k'.1 ≤ R.cells ∧ slots + k'.2 ≤ R.slots := ⟨by omega, by omega⟩
  have hsz : (F0 m pc ls ((av.reverse ++ .inr (some i) :: st).map (am_v ad))).locals.size = am_mx j := by rw [← hL]; exact hl.1
  rcases am_cb (k' := k') C hc0 hd with hb | ⟨host, hb⟩
  · rw [hrt] at hb
    exact am_back hk kk (va_runI (Ts := am_T) (b := ad i) (As := av.map (am_v ad)) hfx (hM ad) ⟨hb, hnm, C.ts _ hw⟩ hpre rfl (by rw [List.length_map]; exact hn0) hsz hstk hroom h hfit) C hS hl hL vL vS.r.tl hc hs hn hx hE
  · rw [hrt] at hb
    exact am_back hk kk (va_runIN (Ts := am_T) (b := ad i) (As := av.map (am_v ad)) hfx (hM ad) ⟨hb, hnm, C.ts _ hw⟩ hpre rfl (by rw [List.length_map]; exact hn0) hsz hstk hroom h hfit) C hS hl hL vL vS.r.tl hc hs hn hx hE
end AmCalls
end
section
section AmNat
variable {w : am_W} {j d : Nat} {k : Nat × Nat} {pc : Nat} {L : List (Option am_V)} {st : List am_V} {G : am_G} {P : Option am_V → am_G → Prop}
theorem go_ialoadN {i n a : Nat} (hs : G.1[i]? = some (1, n)) (ha : a < n) (hn : n < 2 ^ 31) (h : decode (am_by j) pc = .ok (.iaload, 1)) (kk : am_Go w j d k (pc + 1) L (.inl (G.2.1 i a) :: st) G P) : am_Go w j d k pc L (.inl (nI a) :: .inr (some i) :: st) G P :=
  go_iaload hs (vp_in_nI ha hn) h (by rw [nI_clamp (by omega)]; exact kk)
theorem go_baloadN {i n a : Nat} (hs : G.1[i]? = some (2, n)) (ha : a < n) (hn : n < 2 ^ 31) (h : decode (am_by j) pc = .ok (.baload, 1)) (kk : am_Go w j d k (pc + 1) L (.inl (G.2.1 i a) :: st) G P) : am_Go w j d k pc L (.inl (nI a) :: .inr (some i) :: st) G P :=
  go_baload hs (vp_in_nI ha hn) h (by rw [nI_clamp (by omega)]; exact kk)
theorem go_aaloadN {i n a t : Nat} (htt : t < am_nrc) (hs : G.1[i]? = some (t + 3, n)) (ha : a < n) (hn : n < 2 ^ 31) (h : decode (am_by j) pc = .ok (.aaload, 1)) (kk : am_Go w j d k (pc + 1) L (.inr (G.2.2 i a) :: st) G P) : am_Go w j d k pc L (.inl (nI a) :: .inr (some i) :: st) G P :=
  go_aaload htt hs (vp_in_nI ha hn) h (by rw [nI_clamp (by omega)]; exact kk)
theorem go_iastoreN {i n a : Nat} {v : Int32} (hs : G.1[i]? = some (1, n)) (ha : a < n) (hn : n < 2 ^ 31) (h : decode (am_by j) pc = .ok (.iastore, 1)) (kk : am_Go w j d k (pc + 1) L st (am_wi G i a v) P) : am_Go w j d k pc L (.inl v :: .inl (nI a) :: .inr (some i) :: st) G P :=
  go_iastore hs (vp_in_nI ha hn) h (by rw [nI_clamp (by omega)]; exact kk)
theorem go_bastoreN {i n a : Nat} {v : Int32} (hv : v &&& 1 = v) (hs : G.1[i]? = some (2, n)) (ha : a < n) (hn : n < 2 ^ 31) (h : decode (am_by j) pc = .ok (.bastore, 1)) (kk : am_Go w j d k (pc + 1) L st (am_wi G i a v) P) : am_Go w j d k pc L (.inl v :: .inl (nI a) :: .inr (some i) :: st) G P :=
  go_bastore hs (vp_in_nI ha hn) h (by rw [nI_clamp (by omega), hv]; exact kk)
theorem go_aastoreN {i n a t ci q : Nat} (htt : t < am_nrc) (hs : G.1[i]? = some (t + 3, n)) (ha : a < n) (hn : n < 2 ^ 31) (hq : G.1[q]? = some (0, ci)) (hc0 : (am_cl[ci]?).map (fun r => r.1) = some (am_rc t)) (h : decode (am_by j) pc = .ok (.aastore, 1)) (kk : am_Go w j d k (pc + 1) L st (am_wr G i a (some q)) P) : am_Go w j d k pc L (.inr (some q) :: .inl (nI a) :: .inr (some i) :: st) G P :=
  go_aastore htt hs (vp_in_nI ha hn) hq hc0 h (by rw [nI_clamp (by omega)]; exact kk)
theorem go_copyN {idx i0 i1 m0 m1 : Nat} {sp dp n : Nat} (hd : 1 ≤ d) (hsl : st.length ≤ 8) (hw : Cond.methodLink (am_own j) idx arraycopyName ∈ am_T) (hw2 : Cond.native arraycopyName ∈ am_T) (hw3 : Cond.static arraycopyName ∈ am_T) (hw4 : Cond.initialized "java/lang/System" ∈ am_T) (hs0 : G.1[i0]? = some (1, m0)) (hs1 : G.1[i1]? = some (1, m1))
    (h4 : sp + n ≤ m0) (h5 : dp + n ≤ m1) (hm0 : m0 < 2 ^ 31) (hm1 : m1 < 2 ^ 31) (h : decode (am_by j) pc = .ok (.invokestatic idx, 3))
    (kk : am_Go w j d k (pc + 3) L st (am_ro G i1 (va_cpy (G.2.1 i0) (G.2.1 i1) sp dp n)) P) : am_Go w j d k pc L (.inl (nI n) :: .inl (nI dp) :: .inr (some i1) :: .inl (nI sp) :: .inr (some i0) :: st) G P := by
  have c1 : (nI sp).toNatClampNeg = sp := nI_clamp (by omega)
  have c2 : (nI dp).toNatClampNeg = dp := nI_clamp (by omega)
  have c3 : (nI n).toNatClampNeg = n := nI_clamp (by omega)
  exact go_copyI hd hsl hw hw2 hw3 hw4 hs0 hs1 (nI_pos (by omega)) (nI_pos (by omega)) (nI_pos (by omega)) (by rw [c1, c3]; exact h4) (by rw [c2, c3]; exact h5) h (by rw [c1, c2, c3]; exact kk)
variable {a b : Nat} {off : Int} {tgt : Nat}
theorem go_icmp_eqN (ha : a < 2 ^ 31) (hb : b < 2 ^ 31) (h : decode (am_by j) pc = .ok (.if_icmp .eq off, 3)) (ht : (pc : Int) + off = (tgt : Int)) (kt : a = b → am_Go w j d k tgt L st G P) (kf : ¬ a = b → am_Go w j d k (pc + 3) L st G P) : am_Go w j d k pc L (.inl (nI b) :: .inl (nI a) :: st) G P :=
  go_icmp_eq h ht (fun q => kt ((nI_eq ha hb).mp q)) (fun q => kf ((fun e => q ((nI_eq ha hb).mpr e))))
theorem go_icmp_neN (ha : a < 2 ^ 31) (hb : b < 2 ^ 31) (h : decode (am_by j) pc = .ok (.if_icmp .ne off, 3)) (ht : (pc : Int) + off = (tgt : Int)) (kt : ¬ a = b → am_Go w j d k tgt L st G P) (kf : a = b → am_Go w j d k (pc + 3) L st G P) : am_Go w j d k pc L (.inl (nI b) :: .inl (nI a) :: st) G P :=
  go_icmp_ne h ht (fun q => kt ((fun e => q ((nI_eq ha hb).mpr e)))) (fun q => kf ((nI_eq ha hb).mp q))
theorem go_icmp_ltN (ha : a < 2 ^ 31) (hb : b < 2 ^ 31) (h : decode (am_by j) pc = .ok (.if_icmp .lt off, 3)) (ht : (pc : Int) + off = (tgt : Int)) (kt : a < b → am_Go w j d k tgt L st G P) (kf : b ≤ a → am_Go w j d k (pc + 3) L st G P) : am_Go w j d k pc L (.inl (nI b) :: .inl (nI a) :: st) G P :=
  go_icmp_lt h ht (fun q => kt ((nI_ltI ha hb).mp q)) (fun q => kf (Nat.le_of_not_lt (fun e => q ((nI_ltI ha hb).mpr e))))
theorem go_icmp_geN (ha : a < 2 ^ 31) (hb : b < 2 ^ 31) (h : decode (am_by j) pc = .ok (.if_icmp .ge off, 3)) (ht : (pc : Int) + off = (tgt : Int)) (kt : b ≤ a → am_Go w j d k tgt L st G P) (kf : a < b → am_Go w j d k (pc + 3) L st G P) : am_Go w j d k pc L (.inl (nI b) :: .inl (nI a) :: st) G P :=
  go_icmp_ge h ht (fun q => kt ((nI_leI hb ha).mp q)) (fun q => kf (Nat.lt_of_not_le (fun e => q ((nI_leI hb ha).mpr e))))
theorem go_icmp_gtN (ha : a < 2 ^ 31) (hb : b < 2 ^ 31) (h : decode (am_by j) pc = .ok (.if_icmp .gt off, 3)) (ht : (pc : Int) + off = (tgt : Int)) (kt : b < a → am_Go w j d k tgt L st G P) (kf : a ≤ b → am_Go w j d k (pc + 3) L st G P) : am_Go w j d k pc L (.inl (nI b) :: .inl (nI a) :: st) G P :=
  go_icmp_gt h ht (fun q => kt ((nI_ltI hb ha).mp q)) (fun q => kf (Nat.le_of_not_lt (fun e => q ((nI_ltI hb ha).mpr e))))
theorem go_icmp_leN (ha : a < 2 ^ 31) (hb : b < 2 ^ 31) (h : decode (am_by j) pc = .ok (.if_icmp .le off, 3)) (ht : (pc : Int) + off = (tgt : Int)) (kt : a ≤ b → am_Go w j d k tgt L st G P) (kf : b < a → am_Go w j d k (pc + 3) L st G P) : am_Go w j d k pc L (.inl (nI b) :: .inl (nI a) :: st) G P :=
  go_icmp_le h ht (fun q => kt ((nI_leI ha hb).mp q)) (fun q => kf (Nat.lt_of_not_le (fun e => q ((nI_leI ha hb).mpr e))))
def am_b (c : Bool) : Int32 := if c = true then 1 else 0
theorem am_b_t : am_b true = 1 := rfl
theorem am_b_f : am_b false = 0 := rfl
theorem am_b_01 (c : Bool) : am_b c = 0 ∨ am_b c = 1 := by cases c <;> simp [am_b]
theorem am_b_and1 (c : Bool) : am_b c &&& 1 = am_b c := by cases c <;> decide
theorem am_b_eq0 {c : Bool} : am_b c = 0 ↔ c = false := by cases c <;> simp [am_b]
theorem am_b_or (c e : Bool) : am_b c ||| am_b e = am_b (c || e) := by cases c <;> cases e <;> decide
theorem go_if_eqN (ha : a < 2 ^ 31) (h : decode (am_by j) pc = .ok (.ifCond .eq off, 3)) (ht : (pc : Int) + off = (tgt : Int)) (kt : a = 0 → am_Go w j d k tgt L st G P) (kf : ¬ a = 0 → am_Go w j d k (pc + 3) L st G P) : am_Go w j d k pc L (.inl (nI a) :: st) G P :=
  go_if_eq h ht (fun q => kt ((nI_eq ha (by decide : 0 < 2 ^ 31)).mp (q.trans nI_0.symm))) (fun q => kf (fun e => q (by rw [e]; exact nI_0)))
theorem go_if_neN (ha : a < 2 ^ 31) (h : decode (am_by j) pc = .ok (.ifCond .ne off, 3)) (ht : (pc : Int) + off = (tgt : Int)) (kt : ¬ a = 0 → am_Go w j d k tgt L st G P) (kf : a = 0 → am_Go w j d k (pc + 3) L st G P) : am_Go w j d k pc L (.inl (nI a) :: st) G P :=
  go_if_ne h ht (fun q => kt (fun e => q (by rw [e]; exact nI_0))) (fun q => kf ((nI_eq ha (by decide : 0 < 2 ^ 31)).mp (q.trans nI_0.symm)))
theorem go_if_leN (ha : a < 2 ^ 31) (h : decode (am_by j) pc = .ok (.ifCond .le off, 3)) (ht : (pc : Int) + off = (tgt : Int)) (kt : a = 0 → am_Go w j d k tgt L st G P) (kf : 0 < a → am_Go w j d k (pc + 3) L st G P) : am_Go w j d k pc L (.inl (nI a) :: st) G P :=
  go_if_le h ht (fun q => kt (by
    rcases Nat.eq_zero_or_pos a with e | e
    · exact e
    · exact absurd q (nI_nle e ha))) (fun q => kf (by
    rcases Nat.eq_zero_or_pos a with e | e
    · exact absurd (by rw [e, nI_0]; decide) q
    · exact e))
variable {c : Bool}
theorem go_if_eqB (h : decode (am_by j) pc = .ok (.ifCond .eq off, 3)) (ht : (pc : Int) + off = (tgt : Int)) (kt : c = false → am_Go w j d k tgt L st G P) (kf : c = true → am_Go w j d k (pc + 3) L st G P) : am_Go w j d k pc L (.inl (am_b c) :: st) G P :=
  go_if_eq h ht (fun q => kt (am_b_eq0.mp q)) (fun q => kf (by cases c; exact absurd rfl q; rfl))
theorem go_if_neB (h : decode (am_by j) pc = .ok (.ifCond .ne off, 3)) (ht : (pc : Int) + off = (tgt : Int)) (kt : c = true → am_Go w j d k tgt L st G P) (kf : c = false → am_Go w j d k (pc + 3) L st G P) : am_Go w j d k pc L (.inl (am_b c) :: st) G P :=
  go_if_ne h ht (fun q => kt (by cases c; exact absurd rfl q; rfl)) (fun q => kf (am_b_eq0.mp q))
theorem go_zreturnB (hr : am_ret j = some .boolean) (h : decode (am_by j) pc = .ok (.ireturn, 1)) (hp : P (some (.inl (am_b c))) G) : am_Go w j d k pc L [.inl (am_b c)] G P := go_zreturn hr (am_b_01 c) h hp
end AmNat
end
section
set_option maxRecDepth 100000 in
theorem am_w0 : ∀ w ∈ u_ws am_R0 am_F0 7, w ∈ am_T := wd_inr _ [289, 291, 293, 295, 297, 299, 301] (by decide +kernel) (by decide +kernel)
theorem am_ty0 : ∀ q, q < 7 → parseFieldDescriptor (am_F0 q).2.2.1 = some (am_ft 0 q) := by decide +kernel
theorem am_nm0 : ∀ a, a < 7 → ∀ b, b < 7 → a ≠ b → (am_F0 a).2.1 ≠ (am_F0 b).2.1 := by decide +kernel
set_option maxRecDepth 100000 in
theorem am_w1 : ∀ w ∈ u_ws am_R1 am_F1 11, w ∈ am_T := wd_inr _ [77, 79, 81, 83, 85, 87, 89, 91, 93, 95, 97] (by decide +kernel) (by decide +kernel)
theorem am_ty1 : ∀ q, q < 11 → parseFieldDescriptor (am_F1 q).2.2.1 = some (am_ft 1 q) := by decide +kernel
theorem am_nm1 : ∀ a, a < 11 → ∀ b, b < 11 → a ≠ b → (am_F1 a).2.1 ≠ (am_F1 b).2.1 := by decide +kernel
set_option maxRecDepth 100000 in
theorem am_w2 : ∀ w ∈ u_ws am_R2 am_F2 1, w ∈ am_T := wd_inr _ [105] (by decide +kernel) (by decide +kernel)
theorem am_ty2 : ∀ q, q < 1 → parseFieldDescriptor (am_F2 q).2.2.1 = some (am_ft 2 q) := by decide +kernel
theorem am_nm2 : ∀ a, a < 1 → ∀ b, b < 1 → a ≠ b → (am_F2 a).2.1 ≠ (am_F2 b).2.1 := by decide +kernel
set_option maxRecDepth 100000 in
theorem am_w3 : ∀ w ∈ u_ws am_R3 am_F3 10, w ∈ am_T := wd_inr _ [126, 128, 130, 132, 134, 136, 138, 140, 142, 144] (by decide +kernel) (by decide +kernel)
theorem am_ty3 : ∀ q, q < 10 → parseFieldDescriptor (am_F3 q).2.2.1 = some (am_ft 3 q) := by decide +kernel
theorem am_nm3 : ∀ a, a < 10 → ∀ b, b < 10 → a ≠ b → (am_F3 a).2.1 ≠ (am_F3 b).2.1 := by decide +kernel
set_option maxRecDepth 100000 in
theorem am_w4 : ∀ w ∈ u_ws am_R4 am_F4 8, w ∈ am_T := wd_inr _ [265, 267, 269, 271, 273, 275, 277, 279] (by decide +kernel) (by decide +kernel)
theorem am_ty4 : ∀ q, q < 8 → parseFieldDescriptor (am_F4 q).2.2.1 = some (am_ft 4 q) := by decide +kernel
theorem am_nm4 : ∀ a, a < 8 → ∀ b, b < 8 → a ≠ b → (am_F4 a).2.1 ≠ (am_F4 b).2.1 := by decide +kernel
set_option maxRecDepth 100000 in
theorem am_w5 : ∀ w ∈ u_ws am_R5 am_F5 7, w ∈ am_T := wd_inr _ [173, 175, 177, 179, 181, 183, 185] (by decide +kernel) (by decide +kernel)
theorem am_ty5 : ∀ q, q < 7 → parseFieldDescriptor (am_F5 q).2.2.1 = some (am_ft 5 q) := by decide +kernel
theorem am_nm5 : ∀ a, a < 7 → ∀ b, b < 7 → a ≠ b → (am_F5 a).2.1 ≠ (am_F5 b).2.1 := by decide +kernel
set_option maxRecDepth 100000 in
theorem am_w6 : ∀ w ∈ u_ws am_R6 am_F6 9, w ∈ am_T := wd_inr _ [197, 199, 201, 203, 205, 207, 209, 211, 213] (by decide +kernel) (by decide +kernel)
theorem am_ty6 : ∀ q, q < 9 → parseFieldDescriptor (am_F6 q).2.2.1 = some (am_ft 6 q) := by decide +kernel
theorem am_nm6 : ∀ a, a < 9 → ∀ b, b < 9 → a ≠ b → (am_F6 a).2.1 ≠ (am_F6 b).2.1 := by decide +kernel
set_option maxRecDepth 100000 in
theorem am_w7 : ∀ w ∈ u_ws am_R7 am_F7 4, w ∈ am_T := wd_inr _ [228, 230, 232, 234] (by decide +kernel) (by decide +kernel)
theorem am_ty7 : ∀ q, q < 4 → parseFieldDescriptor (am_F7 q).2.2.1 = some (am_ft 7 q) := by decide +kernel
theorem am_nm7 : ∀ a, a < 4 → ∀ b, b < 4 → a ≠ b → (am_F7 a).2.1 ≠ (am_F7 b).2.1 := by decide +kernel
set_option maxRecDepth 100000 in
theorem am_w8 : ∀ w ∈ u_ws am_R8 am_F8 52, w ∈ am_T := wd_inr _ [768, 770, 772, 774, 776, 778, 780, 782, 784, 786, 788, 790, 792, 794, 796, 798, 800, 802, 804, 806, 808, 810, 812, 814, 816, 818, 820, 822, 824, 826, 828, 830, 832, 834, 836, 838, 840, 842, 844, 846, 848, 850, 852, 854, 856, 858, 860, 862, 864, 866, 868, 870] (by decide +kernel) (by decide +kernel)
theorem am_ty8 : ∀ q, q < 52 → parseFieldDescriptor (am_F8 q).2.2.1 = some (am_ft 8 q) := by decide +kernel
theorem am_nm8 : ∀ a, a < 52 → ∀ b, b < 52 → a ≠ b → (am_F8 a).2.1 ≠ (am_F8 b).2.1 := by decide +kernel
theorem flF_11 : am_Fl "FrameForge" 11 0 0 := ⟨am_R0, am_F0, 7, rfl, by decide, am_w0, wd_in 282 (by decide +kernel) rfl, am_ty0, am_nm0⟩
theorem ffF_11 : am_Ff "FrameForge" 11 0 0 := ⟨flF_11, am_R0, am_F0, 7, rfl, rfl, rfl⟩
theorem flF_19 : am_Fl "FrameForge" 19 0 1 := ⟨am_R0, am_F0, 7, rfl, by decide, am_w0, wd_in 283 (by decide +kernel) rfl, am_ty0, am_nm0⟩
theorem ffF_19 : am_Ff "FrameForge" 19 0 1 := ⟨flF_19, am_R0, am_F0, 7, rfl, rfl, rfl⟩
theorem flF_26 : am_Fl "FrameForge" 26 0 2 := ⟨am_R0, am_F0, 7, rfl, by decide, am_w0, wd_in 284 (by decide +kernel) rfl, am_ty0, am_nm0⟩
theorem ffF_26 : am_Ff "FrameForge" 26 0 2 := ⟨flF_26, am_R0, am_F0, 7, rfl, rfl, rfl⟩
theorem flF_33 : am_Fl "FrameForge" 33 0 3 := ⟨am_R0, am_F0, 7, rfl, by decide, am_w0, wd_in 285 (by decide +kernel) rfl, am_ty0, am_nm0⟩
theorem ffF_33 : am_Ff "FrameForge" 33 0 3 := ⟨flF_33, am_R0, am_F0, 7, rfl, rfl, rfl⟩
theorem flF_40 : am_Fl "FrameForge" 40 0 4 := ⟨am_R0, am_F0, 7, rfl, by decide, am_w0, wd_in 286 (by decide +kernel) rfl, am_ty0, am_nm0⟩
theorem ffF_40 : am_Ff "FrameForge" 40 0 4 := ⟨flF_40, am_R0, am_F0, 7, rfl, rfl, rfl⟩
theorem flF_44 : am_Fl "FrameForge" 44 0 5 := ⟨am_R0, am_F0, 7, rfl, by decide, am_w0, wd_in 287 (by decide +kernel) rfl, am_ty0, am_nm0⟩
theorem ffF_44 : am_Ff "FrameForge" 44 0 5 := ⟨flF_44, am_R0, am_F0, 7, rfl, rfl, rfl⟩
theorem flF_47 : am_Fl "FrameForge" 47 0 6 := ⟨am_R0, am_F0, 7, rfl, by decide, am_w0, wd_in 288 (by decide +kernel) rfl, am_ty0, am_nm0⟩
theorem fpF_47 : am_Fp "FrameForge" 47 0 6 := ⟨flF_47, am_R0, am_F0, 7, rfl, rfl⟩
theorem flF_77 : am_Fl "FrameForge" 77 1 7 := ⟨am_R1, am_F1, 11, rfl, by decide, am_w1, wd_in 62 (by decide +kernel) rfl, am_ty1, am_nm1⟩
theorem fpF_77 : am_Fp "FrameForge" 77 1 7 := ⟨flF_77, am_R1, am_F1, 11, rfl, rfl⟩
theorem flF_88 : am_Fl "FrameForge" 88 1 8 := ⟨am_R1, am_F1, 11, rfl, by decide, am_w1, wd_in 66 (by decide +kernel) rfl, am_ty1, am_nm1⟩
theorem flF_95 : am_Fl "FrameForge" 95 3 1 := ⟨am_R3, am_F3, 10, rfl, by decide, am_w3, wd_in 117 (by decide +kernel) rfl, am_ty3, am_nm3⟩
theorem flF_102 : am_Fl "FrameForge" 102 3 0 := ⟨am_R3, am_F3, 10, rfl, by decide, am_w3, wd_in 115 (by decide +kernel) rfl, am_ty3, am_nm3⟩
theorem flF_120 : am_Fl "FrameForge" 120 4 1 := ⟨am_R4, am_F4, 8, rfl, by decide, am_w4, wd_in 247 (by decide +kernel) rfl, am_ty4, am_nm4⟩
theorem flF_123 : am_Fl "FrameForge" 123 4 2 := ⟨am_R4, am_F4, 8, rfl, by decide, am_w4, wd_in 249 (by decide +kernel) rfl, am_ty4, am_nm4⟩
theorem flF_126 : am_Fl "FrameForge" 126 4 3 := ⟨am_R4, am_F4, 8, rfl, by decide, am_w4, wd_in 253 (by decide +kernel) rfl, am_ty4, am_nm4⟩
theorem flF_129 : am_Fl "FrameForge" 129 4 4 := ⟨am_R4, am_F4, 8, rfl, by decide, am_w4, wd_in 255 (by decide +kernel) rfl, am_ty4, am_nm4⟩
theorem flF_132 : am_Fl "FrameForge" 132 4 5 := ⟨am_R4, am_F4, 8, rfl, by decide, am_w4, wd_in 259 (by decide +kernel) rfl, am_ty4, am_nm4⟩
theorem flF_135 : am_Fl "FrameForge" 135 4 6 := ⟨am_R4, am_F4, 8, rfl, by decide, am_w4, wd_in 261 (by decide +kernel) rfl, am_ty4, am_nm4⟩
theorem flF_138 : am_Fl "FrameForge" 138 4 7 := ⟨am_R4, am_F4, 8, rfl, by decide, am_w4, wd_in 263 (by decide +kernel) rfl, am_ty4, am_nm4⟩
theorem flF_144 : am_Fl "FrameForge" 144 4 0 := ⟨am_R4, am_F4, 8, rfl, by decide, am_w4, wd_in 244 (by decide +kernel) rfl, am_ty4, am_nm4⟩
theorem flF_158 : am_Fl "FrameForge" 158 1 1 := ⟨am_R1, am_F1, 11, rfl, by decide, am_w1, wd_in 43 (by decide +kernel) rfl, am_ty1, am_nm1⟩
theorem flF_161 : am_Fl "FrameForge" 161 1 9 := ⟨am_R1, am_F1, 11, rfl, by decide, am_w1, wd_in 71 (by decide +kernel) rfl, am_ty1, am_nm1⟩
theorem flF_164 : am_Fl "FrameForge" 164 1 10 := ⟨am_R1, am_F1, 11, rfl, by decide, am_w1, wd_in 76 (by decide +kernel) rfl, am_ty1, am_nm1⟩
theorem flF_183 : am_Fl "FrameForge" 183 1 0 := ⟨am_R1, am_F1, 11, rfl, by decide, am_w1, wd_in 38 (by decide +kernel) rfl, am_ty1, am_nm1⟩
theorem flF_186 : am_Fl "FrameForge" 186 1 2 := ⟨am_R1, am_F1, 11, rfl, by decide, am_w1, wd_in 48 (by decide +kernel) rfl, am_ty1, am_nm1⟩
theorem flF_196 : am_Fl "FrameForge" 196 2 0 := ⟨am_R2, am_F2, 1, rfl, by decide, am_w2, wd_in 104 (by decide +kernel) rfl, am_ty2, am_nm2⟩
theorem flC_9 : am_Fl "FrameForge$Checker" 9 3 0 := ⟨am_R3, am_F3, 10, rfl, by decide, am_w3, wd_in 114 (by decide +kernel) rfl, am_ty3, am_nm3⟩
theorem ffC_9 : am_Ff "FrameForge$Checker" 9 3 0 := ⟨flC_9, am_R3, am_F3, 10, rfl, rfl, rfl⟩
theorem flC_15 : am_Fl "FrameForge$Checker" 15 3 2 := ⟨am_R3, am_F3, 10, rfl, by decide, am_w3, wd_in 118 (by decide +kernel) rfl, am_ty3, am_nm3⟩
theorem ffC_15 : am_Ff "FrameForge$Checker" 15 3 2 := ⟨flC_15, am_R3, am_F3, 10, rfl, rfl, rfl⟩
theorem flC_18 : am_Fl "FrameForge$Checker" 18 3 3 := ⟨am_R3, am_F3, 10, rfl, by decide, am_w3, wd_in 119 (by decide +kernel) rfl, am_ty3, am_nm3⟩
theorem ffC_18 : am_Ff "FrameForge$Checker" 18 3 3 := ⟨flC_18, am_R3, am_F3, 10, rfl, rfl, rfl⟩
theorem flC_22 : am_Fl "FrameForge$Checker" 22 3 4 := ⟨am_R3, am_F3, 10, rfl, by decide, am_w3, wd_in 120 (by decide +kernel) rfl, am_ty3, am_nm3⟩
theorem ffC_22 : am_Ff "FrameForge$Checker" 22 3 4 := ⟨flC_22, am_R3, am_F3, 10, rfl, rfl, rfl⟩
theorem flC_25 : am_Fl "FrameForge$Checker" 25 3 5 := ⟨am_R3, am_F3, 10, rfl, by decide, am_w3, wd_in 121 (by decide +kernel) rfl, am_ty3, am_nm3⟩
theorem ffC_25 : am_Ff "FrameForge$Checker" 25 3 5 := ⟨flC_25, am_R3, am_F3, 10, rfl, rfl, rfl⟩
theorem flC_28 : am_Fl "FrameForge$Checker" 28 3 6 := ⟨am_R3, am_F3, 10, rfl, by decide, am_w3, wd_in 122 (by decide +kernel) rfl, am_ty3, am_nm3⟩
theorem ffC_28 : am_Ff "FrameForge$Checker" 28 3 6 := ⟨flC_28, am_R3, am_F3, 10, rfl, rfl, rfl⟩
theorem flC_31 : am_Fl "FrameForge$Checker" 31 2 0 := ⟨am_R2, am_F2, 1, rfl, by decide, am_w2, wd_in 102 (by decide +kernel) rfl, am_ty2, am_nm2⟩
theorem flC_41 : am_Fl "FrameForge$Checker" 41 3 9 := ⟨am_R3, am_F3, 10, rfl, by decide, am_w3, wd_in 125 (by decide +kernel) rfl, am_ty3, am_nm3⟩
theorem fpC_41 : am_Fp "FrameForge$Checker" 41 3 9 := ⟨flC_41, am_R3, am_F3, 10, rfl, rfl⟩
theorem flC_45 : am_Fl "FrameForge$Checker" 45 3 8 := ⟨am_R3, am_F3, 10, rfl, by decide, am_w3, wd_in 124 (by decide +kernel) rfl, am_ty3, am_nm3⟩
theorem fpC_45 : am_Fp "FrameForge$Checker" 45 3 8 := ⟨flC_45, am_R3, am_F3, 10, rfl, rfl⟩
theorem flC_62 : am_Fl "FrameForge$Checker" 62 1 7 := ⟨am_R1, am_F1, 11, rfl, by decide, am_w1, wd_in 63 (by decide +kernel) rfl, am_ty1, am_nm1⟩
theorem flC_63 : am_Fl "FrameForge$Checker" 63 3 1 := ⟨am_R3, am_F3, 10, rfl, by decide, am_w3, wd_in 116 (by decide +kernel) rfl, am_ty3, am_nm3⟩
theorem fpC_63 : am_Fp "FrameForge$Checker" 63 3 1 := ⟨flC_63, am_R3, am_F3, 10, rfl, rfl⟩
theorem flC_66 : am_Fl "FrameForge$Checker" 66 1 9 := ⟨am_R1, am_F1, 11, rfl, by decide, am_w1, wd_in 70 (by decide +kernel) rfl, am_ty1, am_nm1⟩
theorem flC_79 : am_Fl "FrameForge$Checker" 79 3 7 := ⟨am_R3, am_F3, 10, rfl, by decide, am_w3, wd_in 123 (by decide +kernel) rfl, am_ty3, am_nm3⟩
theorem fpC_79 : am_Fp "FrameForge$Checker" 79 3 7 := ⟨flC_79, am_R3, am_F3, 10, rfl, rfl⟩
theorem flC_82 : am_Fl "FrameForge$Checker" 82 1 8 := ⟨am_R1, am_F1, 11, rfl, by decide, am_w1, wd_in 67 (by decide +kernel) rfl, am_ty1, am_nm1⟩
theorem flC_88 : am_Fl "FrameForge$Checker" 88 1 5 := ⟨am_R1, am_F1, 11, rfl, by decide, am_w1, wd_in 55 (by decide +kernel) rfl, am_ty1, am_nm1⟩
theorem flC_91 : am_Fl "FrameForge$Checker" 91 1 0 := ⟨am_R1, am_F1, 11, rfl, by decide, am_w1, wd_in 37 (by decide +kernel) rfl, am_ty1, am_nm1⟩
theorem flC_94 : am_Fl "FrameForge$Checker" 94 1 1 := ⟨am_R1, am_F1, 11, rfl, by decide, am_w1, wd_in 42 (by decide +kernel) rfl, am_ty1, am_nm1⟩
theorem flC_118 : am_Fl "FrameForge$Checker" 118 1 2 := ⟨am_R1, am_F1, 11, rfl, by decide, am_w1, wd_in 47 (by decide +kernel) rfl, am_ty1, am_nm1⟩
theorem flA_9 : am_Fl "FrameForge$Frame" 9 5 0 := ⟨am_R5, am_F5, 7, rfl, by decide, am_w5, wd_in 161 (by decide +kernel) rfl, am_ty5, am_nm5⟩
theorem ffA_9 : am_Ff "FrameForge$Frame" 9 5 0 := ⟨flA_9, am_R5, am_F5, 7, rfl, rfl, rfl⟩
theorem flA_15 : am_Fl "FrameForge$Frame" 15 5 1 := ⟨am_R5, am_F5, 7, rfl, by decide, am_w5, wd_in 163 (by decide +kernel) rfl, am_ty5, am_nm5⟩
theorem ffA_15 : am_Ff "FrameForge$Frame" 15 5 1 := ⟨flA_15, am_R5, am_F5, 7, rfl, rfl, rfl⟩
theorem flA_18 : am_Fl "FrameForge$Frame" 18 5 5 := ⟨am_R5, am_F5, 7, rfl, by decide, am_w5, wd_in 169 (by decide +kernel) rfl, am_ty5, am_nm5⟩
theorem fpA_18 : am_Fp "FrameForge$Frame" 18 5 5 := ⟨flA_18, am_R5, am_F5, 7, rfl, rfl⟩
theorem flA_22 : am_Fl "FrameForge$Frame" 22 5 6 := ⟨am_R5, am_F5, 7, rfl, by decide, am_w5, wd_in 171 (by decide +kernel) rfl, am_ty5, am_nm5⟩
theorem fpA_22 : am_Fp "FrameForge$Frame" 22 5 6 := ⟨flA_22, am_R5, am_F5, 7, rfl, rfl⟩
theorem flA_25 : am_Fl "FrameForge$Frame" 25 5 3 := ⟨am_R5, am_F5, 7, rfl, by decide, am_w5, wd_in 165 (by decide +kernel) rfl, am_ty5, am_nm5⟩
theorem fpA_25 : am_Fp "FrameForge$Frame" 25 5 3 := ⟨flA_25, am_R5, am_F5, 7, rfl, rfl⟩
theorem flA_28 : am_Fl "FrameForge$Frame" 28 5 4 := ⟨am_R5, am_F5, 7, rfl, by decide, am_w5, wd_in 167 (by decide +kernel) rfl, am_ty5, am_nm5⟩
theorem fpA_28 : am_Fp "FrameForge$Frame" 28 5 4 := ⟨flA_28, am_R5, am_F5, 7, rfl, rfl⟩
theorem flA_31 : am_Fl "FrameForge$Frame" 31 5 2 := ⟨am_R5, am_F5, 7, rfl, by decide, am_w5, wd_in 164 (by decide +kernel) rfl, am_ty5, am_nm5⟩
theorem fpA_31 : am_Fp "FrameForge$Frame" 31 5 2 := ⟨flA_31, am_R5, am_F5, 7, rfl, rfl⟩
theorem flL_9 : am_Fl "FrameForge$Ledger" 9 4 0 := ⟨am_R4, am_F4, 8, rfl, by decide, am_w4, wd_in 243 (by decide +kernel) rfl, am_ty4, am_nm4⟩
theorem ffL_9 : am_Ff "FrameForge$Ledger" 9 4 0 := ⟨flL_9, am_R4, am_F4, 8, rfl, rfl, rfl⟩
theorem flL_15 : am_Fl "FrameForge$Ledger" 15 4 1 := ⟨am_R4, am_F4, 8, rfl, by decide, am_w4, wd_in 245 (by decide +kernel) rfl, am_ty4, am_nm4⟩
theorem fpL_15 : am_Fp "FrameForge$Ledger" 15 4 1 := ⟨flL_15, am_R4, am_F4, 8, rfl, rfl⟩
theorem flL_19 : am_Fl "FrameForge$Ledger" 19 4 2 := ⟨am_R4, am_F4, 8, rfl, by decide, am_w4, wd_in 248 (by decide +kernel) rfl, am_ty4, am_nm4⟩
theorem fpL_19 : am_Fp "FrameForge$Ledger" 19 4 2 := ⟨flL_19, am_R4, am_F4, 8, rfl, rfl⟩
theorem flL_22 : am_Fl "FrameForge$Ledger" 22 4 3 := ⟨am_R4, am_F4, 8, rfl, by decide, am_w4, wd_in 251 (by decide +kernel) rfl, am_ty4, am_nm4⟩
theorem fpL_22 : am_Fp "FrameForge$Ledger" 22 4 3 := ⟨flL_22, am_R4, am_F4, 8, rfl, rfl⟩
theorem flL_25 : am_Fl "FrameForge$Ledger" 25 4 4 := ⟨am_R4, am_F4, 8, rfl, by decide, am_w4, wd_in 254 (by decide +kernel) rfl, am_ty4, am_nm4⟩
theorem fpL_25 : am_Fp "FrameForge$Ledger" 25 4 4 := ⟨flL_25, am_R4, am_F4, 8, rfl, rfl⟩
theorem flL_28 : am_Fl "FrameForge$Ledger" 28 4 5 := ⟨am_R4, am_F4, 8, rfl, by decide, am_w4, wd_in 257 (by decide +kernel) rfl, am_ty4, am_nm4⟩
theorem fpL_28 : am_Fp "FrameForge$Ledger" 28 4 5 := ⟨flL_28, am_R4, am_F4, 8, rfl, rfl⟩
theorem flL_31 : am_Fl "FrameForge$Ledger" 31 4 6 := ⟨am_R4, am_F4, 8, rfl, by decide, am_w4, wd_in 260 (by decide +kernel) rfl, am_ty4, am_nm4⟩
theorem fpL_31 : am_Fp "FrameForge$Ledger" 31 4 6 := ⟨flL_31, am_R4, am_F4, 8, rfl, rfl⟩
theorem flL_34 : am_Fl "FrameForge$Ledger" 34 4 7 := ⟨am_R4, am_F4, 8, rfl, by decide, am_w4, wd_in 262 (by decide +kernel) rfl, am_ty4, am_nm4⟩
theorem fpL_34 : am_Fp "FrameForge$Ledger" 34 4 7 := ⟨flL_34, am_R4, am_F4, 8, rfl, rfl⟩
theorem flM_11 : am_Fl "FrameForge$Machine" 11 6 0 := ⟨am_R6, am_F6, 9, rfl, by decide, am_w6, wd_in 188 (by decide +kernel) rfl, am_ty6, am_nm6⟩
theorem ffM_11 : am_Ff "FrameForge$Machine" 11 6 0 := ⟨flM_11, am_R6, am_F6, 9, rfl, rfl, rfl⟩
theorem flM_17 : am_Fl "FrameForge$Machine" 17 6 1 := ⟨am_R6, am_F6, 9, rfl, by decide, am_w6, wd_in 189 (by decide +kernel) rfl, am_ty6, am_nm6⟩
theorem ffM_17 : am_Ff "FrameForge$Machine" 17 6 1 := ⟨flM_17, am_R6, am_F6, 9, rfl, rfl, rfl⟩
theorem flM_21 : am_Fl "FrameForge$Machine" 21 6 2 := ⟨am_R6, am_F6, 9, rfl, by decide, am_w6, wd_in 190 (by decide +kernel) rfl, am_ty6, am_nm6⟩
theorem ffM_21 : am_Ff "FrameForge$Machine" 21 6 2 := ⟨flM_21, am_R6, am_F6, 9, rfl, rfl, rfl⟩
theorem flM_24 : am_Fl "FrameForge$Machine" 24 6 3 := ⟨am_R6, am_F6, 9, rfl, by decide, am_w6, wd_in 191 (by decide +kernel) rfl, am_ty6, am_nm6⟩
theorem ffM_24 : am_Ff "FrameForge$Machine" 24 6 3 := ⟨flM_24, am_R6, am_F6, 9, rfl, rfl, rfl⟩
theorem flM_28 : am_Fl "FrameForge$Machine" 28 6 4 := ⟨am_R6, am_F6, 9, rfl, by decide, am_w6, wd_in 192 (by decide +kernel) rfl, am_ty6, am_nm6⟩
theorem fpM_28 : am_Fp "FrameForge$Machine" 28 6 4 := ⟨flM_28, am_R6, am_F6, 9, rfl, rfl⟩
theorem flM_32 : am_Fl "FrameForge$Machine" 32 6 5 := ⟨am_R6, am_F6, 9, rfl, by decide, am_w6, wd_in 193 (by decide +kernel) rfl, am_ty6, am_nm6⟩
theorem fpM_32 : am_Fp "FrameForge$Machine" 32 6 5 := ⟨flM_32, am_R6, am_F6, 9, rfl, rfl⟩
theorem flM_41 : am_Fl "FrameForge$Machine" 41 6 6 := ⟨am_R6, am_F6, 9, rfl, by decide, am_w6, wd_in 194 (by decide +kernel) rfl, am_ty6, am_nm6⟩
theorem fpM_41 : am_Fp "FrameForge$Machine" 41 6 6 := ⟨flM_41, am_R6, am_F6, 9, rfl, rfl⟩
theorem flM_45 : am_Fl "FrameForge$Machine" 45 6 7 := ⟨am_R6, am_F6, 9, rfl, by decide, am_w6, wd_in 195 (by decide +kernel) rfl, am_ty6, am_nm6⟩
theorem fpM_45 : am_Fp "FrameForge$Machine" 45 6 7 := ⟨flM_45, am_R6, am_F6, 9, rfl, rfl⟩
theorem flM_48 : am_Fl "FrameForge$Machine" 48 6 8 := ⟨am_R6, am_F6, 9, rfl, by decide, am_w6, wd_in 196 (by decide +kernel) rfl, am_ty6, am_nm6⟩
theorem fpM_48 : am_Fp "FrameForge$Machine" 48 6 8 := ⟨flM_48, am_R6, am_F6, 9, rfl, rfl⟩
theorem flM_55 : am_Fl "FrameForge$Machine" 55 5 0 := ⟨am_R5, am_F5, 7, rfl, by decide, am_w5, wd_in 162 (by decide +kernel) rfl, am_ty5, am_nm5⟩
theorem flM_58 : am_Fl "FrameForge$Machine" 58 4 1 := ⟨am_R4, am_F4, 8, rfl, by decide, am_w4, wd_in 246 (by decide +kernel) rfl, am_ty4, am_nm4⟩
theorem fpM_58 : am_Fp "FrameForge$Machine" 58 4 1 := ⟨flM_58, am_R4, am_F4, 8, rfl, rfl⟩
theorem flM_61 : am_Fl "FrameForge$Machine" 61 4 3 := ⟨am_R4, am_F4, 8, rfl, by decide, am_w4, wd_in 252 (by decide +kernel) rfl, am_ty4, am_nm4⟩
theorem fpM_61 : am_Fp "FrameForge$Machine" 61 4 3 := ⟨flM_61, am_R4, am_F4, 8, rfl, rfl⟩
theorem flM_71 : am_Fl "FrameForge$Machine" 71 4 5 := ⟨am_R4, am_F4, 8, rfl, by decide, am_w4, wd_in 258 (by decide +kernel) rfl, am_ty4, am_nm4⟩
theorem fpM_71 : am_Fp "FrameForge$Machine" 71 4 5 := ⟨flM_71, am_R4, am_F4, 8, rfl, rfl⟩
theorem flM_84 : am_Fl "FrameForge$Machine" 84 2 0 := ⟨am_R2, am_F2, 1, rfl, by decide, am_w2, wd_in 103 (by decide +kernel) rfl, am_ty2, am_nm2⟩
theorem flM_90 : am_Fl "FrameForge$Machine" 90 1 10 := ⟨am_R1, am_F1, 11, rfl, by decide, am_w1, wd_in 74 (by decide +kernel) rfl, am_ty1, am_nm1⟩
theorem flM_99 : am_Fl "FrameForge$Machine" 99 5 5 := ⟨am_R5, am_F5, 7, rfl, by decide, am_w5, wd_in 170 (by decide +kernel) rfl, am_ty5, am_nm5⟩
theorem flM_102 : am_Fl "FrameForge$Machine" 102 5 4 := ⟨am_R5, am_F5, 7, rfl, by decide, am_w5, wd_in 168 (by decide +kernel) rfl, am_ty5, am_nm5⟩
theorem fpM_102 : am_Fp "FrameForge$Machine" 102 5 4 := ⟨flM_102, am_R5, am_F5, 7, rfl, rfl⟩
theorem flM_105 : am_Fl "FrameForge$Machine" 105 5 3 := ⟨am_R5, am_F5, 7, rfl, by decide, am_w5, wd_in 166 (by decide +kernel) rfl, am_ty5, am_nm5⟩
theorem fpM_105 : am_Fp "FrameForge$Machine" 105 5 3 := ⟨flM_105, am_R5, am_F5, 7, rfl, rfl⟩
theorem flM_108 : am_Fl "FrameForge$Machine" 108 1 1 := ⟨am_R1, am_F1, 11, rfl, by decide, am_w1, wd_in 41 (by decide +kernel) rfl, am_ty1, am_nm1⟩
theorem flM_111 : am_Fl "FrameForge$Machine" 111 1 2 := ⟨am_R1, am_F1, 11, rfl, by decide, am_w1, wd_in 46 (by decide +kernel) rfl, am_ty1, am_nm1⟩
theorem flM_114 : am_Fl "FrameForge$Machine" 114 1 0 := ⟨am_R1, am_F1, 11, rfl, by decide, am_w1, wd_in 36 (by decide +kernel) rfl, am_ty1, am_nm1⟩
theorem flM_173 : am_Fl "FrameForge$Machine" 173 5 6 := ⟨am_R5, am_F5, 7, rfl, by decide, am_w5, wd_in 172 (by decide +kernel) rfl, am_ty5, am_nm5⟩
theorem flM_182 : am_Fl "FrameForge$Machine" 182 4 4 := ⟨am_R4, am_F4, 8, rfl, by decide, am_w4, wd_in 256 (by decide +kernel) rfl, am_ty4, am_nm4⟩
theorem fpM_182 : am_Fp "FrameForge$Machine" 182 4 4 := ⟨flM_182, am_R4, am_F4, 8, rfl, rfl⟩
theorem flM_185 : am_Fl "FrameForge$Machine" 185 1 9 := ⟨am_R1, am_F1, 11, rfl, by decide, am_w1, wd_in 72 (by decide +kernel) rfl, am_ty1, am_nm1⟩
theorem flM_188 : am_Fl "FrameForge$Machine" 188 4 2 := ⟨am_R4, am_F4, 8, rfl, by decide, am_w4, wd_in 250 (by decide +kernel) rfl, am_ty4, am_nm4⟩
theorem fpM_188 : am_Fp "FrameForge$Machine" 188 4 2 := ⟨flM_188, am_R4, am_F4, 8, rfl, rfl⟩
theorem flM_194 : am_Fl "FrameForge$Machine" 194 1 5 := ⟨am_R1, am_F1, 11, rfl, by decide, am_w1, wd_in 56 (by decide +kernel) rfl, am_ty1, am_nm1⟩
theorem flM_200 : am_Fl "FrameForge$Machine" 200 4 7 := ⟨am_R4, am_F4, 8, rfl, by decide, am_w4, wd_in 264 (by decide +kernel) rfl, am_ty4, am_nm4⟩
theorem fpM_200 : am_Fp "FrameForge$Machine" 200 4 7 := ⟨flM_200, am_R4, am_F4, 8, rfl, rfl⟩
theorem flE_9 : am_Fl "FrameForge$Method" 9 1 0 := ⟨am_R1, am_F1, 11, rfl, by decide, am_w1, wd_in 34 (by decide +kernel) rfl, am_ty1, am_nm1⟩
theorem ffE_9 : am_Ff "FrameForge$Method" 9 1 0 := ⟨flE_9, am_R1, am_F1, 11, rfl, rfl, rfl⟩
theorem flE_15 : am_Fl "FrameForge$Method" 15 1 1 := ⟨am_R1, am_F1, 11, rfl, by decide, am_w1, wd_in 39 (by decide +kernel) rfl, am_ty1, am_nm1⟩
theorem ffE_15 : am_Ff "FrameForge$Method" 15 1 1 := ⟨flE_15, am_R1, am_F1, 11, rfl, rfl, rfl⟩
theorem flE_18 : am_Fl "FrameForge$Method" 18 1 2 := ⟨am_R1, am_F1, 11, rfl, by decide, am_w1, wd_in 44 (by decide +kernel) rfl, am_ty1, am_nm1⟩
theorem ffE_18 : am_Ff "FrameForge$Method" 18 1 2 := ⟨flE_18, am_R1, am_F1, 11, rfl, rfl, rfl⟩
theorem flE_21 : am_Fl "FrameForge$Method" 21 1 3 := ⟨am_R1, am_F1, 11, rfl, by decide, am_w1, wd_in 49 (by decide +kernel) rfl, am_ty1, am_nm1⟩
theorem ffE_21 : am_Ff "FrameForge$Method" 21 1 3 := ⟨flE_21, am_R1, am_F1, 11, rfl, rfl, rfl⟩
theorem flE_24 : am_Fl "FrameForge$Method" 24 1 4 := ⟨am_R1, am_F1, 11, rfl, by decide, am_w1, wd_in 51 (by decide +kernel) rfl, am_ty1, am_nm1⟩
theorem ffE_24 : am_Ff "FrameForge$Method" 24 1 4 := ⟨flE_24, am_R1, am_F1, 11, rfl, rfl, rfl⟩
theorem flE_27 : am_Fl "FrameForge$Method" 27 1 5 := ⟨am_R1, am_F1, 11, rfl, by decide, am_w1, wd_in 53 (by decide +kernel) rfl, am_ty1, am_nm1⟩
theorem ffE_27 : am_Ff "FrameForge$Method" 27 1 5 := ⟨flE_27, am_R1, am_F1, 11, rfl, rfl, rfl⟩
theorem flE_30 : am_Fl "FrameForge$Method" 30 1 6 := ⟨am_R1, am_F1, 11, rfl, by decide, am_w1, wd_in 57 (by decide +kernel) rfl, am_ty1, am_nm1⟩
theorem ffE_30 : am_Ff "FrameForge$Method" 30 1 6 := ⟨flE_30, am_R1, am_F1, 11, rfl, rfl, rfl⟩
theorem flE_33 : am_Fl "FrameForge$Method" 33 1 7 := ⟨am_R1, am_F1, 11, rfl, by decide, am_w1, wd_in 59 (by decide +kernel) rfl, am_ty1, am_nm1⟩
theorem fpE_33 : am_Fp "FrameForge$Method" 33 1 7 := ⟨flE_33, am_R1, am_F1, 11, rfl, rfl⟩
theorem flE_37 : am_Fl "FrameForge$Method" 37 1 8 := ⟨am_R1, am_F1, 11, rfl, by decide, am_w1, wd_in 64 (by decide +kernel) rfl, am_ty1, am_nm1⟩
theorem fpE_37 : am_Fp "FrameForge$Method" 37 1 8 := ⟨flE_37, am_R1, am_F1, 11, rfl, rfl⟩
theorem flE_40 : am_Fl "FrameForge$Method" 40 1 9 := ⟨am_R1, am_F1, 11, rfl, by decide, am_w1, wd_in 68 (by decide +kernel) rfl, am_ty1, am_nm1⟩
theorem fpE_40 : am_Fp "FrameForge$Method" 40 1 9 := ⟨flE_40, am_R1, am_F1, 11, rfl, rfl⟩
theorem flE_43 : am_Fl "FrameForge$Method" 43 1 10 := ⟨am_R1, am_F1, 11, rfl, by decide, am_w1, wd_in 73 (by decide +kernel) rfl, am_ty1, am_nm1⟩
theorem fpE_43 : am_Fp "FrameForge$Method" 43 1 10 := ⟨flE_43, am_R1, am_F1, 11, rfl, rfl⟩
theorem flP_11 : am_Fl "FrameForge$Program" 11 2 0 := ⟨am_R2, am_F2, 1, rfl, by decide, am_w2, wd_in 101 (by decide +kernel) rfl, am_ty2, am_nm2⟩
theorem ffP_11 : am_Ff "FrameForge$Program" 11 2 0 := ⟨flP_11, am_R2, am_F2, 1, rfl, rfl, rfl⟩
theorem flP_22 : am_Fl "FrameForge$Program" 22 1 7 := ⟨am_R1, am_F1, 11, rfl, by decide, am_w1, wd_in 61 (by decide +kernel) rfl, am_ty1, am_nm1⟩
theorem flW_12 : am_Fl "FrameForge$Rewriter" 12 7 0 := ⟨am_R7, am_F7, 4, rfl, by decide, am_w7, wd_in 224 (by decide +kernel) rfl, am_ty7, am_nm7⟩
theorem ffW_12 : am_Ff "FrameForge$Rewriter" 12 7 0 := ⟨flW_12, am_R7, am_F7, 4, rfl, rfl, rfl⟩
theorem flW_22 : am_Fl "FrameForge$Rewriter" 22 1 2 := ⟨am_R1, am_F1, 11, rfl, by decide, am_w1, wd_in 45 (by decide +kernel) rfl, am_ty1, am_nm1⟩
theorem flW_34 : am_Fl "FrameForge$Rewriter" 34 7 3 := ⟨am_R7, am_F7, 4, rfl, by decide, am_w7, wd_in 227 (by decide +kernel) rfl, am_ty7, am_nm7⟩
theorem fpW_34 : am_Fp "FrameForge$Rewriter" 34 7 3 := ⟨flW_34, am_R7, am_F7, 4, rfl, rfl⟩
theorem flW_38 : am_Fl "FrameForge$Rewriter" 38 1 0 := ⟨am_R1, am_F1, 11, rfl, by decide, am_w1, wd_in 35 (by decide +kernel) rfl, am_ty1, am_nm1⟩
theorem flW_45 : am_Fl "FrameForge$Rewriter" 45 1 1 := ⟨am_R1, am_F1, 11, rfl, by decide, am_w1, wd_in 40 (by decide +kernel) rfl, am_ty1, am_nm1⟩
theorem flW_52 : am_Fl "FrameForge$Rewriter" 52 1 8 := ⟨am_R1, am_F1, 11, rfl, by decide, am_w1, wd_in 65 (by decide +kernel) rfl, am_ty1, am_nm1⟩
theorem flW_64 : am_Fl "FrameForge$Rewriter" 64 1 9 := ⟨am_R1, am_F1, 11, rfl, by decide, am_w1, wd_in 69 (by decide +kernel) rfl, am_ty1, am_nm1⟩
theorem flW_67 : am_Fl "FrameForge$Rewriter" 67 1 7 := ⟨am_R1, am_F1, 11, rfl, by decide, am_w1, wd_in 60 (by decide +kernel) rfl, am_ty1, am_nm1⟩
theorem fpW_67 : am_Fp "FrameForge$Rewriter" 67 1 7 := ⟨flW_67, am_R1, am_F1, 11, rfl, rfl⟩
theorem flW_77 : am_Fl "FrameForge$Rewriter" 77 1 4 := ⟨am_R1, am_F1, 11, rfl, by decide, am_w1, wd_in 52 (by decide +kernel) rfl, am_ty1, am_nm1⟩
theorem flW_86 : am_Fl "FrameForge$Rewriter" 86 1 3 := ⟨am_R1, am_F1, 11, rfl, by decide, am_w1, wd_in 50 (by decide +kernel) rfl, am_ty1, am_nm1⟩
theorem flW_89 : am_Fl "FrameForge$Rewriter" 89 1 5 := ⟨am_R1, am_F1, 11, rfl, by decide, am_w1, wd_in 54 (by decide +kernel) rfl, am_ty1, am_nm1⟩
theorem flW_92 : am_Fl "FrameForge$Rewriter" 92 1 6 := ⟨am_R1, am_F1, 11, rfl, by decide, am_w1, wd_in 58 (by decide +kernel) rfl, am_ty1, am_nm1⟩
theorem flW_101 : am_Fl "FrameForge$Rewriter" 101 7 1 := ⟨am_R7, am_F7, 4, rfl, by decide, am_w7, wd_in 225 (by decide +kernel) rfl, am_ty7, am_nm7⟩
theorem fpW_101 : am_Fp "FrameForge$Rewriter" 101 7 1 := ⟨flW_101, am_R7, am_F7, 4, rfl, rfl⟩
theorem flW_104 : am_Fl "FrameForge$Rewriter" 104 7 2 := ⟨am_R7, am_F7, 4, rfl, by decide, am_w7, wd_in 226 (by decide +kernel) rfl, am_ty7, am_nm7⟩
theorem fpW_104 : am_Fp "FrameForge$Rewriter" 104 7 2 := ⟨flW_104, am_R7, am_F7, 4, rfl, rfl⟩
theorem flW_107 : am_Fl "FrameForge$Rewriter" 107 1 10 := ⟨am_R1, am_F1, 11, rfl, by decide, am_w1, wd_in 75 (by decide +kernel) rfl, am_ty1, am_nm1⟩
theorem flR_7 : am_Fl "FrameForgeModel" 7 8 0 := ⟨am_R8, am_F8, 52, rfl, by decide, am_w8, wd_in 717 (by decide +kernel) rfl, am_ty8, am_nm8⟩
theorem ffR_7 : am_Ff "FrameForgeModel" 7 8 0 := ⟨flR_7, am_R8, am_F8, 52, rfl, rfl, rfl⟩
theorem flR_13 : am_Fl "FrameForgeModel" 13 8 1 := ⟨am_R8, am_F8, 52, rfl, by decide, am_w8, wd_in 718 (by decide +kernel) rfl, am_ty8, am_nm8⟩
theorem ffR_13 : am_Ff "FrameForgeModel" 13 8 1 := ⟨flR_13, am_R8, am_F8, 52, rfl, rfl, rfl⟩
theorem flR_16 : am_Fl "FrameForgeModel" 16 8 2 := ⟨am_R8, am_F8, 52, rfl, by decide, am_w8, wd_in 719 (by decide +kernel) rfl, am_ty8, am_nm8⟩
theorem ffR_16 : am_Ff "FrameForgeModel" 16 8 2 := ⟨flR_16, am_R8, am_F8, 52, rfl, rfl, rfl⟩
theorem flR_19 : am_Fl "FrameForgeModel" 19 8 3 := ⟨am_R8, am_F8, 52, rfl, by decide, am_w8, wd_in 720 (by decide +kernel) rfl, am_ty8, am_nm8⟩
theorem ffR_19 : am_Ff "FrameForgeModel" 19 8 3 := ⟨flR_19, am_R8, am_F8, 52, rfl, rfl, rfl⟩
theorem flR_22 : am_Fl "FrameForgeModel" 22 8 4 := ⟨am_R8, am_F8, 52, rfl, by decide, am_w8, wd_in 721 (by decide +kernel) rfl, am_ty8, am_nm8⟩
theorem ffR_22 : am_Ff "FrameForgeModel" 22 8 4 := ⟨flR_22, am_R8, am_F8, 52, rfl, rfl, rfl⟩
theorem flR_25 : am_Fl "FrameForgeModel" 25 8 5 := ⟨am_R8, am_F8, 52, rfl, by decide, am_w8, wd_in 722 (by decide +kernel) rfl, am_ty8, am_nm8⟩
theorem ffR_25 : am_Ff "FrameForgeModel" 25 8 5 := ⟨flR_25, am_R8, am_F8, 52, rfl, rfl, rfl⟩
theorem flR_28 : am_Fl "FrameForgeModel" 28 8 6 := ⟨am_R8, am_F8, 52, rfl, by decide, am_w8, wd_in 723 (by decide +kernel) rfl, am_ty8, am_nm8⟩
theorem ffR_28 : am_Ff "FrameForgeModel" 28 8 6 := ⟨flR_28, am_R8, am_F8, 52, rfl, rfl, rfl⟩
theorem flR_31 : am_Fl "FrameForgeModel" 31 8 7 := ⟨am_R8, am_F8, 52, rfl, by decide, am_w8, wd_in 724 (by decide +kernel) rfl, am_ty8, am_nm8⟩
theorem ffR_31 : am_Ff "FrameForgeModel" 31 8 7 := ⟨flR_31, am_R8, am_F8, 52, rfl, rfl, rfl⟩
theorem flR_34 : am_Fl "FrameForgeModel" 34 8 8 := ⟨am_R8, am_F8, 52, rfl, by decide, am_w8, wd_in 725 (by decide +kernel) rfl, am_ty8, am_nm8⟩
theorem ffR_34 : am_Ff "FrameForgeModel" 34 8 8 := ⟨flR_34, am_R8, am_F8, 52, rfl, rfl, rfl⟩
theorem flR_37 : am_Fl "FrameForgeModel" 37 8 9 := ⟨am_R8, am_F8, 52, rfl, by decide, am_w8, wd_in 726 (by decide +kernel) rfl, am_ty8, am_nm8⟩
theorem ffR_37 : am_Ff "FrameForgeModel" 37 8 9 := ⟨flR_37, am_R8, am_F8, 52, rfl, rfl, rfl⟩
theorem flR_40 : am_Fl "FrameForgeModel" 40 8 10 := ⟨am_R8, am_F8, 52, rfl, by decide, am_w8, wd_in 727 (by decide +kernel) rfl, am_ty8, am_nm8⟩
theorem ffR_40 : am_Ff "FrameForgeModel" 40 8 10 := ⟨flR_40, am_R8, am_F8, 52, rfl, rfl, rfl⟩
theorem flR_44 : am_Fl "FrameForgeModel" 44 8 12 := ⟨am_R8, am_F8, 52, rfl, by decide, am_w8, wd_in 729 (by decide +kernel) rfl, am_ty8, am_nm8⟩
theorem ffR_44 : am_Ff "FrameForgeModel" 44 8 12 := ⟨flR_44, am_R8, am_F8, 52, rfl, rfl, rfl⟩
theorem flR_47 : am_Fl "FrameForgeModel" 47 8 13 := ⟨am_R8, am_F8, 52, rfl, by decide, am_w8, wd_in 730 (by decide +kernel) rfl, am_ty8, am_nm8⟩
theorem ffR_47 : am_Ff "FrameForgeModel" 47 8 13 := ⟨flR_47, am_R8, am_F8, 52, rfl, rfl, rfl⟩
theorem flR_50 : am_Fl "FrameForgeModel" 50 8 14 := ⟨am_R8, am_F8, 52, rfl, by decide, am_w8, wd_in 731 (by decide +kernel) rfl, am_ty8, am_nm8⟩
theorem ffR_50 : am_Ff "FrameForgeModel" 50 8 14 := ⟨flR_50, am_R8, am_F8, 52, rfl, rfl, rfl⟩
theorem flR_53 : am_Fl "FrameForgeModel" 53 8 15 := ⟨am_R8, am_F8, 52, rfl, by decide, am_w8, wd_in 732 (by decide +kernel) rfl, am_ty8, am_nm8⟩
theorem ffR_53 : am_Ff "FrameForgeModel" 53 8 15 := ⟨flR_53, am_R8, am_F8, 52, rfl, rfl, rfl⟩
theorem flR_56 : am_Fl "FrameForgeModel" 56 8 16 := ⟨am_R8, am_F8, 52, rfl, by decide, am_w8, wd_in 733 (by decide +kernel) rfl, am_ty8, am_nm8⟩
theorem ffR_56 : am_Ff "FrameForgeModel" 56 8 16 := ⟨flR_56, am_R8, am_F8, 52, rfl, rfl, rfl⟩
theorem flR_59 : am_Fl "FrameForgeModel" 59 8 17 := ⟨am_R8, am_F8, 52, rfl, by decide, am_w8, wd_in 734 (by decide +kernel) rfl, am_ty8, am_nm8⟩
theorem ffR_59 : am_Ff "FrameForgeModel" 59 8 17 := ⟨flR_59, am_R8, am_F8, 52, rfl, rfl, rfl⟩
theorem flR_62 : am_Fl "FrameForgeModel" 62 8 22 := ⟨am_R8, am_F8, 52, rfl, by decide, am_w8, wd_in 738 (by decide +kernel) rfl, am_ty8, am_nm8⟩
theorem ffR_62 : am_Ff "FrameForgeModel" 62 8 22 := ⟨flR_62, am_R8, am_F8, 52, rfl, rfl, rfl⟩
theorem flR_65 : am_Fl "FrameForgeModel" 65 8 23 := ⟨am_R8, am_F8, 52, rfl, by decide, am_w8, wd_in 739 (by decide +kernel) rfl, am_ty8, am_nm8⟩
theorem ffR_65 : am_Ff "FrameForgeModel" 65 8 23 := ⟨flR_65, am_R8, am_F8, 52, rfl, rfl, rfl⟩
theorem flR_68 : am_Fl "FrameForgeModel" 68 8 24 := ⟨am_R8, am_F8, 52, rfl, by decide, am_w8, wd_in 740 (by decide +kernel) rfl, am_ty8, am_nm8⟩
theorem ffR_68 : am_Ff "FrameForgeModel" 68 8 24 := ⟨flR_68, am_R8, am_F8, 52, rfl, rfl, rfl⟩
theorem flR_71 : am_Fl "FrameForgeModel" 71 8 25 := ⟨am_R8, am_F8, 52, rfl, by decide, am_w8, wd_in 741 (by decide +kernel) rfl, am_ty8, am_nm8⟩
theorem ffR_71 : am_Ff "FrameForgeModel" 71 8 25 := ⟨flR_71, am_R8, am_F8, 52, rfl, rfl, rfl⟩
theorem flR_74 : am_Fl "FrameForgeModel" 74 8 26 := ⟨am_R8, am_F8, 52, rfl, by decide, am_w8, wd_in 742 (by decide +kernel) rfl, am_ty8, am_nm8⟩
theorem ffR_74 : am_Ff "FrameForgeModel" 74 8 26 := ⟨flR_74, am_R8, am_F8, 52, rfl, rfl, rfl⟩
theorem flR_77 : am_Fl "FrameForgeModel" 77 8 27 := ⟨am_R8, am_F8, 52, rfl, by decide, am_w8, wd_in 743 (by decide +kernel) rfl, am_ty8, am_nm8⟩
theorem ffR_77 : am_Ff "FrameForgeModel" 77 8 27 := ⟨flR_77, am_R8, am_F8, 52, rfl, rfl, rfl⟩
theorem flR_80 : am_Fl "FrameForgeModel" 80 8 28 := ⟨am_R8, am_F8, 52, rfl, by decide, am_w8, wd_in 744 (by decide +kernel) rfl, am_ty8, am_nm8⟩
theorem ffR_80 : am_Ff "FrameForgeModel" 80 8 28 := ⟨flR_80, am_R8, am_F8, 52, rfl, rfl, rfl⟩
theorem flR_83 : am_Fl "FrameForgeModel" 83 8 29 := ⟨am_R8, am_F8, 52, rfl, by decide, am_w8, wd_in 745 (by decide +kernel) rfl, am_ty8, am_nm8⟩
theorem ffR_83 : am_Ff "FrameForgeModel" 83 8 29 := ⟨flR_83, am_R8, am_F8, 52, rfl, rfl, rfl⟩
theorem flR_86 : am_Fl "FrameForgeModel" 86 8 30 := ⟨am_R8, am_F8, 52, rfl, by decide, am_w8, wd_in 746 (by decide +kernel) rfl, am_ty8, am_nm8⟩
theorem ffR_86 : am_Ff "FrameForgeModel" 86 8 30 := ⟨flR_86, am_R8, am_F8, 52, rfl, rfl, rfl⟩
theorem flR_89 : am_Fl "FrameForgeModel" 89 8 31 := ⟨am_R8, am_F8, 52, rfl, by decide, am_w8, wd_in 747 (by decide +kernel) rfl, am_ty8, am_nm8⟩
theorem ffR_89 : am_Ff "FrameForgeModel" 89 8 31 := ⟨flR_89, am_R8, am_F8, 52, rfl, rfl, rfl⟩
theorem flR_92 : am_Fl "FrameForgeModel" 92 8 32 := ⟨am_R8, am_F8, 52, rfl, by decide, am_w8, wd_in 748 (by decide +kernel) rfl, am_ty8, am_nm8⟩
theorem ffR_92 : am_Ff "FrameForgeModel" 92 8 32 := ⟨flR_92, am_R8, am_F8, 52, rfl, rfl, rfl⟩
theorem flR_95 : am_Fl "FrameForgeModel" 95 8 33 := ⟨am_R8, am_F8, 52, rfl, by decide, am_w8, wd_in 749 (by decide +kernel) rfl, am_ty8, am_nm8⟩
theorem ffR_95 : am_Ff "FrameForgeModel" 95 8 33 := ⟨flR_95, am_R8, am_F8, 52, rfl, rfl, rfl⟩
theorem flR_98 : am_Fl "FrameForgeModel" 98 8 44 := ⟨am_R8, am_F8, 52, rfl, by decide, am_w8, wd_in 760 (by decide +kernel) rfl, am_ty8, am_nm8⟩
theorem ffR_98 : am_Ff "FrameForgeModel" 98 8 44 := ⟨flR_98, am_R8, am_F8, 52, rfl, rfl, rfl⟩
theorem flR_101 : am_Fl "FrameForgeModel" 101 8 45 := ⟨am_R8, am_F8, 52, rfl, by decide, am_w8, wd_in 761 (by decide +kernel) rfl, am_ty8, am_nm8⟩
theorem ffR_101 : am_Ff "FrameForgeModel" 101 8 45 := ⟨flR_101, am_R8, am_F8, 52, rfl, rfl, rfl⟩
theorem flR_104 : am_Fl "FrameForgeModel" 104 8 46 := ⟨am_R8, am_F8, 52, rfl, by decide, am_w8, wd_in 762 (by decide +kernel) rfl, am_ty8, am_nm8⟩
theorem ffR_104 : am_Ff "FrameForgeModel" 104 8 46 := ⟨flR_104, am_R8, am_F8, 52, rfl, rfl, rfl⟩
theorem flR_107 : am_Fl "FrameForgeModel" 107 8 47 := ⟨am_R8, am_F8, 52, rfl, by decide, am_w8, wd_in 763 (by decide +kernel) rfl, am_ty8, am_nm8⟩
theorem ffR_107 : am_Ff "FrameForgeModel" 107 8 47 := ⟨flR_107, am_R8, am_F8, 52, rfl, rfl, rfl⟩
theorem flR_110 : am_Fl "FrameForgeModel" 110 8 48 := ⟨am_R8, am_F8, 52, rfl, by decide, am_w8, wd_in 764 (by decide +kernel) rfl, am_ty8, am_nm8⟩
theorem ffR_110 : am_Ff "FrameForgeModel" 110 8 48 := ⟨flR_110, am_R8, am_F8, 52, rfl, rfl, rfl⟩
theorem flR_113 : am_Fl "FrameForgeModel" 113 8 49 := ⟨am_R8, am_F8, 52, rfl, by decide, am_w8, wd_in 765 (by decide +kernel) rfl, am_ty8, am_nm8⟩
theorem ffR_113 : am_Ff "FrameForgeModel" 113 8 49 := ⟨flR_113, am_R8, am_F8, 52, rfl, rfl, rfl⟩
theorem flR_116 : am_Fl "FrameForgeModel" 116 8 50 := ⟨am_R8, am_F8, 52, rfl, by decide, am_w8, wd_in 766 (by decide +kernel) rfl, am_ty8, am_nm8⟩
theorem ffR_116 : am_Ff "FrameForgeModel" 116 8 50 := ⟨flR_116, am_R8, am_F8, 52, rfl, rfl, rfl⟩
theorem flR_119 : am_Fl "FrameForgeModel" 119 8 11 := ⟨am_R8, am_F8, 52, rfl, by decide, am_w8, wd_in 728 (by decide +kernel) rfl, am_ty8, am_nm8⟩
theorem fpR_119 : am_Fp "FrameForgeModel" 119 8 11 := ⟨flR_119, am_R8, am_F8, 52, rfl, rfl⟩
theorem flR_152 : am_Fl "FrameForgeModel" 152 8 18 := ⟨am_R8, am_F8, 52, rfl, by decide, am_w8, wd_in 735 (by decide +kernel) rfl, am_ty8, am_nm8⟩
theorem fpR_152 : am_Fp "FrameForgeModel" 152 8 18 := ⟨flR_152, am_R8, am_F8, 52, rfl, rfl⟩
theorem flR_155 : am_Fl "FrameForgeModel" 155 8 20 := ⟨am_R8, am_F8, 52, rfl, by decide, am_w8, wd_in 736 (by decide +kernel) rfl, am_ty8, am_nm8⟩
theorem fpR_155 : am_Fp "FrameForgeModel" 155 8 20 := ⟨flR_155, am_R8, am_F8, 52, rfl, rfl⟩
theorem flR_159 : am_Fl "FrameForgeModel" 159 8 21 := ⟨am_R8, am_F8, 52, rfl, by decide, am_w8, wd_in 737 (by decide +kernel) rfl, am_ty8, am_nm8⟩
theorem fpR_159 : am_Fp "FrameForgeModel" 159 8 21 := ⟨flR_159, am_R8, am_F8, 52, rfl, rfl⟩
theorem flR_191 : am_Fl "FrameForgeModel" 191 8 39 := ⟨am_R8, am_F8, 52, rfl, by decide, am_w8, wd_in 755 (by decide +kernel) rfl, am_ty8, am_nm8⟩
theorem fpR_191 : am_Fp "FrameForgeModel" 191 8 39 := ⟨flR_191, am_R8, am_F8, 52, rfl, rfl⟩
theorem flR_194 : am_Fl "FrameForgeModel" 194 8 34 := ⟨am_R8, am_F8, 52, rfl, by decide, am_w8, wd_in 750 (by decide +kernel) rfl, am_ty8, am_nm8⟩
theorem fpR_194 : am_Fp "FrameForgeModel" 194 8 34 := ⟨flR_194, am_R8, am_F8, 52, rfl, rfl⟩
theorem flR_200 : am_Fl "FrameForgeModel" 200 8 36 := ⟨am_R8, am_F8, 52, rfl, by decide, am_w8, wd_in 752 (by decide +kernel) rfl, am_ty8, am_nm8⟩
theorem fpR_200 : am_Fp "FrameForgeModel" 200 8 36 := ⟨flR_200, am_R8, am_F8, 52, rfl, rfl⟩
theorem flR_203 : am_Fl "FrameForgeModel" 203 8 35 := ⟨am_R8, am_F8, 52, rfl, by decide, am_w8, wd_in 751 (by decide +kernel) rfl, am_ty8, am_nm8⟩
theorem fpR_203 : am_Fp "FrameForgeModel" 203 8 35 := ⟨flR_203, am_R8, am_F8, 52, rfl, rfl⟩
theorem flR_206 : am_Fl "FrameForgeModel" 206 8 37 := ⟨am_R8, am_F8, 52, rfl, by decide, am_w8, wd_in 753 (by decide +kernel) rfl, am_ty8, am_nm8⟩
theorem fpR_206 : am_Fp "FrameForgeModel" 206 8 37 := ⟨flR_206, am_R8, am_F8, 52, rfl, rfl⟩
theorem flR_216 : am_Fl "FrameForgeModel" 216 8 40 := ⟨am_R8, am_F8, 52, rfl, by decide, am_w8, wd_in 756 (by decide +kernel) rfl, am_ty8, am_nm8⟩
theorem fpR_216 : am_Fp "FrameForgeModel" 216 8 40 := ⟨flR_216, am_R8, am_F8, 52, rfl, rfl⟩
theorem flR_222 : am_Fl "FrameForgeModel" 222 8 43 := ⟨am_R8, am_F8, 52, rfl, by decide, am_w8, wd_in 759 (by decide +kernel) rfl, am_ty8, am_nm8⟩
theorem fpR_222 : am_Fp "FrameForgeModel" 222 8 43 := ⟨flR_222, am_R8, am_F8, 52, rfl, rfl⟩
theorem flR_225 : am_Fl "FrameForgeModel" 225 8 42 := ⟨am_R8, am_F8, 52, rfl, by decide, am_w8, wd_in 758 (by decide +kernel) rfl, am_ty8, am_nm8⟩
theorem fpR_225 : am_Fp "FrameForgeModel" 225 8 42 := ⟨flR_225, am_R8, am_F8, 52, rfl, rfl⟩
theorem flR_241 : am_Fl "FrameForgeModel" 241 8 41 := ⟨am_R8, am_F8, 52, rfl, by decide, am_w8, wd_in 757 (by decide +kernel) rfl, am_ty8, am_nm8⟩
theorem fpR_241 : am_Fp "FrameForgeModel" 241 8 41 := ⟨flR_241, am_R8, am_F8, 52, rfl, rfl⟩
theorem flR_264 : am_Fl "FrameForgeModel" 264 8 38 := ⟨am_R8, am_F8, 52, rfl, by decide, am_w8, wd_in 754 (by decide +kernel) rfl, am_ty8, am_nm8⟩
theorem fpR_264 : am_Fp "FrameForgeModel" 264 8 38 := ⟨flR_264, am_R8, am_F8, 52, rfl, rfl⟩
theorem flR_277 : am_Fl "FrameForgeModel" 277 8 51 := ⟨am_R8, am_F8, 52, rfl, by decide, am_w8, wd_in 767 (by decide +kernel) rfl, am_ty8, am_nm8⟩
theorem fpR_277 : am_Fp "FrameForgeModel" 277 8 51 := ⟨flR_277, am_R8, am_F8, 52, rfl, rfl⟩
theorem gsF_206 : (Cond.fieldLink "FrameForge" 206 (am_sC 0) (am_sn 0) "[I" ∈ am_T ∨ ∃ host, ("FrameForge", 206, am_sC 0, am_sn 0, "[I", host) ∈ am_TF) := Or.inl (wd_in 350 (by decide +kernel) rfl)
theorem gsF_212 : (Cond.fieldLink "FrameForge" 212 (am_sC 1) (am_sn 1) "[I" ∈ am_T ∨ ∃ host, ("FrameForge", 212, am_sC 1, am_sn 1, "[I", host) ∈ am_TF) := Or.inl (wd_in 355 (by decide +kernel) rfl)
theorem gsE_57 : (Cond.fieldLink "FrameForge$Method" 57 (am_sC 0) (am_sn 0) "[I" ∈ am_T ∨ ∃ host, ("FrameForge$Method", 57, am_sC 0, am_sn 0, "[I", host) ∈ am_TF) := Or.inr ⟨"FrameForge", by decide +kernel⟩
theorem gsE_60 : (Cond.fieldLink "FrameForge$Method" 60 (am_sC 1) (am_sn 1) "[I" ∈ am_T ∨ ∃ host, ("FrameForge$Method", 60, am_sC 1, am_sn 1, "[I", host) ∈ am_TF) := Or.inr ⟨"FrameForge", by decide +kernel⟩
theorem gsE_70 : (Cond.fieldLink "FrameForge$Method" 70 (am_sC 2) (am_sn 2) "[I" ∈ am_T ∨ ∃ host, ("FrameForge$Method", 70, am_sC 2, am_sn 2, "[I", host) ∈ am_TF) := Or.inr ⟨"FrameForge", by decide +kernel⟩
theorem nwF_9 : am_Cn "FrameForge" 9 2 1 := ⟨am_R2, am_F2, rfl, am_w2, am_ty2, by decide +kernel, wd_in 20 (by decide +kernel) rfl, wd_in 22 (by decide +kernel) rfl, wd_in 2 (by decide +kernel) rfl⟩
theorem nwF_16 : am_Cn "FrameForge" 16 3 10 := ⟨am_R3, am_F3, rfl, am_w3, am_ty3, by decide +kernel, wd_in 108 (by decide +kernel) rfl, wd_in 109 (by decide +kernel) rfl, wd_in 4 (by decide +kernel) rfl⟩
theorem nwF_23 : am_Cn "FrameForge" 23 6 9 := ⟨am_R6, am_F6, rfl, am_w6, am_ty6, by decide +kernel, wd_in 148 (by decide +kernel) rfl, wd_in 149 (by decide +kernel) rfl, wd_in 5 (by decide +kernel) rfl⟩
theorem nwF_30 : am_Cn "FrameForge" 30 7 4 := ⟨am_R7, am_F7, rfl, am_w7, am_ty7, by decide +kernel, wd_in 216 (by decide +kernel) rfl, wd_in 217 (by decide +kernel) rfl, wd_in 7 (by decide +kernel) rfl⟩
theorem nwF_37 : am_Cn "FrameForge" 37 4 8 := ⟨am_R4, am_F4, rfl, am_w4, am_ty4, by decide +kernel, wd_in 237 (by decide +kernel) rfl, wd_in 238 (by decide +kernel) rfl, wd_in 8 (by decide +kernel) rfl⟩
theorem nwM_9 : am_Cn "FrameForge$Machine" 9 5 7 := ⟨am_R5, am_F5, rfl, am_w5, am_ty5, by decide +kernel, wd_in 154 (by decide +kernel) rfl, wd_in 156 (by decide +kernel) rfl, wd_in 6 (by decide +kernel) rfl⟩
theorem nwP_9 : am_Cn "FrameForge$Program" 9 1 11 := ⟨am_R1, am_F1, rfl, am_w1, am_ty1, by decide +kernel, wd_in 27 (by decide +kernel) rfl, wd_in 29 (by decide +kernel) rfl, wd_in 3 (by decide +kernel) rfl⟩
theorem nwW_9 : am_Cn "FrameForge$Rewriter" 9 1 11 := ⟨am_R1, am_F1, rfl, am_w1, am_ty1, by decide +kernel, wd_in 222 (by decide +kernel) rfl, wd_in 29 (by decide +kernel) rfl, wd_in 3 (by decide +kernel) rfl⟩
theorem nwY_7 : am_Cn "FrameForgeLaw" 7 0 7 := ⟨am_R0, am_F0, rfl, am_w0, am_ty0, by decide +kernel, wd_in 12 (by decide +kernel) rfl, wd_in 13 (by decide +kernel) rfl, wd_in 1 (by decide +kernel) rfl⟩
theorem nwY_10 : am_Cn "FrameForgeLaw" 10 8 52 := ⟨am_R8, am_F8, rfl, am_w8, am_ty8, by decide +kernel, wd_in 711 (by decide +kernel) rfl, wd_in 712 (by decide +kernel) rfl, wd_in 9 (by decide +kernel) rfl⟩
theorem nrF_9 : Cond.classLink "FrameForge" 9 (am_rc 0) ∈ am_T := wd_in 20 (by decide +kernel) rfl
theorem nrM_9 : Cond.classLink "FrameForge$Machine" 9 (am_rc 2) ∈ am_T := wd_in 154 (by decide +kernel) rfl
theorem nrP_9 : Cond.classLink "FrameForge$Program" 9 (am_rc 1) ∈ am_T := wd_in 27 (by decide +kernel) rfl
theorem kcM_146 : Cond.constant "FrameForge$Machine" 146 (65535 : Int32) ∈ am_T := wd_in 550 (by decide +kernel) rfl
theorem kcR_263 : Cond.constant "FrameForgeModel" 263 (65535 : Int32) ∈ am_T := wd_in 1040 (by decide +kernel) rfl
theorem ac_int : Cond.arrayClass .int ∈ am_T := wd_in 100 (by decide +kernel) rfl
theorem ac_boolean : Cond.arrayClass .boolean ∈ am_T := wd_in 147 (by decide +kernel) rfl
theorem ob_in : Cond.instanceMethod objectInit ∈ am_T := wd_in 18 (by decide +kernel) rfl
set_option maxRecDepth 100000 in
theorem ob_co : Cond.code objectInit ⟨#[0xb1]⟩ 1 none ∈ am_T := wd_in 19 rfl rfl
theorem max_st : Cond.static Lib.Math.max.name ∈ am_T := wd_in 493 (by decide +kernel) rfl
set_option maxRecDepth 100000 in
theorem max_co : Cond.code Lib.Math.max.name Lib.Math.max.code 2 (some .int) ∈ am_T := wd_in 494 rfl rfl
theorem min_st : Cond.static Lib.Math.min.name ∈ am_T := wd_in 602 (by decide +kernel) rfl
set_option maxRecDepth 100000 in
theorem min_co : Cond.code Lib.Math.min.name Lib.Math.min.code 2 (some .int) ∈ am_T := wd_in 603 rfl rfl
theorem math_in : Cond.initialized "java/lang/Math" ∈ am_T := wd_in 11 (by decide +kernel) rfl
theorem sys_in : Cond.initialized "java/lang/System" ∈ am_T := wd_in 10 (by decide +kernel) rfl
theorem cp_na : Cond.native arraycopyName ∈ am_T := wd_in 329 (by decide +kernel) rfl
theorem cp_st : Cond.static arraycopyName ∈ am_T := wd_in 328 (by decide +kernel) rfl
set_option maxRecDepth 100000 in
theorem coF_init : Cond.code (am_y jF_init) (am_by jF_init) (am_mx jF_init) (am_ret jF_init) ∈ am_T := wd_in 16 rfl rfl
theorem imF_init : Cond.instanceMethod (am_y jF_init) ∈ am_T := wd_in 15 (by decide +kernel) rfl
set_option maxRecDepth 100000 in
theorem coF_write : Cond.code (am_y jF_write) (am_by jF_write) (am_mx jF_write) (am_ret jF_write) ∈ am_T := wd_in 307 rfl rfl
theorem imF_write : Cond.instanceMethod (am_y jF_write) ∈ am_T := wd_in 305 (by decide +kernel) rfl
theorem seF_write : Cond.selects (am_y jF_write).cls (am_y jF_write) (am_y jF_write) ∈ am_T := wd_in 306 (by decide +kernel) rfl
set_option maxRecDepth 100000 in
theorem coF_branch : Cond.code (am_y jF_branch) (am_by jF_branch) (am_mx jF_branch) (am_ret jF_branch) ∈ am_T := wd_in 314 rfl rfl
theorem imF_branch : Cond.instanceMethod (am_y jF_branch) ∈ am_T := wd_in 312 (by decide +kernel) rfl
theorem seF_branch : Cond.selects (am_y jF_branch).cls (am_y jF_branch) (am_y jF_branch) ∈ am_T := wd_in 313 (by decide +kernel) rfl
set_option maxRecDepth 100000 in
theorem coF_method : Cond.code (am_y jF_method) (am_by jF_method) (am_mx jF_method) (am_ret jF_method) ∈ am_T := wd_in 337 rfl rfl
theorem imF_method : Cond.instanceMethod (am_y jF_method) ∈ am_T := wd_in 335 (by decide +kernel) rfl
theorem seF_method : Cond.selects (am_y jF_method).cls (am_y jF_method) (am_y jF_method) ∈ am_T := wd_in 336 (by decide +kernel) rfl
set_option maxRecDepth 100000 in
theorem coF_add : Cond.code (am_y jF_add) (am_by jF_add) (am_mx jF_add) (am_ret jF_add) ∈ am_T := wd_in 346 rfl rfl
theorem imF_add : Cond.instanceMethod (am_y jF_add) ∈ am_T := wd_in 344 (by decide +kernel) rfl
theorem seF_add : Cond.selects (am_y jF_add).cls (am_y jF_add) (am_y jF_add) ∈ am_T := wd_in 345 (by decide +kernel) rfl
set_option maxRecDepth 100000 in
theorem coF_change : Cond.code (am_y jF_change) (am_by jF_change) (am_mx jF_change) (am_ret jF_change) ∈ am_T := wd_in 366 rfl rfl
theorem imF_change : Cond.instanceMethod (am_y jF_change) ∈ am_T := wd_in 364 (by decide +kernel) rfl
theorem seF_change : Cond.selects (am_y jF_change).cls (am_y jF_change) (am_y jF_change) ∈ am_T := wd_in 365 (by decide +kernel) rfl
set_option maxRecDepth 100000 in
theorem coF_row : Cond.code (am_y jF_row) (am_by jF_row) (am_mx jF_row) (am_ret jF_row) ∈ am_T := wd_in 370 rfl rfl
theorem imF_row : Cond.instanceMethod (am_y jF_row) ∈ am_T := wd_in 368 (by decide +kernel) rfl
theorem seF_row : Cond.selects (am_y jF_row).cls (am_y jF_row) (am_y jF_row) ∈ am_T := wd_in 369 (by decide +kernel) rfl
set_option maxRecDepth 100000 in
theorem coF_check : Cond.code (am_y jF_check) (am_by jF_check) (am_mx jF_check) (am_ret jF_check) ∈ am_T := wd_in 378 rfl rfl
theorem imF_check : Cond.instanceMethod (am_y jF_check) ∈ am_T := wd_in 376 (by decide +kernel) rfl
theorem seF_check : Cond.selects (am_y jF_check).cls (am_y jF_check) (am_y jF_check) ∈ am_T := wd_in 377 (by decide +kernel) rfl
set_option maxRecDepth 100000 in
theorem coF_kindAt : Cond.code (am_y jF_kindAt) (am_by jF_kindAt) (am_mx jF_kindAt) (am_ret jF_kindAt) ∈ am_T := wd_in 447 rfl rfl
theorem imF_kindAt : Cond.instanceMethod (am_y jF_kindAt) ∈ am_T := wd_in 445 (by decide +kernel) rfl
theorem seF_kindAt : Cond.selects (am_y jF_kindAt).cls (am_y jF_kindAt) (am_y jF_kindAt) ∈ am_T := wd_in 446 (by decide +kernel) rfl
set_option maxRecDepth 100000 in
theorem coF_run : Cond.code (am_y jF_run) (am_by jF_run) (am_mx jF_run) (am_ret jF_run) ∈ am_T := wd_in 463 rfl rfl
theorem imF_run : Cond.instanceMethod (am_y jF_run) ∈ am_T := wd_in 461 (by decide +kernel) rfl
theorem seF_run : Cond.selects (am_y jF_run).cls (am_y jF_run) (am_y jF_run) ∈ am_T := wd_in 462 (by decide +kernel) rfl
set_option maxRecDepth 100000 in
theorem coF_ran : Cond.code (am_y jF_ran) (am_by jF_ran) (am_mx jF_ran) (am_ret jF_ran) ∈ am_T := wd_in 592 rfl rfl
theorem imF_ran : Cond.instanceMethod (am_y jF_ran) ∈ am_T := wd_in 590 (by decide +kernel) rfl
theorem seF_ran : Cond.selects (am_y jF_ran).cls (am_y jF_ran) (am_y jF_ran) ∈ am_T := wd_in 591 (by decide +kernel) rfl
set_option maxRecDepth 100000 in
theorem coF_trace : Cond.code (am_y jF_trace) (am_by jF_trace) (am_mx jF_trace) (am_ret jF_trace) ∈ am_T := wd_in 596 rfl rfl
theorem imF_trace : Cond.instanceMethod (am_y jF_trace) ∈ am_T := wd_in 594 (by decide +kernel) rfl
theorem seF_trace : Cond.selects (am_y jF_trace).cls (am_y jF_trace) (am_y jF_trace) ∈ am_T := wd_in 595 (by decide +kernel) rfl
set_option maxRecDepth 100000 in
theorem coF_compare : Cond.code (am_y jF_compare) (am_by jF_compare) (am_mx jF_compare) (am_ret jF_compare) ∈ am_T := wd_in 607 rfl rfl
theorem imF_compare : Cond.instanceMethod (am_y jF_compare) ∈ am_T := wd_in 605 (by decide +kernel) rfl
theorem seF_compare : Cond.selects (am_y jF_compare).cls (am_y jF_compare) (am_y jF_compare) ∈ am_T := wd_in 606 (by decide +kernel) rfl
set_option maxRecDepth 100000 in
theorem coF_unfold : Cond.code (am_y jF_unfold) (am_by jF_unfold) (am_mx jF_unfold) (am_ret jF_unfold) ∈ am_T := wd_in 616 rfl rfl
theorem imF_unfold : Cond.instanceMethod (am_y jF_unfold) ∈ am_T := wd_in 614 (by decide +kernel) rfl
theorem seF_unfold : Cond.selects (am_y jF_unfold).cls (am_y jF_unfold) (am_y jF_unfold) ∈ am_T := wd_in 615 (by decide +kernel) rfl
set_option maxRecDepth 100000 in
theorem coF_inline : Cond.code (am_y jF_inline) (am_by jF_inline) (am_mx jF_inline) (am_ret jF_inline) ∈ am_T := wd_in 670 rfl rfl
theorem imF_inline : Cond.instanceMethod (am_y jF_inline) ∈ am_T := wd_in 668 (by decide +kernel) rfl
theorem seF_inline : Cond.selects (am_y jF_inline).cls (am_y jF_inline) (am_y jF_inline) ∈ am_T := wd_in 669 (by decide +kernel) rfl
set_option maxRecDepth 100000 in
theorem coF_code : Cond.code (am_y jF_code) (am_by jF_code) (am_mx jF_code) (am_ret jF_code) ∈ am_T := wd_in 698 rfl rfl
theorem imF_code : Cond.instanceMethod (am_y jF_code) ∈ am_T := wd_in 696 (by decide +kernel) rfl
theorem seF_code : Cond.selects (am_y jF_code).cls (am_y jF_code) (am_y jF_code) ∈ am_T := wd_in 697 (by decide +kernel) rfl
set_option maxRecDepth 100000 in
theorem coF_table : Cond.code (am_y jF_table) (am_by jF_table) (am_mx jF_table) (am_ret jF_table) ∈ am_T := wd_in 702 rfl rfl
theorem imF_table : Cond.instanceMethod (am_y jF_table) ∈ am_T := wd_in 700 (by decide +kernel) rfl
theorem seF_table : Cond.selects (am_y jF_table).cls (am_y jF_table) (am_y jF_table) ∈ am_T := wd_in 701 (by decide +kernel) rfl
set_option maxRecDepth 100000 in
theorem coF_writtenMethod : Cond.code (am_y jF_writtenMethod) (am_by jF_writtenMethod) (am_mx jF_writtenMethod) (am_ret jF_writtenMethod) ∈ am_T := wd_in 341 rfl rfl
theorem imF_writtenMethod : Cond.instanceMethod (am_y jF_writtenMethod) ∈ am_T := wd_in 340 (by decide +kernel) rfl
theorem seF_writtenMethod : Cond.selects (am_y jF_writtenMethod).cls (am_y jF_writtenMethod) (am_y jF_writtenMethod) ∈ am_T := wd_ins (q := (am_y jF_writtenMethod, 7)) 0 (by decide +kernel)
set_option maxRecDepth 100000 in
theorem coF_allSound : Cond.code (am_y jF_allSound) (am_by jF_allSound) (am_mx jF_allSound) (am_ret jF_allSound) ∈ am_T := wd_in 467 rfl rfl
theorem imF_allSound : Cond.instanceMethod (am_y jF_allSound) ∈ am_T := wd_in 466 (by decide +kernel) rfl
theorem seF_allSound : Cond.selects (am_y jF_allSound).cls (am_y jF_allSound) (am_y jF_allSound) ∈ am_T := wd_ins (q := (am_y jF_allSound, 7)) 14 (by decide +kernel)
set_option maxRecDepth 100000 in
theorem coF_isBelow : Cond.code (am_y jF_isBelow) (am_by jF_isBelow) (am_mx jF_isBelow) (am_ret jF_isBelow) ∈ am_T := wd_in 310 rfl rfl
theorem stF_isBelow : Cond.static (am_y jF_isBelow) ∈ am_T := wd_in 309 (by decide +kernel) rfl
set_option maxRecDepth 100000 in
theorem coF_hasBit : Cond.code (am_y jF_hasBit) (am_by jF_hasBit) (am_mx jF_hasBit) (am_ret jF_hasBit) ∈ am_T := wd_in 474 rfl rfl
theorem stF_hasBit : Cond.static (am_y jF_hasBit) ∈ am_T := wd_in 473 (by decide +kernel) rfl
set_option maxRecDepth 100000 in
theorem coF_isInstruction : Cond.code (am_y jF_isInstruction) (am_by jF_isInstruction) (am_mx jF_isInstruction) (am_ret jF_isInstruction) ∈ am_T := wd_in 349 rfl rfl
theorem stF_isInstruction : Cond.static (am_y jF_isInstruction) ∈ am_T := wd_in 348 (by decide +kernel) rfl
set_option maxRecDepth 100000 in
theorem coF_isOperand : Cond.code (am_y jF_isOperand) (am_by jF_isOperand) (am_mx jF_isOperand) (am_ret jF_isOperand) ∈ am_T := wd_in 354 rfl rfl
theorem stF_isOperand : Cond.static (am_y jF_isOperand) ∈ am_T := wd_in 353 (by decide +kernel) rfl
set_option maxRecDepth 100000 in
theorem coF_isJump : Cond.code (am_y jF_isJump) (am_by jF_isJump) (am_mx jF_isJump) (am_ret jF_isJump) ∈ am_T := wd_in 443 rfl rfl
theorem stF_isJump : Cond.static (am_y jF_isJump) ∈ am_T := wd_in 442 (by decide +kernel) rfl
set_option maxRecDepth 100000 in
theorem coR_init : Cond.code (am_y jR_init) (am_by jR_init) (am_mx jR_init) (am_ret jR_init) ∈ am_T := wd_in 715 rfl rfl
theorem imR_init : Cond.instanceMethod (am_y jR_init) ∈ am_T := wd_in 714 (by decide +kernel) rfl
set_option maxRecDepth 100000 in
theorem coR_in : Cond.code (am_y jR_in) (am_by jR_in) (am_mx jR_in) (am_ret jR_in) ∈ am_T := wd_in 879 rfl rfl
theorem stR_in : Cond.static (am_y jR_in) ∈ am_T := wd_in 878 (by decide +kernel) rfl
set_option maxRecDepth 100000 in
theorem coR_own : Cond.code (am_y jR_own) (am_by jR_own) (am_mx jR_own) (am_ret jR_own) ∈ am_T := wd_in 899 rfl rfl
theorem imR_own : Cond.instanceMethod (am_y jR_own) ∈ am_T := wd_in 898 (by decide +kernel) rfl
theorem seR_own : Cond.selects (am_y jR_own).cls (am_y jR_own) (am_y jR_own) ∈ am_T := wd_ins (q := (am_y jR_own, 52)) 41 (by decide +kernel)
set_option maxRecDepth 100000 in
theorem coR_write : Cond.code (am_y jR_write) (am_by jR_write) (am_mx jR_write) (am_ret jR_write) ∈ am_T := wd_in 876 rfl rfl
theorem imR_write : Cond.instanceMethod (am_y jR_write) ∈ am_T := wd_in 874 (by decide +kernel) rfl
theorem seR_write : Cond.selects (am_y jR_write).cls (am_y jR_write) (am_y jR_write) ∈ am_T := wd_in 875 (by decide +kernel) rfl
set_option maxRecDepth 100000 in
theorem coR_branch : Cond.code (am_y jR_branch) (am_by jR_branch) (am_mx jR_branch) (am_ret jR_branch) ∈ am_T := wd_in 883 rfl rfl
theorem imR_branch : Cond.instanceMethod (am_y jR_branch) ∈ am_T := wd_in 881 (by decide +kernel) rfl
theorem seR_branch : Cond.selects (am_y jR_branch).cls (am_y jR_branch) (am_y jR_branch) ∈ am_T := wd_in 882 (by decide +kernel) rfl
set_option maxRecDepth 100000 in
theorem coR_method : Cond.code (am_y jR_method) (am_by jR_method) (am_mx jR_method) (am_ret jR_method) ∈ am_T := wd_in 895 rfl rfl
theorem imR_method : Cond.instanceMethod (am_y jR_method) ∈ am_T := wd_in 893 (by decide +kernel) rfl
theorem seR_method : Cond.selects (am_y jR_method).cls (am_y jR_method) (am_y jR_method) ∈ am_T := wd_in 894 (by decide +kernel) rfl
set_option maxRecDepth 100000 in
theorem coR_set : Cond.code (am_y jR_set) (am_by jR_set) (am_mx jR_set) (am_ret jR_set) ∈ am_T := wd_in 887 rfl rfl
theorem imR_set : Cond.instanceMethod (am_y jR_set) ∈ am_T := wd_in 886 (by decide +kernel) rfl
theorem seR_set : Cond.selects (am_y jR_set).cls (am_y jR_set) (am_y jR_set) ∈ am_T := wd_ins (q := (am_y jR_set, 52)) 39 (by decide +kernel)
set_option maxRecDepth 100000 in
theorem coR_setRow : Cond.code (am_y jR_setRow) (am_by jR_setRow) (am_mx jR_setRow) (am_ret jR_setRow) ∈ am_T := wd_in 891 rfl rfl
theorem imR_setRow : Cond.instanceMethod (am_y jR_setRow) ∈ am_T := wd_in 890 (by decide +kernel) rfl
theorem seR_setRow : Cond.selects (am_y jR_setRow).cls (am_y jR_setRow) (am_y jR_setRow) ∈ am_T := wd_ins (q := (am_y jR_setRow, 52)) 40 (by decide +kernel)
set_option maxRecDepth 100000 in
theorem coR_isJump : Cond.code (am_y jR_isJump) (am_by jR_isJump) (am_mx jR_isJump) (am_ret jR_isJump) ∈ am_T := wd_in 909 rfl rfl
theorem stR_isJump : Cond.static (am_y jR_isJump) ∈ am_T := wd_in 908 (by decide +kernel) rfl
set_option maxRecDepth 100000 in
theorem coR_mostA : Cond.code (am_y jR_mostA) (am_by jR_mostA) (am_mx jR_mostA) (am_ret jR_mostA) ∈ am_T := wd_in 912 rfl rfl
theorem stR_mostA : Cond.static (am_y jR_mostA) ∈ am_T := wd_in 911 (by decide +kernel) rfl
set_option maxRecDepth 100000 in
theorem coR_isGood : Cond.code (am_y jR_isGood) (am_by jR_isGood) (am_mx jR_isGood) (am_ret jR_isGood) ∈ am_T := wd_in 906 rfl rfl
theorem stR_isGood : Cond.static (am_y jR_isGood) ∈ am_T := wd_in 905 (by decide +kernel) rfl
set_option maxRecDepth 100000 in
theorem coR_put : Cond.code (am_y jR_put) (am_by jR_put) (am_mx jR_put) (am_ret jR_put) ∈ am_T := wd_in 916 rfl rfl
theorem imR_put : Cond.instanceMethod (am_y jR_put) ∈ am_T := wd_in 915 (by decide +kernel) rfl
theorem seR_put : Cond.selects (am_y jR_put).cls (am_y jR_put) (am_y jR_put) ∈ am_T := wd_ins (q := (am_y jR_put, 52)) 42 (by decide +kernel)
set_option maxRecDepth 100000 in
theorem coR_add : Cond.code (am_y jR_add) (am_by jR_add) (am_mx jR_add) (am_ret jR_add) ∈ am_T := wd_in 903 rfl rfl
theorem imR_add : Cond.instanceMethod (am_y jR_add) ∈ am_T := wd_in 901 (by decide +kernel) rfl
theorem seR_add : Cond.selects (am_y jR_add).cls (am_y jR_add) (am_y jR_add) ∈ am_T := wd_in 902 (by decide +kernel) rfl
set_option maxRecDepth 100000 in
theorem coR_change : Cond.code (am_y jR_change) (am_by jR_change) (am_mx jR_change) (am_ret jR_change) ∈ am_T := wd_in 920 rfl rfl
theorem imR_change : Cond.instanceMethod (am_y jR_change) ∈ am_T := wd_in 918 (by decide +kernel) rfl
theorem seR_change : Cond.selects (am_y jR_change).cls (am_y jR_change) (am_y jR_change) ∈ am_T := wd_in 919 (by decide +kernel) rfl
set_option maxRecDepth 100000 in
theorem coR_row : Cond.code (am_y jR_row) (am_by jR_row) (am_mx jR_row) (am_ret jR_row) ∈ am_T := wd_in 924 rfl rfl
theorem imR_row : Cond.instanceMethod (am_y jR_row) ∈ am_T := wd_in 922 (by decide +kernel) rfl
theorem seR_row : Cond.selects (am_y jR_row).cls (am_y jR_row) (am_y jR_row) ∈ am_T := wd_in 923 (by decide +kernel) rfl
set_option maxRecDepth 100000 in
theorem coR_push : Cond.code (am_y jR_push) (am_by jR_push) (am_mx jR_push) (am_ret jR_push) ∈ am_T := wd_in 948 rfl rfl
theorem imR_push : Cond.instanceMethod (am_y jR_push) ∈ am_T := wd_in 947 (by decide +kernel) rfl
theorem seR_push : Cond.selects (am_y jR_push).cls (am_y jR_push) (am_y jR_push) ∈ am_T := wd_ins (q := (am_y jR_push, 52)) 47 (by decide +kernel)
set_option maxRecDepth 100000 in
theorem coR_take : Cond.code (am_y jR_take) (am_by jR_take) (am_mx jR_take) (am_ret jR_take) ∈ am_T := wd_in 952 rfl rfl
theorem imR_take : Cond.instanceMethod (am_y jR_take) ∈ am_T := wd_in 951 (by decide +kernel) rfl
theorem seR_take : Cond.selects (am_y jR_take).cls (am_y jR_take) (am_y jR_take) ∈ am_T := wd_ins (q := (am_y jR_take, 52)) 48 (by decide +kernel)
set_option maxRecDepth 100000 in
theorem coR_fetch : Cond.code (am_y jR_fetch) (am_by jR_fetch) (am_mx jR_fetch) (am_ret jR_fetch) ∈ am_T := wd_in 940 rfl rfl
theorem imR_fetch : Cond.instanceMethod (am_y jR_fetch) ∈ am_T := wd_in 939 (by decide +kernel) rfl
theorem seR_fetch : Cond.selects (am_y jR_fetch).cls (am_y jR_fetch) (am_y jR_fetch) ∈ am_T := wd_ins (q := (am_y jR_fetch, 52)) 45 (by decide +kernel)
set_option maxRecDepth 100000 in
theorem coR_arrive : Cond.code (am_y jR_arrive) (am_by jR_arrive) (am_mx jR_arrive) (am_ret jR_arrive) ∈ am_T := wd_in 936 rfl rfl
theorem imR_arrive : Cond.instanceMethod (am_y jR_arrive) ∈ am_T := wd_in 935 (by decide +kernel) rfl
theorem seR_arrive : Cond.selects (am_y jR_arrive).cls (am_y jR_arrive) (am_y jR_arrive) ∈ am_T := wd_ins (q := (am_y jR_arrive, 52)) 44 (by decide +kernel)
set_option maxRecDepth 100000 in
theorem coR_move : Cond.code (am_y jR_move) (am_by jR_move) (am_mx jR_move) (am_ret jR_move) ∈ am_T := wd_in 956 rfl rfl
theorem imR_move : Cond.instanceMethod (am_y jR_move) ∈ am_T := wd_in 955 (by decide +kernel) rfl
theorem seR_move : Cond.selects (am_y jR_move).cls (am_y jR_move) (am_y jR_move) ∈ am_T := wd_ins (q := (am_y jR_move, 52)) 49 (by decide +kernel)
set_option maxRecDepth 100000 in
theorem coR_leave : Cond.code (am_y jR_leave) (am_by jR_leave) (am_mx jR_leave) (am_ret jR_leave) ∈ am_T := wd_in 944 rfl rfl
theorem imR_leave : Cond.instanceMethod (am_y jR_leave) ∈ am_T := wd_in 943 (by decide +kernel) rfl
theorem seR_leave : Cond.selects (am_y jR_leave).cls (am_y jR_leave) (am_y jR_leave) ∈ am_T := wd_ins (q := (am_y jR_leave, 52)) 46 (by decide +kernel)
set_option maxRecDepth 100000 in
theorem coR_goOn : Cond.code (am_y jR_goOn) (am_by jR_goOn) (am_mx jR_goOn) (am_ret jR_goOn) ∈ am_T := wd_in 960 rfl rfl
theorem imR_goOn : Cond.instanceMethod (am_y jR_goOn) ∈ am_T := wd_in 959 (by decide +kernel) rfl
theorem seR_goOn : Cond.selects (am_y jR_goOn).cls (am_y jR_goOn) (am_y jR_goOn) ∈ am_T := wd_ins (q := (am_y jR_goOn, 52)) 50 (by decide +kernel)
set_option maxRecDepth 100000 in
theorem coR_refuse : Cond.code (am_y jR_refuse) (am_by jR_refuse) (am_mx jR_refuse) (am_ret jR_refuse) ∈ am_T := wd_in 964 rfl rfl
theorem imR_refuse : Cond.instanceMethod (am_y jR_refuse) ∈ am_T := wd_in 963 (by decide +kernel) rfl
theorem seR_refuse : Cond.selects (am_y jR_refuse).cls (am_y jR_refuse) (am_y jR_refuse) ∈ am_T := wd_ins (q := (am_y jR_refuse, 52)) 51 (by decide +kernel)
set_option maxRecDepth 100000 in
theorem coR_isRight : Cond.code (am_y jR_isRight) (am_by jR_isRight) (am_mx jR_isRight) (am_ret jR_isRight) ∈ am_T := wd_in 932 rfl rfl
theorem imR_isRight : Cond.instanceMethod (am_y jR_isRight) ∈ am_T := wd_in 931 (by decide +kernel) rfl
theorem seR_isRight : Cond.selects (am_y jR_isRight).cls (am_y jR_isRight) (am_y jR_isRight) ∈ am_T := wd_ins (q := (am_y jR_isRight, 52)) 43 (by decide +kernel)
set_option maxRecDepth 100000 in
theorem coR_check : Cond.code (am_y jR_check) (am_by jR_check) (am_mx jR_check) (am_ret jR_check) ∈ am_T := wd_in 928 rfl rfl
theorem imR_check : Cond.instanceMethod (am_y jR_check) ∈ am_T := wd_in 926 (by decide +kernel) rfl
theorem seR_check : Cond.selects (am_y jR_check).cls (am_y jR_check) (am_y jR_check) ∈ am_T := wd_in 927 (by decide +kernel) rfl
set_option maxRecDepth 100000 in
theorem coR_kindAt : Cond.code (am_y jR_kindAt) (am_by jR_kindAt) (am_mx jR_kindAt) (am_ret jR_kindAt) ∈ am_T := wd_in 968 rfl rfl
theorem imR_kindAt : Cond.instanceMethod (am_y jR_kindAt) ∈ am_T := wd_in 966 (by decide +kernel) rfl
theorem seR_kindAt : Cond.selects (am_y jR_kindAt).cls (am_y jR_kindAt) (am_y jR_kindAt) ∈ am_T := wd_in 967 (by decide +kernel) rfl
set_option maxRecDepth 100000 in
theorem coR_isUnder : Cond.code (am_y jR_isUnder) (am_by jR_isUnder) (am_mx jR_isUnder) (am_ret jR_isUnder) ∈ am_T := wd_in 1015 rfl rfl
theorem stR_isUnder : Cond.static (am_y jR_isUnder) ∈ am_T := wd_in 1014 (by decide +kernel) rfl
set_option maxRecDepth 100000 in
theorem coR_tell : Cond.code (am_y jR_tell) (am_by jR_tell) (am_mx jR_tell) (am_ret jR_tell) ∈ am_T := wd_in 988 rfl rfl
theorem imR_tell : Cond.instanceMethod (am_y jR_tell) ∈ am_T := wd_in 987 (by decide +kernel) rfl
theorem seR_tell : Cond.selects (am_y jR_tell).cls (am_y jR_tell) (am_y jR_tell) ∈ am_T := wd_ins (q := (am_y jR_tell, 52)) 55 (by decide +kernel)
set_option maxRecDepth 100000 in
theorem coR_make : Cond.code (am_y jR_make) (am_by jR_make) (am_mx jR_make) (am_ret jR_make) ∈ am_T := wd_in 1008 rfl rfl
theorem imR_make : Cond.instanceMethod (am_y jR_make) ∈ am_T := wd_in 1007 (by decide +kernel) rfl
theorem seR_make : Cond.selects (am_y jR_make).cls (am_y jR_make) (am_y jR_make) ∈ am_T := wd_ins (q := (am_y jR_make, 52)) 60 (by decide +kernel)
set_option maxRecDepth 100000 in
theorem coR_begin : Cond.code (am_y jR_begin) (am_by jR_begin) (am_mx jR_begin) (am_ret jR_begin) ∈ am_T := wd_in 984 rfl rfl
theorem imR_begin : Cond.instanceMethod (am_y jR_begin) ∈ am_T := wd_in 983 (by decide +kernel) rfl
theorem seR_begin : Cond.selects (am_y jR_begin).cls (am_y jR_begin) (am_y jR_begin) ∈ am_T := wd_ins (q := (am_y jR_begin, 52)) 54 (by decide +kernel)
set_option maxRecDepth 100000 in
theorem coR_finish : Cond.code (am_y jR_finish) (am_by jR_finish) (am_mx jR_finish) (am_ret jR_finish) ∈ am_T := wd_in 1019 rfl rfl
theorem imR_finish : Cond.instanceMethod (am_y jR_finish) ∈ am_T := wd_in 1018 (by decide +kernel) rfl
theorem seR_finish : Cond.selects (am_y jR_finish).cls (am_y jR_finish) (am_y jR_finish) ∈ am_T := wd_ins (q := (am_y jR_finish, 52)) 62 (by decide +kernel)
set_option maxRecDepth 100000 in
theorem coR_raise : Cond.code (am_y jR_raise) (am_by jR_raise) (am_mx jR_raise) (am_ret jR_raise) ∈ am_T := wd_in 1012 rfl rfl
theorem imR_raise : Cond.instanceMethod (am_y jR_raise) ∈ am_T := wd_in 1011 (by decide +kernel) rfl
theorem seR_raise : Cond.selects (am_y jR_raise).cls (am_y jR_raise) (am_y jR_raise) ∈ am_T := wd_ins (q := (am_y jR_raise, 52)) 61 (by decide +kernel)
set_option maxRecDepth 100000 in
theorem coR_machine : Cond.code (am_y jR_machine) (am_by jR_machine) (am_mx jR_machine) (am_ret jR_machine) ∈ am_T := wd_in 1004 rfl rfl
theorem imR_machine : Cond.instanceMethod (am_y jR_machine) ∈ am_T := wd_in 1003 (by decide +kernel) rfl
theorem seR_machine : Cond.selects (am_y jR_machine).cls (am_y jR_machine) (am_y jR_machine) ∈ am_T := wd_ins (q := (am_y jR_machine, 52)) 59 (by decide +kernel)
set_option maxRecDepth 100000 in
theorem coR_pop : Cond.code (am_y jR_pop) (am_by jR_pop) (am_mx jR_pop) (am_ret jR_pop) ∈ am_T := wd_in 996 rfl rfl
theorem imR_pop : Cond.instanceMethod (am_y jR_pop) ∈ am_T := wd_in 995 (by decide +kernel) rfl
theorem seR_pop : Cond.selects (am_y jR_pop).cls (am_y jR_pop) (am_y jR_pop) ∈ am_T := wd_ins (q := (am_y jR_pop, 52)) 57 (by decide +kernel)
set_option maxRecDepth 100000 in
theorem coR_give : Cond.code (am_y jR_give) (am_by jR_give) (am_mx jR_give) (am_ret jR_give) ∈ am_T := wd_in 1023 rfl rfl
theorem imR_give : Cond.instanceMethod (am_y jR_give) ∈ am_T := wd_in 1022 (by decide +kernel) rfl
theorem seR_give : Cond.selects (am_y jR_give).cls (am_y jR_give) (am_y jR_give) ∈ am_T := wd_ins (q := (am_y jR_give, 52)) 63 (by decide +kernel)
set_option maxRecDepth 100000 in
theorem coR_call : Cond.code (am_y jR_call) (am_by jR_call) (am_mx jR_call) (am_ret jR_call) ∈ am_T := wd_in 1035 rfl rfl
theorem imR_call : Cond.instanceMethod (am_y jR_call) ∈ am_T := wd_in 1034 (by decide +kernel) rfl
theorem seR_call : Cond.selects (am_y jR_call).cls (am_y jR_call) (am_y jR_call) ∈ am_T := wd_ins (q := (am_y jR_call, 52)) 66 (by decide +kernel)
set_option maxRecDepth 100000 in
theorem coR_back : Cond.code (am_y jR_back) (am_by jR_back) (am_mx jR_back) (am_ret jR_back) ∈ am_T := wd_in 1039 rfl rfl
theorem imR_back : Cond.instanceMethod (am_y jR_back) ∈ am_T := wd_in 1038 (by decide +kernel) rfl
theorem seR_back : Cond.selects (am_y jR_back).cls (am_y jR_back) (am_y jR_back) ∈ am_T := wd_ins (q := (am_y jR_back, 52)) 67 (by decide +kernel)
set_option maxRecDepth 100000 in
theorem coR_release : Cond.code (am_y jR_release) (am_by jR_release) (am_mx jR_release) (am_ret jR_release) ∈ am_T := wd_in 1031 rfl rfl
theorem imR_release : Cond.instanceMethod (am_y jR_release) ∈ am_T := wd_in 1030 (by decide +kernel) rfl
theorem seR_release : Cond.selects (am_y jR_release).cls (am_y jR_release) (am_y jR_release) ∈ am_T := wd_ins (q := (am_y jR_release, 52)) 65 (by decide +kernel)
set_option maxRecDepth 100000 in
theorem coR_sum : Cond.code (am_y jR_sum) (am_by jR_sum) (am_mx jR_sum) (am_ret jR_sum) ∈ am_T := wd_in 1000 rfl rfl
theorem imR_sum : Cond.instanceMethod (am_y jR_sum) ∈ am_T := wd_in 999 (by decide +kernel) rfl
theorem seR_sum : Cond.selects (am_y jR_sum).cls (am_y jR_sum) (am_y jR_sum) ∈ am_T := wd_ins (q := (am_y jR_sum, 52)) 58 (by decide +kernel)
set_option maxRecDepth 100000 in
theorem coR_onObject : Cond.code (am_y jR_onObject) (am_by jR_onObject) (am_mx jR_onObject) (am_ret jR_onObject) ∈ am_T := wd_in 1027 rfl rfl
theorem imR_onObject : Cond.instanceMethod (am_y jR_onObject) ∈ am_T := wd_in 1026 (by decide +kernel) rfl
theorem seR_onObject : Cond.selects (am_y jR_onObject).cls (am_y jR_onObject) (am_y jR_onObject) ∈ am_T := wd_ins (q := (am_y jR_onObject, 52)) 64 (by decide +kernel)
set_option maxRecDepth 100000 in
theorem coR_step : Cond.code (am_y jR_step) (am_by jR_step) (am_mx jR_step) (am_ret jR_step) ∈ am_T := wd_in 992 rfl rfl
theorem imR_step : Cond.instanceMethod (am_y jR_step) ∈ am_T := wd_in 991 (by decide +kernel) rfl
theorem seR_step : Cond.selects (am_y jR_step).cls (am_y jR_step) (am_y jR_step) ∈ am_T := wd_ins (q := (am_y jR_step, 52)) 56 (by decide +kernel)
set_option maxRecDepth 100000 in
theorem coR_allRight : Cond.code (am_y jR_allRight) (am_by jR_allRight) (am_mx jR_allRight) (am_ret jR_allRight) ∈ am_T := wd_in 976 rfl rfl
theorem imR_allRight : Cond.instanceMethod (am_y jR_allRight) ∈ am_T := wd_in 975 (by decide +kernel) rfl
theorem seR_allRight : Cond.selects (am_y jR_allRight).cls (am_y jR_allRight) (am_y jR_allRight) ∈ am_T := wd_ins (q := (am_y jR_allRight, 52)) 52 (by decide +kernel)
set_option maxRecDepth 100000 in
theorem coR_go : Cond.code (am_y jR_go) (am_by jR_go) (am_mx jR_go) (am_ret jR_go) ∈ am_T := wd_in 980 rfl rfl
theorem imR_go : Cond.instanceMethod (am_y jR_go) ∈ am_T := wd_in 979 (by decide +kernel) rfl
theorem seR_go : Cond.selects (am_y jR_go).cls (am_y jR_go) (am_y jR_go) ∈ am_T := wd_ins (q := (am_y jR_go, 52)) 53 (by decide +kernel)
set_option maxRecDepth 100000 in
theorem coR_run : Cond.code (am_y jR_run) (am_by jR_run) (am_mx jR_run) (am_ret jR_run) ∈ am_T := wd_in 972 rfl rfl
theorem imR_run : Cond.instanceMethod (am_y jR_run) ∈ am_T := wd_in 970 (by decide +kernel) rfl
theorem seR_run : Cond.selects (am_y jR_run).cls (am_y jR_run) (am_y jR_run) ∈ am_T := wd_in 971 (by decide +kernel) rfl
set_option maxRecDepth 100000 in
theorem coR_ran : Cond.code (am_y jR_ran) (am_by jR_ran) (am_mx jR_ran) (am_ret jR_ran) ∈ am_T := wd_in 1044 rfl rfl
theorem imR_ran : Cond.instanceMethod (am_y jR_ran) ∈ am_T := wd_in 1042 (by decide +kernel) rfl
theorem seR_ran : Cond.selects (am_y jR_ran).cls (am_y jR_ran) (am_y jR_ran) ∈ am_T := wd_in 1043 (by decide +kernel) rfl
set_option maxRecDepth 100000 in
theorem coR_trace : Cond.code (am_y jR_trace) (am_by jR_trace) (am_mx jR_trace) (am_ret jR_trace) ∈ am_T := wd_in 1048 rfl rfl
theorem imR_trace : Cond.instanceMethod (am_y jR_trace) ∈ am_T := wd_in 1046 (by decide +kernel) rfl
theorem seR_trace : Cond.selects (am_y jR_trace).cls (am_y jR_trace) (am_y jR_trace) ∈ am_T := wd_in 1047 (by decide +kernel) rfl
set_option maxRecDepth 100000 in
theorem coR_compare : Cond.code (am_y jR_compare) (am_by jR_compare) (am_mx jR_compare) (am_ret jR_compare) ∈ am_T := wd_in 1052 rfl rfl
theorem imR_compare : Cond.instanceMethod (am_y jR_compare) ∈ am_T := wd_in 1050 (by decide +kernel) rfl
theorem seR_compare : Cond.selects (am_y jR_compare).cls (am_y jR_compare) (am_y jR_compare) ∈ am_T := wd_in 1051 (by decide +kernel) rfl
set_option maxRecDepth 100000 in
theorem coR_shifted : Cond.code (am_y jR_shifted) (am_by jR_shifted) (am_mx jR_shifted) (am_ret jR_shifted) ∈ am_T := wd_in 1063 rfl rfl
theorem stR_shifted : Cond.static (am_y jR_shifted) ∈ am_T := wd_in 1062 (by decide +kernel) rfl
set_option maxRecDepth 100000 in
theorem coR_newRow : Cond.code (am_y jR_newRow) (am_by jR_newRow) (am_mx jR_newRow) (am_ret jR_newRow) ∈ am_T := wd_in 1067 rfl rfl
theorem imR_newRow : Cond.instanceMethod (am_y jR_newRow) ∈ am_T := wd_in 1066 (by decide +kernel) rfl
theorem seR_newRow : Cond.selects (am_y jR_newRow).cls (am_y jR_newRow) (am_y jR_newRow) ∈ am_T := wd_ins (q := (am_y jR_newRow, 52)) 69 (by decide +kernel)
set_option maxRecDepth 100000 in
theorem coR_replace : Cond.code (am_y jR_replace) (am_by jR_replace) (am_mx jR_replace) (am_ret jR_replace) ∈ am_T := wd_in 1075 rfl rfl
theorem imR_replace : Cond.instanceMethod (am_y jR_replace) ∈ am_T := wd_in 1074 (by decide +kernel) rfl
theorem seR_replace : Cond.selects (am_y jR_replace).cls (am_y jR_replace) (am_y jR_replace) ∈ am_T := wd_ins (q := (am_y jR_replace, 52)) 71 (by decide +kernel)
set_option maxRecDepth 100000 in
theorem coR_newInstruction : Cond.code (am_y jR_newInstruction) (am_by jR_newInstruction) (am_mx jR_newInstruction) (am_ret jR_newInstruction) ∈ am_T := wd_in 1071 rfl rfl
theorem imR_newInstruction : Cond.instanceMethod (am_y jR_newInstruction) ∈ am_T := wd_in 1070 (by decide +kernel) rfl
theorem seR_newInstruction : Cond.selects (am_y jR_newInstruction).cls (am_y jR_newInstruction) (am_y jR_newInstruction) ∈ am_T := wd_ins (q := (am_y jR_newInstruction, 52)) 70 (by decide +kernel)
set_option maxRecDepth 100000 in
theorem coR_endOf : Cond.code (am_y jR_endOf) (am_by jR_endOf) (am_mx jR_endOf) (am_ret jR_endOf) ∈ am_T := wd_in 1060 rfl rfl
theorem imR_endOf : Cond.instanceMethod (am_y jR_endOf) ∈ am_T := wd_in 1059 (by decide +kernel) rfl
theorem seR_endOf : Cond.selects (am_y jR_endOf).cls (am_y jR_endOf) (am_y jR_endOf) ∈ am_T := wd_ins (q := (am_y jR_endOf, 52)) 68 (by decide +kernel)
set_option maxRecDepth 100000 in
theorem coR_unfold : Cond.code (am_y jR_unfold) (am_by jR_unfold) (am_mx jR_unfold) (am_ret jR_unfold) ∈ am_T := wd_in 1056 rfl rfl
theorem imR_unfold : Cond.instanceMethod (am_y jR_unfold) ∈ am_T := wd_in 1054 (by decide +kernel) rfl
theorem seR_unfold : Cond.selects (am_y jR_unfold).cls (am_y jR_unfold) (am_y jR_unfold) ∈ am_T := wd_in 1055 (by decide +kernel) rfl
set_option maxRecDepth 100000 in
theorem coR_greatest : Cond.code (am_y jR_greatest) (am_by jR_greatest) (am_mx jR_greatest) (am_ret jR_greatest) ∈ am_T := wd_in 1083 rfl rfl
theorem imR_greatest : Cond.instanceMethod (am_y jR_greatest) ∈ am_T := wd_in 1082 (by decide +kernel) rfl
theorem seR_greatest : Cond.selects (am_y jR_greatest).cls (am_y jR_greatest) (am_y jR_greatest) ∈ am_T := wd_ins (q := (am_y jR_greatest, 52)) 72 (by decide +kernel)
set_option maxRecDepth 100000 in
theorem coR_mayInline : Cond.code (am_y jR_mayInline) (am_by jR_mayInline) (am_mx jR_mayInline) (am_ret jR_mayInline) ∈ am_T := wd_in 1087 rfl rfl
theorem imR_mayInline : Cond.instanceMethod (am_y jR_mayInline) ∈ am_T := wd_in 1086 (by decide +kernel) rfl
theorem seR_mayInline : Cond.selects (am_y jR_mayInline).cls (am_y jR_mayInline) (am_y jR_mayInline) ∈ am_T := wd_ins (q := (am_y jR_mayInline, 52)) 73 (by decide +kernel)
set_option maxRecDepth 100000 in
theorem coR_inline : Cond.code (am_y jR_inline) (am_by jR_inline) (am_mx jR_inline) (am_ret jR_inline) ∈ am_T := wd_in 1079 rfl rfl
theorem imR_inline : Cond.instanceMethod (am_y jR_inline) ∈ am_T := wd_in 1077 (by decide +kernel) rfl
theorem seR_inline : Cond.selects (am_y jR_inline).cls (am_y jR_inline) (am_y jR_inline) ∈ am_T := wd_in 1078 (by decide +kernel) rfl
set_option maxRecDepth 100000 in
theorem coR_code : Cond.code (am_y jR_code) (am_by jR_code) (am_mx jR_code) (am_ret jR_code) ∈ am_T := wd_in 1091 rfl rfl
theorem imR_code : Cond.instanceMethod (am_y jR_code) ∈ am_T := wd_in 1089 (by decide +kernel) rfl
theorem seR_code : Cond.selects (am_y jR_code).cls (am_y jR_code) (am_y jR_code) ∈ am_T := wd_in 1090 (by decide +kernel) rfl
set_option maxRecDepth 100000 in
theorem coR_table : Cond.code (am_y jR_table) (am_by jR_table) (am_mx jR_table) (am_ret jR_table) ∈ am_T := wd_in 1095 rfl rfl
theorem imR_table : Cond.instanceMethod (am_y jR_table) ∈ am_T := wd_in 1093 (by decide +kernel) rfl
theorem seR_table : Cond.selects (am_y jR_table).cls (am_y jR_table) (am_y jR_table) ∈ am_T := wd_in 1094 (by decide +kernel) rfl
set_option maxRecDepth 100000 in
theorem coC_init : Cond.code (am_y jC_init) (am_by jC_init) (am_mx jC_init) (am_ret jC_init) ∈ am_T := wd_in 112 rfl rfl
theorem imC_init : Cond.instanceMethod (am_y jC_init) ∈ am_T := wd_in 111 (by decide +kernel) rfl
set_option maxRecDepth 100000 in
theorem coC_follow : Cond.code (am_y jC_follow) (am_by jC_follow) (am_mx jC_follow) (am_ret jC_follow) ∈ am_T := wd_in 382 rfl rfl
theorem imC_follow : Cond.instanceMethod (am_y jC_follow) ∈ am_T := wd_in 380 (by decide +kernel) rfl
theorem seC_follow : Cond.selects (am_y jC_follow).cls (am_y jC_follow) (am_y jC_follow) ∈ am_T := wd_in 381 (by decide +kernel) rfl
set_option maxRecDepth 100000 in
theorem coC_comesTo : Cond.code (am_y jC_comesTo) (am_by jC_comesTo) (am_mx jC_comesTo) (am_ret jC_comesTo) ∈ am_T := wd_in 451 rfl rfl
theorem imC_comesTo : Cond.instanceMethod (am_y jC_comesTo) ∈ am_T := wd_in 449 (by decide +kernel) rfl
theorem seC_comesTo : Cond.selects (am_y jC_comesTo).cls (am_y jC_comesTo) (am_y jC_comesTo) ∈ am_T := wd_in 450 (by decide +kernel) rfl
set_option maxRecDepth 100000 in
theorem coC_stackKind : Cond.code (am_y jC_stackKind) (am_by jC_stackKind) (am_mx jC_stackKind) (am_ret jC_stackKind) ∈ am_T := wd_in 455 rfl rfl
theorem imC_stackKind : Cond.instanceMethod (am_y jC_stackKind) ∈ am_T := wd_in 453 (by decide +kernel) rfl
theorem seC_stackKind : Cond.selects (am_y jC_stackKind).cls (am_y jC_stackKind) (am_y jC_stackKind) ∈ am_T := wd_in 454 (by decide +kernel) rfl
set_option maxRecDepth 100000 in
theorem coC_localKind : Cond.code (am_y jC_localKind) (am_by jC_localKind) (am_mx jC_localKind) (am_ret jC_localKind) ∈ am_T := wd_in 459 rfl rfl
theorem imC_localKind : Cond.instanceMethod (am_y jC_localKind) ∈ am_T := wd_in 457 (by decide +kernel) rfl
theorem seC_localKind : Cond.selects (am_y jC_localKind).cls (am_y jC_localKind) (am_y jC_localKind) ∈ am_T := wd_in 458 (by decide +kernel) rfl
set_option maxRecDepth 100000 in
theorem coC_returnsAlone : Cond.code (am_y jC_returnsAlone) (am_by jC_returnsAlone) (am_mx jC_returnsAlone) (am_ret jC_returnsAlone) ∈ am_T := wd_in 684 rfl rfl
theorem imC_returnsAlone : Cond.instanceMethod (am_y jC_returnsAlone) ∈ am_T := wd_in 682 (by decide +kernel) rfl
theorem seC_returnsAlone : Cond.selects (am_y jC_returnsAlone).cls (am_y jC_returnsAlone) (am_y jC_returnsAlone) ∈ am_T := wd_in 683 (by decide +kernel) rfl
set_option maxRecDepth 100000 in
theorem coC_begin : Cond.code (am_y jC_begin) (am_by jC_begin) (am_mx jC_begin) (am_ret jC_begin) ∈ am_T := wd_in 386 rfl rfl
theorem imC_begin : Cond.instanceMethod (am_y jC_begin) ∈ am_T := wd_in 385 (by decide +kernel) rfl
theorem seC_begin : Cond.selects (am_y jC_begin).cls (am_y jC_begin) (am_y jC_begin) ∈ am_T := wd_ins (q := (am_y jC_begin, 10)) 1 (by decide +kernel)
set_option maxRecDepth 100000 in
theorem coC_goOnFrom : Cond.code (am_y jC_goOnFrom) (am_by jC_goOnFrom) (am_mx jC_goOnFrom) (am_ret jC_goOnFrom) ∈ am_T := wd_in 404 rfl rfl
theorem imC_goOnFrom : Cond.instanceMethod (am_y jC_goOnFrom) ∈ am_T := wd_in 403 (by decide +kernel) rfl
theorem seC_goOnFrom : Cond.selects (am_y jC_goOnFrom).cls (am_y jC_goOnFrom) (am_y jC_goOnFrom) ∈ am_T := wd_ins (q := (am_y jC_goOnFrom, 10)) 5 (by decide +kernel)
set_option maxRecDepth 100000 in
theorem coC_passArguments : Cond.code (am_y jC_passArguments) (am_by jC_passArguments) (am_mx jC_passArguments) (am_ret jC_passArguments) ∈ am_T := wd_in 412 rfl rfl
theorem imC_passArguments : Cond.instanceMethod (am_y jC_passArguments) ∈ am_T := wd_in 411 (by decide +kernel) rfl
theorem seC_passArguments : Cond.selects (am_y jC_passArguments).cls (am_y jC_passArguments) (am_y jC_passArguments) ∈ am_T := wd_ins (q := (am_y jC_passArguments, 10)) 6 (by decide +kernel)
set_option maxRecDepth 100000 in
theorem coC_takeAndGive : Cond.code (am_y jC_takeAndGive) (am_by jC_takeAndGive) (am_mx jC_takeAndGive) (am_ret jC_takeAndGive) ∈ am_T := wd_in 428 rfl rfl
theorem imC_takeAndGive : Cond.instanceMethod (am_y jC_takeAndGive) ∈ am_T := wd_in 427 (by decide +kernel) rfl
theorem seC_takeAndGive : Cond.selects (am_y jC_takeAndGive).cls (am_y jC_takeAndGive) (am_y jC_takeAndGive) ∈ am_T := wd_ins (q := (am_y jC_takeAndGive, 10)) 10 (by decide +kernel)
set_option maxRecDepth 100000 in
theorem coC_useLocal : Cond.code (am_y jC_useLocal) (am_by jC_useLocal) (am_mx jC_useLocal) (am_ret jC_useLocal) ∈ am_T := wd_in 432 rfl rfl
theorem imC_useLocal : Cond.instanceMethod (am_y jC_useLocal) ∈ am_T := wd_in 431 (by decide +kernel) rfl
theorem seC_useLocal : Cond.selects (am_y jC_useLocal).cls (am_y jC_useLocal) (am_y jC_useLocal) ∈ am_T := wd_ins (q := (am_y jC_useLocal, 10)) 11 (by decide +kernel)
set_option maxRecDepth 100000 in
theorem coC_useObject : Cond.code (am_y jC_useObject) (am_by jC_useObject) (am_mx jC_useObject) (am_ret jC_useObject) ∈ am_T := wd_in 436 rfl rfl
theorem imC_useObject : Cond.instanceMethod (am_y jC_useObject) ∈ am_T := wd_in 435 (by decide +kernel) rfl
theorem seC_useObject : Cond.selects (am_y jC_useObject).cls (am_y jC_useObject) (am_y jC_useObject) ∈ am_T := wd_ins (q := (am_y jC_useObject, 10)) 12 (by decide +kernel)
set_option maxRecDepth 100000 in
theorem coC_give : Cond.code (am_y jC_give) (am_by jC_give) (am_mx jC_give) (am_ret jC_give) ∈ am_T := wd_in 424 rfl rfl
theorem imC_give : Cond.instanceMethod (am_y jC_give) ∈ am_T := wd_in 423 (by decide +kernel) rfl
theorem seC_give : Cond.selects (am_y jC_give).cls (am_y jC_give) (am_y jC_give) ∈ am_T := wd_ins (q := (am_y jC_give, 10)) 9 (by decide +kernel)
set_option maxRecDepth 100000 in
theorem coC_takeAny : Cond.code (am_y jC_takeAny) (am_by jC_takeAny) (am_mx jC_takeAny) (am_ret jC_takeAny) ∈ am_T := wd_in 420 rfl rfl
theorem imC_takeAny : Cond.instanceMethod (am_y jC_takeAny) ∈ am_T := wd_in 419 (by decide +kernel) rfl
theorem seC_takeAny : Cond.selects (am_y jC_takeAny).cls (am_y jC_takeAny) (am_y jC_takeAny) ∈ am_T := wd_ins (q := (am_y jC_takeAny, 10)) 8 (by decide +kernel)
set_option maxRecDepth 100000 in
theorem coC_take : Cond.code (am_y jC_take) (am_by jC_take) (am_mx jC_take) (am_ret jC_take) ∈ am_T := wd_in 416 rfl rfl
theorem imC_take : Cond.instanceMethod (am_y jC_take) ∈ am_T := wd_in 415 (by decide +kernel) rfl
theorem seC_take : Cond.selects (am_y jC_take).cls (am_y jC_take) (am_y jC_take) ∈ am_T := wd_ins (q := (am_y jC_take, 10)) 7 (by decide +kernel)
set_option maxRecDepth 100000 in
theorem coC_leadOn : Cond.code (am_y jC_leadOn) (am_by jC_leadOn) (am_mx jC_leadOn) (am_ret jC_leadOn) ∈ am_T := wd_in 440 rfl rfl
theorem imC_leadOn : Cond.instanceMethod (am_y jC_leadOn) ∈ am_T := wd_in 439 (by decide +kernel) rfl
theorem seC_leadOn : Cond.selects (am_y jC_leadOn).cls (am_y jC_leadOn) (am_y jC_leadOn) ∈ am_T := wd_ins (q := (am_y jC_leadOn, 10)) 13 (by decide +kernel)
set_option maxRecDepth 100000 in
theorem coC_comeTo : Cond.code (am_y jC_comeTo) (am_by jC_comeTo) (am_mx jC_comeTo) (am_ret jC_comeTo) ∈ am_T := wd_in 390 rfl rfl
theorem imC_comeTo : Cond.instanceMethod (am_y jC_comeTo) ∈ am_T := wd_in 389 (by decide +kernel) rfl
theorem seC_comeTo : Cond.selects (am_y jC_comeTo).cls (am_y jC_comeTo) (am_y jC_comeTo) ∈ am_T := wd_ins (q := (am_y jC_comeTo, 10)) 2 (by decide +kernel)
set_option maxRecDepth 100000 in
theorem coC_meet : Cond.code (am_y jC_meet) (am_by jC_meet) (am_mx jC_meet) (am_ret jC_meet) ∈ am_T := wd_in 395 rfl rfl
theorem imC_meet : Cond.instanceMethod (am_y jC_meet) ∈ am_T := wd_in 394 (by decide +kernel) rfl
theorem seC_meet : Cond.selects (am_y jC_meet).cls (am_y jC_meet) (am_y jC_meet) ∈ am_T := wd_ins (q := (am_y jC_meet, 10)) 3 (by decide +kernel)
set_option maxRecDepth 100000 in
theorem coC_followBacksAgain : Cond.code (am_y jC_followBacksAgain) (am_by jC_followBacksAgain) (am_mx jC_followBacksAgain) (am_ret jC_followBacksAgain) ∈ am_T := wd_in 400 rfl rfl
theorem imC_followBacksAgain : Cond.instanceMethod (am_y jC_followBacksAgain) ∈ am_T := wd_in 399 (by decide +kernel) rfl
theorem seC_followBacksAgain : Cond.selects (am_y jC_followBacksAgain).cls (am_y jC_followBacksAgain) (am_y jC_followBacksAgain) ∈ am_T := wd_ins (q := (am_y jC_followBacksAgain, 10)) 4 (by decide +kernel)
set_option maxRecDepth 100000 in
theorem coA_init : Cond.code (am_y jA_init) (am_by jA_init) (am_mx jA_init) (am_ret jA_init) ∈ am_T := wd_in 159 rfl rfl
theorem imA_init : Cond.instanceMethod (am_y jA_init) ∈ am_T := wd_in 158 (by decide +kernel) rfl
set_option maxRecDepth 100000 in
theorem coA_begin : Cond.code (am_y jA_begin) (am_by jA_begin) (am_mx jA_begin) (am_ret jA_begin) ∈ am_T := wd_in 498 rfl rfl
theorem imA_begin : Cond.instanceMethod (am_y jA_begin) ∈ am_T := wd_in 496 (by decide +kernel) rfl
theorem seA_begin : Cond.selects (am_y jA_begin).cls (am_y jA_begin) (am_y jA_begin) ∈ am_T := wd_in 497 (by decide +kernel) rfl
set_option maxRecDepth 100000 in
theorem coA_goOnWith : Cond.code (am_y jA_goOnWith) (am_by jA_goOnWith) (am_mx jA_goOnWith) (am_ret jA_goOnWith) ∈ am_T := wd_in 587 rfl rfl
theorem imA_goOnWith : Cond.instanceMethod (am_y jA_goOnWith) ∈ am_T := wd_in 585 (by decide +kernel) rfl
theorem seA_goOnWith : Cond.selects (am_y jA_goOnWith).cls (am_y jA_goOnWith) (am_y jA_goOnWith) ∈ am_T := wd_in 586 (by decide +kernel) rfl
set_option maxRecDepth 100000 in
theorem coA_push : Cond.code (am_y jA_push) (am_by jA_push) (am_mx jA_push) (am_ret jA_push) ∈ am_T := wd_in 510 rfl rfl
theorem imA_push : Cond.instanceMethod (am_y jA_push) ∈ am_T := wd_in 508 (by decide +kernel) rfl
theorem seA_push : Cond.selects (am_y jA_push).cls (am_y jA_push) (am_y jA_push) ∈ am_T := wd_in 509 (by decide +kernel) rfl
set_option maxRecDepth 100000 in
theorem coA_pop : Cond.code (am_y jA_pop) (am_by jA_pop) (am_mx jA_pop) (am_ret jA_pop) ∈ am_T := wd_in 518 rfl rfl
theorem imA_pop : Cond.instanceMethod (am_y jA_pop) ∈ am_T := wd_in 516 (by decide +kernel) rfl
theorem seA_pop : Cond.selects (am_y jA_pop).cls (am_y jA_pop) (am_y jA_pop) ∈ am_T := wd_in 517 (by decide +kernel) rfl
set_option maxRecDepth 100000 in
theorem coL_init : Cond.code (am_y jL_init) (am_by jL_init) (am_mx jL_init) (am_ret jL_init) ∈ am_T := wd_in 241 rfl rfl
theorem imL_init : Cond.instanceMethod (am_y jL_init) ∈ am_T := wd_in 240 (by decide +kernel) rfl
set_option maxRecDepth 100000 in
theorem coL_clear : Cond.code (am_y jL_clear) (am_by jL_clear) (am_mx jL_clear) (am_ret jL_clear) ∈ am_T := wd_in 487 rfl rfl
theorem imL_clear : Cond.instanceMethod (am_y jL_clear) ∈ am_T := wd_in 485 (by decide +kernel) rfl
theorem seL_clear : Cond.selects (am_y jL_clear).cls (am_y jL_clear) (am_y jL_clear) ∈ am_T := wd_in 486 (by decide +kernel) rfl
set_option maxRecDepth 100000 in
theorem coL_note : Cond.code (am_y jL_note) (am_by jL_note) (am_mx jL_note) (am_ret jL_note) ∈ am_T := wd_in 502 rfl rfl
theorem imL_note : Cond.instanceMethod (am_y jL_note) ∈ am_T := wd_in 500 (by decide +kernel) rfl
theorem seL_note : Cond.selects (am_y jL_note).cls (am_y jL_note) (am_y jL_note) ∈ am_T := wd_in 501 (by decide +kernel) rfl
set_option maxRecDepth 100000 in
theorem coL_entriesKept : Cond.code (am_y jL_entriesKept) (am_by jL_entriesKept) (am_mx jL_entriesKept) (am_ret jL_entriesKept) ∈ am_T := wd_in 600 rfl rfl
theorem imL_entriesKept : Cond.instanceMethod (am_y jL_entriesKept) ∈ am_T := wd_in 598 (by decide +kernel) rfl
theorem seL_entriesKept : Cond.selects (am_y jL_entriesKept).cls (am_y jL_entriesKept) (am_y jL_entriesKept) ∈ am_T := wd_in 599 (by decide +kernel) rfl
set_option maxRecDepth 100000 in
theorem coL_sameEntries : Cond.code (am_y jL_sameEntries) (am_by jL_sameEntries) (am_mx jL_sameEntries) (am_ret jL_sameEntries) ∈ am_T := wd_in 611 rfl rfl
theorem imL_sameEntries : Cond.instanceMethod (am_y jL_sameEntries) ∈ am_T := wd_in 609 (by decide +kernel) rfl
theorem seL_sameEntries : Cond.selects (am_y jL_sameEntries).cls (am_y jL_sameEntries) (am_y jL_sameEntries) ∈ am_T := wd_in 610 (by decide +kernel) rfl
set_option maxRecDepth 100000 in
theorem coM_init : Cond.code (am_y jM_init) (am_by jM_init) (am_mx jM_init) (am_ret jM_init) ∈ am_T := wd_in 152 rfl rfl
theorem imM_init : Cond.instanceMethod (am_y jM_init) ∈ am_T := wd_in 151 (by decide +kernel) rfl
set_option maxRecDepth 100000 in
theorem coM_play : Cond.code (am_y jM_play) (am_by jM_play) (am_mx jM_play) (am_ret jM_play) ∈ am_T := wd_in 483 rfl rfl
theorem imM_play : Cond.instanceMethod (am_y jM_play) ∈ am_T := wd_in 481 (by decide +kernel) rfl
theorem seM_play : Cond.selects (am_y jM_play).cls (am_y jM_play) (am_y jM_play) ∈ am_T := wd_in 482 (by decide +kernel) rfl
set_option maxRecDepth 100000 in
theorem coM_openFrame : Cond.code (am_y jM_openFrame) (am_by jM_openFrame) (am_mx jM_openFrame) (am_ret jM_openFrame) ∈ am_T := wd_in 491 rfl rfl
theorem imM_openFrame : Cond.instanceMethod (am_y jM_openFrame) ∈ am_T := wd_in 490 (by decide +kernel) rfl
theorem seM_openFrame : Cond.selects (am_y jM_openFrame).cls (am_y jM_openFrame) (am_y jM_openFrame) ∈ am_T := wd_ins (q := (am_y jM_openFrame, 9)) 15 (by decide +kernel)
set_option maxRecDepth 100000 in
theorem coM_step : Cond.code (am_y jM_step) (am_by jM_step) (am_mx jM_step) (am_ret jM_step) ∈ am_T := wd_in 506 rfl rfl
theorem imM_step : Cond.instanceMethod (am_y jM_step) ∈ am_T := wd_in 505 (by decide +kernel) rfl
theorem seM_step : Cond.selects (am_y jM_step).cls (am_y jM_step) (am_y jM_step) ∈ am_T := wd_ins (q := (am_y jM_step, 9)) 16 (by decide +kernel)
set_option maxRecDepth 100000 in
theorem coM_useLocal : Cond.code (am_y jM_useLocal) (am_by jM_useLocal) (am_mx jM_useLocal) (am_ret jM_useLocal) ∈ am_T := wd_in 514 rfl rfl
theorem imM_useLocal : Cond.instanceMethod (am_y jM_useLocal) ∈ am_T := wd_in 513 (by decide +kernel) rfl
theorem seM_useLocal : Cond.selects (am_y jM_useLocal).cls (am_y jM_useLocal) (am_y jM_useLocal) ∈ am_T := wd_ins (q := (am_y jM_useLocal, 9)) 17 (by decide +kernel)
set_option maxRecDepth 100000 in
theorem coM_shuffle : Cond.code (am_y jM_shuffle) (am_by jM_shuffle) (am_mx jM_shuffle) (am_ret jM_shuffle) ∈ am_T := wd_in 558 rfl rfl
theorem imM_shuffle : Cond.instanceMethod (am_y jM_shuffle) ∈ am_T := wd_in 557 (by decide +kernel) rfl
theorem seM_shuffle : Cond.selects (am_y jM_shuffle).cls (am_y jM_shuffle) (am_y jM_shuffle) ∈ am_T := wd_ins (q := (am_y jM_shuffle, 9)) 26 (by decide +kernel)
set_option maxRecDepth 100000 in
theorem coM_reckon : Cond.code (am_y jM_reckon) (am_by jM_reckon) (am_mx jM_reckon) (am_ret jM_reckon) ∈ am_T := wd_in 554 rfl rfl
theorem imM_reckon : Cond.instanceMethod (am_y jM_reckon) ∈ am_T := wd_in 553 (by decide +kernel) rfl
theorem seM_reckon : Cond.selects (am_y jM_reckon).cls (am_y jM_reckon) (am_y jM_reckon) ∈ am_T := wd_ins (q := (am_y jM_reckon, 9)) 25 (by decide +kernel)
set_option maxRecDepth 100000 in
theorem coM_turn : Cond.code (am_y jM_turn) (am_by jM_turn) (am_mx jM_turn) (am_ret jM_turn) ∈ am_T := wd_in 526 rfl rfl
theorem imM_turn : Cond.instanceMethod (am_y jM_turn) ∈ am_T := wd_in 525 (by decide +kernel) rfl
theorem seM_turn : Cond.selects (am_y jM_turn).cls (am_y jM_turn) (am_y jM_turn) ∈ am_T := wd_ins (q := (am_y jM_turn, 9)) 19 (by decide +kernel)
set_option maxRecDepth 100000 in
theorem coM_holds : Cond.code (am_y jM_holds) (am_by jM_holds) (am_mx jM_holds) (am_ret jM_holds) ∈ am_T := wd_in 529 rfl rfl
theorem stM_holds : Cond.static (am_y jM_holds) ∈ am_T := wd_in 528 (by decide +kernel) rfl
set_option maxRecDepth 100000 in
theorem coM_useObject : Cond.code (am_y jM_useObject) (am_by jM_useObject) (am_mx jM_useObject) (am_ret jM_useObject) ∈ am_T := wd_in 562 rfl rfl
theorem imM_useObject : Cond.instanceMethod (am_y jM_useObject) ∈ am_T := wd_in 561 (by decide +kernel) rfl
theorem seM_useObject : Cond.selects (am_y jM_useObject).cls (am_y jM_useObject) (am_y jM_useObject) ∈ am_T := wd_ins (q := (am_y jM_useObject, 9)) 27 (by decide +kernel)
set_option maxRecDepth 100000 in
theorem coM_enterLock : Cond.code (am_y jM_enterLock) (am_by jM_enterLock) (am_mx jM_enterLock) (am_ret jM_enterLock) ∈ am_T := wd_in 566 rfl rfl
theorem imM_enterLock : Cond.instanceMethod (am_y jM_enterLock) ∈ am_T := wd_in 565 (by decide +kernel) rfl
theorem seM_enterLock : Cond.selects (am_y jM_enterLock).cls (am_y jM_enterLock) (am_y jM_enterLock) ∈ am_T := wd_ins (q := (am_y jM_enterLock, 9)) 28 (by decide +kernel)
set_option maxRecDepth 100000 in
theorem coM_leaveLock : Cond.code (am_y jM_leaveLock) (am_by jM_leaveLock) (am_mx jM_leaveLock) (am_ret jM_leaveLock) ∈ am_T := wd_in 570 rfl rfl
theorem imM_leaveLock : Cond.instanceMethod (am_y jM_leaveLock) ∈ am_T := wd_in 569 (by decide +kernel) rfl
theorem seM_leaveLock : Cond.selects (am_y jM_leaveLock).cls (am_y jM_leaveLock) (am_y jM_leaveLock) ∈ am_T := wd_ins (q := (am_y jM_leaveLock, 9)) 29 (by decide +kernel)
set_option maxRecDepth 100000 in
theorem coM_make : Cond.code (am_y jM_make) (am_by jM_make) (am_mx jM_make) (am_ret jM_make) ∈ am_T := wd_in 522 rfl rfl
theorem imM_make : Cond.instanceMethod (am_y jM_make) ∈ am_T := wd_in 521 (by decide +kernel) rfl
theorem seM_make : Cond.selects (am_y jM_make).cls (am_y jM_make) (am_y jM_make) ∈ am_T := wd_ins (q := (am_y jM_make, 9)) 18 (by decide +kernel)
set_option maxRecDepth 100000 in
theorem coM_throwNew : Cond.code (am_y jM_throwNew) (am_by jM_throwNew) (am_mx jM_throwNew) (am_ret jM_throwNew) ∈ am_T := wd_in 537 rfl rfl
theorem imM_throwNew : Cond.instanceMethod (am_y jM_throwNew) ∈ am_T := wd_in 536 (by decide +kernel) rfl
theorem seM_throwNew : Cond.selects (am_y jM_throwNew).cls (am_y jM_throwNew) (am_y jM_throwNew) ∈ am_T := wd_ins (q := (am_y jM_throwNew, 9)) 21 (by decide +kernel)
set_option maxRecDepth 100000 in
theorem coM_throwObject : Cond.code (am_y jM_throwObject) (am_by jM_throwObject) (am_mx jM_throwObject) (am_ret jM_throwObject) ∈ am_T := wd_in 541 rfl rfl
theorem imM_throwObject : Cond.instanceMethod (am_y jM_throwObject) ∈ am_T := wd_in 540 (by decide +kernel) rfl
theorem seM_throwObject : Cond.selects (am_y jM_throwObject).cls (am_y jM_throwObject) (am_y jM_throwObject) ∈ am_T := wd_ins (q := (am_y jM_throwObject, 9)) 22 (by decide +kernel)
set_option maxRecDepth 100000 in
theorem coM_beginCall : Cond.code (am_y jM_beginCall) (am_by jM_beginCall) (am_mx jM_beginCall) (am_ret jM_beginCall) ∈ am_T := wd_in 533 rfl rfl
theorem imM_beginCall : Cond.instanceMethod (am_y jM_beginCall) ∈ am_T := wd_in 532 (by decide +kernel) rfl
theorem seM_beginCall : Cond.selects (am_y jM_beginCall).cls (am_y jM_beginCall) (am_y jM_beginCall) ∈ am_T := wd_ins (q := (am_y jM_beginCall, 9)) 20 (by decide +kernel)
set_option maxRecDepth 100000 in
theorem coM_giveBack : Cond.code (am_y jM_giveBack) (am_by jM_giveBack) (am_mx jM_giveBack) (am_ret jM_giveBack) ∈ am_T := wd_in 549 rfl rfl
theorem imM_giveBack : Cond.instanceMethod (am_y jM_giveBack) ∈ am_T := wd_in 548 (by decide +kernel) rfl
theorem seM_giveBack : Cond.selects (am_y jM_giveBack).cls (am_y jM_giveBack) (am_y jM_giveBack) ∈ am_T := wd_ins (q := (am_y jM_giveBack, 9)) 24 (by decide +kernel)
set_option maxRecDepth 100000 in
theorem coM_closeFrame : Cond.code (am_y jM_closeFrame) (am_by jM_closeFrame) (am_mx jM_closeFrame) (am_ret jM_closeFrame) ∈ am_T := wd_in 545 rfl rfl
theorem imM_closeFrame : Cond.instanceMethod (am_y jM_closeFrame) ∈ am_T := wd_in 544 (by decide +kernel) rfl
theorem seM_closeFrame : Cond.selects (am_y jM_closeFrame).cls (am_y jM_closeFrame) (am_y jM_closeFrame) ∈ am_T := wd_ins (q := (am_y jM_closeFrame, 9)) 23 (by decide +kernel)
set_option maxRecDepth 100000 in
theorem coM_findRow : Cond.code (am_y jM_findRow) (am_by jM_findRow) (am_mx jM_findRow) (am_ret jM_findRow) ∈ am_T := wd_in 575 rfl rfl
theorem imM_findRow : Cond.instanceMethod (am_y jM_findRow) ∈ am_T := wd_in 574 (by decide +kernel) rfl
theorem seM_findRow : Cond.selects (am_y jM_findRow).cls (am_y jM_findRow) (am_y jM_findRow) ∈ am_T := wd_ins (q := (am_y jM_findRow, 9)) 30 (by decide +kernel)
set_option maxRecDepth 100000 in
theorem coE_init : Cond.code (am_y jE_init) (am_by jE_init) (am_mx jE_init) (am_ret jE_init) ∈ am_T := wd_in 32 rfl rfl
theorem imE_init : Cond.instanceMethod (am_y jE_init) ∈ am_T := wd_in 31 (by decide +kernel) rfl
set_option maxRecDepth 100000 in
theorem coE_begin : Cond.code (am_y jE_begin) (am_by jE_begin) (am_mx jE_begin) (am_ret jE_begin) ∈ am_T := wd_in 326 rfl rfl
theorem imE_begin : Cond.instanceMethod (am_y jE_begin) ∈ am_T := wd_in 324 (by decide +kernel) rfl
theorem seE_begin : Cond.selects (am_y jE_begin).cls (am_y jE_begin) (am_y jE_begin) ∈ am_T := wd_in 325 (by decide +kernel) rfl
set_option maxRecDepth 100000 in
theorem coE_become : Cond.code (am_y jE_become) (am_by jE_become) (am_mx jE_become) (am_ret jE_become) ∈ am_T := wd_in 322 rfl rfl
theorem imE_become : Cond.instanceMethod (am_y jE_become) ∈ am_T := wd_in 320 (by decide +kernel) rfl
theorem seE_become : Cond.selects (am_y jE_become).cls (am_y jE_become) (am_y jE_become) ∈ am_T := wd_in 321 (by decide +kernel) rfl
set_option maxRecDepth 100000 in
theorem coE_put : Cond.code (am_y jE_put) (am_by jE_put) (am_mx jE_put) (am_ret jE_put) ∈ am_T := wd_in 360 rfl rfl
theorem imE_put : Cond.instanceMethod (am_y jE_put) ∈ am_T := wd_in 358 (by decide +kernel) rfl
theorem seE_put : Cond.selects (am_y jE_put).cls (am_y jE_put) (am_y jE_put) ∈ am_T := wd_in 359 (by decide +kernel) rfl
set_option maxRecDepth 100000 in
theorem coE_addRow : Cond.code (am_y jE_addRow) (am_by jE_addRow) (am_mx jE_addRow) (am_ret jE_addRow) ∈ am_T := wd_in 374 rfl rfl
theorem imE_addRow : Cond.instanceMethod (am_y jE_addRow) ∈ am_T := wd_in 372 (by decide +kernel) rfl
theorem seE_addRow : Cond.selects (am_y jE_addRow).cls (am_y jE_addRow) (am_y jE_addRow) ∈ am_T := wd_in 373 (by decide +kernel) rfl
set_option maxRecDepth 100000 in
theorem coE_hasAt : Cond.code (am_y jE_hasAt) (am_by jE_hasAt) (am_mx jE_hasAt) (am_ret jE_hasAt) ∈ am_T := wd_in 624 rfl rfl
theorem imE_hasAt : Cond.instanceMethod (am_y jE_hasAt) ∈ am_T := wd_in 622 (by decide +kernel) rfl
theorem seE_hasAt : Cond.selects (am_y jE_hasAt).cls (am_y jE_hasAt) (am_y jE_hasAt) ∈ am_T := wd_in 623 (by decide +kernel) rfl
set_option maxRecDepth 100000 in
theorem coE_rowCovers : Cond.code (am_y jE_rowCovers) (am_by jE_rowCovers) (am_mx jE_rowCovers) (am_ret jE_rowCovers) ∈ am_T := wd_in 408 rfl rfl
theorem imE_rowCovers : Cond.instanceMethod (am_y jE_rowCovers) ∈ am_T := wd_in 406 (by decide +kernel) rfl
theorem seE_rowCovers : Cond.selects (am_y jE_rowCovers).cls (am_y jE_rowCovers) (am_y jE_rowCovers) ∈ am_T := wd_in 407 (by decide +kernel) rfl
set_option maxRecDepth 100000 in
theorem coE_rowFor : Cond.code (am_y jE_rowFor) (am_by jE_rowFor) (am_mx jE_rowFor) (am_ret jE_rowFor) ∈ am_T := wd_in 579 rfl rfl
theorem imE_rowFor : Cond.instanceMethod (am_y jE_rowFor) ∈ am_T := wd_in 577 (by decide +kernel) rfl
theorem seE_rowFor : Cond.selects (am_y jE_rowFor).cls (am_y jE_rowFor) (am_y jE_rowFor) ∈ am_T := wd_in 578 (by decide +kernel) rfl
set_option maxRecDepth 100000 in
theorem coE_rowPart : Cond.code (am_y jE_rowPart) (am_by jE_rowPart) (am_mx jE_rowPart) (am_ret jE_rowPart) ∈ am_T := wd_in 710 rfl rfl
theorem imE_rowPart : Cond.instanceMethod (am_y jE_rowPart) ∈ am_T := wd_in 708 (by decide +kernel) rfl
theorem seE_rowPart : Cond.selects (am_y jE_rowPart).cls (am_y jE_rowPart) (am_y jE_rowPart) ∈ am_T := wd_in 709 (by decide +kernel) rfl
set_option maxRecDepth 100000 in
theorem coE_fact : Cond.code (am_y jE_fact) (am_by jE_fact) (am_mx jE_fact) (am_ret jE_fact) ∈ am_T := wd_in 706 rfl rfl
theorem imE_fact : Cond.instanceMethod (am_y jE_fact) ∈ am_T := wd_in 704 (by decide +kernel) rfl
theorem seE_fact : Cond.selects (am_y jE_fact).cls (am_y jE_fact) (am_y jE_fact) ∈ am_T := wd_in 705 (by decide +kernel) rfl
set_option maxRecDepth 100000 in
theorem coE_calls : Cond.code (am_y jE_calls) (am_by jE_calls) (am_mx jE_calls) (am_ret jE_calls) ∈ am_T := wd_in 478 rfl rfl
theorem imE_calls : Cond.instanceMethod (am_y jE_calls) ∈ am_T := wd_in 476 (by decide +kernel) rfl
theorem seE_calls : Cond.selects (am_y jE_calls).cls (am_y jE_calls) (am_y jE_calls) ∈ am_T := wd_in 477 (by decide +kernel) rfl
set_option maxRecDepth 100000 in
theorem coE_greatestLocal : Cond.code (am_y jE_greatestLocal) (am_by jE_greatestLocal) (am_mx jE_greatestLocal) (am_ret jE_greatestLocal) ∈ am_T := wd_in 679 rfl rfl
theorem imE_greatestLocal : Cond.instanceMethod (am_y jE_greatestLocal) ∈ am_T := wd_in 677 (by decide +kernel) rfl
theorem seE_greatestLocal : Cond.selects (am_y jE_greatestLocal).cls (am_y jE_greatestLocal) (am_y jE_greatestLocal) ∈ am_T := wd_in 678 (by decide +kernel) rfl
set_option maxRecDepth 100000 in
theorem coE_hasLocksOrSubroutines : Cond.code (am_y jE_hasLocksOrSubroutines) (am_by jE_hasLocksOrSubroutines) (am_mx jE_hasLocksOrSubroutines) (am_ret jE_hasLocksOrSubroutines) ∈ am_T := wd_in 675 rfl rfl
theorem imE_hasLocksOrSubroutines : Cond.instanceMethod (am_y jE_hasLocksOrSubroutines) ∈ am_T := wd_in 673 (by decide +kernel) rfl
theorem seE_hasLocksOrSubroutines : Cond.selects (am_y jE_hasLocksOrSubroutines).cls (am_y jE_hasLocksOrSubroutines) (am_y jE_hasLocksOrSubroutines) ∈ am_T := wd_in 674 (by decide +kernel) rfl
set_option maxRecDepth 100000 in
theorem coE_plainEnd : Cond.code (am_y jE_plainEnd) (am_by jE_plainEnd) (am_mx jE_plainEnd) (am_ret jE_plainEnd) ∈ am_T := wd_in 629 rfl rfl
theorem imE_plainEnd : Cond.instanceMethod (am_y jE_plainEnd) ∈ am_T := wd_in 627 (by decide +kernel) rfl
theorem seE_plainEnd : Cond.selects (am_y jE_plainEnd).cls (am_y jE_plainEnd) (am_y jE_plainEnd) ∈ am_T := wd_in 628 (by decide +kernel) rfl
set_option maxRecDepth 100000 in
theorem coE_keepsPlain : Cond.code (am_y jE_keepsPlain) (am_by jE_keepsPlain) (am_mx jE_keepsPlain) (am_ret jE_keepsPlain) ∈ am_T := wd_in 634 rfl rfl
theorem imE_keepsPlain : Cond.instanceMethod (am_y jE_keepsPlain) ∈ am_T := wd_in 633 (by decide +kernel) rfl
theorem seE_keepsPlain : Cond.selects (am_y jE_keepsPlain).cls (am_y jE_keepsPlain) (am_y jE_keepsPlain) ∈ am_T := wd_ins (q := (am_y jE_keepsPlain, 11)) 31 (by decide +kernel)
set_option maxRecDepth 100000 in
theorem coE_leadsInto : Cond.code (am_y jE_leadsInto) (am_by jE_leadsInto) (am_mx jE_leadsInto) (am_ret jE_leadsInto) ∈ am_T := wd_in 639 rfl rfl
theorem imE_leadsInto : Cond.instanceMethod (am_y jE_leadsInto) ∈ am_T := wd_in 638 (by decide +kernel) rfl
theorem seE_leadsInto : Cond.selects (am_y jE_leadsInto).cls (am_y jE_leadsInto) (am_y jE_leadsInto) ∈ am_T := wd_ins (q := (am_y jE_leadsInto, 11)) 32 (by decide +kernel)
set_option maxRecDepth 100000 in
theorem coP_init : Cond.code (am_y jP_init) (am_by jP_init) (am_mx jP_init) (am_ret jP_init) ∈ am_T := wd_in 25 rfl rfl
theorem imP_init : Cond.instanceMethod (am_y jP_init) ∈ am_T := wd_in 24 (by decide +kernel) rfl
set_option maxRecDepth 100000 in
theorem coP_become : Cond.code (am_y jP_become) (am_by jP_become) (am_mx jP_become) (am_ret jP_become) ∈ am_T := wd_in 318 rfl rfl
theorem imP_become : Cond.instanceMethod (am_y jP_become) ∈ am_T := wd_in 316 (by decide +kernel) rfl
theorem seP_become : Cond.selects (am_y jP_become).cls (am_y jP_become) (am_y jP_become) ∈ am_T := wd_in 317 (by decide +kernel) rfl
set_option maxRecDepth 100000 in
theorem coP_instructions : Cond.code (am_y jP_instructions) (am_by jP_instructions) (am_mx jP_instructions) (am_ret jP_instructions) ∈ am_T := wd_in 333 rfl rfl
theorem imP_instructions : Cond.instanceMethod (am_y jP_instructions) ∈ am_T := wd_in 331 (by decide +kernel) rfl
theorem seP_instructions : Cond.selects (am_y jP_instructions).cls (am_y jP_instructions) (am_y jP_instructions) ∈ am_T := wd_in 332 (by decide +kernel) rfl
set_option maxRecDepth 100000 in
theorem coP_calledFrom : Cond.code (am_y jP_calledFrom) (am_by jP_calledFrom) (am_mx jP_calledFrom) (am_ret jP_calledFrom) ∈ am_T := wd_in 471 rfl rfl
theorem imP_calledFrom : Cond.instanceMethod (am_y jP_calledFrom) ∈ am_T := wd_in 469 (by decide +kernel) rfl
theorem seP_calledFrom : Cond.selects (am_y jP_calledFrom).cls (am_y jP_calledFrom) (am_y jP_calledFrom) ∈ am_T := wd_in 470 (by decide +kernel) rfl
set_option maxRecDepth 100000 in
theorem coW_init : Cond.code (am_y jW_init) (am_by jW_init) (am_mx jW_init) (am_ret jW_init) ∈ am_T := wd_in 220 rfl rfl
theorem imW_init : Cond.instanceMethod (am_y jW_init) ∈ am_T := wd_in 219 (by decide +kernel) rfl
set_option maxRecDepth 100000 in
theorem coW_writeOutSubroutine : Cond.code (am_y jW_writeOutSubroutine) (am_by jW_writeOutSubroutine) (am_mx jW_writeOutSubroutine) (am_ret jW_writeOutSubroutine) ∈ am_T := wd_in 620 rfl rfl
theorem imW_writeOutSubroutine : Cond.instanceMethod (am_y jW_writeOutSubroutine) ∈ am_T := wd_in 618 (by decide +kernel) rfl
theorem seW_writeOutSubroutine : Cond.selects (am_y jW_writeOutSubroutine).cls (am_y jW_writeOutSubroutine) (am_y jW_writeOutSubroutine) ∈ am_T := wd_in 619 (by decide +kernel) rfl
set_option maxRecDepth 100000 in
theorem coW_writeOutCall : Cond.code (am_y jW_writeOutCall) (am_by jW_writeOutCall) (am_mx jW_writeOutCall) (am_ret jW_writeOutCall) ∈ am_T := wd_in 689 rfl rfl
theorem imW_writeOutCall : Cond.instanceMethod (am_y jW_writeOutCall) ∈ am_T := wd_in 687 (by decide +kernel) rfl
theorem seW_writeOutCall : Cond.selects (am_y jW_writeOutCall).cls (am_y jW_writeOutCall) (am_y jW_writeOutCall) ∈ am_T := wd_in 688 (by decide +kernel) rfl
set_option maxRecDepth 100000 in
theorem coW_putCalled : Cond.code (am_y jW_putCalled) (am_by jW_putCalled) (am_mx jW_putCalled) (am_ret jW_putCalled) ∈ am_T := wd_in 694 rfl rfl
theorem imW_putCalled : Cond.instanceMethod (am_y jW_putCalled) ∈ am_T := wd_in 693 (by decide +kernel) rfl
theorem seW_putCalled : Cond.selects (am_y jW_putCalled).cls (am_y jW_putCalled) (am_y jW_putCalled) ∈ am_T := wd_ins (q := (am_y jW_putCalled, 4)) 38 (by decide +kernel)
set_option maxRecDepth 100000 in
theorem coW_spread : Cond.code (am_y jW_spread) (am_by jW_spread) (am_mx jW_spread) (am_ret jW_spread) ∈ am_T := wd_in 643 rfl rfl
theorem imW_spread : Cond.instanceMethod (am_y jW_spread) ∈ am_T := wd_in 642 (by decide +kernel) rfl
theorem seW_spread : Cond.selects (am_y jW_spread).cls (am_y jW_spread) (am_y jW_spread) ∈ am_T := wd_ins (q := (am_y jW_spread, 4)) 33 (by decide +kernel)
set_option maxRecDepth 100000 in
theorem coW_moved : Cond.code (am_y jW_moved) (am_by jW_moved) (am_mx jW_moved) (am_ret jW_moved) ∈ am_T := wd_in 649 rfl rfl
theorem imW_moved : Cond.instanceMethod (am_y jW_moved) ∈ am_T := wd_in 648 (by decide +kernel) rfl
theorem seW_moved : Cond.selects (am_y jW_moved).cls (am_y jW_moved) (am_y jW_moved) ∈ am_T := wd_ins (q := (am_y jW_moved, 4)) 34 (by decide +kernel)
set_option maxRecDepth 100000 in
theorem coW_splitRow : Cond.code (am_y jW_splitRow) (am_by jW_splitRow) (am_mx jW_splitRow) (am_ret jW_splitRow) ∈ am_T := wd_in 654 rfl rfl
theorem imW_splitRow : Cond.instanceMethod (am_y jW_splitRow) ∈ am_T := wd_in 653 (by decide +kernel) rfl
theorem seW_splitRow : Cond.selects (am_y jW_splitRow).cls (am_y jW_splitRow) (am_y jW_splitRow) ∈ am_T := wd_ins (q := (am_y jW_splitRow, 4)) 35 (by decide +kernel)
set_option maxRecDepth 100000 in
theorem coW_draftRow : Cond.code (am_y jW_draftRow) (am_by jW_draftRow) (am_mx jW_draftRow) (am_ret jW_draftRow) ∈ am_T := wd_in 659 rfl rfl
theorem imW_draftRow : Cond.instanceMethod (am_y jW_draftRow) ∈ am_T := wd_in 658 (by decide +kernel) rfl
theorem seW_draftRow : Cond.selects (am_y jW_draftRow).cls (am_y jW_draftRow) (am_y jW_draftRow) ∈ am_T := wd_ins (q := (am_y jW_draftRow, 4)) 36 (by decide +kernel)
set_option maxRecDepth 100000 in
theorem coW_takeOver : Cond.code (am_y jW_takeOver) (am_by jW_takeOver) (am_mx jW_takeOver) (am_ret jW_takeOver) ∈ am_T := wd_in 665 rfl rfl
theorem imW_takeOver : Cond.instanceMethod (am_y jW_takeOver) ∈ am_T := wd_in 664 (by decide +kernel) rfl
theorem seW_takeOver : Cond.selects (am_y jW_takeOver).cls (am_y jW_takeOver) (am_y jW_takeOver) ∈ am_T := wd_ins (q := (am_y jW_takeOver, 4)) 37 (by decide +kernel)
theorem inF : Cond.initialized "FrameForge" ∈ am_T := wd_in 1 (by decide +kernel) rfl
theorem inE : Cond.initialized "FrameForge$Method" ∈ am_T := wd_in 3 (by decide +kernel) rfl
theorem inP : Cond.initialized "FrameForge$Program" ∈ am_T := wd_in 2 (by decide +kernel) rfl
theorem inC : Cond.initialized "FrameForge$Checker" ∈ am_T := wd_in 4 (by decide +kernel) rfl
theorem inL : Cond.initialized "FrameForge$Ledger" ∈ am_T := wd_in 8 (by decide +kernel) rfl
theorem inA : Cond.initialized "FrameForge$Frame" ∈ am_T := wd_in 6 (by decide +kernel) rfl
theorem inM : Cond.initialized "FrameForge$Machine" ∈ am_T := wd_in 5 (by decide +kernel) rfl
theorem inW : Cond.initialized "FrameForge$Rewriter" ∈ am_T := wd_in 7 (by decide +kernel) rfl
theorem inR : Cond.initialized "FrameForgeModel" ∈ am_T := wd_in 9 (by decide +kernel) rfl
theorem lkF_1 : Cond.methodLink "FrameForge" 1 objectInit ∈ am_T := wd_in 17 (by decide +kernel) rfl
theorem csF_15 : am_Cs "FrameForge" 15 jP_init 0 := ⟨coP_init, inP, by decide +kernel, by decide, Or.inl (wd_in 23 (by decide +kernel) rfl)⟩
theorem csF_18 : am_Cs "FrameForge" 18 jC_init 0 := ⟨coC_init, inC, by decide +kernel, by decide, Or.inr ⟨"FrameForge", by decide +kernel⟩⟩
theorem csF_25 : am_Cs "FrameForge" 25 jM_init 0 := ⟨coM_init, inM, by decide +kernel, by decide, Or.inl (wd_in 150 (by decide +kernel) rfl)⟩
theorem csF_32 : am_Cs "FrameForge" 32 jW_init 0 := ⟨coW_init, inW, by decide +kernel, by decide, Or.inr ⟨"FrameForge", by decide +kernel⟩⟩
theorem csF_39 : am_Cs "FrameForge" 39 jL_init 0 := ⟨coL_init, inL, by decide +kernel, by decide, Or.inr ⟨"FrameForge", by decide +kernel⟩⟩
theorem csF_51 : am_Cs "FrameForge" 51 jF_isBelow 2 := ⟨coF_isBelow, inF, by decide +kernel, by decide, Or.inl (wd_in 308 (by decide +kernel) rfl)⟩
theorem csF_55 : am_Cs "FrameForge" 55 jP_become 1 := ⟨coP_become, inP, by decide +kernel, by decide, Or.inl (wd_in 315 (by decide +kernel) rfl)⟩
theorem csF_59 : am_Cs "FrameForge" 59 jP_instructions 0 := ⟨coP_instructions, inP, by decide +kernel, by decide, Or.inl (wd_in 330 (by decide +kernel) rfl)⟩
theorem csF_63 : am_Cs "FrameForge" 63 jF_writtenMethod 1 := ⟨coF_writtenMethod, inF, by decide +kernel, by decide, Or.inl (wd_in 338 (by decide +kernel) rfl)⟩
theorem csF_67 : am_Cs "FrameForge" 67 jE_begin 2 := ⟨coE_begin, inE, by decide +kernel, by decide, Or.inl (wd_in 342 (by decide +kernel) rfl)⟩
theorem csF_73 : am_Cs "FrameForge" 73 jF_isInstruction 3 := ⟨coF_isInstruction, inF, by decide +kernel, by decide, Or.inl (wd_in 347 (by decide +kernel) rfl)⟩
theorem csF_80 : am_Cs "FrameForge" 80 jE_put 4 := ⟨coE_put, inE, by decide +kernel, by decide, Or.inl (wd_in 357 (by decide +kernel) rfl)⟩
theorem csF_84 : am_Cs "FrameForge" 84 jE_addRow 4 := ⟨coE_addRow, inE, by decide +kernel, by decide, Or.inl (wd_in 371 (by decide +kernel) rfl)⟩
theorem csF_91 : am_Cs "FrameForge" 91 jC_follow 2 := ⟨coC_follow, inC, by decide +kernel, by decide, Or.inl (wd_in 379 (by decide +kernel) rfl)⟩
theorem csF_98 : am_Cs "FrameForge" 98 jC_comesTo 1 := ⟨coC_comesTo, inC, by decide +kernel, by decide, Or.inl (wd_in 448 (by decide +kernel) rfl)⟩
theorem csF_106 : am_Cs "FrameForge" 106 jC_stackKind 2 := ⟨coC_stackKind, inC, by decide +kernel, by decide, Or.inl (wd_in 452 (by decide +kernel) rfl)⟩
theorem csF_110 : am_Cs "FrameForge" 110 jC_localKind 2 := ⟨coC_localKind, inC, by decide +kernel, by decide, Or.inl (wd_in 456 (by decide +kernel) rfl)⟩
theorem csF_113 : am_Cs "FrameForge" 113 jF_allSound 2 := ⟨coF_allSound, inF, by decide +kernel, by decide, Or.inl (wd_in 464 (by decide +kernel) rfl)⟩
theorem csF_116 : am_Cs "FrameForge" 116 jM_play 7 := ⟨coM_play, inM, by decide +kernel, by decide, Or.inl (wd_in 480 (by decide +kernel) rfl)⟩
theorem csF_141 : am_Cs "FrameForge" 141 jL_entriesKept 0 := ⟨coL_entriesKept, inL, by decide +kernel, by decide, Or.inl (wd_in 597 (by decide +kernel) rfl)⟩
theorem csF_147 : am_Cs "FrameForge" 147 jL_sameEntries 1 := ⟨coL_sameEntries, inL, by decide +kernel, by decide, Or.inl (wd_in 608 (by decide +kernel) rfl)⟩
theorem csF_151 : am_Cs "FrameForge" 151 jW_writeOutSubroutine 2 := ⟨coW_writeOutSubroutine, inW, by decide +kernel, by decide, Or.inl (wd_in 617 (by decide +kernel) rfl)⟩
theorem csF_155 : am_Cs "FrameForge" 155 jE_hasAt 2 := ⟨coE_hasAt, inE, by decide +kernel, by decide, Or.inl (wd_in 671 (by decide +kernel) rfl)⟩
theorem csF_168 : am_Cs "FrameForge" 168 jE_hasLocksOrSubroutines 0 := ⟨coE_hasLocksOrSubroutines, inE, by decide +kernel, by decide, Or.inl (wd_in 672 (by decide +kernel) rfl)⟩
theorem csF_172 : am_Cs "FrameForge" 172 jE_greatestLocal 0 := ⟨coE_greatestLocal, inE, by decide +kernel, by decide, Or.inl (wd_in 676 (by decide +kernel) rfl)⟩
theorem csF_175 : am_Cs "FrameForge" 175 jC_returnsAlone 1 := ⟨coC_returnsAlone, inC, by decide +kernel, by decide, Or.inl (wd_in 681 (by decide +kernel) rfl)⟩
theorem csF_179 : am_Cs "FrameForge" 179 jW_writeOutCall 3 := ⟨coW_writeOutCall, inW, by decide +kernel, by decide, Or.inl (wd_in 686 (by decide +kernel) rfl)⟩
theorem csF_189 : am_Cs "FrameForge" 189 jE_fact 1 := ⟨coE_fact, inE, by decide +kernel, by decide, Or.inl (wd_in 703 (by decide +kernel) rfl)⟩
theorem csF_193 : am_Cs "FrameForge" 193 jE_rowPart 2 := ⟨coE_rowPart, inE, by decide +kernel, by decide, Or.inl (wd_in 707 (by decide +kernel) rfl)⟩
theorem csF_200 : am_Cs "FrameForge" 200 jP_calledFrom 1 := ⟨coP_calledFrom, inP, by decide +kernel, by decide, Or.inl (wd_in 468 (by decide +kernel) rfl)⟩
theorem csF_203 : am_Cs "FrameForge" 203 jF_hasBit 2 := ⟨coF_hasBit, inF, by decide +kernel, by decide, Or.inl (wd_in 479 (by decide +kernel) rfl)⟩
theorem csF_209 : am_Cs "FrameForge" 209 jF_isOperand 2 := ⟨coF_isOperand, inF, by decide +kernel, by decide, Or.inl (wd_in 352 (by decide +kernel) rfl)⟩
theorem lkC_3 : Cond.methodLink "FrameForge$Checker" 3 objectInit ∈ am_T := wd_in 113 (by decide +kernel) rfl
theorem csC_37 : am_Cs "FrameForge$Checker" 37 jC_begin 1 := ⟨coC_begin, inC, by decide +kernel, by decide, Or.inl (wd_in 383 (by decide +kernel) rfl)⟩
theorem csC_49 : am_Cs "FrameForge$Checker" 49 jC_goOnFrom 3 := ⟨coC_goOnFrom, inC, by decide +kernel, by decide, Or.inl (wd_in 401 (by decide +kernel) rfl)⟩
theorem csC_53 : am_Cs "FrameForge$Checker" 53 jF_isBelow 2 := ⟨coF_isBelow, inF, by decide +kernel, by decide, Or.inr ⟨"FrameForge", by decide +kernel⟩⟩
theorem csC_57 : am_Cs "FrameForge$Checker" 57 jE_hasAt 2 := ⟨coE_hasAt, inE, by decide +kernel, by decide, Or.inl (wd_in 685 (by decide +kernel) rfl)⟩
theorem csC_69 : am_Cs "FrameForge$Checker" 69 jC_comeTo 4 := ⟨coC_comeTo, inC, by decide +kernel, by decide, Or.inl (wd_in 387 (by decide +kernel) rfl)⟩
theorem lkC_73 : Cond.methodLink "FrameForge$Checker" 73 arraycopyName ∈ am_T := wd_in 396 (by decide +kernel) rfl
theorem csC_85 : am_Cs "FrameForge$Checker" 85 jE_rowCovers 2 := ⟨coE_rowCovers, inE, by decide +kernel, by decide, Or.inl (wd_in 405 (by decide +kernel) rfl)⟩
theorem csC_97 : am_Cs "FrameForge$Checker" 97 jC_passArguments 1 := ⟨coC_passArguments, inC, by decide +kernel, by decide, Or.inl (wd_in 409 (by decide +kernel) rfl)⟩
theorem csC_101 : am_Cs "FrameForge$Checker" 101 jC_takeAndGive 2 := ⟨coC_takeAndGive, inC, by decide +kernel, by decide, Or.inl (wd_in 425 (by decide +kernel) rfl)⟩
theorem csC_105 : am_Cs "FrameForge$Checker" 105 jC_leadOn 2 := ⟨coC_leadOn, inC, by decide +kernel, by decide, Or.inl (wd_in 437 (by decide +kernel) rfl)⟩
theorem csC_108 : am_Cs "FrameForge$Checker" 108 jC_take 1 := ⟨coC_take, inC, by decide +kernel, by decide, Or.inl (wd_in 413 (by decide +kernel) rfl)⟩
theorem csC_111 : am_Cs "FrameForge$Checker" 111 jC_give 1 := ⟨coC_give, inC, by decide +kernel, by decide, Or.inl (wd_in 421 (by decide +kernel) rfl)⟩
theorem csC_114 : am_Cs "FrameForge$Checker" 114 jC_takeAny 0 := ⟨coC_takeAny, inC, by decide +kernel, by decide, Or.inl (wd_in 417 (by decide +kernel) rfl)⟩
theorem csC_121 : am_Cs "FrameForge$Checker" 121 jC_useLocal 2 := ⟨coC_useLocal, inC, by decide +kernel, by decide, Or.inl (wd_in 429 (by decide +kernel) rfl)⟩
theorem csC_125 : am_Cs "FrameForge$Checker" 125 jC_useObject 1 := ⟨coC_useObject, inC, by decide +kernel, by decide, Or.inl (wd_in 433 (by decide +kernel) rfl)⟩
theorem csC_128 : am_Cs "FrameForge$Checker" 128 jF_isJump 1 := ⟨coF_isJump, inF, by decide +kernel, by decide, Or.inr ⟨"FrameForge", by decide +kernel⟩⟩
theorem csC_132 : am_Cs "FrameForge$Checker" 132 jC_meet 3 := ⟨coC_meet, inC, by decide +kernel, by decide, Or.inl (wd_in 392 (by decide +kernel) rfl)⟩
theorem csC_136 : am_Cs "FrameForge$Checker" 136 jC_followBacksAgain 1 := ⟨coC_followBacksAgain, inC, by decide +kernel, by decide, Or.inl (wd_in 397 (by decide +kernel) rfl)⟩
theorem lkA_3 : Cond.methodLink "FrameForge$Frame" 3 objectInit ∈ am_T := wd_in 160 (by decide +kernel) rfl
theorem csA_34 : am_Cs "FrameForge$Frame" 34 jA_push 1 := ⟨coA_push, inA, by decide +kernel, by decide, Or.inl (wd_in 588 (by decide +kernel) rfl)⟩
theorem lkL_3 : Cond.methodLink "FrameForge$Ledger" 3 objectInit ∈ am_T := wd_in 242 (by decide +kernel) rfl
theorem lkL_37 : Cond.methodLink "FrameForge$Ledger" 37 Lib.Math.min.name ∈ am_T := wd_in 601 (by decide +kernel) rfl
theorem csL_43 : am_Cs "FrameForge$Ledger" 43 jL_entriesKept 0 := ⟨coL_entriesKept, inL, by decide +kernel, by decide, Or.inl (wd_in 612 (by decide +kernel) rfl)⟩
theorem lkM_3 : Cond.methodLink "FrameForge$Machine" 3 objectInit ∈ am_T := wd_in 153 (by decide +kernel) rfl
theorem csM_27 : am_Cs "FrameForge$Machine" 27 jA_init 0 := ⟨coA_init, inA, by decide +kernel, by decide, Or.inr ⟨"FrameForge", by decide +kernel⟩⟩
theorem csM_36 : am_Cs "FrameForge$Machine" 36 jL_clear 0 := ⟨coL_clear, inL, by decide +kernel, by decide, Or.inl (wd_in 484 (by decide +kernel) rfl)⟩
theorem csM_51 : am_Cs "FrameForge$Machine" 51 jM_openFrame 1 := ⟨coM_openFrame, inM, by decide +kernel, by decide, Or.inl (wd_in 488 (by decide +kernel) rfl)⟩
theorem csM_64 : am_Cs "FrameForge$Machine" 64 jM_step 1 := ⟨coM_step, inM, by decide +kernel, by decide, Or.inl (wd_in 503 (by decide +kernel) rfl)⟩
theorem csM_68 : am_Cs "FrameForge$Machine" 68 jM_findRow 0 := ⟨coM_findRow, inM, by decide +kernel, by decide, Or.inl (wd_in 572 (by decide +kernel) rfl)⟩
theorem lkM_74 : Cond.methodLink "FrameForge$Machine" 74 Lib.Math.max.name ∈ am_T := wd_in 492 (by decide +kernel) rfl
theorem csM_80 : am_Cs "FrameForge$Machine" 80 jA_begin 2 := ⟨coA_begin, inA, by decide +kernel, by decide, Or.inl (wd_in 495 (by decide +kernel) rfl)⟩
theorem csM_96 : am_Cs "FrameForge$Machine" 96 jL_note 2 := ⟨coL_note, inL, by decide +kernel, by decide, Or.inl (wd_in 499 (by decide +kernel) rfl)⟩
theorem csM_117 : am_Cs "FrameForge$Machine" 117 jA_push 1 := ⟨coA_push, inA, by decide +kernel, by decide, Or.inl (wd_in 507 (by decide +kernel) rfl)⟩
theorem csM_121 : am_Cs "FrameForge$Machine" 121 jM_useLocal 4 := ⟨coM_useLocal, inM, by decide +kernel, by decide, Or.inl (wd_in 511 (by decide +kernel) rfl)⟩
theorem csM_125 : am_Cs "FrameForge$Machine" 125 jM_make 1 := ⟨coM_make, inM, by decide +kernel, by decide, Or.inl (wd_in 519 (by decide +kernel) rfl)⟩
theorem csM_129 : am_Cs "FrameForge$Machine" 129 jM_turn 4 := ⟨coM_turn, inM, by decide +kernel, by decide, Or.inl (wd_in 523 (by decide +kernel) rfl)⟩
theorem csM_132 : am_Cs "FrameForge$Machine" 132 jM_beginCall 2 := ⟨coM_beginCall, inM, by decide +kernel, by decide, Or.inl (wd_in 530 (by decide +kernel) rfl)⟩
theorem csM_136 : am_Cs "FrameForge$Machine" 136 jA_pop 0 := ⟨coA_pop, inA, by decide +kernel, by decide, Or.inl (wd_in 515 (by decide +kernel) rfl)⟩
theorem csM_140 : am_Cs "FrameForge$Machine" 140 jM_closeFrame 0 := ⟨coM_closeFrame, inM, by decide +kernel, by decide, Or.inl (wd_in 542 (by decide +kernel) rfl)⟩
theorem csM_143 : am_Cs "FrameForge$Machine" 143 jM_giveBack 1 := ⟨coM_giveBack, inM, by decide +kernel, by decide, Or.inl (wd_in 546 (by decide +kernel) rfl)⟩
theorem csM_147 : am_Cs "FrameForge$Machine" 147 jM_reckon 2 := ⟨coM_reckon, inM, by decide +kernel, by decide, Or.inl (wd_in 551 (by decide +kernel) rfl)⟩
theorem csM_150 : am_Cs "FrameForge$Machine" 150 jM_shuffle 2 := ⟨coM_shuffle, inM, by decide +kernel, by decide, Or.inl (wd_in 555 (by decide +kernel) rfl)⟩
theorem csM_153 : am_Cs "FrameForge$Machine" 153 jM_useObject 2 := ⟨coM_useObject, inM, by decide +kernel, by decide, Or.inl (wd_in 559 (by decide +kernel) rfl)⟩
theorem csM_156 : am_Cs "FrameForge$Machine" 156 jM_throwNew 1 := ⟨coM_throwNew, inM, by decide +kernel, by decide, Or.inl (wd_in 534 (by decide +kernel) rfl)⟩
theorem csM_159 : am_Cs "FrameForge$Machine" 159 jM_holds 2 := ⟨coM_holds, inM, by decide +kernel, by decide, Or.inl (wd_in 527 (by decide +kernel) rfl)⟩
theorem csM_163 : am_Cs "FrameForge$Machine" 163 jM_enterLock 1 := ⟨coM_enterLock, inM, by decide +kernel, by decide, Or.inl (wd_in 563 (by decide +kernel) rfl)⟩
theorem csM_166 : am_Cs "FrameForge$Machine" 166 jM_throwObject 1 := ⟨coM_throwObject, inM, by decide +kernel, by decide, Or.inl (wd_in 538 (by decide +kernel) rfl)⟩
theorem csM_169 : am_Cs "FrameForge$Machine" 169 jM_leaveLock 2 := ⟨coM_leaveLock, inM, by decide +kernel, by decide, Or.inl (wd_in 567 (by decide +kernel) rfl)⟩
theorem lkM_176 : Cond.methodLink "FrameForge$Machine" 176 arraycopyName ∈ am_T := wd_in 571 (by decide +kernel) rfl
theorem csM_191 : am_Cs "FrameForge$Machine" 191 jE_rowFor 2 := ⟨coE_rowFor, inE, by decide +kernel, by decide, Or.inl (wd_in 576 (by decide +kernel) rfl)⟩
theorem csM_197 : am_Cs "FrameForge$Machine" 197 jA_goOnWith 2 := ⟨coA_goOnWith, inA, by decide +kernel, by decide, Or.inl (wd_in 584 (by decide +kernel) rfl)⟩
theorem lkE_3 : Cond.methodLink "FrameForge$Method" 3 objectInit ∈ am_T := wd_in 33 (by decide +kernel) rfl
theorem csE_47 : am_Cs "FrameForge$Method" 47 jE_begin 2 := ⟨coE_begin, inE, by decide +kernel, by decide, Or.inl (wd_in 323 (by decide +kernel) rfl)⟩
theorem lkE_51 : Cond.methodLink "FrameForge$Method" 51 arraycopyName ∈ am_T := wd_in 327 (by decide +kernel) rfl
theorem csE_63 : am_Cs "FrameForge$Method" 63 jF_isBelow 2 := ⟨coF_isBelow, inF, by decide +kernel, by decide, Or.inr ⟨"FrameForge", by decide +kernel⟩⟩
theorem csE_67 : am_Cs "FrameForge$Method" 67 jE_rowCovers 2 := ⟨coE_rowCovers, inE, by decide +kernel, by decide, Or.inl (wd_in 580 (by decide +kernel) rfl)⟩
theorem csE_73 : am_Cs "FrameForge$Method" 73 jF_hasBit 2 := ⟨coF_hasBit, inF, by decide +kernel, by decide, Or.inr ⟨"FrameForge", by decide +kernel⟩⟩
theorem lkE_76 : Cond.methodLink "FrameForge$Method" 76 Lib.Math.max.name ∈ am_T := wd_in 680 (by decide +kernel) rfl
theorem csE_82 : am_Cs "FrameForge$Method" 82 jE_hasAt 2 := ⟨coE_hasAt, inE, by decide +kernel, by decide, Or.inl (wd_in 630 (by decide +kernel) rfl)⟩
theorem csE_85 : am_Cs "FrameForge$Method" 85 jE_keepsPlain 3 := ⟨coE_keepsPlain, inE, by decide +kernel, by decide, Or.inl (wd_in 631 (by decide +kernel) rfl)⟩
theorem csE_89 : am_Cs "FrameForge$Method" 89 jE_leadsInto 3 := ⟨coE_leadsInto, inE, by decide +kernel, by decide, Or.inl (wd_in 636 (by decide +kernel) rfl)⟩
theorem csE_92 : am_Cs "FrameForge$Method" 92 jF_isJump 1 := ⟨coF_isJump, inF, by decide +kernel, by decide, Or.inr ⟨"FrameForge", by decide +kernel⟩⟩
theorem lkP_3 : Cond.methodLink "FrameForge$Program" 3 objectInit ∈ am_T := wd_in 26 (by decide +kernel) rfl
theorem csP_17 : am_Cs "FrameForge$Program" 17 jE_init 0 := ⟨coE_init, inE, by decide +kernel, by decide, Or.inr ⟨"FrameForge", by decide +kernel⟩⟩
theorem csP_18 : am_Cs "FrameForge$Program" 18 jE_become 1 := ⟨coE_become, inE, by decide +kernel, by decide, Or.inl (wd_in 319 (by decide +kernel) rfl)⟩
theorem csP_26 : am_Cs "FrameForge$Program" 26 jF_hasBit 2 := ⟨coF_hasBit, inF, by decide +kernel, by decide, Or.inr ⟨"FrameForge", by decide +kernel⟩⟩
theorem csP_30 : am_Cs "FrameForge$Program" 30 jE_calls 0 := ⟨coE_calls, inE, by decide +kernel, by decide, Or.inl (wd_in 475 (by decide +kernel) rfl)⟩
theorem lkW_3 : Cond.methodLink "FrameForge$Rewriter" 3 objectInit ∈ am_T := wd_in 221 (by decide +kernel) rfl
theorem csW_11 : am_Cs "FrameForge$Rewriter" 11 jE_init 0 := ⟨coE_init, inE, by decide +kernel, by decide, Or.inr ⟨"FrameForge", by decide +kernel⟩⟩
theorem csW_18 : am_Cs "FrameForge$Rewriter" 18 jE_hasAt 2 := ⟨coE_hasAt, inE, by decide +kernel, by decide, Or.inl (wd_in 621 (by decide +kernel) rfl)⟩
theorem csW_26 : am_Cs "FrameForge$Rewriter" 26 jE_plainEnd 1 := ⟨coE_plainEnd, inE, by decide +kernel, by decide, Or.inl (wd_in 626 (by decide +kernel) rfl)⟩
theorem csW_30 : am_Cs "FrameForge$Rewriter" 30 jW_spread 3 := ⟨coW_spread, inW, by decide +kernel, by decide, Or.inl (wd_in 640 (by decide +kernel) rfl)⟩
theorem csW_41 : am_Cs "FrameForge$Rewriter" 41 jF_isJump 1 := ⟨coF_isJump, inF, by decide +kernel, by decide, Or.inr ⟨"FrameForge", by decide +kernel⟩⟩
theorem csW_48 : am_Cs "FrameForge$Rewriter" 48 jE_put 4 := ⟨coE_put, inE, by decide +kernel, by decide, Or.inl (wd_in 650 (by decide +kernel) rfl)⟩
theorem csW_56 : am_Cs "FrameForge$Rewriter" 56 jW_splitRow 4 := ⟨coW_splitRow, inW, by decide +kernel, by decide, Or.inl (wd_in 651 (by decide +kernel) rfl)⟩
theorem csW_60 : am_Cs "FrameForge$Rewriter" 60 jW_takeOver 1 := ⟨coW_takeOver, inW, by decide +kernel, by decide, Or.inl (wd_in 662 (by decide +kernel) rfl)⟩
theorem csW_70 : am_Cs "FrameForge$Rewriter" 70 jE_greatestLocal 0 := ⟨coE_greatestLocal, inE, by decide +kernel, by decide, Or.inl (wd_in 690 (by decide +kernel) rfl)⟩
theorem csW_74 : am_Cs "FrameForge$Rewriter" 74 jW_putCalled 4 := ⟨coW_putCalled, inW, by decide +kernel, by decide, Or.inl (wd_in 691 (by decide +kernel) rfl)⟩
theorem lkW_80 : Cond.methodLink "FrameForge$Rewriter" 80 Lib.Math.min.name ∈ am_T := wd_in 655 (by decide +kernel) rfl
theorem csW_95 : am_Cs "FrameForge$Rewriter" 95 jW_draftRow 4 := ⟨coW_draftRow, inW, by decide +kernel, by decide, Or.inl (wd_in 656 (by decide +kernel) rfl)⟩
theorem csW_98 : am_Cs "FrameForge$Rewriter" 98 jW_moved 1 := ⟨coW_moved, inW, by decide +kernel, by decide, Or.inl (wd_in 646 (by decide +kernel) rfl)⟩
theorem csW_110 : am_Cs "FrameForge$Rewriter" 110 jE_begin 2 := ⟨coE_begin, inE, by decide +kernel, by decide, Or.inl (wd_in 644 (by decide +kernel) rfl)⟩
theorem lkW_114 : Cond.methodLink "FrameForge$Rewriter" 114 Lib.Math.max.name ∈ am_T := wd_in 661 (by decide +kernel) rfl
theorem csW_117 : am_Cs "FrameForge$Rewriter" 117 jE_addRow 4 := ⟨coE_addRow, inE, by decide +kernel, by decide, Or.inl (wd_in 660 (by decide +kernel) rfl)⟩
theorem csW_121 : am_Cs "FrameForge$Rewriter" 121 jE_become 1 := ⟨coE_become, inE, by decide +kernel, by decide, Or.inl (wd_in 666 (by decide +kernel) rfl)⟩
theorem csY_9 : am_Cs "FrameForgeLaw" 9 jF_init 0 := ⟨coF_init, inF, by decide +kernel, by decide, Or.inl (wd_in 14 (by decide +kernel) rfl)⟩
theorem csY_12 : am_Cs "FrameForgeLaw" 12 jR_init 0 := ⟨coR_init, inR, by decide +kernel, by decide, Or.inl (wd_in 713 (by decide +kernel) rfl)⟩
theorem csY_13 : am_Cs "FrameForgeLaw" 13 jF_write 1 := ⟨coF_write, inF, by decide +kernel, by decide, Or.inl (wd_in 304 (by decide +kernel) rfl)⟩
theorem csY_17 : am_Cs "FrameForgeLaw" 17 jR_write 1 := ⟨coR_write, inR, by decide +kernel, by decide, Or.inl (wd_in 873 (by decide +kernel) rfl)⟩
theorem csY_18 : am_Cs "FrameForgeLaw" 18 jF_branch 0 := ⟨coF_branch, inF, by decide +kernel, by decide, Or.inl (wd_in 311 (by decide +kernel) rfl)⟩
theorem csY_22 : am_Cs "FrameForgeLaw" 22 jR_branch 0 := ⟨coR_branch, inR, by decide +kernel, by decide, Or.inl (wd_in 880 (by decide +kernel) rfl)⟩
theorem csY_23 : am_Cs "FrameForgeLaw" 23 jF_method 3 := ⟨coF_method, inF, by decide +kernel, by decide, Or.inl (wd_in 334 (by decide +kernel) rfl)⟩
theorem csY_27 : am_Cs "FrameForgeLaw" 27 jR_method 3 := ⟨coR_method, inR, by decide +kernel, by decide, Or.inl (wd_in 892 (by decide +kernel) rfl)⟩
theorem csY_28 : am_Cs "FrameForgeLaw" 28 jF_add 4 := ⟨coF_add, inF, by decide +kernel, by decide, Or.inl (wd_in 343 (by decide +kernel) rfl)⟩
theorem csY_32 : am_Cs "FrameForgeLaw" 32 jR_add 4 := ⟨coR_add, inR, by decide +kernel, by decide, Or.inl (wd_in 900 (by decide +kernel) rfl)⟩
theorem csY_33 : am_Cs "FrameForgeLaw" 33 jF_change 5 := ⟨coF_change, inF, by decide +kernel, by decide, Or.inl (wd_in 363 (by decide +kernel) rfl)⟩
theorem csY_37 : am_Cs "FrameForgeLaw" 37 jR_change 5 := ⟨coR_change, inR, by decide +kernel, by decide, Or.inl (wd_in 917 (by decide +kernel) rfl)⟩
theorem csY_38 : am_Cs "FrameForgeLaw" 38 jF_row 5 := ⟨coF_row, inF, by decide +kernel, by decide, Or.inl (wd_in 367 (by decide +kernel) rfl)⟩
theorem csY_42 : am_Cs "FrameForgeLaw" 42 jR_row 5 := ⟨coR_row, inR, by decide +kernel, by decide, Or.inl (wd_in 921 (by decide +kernel) rfl)⟩
theorem csY_43 : am_Cs "FrameForgeLaw" 43 jF_check 1 := ⟨coF_check, inF, by decide +kernel, by decide, Or.inl (wd_in 375 (by decide +kernel) rfl)⟩
theorem csY_47 : am_Cs "FrameForgeLaw" 47 jR_check 1 := ⟨coR_check, inR, by decide +kernel, by decide, Or.inl (wd_in 925 (by decide +kernel) rfl)⟩
theorem csY_48 : am_Cs "FrameForgeLaw" 48 jF_kindAt 3 := ⟨coF_kindAt, inF, by decide +kernel, by decide, Or.inl (wd_in 444 (by decide +kernel) rfl)⟩
theorem csY_52 : am_Cs "FrameForgeLaw" 52 jR_kindAt 3 := ⟨coR_kindAt, inR, by decide +kernel, by decide, Or.inl (wd_in 965 (by decide +kernel) rfl)⟩
theorem csY_53 : am_Cs "FrameForgeLaw" 53 jF_run 6 := ⟨coF_run, inF, by decide +kernel, by decide, Or.inl (wd_in 460 (by decide +kernel) rfl)⟩
theorem csY_57 : am_Cs "FrameForgeLaw" 57 jR_run 6 := ⟨coR_run, inR, by decide +kernel, by decide, Or.inl (wd_in 969 (by decide +kernel) rfl)⟩
theorem csY_58 : am_Cs "FrameForgeLaw" 58 jF_ran 1 := ⟨coF_ran, inF, by decide +kernel, by decide, Or.inl (wd_in 589 (by decide +kernel) rfl)⟩
theorem csY_61 : am_Cs "FrameForgeLaw" 61 jR_ran 1 := ⟨coR_ran, inR, by decide +kernel, by decide, Or.inl (wd_in 1041 (by decide +kernel) rfl)⟩
theorem csY_62 : am_Cs "FrameForgeLaw" 62 jF_trace 1 := ⟨coF_trace, inF, by decide +kernel, by decide, Or.inl (wd_in 593 (by decide +kernel) rfl)⟩
theorem csY_65 : am_Cs "FrameForgeLaw" 65 jR_trace 1 := ⟨coR_trace, inR, by decide +kernel, by decide, Or.inl (wd_in 1045 (by decide +kernel) rfl)⟩
theorem csY_66 : am_Cs "FrameForgeLaw" 66 jF_compare 4 := ⟨coF_compare, inF, by decide +kernel, by decide, Or.inl (wd_in 604 (by decide +kernel) rfl)⟩
theorem csY_69 : am_Cs "FrameForgeLaw" 69 jR_compare 4 := ⟨coR_compare, inR, by decide +kernel, by decide, Or.inl (wd_in 1049 (by decide +kernel) rfl)⟩
theorem csY_70 : am_Cs "FrameForgeLaw" 70 jF_unfold 2 := ⟨coF_unfold, inF, by decide +kernel, by decide, Or.inl (wd_in 613 (by decide +kernel) rfl)⟩
theorem csY_74 : am_Cs "FrameForgeLaw" 74 jR_unfold 2 := ⟨coR_unfold, inR, by decide +kernel, by decide, Or.inl (wd_in 1053 (by decide +kernel) rfl)⟩
theorem csY_75 : am_Cs "FrameForgeLaw" 75 jF_inline 2 := ⟨coF_inline, inF, by decide +kernel, by decide, Or.inl (wd_in 667 (by decide +kernel) rfl)⟩
theorem csY_78 : am_Cs "FrameForgeLaw" 78 jR_inline 2 := ⟨coR_inline, inR, by decide +kernel, by decide, Or.inl (wd_in 1076 (by decide +kernel) rfl)⟩
theorem csY_79 : am_Cs "FrameForgeLaw" 79 jF_code 3 := ⟨coF_code, inF, by decide +kernel, by decide, Or.inl (wd_in 695 (by decide +kernel) rfl)⟩
theorem csY_82 : am_Cs "FrameForgeLaw" 82 jR_code 3 := ⟨coR_code, inR, by decide +kernel, by decide, Or.inl (wd_in 1088 (by decide +kernel) rfl)⟩
theorem csY_83 : am_Cs "FrameForgeLaw" 83 jF_table 3 := ⟨coF_table, inF, by decide +kernel, by decide, Or.inl (wd_in 699 (by decide +kernel) rfl)⟩
theorem csY_86 : am_Cs "FrameForgeLaw" 86 jR_table 3 := ⟨coR_table, inR, by decide +kernel, by decide, Or.inl (wd_in 1092 (by decide +kernel) rfl)⟩
theorem lkR_1 : Cond.methodLink "FrameForgeModel" 1 objectInit ∈ am_T := wd_in 716 (by decide +kernel) rfl
theorem csR_123 : am_Cs "FrameForgeModel" 123 jR_in 3 := ⟨coR_in, inR, by decide +kernel, by decide, Or.inl (wd_in 877 (by decide +kernel) rfl)⟩
theorem csR_127 : am_Cs "FrameForgeModel" 127 jR_set 5 := ⟨coR_set, inR, by decide +kernel, by decide, Or.inl (wd_in 884 (by decide +kernel) rfl)⟩
theorem csR_131 : am_Cs "FrameForgeModel" 131 jR_setRow 6 := ⟨coR_setRow, inR, by decide +kernel, by decide, Or.inl (wd_in 888 (by decide +kernel) rfl)⟩
theorem csR_135 : am_Cs "FrameForgeModel" 135 jR_own 1 := ⟨coR_own, inR, by decide +kernel, by decide, Or.inl (wd_in 896 (by decide +kernel) rfl)⟩
theorem csR_139 : am_Cs "FrameForgeModel" 139 jR_isJump 1 := ⟨coR_isJump, inR, by decide +kernel, by decide, Or.inl (wd_in 907 (by decide +kernel) rfl)⟩
theorem csR_143 : am_Cs "FrameForgeModel" 143 jR_mostA 1 := ⟨coR_mostA, inR, by decide +kernel, by decide, Or.inl (wd_in 910 (by decide +kernel) rfl)⟩
theorem csR_146 : am_Cs "FrameForgeModel" 146 jR_isGood 3 := ⟨coR_isGood, inR, by decide +kernel, by decide, Or.inl (wd_in 904 (by decide +kernel) rfl)⟩
theorem csR_149 : am_Cs "FrameForgeModel" 149 jR_put 5 := ⟨coR_put, inR, by decide +kernel, by decide, Or.inl (wd_in 913 (by decide +kernel) rfl)⟩
theorem csR_162 : am_Cs "FrameForgeModel" 162 jR_take 1 := ⟨coR_take, inR, by decide +kernel, by decide, Or.inl (wd_in 949 (by decide +kernel) rfl)⟩
theorem csR_166 : am_Cs "FrameForgeModel" 166 jR_push 1 := ⟨coR_push, inR, by decide +kernel, by decide, Or.inl (wd_in 945 (by decide +kernel) rfl)⟩
theorem csR_169 : am_Cs "FrameForgeModel" 169 jR_move 1 := ⟨coR_move, inR, by decide +kernel, by decide, Or.inl (wd_in 953 (by decide +kernel) rfl)⟩
theorem csR_172 : am_Cs "FrameForgeModel" 172 jR_arrive 2 := ⟨coR_arrive, inR, by decide +kernel, by decide, Or.inl (wd_in 933 (by decide +kernel) rfl)⟩
theorem csR_176 : am_Cs "FrameForgeModel" 176 jR_fetch 1 := ⟨coR_fetch, inR, by decide +kernel, by decide, Or.inl (wd_in 937 (by decide +kernel) rfl)⟩
theorem csR_179 : am_Cs "FrameForgeModel" 179 jR_leave 2 := ⟨coR_leave, inR, by decide +kernel, by decide, Or.inl (wd_in 941 (by decide +kernel) rfl)⟩
theorem csR_182 : am_Cs "FrameForgeModel" 182 jR_goOn 2 := ⟨coR_goOn, inR, by decide +kernel, by decide, Or.inl (wd_in 957 (by decide +kernel) rfl)⟩
theorem csR_185 : am_Cs "FrameForgeModel" 185 jR_refuse 2 := ⟨coR_refuse, inR, by decide +kernel, by decide, Or.inl (wd_in 961 (by decide +kernel) rfl)⟩
theorem csR_188 : am_Cs "FrameForgeModel" 188 jR_isRight 1 := ⟨coR_isRight, inR, by decide +kernel, by decide, Or.inl (wd_in 929 (by decide +kernel) rfl)⟩
theorem csR_197 : am_Cs "FrameForgeModel" 197 jR_tell 2 := ⟨coR_tell, inR, by decide +kernel, by decide, Or.inl (wd_in 985 (by decide +kernel) rfl)⟩
theorem csR_209 : am_Cs "FrameForgeModel" 209 jR_make 1 := ⟨coR_make, inR, by decide +kernel, by decide, Or.inl (wd_in 1005 (by decide +kernel) rfl)⟩
theorem csR_212 : am_Cs "FrameForgeModel" 212 jR_isUnder 2 := ⟨coR_isUnder, inR, by decide +kernel, by decide, Or.inl (wd_in 1013 (by decide +kernel) rfl)⟩
theorem csR_219 : am_Cs "FrameForgeModel" 219 jR_finish 1 := ⟨coR_finish, inR, by decide +kernel, by decide, Or.inl (wd_in 1016 (by decide +kernel) rfl)⟩
theorem csR_228 : am_Cs "FrameForgeModel" 228 jR_raise 1 := ⟨coR_raise, inR, by decide +kernel, by decide, Or.inl (wd_in 1009 (by decide +kernel) rfl)⟩
theorem csR_231 : am_Cs "FrameForgeModel" 231 jR_machine 1 := ⟨coR_machine, inR, by decide +kernel, by decide, Or.inl (wd_in 1001 (by decide +kernel) rfl)⟩
theorem csR_234 : am_Cs "FrameForgeModel" 234 jR_pop 0 := ⟨coR_pop, inR, by decide +kernel, by decide, Or.inl (wd_in 993 (by decide +kernel) rfl)⟩
theorem csR_238 : am_Cs "FrameForgeModel" 238 jR_begin 1 := ⟨coR_begin, inR, by decide +kernel, by decide, Or.inl (wd_in 981 (by decide +kernel) rfl)⟩
theorem csR_244 : am_Cs "FrameForgeModel" 244 jR_give 1 := ⟨coR_give, inR, by decide +kernel, by decide, Or.inl (wd_in 1020 (by decide +kernel) rfl)⟩
theorem csR_247 : am_Cs "FrameForgeModel" 247 jR_release 1 := ⟨coR_release, inR, by decide +kernel, by decide, Or.inl (wd_in 1028 (by decide +kernel) rfl)⟩
theorem csR_250 : am_Cs "FrameForgeModel" 250 jR_sum 3 := ⟨coR_sum, inR, by decide +kernel, by decide, Or.inl (wd_in 997 (by decide +kernel) rfl)⟩
theorem csR_254 : am_Cs "FrameForgeModel" 254 jR_onObject 3 := ⟨coR_onObject, inR, by decide +kernel, by decide, Or.inl (wd_in 1024 (by decide +kernel) rfl)⟩
theorem csR_257 : am_Cs "FrameForgeModel" 257 jR_call 1 := ⟨coR_call, inR, by decide +kernel, by decide, Or.inl (wd_in 1032 (by decide +kernel) rfl)⟩
theorem csR_260 : am_Cs "FrameForgeModel" 260 jR_back 1 := ⟨coR_back, inR, by decide +kernel, by decide, Or.inl (wd_in 1036 (by decide +kernel) rfl)⟩
theorem csR_267 : am_Cs "FrameForgeModel" 267 jR_step 0 := ⟨coR_step, inR, by decide +kernel, by decide, Or.inl (wd_in 989 (by decide +kernel) rfl)⟩
theorem csR_270 : am_Cs "FrameForgeModel" 270 jR_allRight 1 := ⟨coR_allRight, inR, by decide +kernel, by decide, Or.inl (wd_in 973 (by decide +kernel) rfl)⟩
theorem csR_273 : am_Cs "FrameForgeModel" 273 jR_go 5 := ⟨coR_go, inR, by decide +kernel, by decide, Or.inl (wd_in 977 (by decide +kernel) rfl)⟩
theorem csR_280 : am_Cs "FrameForgeModel" 280 jR_shifted 3 := ⟨coR_shifted, inR, by decide +kernel, by decide, Or.inl (wd_in 1061 (by decide +kernel) rfl)⟩
theorem csR_284 : am_Cs "FrameForgeModel" 284 jR_endOf 2 := ⟨coR_endOf, inR, by decide +kernel, by decide, Or.inl (wd_in 1057 (by decide +kernel) rfl)⟩
theorem csR_288 : am_Cs "FrameForgeModel" 288 jR_newRow 4 := ⟨coR_newRow, inR, by decide +kernel, by decide, Or.inl (wd_in 1064 (by decide +kernel) rfl)⟩
theorem csR_292 : am_Cs "FrameForgeModel" 292 jR_newInstruction 4 := ⟨coR_newInstruction, inR, by decide +kernel, by decide, Or.inl (wd_in 1068 (by decide +kernel) rfl)⟩
theorem csR_295 : am_Cs "FrameForgeModel" 295 jR_replace 3 := ⟨coR_replace, inR, by decide +kernel, by decide, Or.inl (wd_in 1072 (by decide +kernel) rfl)⟩
theorem csR_298 : am_Cs "FrameForgeModel" 298 jR_greatest 2 := ⟨coR_greatest, inR, by decide +kernel, by decide, Or.inl (wd_in 1080 (by decide +kernel) rfl)⟩
theorem csR_302 : am_Cs "FrameForgeModel" 302 jR_mayInline 4 := ⟨coR_mayInline, inR, by decide +kernel, by decide, Or.inl (wd_in 1084 (by decide +kernel) rfl)⟩
end
