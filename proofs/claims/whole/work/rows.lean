section
-- ===== PART A: goes FIRST, ahead of the names: the tables' words, and 'selects' of the private methods out of them =====
/-- a private method of a class that the tables say can be made, by its rows of tables_1 -/
def lw_okq (q : MethodName × Nat) : Prop := (q.1.cls ≠ "java/lang/invoke/MethodHandle" ∧ q.1.cls ≠ "java/lang/invoke/VarHandle") ∧ Cond.instantiable q.1.cls q.2 ∈ tables_1 ∧ Cond.privateMethod q.1 ∈ tables_1 ∧ Cond.instanceMethod q.1 ∈ tables_1
theorem lw_p0 : lw_okq (⟨"FrameForge", "writtenMethod", "(I)LFrameForge$Method;"⟩, 7) := ⟨⟨by decide +kernel, by decide +kernel⟩, List.mem_of_getElem? (i := 13) (by decide +kernel), List.mem_of_getElem? (i := 339) (by decide +kernel), List.mem_of_getElem? (i := 340) (by decide +kernel)⟩
theorem lw_p1 : lw_okq (⟨"FrameForge$Checker", "begin", "(LFrameForge$Method;)V"⟩, 10) := ⟨⟨by decide +kernel, by decide +kernel⟩, List.mem_of_getElem? (i := 109) (by decide +kernel), List.mem_of_getElem? (i := 384) (by decide +kernel), List.mem_of_getElem? (i := 385) (by decide +kernel)⟩
theorem lw_p2 : lw_okq (⟨"FrameForge$Checker", "comeTo", "(LFrameForge$Method;I[II)V"⟩, 10) := ⟨⟨by decide +kernel, by decide +kernel⟩, List.mem_of_getElem? (i := 109) (by decide +kernel), List.mem_of_getElem? (i := 388) (by decide +kernel), List.mem_of_getElem? (i := 389) (by decide +kernel)⟩
theorem lw_p3 : lw_okq (⟨"FrameForge$Checker", "meet", "(I[II)V"⟩, 10) := ⟨⟨by decide +kernel, by decide +kernel⟩, List.mem_of_getElem? (i := 109) (by decide +kernel), List.mem_of_getElem? (i := 393) (by decide +kernel), List.mem_of_getElem? (i := 394) (by decide +kernel)⟩
theorem lw_p4 : lw_okq (⟨"FrameForge$Checker", "followBacksAgain", "(LFrameForge$Method;)V"⟩, 10) := ⟨⟨by decide +kernel, by decide +kernel⟩, List.mem_of_getElem? (i := 109) (by decide +kernel), List.mem_of_getElem? (i := 398) (by decide +kernel), List.mem_of_getElem? (i := 399) (by decide +kernel)⟩
theorem lw_p5 : lw_okq (⟨"FrameForge$Checker", "goOnFrom", "(LFrameForge$Program;LFrameForge$Method;I)V"⟩, 10) := ⟨⟨by decide +kernel, by decide +kernel⟩, List.mem_of_getElem? (i := 109) (by decide +kernel), List.mem_of_getElem? (i := 402) (by decide +kernel), List.mem_of_getElem? (i := 403) (by decide +kernel)⟩
theorem lw_p6 : lw_okq (⟨"FrameForge$Checker", "passArguments", "(I)V"⟩, 10) := ⟨⟨by decide +kernel, by decide +kernel⟩, List.mem_of_getElem? (i := 109) (by decide +kernel), List.mem_of_getElem? (i := 410) (by decide +kernel), List.mem_of_getElem? (i := 411) (by decide +kernel)⟩
theorem lw_p7 : lw_okq (⟨"FrameForge$Checker", "take", "(I)V"⟩, 10) := ⟨⟨by decide +kernel, by decide +kernel⟩, List.mem_of_getElem? (i := 109) (by decide +kernel), List.mem_of_getElem? (i := 414) (by decide +kernel), List.mem_of_getElem? (i := 415) (by decide +kernel)⟩
theorem lw_p8 : lw_okq (⟨"FrameForge$Checker", "takeAny", "()I"⟩, 10) := ⟨⟨by decide +kernel, by decide +kernel⟩, List.mem_of_getElem? (i := 109) (by decide +kernel), List.mem_of_getElem? (i := 418) (by decide +kernel), List.mem_of_getElem? (i := 419) (by decide +kernel)⟩
theorem lw_p9 : lw_okq (⟨"FrameForge$Checker", "give", "(I)V"⟩, 10) := ⟨⟨by decide +kernel, by decide +kernel⟩, List.mem_of_getElem? (i := 109) (by decide +kernel), List.mem_of_getElem? (i := 422) (by decide +kernel), List.mem_of_getElem? (i := 423) (by decide +kernel)⟩
theorem lw_p10 : lw_okq (⟨"FrameForge$Checker", "takeAndGive", "(LFrameForge$Method;I)V"⟩, 10) := ⟨⟨by decide +kernel, by decide +kernel⟩, List.mem_of_getElem? (i := 109) (by decide +kernel), List.mem_of_getElem? (i := 426) (by decide +kernel), List.mem_of_getElem? (i := 427) (by decide +kernel)⟩
theorem lw_p11 : lw_okq (⟨"FrameForge$Checker", "useLocal", "(II)V"⟩, 10) := ⟨⟨by decide +kernel, by decide +kernel⟩, List.mem_of_getElem? (i := 109) (by decide +kernel), List.mem_of_getElem? (i := 430) (by decide +kernel), List.mem_of_getElem? (i := 431) (by decide +kernel)⟩
theorem lw_p12 : lw_okq (⟨"FrameForge$Checker", "useObject", "(I)V"⟩, 10) := ⟨⟨by decide +kernel, by decide +kernel⟩, List.mem_of_getElem? (i := 109) (by decide +kernel), List.mem_of_getElem? (i := 434) (by decide +kernel), List.mem_of_getElem? (i := 435) (by decide +kernel)⟩
theorem lw_p13 : lw_okq (⟨"FrameForge$Checker", "leadOn", "(LFrameForge$Method;I)V"⟩, 10) := ⟨⟨by decide +kernel, by decide +kernel⟩, List.mem_of_getElem? (i := 109) (by decide +kernel), List.mem_of_getElem? (i := 438) (by decide +kernel), List.mem_of_getElem? (i := 439) (by decide +kernel)⟩
theorem lw_p14 : lw_okq (⟨"FrameForge", "allSound", "(LFrameForge$Program;I)Z"⟩, 7) := ⟨⟨by decide +kernel, by decide +kernel⟩, List.mem_of_getElem? (i := 13) (by decide +kernel), List.mem_of_getElem? (i := 465) (by decide +kernel), List.mem_of_getElem? (i := 466) (by decide +kernel)⟩
theorem lw_p15 : lw_okq (⟨"FrameForge$Machine", "openFrame", "(I)LFrameForge$Frame;"⟩, 9) := ⟨⟨by decide +kernel, by decide +kernel⟩, List.mem_of_getElem? (i := 149) (by decide +kernel), List.mem_of_getElem? (i := 489) (by decide +kernel), List.mem_of_getElem? (i := 490) (by decide +kernel)⟩
def lw_privs_1 : List (MethodName × Nat) := [(⟨"FrameForge", "writtenMethod", "(I)LFrameForge$Method;"⟩, 7), (⟨"FrameForge$Checker", "begin", "(LFrameForge$Method;)V"⟩, 10), (⟨"FrameForge$Checker", "comeTo", "(LFrameForge$Method;I[II)V"⟩, 10), (⟨"FrameForge$Checker", "meet", "(I[II)V"⟩, 10), (⟨"FrameForge$Checker", "followBacksAgain", "(LFrameForge$Method;)V"⟩, 10), (⟨"FrameForge$Checker", "goOnFrom", "(LFrameForge$Program;LFrameForge$Method;I)V"⟩, 10), (⟨"FrameForge$Checker", "passArguments", "(I)V"⟩, 10), (⟨"FrameForge$Checker", "take", "(I)V"⟩, 10), (⟨"FrameForge$Checker", "takeAny", "()I"⟩, 10), (⟨"FrameForge$Checker", "give", "(I)V"⟩, 10), (⟨"FrameForge$Checker", "takeAndGive", "(LFrameForge$Method;I)V"⟩, 10), (⟨"FrameForge$Checker", "useLocal", "(II)V"⟩, 10), (⟨"FrameForge$Checker", "useObject", "(I)V"⟩, 10), (⟨"FrameForge$Checker", "leadOn", "(LFrameForge$Method;I)V"⟩, 10), (⟨"FrameForge", "allSound", "(LFrameForge$Program;I)Z"⟩, 7), (⟨"FrameForge$Machine", "openFrame", "(I)LFrameForge$Frame;"⟩, 9)]
theorem lw_r1 : ∀ q ∈ lw_privs_1, lw_okq q := List.forall_mem_cons.mpr ⟨lw_p0, List.forall_mem_cons.mpr ⟨lw_p1, List.forall_mem_cons.mpr ⟨lw_p2, List.forall_mem_cons.mpr ⟨lw_p3, List.forall_mem_cons.mpr ⟨lw_p4, List.forall_mem_cons.mpr ⟨lw_p5, List.forall_mem_cons.mpr ⟨lw_p6, List.forall_mem_cons.mpr ⟨lw_p7, List.forall_mem_cons.mpr ⟨lw_p8, List.forall_mem_cons.mpr ⟨lw_p9, List.forall_mem_cons.mpr ⟨lw_p10, List.forall_mem_cons.mpr ⟨lw_p11, List.forall_mem_cons.mpr ⟨lw_p12, List.forall_mem_cons.mpr ⟨lw_p13, List.forall_mem_cons.mpr ⟨lw_p14, List.forall_mem_cons.mpr ⟨lw_p15, fun _ h => absurd h List.not_mem_nil⟩⟩⟩⟩⟩⟩⟩⟩⟩⟩⟩⟩⟩⟩⟩⟩
theorem lw_p16 : lw_okq (⟨"FrameForge$Machine", "step", "(LFrameForge$Frame;)V"⟩, 9) := ⟨⟨by decide +kernel, by decide +kernel⟩, List.mem_of_getElem? (i := 149) (by decide +kernel), List.mem_of_getElem? (i := 504) (by decide +kernel), List.mem_of_getElem? (i := 505) (by decide +kernel)⟩
theorem lw_p17 : lw_okq (⟨"FrameForge$Machine", "useLocal", "(LFrameForge$Frame;III)V"⟩, 9) := ⟨⟨by decide +kernel, by decide +kernel⟩, List.mem_of_getElem? (i := 149) (by decide +kernel), List.mem_of_getElem? (i := 512) (by decide +kernel), List.mem_of_getElem? (i := 513) (by decide +kernel)⟩
theorem lw_p18 : lw_okq (⟨"FrameForge$Machine", "make", "(I)I"⟩, 9) := ⟨⟨by decide +kernel, by decide +kernel⟩, List.mem_of_getElem? (i := 149) (by decide +kernel), List.mem_of_getElem? (i := 520) (by decide +kernel), List.mem_of_getElem? (i := 521) (by decide +kernel)⟩
theorem lw_p19 : lw_okq (⟨"FrameForge$Machine", "turn", "(LFrameForge$Frame;III)V"⟩, 9) := ⟨⟨by decide +kernel, by decide +kernel⟩, List.mem_of_getElem? (i := 149) (by decide +kernel), List.mem_of_getElem? (i := 524) (by decide +kernel), List.mem_of_getElem? (i := 525) (by decide +kernel)⟩
theorem lw_p20 : lw_okq (⟨"FrameForge$Machine", "beginCall", "(LFrameForge$Frame;I)V"⟩, 9) := ⟨⟨by decide +kernel, by decide +kernel⟩, List.mem_of_getElem? (i := 149) (by decide +kernel), List.mem_of_getElem? (i := 531) (by decide +kernel), List.mem_of_getElem? (i := 532) (by decide +kernel)⟩
theorem lw_p21 : lw_okq (⟨"FrameForge$Machine", "throwNew", "(I)V"⟩, 9) := ⟨⟨by decide +kernel, by decide +kernel⟩, List.mem_of_getElem? (i := 149) (by decide +kernel), List.mem_of_getElem? (i := 535) (by decide +kernel), List.mem_of_getElem? (i := 536) (by decide +kernel)⟩
theorem lw_p22 : lw_okq (⟨"FrameForge$Machine", "throwObject", "(I)V"⟩, 9) := ⟨⟨by decide +kernel, by decide +kernel⟩, List.mem_of_getElem? (i := 149) (by decide +kernel), List.mem_of_getElem? (i := 539) (by decide +kernel), List.mem_of_getElem? (i := 540) (by decide +kernel)⟩
theorem lw_p23 : lw_okq (⟨"FrameForge$Machine", "closeFrame", "()V"⟩, 9) := ⟨⟨by decide +kernel, by decide +kernel⟩, List.mem_of_getElem? (i := 149) (by decide +kernel), List.mem_of_getElem? (i := 543) (by decide +kernel), List.mem_of_getElem? (i := 544) (by decide +kernel)⟩
theorem lw_p24 : lw_okq (⟨"FrameForge$Machine", "giveBack", "(I)V"⟩, 9) := ⟨⟨by decide +kernel, by decide +kernel⟩, List.mem_of_getElem? (i := 149) (by decide +kernel), List.mem_of_getElem? (i := 547) (by decide +kernel), List.mem_of_getElem? (i := 548) (by decide +kernel)⟩
theorem lw_p25 : lw_okq (⟨"FrameForge$Machine", "reckon", "(LFrameForge$Frame;I)V"⟩, 9) := ⟨⟨by decide +kernel, by decide +kernel⟩, List.mem_of_getElem? (i := 149) (by decide +kernel), List.mem_of_getElem? (i := 552) (by decide +kernel), List.mem_of_getElem? (i := 553) (by decide +kernel)⟩
theorem lw_p26 : lw_okq (⟨"FrameForge$Machine", "shuffle", "(LFrameForge$Frame;I)V"⟩, 9) := ⟨⟨by decide +kernel, by decide +kernel⟩, List.mem_of_getElem? (i := 149) (by decide +kernel), List.mem_of_getElem? (i := 556) (by decide +kernel), List.mem_of_getElem? (i := 557) (by decide +kernel)⟩
theorem lw_p27 : lw_okq (⟨"FrameForge$Machine", "useObject", "(LFrameForge$Frame;I)V"⟩, 9) := ⟨⟨by decide +kernel, by decide +kernel⟩, List.mem_of_getElem? (i := 149) (by decide +kernel), List.mem_of_getElem? (i := 560) (by decide +kernel), List.mem_of_getElem? (i := 561) (by decide +kernel)⟩
theorem lw_p28 : lw_okq (⟨"FrameForge$Machine", "enterLock", "(I)V"⟩, 9) := ⟨⟨by decide +kernel, by decide +kernel⟩, List.mem_of_getElem? (i := 149) (by decide +kernel), List.mem_of_getElem? (i := 564) (by decide +kernel), List.mem_of_getElem? (i := 565) (by decide +kernel)⟩
theorem lw_p29 : lw_okq (⟨"FrameForge$Machine", "leaveLock", "(LFrameForge$Frame;I)Z"⟩, 9) := ⟨⟨by decide +kernel, by decide +kernel⟩, List.mem_of_getElem? (i := 149) (by decide +kernel), List.mem_of_getElem? (i := 568) (by decide +kernel), List.mem_of_getElem? (i := 569) (by decide +kernel)⟩
theorem lw_p30 : lw_okq (⟨"FrameForge$Machine", "findRow", "()V"⟩, 9) := ⟨⟨by decide +kernel, by decide +kernel⟩, List.mem_of_getElem? (i := 149) (by decide +kernel), List.mem_of_getElem? (i := 573) (by decide +kernel), List.mem_of_getElem? (i := 574) (by decide +kernel)⟩
theorem lw_p31 : lw_okq (⟨"FrameForge$Method", "keepsPlain", "(III)Z"⟩, 11) := ⟨⟨by decide +kernel, by decide +kernel⟩, List.mem_of_getElem? (i := 29) (by decide +kernel), List.mem_of_getElem? (i := 632) (by decide +kernel), List.mem_of_getElem? (i := 633) (by decide +kernel)⟩
def lw_privs_2 : List (MethodName × Nat) := [(⟨"FrameForge$Machine", "step", "(LFrameForge$Frame;)V"⟩, 9), (⟨"FrameForge$Machine", "useLocal", "(LFrameForge$Frame;III)V"⟩, 9), (⟨"FrameForge$Machine", "make", "(I)I"⟩, 9), (⟨"FrameForge$Machine", "turn", "(LFrameForge$Frame;III)V"⟩, 9), (⟨"FrameForge$Machine", "beginCall", "(LFrameForge$Frame;I)V"⟩, 9), (⟨"FrameForge$Machine", "throwNew", "(I)V"⟩, 9), (⟨"FrameForge$Machine", "throwObject", "(I)V"⟩, 9), (⟨"FrameForge$Machine", "closeFrame", "()V"⟩, 9), (⟨"FrameForge$Machine", "giveBack", "(I)V"⟩, 9), (⟨"FrameForge$Machine", "reckon", "(LFrameForge$Frame;I)V"⟩, 9), (⟨"FrameForge$Machine", "shuffle", "(LFrameForge$Frame;I)V"⟩, 9), (⟨"FrameForge$Machine", "useObject", "(LFrameForge$Frame;I)V"⟩, 9), (⟨"FrameForge$Machine", "enterLock", "(I)V"⟩, 9), (⟨"FrameForge$Machine", "leaveLock", "(LFrameForge$Frame;I)Z"⟩, 9), (⟨"FrameForge$Machine", "findRow", "()V"⟩, 9), (⟨"FrameForge$Method", "keepsPlain", "(III)Z"⟩, 11)]
theorem lw_r2 : ∀ q ∈ lw_privs_2, lw_okq q := List.forall_mem_cons.mpr ⟨lw_p16, List.forall_mem_cons.mpr ⟨lw_p17, List.forall_mem_cons.mpr ⟨lw_p18, List.forall_mem_cons.mpr ⟨lw_p19, List.forall_mem_cons.mpr ⟨lw_p20, List.forall_mem_cons.mpr ⟨lw_p21, List.forall_mem_cons.mpr ⟨lw_p22, List.forall_mem_cons.mpr ⟨lw_p23, List.forall_mem_cons.mpr ⟨lw_p24, List.forall_mem_cons.mpr ⟨lw_p25, List.forall_mem_cons.mpr ⟨lw_p26, List.forall_mem_cons.mpr ⟨lw_p27, List.forall_mem_cons.mpr ⟨lw_p28, List.forall_mem_cons.mpr ⟨lw_p29, List.forall_mem_cons.mpr ⟨lw_p30, List.forall_mem_cons.mpr ⟨lw_p31, fun _ h => absurd h List.not_mem_nil⟩⟩⟩⟩⟩⟩⟩⟩⟩⟩⟩⟩⟩⟩⟩⟩
theorem lw_p32 : lw_okq (⟨"FrameForge$Method", "leadsInto", "(III)Z"⟩, 11) := ⟨⟨by decide +kernel, by decide +kernel⟩, List.mem_of_getElem? (i := 29) (by decide +kernel), List.mem_of_getElem? (i := 637) (by decide +kernel), List.mem_of_getElem? (i := 638) (by decide +kernel)⟩
theorem lw_p33 : lw_okq (⟨"FrameForge$Rewriter", "spread", "(LFrameForge$Method;II)V"⟩, 4) := ⟨⟨by decide +kernel, by decide +kernel⟩, List.mem_of_getElem? (i := 217) (by decide +kernel), List.mem_of_getElem? (i := 641) (by decide +kernel), List.mem_of_getElem? (i := 642) (by decide +kernel)⟩
theorem lw_p34 : lw_okq (⟨"FrameForge$Rewriter", "moved", "(I)I"⟩, 4) := ⟨⟨by decide +kernel, by decide +kernel⟩, List.mem_of_getElem? (i := 217) (by decide +kernel), List.mem_of_getElem? (i := 647) (by decide +kernel), List.mem_of_getElem? (i := 648) (by decide +kernel)⟩
theorem lw_p35 : lw_okq (⟨"FrameForge$Rewriter", "splitRow", "(LFrameForge$Method;III)V"⟩, 4) := ⟨⟨by decide +kernel, by decide +kernel⟩, List.mem_of_getElem? (i := 217) (by decide +kernel), List.mem_of_getElem? (i := 652) (by decide +kernel), List.mem_of_getElem? (i := 653) (by decide +kernel)⟩
theorem lw_p36 : lw_okq (⟨"FrameForge$Rewriter", "draftRow", "(IIII)V"⟩, 4) := ⟨⟨by decide +kernel, by decide +kernel⟩, List.mem_of_getElem? (i := 217) (by decide +kernel), List.mem_of_getElem? (i := 657) (by decide +kernel), List.mem_of_getElem? (i := 658) (by decide +kernel)⟩
theorem lw_p37 : lw_okq (⟨"FrameForge$Rewriter", "takeOver", "(LFrameForge$Method;)I"⟩, 4) := ⟨⟨by decide +kernel, by decide +kernel⟩, List.mem_of_getElem? (i := 217) (by decide +kernel), List.mem_of_getElem? (i := 663) (by decide +kernel), List.mem_of_getElem? (i := 664) (by decide +kernel)⟩
theorem lw_p38 : lw_okq (⟨"FrameForge$Rewriter", "putCalled", "(LFrameForge$Method;III)V"⟩, 4) := ⟨⟨by decide +kernel, by decide +kernel⟩, List.mem_of_getElem? (i := 217) (by decide +kernel), List.mem_of_getElem? (i := 692) (by decide +kernel), List.mem_of_getElem? (i := 693) (by decide +kernel)⟩
theorem lw_p39 : lw_okq (⟨"FrameForgeModel", "set", "(IIIII)V"⟩, 52) := ⟨⟨by decide +kernel, by decide +kernel⟩, List.mem_of_getElem? (i := 712) (by decide +kernel), List.mem_of_getElem? (i := 885) (by decide +kernel), List.mem_of_getElem? (i := 886) (by decide +kernel)⟩
theorem lw_p40 : lw_okq (⟨"FrameForgeModel", "setRow", "(IIIIII)V"⟩, 52) := ⟨⟨by decide +kernel, by decide +kernel⟩, List.mem_of_getElem? (i := 712) (by decide +kernel), List.mem_of_getElem? (i := 889) (by decide +kernel), List.mem_of_getElem? (i := 890) (by decide +kernel)⟩
theorem lw_p41 : lw_okq (⟨"FrameForgeModel", "own", "(I)I"⟩, 52) := ⟨⟨by decide +kernel, by decide +kernel⟩, List.mem_of_getElem? (i := 712) (by decide +kernel), List.mem_of_getElem? (i := 897) (by decide +kernel), List.mem_of_getElem? (i := 898) (by decide +kernel)⟩
theorem lw_p42 : lw_okq (⟨"FrameForgeModel", "put", "(IIIII)V"⟩, 52) := ⟨⟨by decide +kernel, by decide +kernel⟩, List.mem_of_getElem? (i := 712) (by decide +kernel), List.mem_of_getElem? (i := 914) (by decide +kernel), List.mem_of_getElem? (i := 915) (by decide +kernel)⟩
theorem lw_p43 : lw_okq (⟨"FrameForgeModel", "isRight", "(I)Z"⟩, 52) := ⟨⟨by decide +kernel, by decide +kernel⟩, List.mem_of_getElem? (i := 712) (by decide +kernel), List.mem_of_getElem? (i := 930) (by decide +kernel), List.mem_of_getElem? (i := 931) (by decide +kernel)⟩
theorem lw_p44 : lw_okq (⟨"FrameForgeModel", "arrive", "(II)V"⟩, 52) := ⟨⟨by decide +kernel, by decide +kernel⟩, List.mem_of_getElem? (i := 712) (by decide +kernel), List.mem_of_getElem? (i := 934) (by decide +kernel), List.mem_of_getElem? (i := 935) (by decide +kernel)⟩
theorem lw_p45 : lw_okq (⟨"FrameForgeModel", "fetch", "(I)V"⟩, 52) := ⟨⟨by decide +kernel, by decide +kernel⟩, List.mem_of_getElem? (i := 712) (by decide +kernel), List.mem_of_getElem? (i := 938) (by decide +kernel), List.mem_of_getElem? (i := 939) (by decide +kernel)⟩
theorem lw_p46 : lw_okq (⟨"FrameForgeModel", "leave", "(II)V"⟩, 52) := ⟨⟨by decide +kernel, by decide +kernel⟩, List.mem_of_getElem? (i := 712) (by decide +kernel), List.mem_of_getElem? (i := 942) (by decide +kernel), List.mem_of_getElem? (i := 943) (by decide +kernel)⟩
theorem lw_p47 : lw_okq (⟨"FrameForgeModel", "push", "(I)V"⟩, 52) := ⟨⟨by decide +kernel, by decide +kernel⟩, List.mem_of_getElem? (i := 712) (by decide +kernel), List.mem_of_getElem? (i := 946) (by decide +kernel), List.mem_of_getElem? (i := 947) (by decide +kernel)⟩
def lw_privs_3 : List (MethodName × Nat) := [(⟨"FrameForge$Method", "leadsInto", "(III)Z"⟩, 11), (⟨"FrameForge$Rewriter", "spread", "(LFrameForge$Method;II)V"⟩, 4), (⟨"FrameForge$Rewriter", "moved", "(I)I"⟩, 4), (⟨"FrameForge$Rewriter", "splitRow", "(LFrameForge$Method;III)V"⟩, 4), (⟨"FrameForge$Rewriter", "draftRow", "(IIII)V"⟩, 4), (⟨"FrameForge$Rewriter", "takeOver", "(LFrameForge$Method;)I"⟩, 4), (⟨"FrameForge$Rewriter", "putCalled", "(LFrameForge$Method;III)V"⟩, 4), (⟨"FrameForgeModel", "set", "(IIIII)V"⟩, 52), (⟨"FrameForgeModel", "setRow", "(IIIIII)V"⟩, 52), (⟨"FrameForgeModel", "own", "(I)I"⟩, 52), (⟨"FrameForgeModel", "put", "(IIIII)V"⟩, 52), (⟨"FrameForgeModel", "isRight", "(I)Z"⟩, 52), (⟨"FrameForgeModel", "arrive", "(II)V"⟩, 52), (⟨"FrameForgeModel", "fetch", "(I)V"⟩, 52), (⟨"FrameForgeModel", "leave", "(II)V"⟩, 52), (⟨"FrameForgeModel", "push", "(I)V"⟩, 52)]
theorem lw_r3 : ∀ q ∈ lw_privs_3, lw_okq q := List.forall_mem_cons.mpr ⟨lw_p32, List.forall_mem_cons.mpr ⟨lw_p33, List.forall_mem_cons.mpr ⟨lw_p34, List.forall_mem_cons.mpr ⟨lw_p35, List.forall_mem_cons.mpr ⟨lw_p36, List.forall_mem_cons.mpr ⟨lw_p37, List.forall_mem_cons.mpr ⟨lw_p38, List.forall_mem_cons.mpr ⟨lw_p39, List.forall_mem_cons.mpr ⟨lw_p40, List.forall_mem_cons.mpr ⟨lw_p41, List.forall_mem_cons.mpr ⟨lw_p42, List.forall_mem_cons.mpr ⟨lw_p43, List.forall_mem_cons.mpr ⟨lw_p44, List.forall_mem_cons.mpr ⟨lw_p45, List.forall_mem_cons.mpr ⟨lw_p46, List.forall_mem_cons.mpr ⟨lw_p47, fun _ h => absurd h List.not_mem_nil⟩⟩⟩⟩⟩⟩⟩⟩⟩⟩⟩⟩⟩⟩⟩⟩
theorem lw_p48 : lw_okq (⟨"FrameForgeModel", "take", "(I)V"⟩, 52) := ⟨⟨by decide +kernel, by decide +kernel⟩, List.mem_of_getElem? (i := 712) (by decide +kernel), List.mem_of_getElem? (i := 950) (by decide +kernel), List.mem_of_getElem? (i := 951) (by decide +kernel)⟩
theorem lw_p49 : lw_okq (⟨"FrameForgeModel", "move", "(I)V"⟩, 52) := ⟨⟨by decide +kernel, by decide +kernel⟩, List.mem_of_getElem? (i := 712) (by decide +kernel), List.mem_of_getElem? (i := 954) (by decide +kernel), List.mem_of_getElem? (i := 955) (by decide +kernel)⟩
theorem lw_p50 : lw_okq (⟨"FrameForgeModel", "goOn", "(II)V"⟩, 52) := ⟨⟨by decide +kernel, by decide +kernel⟩, List.mem_of_getElem? (i := 712) (by decide +kernel), List.mem_of_getElem? (i := 958) (by decide +kernel), List.mem_of_getElem? (i := 959) (by decide +kernel)⟩
theorem lw_p51 : lw_okq (⟨"FrameForgeModel", "refuse", "(II)V"⟩, 52) := ⟨⟨by decide +kernel, by decide +kernel⟩, List.mem_of_getElem? (i := 712) (by decide +kernel), List.mem_of_getElem? (i := 962) (by decide +kernel), List.mem_of_getElem? (i := 963) (by decide +kernel)⟩
theorem lw_p52 : lw_okq (⟨"FrameForgeModel", "allRight", "(I)Z"⟩, 52) := ⟨⟨by decide +kernel, by decide +kernel⟩, List.mem_of_getElem? (i := 712) (by decide +kernel), List.mem_of_getElem? (i := 974) (by decide +kernel), List.mem_of_getElem? (i := 975) (by decide +kernel)⟩
theorem lw_p53 : lw_okq (⟨"FrameForgeModel", "go", "(IIIII)I"⟩, 52) := ⟨⟨by decide +kernel, by decide +kernel⟩, List.mem_of_getElem? (i := 712) (by decide +kernel), List.mem_of_getElem? (i := 978) (by decide +kernel), List.mem_of_getElem? (i := 979) (by decide +kernel)⟩
theorem lw_p54 : lw_okq (⟨"FrameForgeModel", "begin", "(I)V"⟩, 52) := ⟨⟨by decide +kernel, by decide +kernel⟩, List.mem_of_getElem? (i := 712) (by decide +kernel), List.mem_of_getElem? (i := 982) (by decide +kernel), List.mem_of_getElem? (i := 983) (by decide +kernel)⟩
theorem lw_p55 : lw_okq (⟨"FrameForgeModel", "tell", "(II)V"⟩, 52) := ⟨⟨by decide +kernel, by decide +kernel⟩, List.mem_of_getElem? (i := 712) (by decide +kernel), List.mem_of_getElem? (i := 986) (by decide +kernel), List.mem_of_getElem? (i := 987) (by decide +kernel)⟩
theorem lw_p56 : lw_okq (⟨"FrameForgeModel", "step", "()V"⟩, 52) := ⟨⟨by decide +kernel, by decide +kernel⟩, List.mem_of_getElem? (i := 712) (by decide +kernel), List.mem_of_getElem? (i := 990) (by decide +kernel), List.mem_of_getElem? (i := 991) (by decide +kernel)⟩
theorem lw_p57 : lw_okq (⟨"FrameForgeModel", "pop", "()I"⟩, 52) := ⟨⟨by decide +kernel, by decide +kernel⟩, List.mem_of_getElem? (i := 712) (by decide +kernel), List.mem_of_getElem? (i := 994) (by decide +kernel), List.mem_of_getElem? (i := 995) (by decide +kernel)⟩
theorem lw_p58 : lw_okq (⟨"FrameForgeModel", "sum", "(III)V"⟩, 52) := ⟨⟨by decide +kernel, by decide +kernel⟩, List.mem_of_getElem? (i := 712) (by decide +kernel), List.mem_of_getElem? (i := 998) (by decide +kernel), List.mem_of_getElem? (i := 999) (by decide +kernel)⟩
theorem lw_p59 : lw_okq (⟨"FrameForgeModel", "machine", "(I)V"⟩, 52) := ⟨⟨by decide +kernel, by decide +kernel⟩, List.mem_of_getElem? (i := 712) (by decide +kernel), List.mem_of_getElem? (i := 1002) (by decide +kernel), List.mem_of_getElem? (i := 1003) (by decide +kernel)⟩
theorem lw_p60 : lw_okq (⟨"FrameForgeModel", "make", "(I)I"⟩, 52) := ⟨⟨by decide +kernel, by decide +kernel⟩, List.mem_of_getElem? (i := 712) (by decide +kernel), List.mem_of_getElem? (i := 1006) (by decide +kernel), List.mem_of_getElem? (i := 1007) (by decide +kernel)⟩
theorem lw_p61 : lw_okq (⟨"FrameForgeModel", "raise", "(I)V"⟩, 52) := ⟨⟨by decide +kernel, by decide +kernel⟩, List.mem_of_getElem? (i := 712) (by decide +kernel), List.mem_of_getElem? (i := 1010) (by decide +kernel), List.mem_of_getElem? (i := 1011) (by decide +kernel)⟩
theorem lw_p62 : lw_okq (⟨"FrameForgeModel", "finish", "(I)I"⟩, 52) := ⟨⟨by decide +kernel, by decide +kernel⟩, List.mem_of_getElem? (i := 712) (by decide +kernel), List.mem_of_getElem? (i := 1017) (by decide +kernel), List.mem_of_getElem? (i := 1018) (by decide +kernel)⟩
theorem lw_p63 : lw_okq (⟨"FrameForgeModel", "give", "(I)V"⟩, 52) := ⟨⟨by decide +kernel, by decide +kernel⟩, List.mem_of_getElem? (i := 712) (by decide +kernel), List.mem_of_getElem? (i := 1021) (by decide +kernel), List.mem_of_getElem? (i := 1022) (by decide +kernel)⟩
def lw_privs_4 : List (MethodName × Nat) := [(⟨"FrameForgeModel", "take", "(I)V"⟩, 52), (⟨"FrameForgeModel", "move", "(I)V"⟩, 52), (⟨"FrameForgeModel", "goOn", "(II)V"⟩, 52), (⟨"FrameForgeModel", "refuse", "(II)V"⟩, 52), (⟨"FrameForgeModel", "allRight", "(I)Z"⟩, 52), (⟨"FrameForgeModel", "go", "(IIIII)I"⟩, 52), (⟨"FrameForgeModel", "begin", "(I)V"⟩, 52), (⟨"FrameForgeModel", "tell", "(II)V"⟩, 52), (⟨"FrameForgeModel", "step", "()V"⟩, 52), (⟨"FrameForgeModel", "pop", "()I"⟩, 52), (⟨"FrameForgeModel", "sum", "(III)V"⟩, 52), (⟨"FrameForgeModel", "machine", "(I)V"⟩, 52), (⟨"FrameForgeModel", "make", "(I)I"⟩, 52), (⟨"FrameForgeModel", "raise", "(I)V"⟩, 52), (⟨"FrameForgeModel", "finish", "(I)I"⟩, 52), (⟨"FrameForgeModel", "give", "(I)V"⟩, 52)]
theorem lw_r4 : ∀ q ∈ lw_privs_4, lw_okq q := List.forall_mem_cons.mpr ⟨lw_p48, List.forall_mem_cons.mpr ⟨lw_p49, List.forall_mem_cons.mpr ⟨lw_p50, List.forall_mem_cons.mpr ⟨lw_p51, List.forall_mem_cons.mpr ⟨lw_p52, List.forall_mem_cons.mpr ⟨lw_p53, List.forall_mem_cons.mpr ⟨lw_p54, List.forall_mem_cons.mpr ⟨lw_p55, List.forall_mem_cons.mpr ⟨lw_p56, List.forall_mem_cons.mpr ⟨lw_p57, List.forall_mem_cons.mpr ⟨lw_p58, List.forall_mem_cons.mpr ⟨lw_p59, List.forall_mem_cons.mpr ⟨lw_p60, List.forall_mem_cons.mpr ⟨lw_p61, List.forall_mem_cons.mpr ⟨lw_p62, List.forall_mem_cons.mpr ⟨lw_p63, fun _ h => absurd h List.not_mem_nil⟩⟩⟩⟩⟩⟩⟩⟩⟩⟩⟩⟩⟩⟩⟩⟩
theorem lw_p64 : lw_okq (⟨"FrameForgeModel", "onObject", "(III)V"⟩, 52) := ⟨⟨by decide +kernel, by decide +kernel⟩, List.mem_of_getElem? (i := 712) (by decide +kernel), List.mem_of_getElem? (i := 1025) (by decide +kernel), List.mem_of_getElem? (i := 1026) (by decide +kernel)⟩
theorem lw_p65 : lw_okq (⟨"FrameForgeModel", "release", "(I)V"⟩, 52) := ⟨⟨by decide +kernel, by decide +kernel⟩, List.mem_of_getElem? (i := 712) (by decide +kernel), List.mem_of_getElem? (i := 1029) (by decide +kernel), List.mem_of_getElem? (i := 1030) (by decide +kernel)⟩
theorem lw_p66 : lw_okq (⟨"FrameForgeModel", "call", "(I)V"⟩, 52) := ⟨⟨by decide +kernel, by decide +kernel⟩, List.mem_of_getElem? (i := 712) (by decide +kernel), List.mem_of_getElem? (i := 1033) (by decide +kernel), List.mem_of_getElem? (i := 1034) (by decide +kernel)⟩
theorem lw_p67 : lw_okq (⟨"FrameForgeModel", "back", "(I)V"⟩, 52) := ⟨⟨by decide +kernel, by decide +kernel⟩, List.mem_of_getElem? (i := 712) (by decide +kernel), List.mem_of_getElem? (i := 1037) (by decide +kernel), List.mem_of_getElem? (i := 1038) (by decide +kernel)⟩
theorem lw_p68 : lw_okq (⟨"FrameForgeModel", "endOf", "(II)I"⟩, 52) := ⟨⟨by decide +kernel, by decide +kernel⟩, List.mem_of_getElem? (i := 712) (by decide +kernel), List.mem_of_getElem? (i := 1058) (by decide +kernel), List.mem_of_getElem? (i := 1059) (by decide +kernel)⟩
theorem lw_p69 : lw_okq (⟨"FrameForgeModel", "newRow", "(IIII)V"⟩, 52) := ⟨⟨by decide +kernel, by decide +kernel⟩, List.mem_of_getElem? (i := 712) (by decide +kernel), List.mem_of_getElem? (i := 1065) (by decide +kernel), List.mem_of_getElem? (i := 1066) (by decide +kernel)⟩
theorem lw_p70 : lw_okq (⟨"FrameForgeModel", "newInstruction", "(IIII)V"⟩, 52) := ⟨⟨by decide +kernel, by decide +kernel⟩, List.mem_of_getElem? (i := 712) (by decide +kernel), List.mem_of_getElem? (i := 1069) (by decide +kernel), List.mem_of_getElem? (i := 1070) (by decide +kernel)⟩
theorem lw_p71 : lw_okq (⟨"FrameForgeModel", "replace", "(III)I"⟩, 52) := ⟨⟨by decide +kernel, by decide +kernel⟩, List.mem_of_getElem? (i := 712) (by decide +kernel), List.mem_of_getElem? (i := 1073) (by decide +kernel), List.mem_of_getElem? (i := 1074) (by decide +kernel)⟩
theorem lw_p72 : lw_okq (⟨"FrameForgeModel", "greatest", "(IZ)I"⟩, 52) := ⟨⟨by decide +kernel, by decide +kernel⟩, List.mem_of_getElem? (i := 712) (by decide +kernel), List.mem_of_getElem? (i := 1081) (by decide +kernel), List.mem_of_getElem? (i := 1082) (by decide +kernel)⟩
theorem lw_p73 : lw_okq (⟨"FrameForgeModel", "mayInline", "(IIII)Z"⟩, 52) := ⟨⟨by decide +kernel, by decide +kernel⟩, List.mem_of_getElem? (i := 712) (by decide +kernel), List.mem_of_getElem? (i := 1085) (by decide +kernel), List.mem_of_getElem? (i := 1086) (by decide +kernel)⟩
def lw_privs_5 : List (MethodName × Nat) := [(⟨"FrameForgeModel", "onObject", "(III)V"⟩, 52), (⟨"FrameForgeModel", "release", "(I)V"⟩, 52), (⟨"FrameForgeModel", "call", "(I)V"⟩, 52), (⟨"FrameForgeModel", "back", "(I)V"⟩, 52), (⟨"FrameForgeModel", "endOf", "(II)I"⟩, 52), (⟨"FrameForgeModel", "newRow", "(IIII)V"⟩, 52), (⟨"FrameForgeModel", "newInstruction", "(IIII)V"⟩, 52), (⟨"FrameForgeModel", "replace", "(III)I"⟩, 52), (⟨"FrameForgeModel", "greatest", "(IZ)I"⟩, 52), (⟨"FrameForgeModel", "mayInline", "(IIII)Z"⟩, 52)]
theorem lw_r5 : ∀ q ∈ lw_privs_5, lw_okq q := List.forall_mem_cons.mpr ⟨lw_p64, List.forall_mem_cons.mpr ⟨lw_p65, List.forall_mem_cons.mpr ⟨lw_p66, List.forall_mem_cons.mpr ⟨lw_p67, List.forall_mem_cons.mpr ⟨lw_p68, List.forall_mem_cons.mpr ⟨lw_p69, List.forall_mem_cons.mpr ⟨lw_p70, List.forall_mem_cons.mpr ⟨lw_p71, List.forall_mem_cons.mpr ⟨lw_p72, List.forall_mem_cons.mpr ⟨lw_p73, fun _ h => absurd h List.not_mem_nil⟩⟩⟩⟩⟩⟩⟩⟩⟩⟩
def lw_privs : List (MethodName × Nat) := lw_privs_1 ++ (lw_privs_2 ++ (lw_privs_3 ++ (lw_privs_4 ++ (lw_privs_5))))
def lw_tbl : List Cond := k2_sels lw_privs ++ tables_1
theorem lw_privs_ok : ∀ q ∈ lw_privs, lw_okq q := by
  show ∀ q ∈ lw_privs_1 ++ (lw_privs_2 ++ (lw_privs_3 ++ (lw_privs_4 ++ (lw_privs_5)))), lw_okq q
  exact List.forall_mem_append.mpr ⟨lw_r1, List.forall_mem_append.mpr ⟨lw_r2, List.forall_mem_append.mpr ⟨lw_r3, List.forall_mem_append.mpr ⟨lw_r4, lw_r5⟩⟩⟩⟩

def am_R0 : String := "FrameForge"
def am_F0 : u_T := fun k => match k with
  | 0 => ("FrameForge", "programs", "[LFrameForge$Program;", true)
  | 1 => ("FrameForge", "checker", "LFrameForge$Checker;", true)
  | 2 => ("FrameForge", "machine", "LFrameForge$Machine;", true)
  | 3 => ("FrameForge", "rewriter", "LFrameForge$Rewriter;", true)
  | 4 => ("FrameForge", "latest", "LFrameForge$Ledger;", true)
  | 5 => ("FrameForge", "other", "LFrameForge$Ledger;", true)
  | _ => ("FrameForge", "written", "I", false)
def am_t0 : Nat → FieldType := fun k => match k with
  | 0 => .array (.object "FrameForge$Program")
  | 1 => .object "FrameForge$Checker"
  | 2 => .object "FrameForge$Machine"
  | 3 => .object "FrameForge$Rewriter"
  | 4 => .object "FrameForge$Ledger"
  | 5 => .object "FrameForge$Ledger"
  | _ => .int
def am_R1 : String := "FrameForge$Method"
def am_F1 : u_T := fun k => match k with
  | 0 => ("FrameForge$Method", "op", "[I", true)
  | 1 => ("FrameForge$Method", "a", "[I", true)
  | 2 => ("FrameForge$Method", "b", "[I", true)
  | 3 => ("FrameForge$Method", "from", "[I", true)
  | 4 => ("FrameForge$Method", "to", "[I", true)
  | 5 => ("FrameForge$Method", "at", "[I", true)
  | 6 => ("FrameForge$Method", "type", "[I", true)
  | 7 => ("FrameForge$Method", "size", "I", false)
  | 8 => ("FrameForge$Method", "rows", "I", false)
  | 9 => ("FrameForge$Method", "arguments", "I", false)
  | _ => ("FrameForge$Method", "locked", "Z", false)
def am_t1 : Nat → FieldType := fun k => match k with
  | 0 => .array .int
  | 1 => .array .int
  | 2 => .array .int
  | 3 => .array .int
  | 4 => .array .int
  | 5 => .array .int
  | 6 => .array .int
  | 7 => .int
  | 8 => .int
  | 9 => .int
  | _ => .boolean
def am_R2 : String := "FrameForge$Program"
def am_F2 : u_T := fun k => match k with
  | _ => ("FrameForge$Program", "methods", "[LFrameForge$Method;", true)
def am_t2 : Nat → FieldType := fun k => match k with
  | _ => .array (.object "FrameForge$Method")
def am_R3 : String := "FrameForge$Checker"
def am_F3 : u_T := fun k => match k with
  | 0 => ("FrameForge$Checker", "depths", "[I", true)
  | 1 => ("FrameForge$Checker", "places", "I", false)
  | 2 => ("FrameForge$Checker", "kinds", "[I", true)
  | 3 => ("FrameForge$Checker", "reached", "[Z", true)
  | 4 => ("FrameForge$Checker", "waiting", "[Z", true)
  | 5 => ("FrameForge$Checker", "now", "[I", true)
  | 6 => ("FrameForge$Checker", "caught", "[I", true)
  | 7 => ("FrameForge$Checker", "depth", "I", false)
  | 8 => ("FrameForge$Checker", "size", "I", false)
  | _ => ("FrameForge$Checker", "wrong", "Z", false)
def am_t3 : Nat → FieldType := fun k => match k with
  | 0 => .array .int
  | 1 => .int
  | 2 => .array .int
  | 3 => .array .boolean
  | 4 => .array .boolean
  | 5 => .array .int
  | 6 => .array .int
  | 7 => .int
  | 8 => .int
  | _ => .boolean
def am_R4 : String := "FrameForge$Ledger"
def am_F4 : u_T := fun k => match k with
  | 0 => ("FrameForge$Ledger", "kept", "[I", true)
  | 1 => ("FrameForge$Ledger", "ending", "I", false)
  | 2 => ("FrameForge$Ledger", "value", "I", false)
  | 3 => ("FrameForge$Ledger", "done", "I", false)
  | 4 => ("FrameForge$Ledger", "made", "I", false)
  | 5 => ("FrameForge$Ledger", "mostFrames", "I", false)
  | 6 => ("FrameForge$Ledger", "entries", "I", false)
  | _ => ("FrameForge$Ledger", "had", "I", false)
def am_t4 : Nat → FieldType := fun k => match k with
  | 0 => .array .int
  | 1 => .int
  | 2 => .int
  | 3 => .int
  | 4 => .int
  | 5 => .int
  | 6 => .int
  | _ => .int
def am_R5 : String := "FrameForge$Frame"
def am_F5 : u_T := fun k => match k with
  | 0 => ("FrameForge$Frame", "locals", "[I", true)
  | 1 => ("FrameForge$Frame", "stack", "[I", true)
  | 2 => ("FrameForge$Frame", "depth", "I", false)
  | 3 => ("FrameForge$Frame", "place", "I", false)
  | 4 => ("FrameForge$Frame", "next", "I", false)
  | 5 => ("FrameForge$Frame", "number", "I", false)
  | _ => ("FrameForge$Frame", "firstLock", "I", false)
def am_t5 : Nat → FieldType := fun k => match k with
  | 0 => .array .int
  | 1 => .array .int
  | 2 => .int
  | 3 => .int
  | 4 => .int
  | 5 => .int
  | _ => .int
def am_R6 : String := "FrameForge$Machine"
def am_F6 : u_T := fun k => match k with
  | 0 => ("FrameForge$Machine", "frames", "[LFrameForge$Frame;", true)
  | 1 => ("FrameForge$Machine", "types", "[I", true)
  | 2 => ("FrameForge$Machine", "items", "[I", true)
  | 3 => ("FrameForge$Machine", "locks", "[I", true)
  | 4 => ("FrameForge$Machine", "program", "LFrameForge$Program;", false)
  | 5 => ("FrameForge$Machine", "ledger", "LFrameForge$Ledger;", false)
  | 6 => ("FrameForge$Machine", "open", "I", false)
  | 7 => ("FrameForge$Machine", "held", "I", false)
  | _ => ("FrameForge$Machine", "thrown", "I", false)
def am_t6 : Nat → FieldType := fun k => match k with
  | 0 => .array (.object "FrameForge$Frame")
  | 1 => .array .int
  | 2 => .array .int
  | 3 => .array .int
  | 4 => .object "FrameForge$Program"
  | 5 => .object "FrameForge$Ledger"
  | 6 => .int
  | 7 => .int
  | _ => .int
def am_R7 : String := "FrameForge$Rewriter"
def am_F7 : u_T := fun k => match k with
  | 0 => ("FrameForge$Rewriter", "draft", "LFrameForge$Method;", true)
  | 1 => ("FrameForge$Rewriter", "gap", "I", false)
  | 2 => ("FrameForge$Rewriter", "more", "I", false)
  | _ => ("FrameForge$Rewriter", "full", "Z", false)
def am_t7 : Nat → FieldType := fun k => match k with
  | 0 => .object "FrameForge$Method"
  | 1 => .int
  | 2 => .int
  | _ => .boolean
def am_R8 : String := "FrameForgeModel"
def am_F8 : u_T := fun k => match k with
  | 0 => ("FrameForgeModel", "op", "[I", true)
  | 1 => ("FrameForgeModel", "one", "[I", true)
  | 2 => ("FrameForgeModel", "two", "[I", true)
  | 3 => ("FrameForgeModel", "many", "[I", true)
  | 4 => ("FrameForgeModel", "takes", "[I", true)
  | 5 => ("FrameForgeModel", "rows", "[I", true)
  | 6 => ("FrameForgeModel", "from", "[I", true)
  | 7 => ("FrameForgeModel", "to", "[I", true)
  | 8 => ("FrameForgeModel", "at", "[I", true)
  | 9 => ("FrameForgeModel", "type", "[I", true)
  | 10 => ("FrameForgeModel", "locked", "[Z", true)
  | 11 => ("FrameForgeModel", "written", "I", false)
  | 12 => ("FrameForgeModel", "come", "[Z", true)
  | 13 => ("FrameForgeModel", "deep", "[I", true)
  | 14 => ("FrameForgeModel", "sKind", "[I", true)
  | 15 => ("FrameForgeModel", "lKind", "[I", true)
  | 16 => ("FrameForgeModel", "kind", "[I", true)
  | 17 => ("FrameForgeModel", "local", "[I", true)
  | 18 => ("FrameForgeModel", "depth", "I", false)
  | 19 => ("FrameForgeModel", "checked", "I", false)
  | 20 => ("FrameForgeModel", "right", "Z", false)
  | 21 => ("FrameForgeModel", "changed", "Z", false)
  | 22 => ("FrameForgeModel", "seen", "[Z", true)
  | 23 => ("FrameForgeModel", "objectType", "[I", true)
  | 24 => ("FrameForgeModel", "item", "[I", true)
  | 25 => ("FrameForgeModel", "entered", "[I", true)
  | 26 => ("FrameForgeModel", "fMethod", "[I", true)
  | 27 => ("FrameForgeModel", "fPlace", "[I", true)
  | 28 => ("FrameForgeModel", "fDepth", "[I", true)
  | 29 => ("FrameForgeModel", "fBase", "[I", true)
  | 30 => ("FrameForgeModel", "value", "[I", true)
  | 31 => ("FrameForgeModel", "fLocal", "[I", true)
  | 32 => ("FrameForgeModel", "trace", "[I", true)
  | 33 => ("FrameForgeModel", "kept", "[I", true)
  | 34 => ("FrameForgeModel", "objects", "I", false)
  | 35 => ("FrameForgeModel", "holds", "I", false)
  | 36 => ("FrameForgeModel", "frames", "I", false)
  | 37 => ("FrameForgeModel", "most", "I", false)
  | 38 => ("FrameForgeModel", "done", "I", false)
  | 39 => ("FrameForgeModel", "told", "I", false)
  | 40 => ("FrameForgeModel", "had", "I", false)
  | 41 => ("FrameForgeModel", "result", "I", false)
  | 42 => ("FrameForgeModel", "ended", "I", false)
  | 43 => ("FrameForgeModel", "over", "Z", false)
  | 44 => ("FrameForgeModel", "newOp", "[I", true)
  | 45 => ("FrameForgeModel", "newOne", "[I", true)
  | 46 => ("FrameForgeModel", "newTwo", "[I", true)
  | 47 => ("FrameForgeModel", "newFrom", "[I", true)
  | 48 => ("FrameForgeModel", "newTo", "[I", true)
  | 49 => ("FrameForgeModel", "newAt", "[I", true)
  | 50 => ("FrameForgeModel", "newType", "[I", true)
  | _ => ("FrameForgeModel", "newRows", "I", false)
def am_t8 : Nat → FieldType := fun k => match k with
  | 0 => .array .int
  | 1 => .array .int
  | 2 => .array .int
  | 3 => .array .int
  | 4 => .array .int
  | 5 => .array .int
  | 6 => .array .int
  | 7 => .array .int
  | 8 => .array .int
  | 9 => .array .int
  | 10 => .array .boolean
  | 11 => .int
  | 12 => .array .boolean
  | 13 => .array .int
  | 14 => .array .int
  | 15 => .array .int
  | 16 => .array .int
  | 17 => .array .int
  | 18 => .int
  | 19 => .int
  | 20 => .boolean
  | 21 => .boolean
  | 22 => .array .boolean
  | 23 => .array .int
  | 24 => .array .int
  | 25 => .array .int
  | 26 => .array .int
  | 27 => .array .int
  | 28 => .array .int
  | 29 => .array .int
  | 30 => .array .int
  | 31 => .array .int
  | 32 => .array .int
  | 33 => .array .int
  | 34 => .int
  | 35 => .int
  | 36 => .int
  | 37 => .int
  | 38 => .int
  | 39 => .int
  | 40 => .int
  | 41 => .int
  | 42 => .int
  | 43 => .boolean
  | 44 => .array .int
  | 45 => .array .int
  | 46 => .array .int
  | 47 => .array .int
  | 48 => .array .int
  | 49 => .array .int
  | 50 => .array .int
  | _ => .int
abbrev am_cl : List vw_C := [(am_R0, am_F0, 7), (am_R1, am_F1, 11), (am_R2, am_F2, 1), (am_R3, am_F3, 10), (am_R4, am_F4, 8), (am_R5, am_F5, 7), (am_R6, am_F6, 9), (am_R7, am_F7, 4), (am_R8, am_F8, 52)]
def am_ft (ci : Nat) : Nat → FieldType := match ci with
  | 0 => am_t0
  | 1 => am_t1
  | 2 => am_t2
  | 3 => am_t3
  | 4 => am_t4
  | 5 => am_t5
  | 6 => am_t6
  | 7 => am_t7
  | _ => am_t8
def am_nrc : Nat := 3
def am_rc (t : Nat) : String := match t with
  | 0 => "FrameForge$Program"
  | 1 => "FrameForge$Method"
  | _ => "FrameForge$Frame"
def am_ms0 : List (MethodName × ByteArray × Nat × Option FieldType) := [
  (⟨"FrameForge", "<init>", "()V"⟩, prog_1_method_1_code, 2, .none),
  (⟨"FrameForge", "write", "(I)Z"⟩, prog_1_method_2_code, 2, .some (FieldType.boolean)),
  (⟨"FrameForge", "branch", "()I"⟩, prog_1_method_3_code, 1, .some (FieldType.int)),
  (⟨"FrameForge", "method", "(IIZ)Z"⟩, prog_1_method_4_code, 4, .some (FieldType.boolean)),
  (⟨"FrameForge", "add", "(IIII)I"⟩, prog_1_method_5_code, 6, .some (FieldType.int)),
  (⟨"FrameForge", "change", "(IIIII)Z"⟩, prog_1_method_6_code, 7, .some (FieldType.boolean)),
  (⟨"FrameForge", "row", "(IIIII)I"⟩, prog_1_method_7_code, 9, .some (FieldType.int)),
  (⟨"FrameForge", "check", "(I)I"⟩, prog_1_method_8_code, 2, .some (FieldType.int)),
  (⟨"FrameForge", "kindAt", "(III)I"⟩, prog_1_method_9_code, 6, .some (FieldType.int)),
  (⟨"FrameForge", "run", "(IIIIII)I"⟩, prog_1_method_10_code, 8, .some (FieldType.int)),
  (⟨"FrameForge", "ran", "(I)I"⟩, prog_1_method_11_code, 2, .some (FieldType.int)),
  (⟨"FrameForge", "trace", "(I)I"⟩, prog_1_method_12_code, 2, .some (FieldType.int)),
  (⟨"FrameForge", "compare", "(IIII)I"⟩, prog_1_method_13_code, 5, .some (FieldType.int)),
  (⟨"FrameForge", "unfold", "(II)I"⟩, prog_1_method_14_code, 3, .some (FieldType.int)),
  (⟨"FrameForge", "inline", "(II)I"⟩, prog_1_method_15_code, 9, .some (FieldType.int)),
  (⟨"FrameForge", "code", "(III)I"⟩, prog_1_method_16_code, 5, .some (FieldType.int)),
  (⟨"FrameForge", "table", "(III)I"⟩, prog_1_method_17_code, 5, .some (FieldType.int)),
  (⟨"FrameForge", "writtenMethod", "(I)LFrameForge$Method;"⟩, prog_1_method_18_code, 2, .some ((FieldType.object "FrameForge$Method"))),
  (⟨"FrameForge", "allSound", "(LFrameForge$Program;I)Z"⟩, prog_1_method_19_code, 5, .some (FieldType.boolean)),
  (⟨"FrameForge", "isBelow", "(II)Z"⟩, prog_1_method_20_code, 2, .some (FieldType.boolean)),
  (⟨"FrameForge", "hasBit", "(II)Z"⟩, prog_1_method_21_code, 2, .some (FieldType.boolean)),
  (⟨"FrameForge", "isInstruction", "(III)Z"⟩, prog_1_method_22_code, 3, .some (FieldType.boolean)),
  (⟨"FrameForge", "isOperand", "(II)Z"⟩, prog_1_method_23_code, 2, .some (FieldType.boolean)),
  (⟨"FrameForge", "isJump", "(I)Z"⟩, prog_1_method_24_code, 1, .some (FieldType.boolean)),
  (⟨"FrameForgeModel", "<init>", "()V"⟩, prog_10_method_1_code, 1, .none),
  (⟨"FrameForgeModel", "in", "(III)Z"⟩, prog_10_method_2_code, 3, .some (FieldType.boolean)),
  (⟨"FrameForgeModel", "own", "(I)I"⟩, prog_10_method_3_code, 2, .some (FieldType.int)),
  (⟨"FrameForgeModel", "write", "(I)Z"⟩, prog_10_method_4_code, 2, .some (FieldType.boolean)),
  (⟨"FrameForgeModel", "branch", "()I"⟩, prog_10_method_5_code, 4, .some (FieldType.int)),
  (⟨"FrameForgeModel", "method", "(IIZ)Z"⟩, prog_10_method_6_code, 5, .some (FieldType.boolean)),
  (⟨"FrameForgeModel", "set", "(IIIII)V"⟩, prog_10_method_7_code, 6, .none),
  (⟨"FrameForgeModel", "setRow", "(IIIIII)V"⟩, prog_10_method_8_code, 7, .none),
  (⟨"FrameForgeModel", "isJump", "(I)Z"⟩, prog_10_method_9_code, 1, .some (FieldType.boolean)),
  (⟨"FrameForgeModel", "mostA", "(I)I"⟩, prog_10_method_10_code, 1, .some (FieldType.int)),
  (⟨"FrameForgeModel", "isGood", "(III)Z"⟩, prog_10_method_11_code, 4, .some (FieldType.boolean)),
  (⟨"FrameForgeModel", "put", "(IIIII)V"⟩, prog_10_method_12_code, 6, .none),
  (⟨"FrameForgeModel", "add", "(IIII)I"⟩, prog_10_method_13_code, 7, .some (FieldType.int)),
  (⟨"FrameForgeModel", "change", "(IIIII)Z"⟩, prog_10_method_14_code, 7, .some (FieldType.boolean)),
  (⟨"FrameForgeModel", "row", "(IIIII)I"⟩, prog_10_method_15_code, 7, .some (FieldType.int)),
  (⟨"FrameForgeModel", "push", "(I)V"⟩, prog_10_method_16_code, 2, .none)]
def am_ms1 : List (MethodName × ByteArray × Nat × Option FieldType) := [
  (⟨"FrameForgeModel", "take", "(I)V"⟩, prog_10_method_17_code, 2, .none),
  (⟨"FrameForgeModel", "fetch", "(I)V"⟩, prog_10_method_18_code, 3, .none),
  (⟨"FrameForgeModel", "arrive", "(II)V"⟩, prog_10_method_19_code, 5, .none),
  (⟨"FrameForgeModel", "move", "(I)V"⟩, prog_10_method_20_code, 4, .none),
  (⟨"FrameForgeModel", "leave", "(II)V"⟩, prog_10_method_21_code, 6, .none),
  (⟨"FrameForgeModel", "goOn", "(II)V"⟩, prog_10_method_22_code, 7, .none),
  (⟨"FrameForgeModel", "refuse", "(II)V"⟩, prog_10_method_23_code, 4, .none),
  (⟨"FrameForgeModel", "isRight", "(I)Z"⟩, prog_10_method_24_code, 3, .some (FieldType.boolean)),
  (⟨"FrameForgeModel", "check", "(I)I"⟩, prog_10_method_25_code, 5, .some (FieldType.int)),
  (⟨"FrameForgeModel", "kindAt", "(III)I"⟩, prog_10_method_26_code, 5, .some (FieldType.int)),
  (⟨"FrameForgeModel", "isUnder", "(II)Z"⟩, prog_10_method_27_code, 3, .some (FieldType.boolean)),
  (⟨"FrameForgeModel", "tell", "(II)V"⟩, prog_10_method_28_code, 3, .none),
  (⟨"FrameForgeModel", "make", "(I)I"⟩, prog_10_method_29_code, 2, .some (FieldType.int)),
  (⟨"FrameForgeModel", "begin", "(I)V"⟩, prog_10_method_30_code, 2, .none),
  (⟨"FrameForgeModel", "finish", "(I)I"⟩, prog_10_method_31_code, 5, .some (FieldType.int)),
  (⟨"FrameForgeModel", "raise", "(I)V"⟩, prog_10_method_32_code, 8, .none),
  (⟨"FrameForgeModel", "machine", "(I)V"⟩, prog_10_method_33_code, 3, .none),
  (⟨"FrameForgeModel", "pop", "()I"⟩, prog_10_method_34_code, 2, .some (FieldType.int)),
  (⟨"FrameForgeModel", "give", "(I)V"⟩, prog_10_method_35_code, 3, .none),
  (⟨"FrameForgeModel", "call", "(I)V"⟩, prog_10_method_36_code, 5, .none),
  (⟨"FrameForgeModel", "back", "(I)V"⟩, prog_10_method_37_code, 3, .none),
  (⟨"FrameForgeModel", "release", "(I)V"⟩, prog_10_method_38_code, 4, .none),
  (⟨"FrameForgeModel", "sum", "(III)V"⟩, prog_10_method_39_code, 4, .none),
  (⟨"FrameForgeModel", "onObject", "(III)V"⟩, prog_10_method_40_code, 4, .none),
  (⟨"FrameForgeModel", "step", "()V"⟩, prog_10_method_41_code, 14, .none),
  (⟨"FrameForgeModel", "allRight", "(I)Z"⟩, prog_10_method_42_code, 6, .some (FieldType.boolean)),
  (⟨"FrameForgeModel", "go", "(IIIII)I"⟩, prog_10_method_43_code, 6, .some (FieldType.int)),
  (⟨"FrameForgeModel", "run", "(IIIIII)I"⟩, prog_10_method_44_code, 8, .some (FieldType.int)),
  (⟨"FrameForgeModel", "ran", "(I)I"⟩, prog_10_method_45_code, 2, .some (FieldType.int)),
  (⟨"FrameForgeModel", "trace", "(I)I"⟩, prog_10_method_46_code, 2, .some (FieldType.int)),
  (⟨"FrameForgeModel", "compare", "(IIII)I"⟩, prog_10_method_47_code, 11, .some (FieldType.int)),
  (⟨"FrameForgeModel", "shifted", "(III)I"⟩, prog_10_method_48_code, 3, .some (FieldType.int)),
  (⟨"FrameForgeModel", "newRow", "(IIII)V"⟩, prog_10_method_49_code, 5, .none),
  (⟨"FrameForgeModel", "replace", "(III)I"⟩, prog_10_method_50_code, 9, .some (FieldType.int)),
  (⟨"FrameForgeModel", "newInstruction", "(IIII)V"⟩, prog_10_method_51_code, 5, .none),
  (⟨"FrameForgeModel", "endOf", "(II)I"⟩, prog_10_method_52_code, 10, .some (FieldType.int)),
  (⟨"FrameForgeModel", "unfold", "(II)I"⟩, prog_10_method_53_code, 17, .some (FieldType.int)),
  (⟨"FrameForgeModel", "greatest", "(IZ)I"⟩, prog_10_method_54_code, 7, .some (FieldType.int)),
  (⟨"FrameForgeModel", "mayInline", "(IIII)Z"⟩, prog_10_method_55_code, 8, .some (FieldType.boolean)),
  (⟨"FrameForgeModel", "inline", "(II)I"⟩, prog_10_method_56_code, 14, .some (FieldType.int))]
def am_ms2 : List (MethodName × ByteArray × Nat × Option FieldType) := [
  (⟨"FrameForgeModel", "code", "(III)I"⟩, prog_10_method_57_code, 5, .some (FieldType.int)),
  (⟨"FrameForgeModel", "table", "(III)I"⟩, prog_10_method_58_code, 6, .some (FieldType.int)),
  (⟨"FrameForge$Checker", "<init>", "()V"⟩, prog_2_method_1_code, 1, .none),
  (⟨"FrameForge$Checker", "follow", "(LFrameForge$Program;I)Z"⟩, prog_2_method_2_code, 7, .some (FieldType.boolean)),
  (⟨"FrameForge$Checker", "comesTo", "(I)Z"⟩, prog_2_method_3_code, 2, .some (FieldType.boolean)),
  (⟨"FrameForge$Checker", "stackKind", "(II)I"⟩, prog_2_method_4_code, 3, .some (FieldType.int)),
  (⟨"FrameForge$Checker", "localKind", "(II)I"⟩, prog_2_method_5_code, 3, .some (FieldType.int)),
  (⟨"FrameForge$Checker", "returnsAlone", "(LFrameForge$Method;)Z"⟩, prog_2_method_6_code, 3, .some (FieldType.boolean)),
  (⟨"FrameForge$Checker", "begin", "(LFrameForge$Method;)V"⟩, prog_2_method_7_code, 3, .none),
  (⟨"FrameForge$Checker", "goOnFrom", "(LFrameForge$Program;LFrameForge$Method;I)V"⟩, prog_2_method_8_code, 5, .none),
  (⟨"FrameForge$Checker", "passArguments", "(I)V"⟩, prog_2_method_9_code, 3, .none),
  (⟨"FrameForge$Checker", "takeAndGive", "(LFrameForge$Method;I)V"⟩, prog_2_method_10_code, 6, .none),
  (⟨"FrameForge$Checker", "useLocal", "(II)V"⟩, prog_2_method_11_code, 4, .none),
  (⟨"FrameForge$Checker", "useObject", "(I)V"⟩, prog_2_method_12_code, 2, .none),
  (⟨"FrameForge$Checker", "give", "(I)V"⟩, prog_2_method_13_code, 2, .none),
  (⟨"FrameForge$Checker", "takeAny", "()I"⟩, prog_2_method_14_code, 1, .some (FieldType.int)),
  (⟨"FrameForge$Checker", "take", "(I)V"⟩, prog_2_method_15_code, 2, .none),
  (⟨"FrameForge$Checker", "leadOn", "(LFrameForge$Method;I)V"⟩, prog_2_method_16_code, 6, .none),
  (⟨"FrameForge$Checker", "comeTo", "(LFrameForge$Method;I[II)V"⟩, prog_2_method_17_code, 5, .none),
  (⟨"FrameForge$Checker", "meet", "(I[II)V"⟩, prog_2_method_18_code, 6, .none),
  (⟨"FrameForge$Checker", "followBacksAgain", "(LFrameForge$Method;)V"⟩, prog_2_method_19_code, 3, .none),
  (⟨"FrameForge$Frame", "<init>", "()V"⟩, prog_3_method_1_code, 1, .none),
  (⟨"FrameForge$Frame", "begin", "(II)V"⟩, prog_3_method_2_code, 3, .none),
  (⟨"FrameForge$Frame", "goOnWith", "(II)V"⟩, prog_3_method_3_code, 3, .none),
  (⟨"FrameForge$Frame", "push", "(I)V"⟩, prog_3_method_4_code, 2, .none),
  (⟨"FrameForge$Frame", "pop", "()I"⟩, prog_3_method_5_code, 1, .some (FieldType.int)),
  (⟨"FrameForge$Ledger", "<init>", "()V"⟩, prog_4_method_1_code, 1, .none),
  (⟨"FrameForge$Ledger", "clear", "()V"⟩, prog_4_method_2_code, 1, .none),
  (⟨"FrameForge$Ledger", "note", "(II)V"⟩, prog_4_method_3_code, 3, .none),
  (⟨"FrameForge$Ledger", "entriesKept", "()I"⟩, prog_4_method_4_code, 1, .some (FieldType.int)),
  (⟨"FrameForge$Ledger", "sameEntries", "(LFrameForge$Ledger;)Z"⟩, prog_4_method_5_code, 3, .some (FieldType.boolean)),
  (⟨"FrameForge$Machine", "<init>", "()V"⟩, prog_5_method_1_code, 2, .none),
  (⟨"FrameForge$Machine", "play", "(LFrameForge$Program;IIIIILFrameForge$Ledger;)V"⟩, prog_5_method_2_code, 10, .none),
  (⟨"FrameForge$Machine", "openFrame", "(I)LFrameForge$Frame;"⟩, prog_5_method_3_code, 3, .some ((FieldType.object "FrameForge$Frame"))),
  (⟨"FrameForge$Machine", "step", "(LFrameForge$Frame;)V"⟩, prog_5_method_4_code, 7, .none),
  (⟨"FrameForge$Machine", "useLocal", "(LFrameForge$Frame;III)V"⟩, prog_5_method_5_code, 5, .none),
  (⟨"FrameForge$Machine", "shuffle", "(LFrameForge$Frame;I)V"⟩, prog_5_method_6_code, 5, .none),
  (⟨"FrameForge$Machine", "reckon", "(LFrameForge$Frame;I)V"⟩, prog_5_method_7_code, 5, .none),
  (⟨"FrameForge$Machine", "turn", "(LFrameForge$Frame;III)V"⟩, prog_5_method_8_code, 6, .none),
  (⟨"FrameForge$Machine", "holds", "(II)Z"⟩, prog_5_method_9_code, 2, .some (FieldType.boolean))]
def am_ms3 : List (MethodName × ByteArray × Nat × Option FieldType) := [
  (⟨"FrameForge$Machine", "useObject", "(LFrameForge$Frame;I)V"⟩, prog_5_method_10_code, 6, .none),
  (⟨"FrameForge$Machine", "enterLock", "(I)V"⟩, prog_5_method_11_code, 2, .none),
  (⟨"FrameForge$Machine", "leaveLock", "(LFrameForge$Frame;I)Z"⟩, prog_5_method_12_code, 4, .some (FieldType.boolean)),
  (⟨"FrameForge$Machine", "make", "(I)I"⟩, prog_5_method_13_code, 2, .some (FieldType.int)),
  (⟨"FrameForge$Machine", "throwNew", "(I)V"⟩, prog_5_method_14_code, 2, .none),
  (⟨"FrameForge$Machine", "throwObject", "(I)V"⟩, prog_5_method_15_code, 2, .none),
  (⟨"FrameForge$Machine", "beginCall", "(LFrameForge$Frame;I)V"⟩, prog_5_method_16_code, 5, .none),
  (⟨"FrameForge$Machine", "giveBack", "(I)V"⟩, prog_5_method_17_code, 2, .none),
  (⟨"FrameForge$Machine", "closeFrame", "()V"⟩, prog_5_method_18_code, 2, .none),
  (⟨"FrameForge$Machine", "findRow", "()V"⟩, prog_5_method_19_code, 5, .none),
  (⟨"FrameForge$Method", "<init>", "()V"⟩, prog_6_method_1_code, 1, .none),
  (⟨"FrameForge$Method", "begin", "(IZ)V"⟩, prog_6_method_2_code, 3, .none),
  (⟨"FrameForge$Method", "become", "(LFrameForge$Method;)V"⟩, prog_6_method_3_code, 2, .none),
  (⟨"FrameForge$Method", "put", "(IIII)V"⟩, prog_6_method_4_code, 5, .none),
  (⟨"FrameForge$Method", "addRow", "(IIII)Z"⟩, prog_6_method_5_code, 5, .some (FieldType.boolean)),
  (⟨"FrameForge$Method", "hasAt", "(II)Z"⟩, prog_6_method_6_code, 3, .some (FieldType.boolean)),
  (⟨"FrameForge$Method", "rowCovers", "(II)Z"⟩, prog_6_method_7_code, 3, .some (FieldType.boolean)),
  (⟨"FrameForge$Method", "rowFor", "(II)I"⟩, prog_6_method_8_code, 4, .some (FieldType.int)),
  (⟨"FrameForge$Method", "rowPart", "(II)I"⟩, prog_6_method_9_code, 3, .some (FieldType.int)),
  (⟨"FrameForge$Method", "fact", "(I)I"⟩, prog_6_method_10_code, 2, .some (FieldType.int)),
  (⟨"FrameForge$Method", "calls", "()I"⟩, prog_6_method_11_code, 3, .some (FieldType.int)),
  (⟨"FrameForge$Method", "greatestLocal", "()I"⟩, prog_6_method_12_code, 3, .some (FieldType.int)),
  (⟨"FrameForge$Method", "hasLocksOrSubroutines", "()Z"⟩, prog_6_method_13_code, 2, .some (FieldType.boolean)),
  (⟨"FrameForge$Method", "plainEnd", "(I)I"⟩, prog_6_method_14_code, 5, .some (FieldType.int)),
  (⟨"FrameForge$Method", "keepsPlain", "(III)Z"⟩, prog_6_method_15_code, 5, .some (FieldType.boolean)),
  (⟨"FrameForge$Method", "leadsInto", "(III)Z"⟩, prog_6_method_16_code, 4, .some (FieldType.boolean)),
  (⟨"FrameForge$Program", "<init>", "()V"⟩, prog_7_method_1_code, 2, .none),
  (⟨"FrameForge$Program", "become", "(LFrameForge$Program;)V"⟩, prog_7_method_2_code, 3, .none),
  (⟨"FrameForge$Program", "instructions", "()I"⟩, prog_7_method_3_code, 3, .some (FieldType.int)),
  (⟨"FrameForge$Program", "calledFrom", "(I)I"⟩, prog_7_method_4_code, 6, .some (FieldType.int)),
  (⟨"FrameForge$Rewriter", "<init>", "()V"⟩, prog_8_method_1_code, 1, .none),
  (⟨"FrameForge$Rewriter", "writeOutSubroutine", "(LFrameForge$Method;I)I"⟩, prog_8_method_2_code, 9, .some (FieldType.int)),
  (⟨"FrameForge$Rewriter", "writeOutCall", "(LFrameForge$Method;ILFrameForge$Method;)I"⟩, prog_8_method_3_code, 9, .some (FieldType.int)),
  (⟨"FrameForge$Rewriter", "putCalled", "(LFrameForge$Method;III)V"⟩, prog_8_method_4_code, 9, .none),
  (⟨"FrameForge$Rewriter", "spread", "(LFrameForge$Method;II)V"⟩, prog_8_method_5_code, 7, .none),
  (⟨"FrameForge$Rewriter", "moved", "(I)I"⟩, prog_8_method_6_code, 2, .some (FieldType.int)),
  (⟨"FrameForge$Rewriter", "splitRow", "(LFrameForge$Method;III)V"⟩, prog_8_method_7_code, 10, .none),
  (⟨"FrameForge$Rewriter", "draftRow", "(IIII)V"⟩, prog_8_method_8_code, 5, .none),
  (⟨"FrameForge$Rewriter", "takeOver", "(LFrameForge$Method;)I"⟩, prog_8_method_9_code, 2, .some (FieldType.int)),
  (⟨"FrameForgeLaw", "law", "([I)Z"⟩, code, 4, .some (FieldType.boolean))]
def am_m (j : Nat) : MethodName × ByteArray × Nat × Option FieldType := match j / 40 with
  | 0 => (am_ms0[j % 40]?).getD (⟨"", "", ""⟩, ByteArray.empty, 0, .none)
  | 1 => (am_ms1[j % 40]?).getD (⟨"", "", ""⟩, ByteArray.empty, 0, .none)
  | 2 => (am_ms2[j % 40]?).getD (⟨"", "", ""⟩, ByteArray.empty, 0, .none)
  | _ => (am_ms3[j % 40]?).getD (⟨"", "", ""⟩, ByteArray.empty, 0, .none)
def am_y (j : Nat) : MethodName := (am_m j).1
def am_by (j : Nat) : ByteArray := (am_m j).2.1
def am_mx (j : Nat) : Nat := (am_m j).2.2.1
def am_ret (j : Nat) : Option FieldType := (am_m j).2.2.2
def am_own (j : Nat) : String := (am_y j).cls
abbrev jF_init : Nat := 0
abbrev jF_write : Nat := 1
abbrev jF_branch : Nat := 2
abbrev jF_method : Nat := 3
abbrev jF_add : Nat := 4
abbrev jF_change : Nat := 5
abbrev jF_row : Nat := 6
abbrev jF_check : Nat := 7
abbrev jF_kindAt : Nat := 8
abbrev jF_run : Nat := 9
abbrev jF_ran : Nat := 10
abbrev jF_trace : Nat := 11
abbrev jF_compare : Nat := 12
abbrev jF_unfold : Nat := 13
abbrev jF_inline : Nat := 14
abbrev jF_code : Nat := 15
abbrev jF_table : Nat := 16
abbrev jF_writtenMethod : Nat := 17
abbrev jF_allSound : Nat := 18
abbrev jF_isBelow : Nat := 19
abbrev jF_hasBit : Nat := 20
abbrev jF_isInstruction : Nat := 21
abbrev jF_isOperand : Nat := 22
abbrev jF_isJump : Nat := 23
abbrev jR_init : Nat := 24
abbrev jR_in : Nat := 25
abbrev jR_own : Nat := 26
abbrev jR_write : Nat := 27
abbrev jR_branch : Nat := 28
abbrev jR_method : Nat := 29
abbrev jR_set : Nat := 30
abbrev jR_setRow : Nat := 31
abbrev jR_isJump : Nat := 32
abbrev jR_mostA : Nat := 33
abbrev jR_isGood : Nat := 34
abbrev jR_put : Nat := 35
abbrev jR_add : Nat := 36
abbrev jR_change : Nat := 37
abbrev jR_row : Nat := 38
abbrev jR_push : Nat := 39
abbrev jR_take : Nat := 40
abbrev jR_fetch : Nat := 41
abbrev jR_arrive : Nat := 42
abbrev jR_move : Nat := 43
abbrev jR_leave : Nat := 44
abbrev jR_goOn : Nat := 45
abbrev jR_refuse : Nat := 46
abbrev jR_isRight : Nat := 47
abbrev jR_check : Nat := 48
abbrev jR_kindAt : Nat := 49
abbrev jR_isUnder : Nat := 50
abbrev jR_tell : Nat := 51
abbrev jR_make : Nat := 52
abbrev jR_begin : Nat := 53
abbrev jR_finish : Nat := 54
abbrev jR_raise : Nat := 55
abbrev jR_machine : Nat := 56
abbrev jR_pop : Nat := 57
abbrev jR_give : Nat := 58
abbrev jR_call : Nat := 59
abbrev jR_back : Nat := 60
abbrev jR_release : Nat := 61
abbrev jR_sum : Nat := 62
abbrev jR_onObject : Nat := 63
abbrev jR_step : Nat := 64
abbrev jR_allRight : Nat := 65
abbrev jR_go : Nat := 66
abbrev jR_run : Nat := 67
abbrev jR_ran : Nat := 68
abbrev jR_trace : Nat := 69
abbrev jR_compare : Nat := 70
abbrev jR_shifted : Nat := 71
abbrev jR_newRow : Nat := 72
abbrev jR_replace : Nat := 73
abbrev jR_newInstruction : Nat := 74
abbrev jR_endOf : Nat := 75
abbrev jR_unfold : Nat := 76
abbrev jR_greatest : Nat := 77
abbrev jR_mayInline : Nat := 78
abbrev jR_inline : Nat := 79
abbrev jR_code : Nat := 80
abbrev jR_table : Nat := 81
abbrev jC_init : Nat := 82
abbrev jC_follow : Nat := 83
abbrev jC_comesTo : Nat := 84
abbrev jC_stackKind : Nat := 85
abbrev jC_localKind : Nat := 86
abbrev jC_returnsAlone : Nat := 87
abbrev jC_begin : Nat := 88
abbrev jC_goOnFrom : Nat := 89
abbrev jC_passArguments : Nat := 90
abbrev jC_takeAndGive : Nat := 91
abbrev jC_useLocal : Nat := 92
abbrev jC_useObject : Nat := 93
abbrev jC_give : Nat := 94
abbrev jC_takeAny : Nat := 95
abbrev jC_take : Nat := 96
abbrev jC_leadOn : Nat := 97
abbrev jC_comeTo : Nat := 98
abbrev jC_meet : Nat := 99
abbrev jC_followBacksAgain : Nat := 100
abbrev jA_init : Nat := 101
abbrev jA_begin : Nat := 102
abbrev jA_goOnWith : Nat := 103
abbrev jA_push : Nat := 104
abbrev jA_pop : Nat := 105
abbrev jL_init : Nat := 106
abbrev jL_clear : Nat := 107
abbrev jL_note : Nat := 108
abbrev jL_entriesKept : Nat := 109
abbrev jL_sameEntries : Nat := 110
abbrev jM_init : Nat := 111
abbrev jM_play : Nat := 112
abbrev jM_openFrame : Nat := 113
abbrev jM_step : Nat := 114
abbrev jM_useLocal : Nat := 115
abbrev jM_shuffle : Nat := 116
abbrev jM_reckon : Nat := 117
abbrev jM_turn : Nat := 118
abbrev jM_holds : Nat := 119
abbrev jM_useObject : Nat := 120
abbrev jM_enterLock : Nat := 121
abbrev jM_leaveLock : Nat := 122
abbrev jM_make : Nat := 123
abbrev jM_throwNew : Nat := 124
abbrev jM_throwObject : Nat := 125
abbrev jM_beginCall : Nat := 126
abbrev jM_giveBack : Nat := 127
abbrev jM_closeFrame : Nat := 128
abbrev jM_findRow : Nat := 129
abbrev jE_init : Nat := 130
abbrev jE_begin : Nat := 131
abbrev jE_become : Nat := 132
abbrev jE_put : Nat := 133
abbrev jE_addRow : Nat := 134
abbrev jE_hasAt : Nat := 135
abbrev jE_rowCovers : Nat := 136
abbrev jE_rowFor : Nat := 137
abbrev jE_rowPart : Nat := 138
abbrev jE_fact : Nat := 139
abbrev jE_calls : Nat := 140
abbrev jE_greatestLocal : Nat := 141
abbrev jE_hasLocksOrSubroutines : Nat := 142
abbrev jE_plainEnd : Nat := 143
abbrev jE_keepsPlain : Nat := 144
abbrev jE_leadsInto : Nat := 145
abbrev jP_init : Nat := 146
abbrev jP_become : Nat := 147
abbrev jP_instructions : Nat := 148
abbrev jP_calledFrom : Nat := 149
abbrev jW_init : Nat := 150
abbrev jW_writeOutSubroutine : Nat := 151
abbrev jW_writeOutCall : Nat := 152
abbrev jW_putCalled : Nat := 153
abbrev jW_spread : Nat := 154
abbrev jW_moved : Nat := 155
abbrev jW_splitRow : Nat := 156
abbrev jW_draftRow : Nat := 157
abbrev jW_takeOver : Nat := 158
abbrev jY_law : Nat := 159
def am_ns : Nat := 3
def am_sC (_ : Nat) : String := "FrameForge"
def am_sn (k : Nat) : String := match k with
  | 0 => "MOST_A"
  | 1 => "MOST_B"
  | _ => "SELF_AND_ABOVE"
def am_s0 : List Int32 := [-1, 99, 7, 7, -1, -1, -1, -1, -1, -1, -1, -1, 2, -1, 7, -1, -1, -1, -1, -1, -1, 5, -1, -1, 7, -1, -1, 7]
def am_s1 : List Int32 := [-1, -1, -1, -1, -1, -1, -1, -1, -1, -1, -1, 59, 59, -1, -1, -1, -1, 59, -1, -1, -1, -1, -1, 59, -1, -1, -1, 99]
def am_s2 : List Int32 := [1, 3, 5, 9, 17, 35, 69, 163]
def am_sl (k : Nat) : List Int32 := match k with
  | 0 => am_s0
  | 1 => am_s1
  | _ => am_s2
def am_sN (k : Nat) : Nat := (am_sl k).length
def am_sf (k : Nat) : Nat → Int32 := fun j => (am_sl k).getD j 0
def am_T : List Cond := lw_tbl.filter goodWord
theorem am_T_good (w : Cond) (h : w ∈ am_T) : goodWord w = true := (List.mem_filter.mp h).2
theorem am_T_in (w : Cond) (h : w ∈ am_T) : w ∈ lw_tbl := (List.mem_filter.mp h).1
theorem wd_in {w : Cond} (i : Nat) (h : tables_1[i]? = some w) (hg : goodWord w = true) : w ∈ am_T := List.mem_filter.mpr ⟨List.mem_append_right _ (List.mem_of_getElem? h), hg⟩
theorem wd_ins {q : MethodName × Nat} (i : Nat) (h : lw_privs[i]? = some q) : Cond.selects q.1.cls q.1 q.1 ∈ am_T := List.mem_filter.mpr ⟨List.mem_append_left _ (List.mem_map.mpr ⟨q, List.mem_of_getElem? h, rfl⟩), rfl⟩
theorem wd_inr (ws : List Cond) (ps : List Nat) (hp : ws = ps.filterMap (fun i => tables_1[i]?)) (h : ws.all goodWord = true) : ∀ w ∈ ws, w ∈ am_T := fun w hw => by
  have h1 := List.all_eq_true.mp h w hw
  rw [hp] at hw
  obtain ⟨i, -, hi⟩ := List.mem_filterMap.mp hw
  exact wd_in i hi h1
def am_TF : List (String × Nat × String × String × String × String) := [("FrameForge$Method", 57, "FrameForge", "MOST_A", "[I", "FrameForge"), ("FrameForge$Method", 60, "FrameForge", "MOST_B", "[I", "FrameForge"), ("FrameForge$Method", 70, "FrameForge", "SELF_AND_ABOVE", "[I", "FrameForge")]
def am_TM : List (String × Nat × MethodName × String) := [("FrameForge$Program", 17, ⟨"FrameForge$Method", "<init>", "()V"⟩, "FrameForge"), ("FrameForge", 18, ⟨"FrameForge$Checker", "<init>", "()V"⟩, "FrameForge"), ("FrameForge$Machine", 27, ⟨"FrameForge$Frame", "<init>", "()V"⟩, "FrameForge"), ("FrameForge", 32, ⟨"FrameForge$Rewriter", "<init>", "()V"⟩, "FrameForge"), ("FrameForge$Rewriter", 11, ⟨"FrameForge$Method", "<init>", "()V"⟩, "FrameForge"), ("FrameForge", 39, ⟨"FrameForge$Ledger", "<init>", "()V"⟩, "FrameForge"), ("FrameForge$Checker", 53, ⟨"FrameForge", "isBelow", "(II)Z"⟩, "FrameForge"), ("FrameForge$Checker", 128, ⟨"FrameForge", "isJump", "(I)Z"⟩, "FrameForge"), ("FrameForge$Program", 26, ⟨"FrameForge", "hasBit", "(II)Z"⟩, "FrameForge"), ("FrameForge$Method", 73, ⟨"FrameForge", "hasBit", "(II)Z"⟩, "FrameForge"), ("FrameForge$Method", 63, ⟨"FrameForge", "isBelow", "(II)Z"⟩, "FrameForge"), ("FrameForge$Method", 92, ⟨"FrameForge", "isJump", "(I)Z"⟩, "FrameForge"), ("FrameForge$Rewriter", 41, ⟨"FrameForge", "isJump", "(I)Z"⟩, "FrameForge")]
end
section
/-! THE ABSTRACT MACHINE. Objects have NUMBERS (0, 1, .. in the order of their making; from 1000000 on: the script, the static arrays); memory is two functions (ints, references by number).
am_Go says of a place in a method, over such a memory: the real machine comes to the method's return with P. Each instruction has one row (go_..); everything behind these rows speaks of am_Go alone. -/
abbrev am_V : Type := Int32 ⊕ Option Nat
abbrev am_G : Type := List (Nat × Nat) × (Nat → Nat → Int32) × (Nat → Nat → Option Nat)
/-- launch, class numbers and slots, array classes (0 int, 1 boolean, 2 + t of am_rc t), first new address, the script -/
abbrev am_W : Type := Launch × va_G × (Nat → ClassId) × Nat × Nat × (Nat → Int32)
def am_n (G : am_G) : Nat := G.1.length
def am_v (ad : Nat → Nat) (v : am_V) : Value := match v with
  | .inl x => .int x
  | .inr r => va_rf (r.map ad)
theorem am_cat (ad : Nat → Nat) (v : am_V) : (am_v ad v).category = 1 := by
  rcases v with x | r
  · rfl
  · cases r <;> rfl
def am_ok1 (n : Nat) (v : am_V) : Prop := match v with
  | .inl _ => True
  | .inr none => True
  | .inr (some i) => i < n ∨ 1000000 ≤ i
def am_vL (n : Nat) (L : List (Option am_V)) : Prop := ∀ (i : Nat) (v : am_V), L[i]? = some (some v) → am_ok1 n v
def am_vS (n : Nat) (st : List am_V) : Prop := ∀ v ∈ st, am_ok1 n v
def am_vG (G : am_G) : Prop := ∀ i k r : Nat, G.2.2 i k = some r → r < am_n G ∨ 1000000 ≤ r
def am_ext (n : Nat) (ad ad' : Nat → Nat) : Prop := ∀ i : Nat, (i < n ∨ 1000000 ≤ i) → ad' i = ad i
theorem am_ext.rf {n : Nat} {ad : Nat → Nat} : am_ext n ad ad := fun _ _ => rfl
theorem am_ext.tr {n n' : Nat} {a b c : Nat → Nat} (h : n ≤ n') (h1 : am_ext n a b) (h2 : am_ext n' b c) : am_ext n a c := fun i hi => by
  rw [h2 i (by omega), h1 i hi]
theorem am_ext.v {n : Nat} {ad ad' : Nat → Nat} (h : am_ext n ad ad') {v : am_V} (hv : am_ok1 n v) : am_v ad' v = am_v ad v := by
  rcases v with x | r
  · rfl
  · cases r with
    | none => rfl
    | some i =>
      show va_rf (some (ad' i)) = va_rf (some (ad i))
      rw [h i hv]
theorem am_ext.st {n : Nat} {ad ad' : Nat → Nat} (h : am_ext n ad ad') {st : List am_V} (hv : am_vS n st) : st.map (am_v ad') = st.map (am_v ad) :=
  List.map_congr_left fun v hm => h.v (hv v hm)
theorem am_ok1.up {n n' : Nat} (h : n ≤ n') {v : am_V} (hv : am_ok1 n v) : am_ok1 n' v := by
  rcases v with x | r
  · trivial
  · cases r with
    | none => trivial
    | some i =>
      have h1 : i < n ∨ 1000000 ≤ i := hv
      show i < n' ∨ 1000000 ≤ i
      omega
theorem am_vS.up {n n' : Nat} (h : n ≤ n') {st : List am_V} (hv : am_vS n st) : am_vS n' st := fun v hm => (hv v hm).up h
theorem am_vL.up {n n' : Nat} (h : n ≤ n') {L : List (Option am_V)} (hv : am_vL n L) : am_vL n' L := fun i v hm => (hv i v hm).up h
theorem am_vS.nil {n : Nat} : am_vS n [] := fun v h => by cases h
theorem am_vS.cons {n : Nat} {v : am_V} {st : List am_V} (h : am_ok1 n v) (hs : am_vS n st) : am_vS n (v :: st) := fun u hu => by
  rcases List.mem_cons.mp hu with rfl | hu
  · exact h
  · exact hs u hu
theorem am_vS.i {n : Nat} {x : Int32} {st : List am_V} (hs : am_vS n st) : am_vS n (.inl x :: st) := am_vS.cons (v := .inl x) trivial hs
theorem am_vS.nl {n : Nat} {st : List am_V} (hs : am_vS n st) : am_vS n (.inr none :: st) := am_vS.cons (v := .inr none) trivial hs
theorem am_vS.hd {n : Nat} {v : am_V} {st : List am_V} (h : am_vS n (v :: st)) : am_ok1 n v := h v List.mem_cons_self
theorem am_vS.tl {n : Nat} {v : am_V} {st : List am_V} (h : am_vS n (v :: st)) : am_vS n st := fun u hu => h u (List.mem_cons_of_mem _ hu)
theorem am_vS.app {n : Nat} {a b : List am_V} (h1 : am_vS n a) (h2 : am_vS n b) : am_vS n (a ++ b) := fun u hu => by
  rcases List.mem_append.mp hu with hu | hu
  · exact h1 u hu
  · exact h2 u hu
theorem am_vS.l {n : Nat} {a b : List am_V} (h : am_vS n (a ++ b)) : am_vS n a := fun u hu => h u (List.mem_append_left _ hu)
theorem am_vS.r {n : Nat} {a b : List am_V} (h : am_vS n (a ++ b)) : am_vS n b := fun u hu => h u (List.mem_append_right _ hu)
theorem am_vS.rev {n : Nat} {a : List am_V} (h : am_vS n a) : am_vS n a.reverse := fun u hu => h u (List.mem_reverse.mp hu)
theorem am_vL.set {n : Nat} {L : List (Option am_V)} {i : Nat} {v : am_V} (h : am_vL n L) (hv : am_ok1 n v) : am_vL n (L.set i (some v)) := fun q u hq => by
  rw [List.getElem?_set] at hq
  split at hq
  · split at hq
    · cases hq; exact hv
    · cases hq
  · exact h q u hq
/-- locals -/
def am_lv (ad : Nat → Nat) (L : List (Option am_V)) : List (Nat × Value) := (List.range L.length).filterMap fun i => match L[i]? with
  | some (some v) => some (i, am_v ad v)
  | _ => none
theorem am_lv_mem {ad : Nat → Nat} {L : List (Option am_V)} {q : Nat × Value} : q ∈ am_lv ad L ↔ ∃ v, L[q.1]? = some (some v) ∧ q.2 = am_v ad v := by
  unfold am_lv
  rw [List.mem_filterMap]
  constructor
  · rintro ⟨i, hi, h⟩
    split at h
    · rename_i v hv
      cases h
      exact ⟨v, hv, rfl⟩
    · cases h
  · rintro ⟨v, hv, he⟩
    refine ⟨q.1, ?_, ?_⟩
    · rw [List.mem_range]
      exact (List.getElem?_eq_some_iff.mp hv).1
    · rw [hv]
      show some (q.1, am_v ad v) = some q
      rw [← he]
abbrev am_Ls (ad : Nat → Nat) (L : List (Option am_V)) (ls : Array Slot) : Prop := lv_has ls L.length (am_lv ad L)
theorem am_Ls.at {ad : Nat → Nat} {L : List (Option am_V)} {ls : Array Slot} (h : am_Ls ad L ls) {i : Nat} {v : am_V} (hi : L[i]? = some (some v)) : ls[i]? = some (.val (am_v ad v)) :=
  h.2.2 (i, am_v ad v) (am_lv_mem.mpr ⟨v, hi, rfl⟩)
theorem am_Ls.st {ad : Nat → Nat} {L : List (Option am_V)} {i : Nat} {v : am_V} {ls' : Array Slot} {n : Nat} (hn : n = L.length)
    (h : lv_has ls' n ((i, am_v ad v) :: (am_lv ad L).filter (fun q => !(q.1 == i) && !(q.1 + 1 == i && q.2.category == 2)))) : am_Ls ad (L.set i (some v)) ls' := by
  subst hn
  refine ⟨by rw [List.length_set]; exact h.1, h.2.1, fun q hq => h.2.2 q ?_⟩
  obtain ⟨u, hu, he⟩ := am_lv_mem.mp hq
  rw [List.getElem?_set] at hu
  split at hu
  · rename_i e1
    split at hu
    · cases hu
      have : q = (i, am_v ad v) := Prod.ext e1.symm he
      rw [this]
      exact List.mem_cons_self
    · cases hu
  · rename_i e1
    refine List.mem_cons_of_mem _ (List.mem_filter.mpr ⟨am_lv_mem.mpr ⟨u, hu, he⟩, ?_⟩)
    have h1 : (q.1 == i) = false := by rw [beq_eq_false_iff_ne]; exact fun h => e1 h.symm
    have h2 : (q.2.category == 2) = false := by rw [he, am_cat]; rfl
    rw [h1, h2]
    simp
theorem am_Ls.ext {n : Nat} {ad ad' : Nat → Nat} {L : List (Option am_V)} {ls : Array Slot} (h : am_Ls ad L ls) (hx : am_ext n ad ad') (hv : am_vL n L) : am_Ls ad' L ls :=
  ⟨h.1, h.2.1, fun q hq => by
    obtain ⟨v, h1, h2⟩ := am_lv_mem.mp hq
    exact h.2.2 q (am_lv_mem.mpr ⟨v, h1, by rw [h2, hx.v (hv _ _ h1)]⟩)⟩
theorem am_args_mem : ∀ (vs : List Value), (∀ v ∈ vs, v.category = 1) → ∀ (k i : Nat) (v : Value), vs[i]? = some v → (k + i, v) ∈ lv_args k vs
  | [], _, _, _, _, h => by simp at h
  | u :: vs, hc, k, i, v, h => by
    have hu : u.category = 1 := hc u List.mem_cons_self
    have hr : lv_args k (u :: vs) = (k, u) :: lv_args (k + 1) vs := by simp [lv_args, hu]
    rw [hr]
    cases i with
    | zero => simp at h; rw [h]; exact List.mem_cons_self
    | succ i =>
      have := am_args_mem vs (fun v hv => hc v (List.mem_cons_of_mem _ hv)) (k + 1) i v (by simpa using h)
      rw [show k + (i + 1) = k + 1 + i by omega]
      exact List.mem_cons_of_mem _ this
theorem am_sl_len : ∀ (vs : List Value), (∀ v ∈ vs, v.category = 1) → (lg_sl vs).length = vs.length
  | [], _ => rfl
  | u :: vs, hc => by
    have hu : u.category = 1 := hc u List.mem_cons_self
    have ih := am_sl_len vs (fun v hv => hc v (List.mem_cons_of_mem _ hv))
    have : lg_sl (u :: vs) = .val u :: lg_sl vs := by simp [lg_sl, hu]
    rw [this, List.length_cons, ih, List.length_cons]
/-- the locals at a method's entry -/
def am_in (av : List am_V) (n : Nat) : List (Option am_V) := av.map some ++ List.replicate (n - av.length) none
theorem am_in_len {av : List am_V} {n : Nat} (h : av.length ≤ n) : (am_in av n).length = n := by
  simp [am_in]; omega
theorem am_in_at {av : List am_V} {n i : Nat} {v : am_V} (h : (am_in av n)[i]? = some (some v)) : av[i]? = some v := by
  unfold am_in at h
  rw [List.getElem?_append] at h
  split at h
  · simpa using h
  · rw [List.getElem?_replicate] at h
    split at h <;> cases h
theorem am_entry (ad : Nat → Nat) (av : List am_V) {n : Nat} (h : av.length ≤ n) : am_Ls ad (am_in av n) ((lg_sl (av.map (am_v ad)) ++ List.replicate (n - (lg_sl (av.map (am_v ad))).length) Slot.unset).toArray) := by
  have hc : ∀ v ∈ av.map (am_v ad), v.category = 1 := fun v hv => by
    obtain ⟨u, -, rfl⟩ := List.mem_map.mp hv
    exact am_cat ad u
  have h1 := lv_entry (av.map (am_v ad)) (n := n) (by rw [am_sl_len _ hc, List.length_map]; exact h)
  refine ⟨by rw [am_in_len h]; exact h1.1, h1.2.1, fun q hq => h1.2.2 q ?_⟩
  obtain ⟨v, g1, g2⟩ := am_lv_mem.mp hq
  have g3 := am_in_at g1
  have := am_args_mem (av.map (am_v ad)) hc 0 q.1 q.2 (by rw [List.getElem?_map, g3, g2]; rfl)
  rw [Nat.zero_add] at this
  exact this
theorem am_sumcat (ad : Nat → Nat) : ∀ st : List am_V, ((st.map (am_v ad)).map fun v => v.category).sum = st.length
  | [] => rfl
  | v :: st => by
    have ih := am_sumcat ad st
    rw [List.map_cons, List.map_cons, List.sum_cons, ih, am_cat, List.length_cons]
    omega
end
section
def am_A (w : am_W) : Nat → Prop := fun q => w.2.2.2.1 ≤ q
def am_N (ci : Nat) : Nat := ((am_cl[ci]?).map fun q => q.2.2).getD 0
def am_fv (ad : Nat → Nat) (G : am_G) (i ci k : Nat) : Value := if refKind (am_ft ci k) = true then va_rf ((G.2.2 i k).map ad) else .int (G.2.1 i k)
def am_e (w : am_W) (ad : Nat → Nat) (G : am_G) (i : Nat) : va_E := match G.1[i]? with
  | some (0, ci) => .inr (ci, (List.range (am_N ci)).map (am_fv ad G i ci))
  | some (1, x) => .inl (w.2.2.1 0, x, .inl (G.2.1 i))
  | some (2, x) => .inl (w.2.2.1 1, x, .inl (G.2.1 i))
  | some (t + 3, x) => .inl (w.2.2.1 (2 + t), x, .inr (.inr (.inr (.inr (fun j => (G.2.2 i j).map ad)))))
  | none => .inr (0, [])
def am_ws (w : am_W) (ad : Nat → Nat) (G : am_G) : va_W := (List.range G.1.length).map fun i => (ad i, am_e w ad G i)
def am_tys (w : am_W) : List (ClassId × FieldType) := (w.2.2.1 0, .int) :: (w.2.2.1 1, .boolean) :: (List.range am_nrc).map fun t => (w.2.2.1 (2 + t), .object (am_rc t))
/-- the static arrays, and the script -/
def am_Sta (w : am_W) (ad : Nat → Nat) (U : State) : Prop :=
  (∀ k, k < am_ns → va_Z (am_sC k) (am_sn k) "[I" (.ref (ad (1000001 + k))) (am_A w) U U.heap ∧ va_T .int (ad (1000001 + k)) (am_sN k) (fun j => .int (am_sf k j)) (am_A w) U U.heap) ∧
  va_X (ad 1000000) w.2.2.2.2.1 w.2.2.2.2.2 U U.heap ∧ ad 1000000 < U.heap.size ∧ ¬ am_A w (ad 1000000) ∧ w.2.2.2.1 ≤ U.heap.size ∧ (∀ t, t < am_nrc → va_AO (am_rc t) U) ∧
  (∀ q ∈ am_TF, va_Nw (.fieldLinkNest q.1 q.2.1 q.2.2.1 q.2.2.2.1 q.2.2.2.2.1 q.2.2.2.2.2) U) ∧ ∀ q ∈ am_TM, va_Nw (.methodLinkNest q.1 q.2.1 q.2.2.1 q.2.2.2) U
def am_Rel (w : am_W) (ad : Nat → Nat) (G : am_G) (s : State) (H : Heap) : Prop :=
  va_P w.2.1 am_cl (am_ws w ad G) H ∧ va_D (am_A w) (am_ws w ad G) ∧ va_K w.2.1 am_cl (am_tys w) s ∧ am_vG G
def am_Cx (w : am_W) (j d : Nat) (ad : Nat → Nat) (p : Program) (R : Room) (s : State) (m : MethodId) (args : Array Value) (meth : Method) (c : Code) : Prop :=
  p.tables.exec = Jvm.exec ∧ c.code = am_by j ∧ meth.sig.returnType = am_ret j ∧ c.maxLocals = am_mx j ∧ s.vm.findClass (am_own j) = some m.cls ∧ (∀ w ∈ am_T, w.before args s = true) ∧ meth.locks = false ∧ ((am_y j).name = "<init>" → meth.name = "<init>") ∧ d ≤ R.frames ∧ 42 * d ≤ R.locals ∧ am_Sta w ad s
def am_retAt (j pc : Nat) (r : Option am_V) : Prop := (decode (am_by j) pc = .ok (.ireturn, 1) ∧ ∃ (x : Int32) (ty : FieldType), r = some (.inl x) ∧ am_ret j = some ty ∧ narrow ty (.int x) = .int x) ∨ (decode (am_by j) pc = .ok (.areturn, 1) ∧ ∃ (x : Option Nat) (ty : FieldType), r = some (.inr x) ∧ am_ret j = some ty ∧ refKind ty = true) ∨ (decode (am_by j) pc = .ok (.return_, 1) ∧ r = none ∧ am_ret j = none)
def am_Go (w : am_W) (j d : Nat) (k : Nat × Nat) (pc : Nat) (L : List (Option am_V)) (st : List am_V) (G : am_G) (P : Option am_V → am_G → Prop) : Prop :=
  ∀ (p : Program) (e : Env) (R : Room) (s : State) (m : MethodId) (args : Array Value) (below : List Frame) (meth : Method) (c : Code) (ad0 ad : Nat → Nat) (H : Heap) (locs : List Loc) (cells slots : Nat) (ls : Array Slot) (Q : State → Prop) (n0 : Nat),
    am_Cx w j d ad0 p R s m args meth c → am_Rel w ad G s H → va_S (am_A w) s.heap H locs → am_Ls ad L ls → L.length = am_mx j → am_vL (am_n G) L → am_vS (am_n G) st → cells + k.1 ≤ R.cells → slots + k.2 ≤ R.slots → n0 ≤ am_n G → am_ext n0 ad0 ad →
    (∀ (r : Option am_V) (G' : am_G) (ad' : Nat → Nat) (H' : Heap) (locs' : List Loc) (pc' : Nat) (ls' : Array Slot), P r G' → am_Rel w ad' G' s H' → va_S (am_A w) s.heap H' locs' → n0 ≤ am_n G' → am_ext n0 ad0 ad' → (∀ v, r = some v → am_ok1 (am_n G') v) → am_retAt j pc' r →
      W p w.1 e R s m args below meth c H' locs' R.cells R.slots Q (F0 m pc' ls' (r.toList.map (am_v ad')))) →
    W p w.1 e R s m args below meth c H locs cells slots Q (F0 m pc ls (st.map (am_v ad)))
section AmCx
variable {w : am_W} {j d : Nat} {ad : Nat → Nat} {p : Program} {R : Room} {s : State} {m : MethodId} {args : Array Value} {meth : Method} {c : Code}
theorem am_Cx.exec (C : am_Cx w j d ad p R s m args meth c) : p.tables.exec = Jvm.exec := C.1
theorem am_Cx.byt (C : am_Cx w j d ad p R s m args meth c) : c.code = am_by j := C.2.1
theorem am_Cx.ret (C : am_Cx w j d ad p R s m args meth c) : meth.sig.returnType = am_ret j := C.2.2.1
theorem am_Cx.mx (C : am_Cx w j d ad p R s m args meth c) : c.maxLocals = am_mx j := C.2.2.2.1
theorem am_Cx.own (C : am_Cx w j d ad p R s m args meth c) : s.vm.findClass (am_own j) = some m.cls := C.2.2.2.2.1
theorem am_Cx.ts (C : am_Cx w j d ad p R s m args meth c) : ∀ w ∈ am_T, w.before args s = true := C.2.2.2.2.2.1
theorem am_Cx.lk (C : am_Cx w j d ad p R s m args meth c) : meth.locks = false := C.2.2.2.2.2.2.1
theorem am_Cx.ini (C : am_Cx w j d ad p R s m args meth c) : (am_y j).name = "<init>" → meth.name = "<init>" := C.2.2.2.2.2.2.2.1
theorem am_Cx.fr (C : am_Cx w j d ad p R s m args meth c) : d ≤ R.frames := C.2.2.2.2.2.2.2.2.1
theorem am_Cx.lo (C : am_Cx w j d ad p R s m args meth c) : 42 * d ≤ R.locals := C.2.2.2.2.2.2.2.2.2.1
theorem am_Cx.sta (C : am_Cx w j d ad p R s m args meth c) : am_Sta w ad s := C.2.2.2.2.2.2.2.2.2.2
theorem am_Cx.bs (C : am_Cx w j d ad p R s m args meth c) : w.2.2.2.1 ≤ s.heap.size := C.sta.2.2.2.2.1
theorem am_Cx.ao (C : am_Cx w j d ad p R s m args meth c) : ∀ t, t < am_nrc → va_AO (am_rc t) s := C.sta.2.2.2.2.2.1
end AmCx
/-- memory's changes -/
def am_wi (G : am_G) (i k : Nat) (x : Int32) : am_G := (G.1, va_up G.2.1 i (upd (G.2.1 i) k x), G.2.2)
def am_wr (G : am_G) (i k : Nat) (r : Option Nat) : am_G := (G.1, G.2.1, va_up G.2.2 i (va_up (G.2.2 i) k r))
def am_ro (G : am_G) (i : Nat) (f : Nat → Int32) : am_G := (G.1, va_up G.2.1 i f, G.2.2)
def am_nw (G : am_G) (sh : Nat × Nat) : am_G := (G.1 ++ [sh], va_up G.2.1 G.1.length (fun _ => 0), va_up G.2.2 G.1.length (fun _ => none))
theorem am_ws_at {w : am_W} {ad : Nat → Nat} {G : am_G} {i : Nat} (h : i < am_n G) : (am_ws w ad G)[i]? = some (ad i, am_e w ad G i) := by
  unfold am_ws
  have h' : i < G.1.length := h
  rw [List.getElem?_map, List.getElem?_range h']
  rfl
theorem am_ws_len {w : am_W} {ad : Nat → Nat} {G : am_G} : (am_ws w ad G).length = am_n G := by simp [am_ws, am_n]
theorem am_lt {G : am_G} {i : Nat} {sh : Nat × Nat} (h : G.1[i]? = some sh) : i < am_n G := (List.getElem?_eq_some_iff.mp h).1
theorem am_ws_set {w : am_W} {ad : Nat → Nat} {G G' : am_G} {i : Nat} (h1 : G'.1 = G.1) (hi : i < am_n G) (hj : ∀ q, q ≠ i → am_e w ad G' q = am_e w ad G q) : am_ws w ad G' = (am_ws w ad G).set i (ad i, am_e w ad G' i) := by
  apply List.ext_getElem?
  intro q
  rw [List.getElem?_set]
  by_cases hq : q < am_n G
  · have hq' : q < am_n G' := by unfold am_n; rw [h1]; exact hq
    rw [am_ws_at hq']
    by_cases e : i = q
    · subst e
      rw [if_pos rfl, if_pos (by rw [am_ws_len]; exact hi)]
    · rw [if_neg e, am_ws_at hq, hj q (fun h => e h.symm)]
  · have hq' : am_n G ≤ q := Nat.le_of_not_lt hq
    have hn : am_n G' = am_n G := by unfold am_n; rw [h1]
    rw [List.getElem?_eq_none (by rw [am_ws_len, hn]; exact hq')]
    have e : ¬ i = q := by omega
    rw [if_neg e, List.getElem?_eq_none (by rw [am_ws_len]; exact hq')]
theorem am_up_ne {α : Type} {f : Nat → α} {k j : Nat} {v : α} (h : j ≠ k) : va_up f k v j = f j := by unfold va_up; rw [if_neg h]
theorem am_up_eq {α : Type} {f : Nat → α} {k : Nat} {v : α} : va_up f k v k = v := by unfold va_up; rw [if_pos rfl]
theorem am_e_row {w : am_W} {ad : Nat → Nat} {G G' : am_G} {q : Nat} (h1 : G'.1[q]? = G.1[q]?) (h2 : G'.2.1 q = G.2.1 q) (h3 : G'.2.2 q = G.2.2 q) : am_e w ad G' q = am_e w ad G q := by
  unfold am_e am_fv
  rw [h1, h2, h3]
theorem am_e_obj {w : am_W} {ad : Nat → Nat} {G : am_G} {i ci : Nat} (h : G.1[i]? = some (0, ci)) : am_e w ad G i = .inr (ci, (List.range (am_N ci)).map (am_fv ad G i ci)) := by
  unfold am_e; rw [h]
theorem am_e_int {w : am_W} {ad : Nat → Nat} {G : am_G} {i x : Nat} (h : G.1[i]? = some (1, x)) : am_e w ad G i = .inl (w.2.2.1 0, x, .inl (G.2.1 i)) := by
  unfold am_e; rw [h]
theorem am_e_bool {w : am_W} {ad : Nat → Nat} {G : am_G} {i x : Nat} (h : G.1[i]? = some (2, x)) : am_e w ad G i = .inl (w.2.2.1 1, x, .inl (G.2.1 i)) := by
  unfold am_e; rw [h]
theorem am_e_ref {w : am_W} {ad : Nat → Nat} {G : am_G} {i t x : Nat} (h : G.1[i]? = some (t + 3, x)) : am_e w ad G i = .inl (w.2.2.1 (2 + t), x, .inr (.inr (.inr (.inr (fun j => (G.2.2 i j).map ad))))) := by
  unfold am_e; rw [h]
theorem am_tys_r {w : am_W} {t : Nat} (h : t < am_nrc) : (am_tys w)[2 + t]? = some (w.2.2.1 (2 + t), .object (am_rc t)) := by
  have g : (am_tys w)[t + 1 + 1]? = some (w.2.2.1 (2 + t), .object (am_rc t)) := by
    unfold am_tys
    rw [List.getElem?_cons_succ, List.getElem?_cons_succ, List.getElem?_map, List.getElem?_range h]
    rfl
  exact (congrArg (fun q => (am_tys w)[q]?) (show 2 + t = t + 1 + 1 by omega)).trans g
theorem am_fs {ad : Nat → Nat} {G : am_G} {i ci k N : Nat} (hk : k < N) : ((List.range N).map (am_fv ad G i ci))[k]? = some (am_fv ad G i ci k) := by
  rw [List.getElem?_map, List.getElem?_range hk]; rfl
theorem am_fs_set {ad : Nat → Nat} {G G' : am_G} {i ci k N : Nat} {v : Value} (hk : k < N) (h : am_fv ad G' i ci k = v) (ho : ∀ q, q ≠ k → am_fv ad G' i ci q = am_fv ad G i ci q) : ((List.range N).map (am_fv ad G i ci)).set k v = (List.range N).map (am_fv ad G' i ci) := by
  apply List.ext_getElem?
  intro q
  rw [List.getElem?_set]
  by_cases hq : q < N
  · rw [am_fs (G := G') hq]
    by_cases e : k = q
    · subst e
      rw [if_pos rfl, if_pos (by simpa using hk), h]
    · rw [if_neg e, am_fs hq, ho q (fun h => e h.symm)]
  · have e : ¬ k = q := by omega
    rw [if_neg e, List.getElem?_eq_none (by simp; omega), List.getElem?_eq_none (by simp; omega)]
/-- a field by its pool entry: class ci, field k -/
def am_Fl (own : String) (idx ci k : Nat) : Prop := ∃ (C : String) (T : u_T) (N : Nat), am_cl[ci]? = some (C, T, N) ∧ k < N ∧ (∀ w ∈ u_ws C T N, w ∈ am_T) ∧ Cond.fieldLink own idx (T k).1 (T k).2.1 (T k).2.2.1 ∈ am_T ∧
  (∀ q, q < N → parseFieldDescriptor (T q).2.2.1 = some (am_ft ci q)) ∧ (∀ a, a < N → ∀ b, b < N → a ≠ b → (T a).2.1 ≠ (T b).2.1)
section AmRows
variable {w : am_W} {j d : Nat} {k : Nat × Nat} {pc : Nat} {L : List (Option am_V)} {st : List am_V} {G : am_G} {P : Option am_V → am_G → Prop}
theorem go_pure {pc2 : Nat} {st2 : List am_V}
    (hW : ∀ (p : Program) (l : Launch) (e : Env) (R : Room) (s : State) (m : MethodId) (args : Array Value) (below : List Frame) (meth : Method) (c : Code) (H : Heap) (locs : List Loc) (cells slots : Nat) (Q : State → Prop) (ls : Array Slot) (ad : Nat → Nat),
      p.tables.exec = Jvm.exec → c.code = am_by j → W p l e R s m args below meth c H locs cells slots Q (F0 m pc2 ls (st2.map (am_v ad))) → W p l e R s m args below meth c H locs cells slots Q (F0 m pc ls (st.map (am_v ad))))
    (hv : ∀ n, am_vS n st → am_vS n st2) (kk : am_Go w j d k pc2 L st2 G P) : am_Go w j d k pc L st G P := by
  intro p e R s m args below meth c ad0 ad H locs cells slots ls Q n0 C hR hS hl hL vL vS hc hs hn hx hE
  exact hW _ _ _ _ _ _ _ _ _ _ _ _ _ _ _ _ ad C.exec C.byt (kk p e R s m args below meth c ad0 ad H locs cells slots ls Q n0 C hR hS hl hL vL (hv _ vS) hc hs hn hx hE)
theorem go_iconst {n : Int} (v : Int32) (hv : Int32.ofInt n = v) (h : decode (am_by j) pc = .ok (.iconst n, 1)) (kk : am_Go w j d k (pc + 1) L (.inl v :: st) G P) : am_Go w j d k pc L st G P :=
  go_pure (fun _ _ _ _ _ _ _ _ _ _ _ _ _ _ _ _ _ hx hb q => lv_iconst hx hb h hv q) (fun _ v => v.i) kk
theorem go_bipush {n : Int} (v : Int32) (hv : (Int8.ofInt n).toInt32 = v) (h : decode (am_by j) pc = .ok (.bipush n, 2)) (kk : am_Go w j d k (pc + 2) L (.inl v :: st) G P) : am_Go w j d k pc L st G P :=
  go_pure (fun _ _ _ _ _ _ _ _ _ _ _ _ _ _ _ _ _ hx hb q => lv_bipush hx hb h hv q) (fun _ v => v.i) kk
theorem go_sipush {n : Int} (v : Int32) (hv : (Int16.ofInt n).toInt32 = v) (h : decode (am_by j) pc = .ok (.sipush n, 3)) (kk : am_Go w j d k (pc + 3) L (.inl v :: st) G P) : am_Go w j d k pc L st G P :=
  go_pure (fun _ _ _ _ _ _ _ _ _ _ _ _ _ _ _ _ _ hx hb q => lv_sipush hx hb h hv q) (fun _ v => v.i) kk
theorem go_null (h : decode (am_by j) pc = .ok (.aconst_null, 1)) (kk : am_Go w j d k (pc + 1) L (.inr none :: st) G P) : am_Go w j d k pc L st G P :=
  go_pure (fun _ _ _ _ _ _ _ _ _ _ _ _ _ _ _ _ _ hx hb q => lv_null hx hb h q) (fun _ v => v.nl) kk
section Bin
variable {x y : Int32}
theorem go_iadd (h : decode (am_by j) pc = .ok (.iadd, 1)) (kk : am_Go w j d k (pc + 1) L (.inl (x + y) :: st) G P) : am_Go w j d k pc L (.inl y :: .inl x :: st) G P :=
  go_pure (fun _ _ _ _ _ _ _ _ _ _ _ _ _ _ _ _ _ hx hb q => lv_iadd hx hb h q) (fun _ v => v.tl.tl.i) kk
theorem go_isub (h : decode (am_by j) pc = .ok (.isub, 1)) (kk : am_Go w j d k (pc + 1) L (.inl (x - y) :: st) G P) : am_Go w j d k pc L (.inl y :: .inl x :: st) G P :=
  go_pure (fun _ _ _ _ _ _ _ _ _ _ _ _ _ _ _ _ _ hx hb q => lv_isub hx hb h q) (fun _ v => v.tl.tl.i) kk
theorem go_imul (h : decode (am_by j) pc = .ok (.imul, 1)) (kk : am_Go w j d k (pc + 1) L (.inl (x * y) :: st) G P) : am_Go w j d k pc L (.inl y :: .inl x :: st) G P :=
  go_pure (fun _ _ _ _ _ _ _ _ _ _ _ _ _ _ _ _ _ hx hb q => lv_imul hx hb h q) (fun _ v => v.tl.tl.i) kk
theorem go_iand (h : decode (am_by j) pc = .ok (.iand, 1)) (kk : am_Go w j d k (pc + 1) L (.inl (x &&& y) :: st) G P) : am_Go w j d k pc L (.inl y :: .inl x :: st) G P :=
  go_pure (fun _ _ _ _ _ _ _ _ _ _ _ _ _ _ _ _ _ hx hb q => lv_iand hx hb h q) (fun _ v => v.tl.tl.i) kk
theorem go_ior (h : decode (am_by j) pc = .ok (.ior, 1)) (kk : am_Go w j d k (pc + 1) L (.inl (x ||| y) :: st) G P) : am_Go w j d k pc L (.inl y :: .inl x :: st) G P :=
  go_pure (fun _ _ _ _ _ _ _ _ _ _ _ _ _ _ _ _ _ hx hb q => lv_ior hx hb h q) (fun _ v => v.tl.tl.i) kk
theorem go_ishl (h : decode (am_by j) pc = .ok (.ishl, 1)) (kk : am_Go w j d k (pc + 1) L (.inl (x <<< (y &&& 31)) :: st) G P) : am_Go w j d k pc L (.inl y :: .inl x :: st) G P :=
  go_pure (fun _ _ _ _ _ _ _ _ _ _ _ _ _ _ _ _ _ hx hb q => lv_ishl hx hb h q) (fun _ v => v.tl.tl.i) kk
theorem go_ishr (h : decode (am_by j) pc = .ok (.ishr, 1)) (kk : am_Go w j d k (pc + 1) L (.inl (x >>> (y &&& 31)) :: st) G P) : am_Go w j d k pc L (.inl y :: .inl x :: st) G P :=
  go_pure (fun _ _ _ _ _ _ _ _ _ _ _ _ _ _ _ _ _ hx hb q => lv_ishr hx hb h q) (fun _ v => v.tl.tl.i) kk
theorem go_idiv (hne : ¬ y = 0) (h : decode (am_by j) pc = .ok (.idiv, 1)) (kk : am_Go w j d k (pc + 1) L (.inl (x / y) :: st) G P) : am_Go w j d k pc L (.inl y :: .inl x :: st) G P :=
  go_pure (fun _ _ _ _ _ _ _ _ _ _ _ _ _ _ _ _ _ hx hb q => lv_idiv hx hb h hne q) (fun _ v => v.tl.tl.i) kk
theorem go_ineg (h : decode (am_by j) pc = .ok (.ineg, 1)) (kk : am_Go w j d k (pc + 1) L (.inl (-x) :: st) G P) : am_Go w j d k pc L (.inl x :: st) G P :=
  go_pure (fun _ _ _ _ _ _ _ _ _ _ _ _ _ _ _ _ _ hx hb q => lv_ineg hx hb h q) (fun _ v => v.tl.i) kk
end Bin
section Stk
variable {a b : am_V}
theorem go_dup (h : decode (am_by j) pc = .ok (.dup, 1)) (kk : am_Go w j d k (pc + 1) L (a :: a :: st) G P) : am_Go w j d k pc L (a :: st) G P :=
  go_pure (fun _ _ _ _ _ _ _ _ _ _ _ _ _ _ _ _ ad hx hb q => lv_dup hx hb h (am_cat ad a) q) (fun _ v => v.cons v.hd) kk
theorem go_pop (h : decode (am_by j) pc = .ok (.pop, 1)) (kk : am_Go w j d k (pc + 1) L st G P) : am_Go w j d k pc L (a :: st) G P :=
  go_pure (fun _ _ _ _ _ _ _ _ _ _ _ _ _ _ _ _ ad hx hb q => lv_pop hx hb h (am_cat ad a) q) (fun _ v => v.tl) kk
theorem go_dup_x1 (h : decode (am_by j) pc = .ok (.dup_x1, 1)) (kk : am_Go w j d k (pc + 1) L (a :: b :: a :: st) G P) : am_Go w j d k pc L (a :: b :: st) G P :=
  go_pure (fun _ _ _ _ _ _ _ _ _ _ _ _ _ _ _ _ ad hx hb q => lv_dup_x1 hx hb h (am_cat ad a) (am_cat ad b) q) (fun _ v => ((v.tl.tl.cons v.hd).cons v.tl.hd).cons v.hd) kk
theorem go_dup2 (h : decode (am_by j) pc = .ok (.dup2, 1)) (kk : am_Go w j d k (pc + 1) L (a :: b :: a :: b :: st) G P) : am_Go w j d k pc L (a :: b :: st) G P :=
  go_pure (fun _ _ _ _ _ _ _ _ _ _ _ _ _ _ _ _ ad hx hb q => lv_dup2_11 hx hb h (am_cat ad a) (am_cat ad b) q) (fun _ v => (v.cons v.tl.hd).cons v.hd) kk
end Stk
theorem go_goto {off : Int} {tgt : Nat} (h : decode (am_by j) pc = .ok (.goto off, 3)) (ht : (pc : Int) + off = (tgt : Int)) (kk : am_Go w j d k tgt L st G P) : am_Go w j d k pc L st G P :=
  go_pure (fun _ _ _ _ _ _ _ _ _ _ _ _ _ _ _ _ _ hx hb q => lv_goto hx hb h ht q) (fun _ v => v) kk
/-- branches -/
theorem go_br {st2 : List am_V} {cT cF : Prop} {tgt : Nat}
    (hW : ∀ (p : Program) (l : Launch) (e : Env) (R : Room) (s : State) (m : MethodId) (args : Array Value) (below : List Frame) (meth : Method) (c : Code) (H : Heap) (locs : List Loc) (cells slots : Nat) (Q : State → Prop) (ls : Array Slot) (ad : Nat → Nat),
      p.tables.exec = Jvm.exec → c.code = am_by j → (cT → W p l e R s m args below meth c H locs cells slots Q (F0 m tgt ls (st2.map (am_v ad)))) → (cF → W p l e R s m args below meth c H locs cells slots Q (F0 m (pc + 3) ls (st2.map (am_v ad)))) → W p l e R s m args below meth c H locs cells slots Q (F0 m pc ls (st.map (am_v ad))))
    (hv : ∀ n, am_vS n st → am_vS n st2) (kt : cT → am_Go w j d k tgt L st2 G P) (kf : cF → am_Go w j d k (pc + 3) L st2 G P) : am_Go w j d k pc L st G P := by
  intro p e R s m args below meth c ad0 ad H locs cells slots ls Q n0 C hR hS hl hL vL vS hc hs hn hx hE
  exact hW _ _ _ _ _ _ _ _ _ _ _ _ _ _ _ _ ad C.exec C.byt (fun q => kt q p e R s m args below meth c ad0 ad H locs cells slots ls Q n0 C hR hS hl hL vL (hv _ vS) hc hs hn hx hE) (fun q => kf q p e R s m args below meth c ad0 ad H locs cells slots ls Q n0 C hR hS hl hL vL (hv _ vS) hc hs hn hx hE)
section Brs
variable {x y : Int32} {off : Int} {tgt : Nat}
theorem go_if_eq (h : decode (am_by j) pc = .ok (.ifCond .eq off, 3)) (ht : (pc : Int) + off = (tgt : Int)) (kt : x = 0 → am_Go w j d k tgt L st G P) (kf : ¬ x = 0 → am_Go w j d k (pc + 3) L st G P) : am_Go w j d k pc L (.inl x :: st) G P :=
  go_br (fun _ _ _ _ _ _ _ _ _ _ _ _ _ _ _ _ _ hx hb q1 q2 => lv_if_eq hx hb h ht q1 q2) (fun _ v => v.tl) kt kf
theorem go_icmp_eq (h : decode (am_by j) pc = .ok (.if_icmp .eq off, 3)) (ht : (pc : Int) + off = (tgt : Int)) (kt : x = y → am_Go w j d k tgt L st G P) (kf : ¬ x = y → am_Go w j d k (pc + 3) L st G P) : am_Go w j d k pc L (.inl y :: .inl x :: st) G P :=
  go_br (fun _ _ _ _ _ _ _ _ _ _ _ _ _ _ _ _ _ hx hb q1 q2 => lv_icmp_eq hx hb h ht q1 q2) (fun _ v => v.tl.tl) kt kf
theorem go_if_ne (h : decode (am_by j) pc = .ok (.ifCond .ne off, 3)) (ht : (pc : Int) + off = (tgt : Int)) (kt : ¬ x = 0 → am_Go w j d k tgt L st G P) (kf : x = 0 → am_Go w j d k (pc + 3) L st G P) : am_Go w j d k pc L (.inl x :: st) G P :=
  go_br (fun _ _ _ _ _ _ _ _ _ _ _ _ _ _ _ _ _ hx hb q1 q2 => lv_if_ne hx hb h ht q1 q2) (fun _ v => v.tl) kt kf
theorem go_icmp_ne (h : decode (am_by j) pc = .ok (.if_icmp .ne off, 3)) (ht : (pc : Int) + off = (tgt : Int)) (kt : ¬ x = y → am_Go w j d k tgt L st G P) (kf : x = y → am_Go w j d k (pc + 3) L st G P) : am_Go w j d k pc L (.inl y :: .inl x :: st) G P :=
  go_br (fun _ _ _ _ _ _ _ _ _ _ _ _ _ _ _ _ _ hx hb q1 q2 => lv_icmp_ne hx hb h ht q1 q2) (fun _ v => v.tl.tl) kt kf
theorem go_if_lt (h : decode (am_by j) pc = .ok (.ifCond .lt off, 3)) (ht : (pc : Int) + off = (tgt : Int)) (kt : x < 0 → am_Go w j d k tgt L st G P) (kf : ¬ x < 0 → am_Go w j d k (pc + 3) L st G P) : am_Go w j d k pc L (.inl x :: st) G P :=
  go_br (fun _ _ _ _ _ _ _ _ _ _ _ _ _ _ _ _ _ hx hb q1 q2 => lv_if_lt hx hb h ht q1 q2) (fun _ v => v.tl) kt kf
theorem go_icmp_lt (h : decode (am_by j) pc = .ok (.if_icmp .lt off, 3)) (ht : (pc : Int) + off = (tgt : Int)) (kt : x < y → am_Go w j d k tgt L st G P) (kf : ¬ x < y → am_Go w j d k (pc + 3) L st G P) : am_Go w j d k pc L (.inl y :: .inl x :: st) G P :=
  go_br (fun _ _ _ _ _ _ _ _ _ _ _ _ _ _ _ _ _ hx hb q1 q2 => lv_icmp_lt hx hb h ht q1 q2) (fun _ v => v.tl.tl) kt kf
theorem go_if_ge (h : decode (am_by j) pc = .ok (.ifCond .ge off, 3)) (ht : (pc : Int) + off = (tgt : Int)) (kt : 0 ≤ x → am_Go w j d k tgt L st G P) (kf : ¬ 0 ≤ x → am_Go w j d k (pc + 3) L st G P) : am_Go w j d k pc L (.inl x :: st) G P :=
  go_br (fun _ _ _ _ _ _ _ _ _ _ _ _ _ _ _ _ _ hx hb q1 q2 => lv_if_ge hx hb h ht q1 q2) (fun _ v => v.tl) kt kf
theorem go_icmp_ge (h : decode (am_by j) pc = .ok (.if_icmp .ge off, 3)) (ht : (pc : Int) + off = (tgt : Int)) (kt : y ≤ x → am_Go w j d k tgt L st G P) (kf : ¬ y ≤ x → am_Go w j d k (pc + 3) L st G P) : am_Go w j d k pc L (.inl y :: .inl x :: st) G P :=
  go_br (fun _ _ _ _ _ _ _ _ _ _ _ _ _ _ _ _ _ hx hb q1 q2 => lv_icmp_ge hx hb h ht q1 q2) (fun _ v => v.tl.tl) kt kf
theorem go_if_gt (h : decode (am_by j) pc = .ok (.ifCond .gt off, 3)) (ht : (pc : Int) + off = (tgt : Int)) (kt : 0 < x → am_Go w j d k tgt L st G P) (kf : ¬ 0 < x → am_Go w j d k (pc + 3) L st G P) : am_Go w j d k pc L (.inl x :: st) G P :=
  go_br (fun _ _ _ _ _ _ _ _ _ _ _ _ _ _ _ _ _ hx hb q1 q2 => lv_if_gt hx hb h ht q1 q2) (fun _ v => v.tl) kt kf
theorem go_icmp_gt (h : decode (am_by j) pc = .ok (.if_icmp .gt off, 3)) (ht : (pc : Int) + off = (tgt : Int)) (kt : y < x → am_Go w j d k tgt L st G P) (kf : ¬ y < x → am_Go w j d k (pc + 3) L st G P) : am_Go w j d k pc L (.inl y :: .inl x :: st) G P :=
  go_br (fun _ _ _ _ _ _ _ _ _ _ _ _ _ _ _ _ _ hx hb q1 q2 => lv_icmp_gt hx hb h ht q1 q2) (fun _ v => v.tl.tl) kt kf
theorem go_if_le (h : decode (am_by j) pc = .ok (.ifCond .le off, 3)) (ht : (pc : Int) + off = (tgt : Int)) (kt : x ≤ 0 → am_Go w j d k tgt L st G P) (kf : ¬ x ≤ 0 → am_Go w j d k (pc + 3) L st G P) : am_Go w j d k pc L (.inl x :: st) G P :=
  go_br (fun _ _ _ _ _ _ _ _ _ _ _ _ _ _ _ _ _ hx hb q1 q2 => lv_if_le hx hb h ht q1 q2) (fun _ v => v.tl) kt kf
theorem go_icmp_le (h : decode (am_by j) pc = .ok (.if_icmp .le off, 3)) (ht : (pc : Int) + off = (tgt : Int)) (kt : x ≤ y → am_Go w j d k tgt L st G P) (kf : ¬ x ≤ y → am_Go w j d k (pc + 3) L st G P) : am_Go w j d k pc L (.inl y :: .inl x :: st) G P :=
  go_br (fun _ _ _ _ _ _ _ _ _ _ _ _ _ _ _ _ _ hx hb q1 q2 => lv_icmp_le hx hb h ht q1 q2) (fun _ v => v.tl.tl) kt kf
end Brs
/-- loads and stores of locals -/
theorem am_rfv {ad : Nat → Nat} {r : Option Nat} : am_v ad (.inr r) = .null ∨ ∃ a, am_v ad (.inr r) = .ref a := va_rf_or _
theorem go_ld {i len : Nat} {v : am_V} (hi : L[i]? = some (some v))
    (hW : ∀ (p : Program) (l : Launch) (e : Env) (R : Room) (s : State) (m : MethodId) (args : Array Value) (below : List Frame) (meth : Method) (c : Code) (H : Heap) (locs : List Loc) (cells slots : Nat) (Q : State → Prop) (ls : Array Slot) (ad : Nat → Nat),
      p.tables.exec = Jvm.exec → c.code = am_by j → ls[i]? = some (.val (am_v ad v)) → W p l e R s m args below meth c H locs cells slots Q (F0 m (pc + len) ls (am_v ad v :: st.map (am_v ad))) → W p l e R s m args below meth c H locs cells slots Q (F0 m pc ls (st.map (am_v ad))))
    (kk : am_Go w j d k (pc + len) L (v :: st) G P) : am_Go w j d k pc L st G P := by
  intro p e R s m args below meth c ad0 ad H locs cells slots ls Q n0 C hR hS hl hL vL vS hc hs hn hx hE
  exact hW _ _ _ _ _ _ _ _ _ _ _ _ _ _ _ _ ad C.exec C.byt (hl.at hi) (kk p e R s m args below meth c ad0 ad H locs cells slots ls Q n0 C hR hS hl hL vL (vS.cons (vL i v hi)) hc hs hn hx hE)
theorem go_iload_n {n : Fin 4} {i : Nat} {x : Int32} (h : decode (am_by j) pc = .ok (.iload_n n, 1)) (e : (n : Nat) = i) (hi : L[i]? = some (some (.inl x))) (kk : am_Go w j d k (pc + 1) L (.inl x :: st) G P) : am_Go w j d k pc L st G P :=
  go_ld hi (fun _ _ _ _ _ _ _ _ _ _ _ _ _ _ _ _ _ hx hb hl q => lv_iload_n hx hb h e hl q) kk
theorem go_iload {i : Nat} {x : Int32} (h : decode (am_by j) pc = .ok (.iload i, 2)) (hi : L[i]? = some (some (.inl x))) (kk : am_Go w j d k (pc + 2) L (.inl x :: st) G P) : am_Go w j d k pc L st G P :=
  go_ld hi (fun _ _ _ _ _ _ _ _ _ _ _ _ _ _ _ _ _ hx hb hl q => lv_iload hx hb h hl q) kk
theorem go_aload_n {n : Fin 4} {i : Nat} {r : Option Nat} (h : decode (am_by j) pc = .ok (.aload_n n, 1)) (e : (n : Nat) = i) (hi : L[i]? = some (some (.inr r))) (kk : am_Go w j d k (pc + 1) L (.inr r :: st) G P) : am_Go w j d k pc L st G P :=
  go_ld hi (fun _ _ _ _ _ _ _ _ _ _ _ _ _ _ _ _ ad hx hb hl q => by
    rcases am_rfv (ad := ad) (r := r) with g | ⟨a, g⟩
    · rw [g] at hl q; exact lv_aload_nN hx hb h e hl q
    · rw [g] at hl q; exact lv_aload_n hx hb h e hl q) kk
theorem go_aload {i : Nat} {r : Option Nat} (h : decode (am_by j) pc = .ok (.aload i, 2)) (hi : L[i]? = some (some (.inr r))) (kk : am_Go w j d k (pc + 2) L (.inr r :: st) G P) : am_Go w j d k pc L st G P :=
  go_ld hi (fun _ _ _ _ _ _ _ _ _ _ _ _ _ _ _ _ ad hx hb hl q => by
    rcases am_rfv (ad := ad) (r := r) with g | ⟨a, g⟩
    · rw [g] at hl q; exact lv_aloadN hx hb h hl q
    · rw [g] at hl q; exact lv_aload hx hb h hl q) kk
theorem go_sto {i len : Nat} {v : am_V}
    (hW : ∀ (p : Program) (l : Launch) (e : Env) (R : Room) (s : State) (m : MethodId) (args : Array Value) (below : List Frame) (meth : Method) (c : Code) (H : Heap) (locs : List Loc) (cells slots : Nat) (Q : State → Prop) (ls : Array Slot) (ad : Nat → Nat) (nL : Nat) (lv : List (Nat × Value)),
      p.tables.exec = Jvm.exec → c.code = am_by j → lv_has ls nL lv → i < nL → (∀ ls' : Array Slot, lv_has ls' nL ((i, am_v ad v) :: lv.filter (fun q => !(q.1 == i) && !(q.1 + 1 == i && q.2.category == 2))) → W p l e R s m args below meth c H locs cells slots Q (F0 m (pc + len) ls' (st.map (am_v ad)))) → W p l e R s m args below meth c H locs cells slots Q (F0 m pc ls (am_v ad v :: st.map (am_v ad))))
    (hi : i < L.length) (kk : am_Go w j d k (pc + len) (L.set i (some v)) st G P) : am_Go w j d k pc L (v :: st) G P := by
  intro p e R s m args below meth c ad0 ad H locs cells slots ls Q n0 C hR hS hl hL vL vS hc hs hn hx hE
  exact hW _ _ _ _ _ _ _ _ _ _ _ _ _ _ _ _ ad L.length (am_lv ad L) C.exec C.byt hl hi (fun ls' hl' => kk p e R s m args below meth c ad0 ad H locs cells slots ls' Q n0 C hR hS (am_Ls.st rfl hl') (by rw [List.length_set]; exact hL) (vL.set vS.hd) vS.tl hc hs hn hx hE)
theorem go_istore_n {n : Fin 4} {i : Nat} {x : Int32} (h : decode (am_by j) pc = .ok (.istore_n n, 1)) (e : (n : Nat) = i) (hi : i < L.length) (kk : am_Go w j d k (pc + 1) (L.set i (some (.inl x))) st G P) : am_Go w j d k pc L (.inl x :: st) G P :=
  go_sto (fun _ _ _ _ _ _ _ _ _ _ _ _ _ _ _ _ _ _ _ hx hb hl hi q => lv_istore_n hx hb h e hl hi rfl q) hi kk
theorem go_istore {i : Nat} {x : Int32} (h : decode (am_by j) pc = .ok (.istore i, 2)) (hi : i < L.length) (kk : am_Go w j d k (pc + 2) (L.set i (some (.inl x))) st G P) : am_Go w j d k pc L (.inl x :: st) G P :=
  go_sto (fun _ _ _ _ _ _ _ _ _ _ _ _ _ _ _ _ _ _ _ hx hb hl hi q => lv_istore hx hb h hl hi rfl q) hi kk
theorem go_astore_n {n : Fin 4} {i : Nat} {r : Option Nat} (h : decode (am_by j) pc = .ok (.astore_n n, 1)) (e : (n : Nat) = i) (hi : i < L.length) (kk : am_Go w j d k (pc + 1) (L.set i (some (.inr r))) st G P) : am_Go w j d k pc L (.inr r :: st) G P :=
  go_sto (fun _ _ _ _ _ _ _ _ _ _ _ _ _ _ _ _ ad _ _ hx hb hl hi q => by
    rcases am_rfv (ad := ad) (r := r) with g | ⟨a, g⟩
    · rw [g] at q ⊢; exact lv_astore_nN hx hb h e hl hi rfl q
    · rw [g] at q ⊢; exact lv_astore_n hx hb h e hl hi rfl q) hi kk
theorem go_astore {i : Nat} {r : Option Nat} (h : decode (am_by j) pc = .ok (.astore i, 2)) (hi : i < L.length) (kk : am_Go w j d k (pc + 2) (L.set i (some (.inr r))) st G P) : am_Go w j d k pc L (.inr r :: st) G P :=
  go_sto (fun _ _ _ _ _ _ _ _ _ _ _ _ _ _ _ _ ad _ _ hx hb hl hi q => by
    rcases am_rfv (ad := ad) (r := r) with g | ⟨a, g⟩
    · rw [g] at q ⊢; exact lv_astoreN hx hb h hl hi rfl q
    · rw [g] at q ⊢; exact lv_astore hx hb h hl hi rfl q) hi kk
theorem go_iinc {i : Nat} {n : Int} {x : Int32} (h : decode (am_by j) pc = .ok (.iinc i n, 3)) (hi : L[i]? = some (some (.inl x))) (kk : am_Go w j d k (pc + 3) (L.set i (some (.inl (x + Int32.ofInt n)))) st G P) : am_Go w j d k pc L st G P := by
  intro p e R s m args below meth c ad0 ad H locs cells slots ls Q n0 C hR hS hl hL vL vS hc hs hn hx hE
  obtain ⟨q, hq⟩ := List.getElem?_of_mem (am_lv_mem.mpr ⟨_, hi, rfl⟩ : (i, am_v ad (.inl x)) ∈ am_lv ad L)
  exact lv_iinc C.exec C.byt h hl (k := q) hq rfl (List.getElem?_eq_some_iff.mp hi).1 rfl (fun ls' hl' => kk p e R s m args below meth c ad0 ad H locs cells slots ls' Q n0 C hR hS (am_Ls.st (v := .inl (x + Int32.ofInt n)) rfl hl') (by rw [List.length_set]; exact hL) (vL.set trivial) vS hc hs hn hx hE)
/-- null tests -/
theorem go_ifnull {off : Int} {tgt : Nat} {r : Option Nat} (h : decode (am_by j) pc = .ok (.ifnull off, 3)) (ht : (pc : Int) + off = (tgt : Int)) (kt : r = none → am_Go w j d k tgt L st G P) (kf : ¬ r = none → am_Go w j d k (pc + 3) L st G P) : am_Go w j d k pc L (.inr r :: st) G P := by
  cases r with
  | none => exact go_pure (fun _ _ _ _ _ _ _ _ _ _ _ _ _ _ _ _ _ hx hb q => lv_ifnullN hx hb h ht q) (fun _ v => v.tl) (kt rfl)
  | some a => exact go_pure (fun _ _ _ _ _ _ _ _ _ _ _ _ _ _ _ _ _ hx hb q => lv_ifnull hx hb h q) (fun _ v => v.tl) (kf (fun h => by cases h))
theorem go_ifnonnull {off : Int} {tgt : Nat} {r : Option Nat} (h : decode (am_by j) pc = .ok (.ifnonnull off, 3)) (ht : (pc : Int) + off = (tgt : Int)) (kt : ¬ r = none → am_Go w j d k tgt L st G P) (kf : r = none → am_Go w j d k (pc + 3) L st G P) : am_Go w j d k pc L (.inr r :: st) G P := by
  cases r with
  | none => exact go_pure (fun _ _ _ _ _ _ _ _ _ _ _ _ _ _ _ _ _ hx hb q => lv_ifnonnullN hx hb h q) (fun _ v => v.tl) (kf rfl)
  | some a => exact go_pure (fun _ _ _ _ _ _ _ _ _ _ _ _ _ _ _ _ _ hx hb q => lv_ifnonnull hx hb h ht q) (fun _ v => v.tl) (kt (fun h => by cases h))
/-- switches -/
theorem go_lookup {dflt : Int} {ps : Array (Int × Int)} {len : Nat} {x : Int32} {off : Int} {tgt : Nat} (h : decode (am_by j) pc = .ok (.lookupswitch dflt ps, len)) (hp : (ps.toList.zip (ps.toList.drop 1)).all (fun (a, next) => a.1 < next.1) = true) (ho : Op.lookupswitch.offset ps.toList dflt x.toInt = off) (ht : (pc : Int) + off = (tgt : Int)) (kk : am_Go w j d k tgt L st G P) : am_Go w j d k pc L (.inl x :: st) G P :=
  go_pure (fun _ _ _ _ _ _ _ _ _ _ _ _ _ _ _ _ _ hx hb q => lv_lookup hx hb h hp ho ht q) (fun _ v => v.tl) kk
theorem go_tableOut {dflt lo hi : Int} {offs : Array Int} {len : Nat} {x : Int32} {tgt : Nat} (h : decode (am_by j) pc = .ok (.tableswitch dflt lo hi offs, len)) (ho : x.toInt < lo ∨ hi < x.toInt) (ht : (pc : Int) + dflt = (tgt : Int)) (kk : am_Go w j d k tgt L st G P) : am_Go w j d k pc L (.inl x :: st) G P :=
  go_pure (fun _ _ _ _ _ _ _ _ _ _ _ _ _ _ _ _ _ hx hb q => lv_tableOut hx hb h ho ht q) (fun _ v => v.tl) kk
theorem go_tableIn {dflt lo hi : Int} {offs : Array Int} {len : Nat} {x : Int32} {off : Int} {tgt : Nat} (h : decode (am_by j) pc = .ok (.tableswitch dflt lo hi offs, len)) (h1 : ¬ x.toInt < lo) (h2 : ¬ hi < x.toInt) (ho : offs[(x.toInt - lo).toNat]? = some off) (ht : (pc : Int) + off = (tgt : Int)) (kk : am_Go w j d k tgt L st G P) : am_Go w j d k pc L (.inl x :: st) G P :=
  go_pure (fun _ _ _ _ _ _ _ _ _ _ _ _ _ _ _ _ _ hx hb q => lv_tableIn hx hb h h1 h2 ho ht q) (fun _ v => v.tl) kk
/-- returns -/
theorem go_ret {r : Option am_V} (hr : am_retAt j pc r) (hp : P r G) : am_Go w j d k pc L r.toList G P := by
  intro p e R s m args below meth c ad0 ad H locs cells slots ls Q n0 C hR hS hl hL vL vS hc hs hn hx hE
  exact W.widen (by omega) (by omega) (hE r G ad H locs pc ls hp hR hS hn hx (fun v hv => vS v (by rw [hv]; exact List.mem_cons_self)) hr)
theorem go_ireturn {x : Int32} (hr : am_ret j = some .int) (h : decode (am_by j) pc = .ok (.ireturn, 1)) (hp : P (some (.inl x)) G) : am_Go w j d k pc L [.inl x] G P := go_ret (r := some (.inl x)) (Or.inl ⟨h, x, .int, rfl, hr, rfl⟩) hp
theorem go_zreturn {x : Int32} (hr : am_ret j = some .boolean) (hz : x = 0 ∨ x = 1) (h : decode (am_by j) pc = .ok (.ireturn, 1)) (hp : P (some (.inl x)) G) : am_Go w j d k pc L [.inl x] G P := go_ret (r := some (.inl x)) (Or.inl ⟨h, x, .boolean, rfl, hr, by rcases hz with rfl | rfl <;> decide⟩) hp
theorem go_areturn {x : Option Nat} {ty : FieldType} (hr : am_ret j = some ty) (ht : refKind ty = true) (h : decode (am_by j) pc = .ok (.areturn, 1)) (hp : P (some (.inr x)) G) : am_Go w j d k pc L [.inr x] G P := go_ret (r := some (.inr x)) (Or.inr (Or.inl ⟨h, x, ty, rfl, hr, ht⟩)) hp
theorem go_return (hr : am_ret j = none) (h : decode (am_by j) pc = .ok (.return_, 1)) (hp : P none G) : am_Go w j d k pc L [] G P := go_ret (r := none) (Or.inr (Or.inr ⟨h, rfl, hr⟩)) hp
/-- the consequence -/
theorem go_post {P' : Option am_V → am_G → Prop} (kk : am_Go w j d k pc L st G P') (h : ∀ r G', P' r G' → P r G') : am_Go w j d k pc L st G P := by
  intro p e R s m args below meth c ad0 ad H locs cells slots ls Q n0 C hR hS hl hL vL vS hc hs hn hx hE
  exact kk p e R s m args below meth c ad0 ad H locs cells slots ls Q n0 C hR hS hl hL vL vS hc hs hn hx (fun r G' ad' H' locs' pc' ls' hp => hE r G' ad' H' locs' pc' ls' (h r G' hp))
/-- less is known of the locals -/
theorem go_locals {L' : List (Option am_V)} (hlen : L'.length = L.length) (h : ∀ (i : Nat) (v : am_V), L'[i]? = some (some v) → L[i]? = some (some v)) (kk : am_Go w j d k pc L' st G P) : am_Go w j d k pc L st G P := by
  intro p e R s m args below meth c ad0 ad H locs cells slots ls Q n0 C hR hS hl hL vL vS hc hs hn hx hE
  exact kk p e R s m args below meth c ad0 ad H locs cells slots ls Q n0 C hR hS ⟨by rw [hlen]; exact hl.1, hl.2.1, fun q hq => by
    obtain ⟨v, h1, h2⟩ := am_lv_mem.mp hq
    exact hl.2.2 q (am_lv_mem.mpr ⟨v, h _ _ h1, h2⟩)⟩ (by rw [hlen]; exact hL) (fun i v hi => vL i v (h i v hi)) vS hc hs hn hx hE
theorem am_okR {i q : Nat} (h : am_vG G) : am_ok1 (am_n G) (.inr (G.2.2 i q)) := by
  cases e : G.2.2 i q with
  | none => trivial
  | some r => exact h i q r e
theorem go_getI {i ci q idx : Nat} (h : decode (am_by j) pc = .ok (.getfield idx, 3)) (hf : am_Fl (am_own j) idx ci q) (ht : refKind (am_ft ci q) = false) (hs : G.1[i]? = some (0, ci)) (kk : am_Go w j d k (pc + 3) L (.inl (G.2.1 i q) :: st) G P) : am_Go w j d k pc L (.inr (some i) :: st) G P := by
  intro p e R s m args below meth c ad0 ad H locs cells slots ls Q n0 C hR hS hl hL vL vS hc hs' hn hx hE
  obtain ⟨C0, T, N, hcl, hk, hin, hw, -, -⟩ := hf
  have hN : am_N ci = N := by unfold am_N; rw [hcl]; rfl
  have he := am_ws_at (w := w) (ad := ad) (am_lt hs)
  rw [am_e_obj hs, hN] at he
  have hv : ((List.range N).map (am_fv ad G i ci))[q]? = some (.int (G.2.1 i q)) := by
    rw [am_fs hk]; unfold am_fv; rw [ht]; rfl
  have kk' := kk p e R s m args below meth c ad0 ad H locs cells slots ls Q n0 C hR hS hl hL vL (vS.tl.i) hc hs' hn hx hE
  exact va_get (D := w.2.1) (tys := am_tys w) C.exec C.byt C.ts hin C.own hR.2.2.1 hR.1 i he hcl q hk (C.ts _ hw) (fun _ h9 => h9) hv h kk'
theorem go_getR {i ci q idx : Nat} (h : decode (am_by j) pc = .ok (.getfield idx, 3)) (hf : am_Fl (am_own j) idx ci q) (ht : refKind (am_ft ci q) = true) (hs : G.1[i]? = some (0, ci)) (kk : am_Go w j d k (pc + 3) L (.inr (G.2.2 i q) :: st) G P) : am_Go w j d k pc L (.inr (some i) :: st) G P := by
  intro p e R s m args below meth c ad0 ad H locs cells slots ls Q n0 C hR hS hl hL vL vS hc hs' hn hx hE
  obtain ⟨C0, T, N, hcl, hk, hin, hw, -, -⟩ := hf
  have hN : am_N ci = N := by unfold am_N; rw [hcl]; rfl
  have he := am_ws_at (w := w) (ad := ad) (am_lt hs)
  rw [am_e_obj hs, hN] at he
  have hv : ((List.range N).map (am_fv ad G i ci))[q]? = some (am_v ad (.inr (G.2.2 i q))) := by
    rw [am_fs hk]; unfold am_fv; rw [if_pos ht]; rfl
  have kk' := kk p e R s m args below meth c ad0 ad H locs cells slots ls Q n0 C hR hS hl hL vL (vS.tl.cons (am_okR hR.2.2.2)) hc hs' hn hx hE
  exact va_get (D := w.2.1) (tys := am_tys w) C.exec C.byt C.ts hin C.own hR.2.2.1 hR.1 i he hcl q hk (C.ts _ hw) (fun _ h9 => h9) hv h kk'
/-- a field that is written, by its pool entry; a final one (in its own constructor) -/
def am_Fp (own : String) (idx ci q : Nat) : Prop := am_Fl own idx ci q ∧ ∃ (C : String) (T : u_T) (N : Nat), am_cl[ci]? = some (C, T, N) ∧ (T q).2.2.2 = false
def am_Ff (own : String) (idx ci q : Nat) : Prop := am_Fl own idx ci q ∧ ∃ (C : String) (T : u_T) (N : Nat), am_cl[ci]? = some (C, T, N) ∧ (T q).2.2.2 = true ∧ (T q).1 = own
theorem go_put {i ci q idx : Nat} {v : am_V} {G' : am_G} (h : decode (am_by j) pc = .ok (.putfield idx, 3)) (hf : am_Fp (am_own j) idx ci q ∨ (am_Ff (am_own j) idx ci q ∧ (am_y j).name = "<init>")) (hs : G.1[i]? = some (0, ci)) (hfit : ∀ ad, narrow (am_ft ci q) (am_v ad v) = am_v ad v ∧ fits (am_ft ci q) (am_v ad v) = true)
    (h1 : G'.1 = G.1) (h2 : ∀ ad, am_fv ad G' i ci q = am_v ad v) (h3 : ∀ ad a, a ≠ q → am_fv ad G' i ci a = am_fv ad G i ci a) (h4 : ∀ a, a ≠ i → G'.2.1 a = G.2.1 a ∧ G'.2.2 a = G.2.2 a) (h5 : am_ok1 (am_n G) v → am_vG G → am_vG G')
    (kk : am_Go w j d k (pc + 3) L st G' P) : am_Go w j d k pc L (v :: .inr (some i) :: st) G P := by
  intro p e R s m args below meth c ad0 ad H locs cells slots ls Q n0 C hR hS hl hL vL vS hc hs' hn hx hE
  have hf0 : am_Fl (am_own j) idx ci q := hf.elim (fun h => h.1) (fun h => h.1.1)
  obtain ⟨C0, T, N, hcl, hk, hin, hw, hty, hnm⟩ := hf0
  have hN : am_N ci = N := by unfold am_N; rw [hcl]; rfl
  have he := am_ws_at (w := w) (ad := ad) (am_lt hs)
  rw [am_e_obj hs, hN] at he
  have hn' : am_n G' = am_n G := by unfold am_n; rw [h1]
  have hset : (am_ws w ad G).set i (ad i, .inr (ci, ((List.range N).map (am_fv ad G i ci)).set q (am_v ad v))) = am_ws w ad G' := by
    rw [am_fs_set hk (h2 ad) (h3 ad), am_ws_set h1 (am_lt hs) (fun a ha => am_e_row (by rw [h1]) (h4 a ha).1 (h4 a ha).2), am_e_obj (G := G') (by rw [h1]; exact hs), hN]
  have kk' : ∀ (H1 : Heap) (locs1 : List Loc), va_P w.2.1 am_cl ((am_ws w ad G).set i (ad i, .inr (ci, ((List.range N).map (am_fv ad G i ci)).set q (am_v ad v)))) H1 → va_D (am_A w) ((am_ws w ad G).set i (ad i, .inr (ci, ((List.range N).map (am_fv ad G i ci)).set q (am_v ad v)))) → va_S (am_A w) s.heap H1 locs1 →
      W p w.1 e R s m args below meth c H1 locs1 cells slots Q (F0 m (pc + 3) ls (st.map (am_v ad))) := by
    intro H1 locs1 hP1 hD1 hS1
    rw [hset] at hP1 hD1
    exact kk p e R s m args below meth c ad0 ad H1 locs1 cells slots ls Q n0 C ⟨hP1, hD1, hR.2.2.1, h5 vS.hd hR.2.2.2⟩ hS1 hl hL (by rw [hn']; exact vL) (by rw [hn']; exact vS.tl.tl) hc hs' (by rw [hn']; exact hn) hx hE
  rcases hf with ⟨-, C1, T1, N1, hcl1, hfin⟩ | ⟨⟨-, C1, T1, N1, hcl1, hfin, hd⟩, hy⟩
  · cases hcl.symm.trans hcl1
    exact va_put (D := w.2.1) (tys := am_tys w) C.exec C.byt C.ts hin (am_ft ci) hty hnm C.own hR.2.2.1 hR.1 hR.2.1 hS i he hcl q hk (C.ts _ hw) (fun _ h9 => h9) hfin (hty q hk) (hfit ad).1 (hfit ad).2 (by simp; exact hk) h kk'
  · cases hcl.symm.trans hcl1
    exact va_putF (D := w.2.1) (tys := am_tys w) C.exec C.byt C.ts hin (am_ft ci) hty hnm C.own hR.2.2.1 hR.1 hR.2.1 hS i he hcl q hk (C.ts _ hw) (fun _ h9 => h9) hfin (C.ini hy) hd (hty q hk) (hfit ad).1 (hfit ad).2 (by simp; exact hk) h kk'
theorem am_fv_wi {ad : Nat → Nat} {i ci q : Nat} {x : Int32} (ht : refKind (am_ft ci q) = false) : am_fv ad (am_wi G i q x) i ci q = .int x := by
  unfold am_fv am_wi; rw [if_neg (by rw [ht]; decide)]
  show Value.int (va_up G.2.1 i (upd (G.2.1 i) q x) i q) = _
  rw [am_up_eq, pk_us]
theorem am_fv_wi' {ad : Nat → Nat} {i ci q a : Nat} {x : Int32} (h : a ≠ q) : am_fv ad (am_wi G i q x) i ci a = am_fv ad G i ci a := by
  unfold am_fv am_wi
  show (if _ then _ else Value.int (va_up G.2.1 i (upd (G.2.1 i) q x) i a)) = _
  rw [am_up_eq, pk_un h]
theorem am_fv_wr {ad : Nat → Nat} {i ci q : Nat} {r : Option Nat} (ht : refKind (am_ft ci q) = true) : am_fv ad (am_wr G i q r) i ci q = am_v ad (.inr r) := by
  unfold am_fv am_wr; rw [if_pos ht]
  show va_rf ((va_up G.2.2 i (va_up (G.2.2 i) q r) i q).map ad) = _
  rw [am_up_eq, am_up_eq]; rfl
theorem am_fv_wr' {ad : Nat → Nat} {i ci q a : Nat} {r : Option Nat} (h : a ≠ q) : am_fv ad (am_wr G i q r) i ci a = am_fv ad G i ci a := by
  unfold am_fv am_wr
  show (if _ then va_rf ((va_up G.2.2 i (va_up (G.2.2 i) q r) i a).map ad) else _) = _
  rw [am_up_eq, am_up_ne h]
theorem am_vG_wr {i q : Nat} {r : Option Nat} (h : am_vG G) (hr : am_ok1 (am_n G) (.inr r)) : am_vG (am_wr G i q r) := by
  intro a b x hx
  have hx : va_up G.2.2 i (va_up (G.2.2 i) q r) a b = some x := hx
  by_cases h1 : a = i
  · subst h1
    rw [am_up_eq] at hx
    by_cases h2 : b = q
    · subst h2; rw [am_up_eq] at hx; subst hx; exact hr
    · rw [am_up_ne h2] at hx; exact h _ _ _ hx
  · rw [am_up_ne h1] at hx; exact h _ _ _ hx
theorem am_z0 : narrow .boolean (.int 0) = .int 0 := by decide
theorem am_z1 : narrow .boolean (.int 1) = .int 1 := by decide
theorem am_z2 : fits .boolean (.int 0) = true := by decide
theorem am_z3 : fits .boolean (.int 1) = true := by decide
theorem go_putI {i ci q idx : Nat} {x : Int32} (h : decode (am_by j) pc = .ok (.putfield idx, 3)) (hf : am_Fp (am_own j) idx ci q) (ht : am_ft ci q = .int) (hs : G.1[i]? = some (0, ci)) (kk : am_Go w j d k (pc + 3) L st (am_wi G i q x) P) : am_Go w j d k pc L (.inl x :: .inr (some i) :: st) G P :=
  go_put (G' := am_wi G i q x) h (Or.inl hf) hs (fun ad => by rw [ht]; exact ⟨rfl, rfl⟩) rfl (fun ad => am_fv_wi (by rw [ht]; rfl)) (fun ad a ha => am_fv_wi' ha) (fun a ha => ⟨am_up_ne ha, rfl⟩) (fun _ h => h) kk
theorem go_putZ {i ci q idx : Nat} {x : Int32} (hz : x = 0 ∨ x = 1) (h : decode (am_by j) pc = .ok (.putfield idx, 3)) (hf : am_Fp (am_own j) idx ci q) (ht : am_ft ci q = .boolean) (hs : G.1[i]? = some (0, ci)) (kk : am_Go w j d k (pc + 3) L st (am_wi G i q x) P) : am_Go w j d k pc L (.inl x :: .inr (some i) :: st) G P :=
  go_put (G' := am_wi G i q x) h (Or.inl hf) hs (fun ad => by rw [ht]; rcases hz with rfl | rfl; exact ⟨am_z0, am_z2⟩; exact ⟨am_z1, am_z3⟩) rfl (fun ad => am_fv_wi (by rw [ht]; rfl)) (fun ad a ha => am_fv_wi' ha) (fun a ha => ⟨am_up_ne ha, rfl⟩) (fun _ h => h) kk
theorem go_putR {i ci q idx : Nat} {r : Option Nat} (h : decode (am_by j) pc = .ok (.putfield idx, 3)) (hf : am_Fp (am_own j) idx ci q) (ht : refKind (am_ft ci q) = true) (hs : G.1[i]? = some (0, ci)) (kk : am_Go w j d k (pc + 3) L st (am_wr G i q r) P) : am_Go w j d k pc L (.inr r :: .inr (some i) :: st) G P :=
  go_put (G' := am_wr G i q r) h (Or.inl hf) hs (fun ad => by
    have g : ∀ ty : FieldType, refKind ty = true → narrow ty (am_v ad (.inr r)) = am_v ad (.inr r) ∧ fits ty (am_v ad (.inr r)) = true := by
      intro ty hty
      cases ty <;> first | (cases hty; done) | (cases r <;> exact ⟨rfl, rfl⟩)
    exact g _ ht) rfl (fun ad => am_fv_wr ht) (fun ad a ha => am_fv_wr' ha) (fun a ha => ⟨rfl, am_up_ne ha⟩) (fun hr h => am_vG_wr h hr) kk
theorem go_putF {i ci q idx : Nat} {r : Option Nat} (h : decode (am_by j) pc = .ok (.putfield idx, 3)) (hy : (am_y j).name = "<init>") (hf : am_Ff (am_own j) idx ci q) (ht : refKind (am_ft ci q) = true) (hs : G.1[i]? = some (0, ci)) (kk : am_Go w j d k (pc + 3) L st (am_wr G i q r) P) : am_Go w j d k pc L (.inr r :: .inr (some i) :: st) G P :=
  go_put (G' := am_wr G i q r) h (Or.inr ⟨hf, hy⟩) hs (fun ad => by
    have g : ∀ ty : FieldType, refKind ty = true → narrow ty (am_v ad (.inr r)) = am_v ad (.inr r) ∧ fits ty (am_v ad (.inr r)) = true := by
      intro ty hty
      cases ty <;> first | (cases hty; done) | (cases r <;> exact ⟨rfl, rfl⟩)
    exact g _ ht) rfl (fun ad => am_fv_wr ht) (fun ad a ha => am_fv_wr' ha) (fun a ha => ⟨rfl, am_up_ne ha⟩) (fun hr h => am_vG_wr h hr) kk
/-- arrays -/
theorem go_iaload {i n : Nat} {x : Int32} (hs : G.1[i]? = some (1, n)) (hin : vp_in x n) (h : decode (am_by j) pc = .ok (.iaload, 1)) (kk : am_Go w j d k (pc + 1) L (.inl (G.2.1 i x.toNatClampNeg) :: st) G P) : am_Go w j d k pc L (.inl x :: .inr (some i) :: st) G P := by
  intro p e R s m args below meth c ad0 ad H locs cells slots ls Q n0 C hR hS hl hL vL vS hc hs' hn hx hE
  have he := am_ws_at (w := w) (ad := ad) (am_lt hs)
  rw [am_e_int hs] at he
  exact va_iald (D := w.2.1) (tys := am_tys w) C.exec C.byt hR.2.2.1 hR.1 i 0 he rfl hin h (kk p e R s m args below meth c ad0 ad H locs cells slots ls Q n0 C hR hS hl hL vL (vS.tl.tl.i) hc hs' hn hx hE)
theorem go_baload {i n : Nat} {x : Int32} (hs : G.1[i]? = some (2, n)) (hin : vp_in x n) (h : decode (am_by j) pc = .ok (.baload, 1)) (kk : am_Go w j d k (pc + 1) L (.inl (G.2.1 i x.toNatClampNeg) :: st) G P) : am_Go w j d k pc L (.inl x :: .inr (some i) :: st) G P := by
  intro p e R s m args below meth c ad0 ad H locs cells slots ls Q n0 C hR hS hl hL vL vS hc hs' hn hx hE
  have he := am_ws_at (w := w) (ad := ad) (am_lt hs)
  rw [am_e_bool hs] at he
  exact va_zald (D := w.2.1) (tys := am_tys w) C.exec C.byt hR.2.2.1 hR.1 i 1 he rfl hin h (kk p e R s m args below meth c ad0 ad H locs cells slots ls Q n0 C hR hS hl hL vL (vS.tl.tl.i) hc hs' hn hx hE)
theorem go_aaload {i n t : Nat} {x : Int32} (htt : t < am_nrc) (hs : G.1[i]? = some (t + 3, n)) (hin : vp_in x n) (h : decode (am_by j) pc = .ok (.aaload, 1)) (kk : am_Go w j d k (pc + 1) L (.inr (G.2.2 i x.toNatClampNeg) :: st) G P) : am_Go w j d k pc L (.inl x :: .inr (some i) :: st) G P := by
  intro p e R s m args below meth c ad0 ad H locs cells slots ls Q n0 C hR hS hl hL vL vS hc hs' hn hx hE
  have he := am_ws_at (w := w) (ad := ad) (am_lt hs)
  rw [am_e_ref hs] at he
  exact va_aldq (D := w.2.1) (tys := am_tys w) C.exec C.byt hR.2.2.1 hR.1 i (2 + t) he (am_tys_r htt) hin h (kk p e R s m args below meth c ad0 ad H locs cells slots ls Q n0 C hR hS hl hL vL (vS.tl.tl.cons (am_okR hR.2.2.2)) hc hs' hn hx hE)
/-- a row of memory replaced: the world behind -/
theorem am_row_ws {ad : Nat → Nat} {i : Nat} {f : Nat → Int32} {n : Nat} {e : va_E} (hi : i < am_n G) (hb : am_e w ad (am_ro G i f) i = e) : (am_ws w ad G).set i (ad i, e) = am_ws w ad (am_ro G i f) := by
  rw [← hb, am_ws_set (G := G) (G' := am_ro G i f) rfl hi (fun a ha => am_e_row rfl (am_up_ne ha) rfl)]
theorem go_iastore {i n : Nat} {x v : Int32} (hs : G.1[i]? = some (1, n)) (hin : vp_in x n) (h : decode (am_by j) pc = .ok (.iastore, 1)) (kk : am_Go w j d k (pc + 1) L st (am_wi G i x.toNatClampNeg v) P) : am_Go w j d k pc L (.inl v :: .inl x :: .inr (some i) :: st) G P := by
  intro p e R s m args below meth c ad0 ad H locs cells slots ls Q n0 C hR hS hl hL vL vS hc hs' hn hx hE
  have he := am_ws_at (w := w) (ad := ad) (am_lt hs)
  rw [am_e_int hs] at he
  refine va_iast (D := w.2.1) (tys := am_tys w) C.exec C.byt hR.2.2.1 hR.1 hR.2.1 hS i 0 he rfl hin h (fun H1 locs1 hP1 hD1 hS1 => ?_)
  have hset : (am_ws w ad G).set i (ad i, .inl (w.2.2.1 0, n, .inl (upd (G.2.1 i) x.toNatClampNeg v))) = am_ws w ad (am_wi G i x.toNatClampNeg v) :=
    am_row_ws (f := upd (G.2.1 i) x.toNatClampNeg v) (n := n) (am_lt hs) (by rw [am_e_int (G := am_ro G i (upd (G.2.1 i) x.toNatClampNeg v)) (x := n) hs]; unfold am_ro; simp only [am_up_eq])
  rw [hset] at hP1 hD1
  exact kk p e R s m args below meth c ad0 ad H1 locs1 cells slots ls Q n0 C ⟨hP1, hD1, hR.2.2.1, hR.2.2.2⟩ hS1 hl hL vL vS.tl.tl.tl hc hs' hn hx hE
theorem go_bastore {i n : Nat} {x v : Int32} (hs : G.1[i]? = some (2, n)) (hin : vp_in x n) (h : decode (am_by j) pc = .ok (.bastore, 1)) (kk : am_Go w j d k (pc + 1) L st (am_wi G i x.toNatClampNeg (v &&& 1)) P) : am_Go w j d k pc L (.inl v :: .inl x :: .inr (some i) :: st) G P := by
  intro p e R s m args below meth c ad0 ad H locs cells slots ls Q n0 C hR hS hl hL vL vS hc hs' hn hx hE
  have he := am_ws_at (w := w) (ad := ad) (am_lt hs)
  rw [am_e_bool hs] at he
  refine va_zast (D := w.2.1) (tys := am_tys w) C.exec C.byt hR.2.2.1 hR.1 hR.2.1 hS i 1 he rfl hin h (fun H1 locs1 hP1 hD1 hS1 => ?_)
  have hset : (am_ws w ad G).set i (ad i, .inl (w.2.2.1 1, n, .inl (upd (G.2.1 i) x.toNatClampNeg (vp_nar .boolean v)))) = am_ws w ad (am_wi G i x.toNatClampNeg (v &&& 1)) :=
    am_row_ws (f := upd (G.2.1 i) x.toNatClampNeg (v &&& 1)) (n := n) (am_lt hs) (by rw [am_e_bool (G := am_ro G i (upd (G.2.1 i) x.toNatClampNeg (v &&& 1))) (x := n) hs]; unfold am_ro; simp only [am_up_eq]; rfl)
  rw [hset] at hP1 hD1
  exact kk p e R s m args below meth c ad0 ad H1 locs1 cells slots ls Q n0 C ⟨hP1, hD1, hR.2.2.1, hR.2.2.2⟩ hS1 hl hL vL vS.tl.tl.tl hc hs' hn hx hE
theorem go_alen {i n t : Nat} (hs : G.1[i]? = some (t + 1, n)) (htt : t < am_nrc + 2) (h : decode (am_by j) pc = .ok (.arraylength, 1)) (kk : am_Go w j d k (pc + 1) L (.inl (nI n) :: st) G P) : am_Go w j d k pc L (.inr (some i) :: st) G P := by
  intro p e R s m args below meth c ad0 ad H locs cells slots ls Q n0 C hR hS hl hL vL vS hc hs' hn hx hE
  have he := am_ws_at (w := w) (ad := ad) (am_lt hs)
  have kk' := kk p e R s m args below meth c ad0 ad H locs cells slots ls Q n0 C hR hS hl hL vL (vS.tl.i) hc hs' hn hx hE
  match t, hs, htt with
  | 0, hs, _ => rw [am_e_int hs] at he; exact va_alen (D := w.2.1) (tys := am_tys w) C.exec C.byt hR.2.2.1 hR.1 i 0 he rfl rfl h kk'
  | 1, hs, _ => rw [am_e_bool hs] at he; exact va_alen (D := w.2.1) (tys := am_tys w) C.exec C.byt hR.2.2.1 hR.1 i 1 he rfl rfl h kk'
  | t + 2, hs, htt => rw [am_e_ref hs] at he; exact va_alen (D := w.2.1) (tys := am_tys w) C.exec C.byt hR.2.2.1 hR.1 i (2 + t) he (am_tys_r (by omega)) rfl h kk'
theorem go_aastore {i n t ci q : Nat} {x : Int32} (htt : t < am_nrc) (hs : G.1[i]? = some (t + 3, n)) (hin : vp_in x n) (hq : G.1[q]? = some (0, ci)) (hc0 : (am_cl[ci]?).map (fun r => r.1) = some (am_rc t)) (h : decode (am_by j) pc = .ok (.aastore, 1)) (kk : am_Go w j d k (pc + 1) L st (am_wr G i x.toNatClampNeg (some q)) P) : am_Go w j d k pc L (.inr (some q) :: .inl x :: .inr (some i) :: st) G P := by
  intro p e R s m args below meth c ad0 ad H locs cells slots ls Q n0 C hR hS hl hL vL vS hc hs' hn hx hE
  have he := am_ws_at (w := w) (ad := ad) (am_lt hs)
  rw [am_e_ref hs] at he
  have hv := am_ws_at (w := w) (ad := ad) (am_lt hq)
  rw [am_e_obj hq] at hv
  obtain ⟨r, hr, hr2⟩ := Option.map_eq_some_iff.mp hc0
  refine va_astq (D := w.2.1) (tys := am_tys w) C.exec C.byt hR.2.2.1 hR.1 hR.2.1 hS i (2 + t) q ci he (by rw [hr2]; exact am_tys_r htt) hv hr hin h (fun H1 locs1 hP1 hD1 hS1 => ?_)
  have hset : (am_ws w ad G).set i (ad i, .inl (w.2.2.1 (2 + t), n, .inr (.inr (.inr (.inr (va_up (fun j => (G.2.2 i j).map ad) x.toNatClampNeg (some (ad q)))))))) = am_ws w ad (am_wr G i x.toNatClampNeg (some q)) := by
    rw [am_ws_set (G := G) (G' := am_wr G i x.toNatClampNeg (some q)) rfl (am_lt hs) (fun a ha => am_e_row rfl rfl (am_up_ne ha)), am_e_ref (G := am_wr G i x.toNatClampNeg (some q)) hs]
    have : (fun j => ((am_wr G i x.toNatClampNeg (some q)).2.2 i j).map ad) = va_up (fun j => (G.2.2 i j).map ad) x.toNatClampNeg (some (ad q)) := by
      funext a
      show (va_up G.2.2 i (va_up (G.2.2 i) x.toNatClampNeg (some q)) i a).map ad = _
      rw [am_up_eq]
      by_cases e1 : a = x.toNatClampNeg
      · rw [e1, am_up_eq, am_up_eq]; rfl
      · rw [am_up_ne e1, am_up_ne e1]
    rw [this]
  rw [hset] at hP1 hD1
  exact kk p e R s m args below meth c ad0 ad H1 locs1 cells slots ls Q n0 C ⟨hP1, hD1, hR.2.2.1, am_vG_wr hR.2.2.2 vS.hd⟩ hS1 hl hL vL vS.tl.tl.tl hc hs' hn hx hE
/-- a new cell: the world behind -/
theorem am_new_ws {ad : Nat → Nat} {sh : Nat × Nat} {q : Nat} {e : va_E} (h6 : am_n G < 1000000) (hv : am_vG G) (he : am_e w (va_up ad (am_n G) q) (am_nw G sh) (am_n G) = e) :
    am_ws w ad G ++ [(q, e)] = am_ws w (va_up ad (am_n G) q) (am_nw G sh) := by
  have hn : am_n (am_nw G sh) = am_n G + 1 := by simp [am_n, am_nw]
  have hmap : ∀ r : Option Nat, (∀ x, r = some x → x < am_n G ∨ 1000000 ≤ x) → r.map (va_up ad (am_n G) q) = r.map ad := by
    intro r hr
    cases r with
    | none => rfl
    | some x =>
      have h1 := hr x rfl
      show some (va_up ad (am_n G) q x) = some (ad x)
      rw [am_up_ne (by omega)]
  apply List.ext_getElem?
  intro i
  by_cases hi : i < am_n G
  · rw [List.getElem?_append_left (by rw [am_ws_len]; exact hi), am_ws_at hi, am_ws_at (by rw [hn]; omega)]
    have h1 : va_up ad (am_n G) q i = ad i := am_up_ne (by omega)
    have h2 : am_e w (va_up ad (am_n G) q) (am_nw G sh) i = am_e w ad G i := by
      have g1 : (am_nw G sh).1[i]? = G.1[i]? := List.getElem?_append_left hi
      have g2 : (am_nw G sh).2.1 i = G.2.1 i := am_up_ne (show i ≠ G.1.length from Nat.ne_of_lt hi)
      have g3 : (am_nw G sh).2.2 i = G.2.2 i := am_up_ne (show i ≠ G.1.length from Nat.ne_of_lt hi)
      have g4 : ∀ k : Nat, (G.2.2 i k).map (va_up ad (am_n G) q) = (G.2.2 i k).map ad := fun k => hmap _ (fun x hx => hv i k x hx)
      unfold am_e am_fv
      rw [g1, g2, g3]
      simp only [g4]
    rw [h1, h2]
  · by_cases hi2 : i = am_n G
    · subst hi2
      rw [List.getElem?_append_right (by rw [am_ws_len]; exact Nat.le_refl _), am_ws_len, Nat.sub_self, am_ws_at (by rw [hn]; omega), he, am_up_eq]
      rfl
    · rw [List.getElem?_eq_none (by rw [List.length_append, am_ws_len]; simp; omega), List.getElem?_eq_none (by rw [am_ws_len, hn]; omega)]
theorem am_new_ext {n0 : Nat} {ad0 ad : Nat → Nat} {n q : Nat} (h6 : n < 1000000) (hn : n0 ≤ n) (hx : am_ext n0 ad0 ad) : am_ext n0 ad0 (va_up ad n q) := fun i hi => by
  rw [am_up_ne (by omega)]; exact hx i hi
theorem am_new_vG {sh : Nat × Nat} (hv : am_vG G) : am_vG (am_nw G sh) := by
  intro i q r h
  have hn : am_n (am_nw G sh) = am_n G + 1 := by simp [am_n, am_nw]
  have h : va_up G.2.2 G.1.length (fun _ => none) i q = some r := h
  by_cases hi : i = G.1.length
  · subst hi; rw [am_up_eq] at h; cases h
  · rw [am_up_ne hi] at h
    have := hv i q r h
    omega
/-- behind a cell's making -/
theorem am_new_go {sh : Nat × Nat} {len N : Nat} (h6 : am_n G < 1000000) (kk : am_Go w j d (k.1 - 1, k.2 - N) (pc + len) L (.inr (some (am_n G)) :: st) (am_nw G sh) P)
    {p : Program} {e : Env} {R : Room} {s : State} {m : MethodId} {args : Array Value} {below : List Frame} {meth : Method} {c : Code} {ad0 ad : Nat → Nat} {H1 : Heap} {locs : List Loc} {cells slots : Nat} {ls : Array Slot} {Q : State → Prop} {n0 : Nat} {q : Nat} {ev : va_E}
    (C : am_Cx w j d ad0 p R s m args meth c) (hK : va_K w.2.1 am_cl (am_tys w) s) (hv : am_vG G) (he : am_e w (va_up ad (am_n G) q) (am_nw G sh) (am_n G) = ev)
    (hP1 : va_P w.2.1 am_cl (am_ws w ad G ++ [(q, ev)]) H1) (hD1 : va_D (am_A w) (am_ws w ad G ++ [(q, ev)])) (hS1 : va_S (am_A w) s.heap H1 locs) (hl : am_Ls ad L ls) (hL : L.length = am_mx j) (vL : am_vL (am_n G) L) (vS : am_vS (am_n G) st)
    (hk1 : 1 ≤ k.1) (hk2 : N ≤ k.2) (hc : cells + k.1 ≤ R.cells) (hs : slots + k.2 ≤ R.slots) (hn : n0 ≤ am_n G) (hx : am_ext n0 ad0 ad)
    (hE : ∀ (r : Option am_V) (G' : am_G) (ad' : Nat → Nat) (H' : Heap) (locs' : List Loc) (pc' : Nat) (ls' : Array Slot), P r G' → am_Rel w ad' G' s H' → va_S (am_A w) s.heap H' locs' → n0 ≤ am_n G' → am_ext n0 ad0 ad' → (∀ v, r = some v → am_ok1 (am_n G') v) → am_retAt j pc' r →
      W p w.1 e R s m args below meth c H' locs' R.cells R.slots Q (F0 m pc' ls' (r.toList.map (am_v ad')))) :
    W p w.1 e R s m args below meth c H1 locs (cells + 1) (slots + N) Q (F0 m (pc + len) ls (.ref q :: st.map (am_v ad))) := by
  have hn1 : am_n (am_nw G sh) = am_n G + 1 := by simp [am_n, am_nw]
  have hx1 : am_ext (am_n G) ad (va_up ad (am_n G) q) := am_new_ext h6 (Nat.le_refl _) am_ext.rf
  rw [am_new_ws h6 hv he] at hP1 hD1
  have g := kk p e R s m args below meth c ad0 (va_up ad (am_n G) q) H1 locs (cells + 1) (slots + N) ls Q n0 C ⟨hP1, hD1, hK, am_new_vG hv⟩ hS1 (hl.ext hx1 vL) hL (by rw [hn1]; exact vL.up (by omega)) (by rw [hn1]; exact (vS.up (by omega)).cons (show am_n G < am_n G + 1 ∨ _ by omega)) (by show cells + 1 + (k.1 - 1) ≤ R.cells; omega) (by show slots + N + (k.2 - N) ≤ R.slots; omega) (by rw [hn1]; omega) (am_new_ext h6 hn hx) hE
  have e1 : (Sum.inr (some (am_n G)) :: st).map (am_v (va_up ad (am_n G) q)) = .ref q :: st.map (am_v ad) := by
    rw [List.map_cons, hx1.st vS]
    show va_rf (some (va_up ad (am_n G) q (am_n G))) :: _ = _
    rw [am_up_eq]; rfl
  rw [e1] at g
  exact g
/-- a class that method j makes, by its pool entry -/
def am_Cn (own : String) (idx ci N : Nat) : Prop := ∃ (C : String) (T : u_T), am_cl[ci]? = some (C, T, N) ∧ (∀ w ∈ u_ws C T N, w ∈ am_T) ∧ (∀ q, q < N → parseFieldDescriptor (T q).2.2.1 = some (am_ft ci q)) ∧ (∀ q, q < N → defaultValue (am_ft ci q) = if refKind (am_ft ci q) = true then .null else .int 0) ∧ Cond.classLink own idx C ∈ am_T ∧ Cond.instantiable C N ∈ am_T ∧ Cond.initialized C ∈ am_T
theorem go_new {idx ci N : Nat} (h6 : am_n G < 1000000) (hk1 : 1 ≤ k.1) (hk2 : N ≤ k.2) (h : decode (am_by j) pc = .ok (.new idx, 3)) (hf : am_Cn (am_own j) idx ci N) (kk : am_Go w j d (k.1 - 1, k.2 - N) (pc + 3) L (.inr (some (am_n G)) :: st) (am_nw G (0, ci)) P) : am_Go w j d k pc L st G P := by
  intro p e R s m args below meth c ad0 ad H locs cells slots ls Q n0 C hR hS hl hL vL vS hc hs hn hx hE
  obtain ⟨Cn, T, hcl, hin, hty, hdef, w1, w2, w3⟩ := hf
  have hN : am_N ci = N := by unfold am_N; rw [hcl]; rfl
  have hts := C.ts
  have hB := C.bs
  refine va_new (D := w.2.1) (tys := am_tys w) (ci := ci) (fs := (List.range N).map fun q => if refKind (am_ft ci q) = true then .null else .int 0) (C := Cn) (T := T) (N := N) C.exec C.byt hts hin (am_ft ci) hty C.own (hts _ w1) (hts _ w2) (hts _ w3) hR.2.2.1 hR.1 hR.2.1 hS (fun q hq => Nat.le_trans hB hq) hcl (fun q hq => ?_) (by omega) (by omega) h (fun q H1 hP1 hD1 hS1 => ?_)
  · rw [hdef q hq]
    unfold vp_V
    rw [List.getD_eq_getElem?_getD, List.getElem?_map, List.getElem?_range hq]
    rfl
  · refine am_new_go h6 kk C hR.2.2.1 hR.2.2.2 ?_ hP1 hD1 hS1 hl hL vL vS hk1 hk2 hc hs hn hx hE
    have hsh : (am_nw G (0, ci)).1[am_n G]? = some (0, ci) := by simp [am_nw, am_n]
    rw [am_e_obj hsh, hN]
    have : am_fv (va_up ad (am_n G) q) (am_nw G (0, ci)) (am_n G) ci = fun q => if refKind (am_ft ci q) = true then .null else .int 0 := by
      funext a
      unfold am_fv am_nw am_n
      show (if _ then va_rf ((va_up G.2.2 G.1.length (fun _ => none) G.1.length a).map _) else Value.int (va_up G.2.1 G.1.length (fun _ => 0) G.1.length a)) = _
      rw [am_up_eq, am_up_eq]
      rfl
    rw [this]
theorem am_arr_eq {s : State} {cA : ClassId} {ty : FieldType} {q : Nat} (hK : va_K w.2.1 am_cl (am_tys w) s) (hK2 : va_K w.2.1 am_cl (am_tys w ++ [(cA, ty)]) s) {c1 : ClassId} (hq : (am_tys w)[q]? = some (c1, ty)) (hp : ty = .int ∨ ty = .boolean ∨ ∃ C, ty = .object C) : cA = c1 := by
  have h1 := (hK.2 q _ hq).2
  have h2 := (hK2.2 (am_tys w).length (cA, ty) (by rw [List.getElem?_append_right (Nat.le_refl _), Nat.sub_self]; rfl)).2
  rcases hp with rfl | rfl | ⟨C, rfl⟩
  · have g1 : s.vm.findClass ("[" ++ FieldType.int.toString) = some c1 := h1
    have g2 : s.vm.findClass ("[" ++ FieldType.int.toString) = some cA := h2
    exact Option.some.inj (g2.symm.trans g1)
  · have g1 : s.vm.findClass ("[" ++ FieldType.boolean.toString) = some c1 := h1
    have g2 : s.vm.findClass ("[" ++ FieldType.boolean.toString) = some cA := h2
    exact Option.some.inj (g2.symm.trans g1)
  · obtain ⟨_, _, _, _, _, g1⟩ := h1
    obtain ⟨_, _, _, _, _, g2⟩ := h2
    exact Option.some.inj (g2.symm.trans g1)
theorem go_newI {x : Int32} {n : Nat} (h6 : am_n G < 1000000) (hx0 : x = nI n) (hn0 : n < 100000) (hk1 : 1 ≤ k.1) (hk2 : n ≤ k.2) (hw : Cond.arrayClass .int ∈ am_T) (h : decode (am_by j) pc = .ok (.newarray .int, 2)) (kk : am_Go w j d (k.1 - 1, k.2 - n) (pc + 2) L (.inr (some (am_n G)) :: st) (am_nw G (1, n)) P) : am_Go w j d k pc L (.inl x :: st) G P := by
  intro p e R s m args below meth c ad0 ad H locs cells slots ls Q n0 C hR hS hl hL vL vS hc hs hn hx hE
  have hB := C.bs
  refine va_newa (D := w.2.1) (tys := am_tys w) (atype := .int) (ty := .int) (a0 := (n, .inl (fun _ => 0))) C.exec C.byt (C.ts _ hw) rfl hR.2.2.1 hR.1 hR.2.1 hS (fun q hq => Nat.le_trans hB hq) (N' := n) (fun cA => rfl) (by rw [hx0]; exact nI_pos (by omega)) (by rw [hx0]; exact nI_clamp (by omega)) (by show n * 4 ≤ _; omega) (by omega) (by omega) h (fun q cA H1 hK1 hP1 hD1 hS1 => ?_)
  have hcA := am_arr_eq (q := 0) hR.2.2.1 hK1 rfl (Or.inl rfl)
  subst hcA
  refine am_new_go h6 kk C hR.2.2.1 hR.2.2.2 ?_ hP1 hD1 hS1 hl hL vL vS.tl hk1 hk2 hc hs hn hx hE
  have hsh : (am_nw G (1, n)).1[am_n G]? = some (1, n) := by simp [am_nw, am_n]
  rw [am_e_int hsh]
  unfold am_nw am_n
  simp only [am_up_eq]
theorem go_newZ {x : Int32} {n : Nat} (h6 : am_n G < 1000000) (hx0 : x = nI n) (hn0 : n < 100000) (hk1 : 1 ≤ k.1) (hk2 : n ≤ k.2) (hw : Cond.arrayClass .boolean ∈ am_T) (h : decode (am_by j) pc = .ok (.newarray .boolean, 2)) (kk : am_Go w j d (k.1 - 1, k.2 - n) (pc + 2) L (.inr (some (am_n G)) :: st) (am_nw G (2, n)) P) : am_Go w j d k pc L (.inl x :: st) G P := by
  intro p e R s m args below meth c ad0 ad H locs cells slots ls Q n0 C hR hS hl hL vL vS hc hs hn hx hE
  have hB := C.bs
  refine va_newa (D := w.2.1) (tys := am_tys w) (atype := .boolean) (ty := .boolean) (a0 := (n, .inl (fun _ => 0))) C.exec C.byt (C.ts _ hw) rfl hR.2.2.1 hR.1 hR.2.1 hS (fun q hq => Nat.le_trans hB hq) (N' := n) (fun cA => rfl) (by rw [hx0]; exact nI_pos (by omega)) (by rw [hx0]; exact nI_clamp (by omega)) (by show n * 1 ≤ _; omega) (by omega) (by omega) h (fun q cA H1 hK1 hP1 hD1 hS1 => ?_)
  have hcA := am_arr_eq (q := 1) hR.2.2.1 hK1 rfl (Or.inr (Or.inl rfl))
  subst hcA
  refine am_new_go h6 kk C hR.2.2.1 hR.2.2.2 ?_ hP1 hD1 hS1 hl hL vL vS.tl hk1 hk2 hc hs hn hx hE
  have hsh : (am_nw G (2, n)).1[am_n G]? = some (2, n) := by simp [am_nw, am_n]
  rw [am_e_bool hsh]
  unfold am_nw am_n
  simp only [am_up_eq]
theorem go_newR {x : Int32} {n t idx : Nat} (htt : t < am_nrc) (h6 : am_n G < 1000000) (hx0 : x = nI n) (hn0 : n < 100000) (hk1 : 1 ≤ k.1) (hk2 : n ≤ k.2) (hw : Cond.classLink (am_own j) idx (am_rc t) ∈ am_T) (h : decode (am_by j) pc = .ok (.anewarray idx, 3)) (kk : am_Go w j d (k.1 - 1, k.2 - n) (pc + 3) L (.inr (some (am_n G)) :: st) (am_nw G (t + 3, n)) P) : am_Go w j d k pc L (.inl x :: st) G P := by
  intro p e R s m args below meth c ad0 ad H locs cells slots ls Q n0 C hR hS hl hL vL vS hc hs hn hx hE
  have hB := C.bs
  have hAO := C.ao t htt
  refine va_newq (D := w.2.1) (tys := am_tys w) C.exec C.byt C.own (C.ts _ hw) hAO hR.2.2.1 hR.1 hR.2.1 hS (fun q hq => Nat.le_trans hB hq) (N' := n) (by rw [hx0]; exact nI_pos (by omega)) (by rw [hx0]; exact nI_clamp (by omega)) (by omega) (by omega) (by omega) h (fun q cA H1 hK1 hP1 hD1 hS1 => ?_)
  have hcA := am_arr_eq (q := 2 + t) hR.2.2.1 hK1 (am_tys_r htt) (Or.inr (Or.inr ⟨_, rfl⟩))
  subst hcA
  refine am_new_go h6 kk C hR.2.2.1 hR.2.2.2 ?_ hP1 hD1 hS1 hl hL vL vS.tl hk1 hk2 hc hs hn hx hE
  have hsh : (am_nw G (t + 3, n)).1[am_n G]? = some (t + 3, n) := by simp [am_nw, am_n]
  rw [am_e_ref hsh]
  unfold am_nw am_n
  simp only [am_up_eq]
  rfl
/-- static arrays, and the script -/
theorem go_getstatic {idx q : Nat} (hq : q < am_ns) (h : decode (am_by j) pc = .ok (.getstatic idx, 3)) (hw : Cond.fieldLink (am_own j) idx (am_sC q) (am_sn q) "[I" ∈ am_T ∨ ∃ host, (am_own j, idx, am_sC q, am_sn q, "[I", host) ∈ am_TF) (kk : am_Go w j d k (pc + 3) L (.inr (some (1000001 + q)) :: st) G P) : am_Go w j d k pc L st G P := by
  intro p e R s m args below meth c ad0 ad H locs cells slots ls Q n0 C hR hS hl hL vL vS hc hs hn hx hE
  have hZ := (C.sta.1 q hq).1
  rw [← hx (1000001 + q) (Or.inr (by omega))] at hZ
  have kk' := kk p e R s m args below meth c ad0 ad H locs cells slots ls Q n0 C hR hS hl hL vL (vS.cons (show _ ∨ 1000000 ≤ 1000001 + q by omega)) hc hs hn hx hE
  rcases hw with hw | ⟨host, hw⟩
  · exact va_gets C.exec C.byt hZ hS C.own (C.ts _ hw) (fun _ h9 => h9) h kk'
  · exact va_getsN C.exec C.byt hZ hS C.own (va_Nw.use rfl (C.sta.2.2.2.2.2.2.1 _ hw)) (fun _ h9 => h9) h kk'
theorem go_ialoadS {q : Nat} {x : Int32} (hq : q < am_ns) (hin : vp_in x (am_sN q)) (h : decode (am_by j) pc = .ok (.iaload, 1)) (kk : am_Go w j d k (pc + 1) L (.inl (am_sf q x.toNatClampNeg) :: st) G P) : am_Go w j d k pc L (.inl x :: .inr (some (1000001 + q)) :: st) G P := by
  intro p e R s m args below meth c ad0 ad H locs cells slots ls Q n0 C hR hS hl hL vL vS hc hs hn hx hE
  have hT := (C.sta.1 q hq).2
  rw [← hx (1000001 + q) (Or.inr (by omega))] at hT
  exact va_ti C.exec C.byt hT hS hin rfl h (kk p e R s m args below meth c ad0 ad H locs cells slots ls Q n0 C hR hS hl hL vL (vS.tl.tl.i) hc hs hn hx hE)
theorem go_alenS {q : Nat} (hq : q < am_ns) (h : decode (am_by j) pc = .ok (.arraylength, 1)) (kk : am_Go w j d k (pc + 1) L (.inl (nI (am_sN q)) :: st) G P) : am_Go w j d k pc L (.inr (some (1000001 + q)) :: st) G P := by
  intro p e R s m args below meth c ad0 ad H locs cells slots ls Q n0 C hR hS hl hL vL vS hc hs hn hx hE
  have hT := (C.sta.1 q hq).2
  rw [← hx (1000001 + q) (Or.inr (by omega))] at hT
  exact va_tlen C.exec C.byt hT hS rfl h (kk p e R s m args below meth c ad0 ad H locs cells slots ls Q n0 C hR hS hl hL vL (vS.tl.i) hc hs hn hx hE)
theorem go_ialoadX {x : Int32} (hin : vp_in x w.2.2.2.2.1) (h : decode (am_by j) pc = .ok (.iaload, 1)) (kk : am_Go w j d k (pc + 1) L (.inl (w.2.2.2.2.2 x.toNatClampNeg) :: st) G P) : am_Go w j d k pc L (.inl x :: .inr (some 1000000) :: st) G P := by
  intro p e R s m args below meth c ad0 ad H locs cells slots ls Q n0 C hR hS hl hL vL vS hc hs hn hx hE
  obtain ⟨-, hX, hb, hA, -⟩ := C.sta
  rw [← hx 1000000 (Or.inr (Nat.le_refl _))] at hX hb hA
  exact va_sld C.exec C.byt hX hb hA hS hin h (kk p e R s m args below meth c ad0 ad H locs cells slots ls Q n0 C hR hS hl hL vL (vS.tl.tl.i) hc hs hn hx hE)
theorem go_alenX (h : decode (am_by j) pc = .ok (.arraylength, 1)) (kk : am_Go w j d k (pc + 1) L (.inl (nI w.2.2.2.2.1) :: st) G P) : am_Go w j d k pc L (.inr (some 1000000) :: st) G P := by
  intro p e R s m args below meth c ad0 ad H locs cells slots ls Q n0 C hR hS hl hL vL vS hc hs hn hx hE
  obtain ⟨-, hX, hb, hA, -⟩ := C.sta
  rw [← hx 1000000 (Or.inr (Nat.le_refl _))] at hX hb hA
  exact va_slen C.exec C.byt hX hb hA hS h (kk p e R s m args below meth c ad0 ad H locs cells slots ls Q n0 C hR hS hl hL vL (vS.tl.i) hc hs hn hx hE)
theorem go_ldc {idx : Nat} {v : Int32} (hw : Cond.constant (am_own j) idx v ∈ am_T) (h : decode (am_by j) pc = .ok (.ldc idx, 2)) (kk : am_Go w j d k (pc + 2) L (.inl v :: st) G P) : am_Go w j d k pc L st G P := by
  intro p e R s m args below meth c ad0 ad H locs cells slots ls Q n0 C hR hS hl hL vL vS hc hs hn hx hE
  exact lv_ldc C.exec C.byt C.own (C.ts _ hw) h (kk p e R s m args below meth c ad0 ad H locs cells slots ls Q n0 C hR hS hl hL vL (vS.i) hc hs hn hx hE)
theorem go_ldcw {idx : Nat} {v : Int32} (hw : Cond.constant (am_own j) idx v ∈ am_T) (h : decode (am_by j) pc = .ok (.ldc_w idx, 3)) (kk : am_Go w j d k (pc + 3) L (.inl v :: st) G P) : am_Go w j d k pc L st G P := by
  intro p e R s m args below meth c ad0 ad H locs cells slots ls Q n0 C hR hS hl hL vL vS hc hs hn hx hE
  exact lv_ldcw C.exec C.byt C.own (C.ts _ hw) h (kk p e R s m args below meth c ad0 ad H locs cells slots ls Q n0 C hR hS hl hL vL (vS.i) hc hs hn hx hE)
/-- the library's own methods -/
theorem go_objInit {idx i : Nat} (hd : 1 ≤ d) (hsl : st.length ≤ 8) (hw : Cond.methodLink (am_own j) idx objectInit ∈ am_T) (hw2 : Cond.instanceMethod objectInit ∈ am_T) (hw3 : Cond.code objectInit ⟨#[0xb1]⟩ 1 none ∈ am_T) (h : decode (am_by j) pc = .ok (.invokespecial idx, 3)) (kk : am_Go w j d k (pc + 3) L st G P) : am_Go w j d k pc L (.inr (some i) :: st) G P := by
  intro p e R s m args below meth c ad0 ad H locs cells slots ls Q n0 C hR hS hl hL vL vS hc hs hn hx hE
  have hf := C.fr
  have hlo := C.lo
  refine W.objInit C.exec C.byt C.own (C.ts _ hw) (C.ts _ hw2) (C.ts _ hw3) rfl (by rw [C.mx, ← hL]; exact hl.1) rfl h (by omega) ?_ ?_
  · have := am_sumcat ad st
    show 2 * 0 + ((st.map (am_v ad)).map fun v => v.category).sum + 12 ≤ R.locals
    omega
  · exact kk p e R s m args below meth c ad0 ad H locs cells slots ls Q n0 C hR hS hl hL vL vS.tl hc hs hn hx hE
theorem go_max {idx : Nat} {x y : Int32} (hd : 1 ≤ d) (hsl : st.length ≤ 8) (hw : Cond.methodLink (am_own j) idx Lib.Math.max.name ∈ am_T) (hw2 : Cond.static Lib.Math.max.name ∈ am_T) (hw3 : Cond.initialized "java/lang/Math" ∈ am_T) (hw4 : Cond.code Lib.Math.max.name Lib.Math.max.code 2 (some .int) ∈ am_T) (h : decode (am_by j) pc = .ok (.invokestatic idx, 3))
    (kk : am_Go w j d k (pc + 3) L (.inl (if x < y then y else x) :: st) G P) : am_Go w j d k pc L (.inl y :: .inl x :: st) G P := by
  intro p e R s m args below meth c ad0 ad H locs cells slots ls Q n0 C hR hS hl hL vL vS hc hs hn hx hE
  have hf := C.fr
  have hlo := C.lo
  have := am_sumcat ad st
  exact va_mmax C.exec C.byt (by rw [C.mx, ← hL]; exact hl.1.symm) C.own (C.ts _ hw) (C.ts _ hw2) (C.ts _ hw3) (C.ts _ hw4) (by omega) (by omega) (by omega) (by omega) h (kk p e R s m args below meth c ad0 ad H locs cells slots ls Q n0 C hR hS hl hL vL (vS.tl.tl.i) hc hs hn hx hE)
theorem go_min {idx : Nat} {x y : Int32} (hd : 1 ≤ d) (hsl : st.length ≤ 8) (hw : Cond.methodLink (am_own j) idx Lib.Math.min.name ∈ am_T) (hw2 : Cond.static Lib.Math.min.name ∈ am_T) (hw3 : Cond.initialized "java/lang/Math" ∈ am_T) (hw4 : Cond.code Lib.Math.min.name Lib.Math.min.code 2 (some .int) ∈ am_T) (h : decode (am_by j) pc = .ok (.invokestatic idx, 3))
    (kk : am_Go w j d k (pc + 3) L (.inl (if y < x then y else x) :: st) G P) : am_Go w j d k pc L (.inl y :: .inl x :: st) G P := by
  intro p e R s m args below meth c ad0 ad H locs cells slots ls Q n0 C hR hS hl hL vL vS hc hs hn hx hE
  have hf := C.fr
  have hlo := C.lo
  have := am_sumcat ad st
  exact va_mmin C.exec C.byt (by rw [C.mx, ← hL]; exact hl.1.symm) C.own (C.ts _ hw) (C.ts _ hw2) (C.ts _ hw3) (C.ts _ hw4) (by omega) (by omega) (by omega) (by omega) h (kk p e R s m args below meth c ad0 ad H locs cells slots ls Q n0 C hR hS hl hL vL (vS.tl.tl.i) hc hs hn hx hE)
theorem go_copyI {idx i0 i1 m0 m1 : Nat} {sp dp n : Int32} (hd : 1 ≤ d) (hsl : st.length ≤ 8) (hw : Cond.methodLink (am_own j) idx arraycopyName ∈ am_T) (hw2 : Cond.native arraycopyName ∈ am_T) (hw3 : Cond.static arraycopyName ∈ am_T) (hw4 : Cond.initialized "java/lang/System" ∈ am_T) (hs0 : G.1[i0]? = some (1, m0)) (hs1 : G.1[i1]? = some (1, m1))
    (h1 : ¬ sp < 0) (h2 : ¬ dp < 0) (h3 : ¬ n < 0) (h4 : sp.toNatClampNeg + n.toNatClampNeg ≤ m0) (h5 : dp.toNatClampNeg + n.toNatClampNeg ≤ m1) (h : decode (am_by j) pc = .ok (.invokestatic idx, 3))
    (kk : am_Go w j d k (pc + 3) L st (am_ro G i1 (va_cpy (G.2.1 i0) (G.2.1 i1) sp.toNatClampNeg dp.toNatClampNeg n.toNatClampNeg)) P) : am_Go w j d k pc L (.inl n :: .inl dp :: .inr (some i1) :: .inl sp :: .inr (some i0) :: st) G P := by
  intro p e R s m args below meth c ad0 ad H locs cells slots ls Q n0 C hR hS hl hL vL vS hc hs hn hx hE
  have hf := C.fr
  have hlo := C.lo
  have hsum := am_sumcat ad st
  have he0 := am_ws_at (w := w) (ad := ad) (am_lt hs0)
  rw [am_e_int hs0] at he0
  have he1 := am_ws_at (w := w) (ad := ad) (am_lt hs1)
  rw [am_e_int hs1] at he1
  refine va_copyi (D := w.2.1) (tys := am_tys w) C.exec C.byt (by rw [C.mx, ← hL]; exact hl.1.symm) C.own (C.ts _ hw) (C.ts _ hw2) (C.ts _ hw3) (C.ts _ hw4) hR.2.2.1 hR.1 hR.2.1 hS i0 i1 0 0 (ty := .int) he0 he1 rfl rfl rfl h1 h2 h3 h4 h5 (fun i hi => rfl) (by omega) (by show _ + (7 + 11) ≤ R.locals; omega) h (fun H1 locs1 hP1 hD1 hS1 => ?_)
  have hset : (am_ws w ad G).set i1 (ad i1, .inl (w.2.2.1 0, m1, .inl (va_cpy (G.2.1 i0) (G.2.1 i1) sp.toNatClampNeg dp.toNatClampNeg n.toNatClampNeg))) = am_ws w ad (am_ro G i1 (va_cpy (G.2.1 i0) (G.2.1 i1) sp.toNatClampNeg dp.toNatClampNeg n.toNatClampNeg)) :=
    am_row_ws (n := m1) (am_lt hs1) (by rw [am_e_int (G := am_ro G i1 (va_cpy (G.2.1 i0) (G.2.1 i1) sp.toNatClampNeg dp.toNatClampNeg n.toNatClampNeg)) (x := m1) hs1]; unfold am_ro; simp only [am_up_eq])
  rw [hset] at hP1 hD1
  exact kk p e R s m args below meth c ad0 ad H1 locs1 cells slots ls Q n0 C ⟨hP1, hD1, hR.2.2.1, hR.2.2.2⟩ hS1 hl hL vL vS.tl.tl.tl.tl.tl hc hs hn hx hE
end AmRows
/-- contracts -/
def am_ws1 (j : Nat) : List Cond := Cond.code (am_y j) (am_by j) (am_mx j) (am_ret j) :: am_T
def am_rm (d : Nat) (k : Nat × Nat) : Room := { frames := d, cells := k.1, slots := k.2, locals := 42 * d }
def am_St (w : am_W) (ad : Nat → Nat) (G : am_G) (U : State) : Prop := am_Rel w ad G U U.heap ∧ am_Sta w ad U
def am_Q (w : am_W) (ad : Nat → Nat) (n : Nat) (P : Option am_V → am_G → Prop) : Array Value → State → Outcome → State → Prop := fun _ st oc t =>
  (∃ (r : Option am_V) (G' : am_G) (ad' : Nat → Nat), oc = .returned (r.map (am_v ad')) ∧ P r G' ∧ n ≤ am_n G' ∧ am_ext n ad ad' ∧ (∀ v, r = some v → am_ok1 (am_n G') v) ∧ am_Rel w ad' G' t t.heap) ∧ va_F (am_A w) st t
def am_Ok (w : am_W) (j d : Nat) (k : Nat × Nat) (av : List am_V) (G : am_G) (P : Option am_V → am_G → Prop) : Prop :=
  ∀ ad : Nat → Nat, Met w.1 (am_y j) (am_ws1 j) (am_rm d k) (va_Pc (av.map (am_v ad)) (fun U => am_St w ad G U ∧ am_vS (am_n G) av)) (am_Q w ad (am_n G) P) k.1 k.2 (am_A w)
theorem am_Sta.moved {w : am_W} {ad : Nat → Nat} {u U : State} (hvm : u.vm.Alike U.vm) (hN : u.vm = U.vm ∨ u.WarmedH U.vm) (hz : u.heap.size ≤ U.heap.size) (hq : ∀ a : Nat, a < u.heap.size → ¬ am_A w a → U.heap[a]? = u.heap[a]?) (h : am_Sta w ad u) : am_Sta w ad U :=
  ⟨fun k hk => ⟨((h.1 k hk).1.moved hvm).kept hq, ((h.1 k hk).2.moved hvm).kept hq⟩, (h.2.1.moved hvm).kept (hq _ h.2.2.1 h.2.2.2.1), Nat.lt_of_lt_of_le h.2.2.1 hz, h.2.2.2.1, Nat.le_trans h.2.2.2.2.1 hz, fun t ht => (h.2.2.2.2.2.1 t ht).moved hvm,
    fun q hq => hN.elim (fun e => va_Nw.same rfl e (h.2.2.2.2.2.2.1 q hq)) (fun e => va_Nw.warmF e (h.2.2.2.2.2.2.1 q hq)), fun q hq => hN.elim (fun e => va_Nw.same rfl e (h.2.2.2.2.2.2.2 q hq)) (fun e => va_Nw.warmM e (h.2.2.2.2.2.2.2 q hq))⟩
theorem am_Sta.ext {w : am_W} {n : Nat} {ad ad' : Nat → Nat} {u : State} (hx : am_ext n ad ad') (h : am_Sta w ad u) : am_Sta w ad' u := by
  have e0 := hx 1000000 (Or.inr (Nat.le_refl _))
  refine ⟨fun k hk => ?_, by rw [e0]; exact h.2.1, by rw [e0]; exact h.2.2.1, by rw [e0]; exact h.2.2.2.1, h.2.2.2.2⟩
  rw [hx (1000001 + k) (Or.inr (by omega))]
  exact h.1 k hk
theorem am_ok_of {w : am_W} {j d : Nat} {k : Nat × Nat} {av : List am_V} {G : am_G} {P : Option am_V → am_G → Prop} (hj : plainName (am_y j).cls = true) (hlen : av.length ≤ am_mx j) (kk : am_Go w j d k 0 (am_in av (am_mx j)) [] G P) : am_Ok w j d k av G P := by
  intro ad
  refine Met.ofW (cc := am_by j) (maxL := am_mx j) (ret := am_ret j) hj rfl ?_
  intro p e s m args below meth c s₁ B hml hv
  obtain ⟨rfl, ⟨hR, hSt⟩, hvS⟩ := hv
  have hts := atoms_spec (ws := am_ws1 j) B.pre
  have hlocks := B.notSynchronized
  have hown : s.vm.findClass (am_own j) = some m.cls := findClass_of_methodNamed B.named
  have C : am_Cx w j d ad p (headSpec (am_ws1 j) (am_rm d k)).room s m (av.map (am_v ad)).toArray meth c := ⟨B.exec, B.bytes, B.returns, hml, hown, fun w hw => hts w (List.mem_cons_of_mem _ hw), hlocks, fun h => (name_of_methodNamed B.named B.method).1.trans h, Nat.le_refl _, Nat.le_refl _, hSt⟩
  rw [lg_entry_eq]
  refine kk p e _ s m _ below meth c ad ad s.heap [] 0 0 _ _ (am_n G) C hR va_S.rf (am_entry ad av hlen) (am_in_len hlen) (fun i v hi => hvS v (List.mem_of_getElem? (am_in_at hi))) am_vS.nil (by rw [Nat.zero_add]; exact Nat.le_refl _) (by rw [Nat.zero_add]; exact Nat.le_refl _) (Nat.le_refl _) am_ext.rf ?_
  intro r G' ad' H' locs' pc' ls' hp hR' hS' hn' hx' hok hret
  have hq : ∀ (o : Option Value), o = r.map (am_v ad') → ∀ t : State, t.heap = H' → s.WarmedH t.vm → am_Q w ad (am_n G) P (av.map (am_v ad)).toArray s (.returned o) t := by
    intro o ho t ht hW
    subst ho
    exact ⟨⟨r, G', ad', rfl, hp, hn', hx', hok, by rw [ht]; exact hR'.1, hR'.2.1, va_K.moved hW.alike hR'.2.2.1, hR'.2.2.2⟩, hS'.F ht⟩
  rcases hret with ⟨hd, x, ty, rfl, hty, hnar⟩ | ⟨hd, x, ty, rfl, hty, hrk⟩ | ⟨hd, rfl, hty⟩
  · exact W.zret C.exec C.byt (C.ret.trans hty) hnar (hq _ rfl) hS'.2.2 hd
  · refine W.aret C.exec C.byt (C.ret.trans hty) ?_ (am_rfv (ad := ad') (r := x)) (hq _ rfl) hS'.2.2 hd
    cases ty <;> first | (cases hrk; done) | exact Or.inl ⟨_, rfl⟩ | exact Or.inr ⟨_, rfl⟩
  · exact W.vret C.exec C.byt (C.ret.trans hty) (hq _ rfl) hS'.2.2 hd
theorem am_Ok.post {w : am_W} {j d : Nat} {k : Nat × Nat} {av : List am_V} {G : am_G} {P P' : Option am_V → am_G → Prop} (h : am_Ok w j d k av G P') (hp : ∀ r G', P' r G' → P r G') : am_Ok w j d k av G P := by
  intro ad p e ha hc hk s m args below hf happ hpre htr
  obtain ⟨k2, o, h1, h2, h3, ⟨⟨r, G', ad', g1, g2, g3⟩, hF⟩, hL⟩ := h ad p e ha hc hk s m args below hf happ hpre htr
  exact ⟨k2, o, h1, h2, h3, ⟨⟨r, G', ad', g1, hp r G' g2, g3⟩, hF⟩, hL⟩
section AmCalls
variable {w : am_W} {j d : Nat} {k : Nat × Nat} {pc : Nat} {L : List (Option am_V)} {st : List am_V} {G : am_G} {P P' : Option am_V → am_G → Prop}
theorem am_after {k' : Nat × Nat} {n : Nat} {a : Array Value} {st0 rest : List Value} {ad : Nat → Nat}
    {p : Program} {l : Launch} {e : Env} {R : Room} {s : State} {m : MethodId} {args : Array Value} {below : List Frame} {meth : Method} {c : Code} {H : Heap} {locs : List Loc} {cells slots : Nat} {ls : Array Slot} {Q : State → Prop}
    (hr : va_Run p l e R s m args below meth c H locs cells slots k'.1 k'.2 (F0 m pc ls st0) rest (am_Q w ad n P' a) (am_A w)) (hS : va_S (am_A w) s.heap H locs)
    (kk : ∀ (r : Option am_V) (G' : am_G) (ad' : Nat → Nat) (H1 : Heap) (locs1 : List Loc), P' r G' → n ≤ am_n G' → am_ext n ad ad' → (∀ v, r = some v → am_ok1 (am_n G') v) → am_Rel w ad' G' s H1 → va_S (am_A w) s.heap H1 locs1 →
      W p l e R s m args below meth c H1 locs1 (cells + k'.1) (slots + k'.2) Q (F0 m (pc + 3) ls ((r.map (am_v ad')).toList ++ rest))) : W p l e R s m args below meth c H locs cells slots Q (F0 m pc ls st0) := by
  intro T hT X
  obtain ⟨v, st₀, t, T', L', h0, X', hL, e1, e2, ⟨⟨r, G', ad', hv, hp, hn, hx, hok, hR⟩, hz, hk⟩, stp⟩ := hr T hT X
  cases hv
  rw [h0] at hz hk
  obtain ⟨t2, a1, b1⟩ := kk r G' ad' T'.heap (locs ++ L') hp hn hx hok ⟨by rw [e1]; exact hR.1, hR.2.1, va_K.moved (by rw [← e2]; exact X'.warmed.alike.symm) hR.2.2.1, hR.2.2.2⟩
    ⟨Nat.le_trans hS.1 (by rw [e1]; exact hz), fun q h1 h2 => by rw [e1, hk q (Nat.lt_of_lt_of_le h1 hS.1) h2]; exact hS.2.1 q h1 h2, fun q hq => by
      rcases List.mem_append.mp hq with h | h
      · exact hS.2.2 q h
      · exact hL q h⟩ T' rfl X'
  exact ⟨t2, stp t2 a1, b1⟩
/-- a call's words: by pool entry idx, method j calls method j' of n arguments -/
def am_Cs (own : String) (idx j' n : Nat) : Prop := Cond.code (am_y j') (am_by j') (am_mx j') (am_ret j') ∈ am_T ∧ Cond.initialized (am_y j').cls ∈ am_T ∧ ((am_y j').cls ≠ "java/lang/invoke/MethodHandle" ∧ (am_y j').cls ≠ "java/lang/invoke/VarHandle" ∧ (parseMethodDescriptor (am_y j').desc).map (fun d => d.parameters.length) = some n) ∧ am_mx j' ≤ 23 ∧
  (Cond.methodLink own idx (am_y j') ∈ am_T ∨ ∃ host, (own, idx, am_y j', host) ∈ am_TM)
theorem am_good {j' : Nat} (h : Cond.code (am_y j') (am_by j') (am_mx j') (am_ret j') ∈ am_T) : GoodIn am_T (am_ws1 j') := by
  intro x hx
  have hx2 : x ∈ am_T := by
    rcases List.mem_cons.mp hx with rfl | hx
    · exact h
    · exact hx
  exact ⟨hx2, good_of_word (am_T_good x hx2)⟩
theorem am_pre {ad0 ad : Nat → Nat} {n0 : Nat} {av : List am_V} {p : Program} {R : Room} {s : State} {m : MethodId} {args : Array Value} {meth : Method} {c : Code} {H : Heap} {locs : List Loc}
    (C : am_Cx w j d ad0 p R s m args meth c) (hR : am_Rel w ad G s H) (hS : va_S (am_A w) s.heap H locs) (hx : am_ext n0 ad0 ad) (hv : am_vS (am_n G) av) :
    PreS s H (va_Pc (av.map (am_v ad)) (fun U => am_St w ad G U ∧ am_vS (am_n G) av)) (av.map (am_v ad)) := by
  refine ⟨fun a U g mk hp => ?_, fun U hU hW => ?_⟩
  · obtain ⟨h1, ⟨h2, h3⟩, h4⟩ := hp
    exact ⟨h1, ⟨⟨h2.1, h2.2.1, va_K.moved (u := U) (U := U.calling g mk a) (Vm.Alike.refl U.vm) h2.2.2.1, h2.2.2.2⟩, am_Sta.moved (u := U) (U := U.calling g mk a) (Vm.Alike.refl U.vm) (Or.inl rfl) (Nat.le_refl _) (fun _ _ _ => rfl) h3⟩, h4⟩
  · refine ⟨rfl, ⟨⟨by rw [hU]; exact hR.1, hR.2.1, va_K.moved hW.alike hR.2.2.1, hR.2.2.2⟩, ?_⟩, hv⟩
    exact am_Sta.moved hW.alike (Or.inr hW) (by rw [hU]; exact hS.1) (fun a h1 h2 => by rw [hU]; exact hS.2.1 a h1 h2) (C.sta.ext hx)
/-- behind the call -/
theorem am_back {k' : Nat × Nat} (hk : k'.1 ≤ k.1 ∧ k'.2 ≤ k.2) (kk : ∀ (r : Option am_V) (G' : am_G), P' r G' → am_n G ≤ am_n G' → am_Go w j d (k.1 - k'.1, k.2 - k'.2) (pc + 3) L (r.toList ++ st) G' P)
    {p : Program} {e : Env} {R : Room} {s : State} {m : MethodId} {args : Array Value} {below : List Frame} {meth : Method} {c : Code} {ad0 ad : Nat → Nat} {locs : List Loc} {cells slots : Nat} {ls : Array Slot} {Q : State → Prop} {n0 : Nat} {H : Heap} {st0 : List Value} {a : Array Value}
    (hr : va_Run p w.1 e R s m args below meth c H locs cells slots k'.1 k'.2 (F0 m pc ls st0) (st.map (am_v ad)) (am_Q w ad (am_n G) P' a) (am_A w))
    (C : am_Cx w j d ad0 p R s m args meth c) (hS : va_S (am_A w) s.heap H locs) (hl : am_Ls ad L ls) (hL : L.length = am_mx j) (vL : am_vL (am_n G) L) (vS : am_vS (am_n G) st)
    (hc : cells + k.1 ≤ R.cells) (hs : slots + k.2 ≤ R.slots) (hn : n0 ≤ am_n G) (hx : am_ext n0 ad0 ad)
    (hE : ∀ (r : Option am_V) (G' : am_G) (ad' : Nat → Nat) (H' : Heap) (locs' : List Loc) (pc' : Nat) (ls' : Array Slot), P r G' → am_Rel w ad' G' s H' → va_S (am_A w) s.heap H' locs' → n0 ≤ am_n G' → am_ext n0 ad0 ad' → (∀ v, r = some v → am_ok1 (am_n G') v) → am_retAt j pc' r →
      W p w.1 e R s m args below meth c H' locs' R.cells R.slots Q (F0 m pc' ls' (r.toList.map (am_v ad')))) :
    W p w.1 e R s m args below meth c H locs cells slots Q (F0 m pc ls st0) := by
  refine am_after hr hS (fun r G' ad' H1 locs1 hp hn1 hx1 hok hR1 hS1 => ?_)
  have g := kk r G' hp hn1 p e R s m args below meth c ad0 ad' H1 locs1 (cells + k'.1) (slots + k'.2) ls Q n0 C hR1 hS1 (hl.ext hx1 vL) hL (vL.up hn1) (am_vS.app (fun v hv => hok v (by cases r with | none => cases hv | some u => rw [List.mem_singleton.mp hv])) (vS.up hn1)) (by show cells + k'.1 + (k.1 - k'.1) ≤ R.cells; omega) (by show slots + k'.2 + (k.2 - k'.2) ≤ R.slots; omega) (Nat.le_trans hn hn1) (hx.tr hn hx1) hE
  rw [List.map_append, hx1.st vS] at g
  cases r with
  | none => exact g
  | some u => exact g
theorem am_cb {idx j' n d' : Nat} {k' : Nat × Nat} {ad0 : Nat → Nat} {p : Program} {R : Room} {s : State} {m : MethodId} {args : Array Value} {meth : Method} {c : Code} (C : am_Cx w j d ad0 p R s m args meth c) (hc : am_Cs (am_own j) idx j' n) (hd : d' + 1 ≤ d) :
    CallB R s args (am_own j) idx (am_y j') (am_by j') (am_mx j') (am_ret j') (am_ws1 j') (am_rm d' k') k'.1 k'.2 n ∨ ∃ host, va_CN R s args (am_own j) idx (am_y j') host (am_by j') (am_mx j') (am_ret j') (am_ws1 j') (am_rm d' k') k'.1 k'.2 n := by
  obtain ⟨c1, c2, c3, c4, c5⟩ := hc
  have hf := C.fr
  have hlo := C.lo
  have hR : (am_rm d' k').frames + 1 ≤ R.frames ∧ 8 + (am_mx j' + 11) + (am_rm d' k').locals ≤ R.locals := ⟨show d' + 1 ≤ R.frames by omega, show 8 + (am_mx j' + 11) + 42 * d' ≤ R.locals by omega⟩
  rcases c5 with c5 | ⟨host, c5⟩
  · exact Or.inl (callB_of n C.ts (am_good c1) rfl rfl rfl (C.ts _ c2) (C.ts _ c5) c3 hR)
  · exact Or.inr ⟨host, va_cnB n C.ts (am_good c1) rfl rfl rfl (C.sta.2.2.2.2.2.2.2 _ c5) (C.ts _ c2) c3 hR⟩
theorem go_callS {idx j' n d' : Nat} {k' : Nat × Nat} (av : List am_V) (hc0 : am_Cs (am_own j) idx j' n) (hw : Cond.static (am_y j') ∈ am_T) (hn0 : av.length = n) (hd : d' + 1 ≤ d) (hk : k'.1 ≤ k.1 ∧ k'.2 ≤ k.2) (hsl : st.length ≤ 8) (h : decode (am_by j) pc = .ok (.invokestatic idx, 3)) (hM : am_Ok w j' d' k' av G P')
    (kk : ∀ (r : Option am_V) (G' : am_G), P' r G' → am_n G ≤ am_n G' → am_Go w j d (k.1 - k'.1, k.2 - k'.2) (pc + 3) L (r.toList ++ st) G' P) : am_Go w j d k pc L (av.reverse ++ st) G P := by
  intro p e R s m args below meth c ad0 ad H locs cells slots ls Q n0 C hR hS hl hL vL vS hc hs hn hx hE
  have hsum := am_sumcat ad st
  have hpre := am_pre C hR hS hx (av := av) (fun v hv => vS.l v (List.mem_reverse.mpr hv))
  have hstk : (F0 m pc ls ((av.reverse ++ st).map (am_v ad))).stack = (av.map (am_v ad)).reverse ++ st.map (am_v ad) := by
    show (av.reverse ++ st).map (am_v ad) = _
    rw [List.map_append, List.map_reverse]
  have hroom : 2 * (F0 m pc ls ((av.reverse ++ st).map (am_v ad))).monitorRoom + ((st.map (am_v ad)).map fun v => v.category).sum ≤ 8 := by
    show 2 * 0 + ((st.map (am_v ad)).map fun v => v.category).sum ≤ 8
    omega
  have hfx : CallFix p m c (am_by j) (am_mx j) s args am_T (am_own j) := ⟨C.exec, C.byt, C.mx, C.own, C.ts⟩
  have hfit : cells + k'.1 ≤ R.cells ∧ slots + k'.2 ≤ R.slots := ⟨by omega, by omega⟩
  have hsz : (F0 m pc ls ((av.reverse ++ st).map (am_v ad))).locals.size = am_mx j := by rw [← hL]; exact hl.1
  rcases am_cb (k' := k') C hc0 hd with hb | ⟨host, hb⟩
  · exact am_back hk kk (va_runS (Ts := am_T) hfx (hM ad) ⟨hb, C.ts _ hw⟩ hpre rfl (by rw [List.length_map]; exact hn0) hsz hstk hroom h hfit) C hS hl hL vL vS.r hc hs hn hx hE
  · exact am_back hk kk (va_runSN (Ts := am_T) hfx (hM ad) ⟨hb, C.ts _ hw, trivial⟩ hpre rfl (by rw [List.length_map]; exact hn0) hsz hstk hroom h hfit) C hS hl hL vL vS.r hc hs hn hx hE
theorem go_callV {idx j' n d' i ci : Nat} {k' : Nat × Nat} (av : List am_V) (hc0 : am_Cs (am_own j) idx j' n) (hsh : G.1[i]? = some (0, ci)) (hcl : (am_cl[ci]?).map (fun r => r.1) = some (am_y j').cls) (hw : Cond.instanceMethod (am_y j') ∈ am_T) (hw2 : Cond.selects (am_y j').cls (am_y j') (am_y j') ∈ am_T) (hn0 : av.length = n) (hd : d' + 1 ≤ d) (hk : k'.1 ≤ k.1 ∧ k'.2 ≤ k.2) (hsl : st.length ≤ 8) (h : decode (am_by j) pc = .ok (.invokevirtual idx, 3)) (hM : am_Ok w j' d' k' (.inr (some i) :: av) G P')
    (kk : ∀ (r : Option am_V) (G' : am_G), P' r G' → am_n G ≤ am_n G' → am_Go w j d (k.1 - k'.1, k.2 - k'.2) (pc + 3) L (r.toList ++ st) G' P) : am_Go w j d k pc L (av.reverse ++ .inr (some i) :: st) G P := by
  intro p e R s m args below meth c ad0 ad H locs cells slots ls Q n0 C hR hS hl hL vL vS hc hs hn hx hE
  have hsum := am_sumcat ad st
  have hpre := am_pre C hR hS hx (av := .inr (some i) :: av) (fun v hv => by
    rcases List.mem_cons.mp hv with rfl | hv
    · exact vS.r.hd
    · exact vS.l v (List.mem_reverse.mpr hv))
  obtain ⟨r, hr1, hr2⟩ := Option.map_eq_some_iff.mp hcl
  have he := am_ws_at (w := w) (ad := ad) (am_lt hsh)
  rw [am_e_obj hsh] at he
  have hrec := va_recv (q0 := i) hR.2.2.1 hR.1 hr1 he
  rw [hr2] at hrec
  have hstk : (F0 m pc ls ((av.reverse ++ .inr (some i) :: st).map (am_v ad))).stack = (av.map (am_v ad)).reverse ++ .ref (ad i) :: st.map (am_v ad) := by
    show (av.reverse ++ .inr (some i) :: st).map (am_v ad) = _
    rw [List.map_append, List.map_reverse]
    rfl
  have hroom : 2 * (F0 m pc ls ((av.reverse ++ .inr (some i) :: st).map (am_v ad))).monitorRoom + ((st.map (am_v ad)).map fun v => v.category).sum ≤ 8 := by
    show 2 * 0 + ((st.map (am_v ad)).map fun v => v.category).sum ≤ 8
    omega
  have hfx : CallFix p m c (am_by j) (am_mx j) s args am_T (am_own j) := ⟨C.exec, C.byt, C.mx, C.own, C.ts⟩
  have hfit : cells + k'.1 ≤ R.cells ∧ slots + k'.2 ≤ R.slots := ⟨by omega, by omega⟩
  have hsz : (F0 m pc ls ((av.reverse ++ .inr (some i) :: st).map (am_v ad))).locals.size = am_mx j := by rw [← hL]; exact hl.1
  rcases am_cb (k' := k') C hc0 hd with hb | ⟨host, hb⟩
  · exact am_back hk kk (va_runV (Ts := am_T) (C := (am_y j').cls) (b := ad i) (As := av.map (am_v ad)) hfx (hM ad) ⟨hb, C.ts _ hw, C.ts _ hw2⟩ ⟨hpre.1, hrec, hpre.2⟩ rfl (by rw [List.length_map]; exact hn0) hsz hstk hroom h hfit) C hS hl hL vL vS.r.tl hc hs hn hx hE
  · exact am_back hk kk (va_runVN (Ts := am_T) (C := (am_y j').cls) (b := ad i) (As := av.map (am_v ad)) hfx (hM ad) ⟨hb, C.ts _ hw, C.ts _ hw2⟩ ⟨hpre.1, hrec, hpre.2⟩ rfl (by rw [List.length_map]; exact hn0) hsz hstk hroom h hfit) C hS hl hL vL vS.r.tl hc hs hn hx hE
theorem go_callI {idx j' n d' i : Nat} {k' : Nat × Nat} (av : List am_V) (hc0 : am_Cs (am_own j) idx j' n) (hnm : (am_y j').name = "<init>") (hrt : am_ret j' = none) (hw : Cond.instanceMethod (am_y j') ∈ am_T) (hn0 : av.length = n) (hd : d' + 1 ≤ d) (hk : k'.1 ≤ k.1 ∧ k'.2 ≤ k.2) (hsl : st.length ≤ 8) (h : decode (am_by j) pc = .ok (.invokespecial idx, 3)) (hM : am_Ok w j' d' k' (.inr (some i) :: av) G P')
    (kk : ∀ (r : Option am_V) (G' : am_G), P' r G' → am_n G ≤ am_n G' → am_Go w j d (k.1 - k'.1, k.2 - k'.2) (pc + 3) L (r.toList ++ st) G' P) : am_Go w j d k pc L (av.reverse ++ .inr (some i) :: st) G P := by
  intro p e R s m args below meth c ad0 ad H locs cells slots ls Q n0 C hR hS hl hL vL vS hc hs hn hx hE
  have hsum := am_sumcat ad st
  have hpre := am_pre C hR hS hx (av := .inr (some i) :: av) (fun v hv => by
    rcases List.mem_cons.mp hv with rfl | hv
    · exact vS.r.hd
    · exact vS.l v (List.mem_reverse.mpr hv))
  have hstk : (F0 m pc ls ((av.reverse ++ .inr (some i) :: st).map (am_v ad))).stack = (av.map (am_v ad)).reverse ++ .ref (ad i) :: st.map (am_v ad) := by
    show (av.reverse ++ .inr (some i) :: st).map (am_v ad) = _
    rw [List.map_append, List.map_reverse]
    rfl
  have hroom : 2 * (F0 m pc ls ((av.reverse ++ .inr (some i) :: st).map (am_v ad))).monitorRoom + ((st.map (am_v ad)).map fun v => v.category).sum ≤ 8 := by
    show 2 * 0 + ((st.map (am_v ad)).map fun v => v.category).sum ≤ 8
    omega
  have hfx : CallFix p m c (am_by j) (am_mx j) s args am_T (am_own j) := ⟨C.exec, C.byt, C.mx, C.own, C.ts⟩
  have hfit : cells + k'.1 ≤ R.cells ∧ slots + k'.2 ≤ R.slots := ⟨by omega, by omega⟩
  have hsz : (F0 m pc ls ((av.reverse ++ .inr (some i) :: st).map (am_v ad))).locals.size = am_mx j := by rw [← hL]; exact hl.1
  rcases am_cb (k' := k') C hc0 hd with hb | ⟨host, hb⟩
  · rw [hrt] at hb
    exact am_back hk kk (va_runI (Ts := am_T) (b := ad i) (As := av.map (am_v ad)) hfx (hM ad) ⟨hb, hnm, C.ts _ hw⟩ hpre rfl (by rw [List.length_map]; exact hn0) hsz hstk hroom h hfit) C hS hl hL vL vS.r.tl hc hs hn hx hE
  · rw [hrt] at hb
    exact am_back hk kk (va_runIN (Ts := am_T) (b := ad i) (As := av.map (am_v ad)) hfx (hM ad) ⟨hb, hnm, C.ts _ hw⟩ hpre rfl (by rw [List.length_map]; exact hn0) hsz hstk hroom h hfit) C hS hl hL vL vS.r.tl hc hs hn hx hE
end AmCalls
end
