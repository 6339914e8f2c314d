section
-- ===== PART A: goes FIRST, ahead of the names: the tables' words, and 'selects' of the private methods out of them =====
/-- a private method of a class that the tables say can be made, by its rows of tables_1 -/
def lw_okq (q : MethodName × Nat) : Prop := (q.1.cls ≠ "java/lang/invoke/MethodHandle" ∧ q.1.cls ≠ "java/lang/invoke/VarHandle") ∧ Cond.instantiable q.1.cls q.2 ∈ tables_1 ∧ Cond.privateMethod q.1 ∈ tables_1 ∧ Cond.instanceMethod q.1 ∈ tables_1
theorem lw_p0 : lw_okq (⟨"CeilingKernel", "isTask", "(I)Z"⟩, 5) := ⟨⟨by decide +kernel, by decide +kernel⟩, List.mem_of_getElem? (i := 15) (by decide +kernel), List.mem_of_getElem? (i := 370) (by decide +kernel), List.mem_of_getElem? (i := 371) (by decide +kernel)⟩
theorem lw_p1 : lw_okq (⟨"CeilingKernel$Checker", "findLocks", "([LCeilingKernel$Routine;)V"⟩, 5) := ⟨⟨by decide +kernel, by decide +kernel⟩, List.mem_of_getElem? (i := 25) (by decide +kernel), List.mem_of_getElem? (i := 408) (by decide +kernel), List.mem_of_getElem? (i := 409) (by decide +kernel)⟩
theorem lw_p2 : lw_okq (⟨"CeilingKernel$Checker", "checkRoutine", "([LCeilingKernel$Routine;I)I"⟩, 5) := ⟨⟨by decide +kernel, by decide +kernel⟩, List.mem_of_getElem? (i := 25) (by decide +kernel), List.mem_of_getElem? (i := 412) (by decide +kernel), List.mem_of_getElem? (i := 413) (by decide +kernel)⟩
theorem lw_p3 : lw_okq (⟨"CeilingKernel$Checker", "meet", "(III)I"⟩, 5) := ⟨⟨by decide +kernel, by decide +kernel⟩, List.mem_of_getElem? (i := 25) (by decide +kernel), List.mem_of_getElem? (i := 416) (by decide +kernel), List.mem_of_getElem? (i := 417) (by decide +kernel)⟩
theorem lw_p4 : lw_okq (⟨"CeilingKernel$Checker", "checkInstruction", "([LCeilingKernel$Routine;II)I"⟩, 5) := ⟨⟨by decide +kernel, by decide +kernel⟩, List.mem_of_getElem? (i := 25) (by decide +kernel), List.mem_of_getElem? (i := 420) (by decide +kernel), List.mem_of_getElem? (i := 421) (by decide +kernel)⟩
theorem lw_p5 : lw_okq (⟨"CeilingKernel$Checker", "openLoop", "(I)I"⟩, 5) := ⟨⟨by decide +kernel, by decide +kernel⟩, List.mem_of_getElem? (i := 25) (by decide +kernel), List.mem_of_getElem? (i := 424) (by decide +kernel), List.mem_of_getElem? (i := 425) (by decide +kernel)⟩
theorem lw_p6 : lw_okq (⟨"CeilingKernel$Checker", "openBracket", "(I)I"⟩, 5) := ⟨⟨by decide +kernel, by decide +kernel⟩, List.mem_of_getElem? (i := 25) (by decide +kernel), List.mem_of_getElem? (i := 428) (by decide +kernel), List.mem_of_getElem? (i := 429) (by decide +kernel)⟩
theorem lw_p7 : lw_okq (⟨"CeilingKernel$Checker", "openLock", "(II)I"⟩, 5) := ⟨⟨by decide +kernel, by decide +kernel⟩, List.mem_of_getElem? (i := 25) (by decide +kernel), List.mem_of_getElem? (i := 432) (by decide +kernel), List.mem_of_getElem? (i := 433) (by decide +kernel)⟩
theorem lw_p8 : lw_okq (⟨"CeilingKernel$Checker", "close", "(LCeilingKernel$Routine;II)I"⟩, 5) := ⟨⟨by decide +kernel, by decide +kernel⟩, List.mem_of_getElem? (i := 25) (by decide +kernel), List.mem_of_getElem? (i := 436) (by decide +kernel), List.mem_of_getElem? (i := 437) (by decide +kernel)⟩
theorem lw_p9 : lw_okq (⟨"CeilingKernel$Checker", "checkCall", "([LCeilingKernel$Routine;II)I"⟩, 5) := ⟨⟨by decide +kernel, by decide +kernel⟩, List.mem_of_getElem? (i := 25) (by decide +kernel), List.mem_of_getElem? (i := 448) (by decide +kernel), List.mem_of_getElem? (i := 449) (by decide +kernel)⟩
theorem lw_p10 : lw_okq (⟨"CeilingKernel$Checker", "checkJump", "(LCeilingKernel$Routine;I)I"⟩, 5) := ⟨⟨by decide +kernel, by decide +kernel⟩, List.mem_of_getElem? (i := 25) (by decide +kernel), List.mem_of_getElem? (i := 452) (by decide +kernel), List.mem_of_getElem? (i := 453) (by decide +kernel)⟩
theorem lw_p11 : lw_okq (⟨"CeilingKernel$Figures", "findSections", "([LCeilingKernel$Routine;I)V"⟩, 6) := ⟨⟨by decide +kernel, by decide +kernel⟩, List.mem_of_getElem? (i := 49) (by decide +kernel), List.mem_of_getElem? (i := 477) (by decide +kernel), List.mem_of_getElem? (i := 478) (by decide +kernel)⟩
theorem lw_p12 : lw_okq (⟨"CeilingKernel$Figures", "takeSection", "(III)V"⟩, 6) := ⟨⟨by decide +kernel, by decide +kernel⟩, List.mem_of_getElem? (i := 49) (by decide +kernel), List.mem_of_getElem? (i := 481) (by decide +kernel), List.mem_of_getElem? (i := 482) (by decide +kernel)⟩
theorem lw_p13 : lw_okq (⟨"CeilingKernel$Figures", "findBlocking", "(II)I"⟩, 6) := ⟨⟨by decide +kernel, by decide +kernel⟩, List.mem_of_getElem? (i := 49) (by decide +kernel), List.mem_of_getElem? (i := 485) (by decide +kernel), List.mem_of_getElem? (i := 486) (by decide +kernel)⟩
theorem lw_p14 : lw_okq (⟨"CeilingKernel$Figures", "findResponses", "([LCeilingKernel$Task;I)I"⟩, 6) := ⟨⟨by decide +kernel, by decide +kernel⟩, List.mem_of_getElem? (i := 49) (by decide +kernel), List.mem_of_getElem? (i := 490) (by decide +kernel), List.mem_of_getElem? (i := 491) (by decide +kernel)⟩
theorem lw_p15 : lw_okq (⟨"CeilingKernel$Figures", "findResponse", "([LCeilingKernel$Task;I)I"⟩, 6) := ⟨⟨by decide +kernel, by decide +kernel⟩, List.mem_of_getElem? (i := 49) (by decide +kernel), List.mem_of_getElem? (i := 494) (by decide +kernel), List.mem_of_getElem? (i := 495) (by decide +kernel)⟩
def lw_privs_1 : List (MethodName × Nat) := [(⟨"CeilingKernel", "isTask", "(I)Z"⟩, 5), (⟨"CeilingKernel$Checker", "findLocks", "([LCeilingKernel$Routine;)V"⟩, 5), (⟨"CeilingKernel$Checker", "checkRoutine", "([LCeilingKernel$Routine;I)I"⟩, 5), (⟨"CeilingKernel$Checker", "meet", "(III)I"⟩, 5), (⟨"CeilingKernel$Checker", "checkInstruction", "([LCeilingKernel$Routine;II)I"⟩, 5), (⟨"CeilingKernel$Checker", "openLoop", "(I)I"⟩, 5), (⟨"CeilingKernel$Checker", "openBracket", "(I)I"⟩, 5), (⟨"CeilingKernel$Checker", "openLock", "(II)I"⟩, 5), (⟨"CeilingKernel$Checker", "close", "(LCeilingKernel$Routine;II)I"⟩, 5), (⟨"CeilingKernel$Checker", "checkCall", "([LCeilingKernel$Routine;II)I"⟩, 5), (⟨"CeilingKernel$Checker", "checkJump", "(LCeilingKernel$Routine;I)I"⟩, 5), (⟨"CeilingKernel$Figures", "findSections", "([LCeilingKernel$Routine;I)V"⟩, 6), (⟨"CeilingKernel$Figures", "takeSection", "(III)V"⟩, 6), (⟨"CeilingKernel$Figures", "findBlocking", "(II)I"⟩, 6), (⟨"CeilingKernel$Figures", "findResponses", "([LCeilingKernel$Task;I)I"⟩, 6), (⟨"CeilingKernel$Figures", "findResponse", "([LCeilingKernel$Task;I)I"⟩, 6)]
theorem lw_r1 : ∀ q ∈ lw_privs_1, lw_okq q := List.forall_mem_cons.mpr ⟨lw_p0, List.forall_mem_cons.mpr ⟨lw_p1, List.forall_mem_cons.mpr ⟨lw_p2, List.forall_mem_cons.mpr ⟨lw_p3, List.forall_mem_cons.mpr ⟨lw_p4, List.forall_mem_cons.mpr ⟨lw_p5, List.forall_mem_cons.mpr ⟨lw_p6, List.forall_mem_cons.mpr ⟨lw_p7, List.forall_mem_cons.mpr ⟨lw_p8, List.forall_mem_cons.mpr ⟨lw_p9, List.forall_mem_cons.mpr ⟨lw_p10, List.forall_mem_cons.mpr ⟨lw_p11, List.forall_mem_cons.mpr ⟨lw_p12, List.forall_mem_cons.mpr ⟨lw_p13, List.forall_mem_cons.mpr ⟨lw_p14, List.forall_mem_cons.mpr ⟨lw_p15, fun _ h => absurd h List.not_mem_nil⟩⟩⟩⟩⟩⟩⟩⟩⟩⟩⟩⟩⟩⟩⟩⟩
theorem lw_p16 : lw_okq (⟨"CeilingKernel$Figures", "demandWithin", "([LCeilingKernel$Task;II)I"⟩, 6) := ⟨⟨by decide +kernel, by decide +kernel⟩, List.mem_of_getElem? (i := 49) (by decide +kernel), List.mem_of_getElem? (i := 498) (by decide +kernel), List.mem_of_getElem? (i := 499) (by decide +kernel)⟩
theorem lw_p17 : lw_okq (⟨"CeilingKernel", "hasFigures", "(I)Z"⟩, 5) := ⟨⟨by decide +kernel, by decide +kernel⟩, List.mem_of_getElem? (i := 15) (by decide +kernel), List.mem_of_getElem? (i := 510) (by decide +kernel), List.mem_of_getElem? (i := 511) (by decide +kernel)⟩
theorem lw_p18 : lw_okq (⟨"CeilingKernel", "runsTask", "(I)Z"⟩, 5) := ⟨⟨by decide +kernel, by decide +kernel⟩, List.mem_of_getElem? (i := 15) (by decide +kernel), List.mem_of_getElem? (i := 560) (by decide +kernel), List.mem_of_getElem? (i := 561) (by decide +kernel)⟩
theorem lw_p19 : lw_okq (⟨"CeilingKernel$Machine", "makeReleases", "()V"⟩, 14) := ⟨⟨by decide +kernel, by decide +kernel⟩, List.mem_of_getElem? (i := 151) (by decide +kernel), List.mem_of_getElem? (i := 580) (by decide +kernel), List.mem_of_getElem? (i := 581) (by decide +kernel)⟩
theorem lw_p20 : lw_okq (⟨"CeilingKernel$Machine", "makeRelease", "(ILCeilingKernel$Job;)V"⟩, 14) := ⟨⟨by decide +kernel, by decide +kernel⟩, List.mem_of_getElem? (i := 151) (by decide +kernel), List.mem_of_getElem? (i := 592) (by decide +kernel), List.mem_of_getElem? (i := 593) (by decide +kernel)⟩
theorem lw_p21 : lw_okq (⟨"CeilingKernel$Machine", "chooseTask", "()I"⟩, 14) := ⟨⟨by decide +kernel, by decide +kernel⟩, List.mem_of_getElem? (i := 151) (by decide +kernel), List.mem_of_getElem? (i := 605) (by decide +kernel), List.mem_of_getElem? (i := 606) (by decide +kernel)⟩
theorem lw_p22 : lw_okq (⟨"CeilingKernel$Machine", "giveCycle", "(I)V"⟩, 14) := ⟨⟨by decide +kernel, by decide +kernel⟩, List.mem_of_getElem? (i := 151) (by decide +kernel), List.mem_of_getElem? (i := 613) (by decide +kernel), List.mem_of_getElem? (i := 614) (by decide +kernel)⟩
theorem lw_p23 : lw_okq (⟨"CeilingKernel$Machine", "finishInstruction", "(ILCeilingKernel$Job;)V"⟩, 14) := ⟨⟨by decide +kernel, by decide +kernel⟩, List.mem_of_getElem? (i := 151) (by decide +kernel), List.mem_of_getElem? (i := 622) (by decide +kernel), List.mem_of_getElem? (i := 623) (by decide +kernel)⟩
theorem lw_p24 : lw_okq (⟨"CeilingKernel$Machine", "perform", "(ILCeilingKernel$Job;)V"⟩, 14) := ⟨⟨by decide +kernel, by decide +kernel⟩, List.mem_of_getElem? (i := 151) (by decide +kernel), List.mem_of_getElem? (i := 626) (by decide +kernel), List.mem_of_getElem? (i := 627) (by decide +kernel)⟩
theorem lw_p25 : lw_okq (⟨"CeilingKernel$Machine", "hold", "(ILCeilingKernel$Job;I)V"⟩, 14) := ⟨⟨by decide +kernel, by decide +kernel⟩, List.mem_of_getElem? (i := 151) (by decide +kernel), List.mem_of_getElem? (i := 642) (by decide +kernel), List.mem_of_getElem? (i := 643) (by decide +kernel)⟩
theorem lw_p26 : lw_okq (⟨"CeilingKernel$Job", "divide", "(II)V"⟩, 16) := ⟨⟨by decide +kernel, by decide +kernel⟩, List.mem_of_getElem? (i := 189) (by decide +kernel), List.mem_of_getElem? (i := 673) (by decide +kernel), List.mem_of_getElem? (i := 674) (by decide +kernel)⟩
theorem lw_p27 : lw_okq (⟨"CeilingKernel$Job", "closeRound", "(I)V"⟩, 16) := ⟨⟨by decide +kernel, by decide +kernel⟩, List.mem_of_getElem? (i := 189) (by decide +kernel), List.mem_of_getElem? (i := 677) (by decide +kernel), List.mem_of_getElem? (i := 678) (by decide +kernel)⟩
theorem lw_p28 : lw_okq (⟨"CeilingKernel$Job", "enter", "(I)V"⟩, 16) := ⟨⟨by decide +kernel, by decide +kernel⟩, List.mem_of_getElem? (i := 189) (by decide +kernel), List.mem_of_getElem? (i := 681) (by decide +kernel), List.mem_of_getElem? (i := 682) (by decide +kernel)⟩
theorem lw_p29 : lw_okq (⟨"CeilingKernel$Machine", "endJob", "(II)V"⟩, 14) := ⟨⟨by decide +kernel, by decide +kernel⟩, List.mem_of_getElem? (i := 151) (by decide +kernel), List.mem_of_getElem? (i := 685) (by decide +kernel), List.mem_of_getElem? (i := 686) (by decide +kernel)⟩
theorem lw_p30 : lw_okq (⟨"CeilingKernelModel", "isTask", "(I)Z"⟩, 54) := ⟨⟨by decide +kernel, by decide +kernel⟩, List.mem_of_getElem? (i := 728) (by decide +kernel), List.mem_of_getElem? (i := 909) (by decide +kernel), List.mem_of_getElem? (i := 910) (by decide +kernel)⟩
theorem lw_p31 : lw_okq (⟨"CeilingKernelModel", "reason", "(I)I"⟩, 54) := ⟨⟨by decide +kernel, by decide +kernel⟩, List.mem_of_getElem? (i := 728) (by decide +kernel), List.mem_of_getElem? (i := 924) (by decide +kernel), List.mem_of_getElem? (i := 925) (by decide +kernel)⟩
def lw_privs_2 : List (MethodName × Nat) := [(⟨"CeilingKernel$Figures", "demandWithin", "([LCeilingKernel$Task;II)I"⟩, 6), (⟨"CeilingKernel", "hasFigures", "(I)Z"⟩, 5), (⟨"CeilingKernel", "runsTask", "(I)Z"⟩, 5), (⟨"CeilingKernel$Machine", "makeReleases", "()V"⟩, 14), (⟨"CeilingKernel$Machine", "makeRelease", "(ILCeilingKernel$Job;)V"⟩, 14), (⟨"CeilingKernel$Machine", "chooseTask", "()I"⟩, 14), (⟨"CeilingKernel$Machine", "giveCycle", "(I)V"⟩, 14), (⟨"CeilingKernel$Machine", "finishInstruction", "(ILCeilingKernel$Job;)V"⟩, 14), (⟨"CeilingKernel$Machine", "perform", "(ILCeilingKernel$Job;)V"⟩, 14), (⟨"CeilingKernel$Machine", "hold", "(ILCeilingKernel$Job;I)V"⟩, 14), (⟨"CeilingKernel$Job", "divide", "(II)V"⟩, 16), (⟨"CeilingKernel$Job", "closeRound", "(I)V"⟩, 16), (⟨"CeilingKernel$Job", "enter", "(I)V"⟩, 16), (⟨"CeilingKernel$Machine", "endJob", "(II)V"⟩, 14), (⟨"CeilingKernelModel", "isTask", "(I)Z"⟩, 54), (⟨"CeilingKernelModel", "reason", "(I)I"⟩, 54)]
theorem lw_r2 : ∀ q ∈ lw_privs_2, lw_okq q := List.forall_mem_cons.mpr ⟨lw_p16, List.forall_mem_cons.mpr ⟨lw_p17, List.forall_mem_cons.mpr ⟨lw_p18, List.forall_mem_cons.mpr ⟨lw_p19, List.forall_mem_cons.mpr ⟨lw_p20, List.forall_mem_cons.mpr ⟨lw_p21, List.forall_mem_cons.mpr ⟨lw_p22, List.forall_mem_cons.mpr ⟨lw_p23, List.forall_mem_cons.mpr ⟨lw_p24, List.forall_mem_cons.mpr ⟨lw_p25, List.forall_mem_cons.mpr ⟨lw_p26, List.forall_mem_cons.mpr ⟨lw_p27, List.forall_mem_cons.mpr ⟨lw_p28, List.forall_mem_cons.mpr ⟨lw_p29, List.forall_mem_cons.mpr ⟨lw_p30, List.forall_mem_cons.mpr ⟨lw_p31, fun _ h => absurd h List.not_mem_nil⟩⟩⟩⟩⟩⟩⟩⟩⟩⟩⟩⟩⟩⟩⟩⟩
theorem lw_p32 : lw_okq (⟨"CeilingKernelModel", "meets", "(III)I"⟩, 54) := ⟨⟨by decide +kernel, by decide +kernel⟩, List.mem_of_getElem? (i := 728) (by decide +kernel), List.mem_of_getElem? (i := 928) (by decide +kernel), List.mem_of_getElem? (i := 929) (by decide +kernel)⟩
theorem lw_p33 : lw_okq (⟨"CeilingKernelModel", "openLoops", "()I"⟩, 54) := ⟨⟨by decide +kernel, by decide +kernel⟩, List.mem_of_getElem? (i := 728) (by decide +kernel), List.mem_of_getElem? (i := 932) (by decide +kernel), List.mem_of_getElem? (i := 933) (by decide +kernel)⟩
theorem lw_p34 : lw_okq (⟨"CeilingKernelModel", "may", "(II)I"⟩, 54) := ⟨⟨by decide +kernel, by decide +kernel⟩, List.mem_of_getElem? (i := 728) (by decide +kernel), List.mem_of_getElem? (i := 936) (by decide +kernel), List.mem_of_getElem? (i := 937) (by decide +kernel)⟩
theorem lw_p35 : lw_okq (⟨"CeilingKernelModel", "openLocks", "()I"⟩, 54) := ⟨⟨by decide +kernel, by decide +kernel⟩, List.mem_of_getElem? (i := 728) (by decide +kernel), List.mem_of_getElem? (i := 940) (by decide +kernel), List.mem_of_getElem? (i := 941) (by decide +kernel)⟩
theorem lw_p36 : lw_okq (⟨"CeilingKernelModel", "leads", "(III)Z"⟩, 54) := ⟨⟨by decide +kernel, by decide +kernel⟩, List.mem_of_getElem? (i := 728) (by decide +kernel), List.mem_of_getElem? (i := 944) (by decide +kernel), List.mem_of_getElem? (i := 945) (by decide +kernel)⟩
theorem lw_p37 : lw_okq (⟨"CeilingKernelModel", "bracket", "(IZ)V"⟩, 54) := ⟨⟨by decide +kernel, by decide +kernel⟩, List.mem_of_getElem? (i := 728) (by decide +kernel), List.mem_of_getElem? (i := 951) (by decide +kernel), List.mem_of_getElem? (i := 952) (by decide +kernel)⟩
theorem lw_p38 : lw_okq (⟨"CeilingKernelModel", "weigh", "(I)V"⟩, 54) := ⟨⟨by decide +kernel, by decide +kernel⟩, List.mem_of_getElem? (i := 728) (by decide +kernel), List.mem_of_getElem? (i := 955) (by decide +kernel), List.mem_of_getElem? (i := 956) (by decide +kernel)⟩
theorem lw_p39 : lw_okq (⟨"CeilingKernelModel", "longest", "(III)I"⟩, 54) := ⟨⟨by decide +kernel, by decide +kernel⟩, List.mem_of_getElem? (i := 728) (by decide +kernel), List.mem_of_getElem? (i := 959) (by decide +kernel), List.mem_of_getElem? (i := 960) (by decide +kernel)⟩
theorem lw_p40 : lw_okq (⟨"CeilingKernelModel", "highest", "(I)I"⟩, 54) := ⟨⟨by decide +kernel, by decide +kernel⟩, List.mem_of_getElem? (i := 728) (by decide +kernel), List.mem_of_getElem? (i := 963) (by decide +kernel), List.mem_of_getElem? (i := 964) (by decide +kernel)⟩
theorem lw_p41 : lw_okq (⟨"CeilingKernelModel", "delay", "(I)I"⟩, 54) := ⟨⟨by decide +kernel, by decide +kernel⟩, List.mem_of_getElem? (i := 728) (by decide +kernel), List.mem_of_getElem? (i := 967) (by decide +kernel), List.mem_of_getElem? (i := 968) (by decide +kernel)⟩
theorem lw_p42 : lw_okq (⟨"CeilingKernelModel", "tried", "(I)I"⟩, 54) := ⟨⟨by decide +kernel, by decide +kernel⟩, List.mem_of_getElem? (i := 728) (by decide +kernel), List.mem_of_getElem? (i := 971) (by decide +kernel), List.mem_of_getElem? (i := 972) (by decide +kernel)⟩
theorem lw_p43 : lw_okq (⟨"CeilingKernelModel", "cycle", "()V"⟩, 54) := ⟨⟨by decide +kernel, by decide +kernel⟩, List.mem_of_getElem? (i := 728) (by decide +kernel), List.mem_of_getElem? (i := 1020) (by decide +kernel), List.mem_of_getElem? (i := 1021) (by decide +kernel)⟩
theorem lw_p44 : lw_okq (⟨"CeilingKernelModel", "release", "(I)V"⟩, 54) := ⟨⟨by decide +kernel, by decide +kernel⟩, List.mem_of_getElem? (i := 728) (by decide +kernel), List.mem_of_getElem? (i := 1024) (by decide +kernel), List.mem_of_getElem? (i := 1025) (by decide +kernel)⟩
theorem lw_p45 : lw_okq (⟨"CeilingKernelModel", "enter", "(III)V"⟩, 54) := ⟨⟨by decide +kernel, by decide +kernel⟩, List.mem_of_getElem? (i := 728) (by decide +kernel), List.mem_of_getElem? (i := 1028) (by decide +kernel), List.mem_of_getElem? (i := 1029) (by decide +kernel)⟩
theorem lw_p46 : lw_okq (⟨"CeilingKernelModel", "chosen", "()I"⟩, 54) := ⟨⟨by decide +kernel, by decide +kernel⟩, List.mem_of_getElem? (i := 728) (by decide +kernel), List.mem_of_getElem? (i := 1032) (by decide +kernel), List.mem_of_getElem? (i := 1033) (by decide +kernel)⟩
theorem lw_p47 : lw_okq (⟨"CeilingKernelModel", "active", "(I)I"⟩, 54) := ⟨⟨by decide +kernel, by decide +kernel⟩, List.mem_of_getElem? (i := 728) (by decide +kernel), List.mem_of_getElem? (i := 1036) (by decide +kernel), List.mem_of_getElem? (i := 1037) (by decide +kernel)⟩
def lw_privs_3 : List (MethodName × Nat) := [(⟨"CeilingKernelModel", "meets", "(III)I"⟩, 54), (⟨"CeilingKernelModel", "openLoops", "()I"⟩, 54), (⟨"CeilingKernelModel", "may", "(II)I"⟩, 54), (⟨"CeilingKernelModel", "openLocks", "()I"⟩, 54), (⟨"CeilingKernelModel", "leads", "(III)Z"⟩, 54), (⟨"CeilingKernelModel", "bracket", "(IZ)V"⟩, 54), (⟨"CeilingKernelModel", "weigh", "(I)V"⟩, 54), (⟨"CeilingKernelModel", "longest", "(III)I"⟩, 54), (⟨"CeilingKernelModel", "highest", "(I)I"⟩, 54), (⟨"CeilingKernelModel", "delay", "(I)I"⟩, 54), (⟨"CeilingKernelModel", "tried", "(I)I"⟩, 54), (⟨"CeilingKernelModel", "cycle", "()V"⟩, 54), (⟨"CeilingKernelModel", "release", "(I)V"⟩, 54), (⟨"CeilingKernelModel", "enter", "(III)V"⟩, 54), (⟨"CeilingKernelModel", "chosen", "()I"⟩, 54), (⟨"CeilingKernelModel", "active", "(I)I"⟩, 54)]
theorem lw_r3 : ∀ q ∈ lw_privs_3, lw_okq q := List.forall_mem_cons.mpr ⟨lw_p32, List.forall_mem_cons.mpr ⟨lw_p33, List.forall_mem_cons.mpr ⟨lw_p34, List.forall_mem_cons.mpr ⟨lw_p35, List.forall_mem_cons.mpr ⟨lw_p36, List.forall_mem_cons.mpr ⟨lw_p37, List.forall_mem_cons.mpr ⟨lw_p38, List.forall_mem_cons.mpr ⟨lw_p39, List.forall_mem_cons.mpr ⟨lw_p40, List.forall_mem_cons.mpr ⟨lw_p41, List.forall_mem_cons.mpr ⟨lw_p42, List.forall_mem_cons.mpr ⟨lw_p43, List.forall_mem_cons.mpr ⟨lw_p44, List.forall_mem_cons.mpr ⟨lw_p45, List.forall_mem_cons.mpr ⟨lw_p46, List.forall_mem_cons.mpr ⟨lw_p47, fun _ h => absurd h List.not_mem_nil⟩⟩⟩⟩⟩⟩⟩⟩⟩⟩⟩⟩⟩⟩⟩⟩
theorem lw_p48 : lw_okq (⟨"CeilingKernelModel", "perform", "(II)V"⟩, 54) := ⟨⟨by decide +kernel, by decide +kernel⟩, List.mem_of_getElem? (i := 728) (by decide +kernel), List.mem_of_getElem? (i := 1040) (by decide +kernel), List.mem_of_getElem? (i := 1041) (by decide +kernel)⟩
theorem lw_p49 : lw_okq (⟨"CeilingKernelModel", "end", "(II)V"⟩, 54) := ⟨⟨by decide +kernel, by decide +kernel⟩, List.mem_of_getElem? (i := 728) (by decide +kernel), List.mem_of_getElem? (i := 1044) (by decide +kernel), List.mem_of_getElem? (i := 1045) (by decide +kernel)⟩
theorem lw_p50 : lw_okq (⟨"CeilingKernelModel", "move", "(IIII)V"⟩, 54) := ⟨⟨by decide +kernel, by decide +kernel⟩, List.mem_of_getElem? (i := 728) (by decide +kernel), List.mem_of_getElem? (i := 1048) (by decide +kernel), List.mem_of_getElem? (i := 1049) (by decide +kernel)⟩
theorem lw_p51 : lw_okq (⟨"CeilingKernelModel", "post", "(IIII)V"⟩, 54) := ⟨⟨by decide +kernel, by decide +kernel⟩, List.mem_of_getElem? (i := 728) (by decide +kernel), List.mem_of_getElem? (i := 1052) (by decide +kernel), List.mem_of_getElem? (i := 1053) (by decide +kernel)⟩
theorem lw_p52 : lw_okq (⟨"CeilingKernelModel", "jump", "(IIII)V"⟩, 54) := ⟨⟨by decide +kernel, by decide +kernel⟩, List.mem_of_getElem? (i := 728) (by decide +kernel), List.mem_of_getElem? (i := 1056) (by decide +kernel), List.mem_of_getElem? (i := 1057) (by decide +kernel)⟩
def lw_privs_4 : List (MethodName × Nat) := [(⟨"CeilingKernelModel", "perform", "(II)V"⟩, 54), (⟨"CeilingKernelModel", "end", "(II)V"⟩, 54), (⟨"CeilingKernelModel", "move", "(IIII)V"⟩, 54), (⟨"CeilingKernelModel", "post", "(IIII)V"⟩, 54), (⟨"CeilingKernelModel", "jump", "(IIII)V"⟩, 54)]
theorem lw_r4 : ∀ q ∈ lw_privs_4, lw_okq q := List.forall_mem_cons.mpr ⟨lw_p48, List.forall_mem_cons.mpr ⟨lw_p49, List.forall_mem_cons.mpr ⟨lw_p50, List.forall_mem_cons.mpr ⟨lw_p51, List.forall_mem_cons.mpr ⟨lw_p52, fun _ h => absurd h List.not_mem_nil⟩⟩⟩⟩⟩
def lw_privs : List (MethodName × Nat) := lw_privs_1 ++ (lw_privs_2 ++ (lw_privs_3 ++ (lw_privs_4)))
def lw_tbl : List Cond := k2_sels lw_privs ++ tables_1
theorem lw_privs_ok : ∀ q ∈ lw_privs, lw_okq q := by
  show ∀ q ∈ lw_privs_1 ++ (lw_privs_2 ++ (lw_privs_3 ++ (lw_privs_4))), lw_okq q
  exact List.forall_mem_append.mpr ⟨lw_r1, List.forall_mem_append.mpr ⟨lw_r2, List.forall_mem_append.mpr ⟨lw_r3, lw_r4⟩⟩⟩
end
section
/-! Tables by program (wip/tools/gen2.py) out of the listing and the words: classes and fields, methods, instructions with what their pool index stands for. -/
def mj_T0 : u_T := fun k => match k with
  | 0 => ("CeilingKernel", "tasks", "[LCeilingKernel$Task;", true)
  | 1 => ("CeilingKernel", "checker", "LCeilingKernel$Checker;", true)
  | 2 => ("CeilingKernel", "figures", "LCeilingKernel$Figures;", true)
  | 3 => ("CeilingKernel", "machine", "LCeilingKernel$Machine;", true)
  | _ => ("CeilingKernel", "taskCount", "I", false)
def mj_Ty0 : Nat → FieldType := fun k => match k with
  | 0 => .array (.object "CeilingKernel$Task")
  | 1 => .object "CeilingKernel$Checker"
  | 2 => .object "CeilingKernel$Figures"
  | 3 => .object "CeilingKernel$Machine"
  | _ => .int
set_option maxRecDepth 20000 in
theorem mj_Nm0 : ∀ a, a < 5 → ∀ b, b < 5 → a ≠ b → (mj_T0 a).2.1 ≠ (mj_T0 b).2.1 := by decide +kernel
theorem mj_TyOk0 : ∀ k, k < 5 → parseFieldDescriptor (mj_T0 k).2.2.1 = some (mj_Ty0 k) := by decide +kernel
def mj_T1 : u_T := fun k => match k with
  | 0 => ("CeilingKernel$Checker", "met", "I", false)
  | 1 => ("CeilingKernel$Checker", "open", "[I", true)
  | 2 => ("CeilingKernel$Checker", "openCount", "I", false)
  | 3 => ("CeilingKernel$Checker", "openLoops", "I", false)
  | _ => ("CeilingKernel$Checker", "openLocks", "I", false)
def mj_Ty1 : Nat → FieldType := fun k => match k with
  | 0 => .int
  | 1 => .array (.int)
  | 2 => .int
  | 3 => .int
  | _ => .int
set_option maxRecDepth 20000 in
theorem mj_Nm1 : ∀ a, a < 5 → ∀ b, b < 5 → a ≠ b → (mj_T1 a).2.1 ≠ (mj_T1 b).2.1 := by decide +kernel
theorem mj_TyOk1 : ∀ k, k < 5 → parseFieldDescriptor (mj_T1 k).2.2.1 = some (mj_Ty1 k) := by decide +kernel
def mj_T2 : u_T := fun k => match k with
  | 0 => ("CeilingKernel$Figures", "there", "Z", false)
  | 1 => ("CeilingKernel$Figures", "wcets", "[I", true)
  | 2 => ("CeilingKernel$Figures", "sections", "[[I", true)
  | 3 => ("CeilingKernel$Figures", "blockings", "[I", true)
  | 4 => ("CeilingKernel$Figures", "responses", "[I", true)
  | _ => ("CeilingKernel$Figures", "ceilings", "[I", true)
def mj_Ty2 : Nat → FieldType := fun k => match k with
  | 0 => .boolean
  | 1 => .array (.int)
  | 2 => .array (.array (.int))
  | 3 => .array (.int)
  | 4 => .array (.int)
  | _ => .array (.int)
set_option maxRecDepth 20000 in
theorem mj_Nm2 : ∀ a, a < 6 → ∀ b, b < 6 → a ≠ b → (mj_T2 a).2.1 ≠ (mj_T2 b).2.1 := by decide +kernel
theorem mj_TyOk2 : ∀ k, k < 6 → parseFieldDescriptor (mj_T2 k).2.2.1 = some (mj_Ty2 k) := by decide +kernel
def mj_T3 : u_T := fun k => match k with
  | 0 => ("CeilingKernel$Task", "image", "[LCeilingKernel$Routine;", true)
  | 1 => ("CeilingKernel$Task", "period", "I", false)
  | 2 => ("CeilingKernel$Task", "deadline", "I", false)
  | _ => ("CeilingKernel$Task", "offset", "I", false)
def mj_Ty3 : Nat → FieldType := fun k => match k with
  | 0 => .array (.object "CeilingKernel$Routine")
  | 1 => .int
  | 2 => .int
  | _ => .int
set_option maxRecDepth 20000 in
theorem mj_Nm3 : ∀ a, a < 4 → ∀ b, b < 4 → a ≠ b → (mj_T3 a).2.1 ≠ (mj_T3 b).2.1 := by decide +kernel
theorem mj_TyOk3 : ∀ k, k < 4 → parseFieldDescriptor (mj_T3 k).2.2.1 = some (mj_Ty3 k) := by decide +kernel
def mj_T4 : u_T := fun k => match k with
  | 0 => ("CeilingKernel$Routine", "ops", "[I", true)
  | 1 => ("CeilingKernel$Routine", "xs", "[I", true)
  | 2 => ("CeilingKernel$Routine", "ys", "[I", true)
  | 3 => ("CeilingKernel$Routine", "mates", "[I", true)
  | 4 => ("CeilingKernel$Routine", "size", "I", false)
  | 5 => ("CeilingKernel$Routine", "mayLock", "I", false)
  | _ => ("CeilingKernel$Routine", "cost", "I", false)
def mj_Ty4 : Nat → FieldType := fun k => match k with
  | 0 => .array (.int)
  | 1 => .array (.int)
  | 2 => .array (.int)
  | 3 => .array (.int)
  | 4 => .int
  | 5 => .int
  | _ => .int
set_option maxRecDepth 20000 in
theorem mj_Nm4 : ∀ a, a < 7 → ∀ b, b < 7 → a ≠ b → (mj_T4 a).2.1 ≠ (mj_T4 b).2.1 := by decide +kernel
theorem mj_TyOk4 : ∀ k, k < 7 → parseFieldDescriptor (mj_T4 k).2.2.1 = some (mj_Ty4 k) := by decide +kernel
def mj_T5 : u_T := fun k => match k with
  | 0 => ("CeilingKernel$Machine", "going", "Z", false)
  | 1 => ("CeilingKernel$Machine", "posts", "[LCeilingKernel$Post;", true)
  | 2 => ("CeilingKernel$Machine", "ports", "[I", true)
  | 3 => ("CeilingKernel$Machine", "journal", "LCeilingKernel$Journal;", true)
  | 4 => ("CeilingKernel$Machine", "figures", "LCeilingKernel$Figures;", true)
  | 5 => ("CeilingKernel$Machine", "mailboxes", "[LCeilingKernel$Mailbox;", true)
  | 6 => ("CeilingKernel$Machine", "taskCount", "I", false)
  | 7 => ("CeilingKernel$Machine", "cyclesMade", "I", false)
  | 8 => ("CeilingKernel$Machine", "holder", "I", false)
  | 9 => ("CeilingKernel$Machine", "latest", "I", false)
  | 10 => ("CeilingKernel$Machine", "switches", "I", false)
  | 11 => ("CeilingKernel$Machine", "overdue", "I", false)
  | 12 => ("CeilingKernel$Machine", "lost", "I", false)
  | _ => ("CeilingKernel$Machine", "idle", "I", false)
def mj_Ty5 : Nat → FieldType := fun k => match k with
  | 0 => .boolean
  | 1 => .array (.object "CeilingKernel$Post")
  | 2 => .array (.int)
  | 3 => .object "CeilingKernel$Journal"
  | 4 => .object "CeilingKernel$Figures"
  | 5 => .array (.object "CeilingKernel$Mailbox")
  | 6 => .int
  | 7 => .int
  | 8 => .int
  | 9 => .int
  | 10 => .int
  | 11 => .int
  | 12 => .int
  | _ => .int
set_option maxRecDepth 20000 in
theorem mj_Nm5 : ∀ a, a < 14 → ∀ b, b < 14 → a ≠ b → (mj_T5 a).2.1 ≠ (mj_T5 b).2.1 := by decide +kernel
theorem mj_TyOk5 : ∀ k, k < 14 → parseFieldDescriptor (mj_T5 k).2.2.1 = some (mj_Ty5 k) := by decide +kernel
def mj_T6 : u_T := fun k => match k with
  | 0 => ("CeilingKernel$Job", "alive", "Z", false)
  | 1 => ("CeilingKernel$Job", "begun", "Z", false)
  | 2 => ("CeilingKernel$Job", "trapped", "Z", false)
  | 3 => ("CeilingKernel$Job", "active", "I", false)
  | 4 => ("CeilingKernel$Job", "held", "I", false)
  | 5 => ("CeilingKernel$Job", "releasedAt", "I", false)
  | 6 => ("CeilingKernel$Job", "instructionsDone", "I", false)
  | 7 => ("CeilingKernel$Job", "switchLeft", "I", false)
  | 8 => ("CeilingKernel$Job", "registers", "[I", true)
  | 9 => ("CeilingKernel$Job", "image", "[LCeilingKernel$Routine;", true)
  | 10 => ("CeilingKernel$Job", "current", "I", false)
  | 11 => ("CeilingKernel$Job", "at", "I", false)
  | 12 => ("CeilingKernel$Job", "spent", "I", false)
  | 13 => ("CeilingKernel$Job", "callers", "[I", true)
  | 14 => ("CeilingKernel$Job", "returns", "[I", true)
  | _ => ("CeilingKernel$Job", "roundsLeft", "[[I", true)
def mj_Ty6 : Nat → FieldType := fun k => match k with
  | 0 => .boolean
  | 1 => .boolean
  | 2 => .boolean
  | 3 => .int
  | 4 => .int
  | 5 => .int
  | 6 => .int
  | 7 => .int
  | 8 => .array (.int)
  | 9 => .array (.object "CeilingKernel$Routine")
  | 10 => .int
  | 11 => .int
  | 12 => .int
  | 13 => .array (.int)
  | 14 => .array (.int)
  | _ => .array (.array (.int))
set_option maxRecDepth 20000 in
theorem mj_Nm6 : ∀ a, a < 16 → ∀ b, b < 16 → a ≠ b → (mj_T6 a).2.1 ≠ (mj_T6 b).2.1 := by decide +kernel
theorem mj_TyOk6 : ∀ k, k < 16 → parseFieldDescriptor (mj_T6 k).2.2.1 = some (mj_Ty6 k) := by decide +kernel
def mj_T7 : u_T := fun k => match k with
  | 0 => ("CeilingKernel$Journal", "made", "I", false)
  | 1 => ("CeilingKernel$Journal", "kinds", "[I", true)
  | 2 => ("CeilingKernel$Journal", "numbers", "[I", true)
  | 3 => ("CeilingKernel$Journal", "times", "[I", true)
  | _ => ("CeilingKernel$Journal", "values", "[I", true)
def mj_Ty7 : Nat → FieldType := fun k => match k with
  | 0 => .int
  | 1 => .array (.int)
  | 2 => .array (.int)
  | 3 => .array (.int)
  | _ => .array (.int)
set_option maxRecDepth 20000 in
theorem mj_Nm7 : ∀ a, a < 5 → ∀ b, b < 5 → a ≠ b → (mj_T7 a).2.1 ≠ (mj_T7 b).2.1 := by decide +kernel
theorem mj_TyOk7 : ∀ k, k < 5 → parseFieldDescriptor (mj_T7 k).2.2.1 = some (mj_Ty7 k) := by decide +kernel
def mj_T8 : u_T := fun k => match k with
  | 0 => ("CeilingKernel$Post", "task", "LCeilingKernel$Task;", true)
  | 1 => ("CeilingKernel$Post", "job", "LCeilingKernel$Job;", true)
  | 2 => ("CeilingKernel$Post", "words", "[I", true)
  | 3 => ("CeilingKernel$Post", "longest", "I", false)
  | 4 => ("CeilingKernel$Post", "nextDue", "I", false)
  | _ => ("CeilingKernel$Post", "waiting", "I", false)
def mj_Ty8 : Nat → FieldType := fun k => match k with
  | 0 => .object "CeilingKernel$Task"
  | 1 => .object "CeilingKernel$Job"
  | 2 => .array (.int)
  | 3 => .int
  | 4 => .int
  | _ => .int
set_option maxRecDepth 20000 in
theorem mj_Nm8 : ∀ a, a < 6 → ∀ b, b < 6 → a ≠ b → (mj_T8 a).2.1 ≠ (mj_T8 b).2.1 := by decide +kernel
theorem mj_TyOk8 : ∀ k, k < 6 → parseFieldDescriptor (mj_T8 k).2.2.1 = some (mj_Ty8 k) := by decide +kernel
def mj_T9 : u_T := fun k => match k with
  | 0 => ("CeilingKernel$Mailbox", "numbers", "[I", true)
  | _ => ("CeilingKernel$Mailbox", "count", "I", false)
def mj_Ty9 : Nat → FieldType := fun k => match k with
  | 0 => .array (.int)
  | _ => .int
set_option maxRecDepth 20000 in
theorem mj_Nm9 : ∀ a, a < 2 → ∀ b, b < 2 → a ≠ b → (mj_T9 a).2.1 ≠ (mj_T9 b).2.1 := by decide +kernel
theorem mj_TyOk9 : ∀ k, k < 2 → parseFieldDescriptor (mj_T9 k).2.2.1 = some (mj_Ty9 k) := by decide +kernel
def mj_T10 : u_T := fun k => match k with
  | 0 => ("CeilingKernelModel", "tasks", "I", false)
  | 1 => ("CeilingKernelModel", "figures", "Z", false)
  | 2 => ("CeilingKernelModel", "on", "Z", false)
  | 3 => ("CeilingKernelModel", "met", "I", false)
  | 4 => ("CeilingKernelModel", "period", "[I", false)
  | 5 => ("CeilingKernelModel", "deadline", "[I", false)
  | 6 => ("CeilingKernelModel", "offset", "[I", false)
  | 7 => ("CeilingKernelModel", "op", "[I", false)
  | 8 => ("CeilingKernelModel", "rx", "[I", false)
  | 9 => ("CeilingKernelModel", "num", "[I", false)
  | 10 => ("CeilingKernelModel", "mate", "[I", false)
  | 11 => ("CeilingKernelModel", "len", "[I", false)
  | 12 => ("CeilingKernelModel", "price", "[I", false)
  | 13 => ("CeilingKernelModel", "open", "[I", false)
  | 14 => ("CeilingKernelModel", "depth", "I", false)
  | 15 => ("CeilingKernelModel", "far", "[I", false)
  | 16 => ("CeilingKernelModel", "total", "[I", false)
  | 17 => ("CeilingKernelModel", "wc", "[I", false)
  | 18 => ("CeilingKernelModel", "sec", "[I", false)
  | 19 => ("CeilingKernelModel", "blk", "[I", false)
  | 20 => ("CeilingKernelModel", "resp", "[I", false)
  | 21 => ("CeilingKernelModel", "ceil", "[I", false)
  | 22 => ("CeilingKernelModel", "t", "I", false)
  | 23 => ("CeilingKernelModel", "latest", "I", false)
  | 24 => ("CeilingKernelModel", "before", "I", false)
  | 25 => ("CeilingKernelModel", "switches", "I", false)
  | 26 => ("CeilingKernelModel", "overdue", "I", false)
  | 27 => ("CeilingKernelModel", "lost", "I", false)
  | 28 => ("CeilingKernelModel", "idle", "I", false)
  | 29 => ("CeilingKernelModel", "made", "I", false)
  | 30 => ("CeilingKernelModel", "has", "[Z", false)
  | 31 => ("CeilingKernelModel", "ran", "[Z", false)
  | 32 => ("CeilingKernelModel", "born", "[I", false)
  | 33 => ("CeilingKernelModel", "turning", "[I", false)
  | 34 => ("CeilingKernelModel", "spent", "[I", false)
  | 35 => ("CeilingKernelModel", "steps", "[I", false)
  | 36 => ("CeilingKernelModel", "holds", "[I", false)
  | 37 => ("CeilingKernelModel", "routine", "[I", false)
  | 38 => ("CeilingKernelModel", "at", "[I", false)
  | 39 => ("CeilingKernelModel", "caller", "[I", false)
  | 40 => ("CeilingKernelModel", "back", "[I", false)
  | 41 => ("CeilingKernelModel", "rounds", "[I", false)
  | 42 => ("CeilingKernelModel", "regs", "[I", false)
  | 43 => ("CeilingKernelModel", "words", "[I", false)
  | 44 => ("CeilingKernelModel", "due", "[I", false)
  | 45 => ("CeilingKernelModel", "waits", "[I", false)
  | 46 => ("CeilingKernelModel", "top", "[I", false)
  | 47 => ("CeilingKernelModel", "ports", "[I", false)
  | 48 => ("CeilingKernelModel", "box", "[I", false)
  | 49 => ("CeilingKernelModel", "held", "[I", false)
  | 50 => ("CeilingKernelModel", "kinds", "[I", false)
  | 51 => ("CeilingKernelModel", "whose", "[I", false)
  | 52 => ("CeilingKernelModel", "times", "[I", false)
  | _ => ("CeilingKernelModel", "values", "[I", false)
def mj_Ty10 : Nat → FieldType := fun k => match k with
  | 0 => .int
  | 1 => .boolean
  | 2 => .boolean
  | 3 => .int
  | 4 => .array (.int)
  | 5 => .array (.int)
  | 6 => .array (.int)
  | 7 => .array (.int)
  | 8 => .array (.int)
  | 9 => .array (.int)
  | 10 => .array (.int)
  | 11 => .array (.int)
  | 12 => .array (.int)
  | 13 => .array (.int)
  | 14 => .int
  | 15 => .array (.int)
  | 16 => .array (.int)
  | 17 => .array (.int)
  | 18 => .array (.int)
  | 19 => .array (.int)
  | 20 => .array (.int)
  | 21 => .array (.int)
  | 22 => .int
  | 23 => .int
  | 24 => .int
  | 25 => .int
  | 26 => .int
  | 27 => .int
  | 28 => .int
  | 29 => .int
  | 30 => .array (.boolean)
  | 31 => .array (.boolean)
  | 32 => .array (.int)
  | 33 => .array (.int)
  | 34 => .array (.int)
  | 35 => .array (.int)
  | 36 => .array (.int)
  | 37 => .array (.int)
  | 38 => .array (.int)
  | 39 => .array (.int)
  | 40 => .array (.int)
  | 41 => .array (.int)
  | 42 => .array (.int)
  | 43 => .array (.int)
  | 44 => .array (.int)
  | 45 => .array (.int)
  | 46 => .array (.int)
  | 47 => .array (.int)
  | 48 => .array (.int)
  | 49 => .array (.int)
  | 50 => .array (.int)
  | 51 => .array (.int)
  | 52 => .array (.int)
  | _ => .array (.int)
set_option maxRecDepth 20000 in
theorem mj_Nm10 : ∀ a, a < 54 → ∀ b, b < 54 → a ≠ b → (mj_T10 a).2.1 ≠ (mj_T10 b).2.1 := by decide +kernel
theorem mj_TyOk10 : ∀ k, k < 54 → parseFieldDescriptor (mj_T10 k).2.2.1 = some (mj_Ty10 k) := by decide +kernel
abbrev vwCl : List vw_C := [("CeilingKernel", mj_T0, 5), ("CeilingKernel$Checker", mj_T1, 5), ("CeilingKernel$Figures", mj_T2, 6), ("CeilingKernel$Task", mj_T3, 4), ("CeilingKernel$Routine", mj_T4, 7), ("CeilingKernel$Machine", mj_T5, 14), ("CeilingKernel$Job", mj_T6, 16), ("CeilingKernel$Journal", mj_T7, 5), ("CeilingKernel$Post", mj_T8, 6), ("CeilingKernel$Mailbox", mj_T9, 2), ("CeilingKernelModel", mj_T10, 54)]
def mj_ty (tag : Nat) : FieldType := match tag with
  | 20 => .int
  | 21 => .boolean
  | 22 => .object "CeilingKernel$Task"
  | 23 => .object "CeilingKernel$Routine"
  | 24 => .object "CeilingKernel$Post"
  | 25 => .object "CeilingKernel$Mailbox"
  | _ => .array .int
def mj_tys (E : Nat → ClassId) : List (ClassId × FieldType) := [(E 20, .int), (E 21, .boolean), (E 22, .object "CeilingKernel$Task"), (E 23, .object "CeilingKernel$Routine"), (E 24, .object "CeilingKernel$Post"), (E 25, .object "CeilingKernel$Mailbox"), (E 26, .array .int)]
def mj_comp (tag : Nat) : Nat := match tag with
  | 22 => 3
  | 23 => 4
  | 24 => 8
  | 25 => 9
  | _ => 99
def mj_kind (ty : FieldType) : Nat := match ty with
  | .int => 0
  | .boolean => 1
  | .object _ => 2
  | .array _ => 2
  | _ => 9
def mj_ftys : List (List Nat) := [[2, 2, 2, 2, 0], [0, 2, 0, 0, 0], [1, 2, 2, 2, 2, 2], [2, 0, 0, 0], [2, 2, 2, 2, 0, 0, 0], [1, 2, 2, 2, 2, 2, 0, 0, 0, 0, 0, 0, 0, 0], [1, 1, 1, 0, 0, 0, 0, 0, 2, 2, 0, 0, 0, 2, 2, 2], [0, 2, 2, 2, 2], [2, 2, 2, 0, 0, 0], [2, 0], [0, 1, 1, 0, 2, 2, 2, 2, 2, 2, 2, 2, 2, 2, 0, 2, 2, 2, 2, 2, 2, 2, 0, 0, 0, 0, 0, 0, 0, 0, 2, 2, 2, 2, 2, 2, 2, 2, 2, 2, 2, 2, 2, 2, 2, 2, 2, 2, 2, 2, 2, 2, 2, 2]]
def mj_fty (a b : Nat) : Nat := (mj_ftys.getD a []).getD b 9
def mj_blank (a : Nat) : List Value := (mj_ftys.getD a []).map (fun t => if t = 2 then Value.null else .int 0)
def mj_SC : String := "CeilingKernel"
def mj_SN (k : Nat) : String := match k with
  | 1 => "COST"
  | 2 => "X_MOST"
  | 3 => "Y_LEAST"
  | _ => "Y_MOST"
def mj_Ys : List MethodName := [⟨"CeilingKernel", "<init>", "()V"⟩, ⟨"CeilingKernel$Checker", "<init>", "()V"⟩, ⟨"CeilingKernel$Figures", "<init>", "()V"⟩, ⟨"CeilingKernel$Task", "<init>", "()V"⟩, ⟨"CeilingKernel$Routine", "<init>", "()V"⟩, ⟨"CeilingKernel$Machine", "<init>", "([LCeilingKernel$Task;LCeilingKernel$Figures;)V"⟩, ⟨"CeilingKernel$Journal", "<init>", "()V"⟩, ⟨"CeilingKernel$Post", "<init>", "(LCeilingKernel$Task;)V"⟩, ⟨"CeilingKernel$Job", "<init>", "([LCeilingKernel$Routine;)V"⟩, ⟨"CeilingKernel$Mailbox", "<init>", "()V"⟩, ⟨"CeilingKernel", "task", "(III)I"⟩, ⟨"CeilingKernel", "isWithin", "(III)Z"⟩, ⟨"CeilingKernel$Task", "make", "(III)V"⟩, ⟨"CeilingKernel", "code", "(IIIII)Z"⟩, ⟨"CeilingKernel", "isTask", "(I)Z"⟩, ⟨"CeilingKernel", "isBelow", "(II)Z"⟩, ⟨"CeilingKernel", "isInstruction", "(III)Z"⟩, ⟨"CeilingKernel$Routine", "append", "(III)Z"⟩, ⟨"CeilingKernel", "wipe", "(I)Z"⟩, ⟨"CeilingKernel$Task", "clearImage", "()V"⟩, ⟨"CeilingKernel", "admit", "()I"⟩, ⟨"CeilingKernel$Checker", "reasonAgainst", "([LCeilingKernel$Routine;)I"⟩, ⟨"CeilingKernel$Checker", "findLocks", "([LCeilingKernel$Routine;)V"⟩, ⟨"CeilingKernel$Checker", "checkRoutine", "([LCeilingKernel$Routine;I)I"⟩, ⟨"CeilingKernel$Checker", "meet", "(III)I"⟩, ⟨"CeilingKernel$Checker", "checkInstruction", "([LCeilingKernel$Routine;II)I"⟩, ⟨"CeilingKernel$Checker", "openLoop", "(I)I"⟩, ⟨"CeilingKernel$Checker", "openBracket", "(I)I"⟩, ⟨"CeilingKernel$Checker", "openLock", "(II)I"⟩, ⟨"CeilingKernel$Checker", "close", "(LCeilingKernel$Routine;II)I"⟩, ⟨"CeilingKernel$Routine", "join", "(II)V"⟩, ⟨"CeilingKernel$Routine", "openerY", "(I)I"⟩, ⟨"CeilingKernel$Checker", "checkCall", "([LCeilingKernel$Routine;II)I"⟩, ⟨"CeilingKernel$Checker", "checkJump", "(LCeilingKernel$Routine;I)I"⟩, ⟨"CeilingKernel$Checker", "bracketStep", "(I)I"⟩, ⟨"CeilingKernel$Figures", "workOut", "([LCeilingKernel$Task;I)I"⟩, ⟨"java/util/Arrays", "fill", "([II)V"⟩, ⟨"CeilingKernel$Figures", "costImage", "([LCeilingKernel$Routine;)V"⟩, ⟨"CeilingKernel$Figures", "costOfSpan", "([LCeilingKernel$Routine;LCeilingKernel$Routine;II)I"⟩, ⟨"CeilingKernel$Figures", "findSections", "([LCeilingKernel$Routine;I)V"⟩, ⟨"CeilingKernel$Figures", "takeSection", "(III)V"⟩, ⟨"CeilingKernel$Figures", "findBlocking", "(II)I"⟩, ⟨"CeilingKernel$Figures", "findResponses", "([LCeilingKernel$Task;I)I"⟩, ⟨"CeilingKernel$Figures", "findResponse", "([LCeilingKernel$Task;I)I"⟩, ⟨"CeilingKernel$Figures", "demandWithin", "([LCeilingKernel$Task;II)I"⟩, ⟨"CeilingKernel", "place", "()I"⟩, ⟨"CeilingKernel", "wcet", "(I)I"⟩, ⟨"CeilingKernel", "hasFigures", "(I)Z"⟩, ⟨"CeilingKernel", "section", "(II)I"⟩, ⟨"CeilingKernel", "blocking", "(I)I"⟩, ⟨"CeilingKernel", "response", "(I)I"⟩, ⟨"CeilingKernel", "ceiling", "(I)I"⟩, ⟨"CeilingKernel", "start", "()Z"⟩, ⟨"CeilingKernel$Machine", "begin", "(I)V"⟩, ⟨"CeilingKernel$Mailbox", "clear", "()V"⟩, ⟨"CeilingKernel$Post", "reset", "()V"⟩, ⟨"CeilingKernel$Task", "isPeriodic", "()Z"⟩, ⟨"CeilingKernel", "halt", "()Z"⟩, ⟨"CeilingKernel", "signal", "(I)Z"⟩, ⟨"CeilingKernel", "runsTask", "(I)Z"⟩, ⟨"CeilingKernel$Post", "takeEvent", "()Z"⟩, ⟨"CeilingKernel", "input", "(II)Z"⟩, ⟨"CeilingKernel", "run", "(I)I"⟩, ⟨"CeilingKernel$Machine", "makeCycles", "(I)I"⟩, ⟨"CeilingKernel$Machine", "makeReleases", "()V"⟩, ⟨"CeilingKernel$Post", "isDue", "(I)Z"⟩, ⟨"CeilingKernel$Post", "passRelease", "(I)V"⟩, ⟨"CeilingKernel$Machine", "makeRelease", "(ILCeilingKernel$Job;)V"⟩, ⟨"CeilingKernel$Journal", "add", "(IIII)V"⟩, ⟨"CeilingKernel$Job", "release", "(II)V"⟩, ⟨"CeilingKernel$Machine", "chooseTask", "()I"⟩, ⟨"CeilingKernel$Job", "goesBefore", "(LCeilingKernel$Job;)Z"⟩, ⟨"CeilingKernel$Machine", "giveCycle", "(I)V"⟩, ⟨"CeilingKernel$Job", "spendCycle", "()Z"⟩, ⟨"CeilingKernel$Machine", "finishInstruction", "(ILCeilingKernel$Job;)V"⟩, ⟨"CeilingKernel$Machine", "perform", "(ILCeilingKernel$Job;)V"⟩, ⟨"CeilingKernel$Job", "routine", "()LCeilingKernel$Routine;"⟩, ⟨"CeilingKernel$Job", "spot", "()I"⟩, ⟨"CeilingKernel$Job", "stepBehind", "()V"⟩, ⟨"CeilingKernel$Machine", "hold", "(ILCeilingKernel$Job;I)V"⟩, ⟨"CeilingKernel$Figures", "activeNumber", "(II)I"⟩, ⟨"CeilingKernel$Mailbox", "put", "(I)Z"⟩, ⟨"CeilingKernel$Machine", "receive", "(LCeilingKernel$Mailbox;[II)V"⟩, ⟨"CeilingKernel$Mailbox", "isEmpty", "()Z"⟩, ⟨"CeilingKernel$Mailbox", "take", "()I"⟩, ⟨"CeilingKernel$Job", "compute", "(IIII)V"⟩, ⟨"CeilingKernel$Job", "divide", "(II)V"⟩, ⟨"CeilingKernel$Job", "closeRound", "(I)V"⟩, ⟨"CeilingKernel$Job", "enter", "(I)V"⟩, ⟨"CeilingKernel$Machine", "endJob", "(II)V"⟩, ⟨"CeilingKernel$Job", "isThrough", "()Z"⟩, ⟨"CeilingKernel", "state", "(I)I"⟩, ⟨"CeilingKernel$Machine", "tell", "(I)I"⟩, ⟨"CeilingKernel", "job", "(II)I"⟩, ⟨"CeilingKernel$Machine", "tellOfJob", "(II)I"⟩, ⟨"CeilingKernel", "worst", "(I)I"⟩, ⟨"CeilingKernel", "word", "(II)I"⟩, ⟨"CeilingKernel", "entry", "(II)I"⟩, ⟨"CeilingKernel$Journal", "tell", "(II)I"⟩, ⟨"CeilingKernelModel", "<init>", "()V"⟩, ⟨"CeilingKernelModel", "task", "(III)I"⟩, ⟨"CeilingKernelModel", "in", "(III)Z"⟩, ⟨"CeilingKernelModel", "code", "(IIIII)Z"⟩, ⟨"CeilingKernelModel", "isTask", "(I)Z"⟩, ⟨"CeilingKernelModel", "named", "(III)Z"⟩, ⟨"CeilingKernelModel", "wipe", "(I)Z"⟩, ⟨"CeilingKernelModel", "admit", "()I"⟩, ⟨"CeilingKernelModel", "reason", "(I)I"⟩, ⟨"CeilingKernelModel", "meets", "(III)I"⟩, ⟨"CeilingKernelModel", "openLoops", "()I"⟩, ⟨"CeilingKernelModel", "may", "(II)I"⟩, ⟨"CeilingKernelModel", "openLocks", "()I"⟩, ⟨"CeilingKernelModel", "leads", "(III)Z"⟩, ⟨"CeilingKernelModel", "turn", "(I)I"⟩, ⟨"CeilingKernelModel", "bracket", "(IZ)V"⟩, ⟨"CeilingKernelModel", "weigh", "(I)V"⟩, ⟨"CeilingKernelModel", "longest", "(III)I"⟩, ⟨"CeilingKernelModel", "highest", "(I)I"⟩, ⟨"CeilingKernelModel", "delay", "(I)I"⟩, ⟨"CeilingKernelModel", "tried", "(I)I"⟩, ⟨"CeilingKernelModel", "place", "()I"⟩, ⟨"CeilingKernelModel", "wcet", "(I)I"⟩, ⟨"CeilingKernelModel", "section", "(II)I"⟩, ⟨"CeilingKernelModel", "blocking", "(I)I"⟩, ⟨"CeilingKernelModel", "response", "(I)I"⟩, ⟨"CeilingKernelModel", "ceiling", "(I)I"⟩, ⟨"CeilingKernelModel", "start", "()Z"⟩, ⟨"CeilingKernelModel", "halt", "()Z"⟩, ⟨"CeilingKernelModel", "signal", "(I)Z"⟩, ⟨"CeilingKernelModel", "input", "(II)Z"⟩, ⟨"CeilingKernelModel", "run", "(I)I"⟩, ⟨"CeilingKernelModel", "cycle", "()V"⟩, ⟨"CeilingKernelModel", "release", "(I)V"⟩, ⟨"CeilingKernelModel", "enter", "(III)V"⟩, ⟨"CeilingKernelModel", "chosen", "()I"⟩, ⟨"CeilingKernelModel", "active", "(I)I"⟩, ⟨"CeilingKernelModel", "perform", "(II)V"⟩, ⟨"CeilingKernelModel", "end", "(II)V"⟩, ⟨"CeilingKernelModel", "move", "(IIII)V"⟩, ⟨"CeilingKernelModel", "post", "(IIII)V"⟩, ⟨"CeilingKernelModel", "jump", "(IIII)V"⟩, ⟨"CeilingKernelModel", "state", "(I)I"⟩, ⟨"CeilingKernelModel", "job", "(II)I"⟩, ⟨"CeilingKernelModel", "worst", "(I)I"⟩, ⟨"CeilingKernelModel", "word", "(II)I"⟩, ⟨"CeilingKernelModel", "entry", "(II)I"⟩, ⟨"CeilingKernelLaw", "law", "([I)Z"⟩]
def mj_y (m : Nat) : MethodName := mj_Ys.getD m ⟨"", "", ""⟩
def mj_own (m : Nat) : String := (mj_y m).cls
def mj_init (m : Nat) : Bool := decide ((mj_y m).name = "<init>")
def mj_codes : List ByteArray := [prog_1_method_1_code, prog_2_method_1_code, prog_3_method_1_code, prog_10_method_1_code, prog_9_method_1_code, prog_6_method_1_code, prog_5_method_1_code, prog_8_method_1_code, prog_4_method_1_code, prog_7_method_1_code, prog_1_method_2_code, prog_1_method_25_code, prog_10_method_2_code, prog_1_method_3_code, prog_1_method_22_code, prog_1_method_26_code, prog_1_method_27_code, prog_9_method_2_code, prog_1_method_4_code, prog_10_method_3_code, prog_1_method_5_code, prog_2_method_2_code, prog_2_method_3_code, prog_2_method_4_code, prog_2_method_5_code, prog_2_method_6_code, prog_2_method_7_code, prog_2_method_9_code, prog_2_method_8_code, prog_2_method_10_code, prog_9_method_3_code, prog_9_method_4_code, prog_2_method_11_code, prog_2_method_12_code, prog_2_method_13_code, prog_3_method_2_code, prog_14_method_103_code, prog_3_method_3_code, prog_3_method_4_code, prog_3_method_5_code, prog_3_method_6_code, prog_3_method_7_code, prog_3_method_8_code, prog_3_method_9_code, prog_3_method_10_code, prog_1_method_6_code, prog_1_method_7_code, prog_1_method_23_code, prog_1_method_8_code, prog_1_method_9_code, prog_1_method_10_code, prog_1_method_11_code, prog_1_method_12_code, prog_6_method_2_code, prog_7_method_2_code, prog_8_method_2_code, prog_10_method_4_code, prog_1_method_13_code, prog_1_method_14_code, prog_1_method_24_code, prog_8_method_3_code, prog_1_method_15_code, prog_1_method_16_code, prog_6_method_3_code, prog_6_method_4_code, prog_8_method_4_code, prog_8_method_5_code, prog_6_method_5_code, prog_5_method_2_code, prog_4_method_2_code, prog_6_method_6_code, prog_4_method_3_code, prog_6_method_7_code, prog_4_method_6_code, prog_6_method_8_code, prog_6_method_9_code, prog_4_method_4_code, prog_4_method_5_code, prog_4_method_7_code, prog_6_method_10_code, prog_3_method_11_code, prog_7_method_4_code, prog_6_method_11_code, prog_7_method_3_code, prog_7_method_5_code, prog_4_method_8_code, prog_4_method_9_code, prog_4_method_10_code, prog_4_method_11_code, prog_6_method_12_code, prog_4_method_12_code, prog_1_method_17_code, prog_6_method_13_code, prog_1_method_18_code, prog_6_method_14_code, prog_1_method_19_code, prog_1_method_20_code, prog_1_method_21_code, prog_5_method_3_code, prog_12_method_1_code, prog_12_method_4_code, prog_12_method_2_code, prog_12_method_6_code, prog_12_method_3_code, prog_12_method_5_code, prog_12_method_7_code, prog_12_method_21_code, prog_12_method_14_code, prog_12_method_13_code, prog_12_method_11_code, prog_12_method_9_code, prog_12_method_10_code, prog_12_method_12_code, prog_12_method_8_code, prog_12_method_15_code, prog_12_method_17_code, prog_12_method_16_code, prog_12_method_18_code, prog_12_method_19_code, prog_12_method_20_code, prog_12_method_22_code, prog_12_method_23_code, prog_12_method_24_code, prog_12_method_25_code, prog_12_method_26_code, prog_12_method_27_code, prog_12_method_28_code, prog_12_method_29_code, prog_12_method_30_code, prog_12_method_31_code, prog_12_method_42_code, prog_12_method_36_code, prog_12_method_33_code, prog_12_method_32_code, prog_12_method_35_code, prog_12_method_34_code, prog_12_method_38_code, prog_12_method_37_code, prog_12_method_39_code, prog_12_method_40_code, prog_12_method_41_code, prog_12_method_43_code, prog_12_method_44_code, prog_12_method_45_code, prog_12_method_46_code, prog_12_method_47_code, code]
def mj_code (m : Nat) : ByteArray := mj_codes.getD m ByteArray.empty
def mj_maxLs : List Nat := [2, 1, 1, 2, 1, 4, 1, 2, 2, 1, 5, 3, 4, 6, 2, 2, 3, 4, 2, 2, 3, 4, 6, 6, 4, 5, 2, 2, 3, 4, 3, 2, 4, 6, 1, 4, 4, 2, 8, 7, 4, 6, 4, 7, 8, 1, 2, 2, 3, 2, 2, 2, 1, 3, 1, 1, 1, 1, 2, 2, 1, 3, 2, 4, 2, 2, 2, 3, 6, 3, 4, 2, 3, 1, 3, 7, 1, 1, 1, 4, 5, 2, 3, 1, 3, 5, 3, 2, 2, 5, 2, 2, 2, 3, 4, 2, 3, 3, 4, 1, 4, 3, 7, 2, 7, 3, 3, 6, 9, 3, 8, 3, 6, 1, 4, 7, 11, 3, 7, 6, 1, 2, 3, 2, 2, 2, 2, 2, 2, 3, 4, 3, 3, 5, 5, 4, 8, 4, 5, 6, 7, 2, 3, 2, 3, 4, 4]
def mj_maxL (m : Nat) : Nat := mj_maxLs.getD m 0
def mj_rets : List (Option FieldType) := [none, none, none, none, none, none, none, none, none, none, some .int, some .boolean, none, some .boolean, some .boolean, some .boolean, some .boolean, some .boolean, some .boolean, none, some .int, some .int, none, some .int, some .int, some .int, some .int, some .int, some .int, some .int, none, some .int, some .int, some .int, some .int, some .int, none, none, some .int, none, none, some .int, some .int, some .int, some .int, some .int, some .int, some .boolean, some .int, some .int, some .int, some .int, some .boolean, none, none, none, some .boolean, some .boolean, some .boolean, some .boolean, some .boolean, some .boolean, some .int, some .int, none, some .boolean, none, none, none, none, some .int, some .boolean, none, some .boolean, none, none, some (.object "CeilingKernel$Routine"), some .int, none, none, some .int, some .boolean, none, some .boolean, some .int, none, none, none, none, none, some .boolean, some .int, some .int, some .int, some .int, some .int, some .int, some .int, some .int, none, some .int, some .boolean, some .boolean, some .boolean, some .boolean, some .boolean, some .int, some .int, some .int, some .int, some .int, some .int, some .boolean, some .int, none, none, some .int, some .int, some .int, some .int, some .int, some .int, some .int, some .int, some .int, some .int, some .boolean, some .boolean, some .boolean, some .boolean, some .int, none, none, none, some .int, some .int, none, none, none, none, none, some .int, some .int, some .int, some .int, some .int, some .boolean]
def mj_ret (m : Nat) : Option FieldType := mj_rets.getD m none
def mj_cis : List Nat := [0, 1, 2, 3, 4, 5, 7, 8, 6, 9, 0, 0, 3, 0, 0, 0, 0, 4, 0, 3, 0, 1, 1, 1, 1, 1, 1, 1, 1, 1, 4, 4, 1, 1, 1, 2, 99, 2, 2, 2, 2, 2, 2, 2, 2, 0, 0, 0, 0, 0, 0, 0, 0, 5, 9, 8, 3, 0, 0, 0, 8, 0, 0, 5, 5, 8, 8, 5, 7, 6, 5, 6, 5, 6, 5, 5, 6, 6, 6, 5, 2, 9, 5, 9, 9, 6, 6, 6, 6, 5, 6, 0, 5, 0, 5, 0, 0, 0, 7, 10, 10, 10, 10, 10, 10, 10, 10, 10, 10, 10, 10, 10, 10, 10, 10, 10, 10, 10, 10, 10, 10, 10, 10, 10, 10, 10, 10, 10, 10, 10, 10, 10, 10, 10, 10, 10, 10, 10, 10, 10, 10, 10, 10, 10, 10, 10, 99]
def mj_ci (m : Nat) : Nat := mj_cis.getD m 99
def mj_rFs : List Nat := [4, 1, 1, 2, 1, 3, 1, 2, 1, 1, 1, 0, 0, 2, 1, 0, 1, 0, 2, 0, 5, 4, 0, 3, 0, 2, 1, 0, 1, 1, 0, 0, 0, 1, 0, 4, 0, 2, 1, 2, 1, 1, 3, 2, 1, 0, 3, 2, 3, 3, 3, 1, 3, 2, 0, 1, 0, 0, 3, 2, 1, 1, 7, 6, 3, 1, 1, 2, 0, 1, 1, 0, 5, 0, 4, 3, 0, 0, 0, 2, 1, 0, 1, 0, 0, 1, 0, 0, 0, 1, 0, 1, 0, 3, 0, 3, 3, 2, 1, 1, 1, 0, 2, 0, 1, 1, 4, 3, 2, 0, 0, 0, 1, 0, 1, 1, 0, 0, 0, 0, 0, 1, 1, 1, 1, 1, 0, 0, 1, 1, 4, 3, 1, 0, 1, 0, 2, 1, 1, 0, 0, 1, 1, 1, 1, 1, 8]
def mj_rF (m : Nat) : Nat := mj_rFs.getD m 0
def mj_rLs : List Nat := [85, 20, 20, 40, 20, 62, 20, 41, 20, 20, 23, 0, 0, 44, 21, 0, 22, 0, 42, 0, 120, 94, 0, 69, 0, 45, 21, 0, 21, 22, 0, 0, 0, 20, 0, 97, 0, 48, 21, 48, 21, 22, 74, 48, 21, 0, 63, 42, 63, 63, 63, 21, 65, 43, 0, 23, 0, 0, 63, 42, 20, 21, 161, 138, 67, 20, 20, 45, 0, 23, 21, 0, 116, 0, 94, 68, 0, 0, 0, 45, 21, 0, 22, 0, 0, 22, 0, 0, 0, 25, 0, 21, 0, 63, 0, 63, 63, 44, 21, 20, 22, 0, 48, 0, 22, 21, 98, 73, 45, 0, 0, 0, 20, 0, 20, 30, 0, 0, 0, 0, 0, 21, 22, 21, 21, 22, 0, 0, 21, 22, 97, 75, 24, 0, 23, 0, 48, 24, 24, 0, 0, 22, 23, 21, 22, 22, 182]
def mj_rL (m : Nat) : Nat := mj_rLs.getD m 0
def mj_NC : Nat := 146
def mj_N : Nat := 147
/-- 0: CeilingKernel.<init>()V -/
def mj_tb0 : List (Nat × Instr × Nat × Nat) := [(0, .aload_n 0, 0, 0), (1, .invokespecial 1, 1000, 0), (4, .aload_n 0, 0, 0), (5, .iconst 5, 0, 0), (6, .anewarray 9, 22, 0), (9, .putfield 11, 0, 0), (12, .aload_n 0, 0, 0), (13, .new 15, 1, 0), (16, .dup, 0, 0), (17, .invokespecial 17, 1, 0), (20, .putfield 18, 0, 1), (23, .aload_n 0, 0, 0), (24, .new 22, 2, 0), (27, .dup, 0, 0), (28, .invokespecial 24, 2, 0), (31, .putfield 25, 0, 2), (34, .iconst 0, 0, 0), (35, .istore_n 1, 0, 0), (36, .iload_n 1, 0, 0), (37, .iconst 5, 0, 0), (38, .if_icmp .ge 22, 0, 0), (41, .aload_n 0, 0, 0), (42, .getfield 11, 0, 0), (45, .iload_n 1, 0, 0), (46, .new 9, 3, 0), (49, .dup, 0, 0), (50, .invokespecial 29, 3, 0), (53, .aastore, 0, 0), (54, .iinc 1 1, 0, 0), (57, .goto (-21), 0, 0), (60, .aload_n 0, 0, 0), (61, .new 30, 5, 0), (64, .dup, 0, 0), (65, .aload_n 0, 0, 0), (66, .getfield 11, 0, 0), (69, .aload_n 0, 0, 0), (70, .getfield 25, 0, 2), (73, .invokespecial 32, 5, 2), (76, .putfield 35, 0, 3), (79, .return_, 0, 0)]
/-- 1: CeilingKernel$Checker.<init>()V -/
def mj_tb1 : List (Nat × Instr × Nat × Nat) := [(0, .aload_n 0, 0, 0), (1, .invokespecial 3, 1000, 0), (4, .aload_n 0, 0, 0), (5, .iconst (-1), 0, 0), (6, .putfield 9, 1, 0), (9, .aload_n 0, 0, 0), (10, .bipush 12, 0, 0), (12, .newarray .int, 20, 0), (14, .putfield 15, 1, 1), (17, .return_, 0, 0)]
/-- 2: CeilingKernel$Figures.<init>()V -/
def mj_tb2 : List (Nat × Instr × Nat × Nat) := [(0, .aload_n 0, 0, 0), (1, .invokespecial 3, 1000, 0), (4, .aload_n 0, 0, 0), (5, .iconst 5, 0, 0), (6, .newarray .int, 20, 0), (8, .putfield 9, 2, 1), (11, .aload_n 0, 0, 0), (12, .iconst 5, 0, 0), (13, .iconst 4, 0, 0), (14, .multianewarray 15 2, 26, 2), (18, .putfield 17, 2, 2), (21, .aload_n 0, 0, 0), (22, .iconst 5, 0, 0), (23, .newarray .int, 20, 0), (25, .putfield 20, 2, 3), (28, .aload_n 0, 0, 0), (29, .iconst 5, 0, 0), (30, .newarray .int, 20, 0), (32, .putfield 23, 2, 4), (35, .aload_n 0, 0, 0), (36, .iconst 4, 0, 0), (37, .newarray .int, 20, 0), (39, .putfield 26, 2, 5), (42, .return_, 0, 0)]
/-- 3: CeilingKernel$Task.<init>()V -/
def mj_tb3 : List (Nat × Instr × Nat × Nat) := [(0, .aload_n 0, 0, 0), (1, .invokespecial 3, 1000, 0), (4, .aload_n 0, 0, 0), (5, .iconst 3, 0, 0), (6, .anewarray 9, 23, 0), (9, .putfield 11, 3, 0), (12, .iconst 0, 0, 0), (13, .istore_n 1, 0, 0), (14, .iload_n 1, 0, 0), (15, .iconst 3, 0, 0), (16, .if_icmp .ge 22, 0, 0), (19, .aload_n 0, 0, 0), (20, .getfield 11, 3, 0), (23, .iload_n 1, 0, 0), (24, .new 9, 4, 0), (27, .dup, 0, 0), (28, .invokespecial 17, 4, 0), (31, .aastore, 0, 0), (32, .iinc 1 1, 0, 0), (35, .goto (-21), 0, 0), (38, .return_, 0, 0)]
/-- 4: CeilingKernel$Routine.<init>()V -/
def mj_tb4 : List (Nat × Instr × Nat × Nat) := [(0, .aload_n 0, 0, 0), (1, .invokespecial 3, 1000, 0), (4, .aload_n 0, 0, 0), (5, .bipush 12, 0, 0), (7, .newarray .int, 20, 0), (9, .putfield 9, 4, 0), (12, .aload_n 0, 0, 0), (13, .bipush 12, 0, 0), (15, .newarray .int, 20, 0), (17, .putfield 15, 4, 1), (20, .aload_n 0, 0, 0), (21, .bipush 12, 0, 0), (23, .newarray .int, 20, 0), (25, .putfield 18, 4, 2), (28, .aload_n 0, 0, 0), (29, .bipush 12, 0, 0), (31, .newarray .int, 20, 0), (33, .putfield 21, 4, 3), (36, .return_, 0, 0)]
/-- 5: CeilingKernel$Machine.<init>([LCeilingKernel$Task;LCeilingKernel$Figures;)V -/
def mj_tb5 : List (Nat × Instr × Nat × Nat) := [(0, .aload_n 0, 0, 0), (1, .invokespecial 3, 1000, 0), (4, .aload_n 0, 0, 0), (5, .iconst 5, 0, 0), (6, .anewarray 9, 24, 0), (9, .putfield 11, 5, 1), (12, .aload_n 0, 0, 0), (13, .iconst 2, 0, 0), (14, .newarray .int, 20, 0), (16, .putfield 17, 5, 2), (19, .aload_n 0, 0, 0), (20, .new 21, 7, 0), (23, .dup, 0, 0), (24, .invokespecial 23, 6, 0), (27, .putfield 24, 5, 3), (30, .aload_n 0, 0, 0), (31, .iconst 2, 0, 0), (32, .anewarray 28, 25, 0), (35, .putfield 30, 5, 5), (38, .aload_n 0, 0, 0), (39, .aload_n 2, 0, 0), (40, .putfield 34, 5, 4), (43, .iconst 0, 0, 0), (44, .istore_n 3, 0, 0), (45, .iload_n 3, 0, 0), (46, .iconst 5, 0, 0), (47, .if_icmp .ge 25, 0, 0), (50, .aload_n 0, 0, 0), (51, .getfield 11, 5, 1), (54, .iload_n 3, 0, 0), (55, .new 9, 8, 0), (58, .dup, 0, 0), (59, .aload_n 1, 0, 0), (60, .iload_n 3, 0, 0), (61, .aaload, 0, 0), (62, .invokespecial 38, 7, 1), (65, .aastore, 0, 0), (66, .iinc 3 1, 0, 0), (69, .goto (-24), 0, 0), (72, .iconst 0, 0, 0), (73, .istore_n 3, 0, 0), (74, .iload_n 3, 0, 0), (75, .iconst 2, 0, 0), (76, .if_icmp .ge 22, 0, 0), (79, .aload_n 0, 0, 0), (80, .getfield 30, 5, 5), (83, .iload_n 3, 0, 0), (84, .new 28, 9, 0), (87, .dup, 0, 0), (88, .invokespecial 41, 9, 0), (91, .aastore, 0, 0), (92, .iinc 3 1, 0, 0), (95, .goto (-21), 0, 0), (98, .return_, 0, 0)]
/-- 6: CeilingKernel$Journal.<init>()V -/
def mj_tb6 : List (Nat × Instr × Nat × Nat) := [(0, .aload_n 0, 0, 0), (1, .invokespecial 3, 1000, 0), (4, .aload_n 0, 0, 0), (5, .bipush 32, 0, 0), (7, .newarray .int, 20, 0), (9, .putfield 9, 7, 1), (12, .aload_n 0, 0, 0), (13, .bipush 32, 0, 0), (15, .newarray .int, 20, 0), (17, .putfield 15, 7, 2), (20, .aload_n 0, 0, 0), (21, .bipush 32, 0, 0), (23, .newarray .int, 20, 0), (25, .putfield 18, 7, 3), (28, .aload_n 0, 0, 0), (29, .bipush 32, 0, 0), (31, .newarray .int, 20, 0), (33, .putfield 21, 7, 4), (36, .return_, 0, 0)]
/-- 7: CeilingKernel$Post.<init>(LCeilingKernel$Task;)V -/
def mj_tb7 : List (Nat × Instr × Nat × Nat) := [(0, .aload_n 0, 0, 0), (1, .invokespecial 3, 1000, 0), (4, .aload_n 0, 0, 0), (5, .bipush 8, 0, 0), (7, .newarray .int, 20, 0), (9, .putfield 9, 8, 2), (12, .aload_n 0, 0, 0), (13, .aload_n 1, 0, 0), (14, .putfield 15, 8, 0), (17, .aload_n 0, 0, 0), (18, .new 19, 6, 0), (21, .dup, 0, 0), (22, .aload_n 1, 0, 0), (23, .getfield 21, 3, 0), (26, .invokespecial 27, 8, 1), (29, .putfield 30, 8, 1), (32, .return_, 0, 0)]
/-- 8: CeilingKernel$Job.<init>([LCeilingKernel$Routine;)V -/
def mj_tb8 : List (Nat × Instr × Nat × Nat) := [(0, .aload_n 0, 0, 0), (1, .invokespecial 3, 1000, 0), (4, .aload_n 0, 0, 0), (5, .iconst 4, 0, 0), (6, .newarray .int, 20, 0), (8, .putfield 9, 6, 8), (11, .aload_n 0, 0, 0), (12, .iconst 3, 0, 0), (13, .newarray .int, 20, 0), (15, .putfield 15, 6, 13), (18, .aload_n 0, 0, 0), (19, .iconst 3, 0, 0), (20, .newarray .int, 20, 0), (22, .putfield 18, 6, 14), (25, .aload_n 0, 0, 0), (26, .iconst 3, 0, 0), (27, .bipush 12, 0, 0), (29, .multianewarray 21 2, 26, 2), (33, .putfield 23, 6, 15), (36, .aload_n 0, 0, 0), (37, .aload_n 1, 0, 0), (38, .putfield 26, 6, 9), (41, .return_, 0, 0)]
/-- 9: CeilingKernel$Mailbox.<init>()V -/
def mj_tb9 : List (Nat × Instr × Nat × Nat) := [(0, .aload_n 0, 0, 0), (1, .invokespecial 3, 1000, 0), (4, .aload_n 0, 0, 0), (5, .iconst 3, 0, 0), (6, .newarray .int, 20, 0), (8, .putfield 9, 9, 0), (11, .return_, 0, 0)]
/-- 10: CeilingKernel.task(III)I -/
def mj_tb10 : List (Nat × Instr × Nat × Nat) := [(0, .iload_n 1, 0, 0), (1, .iconst 1, 0, 0), (2, .sipush 5000, 0, 0), (5, .invokestatic 39, 11, 3), (8, .ifCond .eq 27, 0, 0), (11, .iload_n 2, 0, 0), (12, .iconst 1, 0, 0), (13, .iload_n 1, 0, 0), (14, .invokestatic 39, 11, 3), (17, .ifCond .eq 18, 0, 0), (20, .iload_n 3, 0, 0), (21, .iconst (-1), 0, 0), (22, .sipush 5000, 0, 0), (25, .invokestatic 39, 11, 3), (28, .ifCond .eq 7, 0, 0), (31, .iconst 1, 0, 0), (32, .goto 4, 0, 0), (35, .iconst 0, 0, 0), (36, .istore 4, 0, 0), (38, .aload_n 0, 0, 0), (39, .getfield 35, 0, 3), (42, .getfield 43, 5, 0), (45, .ifCond .ne 16, 0, 0), (48, .aload_n 0, 0, 0), (49, .getfield 47, 0, 4), (52, .iconst 5, 0, 0), (53, .if_icmp .ge 8, 0, 0), (56, .iload 4, 0, 0), (58, .ifCond .ne 5, 0, 0), (61, .iconst (-1), 0, 0), (62, .ireturn, 0, 0), (63, .aload_n 0, 0, 0), (64, .getfield 11, 0, 0), (67, .aload_n 0, 0, 0), (68, .getfield 47, 0, 4), (71, .aaload, 0, 0), (72, .iload_n 1, 0, 0), (73, .iload_n 2, 0, 0), (74, .iload_n 3, 0, 0), (75, .invokevirtual 51, 12, 3), (78, .aload_n 0, 0, 0), (79, .getfield 25, 0, 2), (82, .iconst 0, 0, 0), (83, .putfield 55, 2, 0), (86, .aload_n 0, 0, 0), (87, .dup, 0, 0), (88, .getfield 47, 0, 4), (91, .iconst 1, 0, 0), (92, .iadd, 0, 0), (93, .putfield 47, 0, 4), (96, .aload_n 0, 0, 0), (97, .getfield 47, 0, 4), (100, .iconst 1, 0, 0), (101, .isub, 0, 0), (102, .ireturn, 0, 0)]
/-- 11: CeilingKernel.isWithin(III)Z -/
def mj_tb11 : List (Nat × Instr × Nat × Nat) := [(0, .iload_n 0, 0, 0), (1, .iload_n 1, 0, 0), (2, .if_icmp .lt 12, 0, 0), (5, .iload_n 0, 0, 0), (6, .iload_n 2, 0, 0), (7, .if_icmp .gt 7, 0, 0), (10, .iconst 1, 0, 0), (11, .goto 4, 0, 0), (14, .iconst 0, 0, 0), (15, .ireturn, 0, 0)]
/-- 12: CeilingKernel$Task.make(III)V -/
def mj_tb12 : List (Nat × Instr × Nat × Nat) := [(0, .aload_n 0, 0, 0), (1, .iload_n 1, 0, 0), (2, .putfield 18, 3, 1), (5, .aload_n 0, 0, 0), (6, .iload_n 2, 0, 0), (7, .putfield 22, 3, 2), (10, .aload_n 0, 0, 0), (11, .iload_n 3, 0, 0), (12, .putfield 25, 3, 3), (15, .return_, 0, 0)]
/-- 13: CeilingKernel.code(IIIII)Z -/
def mj_tb13 : List (Nat × Instr × Nat × Nat) := [(0, .aload_n 0, 0, 0), (1, .getfield 35, 0, 3), (4, .getfield 43, 5, 0), (7, .ifCond .ne 30, 0, 0), (10, .aload_n 0, 0, 0), (11, .iload_n 1, 0, 0), (12, .invokevirtual 58, 14, 1), (15, .ifCond .eq 22, 0, 0), (18, .iload_n 2, 0, 0), (19, .iconst 3, 0, 0), (20, .invokestatic 62, 15, 2), (23, .ifCond .eq 14, 0, 0), (26, .iload_n 3, 0, 0), (27, .iload 4, 0, 0), (29, .iload 5, 0, 0), (31, .invokestatic 66, 16, 3), (34, .ifCond .ne 5, 0, 0), (37, .iconst 0, 0, 0), (38, .ireturn, 0, 0), (39, .aload_n 0, 0, 0), (40, .getfield 11, 0, 0), (43, .iload_n 1, 0, 0), (44, .aaload, 0, 0), (45, .getfield 69, 3, 0), (48, .iload_n 2, 0, 0), (49, .aaload, 0, 0), (50, .iload_n 3, 0, 0), (51, .iload 4, 0, 0), (53, .iload 5, 0, 0), (55, .invokevirtual 73, 17, 3), (58, .ifCond .ne 5, 0, 0), (61, .iconst 0, 0, 0), (62, .ireturn, 0, 0), (63, .aload_n 0, 0, 0), (64, .getfield 25, 0, 2), (67, .iconst 0, 0, 0), (68, .putfield 55, 2, 0), (71, .iconst 1, 0, 0), (72, .ireturn, 0, 0)]
/-- 14: CeilingKernel.isTask(I)Z -/
def mj_tb14 : List (Nat × Instr × Nat × Nat) := [(0, .iload_n 1, 0, 0), (1, .aload_n 0, 0, 0), (2, .getfield 47, 0, 4), (5, .invokestatic 62, 15, 2), (8, .ireturn, 0, 0)]
/-- 15: CeilingKernel.isBelow(II)Z -/
def mj_tb15 : List (Nat × Instr × Nat × Nat) := [(0, .iload_n 0, 0, 0), (1, .ifCond .lt 12, 0, 0), (4, .iload_n 0, 0, 0), (5, .iload_n 1, 0, 0), (6, .if_icmp .ge 7, 0, 0), (9, .iconst 1, 0, 0), (10, .goto 4, 0, 0), (13, .iconst 0, 0, 0), (14, .ireturn, 0, 0)]
/-- 16: CeilingKernel.isInstruction(III)Z -/
def mj_tb16 : List (Nat × Instr × Nat × Nat) := [(0, .iload_n 0, 0, 0), (1, .getstatic 157, 1, 0), (4, .arraylength, 0, 0), (5, .invokestatic 62, 15, 2), (8, .ifCond .eq 37, 0, 0), (11, .iload_n 1, 0, 0), (12, .iconst 0, 0, 0), (13, .getstatic 160, 2, 0), (16, .iload_n 0, 0, 0), (17, .iaload, 0, 0), (18, .invokestatic 39, 11, 3), (21, .ifCond .eq 24, 0, 0), (24, .iload_n 2, 0, 0), (25, .getstatic 163, 3, 0), (28, .iload_n 0, 0, 0), (29, .iaload, 0, 0), (30, .getstatic 166, 4, 0), (33, .iload_n 0, 0, 0), (34, .iaload, 0, 0), (35, .invokestatic 39, 11, 3), (38, .ifCond .eq 7, 0, 0), (41, .iconst 1, 0, 0), (42, .goto 4, 0, 0), (45, .iconst 0, 0, 0), (46, .ireturn, 0, 0)]
/-- 17: CeilingKernel$Routine.append(III)Z -/
def mj_tb17 : List (Nat × Instr × Nat × Nat) := [(0, .aload_n 0, 0, 0), (1, .getfield 24, 4, 4), (4, .bipush 12, 0, 0), (6, .if_icmp .lt 5, 0, 0), (9, .iconst 0, 0, 0), (10, .ireturn, 0, 0), (11, .aload_n 0, 0, 0), (12, .getfield 9, 4, 0), (15, .aload_n 0, 0, 0), (16, .getfield 24, 4, 4), (19, .iload_n 1, 0, 0), (20, .iastore, 0, 0), (21, .aload_n 0, 0, 0), (22, .getfield 15, 4, 1), (25, .aload_n 0, 0, 0), (26, .getfield 24, 4, 4), (29, .iload_n 2, 0, 0), (30, .iastore, 0, 0), (31, .aload_n 0, 0, 0), (32, .getfield 18, 4, 2), (35, .aload_n 0, 0, 0), (36, .getfield 24, 4, 4), (39, .iload_n 3, 0, 0), (40, .iastore, 0, 0), (41, .aload_n 0, 0, 0), (42, .dup, 0, 0), (43, .getfield 24, 4, 4), (46, .iconst 1, 0, 0), (47, .iadd, 0, 0), (48, .putfield 24, 4, 4), (51, .iconst 1, 0, 0), (52, .ireturn, 0, 0)]
/-- 18: CeilingKernel.wipe(I)Z -/
def mj_tb18 : List (Nat × Instr × Nat × Nat) := [(0, .aload_n 0, 0, 0), (1, .getfield 35, 0, 3), (4, .getfield 43, 5, 0), (7, .ifCond .ne 11, 0, 0), (10, .aload_n 0, 0, 0), (11, .iload_n 1, 0, 0), (12, .invokevirtual 58, 14, 1), (15, .ifCond .ne 5, 0, 0), (18, .iconst 0, 0, 0), (19, .ireturn, 0, 0), (20, .aload_n 0, 0, 0), (21, .getfield 11, 0, 0), (24, .iload_n 1, 0, 0), (25, .aaload, 0, 0), (26, .invokevirtual 78, 19, 0), (29, .aload_n 0, 0, 0), (30, .getfield 25, 0, 2), (33, .iconst 0, 0, 0), (34, .putfield 55, 2, 0), (37, .iconst 1, 0, 0), (38, .ireturn, 0, 0)]
/-- 19: CeilingKernel$Task.clearImage()V -/
def mj_tb19 : List (Nat × Instr × Nat × Nat) := [(0, .iconst 0, 0, 0), (1, .istore_n 1, 0, 0), (2, .iload_n 1, 0, 0), (3, .iconst 3, 0, 0), (4, .if_icmp .ge 19, 0, 0), (7, .aload_n 0, 0, 0), (8, .getfield 11, 3, 0), (11, .iload_n 1, 0, 0), (12, .aaload, 0, 0), (13, .iconst 0, 0, 0), (14, .putfield 28, 4, 4), (17, .iinc 1 1, 0, 0), (20, .goto (-18), 0, 0), (23, .return_, 0, 0)]
/-- 20: CeilingKernel.admit()I -/
def mj_tb20 : List (Nat × Instr × Nat × Nat) := [(0, .aload_n 0, 0, 0), (1, .getfield 35, 0, 3), (4, .getfield 43, 5, 0), (7, .ifCond .eq 5, 0, 0), (10, .iconst (-1), 0, 0), (11, .ireturn, 0, 0), (12, .aload_n 0, 0, 0), (13, .getfield 25, 0, 2), (16, .iconst 0, 0, 0), (17, .putfield 55, 2, 0), (20, .aload_n 0, 0, 0), (21, .getfield 18, 0, 1), (24, .iconst (-1), 0, 0), (25, .putfield 81, 1, 0), (28, .aload_n 0, 0, 0), (29, .getfield 47, 0, 4), (32, .ifCond .ne 6, 0, 0), (35, .bipush 9, 0, 0), (37, .ireturn, 0, 0), (38, .iconst 0, 0, 0), (39, .istore_n 1, 0, 0), (40, .iload_n 1, 0, 0), (41, .aload_n 0, 0, 0), (42, .getfield 47, 0, 4), (45, .if_icmp .ge 37, 0, 0), (48, .aload_n 0, 0, 0), (49, .getfield 18, 0, 1), (52, .aload_n 0, 0, 0), (53, .getfield 11, 0, 0), (56, .iload_n 1, 0, 0), (57, .aaload, 0, 0), (58, .getfield 69, 3, 0), (61, .invokevirtual 84, 21, 1), (64, .istore_n 2, 0, 0), (65, .iload_n 2, 0, 0), (66, .ifCond .eq 10, 0, 0), (69, .iload_n 2, 0, 0), (70, .bipush 10, 0, 0), (72, .iload_n 1, 0, 0), (73, .imul, 0, 0), (74, .iadd, 0, 0), (75, .ireturn, 0, 0), (76, .iinc 1 1, 0, 0), (79, .goto (-39), 0, 0), (82, .aload_n 0, 0, 0), (83, .getfield 25, 0, 2), (86, .aload_n 0, 0, 0), (87, .getfield 11, 0, 0), (90, .aload_n 0, 0, 0), (91, .getfield 47, 0, 4), (94, .invokevirtual 88, 35, 2), (97, .istore_n 1, 0, 0), (98, .iload_n 1, 0, 0), (99, .iconst (-1), 0, 0), (100, .if_icmp .ne 7, 0, 0), (103, .iconst 0, 0, 0), (104, .goto 10, 0, 0), (107, .bipush 8, 0, 0), (109, .bipush 10, 0, 0), (111, .iload_n 1, 0, 0), (112, .imul, 0, 0), (113, .iadd, 0, 0), (114, .ireturn, 0, 0)]
/-- 21: CeilingKernel$Checker.reasonAgainst([LCeilingKernel$Routine;)I -/
def mj_tb21 : List (Nat × Instr × Nat × Nat) := [(0, .aload_n 0, 0, 0), (1, .aload_n 1, 0, 0), (2, .invokevirtual 19, 22, 1), (5, .iconst 0, 0, 0), (6, .istore_n 2, 0, 0), (7, .iload_n 2, 0, 0), (8, .iconst 3, 0, 0), (9, .if_icmp .ge 22, 0, 0), (12, .aload_n 0, 0, 0), (13, .aload_n 1, 0, 0), (14, .iload_n 2, 0, 0), (15, .invokevirtual 23, 23, 2), (18, .istore_n 3, 0, 0), (19, .iload_n 3, 0, 0), (20, .ifCond .eq 5, 0, 0), (23, .iload_n 3, 0, 0), (24, .ireturn, 0, 0), (25, .iinc 2 1, 0, 0), (28, .goto (-21), 0, 0), (31, .iconst 0, 0, 0), (32, .ireturn, 0, 0)]
/-- 22: CeilingKernel$Checker.findLocks([LCeilingKernel$Routine;)V -/
def mj_tb22 : List (Nat × Instr × Nat × Nat) := [(0, .iconst 2, 0, 0), (1, .istore_n 2, 0, 0), (2, .iload_n 2, 0, 0), (3, .ifCond .lt 107, 0, 0), (6, .aload_n 1, 0, 0), (7, .iload_n 2, 0, 0), (8, .aaload, 0, 0), (9, .astore_n 3, 0, 0), (10, .aload_n 3, 0, 0), (11, .iconst 0, 0, 0), (12, .putfield 27, 4, 5), (15, .iconst 0, 0, 0), (16, .istore 4, 0, 0), (18, .iload 4, 0, 0), (20, .aload_n 3, 0, 0), (21, .getfield 32, 4, 4), (24, .if_icmp .ge 80, 0, 0), (27, .aload_n 3, 0, 0), (28, .getfield 35, 4, 2), (31, .iload 4, 0, 0), (33, .iaload, 0, 0), (34, .istore 5, 0, 0), (36, .aload_n 3, 0, 0), (37, .getfield 38, 4, 0), (40, .iload 4, 0, 0), (42, .iaload, 0, 0), (43, .bipush 8, 0, 0), (45, .if_icmp .ne 19, 0, 0), (48, .aload_n 3, 0, 0), (49, .dup, 0, 0), (50, .getfield 27, 4, 5), (53, .iconst 1, 0, 0), (54, .iload 5, 0, 0), (56, .ishl, 0, 0), (57, .ior, 0, 0), (58, .putfield 27, 4, 5), (61, .goto 37, 0, 0), (64, .aload_n 3, 0, 0), (65, .getfield 38, 4, 0), (68, .iload 4, 0, 0), (70, .iaload, 0, 0), (71, .bipush 10, 0, 0), (73, .if_icmp .ne 25, 0, 0), (76, .iload 5, 0, 0), (78, .iload_n 2, 0, 0), (79, .if_icmp .le 19, 0, 0), (82, .aload_n 3, 0, 0), (83, .dup, 0, 0), (84, .getfield 27, 4, 5), (87, .aload_n 1, 0, 0), (88, .iload 5, 0, 0), (90, .aaload, 0, 0), (91, .getfield 27, 4, 5), (94, .ior, 0, 0), (95, .putfield 27, 4, 5), (98, .iinc 4 1, 0, 0), (101, .goto (-83), 0, 0), (104, .iinc 2 (-1), 0, 0), (107, .goto (-105), 0, 0), (110, .return_, 0, 0)]
/-- 23: CeilingKernel$Checker.checkRoutine([LCeilingKernel$Routine;I)I -/
def mj_tb23 : List (Nat × Instr × Nat × Nat) := [(0, .aload_n 1, 0, 0), (1, .iload_n 2, 0, 0), (2, .aaload, 0, 0), (3, .astore_n 3, 0, 0), (4, .aload_n 0, 0, 0), (5, .iconst 0, 0, 0), (6, .putfield 41, 1, 2), (9, .aload_n 0, 0, 0), (10, .iconst 0, 0, 0), (11, .putfield 44, 1, 3), (14, .aload_n 0, 0, 0), (15, .iconst 0, 0, 0), (16, .putfield 47, 1, 4), (19, .iload_n 2, 0, 0), (20, .ifCond .ne 18, 0, 0), (23, .aload_n 3, 0, 0), (24, .getfield 32, 4, 4), (27, .ifCond .ne 11, 0, 0), (30, .aload_n 0, 0, 0), (31, .iconst 1, 0, 0), (32, .iload_n 2, 0, 0), (33, .iconst 0, 0, 0), (34, .invokevirtual 50, 24, 3), (37, .ireturn, 0, 0), (38, .iconst 0, 0, 0), (39, .istore 4, 0, 0), (41, .iload 4, 0, 0), (43, .aload_n 3, 0, 0), (44, .getfield 32, 4, 4), (47, .if_icmp .ge 34, 0, 0), (50, .aload_n 0, 0, 0), (51, .aload_n 1, 0, 0), (52, .iload_n 2, 0, 0), (53, .iload 4, 0, 0), (55, .invokevirtual 54, 25, 3), (58, .istore 5, 0, 0), (60, .iload 5, 0, 0), (62, .ifCond .eq 13, 0, 0), (65, .aload_n 0, 0, 0), (66, .iload 5, 0, 0), (68, .iload_n 2, 0, 0), (69, .iload 4, 0, 0), (71, .invokevirtual 50, 24, 3), (74, .ireturn, 0, 0), (75, .iinc 4 1, 0, 0), (78, .goto (-37), 0, 0), (81, .aload_n 0, 0, 0), (82, .getfield 41, 1, 2), (85, .ifCond .le 17, 0, 0), (88, .aload_n 0, 0, 0), (89, .bipush 7, 0, 0), (91, .iload_n 2, 0, 0), (92, .aload_n 3, 0, 0), (93, .getfield 32, 4, 4), (96, .invokevirtual 50, 24, 3), (99, .goto 4, 0, 0), (102, .iconst 0, 0, 0), (103, .ireturn, 0, 0)]
/-- 24: CeilingKernel$Checker.meet(III)I -/
def mj_tb24 : List (Nat × Instr × Nat × Nat) := [(0, .aload_n 0, 0, 0), (1, .bipush 100, 0, 0), (3, .iload_n 2, 0, 0), (4, .imul, 0, 0), (5, .iload_n 3, 0, 0), (6, .iadd, 0, 0), (7, .putfield 9, 1, 0), (10, .iload_n 1, 0, 0), (11, .ireturn, 0, 0)]
/-- 25: CeilingKernel$Checker.checkInstruction([LCeilingKernel$Routine;II)I -/
def mj_tb25 : List (Nat × Instr × Nat × Nat) := [(0, .aload_n 1, 0, 0), (1, .iload_n 2, 0, 0), (2, .aaload, 0, 0), (3, .astore 4, 0, 0), (5, .aload 4, 0, 0), (7, .getfield 38, 4, 0), (10, .iload_n 3, 0, 0), (11, .iaload, 0, 0), (12, .tableswitch 103 5 10 #[95, 40, 61, 46, 71, 81], 0, 0), (52, .aload_n 0, 0, 0), (53, .iload_n 3, 0, 0), (54, .invokevirtual 58, 26, 1), (57, .ireturn, 0, 0), (58, .aload_n 0, 0, 0), (59, .iload_n 3, 0, 0), (60, .iconst 1, 0, 0), (61, .aload 4, 0, 0), (63, .getfield 35, 4, 2), (66, .iload_n 3, 0, 0), (67, .iaload, 0, 0), (68, .ishl, 0, 0), (69, .invokevirtual 62, 28, 2), (72, .ireturn, 0, 0), (73, .aload_n 0, 0, 0), (74, .aload 4, 0, 0), (76, .iload_n 3, 0, 0), (77, .bipush 6, 0, 0), (79, .invokevirtual 66, 29, 3), (82, .ireturn, 0, 0), (83, .aload_n 0, 0, 0), (84, .aload 4, 0, 0), (86, .iload_n 3, 0, 0), (87, .bipush 8, 0, 0), (89, .invokevirtual 66, 29, 3), (92, .ireturn, 0, 0), (93, .aload_n 0, 0, 0), (94, .aload_n 1, 0, 0), (95, .iload_n 2, 0, 0), (96, .aload 4, 0, 0), (98, .getfield 35, 4, 2), (101, .iload_n 3, 0, 0), (102, .iaload, 0, 0), (103, .invokevirtual 70, 32, 3), (106, .ireturn, 0, 0), (107, .aload_n 0, 0, 0), (108, .aload 4, 0, 0), (110, .iload_n 3, 0, 0), (111, .invokevirtual 73, 33, 2), (114, .ireturn, 0, 0), (115, .iconst 0, 0, 0), (116, .ireturn, 0, 0)]
/-- 26: CeilingKernel$Checker.openLoop(I)I -/
def mj_tb26 : List (Nat × Instr × Nat × Nat) := [(0, .aload_n 0, 0, 0), (1, .getfield 44, 1, 3), (4, .iconst 2, 0, 0), (5, .if_icmp .lt 5, 0, 0), (8, .iconst 3, 0, 0), (9, .ireturn, 0, 0), (10, .aload_n 0, 0, 0), (11, .dup, 0, 0), (12, .getfield 44, 1, 3), (15, .iconst 1, 0, 0), (16, .iadd, 0, 0), (17, .putfield 44, 1, 3), (20, .aload_n 0, 0, 0), (21, .iload_n 1, 0, 0), (22, .invokevirtual 77, 27, 1), (25, .ireturn, 0, 0)]
/-- 27: CeilingKernel$Checker.openBracket(I)I -/
def mj_tb27 : List (Nat × Instr × Nat × Nat) := [(0, .aload_n 0, 0, 0), (1, .getfield 15, 1, 1), (4, .aload_n 0, 0, 0), (5, .getfield 41, 1, 2), (8, .iload_n 1, 0, 0), (9, .iastore, 0, 0), (10, .aload_n 0, 0, 0), (11, .dup, 0, 0), (12, .getfield 41, 1, 2), (15, .iconst 1, 0, 0), (16, .iadd, 0, 0), (17, .putfield 41, 1, 2), (20, .iconst 0, 0, 0), (21, .ireturn, 0, 0)]
/-- 28: CeilingKernel$Checker.openLock(II)I -/
def mj_tb28 : List (Nat × Instr × Nat × Nat) := [(0, .aload_n 0, 0, 0), (1, .getfield 47, 1, 4), (4, .iload_n 2, 0, 0), (5, .iand, 0, 0), (6, .ifCond .eq 5, 0, 0), (9, .iconst 5, 0, 0), (10, .ireturn, 0, 0), (11, .aload_n 0, 0, 0), (12, .dup, 0, 0), (13, .getfield 47, 1, 4), (16, .iload_n 2, 0, 0), (17, .ior, 0, 0), (18, .putfield 47, 1, 4), (21, .aload_n 0, 0, 0), (22, .iload_n 1, 0, 0), (23, .invokevirtual 77, 27, 1), (26, .ireturn, 0, 0)]
/-- 29: CeilingKernel$Checker.close(LCeilingKernel$Routine;II)I -/
def mj_tb29 : List (Nat × Instr × Nat × Nat) := [(0, .aload_n 0, 0, 0), (1, .getfield 41, 1, 2), (4, .ifCond .eq 23, 0, 0), (7, .aload_n 1, 0, 0), (8, .getfield 38, 4, 0), (11, .aload_n 0, 0, 0), (12, .getfield 15, 1, 1), (15, .aload_n 0, 0, 0), (16, .getfield 41, 1, 2), (19, .iconst 1, 0, 0), (20, .isub, 0, 0), (21, .iaload, 0, 0), (22, .iaload, 0, 0), (23, .iload_n 3, 0, 0), (24, .if_icmp .eq 5, 0, 0), (27, .iconst 2, 0, 0), (28, .ireturn, 0, 0), (29, .aload_n 0, 0, 0), (30, .dup, 0, 0), (31, .getfield 41, 1, 2), (34, .iconst 1, 0, 0), (35, .isub, 0, 0), (36, .putfield 41, 1, 2), (39, .aload_n 1, 0, 0), (40, .aload_n 0, 0, 0), (41, .getfield 15, 1, 1), (44, .aload_n 0, 0, 0), (45, .getfield 41, 1, 2), (48, .iaload, 0, 0), (49, .iload_n 2, 0, 0), (50, .invokevirtual 80, 30, 2), (53, .iload_n 3, 0, 0), (54, .bipush 6, 0, 0), (56, .if_icmp .ne 16, 0, 0), (59, .aload_n 0, 0, 0), (60, .dup, 0, 0), (61, .getfield 44, 1, 3), (64, .iconst 1, 0, 0), (65, .isub, 0, 0), (66, .putfield 44, 1, 3), (69, .goto 21, 0, 0), (72, .aload_n 0, 0, 0), (73, .dup, 0, 0), (74, .getfield 47, 1, 4), (77, .iconst 1, 0, 0), (78, .aload_n 1, 0, 0), (79, .iload_n 2, 0, 0), (80, .invokevirtual 84, 31, 1), (83, .ishl, 0, 0), (84, .iconst (-1), 0, 0), (85, .ixor, 0, 0), (86, .iand, 0, 0), (87, .putfield 47, 1, 4), (90, .iconst 0, 0, 0), (91, .ireturn, 0, 0)]
/-- 30: CeilingKernel$Routine.join(II)V -/
def mj_tb30 : List (Nat × Instr × Nat × Nat) := [(0, .aload_n 0, 0, 0), (1, .getfield 21, 4, 3), (4, .iload_n 1, 0, 0), (5, .iload_n 2, 0, 0), (6, .iastore, 0, 0), (7, .aload_n 0, 0, 0), (8, .getfield 21, 4, 3), (11, .iload_n 2, 0, 0), (12, .iload_n 1, 0, 0), (13, .iastore, 0, 0), (14, .return_, 0, 0)]
/-- 31: CeilingKernel$Routine.openerY(I)I -/
def mj_tb31 : List (Nat × Instr × Nat × Nat) := [(0, .aload_n 0, 0, 0), (1, .getfield 18, 4, 2), (4, .aload_n 0, 0, 0), (5, .getfield 21, 4, 3), (8, .iload_n 1, 0, 0), (9, .iaload, 0, 0), (10, .iaload, 0, 0), (11, .ireturn, 0, 0)]
/-- 32: CeilingKernel$Checker.checkCall([LCeilingKernel$Routine;II)I -/
def mj_tb32 : List (Nat × Instr × Nat × Nat) := [(0, .iload_n 3, 0, 0), (1, .iload_n 2, 0, 0), (2, .if_icmp .le 12, 0, 0), (5, .aload_n 1, 0, 0), (6, .iload_n 3, 0, 0), (7, .aaload, 0, 0), (8, .getfield 32, 4, 4), (11, .ifCond .ne 5, 0, 0), (14, .iconst 4, 0, 0), (15, .ireturn, 0, 0), (16, .aload_n 1, 0, 0), (17, .iload_n 3, 0, 0), (18, .aaload, 0, 0), (19, .getfield 27, 4, 5), (22, .aload_n 0, 0, 0), (23, .getfield 47, 1, 4), (26, .iand, 0, 0), (27, .ifCond .eq 7, 0, 0), (30, .iconst 5, 0, 0), (31, .goto 4, 0, 0), (34, .iconst 0, 0, 0), (35, .ireturn, 0, 0)]
/-- 33: CeilingKernel$Checker.checkJump(LCeilingKernel$Routine;I)I -/
def mj_tb33 : List (Nat × Instr × Nat × Nat) := [(0, .iload_n 2, 0, 0), (1, .aload_n 1, 0, 0), (2, .getfield 35, 4, 2), (5, .iload_n 2, 0, 0), (6, .iaload, 0, 0), (7, .iadd, 0, 0), (8, .iconst 1, 0, 0), (9, .iadd, 0, 0), (10, .istore_n 3, 0, 0), (11, .iload_n 3, 0, 0), (12, .aload_n 1, 0, 0), (13, .getfield 32, 4, 4), (16, .if_icmp .le 6, 0, 0), (19, .bipush 6, 0, 0), (21, .ireturn, 0, 0), (22, .iconst 0, 0, 0), (23, .istore 4, 0, 0), (25, .iload_n 2, 0, 0), (26, .iconst 1, 0, 0), (27, .iadd, 0, 0), (28, .istore 5, 0, 0), (30, .iload 5, 0, 0), (32, .iload_n 3, 0, 0), (33, .if_icmp .ge 29, 0, 0), (36, .iload 4, 0, 0), (38, .ifCond .lt 24, 0, 0), (41, .iload 4, 0, 0), (43, .aload_n 1, 0, 0), (44, .getfield 38, 4, 0), (47, .iload 5, 0, 0), (49, .iaload, 0, 0), (50, .invokestatic 87, 34, 1), (53, .iadd, 0, 0), (54, .istore 4, 0, 0), (56, .iinc 5 1, 0, 0), (59, .goto (-29), 0, 0), (62, .iload 4, 0, 0), (64, .ifCond .eq 8, 0, 0), (67, .bipush 6, 0, 0), (69, .goto 4, 0, 0), (72, .iconst 0, 0, 0), (73, .ireturn, 0, 0)]
/-- 34: CeilingKernel$Checker.bracketStep(I)I -/
def mj_tb34 : List (Nat × Instr × Nat × Nat) := [(0, .iload_n 0, 0, 0), (1, .bipush 6, 0, 0), (3, .if_icmp .eq 9, 0, 0), (6, .iload_n 0, 0, 0), (7, .bipush 8, 0, 0), (9, .if_icmp .ne 5, 0, 0), (12, .iconst 1, 0, 0), (13, .ireturn, 0, 0), (14, .iload_n 0, 0, 0), (15, .bipush 7, 0, 0), (17, .if_icmp .eq 9, 0, 0), (20, .iload_n 0, 0, 0), (21, .bipush 9, 0, 0), (23, .if_icmp .ne 7, 0, 0), (26, .iconst (-1), 0, 0), (27, .goto 4, 0, 0), (30, .iconst 0, 0, 0), (31, .ireturn, 0, 0)]
/-- 35: CeilingKernel$Figures.workOut([LCeilingKernel$Task;I)I -/
def mj_tb35 : List (Nat × Instr × Nat × Nat) := [(0, .aload_n 0, 0, 0), (1, .getfield 26, 2, 5), (4, .iconst (-1), 0, 0), (5, .invokestatic 29, 36, 2), (8, .iconst 0, 0, 0), (9, .istore_n 3, 0, 0), (10, .iload_n 3, 0, 0), (11, .iload_n 2, 0, 0), (12, .if_icmp .ge 46, 0, 0), (15, .aload_n 1, 0, 0), (16, .iload_n 3, 0, 0), (17, .aaload, 0, 0), (18, .getfield 35, 3, 0), (21, .invokestatic 41, 37, 1), (24, .aload_n 0, 0, 0), (25, .getfield 9, 2, 1), (28, .iload_n 3, 0, 0), (29, .aload_n 1, 0, 0), (30, .iload_n 3, 0, 0), (31, .aaload, 0, 0), (32, .getfield 35, 3, 0), (35, .iconst 0, 0, 0), (36, .aaload, 0, 0), (37, .getfield 45, 4, 6), (40, .iastore, 0, 0), (41, .aload_n 0, 0, 0), (42, .aload_n 1, 0, 0), (43, .iload_n 3, 0, 0), (44, .aaload, 0, 0), (45, .getfield 35, 3, 0), (48, .iload_n 3, 0, 0), (49, .invokevirtual 51, 39, 2), (52, .iinc 3 1, 0, 0), (55, .goto (-45), 0, 0), (58, .iconst 0, 0, 0), (59, .istore_n 3, 0, 0), (60, .iload_n 3, 0, 0), (61, .iload_n 2, 0, 0), (62, .if_icmp .ge 21, 0, 0), (65, .aload_n 0, 0, 0), (66, .getfield 20, 2, 3), (69, .iload_n 3, 0, 0), (70, .aload_n 0, 0, 0), (71, .iload_n 3, 0, 0), (72, .iload_n 2, 0, 0), (73, .invokevirtual 55, 41, 2), (76, .iastore, 0, 0), (77, .iinc 3 1, 0, 0), (80, .goto (-20), 0, 0), (83, .aload_n 0, 0, 0), (84, .iconst 1, 0, 0), (85, .putfield 59, 2, 0), (88, .aload_n 0, 0, 0), (89, .aload_n 1, 0, 0), (90, .iload_n 2, 0, 0), (91, .invokevirtual 63, 42, 2), (94, .ireturn, 0, 0)]
/-- 36: java/util/Arrays.fill([II)V -/
def mj_tb36 : List (Nat × Instr × Nat × Nat) := [(0, .iconst 0, 0, 0), (1, .istore_n 2, 0, 0), (2, .aload_n 0, 0, 0), (3, .arraylength, 0, 0), (4, .istore_n 3, 0, 0), (5, .iload_n 2, 0, 0), (6, .iload_n 3, 0, 0), (7, .if_icmp .ge 13, 0, 0), (10, .aload_n 0, 0, 0), (11, .iload_n 2, 0, 0), (12, .iload_n 1, 0, 0), (13, .iastore, 0, 0), (14, .iinc 2 1, 0, 0), (17, .goto (-12), 0, 0), (20, .return_, 0, 0)]
/-- 37: CeilingKernel$Figures.costImage([LCeilingKernel$Routine;)V -/
def mj_tb37 : List (Nat × Instr × Nat × Nat) := [(0, .iconst 2, 0, 0), (1, .istore_n 1, 0, 0), (2, .iload_n 1, 0, 0), (3, .ifCond .lt 29, 0, 0), (6, .aload_n 0, 0, 0), (7, .iload_n 1, 0, 0), (8, .aaload, 0, 0), (9, .aload_n 0, 0, 0), (10, .aload_n 0, 0, 0), (11, .iload_n 1, 0, 0), (12, .aaload, 0, 0), (13, .iconst 0, 0, 0), (14, .aload_n 0, 0, 0), (15, .iload_n 1, 0, 0), (16, .aaload, 0, 0), (17, .getfield 67, 4, 4), (20, .invokestatic 70, 38, 4), (23, .putfield 45, 4, 6), (26, .iinc 1 (-1), 0, 0), (29, .goto (-27), 0, 0), (32, .return_, 0, 0)]
/-- 38: CeilingKernel$Figures.costOfSpan([LCeilingKernel$Routine;LCeilingKernel$Routine;II)I -/
def mj_tb38 : List (Nat × Instr × Nat × Nat) := [(0, .iconst 0, 0, 0), (1, .istore 4, 0, 0), (3, .iconst 1, 0, 0), (4, .istore 5, 0, 0), (6, .iload_n 2, 0, 0), (7, .istore 6, 0, 0), (9, .iload 6, 0, 0), (11, .iload_n 3, 0, 0), (12, .if_icmp .ge 106, 0, 0), (15, .aload_n 1, 0, 0), (16, .getfield 74, 4, 0), (19, .iload 6, 0, 0), (21, .iaload, 0, 0), (22, .istore 7, 0, 0), (24, .iload 4, 0, 0), (26, .iload 5, 0, 0), (28, .getstatic 77, 1, 0), (31, .iload 7, 0, 0), (33, .iaload, 0, 0), (34, .imul, 0, 0), (35, .iadd, 0, 0), (36, .istore 4, 0, 0), (38, .iload 7, 0, 0), (40, .bipush 6, 0, 0), (42, .if_icmp .ne 18, 0, 0), (45, .iload 5, 0, 0), (47, .aload_n 1, 0, 0), (48, .getfield 80, 4, 2), (51, .iload 6, 0, 0), (53, .iaload, 0, 0), (54, .imul, 0, 0), (55, .istore 5, 0, 0), (57, .goto 55, 0, 0), (60, .iload 7, 0, 0), (62, .bipush 7, 0, 0), (64, .if_icmp .ne 21, 0, 0), (67, .iload 5, 0, 0), (69, .iconst 1, 0, 0), (70, .aload_n 1, 0, 0), (71, .iload 6, 0, 0), (73, .invokevirtual 83, 31, 1), (76, .invokestatic 87, 1001, 2), (79, .idiv, 0, 0), (80, .istore 5, 0, 0), (82, .goto 30, 0, 0), (85, .iload 7, 0, 0), (87, .bipush 10, 0, 0), (89, .if_icmp .ne 23, 0, 0), (92, .iload 4, 0, 0), (94, .iload 5, 0, 0), (96, .aload_n 0, 0, 0), (97, .aload_n 1, 0, 0), (98, .getfield 80, 4, 2), (101, .iload 6, 0, 0), (103, .iaload, 0, 0), (104, .aaload, 0, 0), (105, .getfield 45, 4, 6), (108, .imul, 0, 0), (109, .iadd, 0, 0), (110, .istore 4, 0, 0), (112, .iinc 6 1, 0, 0), (115, .goto (-106), 0, 0), (118, .iload 4, 0, 0), (120, .ireturn, 0, 0)]
/-- 39: CeilingKernel$Figures.findSections([LCeilingKernel$Routine;I)V -/
def mj_tb39 : List (Nat × Instr × Nat × Nat) := [(0, .aload_n 0, 0, 0), (1, .getfield 17, 2, 2), (4, .iload_n 2, 0, 0), (5, .aaload, 0, 0), (6, .iconst 0, 0, 0), (7, .invokestatic 29, 36, 2), (10, .iconst 0, 0, 0), (11, .istore_n 3, 0, 0), (12, .iload_n 3, 0, 0), (13, .iconst 3, 0, 0), (14, .if_icmp .ge 83, 0, 0), (17, .aload_n 1, 0, 0), (18, .iload_n 3, 0, 0), (19, .aaload, 0, 0), (20, .astore 4, 0, 0), (22, .iconst 0, 0, 0), (23, .istore 5, 0, 0), (25, .iload 5, 0, 0), (27, .aload 4, 0, 0), (29, .getfield 67, 4, 4), (32, .if_icmp .ge 59, 0, 0), (35, .aload 4, 0, 0), (37, .getfield 74, 4, 0), (40, .iload 5, 0, 0), (42, .iaload, 0, 0), (43, .bipush 8, 0, 0), (45, .if_icmp .ne 40, 0, 0), (48, .aload_n 1, 0, 0), (49, .aload 4, 0, 0), (51, .iload 5, 0, 0), (53, .iconst 1, 0, 0), (54, .iadd, 0, 0), (55, .aload 4, 0, 0), (57, .getfield 92, 4, 3), (60, .iload 5, 0, 0), (62, .iaload, 0, 0), (63, .iconst 1, 0, 0), (64, .iadd, 0, 0), (65, .invokestatic 70, 38, 4), (68, .istore 6, 0, 0), (70, .aload_n 0, 0, 0), (71, .iload_n 2, 0, 0), (72, .aload 4, 0, 0), (74, .getfield 80, 4, 2), (77, .iload 5, 0, 0), (79, .iaload, 0, 0), (80, .iload 6, 0, 0), (82, .invokevirtual 95, 40, 3), (85, .iinc 5 1, 0, 0), (88, .goto (-63), 0, 0), (91, .iinc 3 1, 0, 0), (94, .goto (-82), 0, 0), (97, .return_, 0, 0)]
/-- 40: CeilingKernel$Figures.takeSection(III)V -/
def mj_tb40 : List (Nat × Instr × Nat × Nat) := [(0, .aload_n 0, 0, 0), (1, .getfield 17, 2, 2), (4, .iload_n 1, 0, 0), (5, .aaload, 0, 0), (6, .iload_n 2, 0, 0), (7, .aload_n 0, 0, 0), (8, .getfield 17, 2, 2), (11, .iload_n 1, 0, 0), (12, .aaload, 0, 0), (13, .iload_n 2, 0, 0), (14, .iaload, 0, 0), (15, .iload_n 3, 0, 0), (16, .invokestatic 87, 1001, 2), (19, .iastore, 0, 0), (20, .aload_n 0, 0, 0), (21, .getfield 26, 2, 5), (24, .iload_n 2, 0, 0), (25, .iaload, 0, 0), (26, .iconst (-1), 0, 0), (27, .if_icmp .ne 10, 0, 0), (30, .aload_n 0, 0, 0), (31, .getfield 26, 2, 5), (34, .iload_n 2, 0, 0), (35, .iload_n 1, 0, 0), (36, .iastore, 0, 0), (37, .return_, 0, 0)]
/-- 41: CeilingKernel$Figures.findBlocking(II)I -/
def mj_tb41 : List (Nat × Instr × Nat × Nat) := [(0, .iconst 0, 0, 0), (1, .istore_n 3, 0, 0), (2, .iconst 0, 0, 0), (3, .istore 4, 0, 0), (5, .iload 4, 0, 0), (7, .iconst 4, 0, 0), (8, .if_icmp .ge 56, 0, 0), (11, .aload_n 0, 0, 0), (12, .getfield 26, 2, 5), (15, .iload 4, 0, 0), (17, .iaload, 0, 0), (18, .iconst 0, 0, 0), (19, .iload_n 1, 0, 0), (20, .invokestatic 99, 11, 3), (23, .ifCond .eq 35, 0, 0), (26, .iload_n 1, 0, 0), (27, .iconst 1, 0, 0), (28, .iadd, 0, 0), (29, .istore 5, 0, 0), (31, .iload 5, 0, 0), (33, .iload_n 2, 0, 0), (34, .if_icmp .ge 24, 0, 0), (37, .iload_n 3, 0, 0), (38, .aload_n 0, 0, 0), (39, .getfield 17, 2, 2), (42, .iload 5, 0, 0), (44, .aaload, 0, 0), (45, .iload 4, 0, 0), (47, .iaload, 0, 0), (48, .invokestatic 87, 1001, 2), (51, .istore_n 3, 0, 0), (52, .iinc 5 1, 0, 0), (55, .goto (-24), 0, 0), (58, .iinc 4 1, 0, 0), (61, .goto (-56), 0, 0), (64, .iload_n 3, 0, 0), (65, .ifCond .ne 7, 0, 0), (68, .iconst 0, 0, 0), (69, .goto 6, 0, 0), (72, .iload_n 3, 0, 0), (73, .iconst 2, 0, 0), (74, .iadd, 0, 0), (75, .ireturn, 0, 0)]
/-- 42: CeilingKernel$Figures.findResponses([LCeilingKernel$Task;I)I -/
def mj_tb42 : List (Nat × Instr × Nat × Nat) := [(0, .aload_n 0, 0, 0), (1, .getfield 23, 2, 4), (4, .iconst (-1), 0, 0), (5, .invokestatic 29, 36, 2), (8, .iconst 0, 0, 0), (9, .istore_n 3, 0, 0), (10, .iload_n 3, 0, 0), (11, .iload_n 2, 0, 0), (12, .if_icmp .ge 33, 0, 0), (15, .aload_n 0, 0, 0), (16, .getfield 23, 2, 4), (19, .iload_n 3, 0, 0), (20, .aload_n 0, 0, 0), (21, .aload_n 1, 0, 0), (22, .iload_n 3, 0, 0), (23, .invokevirtual 103, 43, 2), (26, .iastore, 0, 0), (27, .aload_n 0, 0, 0), (28, .getfield 23, 2, 4), (31, .iload_n 3, 0, 0), (32, .iaload, 0, 0), (33, .iconst (-1), 0, 0), (34, .if_icmp .ne 5, 0, 0), (37, .iload_n 3, 0, 0), (38, .ireturn, 0, 0), (39, .iinc 3 1, 0, 0), (42, .goto (-32), 0, 0), (45, .iconst (-1), 0, 0), (46, .ireturn, 0, 0)]
/-- 43: CeilingKernel$Figures.findResponse([LCeilingKernel$Task;I)I -/
def mj_tb43 : List (Nat × Instr × Nat × Nat) := [(0, .aload_n 1, 0, 0), (1, .iload_n 2, 0, 0), (2, .aaload, 0, 0), (3, .getfield 106, 3, 2), (6, .istore_n 3, 0, 0), (7, .iconst 1, 0, 0), (8, .istore 4, 0, 0), (10, .iconst 0, 0, 0), (11, .istore 5, 0, 0), (13, .iload 5, 0, 0), (15, .iload_n 3, 0, 0), (16, .if_icmp .gt 41, 0, 0), (19, .aload_n 0, 0, 0), (20, .aload_n 1, 0, 0), (21, .iload_n 2, 0, 0), (22, .iload 4, 0, 0), (24, .invokevirtual 109, 44, 3), (27, .istore 6, 0, 0), (29, .iload 6, 0, 0), (31, .iload_n 3, 0, 0), (32, .if_icmp .le 5, 0, 0), (35, .iconst (-1), 0, 0), (36, .ireturn, 0, 0), (37, .iload 6, 0, 0), (39, .iload 4, 0, 0), (41, .if_icmp .ne 6, 0, 0), (44, .iload 4, 0, 0), (46, .ireturn, 0, 0), (47, .iload 6, 0, 0), (49, .istore 4, 0, 0), (51, .iinc 5 1, 0, 0), (54, .goto (-41), 0, 0), (57, .iconst (-1), 0, 0), (58, .ireturn, 0, 0)]
/-- 44: CeilingKernel$Figures.demandWithin([LCeilingKernel$Task;II)I -/
def mj_tb44 : List (Nat × Instr × Nat × Nat) := [(0, .aload_n 0, 0, 0), (1, .getfield 20, 2, 3), (4, .iload_n 2, 0, 0), (5, .iaload, 0, 0), (6, .aload_n 0, 0, 0), (7, .getfield 9, 2, 1), (10, .iload_n 2, 0, 0), (11, .iaload, 0, 0), (12, .iadd, 0, 0), (13, .iconst 2, 0, 0), (14, .iadd, 0, 0), (15, .istore 4, 0, 0), (17, .iconst 0, 0, 0), (18, .istore 5, 0, 0), (20, .iload 5, 0, 0), (22, .iload_n 2, 0, 0), (23, .if_icmp .ge 50, 0, 0), (26, .iconst 1, 0, 0), (27, .aload_n 1, 0, 0), (28, .iload 5, 0, 0), (30, .aaload, 0, 0), (31, .getfield 113, 3, 1), (34, .invokestatic 87, 1001, 2), (37, .istore 6, 0, 0), (39, .iload_n 3, 0, 0), (40, .iload 6, 0, 0), (42, .iadd, 0, 0), (43, .iconst 1, 0, 0), (44, .isub, 0, 0), (45, .iload 6, 0, 0), (47, .idiv, 0, 0), (48, .istore 7, 0, 0), (50, .iload 4, 0, 0), (52, .iload 7, 0, 0), (54, .aload_n 0, 0, 0), (55, .getfield 9, 2, 1), (58, .iload 5, 0, 0), (60, .iaload, 0, 0), (61, .iconst 4, 0, 0), (62, .iadd, 0, 0), (63, .imul, 0, 0), (64, .iadd, 0, 0), (65, .istore 4, 0, 0), (67, .iinc 5 1, 0, 0), (70, .goto (-50), 0, 0), (73, .iload 4, 0, 0), (75, .ireturn, 0, 0)]
/-- 45: CeilingKernel.place()I -/
def mj_tb45 : List (Nat × Instr × Nat × Nat) := [(0, .aload_n 0, 0, 0), (1, .getfield 18, 0, 1), (4, .getfield 81, 1, 0), (7, .ireturn, 0, 0)]
/-- 46: CeilingKernel.wcet(I)I -/
def mj_tb46 : List (Nat × Instr × Nat × Nat) := [(0, .aload_n 0, 0, 0), (1, .iload_n 1, 0, 0), (2, .invokevirtual 92, 47, 1), (5, .ifCond .eq 15, 0, 0), (8, .aload_n 0, 0, 0), (9, .getfield 25, 0, 2), (12, .getfield 95, 2, 1), (15, .iload_n 1, 0, 0), (16, .iaload, 0, 0), (17, .goto 4, 0, 0), (20, .iconst (-1), 0, 0), (21, .ireturn, 0, 0)]
/-- 47: CeilingKernel.hasFigures(I)Z -/
def mj_tb47 : List (Nat × Instr × Nat × Nat) := [(0, .aload_n 0, 0, 0), (1, .getfield 25, 0, 2), (4, .getfield 55, 2, 0), (7, .ifCond .eq 15, 0, 0), (10, .aload_n 0, 0, 0), (11, .iload_n 1, 0, 0), (12, .invokevirtual 58, 14, 1), (15, .ifCond .eq 7, 0, 0), (18, .iconst 1, 0, 0), (19, .goto 4, 0, 0), (22, .iconst 0, 0, 0), (23, .ireturn, 0, 0)]
/-- 48: CeilingKernel.section(II)I -/
def mj_tb48 : List (Nat × Instr × Nat × Nat) := [(0, .aload_n 0, 0, 0), (1, .iload_n 1, 0, 0), (2, .invokevirtual 92, 47, 1), (5, .ifCond .eq 25, 0, 0), (8, .iload_n 2, 0, 0), (9, .iconst 4, 0, 0), (10, .invokestatic 62, 15, 2), (13, .ifCond .eq 17, 0, 0), (16, .aload_n 0, 0, 0), (17, .getfield 25, 0, 2), (20, .getfield 99, 2, 2), (23, .iload_n 1, 0, 0), (24, .aaload, 0, 0), (25, .iload_n 2, 0, 0), (26, .iaload, 0, 0), (27, .goto 4, 0, 0), (30, .iconst (-1), 0, 0), (31, .ireturn, 0, 0)]
/-- 49: CeilingKernel.blocking(I)I -/
def mj_tb49 : List (Nat × Instr × Nat × Nat) := [(0, .aload_n 0, 0, 0), (1, .iload_n 1, 0, 0), (2, .invokevirtual 92, 47, 1), (5, .ifCond .eq 15, 0, 0), (8, .aload_n 0, 0, 0), (9, .getfield 25, 0, 2), (12, .getfield 103, 2, 3), (15, .iload_n 1, 0, 0), (16, .iaload, 0, 0), (17, .goto 4, 0, 0), (20, .iconst (-1), 0, 0), (21, .ireturn, 0, 0)]
/-- 50: CeilingKernel.response(I)I -/
def mj_tb50 : List (Nat × Instr × Nat × Nat) := [(0, .aload_n 0, 0, 0), (1, .iload_n 1, 0, 0), (2, .invokevirtual 92, 47, 1), (5, .ifCond .eq 15, 0, 0), (8, .aload_n 0, 0, 0), (9, .getfield 25, 0, 2), (12, .getfield 106, 2, 4), (15, .iload_n 1, 0, 0), (16, .iaload, 0, 0), (17, .goto 4, 0, 0), (20, .iconst (-1), 0, 0), (21, .ireturn, 0, 0)]
/-- 51: CeilingKernel.ceiling(I)I -/
def mj_tb51 : List (Nat × Instr × Nat × Nat) := [(0, .aload_n 0, 0, 0), (1, .getfield 25, 0, 2), (4, .getfield 55, 2, 0), (7, .ifCond .eq 23, 0, 0), (10, .iload_n 1, 0, 0), (11, .iconst 4, 0, 0), (12, .invokestatic 62, 15, 2), (15, .ifCond .eq 15, 0, 0), (18, .aload_n 0, 0, 0), (19, .getfield 25, 0, 2), (22, .getfield 109, 2, 5), (25, .iload_n 1, 0, 0), (26, .iaload, 0, 0), (27, .goto 4, 0, 0), (30, .iconst (-1), 0, 0), (31, .ireturn, 0, 0)]
/-- 52: CeilingKernel.start()Z -/
def mj_tb52 : List (Nat × Instr × Nat × Nat) := [(0, .aload_n 0, 0, 0), (1, .getfield 35, 0, 3), (4, .getfield 43, 5, 0), (7, .ifCond .ne 13, 0, 0), (10, .aload_n 0, 0, 0), (11, .getfield 25, 0, 2), (14, .getfield 55, 2, 0), (17, .ifCond .ne 5, 0, 0), (20, .iconst 0, 0, 0), (21, .ireturn, 0, 0), (22, .aload_n 0, 0, 0), (23, .getfield 35, 0, 3), (26, .aload_n 0, 0, 0), (27, .getfield 47, 0, 4), (30, .invokevirtual 112, 53, 1), (33, .iconst 1, 0, 0), (34, .ireturn, 0, 0)]
/-- 53: CeilingKernel$Machine.begin(I)V -/
def mj_tb53 : List (Nat × Instr × Nat × Nat) := [(0, .aload_n 0, 0, 0), (1, .iconst 1, 0, 0), (2, .putfield 42, 5, 0), (5, .aload_n 0, 0, 0), (6, .iload_n 1, 0, 0), (7, .putfield 46, 5, 6), (10, .aload_n 0, 0, 0), (11, .iconst 0, 0, 0), (12, .putfield 50, 5, 7), (15, .aload_n 0, 0, 0), (16, .iconst (-1), 0, 0), (17, .putfield 53, 5, 8), (20, .aload_n 0, 0, 0), (21, .iconst (-1), 0, 0), (22, .putfield 56, 5, 9), (25, .aload_n 0, 0, 0), (26, .iconst 0, 0, 0), (27, .putfield 59, 5, 10), (30, .aload_n 0, 0, 0), (31, .iconst 0, 0, 0), (32, .putfield 62, 5, 11), (35, .aload_n 0, 0, 0), (36, .iconst 0, 0, 0), (37, .putfield 65, 5, 12), (40, .aload_n 0, 0, 0), (41, .iconst 0, 0, 0), (42, .putfield 68, 5, 13), (45, .aload_n 0, 0, 0), (46, .getfield 24, 5, 3), (49, .iconst 0, 0, 0), (50, .putfield 71, 7, 0), (53, .aload_n 0, 0, 0), (54, .getfield 17, 5, 2), (57, .iconst 0, 0, 0), (58, .invokestatic 74, 36, 2), (61, .iconst 0, 0, 0), (62, .istore_n 2, 0, 0), (63, .iload_n 2, 0, 0), (64, .iconst 2, 0, 0), (65, .if_icmp .ge 18, 0, 0), (68, .aload_n 0, 0, 0), (69, .getfield 30, 5, 5), (72, .iload_n 2, 0, 0), (73, .aaload, 0, 0), (74, .invokevirtual 80, 54, 0), (77, .iinc 2 1, 0, 0), (80, .goto (-17), 0, 0), (83, .iconst 0, 0, 0), (84, .istore_n 2, 0, 0), (85, .iload_n 2, 0, 0), (86, .iload_n 1, 0, 0), (87, .if_icmp .ge 18, 0, 0), (90, .aload_n 0, 0, 0), (91, .getfield 11, 5, 1), (94, .iload_n 2, 0, 0), (95, .aaload, 0, 0), (96, .invokevirtual 83, 55, 0), (99, .iinc 2 1, 0, 0), (102, .goto (-17), 0, 0), (105, .return_, 0, 0)]
/-- 54: CeilingKernel$Mailbox.clear()V -/
def mj_tb54 : List (Nat × Instr × Nat × Nat) := [(0, .aload_n 0, 0, 0), (1, .iconst 0, 0, 0), (2, .putfield 15, 9, 1), (5, .return_, 0, 0)]
/-- 55: CeilingKernel$Post.reset()V -/
def mj_tb55 : List (Nat × Instr × Nat × Nat) := [(0, .aload_n 0, 0, 0), (1, .getfield 30, 8, 1), (4, .iconst 0, 0, 0), (5, .putfield 34, 6, 0), (8, .aload_n 0, 0, 0), (9, .getfield 9, 8, 2), (12, .iconst 0, 0, 0), (13, .invokestatic 38, 36, 2), (16, .aload_n 0, 0, 0), (17, .iconst 0, 0, 0), (18, .putfield 44, 8, 3), (21, .aload_n 0, 0, 0), (22, .aload_n 0, 0, 0), (23, .getfield 15, 8, 0), (26, .invokevirtual 48, 56, 0), (29, .ifCond .eq 13, 0, 0), (32, .aload_n 0, 0, 0), (33, .getfield 15, 8, 0), (36, .getfield 52, 3, 3), (39, .goto 4, 0, 0), (42, .iconst 0, 0, 0), (43, .putfield 55, 8, 4), (46, .aload_n 0, 0, 0), (47, .iconst 0, 0, 0), (48, .putfield 58, 8, 5), (51, .return_, 0, 0)]
/-- 56: CeilingKernel$Task.isPeriodic()Z -/
def mj_tb56 : List (Nat × Instr × Nat × Nat) := [(0, .aload_n 0, 0, 0), (1, .getfield 25, 3, 3), (4, .iconst (-1), 0, 0), (5, .if_icmp .eq 7, 0, 0), (8, .iconst 1, 0, 0), (9, .goto 4, 0, 0), (12, .iconst 0, 0, 0), (13, .ireturn, 0, 0)]
/-- 57: CeilingKernel.halt()Z -/
def mj_tb57 : List (Nat × Instr × Nat × Nat) := [(0, .aload_n 0, 0, 0), (1, .getfield 35, 0, 3), (4, .getfield 43, 5, 0), (7, .ifCond .ne 5, 0, 0), (10, .iconst 0, 0, 0), (11, .ireturn, 0, 0), (12, .aload_n 0, 0, 0), (13, .getfield 35, 0, 3), (16, .iconst 0, 0, 0), (17, .putfield 43, 5, 0), (20, .iconst 1, 0, 0), (21, .ireturn, 0, 0)]
/-- 58: CeilingKernel.signal(I)Z -/
def mj_tb58 : List (Nat × Instr × Nat × Nat) := [(0, .aload_n 0, 0, 0), (1, .iload_n 1, 0, 0), (2, .invokevirtual 116, 59, 1), (5, .ifCond .eq 22, 0, 0), (8, .aload_n 0, 0, 0), (9, .getfield 35, 0, 3), (12, .getfield 119, 5, 1), (15, .iload_n 1, 0, 0), (16, .aaload, 0, 0), (17, .invokevirtual 123, 60, 0), (20, .ifCond .eq 7, 0, 0), (23, .iconst 1, 0, 0), (24, .goto 4, 0, 0), (27, .iconst 0, 0, 0), (28, .ireturn, 0, 0)]
/-- 59: CeilingKernel.runsTask(I)Z -/
def mj_tb59 : List (Nat × Instr × Nat × Nat) := [(0, .aload_n 0, 0, 0), (1, .getfield 35, 0, 3), (4, .getfield 43, 5, 0), (7, .ifCond .eq 15, 0, 0), (10, .aload_n 0, 0, 0), (11, .iload_n 1, 0, 0), (12, .invokevirtual 58, 14, 1), (15, .ifCond .eq 7, 0, 0), (18, .iconst 1, 0, 0), (19, .goto 4, 0, 0), (22, .iconst 0, 0, 0), (23, .ireturn, 0, 0)]
/-- 60: CeilingKernel$Post.takeEvent()Z -/
def mj_tb60 : List (Nat × Instr × Nat × Nat) := [(0, .aload_n 0, 0, 0), (1, .getfield 15, 8, 0), (4, .invokevirtual 48, 56, 0), (7, .ifCond .ne 11, 0, 0), (10, .aload_n 0, 0, 0), (11, .getfield 58, 8, 5), (14, .iconst 4, 0, 0), (15, .if_icmp .lt 5, 0, 0), (18, .iconst 0, 0, 0), (19, .ireturn, 0, 0), (20, .aload_n 0, 0, 0), (21, .dup, 0, 0), (22, .getfield 58, 8, 5), (25, .iconst 1, 0, 0), (26, .iadd, 0, 0), (27, .putfield 58, 8, 5), (30, .iconst 1, 0, 0), (31, .ireturn, 0, 0)]
/-- 61: CeilingKernel.input(II)Z -/
def mj_tb61 : List (Nat × Instr × Nat × Nat) := [(0, .aload_n 0, 0, 0), (1, .getfield 35, 0, 3), (4, .getfield 43, 5, 0), (7, .ifCond .eq 11, 0, 0), (10, .iload_n 1, 0, 0), (11, .iconst 2, 0, 0), (12, .invokestatic 62, 15, 2), (15, .ifCond .ne 5, 0, 0), (18, .iconst 0, 0, 0), (19, .ireturn, 0, 0), (20, .aload_n 0, 0, 0), (21, .getfield 35, 0, 3), (24, .getfield 129, 5, 2), (27, .iload_n 1, 0, 0), (28, .iload_n 2, 0, 0), (29, .iastore, 0, 0), (30, .iconst 1, 0, 0), (31, .ireturn, 0, 0)]
/-- 62: CeilingKernel.run(I)I -/
def mj_tb62 : List (Nat × Instr × Nat × Nat) := [(0, .aload_n 0, 0, 0), (1, .getfield 35, 0, 3), (4, .getfield 43, 5, 0), (7, .ifCond .eq 25, 0, 0), (10, .iload_n 1, 0, 0), (11, .iconst 1, 0, 0), (12, .sipush 500, 0, 0), (15, .invokestatic 39, 11, 3), (18, .ifCond .eq 14, 0, 0), (21, .aload_n 0, 0, 0), (22, .getfield 35, 0, 3), (25, .iload_n 1, 0, 0), (26, .invokevirtual 132, 63, 1), (29, .goto 4, 0, 0), (32, .iconst (-1), 0, 0), (33, .ireturn, 0, 0)]
/-- 63: CeilingKernel$Machine.makeCycles(I)I -/
def mj_tb63 : List (Nat × Instr × Nat × Nat) := [(0, .aload_n 0, 0, 0), (1, .getfield 24, 5, 3), (4, .getfield 71, 7, 0), (7, .istore_n 2, 0, 0), (8, .iconst 0, 0, 0), (9, .istore_n 3, 0, 0), (10, .iload_n 3, 0, 0), (11, .iload_n 1, 0, 0), (12, .if_icmp .ge 60, 0, 0), (15, .aload_n 0, 0, 0), (16, .invokevirtual 86, 64, 0), (19, .aload_n 0, 0, 0), (20, .aload_n 0, 0, 0), (21, .invokevirtual 89, 70, 0), (24, .putfield 56, 5, 9), (27, .aload_n 0, 0, 0), (28, .dup, 0, 0), (29, .getfield 50, 5, 7), (32, .iconst 1, 0, 0), (33, .iadd, 0, 0), (34, .putfield 50, 5, 7), (37, .aload_n 0, 0, 0), (38, .getfield 56, 5, 9), (41, .iconst (-1), 0, 0), (42, .if_icmp .ne 16, 0, 0), (45, .aload_n 0, 0, 0), (46, .dup, 0, 0), (47, .getfield 68, 5, 13), (50, .iconst 1, 0, 0), (51, .iadd, 0, 0), (52, .putfield 68, 5, 13), (55, .goto 11, 0, 0), (58, .aload_n 0, 0, 0), (59, .aload_n 0, 0, 0), (60, .getfield 56, 5, 9), (63, .invokevirtual 93, 72, 1), (66, .iinc 3 1, 0, 0), (69, .goto (-59), 0, 0), (72, .aload_n 0, 0, 0), (73, .getfield 24, 5, 3), (76, .getfield 71, 7, 0), (79, .iload_n 2, 0, 0), (80, .isub, 0, 0), (81, .ireturn, 0, 0)]
/-- 64: CeilingKernel$Machine.makeReleases()V -/
def mj_tb64 : List (Nat × Instr × Nat × Nat) := [(0, .iconst 0, 0, 0), (1, .istore_n 1, 0, 0), (2, .iload_n 1, 0, 0), (3, .aload_n 0, 0, 0), (4, .getfield 46, 5, 6), (7, .if_icmp .ge 52, 0, 0), (10, .aload_n 0, 0, 0), (11, .getfield 11, 5, 1), (14, .iload_n 1, 0, 0), (15, .aaload, 0, 0), (16, .aload_n 0, 0, 0), (17, .getfield 50, 5, 7), (20, .invokevirtual 97, 65, 1), (23, .ifCond .eq 30, 0, 0), (26, .aload_n 0, 0, 0), (27, .getfield 11, 5, 1), (30, .iload_n 1, 0, 0), (31, .aaload, 0, 0), (32, .aload_n 0, 0, 0), (33, .getfield 50, 5, 7), (36, .invokevirtual 101, 66, 1), (39, .aload_n 0, 0, 0), (40, .iload_n 1, 0, 0), (41, .aload_n 0, 0, 0), (42, .getfield 11, 5, 1), (45, .iload_n 1, 0, 0), (46, .aaload, 0, 0), (47, .getfield 104, 8, 1), (50, .invokevirtual 108, 67, 2), (53, .iinc 1 1, 0, 0), (56, .goto (-54), 0, 0), (59, .return_, 0, 0)]
/-- 65: CeilingKernel$Post.isDue(I)Z -/
def mj_tb65 : List (Nat × Instr × Nat × Nat) := [(0, .iload_n 1, 0, 0), (1, .aload_n 0, 0, 0), (2, .getfield 55, 8, 4), (5, .if_icmp .lt 24, 0, 0), (8, .aload_n 0, 0, 0), (9, .getfield 15, 8, 0), (12, .invokevirtual 48, 56, 0), (15, .ifCond .ne 10, 0, 0), (18, .aload_n 0, 0, 0), (19, .getfield 58, 8, 5), (22, .ifCond .le 7, 0, 0), (25, .iconst 1, 0, 0), (26, .goto 4, 0, 0), (29, .iconst 0, 0, 0), (30, .ireturn, 0, 0)]
/-- 66: CeilingKernel$Post.passRelease(I)V -/
def mj_tb66 : List (Nat × Instr × Nat × Nat) := [(0, .aload_n 0, 0, 0), (1, .iload_n 1, 0, 0), (2, .aload_n 0, 0, 0), (3, .getfield 15, 8, 0), (6, .getfield 61, 3, 1), (9, .iadd, 0, 0), (10, .putfield 55, 8, 4), (13, .aload_n 0, 0, 0), (14, .getfield 15, 8, 0), (17, .invokevirtual 48, 56, 0), (20, .ifCond .ne 13, 0, 0), (23, .aload_n 0, 0, 0), (24, .dup, 0, 0), (25, .getfield 58, 8, 5), (28, .iconst 1, 0, 0), (29, .isub, 0, 0), (30, .putfield 58, 8, 5), (33, .return_, 0, 0)]
/-- 67: CeilingKernel$Machine.makeRelease(ILCeilingKernel$Job;)V -/
def mj_tb67 : List (Nat × Instr × Nat × Nat) := [(0, .aload_n 2, 0, 0), (1, .getfield 112, 6, 0), (4, .ifCond .eq 38, 0, 0), (7, .aload_n 0, 0, 0), (8, .dup, 0, 0), (9, .getfield 65, 5, 12), (12, .iconst 1, 0, 0), (13, .iadd, 0, 0), (14, .putfield 65, 5, 12), (17, .aload_n 0, 0, 0), (18, .getfield 24, 5, 3), (21, .iconst 4, 0, 0), (22, .iload_n 1, 0, 0), (23, .aload_n 0, 0, 0), (24, .getfield 50, 5, 7), (27, .aload_n 0, 0, 0), (28, .getfield 50, 5, 7), (31, .aload_n 2, 0, 0), (32, .getfield 117, 6, 5), (35, .isub, 0, 0), (36, .invokevirtual 120, 68, 4), (39, .goto 12, 0, 0), (42, .aload_n 2, 0, 0), (43, .iload_n 1, 0, 0), (44, .aload_n 0, 0, 0), (45, .getfield 50, 5, 7), (48, .invokevirtual 124, 69, 2), (51, .return_, 0, 0)]
/-- 68: CeilingKernel$Journal.add(IIII)V -/
def mj_tb68 : List (Nat × Instr × Nat × Nat) := [(0, .aload_n 0, 0, 0), (1, .getfield 24, 7, 0), (4, .bipush 31, 0, 0), (6, .iand, 0, 0), (7, .istore 5, 0, 0), (9, .aload_n 0, 0, 0), (10, .getfield 9, 7, 1), (13, .iload 5, 0, 0), (15, .iload_n 1, 0, 0), (16, .iastore, 0, 0), (17, .aload_n 0, 0, 0), (18, .getfield 15, 7, 2), (21, .iload 5, 0, 0), (23, .iload_n 2, 0, 0), (24, .iastore, 0, 0), (25, .aload_n 0, 0, 0), (26, .getfield 18, 7, 3), (29, .iload 5, 0, 0), (31, .iload_n 3, 0, 0), (32, .iastore, 0, 0), (33, .aload_n 0, 0, 0), (34, .getfield 21, 7, 4), (37, .iload 5, 0, 0), (39, .iload 4, 0, 0), (41, .iastore, 0, 0), (42, .aload_n 0, 0, 0), (43, .dup, 0, 0), (44, .getfield 24, 7, 0), (47, .iconst 1, 0, 0), (48, .iadd, 0, 0), (49, .putfield 24, 7, 0), (52, .return_, 0, 0)]
/-- 69: CeilingKernel$Job.release(II)V -/
def mj_tb69 : List (Nat × Instr × Nat × Nat) := [(0, .aload_n 0, 0, 0), (1, .iconst 1, 0, 0), (2, .putfield 30, 6, 0), (5, .aload_n 0, 0, 0), (6, .iconst 0, 0, 0), (7, .putfield 34, 6, 1), (10, .aload_n 0, 0, 0), (11, .iconst 0, 0, 0), (12, .putfield 37, 6, 2), (15, .aload_n 0, 0, 0), (16, .iload_n 1, 0, 0), (17, .putfield 40, 6, 3), (20, .aload_n 0, 0, 0), (21, .iconst 0, 0, 0), (22, .putfield 44, 6, 4), (25, .aload_n 0, 0, 0), (26, .iload_n 2, 0, 0), (27, .putfield 47, 6, 5), (30, .aload_n 0, 0, 0), (31, .iconst 0, 0, 0), (32, .putfield 50, 6, 6), (35, .aload_n 0, 0, 0), (36, .iconst 0, 0, 0), (37, .putfield 53, 6, 7), (40, .aload_n 0, 0, 0), (41, .iconst 0, 0, 0), (42, .putfield 56, 6, 10), (45, .aload_n 0, 0, 0), (46, .iconst 0, 0, 0), (47, .putfield 59, 6, 11), (50, .aload_n 0, 0, 0), (51, .iconst 0, 0, 0), (52, .putfield 62, 6, 12), (55, .aload_n 0, 0, 0), (56, .getfield 9, 6, 8), (59, .iconst 0, 0, 0), (60, .invokestatic 65, 36, 2), (63, .return_, 0, 0)]
/-- 70: CeilingKernel$Machine.chooseTask()I -/
def mj_tb70 : List (Nat × Instr × Nat × Nat) := [(0, .iconst (-1), 0, 0), (1, .istore_n 1, 0, 0), (2, .iconst 0, 0, 0), (3, .istore_n 2, 0, 0), (4, .iload_n 2, 0, 0), (5, .aload_n 0, 0, 0), (6, .getfield 46, 5, 6), (9, .if_icmp .ge 49, 0, 0), (12, .aload_n 0, 0, 0), (13, .getfield 11, 5, 1), (16, .iload_n 2, 0, 0), (17, .aaload, 0, 0), (18, .getfield 104, 8, 1), (21, .astore_n 3, 0, 0), (22, .aload_n 3, 0, 0), (23, .getfield 112, 6, 0), (26, .ifCond .eq 26, 0, 0), (29, .iload_n 1, 0, 0), (30, .iconst (-1), 0, 0), (31, .if_icmp .eq 19, 0, 0), (34, .aload_n 3, 0, 0), (35, .aload_n 0, 0, 0), (36, .getfield 11, 5, 1), (39, .iload_n 1, 0, 0), (40, .aaload, 0, 0), (41, .getfield 104, 8, 1), (44, .invokevirtual 128, 71, 1), (47, .ifCond .eq 5, 0, 0), (50, .iload_n 2, 0, 0), (51, .istore_n 1, 0, 0), (52, .iinc 2 1, 0, 0), (55, .goto (-51), 0, 0), (58, .iload_n 1, 0, 0), (59, .ireturn, 0, 0)]
/-- 71: CeilingKernel$Job.goesBefore(LCeilingKernel$Job;)Z -/
def mj_tb71 : List (Nat × Instr × Nat × Nat) := [(0, .aload_n 0, 0, 0), (1, .getfield 40, 6, 3), (4, .aload_n 1, 0, 0), (5, .getfield 40, 6, 3), (8, .if_icmp .lt 28, 0, 0), (11, .aload_n 0, 0, 0), (12, .getfield 40, 6, 3), (15, .aload_n 1, 0, 0), (16, .getfield 40, 6, 3), (19, .if_icmp .ne 21, 0, 0), (22, .aload_n 0, 0, 0), (23, .getfield 34, 6, 1), (26, .ifCond .eq 14, 0, 0), (29, .aload_n 1, 0, 0), (30, .getfield 34, 6, 1), (33, .ifCond .ne 7, 0, 0), (36, .iconst 1, 0, 0), (37, .goto 4, 0, 0), (40, .iconst 0, 0, 0), (41, .ireturn, 0, 0)]
/-- 72: CeilingKernel$Machine.giveCycle(I)V -/
def mj_tb72 : List (Nat × Instr × Nat × Nat) := [(0, .aload_n 0, 0, 0), (1, .getfield 11, 5, 1), (4, .iload_n 1, 0, 0), (5, .aaload, 0, 0), (6, .getfield 104, 8, 1), (9, .astore_n 2, 0, 0), (10, .aload_n 0, 0, 0), (11, .getfield 53, 5, 8), (14, .iload_n 1, 0, 0), (15, .if_icmp .eq 28, 0, 0), (18, .aload_n 0, 0, 0), (19, .iload_n 1, 0, 0), (20, .putfield 53, 5, 8), (23, .aload_n 0, 0, 0), (24, .dup, 0, 0), (25, .getfield 59, 5, 10), (28, .iconst 1, 0, 0), (29, .iadd, 0, 0), (30, .putfield 59, 5, 10), (33, .aload_n 2, 0, 0), (34, .iconst 1, 0, 0), (35, .putfield 132, 6, 1), (38, .aload_n 2, 0, 0), (39, .iconst 2, 0, 0), (40, .putfield 135, 6, 7), (43, .aload_n 2, 0, 0), (44, .getfield 135, 6, 7), (47, .ifCond .le 16, 0, 0), (50, .aload_n 2, 0, 0), (51, .dup, 0, 0), (52, .getfield 135, 6, 7), (55, .iconst 1, 0, 0), (56, .isub, 0, 0), (57, .putfield 135, 6, 7), (60, .goto 16, 0, 0), (63, .aload_n 2, 0, 0), (64, .invokevirtual 138, 73, 0), (67, .ifCond .eq 9, 0, 0), (70, .aload_n 0, 0, 0), (71, .iload_n 1, 0, 0), (72, .aload_n 2, 0, 0), (73, .invokevirtual 142, 74, 2), (76, .return_, 0, 0)]
/-- 73: CeilingKernel$Job.spendCycle()Z -/
def mj_tb73 : List (Nat × Instr × Nat × Nat) := [(0, .aload_n 0, 0, 0), (1, .dup, 0, 0), (2, .getfield 62, 6, 12), (5, .iconst 1, 0, 0), (6, .iadd, 0, 0), (7, .putfield 62, 6, 12), (10, .aload_n 0, 0, 0), (11, .getfield 62, 6, 12), (14, .getstatic 71, 1, 0), (17, .aload_n 0, 0, 0), (18, .getfield 26, 6, 9), (21, .aload_n 0, 0, 0), (22, .getfield 56, 6, 10), (25, .aaload, 0, 0), (26, .getfield 74, 4, 0), (29, .aload_n 0, 0, 0), (30, .getfield 59, 6, 11), (33, .iaload, 0, 0), (34, .iaload, 0, 0), (35, .if_icmp .lt 7, 0, 0), (38, .iconst 1, 0, 0), (39, .goto 4, 0, 0), (42, .iconst 0, 0, 0), (43, .ireturn, 0, 0)]
/-- 74: CeilingKernel$Machine.finishInstruction(ILCeilingKernel$Job;)V -/
def mj_tb74 : List (Nat × Instr × Nat × Nat) := [(0, .aload_n 0, 0, 0), (1, .iload_n 1, 0, 0), (2, .aload_n 2, 0, 0), (3, .invokevirtual 145, 75, 2), (6, .aload_n 2, 0, 0), (7, .getfield 148, 6, 2), (10, .ifCond .eq 12, 0, 0), (13, .aload_n 0, 0, 0), (14, .iload_n 1, 0, 0), (15, .iconst 3, 0, 0), (16, .invokevirtual 151, 89, 2), (19, .goto 16, 0, 0), (22, .aload_n 2, 0, 0), (23, .invokevirtual 154, 90, 0), (26, .ifCond .eq 9, 0, 0), (29, .aload_n 0, 0, 0), (30, .iload_n 1, 0, 0), (31, .iconst 2, 0, 0), (32, .invokevirtual 151, 89, 2), (35, .return_, 0, 0)]
/-- 75: CeilingKernel$Machine.perform(ILCeilingKernel$Job;)V -/
def mj_tb75 : List (Nat × Instr × Nat × Nat) := [(0, .aload_n 2, 0, 0), (1, .invokevirtual 157, 76, 0), (4, .astore_n 3, 0, 0), (5, .aload_n 2, 0, 0), (6, .invokevirtual 161, 77, 0), (9, .istore 4, 0, 0), (11, .aload_n 3, 0, 0), (12, .getfield 164, 4, 1), (15, .iload 4, 0, 0), (17, .iaload, 0, 0), (18, .istore 5, 0, 0), (20, .aload_n 3, 0, 0), (21, .getfield 169, 4, 2), (24, .iload 4, 0, 0), (26, .iaload, 0, 0), (27, .istore 6, 0, 0), (29, .aload_n 2, 0, 0), (30, .invokevirtual 172, 78, 0), (33, .aload_n 3, 0, 0), (34, .getfield 175, 4, 0), (37, .iload 4, 0, 0), (39, .iaload, 0, 0), (40, .tableswitch 243 3 14 #[64, 86, 243, 243, 243, 108, 126, 243, 150, 167, 190, 224], 0, 0), (104, .aload_n 2, 0, 0), (105, .getfield 178, 6, 8), (108, .iload 5, 0, 0), (110, .aload_n 0, 0, 0), (111, .getfield 11, 5, 1), (114, .iload_n 1, 0, 0), (115, .aaload, 0, 0), (116, .getfield 181, 8, 2), (119, .iload 6, 0, 0), (121, .iaload, 0, 0), (122, .iastore, 0, 0), (123, .goto 177, 0, 0), (126, .aload_n 0, 0, 0), (127, .getfield 11, 5, 1), (130, .iload_n 1, 0, 0), (131, .aaload, 0, 0), (132, .getfield 181, 8, 2), (135, .iload 6, 0, 0), (137, .aload_n 2, 0, 0), (138, .getfield 178, 6, 8), (141, .iload 5, 0, 0), (143, .iaload, 0, 0), (144, .iastore, 0, 0), (145, .goto 155, 0, 0), (148, .aload_n 0, 0, 0), (149, .iload_n 1, 0, 0), (150, .aload_n 2, 0, 0), (151, .aload_n 2, 0, 0), (152, .getfield 184, 6, 4), (155, .iconst 1, 0, 0), (156, .iload 6, 0, 0), (158, .ishl, 0, 0), (159, .ior, 0, 0), (160, .invokevirtual 187, 79, 3), (163, .goto 137, 0, 0), (166, .aload_n 0, 0, 0), (167, .iload_n 1, 0, 0), (168, .aload_n 2, 0, 0), (169, .aload_n 2, 0, 0), (170, .getfield 184, 6, 4), (173, .iconst 1, 0, 0), (174, .aload_n 3, 0, 0), (175, .iload 4, 0, 0), (177, .invokevirtual 191, 31, 1), (180, .ishl, 0, 0), (181, .iconst (-1), 0, 0), (182, .ixor, 0, 0), (183, .iand, 0, 0), (184, .invokevirtual 187, 79, 3), (187, .goto 113, 0, 0), (190, .aload_n 2, 0, 0), (191, .getfield 178, 6, 8), (194, .iload 5, 0, 0), (196, .aload_n 0, 0, 0), (197, .getfield 17, 5, 2), (200, .iload 6, 0, 0), (202, .iaload, 0, 0), (203, .iastore, 0, 0), (204, .goto 96, 0, 0), (207, .aload_n 0, 0, 0), (208, .getfield 24, 5, 3), (211, .iconst 1, 0, 0), (212, .iload_n 1, 0, 0), (213, .aload_n 0, 0, 0), (214, .getfield 50, 5, 7), (217, .aload_n 2, 0, 0), (218, .getfield 178, 6, 8), (221, .iload 5, 0, 0), (223, .iaload, 0, 0), (224, .invokevirtual 120, 68, 4), (227, .goto 73, 0, 0), (230, .aload_n 2, 0, 0), (231, .getfield 178, 6, 8), (234, .iconst 0, 0, 0), (235, .aload_n 0, 0, 0), (236, .getfield 30, 5, 5), (239, .iload 6, 0, 0), (241, .aaload, 0, 0), (242, .aload_n 2, 0, 0), (243, .getfield 178, 6, 8), (246, .iload 5, 0, 0), (248, .iaload, 0, 0), (249, .invokevirtual 195, 81, 1), (252, .ifCond .eq 7, 0, 0), (255, .iconst 1, 0, 0), (256, .goto 4, 0, 0), (259, .iconst 0, 0, 0), (260, .iastore, 0, 0), (261, .goto 39, 0, 0), (264, .aload_n 0, 0, 0), (265, .getfield 30, 5, 5), (268, .iload 6, 0, 0), (270, .aaload, 0, 0), (271, .aload_n 2, 0, 0), (272, .getfield 178, 6, 8), (275, .iload 5, 0, 0), (277, .invokestatic 198, 82, 3), (280, .goto 20, 0, 0), (283, .aload_n 2, 0, 0), (284, .aload_n 3, 0, 0), (285, .getfield 175, 4, 0), (288, .iload 4, 0, 0), (290, .iaload, 0, 0), (291, .iload 5, 0, 0), (293, .iload 6, 0, 0), (295, .iload 4, 0, 0), (297, .invokevirtual 202, 85, 4), (300, .return_, 0, 0)]
/-- 76: CeilingKernel$Job.routine()LCeilingKernel$Routine; -/
def mj_tb76 : List (Nat × Instr × Nat × Nat) := [(0, .aload_n 0, 0, 0), (1, .getfield 26, 6, 9), (4, .aload_n 0, 0, 0), (5, .getfield 56, 6, 10), (8, .aaload, 0, 0), (9, .areturn, 0, 0)]
/-- 77: CeilingKernel$Job.spot()I -/
def mj_tb77 : List (Nat × Instr × Nat × Nat) := [(0, .aload_n 0, 0, 0), (1, .getfield 59, 6, 11), (4, .ireturn, 0, 0)]
/-- 78: CeilingKernel$Job.stepBehind()V -/
def mj_tb78 : List (Nat × Instr × Nat × Nat) := [(0, .aload_n 0, 0, 0), (1, .iconst 0, 0, 0), (2, .putfield 62, 6, 12), (5, .aload_n 0, 0, 0), (6, .dup, 0, 0), (7, .getfield 50, 6, 6), (10, .iconst 1, 0, 0), (11, .iadd, 0, 0), (12, .putfield 50, 6, 6), (15, .aload_n 0, 0, 0), (16, .dup, 0, 0), (17, .getfield 59, 6, 11), (20, .iconst 1, 0, 0), (21, .iadd, 0, 0), (22, .putfield 59, 6, 11), (25, .return_, 0, 0)]
/-- 79: CeilingKernel$Machine.hold(ILCeilingKernel$Job;I)V -/
def mj_tb79 : List (Nat × Instr × Nat × Nat) := [(0, .aload_n 2, 0, 0), (1, .iload_n 3, 0, 0), (2, .putfield 184, 6, 4), (5, .aload_n 2, 0, 0), (6, .aload_n 0, 0, 0), (7, .getfield 34, 5, 4), (10, .iload_n 1, 0, 0), (11, .iload_n 3, 0, 0), (12, .invokevirtual 205, 80, 2), (15, .putfield 211, 6, 3), (18, .return_, 0, 0)]
/-- 80: CeilingKernel$Figures.activeNumber(II)I -/
def mj_tb80 : List (Nat × Instr × Nat × Nat) := [(0, .iload_n 1, 0, 0), (1, .istore_n 3, 0, 0), (2, .iconst 0, 0, 0), (3, .istore 4, 0, 0), (5, .iload 4, 0, 0), (7, .iconst 4, 0, 0), (8, .if_icmp .ge 41, 0, 0), (11, .iload_n 2, 0, 0), (12, .iconst 1, 0, 0), (13, .iload 4, 0, 0), (15, .ishl, 0, 0), (16, .iand, 0, 0), (17, .ifCond .eq 26, 0, 0), (20, .aload_n 0, 0, 0), (21, .getfield 26, 2, 5), (24, .iload 4, 0, 0), (26, .iaload, 0, 0), (27, .iconst (-1), 0, 0), (28, .if_icmp .eq 15, 0, 0), (31, .iload_n 3, 0, 0), (32, .aload_n 0, 0, 0), (33, .getfield 26, 2, 5), (36, .iload 4, 0, 0), (38, .iaload, 0, 0), (39, .invokestatic 116, 1002, 2), (42, .istore_n 3, 0, 0), (43, .iinc 4 1, 0, 0), (46, .goto (-41), 0, 0), (49, .iload_n 3, 0, 0), (50, .ireturn, 0, 0)]
/-- 81: CeilingKernel$Mailbox.put(I)Z -/
def mj_tb81 : List (Nat × Instr × Nat × Nat) := [(0, .aload_n 0, 0, 0), (1, .getfield 15, 9, 1), (4, .iconst 3, 0, 0), (5, .if_icmp .lt 5, 0, 0), (8, .iconst 0, 0, 0), (9, .ireturn, 0, 0), (10, .aload_n 0, 0, 0), (11, .getfield 9, 9, 0), (14, .aload_n 0, 0, 0), (15, .getfield 15, 9, 1), (18, .iload_n 1, 0, 0), (19, .iastore, 0, 0), (20, .aload_n 0, 0, 0), (21, .dup, 0, 0), (22, .getfield 15, 9, 1), (25, .iconst 1, 0, 0), (26, .iadd, 0, 0), (27, .putfield 15, 9, 1), (30, .iconst 1, 0, 0), (31, .ireturn, 0, 0)]
/-- 82: CeilingKernel$Machine.receive(LCeilingKernel$Mailbox;[II)V -/
def mj_tb82 : List (Nat × Instr × Nat × Nat) := [(0, .aload_n 0, 0, 0), (1, .invokevirtual 214, 83, 0), (4, .ifCond .eq 10, 0, 0), (7, .aload_n 1, 0, 0), (8, .iconst 0, 0, 0), (9, .iconst 0, 0, 0), (10, .iastore, 0, 0), (11, .goto 14, 0, 0), (14, .aload_n 1, 0, 0), (15, .iload_n 2, 0, 0), (16, .aload_n 0, 0, 0), (17, .invokevirtual 217, 84, 0), (20, .iastore, 0, 0), (21, .aload_n 1, 0, 0), (22, .iconst 0, 0, 0), (23, .iconst 1, 0, 0), (24, .iastore, 0, 0), (25, .return_, 0, 0)]
/-- 83: CeilingKernel$Mailbox.isEmpty()Z -/
def mj_tb83 : List (Nat × Instr × Nat × Nat) := [(0, .aload_n 0, 0, 0), (1, .getfield 15, 9, 1), (4, .ifCond .ne 7, 0, 0), (7, .iconst 1, 0, 0), (8, .goto 4, 0, 0), (11, .iconst 0, 0, 0), (12, .ireturn, 0, 0)]
/-- 84: CeilingKernel$Mailbox.take()I -/
def mj_tb84 : List (Nat × Instr × Nat × Nat) := [(0, .aload_n 0, 0, 0), (1, .getfield 15, 9, 1), (4, .ifCond .ne 5, 0, 0), (7, .iconst 0, 0, 0), (8, .ireturn, 0, 0), (9, .aload_n 0, 0, 0), (10, .getfield 9, 9, 0), (13, .iconst 0, 0, 0), (14, .iaload, 0, 0), (15, .istore_n 1, 0, 0), (16, .aload_n 0, 0, 0), (17, .dup, 0, 0), (18, .getfield 15, 9, 1), (21, .iconst 1, 0, 0), (22, .isub, 0, 0), (23, .putfield 15, 9, 1), (26, .iconst 0, 0, 0), (27, .istore_n 2, 0, 0), (28, .iload_n 2, 0, 0), (29, .aload_n 0, 0, 0), (30, .getfield 15, 9, 1), (33, .if_icmp .ge 23, 0, 0), (36, .aload_n 0, 0, 0), (37, .getfield 9, 9, 0), (40, .iload_n 2, 0, 0), (41, .aload_n 0, 0, 0), (42, .getfield 9, 9, 0), (45, .iload_n 2, 0, 0), (46, .iconst 1, 0, 0), (47, .iadd, 0, 0), (48, .iaload, 0, 0), (49, .iastore, 0, 0), (50, .iinc 2 1, 0, 0), (53, .goto (-25), 0, 0), (56, .iload_n 1, 0, 0), (57, .ireturn, 0, 0)]
/-- 85: CeilingKernel$Job.compute(IIII)V -/
def mj_tb85 : List (Nat × Instr × Nat × Nat) := [(0, .iload_n 1, 0, 0), (1, .tableswitch 168 0 10 #[59, 69, 87, 168, 168, 96, 122, 138, 168, 168, 160], 0, 0), (60, .aload_n 0, 0, 0), (61, .getfield 9, 6, 8), (64, .iload_n 2, 0, 0), (65, .iload_n 3, 0, 0), (66, .iastore, 0, 0), (67, .goto 102, 0, 0), (70, .aload_n 0, 0, 0), (71, .getfield 9, 6, 8), (74, .iload_n 2, 0, 0), (75, .dup2, 0, 0), (76, .iaload, 0, 0), (77, .aload_n 0, 0, 0), (78, .getfield 9, 6, 8), (81, .iload_n 3, 0, 0), (82, .iaload, 0, 0), (83, .iadd, 0, 0), (84, .iastore, 0, 0), (85, .goto 84, 0, 0), (88, .aload_n 0, 0, 0), (89, .iload_n 2, 0, 0), (90, .iload_n 3, 0, 0), (91, .invokevirtual 79, 86, 2), (94, .goto 75, 0, 0), (97, .aload_n 0, 0, 0), (98, .dup, 0, 0), (99, .getfield 59, 6, 11), (102, .aload_n 0, 0, 0), (103, .getfield 9, 6, 8), (106, .iload_n 2, 0, 0), (107, .iaload, 0, 0), (108, .ifCond .ne 7, 0, 0), (111, .iload_n 3, 0, 0), (112, .goto 4, 0, 0), (115, .iconst 0, 0, 0), (116, .iadd, 0, 0), (117, .putfield 59, 6, 11), (120, .goto 49, 0, 0), (123, .aload_n 0, 0, 0), (124, .getfield 23, 6, 15), (127, .aload_n 0, 0, 0), (128, .getfield 56, 6, 10), (131, .aaload, 0, 0), (132, .iload 4, 0, 0), (134, .iload_n 3, 0, 0), (135, .iastore, 0, 0), (136, .goto 33, 0, 0), (139, .aload_n 0, 0, 0), (140, .aload_n 0, 0, 0), (141, .getfield 26, 6, 9), (144, .aload_n 0, 0, 0), (145, .getfield 56, 6, 10), (148, .aaload, 0, 0), (149, .getfield 83, 4, 3), (152, .iload 4, 0, 0), (154, .iaload, 0, 0), (155, .invokevirtual 86, 87, 1), (158, .goto 11, 0, 0), (161, .aload_n 0, 0, 0), (162, .iload_n 3, 0, 0), (163, .invokevirtual 90, 88, 1), (166, .goto 3, 0, 0), (169, .return_, 0, 0)]
/-- 86: CeilingKernel$Job.divide(II)V -/
def mj_tb86 : List (Nat × Instr × Nat × Nat) := [(0, .aload_n 0, 0, 0), (1, .getfield 9, 6, 8), (4, .iload_n 2, 0, 0), (5, .iaload, 0, 0), (6, .ifCond .ne 11, 0, 0), (9, .aload_n 0, 0, 0), (10, .iconst 1, 0, 0), (11, .putfield 37, 6, 2), (14, .goto 18, 0, 0), (17, .aload_n 0, 0, 0), (18, .getfield 9, 6, 8), (21, .iload_n 1, 0, 0), (22, .dup2, 0, 0), (23, .iaload, 0, 0), (24, .aload_n 0, 0, 0), (25, .getfield 9, 6, 8), (28, .iload_n 2, 0, 0), (29, .iaload, 0, 0), (30, .idiv, 0, 0), (31, .iastore, 0, 0), (32, .return_, 0, 0)]
/-- 87: CeilingKernel$Job.closeRound(I)V -/
def mj_tb87 : List (Nat × Instr × Nat × Nat) := [(0, .aload_n 0, 0, 0), (1, .getfield 23, 6, 15), (4, .aload_n 0, 0, 0), (5, .getfield 56, 6, 10), (8, .aaload, 0, 0), (9, .iload_n 1, 0, 0), (10, .dup2, 0, 0), (11, .iaload, 0, 0), (12, .iconst 1, 0, 0), (13, .isub, 0, 0), (14, .iastore, 0, 0), (15, .aload_n 0, 0, 0), (16, .getfield 23, 6, 15), (19, .aload_n 0, 0, 0), (20, .getfield 56, 6, 10), (23, .aaload, 0, 0), (24, .iload_n 1, 0, 0), (25, .iaload, 0, 0), (26, .ifCond .le 10, 0, 0), (29, .aload_n 0, 0, 0), (30, .iload_n 1, 0, 0), (31, .iconst 1, 0, 0), (32, .iadd, 0, 0), (33, .putfield 59, 6, 11), (36, .return_, 0, 0)]
/-- 88: CeilingKernel$Job.enter(I)V -/
def mj_tb88 : List (Nat × Instr × Nat × Nat) := [(0, .aload_n 0, 0, 0), (1, .getfield 15, 6, 13), (4, .iload_n 1, 0, 0), (5, .aload_n 0, 0, 0), (6, .getfield 56, 6, 10), (9, .iastore, 0, 0), (10, .aload_n 0, 0, 0), (11, .getfield 18, 6, 14), (14, .iload_n 1, 0, 0), (15, .aload_n 0, 0, 0), (16, .getfield 59, 6, 11), (19, .iastore, 0, 0), (20, .aload_n 0, 0, 0), (21, .iload_n 1, 0, 0), (22, .putfield 56, 6, 10), (25, .aload_n 0, 0, 0), (26, .iconst 0, 0, 0), (27, .putfield 59, 6, 11), (30, .return_, 0, 0)]
/-- 89: CeilingKernel$Machine.endJob(II)V -/
def mj_tb89 : List (Nat × Instr × Nat × Nat) := [(0, .aload_n 0, 0, 0), (1, .getfield 11, 5, 1), (4, .iload_n 1, 0, 0), (5, .aaload, 0, 0), (6, .astore_n 3, 0, 0), (7, .aload_n 0, 0, 0), (8, .getfield 50, 5, 7), (11, .aload_n 3, 0, 0), (12, .getfield 104, 8, 1), (15, .getfield 117, 6, 5), (18, .isub, 0, 0), (19, .istore 4, 0, 0), (21, .aload_n 3, 0, 0), (22, .getfield 104, 8, 1), (25, .iconst 0, 0, 0), (26, .putfield 112, 6, 0), (29, .aload_n 0, 0, 0), (30, .iconst (-1), 0, 0), (31, .putfield 53, 5, 8), (34, .aload_n 3, 0, 0), (35, .aload_n 3, 0, 0), (36, .getfield 220, 8, 3), (39, .iload 4, 0, 0), (41, .invokestatic 223, 1001, 2), (44, .putfield 220, 8, 3), (47, .iload 4, 0, 0), (49, .aload_n 3, 0, 0), (50, .getfield 228, 8, 0), (53, .getfield 232, 3, 2), (56, .if_icmp .le 13, 0, 0), (59, .aload_n 0, 0, 0), (60, .dup, 0, 0), (61, .getfield 62, 5, 11), (64, .iconst 1, 0, 0), (65, .iadd, 0, 0), (66, .putfield 62, 5, 11), (69, .aload_n 0, 0, 0), (70, .getfield 24, 5, 3), (73, .iload_n 2, 0, 0), (74, .iload_n 1, 0, 0), (75, .aload_n 0, 0, 0), (76, .getfield 50, 5, 7), (79, .iload 4, 0, 0), (81, .invokevirtual 120, 68, 4), (84, .return_, 0, 0)]
/-- 90: CeilingKernel$Job.isThrough()Z -/
def mj_tb90 : List (Nat × Instr × Nat × Nat) := [(0, .iconst 0, 0, 0), (1, .istore_n 1, 0, 0), (2, .iload_n 1, 0, 0), (3, .iconst 3, 0, 0), (4, .if_icmp .ge 61, 0, 0), (7, .aload_n 0, 0, 0), (8, .getfield 56, 6, 10), (11, .ifCond .le 54, 0, 0), (14, .aload_n 0, 0, 0), (15, .getfield 59, 6, 11), (18, .aload_n 0, 0, 0), (19, .getfield 26, 6, 9), (22, .aload_n 0, 0, 0), (23, .getfield 56, 6, 10), (26, .aaload, 0, 0), (27, .getfield 93, 4, 4), (30, .if_icmp .lt 35, 0, 0), (33, .aload_n 0, 0, 0), (34, .aload_n 0, 0, 0), (35, .getfield 18, 6, 14), (38, .aload_n 0, 0, 0), (39, .getfield 56, 6, 10), (42, .iaload, 0, 0), (43, .putfield 59, 6, 11), (46, .aload_n 0, 0, 0), (47, .aload_n 0, 0, 0), (48, .getfield 15, 6, 13), (51, .aload_n 0, 0, 0), (52, .getfield 56, 6, 10), (55, .iaload, 0, 0), (56, .putfield 56, 6, 10), (59, .iinc 1 1, 0, 0), (62, .goto (-60), 0, 0), (65, .aload_n 0, 0, 0), (66, .getfield 59, 6, 11), (69, .aload_n 0, 0, 0), (70, .getfield 26, 6, 9), (73, .aload_n 0, 0, 0), (74, .getfield 56, 6, 10), (77, .aaload, 0, 0), (78, .getfield 93, 4, 4), (81, .if_icmp .lt 7, 0, 0), (84, .iconst 1, 0, 0), (85, .goto 4, 0, 0), (88, .iconst 0, 0, 0), (89, .ireturn, 0, 0)]
/-- 91: CeilingKernel.state(I)I -/
def mj_tb91 : List (Nat × Instr × Nat × Nat) := [(0, .aload_n 0, 0, 0), (1, .getfield 35, 0, 3), (4, .getfield 43, 5, 0), (7, .ifCond .eq 14, 0, 0), (10, .aload_n 0, 0, 0), (11, .getfield 35, 0, 3), (14, .iload_n 1, 0, 0), (15, .invokevirtual 136, 92, 1), (18, .goto 4, 0, 0), (21, .iconst (-1), 0, 0), (22, .ireturn, 0, 0)]
/-- 92: CeilingKernel$Machine.tell(I)I -/
def mj_tb92 : List (Nat × Instr × Nat × Nat) := [(0, .iload_n 1, 0, 0), (1, .tableswitch 81 0 6 #[43, 48, 53, 58, 66, 71, 76], 0, 0), (44, .aload_n 0, 0, 0), (45, .getfield 50, 5, 7), (48, .ireturn, 0, 0), (49, .aload_n 0, 0, 0), (50, .getfield 56, 5, 9), (53, .ireturn, 0, 0), (54, .aload_n 0, 0, 0), (55, .getfield 59, 5, 10), (58, .ireturn, 0, 0), (59, .aload_n 0, 0, 0), (60, .getfield 24, 5, 3), (63, .getfield 71, 7, 0), (66, .ireturn, 0, 0), (67, .aload_n 0, 0, 0), (68, .getfield 62, 5, 11), (71, .ireturn, 0, 0), (72, .aload_n 0, 0, 0), (73, .getfield 65, 5, 12), (76, .ireturn, 0, 0), (77, .aload_n 0, 0, 0), (78, .getfield 68, 5, 13), (81, .ireturn, 0, 0), (82, .iconst (-1), 0, 0), (83, .ireturn, 0, 0)]
/-- 93: CeilingKernel.job(II)I -/
def mj_tb93 : List (Nat × Instr × Nat × Nat) := [(0, .aload_n 0, 0, 0), (1, .iload_n 1, 0, 0), (2, .invokevirtual 116, 59, 1), (5, .ifCond .eq 15, 0, 0), (8, .aload_n 0, 0, 0), (9, .getfield 35, 0, 3), (12, .iload_n 1, 0, 0), (13, .iload_n 2, 0, 0), (14, .invokevirtual 139, 94, 2), (17, .goto 4, 0, 0), (20, .iconst (-1), 0, 0), (21, .ireturn, 0, 0)]
/-- 94: CeilingKernel$Machine.tellOfJob(II)I -/
def mj_tb94 : List (Nat × Instr × Nat × Nat) := [(0, .aload_n 0, 0, 0), (1, .getfield 11, 5, 1), (4, .iload_n 1, 0, 0), (5, .aaload, 0, 0), (6, .getfield 104, 8, 1), (9, .astore_n 3, 0, 0), (10, .aload_n 3, 0, 0), (11, .getfield 112, 6, 0), (14, .ifCond .ne 5, 0, 0), (17, .iconst (-1), 0, 0), (18, .ireturn, 0, 0), (19, .iload_n 2, 0, 0), (20, .tableswitch 57 0 3 #[32, 37, 47, 52], 0, 0), (52, .aload_n 3, 0, 0), (53, .getfield 211, 6, 3), (56, .ireturn, 0, 0), (57, .aload_n 0, 0, 0), (58, .getfield 50, 5, 7), (61, .aload_n 3, 0, 0), (62, .getfield 117, 6, 5), (65, .isub, 0, 0), (66, .ireturn, 0, 0), (67, .aload_n 3, 0, 0), (68, .getfield 237, 6, 6), (71, .ireturn, 0, 0), (72, .aload_n 3, 0, 0), (73, .getfield 184, 6, 4), (76, .ireturn, 0, 0), (77, .iconst (-1), 0, 0), (78, .ireturn, 0, 0)]
/-- 95: CeilingKernel.worst(I)I -/
def mj_tb95 : List (Nat × Instr × Nat × Nat) := [(0, .aload_n 0, 0, 0), (1, .iload_n 1, 0, 0), (2, .invokevirtual 116, 59, 1), (5, .ifCond .eq 18, 0, 0), (8, .aload_n 0, 0, 0), (9, .getfield 35, 0, 3), (12, .getfield 119, 5, 1), (15, .iload_n 1, 0, 0), (16, .aaload, 0, 0), (17, .getfield 143, 8, 3), (20, .goto 4, 0, 0), (23, .iconst (-1), 0, 0), (24, .ireturn, 0, 0)]
/-- 96: CeilingKernel.word(II)I -/
def mj_tb96 : List (Nat × Instr × Nat × Nat) := [(0, .aload_n 0, 0, 0), (1, .iload_n 1, 0, 0), (2, .invokevirtual 116, 59, 1), (5, .ifCond .eq 29, 0, 0), (8, .iload_n 2, 0, 0), (9, .bipush 8, 0, 0), (11, .invokestatic 62, 15, 2), (14, .ifCond .eq 20, 0, 0), (17, .aload_n 0, 0, 0), (18, .getfield 35, 0, 3), (21, .getfield 119, 5, 1), (24, .iload_n 1, 0, 0), (25, .aaload, 0, 0), (26, .getfield 146, 8, 2), (29, .iload_n 2, 0, 0), (30, .iaload, 0, 0), (31, .goto 4, 0, 0), (34, .iconst (-1), 0, 0), (35, .ireturn, 0, 0)]
/-- 97: CeilingKernel.entry(II)I -/
def mj_tb97 : List (Nat × Instr × Nat × Nat) := [(0, .aload_n 0, 0, 0), (1, .getfield 35, 0, 3), (4, .getfield 43, 5, 0), (7, .ifCond .eq 18, 0, 0), (10, .aload_n 0, 0, 0), (11, .getfield 35, 0, 3), (14, .getfield 149, 5, 3), (17, .iload_n 1, 0, 0), (18, .iload_n 2, 0, 0), (19, .invokevirtual 153, 98, 2), (22, .goto 4, 0, 0), (25, .iconst (-1), 0, 0), (26, .ireturn, 0, 0)]
/-- 98: CeilingKernel$Journal.tell(II)I -/
def mj_tb98 : List (Nat × Instr × Nat × Nat) := [(0, .iload_n 1, 0, 0), (1, .aload_n 0, 0, 0), (2, .getfield 24, 7, 0), (5, .bipush 32, 0, 0), (7, .invokestatic 28, 1002, 2), (10, .invokestatic 34, 15, 2), (13, .ifCond .ne 5, 0, 0), (16, .iconst (-1), 0, 0), (17, .ireturn, 0, 0), (18, .aload_n 0, 0, 0), (19, .getfield 24, 7, 0), (22, .iconst 1, 0, 0), (23, .isub, 0, 0), (24, .iload_n 1, 0, 0), (25, .isub, 0, 0), (26, .bipush 31, 0, 0), (28, .iand, 0, 0), (29, .istore_n 3, 0, 0), (30, .iload_n 2, 0, 0), (31, .tableswitch 57 0 3 #[29, 36, 43, 50], 0, 0), (60, .aload_n 0, 0, 0), (61, .getfield 9, 7, 1), (64, .iload_n 3, 0, 0), (65, .iaload, 0, 0), (66, .ireturn, 0, 0), (67, .aload_n 0, 0, 0), (68, .getfield 15, 7, 2), (71, .iload_n 3, 0, 0), (72, .iaload, 0, 0), (73, .ireturn, 0, 0), (74, .aload_n 0, 0, 0), (75, .getfield 18, 7, 3), (78, .iload_n 3, 0, 0), (79, .iaload, 0, 0), (80, .ireturn, 0, 0), (81, .aload_n 0, 0, 0), (82, .getfield 21, 7, 4), (85, .iload_n 3, 0, 0), (86, .iaload, 0, 0), (87, .ireturn, 0, 0), (88, .iconst (-1), 0, 0), (89, .ireturn, 0, 0)]
/-- 99: CeilingKernelModel.<init>()V -/
def mj_tb99 : List (Nat × Instr × Nat × Nat) := [(0, .aload_n 0, 0, 0), (1, .invokespecial 1, 1000, 0), (4, .aload_n 0, 0, 0), (5, .iconst (-1), 0, 0), (6, .putfield 7, 10, 3), (9, .aload_n 0, 0, 0), (10, .iconst 5, 0, 0), (11, .newarray .int, 20, 0), (13, .putfield 13, 10, 4), (16, .aload_n 0, 0, 0), (17, .iconst 5, 0, 0), (18, .newarray .int, 20, 0), (20, .putfield 17, 10, 5), (23, .aload_n 0, 0, 0), (24, .iconst 5, 0, 0), (25, .newarray .int, 20, 0), (27, .putfield 20, 10, 6), (30, .aload_n 0, 0, 0), (31, .sipush 180, 0, 0), (34, .newarray .int, 20, 0), (36, .putfield 23, 10, 7), (39, .aload_n 0, 0, 0), (40, .sipush 180, 0, 0), (43, .newarray .int, 20, 0), (45, .putfield 26, 10, 8), (48, .aload_n 0, 0, 0), (49, .sipush 180, 0, 0), (52, .newarray .int, 20, 0), (54, .putfield 29, 10, 9), (57, .aload_n 0, 0, 0), (58, .sipush 180, 0, 0), (61, .newarray .int, 20, 0), (63, .putfield 32, 10, 10), (66, .aload_n 0, 0, 0), (67, .bipush 15, 0, 0), (69, .newarray .int, 20, 0), (71, .putfield 35, 10, 11), (74, .aload_n 0, 0, 0), (75, .bipush 15, 0, 0), (77, .newarray .int, 20, 0), (79, .dup, 0, 0), (80, .iconst 0, 0, 0), (81, .iconst 1, 0, 0), (82, .iastore, 0, 0), (83, .dup, 0, 0), (84, .iconst 1, 0, 0), (85, .iconst 1, 0, 0), (86, .iastore, 0, 0), (87, .dup, 0, 0), (88, .iconst 2, 0, 0), (89, .iconst 4, 0, 0), (90, .iastore, 0, 0), (91, .dup, 0, 0), (92, .iconst 3, 0, 0), (93, .iconst 2, 0, 0), (94, .iastore, 0, 0), (95, .dup, 0, 0), (96, .iconst 4, 0, 0), (97, .iconst 2, 0, 0), (98, .iastore, 0, 0), (99, .dup, 0, 0), (100, .iconst 5, 0, 0), (101, .iconst 2, 0, 0), (102, .iastore, 0, 0), (103, .dup, 0, 0), (104, .bipush 6, 0, 0), (106, .iconst 1, 0, 0), (107, .iastore, 0, 0), (108, .dup, 0, 0), (109, .bipush 7, 0, 0), (111, .iconst 1, 0, 0), (112, .iastore, 0, 0), (113, .dup, 0, 0), (114, .bipush 8, 0, 0), (116, .iconst 2, 0, 0), (117, .iastore, 0, 0), (118, .dup, 0, 0), (119, .bipush 9, 0, 0), (121, .iconst 1, 0, 0), (122, .iastore, 0, 0), (123, .dup, 0, 0), (124, .bipush 10, 0, 0), (126, .iconst 2, 0, 0), (127, .iastore, 0, 0), (128, .dup, 0, 0), (129, .bipush 11, 0, 0), (131, .iconst 1, 0, 0), (132, .iastore, 0, 0), (133, .dup, 0, 0), (134, .bipush 12, 0, 0), (136, .iconst 1, 0, 0), (137, .iastore, 0, 0), (138, .dup, 0, 0), (139, .bipush 13, 0, 0), (141, .iconst 2, 0, 0), (142, .iastore, 0, 0), (143, .dup, 0, 0), (144, .bipush 14, 0, 0), (146, .iconst 2, 0, 0), (147, .iastore, 0, 0), (148, .putfield 38, 10, 12), (151, .aload_n 0, 0, 0), (152, .bipush 12, 0, 0), (154, .newarray .int, 20, 0), (156, .putfield 41, 10, 13), (159, .aload_n 0, 0, 0), (160, .bipush 13, 0, 0), (162, .newarray .int, 20, 0), (164, .putfield 44, 10, 15), (167, .aload_n 0, 0, 0), (168, .iconst 3, 0, 0), (169, .newarray .int, 20, 0), (171, .putfield 47, 10, 16), (174, .aload_n 0, 0, 0), (175, .iconst 5, 0, 0), (176, .newarray .int, 20, 0), (178, .putfield 50, 10, 17), (181, .aload_n 0, 0, 0), (182, .bipush 20, 0, 0), (184, .newarray .int, 20, 0), (186, .putfield 53, 10, 18), (189, .aload_n 0, 0, 0), (190, .iconst 5, 0, 0), (191, .newarray .int, 20, 0), (193, .putfield 56, 10, 19), (196, .aload_n 0, 0, 0), (197, .iconst 5, 0, 0), (198, .newarray .int, 20, 0), (200, .putfield 59, 10, 20), (203, .aload_n 0, 0, 0), (204, .iconst 4, 0, 0), (205, .newarray .int, 20, 0), (207, .putfield 62, 10, 21), (210, .aload_n 0, 0, 0), (211, .iconst 5, 0, 0), (212, .newarray .boolean, 21, 0), (214, .putfield 65, 10, 30), (217, .aload_n 0, 0, 0), (218, .iconst 5, 0, 0), (219, .newarray .boolean, 21, 0), (221, .putfield 69, 10, 31), (224, .aload_n 0, 0, 0), (225, .iconst 5, 0, 0), (226, .newarray .int, 20, 0), (228, .putfield 72, 10, 32), (231, .aload_n 0, 0, 0), (232, .iconst 5, 0, 0), (233, .newarray .int, 20, 0), (235, .putfield 75, 10, 33), (238, .aload_n 0, 0, 0), (239, .iconst 5, 0, 0), (240, .newarray .int, 20, 0), (242, .putfield 78, 10, 34), (245, .aload_n 0, 0, 0), (246, .iconst 5, 0, 0), (247, .newarray .int, 20, 0), (249, .putfield 81, 10, 35), (252, .aload_n 0, 0, 0), (253, .iconst 5, 0, 0), (254, .newarray .int, 20, 0), (256, .putfield 84, 10, 36), (259, .aload_n 0, 0, 0), (260, .iconst 5, 0, 0), (261, .newarray .int, 20, 0), (263, .putfield 87, 10, 37), (266, .aload_n 0, 0, 0), (267, .iconst 5, 0, 0), (268, .newarray .int, 20, 0), (270, .putfield 90, 10, 38), (273, .aload_n 0, 0, 0), (274, .bipush 15, 0, 0), (276, .newarray .int, 20, 0), (278, .putfield 93, 10, 39), (281, .aload_n 0, 0, 0), (282, .bipush 15, 0, 0), (284, .newarray .int, 20, 0), (286, .putfield 96, 10, 40), (289, .aload_n 0, 0, 0), (290, .sipush 180, 0, 0), (293, .newarray .int, 20, 0), (295, .putfield 99, 10, 41), (298, .aload_n 0, 0, 0), (299, .bipush 20, 0, 0), (301, .newarray .int, 20, 0), (303, .putfield 102, 10, 42), (306, .aload_n 0, 0, 0), (307, .bipush 40, 0, 0), (309, .newarray .int, 20, 0), (311, .putfield 105, 10, 43), (314, .aload_n 0, 0, 0), (315, .iconst 5, 0, 0), (316, .newarray .int, 20, 0), (318, .putfield 108, 10, 44), (321, .aload_n 0, 0, 0), (322, .iconst 5, 0, 0), (323, .newarray .int, 20, 0), (325, .putfield 111, 10, 45), (328, .aload_n 0, 0, 0), (329, .iconst 5, 0, 0), (330, .newarray .int, 20, 0), (332, .putfield 114, 10, 46), (335, .aload_n 0, 0, 0), (336, .iconst 2, 0, 0), (337, .newarray .int, 20, 0), (339, .putfield 117, 10, 47), (342, .aload_n 0, 0, 0), (343, .bipush 6, 0, 0), (345, .newarray .int, 20, 0), (347, .putfield 120, 10, 48), (350, .aload_n 0, 0, 0), (351, .iconst 2, 0, 0), (352, .newarray .int, 20, 0), (354, .putfield 123, 10, 49), (357, .aload_n 0, 0, 0), (358, .bipush 32, 0, 0), (360, .newarray .int, 20, 0), (362, .putfield 126, 10, 50), (365, .aload_n 0, 0, 0), (366, .bipush 32, 0, 0), (368, .newarray .int, 20, 0), (370, .putfield 129, 10, 51), (373, .aload_n 0, 0, 0), (374, .bipush 32, 0, 0), (376, .newarray .int, 20, 0), (378, .putfield 132, 10, 52), (381, .aload_n 0, 0, 0), (382, .bipush 32, 0, 0), (384, .newarray .int, 20, 0), (386, .putfield 135, 10, 53), (389, .return_, 0, 0)]
/-- 100: CeilingKernelModel.task(III)I -/
def mj_tb100 : List (Nat × Instr × Nat × Nat) := [(0, .aload_n 0, 0, 0), (1, .getfield 141, 10, 2), (4, .ifCond .ne 42, 0, 0), (7, .aload_n 0, 0, 0), (8, .getfield 138, 10, 0), (11, .iconst 5, 0, 0), (12, .if_icmp .eq 34, 0, 0), (15, .iload_n 1, 0, 0), (16, .iconst 1, 0, 0), (17, .sipush 5000, 0, 0), (20, .invokestatic 145, 101, 3), (23, .ifCond .eq 23, 0, 0), (26, .iload_n 2, 0, 0), (27, .iconst 1, 0, 0), (28, .iload_n 1, 0, 0), (29, .invokestatic 145, 101, 3), (32, .ifCond .eq 14, 0, 0), (35, .iload_n 3, 0, 0), (36, .iconst (-1), 0, 0), (37, .sipush 5000, 0, 0), (40, .invokestatic 145, 101, 3), (43, .ifCond .ne 5, 0, 0), (46, .iconst (-1), 0, 0), (47, .ireturn, 0, 0), (48, .aload_n 0, 0, 0), (49, .getfield 13, 10, 4), (52, .aload_n 0, 0, 0), (53, .getfield 138, 10, 0), (56, .iload_n 1, 0, 0), (57, .iastore, 0, 0), (58, .aload_n 0, 0, 0), (59, .getfield 17, 10, 5), (62, .aload_n 0, 0, 0), (63, .getfield 138, 10, 0), (66, .iload_n 2, 0, 0), (67, .iastore, 0, 0), (68, .aload_n 0, 0, 0), (69, .getfield 20, 10, 6), (72, .aload_n 0, 0, 0), (73, .getfield 138, 10, 0), (76, .iload_n 3, 0, 0), (77, .iastore, 0, 0), (78, .aload_n 0, 0, 0), (79, .iconst 0, 0, 0), (80, .putfield 149, 10, 1), (83, .aload_n 0, 0, 0), (84, .dup, 0, 0), (85, .getfield 138, 10, 0), (88, .iconst 1, 0, 0), (89, .iadd, 0, 0), (90, .putfield 138, 10, 0), (93, .aload_n 0, 0, 0), (94, .getfield 138, 10, 0), (97, .iconst 1, 0, 0), (98, .isub, 0, 0), (99, .ireturn, 0, 0)]
/-- 101: CeilingKernelModel.in(III)Z -/
def mj_tb101 : List (Nat × Instr × Nat × Nat) := [(0, .iload_n 0, 0, 0), (1, .iload_n 1, 0, 0), (2, .if_icmp .lt 12, 0, 0), (5, .iload_n 0, 0, 0), (6, .iload_n 2, 0, 0), (7, .if_icmp .gt 7, 0, 0), (10, .iconst 1, 0, 0), (11, .goto 4, 0, 0), (14, .iconst 0, 0, 0), (15, .ireturn, 0, 0)]
/-- 102: CeilingKernelModel.code(IIIII)Z -/
def mj_tb102 : List (Nat × Instr × Nat × Nat) := [(0, .aload_n 0, 0, 0), (1, .getfield 141, 10, 2), (4, .ifCond .ne 56, 0, 0), (7, .aload_n 0, 0, 0), (8, .iload_n 1, 0, 0), (9, .invokevirtual 152, 103, 1), (12, .ifCond .eq 48, 0, 0), (15, .iload_n 2, 0, 0), (16, .iconst 0, 0, 0), (17, .iconst 2, 0, 0), (18, .invokestatic 145, 101, 3), (21, .ifCond .eq 39, 0, 0), (24, .aload_n 0, 0, 0), (25, .getfield 35, 10, 11), (28, .iconst 3, 0, 0), (29, .iload_n 1, 0, 0), (30, .imul, 0, 0), (31, .iload_n 2, 0, 0), (32, .iadd, 0, 0), (33, .iaload, 0, 0), (34, .bipush 12, 0, 0), (36, .if_icmp .eq 24, 0, 0), (39, .iload_n 3, 0, 0), (40, .iconst 0, 0, 0), (41, .bipush 14, 0, 0), (43, .invokestatic 145, 101, 3), (46, .ifCond .eq 14, 0, 0), (49, .iload_n 3, 0, 0), (50, .iload 4, 0, 0), (52, .iload 5, 0, 0), (54, .invokestatic 156, 104, 3), (57, .ifCond .ne 5, 0, 0), (60, .iconst 0, 0, 0), (61, .ireturn, 0, 0), (62, .iconst 3, 0, 0), (63, .iload_n 1, 0, 0), (64, .imul, 0, 0), (65, .iload_n 2, 0, 0), (66, .iadd, 0, 0), (67, .bipush 12, 0, 0), (69, .imul, 0, 0), (70, .aload_n 0, 0, 0), (71, .getfield 35, 10, 11), (74, .iconst 3, 0, 0), (75, .iload_n 1, 0, 0), (76, .imul, 0, 0), (77, .iload_n 2, 0, 0), (78, .iadd, 0, 0), (79, .iaload, 0, 0), (80, .iadd, 0, 0), (81, .istore 6, 0, 0), (83, .aload_n 0, 0, 0), (84, .getfield 23, 10, 7), (87, .iload 6, 0, 0), (89, .iload_n 3, 0, 0), (90, .iastore, 0, 0), (91, .aload_n 0, 0, 0), (92, .getfield 26, 10, 8), (95, .iload 6, 0, 0), (97, .iload 4, 0, 0), (99, .iastore, 0, 0), (100, .aload_n 0, 0, 0), (101, .getfield 29, 10, 9), (104, .iload 6, 0, 0), (106, .iload 5, 0, 0), (108, .iastore, 0, 0), (109, .aload_n 0, 0, 0), (110, .getfield 35, 10, 11), (113, .iconst 3, 0, 0), (114, .iload_n 1, 0, 0), (115, .imul, 0, 0), (116, .iload_n 2, 0, 0), (117, .iadd, 0, 0), (118, .dup2, 0, 0), (119, .iaload, 0, 0), (120, .iconst 1, 0, 0), (121, .iadd, 0, 0), (122, .iastore, 0, 0), (123, .aload_n 0, 0, 0), (124, .iconst 0, 0, 0), (125, .putfield 149, 10, 1), (128, .iconst 1, 0, 0), (129, .ireturn, 0, 0)]
/-- 103: CeilingKernelModel.isTask(I)Z -/
def mj_tb103 : List (Nat × Instr × Nat × Nat) := [(0, .iload_n 1, 0, 0), (1, .ifCond .lt 15, 0, 0), (4, .iload_n 1, 0, 0), (5, .aload_n 0, 0, 0), (6, .getfield 138, 10, 0), (9, .if_icmp .ge 7, 0, 0), (12, .iconst 1, 0, 0), (13, .goto 4, 0, 0), (16, .iconst 0, 0, 0), (17, .ireturn, 0, 0)]
/-- 104: CeilingKernelModel.named(III)Z -/
def mj_tb104 : List (Nat × Instr × Nat × Nat) := [(0, .iload_n 0, 0, 0), (1, .bipush 6, 0, 0), (3, .if_icmp .lt 13, 0, 0), (6, .iload_n 0, 0, 0), (7, .bipush 10, 0, 0), (9, .if_icmp .gt 7, 0, 0), (12, .iconst 1, 0, 0), (13, .goto 4, 0, 0), (16, .iconst 0, 0, 0), (17, .istore_n 3, 0, 0), (18, .iload_n 3, 0, 0), (19, .ifCond .eq 15, 0, 0), (22, .iload_n 1, 0, 0), (23, .ifCond .ne 7, 0, 0), (26, .iconst 1, 0, 0), (27, .goto 13, 0, 0), (30, .iconst 0, 0, 0), (31, .goto 9, 0, 0), (34, .iload_n 1, 0, 0), (35, .iconst 0, 0, 0), (36, .iconst 3, 0, 0), (37, .invokestatic 145, 101, 3), (40, .istore 4, 0, 0), (42, .iload_n 0, 0, 0), (43, .iconst 5, 0, 0), (44, .if_icmp .eq 9, 0, 0), (47, .iload_n 0, 0, 0), (48, .bipush 6, 0, 0), (50, .if_icmp .ne 7, 0, 0), (53, .iconst 1, 0, 0), (54, .goto 4, 0, 0), (57, .iconst 0, 0, 0), (58, .istore 5, 0, 0), (60, .iload_n 0, 0, 0), (61, .iconst 3, 0, 0), (62, .if_icmp .eq 8, 0, 0), (65, .iload_n 0, 0, 0), (66, .iconst 4, 0, 0), (67, .if_icmp .ne 8, 0, 0), (70, .bipush 7, 0, 0), (72, .goto 73, 0, 0), (75, .iload_n 0, 0, 0), (76, .iconst 5, 0, 0), (77, .if_icmp .ne 8, 0, 0), (80, .bipush 11, 0, 0), (82, .goto 63, 0, 0), (85, .iload_n 0, 0, 0), (86, .bipush 6, 0, 0), (88, .if_icmp .ne 8, 0, 0), (91, .bipush 8, 0, 0), (93, .goto 52, 0, 0), (96, .iload_n 0, 0, 0), (97, .bipush 7, 0, 0), (99, .if_icmp .eq 15, 0, 0), (102, .iload_n 0, 0, 0), (103, .bipush 9, 0, 0), (105, .if_icmp .eq 9, 0, 0), (108, .iload_n 0, 0, 0), (109, .bipush 12, 0, 0), (111, .if_icmp .ne 7, 0, 0), (114, .iconst 0, 0, 0), (115, .goto 30, 0, 0), (118, .iload_n 0, 0, 0), (119, .bipush 10, 0, 0), (121, .if_icmp .ne 7, 0, 0), (124, .iconst 2, 0, 0), (125, .goto 20, 0, 0), (128, .iload_n 0, 0, 0), (129, .bipush 11, 0, 0), (131, .if_icmp .eq 9, 0, 0), (134, .iload_n 0, 0, 0), (135, .bipush 13, 0, 0), (137, .if_icmp .lt 7, 0, 0), (140, .iconst 1, 0, 0), (141, .goto 4, 0, 0), (144, .iconst 3, 0, 0), (145, .istore 6, 0, 0), (147, .iload 4, 0, 0), (149, .ifCond .eq 22, 0, 0), (152, .iload_n 0, 0, 0), (153, .ifCond .eq 14, 0, 0), (156, .iload_n 2, 0, 0), (157, .iload 5, 0, 0), (159, .iload 6, 0, 0), (161, .invokestatic 145, 101, 3), (164, .ifCond .eq 7, 0, 0), (167, .iconst 1, 0, 0), (168, .goto 4, 0, 0), (171, .iconst 0, 0, 0), (172, .ireturn, 0, 0)]
/-- 105: CeilingKernelModel.wipe(I)Z -/
def mj_tb105 : List (Nat × Instr × Nat × Nat) := [(0, .aload_n 0, 0, 0), (1, .getfield 141, 10, 2), (4, .ifCond .ne 11, 0, 0), (7, .aload_n 0, 0, 0), (8, .iload_n 1, 0, 0), (9, .invokevirtual 152, 103, 1), (12, .ifCond .ne 5, 0, 0), (15, .iconst 0, 0, 0), (16, .ireturn, 0, 0), (17, .iconst 0, 0, 0), (18, .istore_n 2, 0, 0), (19, .iload_n 2, 0, 0), (20, .iconst 3, 0, 0), (21, .if_icmp .ge 20, 0, 0), (24, .aload_n 0, 0, 0), (25, .getfield 35, 10, 11), (28, .iconst 3, 0, 0), (29, .iload_n 1, 0, 0), (30, .imul, 0, 0), (31, .iload_n 2, 0, 0), (32, .iadd, 0, 0), (33, .iconst 0, 0, 0), (34, .iastore, 0, 0), (35, .iinc 2 1, 0, 0), (38, .goto (-19), 0, 0), (41, .aload_n 0, 0, 0), (42, .iconst 0, 0, 0), (43, .putfield 149, 10, 1), (46, .iconst 1, 0, 0), (47, .ireturn, 0, 0)]
/-- 106: CeilingKernelModel.admit()I -/
def mj_tb106 : List (Nat × Instr × Nat × Nat) := [(0, .aload_n 0, 0, 0), (1, .getfield 141, 10, 2), (4, .ifCond .eq 5, 0, 0), (7, .iconst (-1), 0, 0), (8, .ireturn, 0, 0), (9, .aload_n 0, 0, 0), (10, .iconst (-1), 0, 0), (11, .putfield 7, 10, 3), (14, .aload_n 0, 0, 0), (15, .iconst 0, 0, 0), (16, .putfield 149, 10, 1), (19, .aload_n 0, 0, 0), (20, .getfield 138, 10, 0), (23, .ifCond .ne 6, 0, 0), (26, .bipush 9, 0, 0), (28, .ireturn, 0, 0), (29, .iconst 0, 0, 0), (30, .istore_n 1, 0, 0), (31, .iload_n 1, 0, 0), (32, .aload_n 0, 0, 0), (33, .getfield 138, 10, 0), (36, .if_icmp .ge 26, 0, 0), (39, .aload_n 0, 0, 0), (40, .iload_n 1, 0, 0), (41, .invokevirtual 193, 107, 1), (44, .istore_n 2, 0, 0), (45, .iload_n 2, 0, 0), (46, .ifCond .le 10, 0, 0), (49, .iload_n 2, 0, 0), (50, .bipush 10, 0, 0), (52, .iload_n 1, 0, 0), (53, .imul, 0, 0), (54, .iadd, 0, 0), (55, .ireturn, 0, 0), (56, .iinc 1 1, 0, 0), (59, .goto (-28), 0, 0), (62, .iconst 0, 0, 0), (63, .istore_n 1, 0, 0), (64, .iload_n 1, 0, 0), (65, .aload_n 0, 0, 0), (66, .getfield 138, 10, 0), (69, .if_icmp .ge 14, 0, 0), (72, .aload_n 0, 0, 0), (73, .iload_n 1, 0, 0), (74, .invokevirtual 196, 115, 1), (77, .iinc 1 1, 0, 0), (80, .goto (-16), 0, 0), (83, .iconst 0, 0, 0), (84, .istore_n 1, 0, 0), (85, .iload_n 1, 0, 0), (86, .iconst 4, 0, 0), (87, .if_icmp .ge 20, 0, 0), (90, .aload_n 0, 0, 0), (91, .getfield 62, 10, 21), (94, .iload_n 1, 0, 0), (95, .aload_n 0, 0, 0), (96, .iload_n 1, 0, 0), (97, .invokevirtual 200, 117, 1), (100, .iastore, 0, 0), (101, .iinc 1 1, 0, 0), (104, .goto (-19), 0, 0), (107, .aload_n 0, 0, 0), (108, .iconst 1, 0, 0), (109, .putfield 149, 10, 1), (112, .iconst 0, 0, 0), (113, .istore_n 1, 0, 0), (114, .iconst 0, 0, 0), (115, .istore_n 2, 0, 0), (116, .iload_n 2, 0, 0), (117, .aload_n 0, 0, 0), (118, .getfield 138, 10, 0), (121, .if_icmp .ge 64, 0, 0), (124, .aload_n 0, 0, 0), (125, .getfield 56, 10, 19), (128, .iload_n 2, 0, 0), (129, .aload_n 0, 0, 0), (130, .iload_n 2, 0, 0), (131, .invokevirtual 203, 118, 1), (134, .iastore, 0, 0), (135, .aload_n 0, 0, 0), (136, .getfield 59, 10, 20), (139, .iload_n 2, 0, 0), (140, .iload_n 1, 0, 0), (141, .ifCond .ne 11, 0, 0), (144, .aload_n 0, 0, 0), (145, .iload_n 2, 0, 0), (146, .invokevirtual 206, 119, 1), (149, .goto 4, 0, 0), (152, .iconst (-1), 0, 0), (153, .iastore, 0, 0), (154, .iload_n 1, 0, 0), (155, .ifCond .ne 22, 0, 0), (158, .aload_n 0, 0, 0), (159, .getfield 59, 10, 20), (162, .iload_n 2, 0, 0), (163, .iaload, 0, 0), (164, .ifCond .ge 13, 0, 0), (167, .bipush 8, 0, 0), (169, .bipush 10, 0, 0), (171, .iload_n 2, 0, 0), (172, .imul, 0, 0), (173, .iadd, 0, 0), (174, .goto 4, 0, 0), (177, .iload_n 1, 0, 0), (178, .istore_n 1, 0, 0), (179, .iinc 2 1, 0, 0), (182, .goto (-66), 0, 0), (185, .iload_n 1, 0, 0), (186, .ireturn, 0, 0)]
/-- 107: CeilingKernelModel.reason(I)I -/
def mj_tb107 : List (Nat × Instr × Nat × Nat) := [(0, .iconst 0, 0, 0), (1, .istore_n 2, 0, 0), (2, .iload_n 2, 0, 0), (3, .iconst 3, 0, 0), (4, .if_icmp .ge 129, 0, 0), (7, .aload_n 0, 0, 0), (8, .getfield 35, 10, 11), (11, .iconst 3, 0, 0), (12, .iload_n 1, 0, 0), (13, .imul, 0, 0), (14, .iload_n 2, 0, 0), (15, .iadd, 0, 0), (16, .iaload, 0, 0), (17, .istore_n 3, 0, 0), (18, .aload_n 0, 0, 0), (19, .iconst 0, 0, 0), (20, .putfield 159, 10, 14), (23, .iconst 0, 0, 0), (24, .istore 4, 0, 0), (26, .iload 4, 0, 0), (28, .iload_n 3, 0, 0), (29, .if_icmp .gt 98, 0, 0), (32, .iload 4, 0, 0), (34, .iload_n 3, 0, 0), (35, .if_icmp .ge 14, 0, 0), (38, .aload_n 0, 0, 0), (39, .iload_n 1, 0, 0), (40, .iload_n 2, 0, 0), (41, .iload 4, 0, 0), (43, .invokevirtual 180, 108, 3), (46, .goto 28, 0, 0), (49, .iload_n 2, 0, 0), (50, .ifCond .ne 11, 0, 0), (53, .iload_n 3, 0, 0), (54, .ifCond .ne 7, 0, 0), (57, .iconst 1, 0, 0), (58, .goto 16, 0, 0), (61, .aload_n 0, 0, 0), (62, .getfield 159, 10, 14), (65, .ifCond .le 8, 0, 0), (68, .bipush 7, 0, 0), (70, .goto 4, 0, 0), (73, .iconst 0, 0, 0), (74, .istore 5, 0, 0), (76, .iload 5, 0, 0), (78, .ifCond .le 17, 0, 0), (81, .aload_n 0, 0, 0), (82, .bipush 100, 0, 0), (84, .iload_n 2, 0, 0), (85, .imul, 0, 0), (86, .iload 4, 0, 0), (88, .iadd, 0, 0), (89, .putfield 7, 10, 3), (92, .iload 5, 0, 0), (94, .ireturn, 0, 0), (95, .aload_n 0, 0, 0), (96, .iconst 3, 0, 0), (97, .iload_n 1, 0, 0), (98, .imul, 0, 0), (99, .iload_n 2, 0, 0), (100, .iadd, 0, 0), (101, .bipush 12, 0, 0), (103, .imul, 0, 0), (104, .iload 4, 0, 0), (106, .iadd, 0, 0), (107, .iload 4, 0, 0), (109, .iload_n 3, 0, 0), (110, .if_icmp .ge 7, 0, 0), (113, .iconst 1, 0, 0), (114, .goto 4, 0, 0), (117, .iconst 0, 0, 0), (118, .invokevirtual 184, 114, 2), (121, .iinc 4 1, 0, 0), (124, .goto (-98), 0, 0), (127, .iinc 2 1, 0, 0), (130, .goto (-128), 0, 0), (133, .iconst 0, 0, 0), (134, .ireturn, 0, 0)]
/-- 108: CeilingKernelModel.meets(III)I -/
def mj_tb108 : List (Nat × Instr × Nat × Nat) := [(0, .iconst 3, 0, 0), (1, .iload_n 1, 0, 0), (2, .imul, 0, 0), (3, .iload_n 2, 0, 0), (4, .iadd, 0, 0), (5, .bipush 12, 0, 0), (7, .imul, 0, 0), (8, .iload_n 3, 0, 0), (9, .iadd, 0, 0), (10, .istore 4, 0, 0), (12, .aload_n 0, 0, 0), (13, .getfield 23, 10, 7), (16, .iload 4, 0, 0), (18, .iaload, 0, 0), (19, .istore 5, 0, 0), (21, .aload_n 0, 0, 0), (22, .getfield 29, 10, 9), (25, .iload 4, 0, 0), (27, .iaload, 0, 0), (28, .istore 6, 0, 0), (30, .aload_n 0, 0, 0), (31, .getfield 159, 10, 14), (34, .ifCond .le 22, 0, 0), (37, .aload_n 0, 0, 0), (38, .getfield 23, 10, 7), (41, .aload_n 0, 0, 0), (42, .getfield 41, 10, 13), (45, .aload_n 0, 0, 0), (46, .getfield 159, 10, 14), (49, .iconst 1, 0, 0), (50, .isub, 0, 0), (51, .iaload, 0, 0), (52, .iaload, 0, 0), (53, .goto 4, 0, 0), (56, .iconst (-1), 0, 0), (57, .istore 7, 0, 0), (59, .iload 5, 0, 0), (61, .bipush 7, 0, 0), (63, .if_icmp .ne 10, 0, 0), (66, .iload 7, 0, 0), (68, .bipush 6, 0, 0), (70, .if_icmp .ne 17, 0, 0), (73, .iload 5, 0, 0), (75, .bipush 9, 0, 0), (77, .if_icmp .ne 12, 0, 0), (80, .iload 7, 0, 0), (82, .bipush 8, 0, 0), (84, .if_icmp .eq 5, 0, 0), (87, .iconst 2, 0, 0), (88, .ireturn, 0, 0), (89, .iload 5, 0, 0), (91, .bipush 6, 0, 0), (93, .if_icmp .ne 13, 0, 0), (96, .aload_n 0, 0, 0), (97, .invokevirtual 166, 109, 0), (100, .iconst 2, 0, 0), (101, .if_icmp .ne 5, 0, 0), (104, .iconst 3, 0, 0), (105, .ireturn, 0, 0), (106, .iload 5, 0, 0), (108, .bipush 10, 0, 0), (110, .if_icmp .ne 25, 0, 0), (113, .iload 6, 0, 0), (115, .iload_n 2, 0, 0), (116, .if_icmp .le 17, 0, 0), (119, .aload_n 0, 0, 0), (120, .getfield 35, 10, 11), (123, .iconst 3, 0, 0), (124, .iload_n 1, 0, 0), (125, .imul, 0, 0), (126, .iload 6, 0, 0), (128, .iadd, 0, 0), (129, .iaload, 0, 0), (130, .ifCond .ne 5, 0, 0), (133, .iconst 4, 0, 0), (134, .ireturn, 0, 0), (135, .iload 5, 0, 0), (137, .bipush 8, 0, 0), (139, .if_icmp .ne 10, 0, 0), (142, .iconst 1, 0, 0), (143, .iload 6, 0, 0), (145, .ishl, 0, 0), (146, .goto 21, 0, 0), (149, .iload 5, 0, 0), (151, .bipush 10, 0, 0), (153, .if_icmp .ne 13, 0, 0), (156, .aload_n 0, 0, 0), (157, .iload_n 1, 0, 0), (158, .iload 6, 0, 0), (160, .invokevirtual 170, 110, 2), (163, .goto 4, 0, 0), (166, .iconst 0, 0, 0), (167, .istore 8, 0, 0), (169, .iload 8, 0, 0), (171, .aload_n 0, 0, 0), (172, .invokevirtual 174, 111, 0), (175, .iand, 0, 0), (176, .ifCond .eq 5, 0, 0), (179, .iconst 5, 0, 0), (180, .ireturn, 0, 0), (181, .iload 5, 0, 0), (183, .iconst 5, 0, 0), (184, .if_icmp .ne 28, 0, 0), (187, .aload_n 0, 0, 0), (188, .iload 4, 0, 0), (190, .iload_n 3, 0, 0), (191, .aload_n 0, 0, 0), (192, .getfield 35, 10, 11), (195, .iconst 3, 0, 0), (196, .iload_n 1, 0, 0), (197, .imul, 0, 0), (198, .iload_n 2, 0, 0), (199, .iadd, 0, 0), (200, .iaload, 0, 0), (201, .invokevirtual 177, 112, 3), (204, .ifCond .ne 8, 0, 0), (207, .bipush 6, 0, 0), (209, .goto 4, 0, 0), (212, .iconst 0, 0, 0), (213, .ireturn, 0, 0)]
/-- 109: CeilingKernelModel.openLoops()I -/
def mj_tb109 : List (Nat × Instr × Nat × Nat) := [(0, .iconst 0, 0, 0), (1, .istore_n 1, 0, 0), (2, .iconst 0, 0, 0), (3, .istore_n 2, 0, 0), (4, .iload_n 2, 0, 0), (5, .aload_n 0, 0, 0), (6, .getfield 159, 10, 14), (9, .if_icmp .ge 33, 0, 0), (12, .aload_n 0, 0, 0), (13, .getfield 23, 10, 7), (16, .aload_n 0, 0, 0), (17, .getfield 41, 10, 13), (20, .iload_n 2, 0, 0), (21, .iaload, 0, 0), (22, .iaload, 0, 0), (23, .bipush 6, 0, 0), (25, .if_icmp .ne 9, 0, 0), (28, .iload_n 1, 0, 0), (29, .iconst 1, 0, 0), (30, .iadd, 0, 0), (31, .goto 4, 0, 0), (34, .iload_n 1, 0, 0), (35, .istore_n 1, 0, 0), (36, .iinc 2 1, 0, 0), (39, .goto (-35), 0, 0), (42, .iload_n 1, 0, 0), (43, .ireturn, 0, 0)]
/-- 110: CeilingKernelModel.may(II)I -/
def mj_tb110 : List (Nat × Instr × Nat × Nat) := [(0, .iconst 0, 0, 0), (1, .istore_n 3, 0, 0), (2, .iconst 1, 0, 0), (3, .iload_n 2, 0, 0), (4, .ishl, 0, 0), (5, .istore 4, 0, 0), (7, .iload_n 2, 0, 0), (8, .istore 5, 0, 0), (10, .iload 5, 0, 0), (12, .iconst 3, 0, 0), (13, .if_icmp .ge 130, 0, 0), (16, .iconst 0, 0, 0), (17, .istore 6, 0, 0), (19, .iload 6, 0, 0), (21, .aload_n 0, 0, 0), (22, .getfield 35, 10, 11), (25, .iconst 3, 0, 0), (26, .iload_n 1, 0, 0), (27, .imul, 0, 0), (28, .iload 5, 0, 0), (30, .iadd, 0, 0), (31, .iaload, 0, 0), (32, .if_icmp .ge 105, 0, 0), (35, .iload 4, 0, 0), (37, .iload 5, 0, 0), (39, .ishr, 0, 0), (40, .iconst 1, 0, 0), (41, .iand, 0, 0), (42, .iconst 1, 0, 0), (43, .if_icmp .ne 94, 0, 0), (46, .iconst 3, 0, 0), (47, .iload_n 1, 0, 0), (48, .imul, 0, 0), (49, .iload 5, 0, 0), (51, .iadd, 0, 0), (52, .bipush 12, 0, 0), (54, .imul, 0, 0), (55, .iload 6, 0, 0), (57, .iadd, 0, 0), (58, .istore 7, 0, 0), (60, .aload_n 0, 0, 0), (61, .getfield 23, 10, 7), (64, .iload 7, 0, 0), (66, .iaload, 0, 0), (67, .bipush 8, 0, 0), (69, .if_icmp .ne 17, 0, 0), (72, .iload_n 3, 0, 0), (73, .iconst 1, 0, 0), (74, .aload_n 0, 0, 0), (75, .getfield 29, 10, 9), (78, .iload 7, 0, 0), (80, .iaload, 0, 0), (81, .ishl, 0, 0), (82, .ior, 0, 0), (83, .goto 4, 0, 0), (86, .iload_n 3, 0, 0), (87, .istore_n 3, 0, 0), (88, .aload_n 0, 0, 0), (89, .getfield 23, 10, 7), (92, .iload 7, 0, 0), (94, .iaload, 0, 0), (95, .bipush 10, 0, 0), (97, .if_icmp .ne 30, 0, 0), (100, .aload_n 0, 0, 0), (101, .getfield 29, 10, 9), (104, .iload 7, 0, 0), (106, .iaload, 0, 0), (107, .iload 5, 0, 0), (109, .if_icmp .le 18, 0, 0), (112, .iload 4, 0, 0), (114, .iconst 1, 0, 0), (115, .aload_n 0, 0, 0), (116, .getfield 29, 10, 9), (119, .iload 7, 0, 0), (121, .iaload, 0, 0), (122, .ishl, 0, 0), (123, .ior, 0, 0), (124, .goto 5, 0, 0), (127, .iload 4, 0, 0), (129, .istore 4, 0, 0), (131, .iinc 6 1, 0, 0), (134, .goto (-115), 0, 0), (137, .iinc 5 1, 0, 0), (140, .goto (-130), 0, 0), (143, .iload_n 3, 0, 0), (144, .ireturn, 0, 0)]
/-- 111: CeilingKernelModel.openLocks()I -/
def mj_tb111 : List (Nat × Instr × Nat × Nat) := [(0, .iconst 0, 0, 0), (1, .istore_n 1, 0, 0), (2, .iconst 0, 0, 0), (3, .istore_n 2, 0, 0), (4, .iload_n 2, 0, 0), (5, .aload_n 0, 0, 0), (6, .getfield 159, 10, 14), (9, .if_icmp .ge 45, 0, 0), (12, .aload_n 0, 0, 0), (13, .getfield 23, 10, 7), (16, .aload_n 0, 0, 0), (17, .getfield 41, 10, 13), (20, .iload_n 2, 0, 0), (21, .iaload, 0, 0), (22, .iaload, 0, 0), (23, .bipush 8, 0, 0), (25, .if_icmp .ne 21, 0, 0), (28, .iload_n 1, 0, 0), (29, .iconst 1, 0, 0), (30, .aload_n 0, 0, 0), (31, .getfield 29, 10, 9), (34, .aload_n 0, 0, 0), (35, .getfield 41, 10, 13), (38, .iload_n 2, 0, 0), (39, .iaload, 0, 0), (40, .iaload, 0, 0), (41, .ishl, 0, 0), (42, .ior, 0, 0), (43, .goto 4, 0, 0), (46, .iload_n 1, 0, 0), (47, .istore_n 1, 0, 0), (48, .iinc 2 1, 0, 0), (51, .goto (-47), 0, 0), (54, .iload_n 1, 0, 0), (55, .ireturn, 0, 0)]
/-- 112: CeilingKernelModel.leads(III)Z -/
def mj_tb112 : List (Nat × Instr × Nat × Nat) := [(0, .iload_n 2, 0, 0), (1, .aload_n 0, 0, 0), (2, .getfield 29, 10, 9), (5, .iload_n 1, 0, 0), (6, .iaload, 0, 0), (7, .iadd, 0, 0), (8, .iconst 1, 0, 0), (9, .iadd, 0, 0), (10, .iload_n 3, 0, 0), (11, .if_icmp .le 5, 0, 0), (14, .iconst 0, 0, 0), (15, .ireturn, 0, 0), (16, .iconst 0, 0, 0), (17, .istore 4, 0, 0), (19, .iload_n 1, 0, 0), (20, .iconst 1, 0, 0), (21, .iadd, 0, 0), (22, .istore 5, 0, 0), (24, .iload 5, 0, 0), (26, .iload_n 1, 0, 0), (27, .aload_n 0, 0, 0), (28, .getfield 29, 10, 9), (31, .iload_n 1, 0, 0), (32, .iaload, 0, 0), (33, .iadd, 0, 0), (34, .if_icmp .gt 31, 0, 0), (37, .iload 4, 0, 0), (39, .aload_n 0, 0, 0), (40, .getfield 23, 10, 7), (43, .iload 5, 0, 0), (45, .iaload, 0, 0), (46, .invokestatic 162, 113, 1), (49, .iadd, 0, 0), (50, .istore 4, 0, 0), (52, .iload 4, 0, 0), (54, .ifCond .ge 5, 0, 0), (57, .iconst 0, 0, 0), (58, .ireturn, 0, 0), (59, .iinc 5 1, 0, 0), (62, .goto (-38), 0, 0), (65, .iload 4, 0, 0), (67, .ifCond .ne 7, 0, 0), (70, .iconst 1, 0, 0), (71, .goto 4, 0, 0), (74, .iconst 0, 0, 0), (75, .ireturn, 0, 0)]
/-- 113: CeilingKernelModel.turn(I)I -/
def mj_tb113 : List (Nat × Instr × Nat × Nat) := [(0, .iload_n 0, 0, 0), (1, .bipush 6, 0, 0), (3, .if_icmp .eq 9, 0, 0), (6, .iload_n 0, 0, 0), (7, .bipush 8, 0, 0), (9, .if_icmp .ne 7, 0, 0), (12, .iconst 1, 0, 0), (13, .goto 20, 0, 0), (16, .iload_n 0, 0, 0), (17, .bipush 7, 0, 0), (19, .if_icmp .eq 9, 0, 0), (22, .iload_n 0, 0, 0), (23, .bipush 9, 0, 0), (25, .if_icmp .ne 7, 0, 0), (28, .iconst (-1), 0, 0), (29, .goto 4, 0, 0), (32, .iconst 0, 0, 0), (33, .ireturn, 0, 0)]
/-- 114: CeilingKernelModel.bracket(IZ)V -/
def mj_tb114 : List (Nat × Instr × Nat × Nat) := [(0, .iload_n 2, 0, 0), (1, .ifCond .eq 15, 0, 0), (4, .aload_n 0, 0, 0), (5, .getfield 23, 10, 7), (8, .iload_n 1, 0, 0), (9, .iaload, 0, 0), (10, .invokestatic 162, 113, 1), (13, .goto 4, 0, 0), (16, .iconst 0, 0, 0), (17, .istore_n 3, 0, 0), (18, .iload_n 3, 0, 0), (19, .ifCond .le 23, 0, 0), (22, .aload_n 0, 0, 0), (23, .getfield 41, 10, 13), (26, .aload_n 0, 0, 0), (27, .getfield 159, 10, 14), (30, .iload_n 1, 0, 0), (31, .iastore, 0, 0), (32, .aload_n 0, 0, 0), (33, .dup, 0, 0), (34, .getfield 159, 10, 14), (37, .iconst 1, 0, 0), (38, .iadd, 0, 0), (39, .putfield 159, 10, 14), (42, .iload_n 3, 0, 0), (43, .ifCond .ge 43, 0, 0), (46, .aload_n 0, 0, 0), (47, .dup, 0, 0), (48, .getfield 159, 10, 14), (51, .iconst 1, 0, 0), (52, .isub, 0, 0), (53, .putfield 159, 10, 14), (56, .aload_n 0, 0, 0), (57, .getfield 32, 10, 10), (60, .iload_n 1, 0, 0), (61, .aload_n 0, 0, 0), (62, .getfield 41, 10, 13), (65, .aload_n 0, 0, 0), (66, .getfield 159, 10, 14), (69, .iaload, 0, 0), (70, .iastore, 0, 0), (71, .aload_n 0, 0, 0), (72, .getfield 32, 10, 10), (75, .aload_n 0, 0, 0), (76, .getfield 41, 10, 13), (79, .aload_n 0, 0, 0), (80, .getfield 159, 10, 14), (83, .iaload, 0, 0), (84, .iload_n 1, 0, 0), (85, .iastore, 0, 0), (86, .return_, 0, 0)]
/-- 115: CeilingKernelModel.weigh(I)V -/
def mj_tb115 : List (Nat × Instr × Nat × Nat) := [(0, .iconst 2, 0, 0), (1, .istore_n 2, 0, 0), (2, .iload_n 2, 0, 0), (3, .ifCond .lt 38, 0, 0), (6, .aload_n 0, 0, 0), (7, .getfield 47, 10, 16), (10, .iload_n 2, 0, 0), (11, .aload_n 0, 0, 0), (12, .iconst 3, 0, 0), (13, .iload_n 1, 0, 0), (14, .imul, 0, 0), (15, .iload_n 2, 0, 0), (16, .iadd, 0, 0), (17, .bipush 12, 0, 0), (19, .imul, 0, 0), (20, .iconst 0, 0, 0), (21, .aload_n 0, 0, 0), (22, .getfield 35, 10, 11), (25, .iconst 3, 0, 0), (26, .iload_n 1, 0, 0), (27, .imul, 0, 0), (28, .iload_n 2, 0, 0), (29, .iadd, 0, 0), (30, .iaload, 0, 0), (31, .invokevirtual 188, 116, 3), (34, .iastore, 0, 0), (35, .iinc 2 (-1), 0, 0), (38, .goto (-36), 0, 0), (41, .aload_n 0, 0, 0), (42, .getfield 50, 10, 17), (45, .iload_n 1, 0, 0), (46, .aload_n 0, 0, 0), (47, .getfield 47, 10, 16), (50, .iconst 0, 0, 0), (51, .iaload, 0, 0), (52, .iastore, 0, 0), (53, .iconst 0, 0, 0), (54, .istore_n 2, 0, 0), (55, .iload_n 2, 0, 0), (56, .iconst 4, 0, 0), (57, .if_icmp .ge 20, 0, 0), (60, .aload_n 0, 0, 0), (61, .getfield 53, 10, 18), (64, .iconst 4, 0, 0), (65, .iload_n 1, 0, 0), (66, .imul, 0, 0), (67, .iload_n 2, 0, 0), (68, .iadd, 0, 0), (69, .iconst 0, 0, 0), (70, .iastore, 0, 0), (71, .iinc 2 1, 0, 0), (74, .goto (-19), 0, 0), (77, .iconst 0, 0, 0), (78, .istore_n 2, 0, 0), (79, .iload_n 2, 0, 0), (80, .iconst 3, 0, 0), (81, .if_icmp .ge 126, 0, 0), (84, .iconst 3, 0, 0), (85, .iload_n 1, 0, 0), (86, .imul, 0, 0), (87, .iload_n 2, 0, 0), (88, .iadd, 0, 0), (89, .bipush 12, 0, 0), (91, .imul, 0, 0), (92, .istore_n 3, 0, 0), (93, .iconst 0, 0, 0), (94, .istore 4, 0, 0), (96, .iload 4, 0, 0), (98, .aload_n 0, 0, 0), (99, .getfield 35, 10, 11), (102, .iconst 3, 0, 0), (103, .iload_n 1, 0, 0), (104, .imul, 0, 0), (105, .iload_n 2, 0, 0), (106, .iadd, 0, 0), (107, .iaload, 0, 0), (108, .if_icmp .ge 93, 0, 0), (111, .aload_n 0, 0, 0), (112, .getfield 23, 10, 7), (115, .iload_n 3, 0, 0), (116, .iload 4, 0, 0), (118, .iadd, 0, 0), (119, .iaload, 0, 0), (120, .bipush 8, 0, 0), (122, .if_icmp .ne 73, 0, 0), (125, .aload_n 0, 0, 0), (126, .iload_n 3, 0, 0), (127, .iload 4, 0, 0), (129, .iconst 1, 0, 0), (130, .iadd, 0, 0), (131, .aload_n 0, 0, 0), (132, .getfield 32, 10, 10), (135, .iload_n 3, 0, 0), (136, .iload 4, 0, 0), (138, .iadd, 0, 0), (139, .iaload, 0, 0), (140, .iload_n 3, 0, 0), (141, .isub, 0, 0), (142, .iconst 1, 0, 0), (143, .iadd, 0, 0), (144, .invokevirtual 188, 116, 3), (147, .istore 5, 0, 0), (149, .iconst 4, 0, 0), (150, .iload_n 1, 0, 0), (151, .imul, 0, 0), (152, .aload_n 0, 0, 0), (153, .getfield 29, 10, 9), (156, .iload_n 3, 0, 0), (157, .iload 4, 0, 0), (159, .iadd, 0, 0), (160, .iaload, 0, 0), (161, .iadd, 0, 0), (162, .istore 6, 0, 0), (164, .aload_n 0, 0, 0), (165, .getfield 53, 10, 18), (168, .iload 6, 0, 0), (170, .iload 5, 0, 0), (172, .aload_n 0, 0, 0), (173, .getfield 53, 10, 18), (176, .iload 6, 0, 0), (178, .iaload, 0, 0), (179, .if_icmp .le 8, 0, 0), (182, .iload 5, 0, 0), (184, .goto 10, 0, 0), (187, .aload_n 0, 0, 0), (188, .getfield 53, 10, 18), (191, .iload 6, 0, 0), (193, .iaload, 0, 0), (194, .iastore, 0, 0), (195, .iinc 4 1, 0, 0), (198, .goto (-102), 0, 0), (201, .iinc 2 1, 0, 0), (204, .goto (-125), 0, 0), (207, .return_, 0, 0)]
/-- 116: CeilingKernelModel.longest(III)I -/
def mj_tb116 : List (Nat × Instr × Nat × Nat) := [(0, .iload_n 2, 0, 0), (1, .istore 4, 0, 0), (3, .iload 4, 0, 0), (5, .iload_n 3, 0, 0), (6, .if_icmp .gt 17, 0, 0), (9, .aload_n 0, 0, 0), (10, .getfield 44, 10, 15), (13, .iload 4, 0, 0), (15, .iconst (-1), 0, 0), (16, .iastore, 0, 0), (17, .iinc 4 1, 0, 0), (20, .goto (-17), 0, 0), (23, .aload_n 0, 0, 0), (24, .getfield 44, 10, 15), (27, .iload_n 2, 0, 0), (28, .iconst 0, 0, 0), (29, .iastore, 0, 0), (30, .iconst 1, 0, 0), (31, .istore 4, 0, 0), (33, .iload_n 2, 0, 0), (34, .istore 5, 0, 0), (36, .iload 5, 0, 0), (38, .iload_n 3, 0, 0), (39, .if_icmp .ge 223, 0, 0), (42, .iload_n 1, 0, 0), (43, .iload 5, 0, 0), (45, .iadd, 0, 0), (46, .istore 6, 0, 0), (48, .aload_n 0, 0, 0), (49, .getfield 23, 10, 7), (52, .iload 6, 0, 0), (54, .iaload, 0, 0), (55, .istore 7, 0, 0), (57, .iload 4, 0, 0), (59, .aload_n 0, 0, 0), (60, .getfield 38, 10, 12), (63, .iload 7, 0, 0), (65, .iaload, 0, 0), (66, .iload 7, 0, 0), (68, .bipush 10, 0, 0), (70, .if_icmp .ne 18, 0, 0), (73, .aload_n 0, 0, 0), (74, .getfield 47, 10, 16), (77, .aload_n 0, 0, 0), (78, .getfield 29, 10, 9), (81, .iload 6, 0, 0), (83, .iaload, 0, 0), (84, .iaload, 0, 0), (85, .goto 4, 0, 0), (88, .iconst 0, 0, 0), (89, .iadd, 0, 0), (90, .imul, 0, 0), (91, .istore 8, 0, 0), (93, .aload_n 0, 0, 0), (94, .getfield 44, 10, 15), (97, .iload 5, 0, 0), (99, .iaload, 0, 0), (100, .ifCond .ge 7, 0, 0), (103, .iconst (-1), 0, 0), (104, .goto 13, 0, 0), (107, .aload_n 0, 0, 0), (108, .getfield 44, 10, 15), (111, .iload 5, 0, 0), (113, .iaload, 0, 0), (114, .iload 8, 0, 0), (116, .iadd, 0, 0), (117, .istore 9, 0, 0), (119, .aload_n 0, 0, 0), (120, .getfield 44, 10, 15), (123, .iload 5, 0, 0), (125, .iconst 1, 0, 0), (126, .iadd, 0, 0), (127, .iload 9, 0, 0), (129, .aload_n 0, 0, 0), (130, .getfield 44, 10, 15), (133, .iload 5, 0, 0), (135, .iconst 1, 0, 0), (136, .iadd, 0, 0), (137, .iaload, 0, 0), (138, .if_icmp .le 8, 0, 0), (141, .iload 9, 0, 0), (143, .goto 12, 0, 0), (146, .aload_n 0, 0, 0), (147, .getfield 44, 10, 15), (150, .iload 5, 0, 0), (152, .iconst 1, 0, 0), (153, .iadd, 0, 0), (154, .iaload, 0, 0), (155, .iastore, 0, 0), (156, .iload 7, 0, 0), (158, .iconst 5, 0, 0), (159, .if_icmp .ne 48, 0, 0), (162, .iload 5, 0, 0), (164, .iconst 1, 0, 0), (165, .iadd, 0, 0), (166, .aload_n 0, 0, 0), (167, .getfield 29, 10, 9), (170, .iload 6, 0, 0), (172, .iaload, 0, 0), (173, .iadd, 0, 0), (174, .istore 10, 0, 0), (176, .aload_n 0, 0, 0), (177, .getfield 44, 10, 15), (180, .iload 10, 0, 0), (182, .iload 9, 0, 0), (184, .aload_n 0, 0, 0), (185, .getfield 44, 10, 15), (188, .iload 10, 0, 0), (190, .iaload, 0, 0), (191, .if_icmp .le 8, 0, 0), (194, .iload 9, 0, 0), (196, .goto 10, 0, 0), (199, .aload_n 0, 0, 0), (200, .getfield 44, 10, 15), (203, .iload 10, 0, 0), (205, .iaload, 0, 0), (206, .iastore, 0, 0), (207, .iload 7, 0, 0), (209, .bipush 6, 0, 0), (211, .if_icmp .ne 16, 0, 0), (214, .iload 4, 0, 0), (216, .aload_n 0, 0, 0), (217, .getfield 29, 10, 9), (220, .iload 6, 0, 0), (222, .iaload, 0, 0), (223, .imul, 0, 0), (224, .goto 30, 0, 0), (227, .iload 7, 0, 0), (229, .bipush 7, 0, 0), (231, .if_icmp .ne 21, 0, 0), (234, .iload 4, 0, 0), (236, .aload_n 0, 0, 0), (237, .getfield 29, 10, 9), (240, .aload_n 0, 0, 0), (241, .getfield 32, 10, 10), (244, .iload 6, 0, 0), (246, .iaload, 0, 0), (247, .iaload, 0, 0), (248, .idiv, 0, 0), (249, .goto 5, 0, 0), (252, .iload 4, 0, 0), (254, .istore 4, 0, 0), (256, .iinc 5 1, 0, 0), (259, .goto (-223), 0, 0), (262, .aload_n 0, 0, 0), (263, .getfield 44, 10, 15), (266, .iload_n 3, 0, 0), (267, .iaload, 0, 0), (268, .ireturn, 0, 0)]
/-- 117: CeilingKernelModel.highest(I)I -/
def mj_tb117 : List (Nat × Instr × Nat × Nat) := [(0, .iconst 0, 0, 0), (1, .istore_n 2, 0, 0), (2, .iload_n 2, 0, 0), (3, .aload_n 0, 0, 0), (4, .getfield 138, 10, 0), (7, .if_icmp .ge 24, 0, 0), (10, .aload_n 0, 0, 0), (11, .getfield 53, 10, 18), (14, .iconst 4, 0, 0), (15, .iload_n 2, 0, 0), (16, .imul, 0, 0), (17, .iload_n 1, 0, 0), (18, .iadd, 0, 0), (19, .iaload, 0, 0), (20, .ifCond .le 5, 0, 0), (23, .iload_n 2, 0, 0), (24, .ireturn, 0, 0), (25, .iinc 2 1, 0, 0), (28, .goto (-26), 0, 0), (31, .iconst (-1), 0, 0), (32, .ireturn, 0, 0)]
/-- 118: CeilingKernelModel.delay(I)I -/
def mj_tb118 : List (Nat × Instr × Nat × Nat) := [(0, .iconst 0, 0, 0), (1, .istore_n 2, 0, 0), (2, .iload_n 1, 0, 0), (3, .iconst 1, 0, 0), (4, .iadd, 0, 0), (5, .istore_n 3, 0, 0), (6, .iload_n 3, 0, 0), (7, .aload_n 0, 0, 0), (8, .getfield 138, 10, 0), (11, .if_icmp .ge 82, 0, 0), (14, .iconst 0, 0, 0), (15, .istore 4, 0, 0), (17, .iload 4, 0, 0), (19, .iconst 4, 0, 0), (20, .if_icmp .ge 67, 0, 0), (23, .aload_n 0, 0, 0), (24, .getfield 53, 10, 18), (27, .iconst 4, 0, 0), (28, .iload_n 3, 0, 0), (29, .imul, 0, 0), (30, .iload 4, 0, 0), (32, .iadd, 0, 0), (33, .iaload, 0, 0), (34, .istore 5, 0, 0), (36, .iload 5, 0, 0), (38, .ifCond .le 18, 0, 0), (41, .aload_n 0, 0, 0), (42, .getfield 62, 10, 21), (45, .iload 4, 0, 0), (47, .iaload, 0, 0), (48, .iload_n 1, 0, 0), (49, .if_icmp .gt 7, 0, 0), (52, .iconst 1, 0, 0), (53, .goto 4, 0, 0), (56, .iconst 0, 0, 0), (57, .istore 6, 0, 0), (59, .iload 6, 0, 0), (61, .ifCond .eq 18, 0, 0), (64, .iload 5, 0, 0), (66, .iconst 2, 0, 0), (67, .iadd, 0, 0), (68, .iload_n 2, 0, 0), (69, .if_icmp .le 10, 0, 0), (72, .iload 5, 0, 0), (74, .iconst 2, 0, 0), (75, .iadd, 0, 0), (76, .goto 4, 0, 0), (79, .iload_n 2, 0, 0), (80, .istore_n 2, 0, 0), (81, .iinc 4 1, 0, 0), (84, .goto (-67), 0, 0), (87, .iinc 3 1, 0, 0), (90, .goto (-84), 0, 0), (93, .iload_n 2, 0, 0), (94, .ireturn, 0, 0)]
/-- 119: CeilingKernelModel.tried(I)I -/
def mj_tb119 : List (Nat × Instr × Nat × Nat) := [(0, .iconst 1, 0, 0), (1, .istore_n 2, 0, 0), (2, .iload_n 2, 0, 0), (3, .aload_n 0, 0, 0), (4, .getfield 17, 10, 5), (7, .iload_n 1, 0, 0), (8, .iaload, 0, 0), (9, .if_icmp .gt 87, 0, 0), (12, .aload_n 0, 0, 0), (13, .getfield 56, 10, 19), (16, .iload_n 1, 0, 0), (17, .iaload, 0, 0), (18, .i2l, 0, 0), (19, .aload_n 0, 0, 0), (20, .getfield 50, 10, 17), (23, .iload_n 1, 0, 0), (24, .iaload, 0, 0), (25, .i2l, 0, 0), (26, .ladd, 0, 0), (27, .ldc2_w 191, 2, 0), (30, .ladd, 0, 0), (31, .lstore_n 3, 0, 0), (32, .iconst 0, 0, 0), (33, .istore 5, 0, 0), (35, .iload 5, 0, 0), (37, .iload_n 1, 0, 0), (38, .if_icmp .ge 43, 0, 0), (41, .lload_n 3, 0, 0), (42, .iload_n 2, 0, 0), (43, .aload_n 0, 0, 0), (44, .getfield 13, 10, 4), (47, .iload 5, 0, 0), (49, .iaload, 0, 0), (50, .iadd, 0, 0), (51, .iconst 1, 0, 0), (52, .isub, 0, 0), (53, .aload_n 0, 0, 0), (54, .getfield 13, 10, 4), (57, .iload 5, 0, 0), (59, .iaload, 0, 0), (60, .idiv, 0, 0), (61, .i2l, 0, 0), (62, .aload_n 0, 0, 0), (63, .getfield 50, 10, 17), (66, .iload 5, 0, 0), (68, .iaload, 0, 0), (69, .iconst 4, 0, 0), (70, .iadd, 0, 0), (71, .i2l, 0, 0), (72, .lmul, 0, 0), (73, .ladd, 0, 0), (74, .lstore_n 3, 0, 0), (75, .iinc 5 1, 0, 0), (78, .goto (-43), 0, 0), (81, .lload_n 3, 0, 0), (82, .iload_n 2, 0, 0), (83, .i2l, 0, 0), (84, .lcmp, 0, 0), (85, .ifCond .ne 5, 0, 0), (88, .iload_n 2, 0, 0), (89, .ireturn, 0, 0), (90, .iinc 2 1, 0, 0), (93, .goto (-91), 0, 0), (96, .iconst (-1), 0, 0), (97, .ireturn, 0, 0)]
/-- 120: CeilingKernelModel.place()I -/
def mj_tb120 : List (Nat × Instr × Nat × Nat) := [(0, .aload_n 0, 0, 0), (1, .getfield 7, 10, 3), (4, .ireturn, 0, 0)]
/-- 121: CeilingKernelModel.wcet(I)I -/
def mj_tb121 : List (Nat × Instr × Nat × Nat) := [(0, .aload_n 0, 0, 0), (1, .getfield 149, 10, 1), (4, .ifCond .eq 20, 0, 0), (7, .aload_n 0, 0, 0), (8, .iload_n 1, 0, 0), (9, .invokevirtual 152, 103, 1), (12, .ifCond .eq 12, 0, 0), (15, .aload_n 0, 0, 0), (16, .getfield 50, 10, 17), (19, .iload_n 1, 0, 0), (20, .iaload, 0, 0), (21, .goto 4, 0, 0), (24, .iconst (-1), 0, 0), (25, .ireturn, 0, 0)]
/-- 122: CeilingKernelModel.section(II)I -/
def mj_tb122 : List (Nat × Instr × Nat × Nat) := [(0, .aload_n 0, 0, 0), (1, .getfield 149, 10, 1), (4, .ifCond .eq 33, 0, 0), (7, .aload_n 0, 0, 0), (8, .iload_n 1, 0, 0), (9, .invokevirtual 152, 103, 1), (12, .ifCond .eq 25, 0, 0), (15, .iload_n 2, 0, 0), (16, .iconst 0, 0, 0), (17, .iconst 3, 0, 0), (18, .invokestatic 145, 101, 3), (21, .ifCond .eq 16, 0, 0), (24, .aload_n 0, 0, 0), (25, .getfield 53, 10, 18), (28, .iconst 4, 0, 0), (29, .iload_n 1, 0, 0), (30, .imul, 0, 0), (31, .iload_n 2, 0, 0), (32, .iadd, 0, 0), (33, .iaload, 0, 0), (34, .goto 4, 0, 0), (37, .iconst (-1), 0, 0), (38, .ireturn, 0, 0)]
/-- 123: CeilingKernelModel.blocking(I)I -/
def mj_tb123 : List (Nat × Instr × Nat × Nat) := [(0, .aload_n 0, 0, 0), (1, .getfield 149, 10, 1), (4, .ifCond .eq 20, 0, 0), (7, .aload_n 0, 0, 0), (8, .iload_n 1, 0, 0), (9, .invokevirtual 152, 103, 1), (12, .ifCond .eq 12, 0, 0), (15, .aload_n 0, 0, 0), (16, .getfield 56, 10, 19), (19, .iload_n 1, 0, 0), (20, .iaload, 0, 0), (21, .goto 4, 0, 0), (24, .iconst (-1), 0, 0), (25, .ireturn, 0, 0)]
/-- 124: CeilingKernelModel.response(I)I -/
def mj_tb124 : List (Nat × Instr × Nat × Nat) := [(0, .aload_n 0, 0, 0), (1, .getfield 149, 10, 1), (4, .ifCond .eq 20, 0, 0), (7, .aload_n 0, 0, 0), (8, .iload_n 1, 0, 0), (9, .invokevirtual 152, 103, 1), (12, .ifCond .eq 12, 0, 0), (15, .aload_n 0, 0, 0), (16, .getfield 59, 10, 20), (19, .iload_n 1, 0, 0), (20, .iaload, 0, 0), (21, .goto 4, 0, 0), (24, .iconst (-1), 0, 0), (25, .ireturn, 0, 0)]
/-- 125: CeilingKernelModel.ceiling(I)I -/
def mj_tb125 : List (Nat × Instr × Nat × Nat) := [(0, .aload_n 0, 0, 0), (1, .getfield 149, 10, 1), (4, .ifCond .eq 21, 0, 0), (7, .iload_n 1, 0, 0), (8, .iconst 0, 0, 0), (9, .iconst 3, 0, 0), (10, .invokestatic 145, 101, 3), (13, .ifCond .eq 12, 0, 0), (16, .aload_n 0, 0, 0), (17, .getfield 62, 10, 21), (20, .iload_n 1, 0, 0), (21, .iaload, 0, 0), (22, .goto 4, 0, 0), (25, .iconst (-1), 0, 0), (26, .ireturn, 0, 0)]
/-- 126: CeilingKernelModel.start()Z -/
def mj_tb126 : List (Nat × Instr × Nat × Nat) := [(0, .aload_n 0, 0, 0), (1, .getfield 141, 10, 2), (4, .ifCond .ne 10, 0, 0), (7, .aload_n 0, 0, 0), (8, .getfield 149, 10, 1), (11, .ifCond .ne 5, 0, 0), (14, .iconst 0, 0, 0), (15, .ireturn, 0, 0), (16, .aload_n 0, 0, 0), (17, .iconst 1, 0, 0), (18, .putfield 141, 10, 2), (21, .aload_n 0, 0, 0), (22, .iconst 0, 0, 0), (23, .putfield 209, 10, 22), (26, .aload_n 0, 0, 0), (27, .iconst (-1), 0, 0), (28, .putfield 212, 10, 23), (31, .aload_n 0, 0, 0), (32, .iconst (-1), 0, 0), (33, .putfield 215, 10, 24), (36, .aload_n 0, 0, 0), (37, .iconst 0, 0, 0), (38, .putfield 218, 10, 25), (41, .aload_n 0, 0, 0), (42, .iconst 0, 0, 0), (43, .putfield 221, 10, 26), (46, .aload_n 0, 0, 0), (47, .iconst 0, 0, 0), (48, .putfield 224, 10, 27), (51, .aload_n 0, 0, 0), (52, .iconst 0, 0, 0), (53, .putfield 227, 10, 28), (56, .aload_n 0, 0, 0), (57, .iconst 0, 0, 0), (58, .putfield 230, 10, 29), (61, .iconst 0, 0, 0), (62, .istore_n 1, 0, 0), (63, .iload_n 1, 0, 0), (64, .iconst 5, 0, 0), (65, .if_icmp .ge 55, 0, 0), (68, .aload_n 0, 0, 0), (69, .getfield 65, 10, 30), (72, .iload_n 1, 0, 0), (73, .iconst 0, 0, 0), (74, .bastore, 0, 0), (75, .aload_n 0, 0, 0), (76, .getfield 108, 10, 44), (79, .iload_n 1, 0, 0), (80, .aload_n 0, 0, 0), (81, .getfield 20, 10, 6), (84, .iload_n 1, 0, 0), (85, .iaload, 0, 0), (86, .ifCond .ge 7, 0, 0), (89, .iconst 0, 0, 0), (90, .goto 9, 0, 0), (93, .aload_n 0, 0, 0), (94, .getfield 20, 10, 6), (97, .iload_n 1, 0, 0), (98, .iaload, 0, 0), (99, .iastore, 0, 0), (100, .aload_n 0, 0, 0), (101, .getfield 111, 10, 45), (104, .iload_n 1, 0, 0), (105, .iconst 0, 0, 0), (106, .iastore, 0, 0), (107, .aload_n 0, 0, 0), (108, .getfield 114, 10, 46), (111, .iload_n 1, 0, 0), (112, .iconst 0, 0, 0), (113, .iastore, 0, 0), (114, .iinc 1 1, 0, 0), (117, .goto (-54), 0, 0), (120, .iconst 0, 0, 0), (121, .istore_n 1, 0, 0), (122, .iload_n 1, 0, 0), (123, .bipush 40, 0, 0), (125, .if_icmp .ge 16, 0, 0), (128, .aload_n 0, 0, 0), (129, .getfield 105, 10, 43), (132, .iload_n 1, 0, 0), (133, .iconst 0, 0, 0), (134, .iastore, 0, 0), (135, .iinc 1 1, 0, 0), (138, .goto (-16), 0, 0), (141, .iconst 0, 0, 0), (142, .istore_n 1, 0, 0), (143, .iload_n 1, 0, 0), (144, .iconst 2, 0, 0), (145, .if_icmp .ge 23, 0, 0), (148, .aload_n 0, 0, 0), (149, .getfield 117, 10, 47), (152, .iload_n 1, 0, 0), (153, .iconst 0, 0, 0), (154, .iastore, 0, 0), (155, .aload_n 0, 0, 0), (156, .getfield 123, 10, 49), (159, .iload_n 1, 0, 0), (160, .iconst 0, 0, 0), (161, .iastore, 0, 0), (162, .iinc 1 1, 0, 0), (165, .goto (-22), 0, 0), (168, .iconst 1, 0, 0), (169, .ireturn, 0, 0)]
/-- 127: CeilingKernelModel.halt()Z -/
def mj_tb127 : List (Nat × Instr × Nat × Nat) := [(0, .aload_n 0, 0, 0), (1, .getfield 141, 10, 2), (4, .istore_n 1, 0, 0), (5, .aload_n 0, 0, 0), (6, .iconst 0, 0, 0), (7, .putfield 141, 10, 2), (10, .iload_n 1, 0, 0), (11, .ireturn, 0, 0)]
/-- 128: CeilingKernelModel.signal(I)Z -/
def mj_tb128 : List (Nat × Instr × Nat × Nat) := [(0, .aload_n 0, 0, 0), (1, .getfield 141, 10, 2), (4, .ifCond .eq 30, 0, 0), (7, .aload_n 0, 0, 0), (8, .iload_n 1, 0, 0), (9, .invokevirtual 152, 103, 1), (12, .ifCond .eq 22, 0, 0), (15, .aload_n 0, 0, 0), (16, .getfield 20, 10, 6), (19, .iload_n 1, 0, 0), (20, .iaload, 0, 0), (21, .ifCond .ge 13, 0, 0), (24, .aload_n 0, 0, 0), (25, .getfield 111, 10, 45), (28, .iload_n 1, 0, 0), (29, .iaload, 0, 0), (30, .iconst 4, 0, 0), (31, .if_icmp .ne 5, 0, 0), (34, .iconst 0, 0, 0), (35, .ireturn, 0, 0), (36, .aload_n 0, 0, 0), (37, .getfield 111, 10, 45), (40, .iload_n 1, 0, 0), (41, .dup2, 0, 0), (42, .iaload, 0, 0), (43, .iconst 1, 0, 0), (44, .iadd, 0, 0), (45, .iastore, 0, 0), (46, .iconst 1, 0, 0), (47, .ireturn, 0, 0)]
/-- 129: CeilingKernelModel.input(II)Z -/
def mj_tb129 : List (Nat × Instr × Nat × Nat) := [(0, .aload_n 0, 0, 0), (1, .getfield 141, 10, 2), (4, .ifCond .eq 12, 0, 0), (7, .iload_n 1, 0, 0), (8, .iconst 0, 0, 0), (9, .iconst 1, 0, 0), (10, .invokestatic 145, 101, 3), (13, .ifCond .ne 5, 0, 0), (16, .iconst 0, 0, 0), (17, .ireturn, 0, 0), (18, .aload_n 0, 0, 0), (19, .getfield 117, 10, 47), (22, .iload_n 1, 0, 0), (23, .iload_n 2, 0, 0), (24, .iastore, 0, 0), (25, .iconst 1, 0, 0), (26, .ireturn, 0, 0)]
/-- 130: CeilingKernelModel.run(I)I -/
def mj_tb130 : List (Nat × Instr × Nat × Nat) := [(0, .aload_n 0, 0, 0), (1, .getfield 141, 10, 2), (4, .ifCond .eq 14, 0, 0), (7, .iload_n 1, 0, 0), (8, .iconst 1, 0, 0), (9, .sipush 500, 0, 0), (12, .invokestatic 145, 101, 3), (15, .ifCond .ne 5, 0, 0), (18, .iconst (-1), 0, 0), (19, .ireturn, 0, 0), (20, .aload_n 0, 0, 0), (21, .getfield 230, 10, 29), (24, .istore_n 2, 0, 0), (25, .iconst 0, 0, 0), (26, .istore_n 3, 0, 0), (27, .iload_n 3, 0, 0), (28, .iload_n 1, 0, 0), (29, .if_icmp .ge 13, 0, 0), (32, .aload_n 0, 0, 0), (33, .invokevirtual 263, 131, 0), (36, .iinc 3 1, 0, 0), (39, .goto (-12), 0, 0), (42, .aload_n 0, 0, 0), (43, .getfield 230, 10, 29), (46, .iload_n 2, 0, 0), (47, .isub, 0, 0), (48, .ireturn, 0, 0)]
/-- 131: CeilingKernelModel.cycle()V -/
def mj_tb131 : List (Nat × Instr × Nat × Nat) := [(0, .iconst 0, 0, 0), (1, .istore_n 1, 0, 0), (2, .iload_n 1, 0, 0), (3, .aload_n 0, 0, 0), (4, .getfield 138, 10, 0), (7, .if_icmp .ge 45, 0, 0), (10, .aload_n 0, 0, 0), (11, .getfield 209, 10, 22), (14, .aload_n 0, 0, 0), (15, .getfield 108, 10, 44), (18, .iload_n 1, 0, 0), (19, .iaload, 0, 0), (20, .if_icmp .lt 26, 0, 0), (23, .aload_n 0, 0, 0), (24, .getfield 20, 10, 6), (27, .iload_n 1, 0, 0), (28, .iaload, 0, 0), (29, .ifCond .ge 12, 0, 0), (32, .aload_n 0, 0, 0), (33, .getfield 111, 10, 45), (36, .iload_n 1, 0, 0), (37, .iaload, 0, 0), (38, .ifCond .le 8, 0, 0), (41, .aload_n 0, 0, 0), (42, .iload_n 1, 0, 0), (43, .invokevirtual 240, 132, 1), (46, .iinc 1 1, 0, 0), (49, .goto (-47), 0, 0), (52, .aload_n 0, 0, 0), (53, .invokevirtual 243, 134, 0), (56, .istore_n 1, 0, 0), (57, .aload_n 0, 0, 0), (58, .dup, 0, 0), (59, .getfield 209, 10, 22), (62, .iconst 1, 0, 0), (63, .iadd, 0, 0), (64, .putfield 209, 10, 22), (67, .aload_n 0, 0, 0), (68, .iload_n 1, 0, 0), (69, .putfield 212, 10, 23), (72, .iload_n 1, 0, 0), (73, .ifCond .ge 16, 0, 0), (76, .aload_n 0, 0, 0), (77, .dup, 0, 0), (78, .getfield 227, 10, 28), (81, .iconst 1, 0, 0), (82, .iadd, 0, 0), (83, .putfield 227, 10, 28), (86, .goto 63, 0, 0), (89, .iload_n 1, 0, 0), (90, .aload_n 0, 0, 0), (91, .getfield 215, 10, 24), (94, .if_icmp .eq 23, 0, 0), (97, .aload_n 0, 0, 0), (98, .dup, 0, 0), (99, .getfield 218, 10, 25), (102, .iconst 1, 0, 0), (103, .iadd, 0, 0), (104, .putfield 218, 10, 25), (107, .aload_n 0, 0, 0), (108, .getfield 75, 10, 33), (111, .iload_n 1, 0, 0), (112, .iconst 1, 0, 0), (113, .iastore, 0, 0), (114, .goto 35, 0, 0), (117, .aload_n 0, 0, 0), (118, .getfield 75, 10, 33), (121, .iload_n 1, 0, 0), (122, .iaload, 0, 0), (123, .ifCond .le 16, 0, 0), (126, .aload_n 0, 0, 0), (127, .getfield 75, 10, 33), (130, .iload_n 1, 0, 0), (131, .dup2, 0, 0), (132, .iaload, 0, 0), (133, .iconst 1, 0, 0), (134, .isub, 0, 0), (135, .iastore, 0, 0), (136, .goto 13, 0, 0), (139, .aload_n 0, 0, 0), (140, .getfield 78, 10, 34), (143, .iload_n 1, 0, 0), (144, .dup2, 0, 0), (145, .iaload, 0, 0), (146, .iconst 1, 0, 0), (147, .iadd, 0, 0), (148, .iastore, 0, 0), (149, .aload_n 0, 0, 0), (150, .iload_n 1, 0, 0), (151, .putfield 215, 10, 24), (154, .iload_n 1, 0, 0), (155, .ifCond .lt 64, 0, 0), (158, .aload_n 0, 0, 0), (159, .getfield 69, 10, 31), (162, .iload_n 1, 0, 0), (163, .iconst 1, 0, 0), (164, .bastore, 0, 0), (165, .iconst 3, 0, 0), (166, .iload_n 1, 0, 0), (167, .imul, 0, 0), (168, .aload_n 0, 0, 0), (169, .getfield 87, 10, 37), (172, .iload_n 1, 0, 0), (173, .iaload, 0, 0), (174, .iadd, 0, 0), (175, .bipush 12, 0, 0), (177, .imul, 0, 0), (178, .aload_n 0, 0, 0), (179, .getfield 90, 10, 38), (182, .iload_n 1, 0, 0), (183, .iaload, 0, 0), (184, .iadd, 0, 0), (185, .istore_n 2, 0, 0), (186, .aload_n 0, 0, 0), (187, .getfield 78, 10, 34), (190, .iload_n 1, 0, 0), (191, .iaload, 0, 0), (192, .aload_n 0, 0, 0), (193, .getfield 38, 10, 12), (196, .aload_n 0, 0, 0), (197, .getfield 23, 10, 7), (200, .iload_n 2, 0, 0), (201, .iaload, 0, 0), (202, .iaload, 0, 0), (203, .if_icmp .ne 16, 0, 0), (206, .aload_n 0, 0, 0), (207, .getfield 78, 10, 34), (210, .iload_n 1, 0, 0), (211, .iconst 0, 0, 0), (212, .iastore, 0, 0), (213, .aload_n 0, 0, 0), (214, .iload_n 1, 0, 0), (215, .iload_n 2, 0, 0), (216, .invokevirtual 246, 136, 2), (219, .return_, 0, 0)]
/-- 132: CeilingKernelModel.release(I)V -/
def mj_tb132 : List (Nat × Instr × Nat × Nat) := [(0, .aload_n 0, 0, 0), (1, .getfield 108, 10, 44), (4, .iload_n 1, 0, 0), (5, .aload_n 0, 0, 0), (6, .getfield 209, 10, 22), (9, .aload_n 0, 0, 0), (10, .getfield 13, 10, 4), (13, .iload_n 1, 0, 0), (14, .iaload, 0, 0), (15, .iadd, 0, 0), (16, .iastore, 0, 0), (17, .aload_n 0, 0, 0), (18, .getfield 111, 10, 45), (21, .iload_n 1, 0, 0), (22, .aload_n 0, 0, 0), (23, .getfield 20, 10, 6), (26, .iload_n 1, 0, 0), (27, .iaload, 0, 0), (28, .ifCond .ge 14, 0, 0), (31, .aload_n 0, 0, 0), (32, .getfield 111, 10, 45), (35, .iload_n 1, 0, 0), (36, .iaload, 0, 0), (37, .iconst 1, 0, 0), (38, .isub, 0, 0), (39, .goto 4, 0, 0), (42, .iconst 0, 0, 0), (43, .iastore, 0, 0), (44, .aload_n 0, 0, 0), (45, .getfield 65, 10, 30), (48, .iload_n 1, 0, 0), (49, .baload, 0, 0), (50, .ifCond .eq 31, 0, 0), (53, .aload_n 0, 0, 0), (54, .dup, 0, 0), (55, .getfield 224, 10, 27), (58, .iconst 1, 0, 0), (59, .iadd, 0, 0), (60, .putfield 224, 10, 27), (63, .aload_n 0, 0, 0), (64, .iconst 4, 0, 0), (65, .iload_n 1, 0, 0), (66, .aload_n 0, 0, 0), (67, .getfield 209, 10, 22), (70, .aload_n 0, 0, 0), (71, .getfield 72, 10, 32), (74, .iload_n 1, 0, 0), (75, .iaload, 0, 0), (76, .isub, 0, 0), (77, .invokevirtual 233, 133, 3), (80, .return_, 0, 0), (81, .aload_n 0, 0, 0), (82, .getfield 65, 10, 30), (85, .iload_n 1, 0, 0), (86, .iconst 1, 0, 0), (87, .bastore, 0, 0), (88, .aload_n 0, 0, 0), (89, .getfield 69, 10, 31), (92, .iload_n 1, 0, 0), (93, .iconst 0, 0, 0), (94, .bastore, 0, 0), (95, .aload_n 0, 0, 0), (96, .getfield 72, 10, 32), (99, .iload_n 1, 0, 0), (100, .aload_n 0, 0, 0), (101, .getfield 209, 10, 22), (104, .iastore, 0, 0), (105, .aload_n 0, 0, 0), (106, .getfield 78, 10, 34), (109, .iload_n 1, 0, 0), (110, .iconst 0, 0, 0), (111, .iastore, 0, 0), (112, .aload_n 0, 0, 0), (113, .getfield 81, 10, 35), (116, .iload_n 1, 0, 0), (117, .iconst 0, 0, 0), (118, .iastore, 0, 0), (119, .aload_n 0, 0, 0), (120, .getfield 84, 10, 36), (123, .iload_n 1, 0, 0), (124, .iconst 0, 0, 0), (125, .iastore, 0, 0), (126, .aload_n 0, 0, 0), (127, .getfield 87, 10, 37), (130, .iload_n 1, 0, 0), (131, .iconst 0, 0, 0), (132, .iastore, 0, 0), (133, .aload_n 0, 0, 0), (134, .getfield 90, 10, 38), (137, .iload_n 1, 0, 0), (138, .iconst 0, 0, 0), (139, .iastore, 0, 0), (140, .iconst 0, 0, 0), (141, .istore_n 2, 0, 0), (142, .iload_n 2, 0, 0), (143, .iconst 4, 0, 0), (144, .if_icmp .ge 20, 0, 0), (147, .aload_n 0, 0, 0), (148, .getfield 102, 10, 42), (151, .iconst 4, 0, 0), (152, .iload_n 1, 0, 0), (153, .imul, 0, 0), (154, .iload_n 2, 0, 0), (155, .iadd, 0, 0), (156, .iconst 0, 0, 0), (157, .iastore, 0, 0), (158, .iinc 2 1, 0, 0), (161, .goto (-19), 0, 0), (164, .return_, 0, 0)]
/-- 133: CeilingKernelModel.enter(III)V -/
def mj_tb133 : List (Nat × Instr × Nat × Nat) := [(0, .aload_n 0, 0, 0), (1, .getfield 230, 10, 29), (4, .bipush 31, 0, 0), (6, .iand, 0, 0), (7, .istore 4, 0, 0), (9, .aload_n 0, 0, 0), (10, .getfield 126, 10, 50), (13, .iload 4, 0, 0), (15, .iload_n 1, 0, 0), (16, .iastore, 0, 0), (17, .aload_n 0, 0, 0), (18, .getfield 129, 10, 51), (21, .iload 4, 0, 0), (23, .iload_n 2, 0, 0), (24, .iastore, 0, 0), (25, .aload_n 0, 0, 0), (26, .getfield 132, 10, 52), (29, .iload 4, 0, 0), (31, .aload_n 0, 0, 0), (32, .getfield 209, 10, 22), (35, .iastore, 0, 0), (36, .aload_n 0, 0, 0), (37, .getfield 135, 10, 53), (40, .iload 4, 0, 0), (42, .iload_n 3, 0, 0), (43, .iastore, 0, 0), (44, .aload_n 0, 0, 0), (45, .dup, 0, 0), (46, .getfield 230, 10, 29), (49, .iconst 1, 0, 0), (50, .iadd, 0, 0), (51, .putfield 230, 10, 29), (54, .return_, 0, 0)]
/-- 134: CeilingKernelModel.chosen()I -/
def mj_tb134 : List (Nat × Instr × Nat × Nat) := [(0, .iconst (-1), 0, 0), (1, .istore_n 1, 0, 0), (2, .iconst 0, 0, 0), (3, .istore_n 2, 0, 0), (4, .iload_n 2, 0, 0), (5, .aload_n 0, 0, 0), (6, .getfield 138, 10, 0), (9, .if_icmp .ge 76, 0, 0), (12, .aload_n 0, 0, 0), (13, .getfield 65, 10, 30), (16, .iload_n 2, 0, 0), (17, .baload, 0, 0), (18, .ifCond .eq 61, 0, 0), (21, .aload_n 0, 0, 0), (22, .iload_n 2, 0, 0), (23, .invokevirtual 237, 135, 1), (26, .istore_n 3, 0, 0), (27, .iload_n 1, 0, 0), (28, .ifCond .ge 8, 0, 0), (31, .bipush 9, 0, 0), (33, .goto 8, 0, 0), (36, .aload_n 0, 0, 0), (37, .iload_n 1, 0, 0), (38, .invokevirtual 237, 135, 1), (41, .istore 4, 0, 0), (43, .iload_n 3, 0, 0), (44, .iload 4, 0, 0), (46, .if_icmp .lt 27, 0, 0), (49, .iload_n 3, 0, 0), (50, .iload 4, 0, 0), (52, .if_icmp .ne 25, 0, 0), (55, .aload_n 0, 0, 0), (56, .getfield 69, 10, 31), (59, .iload_n 2, 0, 0), (60, .baload, 0, 0), (61, .ifCond .eq 16, 0, 0), (64, .aload_n 0, 0, 0), (65, .getfield 69, 10, 31), (68, .iload_n 1, 0, 0), (69, .baload, 0, 0), (70, .ifCond .ne 7, 0, 0), (73, .iload_n 2, 0, 0), (74, .goto 4, 0, 0), (77, .iload_n 1, 0, 0), (78, .istore_n 1, 0, 0), (79, .iinc 2 1, 0, 0), (82, .goto (-78), 0, 0), (85, .iload_n 1, 0, 0), (86, .ireturn, 0, 0)]
/-- 135: CeilingKernelModel.active(I)I -/
def mj_tb135 : List (Nat × Instr × Nat × Nat) := [(0, .iload_n 1, 0, 0), (1, .istore_n 2, 0, 0), (2, .iconst 0, 0, 0), (3, .istore_n 3, 0, 0), (4, .iload_n 3, 0, 0), (5, .iconst 4, 0, 0), (6, .if_icmp .ge 44, 0, 0), (9, .aload_n 0, 0, 0), (10, .getfield 84, 10, 36), (13, .iload_n 1, 0, 0), (14, .iaload, 0, 0), (15, .iload_n 3, 0, 0), (16, .ishr, 0, 0), (17, .iconst 1, 0, 0), (18, .iand, 0, 0), (19, .iconst 1, 0, 0), (20, .if_icmp .ne 22, 0, 0), (23, .aload_n 0, 0, 0), (24, .getfield 62, 10, 21), (27, .iload_n 3, 0, 0), (28, .iaload, 0, 0), (29, .iload_n 2, 0, 0), (30, .if_icmp .ge 12, 0, 0), (33, .aload_n 0, 0, 0), (34, .getfield 62, 10, 21), (37, .iload_n 3, 0, 0), (38, .iaload, 0, 0), (39, .goto 4, 0, 0), (42, .iload_n 2, 0, 0), (43, .istore_n 2, 0, 0), (44, .iinc 3 1, 0, 0), (47, .goto (-43), 0, 0), (50, .iload_n 2, 0, 0), (51, .ireturn, 0, 0)]
/-- 136: CeilingKernelModel.perform(II)V -/
def mj_tb136 : List (Nat × Instr × Nat × Nat) := [(0, .aload_n 0, 0, 0), (1, .getfield 23, 10, 7), (4, .iload_n 2, 0, 0), (5, .iaload, 0, 0), (6, .istore_n 3, 0, 0), (7, .aload_n 0, 0, 0), (8, .getfield 29, 10, 9), (11, .iload_n 2, 0, 0), (12, .iaload, 0, 0), (13, .istore 4, 0, 0), (15, .iconst 4, 0, 0), (16, .iload_n 1, 0, 0), (17, .imul, 0, 0), (18, .aload_n 0, 0, 0), (19, .getfield 26, 10, 8), (22, .iload_n 2, 0, 0), (23, .iaload, 0, 0), (24, .iadd, 0, 0), (25, .istore 5, 0, 0), (27, .aload_n 0, 0, 0), (28, .getfield 81, 10, 35), (31, .iload_n 1, 0, 0), (32, .dup2, 0, 0), (33, .iaload, 0, 0), (34, .iconst 1, 0, 0), (35, .iadd, 0, 0), (36, .iastore, 0, 0), (37, .aload_n 0, 0, 0), (38, .getfield 90, 10, 38), (41, .iload_n 1, 0, 0), (42, .dup2, 0, 0), (43, .iaload, 0, 0), (44, .iconst 1, 0, 0), (45, .iadd, 0, 0), (46, .iastore, 0, 0), (47, .iload_n 3, 0, 0), (48, .iconst 2, 0, 0), (49, .if_icmp .ne 24, 0, 0), (52, .aload_n 0, 0, 0), (53, .getfield 102, 10, 42), (56, .iconst 4, 0, 0), (57, .iload_n 1, 0, 0), (58, .imul, 0, 0), (59, .iload 4, 0, 0), (61, .iadd, 0, 0), (62, .iaload, 0, 0), (63, .ifCond .ne 10, 0, 0), (66, .aload_n 0, 0, 0), (67, .iload_n 1, 0, 0), (68, .iconst 3, 0, 0), (69, .invokevirtual 250, 137, 2), (72, .return_, 0, 0), (73, .iload_n 3, 0, 0), (74, .iconst 4, 0, 0), (75, .if_icmp .le 15, 0, 0), (78, .iload_n 3, 0, 0), (79, .bipush 11, 0, 0), (81, .if_icmp .eq 9, 0, 0), (84, .iload_n 3, 0, 0), (85, .bipush 12, 0, 0), (87, .if_icmp .ne 16, 0, 0), (90, .aload_n 0, 0, 0), (91, .iload_n 1, 0, 0), (92, .iload_n 3, 0, 0), (93, .iload 5, 0, 0), (95, .iload 4, 0, 0), (97, .invokevirtual 253, 138, 4), (100, .goto 31, 0, 0), (103, .iload_n 3, 0, 0), (104, .bipush 13, 0, 0), (106, .if_icmp .lt 16, 0, 0), (109, .aload_n 0, 0, 0), (110, .iload_n 1, 0, 0), (111, .iload_n 3, 0, 0), (112, .iload 5, 0, 0), (114, .iload 4, 0, 0), (116, .invokevirtual 257, 139, 4), (119, .goto 12, 0, 0), (122, .aload_n 0, 0, 0), (123, .iload_n 1, 0, 0), (124, .iload_n 3, 0, 0), (125, .iload 5, 0, 0), (127, .iload_n 2, 0, 0), (128, .invokevirtual 260, 140, 4), (131, .iconst 0, 0, 0), (132, .istore 6, 0, 0), (134, .iload 6, 0, 0), (136, .iconst 3, 0, 0), (137, .if_icmp .ge 80, 0, 0), (140, .aload_n 0, 0, 0), (141, .getfield 87, 10, 37), (144, .iload_n 1, 0, 0), (145, .iaload, 0, 0), (146, .ifCond .le 71, 0, 0), (149, .aload_n 0, 0, 0), (150, .getfield 90, 10, 38), (153, .iload_n 1, 0, 0), (154, .iaload, 0, 0), (155, .aload_n 0, 0, 0), (156, .getfield 35, 10, 11), (159, .iconst 3, 0, 0), (160, .iload_n 1, 0, 0), (161, .imul, 0, 0), (162, .aload_n 0, 0, 0), (163, .getfield 87, 10, 37), (166, .iload_n 1, 0, 0), (167, .iaload, 0, 0), (168, .iadd, 0, 0), (169, .iaload, 0, 0), (170, .if_icmp .ne 47, 0, 0), (173, .iconst 3, 0, 0), (174, .iload_n 1, 0, 0), (175, .imul, 0, 0), (176, .aload_n 0, 0, 0), (177, .getfield 87, 10, 37), (180, .iload_n 1, 0, 0), (181, .iaload, 0, 0), (182, .iadd, 0, 0), (183, .istore 7, 0, 0), (185, .aload_n 0, 0, 0), (186, .getfield 87, 10, 37), (189, .iload_n 1, 0, 0), (190, .aload_n 0, 0, 0), (191, .getfield 93, 10, 39), (194, .iload 7, 0, 0), (196, .iaload, 0, 0), (197, .iastore, 0, 0), (198, .aload_n 0, 0, 0), (199, .getfield 90, 10, 38), (202, .iload_n 1, 0, 0), (203, .aload_n 0, 0, 0), (204, .getfield 96, 10, 40), (207, .iload 7, 0, 0), (209, .iaload, 0, 0), (210, .iastore, 0, 0), (211, .iinc 6 1, 0, 0), (214, .goto (-80), 0, 0), (217, .aload_n 0, 0, 0), (218, .getfield 87, 10, 37), (221, .iload_n 1, 0, 0), (222, .iaload, 0, 0), (223, .ifCond .ne 26, 0, 0), (226, .aload_n 0, 0, 0), (227, .getfield 90, 10, 38), (230, .iload_n 1, 0, 0), (231, .iaload, 0, 0), (232, .aload_n 0, 0, 0), (233, .getfield 35, 10, 11), (236, .iconst 3, 0, 0), (237, .iload_n 1, 0, 0), (238, .imul, 0, 0), (239, .iaload, 0, 0), (240, .if_icmp .ne 9, 0, 0), (243, .aload_n 0, 0, 0), (244, .iload_n 1, 0, 0), (245, .iconst 2, 0, 0), (246, .invokevirtual 250, 137, 2), (249, .return_, 0, 0)]
/-- 137: CeilingKernelModel.end(II)V -/
def mj_tb137 : List (Nat × Instr × Nat × Nat) := [(0, .aload_n 0, 0, 0), (1, .getfield 209, 10, 22), (4, .aload_n 0, 0, 0), (5, .getfield 72, 10, 32), (8, .iload_n 1, 0, 0), (9, .iaload, 0, 0), (10, .isub, 0, 0), (11, .istore_n 3, 0, 0), (12, .aload_n 0, 0, 0), (13, .iload_n 2, 0, 0), (14, .iload_n 1, 0, 0), (15, .iload_n 3, 0, 0), (16, .invokevirtual 233, 133, 3), (19, .aload_n 0, 0, 0), (20, .getfield 65, 10, 30), (23, .iload_n 1, 0, 0), (24, .iconst 0, 0, 0), (25, .bastore, 0, 0), (26, .aload_n 0, 0, 0), (27, .iconst (-1), 0, 0), (28, .putfield 215, 10, 24), (31, .aload_n 0, 0, 0), (32, .getfield 114, 10, 46), (35, .iload_n 1, 0, 0), (36, .iload_n 3, 0, 0), (37, .aload_n 0, 0, 0), (38, .getfield 114, 10, 46), (41, .iload_n 1, 0, 0), (42, .iaload, 0, 0), (43, .if_icmp .le 7, 0, 0), (46, .iload_n 3, 0, 0), (47, .goto 9, 0, 0), (50, .aload_n 0, 0, 0), (51, .getfield 114, 10, 46), (54, .iload_n 1, 0, 0), (55, .iaload, 0, 0), (56, .iastore, 0, 0), (57, .aload_n 0, 0, 0), (58, .iload_n 3, 0, 0), (59, .aload_n 0, 0, 0), (60, .getfield 17, 10, 5), (63, .iload_n 1, 0, 0), (64, .iaload, 0, 0), (65, .if_icmp .le 12, 0, 0), (68, .aload_n 0, 0, 0), (69, .getfield 221, 10, 26), (72, .iconst 1, 0, 0), (73, .iadd, 0, 0), (74, .goto 7, 0, 0), (77, .aload_n 0, 0, 0), (78, .getfield 221, 10, 26), (81, .putfield 221, 10, 26), (84, .return_, 0, 0)]
/-- 138: CeilingKernelModel.move(IIII)V -/
def mj_tb138 : List (Nat × Instr × Nat × Nat) := [(0, .iload_n 2, 0, 0), (1, .iconst 4, 0, 0), (2, .if_icmp .ne 24, 0, 0), (5, .aload_n 0, 0, 0), (6, .getfield 105, 10, 43), (9, .bipush 8, 0, 0), (11, .iload_n 1, 0, 0), (12, .imul, 0, 0), (13, .iload 4, 0, 0), (15, .iadd, 0, 0), (16, .aload_n 0, 0, 0), (17, .getfield 102, 10, 42), (20, .iload_n 3, 0, 0), (21, .iaload, 0, 0), (22, .iastore, 0, 0), (23, .goto 137, 0, 0), (26, .iload_n 2, 0, 0), (27, .bipush 12, 0, 0), (29, .if_icmp .ne 18, 0, 0), (32, .aload_n 0, 0, 0), (33, .iconst 1, 0, 0), (34, .iload_n 1, 0, 0), (35, .aload_n 0, 0, 0), (36, .getfield 102, 10, 42), (39, .iload_n 3, 0, 0), (40, .iaload, 0, 0), (41, .invokevirtual 233, 133, 3), (44, .goto 116, 0, 0), (47, .iload_n 2, 0, 0), (48, .ifCond .ne 14, 0, 0), (51, .aload_n 0, 0, 0), (52, .getfield 102, 10, 42), (55, .iload_n 3, 0, 0), (56, .iload 4, 0, 0), (58, .iastore, 0, 0), (59, .goto 101, 0, 0), (62, .iload_n 2, 0, 0), (63, .bipush 11, 0, 0), (65, .if_icmp .ne 19, 0, 0), (68, .aload_n 0, 0, 0), (69, .getfield 102, 10, 42), (72, .iload_n 3, 0, 0), (73, .aload_n 0, 0, 0), (74, .getfield 117, 10, 47), (77, .iload 4, 0, 0), (79, .iaload, 0, 0), (80, .iastore, 0, 0), (81, .goto 79, 0, 0), (84, .iload_n 2, 0, 0), (85, .iconst 3, 0, 0), (86, .if_icmp .ne 24, 0, 0), (89, .aload_n 0, 0, 0), (90, .getfield 102, 10, 42), (93, .iload_n 3, 0, 0), (94, .aload_n 0, 0, 0), (95, .getfield 105, 10, 43), (98, .bipush 8, 0, 0), (100, .iload_n 1, 0, 0), (101, .imul, 0, 0), (102, .iload 4, 0, 0), (104, .iadd, 0, 0), (105, .iaload, 0, 0), (106, .iastore, 0, 0), (107, .goto 53, 0, 0), (110, .aload_n 0, 0, 0), (111, .getfield 102, 10, 42), (114, .iload_n 3, 0, 0), (115, .iload_n 2, 0, 0), (116, .iconst 1, 0, 0), (117, .if_icmp .ne 24, 0, 0), (120, .aload_n 0, 0, 0), (121, .getfield 102, 10, 42), (124, .iload_n 3, 0, 0), (125, .iaload, 0, 0), (126, .aload_n 0, 0, 0), (127, .getfield 102, 10, 42), (130, .iconst 4, 0, 0), (131, .iload_n 1, 0, 0), (132, .imul, 0, 0), (133, .iload 4, 0, 0), (135, .iadd, 0, 0), (136, .iaload, 0, 0), (137, .iadd, 0, 0), (138, .goto 21, 0, 0), (141, .aload_n 0, 0, 0), (142, .getfield 102, 10, 42), (145, .iload_n 3, 0, 0), (146, .iaload, 0, 0), (147, .aload_n 0, 0, 0), (148, .getfield 102, 10, 42), (151, .iconst 4, 0, 0), (152, .iload_n 1, 0, 0), (153, .imul, 0, 0), (154, .iload 4, 0, 0), (156, .iadd, 0, 0), (157, .iaload, 0, 0), (158, .idiv, 0, 0), (159, .iastore, 0, 0), (160, .return_, 0, 0)]
/-- 139: CeilingKernelModel.post(IIII)V -/
def mj_tb139 : List (Nat × Instr × Nat × Nat) := [(0, .iload_n 2, 0, 0), (1, .bipush 13, 0, 0), (3, .if_icmp .ne 22, 0, 0), (6, .aload_n 0, 0, 0), (7, .getfield 123, 10, 49), (10, .iload 4, 0, 0), (12, .iaload, 0, 0), (13, .iconst 3, 0, 0), (14, .if_icmp .ge 7, 0, 0), (17, .iconst 1, 0, 0), (18, .goto 22, 0, 0), (21, .iconst 0, 0, 0), (22, .goto 18, 0, 0), (25, .aload_n 0, 0, 0), (26, .getfield 123, 10, 49), (29, .iload 4, 0, 0), (31, .iaload, 0, 0), (32, .ifCond .le 7, 0, 0), (35, .iconst 1, 0, 0), (36, .goto 4, 0, 0), (39, .iconst 0, 0, 0), (40, .istore 5, 0, 0), (42, .iload 5, 0, 0), (44, .ifCond .eq 43, 0, 0), (47, .iload_n 2, 0, 0), (48, .bipush 13, 0, 0), (50, .if_icmp .ne 37, 0, 0), (53, .aload_n 0, 0, 0), (54, .getfield 120, 10, 48), (57, .iconst 3, 0, 0), (58, .iload 4, 0, 0), (60, .imul, 0, 0), (61, .aload_n 0, 0, 0), (62, .getfield 123, 10, 49), (65, .iload 4, 0, 0), (67, .iaload, 0, 0), (68, .iadd, 0, 0), (69, .aload_n 0, 0, 0), (70, .getfield 102, 10, 42), (73, .iload_n 3, 0, 0), (74, .iaload, 0, 0), (75, .iastore, 0, 0), (76, .aload_n 0, 0, 0), (77, .getfield 123, 10, 49), (80, .iload 4, 0, 0), (82, .dup2, 0, 0), (83, .iaload, 0, 0), (84, .iconst 1, 0, 0), (85, .iadd, 0, 0), (86, .iastore, 0, 0), (87, .iload 5, 0, 0), (89, .ifCond .eq 77, 0, 0), (92, .iload_n 2, 0, 0), (93, .bipush 14, 0, 0), (95, .if_icmp .ne 71, 0, 0), (98, .aload_n 0, 0, 0), (99, .getfield 102, 10, 42), (102, .iload_n 3, 0, 0), (103, .aload_n 0, 0, 0), (104, .getfield 120, 10, 48), (107, .iconst 3, 0, 0), (108, .iload 4, 0, 0), (110, .imul, 0, 0), (111, .iaload, 0, 0), (112, .iastore, 0, 0), (113, .aload_n 0, 0, 0), (114, .getfield 120, 10, 48), (117, .iconst 3, 0, 0), (118, .iload 4, 0, 0), (120, .imul, 0, 0), (121, .aload_n 0, 0, 0), (122, .getfield 120, 10, 48), (125, .iconst 3, 0, 0), (126, .iload 4, 0, 0), (128, .imul, 0, 0), (129, .iconst 1, 0, 0), (130, .iadd, 0, 0), (131, .iaload, 0, 0), (132, .iastore, 0, 0), (133, .aload_n 0, 0, 0), (134, .getfield 120, 10, 48), (137, .iconst 3, 0, 0), (138, .iload 4, 0, 0), (140, .imul, 0, 0), (141, .iconst 1, 0, 0), (142, .iadd, 0, 0), (143, .aload_n 0, 0, 0), (144, .getfield 120, 10, 48), (147, .iconst 3, 0, 0), (148, .iload 4, 0, 0), (150, .imul, 0, 0), (151, .iconst 2, 0, 0), (152, .iadd, 0, 0), (153, .iaload, 0, 0), (154, .iastore, 0, 0), (155, .aload_n 0, 0, 0), (156, .getfield 123, 10, 49), (159, .iload 4, 0, 0), (161, .dup2, 0, 0), (162, .iaload, 0, 0), (163, .iconst 1, 0, 0), (164, .isub, 0, 0), (165, .iastore, 0, 0), (166, .aload_n 0, 0, 0), (167, .getfield 102, 10, 42), (170, .iconst 4, 0, 0), (171, .iload_n 1, 0, 0), (172, .imul, 0, 0), (173, .iload 5, 0, 0), (175, .ifCond .eq 7, 0, 0), (178, .iconst 1, 0, 0), (179, .goto 4, 0, 0), (182, .iconst 0, 0, 0), (183, .iastore, 0, 0), (184, .return_, 0, 0)]
/-- 140: CeilingKernelModel.jump(IIII)V -/
def mj_tb140 : List (Nat × Instr × Nat × Nat) := [(0, .aload_n 0, 0, 0), (1, .getfield 29, 10, 9), (4, .iload 4, 0, 0), (6, .iaload, 0, 0), (7, .istore 5, 0, 0), (9, .iload_n 2, 0, 0), (10, .iconst 5, 0, 0), (11, .if_icmp .ne 30, 0, 0), (14, .aload_n 0, 0, 0), (15, .getfield 102, 10, 42), (18, .iload_n 3, 0, 0), (19, .iaload, 0, 0), (20, .ifCond .ne 21, 0, 0), (23, .aload_n 0, 0, 0), (24, .getfield 90, 10, 38), (27, .iload_n 1, 0, 0), (28, .aload_n 0, 0, 0), (29, .getfield 90, 10, 38), (32, .iload_n 1, 0, 0), (33, .iaload, 0, 0), (34, .iload 5, 0, 0), (36, .iadd, 0, 0), (37, .iastore, 0, 0), (38, .goto 206, 0, 0), (41, .iload_n 2, 0, 0), (42, .bipush 6, 0, 0), (44, .if_icmp .ne 15, 0, 0), (47, .aload_n 0, 0, 0), (48, .getfield 99, 10, 41), (51, .iload 4, 0, 0), (53, .iload 5, 0, 0), (55, .iastore, 0, 0), (56, .goto 188, 0, 0), (59, .iload_n 2, 0, 0), (60, .bipush 7, 0, 0), (62, .if_icmp .ne 63, 0, 0), (65, .aload_n 0, 0, 0), (66, .getfield 32, 10, 10), (69, .iload 4, 0, 0), (71, .iaload, 0, 0), (72, .istore 6, 0, 0), (74, .aload_n 0, 0, 0), (75, .getfield 99, 10, 41), (78, .iload 6, 0, 0), (80, .dup2, 0, 0), (81, .iaload, 0, 0), (82, .iconst 1, 0, 0), (83, .isub, 0, 0), (84, .iastore, 0, 0), (85, .aload_n 0, 0, 0), (86, .getfield 90, 10, 38), (89, .iload_n 1, 0, 0), (90, .aload_n 0, 0, 0), (91, .getfield 99, 10, 41), (94, .iload 6, 0, 0), (96, .iaload, 0, 0), (97, .ifCond .le 18, 0, 0), (100, .aload_n 0, 0, 0), (101, .getfield 90, 10, 38), (104, .iload_n 1, 0, 0), (105, .iaload, 0, 0), (106, .iload 6, 0, 0), (108, .iadd, 0, 0), (109, .iload 4, 0, 0), (111, .isub, 0, 0), (112, .goto 9, 0, 0), (115, .aload_n 0, 0, 0), (116, .getfield 90, 10, 38), (119, .iload_n 1, 0, 0), (120, .iaload, 0, 0), (121, .iastore, 0, 0), (122, .goto 122, 0, 0), (125, .iload_n 2, 0, 0), (126, .bipush 8, 0, 0), (128, .if_icmp .ne 23, 0, 0), (131, .aload_n 0, 0, 0), (132, .getfield 84, 10, 36), (135, .iload_n 1, 0, 0), (136, .aload_n 0, 0, 0), (137, .getfield 84, 10, 36), (140, .iload_n 1, 0, 0), (141, .iaload, 0, 0), (142, .iconst 1, 0, 0), (143, .iload 5, 0, 0), (145, .ishl, 0, 0), (146, .ior, 0, 0), (147, .iastore, 0, 0), (148, .goto 96, 0, 0), (151, .iload_n 2, 0, 0), (152, .bipush 9, 0, 0), (154, .if_icmp .ne 35, 0, 0), (157, .aload_n 0, 0, 0), (158, .getfield 84, 10, 36), (161, .iload_n 1, 0, 0), (162, .aload_n 0, 0, 0), (163, .getfield 84, 10, 36), (166, .iload_n 1, 0, 0), (167, .iaload, 0, 0), (168, .iconst 1, 0, 0), (169, .aload_n 0, 0, 0), (170, .getfield 29, 10, 9), (173, .aload_n 0, 0, 0), (174, .getfield 32, 10, 10), (177, .iload 4, 0, 0), (179, .iaload, 0, 0), (180, .iaload, 0, 0), (181, .ishl, 0, 0), (182, .iconst (-1), 0, 0), (183, .ixor, 0, 0), (184, .iand, 0, 0), (185, .iastore, 0, 0), (186, .goto 58, 0, 0), (189, .iload_n 2, 0, 0), (190, .bipush 10, 0, 0), (192, .if_icmp .ne 52, 0, 0), (195, .aload_n 0, 0, 0), (196, .getfield 93, 10, 39), (199, .iconst 3, 0, 0), (200, .iload_n 1, 0, 0), (201, .imul, 0, 0), (202, .iload 5, 0, 0), (204, .iadd, 0, 0), (205, .aload_n 0, 0, 0), (206, .getfield 87, 10, 37), (209, .iload_n 1, 0, 0), (210, .iaload, 0, 0), (211, .iastore, 0, 0), (212, .aload_n 0, 0, 0), (213, .getfield 96, 10, 40), (216, .iconst 3, 0, 0), (217, .iload_n 1, 0, 0), (218, .imul, 0, 0), (219, .iload 5, 0, 0), (221, .iadd, 0, 0), (222, .aload_n 0, 0, 0), (223, .getfield 90, 10, 38), (226, .iload_n 1, 0, 0), (227, .iaload, 0, 0), (228, .iastore, 0, 0), (229, .aload_n 0, 0, 0), (230, .getfield 87, 10, 37), (233, .iload_n 1, 0, 0), (234, .iload 5, 0, 0), (236, .iastore, 0, 0), (237, .aload_n 0, 0, 0), (238, .getfield 90, 10, 38), (241, .iload_n 1, 0, 0), (242, .iconst 0, 0, 0), (243, .iastore, 0, 0), (244, .return_, 0, 0)]
/-- 141: CeilingKernelModel.state(I)I -/
def mj_tb141 : List (Nat × Instr × Nat × Nat) := [(0, .aload_n 0, 0, 0), (1, .getfield 141, 10, 2), (4, .ifCond .eq 13, 0, 0), (7, .iload_n 1, 0, 0), (8, .iconst 0, 0, 0), (9, .bipush 6, 0, 0), (11, .invokestatic 145, 101, 3), (14, .ifCond .ne 5, 0, 0), (17, .iconst (-1), 0, 0), (18, .ireturn, 0, 0), (19, .iload_n 1, 0, 0), (20, .ifCond .ne 10, 0, 0), (23, .aload_n 0, 0, 0), (24, .getfield 209, 10, 22), (27, .goto 67, 0, 0), (30, .iload_n 1, 0, 0), (31, .iconst 1, 0, 0), (32, .if_icmp .ne 10, 0, 0), (35, .aload_n 0, 0, 0), (36, .getfield 212, 10, 23), (39, .goto 55, 0, 0), (42, .iload_n 1, 0, 0), (43, .iconst 2, 0, 0), (44, .if_icmp .ne 10, 0, 0), (47, .aload_n 0, 0, 0), (48, .getfield 218, 10, 25), (51, .goto 43, 0, 0), (54, .iload_n 1, 0, 0), (55, .iconst 3, 0, 0), (56, .if_icmp .ne 10, 0, 0), (59, .aload_n 0, 0, 0), (60, .getfield 230, 10, 29), (63, .goto 31, 0, 0), (66, .iload_n 1, 0, 0), (67, .iconst 4, 0, 0), (68, .if_icmp .ne 10, 0, 0), (71, .aload_n 0, 0, 0), (72, .getfield 221, 10, 26), (75, .goto 19, 0, 0), (78, .iload_n 1, 0, 0), (79, .iconst 5, 0, 0), (80, .if_icmp .ne 10, 0, 0), (83, .aload_n 0, 0, 0), (84, .getfield 224, 10, 27), (87, .goto 7, 0, 0), (90, .aload_n 0, 0, 0), (91, .getfield 227, 10, 28), (94, .ireturn, 0, 0)]
/-- 142: CeilingKernelModel.job(II)I -/
def mj_tb142 : List (Nat × Instr × Nat × Nat) := [(0, .aload_n 0, 0, 0), (1, .getfield 141, 10, 2), (4, .ifCond .eq 29, 0, 0), (7, .aload_n 0, 0, 0), (8, .iload_n 1, 0, 0), (9, .invokevirtual 152, 103, 1), (12, .ifCond .eq 21, 0, 0), (15, .aload_n 0, 0, 0), (16, .getfield 65, 10, 30), (19, .iload_n 1, 0, 0), (20, .baload, 0, 0), (21, .ifCond .eq 12, 0, 0), (24, .iload_n 2, 0, 0), (25, .iconst 0, 0, 0), (26, .iconst 3, 0, 0), (27, .invokestatic 145, 101, 3), (30, .ifCond .ne 5, 0, 0), (33, .iconst (-1), 0, 0), (34, .ireturn, 0, 0), (35, .iload_n 2, 0, 0), (36, .ifCond .ne 11, 0, 0), (39, .aload_n 0, 0, 0), (40, .iload_n 1, 0, 0), (41, .invokevirtual 237, 135, 1), (44, .goto 42, 0, 0), (47, .iload_n 2, 0, 0), (48, .iconst 1, 0, 0), (49, .if_icmp .ne 17, 0, 0), (52, .aload_n 0, 0, 0), (53, .getfield 209, 10, 22), (56, .aload_n 0, 0, 0), (57, .getfield 72, 10, 32), (60, .iload_n 1, 0, 0), (61, .iaload, 0, 0), (62, .isub, 0, 0), (63, .goto 23, 0, 0), (66, .iload_n 2, 0, 0), (67, .iconst 2, 0, 0), (68, .if_icmp .ne 12, 0, 0), (71, .aload_n 0, 0, 0), (72, .getfield 81, 10, 35), (75, .iload_n 1, 0, 0), (76, .iaload, 0, 0), (77, .goto 9, 0, 0), (80, .aload_n 0, 0, 0), (81, .getfield 84, 10, 36), (84, .iload_n 1, 0, 0), (85, .iaload, 0, 0), (86, .ireturn, 0, 0)]
/-- 143: CeilingKernelModel.worst(I)I -/
def mj_tb143 : List (Nat × Instr × Nat × Nat) := [(0, .aload_n 0, 0, 0), (1, .getfield 141, 10, 2), (4, .ifCond .eq 20, 0, 0), (7, .aload_n 0, 0, 0), (8, .iload_n 1, 0, 0), (9, .invokevirtual 152, 103, 1), (12, .ifCond .eq 12, 0, 0), (15, .aload_n 0, 0, 0), (16, .getfield 114, 10, 46), (19, .iload_n 1, 0, 0), (20, .iaload, 0, 0), (21, .goto 4, 0, 0), (24, .iconst (-1), 0, 0), (25, .ireturn, 0, 0)]
/-- 144: CeilingKernelModel.word(II)I -/
def mj_tb144 : List (Nat × Instr × Nat × Nat) := [(0, .aload_n 0, 0, 0), (1, .getfield 141, 10, 2), (4, .ifCond .eq 35, 0, 0), (7, .aload_n 0, 0, 0), (8, .iload_n 1, 0, 0), (9, .invokevirtual 152, 103, 1), (12, .ifCond .eq 27, 0, 0), (15, .iload_n 2, 0, 0), (16, .iconst 0, 0, 0), (17, .bipush 7, 0, 0), (19, .invokestatic 145, 101, 3), (22, .ifCond .eq 17, 0, 0), (25, .aload_n 0, 0, 0), (26, .getfield 105, 10, 43), (29, .bipush 8, 0, 0), (31, .iload_n 1, 0, 0), (32, .imul, 0, 0), (33, .iload_n 2, 0, 0), (34, .iadd, 0, 0), (35, .iaload, 0, 0), (36, .goto 4, 0, 0), (39, .iconst (-1), 0, 0), (40, .ireturn, 0, 0)]
/-- 145: CeilingKernelModel.entry(II)I -/
def mj_tb145 : List (Nat × Instr × Nat × Nat) := [(0, .aload_n 0, 0, 0), (1, .getfield 141, 10, 2), (4, .ifCond .eq 30, 0, 0), (7, .iload_n 1, 0, 0), (8, .iconst 0, 0, 0), (9, .bipush 31, 0, 0), (11, .invokestatic 145, 101, 3), (14, .ifCond .eq 20, 0, 0), (17, .iload_n 1, 0, 0), (18, .aload_n 0, 0, 0), (19, .getfield 230, 10, 29), (22, .if_icmp .ge 12, 0, 0), (25, .iload_n 2, 0, 0), (26, .iconst 0, 0, 0), (27, .iconst 3, 0, 0), (28, .invokestatic 145, 101, 3), (31, .ifCond .ne 5, 0, 0), (34, .iconst (-1), 0, 0), (35, .ireturn, 0, 0), (36, .aload_n 0, 0, 0), (37, .getfield 230, 10, 29), (40, .iconst 1, 0, 0), (41, .isub, 0, 0), (42, .iload_n 1, 0, 0), (43, .isub, 0, 0), (44, .bipush 31, 0, 0), (46, .iand, 0, 0), (47, .istore_n 3, 0, 0), (48, .iload_n 2, 0, 0), (49, .ifCond .ne 12, 0, 0), (52, .aload_n 0, 0, 0), (53, .getfield 126, 10, 50), (56, .iload_n 3, 0, 0), (57, .iaload, 0, 0), (58, .goto 37, 0, 0), (61, .iload_n 2, 0, 0), (62, .iconst 1, 0, 0), (63, .if_icmp .ne 12, 0, 0), (66, .aload_n 0, 0, 0), (67, .getfield 129, 10, 51), (70, .iload_n 3, 0, 0), (71, .iaload, 0, 0), (72, .goto 23, 0, 0), (75, .iload_n 2, 0, 0), (76, .iconst 2, 0, 0), (77, .if_icmp .ne 12, 0, 0), (80, .aload_n 0, 0, 0), (81, .getfield 132, 10, 52), (84, .iload_n 3, 0, 0), (85, .iaload, 0, 0), (86, .goto 9, 0, 0), (89, .aload_n 0, 0, 0), (90, .getfield 135, 10, 53), (93, .iload_n 3, 0, 0), (94, .iaload, 0, 0), (95, .ireturn, 0, 0)]
/-- 146: CeilingKernelLaw.law([I)Z -/
def mj_tb146 : List (Nat × Instr × Nat × Nat) := [(0, .new 7, 0, 0), (3, .dup, 0, 0), (4, .invokespecial 9, 0, 0), (7, .astore_n 1, 0, 0), (8, .new 10, 10, 0), (11, .dup, 0, 0), (12, .invokespecial 12, 99, 0), (15, .astore_n 2, 0, 0), (16, .iconst 0, 0, 0), (17, .istore_n 3, 0, 0), (18, .iload_n 3, 0, 0), (19, .aload_n 0, 0, 0), (20, .arraylength, 0, 0), (21, .bipush 6, 0, 0), (23, .isub, 0, 0), (24, .if_icmp .gt 640, 0, 0), (27, .aload_n 0, 0, 0), (28, .iload_n 3, 0, 0), (29, .iaload, 0, 0), (30, .bipush 31, 0, 0), (32, .iand, 0, 0), (33, .tableswitch 625 0 19 #[95, 138, 201, 224, 237, 250, 273, 306, 329, 352, 375, 388, 401, 424, 457, 480, 503, 536, 559, 592], 0, 0), (128, .aload_n 1, 0, 0), (129, .aload_n 0, 0, 0), (130, .iload_n 3, 0, 0), (131, .iconst 1, 0, 0), (132, .iadd, 0, 0), (133, .iaload, 0, 0), (134, .aload_n 0, 0, 0), (135, .iload_n 3, 0, 0), (136, .iconst 2, 0, 0), (137, .iadd, 0, 0), (138, .iaload, 0, 0), (139, .aload_n 0, 0, 0), (140, .iload_n 3, 0, 0), (141, .iconst 3, 0, 0), (142, .iadd, 0, 0), (143, .iaload, 0, 0), (144, .invokevirtual 13, 10, 3), (147, .aload_n 2, 0, 0), (148, .aload_n 0, 0, 0), (149, .iload_n 3, 0, 0), (150, .iconst 1, 0, 0), (151, .iadd, 0, 0), (152, .iaload, 0, 0), (153, .aload_n 0, 0, 0), (154, .iload_n 3, 0, 0), (155, .iconst 2, 0, 0), (156, .iadd, 0, 0), (157, .iaload, 0, 0), (158, .aload_n 0, 0, 0), (159, .iload_n 3, 0, 0), (160, .iconst 3, 0, 0), (161, .iadd, 0, 0), (162, .iaload, 0, 0), (163, .invokevirtual 17, 100, 3), (166, .if_icmp .eq 492, 0, 0), (169, .iconst 0, 0, 0), (170, .ireturn, 0, 0), (171, .aload_n 1, 0, 0), (172, .aload_n 0, 0, 0), (173, .iload_n 3, 0, 0), (174, .iconst 1, 0, 0), (175, .iadd, 0, 0), (176, .iaload, 0, 0), (177, .aload_n 0, 0, 0), (178, .iload_n 3, 0, 0), (179, .iconst 2, 0, 0), (180, .iadd, 0, 0), (181, .iaload, 0, 0), (182, .aload_n 0, 0, 0), (183, .iload_n 3, 0, 0), (184, .iconst 3, 0, 0), (185, .iadd, 0, 0), (186, .iaload, 0, 0), (187, .aload_n 0, 0, 0), (188, .iload_n 3, 0, 0), (189, .iconst 4, 0, 0), (190, .iadd, 0, 0), (191, .iaload, 0, 0), (192, .aload_n 0, 0, 0), (193, .iload_n 3, 0, 0), (194, .iconst 5, 0, 0), (195, .iadd, 0, 0), (196, .iaload, 0, 0), (197, .invokevirtual 18, 13, 5), (200, .aload_n 2, 0, 0), (201, .aload_n 0, 0, 0), (202, .iload_n 3, 0, 0), (203, .iconst 1, 0, 0), (204, .iadd, 0, 0), (205, .iaload, 0, 0), (206, .aload_n 0, 0, 0), (207, .iload_n 3, 0, 0), (208, .iconst 2, 0, 0), (209, .iadd, 0, 0), (210, .iaload, 0, 0), (211, .aload_n 0, 0, 0), (212, .iload_n 3, 0, 0), (213, .iconst 3, 0, 0), (214, .iadd, 0, 0), (215, .iaload, 0, 0), (216, .aload_n 0, 0, 0), (217, .iload_n 3, 0, 0), (218, .iconst 4, 0, 0), (219, .iadd, 0, 0), (220, .iaload, 0, 0), (221, .aload_n 0, 0, 0), (222, .iload_n 3, 0, 0), (223, .iconst 5, 0, 0), (224, .iadd, 0, 0), (225, .iaload, 0, 0), (226, .invokevirtual 22, 102, 5), (229, .if_icmp .eq 429, 0, 0), (232, .iconst 0, 0, 0), (233, .ireturn, 0, 0), (234, .aload_n 1, 0, 0), (235, .aload_n 0, 0, 0), (236, .iload_n 3, 0, 0), (237, .iconst 1, 0, 0), (238, .iadd, 0, 0), (239, .iaload, 0, 0), (240, .invokevirtual 23, 18, 1), (243, .aload_n 2, 0, 0), (244, .aload_n 0, 0, 0), (245, .iload_n 3, 0, 0), (246, .iconst 1, 0, 0), (247, .iadd, 0, 0), (248, .iaload, 0, 0), (249, .invokevirtual 27, 105, 1), (252, .if_icmp .eq 406, 0, 0), (255, .iconst 0, 0, 0), (256, .ireturn, 0, 0), (257, .aload_n 1, 0, 0), (258, .invokevirtual 28, 20, 0), (261, .aload_n 2, 0, 0), (262, .invokevirtual 32, 106, 0), (265, .if_icmp .eq 393, 0, 0), (268, .iconst 0, 0, 0), (269, .ireturn, 0, 0), (270, .aload_n 1, 0, 0), (271, .invokevirtual 33, 45, 0), (274, .aload_n 2, 0, 0), (275, .invokevirtual 36, 120, 0), (278, .if_icmp .eq 380, 0, 0), (281, .iconst 0, 0, 0), (282, .ireturn, 0, 0), (283, .aload_n 1, 0, 0), (284, .aload_n 0, 0, 0), (285, .iload_n 3, 0, 0), (286, .iconst 1, 0, 0), (287, .iadd, 0, 0), (288, .iaload, 0, 0), (289, .invokevirtual 37, 46, 1), (292, .aload_n 2, 0, 0), (293, .aload_n 0, 0, 0), (294, .iload_n 3, 0, 0), (295, .iconst 1, 0, 0), (296, .iadd, 0, 0), (297, .iaload, 0, 0), (298, .invokevirtual 41, 121, 1), (301, .if_icmp .eq 357, 0, 0), (304, .iconst 0, 0, 0), (305, .ireturn, 0, 0), (306, .aload_n 1, 0, 0), (307, .aload_n 0, 0, 0), (308, .iload_n 3, 0, 0), (309, .iconst 1, 0, 0), (310, .iadd, 0, 0), (311, .iaload, 0, 0), (312, .aload_n 0, 0, 0), (313, .iload_n 3, 0, 0), (314, .iconst 2, 0, 0), (315, .iadd, 0, 0), (316, .iaload, 0, 0), (317, .invokevirtual 42, 48, 2), (320, .aload_n 2, 0, 0), (321, .aload_n 0, 0, 0), (322, .iload_n 3, 0, 0), (323, .iconst 1, 0, 0), (324, .iadd, 0, 0), (325, .iaload, 0, 0), (326, .aload_n 0, 0, 0), (327, .iload_n 3, 0, 0), (328, .iconst 2, 0, 0), (329, .iadd, 0, 0), (330, .iaload, 0, 0), (331, .invokevirtual 46, 122, 2), (334, .if_icmp .eq 324, 0, 0), (337, .iconst 0, 0, 0), (338, .ireturn, 0, 0), (339, .aload_n 1, 0, 0), (340, .aload_n 0, 0, 0), (341, .iload_n 3, 0, 0), (342, .iconst 1, 0, 0), (343, .iadd, 0, 0), (344, .iaload, 0, 0), (345, .invokevirtual 47, 49, 1), (348, .aload_n 2, 0, 0), (349, .aload_n 0, 0, 0), (350, .iload_n 3, 0, 0), (351, .iconst 1, 0, 0), (352, .iadd, 0, 0), (353, .iaload, 0, 0), (354, .invokevirtual 50, 123, 1), (357, .if_icmp .eq 301, 0, 0), (360, .iconst 0, 0, 0), (361, .ireturn, 0, 0), (362, .aload_n 1, 0, 0), (363, .aload_n 0, 0, 0), (364, .iload_n 3, 0, 0), (365, .iconst 1, 0, 0), (366, .iadd, 0, 0), (367, .iaload, 0, 0), (368, .invokevirtual 51, 50, 1), (371, .aload_n 2, 0, 0), (372, .aload_n 0, 0, 0), (373, .iload_n 3, 0, 0), (374, .iconst 1, 0, 0), (375, .iadd, 0, 0), (376, .iaload, 0, 0), (377, .invokevirtual 54, 124, 1), (380, .if_icmp .eq 278, 0, 0), (383, .iconst 0, 0, 0), (384, .ireturn, 0, 0), (385, .aload_n 1, 0, 0), (386, .aload_n 0, 0, 0), (387, .iload_n 3, 0, 0), (388, .iconst 1, 0, 0), (389, .iadd, 0, 0), (390, .iaload, 0, 0), (391, .invokevirtual 55, 51, 1), (394, .aload_n 2, 0, 0), (395, .aload_n 0, 0, 0), (396, .iload_n 3, 0, 0), (397, .iconst 1, 0, 0), (398, .iadd, 0, 0), (399, .iaload, 0, 0), (400, .invokevirtual 58, 125, 1), (403, .if_icmp .eq 255, 0, 0), (406, .iconst 0, 0, 0), (407, .ireturn, 0, 0), (408, .aload_n 1, 0, 0), (409, .invokevirtual 59, 52, 0), (412, .aload_n 2, 0, 0), (413, .invokevirtual 63, 126, 0), (416, .if_icmp .eq 242, 0, 0), (419, .iconst 0, 0, 0), (420, .ireturn, 0, 0), (421, .aload_n 1, 0, 0), (422, .invokevirtual 64, 57, 0), (425, .aload_n 2, 0, 0), (426, .invokevirtual 67, 127, 0), (429, .if_icmp .eq 229, 0, 0), (432, .iconst 0, 0, 0), (433, .ireturn, 0, 0), (434, .aload_n 1, 0, 0), (435, .aload_n 0, 0, 0), (436, .iload_n 3, 0, 0), (437, .iconst 1, 0, 0), (438, .iadd, 0, 0), (439, .iaload, 0, 0), (440, .invokevirtual 68, 58, 1), (443, .aload_n 2, 0, 0), (444, .aload_n 0, 0, 0), (445, .iload_n 3, 0, 0), (446, .iconst 1, 0, 0), (447, .iadd, 0, 0), (448, .iaload, 0, 0), (449, .invokevirtual 71, 128, 1), (452, .if_icmp .eq 206, 0, 0), (455, .iconst 0, 0, 0), (456, .ireturn, 0, 0), (457, .aload_n 1, 0, 0), (458, .aload_n 0, 0, 0), (459, .iload_n 3, 0, 0), (460, .iconst 1, 0, 0), (461, .iadd, 0, 0), (462, .iaload, 0, 0), (463, .aload_n 0, 0, 0), (464, .iload_n 3, 0, 0), (465, .iconst 2, 0, 0), (466, .iadd, 0, 0), (467, .iaload, 0, 0), (468, .invokevirtual 72, 61, 2), (471, .aload_n 2, 0, 0), (472, .aload_n 0, 0, 0), (473, .iload_n 3, 0, 0), (474, .iconst 1, 0, 0), (475, .iadd, 0, 0), (476, .iaload, 0, 0), (477, .aload_n 0, 0, 0), (478, .iload_n 3, 0, 0), (479, .iconst 2, 0, 0), (480, .iadd, 0, 0), (481, .iaload, 0, 0), (482, .invokevirtual 76, 129, 2), (485, .if_icmp .eq 173, 0, 0), (488, .iconst 0, 0, 0), (489, .ireturn, 0, 0), (490, .aload_n 1, 0, 0), (491, .aload_n 0, 0, 0), (492, .iload_n 3, 0, 0), (493, .iconst 1, 0, 0), (494, .iadd, 0, 0), (495, .iaload, 0, 0), (496, .invokevirtual 77, 62, 1), (499, .aload_n 2, 0, 0), (500, .aload_n 0, 0, 0), (501, .iload_n 3, 0, 0), (502, .iconst 1, 0, 0), (503, .iadd, 0, 0), (504, .iaload, 0, 0), (505, .invokevirtual 80, 130, 1), (508, .if_icmp .eq 150, 0, 0), (511, .iconst 0, 0, 0), (512, .ireturn, 0, 0), (513, .aload_n 1, 0, 0), (514, .aload_n 0, 0, 0), (515, .iload_n 3, 0, 0), (516, .iconst 1, 0, 0), (517, .iadd, 0, 0), (518, .iaload, 0, 0), (519, .invokevirtual 81, 91, 1), (522, .aload_n 2, 0, 0), (523, .aload_n 0, 0, 0), (524, .iload_n 3, 0, 0), (525, .iconst 1, 0, 0), (526, .iadd, 0, 0), (527, .iaload, 0, 0), (528, .invokevirtual 84, 141, 1), (531, .if_icmp .eq 127, 0, 0), (534, .iconst 0, 0, 0), (535, .ireturn, 0, 0), (536, .aload_n 1, 0, 0), (537, .aload_n 0, 0, 0), (538, .iload_n 3, 0, 0), (539, .iconst 1, 0, 0), (540, .iadd, 0, 0), (541, .iaload, 0, 0), (542, .aload_n 0, 0, 0), (543, .iload_n 3, 0, 0), (544, .iconst 2, 0, 0), (545, .iadd, 0, 0), (546, .iaload, 0, 0), (547, .invokevirtual 85, 93, 2), (550, .aload_n 2, 0, 0), (551, .aload_n 0, 0, 0), (552, .iload_n 3, 0, 0), (553, .iconst 1, 0, 0), (554, .iadd, 0, 0), (555, .iaload, 0, 0), (556, .aload_n 0, 0, 0), (557, .iload_n 3, 0, 0), (558, .iconst 2, 0, 0), (559, .iadd, 0, 0), (560, .iaload, 0, 0), (561, .invokevirtual 88, 142, 2), (564, .if_icmp .eq 94, 0, 0), (567, .iconst 0, 0, 0), (568, .ireturn, 0, 0), (569, .aload_n 1, 0, 0), (570, .aload_n 0, 0, 0), (571, .iload_n 3, 0, 0), (572, .iconst 1, 0, 0), (573, .iadd, 0, 0), (574, .iaload, 0, 0), (575, .invokevirtual 89, 95, 1), (578, .aload_n 2, 0, 0), (579, .aload_n 0, 0, 0), (580, .iload_n 3, 0, 0), (581, .iconst 1, 0, 0), (582, .iadd, 0, 0), (583, .iaload, 0, 0), (584, .invokevirtual 92, 143, 1), (587, .if_icmp .eq 71, 0, 0), (590, .iconst 0, 0, 0), (591, .ireturn, 0, 0), (592, .aload_n 1, 0, 0), (593, .aload_n 0, 0, 0), (594, .iload_n 3, 0, 0), (595, .iconst 1, 0, 0), (596, .iadd, 0, 0), (597, .iaload, 0, 0), (598, .aload_n 0, 0, 0), (599, .iload_n 3, 0, 0), (600, .iconst 2, 0, 0), (601, .iadd, 0, 0), (602, .iaload, 0, 0), (603, .invokevirtual 93, 96, 2), (606, .aload_n 2, 0, 0), (607, .aload_n 0, 0, 0), (608, .iload_n 3, 0, 0), (609, .iconst 1, 0, 0), (610, .iadd, 0, 0), (611, .iaload, 0, 0), (612, .aload_n 0, 0, 0), (613, .iload_n 3, 0, 0), (614, .iconst 2, 0, 0), (615, .iadd, 0, 0), (616, .iaload, 0, 0), (617, .invokevirtual 96, 144, 2), (620, .if_icmp .eq 38, 0, 0), (623, .iconst 0, 0, 0), (624, .ireturn, 0, 0), (625, .aload_n 1, 0, 0), (626, .aload_n 0, 0, 0), (627, .iload_n 3, 0, 0), (628, .iconst 1, 0, 0), (629, .iadd, 0, 0), (630, .iaload, 0, 0), (631, .aload_n 0, 0, 0), (632, .iload_n 3, 0, 0), (633, .iconst 2, 0, 0), (634, .iadd, 0, 0), (635, .iaload, 0, 0), (636, .invokevirtual 97, 97, 2), (639, .aload_n 2, 0, 0), (640, .aload_n 0, 0, 0), (641, .iload_n 3, 0, 0), (642, .iconst 1, 0, 0), (643, .iadd, 0, 0), (644, .iaload, 0, 0), (645, .aload_n 0, 0, 0), (646, .iload_n 3, 0, 0), (647, .iconst 2, 0, 0), (648, .iadd, 0, 0), (649, .iaload, 0, 0), (650, .invokevirtual 100, 145, 2), (653, .if_icmp .eq 5, 0, 0), (656, .iconst 0, 0, 0), (657, .ireturn, 0, 0), (658, .iinc 3 6, 0, 0), (661, .goto (-643), 0, 0), (664, .iconst 1, 0, 0), (665, .ireturn, 0, 0)]
def mj_tbs : List (List (Nat × Instr × Nat × Nat)) := [mj_tb0, mj_tb1, mj_tb2, mj_tb3, mj_tb4, mj_tb5, mj_tb6, mj_tb7, mj_tb8, mj_tb9, mj_tb10, mj_tb11, mj_tb12, mj_tb13, mj_tb14, mj_tb15, mj_tb16, mj_tb17, mj_tb18, mj_tb19, mj_tb20, mj_tb21, mj_tb22, mj_tb23, mj_tb24, mj_tb25, mj_tb26, mj_tb27, mj_tb28, mj_tb29, mj_tb30, mj_tb31, mj_tb32, mj_tb33, mj_tb34, mj_tb35, mj_tb36, mj_tb37, mj_tb38, mj_tb39, mj_tb40, mj_tb41, mj_tb42, mj_tb43, mj_tb44, mj_tb45, mj_tb46, mj_tb47, mj_tb48, mj_tb49, mj_tb50, mj_tb51, mj_tb52, mj_tb53, mj_tb54, mj_tb55, mj_tb56, mj_tb57, mj_tb58, mj_tb59, mj_tb60, mj_tb61, mj_tb62, mj_tb63, mj_tb64, mj_tb65, mj_tb66, mj_tb67, mj_tb68, mj_tb69, mj_tb70, mj_tb71, mj_tb72, mj_tb73, mj_tb74, mj_tb75, mj_tb76, mj_tb77, mj_tb78, mj_tb79, mj_tb80, mj_tb81, mj_tb82, mj_tb83, mj_tb84, mj_tb85, mj_tb86, mj_tb87, mj_tb88, mj_tb89, mj_tb90, mj_tb91, mj_tb92, mj_tb93, mj_tb94, mj_tb95, mj_tb96, mj_tb97, mj_tb98, mj_tb99, mj_tb100, mj_tb101, mj_tb102, mj_tb103, mj_tb104, mj_tb105, mj_tb106, mj_tb107, mj_tb108, mj_tb109, mj_tb110, mj_tb111, mj_tb112, mj_tb113, mj_tb114, mj_tb115, mj_tb116, mj_tb117, mj_tb118, mj_tb119, mj_tb120, mj_tb121, mj_tb122, mj_tb123, mj_tb124, mj_tb125, mj_tb126, mj_tb127, mj_tb128, mj_tb129, mj_tb130, mj_tb131, mj_tb132, mj_tb133, mj_tb134, mj_tb135, mj_tb136, mj_tb137, mj_tb138, mj_tb139, mj_tb140, mj_tb141, mj_tb142, mj_tb143, mj_tb144, mj_tb145, mj_tb146]
def mj_tb (m : Nat) : List (Nat × Instr × Nat × Nat) := mj_tbs.getD m []
def mj_look : List (Nat × Instr × Nat × Nat) → Nat → Option (Instr × Nat × Nat)
  | [], _ => none
  | e :: r, pc => cond (Nat.beq e.1 pc) (some e.2) (mj_look r pc)
def mj_at (m pc : Nat) : Option (Instr × Nat × Nat) := mj_look (mj_tb m) pc
/-- the words that a call takes along -/
def mj_G : List Cond := lw_tbl.filter goodWord
def mj_ws (m : Nat) : List Cond := cond (Nat.beq m mj_NC) mj_G (Cond.code (mj_y m) (mj_code m) (mj_maxL m) (mj_ret m) :: mj_G)
/-- those that it does not -/
def mj_bad : List Cond := [(Jvm.Cond.arrayOver (Jvm.ClassFile.FieldType.object "CeilingKernel$Task")), (Jvm.Cond.methodLinkNest "CeilingKernel" (17 : Nat) ({ cls := "CeilingKernel$Checker", name := "<init>", desc := "()V" } : Jvm.MethodName) "CeilingKernel"), (Jvm.Cond.methodLinkNest "CeilingKernel" (24 : Nat) ({ cls := "CeilingKernel$Figures", name := "<init>", desc := "()V" } : Jvm.MethodName) "CeilingKernel"), (Jvm.Cond.arrayOver (Jvm.ClassFile.FieldType.array Jvm.ClassFile.FieldType.int)), (Jvm.Cond.arrayOver (Jvm.ClassFile.FieldType.object "CeilingKernel$Routine")), (Jvm.Cond.methodLinkNest "CeilingKernel$Task" (17 : Nat) ({ cls := "CeilingKernel$Routine", name := "<init>", desc := "()V" } : Jvm.MethodName) "CeilingKernel"), (Jvm.Cond.arrayOver (Jvm.ClassFile.FieldType.object "CeilingKernel$Post")), (Jvm.Cond.methodLinkNest "CeilingKernel$Machine" (23 : Nat) ({ cls := "CeilingKernel$Journal", name := "<init>", desc := "()V" } : Jvm.MethodName) "CeilingKernel"), (Jvm.Cond.arrayOver (Jvm.ClassFile.FieldType.object "CeilingKernel$Mailbox")), (Jvm.Cond.methodLinkNest "CeilingKernel$Machine" (41 : Nat) ({ cls := "CeilingKernel$Mailbox", name := "<init>", desc := "()V" } : Jvm.MethodName) "CeilingKernel"), (Jvm.Cond.fieldLinkNest "CeilingKernel$Figures" (77 : Nat) "CeilingKernel" "COST" "[I" "CeilingKernel"), (Jvm.Cond.methodLinkNest "CeilingKernel$Figures" (99 : Nat) ({ cls := "CeilingKernel", name := "isWithin", desc := "(III)Z" } : Jvm.MethodName) "CeilingKernel"), (Jvm.Cond.fieldLinkNest "CeilingKernel$Job" (71 : Nat) "CeilingKernel" "COST" "[I" "CeilingKernel"), (Jvm.Cond.methodLinkNest "CeilingKernel$Journal" (34 : Nat) ({ cls := "CeilingKernel", name := "isBelow", desc := "(II)Z" } : Jvm.MethodName) "CeilingKernel")]
end
section
/-! A small machine of our own for the instructions that the program uses, over a heap that is a list of cells; the next part shows that the machine of the Statement does what it does. References below 5 are the script and the four static tables; from 5 on they are cells. -/
abbrev mj_Hp : Type := List (Nat × List Value)
abbrev mj_Ls : Type := List (Nat × Value)

def mj_keep1 (i : Nat) (q : Nat × Value) : Bool := !(q.1 == i) && !(q.1 + 1 == i && q.2.category == 2)
def mj_keep2 (i : Nat) (q : Nat × Value) : Bool := !(q.1 == i) && (!(q.1 == i + 1) && !(q.1 + 1 == i && q.2.category == 2))
def mj_put (keep : Nat × Value → Bool) (i : Nat) (v : Value) : mj_Ls → mj_Ls
  | [] => [(i, v)]
  | q :: r => if q.1 = i then (i, v) :: r.filter keep else if keep q then q :: mj_put keep i v r else mj_put keep i v r
def mj_set1 (ls : mj_Ls) (i : Nat) (v : Value) : mj_Ls := mj_put (mj_keep1 i) i v ls
def mj_set2 (ls : mj_Ls) (i : Nat) (v : Value) : mj_Ls := mj_put (mj_keep2 i) i v ls
def mj_get (ls : mj_Ls) (i : Nat) : Option Value := match ls with
  | [] => none
  | q :: r => if q.1 = i then some q.2 else mj_get r i
def mj_ccond (c : Jvm.ClassFile.Cond) (x y : Int32) : Bool := match c with
  | .eq => decide (x = y)
  | .ne => !decide (x = y)
  | .lt => decide (x < y)
  | .ge => decide (y ≤ x)
  | .gt => decide (y < x)
  | .le => decide (x ≤ y)
def mj_tgt (pc : Nat) (off : Int) : Nat := ((pc : Int) + off).toNat
def mj_in (j : Int32) (n : Nat) : Bool := !(decide (j < 0)) && decide (j.toNatClampNeg < n)
def mj_bool (x : Int32) : Bool := x == 0 || x == 1
def mj_fit (a b : Nat) (v : Value) : Bool := match mj_fty a b, v with
  | 0, .int _ => true
  | 1, .int x => mj_bool x
  | 2, .ref _ => true
  | _, _ => false
/-- field b of cell k -/
def mj_fld (h : mj_Hp) (k tag b : Nat) : Option Value := match h[k]? with
  | some c => if c.1 = tag then c.2[b]? else none
  | none => none
def mj_wr (h : mj_Hp) (k b : Nat) (v : Value) : mj_Hp := match h[k]? with
  | some c => h.set k (c.1, c.2.set b v)
  | none => h
/-- element j of the int array at reference k: a table or a cell of that tag -/
def mj_elt (cst : List (List Int32)) (h : mj_Hp) (k tag : Nat) (j : Int32) : Option Value :=
  if k < 5 then (match cst[k]? with
    | some l => if tag = 20 then (if mj_in j l.length then some (.int (l.getD j.toNatClampNeg 0)) else none) else none
    | none => none)
  else match h[k - 5]? with
    | some c => if c.1 = tag then (if mj_in j c.2.length then c.2[j.toNatClampNeg]? else none) else none
    | none => none
def mj_len (i : Instr) : Nat := match i with
  | .iconst _ => 1
  | .iload_n _ => 1
  | .lload_n _ => 1
  | .aload_n _ => 1
  | .istore_n _ => 1
  | .astore_n _ => 1
  | .lstore_n _ => 1
  | .iadd => 1
  | .isub => 1
  | .imul => 1
  | .iand => 1
  | .ior => 1
  | .ixor => 1
  | .ishl => 1
  | .ishr => 1
  | .idiv => 1
  | .ladd => 1
  | .lmul => 1
  | .lcmp => 1
  | .i2l => 1
  | .dup => 1
  | .dup2 => 1
  | .iaload => 1
  | .baload => 1
  | .aaload => 1
  | .arraylength => 1
  | .iastore => 1
  | .bastore => 1
  | .aastore => 1
  | .return_ => 1
  | .ireturn => 1
  | .areturn => 1
  | .bipush _ => 2
  | .iload _ => 2
  | .lload _ => 2
  | .aload _ => 2
  | .istore _ => 2
  | .astore _ => 2
  | .lstore _ => 2
  | .newarray _ => 2
  | .sipush _ => 3
  | .ldc2_w _ => 3
  | .iinc _ _ => 3
  | .ifCond _ _ => 3
  | .if_icmp _ _ => 3
  | .goto _ => 3
  | .getfield _ => 3
  | .getstatic _ => 3
  | .putfield _ => 3
  | .new _ => 3
  | .anewarray _ => 3
  | .invokespecial _ => 3
  | .invokevirtual _ => 3
  | .invokestatic _ => 3
  | .multianewarray _ _ => 4
  | _ => 0
abbrev mj_Ms : Type := Nat × mj_Ls × List Value × mj_Hp
/-- an instruction that neither calls nor returns; a, b: what its pool index stands for -/
def mj_step (cst : List (List Int32)) (i : Instr) (a b pc : Nat) (ls : mj_Ls) (st : List Value) (h : mj_Hp) : Option mj_Ms :=
  match i with
  | .iconst n => some (pc + 1, ls, .int (Int32.ofInt n) :: st, h)
  | .bipush n => some (pc + 2, ls, .int ((Int8.ofInt n).toInt32) :: st, h)
  | .sipush n => some (pc + 3, ls, .int ((Int16.ofInt n).toInt32) :: st, h)
  | .ldc2_w _ => some (pc + 3, ls, .long (Int64.ofNat a) :: st, h)
  | .iload_n k => match mj_get ls k with
    | some (.int x) => some (pc + 1, ls, .int x :: st, h)
    | _ => none
  | .iload k => match mj_get ls k with
    | some (.int x) => some (pc + 2, ls, .int x :: st, h)
    | _ => none
  | .lload_n k => match mj_get ls k with
    | some (.long x) => some (pc + 1, ls, .long x :: st, h)
    | _ => none
  | .lload k => match mj_get ls k with
    | some (.long x) => some (pc + 2, ls, .long x :: st, h)
    | _ => none
  | .aload_n k => match mj_get ls k with
    | some (.ref x) => some (pc + 1, ls, .ref x :: st, h)
    | _ => none
  | .aload k => match mj_get ls k with
    | some (.ref x) => some (pc + 2, ls, .ref x :: st, h)
    | _ => none
  | .istore_n k => match st with
    | .int x :: r => some (pc + 1, mj_set1 ls k (.int x), r, h)
    | _ => none
  | .istore k => match st with
    | .int x :: r => some (pc + 2, mj_set1 ls k (.int x), r, h)
    | _ => none
  | .astore_n k => match st with
    | .ref x :: r => some (pc + 1, mj_set1 ls k (.ref x), r, h)
    | _ => none
  | .astore k => match st with
    | .ref x :: r => some (pc + 2, mj_set1 ls k (.ref x), r, h)
    | _ => none
  | .lstore_n k => match st with
    | .long x :: r => some (pc + 1, mj_set2 ls k (.long x), r, h)
    | _ => none
  | .lstore k => match st with
    | .long x :: r => some (pc + 2, mj_set2 ls k (.long x), r, h)
    | _ => none
  | .iinc k n => match mj_get ls k with
    | some (.int x) => some (pc + 3, mj_set1 ls k (.int (x + Int32.ofInt n)), st, h)
    | _ => none
  | .iadd => match st with
    | .int y :: .int x :: r => some (pc + 1, ls, .int (x + y) :: r, h)
    | _ => none
  | .isub => match st with
    | .int y :: .int x :: r => some (pc + 1, ls, .int (x - y) :: r, h)
    | _ => none
  | .imul => match st with
    | .int y :: .int x :: r => some (pc + 1, ls, .int (x * y) :: r, h)
    | _ => none
  | .iand => match st with
    | .int y :: .int x :: r => some (pc + 1, ls, .int (x &&& y) :: r, h)
    | _ => none
  | .ior => match st with
    | .int y :: .int x :: r => some (pc + 1, ls, .int (x ||| y) :: r, h)
    | _ => none
  | .ixor => match st with
    | .int y :: .int x :: r => some (pc + 1, ls, .int (x ^^^ y) :: r, h)
    | _ => none
  | .ishl => match st with
    | .int y :: .int x :: r => some (pc + 1, ls, .int (x <<< (y &&& 31)) :: r, h)
    | _ => none
  | .ishr => match st with
    | .int y :: .int x :: r => some (pc + 1, ls, .int (x >>> (y &&& 31)) :: r, h)
    | _ => none
  | .idiv => match st with
    | .int y :: .int x :: r => if y = 0 then none else some (pc + 1, ls, .int (x / y) :: r, h)
    | _ => none
  | .ladd => match st with
    | .long y :: .long x :: r => some (pc + 1, ls, .long (x + y) :: r, h)
    | _ => none
  | .lmul => match st with
    | .long y :: .long x :: r => some (pc + 1, ls, .long (x * y) :: r, h)
    | _ => none
  | .lcmp => match st with
    | .long y :: .long x :: r => some (pc + 1, ls, .int (lg_cmp x y) :: r, h)
    | _ => none
  | .i2l => match st with
    | .int x :: r => some (pc + 1, ls, .long x.toInt64 :: r, h)
    | _ => none
  | .dup => match st with
    | .int x :: r => some (pc + 1, ls, .int x :: .int x :: r, h)
    | .ref x :: r => some (pc + 1, ls, .ref x :: .ref x :: r, h)
    | _ => none
  | .dup2 => match st with
    | .int y :: .ref x :: r => some (pc + 1, ls, .int y :: .ref x :: .int y :: .ref x :: r, h)
    | _ => none
  | .ifCond c off => match st with
    | .int x :: r => some (if mj_ccond c x 0 then mj_tgt pc off else pc + 3, ls, r, h)
    | _ => none
  | .if_icmp c off => match st with
    | .int y :: .int x :: r => some (if mj_ccond c x y then mj_tgt pc off else pc + 3, ls, r, h)
    | _ => none
  | .goto off => some (mj_tgt pc off, ls, st, h)
  | .tableswitch d lo hi offs => match st with
    | .int x :: r => if x.toInt < lo ∨ hi < x.toInt then some (mj_tgt pc d, ls, r, h) else (match offs[(x.toInt - lo).toNat]? with
      | some off => some (mj_tgt pc off, ls, r, h)
      | none => none)
    | _ => none
  | .getfield _ => match st with
    | .ref k :: r => if k < 5 then none else (match mj_fld h (k - 5) a b with
      | some v => some (pc + 3, ls, v :: r, h)
      | none => none)
    | _ => none
  | .getstatic _ => some (pc + 3, ls, .ref a :: st, h)
  | .iaload => match st with
    | .int j :: .ref k :: r => (match mj_elt cst h k 20 j with
      | some (.int x) => some (pc + 1, ls, .int x :: r, h)
      | _ => none)
    | _ => none
  | .baload => match st with
    | .int j :: .ref k :: r => if k < 5 then none else (match mj_elt cst h k 21 j with
      | some (.int x) => some (pc + 1, ls, .int x :: r, h)
      | _ => none)
    | _ => none
  | .aaload => match st with
    | .int j :: .ref k :: r => if k < 5 then none else (match h[k - 5]? with
      | some c => if 22 ≤ c.1 ∧ c.1 < 27 ∧ mj_in j c.2.length = true then (match c.2[j.toNatClampNeg]? with
        | some (.ref x) => some (pc + 1, ls, .ref x :: r, h)
        | _ => none) else none
      | none => none)
    | _ => none
  | .arraylength => match st with
    | .ref k :: r => if k < 5 then (match cst[k]? with
        | some l => some (pc + 1, ls, .int (Int32.ofNat l.length) :: r, h)
        | none => none)
      else (match h[k - 5]? with
        | some c => if 20 ≤ c.1 ∧ c.1 < 27 then some (pc + 1, ls, .int (Int32.ofNat c.2.length) :: r, h) else none
        | none => none)
    | _ => none
  | .putfield _ => match st with
    | v :: .ref k :: r => if k < 5 then none else (match mj_fld h (k - 5) a b with
      | some _ => if mj_fit a b v then some (pc + 3, ls, r, mj_wr h (k - 5) b v) else none
      | none => none)
    | _ => none
  | .iastore => match st with
    | .int x :: .int j :: .ref k :: r => if k < 5 then none else (match mj_elt cst h k 20 j with
      | some _ => some (pc + 1, ls, r, mj_wr h (k - 5) j.toNatClampNeg (.int x))
      | none => none)
    | _ => none
  | .bastore => match st with
    | .int x :: .int j :: .ref k :: r => if k < 5 then none else (match mj_elt cst h k 21 j with
      | some _ => if mj_bool x then some (pc + 1, ls, r, mj_wr h (k - 5) j.toNatClampNeg (.int x)) else none
      | none => none)
    | _ => none
  | .aastore => match st with
    | .ref y :: .int j :: .ref k :: r => if k < 5 ∨ y < 5 then none else (match h[k - 5]?, h[y - 5]? with
      | some c, some cy => if mj_comp c.1 = cy.1 ∧ cy.1 < 20 ∧ 22 ≤ c.1 ∧ mj_in j c.2.length = true then some (pc + 1, ls, r, mj_wr h (k - 5) j.toNatClampNeg (.ref y)) else none
      | _, _ => none)
    | _ => none
  | .new _ => some (pc + 3, ls, .ref (5 + h.length) :: st, h ++ [(a, mj_blank a)])
  | .newarray _ => match st with
    | .int n :: r => if n < 0 ∨ 65536 < n.toNatClampNeg then none else some (pc + 2, ls, .ref (5 + h.length) :: r, h ++ [(a, List.replicate n.toNatClampNeg (.int 0))])
    | _ => none
  | .anewarray _ => match st with
    | .int n :: r => if n < 0 ∨ 65536 < n.toNatClampNeg then none else some (pc + 3, ls, .ref (5 + h.length) :: r, h ++ [(a, List.replicate n.toNatClampNeg .null)])
    | _ => none
  | .multianewarray _ _ => match st with
    | .int k :: .int n :: r => if n < 0 ∨ 4096 < n.toNatClampNeg ∨ k < 0 ∨ 4096 < k.toNatClampNeg then none else
        some (pc + 4, ls, .ref (5 + h.length) :: r, h ++ [(a, (List.range n.toNatClampNeg).map (fun i => Value.ref (5 + h.length + 1 + i)))] ++ List.replicate n.toNatClampNeg (20, List.replicate k.toNatClampNeg (Value.int 0)))
    | _ => none
  | _ => none
/-- is it a call: how (0: of a constructor, 1: of an instance method, 2: of a static one) -/
def mj_isCall (i : Instr) : Option Nat := match i with
  | .invokespecial _ => some 0
  | .invokevirtual _ => some 1
  | .invokestatic _ => some 2
  | _ => none
/-- the end of a method, with its answer -/
def mj_isRet (i : Instr) (rt : Option FieldType) (st : List Value) : Option (Option Value) := match i, st with
  | .return_, [] => if rt = none then some none else none
  | .ireturn, [.int x] => if rt = some .int then some (some (.int x)) else if rt = some .boolean then (if mj_bool x then some (some (.int x)) else none) else none
  | .areturn, [.ref x] => (match rt with
    | some (.object _) => some (some (.ref x))
    | _ => none)
  | _, _ => none
def mj_sl (h : mj_Hp) : Nat := (h.map (fun c => c.2.length)).sum
def mj_argsOk (a : Nat) (vs : List Value) : Bool := vs.all (fun v => v.category == 1) && decide (vs.length ≤ mj_maxL a)
def mj_room (rest : List Value) : Bool := decide ((rest.map fun v => v.category).sum ≤ 8)
def mj_run (cst : List (List Int32)) : Nat → Nat → Nat → mj_Ls → List Value → mj_Hp → Option (Option Value × mj_Hp)
  | 0, _, _, _, _, _ => none
  | n + 1, m, pc, ls, st, h => match mj_at m pc with
    | none => none
    | some (i, a, b) => match mj_isRet i (mj_ret m) st with
      | some r => some (r, h)
      | none => match mj_isCall i with
        | none => (match mj_step cst i a b pc ls st h with
          | some (pc', ls', st', h') => mj_run cst n m pc' ls' st' h'
          | none => none)
        | some 2 => if a = 1001 then (match st with
            | .int y :: .int x :: rest => if mj_room rest then mj_run cst n m (pc + 3) ls (.int (if x < y then y else x) :: rest) h else none
            | _ => none)
          else if a = 1002 then (match st with
            | .int y :: .int x :: rest => if mj_room rest then mj_run cst n m (pc + 3) ls (.int (if y < x then y else x) :: rest) h else none
            | _ => none)
          else if b ≤ st.length ∧ mj_argsOk a (st.take b).reverse = true ∧ mj_room (st.drop b) = true then
            (match mj_run cst n a 0 (lv_args 0 (st.take b).reverse) [] h with
            | some (r, h') => mj_run cst n m (pc + 3) ls (r.toList ++ st.drop b) h'
            | none => none)
          else none
        | some kd => (match st.drop b with
          | .ref k :: rest => if a = 1000 then (if b = 0 ∧ kd = 0 ∧ mj_room rest = true then mj_run cst n m (pc + 3) ls rest h else none)
            else if b ≤ st.length ∧ 5 ≤ k ∧ (h[k - 5]?).map (fun c => c.1) = some (mj_ci a) ∧ mj_argsOk a (.ref k :: (st.take b).reverse) = true ∧ mj_room rest = true then
              (match mj_run cst n a 0 (lv_args 0 (.ref k :: (st.take b).reverse)) [] h with
              | some (r, h') => mj_run cst n m (pc + 3) ls (r.toList ++ rest) h'
              | none => none)
            else none
          | _ => none)
end
section
/-! The cells of the small heap in the machine's heap: cell k of the list lies at address sz0 + k. -/
def mj_tr (sz0 : Nat) (ad : Nat → Nat) (v : Value) : Value := match v with
  | .ref k => .ref (if k < 5 then ad k else sz0 + (k - 5))
  | v => v
def mj_int (v : Value) : Int32 := match v with
  | .int x => x
  | _ => 0
def mj_ref (v : Value) : Option Nat := match v with
  | .ref k => some k
  | _ => none
def mj_e (E : Nat → ClassId) (tag : Nat) (vs : List Value) : va_E :=
  if tag < 20 then .inr (tag, vs)
  else if tag < 22 then .inl (E tag, vs.length, .inl (fun j => mj_int (vs.getD j .null)))
  else .inl (E tag, vs.length, .inr (.inr (.inr (.inr (fun j => mj_ref (vs.getD j .null))))))
def mj_trL (sz0 : Nat) (ad : Nat → Nat) (ls : mj_Ls) : List (Nat × Value) := ls.map (fun q => (q.1, mj_tr sz0 ad q.2))
def mj_P (sz0 : Nat) (ad : Nat → Nat) (E : Nat → ClassId) (D : va_G) (h : mj_Hp) (H : Heap) : Prop :=
  H.size = sz0 + h.length ∧ ∀ (k : Nat) (c : Nat × List Value), h[k]? = some c → va_at D vwCl (sz0 + k, mj_e E c.1 (c.2.map (mj_tr sz0 ad))) H
abbrev mj_A (sz0 : Nat) : Nat → Prop := fun q => sz0 ≤ q
def mj_K (sz0 : Nat) (ad : Nat → Nat) (E : Nat → ClassId) (D : va_G) (cst : List (List Int32)) (U : State) : Prop :=
  va_K D vwCl (mj_tys E) U ∧ sz0 ≤ U.heap.size ∧ (∀ (k : Nat) (l : List Int32), cst[k]? = some l → k < 5 → va_T .int (ad k) l.length (fun j => .int (l.getD j 0)) (mj_A sz0) U U.heap) ∧
    (∀ k : Nat, 1 ≤ k → k < 5 → va_Z mj_SC (mj_SN k) "[I" (.ref (ad k)) (mj_A sz0) U U.heap) ∧ ∀ w ∈ mj_bad, w.before #[] U = true
theorem mj_tr_cat (sz0 : Nat) (ad : Nat → Nat) (v : Value) : (mj_tr sz0 ad v).category = v.category := by cases v <;> rfl
theorem mj_tr_ge {sz0 : Nat} {ad : Nat → Nat} {k : Nat} (h : ¬ k < 5) : mj_tr sz0 ad (.ref k) = .ref (sz0 + (k - 5)) := by simp [mj_tr, h]
theorem mj_tr_lt {sz0 : Nat} {ad : Nat → Nat} {k : Nat} (h : k < 5) : mj_tr sz0 ad (.ref k) = .ref (ad k) := by simp [mj_tr, h]
theorem mj_tr_new {sz0 : Nat} {ad : Nat → Nat} {n : Nat} : mj_tr sz0 ad (.ref (5 + n)) = .ref (sz0 + n) := by
  rw [mj_tr_ge (by omega)]
  congr 2
  omega
theorem mj_get_mem {ls : mj_Ls} {i : Nat} {v : Value} (h : mj_get ls i = some v) : (i, v) ∈ ls := by
  induction ls with
  | nil => simp [mj_get] at h
  | cons q r ih =>
    unfold mj_get at h
    by_cases e : q.1 = i
    · rw [if_pos e] at h
      obtain ⟨q1, q2⟩ := q
      simp at e h
      subst e; subst h
      exact List.mem_cons_self
    · rw [if_neg e] at h
      exact List.mem_cons_of_mem _ (ih h)
theorem mj_put_mem {keep : Nat × Value → Bool} {i : Nat} {v : Value} {ls : mj_Ls} {q : Nat × Value} (h : q ∈ mj_put keep i v ls) : q = (i, v) ∨ (q ∈ ls ∧ keep q = true) := by
  induction ls with
  | nil => simp [mj_put] at h; exact Or.inl h
  | cons x r ih =>
    unfold mj_put at h
    split at h
    · rcases List.mem_cons.mp h with h | h
      · exact Or.inl h
      · obtain ⟨h1, h2⟩ := List.mem_filter.mp h
        exact Or.inr ⟨List.mem_cons_of_mem _ h1, h2⟩
    · split at h
      · rename_i hk
        rcases List.mem_cons.mp h with h | h
        · subst h; exact Or.inr ⟨List.mem_cons_self, hk⟩
        · rcases ih h with h | ⟨h1, h2⟩
          · exact Or.inl h
          · exact Or.inr ⟨List.mem_cons_of_mem _ h1, h2⟩
      · rcases ih h with h | ⟨h1, h2⟩
        · exact Or.inl h
        · exact Or.inr ⟨List.mem_cons_of_mem _ h1, h2⟩
theorem mj_has_sub {ls : Array Slot} {nL : Nat} {l l' : List (Nat × Value)} (h : lv_has ls nL l) (hs : ∀ q ∈ l', q ∈ l) : lv_has ls nL l' := ⟨h.1, h.2.1, fun q hq => h.2.2 q (hs q hq)⟩
theorem mj_has_get {sz0 : Nat} {ad : Nat → Nat} {ls : mj_Ls} {lsA : Array Slot} {nL i : Nat} {v : Value} (h : lv_has lsA nL (mj_trL sz0 ad ls)) (hg : mj_get ls i = some v) : lsA[i]? = some (.val (mj_tr sz0 ad v)) :=
  h.2.2 (i, mj_tr sz0 ad v) (List.mem_map.mpr ⟨(i, v), mj_get_mem hg, rfl⟩)
theorem mj_has_set1 {sz0 : Nat} {ad : Nat → Nat} {ls : mj_Ls} {lsA : Array Slot} {nL i : Nat} {v w : Value} (hw : mj_tr sz0 ad v = w) (h : lv_has lsA nL ((i, w) :: (mj_trL sz0 ad ls).filter (fun q => !(q.1 == i) && !(q.1 + 1 == i && q.2.category == 2)))) : lv_has lsA nL (mj_trL sz0 ad (mj_set1 ls i v)) := by
  refine mj_has_sub h fun q hq => ?_
  obtain ⟨q0, h0, rfl⟩ := List.mem_map.mp hq
  rcases mj_put_mem h0 with h1 | ⟨h1, h2⟩
  · subst h1
    rw [← hw]
    exact List.mem_cons_self
  · refine List.mem_cons_of_mem _ (List.mem_filter.mpr ⟨List.mem_map.mpr ⟨q0, h1, rfl⟩, ?_⟩)
    simp only [mj_tr_cat]
    exact h2
theorem mj_has_set2 {sz0 : Nat} {ad : Nat → Nat} {ls : mj_Ls} {lsA : Array Slot} {nL i : Nat} {v w : Value} (hw : mj_tr sz0 ad v = w) (h : lv_has lsA nL ((i, w) :: (mj_trL sz0 ad ls).filter (fun q => !(q.1 == i) && (!(q.1 == i + 1) && !(q.1 + 1 == i && q.2.category == 2))))) : lv_has lsA nL (mj_trL sz0 ad (mj_set2 ls i v)) := by
  refine mj_has_sub h fun q hq => ?_
  obtain ⟨q0, h0, rfl⟩ := List.mem_map.mp hq
  rcases mj_put_mem h0 with h1 | ⟨h1, h2⟩
  · subst h1
    rw [← hw]
    exact List.mem_cons_self
  · refine List.mem_cons_of_mem _ (List.mem_filter.mpr ⟨List.mem_map.mpr ⟨q0, h1, rfl⟩, ?_⟩)
    simp only [mj_tr_cat]
    exact h2
theorem mj_P.set {sz0 : Nat} {ad : Nat → Nat} {E : Nat → ClassId} {D : va_G} {h : mj_Hp} {H H' : Heap} {k tag : Nat} {vs vs' : List Value} (hP : mj_P sz0 ad E D h H) (hk : h[k]? = some (tag, vs)) (ha : va_at D vwCl (sz0 + k, mj_e E tag (vs'.map (mj_tr sz0 ad))) H') (hz : H'.size = H.size) (ho : ∀ q : Nat, q ≠ sz0 + k → H'[q]? = H[q]?) : mj_P sz0 ad E D (h.set k (tag, vs')) H' := by
  refine ⟨by rw [hz, hP.1, List.length_set], fun j c hj => ?_⟩
  by_cases e : j = k
  · subst e
    rw [List.getElem?_set_self (List.getElem?_eq_some_iff.mp hk).1] at hj
    cases hj
    exact ha
  · rw [List.getElem?_set_ne (Ne.symm e)] at hj
    exact (hP.2 j c hj).kept (ho _ (by show sz0 + j ≠ sz0 + k; omega))
theorem mj_P.push {sz0 : Nat} {ad : Nat → Nat} {E : Nat → ClassId} {D : va_G} {h : mj_Hp} {H H' : Heap} {tag : Nat} {vs : List Value} (hP : mj_P sz0 ad E D h H) (ha : va_at D vwCl (H.size, mj_e E tag (vs.map (mj_tr sz0 ad))) H') (hz : H'.size = H.size + 1) (ho : ∀ q : Nat, q < H.size → H'[q]? = H[q]?) : mj_P sz0 ad E D (h ++ [(tag, vs)]) H' := by
  refine ⟨by rw [hz, hP.1, List.length_append]; simp; omega, fun j c hj => ?_⟩
  by_cases e : j < h.length
  · rw [List.getElem?_append_left e] at hj
    have hlt := (hP.2 j c hj).lt
    exact (hP.2 j c hj).kept (ho _ hlt)
  · rw [List.getElem?_append_right (by omega)] at hj
    have hz1 : j - h.length < 1 := (List.getElem?_eq_some_iff.mp hj).1
    have ej : j = h.length := by omega
    subst ej
    rw [Nat.sub_self] at hj
    cases hj
    rw [← hP.1]
    exact ha
theorem mj_P.obj {sz0 : Nat} {ad : Nat → Nat} {E : Nat → ClassId} {D : va_G} {h : mj_Hp} {H : Heap} {k tag : Nat} {vs : List Value} (hP : mj_P sz0 ad E D h H) (hk : h[k]? = some (tag, vs)) (ht : tag < 20) : va_P D vwCl [(sz0 + k, .inr (tag, vs.map (mj_tr sz0 ad)))] H := by
  have h1 := hP.2 k _ hk
  simp only [mj_e, if_pos ht] at h1
  intro j q hj
  cases j with
  | zero => cases hj; exact h1
  | succ n => simp at hj
theorem mj_P.arr {sz0 : Nat} {ad : Nat → Nat} {E : Nat → ClassId} {D : va_G} {h : mj_Hp} {H : Heap} {k tag : Nat} {vs : List Value} (hP : mj_P sz0 ad E D h H) (hk : h[k]? = some (tag, vs)) (ht : 20 ≤ tag) (ht2 : tag < 22) : va_P D vwCl [(sz0 + k, .inl (E tag, vs.length, .inl (fun j => mj_int ((vs.map (mj_tr sz0 ad)).getD j .null))))] H := by
  have h1 := hP.2 k _ hk
  simp only [mj_e, if_neg (show ¬ tag < 20 by omega), if_pos ht2, List.length_map] at h1
  intro j q hj
  cases j with
  | zero => cases hj; exact h1
  | succ n => simp at hj
theorem mj_P.arq {sz0 : Nat} {ad : Nat → Nat} {E : Nat → ClassId} {D : va_G} {h : mj_Hp} {H : Heap} {k tag : Nat} {vs : List Value} (hP : mj_P sz0 ad E D h H) (hk : h[k]? = some (tag, vs)) (ht : 22 ≤ tag) : va_P D vwCl [(sz0 + k, .inl (E tag, vs.length, .inr (.inr (.inr (.inr (fun j => mj_ref ((vs.map (mj_tr sz0 ad)).getD j .null)))))))] H := by
  have h1 := hP.2 k _ hk
  simp only [mj_e, if_neg (show ¬ tag < 20 by omega), if_neg (show ¬ tag < 22 by omega), List.length_map] at h1
  intro j q hj
  cases j with
  | zero => cases hj; exact h1
  | succ n => simp at hj
theorem mj_in_vp {j : Int32} {n : Nat} (h : mj_in j n = true) : vp_in j n ∧ j.toNatClampNeg < n := by
  simp only [mj_in, Bool.and_eq_true, Bool.not_eq_true', decide_eq_false_iff_not, decide_eq_true_eq] at h
  exact ⟨fun q => q.elim h.1 (fun z => by omega), h.2⟩
theorem mj_arr_int {sz0 : Nat} {ad : Nat → Nat} {vs : List Value} {j : Nat} {x : Int32} (h : vs[j]? = some (.int x)) : mj_int ((vs.map (mj_tr sz0 ad)).getD j .null) = x := by
  simp [List.getD_eq_getElem?_getD, h, mj_tr, mj_int]
theorem mj_arr_ref {sz0 : Nat} {ad : Nat → Nat} {vs : List Value} {j k : Nat} (h : vs[j]? = some (.ref k)) : va_rf (mj_ref ((vs.map (mj_tr sz0 ad)).getD j .null)) = mj_tr sz0 ad (.ref k) := by
  simp [List.getD_eq_getElem?_getD, h, mj_tr, mj_ref, va_rf]
theorem mj_upd_int {sz0 : Nat} {ad : Nat → Nat} {vs : List Value} {j : Nat} {x : Int32} (hj : j < vs.length) : updV (fun i => Value.int (mj_int ((vs.map (mj_tr sz0 ad)).getD i .null))) j (.int x) = fun i => Value.int (mj_int (((vs.set j (.int x)).map (mj_tr sz0 ad)).getD i .null)) := by
  funext i
  unfold updV
  by_cases e : i = j
  · subst e
    rw [if_pos rfl, List.map_set, List.getD_eq_getElem?_getD, List.getElem?_set_self (by simpa using hj)]
    rfl
  · rw [if_neg e, List.map_set, List.getD_eq_getElem?_getD, List.getElem?_set_ne (Ne.symm e)]
    dsimp only
    rw [List.getD_eq_getElem?_getD]
theorem mj_upd_ref {sz0 : Nat} {ad : Nat → Nat} {vs : List Value} {j k : Nat} (hj : j < vs.length) : updV (fun i => va_rf (mj_ref ((vs.map (mj_tr sz0 ad)).getD i .null))) j (mj_tr sz0 ad (.ref k)) = fun i => va_rf (mj_ref (((vs.set j (.ref k)).map (mj_tr sz0 ad)).getD i .null)) := by
  funext i
  unfold updV
  by_cases e : i = j
  · subst e
    rw [if_pos rfl, List.map_set, List.getD_eq_getElem?_getD, List.getElem?_set_self (by simpa using hj)]
    rfl
  · rw [if_neg e, List.map_set, List.getD_eq_getElem?_getD, List.getElem?_set_ne (Ne.symm e)]
    dsimp only
    rw [List.getD_eq_getElem?_getD]
end
section
section MJW
variable {p : Program} {l : Launch} {e : Env} {R : Room} {s : State} {m : MethodId} {args : Array Value} {below : List Frame} {meth : Method} {c : Code} {H : Heap} {locs : List Loc} {cells slots : Nat} {Q : State → Prop}
variable {cc : ByteArray} {pc : Nat} {ls : Array Slot} {rest : List Value} {sz0 : Nat} {ad : Nat → Nat} {E : Nat → ClassId} {D : va_G} {h : mj_Hp} {k : Nat} {vs : List Value}
theorem mj_S_put {H0 H1 : Heap} {a j : Nat} (hS : va_S (mj_A sz0) H0 H locs) (z : H1.size = H.size) (oq : ∀ q : Nat, q ≠ a → H1[q]? = H[q]?) (ha : sz0 ≤ a) : va_S (mj_A sz0) H0 H1 (locs ++ [⟨a, j⟩]) := hS.put z oq ha
theorem mj_S_push {H0 H1 : Heap} (hS : va_S (mj_A sz0) H0 H locs) (z : H1.size = H.size + 1) (oq : ∀ q : Nat, q < H.size → H1[q]? = H[q]?) : va_S (mj_A sz0) H0 H1 locs :=
  ⟨Nat.le_trans hS.1 (by omega), fun x h1 h2 => (oq x (Nat.lt_of_lt_of_le h1 hS.1)).trans (hS.2.1 x h1 h2), hS.2.2⟩
theorem mj_w_iast (hexec : p.tables.exec = Jvm.exec) (hb : c.code = cc) (hK : va_K D vwCl (mj_tys E) s) (hP : mj_P sz0 ad E D h H) (hS : va_S (mj_A sz0) s.heap H locs) (hk : h[k]? = some (20, vs)) {j x : Int32} (hin : mj_in j vs.length = true) (hdg : decode cc pc = .ok (.iastore, 1))
    (kk : ∀ (H1 : Heap) (locs1 : List Loc), mj_P sz0 ad E D (h.set k (20, vs.set j.toNatClampNeg (.int x))) H1 → va_S (mj_A sz0) s.heap H1 locs1 → W p l e R s m args below meth c H1 locs1 cells slots Q (F0 m (pc + 1) ls rest)) :
    W p l e R s m args below meth c H locs cells slots Q (F0 m pc ls (.int x :: .int j :: .ref (sz0 + k) :: rest)) := by
  obtain ⟨hv, hlt⟩ := mj_in_vp hin
  have h1 := hP.arr hk (by omega) (by omega)
  refine W.iast hexec hb (h1 0 _ rfl) ((hK.2 0 _ rfl).1 vs.length _) (fun q => by cases q) (by show ¬ (j < 0 ∨ (arrV _ _ _).slots.size ≤ _); rw [arrV_size]; exact hv) rfl rfl hdg fun H1 e1 z oq => ?_
  refine kk H1 _ (hP.set hk ?_ z oq) (mj_S_put hS z oq (by omega))
  show va_at D vwCl (sz0 + k, if 20 < 20 then _ else if 20 < 22 then _ else _) H1
  rw [if_neg (by decide), if_pos (by decide)]
  show H1[sz0 + k]? = some (vp_cell _ _)
  rw [e1, vp_cell_i, vp_cell_i, arrV_store, mj_upd_int hlt]
  simp
theorem mj_w_zast (hexec : p.tables.exec = Jvm.exec) (hb : c.code = cc) (hK : va_K D vwCl (mj_tys E) s) (hP : mj_P sz0 ad E D h H) (hS : va_S (mj_A sz0) s.heap H locs) (hk : h[k]? = some (21, vs)) {j x : Int32} (hin : mj_in j vs.length = true) (hx : mj_bool x = true) (hdg : decode cc pc = .ok (.bastore, 1))
    (kk : ∀ (H1 : Heap) (locs1 : List Loc), mj_P sz0 ad E D (h.set k (21, vs.set j.toNatClampNeg (.int x))) H1 → va_S (mj_A sz0) s.heap H1 locs1 → W p l e R s m args below meth c H1 locs1 cells slots Q (F0 m (pc + 1) ls rest)) :
    W p l e R s m args below meth c H locs cells slots Q (F0 m pc ls (.int x :: .int j :: .ref (sz0 + k) :: rest)) := by
  obtain ⟨hv, hlt⟩ := mj_in_vp hin
  have h1 := hP.arr hk (by omega) (by omega)
  have hn : narrow .boolean (.int x) = .int x := by
    simp only [mj_bool, Bool.or_eq_true, beq_iff_eq] at hx
    rcases hx with hx | hx <;> subst hx <;> decide
  refine W.zast hexec hb (h1 0 _ rfl) ((hK.2 1 _ rfl).1 vs.length _) (fun q => by cases q) (by show ¬ (j < 0 ∨ (arrV _ _ _).slots.size ≤ _); rw [arrV_size]; exact hv) rfl rfl hdg fun H1 e1 z oq => ?_
  refine kk H1 _ (hP.set hk ?_ z oq) (mj_S_put hS z oq (by omega))
  show va_at D vwCl (sz0 + k, if 21 < 20 then _ else if 21 < 22 then _ else _) H1
  rw [if_neg (by decide), if_pos (by decide)]
  show H1[sz0 + k]? = some (vp_cell _ _)
  rw [e1, hn, vp_cell_i, vp_cell_i, arrV_store, mj_upd_int hlt]
  simp
theorem mj_w_aast (hexec : p.tables.exec = Jvm.exec) (hb : c.code = cc) (hK : va_K D vwCl (mj_tys E) s) (hP : mj_P sz0 ad E D h H) (hS : va_S (mj_A sz0) s.heap H locs) {tag ci y : Nat} {vy : List Value} (hk : h[k]? = some (tag, vs)) (ht : 22 ≤ tag) (hy : h[y]? = some (ci, vy)) (hci : ci < 20) {r : vw_C} (hc : vwCl[ci]? = some r) (t0 : Nat) (htt : (mj_tys E)[t0]? = some (E tag, .object r.1)) {j : Int32} (hin : mj_in j vs.length = true) (hdg : decode cc pc = .ok (.aastore, 1))
    (kk : ∀ (H1 : Heap) (locs1 : List Loc), mj_P sz0 ad E D (h.set k (tag, vs.set j.toNatClampNeg (.ref (5 + y)))) H1 → va_S (mj_A sz0) s.heap H1 locs1 → W p l e R s m args below meth c H1 locs1 cells slots Q (F0 m (pc + 1) ls rest)) :
    W p l e R s m args below meth c H locs cells slots Q (F0 m pc ls (.ref (sz0 + y) :: .int j :: .ref (sz0 + k) :: rest)) := by
  obtain ⟨hv, hlt⟩ := mj_in_vp hin
  have h1 := hP.arq hk ht
  have h0 : ¬ j < 0 := fun q => hv (Or.inl q)
  obtain ⟨r', hr', cellV, g1, g2, g3, -⟩ := hP.obj hy hci 0 _ rfl
  have hcls := (hK.1 ci r hc).2
  obtain ⟨kA, comp, k1, k2, k3, -⟩ := (hK.2 t0 _ htt).2
  have hcomp : comp = D.1 ci := Option.some.inj (k3.symm.trans hcls.1)
  subst hcomp
  obtain ⟨kC, hkC, -⟩ := hcls.2
  refine W.aast hexec hb (h1 0 _ rfl) (fun q h => by cases h) (fun h => by cases h) k1 k2 rfl hkC ⟨h0, by show _ < (arrV _ _ _).slots.size; rw [arrV_size]; exact hlt⟩ g1 (fun q h => by rw [g3] at h; cases h) (by rw [g2]; exact hkC) (by rw [g2]; exact va_assign hcls) rfl rfl hdg fun H1 e1 z oq => ?_
  refine kk H1 _ (hP.set hk ?_ z oq) (mj_S_put hS z oq (by omega))
  simp only [mj_e, if_neg (show ¬ tag < 20 by omega), if_neg (show ¬ tag < 22 by omega)]
  show H1[sz0 + k]? = some (vp_cell _ _)
  rw [e1, vp_cell_q, vp_cell_q, arrV_store, ← mj_upd_ref (k := 5 + y) hlt, mj_tr_new]
  simp
theorem mj_w_put (hexec : p.tables.exec = Jvm.exec) (hb : c.code = cc) {own C : String} {T : u_T} {N ci index : Nat} {Ts : List Cond} (hts : ∀ w ∈ Ts, w.before args s = true) (hin : ∀ w ∈ u_ws C T N, w ∈ Ts) (ty0 : Nat → FieldType) (hty : ∀ k, k < N → parseFieldDescriptor (T k).2.2.1 = some (ty0 k)) (hnm : ∀ a, a < N → ∀ b, b < N → a ≠ b → (T a).2.1 ≠ (T b).2.1) (hown : s.vm.findClass own = some m.cls)
    (hK : va_K D vwCl (mj_tys E) s) (hP : mj_P sz0 ad E D h H) (hS : va_S (mj_A sz0) s.heap H locs) (hk : h[k]? = some (ci, vs)) (hci : ci < 20) (hc : vwCl[ci]? = some (C, T, N)) (b : Nat) (hbN : b < N) (hlink : (Cond.fieldLink own index (T b).1 (T b).2.1 (T b).2.2.1).before args s = true)
    (hfin : (T b).2.2.2 = false ∨ ((T b).2.2.2 = true ∧ meth.name = "<init>" ∧ (T b).1 = own)) {ty : FieldType} {v : Value} (hd : parseFieldDescriptor (T b).2.2.1 = some ty) (hn : narrow ty (mj_tr sz0 ad v) = mj_tr sz0 ad v) (hfit : fits ty (mj_tr sz0 ad v) = true) (hl : b < vs.length) (hdg : decode cc pc = .ok (.putfield index, 3))
    (kk : ∀ (H1 : Heap) (locs1 : List Loc), mj_P sz0 ad E D (h.set k (ci, vs.set b v)) H1 → va_S (mj_A sz0) s.heap H1 locs1 → W p l e R s m args below meth c H1 locs1 cells slots Q (F0 m (pc + 3) ls rest)) :
    W p l e R s m args below meth c H locs cells slots Q (F0 m pc ls (mj_tr sz0 ad v :: .ref (sz0 + k) :: rest)) := by
  have hap := va_apart (own := own) hts hin ty0 hty hnm hK hc
  obtain ⟨r, h1, cell, q1, q2, q3, q4⟩ := hP.obj hk hci 0 _ rfl
  have hr : r = (C, T, N) := Option.some.inj (h1.symm.trans hc)
  subst hr
  obtain ⟨hSl, hfc, kC, hkC, hkind⟩ := hK.1 ci _ hc
  obtain ⟨cf, kf, fi, f, hi, hsl⟩ := hSl b hbN
  have hlay := hts _ (hin _ (u_in_lay hbN))
  unfold u_lay at hlay
  have hst := (u_facts hfc hkC (u_lays hts hin hbN) hi).1
  have fin : ∀ H' : Heap, H'[sz0 + k]? = some (cell.setSlot f.slot (mj_tr sz0 ad v)) → H'.size = H.size → (∀ q : Nat, q ≠ sz0 + k → H'[q]? = H[q]?) → W p l e R s m args below meth c H' (locs ++ [⟨sz0 + k, f.slot⟩]) cells slots Q (F0 m (pc + 3) ls rest) := by
    intro H' e1 e2 e3
    refine kk H' _ (hP.set hk ?_ e2 e3) (mj_S_put hS e2 e3 (by omega))
    rw [hsl] at e1
    simp only [mj_e, if_pos hci]
    refine ⟨_, hc, t_OB.to (V := updV (vp_V (vs.map (mj_tr sz0 ad))) b (mj_tr sz0 ad v)) ⟨_, e1, q2, q3, t_set q4 hap hbN _⟩ (fun j _ => ?_)⟩
    rw [List.map_set]
    exact vp_updV_set (by simpa using hl) _ j
  rcases hfin with hfin | ⟨hfin, hin2, hdecl⟩
  · rw [if_neg (by rw [hfin]; decide)] at hlay
    have h6 := u_store hfc hkC hkind hlay hi hd hn hfit
    exact W.putK hexec hb (f := f) ⟨hown, hlink, ⟨_, _, _, hi⟩, hst⟩ (by rw [q2]; exact h6) q1 q3 (by rw [hsl]; exact k2_hasslot (q4 b hbN)) rfl rfl hdg fin
  · rw [if_pos hfin] at hlay
    have hcf : m.cls = cf := by
      obtain ⟨_, _, c', _, _, _, -, -, hf', -, -, -, hown2, -⟩ := Cond.laysFinal_spec hlay
      have e1 : c' = cf := by have := hi.symm.trans hf'; simp at this; exact this.1.symm
      rw [hdecl] at hown2
      rw [← e1]; exact Option.some.inj (hown.symm.trans hown2)
    have h6 := u_fits hfc hkC hkind (Or.inr hlay) hi hd hn hfit
    exact W.putFinK hexec hb hown hlink hi hst hcf hin2 (by rw [q2]; exact h6) q1 q3 (by rw [hsl]; exact k2_hasslot (q4 b hbN)) rfl rfl hdg fin
theorem mj_w_new (hexec : p.tables.exec = Jvm.exec) (hb : c.code = cc) {own C : String} {T : u_T} {N ci index : Nat} {Ts : List Cond} (hts : ∀ w ∈ Ts, w.before args s = true) (hin : ∀ w ∈ u_ws C T N, w ∈ Ts) (ty : Nat → FieldType) (hty : ∀ k, k < N → parseFieldDescriptor (T k).2.2.1 = some (ty k)) (hown : s.vm.findClass own = some m.cls) (hcl : (Cond.classLink own index C).before args s = true) (hinst : (Cond.instantiable C N).before args s = true) (hini : (Cond.initialized C).before args s = true)
    (hK : va_K D vwCl (mj_tys E) s) (hP : mj_P sz0 ad E D h H) (hS : va_S (mj_A sz0) s.heap H locs) (hci : ci < 20) (hc : vwCl[ci]? = some (C, T, N)) (hfs : ∀ j, j < N → defaultValue (ty j) = vp_V (vs.map (mj_tr sz0 ad)) j) (hcells : cells + 1 ≤ R.cells) (hslots : slots + N ≤ R.slots) (hdg : decode cc pc = .ok (.new index, 3))
    (kk : ∀ H1 : Heap, mj_P sz0 ad E D (h ++ [(ci, vs)]) H1 → va_S (mj_A sz0) s.heap H1 locs → W p l e R s m args below meth c H1 locs (cells + 1) (slots + N) Q (F0 m (pc + 3) ls (.ref (sz0 + h.length) :: rest))) :
    W p l e R s m args below meth c H locs cells slots Q (F0 m pc ls rest) := by
  have hKn := hK.1 ci _ hc
  refine W.newcK hexec hb hown hcl hinst hini rfl hdg hcells hslots hKn.2.1 rfl fun H1 kC hkC e1 z1 o1 => ?_
  have hz := hP.1
  have k1 := kk H1 (hP.push ?_ z1 o1) (mj_S_push hS z1 o1)
  · rw [← hz] at k1
    exact k1
  · simp only [mj_e, if_pos hci]
    exact ⟨_, hc, (u_born ty hts hin hKn hkC e1 hty).to hfs⟩
theorem mj_w_newa (hexec : p.tables.exec = Jvm.exec) (hb : c.code = cc) {atype : ArrayType} (harr : (Cond.arrayClass (newarray.typeOf atype)).before args s = true) {tag : Nat} (ht : 20 ≤ tag) (ht2 : tag < 22) (t0 : Nat) (htt : (mj_tys E)[t0]? = some (E tag, newarray.typeOf atype)) (hdf : defaultValue (newarray.typeOf atype) = .int 0)
    (hK : va_K D vwCl (mj_tys E) s) (hP : mj_P sz0 ad E D h H) (hS : va_S (mj_A sz0) s.heap H locs) {n : Int32} (hn : ¬ n < 0) (hbytes : n.toNatClampNeg * componentBytes (newarray.typeOf atype) ≤ 536870912) (hcells : cells + 1 ≤ R.cells) (hslots : slots + n.toNatClampNeg ≤ R.slots) (hdg : decode cc pc = .ok (.newarray atype, 2))
    (kk : ∀ H1 : Heap, mj_P sz0 ad E D (h ++ [(tag, List.replicate n.toNatClampNeg (.int 0))]) H1 → va_S (mj_A sz0) s.heap H1 locs → W p l e R s m args below meth c H1 locs (cells + 1) (slots + n.toNatClampNeg) Q (F0 m (pc + 2) ls (.ref (sz0 + h.length) :: rest))) :
    W p l e R s m args below meth c H locs cells slots Q (F0 m pc ls (.int n :: rest)) := by
  refine va_newaK hexec hb harr rfl hdg rfl hn rfl hbytes hcells hslots rfl fun H1 cA e1 z1 o1 hAr hNm => ?_
  have hcA : cA = E tag := by
    have h2 := (hK.2 t0 _ htt).2
    have h3 : s.vm.findClass ("[" ++ (newarray.typeOf atype).toString) = some (E tag) := by cases atype <;> exact h2
    exact Option.some.inj (hNm.symm.trans h3)
  subst hcA
  have hz := hP.1
  have k1 := kk H1 (hP.push ?_ z1 o1) (mj_S_push hS z1 o1)
  · rw [← hz] at k1
    exact k1
  · simp only [mj_e, if_neg (show ¬ tag < 20 by omega), if_pos ht2]
    show H1[H.size]? = some (vp_cell _ _)
    rw [e1, vp_cell_i, hdf]
    simp only [List.length_map, List.length_replicate]
    congr 2
    funext j
    simp only [List.map_replicate, List.getD_eq_getElem?_getD, List.getElem?_replicate]
    by_cases hj : j < n.toNatClampNeg <;> simp [hj, mj_tr, mj_int]
theorem mj_w_anew (hexec : p.tables.exec = Jvm.exec) (hb : c.code = cc) {own C : String} {index tag : Nat} (hown : s.vm.findClass own = some m.cls) (hclink : (Cond.classLink own index C).before args s = true) (hover : (Cond.arrayOver (.object C)).before args s = true) (ht : 22 ≤ tag) (t0 : Nat) (htt : (mj_tys E)[t0]? = some (E tag, .object C))
    (hK : va_K D vwCl (mj_tys E) s) (hP : mj_P sz0 ad E D h H) (hS : va_S (mj_A sz0) s.heap H locs) {n : Int32} (hn : ¬ n < 0) (hbytes : n.toNatClampNeg * 4 ≤ 536870912) (hcells : cells + 1 ≤ R.cells) (hslots : slots + n.toNatClampNeg ≤ R.slots) (hdg : decode cc pc = .ok (.anewarray index, 3))
    (kk : ∀ H1 : Heap, mj_P sz0 ad E D (h ++ [(tag, List.replicate n.toNatClampNeg .null)]) H1 → va_S (mj_A sz0) s.heap H1 locs → W p l e R s m args below meth c H1 locs (cells + 1) (slots + n.toNatClampNeg) Q (F0 m (pc + 3) ls (.ref (sz0 + h.length) :: rest))) :
    W p l e R s m args below meth c H locs cells slots Q (F0 m pc ls (.int n :: rest)) := by
  refine W.anew hexec hb hown hclink hover rfl hdg rfl hn hbytes hcells hslots fun cA kA comp f1 f2 f3 f4 => ?_
  have hcA : cA = E tag := by
    obtain ⟨kA', comp', -, -, -, h3⟩ := (hK.2 t0 _ htt).2
    exact Option.some.inj (f1.symm.trans h3)
  subst hcA
  generalize hH1 : H.push ({ cls := E tag, slots := Array.replicate n.toNatClampNeg .null, vm := .none } : Cell) = H1
  have z1 : H1.size = H.size + 1 := by rw [← hH1, Array.size_push]
  have e1 : H1[H.size]? = some (arrV (E tag) n.toNatClampNeg (fun _ => .null)) := by rw [← hH1, Array.getElem?_push_size, ← arrV_new]
  have o1 : ∀ q : Nat, q < H.size → H1[q]? = H[q]? := fun q hq => by rw [← hH1, Array.getElem?_push, if_neg (Nat.ne_of_lt hq)]
  have hz := hP.1
  have k1 := kk H1 (hP.push ?_ z1 o1) (mj_S_push hS z1 o1)
  · rw [← hz] at k1
    exact k1
  · simp only [mj_e, if_neg (show ¬ tag < 20 by omega), if_neg (show ¬ tag < 22 by omega)]
    show H1[H.size]? = some (vp_cell _ _)
    rw [e1, vp_cell_q]
    simp only [List.length_map, List.length_replicate]
    congr 2
    funext j
    simp only [List.map_replicate, List.getD_eq_getElem?_getD, List.getElem?_replicate]
    by_cases hj : j < n.toNatClampNeg <;> simp [hj, mj_tr, mj_ref, va_rf]
end MJW
end
section
theorem mj_elt_dyn {cst : List (List Int32)} {h : mj_Hp} {k tag : Nat} {j : Int32} {v : Value} (hk : ¬ k < 5) (he : mj_elt cst h k tag j = some v) : ∃ vs, h[k - 5]? = some (tag, vs) ∧ mj_in j vs.length = true ∧ vs[j.toNatClampNeg]? = some v := by
  unfold mj_elt at he
  rw [if_neg hk] at he
  cases hc : h[k - 5]? with
  | none => rw [hc] at he; cases he
  | some c =>
    rw [hc] at he
    dsimp only at he
    split at he
    · rename_i ht
      split at he
      · rename_i hj
        obtain ⟨c1, c2⟩ := c
        dsimp only at ht
        subst ht
        exact ⟨c2, rfl, hj, he⟩
      · cases he
    · cases he
theorem mj_elt_cst {cst : List (List Int32)} {h : mj_Hp} {k tag : Nat} {j : Int32} {v : Value} (hk : k < 5) (he : mj_elt cst h k tag j = some v) : ∃ l, cst[k]? = some l ∧ mj_in j l.length = true ∧ v = .int (l.getD j.toNatClampNeg 0) := by
  unfold mj_elt at he
  rw [if_pos hk] at he
  cases hc : cst[k]? with
  | none => rw [hc] at he; cases he
  | some l =>
    rw [hc] at he
    dsimp only at he
    split at he
    · split at he
      · rename_i hj
        cases he
        exact ⟨l, rfl, hj, rfl⟩
      · cases he
    · cases he
theorem mj_fld_some {h : mj_Hp} {k tag b : Nat} {v : Value} (he : mj_fld h k tag b = some v) : ∃ vs, h[k]? = some (tag, vs) ∧ vs[b]? = some v := by
  unfold mj_fld at he
  cases hc : h[k]? with
  | none => rw [hc] at he; cases he
  | some c =>
    rw [hc] at he
    dsimp only at he
    split at he
    · rename_i ht
      obtain ⟨c1, c2⟩ := c
      dsimp only at ht
      subst ht
      exact ⟨c2, rfl, he⟩
    · cases he
theorem mj_wr_some {h : mj_Hp} {k b tag : Nat} {vs : List Value} {v : Value} (hc : h[k]? = some (tag, vs)) : mj_wr h k b v = h.set k (tag, vs.set b v) := by
  unfold mj_wr
  rw [hc]
theorem mj_sl_set {h : mj_Hp} {k tag : Nat} {vs vs' : List Value} (hk : h[k]? = some (tag, vs)) (hl : vs'.length = vs.length) : mj_sl (h.set k (tag, vs')) = mj_sl h := by
  induction h generalizing k with
  | nil => simp at hk
  | cons c r ih =>
    cases k with
    | zero =>
      simp at hk
      subst hk
      simp [mj_sl, hl]
    | succ n =>
      simp at hk
      have h1 := ih hk
      unfold mj_sl at h1 ⊢
      rw [List.set_cons_succ, List.map_cons, List.sum_cons, h1, List.map_cons, List.sum_cons]
theorem mj_sl_push {h : mj_Hp} {tag : Nat} {vs : List Value} : mj_sl (h ++ [(tag, vs)]) = mj_sl h + vs.length := by
  simp [mj_sl]
theorem mj_tgt_eq {pc : Nat} {off : Int} (h : 0 ≤ (pc : Int) + off) : (pc : Int) + off = ((mj_tgt pc off : Nat) : Int) := by
  unfold mj_tgt
  omega
def mj_dec (mm pc : Nat) (i : Instr) : Prop := ∃ len, decode (mj_code mm) pc = .ok (i, len) ∧ (mj_len i = 0 ∨ len = mj_len i)
theorem mj_dec_len {mm pc : Nat} {i : Instr} (h : mj_dec mm pc i) {n : Nat} (hn : mj_len i = n + 1) : decode (mj_code mm) pc = .ok (i, n + 1) := by
  obtain ⟨len, h1, h2⟩ := h
  rcases h2 with h2 | h2
  · omega
  · rw [h1, h2, hn]
/-- what the words must say for an instruction -/
def mj_lk (mm pc : Nat) (i : Instr) (a b : Nat) : Prop := match i with
  | .istore_n k => (k : Nat) < mj_maxL mm
  | .istore k => k < mj_maxL mm
  | .astore_n k => (k : Nat) < mj_maxL mm
  | .astore k => k < mj_maxL mm
  | .lstore_n k => (k : Nat) + 1 < mj_maxL mm
  | .lstore k => k + 1 < mj_maxL mm
  | .iinc k _ => k < mj_maxL mm
  | .ifCond _ off => 0 ≤ (pc : Int) + off
  | .if_icmp _ off => 0 ≤ (pc : Int) + off
  | .goto off => 0 ≤ (pc : Int) + off
  | .tableswitch d _ _ offs => 0 ≤ (pc : Int) + d ∧ ∀ off ∈ offs.toList, 0 ≤ (pc : Int) + off
  | .ldc2_w idx => Cond.constantLong (mj_own mm) idx (Int64.ofNat a) ∈ mj_ws mm
  | .getfield idx => ∃ (C : String) (T : u_T) (N : Nat), a < 20 ∧ vwCl[a]? = some (C, T, N) ∧ b < N ∧ (∀ w ∈ u_ws C T N, w ∈ mj_ws mm) ∧ Cond.fieldLink (mj_own mm) idx (T b).1 (T b).2.1 (T b).2.2.1 ∈ mj_ws mm
  | .putfield idx => ∃ (C : String) (T : u_T) (N : Nat) (ty0 : Nat → FieldType) (ty : FieldType), a < 20 ∧ vwCl[a]? = some (C, T, N) ∧ b < N ∧ (∀ w ∈ u_ws C T N, w ∈ mj_ws mm) ∧ Cond.fieldLink (mj_own mm) idx (T b).1 (T b).2.1 (T b).2.2.1 ∈ mj_ws mm ∧
      (∀ k, k < N → parseFieldDescriptor (T k).2.2.1 = some (ty0 k)) ∧ (∀ a, a < N → ∀ b, b < N → a ≠ b → (T a).2.1 ≠ (T b).2.1) ∧ ((T b).2.2.2 = false ∨ ((T b).2.2.2 = true ∧ mj_init mm = true ∧ (T b).1 = mj_own mm)) ∧ parseFieldDescriptor (T b).2.2.1 = some ty ∧ mj_fty a b = mj_kind ty
  | .getstatic idx => (1 ≤ a ∧ a < 5) ∧ (Cond.fieldLink (mj_own mm) idx mj_SC (mj_SN a) "[I" ∈ mj_ws mm ∨ ∃ host, Cond.fieldLinkNest (mj_own mm) idx mj_SC (mj_SN a) "[I" host ∈ mj_bad)
  | .new idx => ∃ (C : String) (T : u_T) (N : Nat) (ty : Nat → FieldType), a < 20 ∧ vwCl[a]? = some (C, T, N) ∧ (∀ w ∈ u_ws C T N, w ∈ mj_ws mm) ∧ (∀ k, k < N → parseFieldDescriptor (T k).2.2.1 = some (ty k)) ∧ Cond.classLink (mj_own mm) idx C ∈ mj_ws mm ∧ Cond.instantiable C N ∈ mj_ws mm ∧ Cond.initialized C ∈ mj_ws mm ∧ (mj_blank a).length = N ∧ (∀ v ∈ mj_blank a, ∀ k, v ≠ .ref k) ∧ ∀ j, j < N → defaultValue (ty j) = vp_V (mj_blank a) j
  | .newarray at_ => Cond.arrayClass (newarray.typeOf at_) ∈ mj_ws mm ∧ ((a = 20 ∧ at_ = .int) ∨ (a = 21 ∧ at_ = .boolean))
  | .anewarray idx => ∃ C : String, 22 ≤ a ∧ a < 26 ∧ mj_ty a = .object C ∧ Cond.classLink (mj_own mm) idx C ∈ mj_ws mm ∧ Cond.arrayOver (.object C) ∈ mj_bad
  | .multianewarray idx d => d = 2 ∧ a = 26 ∧ Cond.classLink (mj_own mm) idx "[[I" ∈ mj_ws mm ∧ Cond.arrayOver (.array .int) ∈ mj_bad ∧ Cond.arrayClass .int ∈ mj_ws mm
  | _ => True
theorem mj_blank_tr {sz0 : Nat} {ad : Nat → Nat} {l : List Value} (h : ∀ v ∈ l, ∀ k, v ≠ .ref k) : l.map (mj_tr sz0 ad) = l := by
  induction l with
  | nil => rfl
  | cons v r ih =>
    rw [List.map_cons, ih (fun w hw => h w (List.mem_cons_of_mem _ hw))]
    have := h v List.mem_cons_self
    cases v <;> first | rfl | exact absurd rfl (this _)
theorem mj_tys_at (E : Nat → ClassId) {tag : Nat} (h1 : 20 ≤ tag) (h2 : tag < 27) : (mj_tys E)[tag - 20]? = some (E tag, mj_ty tag) := by
  have : tag = 20 ∨ tag = 21 ∨ tag = 22 ∨ tag = 23 ∨ tag = 24 ∨ tag = 25 ∨ tag = 26 := by omega
  rcases this with rfl | rfl | rfl | rfl | rfl | rfl | rfl <;> rfl
theorem mj_ty_ref {tag : Nat} (h1 : 22 ≤ tag) (h2 : tag < 27) : (mj_ty tag).isReference = true := by
  have : tag = 22 ∨ tag = 23 ∨ tag = 24 ∨ tag = 25 ∨ tag = 26 := by omega
  rcases this with rfl | rfl | rfl | rfl | rfl <;> rfl
theorem mj_comp_ty {tag ci : Nat} (h1 : 22 ≤ tag) (h : mj_comp tag = ci) (hc : ci < 20) : tag < 27 ∧ ∃ r, vwCl[ci]? = some r ∧ mj_ty tag = .object r.1 := by
  subst h
  have : tag = 22 ∨ tag = 23 ∨ tag = 24 ∨ tag = 25 ∨ 26 ≤ tag := by omega
  rcases this with rfl | rfl | rfl | rfl | h
  · exact ⟨by decide, _, rfl, rfl⟩
  · exact ⟨by decide, _, rfl, rfl⟩
  · exact ⟨by decide, _, rfl, rfl⟩
  · exact ⟨by decide, _, rfl, rfl⟩
  · exfalso
    unfold mj_comp at hc
    split at hc <;> omega
/-- what a field of that kind takes -/
theorem mj_fit_ok {sz0 : Nat} {ad : Nat → Nat} {a b : Nat} {v : Value} {ty : FieldType} (h : mj_fit a b v = true) (hk : mj_fty a b = mj_kind ty) : narrow ty (mj_tr sz0 ad v) = mj_tr sz0 ad v ∧ fits ty (mj_tr sz0 ad v) = true := by
  unfold mj_fit at h
  rw [hk] at h
  cases ty <;> simp only [mj_kind] at h <;> cases v <;> simp_all [mj_tr, narrow, fits, mj_bool]
  all_goals (rcases h with h | h <;> subst h <;> decide)
end
section
theorem mj_outer (c : ClassId) (N h0 : Nat) : ∀ i : Nat, Jvm.Free.Multi.outerC c N h0 i = arrV c N (fun j => va_rf (if j < i then some (h0 + 1 + j) else none))
  | 0 => by
    show ({ cls := c, slots := Array.replicate N .null, vm := .none } : Cell) = _
    rw [arrV_new]
    refine congrArg (arrV c N) (funext fun j => ?_)
    simp [va_rf]
  | i + 1 => by
    show (Jvm.Free.Multi.outerC c N h0 i).setSlot i (.ref (h0 + 1 + i)) = _
    rw [mj_outer c N h0 i, arrV_store]
    refine congrArg (arrV c N) (funext fun j => ?_)
    by_cases e : j = i
    · subst e
      simp [updV, va_rf]
    · by_cases h : j < i
      · simp [updV, e, h, Nat.lt_succ_of_lt h]
      · simp [updV, e, h, show ¬ j < i + 1 by omega]
theorem arrV_congr {c : ClassId} {N : Nat} {f g : Nat → Value} (h : ∀ j, j < N → f j = g j) : arrV c N f = arrV c N g := by
  unfold arrV
  congr 1
  apply Array.ext
  · simp
  · intro j h1 h2
    simp only [Array.getElem_ofFn]
    exact h j (by simpa using h1)
section MJM
variable {p : Program} {l : Launch} {e : Env} {R : Room} {s : State} {m : MethodId} {args : Array Value} {below : List Frame} {meth : Method} {c : Code} {H : Heap} {locs : List Loc} {cells slots : Nat} {Q : State → Prop}
variable {cc : ByteArray} {pc : Nat} {ls : Array Slot} {rest : List Value} {sz0 : Nat} {ad : Nat → Nat} {E : Nat → ClassId} {D : va_G} {h : mj_Hp}
theorem mj_w_mna (hexec : p.tables.exec = Jvm.exec) (hb : c.code = cc) {own : String} {index : Nat} (hown : s.vm.findClass own = some m.cls) (hclink : (Cond.classLink own index "[[I").before args s = true) (hover : (Cond.arrayOver (.array .int)).before args s = true) (harr : (Cond.arrayClass .int).before args s = true)
    (hK : va_K D vwCl (mj_tys E) s) (hP : mj_P sz0 ad E D h H) (hS : va_S (mj_A sz0) s.heap H locs) {n k : Int32} (hn : ¬ n < 0) (hk : ¬ k < 0) (hb1 : n.toNatClampNeg ≤ 4096) (hb2 : k.toNatClampNeg ≤ 4096) (hcells : cells + (1 + n.toNatClampNeg) ≤ R.cells) (hslots : slots + (n.toNatClampNeg + n.toNatClampNeg * k.toNatClampNeg) ≤ R.slots) (hdg : decode cc pc = .ok (.multianewarray index 2, 4))
    (kk : ∀ H1 : Heap, mj_P sz0 ad E D (h ++ [(26, (List.range n.toNatClampNeg).map (fun i => Value.ref (5 + h.length + 1 + i)))] ++ List.replicate n.toNatClampNeg (20, List.replicate k.toNatClampNeg (Value.int 0))) H1 → va_S (mj_A sz0) s.heap H1 locs → W p l e R s m args below meth c H1 locs (cells + 1 + n.toNatClampNeg) (slots + n.toNatClampNeg + n.toNatClampNeg * k.toNatClampNeg) Q (F0 m (pc + 4) ls (.ref (sz0 + h.length) :: rest))) :
    W p l e R s m args below meth c H locs cells slots Q (F0 m pc ls (.int k :: .int n :: rest)) := by
  intro T hT Xs
  obtain ⟨vm₁, cA, comp, -, fA, fC, hO, -, X', step⟩ := Xs.multianewarray2F hexec (ty := .int) hown hclink hover harr (g := F0 m pc ls (.int k :: .int n :: rest)) rfl (by rw [hb]; exact hdg) rfl hn hk (by omega) (by show k.toNatClampNeg * componentBytes .int ≤ _; simp only [componentBytes]; omega) (by omega) rfl rfl hcells hslots
  have hcA : cA = E 26 := Option.some.inj (fA.symm.trans (hK.2 6 _ rfl).2)
  have hcI : comp = E 20 := Option.some.inj (fC.symm.trans (hK.2 0 _ rfl).2)
  subst hcA; subst hcI
  generalize hN : n.toNatClampNeg = N at *
  generalize hM : k.toNatClampNeg = M at *
  generalize hF : Jvm.Free.Multi.fill (T.setVm vm₁) (E 26) (E 20) N M (defaultValue .int) N = F at X' step
  have hTh : (T.setVm vm₁).heap = H := hT
  obtain ⟨f1, f2, -, -⟩ := Jvm.Free.Multi.fill_facts (T.setVm vm₁) (E 26) (E 20) N M (defaultValue .int) N
  rw [hF, hTh] at f1 f2
  have hold : ∀ x : Nat, x < H.size → F.heap[x]? = H[x]? := fun x hx => by
    have := Jvm.Free.Multi.fill_old (T.setVm vm₁) (E 26) (E 20) N M (defaultValue .int) (a := x) (by rw [hTh]; exact hx) N
    rw [hF, hTh] at this
    exact this
  have hrow : ∀ j : Nat, j < N → F.heap[H.size + 1 + j]? = some (arrV (E 20) M (fun _ => .int 0)) := fun j hj => by
    have := Jvm.Free.Multi.fill_inner (T.setVm vm₁) (E 26) (E 20) N M (defaultValue .int) N j hj
    rw [hF, hTh] at this
    rw [this, ← arrV_new]
    rfl
  rw [mj_outer] at f2
  have hz := hP.1
  have hP1 : mj_P sz0 ad E D (h ++ [(26, (List.range N).map (fun i => Value.ref (5 + h.length + 1 + i)))] ++ List.replicate N (20, List.replicate M (Value.int 0))) F.heap := by
    refine ⟨by rw [f1, hz]; simp; omega, fun j x hx => ?_⟩
    by_cases h1 : j < h.length
    · rw [List.append_assoc, List.getElem?_append_left h1] at hx
      exact (hP.2 j x hx).kept (hold _ (hP.2 j x hx).lt)
    · by_cases h2 : j = h.length
      · subst h2
        rw [List.append_assoc, List.getElem?_append_right (Nat.le_refl _), Nat.sub_self] at hx
        cases hx
        simp only [mj_e, if_neg (show ¬ 26 < 20 by decide), if_neg (show ¬ 26 < 22 by decide)]
        show F.heap[sz0 + h.length]? = some (vp_cell _ _)
        rw [← hz, f2, vp_cell_q]
        simp only [List.length_map, List.length_range]
        refine congrArg some (arrV_congr fun j hj => ?_)
        rw [if_pos hj, List.map_map, List.getD_eq_getElem?_getD, List.getElem?_map, List.getElem?_range hj]
        show Value.ref _ = va_rf (mj_ref (mj_tr sz0 ad (.ref (5 + h.length + 1 + j))))
        rw [mj_tr_ge (by omega)]
        show Value.ref (H.size + 1 + j) = Value.ref (sz0 + (5 + h.length + 1 + j - 5))
        rw [show H.size + 1 + j = sz0 + (5 + h.length + 1 + j - 5) by omega]
      · rw [List.getElem?_append_right (by simp; omega)] at hx
        simp only [List.length_append, List.length_singleton, List.getElem?_replicate] at hx
        split at hx
        · rename_i hj
          cases hx
          simp only [mj_e, if_neg (show ¬ 20 < 20 by decide), if_pos (show 20 < 22 by decide)]
          show F.heap[sz0 + j]? = some (vp_cell _ _)
          have e1 := hrow (j - (h.length + 1)) hj
          rw [show H.size + 1 + (j - (h.length + 1)) = sz0 + j by omega] at e1
          rw [e1, vp_cell_i]
          simp only [List.length_map, List.length_replicate]
          refine congrArg some (arrV_congr fun i hi => ?_)
          simp [List.getD_eq_getElem?_getD, List.getElem?_replicate, hi, mj_tr, mj_int]
        · cases hx
  have hS1 : va_S (mj_A sz0) s.heap F.heap locs := ⟨by rw [f1]; have := hS.1; omega, fun x h1 h2 => (hold x (Nat.lt_of_lt_of_le h1 hS.1)).trans (hS.2.1 x h1 h2), hS.2.2⟩
  obtain ⟨t, a1, b1⟩ := kk F.heap hP1 hS1 F rfl X'
  refine ⟨t, step t ?_, b1⟩
  have e9 : T.heap.size = sz0 + h.length := by rw [hT]; exact hz
  rw [e9]
  exact a1
end MJM
end
section
section MJS
variable {p : Program} {l : Launch} {e : Env} {R : Room} {s : State} {m : MethodId} {args : Array Value} {below : List Frame} {meth : Method} {c : Code} {H : Heap} {locs : List Loc} {cells slots : Nat} {Q : State → Prop}
variable {sz0 : Nat} {ad : Nat → Nat} {E : Nat → ClassId} {D : va_G} {cst : List (List Int32)}
/-- where the small machine stands, the machine stands -/
abbrev mj_W (p : Program) (l : Launch) (e : Env) (R : Room) (s : State) (m : MethodId) (args : Array Value) (below : List Frame) (meth : Method) (c : Code) (Q : State → Prop) (sz0 : Nat) (ad : Nat → Nat) (E : Nat → ClassId) (D : va_G) (nL cells slots : Nat) (h0 : mj_Hp) (t : mj_Ms) : Prop :=
  ∀ (H1 : Heap) (lsA1 : Array Slot) (locs1 : List Loc) (cells1 slots1 : Nat), mj_P sz0 ad E D t.2.2.2 H1 → va_S (mj_A sz0) s.heap H1 locs1 → lv_has lsA1 nL (mj_trL sz0 ad t.2.1) → cells1 + h0.length = cells + t.2.2.2.length → slots1 + mj_sl h0 = slots + mj_sl t.2.2.2 →
    W p l e R s m args below meth c H1 locs1 cells1 slots1 Q (F0 m t.1 lsA1 (t.2.2.1.map (mj_tr sz0 ad)))
set_option maxHeartbeats 4000000 in
set_option maxRecDepth 10000 in
theorem mj_sim1 {i : Instr} {a b pc : Nat} {ls : mj_Ls} {st : List Value} {h : mj_Hp} {t : mj_Ms} (mm : Nat) (hx : p.tables.exec = Jvm.exec) (hb : c.code = mj_code mm) (hown : s.vm.findClass (mj_own mm) = some m.cls) (hts : ∀ w ∈ mj_ws mm, w.before args s = true) (hin : mj_init mm = true → meth.name = "<init>")
    (hd : mj_dec mm pc i) (hlk : mj_lk mm pc i a b) (hK : mj_K sz0 ad E D cst s) (hstep : mj_step cst i a b pc ls st h = some t) (hP : mj_P sz0 ad E D h H) (hS : va_S (mj_A sz0) s.heap H locs) {lsA : Array Slot} (hl : lv_has lsA (mj_maxL mm) (mj_trL sz0 ad ls))
    (hr1 : cells + t.2.2.2.length ≤ R.cells + h.length) (hr2 : slots + mj_sl t.2.2.2 ≤ R.slots + mj_sl h) (kk : mj_W p l e R s m args below meth c Q sz0 ad E D (mj_maxL mm) cells slots h t) :
    W p l e R s m args below meth c H locs cells slots Q (F0 m pc lsA (st.map (mj_tr sz0 ad))) := by
  have hKK := hK.1
  unfold mj_step at hstep
  split at hstep
  · cases hstep
    exact lv_iconst hx hb (mj_dec_len hd rfl) rfl (kk _ _ _ _ _ hP hS hl rfl rfl)
  · cases hstep
    exact lv_bipush hx hb (mj_dec_len hd rfl) rfl (kk _ _ _ _ _ hP hS hl rfl rfl)
  · cases hstep
    exact lv_sipush hx hb (mj_dec_len hd rfl) rfl (kk _ _ _ _ _ hP hS hl rfl rfl)
  · cases hstep
    exact lv_ldc2 hx hb hown (hts _ hlk) (mj_dec_len hd rfl) (kk _ _ _ _ _ hP hS hl rfl rfl)
  · split at hstep
    · rename_i hg
      cases hstep
      exact lv_iload_n hx hb (mj_dec_len hd rfl) rfl (mj_has_get hl hg) (kk _ _ _ _ _ hP hS hl rfl rfl)
    · cases hstep
  · split at hstep
    · rename_i hg
      cases hstep
      exact lv_iload hx hb (mj_dec_len hd rfl) (mj_has_get hl hg) (kk _ _ _ _ _ hP hS hl rfl rfl)
    · cases hstep
  · split at hstep
    · rename_i hg
      cases hstep
      exact lv_lload_n hx hb (mj_dec_len hd rfl) rfl (mj_has_get hl hg) (kk _ _ _ _ _ hP hS hl rfl rfl)
    · cases hstep
  · split at hstep
    · rename_i hg
      cases hstep
      exact lv_lload hx hb (mj_dec_len hd rfl) (mj_has_get hl hg) (kk _ _ _ _ _ hP hS hl rfl rfl)
    · cases hstep
  · split at hstep
    · rename_i hg
      cases hstep
      exact lv_aload_n hx hb (mj_dec_len hd rfl) rfl (mj_has_get hl hg) (kk _ _ _ _ _ hP hS hl rfl rfl)
    · cases hstep
  · split at hstep
    · rename_i hg
      cases hstep
      exact lv_aload hx hb (mj_dec_len hd rfl) (mj_has_get hl hg) (kk _ _ _ _ _ hP hS hl rfl rfl)
    · cases hstep
  · split at hstep
    · cases hstep
      exact lv_istore_n hx hb (mj_dec_len hd rfl) rfl hl hlk rfl (fun ls' hl' => kk _ _ _ _ _ hP hS (mj_has_set1 rfl hl') rfl rfl)
    · cases hstep
  · split at hstep
    · cases hstep
      exact lv_istore hx hb (mj_dec_len hd rfl) hl hlk rfl (fun ls' hl' => kk _ _ _ _ _ hP hS (mj_has_set1 rfl hl') rfl rfl)
    · cases hstep
  · split at hstep
    · cases hstep
      exact lv_astore_n hx hb (mj_dec_len hd rfl) rfl hl hlk rfl (fun ls' hl' => kk _ _ _ _ _ hP hS (mj_has_set1 rfl hl') rfl rfl)
    · cases hstep
  · split at hstep
    · cases hstep
      exact lv_astore hx hb (mj_dec_len hd rfl) hl hlk rfl (fun ls' hl' => kk _ _ _ _ _ hP hS (mj_has_set1 rfl hl') rfl rfl)
    · cases hstep
  · split at hstep
    · cases hstep
      exact lv_lstore_n hx hb (mj_dec_len hd rfl) rfl hl hlk rfl (fun ls' hl' => kk _ _ _ _ _ hP hS (mj_has_set2 rfl hl') rfl rfl)
    · cases hstep
  · split at hstep
    · cases hstep
      exact lv_lstore hx hb (mj_dec_len hd rfl) hl hlk rfl (fun ls' hl' => kk _ _ _ _ _ hP hS (mj_has_set2 rfl hl') rfl rfl)
    · cases hstep
  · split at hstep
    · rename_i hg
      cases hstep
      obtain ⟨k1, hk1⟩ := List.getElem?_of_mem (List.mem_map.mpr ⟨_, mj_get_mem hg, rfl⟩ : _ ∈ mj_trL sz0 ad ls)
      exact lv_iinc hx hb (mj_dec_len hd rfl) hl hk1 rfl hlk rfl (fun ls' hl' => kk _ _ _ _ _ hP hS (mj_has_set1 rfl hl') rfl rfl)
    · cases hstep
  · split at hstep
    · cases hstep
      exact lv_iadd hx hb (mj_dec_len hd rfl) (kk _ _ _ _ _ hP hS hl rfl rfl)
    · cases hstep
  · split at hstep
    · cases hstep
      exact lv_isub hx hb (mj_dec_len hd rfl) (kk _ _ _ _ _ hP hS hl rfl rfl)
    · cases hstep
  · split at hstep
    · cases hstep
      exact lv_imul hx hb (mj_dec_len hd rfl) (kk _ _ _ _ _ hP hS hl rfl rfl)
    · cases hstep
  · split at hstep
    · cases hstep
      exact lv_iand hx hb (mj_dec_len hd rfl) (kk _ _ _ _ _ hP hS hl rfl rfl)
    · cases hstep
  · split at hstep
    · cases hstep
      exact lv_ior hx hb (mj_dec_len hd rfl) (kk _ _ _ _ _ hP hS hl rfl rfl)
    · cases hstep
  · split at hstep
    · cases hstep
      exact lv_ixor hx hb (mj_dec_len hd rfl) (kk _ _ _ _ _ hP hS hl rfl rfl)
    · cases hstep
  · split at hstep
    · cases hstep
      exact lv_ishl hx hb (mj_dec_len hd rfl) (kk _ _ _ _ _ hP hS hl rfl rfl)
    · cases hstep
  · split at hstep
    · cases hstep
      exact lv_ishr hx hb (mj_dec_len hd rfl) (kk _ _ _ _ _ hP hS hl rfl rfl)
    · cases hstep
  · split at hstep
    · split at hstep
      · cases hstep
      · rename_i hne
        cases hstep
        exact lv_idiv hx hb (mj_dec_len hd rfl) hne (kk _ _ _ _ _ hP hS hl rfl rfl)
    · cases hstep
  · split at hstep
    · cases hstep
      exact lv_ladd hx hb (mj_dec_len hd rfl) (kk _ _ _ _ _ hP hS hl rfl rfl)
    · cases hstep
  · split at hstep
    · cases hstep
      exact lv_lmul hx hb (mj_dec_len hd rfl) (kk _ _ _ _ _ hP hS hl rfl rfl)
    · cases hstep
  · split at hstep
    · cases hstep
      exact W.lcmp hx hb (mj_dec_len hd rfl) (kk _ _ _ _ _ hP hS hl rfl rfl)
    · cases hstep
  · split at hstep
    · cases hstep
      exact lv_i2l hx hb (mj_dec_len hd rfl) rfl (kk _ _ _ _ _ hP hS hl rfl rfl)
    · cases hstep
  · split at hstep
    · cases hstep
      exact lv_dup hx hb (mj_dec_len hd rfl) rfl (kk _ _ _ _ _ hP hS hl rfl rfl)
    · cases hstep
      exact lv_dup hx hb (mj_dec_len hd rfl) rfl (kk _ _ _ _ _ hP hS hl rfl rfl)
    · cases hstep
  · split at hstep
    · cases hstep
      exact lv_dup2_11 hx hb (mj_dec_len hd rfl) rfl rfl (kk _ _ _ _ _ hP hS hl rfl rfl)
    · cases hstep
  · rename_i cnd off
    split at hstep
    · cases hstep
      cases cnd
      · refine lv_if_eq hx hb (mj_dec_len hd rfl) (mj_tgt_eq hlk) (fun hc => ?_) (fun hc => ?_)
        · have k1 := (kk _ _ _ _ _ hP hS hl rfl rfl)
          rw [if_pos (by simpa [mj_ccond] using hc)] at k1
          exact k1
        · have k1 := (kk _ _ _ _ _ hP hS hl rfl rfl)
          rw [if_neg (by simpa [mj_ccond] using hc)] at k1
          exact k1
      · refine lv_if_ne hx hb (mj_dec_len hd rfl) (mj_tgt_eq hlk) (fun hc => ?_) (fun hc => ?_)
        · have k1 := (kk _ _ _ _ _ hP hS hl rfl rfl)
          rw [if_pos (by simpa [mj_ccond] using hc)] at k1
          exact k1
        · have k1 := (kk _ _ _ _ _ hP hS hl rfl rfl)
          rw [if_neg (by simpa [mj_ccond] using hc)] at k1
          exact k1
      · refine lv_if_lt hx hb (mj_dec_len hd rfl) (mj_tgt_eq hlk) (fun hc => ?_) (fun hc => ?_)
        · have k1 := (kk _ _ _ _ _ hP hS hl rfl rfl)
          rw [if_pos (by simpa [mj_ccond] using hc)] at k1
          exact k1
        · have k1 := (kk _ _ _ _ _ hP hS hl rfl rfl)
          rw [if_neg (by simpa [mj_ccond] using hc)] at k1
          exact k1
      · refine lv_if_ge hx hb (mj_dec_len hd rfl) (mj_tgt_eq hlk) (fun hc => ?_) (fun hc => ?_)
        · have k1 := (kk _ _ _ _ _ hP hS hl rfl rfl)
          rw [if_pos (by simpa [mj_ccond] using hc)] at k1
          exact k1
        · have k1 := (kk _ _ _ _ _ hP hS hl rfl rfl)
          rw [if_neg (by simpa [mj_ccond] using hc)] at k1
          exact k1
      · refine lv_if_gt hx hb (mj_dec_len hd rfl) (mj_tgt_eq hlk) (fun hc => ?_) (fun hc => ?_)
        · have k1 := (kk _ _ _ _ _ hP hS hl rfl rfl)
          rw [if_pos (by simpa [mj_ccond] using hc)] at k1
          exact k1
        · have k1 := (kk _ _ _ _ _ hP hS hl rfl rfl)
          rw [if_neg (by simpa [mj_ccond] using hc)] at k1
          exact k1
      · refine lv_if_le hx hb (mj_dec_len hd rfl) (mj_tgt_eq hlk) (fun hc => ?_) (fun hc => ?_)
        · have k1 := (kk _ _ _ _ _ hP hS hl rfl rfl)
          rw [if_pos (by simpa [mj_ccond] using hc)] at k1
          exact k1
        · have k1 := (kk _ _ _ _ _ hP hS hl rfl rfl)
          rw [if_neg (by simpa [mj_ccond] using hc)] at k1
          exact k1
    · cases hstep
  · rename_i cnd off
    split at hstep
    · cases hstep
      cases cnd
      · refine lv_icmp_eq hx hb (mj_dec_len hd rfl) (mj_tgt_eq hlk) (fun hc => ?_) (fun hc => ?_)
        · have k1 := (kk _ _ _ _ _ hP hS hl rfl rfl)
          rw [if_pos (by simpa [mj_ccond] using hc)] at k1
          exact k1
        · have k1 := (kk _ _ _ _ _ hP hS hl rfl rfl)
          rw [if_neg (by simpa [mj_ccond] using hc)] at k1
          exact k1
      · refine lv_icmp_ne hx hb (mj_dec_len hd rfl) (mj_tgt_eq hlk) (fun hc => ?_) (fun hc => ?_)
        · have k1 := (kk _ _ _ _ _ hP hS hl rfl rfl)
          rw [if_pos (by simpa [mj_ccond] using hc)] at k1
          exact k1
        · have k1 := (kk _ _ _ _ _ hP hS hl rfl rfl)
          rw [if_neg (by simpa [mj_ccond] using hc)] at k1
          exact k1
      · refine lv_icmp_lt hx hb (mj_dec_len hd rfl) (mj_tgt_eq hlk) (fun hc => ?_) (fun hc => ?_)
        · have k1 := (kk _ _ _ _ _ hP hS hl rfl rfl)
          rw [if_pos (by simpa [mj_ccond] using hc)] at k1
          exact k1
        · have k1 := (kk _ _ _ _ _ hP hS hl rfl rfl)
          rw [if_neg (by simpa [mj_ccond] using hc)] at k1
          exact k1
      · refine lv_icmp_ge hx hb (mj_dec_len hd rfl) (mj_tgt_eq hlk) (fun hc => ?_) (fun hc => ?_)
        · have k1 := (kk _ _ _ _ _ hP hS hl rfl rfl)
          rw [if_pos (by simpa [mj_ccond] using hc)] at k1
          exact k1
        · have k1 := (kk _ _ _ _ _ hP hS hl rfl rfl)
          rw [if_neg (by simpa [mj_ccond] using hc)] at k1
          exact k1
      · refine lv_icmp_gt hx hb (mj_dec_len hd rfl) (mj_tgt_eq hlk) (fun hc => ?_) (fun hc => ?_)
        · have k1 := (kk _ _ _ _ _ hP hS hl rfl rfl)
          rw [if_pos (by simpa [mj_ccond] using hc)] at k1
          exact k1
        · have k1 := (kk _ _ _ _ _ hP hS hl rfl rfl)
          rw [if_neg (by simpa [mj_ccond] using hc)] at k1
          exact k1
      · refine lv_icmp_le hx hb (mj_dec_len hd rfl) (mj_tgt_eq hlk) (fun hc => ?_) (fun hc => ?_)
        · have k1 := (kk _ _ _ _ _ hP hS hl rfl rfl)
          rw [if_pos (by simpa [mj_ccond] using hc)] at k1
          exact k1
        · have k1 := (kk _ _ _ _ _ hP hS hl rfl rfl)
          rw [if_neg (by simpa [mj_ccond] using hc)] at k1
          exact k1
    · cases hstep
  · cases hstep
    exact lv_goto hx hb (mj_dec_len hd rfl) (mj_tgt_eq hlk) (kk _ _ _ _ _ hP hS hl rfl rfl)
  · rename_i dd lo hi offs
    obtain ⟨len, hdl, -⟩ := hd
    split at hstep
    · split at hstep
      · rename_i hr
        cases hstep
        exact lv_tableOut hx hb hdl hr (mj_tgt_eq hlk.1) (kk _ _ _ _ _ hP hS hl rfl rfl)
      · rename_i hr
        split at hstep
        · rename_i off ho
          cases hstep
          exact lv_tableIn hx hb hdl (fun q => hr (Or.inl q)) (fun q => hr (Or.inr q)) ho (mj_tgt_eq (hlk.2 off (Array.mem_toList_iff.mpr (Array.mem_of_getElem? ho)))) (kk _ _ _ _ _ hP hS hl rfl rfl)
        · cases hstep
    · cases hstep
  · split at hstep
    · split at hstep
      · cases hstep
      · rename_i hk5
        split at hstep
        · rename_i v hv
          cases hstep
          obtain ⟨vs, hc, hvb⟩ := mj_fld_some hv
          obtain ⟨C, T, N, h20, hcl, hbN, hws, hlink⟩ := hlk
          simp only [List.map_cons]
          rw [mj_tr_ge hk5]
          exact va_get hx hb hts hws hown hKK (hP.obj hc h20) 0 rfl hcl b hbN (hts _ hlink) (fun _ hh => hh) (by rw [List.getElem?_map, hvb]; rfl) (mj_dec_len hd rfl) (kk _ _ _ _ _ hP hS hl rfl rfl)
        · cases hstep
    · cases hstep
  · cases hstep
    obtain ⟨⟨ha1, ha5⟩, hlink⟩ := hlk
    have hZ := hK.2.2.2.1 a ha1 ha5
    have k1 := (kk _ _ _ _ _ hP hS hl rfl rfl)
    simp only [List.map_cons] at k1
    rw [mj_tr_lt ha5] at k1
    rcases hlink with hlink | ⟨host, hlink⟩
    · exact va_gets hx hb hZ hS hown (hts _ hlink) (fun _ hh => hh) (mj_dec_len hd rfl) k1
    · exact va_getsN hx hb hZ hS hown (va_Nw.use rfl (hK.2.2.2.2 _ hlink)) (fun _ hh => hh) (mj_dec_len hd rfl) k1
  · split at hstep
    · rename_i j k r
      split at hstep
      · rename_i x he
        cases hstep
        simp only [List.map_cons]
        by_cases hk5 : k < 5
        · obtain ⟨l9, hc, hj, hv⟩ := mj_elt_cst hk5 he
          obtain ⟨hvp, hlt⟩ := mj_in_vp hj
          rw [mj_tr_lt hk5]
          exact va_ti hx hb (hK.2.2.1 k l9 hc hk5) hS hvp hv.symm (mj_dec_len hd rfl) (kk _ _ _ _ _ hP hS hl rfl rfl)
        · obtain ⟨vs, hc, hj, hv⟩ := mj_elt_dyn hk5 he
          obtain ⟨hvp, hlt⟩ := mj_in_vp hj
          rw [mj_tr_ge hk5]
          refine va_iald hx hb hKK (hP.arr hc (by omega) (by omega)) 0 0 rfl rfl hvp (mj_dec_len hd rfl) ?_
          rw [mj_arr_int hv]
          exact (kk _ _ _ _ _ hP hS hl rfl rfl)
      · cases hstep
    · cases hstep
  · split at hstep
    · rename_i j k r
      split at hstep
      · cases hstep
      · rename_i hk5
        split at hstep
        · rename_i x he
          cases hstep
          simp only [List.map_cons]
          obtain ⟨vs, hc, hj, hv⟩ := mj_elt_dyn hk5 he
          obtain ⟨hvp, hlt⟩ := mj_in_vp hj
          rw [mj_tr_ge hk5]
          refine va_zald hx hb hKK (hP.arr hc (by omega) (by omega)) 0 1 rfl rfl hvp (mj_dec_len hd rfl) ?_
          rw [mj_arr_int hv]
          exact (kk _ _ _ _ _ hP hS hl rfl rfl)
        · cases hstep
    · cases hstep
  · split at hstep
    · rename_i j k r
      split at hstep
      · cases hstep
      · rename_i hk5
        split at hstep
        · rename_i cc hc
          obtain ⟨tag, vs⟩ := cc
          dsimp only at hstep
          split at hstep
          · rename_i hcd
            obtain ⟨ht1, ht2, hj⟩ := hcd
            split at hstep
            · rename_i y hv
              cases hstep
              obtain ⟨hvp, hlt⟩ := mj_in_vp hj
              simp only [List.map_cons]
              rw [mj_tr_ge hk5]
              refine W.aald (v := mj_tr sz0 ad (.ref y)) (ty := mj_ty tag) hx hb (hP.arq hc ht1 0 _ rfl) ((hKK.2 (tag - 20) _ (mj_tys_at E (by omega) ht2)).1 vs.length _) (mj_ty_ref ht1 ht2) (fun q => by cases q) (by show ¬ (j < 0 ∨ (arrV _ _ _).slots.size ≤ _); rw [arrV_size]; exact hvp) ?_ rfl rfl (mj_dec_len hd rfl) (kk _ _ _ _ _ hP hS hl rfl rfl)
              show (arrV _ _ _).slots[_]? = _
              rw [arrV_read _ _ hlt, mj_arr_ref hv]
            · cases hstep
          · cases hstep
        · cases hstep
    · cases hstep
  · split at hstep
    · rename_i k r
      split at hstep
      · rename_i hk5
        split at hstep
        · rename_i l9 hc
          cases hstep
          simp only [List.map_cons]
          rw [mj_tr_lt hk5]
          exact va_tlen hx hb (hK.2.2.1 k l9 hc hk5) hS rfl (mj_dec_len hd rfl) (kk _ _ _ _ _ hP hS hl rfl rfl)
        · cases hstep
      · rename_i hk5
        split at hstep
        · rename_i cc hc
          obtain ⟨tag, vs⟩ := cc
          dsimp only at hstep
          split at hstep
          · rename_i hcd
            obtain ⟨ht1, ht2⟩ := hcd
            cases hstep
            simp only [List.map_cons]
            rw [mj_tr_ge hk5]
            by_cases h22 : tag < 22
            · exact va_alen hx hb hKK (hP.arr hc ht1 h22) 0 (tag - 20) rfl (mj_tys_at E ht1 ht2) rfl (mj_dec_len hd rfl) (kk _ _ _ _ _ hP hS hl rfl rfl)
            · exact va_alen hx hb hKK (hP.arq hc (by omega)) 0 (tag - 20) rfl (mj_tys_at E ht1 ht2) rfl (mj_dec_len hd rfl) (kk _ _ _ _ _ hP hS hl rfl rfl)
          · cases hstep
        · cases hstep
    · cases hstep
  · split at hstep
    · rename_i v k r
      split at hstep
      · cases hstep
      · rename_i hk5
        split at hstep
        · rename_i w hv
          split at hstep
          · rename_i hfit
            cases hstep
            obtain ⟨vs, hc, hvb⟩ := mj_fld_some hv
            obtain ⟨C, T, N, ty0, ty, h20, hcl, hbN, hws, hlink, hty, hnm, hfin, hpd, hkd⟩ := hlk
            have hbl : b < vs.length := (List.getElem?_eq_some_iff.mp hvb).1
            obtain ⟨hnw, hft⟩ := mj_fit_ok (sz0 := sz0) (ad := ad) hfit hkd
            simp only [List.map_cons]
            rw [mj_tr_ge hk5]
            refine mj_w_put hx hb hts hws ty0 hty hnm hown hKK hP hS hc h20 hcl b hbN (hts _ hlink) ?_ hpd hnw hft hbl (mj_dec_len hd rfl) (fun H1 locs1 hP1 hS1 => ?_)
            · rcases hfin with hf | ⟨hf, hi, ho⟩
              · exact Or.inl hf
              · exact Or.inr ⟨hf, hin hi, ho⟩
            · have k1 := kk H1 lsA locs1 cells slots
              rw [mj_wr_some hc] at k1
              exact k1 hP1 hS1 hl (by simp) (by rw [mj_sl_set hc (by simp)])
          · cases hstep
        · cases hstep
    · cases hstep
  · split at hstep
    · rename_i x j k r
      split at hstep
      · cases hstep
      · rename_i hk5
        split at hstep
        · rename_i w he
          have htriv : True := trivial
          cases hstep
          obtain ⟨vs, hc, hj, hv⟩ := mj_elt_dyn hk5 he
          simp only [List.map_cons]
          rw [mj_tr_ge hk5]
          refine mj_w_iast hx hb hKK hP hS hc hj (mj_dec_len hd rfl) (fun H1 locs1 hP1 hS1 => ?_)
          have k1 := kk H1 lsA locs1 cells slots
          rw [mj_wr_some hc] at k1
          exact k1 hP1 hS1 hl (by simp) (by rw [mj_sl_set hc (by simp)])
        · cases hstep
    · cases hstep
  · split at hstep
    · rename_i x j k r
      split at hstep
      · cases hstep
      · rename_i hk5
        split at hstep
        · rename_i w he
          split at hstep
          · rename_i hbx
            cases hstep
            obtain ⟨vs, hc, hj, hv⟩ := mj_elt_dyn hk5 he
            simp only [List.map_cons]
            rw [mj_tr_ge hk5]
            refine mj_w_zast hx hb hKK hP hS hc hj hbx (mj_dec_len hd rfl) (fun H1 locs1 hP1 hS1 => ?_)
            have k1 := kk H1 lsA locs1 cells slots
            rw [mj_wr_some hc] at k1
            exact k1 hP1 hS1 hl (by simp) (by rw [mj_sl_set hc (by simp)])
          · cases hstep
        · cases hstep
    · cases hstep
  · split at hstep
    · rename_i y j k r
      split at hstep
      · cases hstep
      · rename_i hk5
        have hk : ¬ k < 5 := fun q => hk5 (Or.inl q)
        have hy : ¬ y < 5 := fun q => hk5 (Or.inr q)
        split at hstep
        · rename_i c1 c2 hc hcy
          obtain ⟨tag, vs⟩ := c1
          obtain ⟨ci, vy⟩ := c2
          dsimp only at hstep
          split at hstep
          · rename_i hcd
            obtain ⟨hcomp, hci, ht1, hj⟩ := hcd
            cases hstep
            obtain ⟨ht2, r9, hr9, hty9⟩ := mj_comp_ty ht1 hcomp hci
            simp only [List.map_cons]
            rw [mj_tr_ge hk, mj_tr_ge hy]
            refine mj_w_aast hx hb hKK hP hS hc ht1 hcy hci hr9 (tag - 20) (by rw [mj_tys_at E (by omega) ht2, hty9]) hj (mj_dec_len hd rfl) (fun H1 locs1 hP1 hS1 => ?_)
            have k1 := kk H1 lsA locs1 cells slots
            rw [mj_wr_some hc] at k1
            rw [show 5 + (y - 5) = y from Nat.add_sub_cancel' (Nat.le_of_not_lt hy)] at hP1
            exact k1 hP1 hS1 hl (by simp) (by rw [mj_sl_set hc (by simp)])
          · cases hstep
        · cases hstep
    · cases hstep
  · cases hstep
    obtain ⟨C, T, N, ty, h20, hcl, hws, hty, hlink, hinst, hini, hlen, hnr, hdv⟩ := hlk
    dsimp only at hr1 hr2
    rw [mj_sl_push, hlen] at hr2
    simp only [List.length_append, List.length_singleton] at hr1
    refine mj_w_new hx hb hts hws ty hty hown (hts _ hlink) (hts _ hinst) (hts _ hini) hKK hP hS h20 hcl (vs := mj_blank a) (fun j hj => by rw [mj_blank_tr hnr]; exact hdv j hj) (by omega) (by omega) (mj_dec_len hd rfl) (fun H1 hP1 hS1 => ?_)
    have k1 := kk H1 lsA locs (cells + 1) (slots + N) hP1 hS1 hl (by simp; omega) (by rw [mj_sl_push, hlen]; omega)
    simp only [List.map_cons, mj_tr_new] at k1
    exact k1
  · split at hstep
    · rename_i n r
      split at hstep
      · cases hstep
      · rename_i hn
        cases hstep
        obtain ⟨harr, hat⟩ := hlk
        dsimp only at hr1 hr2
        rw [mj_sl_push, List.length_replicate] at hr2
        simp only [List.length_append, List.length_singleton] at hr1
        have hn0 : ¬ n < 0 := fun q => hn (Or.inl q)
        have hnB : ¬ 65536 < n.toNatClampNeg := fun q => hn (Or.inr q)
        simp only [List.map_cons]
        rcases hat with ⟨rfl, rfl⟩ | ⟨rfl, rfl⟩
        · refine mj_w_newa hx hb (hts _ harr) (by decide) (by decide) 0 rfl rfl hKK hP hS hn0 (by show n.toNatClampNeg * _ ≤ _; simp only [newarray.typeOf, componentBytes]; omega) (by omega) (by omega) (mj_dec_len hd rfl) (fun H1 hP1 hS1 => ?_)
          have k1 := kk H1 lsA locs (cells + 1) (slots + n.toNatClampNeg) hP1 hS1 hl (by simp; omega) (by rw [mj_sl_push, List.length_replicate]; omega)
          simp only [List.map_cons, mj_tr_new] at k1
          exact k1
        · refine mj_w_newa hx hb (hts _ harr) (by decide) (by decide) 1 rfl rfl hKK hP hS hn0 (by show n.toNatClampNeg * _ ≤ _; simp only [newarray.typeOf, componentBytes]; omega) (by omega) (by omega) (mj_dec_len hd rfl) (fun H1 hP1 hS1 => ?_)
          have k1 := kk H1 lsA locs (cells + 1) (slots + n.toNatClampNeg) hP1 hS1 hl (by simp; omega) (by rw [mj_sl_push, List.length_replicate]; omega)
          simp only [List.map_cons, mj_tr_new] at k1
          exact k1
    · cases hstep
  · split at hstep
    · rename_i n r
      split at hstep
      · cases hstep
      · rename_i hn
        cases hstep
        obtain ⟨C, ha1, ha2, hty, hlink, hover⟩ := hlk
        dsimp only at hr1 hr2
        rw [mj_sl_push, List.length_replicate] at hr2
        simp only [List.length_append, List.length_singleton] at hr1
        have hn0 : ¬ n < 0 := fun q => hn (Or.inl q)
        have hnB : ¬ 65536 < n.toNatClampNeg := fun q => hn (Or.inr q)
        simp only [List.map_cons]
        refine mj_w_anew hx hb hown (hts _ hlink) (hK.2.2.2.2 _ hover) ha1 (a - 20) (by rw [mj_tys_at E (by omega) (by omega), hty]) hKK hP hS hn0 (by omega) (by omega) (by omega) (mj_dec_len hd rfl) (fun H1 hP1 hS1 => ?_)
        have k1 := kk H1 lsA locs (cells + 1) (slots + n.toNatClampNeg) hP1 hS1 hl (by simp; omega) (by rw [mj_sl_push, List.length_replicate]; omega)
        simp only [List.map_cons, mj_tr_new] at k1
        exact k1
    · cases hstep
  · split at hstep
    · rename_i k n r
      split at hstep
      · cases hstep
      · rename_i hn
        cases hstep
        obtain ⟨rfl, rfl, hlink, hover, harr⟩ := hlk
        have hn0 : ¬ n < 0 := fun q => hn (Or.inl q)
        have hnB : ¬ 4096 < n.toNatClampNeg := fun q => hn (Or.inr (Or.inl q))
        have hk0 : ¬ k < 0 := fun q => hn (Or.inr (Or.inr (Or.inl q)))
        have hkB : ¬ 4096 < k.toNatClampNeg := fun q => hn (Or.inr (Or.inr (Or.inr q)))
        have hsl : mj_sl (h ++ [(26, (List.range n.toNatClampNeg).map (fun i => Value.ref (5 + h.length + 1 + i)))] ++ List.replicate n.toNatClampNeg (20, List.replicate k.toNatClampNeg (Value.int 0))) = mj_sl h + n.toNatClampNeg + n.toNatClampNeg * k.toNatClampNeg := by simp [mj_sl]; omega
        dsimp only at hr1 hr2
        rw [hsl] at hr2
        simp only [List.length_append, List.length_singleton, List.length_replicate] at hr1
        simp only [List.map_cons]
        refine mj_w_mna hx hb hown (hts _ hlink) (hK.2.2.2.2 _ hover) (hts _ harr) hKK hP hS hn0 hk0 (by omega) (by omega) (by omega) (by omega) (mj_dec_len hd rfl) (fun H1 hP1 hS1 => ?_)
        have k1 := kk H1 lsA locs (cells + 1 + n.toNatClampNeg) (slots + n.toNatClampNeg + n.toNatClampNeg * k.toNatClampNeg) hP1 hS1 hl (by simp; omega) (by rw [hsl]; omega)
        simp only [List.map_cons, mj_tr_new] at k1
        exact k1
    · cases hstep
  · cases hstep
end MJS
end
section
theorem mj_wr_len {h : mj_Hp} {k b : Nat} {v : Value} : (mj_wr h k b v).length = h.length ∧ mj_sl (mj_wr h k b v) = mj_sl h := by
  unfold mj_wr
  split
  · rename_i c hc
    obtain ⟨tag, vs⟩ := c
    exact ⟨by simp, mj_sl_set hc (by simp)⟩
  · exact ⟨rfl, rfl⟩
set_option maxHeartbeats 4000000 in
theorem mj_step_len {cst : List (List Int32)} {i : Instr} {a b pc : Nat} {ls : mj_Ls} {st : List Value} {h : mj_Hp} {t : mj_Ms} (hs : mj_step cst i a b pc ls st h = some t) : h.length ≤ t.2.2.2.length ∧ mj_sl h ≤ mj_sl t.2.2.2 := by
  unfold mj_step at hs
  repeat' (split at hs)
  all_goals first
    | (cases hs; done)
    | (cases hs; exact ⟨Nat.le_refl _, Nat.le_refl _⟩)
    | (cases hs; exact ⟨Nat.le_of_eq mj_wr_len.1.symm, Nat.le_of_eq mj_wr_len.2.symm⟩)
    | (cases hs; refine ⟨by simp <;> omega, by simp [mj_sl] <;> omega⟩)
theorem mj_run_len {cst : List (List Int32)} : ∀ {n m pc : Nat} {ls : mj_Ls} {st : List Value} {h : mj_Hp} {r : Option Value} {h' : mj_Hp}, mj_run cst n m pc ls st h = some (r, h') → h.length ≤ h'.length ∧ mj_sl h ≤ mj_sl h' := by
  intro n
  induction n with
  | zero => intro m pc ls st h r h' hr; simp [mj_run] at hr
  | succ n ih =>
    intro m pc ls st h r h' hr
    unfold mj_run at hr
    split at hr
    · cases hr
    · split at hr
      · cases hr; exact ⟨Nat.le_refl _, Nat.le_refl _⟩
      · split at hr
        · split at hr
          · rename_i hs
            have h1 := mj_step_len hs
            have h2 := ih hr
            exact ⟨Nat.le_trans h1.1 h2.1, Nat.le_trans h1.2 h2.2⟩
          · cases hr
        · repeat' (split at hr)
          all_goals first
            | (cases hr; done)
            | exact ih hr
            | (rename_i hc; have h1 := ih hc; have h2 := ih hr; exact ⟨Nat.le_trans h1.1 h2.1, Nat.le_trans h1.2 h2.2⟩)
        · repeat' (split at hr)
          all_goals first
            | (cases hr; done)
            | exact ih hr
            | (rename_i hc; have h1 := ih hc; have h2 := ih hr; exact ⟨Nat.le_trans h1.1 h2.1, Nat.le_trans h1.2 h2.2⟩)
def mj_Q (sz0 : Nat) (ad : Nat → Nat) (E : Nat → ClassId) (D : va_G) (r : Option Value) (h' : mj_Hp) : Array Value → State → Outcome → State → Prop := fun _ st oc t =>
  oc = .returned (r.map (mj_tr sz0 ad)) ∧ mj_P sz0 ad E D h' t.heap ∧ va_F (mj_A sz0) st t
def mj_Pc (sz0 : Nat) (ad : Nat → Nat) (E : Nat → ClassId) (D : va_G) (cst : List (List Int32)) (vs : List Value) (h : mj_Hp) : Array Value → State → Prop := fun v U =>
  v = (vs.map (mj_tr sz0 ad)).toArray ∧ mj_K sz0 ad E D cst U ∧ mj_P sz0 ad E D h U.heap
theorem mj_AOA_moved {t : FieldType} {u U : State} (hvm : u.vm.Alike U.vm) (h : (Cond.arrayOver (.array t)).before #[] u = true) : (Cond.arrayOver (.array t)).before #[] U = true := by
  obtain ⟨comp, c, k, h1, h2, h3, h4, h5⟩ := arrayOverA_spec h
  obtain ⟨k', hk', he⟩ := hvm.2.2 _ _ h3
  have hi : (U.vm.classes.findIdx? fun (x : Class) => match x.kind with | .array component _ => component == comp | _ => false) = some c := by
    rw [hvm.findIdx?_eq _ (fun _ => rfl)]
    exact h2
  have hkind : k'.kind = .array comp (.array t) := by rw [he]; exact h4
  have f1 : U.vm.findClass (FieldType.array t).toString = some comp := by rw [hvm.findClass]; exact h1
  have f2 : U.vm.findClass ("[" ++ (FieldType.array t).toString) = some c := by rw [hvm.findClass]; exact h5
  unfold Cond.before Cond.holds
  simp only [Cond.value]
  rw [f1, Option.bind_some]
  refine (congrArg (fun o : Option Nat => (o.bind (fun c => (U.vm.classes[c]?).map fun (k : Class) => match k.kind with | .array _ ty => decide (ty = FieldType.array t) && decide (U.vm.findClass ("[" ++ (FieldType.array t).toString) = some c) | _ => false) == some true)) hi).trans ?_
  simp [hk', hkind, f2]
theorem mj_bad_moved {s U : State} (hW : s.WarmedH U.vm) (h : ∀ w ∈ mj_bad, w.before #[] s = true) : ∀ w ∈ mj_bad, w.before #[] U = true := by
  intro w hw
  have h1 := h w hw
  simp only [mj_bad, List.mem_cons, List.not_mem_nil, or_false] at hw
  rcases hw with rfl | rfl | rfl | rfl | rfl | rfl | rfl | rfl | rfl | rfl | rfl | rfl | rfl | rfl
  all_goals first
    | exact va_Nw.warmM hW h1
    | exact va_Nw.warmF hW h1
    | exact va_AO.moved hW.alike h1
    | exact mj_AOA_moved hW.alike h1
theorem mj_bad_vm {U V : State} (hv : V.vm = U.vm) (w : Cond) (hw : w ∈ mj_bad) (h : w.before #[] U = true) : w.before #[] V = true := by
  simp only [mj_bad, List.mem_cons, List.not_mem_nil, or_false] at hw
  rcases hw with rfl | rfl | rfl | rfl | rfl | rfl | rfl | rfl | rfl | rfl | rfl | rfl | rfl | rfl
  all_goals first
    | exact va_tabs rfl hv.symm h
    | exact va_tabs rfl hv h
    | exact va_AO.moved (by rw [hv]; exact Vm.Alike.refl _) h
    | exact mj_AOA_moved (by rw [hv]; exact Vm.Alike.refl _) h
theorem mj_K.moved {sz0 : Nat} {ad : Nat → Nat} {E : Nat → ClassId} {D : va_G} {cst : List (List Int32)} {s U : State} {H : Heap} {locs : List Loc} (hK : mj_K sz0 ad E D cst s) (hW : s.WarmedH U.vm) (hS : va_S (mj_A sz0) s.heap H locs) (hU : U.heap = H) : mj_K sz0 ad E D cst U := by
  subst hU
  have hvm := hW.alike
  exact ⟨va_K.moved hvm hK.1, Nat.le_trans hK.2.1 hS.1, fun k l hc hk => (va_T.moved hvm (hK.2.2.1 k l hc hk)).kept hS.2.1, fun k h1 h5 => (va_Z.moved hvm (hK.2.2.2.1 k h1 h5)).kept hS.2.1, mj_bad_moved hW hK.2.2.2.2⟩
theorem mj_K.calling {sz0 : Nat} {ad : Nat → Nat} {E : Nat → ClassId} {D : va_G} {cst : List (List Int32)} {U V : State} (hK : mj_K sz0 ad E D cst U) (hv : V.vm = U.vm) (hh : V.heap = U.heap) : mj_K sz0 ad E D cst V := by
  have ha : U.vm.Alike V.vm := by rw [hv]; exact Vm.Alike.refl _
  refine ⟨va_K.moved ha hK.1, by rw [hh]; exact hK.2.1, fun k l hc hk => ?_, fun k h1 h5 => ?_, fun w hw => ?_⟩
  · rw [hh]; exact va_T.moved ha (hK.2.2.1 k l hc hk)
  · rw [hh]; exact va_Z.moved ha (hK.2.2.2.1 k h1 h5)
  · exact mj_bad_vm hv w hw (hK.2.2.2.2 w hw)
theorem mj_Pc_blind {sz0 : Nat} {ad : Nat → Nat} {E : Nat → ClassId} {D : va_G} {cst : List (List Int32)} {vs : List Value} {h : mj_Hp} : FrameBlind (mj_Pc sz0 ad E D cst vs h) := fun a U g mk q =>
  ⟨q.1, q.2.1.calling rfl rfl, q.2.2⟩
abbrev mj_Met (l : Launch) (sz0 : Nat) (ad : Nat → Nat) (E : Nat → ClassId) (D : va_G) (cst : List (List Int32)) (mm : Nat) (vs : List Value) (h : mj_Hp) (r : Option Value) (h' : mj_Hp) : Prop :=
  Met l (mj_y mm) (mj_ws mm) { frames := mj_rF mm, cells := h'.length - h.length, slots := mj_sl h' - mj_sl h, locals := mj_rL mm } (mj_Pc sz0 ad E D cst vs h) (mj_Q sz0 ad E D r h') (h'.length - h.length) (mj_sl h' - mj_sl h) (mj_A sz0)
/-- what the words must say for a call -/
def mj_ck (mm idx kd a b : Nat) : Prop :=
  a < mj_NC ∧ GoodIn (mj_ws mm) (mj_ws a) ∧ Cond.initialized (mj_y a).cls ∈ mj_ws mm ∧ (mj_rF a + 1 ≤ mj_rF mm ∧ 8 + (mj_maxL a + 11) + mj_rL a ≤ mj_rL mm) ∧
  ((mj_y a).cls ≠ "java/lang/invoke/MethodHandle" ∧ (mj_y a).cls ≠ "java/lang/invoke/VarHandle" ∧ (parseMethodDescriptor (mj_y a).desc).map (fun d => d.parameters.length) = some b) ∧
  (Cond.methodLink (mj_own mm) idx (mj_y a) ∈ mj_ws mm ∨ ∃ host, Cond.methodLinkNest (mj_own mm) idx (mj_y a) host ∈ mj_bad) ∧
  (kd = 0 → (mj_y a).name = "<init>" ∧ Cond.instanceMethod (mj_y a) ∈ mj_ws mm ∧ mj_ret a = none) ∧
  (kd = 1 → Cond.instanceMethod (mj_y a) ∈ mj_ws mm ∧ Cond.selects (mj_y a).cls (mj_y a) (mj_y a) ∈ mj_ws mm ∧ mj_ci a < 20 ∧ ∃ r, vwCl[mj_ci a]? = some r ∧ r.1 = (mj_y a).cls) ∧
  (kd = 2 → Cond.static (mj_y a) ∈ mj_ws mm)
def mj_cok (mm : Nat) (i : Instr) (a b : Nat) : Prop := match i with
  | .invokespecial idx => if a = 1000 then (Cond.methodLink (mj_own mm) idx objectInit ∈ mj_ws mm ∧ Cond.instanceMethod objectInit ∈ mj_ws mm ∧ Cond.code objectInit ⟨#[0xb1]⟩ 1 none ∈ mj_ws mm ∧ 1 ≤ mj_rF mm ∧ 20 ≤ mj_rL mm) else mj_ck mm idx 0 a b
  | .invokevirtual idx => mj_ck mm idx 1 a b
  | .invokestatic idx => if a = 1001 then (Cond.methodLink (mj_own mm) idx Lib.Math.max.name ∈ mj_ws mm ∧ Cond.static Lib.Math.max.name ∈ mj_ws mm ∧ Cond.initialized "java/lang/Math" ∈ mj_ws mm ∧ Cond.code Lib.Math.max.name Lib.Math.max.code 2 (some .int) ∈ mj_ws mm ∧ 1 ≤ mj_rF mm ∧ 21 ≤ mj_rL mm)
      else if a = 1002 then (Cond.methodLink (mj_own mm) idx Lib.Math.min.name ∈ mj_ws mm ∧ Cond.static Lib.Math.min.name ∈ mj_ws mm ∧ Cond.initialized "java/lang/Math" ∈ mj_ws mm ∧ Cond.code Lib.Math.min.name Lib.Math.min.code 2 (some .int) ∈ mj_ws mm ∧ 1 ≤ mj_rF mm ∧ 21 ≤ mj_rL mm)
      else mj_ck mm idx 2 a b
  | _ => True
def mj_good (mm : Nat) : Prop := (mm < mj_NC → ∃ ws', mj_ws mm = Cond.code (mj_y mm) (mj_code mm) (mj_maxL mm) (mj_ret mm) :: ws') ∧ plainName (mj_y mm).cls = true ∧
  ∀ (pc : Nat) (i : Instr) (a b : Nat), mj_at mm pc = some (i, a, b) → mj_dec mm pc i ∧ mj_lk mm pc i a b ∧ mj_cok mm i a b
theorem mj_args_tr {sz0 : Nat} {ad : Nat → Nat} : ∀ (vs : List Value) (i : Nat), lv_args i (vs.map (mj_tr sz0 ad)) = mj_trL sz0 ad (lv_args i vs)
  | [], _ => rfl
  | v :: vs, i => by
    show (i, mj_tr sz0 ad v) :: lv_args (if (mj_tr sz0 ad v).category = 2 then i + 2 else i + 1) (vs.map (mj_tr sz0 ad)) = _
    rw [mj_tr_cat, mj_args_tr vs]
    rfl
theorem mj_sl_args {sz0 : Nat} {ad : Nat → Nat} : ∀ (vs : List Value), vs.all (fun v => v.category == 1) = true → (lg_sl (vs.map (mj_tr sz0 ad))).length = vs.length
  | [], _ => rfl
  | v :: vs, h => by
    simp only [List.all_cons, Bool.and_eq_true, beq_iff_eq] at h
    have ih := mj_sl_args (sz0 := sz0) (ad := ad) vs h.2
    unfold lg_sl at ih ⊢
    rw [List.map_cons, List.flatMap_cons, List.length_append, ih, mj_tr_cat, h.1]
    simp; omega
section MJR
variable {p : Program} {l : Launch} {e : Env} {R : Room} {s : State} {m : MethodId} {args : Array Value} {below : List Frame} {meth : Method} {c : Code} {H : Heap} {locs : List Loc} {cells slots : Nat} {Q : State → Prop}
variable {sz0 : Nat} {ad : Nat → Nat} {E : Nat → ClassId} {D : va_G} {cst : List (List Int32)}
theorem mj_w_call {a : Array Value} {mc ms pc : Nat} {ls : Array Slot} {st0 rest : List Value} {r : Option Value} {h' : mj_Hp} (hr : va_Run p l e R s m args below meth c H locs cells slots mc ms (F0 m pc ls st0) rest (mj_Q sz0 ad E D r h' a) (mj_A sz0)) (hS : va_S (mj_A sz0) s.heap H locs)
    (kk : ∀ (H1 : Heap) (locs1 : List Loc), mj_P sz0 ad E D h' H1 → va_S (mj_A sz0) s.heap H1 locs1 → W p l e R s m args below meth c H1 locs1 (cells + mc) (slots + ms) Q (F0 m (pc + 3) ls ((r.map (mj_tr sz0 ad)).toList ++ rest))) : W p l e R s m args below meth c H locs cells slots Q (F0 m pc ls st0) := by
  intro T hT X
  obtain ⟨v, st₀, t, T', L, h0, X', hL, e1, e2, ⟨hv, hp, hz, hk⟩, st⟩ := hr T hT X
  cases hv
  rw [h0] at hz hk
  obtain ⟨t2, a1, b1⟩ := kk T'.heap (locs ++ L) (by rw [e1]; exact hp)
    ⟨Nat.le_trans hS.1 (by rw [e1]; exact hz), fun q h1 h2 => by rw [e1, hk q (Nat.lt_of_lt_of_le h1 hS.1) h2]; exact hS.2.1 q h1 h2, fun q hq => by
      rcases List.mem_append.mp hq with h | h
      · exact hS.2.2 q h
      · exact hL q h⟩ T' rfl X'
  exact ⟨t2, st t2 a1, b1⟩
/-- what holds of a method's frame all through -/
abbrev mj_Fr (mm : Nat) (p : Program) (R : Room) (s : State) (m : MethodId) (args : Array Value) (meth : Method) (c : Code) : Prop :=
  p.tables.exec = Jvm.exec ∧ c.code = mj_code mm ∧ c.maxLocals = mj_maxL mm ∧ meth.sig.returnType = mj_ret mm ∧ meth.locks = false ∧ s.vm.findClass (mj_own mm) = some m.cls ∧ (∀ w ∈ mj_ws mm, w.before args s = true) ∧ (mj_init mm = true → meth.name = "<init>") ∧ mj_rF mm ≤ R.frames ∧ mj_rL mm ≤ R.locals
def mj_Sim (l : Launch) (sz0 : Nat) (ad : Nat → Nat) (E : Nat → ClassId) (D : va_G) (cst : List (List Int32)) (n : Nat) : Prop :=
  ∀ (mm pc : Nat) (ls : mj_Ls) (st : List Value) (h : mj_Hp) (r : Option Value) (h' : mj_Hp), mm < mj_N → mj_run cst n mm pc ls st h = some (r, h') →
    ∀ (p : Program) (e : Env) (R : Room) (s : State) (m : MethodId) (args : Array Value) (below : List Frame) (meth : Method) (c : Code) (H : Heap) (locs : List Loc) (cells slots mc ms : Nat) (lsA : Array Slot),
      mj_Fr mm p R s m args meth c → mj_K sz0 ad E D cst s → mj_P sz0 ad E D h H → va_S (mj_A sz0) s.heap H locs → lv_has lsA (mj_maxL mm) (mj_trL sz0 ad ls) → mc ≤ R.cells → ms ≤ R.slots → mc + h.length = cells + h'.length → ms + mj_sl h = slots + mj_sl h' →
      W p l e R s m args below meth c H locs cells slots (MQ below (mj_Q sz0 ad E D r h') args s mc ms (mj_A sz0)) (F0 m pc lsA (st.map (mj_tr sz0 ad)))
theorem mj_met (G : ∀ mm, mm < mj_N → mj_good mm) {n : Nat} (IH : mj_Sim l sz0 ad E D cst n) {mm : Nat} (hmm : mm < mj_NC) {vs : List Value} {h : mj_Hp} {r : Option Value} {h' : mj_Hp} (hrun : mj_run cst n mm 0 (lv_args 0 vs) [] h = some (r, h')) (hargs : mj_argsOk mm vs = true) : mj_Met l sz0 ad E D cst mm vs h r h' := by
  have hmN : mm < mj_N := Nat.lt_succ_of_lt hmm
  obtain ⟨hw0, hpl, -⟩ := G mm hmN
  obtain ⟨ws', hw⟩ := hw0 hmm
  have hlen := mj_run_len hrun
  simp only [mj_argsOk, Bool.and_eq_true, decide_eq_true_eq] at hargs
  refine Met.ofW (cc := mj_code mm) (maxL := mj_maxL mm) (ret := mj_ret mm) hpl hw ?_
  intro p e s m args below meth c s₁ B hml hv
  obtain ⟨rfl, hK, hP⟩ := hv
  have hts := atoms_spec (ws := mj_ws mm) B.pre
  have hown : s.vm.findClass (mj_own mm) = some m.cls := findClass_of_methodNamed B.named
  have hl := lv_entry (vs.map (mj_tr sz0 ad)) (n := mj_maxL mm) (by rw [mj_sl_args vs hargs.1]; exact hargs.2)
  rw [lg_entry_eq]
  generalize (lg_sl (vs.map (mj_tr sz0 ad)) ++ List.replicate (mj_maxL mm - (lg_sl (vs.map (mj_tr sz0 ad))).length) Slot.unset).toArray = lsA at hl ⊢
  rw [mj_args_tr] at hl
  exact IH mm 0 (lv_args 0 vs) [] h r h' hmN hrun p e _ s m _ below meth c s.heap [] 0 0 _ _ lsA ⟨B.exec, B.bytes, hml, B.returns, B.notSynchronized, hown, hts, fun hi => (name_of_methodNamed B.named B.method).1.trans (by simpa [mj_init] using hi), Nat.le_refl _, Nat.le_refl _⟩ hK hP va_S.rf hl (Nat.le_refl _) (Nat.le_refl _) (by omega) (by omega)
end MJR
end
section
theorem mj_bool_narrow {x : Int32} (hx : mj_bool x = true) : narrow .boolean (.int x) = .int x := by
  simp only [mj_bool, Bool.or_eq_true, beq_iff_eq] at hx
  rcases hx with hx | hx <;> subst hx <;> decide
theorem mj_room_tr {sz0 : Nat} {ad : Nat → Nat} {rest : List Value} (h : mj_room rest = true) : ((rest.map (mj_tr sz0 ad)).map fun v => v.category).sum ≤ 8 := by
  simp only [mj_room, decide_eq_true_eq] at h
  have e1 : (rest.map (mj_tr sz0 ad)).map (fun v => v.category) = rest.map fun v => v.category := by
    rw [List.map_map]
    exact List.map_congr_left fun v _ => mj_tr_cat sz0 ad v
  rw [e1]; exact h
theorem mj_stk {sz0 : Nat} {ad : Nat → Nat} (st : List Value) (b : Nat) : st.map (mj_tr sz0 ad) = ((st.take b).reverse.map (mj_tr sz0 ad)).reverse ++ (st.drop b).map (mj_tr sz0 ad) := by
  rw [List.map_reverse, List.reverse_reverse, ← List.map_append, List.take_append_drop]
theorem mj_res {sz0 : Nat} {ad : Nat → Nat} (r : Option Value) (rest : List Value) : (r.toList ++ rest).map (mj_tr sz0 ad) = (r.map (mj_tr sz0 ad)).toList ++ rest.map (mj_tr sz0 ad) := by
  cases r <;> rfl
section MJT
variable {p : Program} {l : Launch} {e : Env} {R : Room} {s : State} {m : MethodId} {args : Array Value} {below : List Frame} {meth : Method} {c : Code} {H : Heap} {locs : List Loc} {cells slots : Nat} {Q : State → Prop}
variable {sz0 : Nat} {ad : Nat → Nat} {E : Nat → ClassId} {D : va_G} {cst : List (List Int32)}
/-- a call of a static method -/
theorem mj_callS (G : ∀ mm, mm < mj_N → mj_good mm) {mm idx a b pc : Nat} {st : List Value} {h h1 : mj_Hp} {r1 : Option Value} {lsA : Array Slot} {nL0 : List (Nat × Value)} (F : mj_Fr mm p R s m args meth c) (hd : decode (mj_code mm) pc = .ok (.invokestatic idx, 3)) (hck : mj_ck mm idx 2 a b) (hK : mj_K sz0 ad E D cst s) (hP : mj_P sz0 ad E D h H) (hS : va_S (mj_A sz0) s.heap H locs) (hl : lv_has lsA (mj_maxL mm) nL0)
    (hbl : b ≤ st.length) (hrm : mj_room (st.drop b) = true) (hM : mj_Met l sz0 ad E D cst a (st.take b).reverse h r1 h1) (hr1 : cells + (h1.length - h.length) ≤ R.cells) (hr2 : slots + (mj_sl h1 - mj_sl h) ≤ R.slots)
    (kk : ∀ (H1 : Heap) (locs1 : List Loc), mj_P sz0 ad E D h1 H1 → va_S (mj_A sz0) s.heap H1 locs1 → W p l e R s m args below meth c H1 locs1 (cells + (h1.length - h.length)) (slots + (mj_sl h1 - mj_sl h)) Q (F0 m (pc + 3) lsA ((r1.toList ++ st.drop b).map (mj_tr sz0 ad)))) :
    W p l e R s m args below meth c H locs cells slots Q (F0 m pc lsA (st.map (mj_tr sz0 ad))) := by
  obtain ⟨hx, hb, hml, hret, hlocks, hown, hts, hin, hF, hL⟩ := F
  obtain ⟨haN, hgood, hini, hroom, hdesc, hlink, -, -, hst⟩ := hck
  obtain ⟨ws', hw⟩ := (G a (Nat.lt_succ_of_lt haN)).1 haN
  have hpre : PreS s H (mj_Pc sz0 ad E D cst (st.take b).reverse h) ((st.take b).reverse.map (mj_tr sz0 ad)) := ⟨mj_Pc_blind, fun U hU hW => ⟨rfl, hK.moved hW hS hU, by rw [hU]; exact hP⟩⟩
  have hrun : va_Run p l e R s m args below meth c H locs cells slots (h1.length - h.length) (mj_sl h1 - mj_sl h) (F0 m pc lsA (st.map (mj_tr sz0 ad))) ((st.drop b).map (mj_tr sz0 ad)) (mj_Q sz0 ad E D r1 h1 ((st.take b).reverse.map (mj_tr sz0 ad)).toArray) (mj_A sz0) := by
    rcases hlink with hlink | ⟨host, hlink⟩
    · exact va_runS (n := b) ⟨hx, hb, hml, hown, hts⟩ hM ⟨callB_of b hts hgood hw rfl rfl (hts _ hini) (hts _ hlink) hdesc ⟨Nat.le_trans hroom.1 hF, Nat.le_trans hroom.2 hL⟩, hts _ (hst rfl)⟩ hpre rfl (by simp; omega) hl.1 (mj_stk st b) (lv_room (mj_room_tr hrm)) hd ⟨hr1, hr2⟩
    · exact va_runSN (n := b) ⟨hx, hb, hml, hown, hts⟩ hM ⟨va_cnB b hts hgood hw rfl rfl (hK.2.2.2.2 _ hlink) (hts _ hini) hdesc ⟨Nat.le_trans hroom.1 hF, Nat.le_trans hroom.2 hL⟩, hts _ (hst rfl), trivial⟩ hpre rfl (by simp; omega) hl.1 (mj_stk st b) (lv_room (mj_room_tr hrm)) hd ⟨hr1, hr2⟩
  refine mj_w_call hrun hS fun H1 locs1 hP1 hS1 => ?_
  rw [← mj_res]
  exact kk H1 locs1 hP1 hS1
/-- a call of an instance method, or of a constructor -/
theorem mj_callO (G : ∀ mm, mm < mj_N → mj_good mm) {mm idx kd a b pc k : Nat} {st rest : List Value} {h h1 : mj_Hp} {r1 : Option Value} {lsA : Array Slot} {nL0 : List (Nat × Value)} (F : mj_Fr mm p R s m args meth c) (hd : (kd = 0 ∧ decode (mj_code mm) pc = .ok (.invokespecial idx, 3)) ∨ (kd = 1 ∧ decode (mj_code mm) pc = .ok (.invokevirtual idx, 3))) (hck : mj_ck mm idx kd a b) (hK : mj_K sz0 ad E D cst s) (hP : mj_P sz0 ad E D h H) (hS : va_S (mj_A sz0) s.heap H locs) (hl : lv_has lsA (mj_maxL mm) nL0)
    (hsd : st.drop b = .ref k :: rest) (hbl : b ≤ st.length) (hk5 : 5 ≤ k) (htag : (h[k - 5]?).map (fun c => c.1) = some (mj_ci a)) (hrm : mj_room rest = true) (hM : mj_Met l sz0 ad E D cst a (.ref k :: (st.take b).reverse) h r1 h1) (hr1 : cells + (h1.length - h.length) ≤ R.cells) (hr2 : slots + (mj_sl h1 - mj_sl h) ≤ R.slots)
    (kk : ∀ (H1 : Heap) (locs1 : List Loc), mj_P sz0 ad E D h1 H1 → va_S (mj_A sz0) s.heap H1 locs1 → W p l e R s m args below meth c H1 locs1 (cells + (h1.length - h.length)) (slots + (mj_sl h1 - mj_sl h)) Q (F0 m (pc + 3) lsA ((r1.toList ++ rest).map (mj_tr sz0 ad)))) :
    W p l e R s m args below meth c H locs cells slots Q (F0 m pc lsA (st.map (mj_tr sz0 ad))) := by
  obtain ⟨hx, hb, hml, hret, hlocks, hown, hts, hin, hF, hL⟩ := F
  obtain ⟨haN, hgood, hini, hroom, hdesc, hlink, hc0, hc1, -⟩ := hck
  obtain ⟨ws', hw⟩ := (G a (Nat.lt_succ_of_lt haN)).1 haN
  have hk5' : ¬ k < 5 := by omega
  have hPc : ∀ U : State, U.heap = H → s.WarmedH U.vm → mj_Pc sz0 ad E D cst (.ref k :: (st.take b).reverse) h (Value.ref (sz0 + (k - 5)) :: (st.take b).reverse.map (mj_tr sz0 ad)).toArray U := fun U hU hW => ⟨by rw [List.map_cons, mj_tr_ge hk5'], hK.moved hW hS hU, by rw [hU]; exact hP⟩
  have hstk : st.map (mj_tr sz0 ad) = ((st.take b).reverse.map (mj_tr sz0 ad)).reverse ++ Value.ref (sz0 + (k - 5)) :: rest.map (mj_tr sz0 ad) := by
    rw [mj_stk st b, hsd, List.map_cons, mj_tr_ge hk5']
  have hrun : va_Run p l e R s m args below meth c H locs cells slots (h1.length - h.length) (mj_sl h1 - mj_sl h) (F0 m pc lsA (st.map (mj_tr sz0 ad))) (rest.map (mj_tr sz0 ad)) (mj_Q sz0 ad E D r1 h1 (Value.ref (sz0 + (k - 5)) :: (st.take b).reverse.map (mj_tr sz0 ad)).toArray) (mj_A sz0) := by
    rcases hd with ⟨rfl, hd⟩ | ⟨rfl, hd⟩
    · obtain ⟨hnm, hinst, hrt⟩ := hc0 rfl
      rw [hrt] at hw
      rcases hlink with hlink | ⟨host, hlink⟩
      · exact va_runI (n := b) ⟨hx, hb, hml, hown, hts⟩ hM ⟨callB_of b hts hgood hw rfl rfl (hts _ hini) (hts _ hlink) hdesc ⟨Nat.le_trans hroom.1 hF, Nat.le_trans hroom.2 hL⟩, hnm, hts _ hinst⟩ ⟨mj_Pc_blind, hPc⟩ rfl (by simp; omega) hl.1 hstk (lv_room (mj_room_tr hrm)) hd ⟨hr1, hr2⟩
      · exact va_runIN (n := b) ⟨hx, hb, hml, hown, hts⟩ hM ⟨va_cnB b hts hgood hw rfl rfl (hK.2.2.2.2 _ hlink) (hts _ hini) hdesc ⟨Nat.le_trans hroom.1 hF, Nat.le_trans hroom.2 hL⟩, hnm, hts _ hinst⟩ ⟨mj_Pc_blind, hPc⟩ rfl (by simp; omega) hl.1 hstk (lv_room (mj_room_tr hrm)) hd ⟨hr1, hr2⟩
    · obtain ⟨hinst, hsel, h20, rr, hrr, hcn⟩ := hc1 rfl
      cases hc : h[k - 5]? with
      | none => rw [hc] at htag; cases htag
      | some cc =>
        obtain ⟨tg, vs⟩ := cc
        rw [hc] at htag
        simp only [Option.map_some, Option.some.injEq] at htag
        subst htag
        have hrec := va_recv hK.1 (hP.obj hc h20) hrr (q0 := 0) rfl
        rw [hcn] at hrec
        rcases hlink with hlink | ⟨host, hlink⟩
        · exact va_runV (n := b) ⟨hx, hb, hml, hown, hts⟩ hM ⟨callB_of b hts hgood hw rfl rfl (hts _ hini) (hts _ hlink) hdesc ⟨Nat.le_trans hroom.1 hF, Nat.le_trans hroom.2 hL⟩, hts _ hinst, hts _ hsel⟩ ⟨mj_Pc_blind, hrec, hPc⟩ rfl (by simp; omega) hl.1 hstk (lv_room (mj_room_tr hrm)) hd ⟨hr1, hr2⟩
        · exact va_runVN (n := b) ⟨hx, hb, hml, hown, hts⟩ hM ⟨va_cnB b hts hgood hw rfl rfl (hK.2.2.2.2 _ hlink) (hts _ hini) hdesc ⟨Nat.le_trans hroom.1 hF, Nat.le_trans hroom.2 hL⟩, hts _ hinst, hts _ hsel⟩ ⟨mj_Pc_blind, hrec, hPc⟩ rfl (by simp; omega) hl.1 hstk (lv_room (mj_room_tr hrm)) hd ⟨hr1, hr2⟩
  refine mj_w_call hrun hS fun H1 locs1 hP1 hS1 => ?_
  rw [← mj_res]
  exact kk H1 locs1 hP1 hS1
set_option maxHeartbeats 4000000 in
theorem mj_sim (G : ∀ mm, mm < mj_N → mj_good mm) : ∀ n, mj_Sim l sz0 ad E D cst n := by
  intro n
  induction n with
  | zero =>
    intro mm pc ls st h r h' hmm hrun
    simp [mj_run] at hrun
  | succ n ih =>
    intro mm pc ls st h r h' hmm hrun p e R s m args below meth c H locs cells slots mc ms lsA F hK hP hS hl hmc hms ec es
    have F' := F
    obtain ⟨hx, hb, hml, hret, hlocks, hown, hts, hin, hF, hL⟩ := F'
    obtain ⟨-, -, hG⟩ := G mm hmm
    unfold mj_run at hrun
    split at hrun
    · cases hrun
    · rename_i i a b hat
      obtain ⟨hd, hlk, hco⟩ := hG pc i a b hat
      split at hrun
      · rename_i r' hr
        cases hrun
        have e1 : mc = cells := by omega
        have e2 : ms = slots := by omega
        subst e1; subst e2
        unfold mj_isRet at hr
        split at hr
        · split at hr
          · rename_i hrt
            cases hr
            exact W.vret hx hb (hret.trans hrt) (fun t ht hW => ⟨rfl, by rw [ht]; exact hP, hS.F ht⟩) hS.2.2 (mj_dec_len hd rfl)
          · cases hr
        · split at hr
          · rename_i hrt
            cases hr
            exact W.iret hx hb (hret.trans hrt) (fun t ht hW => ⟨rfl, by rw [ht]; exact hP, hS.F ht⟩) hS.2.2 (mj_dec_len hd rfl)
          · split at hr
            · rename_i hrt
              split at hr
              · rename_i hbx
                cases hr
                exact W.zret hx hb (hret.trans hrt) (mj_bool_narrow hbx) (fun t ht hW => ⟨rfl, by rw [ht]; exact hP, hS.F ht⟩) hS.2.2 (mj_dec_len hd rfl)
              · cases hr
            · cases hr
        · split at hr
          · rename_i nm hrt
            cases hr
            exact W.aret hx hb (hret.trans hrt) (Or.inl ⟨nm, rfl⟩) (Or.inr ⟨_, rfl⟩) (fun t ht hW => ⟨rfl, by rw [ht]; exact hP, hS.F ht⟩) hS.2.2 (mj_dec_len hd rfl)
          · cases hr
        · cases hr
      · split at hrun
        · split at hrun
          · rename_i pc' ls' st' h1 hs
            have l1 := mj_step_len hs
            have l2 := mj_run_len hrun
            dsimp only at l1
            refine mj_sim1 (t := (pc', ls', st', h1)) mm hx hb hown hts hin hd hlk hK hs hP hS hl (by dsimp only; omega) (by dsimp only; omega) (fun H1 lsA1 locs1 cells1 slots1 hP1 hS1 hl1 e1 e2 => ?_)
            dsimp only at hP1 hl1 e1 e2 ⊢
            exact ih mm pc' ls' st' h1 r h' hmm hrun p e R s m args below meth c H1 locs1 cells1 slots1 mc ms lsA1 F hK hP1 hS1 hl1 hmc hms (by omega) (by omega)
          · cases hrun
        · rename_i hcall
          have hi : ∃ idx, i = .invokestatic idx := by
            unfold mj_isCall at hcall
            split at hcall
            · cases hcall
            · cases hcall
            · exact ⟨_, rfl⟩
            · cases hcall
          obtain ⟨idx, rfl⟩ := hi
          have hd3 := mj_dec_len hd (n := 2) rfl
          simp only [mj_cok] at hco
          split at hrun
          · rename_i ha
            rw [if_pos ha] at hco
            obtain ⟨w1, w2, w3, w4, w5, w6⟩ := hco
            split at hrun
            · split at hrun
              · rename_i hrm
                have h1 := ih mm (pc + 3) ls _ h r h' hmm hrun p e R s m args below meth c H locs cells slots mc ms lsA F hK hP hS hl hmc hms ec es
                have h8 := mj_room_tr (sz0 := sz0) (ad := ad) hrm
                have l2 := mj_run_len hrun
                exact va_mmax hx hb (hml.trans hl.1.symm) hown (hts _ w1) (hts _ w2) (hts _ w3) (hts _ w4) (Nat.le_trans w5 hF) (by omega) (by omega) (by omega) hd3 h1
              · cases hrun
            · cases hrun
          · rename_i ha
            rw [if_neg ha] at hco
            split at hrun
            · rename_i ha2
              rw [if_pos ha2] at hco
              obtain ⟨w1, w2, w3, w4, w5, w6⟩ := hco
              split at hrun
              · split at hrun
                · rename_i hrm
                  have h1 := ih mm (pc + 3) ls _ h r h' hmm hrun p e R s m args below meth c H locs cells slots mc ms lsA F hK hP hS hl hmc hms ec es
                  have h8 := mj_room_tr (sz0 := sz0) (ad := ad) hrm
                  have l2 := mj_run_len hrun
                  exact va_mmin hx hb (hml.trans hl.1.symm) hown (hts _ w1) (hts _ w2) (hts _ w3) (hts _ w4) (Nat.le_trans w5 hF) (by omega) (by omega) (by omega) hd3 h1
                · cases hrun
              · cases hrun
            · rename_i ha2
              rw [if_neg ha2] at hco
              split at hrun
              · rename_i hcd
                split at hrun
                · rename_i r1 h1 hc
                  have l1 := mj_run_len hc
                  have l2 := mj_run_len hrun
                  refine mj_callS G F hd3 hco hK hP hS hl hcd.1 hcd.2.2 (mj_met G ih hco.1 hc hcd.2.1) (by omega) (by omega) (fun H1 locs1 hP1 hS1 => ?_)
                  exact ih mm (pc + 3) ls _ h1 r h' hmm hrun p e R s m args below meth c H1 locs1 _ _ mc ms lsA F hK hP1 hS1 hl hmc hms (by omega) (by omega)
                · cases hrun
              · cases hrun
        · rename_i kd hne hcall
          have hi : (∃ idx, kd = 0 ∧ i = .invokespecial idx) ∨ ∃ idx, kd = 1 ∧ i = .invokevirtual idx := by
            unfold mj_isCall at hcall
            split at hcall
            · cases hcall; exact Or.inl ⟨_, rfl, rfl⟩
            · cases hcall; exact Or.inr ⟨_, rfl, rfl⟩
            · cases hcall; exact absurd rfl hne
            · cases hcall
          split at hrun
          · rename_i k rest hsd
            split at hrun
            · rename_i ha
              split at hrun
              · rename_i hcd
                obtain ⟨hb0, hkd, hrm⟩ := hcd
                subst hb0; subst hkd
                rcases hi with ⟨idx, -, rfl⟩ | ⟨idx, hk1, -⟩
                · have hd3 := mj_dec_len hd (n := 2) rfl
                  simp only [mj_cok] at hco
                  rw [if_pos ha] at hco
                  obtain ⟨w1, w2, w3, w4, w5⟩ := hco
                  have h1 := ih mm (pc + 3) ls rest h r h' hmm hrun p e R s m args below meth c H locs cells slots mc ms lsA F hK hP hS hl hmc hms ec es
                  rw [List.drop_zero] at hsd
                  subst hsd
                  have h8 := mj_room_tr (sz0 := sz0) (ad := ad) hrm
                  exact W.objInit hx hb hown (hts _ w1) (hts _ w2) (hts _ w3) rfl (hl.1.trans hml.symm) rfl hd3 (Nat.le_trans w4 hF) (Nat.le_trans (Nat.add_le_add_right (lv_room h8) 12) (Nat.le_trans w5 hL)) h1
                · cases hk1
              · cases hrun
            · rename_i ha
              split at hrun
              · rename_i hcd
                split at hrun
                · rename_i r1 h1 hc
                  have l1 := mj_run_len hc
                  have l2 := mj_run_len hrun
                  obtain ⟨q1, q2, q3, q4, q5⟩ := hcd
                  rcases hi with ⟨idx, rfl, rfl⟩ | ⟨idx, rfl, rfl⟩
                  · simp only [mj_cok] at hco
                    rw [if_neg ha] at hco
                    refine mj_callO G F (Or.inl ⟨rfl, mj_dec_len hd rfl⟩) hco hK hP hS hl hsd q1 q2 q3 q5 (mj_met G ih hco.1 hc q4) (by omega) (by omega) (fun H1 locs1 hP1 hS1 => ?_)
                    exact ih mm (pc + 3) ls _ h1 r h' hmm hrun p e R s m args below meth c H1 locs1 _ _ mc ms lsA F hK hP1 hS1 hl hmc hms (by omega) (by omega)
                  · simp only [mj_cok] at hco
                    refine mj_callO G F (Or.inr ⟨rfl, mj_dec_len hd rfl⟩) hco hK hP hS hl hsd q1 q2 q3 q5 (mj_met G ih hco.1 hc q4) (by omega) (by omega) (fun H1 locs1 hP1 hS1 => ?_)
                    exact ih mm (pc + 3) ls _ h1 r h' hmm hrun p e R s m args below meth c H1 locs1 _ _ mc ms lsA F hK hP1 hS1 hl hmc hms (by omega) (by omega)
                · cases hrun
              · cases hrun
          · cases hrun
end MJT
end
section
theorem mj_Gin (i : Nat) {w : Cond} (h : tables_1[i]? = some w) (hg : goodWord w = true) : w ∈ mj_G := List.mem_filter.mpr ⟨List.mem_append_right _ (List.mem_of_getElem? h), hg⟩
theorem mj_Gsel (i : Nat) {w : Cond} (h : (k2_sels lw_privs)[i]? = some w) (hg : goodWord w = true) : w ∈ mj_G := List.mem_filter.mpr ⟨List.mem_append_left _ (List.mem_of_getElem? h), hg⟩
theorem mj_Gws {mm : Nat} {w : Cond} (h : w ∈ mj_G) : w ∈ mj_ws mm := by
  unfold mj_ws
  cases Nat.beq mm mj_NC
  · exact List.mem_cons_of_mem _ h
  · exact h
theorem mj_goodIn {mm a : Nat} (hc : Cond.code (mj_y a) (mj_code a) (mj_maxL a) (mj_ret a) ∈ mj_G) : GoodIn (mj_ws mm) (mj_ws a) := by
  have hg : ∀ w ∈ mj_G, goodWord w = true := fun w hw => (List.mem_filter.mp hw).2
  intro w hw
  have hw1 : w ∈ mj_G := by
    unfold mj_ws at hw
    cases hn : Nat.beq a mj_NC
    · rw [hn] at hw
      rcases List.mem_cons.mp hw with h | h
      · rw [h]; exact hc
      · exact h
    · rw [hn] at hw
      exact hw
  exact ⟨mj_Gws hw1, good_of_word (hg w hw1)⟩
theorem mj_lkG {mm pc idx a b : Nat} {C : String} {T : u_T} {N : Nat} (h1 : a < 20) (hc : vwCl[a]? = some (C, T, N)) (hb : b < N) (hU : ∀ w ∈ u_ws C T N, w ∈ mj_G) (hf : Cond.fieldLink (mj_own mm) idx (T b).1 (T b).2.1 (T b).2.2.1 ∈ mj_G) : mj_lk mm pc (.getfield idx) a b := ⟨C, T, N, h1, hc, hb, fun w hw => mj_Gws (hU w hw), mj_Gws hf⟩
theorem mj_lkP {mm pc idx a b : Nat} {C : String} {T : u_T} {N : Nat} {ty0 : Nat → FieldType} (h1 : a < 20) (hc : vwCl[a]? = some (C, T, N)) (hb : b < N) (hU : ∀ w ∈ u_ws C T N, w ∈ mj_G) (hf : Cond.fieldLink (mj_own mm) idx (T b).1 (T b).2.1 (T b).2.2.1 ∈ mj_G) (hty : ∀ k, k < N → parseFieldDescriptor (T k).2.2.1 = some (ty0 k)) (hnm : ∀ a, a < N → ∀ b, b < N → a ≠ b → (T a).2.1 ≠ (T b).2.1) (hfin : (T b).2.2.2 = false ∨ ((T b).2.2.2 = true ∧ mj_init mm = true ∧ (T b).1 = mj_own mm)) (hk : mj_fty a b = mj_kind (ty0 b)) : mj_lk mm pc (.putfield idx) a b := ⟨C, T, N, ty0, ty0 b, h1, hc, hb, fun w hw => mj_Gws (hU w hw), mj_Gws hf, hty, hnm, hfin, hty b hb, hk⟩
theorem mj_lkN {mm pc idx a b : Nat} {C : String} {T : u_T} {N : Nat} {ty : Nat → FieldType} (h1 : a < 20) (hc : vwCl[a]? = some (C, T, N)) (hU : ∀ w ∈ u_ws C T N, w ∈ mj_G) (hty : ∀ k, k < N → parseFieldDescriptor (T k).2.2.1 = some (ty k)) (hl : Cond.classLink (mj_own mm) idx C ∈ mj_G) (hi : Cond.instantiable C N ∈ mj_G) (hn : Cond.initialized C ∈ mj_G) (hlen : (mj_blank a).length = N) (hnr : ∀ v ∈ mj_blank a, ∀ k, v ≠ .ref k) (hdv : ∀ j, j < N → defaultValue (ty j) = vp_V (mj_blank a) j) : mj_lk mm pc (.new idx) a b := ⟨C, T, N, ty, h1, hc, fun w hw => mj_Gws (hU w hw), hty, mj_Gws hl, mj_Gws hi, mj_Gws hn, hlen, hnr, hdv⟩
theorem mj_noref {l : List Value} (h : l.all (fun v => decide (v = .null ∨ v = .int 0)) = true) : ∀ v ∈ l, ∀ k, v ≠ .ref k := by
  intro v hv k
  have h1 := List.all_eq_true.mp h v hv
  simp only [decide_eq_true_eq] at h1
  rcases h1 with h1 | h1 <;> rw [h1] <;> exact fun q => by cases q
abbrev mj_lnk (mm idx a : Nat) : Prop := Cond.methodLink (mj_own mm) idx (mj_y a) ∈ mj_ws mm ∨ ∃ host, Cond.methodLinkNest (mj_own mm) idx (mj_y a) host ∈ mj_bad
theorem mj_lnkG {mm idx a : Nat} (h : Cond.methodLink (mj_own mm) idx (mj_y a) ∈ mj_G) : mj_lnk mm idx a := Or.inl (mj_Gws h)
abbrev mj_rm (mm a : Nat) : Prop := mj_rF a + 1 ≤ mj_rF mm ∧ 8 + (mj_maxL a + 11) + mj_rL a ≤ mj_rL mm
abbrev mj_dsc (a b : Nat) : Prop := (mj_y a).cls ≠ "java/lang/invoke/MethodHandle" ∧ (mj_y a).cls ≠ "java/lang/invoke/VarHandle" ∧ (parseMethodDescriptor (mj_y a).desc).map (fun d => d.parameters.length) = some b
/-- what is known of a method that is called, whoever calls it -/
def mj_cal (kd a b : Nat) : Prop := a < mj_NC ∧ Cond.code (mj_y a) (mj_code a) (mj_maxL a) (mj_ret a) ∈ mj_G ∧ Cond.initialized (mj_y a).cls ∈ mj_G ∧ mj_dsc a b ∧ (kd = 0 → (mj_y a).name = "<init>" ∧ Cond.instanceMethod (mj_y a) ∈ mj_G ∧ mj_ret a = none) ∧ (kd = 1 → Cond.instanceMethod (mj_y a) ∈ mj_G ∧ Cond.selects (mj_y a).cls (mj_y a) (mj_y a) ∈ mj_G ∧ mj_ci a < 20 ∧ ∃ r, vwCl[mj_ci a]? = some r ∧ r.1 = (mj_y a).cls) ∧ (kd = 2 → Cond.static (mj_y a) ∈ mj_G)
theorem mj_ckOf {mm idx kd a b : Nat} (hc : mj_cal kd a b) (hr : mj_rm mm a) (hl : mj_lnk mm idx a) : mj_ck mm idx kd a b := by
  obtain ⟨h1, h2, h3, h4, h5, h6, h7⟩ := hc
  refine ⟨h1, mj_goodIn h2, mj_Gws h3, hr, h4, hl, fun k => ?_, fun k => ?_, fun k => mj_Gws (h7 k)⟩
  · exact ⟨(h5 k).1, mj_Gws (h5 k).2.1, (h5 k).2.2⟩
  · exact ⟨mj_Gws (h6 k).1, mj_Gws (h6 k).2.1, (h6 k).2.2⟩
theorem mj_look_mem {l : List (Nat × Instr × Nat × Nat)} {pc : Nat} {x : Instr × Nat × Nat} (h : mj_look l pc = some x) : (pc, x) ∈ l := by
  induction l with
  | nil => cases h
  | cons e r ih =>
    unfold mj_look at h
    cases hb : Nat.beq e.1 pc with
    | true =>
      rw [hb] at h
      cases h
      have := Nat.eq_of_beq_eq_true hb
      subst this
      exact List.mem_cons_self
    | false =>
      rw [hb] at h
      exact List.mem_cons_of_mem _ (ih h)
def mj_ckd (mm : Nat) : Bool := (mj_tb mm).all (fun e => match decode (mj_code mm) e.1 with
  | .ok (j, len) => decide (j = e.2.1) && (Nat.beq (mj_len e.2.1) 0 || Nat.beq len (mj_len e.2.1))
  | .error _ => false)
theorem mj_goodOf {mm : Nat} (h1 : mm < mj_NC → ∃ ws', mj_ws mm = Cond.code (mj_y mm) (mj_code mm) (mj_maxL mm) (mj_ret mm) :: ws') (h2 : plainName (mj_y mm).cls = true) (h3 : mj_ckd mm = true) (h4 : ∀ e ∈ mj_tb mm, mj_lk mm e.1 e.2.1 e.2.2.1 e.2.2.2 ∧ mj_cok mm e.2.1 e.2.2.1 e.2.2.2) : mj_good mm := by
  refine ⟨h1, h2, fun pc i a b h => ?_⟩
  have hm := mj_look_mem h
  have hd := List.all_eq_true.mp h3 _ hm
  refine ⟨?_, h4 _ hm⟩
  dsimp only at hd
  cases hdc : decode (mj_code mm) pc with
  | error e => rw [hdc] at hd; cases hd
  | ok x =>
    obtain ⟨j, len⟩ := x
    rw [hdc] at hd
    simp only [Bool.and_eq_true, Bool.or_eq_true, decide_eq_true_eq] at hd
    obtain ⟨rfl, hl⟩ := hd
    exact ⟨len, hdc, hl.elim (fun h => Or.inl (Nat.eq_of_beq_eq_true h)) (fun h => Or.inr (Nat.eq_of_beq_eq_true h))⟩
set_option maxRecDepth 20000 in
theorem mj_inU0 : ∀ w ∈ u_ws "CeilingKernel" mj_T0 5, w ∈ mj_G := by
  have h : u_ws "CeilingKernel" mj_T0 5 = ([343, 345, 347, 349, 351] : List Nat).filterMap (fun i => tables_1[i]?) := by decide +kernel
  have hg : (u_ws "CeilingKernel" mj_T0 5).all goodWord = true := by decide +kernel
  intro w hw
  have h2 := List.all_eq_true.mp hg w hw
  rw [h] at hw
  obtain ⟨i, -, hi⟩ := List.mem_filterMap.mp hw
  exact mj_Gin i hi h2
set_option maxRecDepth 20000 in
theorem mj_inU1 : ∀ w ∈ u_ws "CeilingKernel$Checker" mj_T1 5, w ∈ mj_G := by
  have h : u_ws "CeilingKernel$Checker" mj_T1 5 = ([36, 38, 40, 42, 44] : List Nat).filterMap (fun i => tables_1[i]?) := by decide +kernel
  have hg : (u_ws "CeilingKernel$Checker" mj_T1 5).all goodWord = true := by decide +kernel
  intro w hw
  have h2 := List.all_eq_true.mp hg w hw
  rw [h] at hw
  obtain ⟨i, -, hi⟩ := List.mem_filterMap.mp hw
  exact mj_Gin i hi h2
set_option maxRecDepth 20000 in
theorem mj_inU2 : ∀ w ∈ u_ws "CeilingKernel$Figures" mj_T2 6, w ∈ mj_G := by
  have h : u_ws "CeilingKernel$Figures" mj_T2 6 = ([68, 70, 72, 74, 76, 78] : List Nat).filterMap (fun i => tables_1[i]?) := by decide +kernel
  have hg : (u_ws "CeilingKernel$Figures" mj_T2 6).all goodWord = true := by decide +kernel
  intro w hw
  have h2 := List.all_eq_true.mp hg w hw
  rw [h] at hw
  obtain ⟨i, -, hi⟩ := List.mem_filterMap.mp hw
  exact mj_Gin i hi h2
set_option maxRecDepth 20000 in
theorem mj_inU3 : ∀ w ∈ u_ws "CeilingKernel$Task" mj_T3 4, w ∈ mj_G := by
  have h : u_ws "CeilingKernel$Task" mj_T3 4 = ([141, 143, 145, 147] : List Nat).filterMap (fun i => tables_1[i]?) := by decide +kernel
  have hg : (u_ws "CeilingKernel$Task" mj_T3 4).all goodWord = true := by decide +kernel
  intro w hw
  have h2 := List.all_eq_true.mp hg w hw
  rw [h] at hw
  obtain ⟨i, -, hi⟩ := List.mem_filterMap.mp hw
  exact mj_Gin i hi h2
set_option maxRecDepth 20000 in
theorem mj_inU4 : ∀ w ∈ u_ws "CeilingKernel$Routine" mj_T4 7, w ∈ mj_G := by
  have h : u_ws "CeilingKernel$Routine" mj_T4 7 = ([114, 116, 118, 120, 122, 124, 126] : List Nat).filterMap (fun i => tables_1[i]?) := by decide +kernel
  have hg : (u_ws "CeilingKernel$Routine" mj_T4 7).all goodWord = true := by decide +kernel
  intro w hw
  have h2 := List.all_eq_true.mp hg w hw
  rw [h] at hw
  obtain ⟨i, -, hi⟩ := List.mem_filterMap.mp hw
  exact mj_Gin i hi h2
set_option maxRecDepth 20000 in
theorem mj_inU5 : ∀ w ∈ u_ws "CeilingKernel$Machine" mj_T5 14, w ∈ mj_G := by
  have h : u_ws "CeilingKernel$Machine" mj_T5 14 = ([309, 311, 313, 315, 317, 319, 321, 323, 325, 327, 329, 331, 333, 335] : List Nat).filterMap (fun i => tables_1[i]?) := by decide +kernel
  have hg : (u_ws "CeilingKernel$Machine" mj_T5 14).all goodWord = true := by decide +kernel
  intro w hw
  have h2 := List.all_eq_true.mp hg w hw
  rw [h] at hw
  obtain ⟨i, -, hi⟩ := List.mem_filterMap.mp hw
  exact mj_Gin i hi h2
set_option maxRecDepth 20000 in
theorem mj_inU6 : ∀ w ∈ u_ws "CeilingKernel$Job" mj_T6 16, w ∈ mj_G := by
  have h : u_ws "CeilingKernel$Job" mj_T6 16 = ([221, 223, 225, 227, 229, 231, 233, 235, 237, 239, 241, 243, 245, 247, 249, 251] : List Nat).filterMap (fun i => tables_1[i]?) := by decide +kernel
  have hg : (u_ws "CeilingKernel$Job" mj_T6 16).all goodWord = true := by decide +kernel
  intro w hw
  have h2 := List.all_eq_true.mp hg w hw
  rw [h] at hw
  obtain ⟨i, -, hi⟩ := List.mem_filterMap.mp hw
  exact mj_Gin i hi h2
set_option maxRecDepth 20000 in
theorem mj_inU7 : ∀ w ∈ u_ws "CeilingKernel$Journal" mj_T7 5, w ∈ mj_G := by
  have h : u_ws "CeilingKernel$Journal" mj_T7 5 = ([170, 172, 174, 176, 178] : List Nat).filterMap (fun i => tables_1[i]?) := by decide +kernel
  have hg : (u_ws "CeilingKernel$Journal" mj_T7 5).all goodWord = true := by decide +kernel
  intro w hw
  have h2 := List.all_eq_true.mp hg w hw
  rw [h] at hw
  obtain ⟨i, -, hi⟩ := List.mem_filterMap.mp hw
  exact mj_Gin i hi h2
set_option maxRecDepth 20000 in
theorem mj_inU8 : ∀ w ∈ u_ws "CeilingKernel$Post" mj_T8 6, w ∈ mj_G := by
  have h : u_ws "CeilingKernel$Post" mj_T8 6 = ([266, 268, 270, 272, 274, 276] : List Nat).filterMap (fun i => tables_1[i]?) := by decide +kernel
  have hg : (u_ws "CeilingKernel$Post" mj_T8 6).all goodWord = true := by decide +kernel
  intro w hw
  have h2 := List.all_eq_true.mp hg w hw
  rw [h] at hw
  obtain ⟨i, -, hi⟩ := List.mem_filterMap.mp hw
  exact mj_Gin i hi h2
set_option maxRecDepth 20000 in
theorem mj_inU9 : ∀ w ∈ u_ws "CeilingKernel$Mailbox" mj_T9 2, w ∈ mj_G := by
  have h : u_ws "CeilingKernel$Mailbox" mj_T9 2 = ([286, 288] : List Nat).filterMap (fun i => tables_1[i]?) := by decide +kernel
  have hg : (u_ws "CeilingKernel$Mailbox" mj_T9 2).all goodWord = true := by decide +kernel
  intro w hw
  have h2 := List.all_eq_true.mp hg w hw
  rw [h] at hw
  obtain ⟨i, -, hi⟩ := List.mem_filterMap.mp hw
  exact mj_Gin i hi h2
set_option maxRecDepth 20000 in
theorem mj_inU10 : ∀ w ∈ u_ws "CeilingKernelModel" mj_T10 54, w ∈ mj_G := by
  have h : u_ws "CeilingKernelModel" mj_T10 54 = ([787, 789, 791, 793, 795, 797, 799, 801, 803, 805, 807, 809, 811, 813, 815, 817, 819, 821, 823, 825, 827, 829, 831, 833, 835, 837, 839, 841, 843, 845, 847, 849, 851, 853, 855, 857, 859, 861, 863, 865, 867, 869, 871, 873, 875, 877, 879, 881, 883, 885, 887, 889, 891, 893] : List Nat).filterMap (fun i => tables_1[i]?) := by decide +kernel
  have hg : (u_ws "CeilingKernelModel" mj_T10 54).all goodWord = true := by decide +kernel
  intro w hw
  have h2 := List.all_eq_true.mp hg w hw
  rw [h] at hw
  obtain ⟨i, -, hi⟩ := List.mem_filterMap.mp hw
  exact mj_Gin i hi h2
end
section
theorem mjf_0_11 : Cond.fieldLink "CeilingKernel" 11 "CeilingKernel" "tasks" "[LCeilingKernel$Task;" ∈ mj_G := mj_Gin 338 (by decide +kernel) rfl
theorem mjf_0_18 : Cond.fieldLink "CeilingKernel" 18 "CeilingKernel" "checker" "LCeilingKernel$Checker;" ∈ mj_G := mj_Gin 339 (by decide +kernel) rfl
theorem mjf_0_25 : Cond.fieldLink "CeilingKernel" 25 "CeilingKernel" "figures" "LCeilingKernel$Figures;" ∈ mj_G := mj_Gin 340 (by decide +kernel) rfl
theorem mjf_0_35 : Cond.fieldLink "CeilingKernel" 35 "CeilingKernel" "machine" "LCeilingKernel$Machine;" ∈ mj_G := mj_Gin 341 (by decide +kernel) rfl
theorem mjf_0_43 : Cond.fieldLink "CeilingKernel" 43 "CeilingKernel$Machine" "going" "Z" ∈ mj_G := mj_Gin 292 (by decide +kernel) rfl
theorem mjf_0_47 : Cond.fieldLink "CeilingKernel" 47 "CeilingKernel" "taskCount" "I" ∈ mj_G := mj_Gin 342 (by decide +kernel) rfl
theorem mjf_0_55 : Cond.fieldLink "CeilingKernel" 55 "CeilingKernel$Figures" "there" "Z" ∈ mj_G := mj_Gin 56 (by decide +kernel) rfl
theorem mjf_0_69 : Cond.fieldLink "CeilingKernel" 69 "CeilingKernel$Task" "image" "[LCeilingKernel$Routine;" ∈ mj_G := mj_Gin 132 (by decide +kernel) rfl
theorem mjf_0_81 : Cond.fieldLink "CeilingKernel" 81 "CeilingKernel$Checker" "met" "I" ∈ mj_G := mj_Gin 31 (by decide +kernel) rfl
theorem mjf_0_95 : Cond.fieldLink "CeilingKernel" 95 "CeilingKernel$Figures" "wcets" "[I" ∈ mj_G := mj_Gin 59 (by decide +kernel) rfl
theorem mjf_0_99 : Cond.fieldLink "CeilingKernel" 99 "CeilingKernel$Figures" "sections" "[[I" ∈ mj_G := mj_Gin 61 (by decide +kernel) rfl
theorem mjf_0_103 : Cond.fieldLink "CeilingKernel" 103 "CeilingKernel$Figures" "blockings" "[I" ∈ mj_G := mj_Gin 63 (by decide +kernel) rfl
theorem mjf_0_106 : Cond.fieldLink "CeilingKernel" 106 "CeilingKernel$Figures" "responses" "[I" ∈ mj_G := mj_Gin 65 (by decide +kernel) rfl
theorem mjf_0_109 : Cond.fieldLink "CeilingKernel" 109 "CeilingKernel$Figures" "ceilings" "[I" ∈ mj_G := mj_Gin 67 (by decide +kernel) rfl
theorem mjf_0_119 : Cond.fieldLink "CeilingKernel" 119 "CeilingKernel$Machine" "posts" "[LCeilingKernel$Post;" ∈ mj_G := mj_Gin 294 (by decide +kernel) rfl
theorem mjf_0_129 : Cond.fieldLink "CeilingKernel" 129 "CeilingKernel$Machine" "ports" "[I" ∈ mj_G := mj_Gin 296 (by decide +kernel) rfl
theorem mjf_0_143 : Cond.fieldLink "CeilingKernel" 143 "CeilingKernel$Post" "longest" "I" ∈ mj_G := mj_Gin 263 (by decide +kernel) rfl
theorem mjf_0_146 : Cond.fieldLink "CeilingKernel" 146 "CeilingKernel$Post" "words" "[I" ∈ mj_G := mj_Gin 260 (by decide +kernel) rfl
theorem mjf_0_149 : Cond.fieldLink "CeilingKernel" 149 "CeilingKernel$Machine" "journal" "LCeilingKernel$Journal;" ∈ mj_G := mj_Gin 298 (by decide +kernel) rfl
theorem mjf_1_9 : Cond.fieldLink "CeilingKernel$Checker" 9 "CeilingKernel$Checker" "met" "I" ∈ mj_G := mj_Gin 30 (by decide +kernel) rfl
theorem mjf_1_15 : Cond.fieldLink "CeilingKernel$Checker" 15 "CeilingKernel$Checker" "open" "[I" ∈ mj_G := mj_Gin 32 (by decide +kernel) rfl
theorem mjf_1_27 : Cond.fieldLink "CeilingKernel$Checker" 27 "CeilingKernel$Routine" "mayLock" "I" ∈ mj_G := mj_Gin 112 (by decide +kernel) rfl
theorem mjf_1_32 : Cond.fieldLink "CeilingKernel$Checker" 32 "CeilingKernel$Routine" "size" "I" ∈ mj_G := mj_Gin 110 (by decide +kernel) rfl
theorem mjf_1_35 : Cond.fieldLink "CeilingKernel$Checker" 35 "CeilingKernel$Routine" "ys" "[I" ∈ mj_G := mj_Gin 101 (by decide +kernel) rfl
theorem mjf_1_38 : Cond.fieldLink "CeilingKernel$Checker" 38 "CeilingKernel$Routine" "ops" "[I" ∈ mj_G := mj_Gin 94 (by decide +kernel) rfl
theorem mjf_1_41 : Cond.fieldLink "CeilingKernel$Checker" 41 "CeilingKernel$Checker" "openCount" "I" ∈ mj_G := mj_Gin 33 (by decide +kernel) rfl
theorem mjf_1_44 : Cond.fieldLink "CeilingKernel$Checker" 44 "CeilingKernel$Checker" "openLoops" "I" ∈ mj_G := mj_Gin 34 (by decide +kernel) rfl
theorem mjf_1_47 : Cond.fieldLink "CeilingKernel$Checker" 47 "CeilingKernel$Checker" "openLocks" "I" ∈ mj_G := mj_Gin 35 (by decide +kernel) rfl
theorem mjf_2_9 : Cond.fieldLink "CeilingKernel$Figures" 9 "CeilingKernel$Figures" "wcets" "[I" ∈ mj_G := mj_Gin 58 (by decide +kernel) rfl
theorem mjf_2_17 : Cond.fieldLink "CeilingKernel$Figures" 17 "CeilingKernel$Figures" "sections" "[[I" ∈ mj_G := mj_Gin 60 (by decide +kernel) rfl
theorem mjf_2_20 : Cond.fieldLink "CeilingKernel$Figures" 20 "CeilingKernel$Figures" "blockings" "[I" ∈ mj_G := mj_Gin 62 (by decide +kernel) rfl
theorem mjf_2_23 : Cond.fieldLink "CeilingKernel$Figures" 23 "CeilingKernel$Figures" "responses" "[I" ∈ mj_G := mj_Gin 64 (by decide +kernel) rfl
theorem mjf_2_26 : Cond.fieldLink "CeilingKernel$Figures" 26 "CeilingKernel$Figures" "ceilings" "[I" ∈ mj_G := mj_Gin 66 (by decide +kernel) rfl
theorem mjf_2_35 : Cond.fieldLink "CeilingKernel$Figures" 35 "CeilingKernel$Task" "image" "[LCeilingKernel$Routine;" ∈ mj_G := mj_Gin 131 (by decide +kernel) rfl
theorem mjf_2_45 : Cond.fieldLink "CeilingKernel$Figures" 45 "CeilingKernel$Routine" "cost" "I" ∈ mj_G := mj_Gin 113 (by decide +kernel) rfl
theorem mjf_2_59 : Cond.fieldLink "CeilingKernel$Figures" 59 "CeilingKernel$Figures" "there" "Z" ∈ mj_G := mj_Gin 57 (by decide +kernel) rfl
theorem mjf_2_67 : Cond.fieldLink "CeilingKernel$Figures" 67 "CeilingKernel$Routine" "size" "I" ∈ mj_G := mj_Gin 109 (by decide +kernel) rfl
theorem mjf_2_74 : Cond.fieldLink "CeilingKernel$Figures" 74 "CeilingKernel$Routine" "ops" "[I" ∈ mj_G := mj_Gin 95 (by decide +kernel) rfl
theorem mjf_2_80 : Cond.fieldLink "CeilingKernel$Figures" 80 "CeilingKernel$Routine" "ys" "[I" ∈ mj_G := mj_Gin 102 (by decide +kernel) rfl
theorem mjf_2_92 : Cond.fieldLink "CeilingKernel$Figures" 92 "CeilingKernel$Routine" "mates" "[I" ∈ mj_G := mj_Gin 105 (by decide +kernel) rfl
theorem mjf_2_106 : Cond.fieldLink "CeilingKernel$Figures" 106 "CeilingKernel$Task" "deadline" "I" ∈ mj_G := mj_Gin 137 (by decide +kernel) rfl
theorem mjf_2_113 : Cond.fieldLink "CeilingKernel$Figures" 113 "CeilingKernel$Task" "period" "I" ∈ mj_G := mj_Gin 135 (by decide +kernel) rfl
theorem mjf_6_9 : Cond.fieldLink "CeilingKernel$Job" 9 "CeilingKernel$Job" "registers" "[I" ∈ mj_G := mj_Gin 212 (by decide +kernel) rfl
theorem mjf_6_15 : Cond.fieldLink "CeilingKernel$Job" 15 "CeilingKernel$Job" "callers" "[I" ∈ mj_G := mj_Gin 218 (by decide +kernel) rfl
theorem mjf_6_18 : Cond.fieldLink "CeilingKernel$Job" 18 "CeilingKernel$Job" "returns" "[I" ∈ mj_G := mj_Gin 219 (by decide +kernel) rfl
theorem mjf_6_23 : Cond.fieldLink "CeilingKernel$Job" 23 "CeilingKernel$Job" "roundsLeft" "[[I" ∈ mj_G := mj_Gin 220 (by decide +kernel) rfl
theorem mjf_6_26 : Cond.fieldLink "CeilingKernel$Job" 26 "CeilingKernel$Job" "image" "[LCeilingKernel$Routine;" ∈ mj_G := mj_Gin 214 (by decide +kernel) rfl
theorem mjf_6_30 : Cond.fieldLink "CeilingKernel$Job" 30 "CeilingKernel$Job" "alive" "Z" ∈ mj_G := mj_Gin 195 (by decide +kernel) rfl
theorem mjf_6_34 : Cond.fieldLink "CeilingKernel$Job" 34 "CeilingKernel$Job" "begun" "Z" ∈ mj_G := mj_Gin 198 (by decide +kernel) rfl
theorem mjf_6_37 : Cond.fieldLink "CeilingKernel$Job" 37 "CeilingKernel$Job" "trapped" "Z" ∈ mj_G := mj_Gin 200 (by decide +kernel) rfl
theorem mjf_6_40 : Cond.fieldLink "CeilingKernel$Job" 40 "CeilingKernel$Job" "active" "I" ∈ mj_G := mj_Gin 202 (by decide +kernel) rfl
theorem mjf_6_44 : Cond.fieldLink "CeilingKernel$Job" 44 "CeilingKernel$Job" "held" "I" ∈ mj_G := mj_Gin 204 (by decide +kernel) rfl
theorem mjf_6_47 : Cond.fieldLink "CeilingKernel$Job" 47 "CeilingKernel$Job" "releasedAt" "I" ∈ mj_G := mj_Gin 206 (by decide +kernel) rfl
theorem mjf_6_50 : Cond.fieldLink "CeilingKernel$Job" 50 "CeilingKernel$Job" "instructionsDone" "I" ∈ mj_G := mj_Gin 208 (by decide +kernel) rfl
theorem mjf_6_53 : Cond.fieldLink "CeilingKernel$Job" 53 "CeilingKernel$Job" "switchLeft" "I" ∈ mj_G := mj_Gin 210 (by decide +kernel) rfl
theorem mjf_6_56 : Cond.fieldLink "CeilingKernel$Job" 56 "CeilingKernel$Job" "current" "I" ∈ mj_G := mj_Gin 215 (by decide +kernel) rfl
theorem mjf_6_59 : Cond.fieldLink "CeilingKernel$Job" 59 "CeilingKernel$Job" "at" "I" ∈ mj_G := mj_Gin 216 (by decide +kernel) rfl
theorem mjf_6_62 : Cond.fieldLink "CeilingKernel$Job" 62 "CeilingKernel$Job" "spent" "I" ∈ mj_G := mj_Gin 217 (by decide +kernel) rfl
theorem mjf_6_74 : Cond.fieldLink "CeilingKernel$Job" 74 "CeilingKernel$Routine" "ops" "[I" ∈ mj_G := mj_Gin 96 (by decide +kernel) rfl
theorem mjf_6_83 : Cond.fieldLink "CeilingKernel$Job" 83 "CeilingKernel$Routine" "mates" "[I" ∈ mj_G := mj_Gin 106 (by decide +kernel) rfl
theorem mjf_6_93 : Cond.fieldLink "CeilingKernel$Job" 93 "CeilingKernel$Routine" "size" "I" ∈ mj_G := mj_Gin 111 (by decide +kernel) rfl
theorem mjf_7_9 : Cond.fieldLink "CeilingKernel$Journal" 9 "CeilingKernel$Journal" "kinds" "[I" ∈ mj_G := mj_Gin 166 (by decide +kernel) rfl
theorem mjf_7_15 : Cond.fieldLink "CeilingKernel$Journal" 15 "CeilingKernel$Journal" "numbers" "[I" ∈ mj_G := mj_Gin 167 (by decide +kernel) rfl
theorem mjf_7_18 : Cond.fieldLink "CeilingKernel$Journal" 18 "CeilingKernel$Journal" "times" "[I" ∈ mj_G := mj_Gin 168 (by decide +kernel) rfl
theorem mjf_7_21 : Cond.fieldLink "CeilingKernel$Journal" 21 "CeilingKernel$Journal" "values" "[I" ∈ mj_G := mj_Gin 169 (by decide +kernel) rfl
theorem mjf_7_24 : Cond.fieldLink "CeilingKernel$Journal" 24 "CeilingKernel$Journal" "made" "I" ∈ mj_G := mj_Gin 164 (by decide +kernel) rfl
theorem mjf_5_11 : Cond.fieldLink "CeilingKernel$Machine" 11 "CeilingKernel$Machine" "posts" "[LCeilingKernel$Post;" ∈ mj_G := mj_Gin 293 (by decide +kernel) rfl
theorem mjf_5_17 : Cond.fieldLink "CeilingKernel$Machine" 17 "CeilingKernel$Machine" "ports" "[I" ∈ mj_G := mj_Gin 295 (by decide +kernel) rfl
theorem mjf_5_24 : Cond.fieldLink "CeilingKernel$Machine" 24 "CeilingKernel$Machine" "journal" "LCeilingKernel$Journal;" ∈ mj_G := mj_Gin 297 (by decide +kernel) rfl
theorem mjf_5_30 : Cond.fieldLink "CeilingKernel$Machine" 30 "CeilingKernel$Machine" "mailboxes" "[LCeilingKernel$Mailbox;" ∈ mj_G := mj_Gin 300 (by decide +kernel) rfl
theorem mjf_5_34 : Cond.fieldLink "CeilingKernel$Machine" 34 "CeilingKernel$Machine" "figures" "LCeilingKernel$Figures;" ∈ mj_G := mj_Gin 299 (by decide +kernel) rfl
theorem mjf_5_42 : Cond.fieldLink "CeilingKernel$Machine" 42 "CeilingKernel$Machine" "going" "Z" ∈ mj_G := mj_Gin 291 (by decide +kernel) rfl
theorem mjf_5_46 : Cond.fieldLink "CeilingKernel$Machine" 46 "CeilingKernel$Machine" "taskCount" "I" ∈ mj_G := mj_Gin 301 (by decide +kernel) rfl
theorem mjf_5_50 : Cond.fieldLink "CeilingKernel$Machine" 50 "CeilingKernel$Machine" "cyclesMade" "I" ∈ mj_G := mj_Gin 302 (by decide +kernel) rfl
theorem mjf_5_53 : Cond.fieldLink "CeilingKernel$Machine" 53 "CeilingKernel$Machine" "holder" "I" ∈ mj_G := mj_Gin 303 (by decide +kernel) rfl
theorem mjf_5_56 : Cond.fieldLink "CeilingKernel$Machine" 56 "CeilingKernel$Machine" "latest" "I" ∈ mj_G := mj_Gin 304 (by decide +kernel) rfl
theorem mjf_5_59 : Cond.fieldLink "CeilingKernel$Machine" 59 "CeilingKernel$Machine" "switches" "I" ∈ mj_G := mj_Gin 305 (by decide +kernel) rfl
theorem mjf_5_62 : Cond.fieldLink "CeilingKernel$Machine" 62 "CeilingKernel$Machine" "overdue" "I" ∈ mj_G := mj_Gin 306 (by decide +kernel) rfl
theorem mjf_5_65 : Cond.fieldLink "CeilingKernel$Machine" 65 "CeilingKernel$Machine" "lost" "I" ∈ mj_G := mj_Gin 307 (by decide +kernel) rfl
theorem mjf_5_68 : Cond.fieldLink "CeilingKernel$Machine" 68 "CeilingKernel$Machine" "idle" "I" ∈ mj_G := mj_Gin 308 (by decide +kernel) rfl
theorem mjf_5_71 : Cond.fieldLink "CeilingKernel$Machine" 71 "CeilingKernel$Journal" "made" "I" ∈ mj_G := mj_Gin 165 (by decide +kernel) rfl
theorem mjf_5_104 : Cond.fieldLink "CeilingKernel$Machine" 104 "CeilingKernel$Post" "job" "LCeilingKernel$Job;" ∈ mj_G := mj_Gin 257 (by decide +kernel) rfl
theorem mjf_5_112 : Cond.fieldLink "CeilingKernel$Machine" 112 "CeilingKernel$Job" "alive" "Z" ∈ mj_G := mj_Gin 197 (by decide +kernel) rfl
theorem mjf_5_117 : Cond.fieldLink "CeilingKernel$Machine" 117 "CeilingKernel$Job" "releasedAt" "I" ∈ mj_G := mj_Gin 207 (by decide +kernel) rfl
theorem mjf_5_132 : Cond.fieldLink "CeilingKernel$Machine" 132 "CeilingKernel$Job" "begun" "Z" ∈ mj_G := mj_Gin 199 (by decide +kernel) rfl
theorem mjf_5_135 : Cond.fieldLink "CeilingKernel$Machine" 135 "CeilingKernel$Job" "switchLeft" "I" ∈ mj_G := mj_Gin 211 (by decide +kernel) rfl
theorem mjf_5_148 : Cond.fieldLink "CeilingKernel$Machine" 148 "CeilingKernel$Job" "trapped" "Z" ∈ mj_G := mj_Gin 201 (by decide +kernel) rfl
theorem mjf_5_164 : Cond.fieldLink "CeilingKernel$Machine" 164 "CeilingKernel$Routine" "xs" "[I" ∈ mj_G := mj_Gin 99 (by decide +kernel) rfl
theorem mjf_5_169 : Cond.fieldLink "CeilingKernel$Machine" 169 "CeilingKernel$Routine" "ys" "[I" ∈ mj_G := mj_Gin 103 (by decide +kernel) rfl
theorem mjf_5_175 : Cond.fieldLink "CeilingKernel$Machine" 175 "CeilingKernel$Routine" "ops" "[I" ∈ mj_G := mj_Gin 97 (by decide +kernel) rfl
theorem mjf_5_178 : Cond.fieldLink "CeilingKernel$Machine" 178 "CeilingKernel$Job" "registers" "[I" ∈ mj_G := mj_Gin 213 (by decide +kernel) rfl
theorem mjf_5_181 : Cond.fieldLink "CeilingKernel$Machine" 181 "CeilingKernel$Post" "words" "[I" ∈ mj_G := mj_Gin 259 (by decide +kernel) rfl
theorem mjf_5_184 : Cond.fieldLink "CeilingKernel$Machine" 184 "CeilingKernel$Job" "held" "I" ∈ mj_G := mj_Gin 205 (by decide +kernel) rfl
theorem mjf_5_211 : Cond.fieldLink "CeilingKernel$Machine" 211 "CeilingKernel$Job" "active" "I" ∈ mj_G := mj_Gin 203 (by decide +kernel) rfl
theorem mjf_5_220 : Cond.fieldLink "CeilingKernel$Machine" 220 "CeilingKernel$Post" "longest" "I" ∈ mj_G := mj_Gin 262 (by decide +kernel) rfl
theorem mjf_5_228 : Cond.fieldLink "CeilingKernel$Machine" 228 "CeilingKernel$Post" "task" "LCeilingKernel$Task;" ∈ mj_G := mj_Gin 255 (by decide +kernel) rfl
theorem mjf_5_232 : Cond.fieldLink "CeilingKernel$Machine" 232 "CeilingKernel$Task" "deadline" "I" ∈ mj_G := mj_Gin 138 (by decide +kernel) rfl
theorem mjf_5_237 : Cond.fieldLink "CeilingKernel$Machine" 237 "CeilingKernel$Job" "instructionsDone" "I" ∈ mj_G := mj_Gin 209 (by decide +kernel) rfl
theorem mjf_9_9 : Cond.fieldLink "CeilingKernel$Mailbox" 9 "CeilingKernel$Mailbox" "numbers" "[I" ∈ mj_G := mj_Gin 284 (by decide +kernel) rfl
theorem mjf_9_15 : Cond.fieldLink "CeilingKernel$Mailbox" 15 "CeilingKernel$Mailbox" "count" "I" ∈ mj_G := mj_Gin 285 (by decide +kernel) rfl
theorem mjf_8_9 : Cond.fieldLink "CeilingKernel$Post" 9 "CeilingKernel$Post" "words" "[I" ∈ mj_G := mj_Gin 258 (by decide +kernel) rfl
theorem mjf_8_15 : Cond.fieldLink "CeilingKernel$Post" 15 "CeilingKernel$Post" "task" "LCeilingKernel$Task;" ∈ mj_G := mj_Gin 254 (by decide +kernel) rfl
theorem mjf_8_21 : Cond.fieldLink "CeilingKernel$Post" 21 "CeilingKernel$Task" "image" "[LCeilingKernel$Routine;" ∈ mj_G := mj_Gin 130 (by decide +kernel) rfl
theorem mjf_8_30 : Cond.fieldLink "CeilingKernel$Post" 30 "CeilingKernel$Post" "job" "LCeilingKernel$Job;" ∈ mj_G := mj_Gin 256 (by decide +kernel) rfl
theorem mjf_8_34 : Cond.fieldLink "CeilingKernel$Post" 34 "CeilingKernel$Job" "alive" "Z" ∈ mj_G := mj_Gin 196 (by decide +kernel) rfl
theorem mjf_8_44 : Cond.fieldLink "CeilingKernel$Post" 44 "CeilingKernel$Post" "longest" "I" ∈ mj_G := mj_Gin 261 (by decide +kernel) rfl
theorem mjf_8_52 : Cond.fieldLink "CeilingKernel$Post" 52 "CeilingKernel$Task" "offset" "I" ∈ mj_G := mj_Gin 140 (by decide +kernel) rfl
theorem mjf_8_55 : Cond.fieldLink "CeilingKernel$Post" 55 "CeilingKernel$Post" "nextDue" "I" ∈ mj_G := mj_Gin 264 (by decide +kernel) rfl
theorem mjf_8_58 : Cond.fieldLink "CeilingKernel$Post" 58 "CeilingKernel$Post" "waiting" "I" ∈ mj_G := mj_Gin 265 (by decide +kernel) rfl
theorem mjf_8_61 : Cond.fieldLink "CeilingKernel$Post" 61 "CeilingKernel$Task" "period" "I" ∈ mj_G := mj_Gin 134 (by decide +kernel) rfl
theorem mjf_4_9 : Cond.fieldLink "CeilingKernel$Routine" 9 "CeilingKernel$Routine" "ops" "[I" ∈ mj_G := mj_Gin 93 (by decide +kernel) rfl
theorem mjf_4_15 : Cond.fieldLink "CeilingKernel$Routine" 15 "CeilingKernel$Routine" "xs" "[I" ∈ mj_G := mj_Gin 98 (by decide +kernel) rfl
theorem mjf_4_18 : Cond.fieldLink "CeilingKernel$Routine" 18 "CeilingKernel$Routine" "ys" "[I" ∈ mj_G := mj_Gin 100 (by decide +kernel) rfl
theorem mjf_4_21 : Cond.fieldLink "CeilingKernel$Routine" 21 "CeilingKernel$Routine" "mates" "[I" ∈ mj_G := mj_Gin 104 (by decide +kernel) rfl
theorem mjf_4_24 : Cond.fieldLink "CeilingKernel$Routine" 24 "CeilingKernel$Routine" "size" "I" ∈ mj_G := mj_Gin 107 (by decide +kernel) rfl
theorem mjf_3_11 : Cond.fieldLink "CeilingKernel$Task" 11 "CeilingKernel$Task" "image" "[LCeilingKernel$Routine;" ∈ mj_G := mj_Gin 129 (by decide +kernel) rfl
theorem mjf_3_18 : Cond.fieldLink "CeilingKernel$Task" 18 "CeilingKernel$Task" "period" "I" ∈ mj_G := mj_Gin 133 (by decide +kernel) rfl
theorem mjf_3_22 : Cond.fieldLink "CeilingKernel$Task" 22 "CeilingKernel$Task" "deadline" "I" ∈ mj_G := mj_Gin 136 (by decide +kernel) rfl
theorem mjf_3_25 : Cond.fieldLink "CeilingKernel$Task" 25 "CeilingKernel$Task" "offset" "I" ∈ mj_G := mj_Gin 139 (by decide +kernel) rfl
theorem mjf_3_28 : Cond.fieldLink "CeilingKernel$Task" 28 "CeilingKernel$Routine" "size" "I" ∈ mj_G := mj_Gin 108 (by decide +kernel) rfl
theorem mjf_10_7 : Cond.fieldLink "CeilingKernelModel" 7 "CeilingKernelModel" "met" "I" ∈ mj_G := mj_Gin 736 (by decide +kernel) rfl
theorem mjf_10_13 : Cond.fieldLink "CeilingKernelModel" 13 "CeilingKernelModel" "period" "[I" ∈ mj_G := mj_Gin 737 (by decide +kernel) rfl
theorem mjf_10_17 : Cond.fieldLink "CeilingKernelModel" 17 "CeilingKernelModel" "deadline" "[I" ∈ mj_G := mj_Gin 738 (by decide +kernel) rfl
theorem mjf_10_20 : Cond.fieldLink "CeilingKernelModel" 20 "CeilingKernelModel" "offset" "[I" ∈ mj_G := mj_Gin 739 (by decide +kernel) rfl
theorem mjf_10_23 : Cond.fieldLink "CeilingKernelModel" 23 "CeilingKernelModel" "op" "[I" ∈ mj_G := mj_Gin 740 (by decide +kernel) rfl
theorem mjf_10_26 : Cond.fieldLink "CeilingKernelModel" 26 "CeilingKernelModel" "rx" "[I" ∈ mj_G := mj_Gin 741 (by decide +kernel) rfl
theorem mjf_10_29 : Cond.fieldLink "CeilingKernelModel" 29 "CeilingKernelModel" "num" "[I" ∈ mj_G := mj_Gin 742 (by decide +kernel) rfl
theorem mjf_10_32 : Cond.fieldLink "CeilingKernelModel" 32 "CeilingKernelModel" "mate" "[I" ∈ mj_G := mj_Gin 743 (by decide +kernel) rfl
theorem mjf_10_35 : Cond.fieldLink "CeilingKernelModel" 35 "CeilingKernelModel" "len" "[I" ∈ mj_G := mj_Gin 744 (by decide +kernel) rfl
theorem mjf_10_38 : Cond.fieldLink "CeilingKernelModel" 38 "CeilingKernelModel" "price" "[I" ∈ mj_G := mj_Gin 745 (by decide +kernel) rfl
theorem mjf_10_41 : Cond.fieldLink "CeilingKernelModel" 41 "CeilingKernelModel" "open" "[I" ∈ mj_G := mj_Gin 746 (by decide +kernel) rfl
theorem mjf_10_44 : Cond.fieldLink "CeilingKernelModel" 44 "CeilingKernelModel" "far" "[I" ∈ mj_G := mj_Gin 748 (by decide +kernel) rfl
theorem mjf_10_47 : Cond.fieldLink "CeilingKernelModel" 47 "CeilingKernelModel" "total" "[I" ∈ mj_G := mj_Gin 749 (by decide +kernel) rfl
theorem mjf_10_50 : Cond.fieldLink "CeilingKernelModel" 50 "CeilingKernelModel" "wc" "[I" ∈ mj_G := mj_Gin 750 (by decide +kernel) rfl
theorem mjf_10_53 : Cond.fieldLink "CeilingKernelModel" 53 "CeilingKernelModel" "sec" "[I" ∈ mj_G := mj_Gin 751 (by decide +kernel) rfl
theorem mjf_10_56 : Cond.fieldLink "CeilingKernelModel" 56 "CeilingKernelModel" "blk" "[I" ∈ mj_G := mj_Gin 752 (by decide +kernel) rfl
theorem mjf_10_59 : Cond.fieldLink "CeilingKernelModel" 59 "CeilingKernelModel" "resp" "[I" ∈ mj_G := mj_Gin 753 (by decide +kernel) rfl
theorem mjf_10_62 : Cond.fieldLink "CeilingKernelModel" 62 "CeilingKernelModel" "ceil" "[I" ∈ mj_G := mj_Gin 754 (by decide +kernel) rfl
theorem mjf_10_65 : Cond.fieldLink "CeilingKernelModel" 65 "CeilingKernelModel" "has" "[Z" ∈ mj_G := mj_Gin 763 (by decide +kernel) rfl
theorem mjf_10_69 : Cond.fieldLink "CeilingKernelModel" 69 "CeilingKernelModel" "ran" "[Z" ∈ mj_G := mj_Gin 764 (by decide +kernel) rfl
theorem mjf_10_72 : Cond.fieldLink "CeilingKernelModel" 72 "CeilingKernelModel" "born" "[I" ∈ mj_G := mj_Gin 765 (by decide +kernel) rfl
theorem mjf_10_75 : Cond.fieldLink "CeilingKernelModel" 75 "CeilingKernelModel" "turning" "[I" ∈ mj_G := mj_Gin 766 (by decide +kernel) rfl
theorem mjf_10_78 : Cond.fieldLink "CeilingKernelModel" 78 "CeilingKernelModel" "spent" "[I" ∈ mj_G := mj_Gin 767 (by decide +kernel) rfl
theorem mjf_10_81 : Cond.fieldLink "CeilingKernelModel" 81 "CeilingKernelModel" "steps" "[I" ∈ mj_G := mj_Gin 768 (by decide +kernel) rfl
theorem mjf_10_84 : Cond.fieldLink "CeilingKernelModel" 84 "CeilingKernelModel" "holds" "[I" ∈ mj_G := mj_Gin 769 (by decide +kernel) rfl
theorem mjf_10_87 : Cond.fieldLink "CeilingKernelModel" 87 "CeilingKernelModel" "routine" "[I" ∈ mj_G := mj_Gin 770 (by decide +kernel) rfl
theorem mjf_10_90 : Cond.fieldLink "CeilingKernelModel" 90 "CeilingKernelModel" "at" "[I" ∈ mj_G := mj_Gin 771 (by decide +kernel) rfl
theorem mjf_10_93 : Cond.fieldLink "CeilingKernelModel" 93 "CeilingKernelModel" "caller" "[I" ∈ mj_G := mj_Gin 772 (by decide +kernel) rfl
theorem mjf_10_96 : Cond.fieldLink "CeilingKernelModel" 96 "CeilingKernelModel" "back" "[I" ∈ mj_G := mj_Gin 773 (by decide +kernel) rfl
theorem mjf_10_99 : Cond.fieldLink "CeilingKernelModel" 99 "CeilingKernelModel" "rounds" "[I" ∈ mj_G := mj_Gin 774 (by decide +kernel) rfl
theorem mjf_10_102 : Cond.fieldLink "CeilingKernelModel" 102 "CeilingKernelModel" "regs" "[I" ∈ mj_G := mj_Gin 775 (by decide +kernel) rfl
theorem mjf_10_105 : Cond.fieldLink "CeilingKernelModel" 105 "CeilingKernelModel" "words" "[I" ∈ mj_G := mj_Gin 776 (by decide +kernel) rfl
theorem mjf_10_108 : Cond.fieldLink "CeilingKernelModel" 108 "CeilingKernelModel" "due" "[I" ∈ mj_G := mj_Gin 777 (by decide +kernel) rfl
theorem mjf_10_111 : Cond.fieldLink "CeilingKernelModel" 111 "CeilingKernelModel" "waits" "[I" ∈ mj_G := mj_Gin 778 (by decide +kernel) rfl
theorem mjf_10_114 : Cond.fieldLink "CeilingKernelModel" 114 "CeilingKernelModel" "top" "[I" ∈ mj_G := mj_Gin 779 (by decide +kernel) rfl
theorem mjf_10_117 : Cond.fieldLink "CeilingKernelModel" 117 "CeilingKernelModel" "ports" "[I" ∈ mj_G := mj_Gin 780 (by decide +kernel) rfl
theorem mjf_10_120 : Cond.fieldLink "CeilingKernelModel" 120 "CeilingKernelModel" "box" "[I" ∈ mj_G := mj_Gin 781 (by decide +kernel) rfl
theorem mjf_10_123 : Cond.fieldLink "CeilingKernelModel" 123 "CeilingKernelModel" "held" "[I" ∈ mj_G := mj_Gin 782 (by decide +kernel) rfl
theorem mjf_10_126 : Cond.fieldLink "CeilingKernelModel" 126 "CeilingKernelModel" "kinds" "[I" ∈ mj_G := mj_Gin 783 (by decide +kernel) rfl
theorem mjf_10_129 : Cond.fieldLink "CeilingKernelModel" 129 "CeilingKernelModel" "whose" "[I" ∈ mj_G := mj_Gin 784 (by decide +kernel) rfl
theorem mjf_10_132 : Cond.fieldLink "CeilingKernelModel" 132 "CeilingKernelModel" "times" "[I" ∈ mj_G := mj_Gin 785 (by decide +kernel) rfl
theorem mjf_10_135 : Cond.fieldLink "CeilingKernelModel" 135 "CeilingKernelModel" "values" "[I" ∈ mj_G := mj_Gin 786 (by decide +kernel) rfl
theorem mjf_10_138 : Cond.fieldLink "CeilingKernelModel" 138 "CeilingKernelModel" "tasks" "I" ∈ mj_G := mj_Gin 733 (by decide +kernel) rfl
theorem mjf_10_141 : Cond.fieldLink "CeilingKernelModel" 141 "CeilingKernelModel" "on" "Z" ∈ mj_G := mj_Gin 735 (by decide +kernel) rfl
theorem mjf_10_149 : Cond.fieldLink "CeilingKernelModel" 149 "CeilingKernelModel" "figures" "Z" ∈ mj_G := mj_Gin 734 (by decide +kernel) rfl
theorem mjf_10_159 : Cond.fieldLink "CeilingKernelModel" 159 "CeilingKernelModel" "depth" "I" ∈ mj_G := mj_Gin 747 (by decide +kernel) rfl
theorem mjf_10_209 : Cond.fieldLink "CeilingKernelModel" 209 "CeilingKernelModel" "t" "I" ∈ mj_G := mj_Gin 755 (by decide +kernel) rfl
theorem mjf_10_212 : Cond.fieldLink "CeilingKernelModel" 212 "CeilingKernelModel" "latest" "I" ∈ mj_G := mj_Gin 756 (by decide +kernel) rfl
theorem mjf_10_215 : Cond.fieldLink "CeilingKernelModel" 215 "CeilingKernelModel" "before" "I" ∈ mj_G := mj_Gin 757 (by decide +kernel) rfl
theorem mjf_10_218 : Cond.fieldLink "CeilingKernelModel" 218 "CeilingKernelModel" "switches" "I" ∈ mj_G := mj_Gin 758 (by decide +kernel) rfl
theorem mjf_10_221 : Cond.fieldLink "CeilingKernelModel" 221 "CeilingKernelModel" "overdue" "I" ∈ mj_G := mj_Gin 759 (by decide +kernel) rfl
theorem mjf_10_224 : Cond.fieldLink "CeilingKernelModel" 224 "CeilingKernelModel" "lost" "I" ∈ mj_G := mj_Gin 760 (by decide +kernel) rfl
theorem mjf_10_227 : Cond.fieldLink "CeilingKernelModel" 227 "CeilingKernelModel" "idle" "I" ∈ mj_G := mj_Gin 761 (by decide +kernel) rfl
theorem mjf_10_230 : Cond.fieldLink "CeilingKernelModel" 230 "CeilingKernelModel" "made" "I" ∈ mj_G := mj_Gin 762 (by decide +kernel) rfl
end
section
theorem mjl_0_17 : ∃ host, Cond.methodLinkNest "CeilingKernel" 17 ⟨"CeilingKernel$Checker", "<init>", "()V"⟩ host ∈ mj_bad := ⟨"CeilingKernel", by decide +kernel⟩
theorem mjl_0_24 : ∃ host, Cond.methodLinkNest "CeilingKernel" 24 ⟨"CeilingKernel$Figures", "<init>", "()V"⟩ host ∈ mj_bad := ⟨"CeilingKernel", by decide +kernel⟩
theorem mjl_0_29 : Cond.methodLink "CeilingKernel" 29 ⟨"CeilingKernel$Task", "<init>", "()V"⟩ ∈ mj_G := mj_Gin 82 (by decide +kernel) rfl
theorem mjl_0_32 : Cond.methodLink "CeilingKernel" 32 ⟨"CeilingKernel$Machine", "<init>", "([LCeilingKernel$Task;LCeilingKernel$Figures;)V"⟩ ∈ mj_G := mj_Gin 152 (by decide +kernel) rfl
theorem mjl_0_39 : Cond.methodLink "CeilingKernel" 39 ⟨"CeilingKernel", "isWithin", "(III)Z"⟩ ∈ mj_G := mj_Gin 358 (by decide +kernel) rfl
theorem mjl_0_51 : Cond.methodLink "CeilingKernel" 51 ⟨"CeilingKernel$Task", "make", "(III)V"⟩ ∈ mj_G := mj_Gin 361 (by decide +kernel) rfl
theorem mjl_0_58 : Cond.methodLink "CeilingKernel" 58 ⟨"CeilingKernel", "isTask", "(I)Z"⟩ ∈ mj_G := mj_Gin 369 (by decide +kernel) rfl
theorem mjl_0_62 : Cond.methodLink "CeilingKernel" 62 ⟨"CeilingKernel", "isBelow", "(II)Z"⟩ ∈ mj_G := mj_Gin 373 (by decide +kernel) rfl
theorem mjl_0_66 : Cond.methodLink "CeilingKernel" 66 ⟨"CeilingKernel", "isInstruction", "(III)Z"⟩ ∈ mj_G := mj_Gin 376 (by decide +kernel) rfl
theorem mjl_0_73 : Cond.methodLink "CeilingKernel" 73 ⟨"CeilingKernel$Routine", "append", "(III)Z"⟩ ∈ mj_G := mj_Gin 387 (by decide +kernel) rfl
theorem mjl_0_78 : Cond.methodLink "CeilingKernel" 78 ⟨"CeilingKernel$Task", "clearImage", "()V"⟩ ∈ mj_G := mj_Gin 395 (by decide +kernel) rfl
theorem mjl_0_84 : Cond.methodLink "CeilingKernel" 84 ⟨"CeilingKernel$Checker", "reasonAgainst", "([LCeilingKernel$Routine;)I"⟩ ∈ mj_G := mj_Gin 403 (by decide +kernel) rfl
theorem mjl_0_88 : Cond.methodLink "CeilingKernel" 88 ⟨"CeilingKernel$Figures", "workOut", "([LCeilingKernel$Task;I)I"⟩ ∈ mj_G := mj_Gin 458 (by decide +kernel) rfl
theorem mjl_0_92 : Cond.methodLink "CeilingKernel" 92 ⟨"CeilingKernel", "hasFigures", "(I)Z"⟩ ∈ mj_G := mj_Gin 509 (by decide +kernel) rfl
theorem mjl_0_112 : Cond.methodLink "CeilingKernel" 112 ⟨"CeilingKernel$Machine", "begin", "(I)V"⟩ ∈ mj_G := mj_Gin 533 (by decide +kernel) rfl
theorem mjl_0_116 : Cond.methodLink "CeilingKernel" 116 ⟨"CeilingKernel", "runsTask", "(I)Z"⟩ ∈ mj_G := mj_Gin 559 (by decide +kernel) rfl
theorem mjl_0_123 : Cond.methodLink "CeilingKernel" 123 ⟨"CeilingKernel$Post", "takeEvent", "()Z"⟩ ∈ mj_G := mj_Gin 563 (by decide +kernel) rfl
theorem mjl_0_132 : Cond.methodLink "CeilingKernel" 132 ⟨"CeilingKernel$Machine", "makeCycles", "(I)I"⟩ ∈ mj_G := mj_Gin 575 (by decide +kernel) rfl
theorem mjl_0_136 : Cond.methodLink "CeilingKernel" 136 ⟨"CeilingKernel$Machine", "tell", "(I)I"⟩ ∈ mj_G := mj_Gin 697 (by decide +kernel) rfl
theorem mjl_0_139 : Cond.methodLink "CeilingKernel" 139 ⟨"CeilingKernel$Machine", "tellOfJob", "(II)I"⟩ ∈ mj_G := mj_Gin 705 (by decide +kernel) rfl
theorem mjl_0_153 : Cond.methodLink "CeilingKernel" 153 ⟨"CeilingKernel$Journal", "tell", "(II)I"⟩ ∈ mj_G := mj_Gin 721 (by decide +kernel) rfl
theorem mjl_1_19 : Cond.methodLink "CeilingKernel$Checker" 19 ⟨"CeilingKernel$Checker", "findLocks", "([LCeilingKernel$Routine;)V"⟩ ∈ mj_G := mj_Gin 407 (by decide +kernel) rfl
theorem mjl_1_23 : Cond.methodLink "CeilingKernel$Checker" 23 ⟨"CeilingKernel$Checker", "checkRoutine", "([LCeilingKernel$Routine;I)I"⟩ ∈ mj_G := mj_Gin 411 (by decide +kernel) rfl
theorem mjl_1_50 : Cond.methodLink "CeilingKernel$Checker" 50 ⟨"CeilingKernel$Checker", "meet", "(III)I"⟩ ∈ mj_G := mj_Gin 415 (by decide +kernel) rfl
theorem mjl_1_54 : Cond.methodLink "CeilingKernel$Checker" 54 ⟨"CeilingKernel$Checker", "checkInstruction", "([LCeilingKernel$Routine;II)I"⟩ ∈ mj_G := mj_Gin 419 (by decide +kernel) rfl
theorem mjl_1_58 : Cond.methodLink "CeilingKernel$Checker" 58 ⟨"CeilingKernel$Checker", "openLoop", "(I)I"⟩ ∈ mj_G := mj_Gin 423 (by decide +kernel) rfl
theorem mjl_1_62 : Cond.methodLink "CeilingKernel$Checker" 62 ⟨"CeilingKernel$Checker", "openLock", "(II)I"⟩ ∈ mj_G := mj_Gin 431 (by decide +kernel) rfl
theorem mjl_1_66 : Cond.methodLink "CeilingKernel$Checker" 66 ⟨"CeilingKernel$Checker", "close", "(LCeilingKernel$Routine;II)I"⟩ ∈ mj_G := mj_Gin 435 (by decide +kernel) rfl
theorem mjl_1_70 : Cond.methodLink "CeilingKernel$Checker" 70 ⟨"CeilingKernel$Checker", "checkCall", "([LCeilingKernel$Routine;II)I"⟩ ∈ mj_G := mj_Gin 447 (by decide +kernel) rfl
theorem mjl_1_73 : Cond.methodLink "CeilingKernel$Checker" 73 ⟨"CeilingKernel$Checker", "checkJump", "(LCeilingKernel$Routine;I)I"⟩ ∈ mj_G := mj_Gin 451 (by decide +kernel) rfl
theorem mjl_1_77 : Cond.methodLink "CeilingKernel$Checker" 77 ⟨"CeilingKernel$Checker", "openBracket", "(I)I"⟩ ∈ mj_G := mj_Gin 427 (by decide +kernel) rfl
theorem mjl_1_80 : Cond.methodLink "CeilingKernel$Checker" 80 ⟨"CeilingKernel$Routine", "join", "(II)V"⟩ ∈ mj_G := mj_Gin 439 (by decide +kernel) rfl
theorem mjl_1_84 : Cond.methodLink "CeilingKernel$Checker" 84 ⟨"CeilingKernel$Routine", "openerY", "(I)I"⟩ ∈ mj_G := mj_Gin 443 (by decide +kernel) rfl
theorem mjl_1_87 : Cond.methodLink "CeilingKernel$Checker" 87 ⟨"CeilingKernel$Checker", "bracketStep", "(I)I"⟩ ∈ mj_G := mj_Gin 455 (by decide +kernel) rfl
theorem mjl_2_29 : Cond.methodLink "CeilingKernel$Figures" 29 ⟨"java/util/Arrays", "fill", "([II)V"⟩ ∈ mj_G := mj_Gin 462 (by decide +kernel) rfl
theorem mjl_2_41 : Cond.methodLink "CeilingKernel$Figures" 41 ⟨"CeilingKernel$Figures", "costImage", "([LCeilingKernel$Routine;)V"⟩ ∈ mj_G := mj_Gin 465 (by decide +kernel) rfl
theorem mjl_2_51 : Cond.methodLink "CeilingKernel$Figures" 51 ⟨"CeilingKernel$Figures", "findSections", "([LCeilingKernel$Routine;I)V"⟩ ∈ mj_G := mj_Gin 476 (by decide +kernel) rfl
theorem mjl_2_55 : Cond.methodLink "CeilingKernel$Figures" 55 ⟨"CeilingKernel$Figures", "findBlocking", "(II)I"⟩ ∈ mj_G := mj_Gin 484 (by decide +kernel) rfl
theorem mjl_2_63 : Cond.methodLink "CeilingKernel$Figures" 63 ⟨"CeilingKernel$Figures", "findResponses", "([LCeilingKernel$Task;I)I"⟩ ∈ mj_G := mj_Gin 489 (by decide +kernel) rfl
theorem mjl_2_70 : Cond.methodLink "CeilingKernel$Figures" 70 ⟨"CeilingKernel$Figures", "costOfSpan", "([LCeilingKernel$Routine;LCeilingKernel$Routine;II)I"⟩ ∈ mj_G := mj_Gin 468 (by decide +kernel) rfl
theorem mjl_2_83 : Cond.methodLink "CeilingKernel$Figures" 83 ⟨"CeilingKernel$Routine", "openerY", "(I)I"⟩ ∈ mj_G := mj_Gin 472 (by decide +kernel) rfl
theorem mjl_2_95 : Cond.methodLink "CeilingKernel$Figures" 95 ⟨"CeilingKernel$Figures", "takeSection", "(III)V"⟩ ∈ mj_G := mj_Gin 480 (by decide +kernel) rfl
theorem mjl_2_99 : ∃ host, Cond.methodLinkNest "CeilingKernel$Figures" 99 ⟨"CeilingKernel", "isWithin", "(III)Z"⟩ host ∈ mj_bad := ⟨"CeilingKernel", by decide +kernel⟩
theorem mjl_2_103 : Cond.methodLink "CeilingKernel$Figures" 103 ⟨"CeilingKernel$Figures", "findResponse", "([LCeilingKernel$Task;I)I"⟩ ∈ mj_G := mj_Gin 493 (by decide +kernel) rfl
theorem mjl_2_109 : Cond.methodLink "CeilingKernel$Figures" 109 ⟨"CeilingKernel$Figures", "demandWithin", "([LCeilingKernel$Task;II)I"⟩ ∈ mj_G := mj_Gin 497 (by decide +kernel) rfl
theorem mjl_6_65 : Cond.methodLink "CeilingKernel$Job" 65 ⟨"java/util/Arrays", "fill", "([II)V"⟩ ∈ mj_G := mj_Gin 603 (by decide +kernel) rfl
theorem mjl_6_79 : Cond.methodLink "CeilingKernel$Job" 79 ⟨"CeilingKernel$Job", "divide", "(II)V"⟩ ∈ mj_G := mj_Gin 672 (by decide +kernel) rfl
theorem mjl_6_86 : Cond.methodLink "CeilingKernel$Job" 86 ⟨"CeilingKernel$Job", "closeRound", "(I)V"⟩ ∈ mj_G := mj_Gin 676 (by decide +kernel) rfl
theorem mjl_6_90 : Cond.methodLink "CeilingKernel$Job" 90 ⟨"CeilingKernel$Job", "enter", "(I)V"⟩ ∈ mj_G := mj_Gin 680 (by decide +kernel) rfl
theorem mjl_7_34 : ∃ host, Cond.methodLinkNest "CeilingKernel$Journal" 34 ⟨"CeilingKernel", "isBelow", "(II)Z"⟩ host ∈ mj_bad := ⟨"CeilingKernel", by decide +kernel⟩
theorem mjl_5_23 : ∃ host, Cond.methodLinkNest "CeilingKernel$Machine" 23 ⟨"CeilingKernel$Journal", "<init>", "()V"⟩ host ∈ mj_bad := ⟨"CeilingKernel", by decide +kernel⟩
theorem mjl_5_38 : Cond.methodLink "CeilingKernel$Machine" 38 ⟨"CeilingKernel$Post", "<init>", "(LCeilingKernel$Task;)V"⟩ ∈ mj_G := mj_Gin 184 (by decide +kernel) rfl
theorem mjl_5_41 : ∃ host, Cond.methodLinkNest "CeilingKernel$Machine" 41 ⟨"CeilingKernel$Mailbox", "<init>", "()V"⟩ host ∈ mj_bad := ⟨"CeilingKernel", by decide +kernel⟩
theorem mjl_5_74 : Cond.methodLink "CeilingKernel$Machine" 74 ⟨"java/util/Arrays", "fill", "([II)V"⟩ ∈ mj_G := mj_Gin 537 (by decide +kernel) rfl
theorem mjl_5_80 : Cond.methodLink "CeilingKernel$Machine" 80 ⟨"CeilingKernel$Mailbox", "clear", "()V"⟩ ∈ mj_G := mj_Gin 538 (by decide +kernel) rfl
theorem mjl_5_83 : Cond.methodLink "CeilingKernel$Machine" 83 ⟨"CeilingKernel$Post", "reset", "()V"⟩ ∈ mj_G := mj_Gin 542 (by decide +kernel) rfl
theorem mjl_5_86 : Cond.methodLink "CeilingKernel$Machine" 86 ⟨"CeilingKernel$Machine", "makeReleases", "()V"⟩ ∈ mj_G := mj_Gin 579 (by decide +kernel) rfl
theorem mjl_5_89 : Cond.methodLink "CeilingKernel$Machine" 89 ⟨"CeilingKernel$Machine", "chooseTask", "()I"⟩ ∈ mj_G := mj_Gin 604 (by decide +kernel) rfl
theorem mjl_5_93 : Cond.methodLink "CeilingKernel$Machine" 93 ⟨"CeilingKernel$Machine", "giveCycle", "(I)V"⟩ ∈ mj_G := mj_Gin 612 (by decide +kernel) rfl
theorem mjl_5_97 : Cond.methodLink "CeilingKernel$Machine" 97 ⟨"CeilingKernel$Post", "isDue", "(I)Z"⟩ ∈ mj_G := mj_Gin 583 (by decide +kernel) rfl
theorem mjl_5_101 : Cond.methodLink "CeilingKernel$Machine" 101 ⟨"CeilingKernel$Post", "passRelease", "(I)V"⟩ ∈ mj_G := mj_Gin 587 (by decide +kernel) rfl
theorem mjl_5_108 : Cond.methodLink "CeilingKernel$Machine" 108 ⟨"CeilingKernel$Machine", "makeRelease", "(ILCeilingKernel$Job;)V"⟩ ∈ mj_G := mj_Gin 591 (by decide +kernel) rfl
theorem mjl_5_120 : Cond.methodLink "CeilingKernel$Machine" 120 ⟨"CeilingKernel$Journal", "add", "(IIII)V"⟩ ∈ mj_G := mj_Gin 595 (by decide +kernel) rfl
theorem mjl_5_124 : Cond.methodLink "CeilingKernel$Machine" 124 ⟨"CeilingKernel$Job", "release", "(II)V"⟩ ∈ mj_G := mj_Gin 599 (by decide +kernel) rfl
theorem mjl_5_128 : Cond.methodLink "CeilingKernel$Machine" 128 ⟨"CeilingKernel$Job", "goesBefore", "(LCeilingKernel$Job;)Z"⟩ ∈ mj_G := mj_Gin 608 (by decide +kernel) rfl
theorem mjl_5_138 : Cond.methodLink "CeilingKernel$Machine" 138 ⟨"CeilingKernel$Job", "spendCycle", "()Z"⟩ ∈ mj_G := mj_Gin 616 (by decide +kernel) rfl
theorem mjl_5_142 : Cond.methodLink "CeilingKernel$Machine" 142 ⟨"CeilingKernel$Machine", "finishInstruction", "(ILCeilingKernel$Job;)V"⟩ ∈ mj_G := mj_Gin 621 (by decide +kernel) rfl
theorem mjl_5_145 : Cond.methodLink "CeilingKernel$Machine" 145 ⟨"CeilingKernel$Machine", "perform", "(ILCeilingKernel$Job;)V"⟩ ∈ mj_G := mj_Gin 625 (by decide +kernel) rfl
theorem mjl_5_151 : Cond.methodLink "CeilingKernel$Machine" 151 ⟨"CeilingKernel$Machine", "endJob", "(II)V"⟩ ∈ mj_G := mj_Gin 684 (by decide +kernel) rfl
theorem mjl_5_154 : Cond.methodLink "CeilingKernel$Machine" 154 ⟨"CeilingKernel$Job", "isThrough", "()Z"⟩ ∈ mj_G := mj_Gin 689 (by decide +kernel) rfl
theorem mjl_5_157 : Cond.methodLink "CeilingKernel$Machine" 157 ⟨"CeilingKernel$Job", "routine", "()LCeilingKernel$Routine;"⟩ ∈ mj_G := mj_Gin 629 (by decide +kernel) rfl
theorem mjl_5_161 : Cond.methodLink "CeilingKernel$Machine" 161 ⟨"CeilingKernel$Job", "spot", "()I"⟩ ∈ mj_G := mj_Gin 633 (by decide +kernel) rfl
theorem mjl_5_172 : Cond.methodLink "CeilingKernel$Machine" 172 ⟨"CeilingKernel$Job", "stepBehind", "()V"⟩ ∈ mj_G := mj_Gin 637 (by decide +kernel) rfl
theorem mjl_5_187 : Cond.methodLink "CeilingKernel$Machine" 187 ⟨"CeilingKernel$Machine", "hold", "(ILCeilingKernel$Job;I)V"⟩ ∈ mj_G := mj_Gin 641 (by decide +kernel) rfl
theorem mjl_5_191 : Cond.methodLink "CeilingKernel$Machine" 191 ⟨"CeilingKernel$Routine", "openerY", "(I)I"⟩ ∈ mj_G := mj_Gin 652 (by decide +kernel) rfl
theorem mjl_5_195 : Cond.methodLink "CeilingKernel$Machine" 195 ⟨"CeilingKernel$Mailbox", "put", "(I)Z"⟩ ∈ mj_G := mj_Gin 653 (by decide +kernel) rfl
theorem mjl_5_198 : Cond.methodLink "CeilingKernel$Machine" 198 ⟨"CeilingKernel$Machine", "receive", "(LCeilingKernel$Mailbox;[II)V"⟩ ∈ mj_G := mj_Gin 657 (by decide +kernel) rfl
theorem mjl_5_202 : Cond.methodLink "CeilingKernel$Machine" 202 ⟨"CeilingKernel$Job", "compute", "(IIII)V"⟩ ∈ mj_G := mj_Gin 668 (by decide +kernel) rfl
theorem mjl_5_205 : Cond.methodLink "CeilingKernel$Machine" 205 ⟨"CeilingKernel$Figures", "activeNumber", "(II)I"⟩ ∈ mj_G := mj_Gin 645 (by decide +kernel) rfl
theorem mjl_5_214 : Cond.methodLink "CeilingKernel$Machine" 214 ⟨"CeilingKernel$Mailbox", "isEmpty", "()Z"⟩ ∈ mj_G := mj_Gin 660 (by decide +kernel) rfl
theorem mjl_5_217 : Cond.methodLink "CeilingKernel$Machine" 217 ⟨"CeilingKernel$Mailbox", "take", "()I"⟩ ∈ mj_G := mj_Gin 664 (by decide +kernel) rfl
theorem mjl_8_27 : Cond.methodLink "CeilingKernel$Post" 27 ⟨"CeilingKernel$Job", "<init>", "([LCeilingKernel$Routine;)V"⟩ ∈ mj_G := mj_Gin 190 (by decide +kernel) rfl
theorem mjl_8_38 : Cond.methodLink "CeilingKernel$Post" 38 ⟨"java/util/Arrays", "fill", "([II)V"⟩ ∈ mj_G := mj_Gin 546 (by decide +kernel) rfl
theorem mjl_8_48 : Cond.methodLink "CeilingKernel$Post" 48 ⟨"CeilingKernel$Task", "isPeriodic", "()Z"⟩ ∈ mj_G := mj_Gin 547 (by decide +kernel) rfl
theorem mjl_3_17 : ∃ host, Cond.methodLinkNest "CeilingKernel$Task" 17 ⟨"CeilingKernel$Routine", "<init>", "()V"⟩ host ∈ mj_bad := ⟨"CeilingKernel", by decide +kernel⟩
theorem mjl_11_9 : Cond.methodLink "CeilingKernelLaw" 9 ⟨"CeilingKernel", "<init>", "()V"⟩ ∈ mj_G := mj_Gin 16 (by decide +kernel) rfl
theorem mjl_11_12 : Cond.methodLink "CeilingKernelLaw" 12 ⟨"CeilingKernelModel", "<init>", "()V"⟩ ∈ mj_G := mj_Gin 729 (by decide +kernel) rfl
theorem mjl_11_13 : Cond.methodLink "CeilingKernelLaw" 13 ⟨"CeilingKernel", "task", "(III)I"⟩ ∈ mj_G := mj_Gin 354 (by decide +kernel) rfl
theorem mjl_11_17 : Cond.methodLink "CeilingKernelLaw" 17 ⟨"CeilingKernelModel", "task", "(III)I"⟩ ∈ mj_G := mj_Gin 897 (by decide +kernel) rfl
theorem mjl_11_18 : Cond.methodLink "CeilingKernelLaw" 18 ⟨"CeilingKernel", "code", "(IIIII)Z"⟩ ∈ mj_G := mj_Gin 365 (by decide +kernel) rfl
theorem mjl_11_22 : Cond.methodLink "CeilingKernelLaw" 22 ⟨"CeilingKernelModel", "code", "(IIIII)Z"⟩ ∈ mj_G := mj_Gin 904 (by decide +kernel) rfl
theorem mjl_11_23 : Cond.methodLink "CeilingKernelLaw" 23 ⟨"CeilingKernel", "wipe", "(I)Z"⟩ ∈ mj_G := mj_Gin 391 (by decide +kernel) rfl
theorem mjl_11_27 : Cond.methodLink "CeilingKernelLaw" 27 ⟨"CeilingKernelModel", "wipe", "(I)Z"⟩ ∈ mj_G := mj_Gin 915 (by decide +kernel) rfl
theorem mjl_11_28 : Cond.methodLink "CeilingKernelLaw" 28 ⟨"CeilingKernel", "admit", "()I"⟩ ∈ mj_G := mj_Gin 399 (by decide +kernel) rfl
theorem mjl_11_32 : Cond.methodLink "CeilingKernelLaw" 32 ⟨"CeilingKernelModel", "admit", "()I"⟩ ∈ mj_G := mj_Gin 919 (by decide +kernel) rfl
theorem mjl_11_33 : Cond.methodLink "CeilingKernelLaw" 33 ⟨"CeilingKernel", "place", "()I"⟩ ∈ mj_G := mj_Gin 501 (by decide +kernel) rfl
theorem mjl_11_36 : Cond.methodLink "CeilingKernelLaw" 36 ⟨"CeilingKernelModel", "place", "()I"⟩ ∈ mj_G := mj_Gin 975 (by decide +kernel) rfl
theorem mjl_11_37 : Cond.methodLink "CeilingKernelLaw" 37 ⟨"CeilingKernel", "wcet", "(I)I"⟩ ∈ mj_G := mj_Gin 505 (by decide +kernel) rfl
theorem mjl_11_41 : Cond.methodLink "CeilingKernelLaw" 41 ⟨"CeilingKernelModel", "wcet", "(I)I"⟩ ∈ mj_G := mj_Gin 979 (by decide +kernel) rfl
theorem mjl_11_42 : Cond.methodLink "CeilingKernelLaw" 42 ⟨"CeilingKernel", "section", "(II)I"⟩ ∈ mj_G := mj_Gin 513 (by decide +kernel) rfl
theorem mjl_11_46 : Cond.methodLink "CeilingKernelLaw" 46 ⟨"CeilingKernelModel", "section", "(II)I"⟩ ∈ mj_G := mj_Gin 983 (by decide +kernel) rfl
theorem mjl_11_47 : Cond.methodLink "CeilingKernelLaw" 47 ⟨"CeilingKernel", "blocking", "(I)I"⟩ ∈ mj_G := mj_Gin 517 (by decide +kernel) rfl
theorem mjl_11_50 : Cond.methodLink "CeilingKernelLaw" 50 ⟨"CeilingKernelModel", "blocking", "(I)I"⟩ ∈ mj_G := mj_Gin 987 (by decide +kernel) rfl
theorem mjl_11_51 : Cond.methodLink "CeilingKernelLaw" 51 ⟨"CeilingKernel", "response", "(I)I"⟩ ∈ mj_G := mj_Gin 521 (by decide +kernel) rfl
theorem mjl_11_54 : Cond.methodLink "CeilingKernelLaw" 54 ⟨"CeilingKernelModel", "response", "(I)I"⟩ ∈ mj_G := mj_Gin 991 (by decide +kernel) rfl
theorem mjl_11_55 : Cond.methodLink "CeilingKernelLaw" 55 ⟨"CeilingKernel", "ceiling", "(I)I"⟩ ∈ mj_G := mj_Gin 525 (by decide +kernel) rfl
theorem mjl_11_58 : Cond.methodLink "CeilingKernelLaw" 58 ⟨"CeilingKernelModel", "ceiling", "(I)I"⟩ ∈ mj_G := mj_Gin 995 (by decide +kernel) rfl
theorem mjl_11_59 : Cond.methodLink "CeilingKernelLaw" 59 ⟨"CeilingKernel", "start", "()Z"⟩ ∈ mj_G := mj_Gin 529 (by decide +kernel) rfl
theorem mjl_11_63 : Cond.methodLink "CeilingKernelLaw" 63 ⟨"CeilingKernelModel", "start", "()Z"⟩ ∈ mj_G := mj_Gin 999 (by decide +kernel) rfl
theorem mjl_11_64 : Cond.methodLink "CeilingKernelLaw" 64 ⟨"CeilingKernel", "halt", "()Z"⟩ ∈ mj_G := mj_Gin 551 (by decide +kernel) rfl
theorem mjl_11_67 : Cond.methodLink "CeilingKernelLaw" 67 ⟨"CeilingKernelModel", "halt", "()Z"⟩ ∈ mj_G := mj_Gin 1003 (by decide +kernel) rfl
theorem mjl_11_68 : Cond.methodLink "CeilingKernelLaw" 68 ⟨"CeilingKernel", "signal", "(I)Z"⟩ ∈ mj_G := mj_Gin 555 (by decide +kernel) rfl
theorem mjl_11_71 : Cond.methodLink "CeilingKernelLaw" 71 ⟨"CeilingKernelModel", "signal", "(I)Z"⟩ ∈ mj_G := mj_Gin 1007 (by decide +kernel) rfl
theorem mjl_11_72 : Cond.methodLink "CeilingKernelLaw" 72 ⟨"CeilingKernel", "input", "(II)Z"⟩ ∈ mj_G := mj_Gin 567 (by decide +kernel) rfl
theorem mjl_11_76 : Cond.methodLink "CeilingKernelLaw" 76 ⟨"CeilingKernelModel", "input", "(II)Z"⟩ ∈ mj_G := mj_Gin 1011 (by decide +kernel) rfl
theorem mjl_11_77 : Cond.methodLink "CeilingKernelLaw" 77 ⟨"CeilingKernel", "run", "(I)I"⟩ ∈ mj_G := mj_Gin 571 (by decide +kernel) rfl
theorem mjl_11_80 : Cond.methodLink "CeilingKernelLaw" 80 ⟨"CeilingKernelModel", "run", "(I)I"⟩ ∈ mj_G := mj_Gin 1015 (by decide +kernel) rfl
theorem mjl_11_81 : Cond.methodLink "CeilingKernelLaw" 81 ⟨"CeilingKernel", "state", "(I)I"⟩ ∈ mj_G := mj_Gin 693 (by decide +kernel) rfl
theorem mjl_11_84 : Cond.methodLink "CeilingKernelLaw" 84 ⟨"CeilingKernelModel", "state", "(I)I"⟩ ∈ mj_G := mj_Gin 1059 (by decide +kernel) rfl
theorem mjl_11_85 : Cond.methodLink "CeilingKernelLaw" 85 ⟨"CeilingKernel", "job", "(II)I"⟩ ∈ mj_G := mj_Gin 701 (by decide +kernel) rfl
theorem mjl_11_88 : Cond.methodLink "CeilingKernelLaw" 88 ⟨"CeilingKernelModel", "job", "(II)I"⟩ ∈ mj_G := mj_Gin 1063 (by decide +kernel) rfl
theorem mjl_11_89 : Cond.methodLink "CeilingKernelLaw" 89 ⟨"CeilingKernel", "worst", "(I)I"⟩ ∈ mj_G := mj_Gin 709 (by decide +kernel) rfl
theorem mjl_11_92 : Cond.methodLink "CeilingKernelLaw" 92 ⟨"CeilingKernelModel", "worst", "(I)I"⟩ ∈ mj_G := mj_Gin 1067 (by decide +kernel) rfl
theorem mjl_11_93 : Cond.methodLink "CeilingKernelLaw" 93 ⟨"CeilingKernel", "word", "(II)I"⟩ ∈ mj_G := mj_Gin 713 (by decide +kernel) rfl
theorem mjl_11_96 : Cond.methodLink "CeilingKernelLaw" 96 ⟨"CeilingKernelModel", "word", "(II)I"⟩ ∈ mj_G := mj_Gin 1071 (by decide +kernel) rfl
theorem mjl_11_97 : Cond.methodLink "CeilingKernelLaw" 97 ⟨"CeilingKernel", "entry", "(II)I"⟩ ∈ mj_G := mj_Gin 717 (by decide +kernel) rfl
theorem mjl_11_100 : Cond.methodLink "CeilingKernelLaw" 100 ⟨"CeilingKernelModel", "entry", "(II)I"⟩ ∈ mj_G := mj_Gin 1075 (by decide +kernel) rfl
theorem mjl_10_145 : Cond.methodLink "CeilingKernelModel" 145 ⟨"CeilingKernelModel", "in", "(III)Z"⟩ ∈ mj_G := mj_Gin 901 (by decide +kernel) rfl
theorem mjl_10_152 : Cond.methodLink "CeilingKernelModel" 152 ⟨"CeilingKernelModel", "isTask", "(I)Z"⟩ ∈ mj_G := mj_Gin 908 (by decide +kernel) rfl
theorem mjl_10_156 : Cond.methodLink "CeilingKernelModel" 156 ⟨"CeilingKernelModel", "named", "(III)Z"⟩ ∈ mj_G := mj_Gin 912 (by decide +kernel) rfl
theorem mjl_10_162 : Cond.methodLink "CeilingKernelModel" 162 ⟨"CeilingKernelModel", "turn", "(I)I"⟩ ∈ mj_G := mj_Gin 947 (by decide +kernel) rfl
theorem mjl_10_166 : Cond.methodLink "CeilingKernelModel" 166 ⟨"CeilingKernelModel", "openLoops", "()I"⟩ ∈ mj_G := mj_Gin 931 (by decide +kernel) rfl
theorem mjl_10_170 : Cond.methodLink "CeilingKernelModel" 170 ⟨"CeilingKernelModel", "may", "(II)I"⟩ ∈ mj_G := mj_Gin 935 (by decide +kernel) rfl
theorem mjl_10_174 : Cond.methodLink "CeilingKernelModel" 174 ⟨"CeilingKernelModel", "openLocks", "()I"⟩ ∈ mj_G := mj_Gin 939 (by decide +kernel) rfl
theorem mjl_10_177 : Cond.methodLink "CeilingKernelModel" 177 ⟨"CeilingKernelModel", "leads", "(III)Z"⟩ ∈ mj_G := mj_Gin 943 (by decide +kernel) rfl
theorem mjl_10_180 : Cond.methodLink "CeilingKernelModel" 180 ⟨"CeilingKernelModel", "meets", "(III)I"⟩ ∈ mj_G := mj_Gin 927 (by decide +kernel) rfl
theorem mjl_10_184 : Cond.methodLink "CeilingKernelModel" 184 ⟨"CeilingKernelModel", "bracket", "(IZ)V"⟩ ∈ mj_G := mj_Gin 950 (by decide +kernel) rfl
theorem mjl_10_188 : Cond.methodLink "CeilingKernelModel" 188 ⟨"CeilingKernelModel", "longest", "(III)I"⟩ ∈ mj_G := mj_Gin 958 (by decide +kernel) rfl
theorem mjl_10_193 : Cond.methodLink "CeilingKernelModel" 193 ⟨"CeilingKernelModel", "reason", "(I)I"⟩ ∈ mj_G := mj_Gin 923 (by decide +kernel) rfl
theorem mjl_10_196 : Cond.methodLink "CeilingKernelModel" 196 ⟨"CeilingKernelModel", "weigh", "(I)V"⟩ ∈ mj_G := mj_Gin 954 (by decide +kernel) rfl
theorem mjl_10_200 : Cond.methodLink "CeilingKernelModel" 200 ⟨"CeilingKernelModel", "highest", "(I)I"⟩ ∈ mj_G := mj_Gin 962 (by decide +kernel) rfl
theorem mjl_10_203 : Cond.methodLink "CeilingKernelModel" 203 ⟨"CeilingKernelModel", "delay", "(I)I"⟩ ∈ mj_G := mj_Gin 966 (by decide +kernel) rfl
theorem mjl_10_206 : Cond.methodLink "CeilingKernelModel" 206 ⟨"CeilingKernelModel", "tried", "(I)I"⟩ ∈ mj_G := mj_Gin 970 (by decide +kernel) rfl
theorem mjl_10_233 : Cond.methodLink "CeilingKernelModel" 233 ⟨"CeilingKernelModel", "enter", "(III)V"⟩ ∈ mj_G := mj_Gin 1027 (by decide +kernel) rfl
theorem mjl_10_237 : Cond.methodLink "CeilingKernelModel" 237 ⟨"CeilingKernelModel", "active", "(I)I"⟩ ∈ mj_G := mj_Gin 1035 (by decide +kernel) rfl
theorem mjl_10_240 : Cond.methodLink "CeilingKernelModel" 240 ⟨"CeilingKernelModel", "release", "(I)V"⟩ ∈ mj_G := mj_Gin 1023 (by decide +kernel) rfl
theorem mjl_10_243 : Cond.methodLink "CeilingKernelModel" 243 ⟨"CeilingKernelModel", "chosen", "()I"⟩ ∈ mj_G := mj_Gin 1031 (by decide +kernel) rfl
theorem mjl_10_246 : Cond.methodLink "CeilingKernelModel" 246 ⟨"CeilingKernelModel", "perform", "(II)V"⟩ ∈ mj_G := mj_Gin 1039 (by decide +kernel) rfl
theorem mjl_10_250 : Cond.methodLink "CeilingKernelModel" 250 ⟨"CeilingKernelModel", "end", "(II)V"⟩ ∈ mj_G := mj_Gin 1043 (by decide +kernel) rfl
theorem mjl_10_253 : Cond.methodLink "CeilingKernelModel" 253 ⟨"CeilingKernelModel", "move", "(IIII)V"⟩ ∈ mj_G := mj_Gin 1047 (by decide +kernel) rfl
theorem mjl_10_257 : Cond.methodLink "CeilingKernelModel" 257 ⟨"CeilingKernelModel", "post", "(IIII)V"⟩ ∈ mj_G := mj_Gin 1051 (by decide +kernel) rfl
theorem mjl_10_260 : Cond.methodLink "CeilingKernelModel" 260 ⟨"CeilingKernelModel", "jump", "(IIII)V"⟩ ∈ mj_G := mj_Gin 1055 (by decide +kernel) rfl
theorem mjl_10_263 : Cond.methodLink "CeilingKernelModel" 263 ⟨"CeilingKernelModel", "cycle", "()V"⟩ ∈ mj_G := mj_Gin 1019 (by decide +kernel) rfl
theorem mjK_0 : mj_cal 0 0 0 := ⟨by decide, mj_Gin 18 (by decide +kernel) rfl, mj_Gin 1 (by decide +kernel) rfl, ⟨by decide +kernel, by decide +kernel, by decide +kernel⟩, fun _ => ⟨rfl, mj_Gin 17 (by decide +kernel) rfl, rfl⟩, fun h => absurd h (by decide), fun h => absurd h (by decide)⟩
theorem mjK_1 : mj_cal 0 1 0 := ⟨by decide, mj_Gin 28 (by decide +kernel) rfl, mj_Gin 2 (by decide +kernel) rfl, ⟨by decide +kernel, by decide +kernel, by decide +kernel⟩, fun _ => ⟨rfl, mj_Gin 27 (by decide +kernel) rfl, rfl⟩, fun h => absurd h (by decide), fun h => absurd h (by decide)⟩
theorem mjK_2 : mj_cal 0 2 0 := ⟨by decide, mj_Gin 52 (by decide +kernel) rfl, mj_Gin 3 (by decide +kernel) rfl, ⟨by decide +kernel, by decide +kernel, by decide +kernel⟩, fun _ => ⟨rfl, mj_Gin 51 (by decide +kernel) rfl, rfl⟩, fun h => absurd h (by decide), fun h => absurd h (by decide)⟩
theorem mjK_3 : mj_cal 0 3 0 := ⟨by decide, mj_Gin 84 (by decide +kernel) rfl, mj_Gin 4 (by decide +kernel) rfl, ⟨by decide +kernel, by decide +kernel, by decide +kernel⟩, fun _ => ⟨rfl, mj_Gin 83 (by decide +kernel) rfl, rfl⟩, fun h => absurd h (by decide), fun h => absurd h (by decide)⟩
theorem mjK_4 : mj_cal 0 4 0 := ⟨by decide, mj_Gin 91 (by decide +kernel) rfl, mj_Gin 5 (by decide +kernel) rfl, ⟨by decide +kernel, by decide +kernel, by decide +kernel⟩, fun _ => ⟨rfl, mj_Gin 90 (by decide +kernel) rfl, rfl⟩, fun h => absurd h (by decide), fun h => absurd h (by decide)⟩
theorem mjK_5 : mj_cal 0 5 2 := ⟨by decide, mj_Gin 154 (by decide +kernel) rfl, mj_Gin 6 (by decide +kernel) rfl, ⟨by decide +kernel, by decide +kernel, by decide +kernel⟩, fun _ => ⟨rfl, mj_Gin 153 (by decide +kernel) rfl, rfl⟩, fun h => absurd h (by decide), fun h => absurd h (by decide)⟩
theorem mjK_6 : mj_cal 0 6 0 := ⟨by decide, mj_Gin 162 (by decide +kernel) rfl, mj_Gin 7 (by decide +kernel) rfl, ⟨by decide +kernel, by decide +kernel, by decide +kernel⟩, fun _ => ⟨rfl, mj_Gin 161 (by decide +kernel) rfl, rfl⟩, fun h => absurd h (by decide), fun h => absurd h (by decide)⟩
theorem mjK_7 : mj_cal 0 7 1 := ⟨by decide, mj_Gin 186 (by decide +kernel) rfl, mj_Gin 8 (by decide +kernel) rfl, ⟨by decide +kernel, by decide +kernel, by decide +kernel⟩, fun _ => ⟨rfl, mj_Gin 185 (by decide +kernel) rfl, rfl⟩, fun h => absurd h (by decide), fun h => absurd h (by decide)⟩
theorem mjK_8 : mj_cal 0 8 1 := ⟨by decide, mj_Gin 192 (by decide +kernel) rfl, mj_Gin 9 (by decide +kernel) rfl, ⟨by decide +kernel, by decide +kernel, by decide +kernel⟩, fun _ => ⟨rfl, mj_Gin 191 (by decide +kernel) rfl, rfl⟩, fun h => absurd h (by decide), fun h => absurd h (by decide)⟩
theorem mjK_9 : mj_cal 0 9 0 := ⟨by decide, mj_Gin 282 (by decide +kernel) rfl, mj_Gin 10 (by decide +kernel) rfl, ⟨by decide +kernel, by decide +kernel, by decide +kernel⟩, fun _ => ⟨rfl, mj_Gin 281 (by decide +kernel) rfl, rfl⟩, fun h => absurd h (by decide), fun h => absurd h (by decide)⟩
theorem mjK_10 : mj_cal 1 10 3 := ⟨by decide, mj_Gin 357 (by decide +kernel) rfl, mj_Gin 1 (by decide +kernel) rfl, ⟨by decide +kernel, by decide +kernel, by decide +kernel⟩, fun h => absurd h (by decide), fun _ => ⟨mj_Gin 355 (by decide +kernel) rfl, mj_Gin 356 (by decide +kernel) rfl, by decide, _, rfl, rfl⟩, fun h => absurd h (by decide)⟩
theorem mjK_11 : mj_cal 2 11 3 := ⟨by decide, mj_Gin 360 (by decide +kernel) rfl, mj_Gin 1 (by decide +kernel) rfl, ⟨by decide +kernel, by decide +kernel, by decide +kernel⟩, fun h => absurd h (by decide), fun h => absurd h (by decide), fun _ => mj_Gin 359 (by decide +kernel) rfl⟩
theorem mjK_12 : mj_cal 1 12 3 := ⟨by decide, mj_Gin 364 (by decide +kernel) rfl, mj_Gin 4 (by decide +kernel) rfl, ⟨by decide +kernel, by decide +kernel, by decide +kernel⟩, fun h => absurd h (by decide), fun _ => ⟨mj_Gin 362 (by decide +kernel) rfl, mj_Gin 363 (by decide +kernel) rfl, by decide, _, rfl, rfl⟩, fun h => absurd h (by decide)⟩
theorem mjK_13 : mj_cal 1 13 5 := ⟨by decide, mj_Gin 368 (by decide +kernel) rfl, mj_Gin 1 (by decide +kernel) rfl, ⟨by decide +kernel, by decide +kernel, by decide +kernel⟩, fun h => absurd h (by decide), fun _ => ⟨mj_Gin 366 (by decide +kernel) rfl, mj_Gin 367 (by decide +kernel) rfl, by decide, _, rfl, rfl⟩, fun h => absurd h (by decide)⟩
theorem mjK_14 : mj_cal 1 14 1 := ⟨by decide, mj_Gin 372 (by decide +kernel) rfl, mj_Gin 1 (by decide +kernel) rfl, ⟨by decide +kernel, by decide +kernel, by decide +kernel⟩, fun h => absurd h (by decide), fun _ => ⟨mj_Gin 371 (by decide +kernel) rfl, mj_Gsel 0 (by decide +kernel) rfl, by decide, _, rfl, rfl⟩, fun h => absurd h (by decide)⟩
theorem mjK_15 : mj_cal 2 15 2 := ⟨by decide, mj_Gin 375 (by decide +kernel) rfl, mj_Gin 1 (by decide +kernel) rfl, ⟨by decide +kernel, by decide +kernel, by decide +kernel⟩, fun h => absurd h (by decide), fun h => absurd h (by decide), fun _ => mj_Gin 374 (by decide +kernel) rfl⟩
theorem mjK_16 : mj_cal 2 16 3 := ⟨by decide, mj_Gin 378 (by decide +kernel) rfl, mj_Gin 1 (by decide +kernel) rfl, ⟨by decide +kernel, by decide +kernel, by decide +kernel⟩, fun h => absurd h (by decide), fun h => absurd h (by decide), fun _ => mj_Gin 377 (by decide +kernel) rfl⟩
theorem mjK_17 : mj_cal 1 17 3 := ⟨by decide, mj_Gin 390 (by decide +kernel) rfl, mj_Gin 5 (by decide +kernel) rfl, ⟨by decide +kernel, by decide +kernel, by decide +kernel⟩, fun h => absurd h (by decide), fun _ => ⟨mj_Gin 388 (by decide +kernel) rfl, mj_Gin 389 (by decide +kernel) rfl, by decide, _, rfl, rfl⟩, fun h => absurd h (by decide)⟩
theorem mjK_18 : mj_cal 1 18 1 := ⟨by decide, mj_Gin 394 (by decide +kernel) rfl, mj_Gin 1 (by decide +kernel) rfl, ⟨by decide +kernel, by decide +kernel, by decide +kernel⟩, fun h => absurd h (by decide), fun _ => ⟨mj_Gin 392 (by decide +kernel) rfl, mj_Gin 393 (by decide +kernel) rfl, by decide, _, rfl, rfl⟩, fun h => absurd h (by decide)⟩
theorem mjK_19 : mj_cal 1 19 0 := ⟨by decide, mj_Gin 398 (by decide +kernel) rfl, mj_Gin 4 (by decide +kernel) rfl, ⟨by decide +kernel, by decide +kernel, by decide +kernel⟩, fun h => absurd h (by decide), fun _ => ⟨mj_Gin 396 (by decide +kernel) rfl, mj_Gin 397 (by decide +kernel) rfl, by decide, _, rfl, rfl⟩, fun h => absurd h (by decide)⟩
theorem mjK_20 : mj_cal 1 20 0 := ⟨by decide, mj_Gin 402 (by decide +kernel) rfl, mj_Gin 1 (by decide +kernel) rfl, ⟨by decide +kernel, by decide +kernel, by decide +kernel⟩, fun h => absurd h (by decide), fun _ => ⟨mj_Gin 400 (by decide +kernel) rfl, mj_Gin 401 (by decide +kernel) rfl, by decide, _, rfl, rfl⟩, fun h => absurd h (by decide)⟩
theorem mjK_21 : mj_cal 1 21 1 := ⟨by decide, mj_Gin 406 (by decide +kernel) rfl, mj_Gin 2 (by decide +kernel) rfl, ⟨by decide +kernel, by decide +kernel, by decide +kernel⟩, fun h => absurd h (by decide), fun _ => ⟨mj_Gin 404 (by decide +kernel) rfl, mj_Gin 405 (by decide +kernel) rfl, by decide, _, rfl, rfl⟩, fun h => absurd h (by decide)⟩
theorem mjK_22 : mj_cal 1 22 1 := ⟨by decide, mj_Gin 410 (by decide +kernel) rfl, mj_Gin 2 (by decide +kernel) rfl, ⟨by decide +kernel, by decide +kernel, by decide +kernel⟩, fun h => absurd h (by decide), fun _ => ⟨mj_Gin 409 (by decide +kernel) rfl, mj_Gsel 1 (by decide +kernel) rfl, by decide, _, rfl, rfl⟩, fun h => absurd h (by decide)⟩
theorem mjK_23 : mj_cal 1 23 2 := ⟨by decide, mj_Gin 414 (by decide +kernel) rfl, mj_Gin 2 (by decide +kernel) rfl, ⟨by decide +kernel, by decide +kernel, by decide +kernel⟩, fun h => absurd h (by decide), fun _ => ⟨mj_Gin 413 (by decide +kernel) rfl, mj_Gsel 2 (by decide +kernel) rfl, by decide, _, rfl, rfl⟩, fun h => absurd h (by decide)⟩
theorem mjK_24 : mj_cal 1 24 3 := ⟨by decide, mj_Gin 418 (by decide +kernel) rfl, mj_Gin 2 (by decide +kernel) rfl, ⟨by decide +kernel, by decide +kernel, by decide +kernel⟩, fun h => absurd h (by decide), fun _ => ⟨mj_Gin 417 (by decide +kernel) rfl, mj_Gsel 3 (by decide +kernel) rfl, by decide, _, rfl, rfl⟩, fun h => absurd h (by decide)⟩
theorem mjK_25 : mj_cal 1 25 3 := ⟨by decide, mj_Gin 422 (by decide +kernel) rfl, mj_Gin 2 (by decide +kernel) rfl, ⟨by decide +kernel, by decide +kernel, by decide +kernel⟩, fun h => absurd h (by decide), fun _ => ⟨mj_Gin 421 (by decide +kernel) rfl, mj_Gsel 4 (by decide +kernel) rfl, by decide, _, rfl, rfl⟩, fun h => absurd h (by decide)⟩
theorem mjK_26 : mj_cal 1 26 1 := ⟨by decide, mj_Gin 426 (by decide +kernel) rfl, mj_Gin 2 (by decide +kernel) rfl, ⟨by decide +kernel, by decide +kernel, by decide +kernel⟩, fun h => absurd h (by decide), fun _ => ⟨mj_Gin 425 (by decide +kernel) rfl, mj_Gsel 5 (by decide +kernel) rfl, by decide, _, rfl, rfl⟩, fun h => absurd h (by decide)⟩
theorem mjK_27 : mj_cal 1 27 1 := ⟨by decide, mj_Gin 430 (by decide +kernel) rfl, mj_Gin 2 (by decide +kernel) rfl, ⟨by decide +kernel, by decide +kernel, by decide +kernel⟩, fun h => absurd h (by decide), fun _ => ⟨mj_Gin 429 (by decide +kernel) rfl, mj_Gsel 6 (by decide +kernel) rfl, by decide, _, rfl, rfl⟩, fun h => absurd h (by decide)⟩
theorem mjK_28 : mj_cal 1 28 2 := ⟨by decide, mj_Gin 434 (by decide +kernel) rfl, mj_Gin 2 (by decide +kernel) rfl, ⟨by decide +kernel, by decide +kernel, by decide +kernel⟩, fun h => absurd h (by decide), fun _ => ⟨mj_Gin 433 (by decide +kernel) rfl, mj_Gsel 7 (by decide +kernel) rfl, by decide, _, rfl, rfl⟩, fun h => absurd h (by decide)⟩
theorem mjK_29 : mj_cal 1 29 3 := ⟨by decide, mj_Gin 438 (by decide +kernel) rfl, mj_Gin 2 (by decide +kernel) rfl, ⟨by decide +kernel, by decide +kernel, by decide +kernel⟩, fun h => absurd h (by decide), fun _ => ⟨mj_Gin 437 (by decide +kernel) rfl, mj_Gsel 8 (by decide +kernel) rfl, by decide, _, rfl, rfl⟩, fun h => absurd h (by decide)⟩
theorem mjK_30 : mj_cal 1 30 2 := ⟨by decide, mj_Gin 442 (by decide +kernel) rfl, mj_Gin 5 (by decide +kernel) rfl, ⟨by decide +kernel, by decide +kernel, by decide +kernel⟩, fun h => absurd h (by decide), fun _ => ⟨mj_Gin 440 (by decide +kernel) rfl, mj_Gin 441 (by decide +kernel) rfl, by decide, _, rfl, rfl⟩, fun h => absurd h (by decide)⟩
theorem mjK_31 : mj_cal 1 31 1 := ⟨by decide, mj_Gin 446 (by decide +kernel) rfl, mj_Gin 5 (by decide +kernel) rfl, ⟨by decide +kernel, by decide +kernel, by decide +kernel⟩, fun h => absurd h (by decide), fun _ => ⟨mj_Gin 444 (by decide +kernel) rfl, mj_Gin 445 (by decide +kernel) rfl, by decide, _, rfl, rfl⟩, fun h => absurd h (by decide)⟩
theorem mjK_32 : mj_cal 1 32 3 := ⟨by decide, mj_Gin 450 (by decide +kernel) rfl, mj_Gin 2 (by decide +kernel) rfl, ⟨by decide +kernel, by decide +kernel, by decide +kernel⟩, fun h => absurd h (by decide), fun _ => ⟨mj_Gin 449 (by decide +kernel) rfl, mj_Gsel 9 (by decide +kernel) rfl, by decide, _, rfl, rfl⟩, fun h => absurd h (by decide)⟩
theorem mjK_33 : mj_cal 1 33 2 := ⟨by decide, mj_Gin 454 (by decide +kernel) rfl, mj_Gin 2 (by decide +kernel) rfl, ⟨by decide +kernel, by decide +kernel, by decide +kernel⟩, fun h => absurd h (by decide), fun _ => ⟨mj_Gin 453 (by decide +kernel) rfl, mj_Gsel 10 (by decide +kernel) rfl, by decide, _, rfl, rfl⟩, fun h => absurd h (by decide)⟩
theorem mjK_34 : mj_cal 2 34 1 := ⟨by decide, mj_Gin 457 (by decide +kernel) rfl, mj_Gin 2 (by decide +kernel) rfl, ⟨by decide +kernel, by decide +kernel, by decide +kernel⟩, fun h => absurd h (by decide), fun h => absurd h (by decide), fun _ => mj_Gin 456 (by decide +kernel) rfl⟩
theorem mjK_35 : mj_cal 1 35 2 := ⟨by decide, mj_Gin 461 (by decide +kernel) rfl, mj_Gin 3 (by decide +kernel) rfl, ⟨by decide +kernel, by decide +kernel, by decide +kernel⟩, fun h => absurd h (by decide), fun _ => ⟨mj_Gin 459 (by decide +kernel) rfl, mj_Gin 460 (by decide +kernel) rfl, by decide, _, rfl, rfl⟩, fun h => absurd h (by decide)⟩
theorem mjK_36 : mj_cal 2 36 2 := ⟨by decide, mj_Gin 464 (by decide +kernel) rfl, mj_Gin 12 (by decide +kernel) rfl, ⟨by decide +kernel, by decide +kernel, by decide +kernel⟩, fun h => absurd h (by decide), fun h => absurd h (by decide), fun _ => mj_Gin 463 (by decide +kernel) rfl⟩
theorem mjK_37 : mj_cal 2 37 1 := ⟨by decide, mj_Gin 467 (by decide +kernel) rfl, mj_Gin 3 (by decide +kernel) rfl, ⟨by decide +kernel, by decide +kernel, by decide +kernel⟩, fun h => absurd h (by decide), fun h => absurd h (by decide), fun _ => mj_Gin 466 (by decide +kernel) rfl⟩
theorem mjK_38 : mj_cal 2 38 4 := ⟨by decide, mj_Gin 470 (by decide +kernel) rfl, mj_Gin 3 (by decide +kernel) rfl, ⟨by decide +kernel, by decide +kernel, by decide +kernel⟩, fun h => absurd h (by decide), fun h => absurd h (by decide), fun _ => mj_Gin 469 (by decide +kernel) rfl⟩
theorem mjK_39 : mj_cal 1 39 2 := ⟨by decide, mj_Gin 479 (by decide +kernel) rfl, mj_Gin 3 (by decide +kernel) rfl, ⟨by decide +kernel, by decide +kernel, by decide +kernel⟩, fun h => absurd h (by decide), fun _ => ⟨mj_Gin 478 (by decide +kernel) rfl, mj_Gsel 11 (by decide +kernel) rfl, by decide, _, rfl, rfl⟩, fun h => absurd h (by decide)⟩
theorem mjK_40 : mj_cal 1 40 3 := ⟨by decide, mj_Gin 483 (by decide +kernel) rfl, mj_Gin 3 (by decide +kernel) rfl, ⟨by decide +kernel, by decide +kernel, by decide +kernel⟩, fun h => absurd h (by decide), fun _ => ⟨mj_Gin 482 (by decide +kernel) rfl, mj_Gsel 12 (by decide +kernel) rfl, by decide, _, rfl, rfl⟩, fun h => absurd h (by decide)⟩
theorem mjK_41 : mj_cal 1 41 2 := ⟨by decide, mj_Gin 487 (by decide +kernel) rfl, mj_Gin 3 (by decide +kernel) rfl, ⟨by decide +kernel, by decide +kernel, by decide +kernel⟩, fun h => absurd h (by decide), fun _ => ⟨mj_Gin 486 (by decide +kernel) rfl, mj_Gsel 13 (by decide +kernel) rfl, by decide, _, rfl, rfl⟩, fun h => absurd h (by decide)⟩
theorem mjK_42 : mj_cal 1 42 2 := ⟨by decide, mj_Gin 492 (by decide +kernel) rfl, mj_Gin 3 (by decide +kernel) rfl, ⟨by decide +kernel, by decide +kernel, by decide +kernel⟩, fun h => absurd h (by decide), fun _ => ⟨mj_Gin 491 (by decide +kernel) rfl, mj_Gsel 14 (by decide +kernel) rfl, by decide, _, rfl, rfl⟩, fun h => absurd h (by decide)⟩
theorem mjK_43 : mj_cal 1 43 2 := ⟨by decide, mj_Gin 496 (by decide +kernel) rfl, mj_Gin 3 (by decide +kernel) rfl, ⟨by decide +kernel, by decide +kernel, by decide +kernel⟩, fun h => absurd h (by decide), fun _ => ⟨mj_Gin 495 (by decide +kernel) rfl, mj_Gsel 15 (by decide +kernel) rfl, by decide, _, rfl, rfl⟩, fun h => absurd h (by decide)⟩
theorem mjK_44 : mj_cal 1 44 3 := ⟨by decide, mj_Gin 500 (by decide +kernel) rfl, mj_Gin 3 (by decide +kernel) rfl, ⟨by decide +kernel, by decide +kernel, by decide +kernel⟩, fun h => absurd h (by decide), fun _ => ⟨mj_Gin 499 (by decide +kernel) rfl, mj_Gsel 16 (by decide +kernel) rfl, by decide, _, rfl, rfl⟩, fun h => absurd h (by decide)⟩
theorem mjK_45 : mj_cal 1 45 0 := ⟨by decide, mj_Gin 504 (by decide +kernel) rfl, mj_Gin 1 (by decide +kernel) rfl, ⟨by decide +kernel, by decide +kernel, by decide +kernel⟩, fun h => absurd h (by decide), fun _ => ⟨mj_Gin 502 (by decide +kernel) rfl, mj_Gin 503 (by decide +kernel) rfl, by decide, _, rfl, rfl⟩, fun h => absurd h (by decide)⟩
theorem mjK_46 : mj_cal 1 46 1 := ⟨by decide, mj_Gin 508 (by decide +kernel) rfl, mj_Gin 1 (by decide +kernel) rfl, ⟨by decide +kernel, by decide +kernel, by decide +kernel⟩, fun h => absurd h (by decide), fun _ => ⟨mj_Gin 506 (by decide +kernel) rfl, mj_Gin 507 (by decide +kernel) rfl, by decide, _, rfl, rfl⟩, fun h => absurd h (by decide)⟩
theorem mjK_47 : mj_cal 1 47 1 := ⟨by decide, mj_Gin 512 (by decide +kernel) rfl, mj_Gin 1 (by decide +kernel) rfl, ⟨by decide +kernel, by decide +kernel, by decide +kernel⟩, fun h => absurd h (by decide), fun _ => ⟨mj_Gin 511 (by decide +kernel) rfl, mj_Gsel 17 (by decide +kernel) rfl, by decide, _, rfl, rfl⟩, fun h => absurd h (by decide)⟩
theorem mjK_48 : mj_cal 1 48 2 := ⟨by decide, mj_Gin 516 (by decide +kernel) rfl, mj_Gin 1 (by decide +kernel) rfl, ⟨by decide +kernel, by decide +kernel, by decide +kernel⟩, fun h => absurd h (by decide), fun _ => ⟨mj_Gin 514 (by decide +kernel) rfl, mj_Gin 515 (by decide +kernel) rfl, by decide, _, rfl, rfl⟩, fun h => absurd h (by decide)⟩
theorem mjK_49 : mj_cal 1 49 1 := ⟨by decide, mj_Gin 520 (by decide +kernel) rfl, mj_Gin 1 (by decide +kernel) rfl, ⟨by decide +kernel, by decide +kernel, by decide +kernel⟩, fun h => absurd h (by decide), fun _ => ⟨mj_Gin 518 (by decide +kernel) rfl, mj_Gin 519 (by decide +kernel) rfl, by decide, _, rfl, rfl⟩, fun h => absurd h (by decide)⟩
theorem mjK_50 : mj_cal 1 50 1 := ⟨by decide, mj_Gin 524 (by decide +kernel) rfl, mj_Gin 1 (by decide +kernel) rfl, ⟨by decide +kernel, by decide +kernel, by decide +kernel⟩, fun h => absurd h (by decide), fun _ => ⟨mj_Gin 522 (by decide +kernel) rfl, mj_Gin 523 (by decide +kernel) rfl, by decide, _, rfl, rfl⟩, fun h => absurd h (by decide)⟩
theorem mjK_51 : mj_cal 1 51 1 := ⟨by decide, mj_Gin 528 (by decide +kernel) rfl, mj_Gin 1 (by decide +kernel) rfl, ⟨by decide +kernel, by decide +kernel, by decide +kernel⟩, fun h => absurd h (by decide), fun _ => ⟨mj_Gin 526 (by decide +kernel) rfl, mj_Gin 527 (by decide +kernel) rfl, by decide, _, rfl, rfl⟩, fun h => absurd h (by decide)⟩
theorem mjK_52 : mj_cal 1 52 0 := ⟨by decide, mj_Gin 532 (by decide +kernel) rfl, mj_Gin 1 (by decide +kernel) rfl, ⟨by decide +kernel, by decide +kernel, by decide +kernel⟩, fun h => absurd h (by decide), fun _ => ⟨mj_Gin 530 (by decide +kernel) rfl, mj_Gin 531 (by decide +kernel) rfl, by decide, _, rfl, rfl⟩, fun h => absurd h (by decide)⟩
theorem mjK_53 : mj_cal 1 53 1 := ⟨by decide, mj_Gin 536 (by decide +kernel) rfl, mj_Gin 6 (by decide +kernel) rfl, ⟨by decide +kernel, by decide +kernel, by decide +kernel⟩, fun h => absurd h (by decide), fun _ => ⟨mj_Gin 534 (by decide +kernel) rfl, mj_Gin 535 (by decide +kernel) rfl, by decide, _, rfl, rfl⟩, fun h => absurd h (by decide)⟩
theorem mjK_54 : mj_cal 1 54 0 := ⟨by decide, mj_Gin 541 (by decide +kernel) rfl, mj_Gin 10 (by decide +kernel) rfl, ⟨by decide +kernel, by decide +kernel, by decide +kernel⟩, fun h => absurd h (by decide), fun _ => ⟨mj_Gin 539 (by decide +kernel) rfl, mj_Gin 540 (by decide +kernel) rfl, by decide, _, rfl, rfl⟩, fun h => absurd h (by decide)⟩
theorem mjK_55 : mj_cal 1 55 0 := ⟨by decide, mj_Gin 545 (by decide +kernel) rfl, mj_Gin 8 (by decide +kernel) rfl, ⟨by decide +kernel, by decide +kernel, by decide +kernel⟩, fun h => absurd h (by decide), fun _ => ⟨mj_Gin 543 (by decide +kernel) rfl, mj_Gin 544 (by decide +kernel) rfl, by decide, _, rfl, rfl⟩, fun h => absurd h (by decide)⟩
theorem mjK_56 : mj_cal 1 56 0 := ⟨by decide, mj_Gin 550 (by decide +kernel) rfl, mj_Gin 4 (by decide +kernel) rfl, ⟨by decide +kernel, by decide +kernel, by decide +kernel⟩, fun h => absurd h (by decide), fun _ => ⟨mj_Gin 548 (by decide +kernel) rfl, mj_Gin 549 (by decide +kernel) rfl, by decide, _, rfl, rfl⟩, fun h => absurd h (by decide)⟩
theorem mjK_57 : mj_cal 1 57 0 := ⟨by decide, mj_Gin 554 (by decide +kernel) rfl, mj_Gin 1 (by decide +kernel) rfl, ⟨by decide +kernel, by decide +kernel, by decide +kernel⟩, fun h => absurd h (by decide), fun _ => ⟨mj_Gin 552 (by decide +kernel) rfl, mj_Gin 553 (by decide +kernel) rfl, by decide, _, rfl, rfl⟩, fun h => absurd h (by decide)⟩
theorem mjK_58 : mj_cal 1 58 1 := ⟨by decide, mj_Gin 558 (by decide +kernel) rfl, mj_Gin 1 (by decide +kernel) rfl, ⟨by decide +kernel, by decide +kernel, by decide +kernel⟩, fun h => absurd h (by decide), fun _ => ⟨mj_Gin 556 (by decide +kernel) rfl, mj_Gin 557 (by decide +kernel) rfl, by decide, _, rfl, rfl⟩, fun h => absurd h (by decide)⟩
theorem mjK_59 : mj_cal 1 59 1 := ⟨by decide, mj_Gin 562 (by decide +kernel) rfl, mj_Gin 1 (by decide +kernel) rfl, ⟨by decide +kernel, by decide +kernel, by decide +kernel⟩, fun h => absurd h (by decide), fun _ => ⟨mj_Gin 561 (by decide +kernel) rfl, mj_Gsel 18 (by decide +kernel) rfl, by decide, _, rfl, rfl⟩, fun h => absurd h (by decide)⟩
theorem mjK_60 : mj_cal 1 60 0 := ⟨by decide, mj_Gin 566 (by decide +kernel) rfl, mj_Gin 8 (by decide +kernel) rfl, ⟨by decide +kernel, by decide +kernel, by decide +kernel⟩, fun h => absurd h (by decide), fun _ => ⟨mj_Gin 564 (by decide +kernel) rfl, mj_Gin 565 (by decide +kernel) rfl, by decide, _, rfl, rfl⟩, fun h => absurd h (by decide)⟩
theorem mjK_61 : mj_cal 1 61 2 := ⟨by decide, mj_Gin 570 (by decide +kernel) rfl, mj_Gin 1 (by decide +kernel) rfl, ⟨by decide +kernel, by decide +kernel, by decide +kernel⟩, fun h => absurd h (by decide), fun _ => ⟨mj_Gin 568 (by decide +kernel) rfl, mj_Gin 569 (by decide +kernel) rfl, by decide, _, rfl, rfl⟩, fun h => absurd h (by decide)⟩
theorem mjK_62 : mj_cal 1 62 1 := ⟨by decide, mj_Gin 574 (by decide +kernel) rfl, mj_Gin 1 (by decide +kernel) rfl, ⟨by decide +kernel, by decide +kernel, by decide +kernel⟩, fun h => absurd h (by decide), fun _ => ⟨mj_Gin 572 (by decide +kernel) rfl, mj_Gin 573 (by decide +kernel) rfl, by decide, _, rfl, rfl⟩, fun h => absurd h (by decide)⟩
theorem mjK_63 : mj_cal 1 63 1 := ⟨by decide, mj_Gin 578 (by decide +kernel) rfl, mj_Gin 6 (by decide +kernel) rfl, ⟨by decide +kernel, by decide +kernel, by decide +kernel⟩, fun h => absurd h (by decide), fun _ => ⟨mj_Gin 576 (by decide +kernel) rfl, mj_Gin 577 (by decide +kernel) rfl, by decide, _, rfl, rfl⟩, fun h => absurd h (by decide)⟩
theorem mjK_64 : mj_cal 1 64 0 := ⟨by decide, mj_Gin 582 (by decide +kernel) rfl, mj_Gin 6 (by decide +kernel) rfl, ⟨by decide +kernel, by decide +kernel, by decide +kernel⟩, fun h => absurd h (by decide), fun _ => ⟨mj_Gin 581 (by decide +kernel) rfl, mj_Gsel 19 (by decide +kernel) rfl, by decide, _, rfl, rfl⟩, fun h => absurd h (by decide)⟩
theorem mjK_65 : mj_cal 1 65 1 := ⟨by decide, mj_Gin 586 (by decide +kernel) rfl, mj_Gin 8 (by decide +kernel) rfl, ⟨by decide +kernel, by decide +kernel, by decide +kernel⟩, fun h => absurd h (by decide), fun _ => ⟨mj_Gin 584 (by decide +kernel) rfl, mj_Gin 585 (by decide +kernel) rfl, by decide, _, rfl, rfl⟩, fun h => absurd h (by decide)⟩
theorem mjK_66 : mj_cal 1 66 1 := ⟨by decide, mj_Gin 590 (by decide +kernel) rfl, mj_Gin 8 (by decide +kernel) rfl, ⟨by decide +kernel, by decide +kernel, by decide +kernel⟩, fun h => absurd h (by decide), fun _ => ⟨mj_Gin 588 (by decide +kernel) rfl, mj_Gin 589 (by decide +kernel) rfl, by decide, _, rfl, rfl⟩, fun h => absurd h (by decide)⟩
theorem mjK_67 : mj_cal 1 67 2 := ⟨by decide, mj_Gin 594 (by decide +kernel) rfl, mj_Gin 6 (by decide +kernel) rfl, ⟨by decide +kernel, by decide +kernel, by decide +kernel⟩, fun h => absurd h (by decide), fun _ => ⟨mj_Gin 593 (by decide +kernel) rfl, mj_Gsel 20 (by decide +kernel) rfl, by decide, _, rfl, rfl⟩, fun h => absurd h (by decide)⟩
theorem mjK_68 : mj_cal 1 68 4 := ⟨by decide, mj_Gin 598 (by decide +kernel) rfl, mj_Gin 7 (by decide +kernel) rfl, ⟨by decide +kernel, by decide +kernel, by decide +kernel⟩, fun h => absurd h (by decide), fun _ => ⟨mj_Gin 596 (by decide +kernel) rfl, mj_Gin 597 (by decide +kernel) rfl, by decide, _, rfl, rfl⟩, fun h => absurd h (by decide)⟩
theorem mjK_69 : mj_cal 1 69 2 := ⟨by decide, mj_Gin 602 (by decide +kernel) rfl, mj_Gin 9 (by decide +kernel) rfl, ⟨by decide +kernel, by decide +kernel, by decide +kernel⟩, fun h => absurd h (by decide), fun _ => ⟨mj_Gin 600 (by decide +kernel) rfl, mj_Gin 601 (by decide +kernel) rfl, by decide, _, rfl, rfl⟩, fun h => absurd h (by decide)⟩
theorem mjK_70 : mj_cal 1 70 0 := ⟨by decide, mj_Gin 607 (by decide +kernel) rfl, mj_Gin 6 (by decide +kernel) rfl, ⟨by decide +kernel, by decide +kernel, by decide +kernel⟩, fun h => absurd h (by decide), fun _ => ⟨mj_Gin 606 (by decide +kernel) rfl, mj_Gsel 21 (by decide +kernel) rfl, by decide, _, rfl, rfl⟩, fun h => absurd h (by decide)⟩
theorem mjK_71 : mj_cal 1 71 1 := ⟨by decide, mj_Gin 611 (by decide +kernel) rfl, mj_Gin 9 (by decide +kernel) rfl, ⟨by decide +kernel, by decide +kernel, by decide +kernel⟩, fun h => absurd h (by decide), fun _ => ⟨mj_Gin 609 (by decide +kernel) rfl, mj_Gin 610 (by decide +kernel) rfl, by decide, _, rfl, rfl⟩, fun h => absurd h (by decide)⟩
theorem mjK_72 : mj_cal 1 72 1 := ⟨by decide, mj_Gin 615 (by decide +kernel) rfl, mj_Gin 6 (by decide +kernel) rfl, ⟨by decide +kernel, by decide +kernel, by decide +kernel⟩, fun h => absurd h (by decide), fun _ => ⟨mj_Gin 614 (by decide +kernel) rfl, mj_Gsel 22 (by decide +kernel) rfl, by decide, _, rfl, rfl⟩, fun h => absurd h (by decide)⟩
theorem mjK_73 : mj_cal 1 73 0 := ⟨by decide, mj_Gin 619 (by decide +kernel) rfl, mj_Gin 9 (by decide +kernel) rfl, ⟨by decide +kernel, by decide +kernel, by decide +kernel⟩, fun h => absurd h (by decide), fun _ => ⟨mj_Gin 617 (by decide +kernel) rfl, mj_Gin 618 (by decide +kernel) rfl, by decide, _, rfl, rfl⟩, fun h => absurd h (by decide)⟩
theorem mjK_74 : mj_cal 1 74 2 := ⟨by decide, mj_Gin 624 (by decide +kernel) rfl, mj_Gin 6 (by decide +kernel) rfl, ⟨by decide +kernel, by decide +kernel, by decide +kernel⟩, fun h => absurd h (by decide), fun _ => ⟨mj_Gin 623 (by decide +kernel) rfl, mj_Gsel 23 (by decide +kernel) rfl, by decide, _, rfl, rfl⟩, fun h => absurd h (by decide)⟩
theorem mjK_75 : mj_cal 1 75 2 := ⟨by decide, mj_Gin 628 (by decide +kernel) rfl, mj_Gin 6 (by decide +kernel) rfl, ⟨by decide +kernel, by decide +kernel, by decide +kernel⟩, fun h => absurd h (by decide), fun _ => ⟨mj_Gin 627 (by decide +kernel) rfl, mj_Gsel 24 (by decide +kernel) rfl, by decide, _, rfl, rfl⟩, fun h => absurd h (by decide)⟩
theorem mjK_76 : mj_cal 1 76 0 := ⟨by decide, mj_Gin 632 (by decide +kernel) rfl, mj_Gin 9 (by decide +kernel) rfl, ⟨by decide +kernel, by decide +kernel, by decide +kernel⟩, fun h => absurd h (by decide), fun _ => ⟨mj_Gin 630 (by decide +kernel) rfl, mj_Gin 631 (by decide +kernel) rfl, by decide, _, rfl, rfl⟩, fun h => absurd h (by decide)⟩
theorem mjK_77 : mj_cal 1 77 0 := ⟨by decide, mj_Gin 636 (by decide +kernel) rfl, mj_Gin 9 (by decide +kernel) rfl, ⟨by decide +kernel, by decide +kernel, by decide +kernel⟩, fun h => absurd h (by decide), fun _ => ⟨mj_Gin 634 (by decide +kernel) rfl, mj_Gin 635 (by decide +kernel) rfl, by decide, _, rfl, rfl⟩, fun h => absurd h (by decide)⟩
theorem mjK_78 : mj_cal 1 78 0 := ⟨by decide, mj_Gin 640 (by decide +kernel) rfl, mj_Gin 9 (by decide +kernel) rfl, ⟨by decide +kernel, by decide +kernel, by decide +kernel⟩, fun h => absurd h (by decide), fun _ => ⟨mj_Gin 638 (by decide +kernel) rfl, mj_Gin 639 (by decide +kernel) rfl, by decide, _, rfl, rfl⟩, fun h => absurd h (by decide)⟩
theorem mjK_79 : mj_cal 1 79 3 := ⟨by decide, mj_Gin 644 (by decide +kernel) rfl, mj_Gin 6 (by decide +kernel) rfl, ⟨by decide +kernel, by decide +kernel, by decide +kernel⟩, fun h => absurd h (by decide), fun _ => ⟨mj_Gin 643 (by decide +kernel) rfl, mj_Gsel 25 (by decide +kernel) rfl, by decide, _, rfl, rfl⟩, fun h => absurd h (by decide)⟩
theorem mjK_80 : mj_cal 1 80 2 := ⟨by decide, mj_Gin 648 (by decide +kernel) rfl, mj_Gin 3 (by decide +kernel) rfl, ⟨by decide +kernel, by decide +kernel, by decide +kernel⟩, fun h => absurd h (by decide), fun _ => ⟨mj_Gin 646 (by decide +kernel) rfl, mj_Gin 647 (by decide +kernel) rfl, by decide, _, rfl, rfl⟩, fun h => absurd h (by decide)⟩
theorem mjK_81 : mj_cal 1 81 1 := ⟨by decide, mj_Gin 656 (by decide +kernel) rfl, mj_Gin 10 (by decide +kernel) rfl, ⟨by decide +kernel, by decide +kernel, by decide +kernel⟩, fun h => absurd h (by decide), fun _ => ⟨mj_Gin 654 (by decide +kernel) rfl, mj_Gin 655 (by decide +kernel) rfl, by decide, _, rfl, rfl⟩, fun h => absurd h (by decide)⟩
theorem mjK_82 : mj_cal 2 82 3 := ⟨by decide, mj_Gin 659 (by decide +kernel) rfl, mj_Gin 6 (by decide +kernel) rfl, ⟨by decide +kernel, by decide +kernel, by decide +kernel⟩, fun h => absurd h (by decide), fun h => absurd h (by decide), fun _ => mj_Gin 658 (by decide +kernel) rfl⟩
theorem mjK_83 : mj_cal 1 83 0 := ⟨by decide, mj_Gin 663 (by decide +kernel) rfl, mj_Gin 10 (by decide +kernel) rfl, ⟨by decide +kernel, by decide +kernel, by decide +kernel⟩, fun h => absurd h (by decide), fun _ => ⟨mj_Gin 661 (by decide +kernel) rfl, mj_Gin 662 (by decide +kernel) rfl, by decide, _, rfl, rfl⟩, fun h => absurd h (by decide)⟩
theorem mjK_84 : mj_cal 1 84 0 := ⟨by decide, mj_Gin 667 (by decide +kernel) rfl, mj_Gin 10 (by decide +kernel) rfl, ⟨by decide +kernel, by decide +kernel, by decide +kernel⟩, fun h => absurd h (by decide), fun _ => ⟨mj_Gin 665 (by decide +kernel) rfl, mj_Gin 666 (by decide +kernel) rfl, by decide, _, rfl, rfl⟩, fun h => absurd h (by decide)⟩
theorem mjK_85 : mj_cal 1 85 4 := ⟨by decide, mj_Gin 671 (by decide +kernel) rfl, mj_Gin 9 (by decide +kernel) rfl, ⟨by decide +kernel, by decide +kernel, by decide +kernel⟩, fun h => absurd h (by decide), fun _ => ⟨mj_Gin 669 (by decide +kernel) rfl, mj_Gin 670 (by decide +kernel) rfl, by decide, _, rfl, rfl⟩, fun h => absurd h (by decide)⟩
theorem mjK_86 : mj_cal 1 86 2 := ⟨by decide, mj_Gin 675 (by decide +kernel) rfl, mj_Gin 9 (by decide +kernel) rfl, ⟨by decide +kernel, by decide +kernel, by decide +kernel⟩, fun h => absurd h (by decide), fun _ => ⟨mj_Gin 674 (by decide +kernel) rfl, mj_Gsel 26 (by decide +kernel) rfl, by decide, _, rfl, rfl⟩, fun h => absurd h (by decide)⟩
theorem mjK_87 : mj_cal 1 87 1 := ⟨by decide, mj_Gin 679 (by decide +kernel) rfl, mj_Gin 9 (by decide +kernel) rfl, ⟨by decide +kernel, by decide +kernel, by decide +kernel⟩, fun h => absurd h (by decide), fun _ => ⟨mj_Gin 678 (by decide +kernel) rfl, mj_Gsel 27 (by decide +kernel) rfl, by decide, _, rfl, rfl⟩, fun h => absurd h (by decide)⟩
theorem mjK_88 : mj_cal 1 88 1 := ⟨by decide, mj_Gin 683 (by decide +kernel) rfl, mj_Gin 9 (by decide +kernel) rfl, ⟨by decide +kernel, by decide +kernel, by decide +kernel⟩, fun h => absurd h (by decide), fun _ => ⟨mj_Gin 682 (by decide +kernel) rfl, mj_Gsel 28 (by decide +kernel) rfl, by decide, _, rfl, rfl⟩, fun h => absurd h (by decide)⟩
theorem mjK_89 : mj_cal 1 89 2 := ⟨by decide, mj_Gin 687 (by decide +kernel) rfl, mj_Gin 6 (by decide +kernel) rfl, ⟨by decide +kernel, by decide +kernel, by decide +kernel⟩, fun h => absurd h (by decide), fun _ => ⟨mj_Gin 686 (by decide +kernel) rfl, mj_Gsel 29 (by decide +kernel) rfl, by decide, _, rfl, rfl⟩, fun h => absurd h (by decide)⟩
theorem mjK_90 : mj_cal 1 90 0 := ⟨by decide, mj_Gin 692 (by decide +kernel) rfl, mj_Gin 9 (by decide +kernel) rfl, ⟨by decide +kernel, by decide +kernel, by decide +kernel⟩, fun h => absurd h (by decide), fun _ => ⟨mj_Gin 690 (by decide +kernel) rfl, mj_Gin 691 (by decide +kernel) rfl, by decide, _, rfl, rfl⟩, fun h => absurd h (by decide)⟩
theorem mjK_91 : mj_cal 1 91 1 := ⟨by decide, mj_Gin 696 (by decide +kernel) rfl, mj_Gin 1 (by decide +kernel) rfl, ⟨by decide +kernel, by decide +kernel, by decide +kernel⟩, fun h => absurd h (by decide), fun _ => ⟨mj_Gin 694 (by decide +kernel) rfl, mj_Gin 695 (by decide +kernel) rfl, by decide, _, rfl, rfl⟩, fun h => absurd h (by decide)⟩
theorem mjK_92 : mj_cal 1 92 1 := ⟨by decide, mj_Gin 700 (by decide +kernel) rfl, mj_Gin 6 (by decide +kernel) rfl, ⟨by decide +kernel, by decide +kernel, by decide +kernel⟩, fun h => absurd h (by decide), fun _ => ⟨mj_Gin 698 (by decide +kernel) rfl, mj_Gin 699 (by decide +kernel) rfl, by decide, _, rfl, rfl⟩, fun h => absurd h (by decide)⟩
theorem mjK_93 : mj_cal 1 93 2 := ⟨by decide, mj_Gin 704 (by decide +kernel) rfl, mj_Gin 1 (by decide +kernel) rfl, ⟨by decide +kernel, by decide +kernel, by decide +kernel⟩, fun h => absurd h (by decide), fun _ => ⟨mj_Gin 702 (by decide +kernel) rfl, mj_Gin 703 (by decide +kernel) rfl, by decide, _, rfl, rfl⟩, fun h => absurd h (by decide)⟩
theorem mjK_94 : mj_cal 1 94 2 := ⟨by decide, mj_Gin 708 (by decide +kernel) rfl, mj_Gin 6 (by decide +kernel) rfl, ⟨by decide +kernel, by decide +kernel, by decide +kernel⟩, fun h => absurd h (by decide), fun _ => ⟨mj_Gin 706 (by decide +kernel) rfl, mj_Gin 707 (by decide +kernel) rfl, by decide, _, rfl, rfl⟩, fun h => absurd h (by decide)⟩
theorem mjK_95 : mj_cal 1 95 1 := ⟨by decide, mj_Gin 712 (by decide +kernel) rfl, mj_Gin 1 (by decide +kernel) rfl, ⟨by decide +kernel, by decide +kernel, by decide +kernel⟩, fun h => absurd h (by decide), fun _ => ⟨mj_Gin 710 (by decide +kernel) rfl, mj_Gin 711 (by decide +kernel) rfl, by decide, _, rfl, rfl⟩, fun h => absurd h (by decide)⟩
theorem mjK_96 : mj_cal 1 96 2 := ⟨by decide, mj_Gin 716 (by decide +kernel) rfl, mj_Gin 1 (by decide +kernel) rfl, ⟨by decide +kernel, by decide +kernel, by decide +kernel⟩, fun h => absurd h (by decide), fun _ => ⟨mj_Gin 714 (by decide +kernel) rfl, mj_Gin 715 (by decide +kernel) rfl, by decide, _, rfl, rfl⟩, fun h => absurd h (by decide)⟩
theorem mjK_97 : mj_cal 1 97 2 := ⟨by decide, mj_Gin 720 (by decide +kernel) rfl, mj_Gin 1 (by decide +kernel) rfl, ⟨by decide +kernel, by decide +kernel, by decide +kernel⟩, fun h => absurd h (by decide), fun _ => ⟨mj_Gin 718 (by decide +kernel) rfl, mj_Gin 719 (by decide +kernel) rfl, by decide, _, rfl, rfl⟩, fun h => absurd h (by decide)⟩
theorem mjK_98 : mj_cal 1 98 2 := ⟨by decide, mj_Gin 724 (by decide +kernel) rfl, mj_Gin 7 (by decide +kernel) rfl, ⟨by decide +kernel, by decide +kernel, by decide +kernel⟩, fun h => absurd h (by decide), fun _ => ⟨mj_Gin 722 (by decide +kernel) rfl, mj_Gin 723 (by decide +kernel) rfl, by decide, _, rfl, rfl⟩, fun h => absurd h (by decide)⟩
theorem mjK_99 : mj_cal 0 99 0 := ⟨by decide, mj_Gin 731 (by decide +kernel) rfl, mj_Gin 11 (by decide +kernel) rfl, ⟨by decide +kernel, by decide +kernel, by decide +kernel⟩, fun _ => ⟨rfl, mj_Gin 730 (by decide +kernel) rfl, rfl⟩, fun h => absurd h (by decide), fun h => absurd h (by decide)⟩
theorem mjK_100 : mj_cal 1 100 3 := ⟨by decide, mj_Gin 900 (by decide +kernel) rfl, mj_Gin 11 (by decide +kernel) rfl, ⟨by decide +kernel, by decide +kernel, by decide +kernel⟩, fun h => absurd h (by decide), fun _ => ⟨mj_Gin 898 (by decide +kernel) rfl, mj_Gin 899 (by decide +kernel) rfl, by decide, _, rfl, rfl⟩, fun h => absurd h (by decide)⟩
theorem mjK_101 : mj_cal 2 101 3 := ⟨by decide, mj_Gin 903 (by decide +kernel) rfl, mj_Gin 11 (by decide +kernel) rfl, ⟨by decide +kernel, by decide +kernel, by decide +kernel⟩, fun h => absurd h (by decide), fun h => absurd h (by decide), fun _ => mj_Gin 902 (by decide +kernel) rfl⟩
theorem mjK_102 : mj_cal 1 102 5 := ⟨by decide, mj_Gin 907 (by decide +kernel) rfl, mj_Gin 11 (by decide +kernel) rfl, ⟨by decide +kernel, by decide +kernel, by decide +kernel⟩, fun h => absurd h (by decide), fun _ => ⟨mj_Gin 905 (by decide +kernel) rfl, mj_Gin 906 (by decide +kernel) rfl, by decide, _, rfl, rfl⟩, fun h => absurd h (by decide)⟩
theorem mjK_103 : mj_cal 1 103 1 := ⟨by decide, mj_Gin 911 (by decide +kernel) rfl, mj_Gin 11 (by decide +kernel) rfl, ⟨by decide +kernel, by decide +kernel, by decide +kernel⟩, fun h => absurd h (by decide), fun _ => ⟨mj_Gin 910 (by decide +kernel) rfl, mj_Gsel 30 (by decide +kernel) rfl, by decide, _, rfl, rfl⟩, fun h => absurd h (by decide)⟩
theorem mjK_104 : mj_cal 2 104 3 := ⟨by decide, mj_Gin 914 (by decide +kernel) rfl, mj_Gin 11 (by decide +kernel) rfl, ⟨by decide +kernel, by decide +kernel, by decide +kernel⟩, fun h => absurd h (by decide), fun h => absurd h (by decide), fun _ => mj_Gin 913 (by decide +kernel) rfl⟩
theorem mjK_105 : mj_cal 1 105 1 := ⟨by decide, mj_Gin 918 (by decide +kernel) rfl, mj_Gin 11 (by decide +kernel) rfl, ⟨by decide +kernel, by decide +kernel, by decide +kernel⟩, fun h => absurd h (by decide), fun _ => ⟨mj_Gin 916 (by decide +kernel) rfl, mj_Gin 917 (by decide +kernel) rfl, by decide, _, rfl, rfl⟩, fun h => absurd h (by decide)⟩
theorem mjK_106 : mj_cal 1 106 0 := ⟨by decide, mj_Gin 922 (by decide +kernel) rfl, mj_Gin 11 (by decide +kernel) rfl, ⟨by decide +kernel, by decide +kernel, by decide +kernel⟩, fun h => absurd h (by decide), fun _ => ⟨mj_Gin 920 (by decide +kernel) rfl, mj_Gin 921 (by decide +kernel) rfl, by decide, _, rfl, rfl⟩, fun h => absurd h (by decide)⟩
theorem mjK_107 : mj_cal 1 107 1 := ⟨by decide, mj_Gin 926 (by decide +kernel) rfl, mj_Gin 11 (by decide +kernel) rfl, ⟨by decide +kernel, by decide +kernel, by decide +kernel⟩, fun h => absurd h (by decide), fun _ => ⟨mj_Gin 925 (by decide +kernel) rfl, mj_Gsel 31 (by decide +kernel) rfl, by decide, _, rfl, rfl⟩, fun h => absurd h (by decide)⟩
theorem mjK_108 : mj_cal 1 108 3 := ⟨by decide, mj_Gin 930 (by decide +kernel) rfl, mj_Gin 11 (by decide +kernel) rfl, ⟨by decide +kernel, by decide +kernel, by decide +kernel⟩, fun h => absurd h (by decide), fun _ => ⟨mj_Gin 929 (by decide +kernel) rfl, mj_Gsel 32 (by decide +kernel) rfl, by decide, _, rfl, rfl⟩, fun h => absurd h (by decide)⟩
theorem mjK_109 : mj_cal 1 109 0 := ⟨by decide, mj_Gin 934 (by decide +kernel) rfl, mj_Gin 11 (by decide +kernel) rfl, ⟨by decide +kernel, by decide +kernel, by decide +kernel⟩, fun h => absurd h (by decide), fun _ => ⟨mj_Gin 933 (by decide +kernel) rfl, mj_Gsel 33 (by decide +kernel) rfl, by decide, _, rfl, rfl⟩, fun h => absurd h (by decide)⟩
theorem mjK_110 : mj_cal 1 110 2 := ⟨by decide, mj_Gin 938 (by decide +kernel) rfl, mj_Gin 11 (by decide +kernel) rfl, ⟨by decide +kernel, by decide +kernel, by decide +kernel⟩, fun h => absurd h (by decide), fun _ => ⟨mj_Gin 937 (by decide +kernel) rfl, mj_Gsel 34 (by decide +kernel) rfl, by decide, _, rfl, rfl⟩, fun h => absurd h (by decide)⟩
theorem mjK_111 : mj_cal 1 111 0 := ⟨by decide, mj_Gin 942 (by decide +kernel) rfl, mj_Gin 11 (by decide +kernel) rfl, ⟨by decide +kernel, by decide +kernel, by decide +kernel⟩, fun h => absurd h (by decide), fun _ => ⟨mj_Gin 941 (by decide +kernel) rfl, mj_Gsel 35 (by decide +kernel) rfl, by decide, _, rfl, rfl⟩, fun h => absurd h (by decide)⟩
theorem mjK_112 : mj_cal 1 112 3 := ⟨by decide, mj_Gin 946 (by decide +kernel) rfl, mj_Gin 11 (by decide +kernel) rfl, ⟨by decide +kernel, by decide +kernel, by decide +kernel⟩, fun h => absurd h (by decide), fun _ => ⟨mj_Gin 945 (by decide +kernel) rfl, mj_Gsel 36 (by decide +kernel) rfl, by decide, _, rfl, rfl⟩, fun h => absurd h (by decide)⟩
theorem mjK_113 : mj_cal 2 113 1 := ⟨by decide, mj_Gin 949 (by decide +kernel) rfl, mj_Gin 11 (by decide +kernel) rfl, ⟨by decide +kernel, by decide +kernel, by decide +kernel⟩, fun h => absurd h (by decide), fun h => absurd h (by decide), fun _ => mj_Gin 948 (by decide +kernel) rfl⟩
theorem mjK_114 : mj_cal 1 114 2 := ⟨by decide, mj_Gin 953 (by decide +kernel) rfl, mj_Gin 11 (by decide +kernel) rfl, ⟨by decide +kernel, by decide +kernel, by decide +kernel⟩, fun h => absurd h (by decide), fun _ => ⟨mj_Gin 952 (by decide +kernel) rfl, mj_Gsel 37 (by decide +kernel) rfl, by decide, _, rfl, rfl⟩, fun h => absurd h (by decide)⟩
theorem mjK_115 : mj_cal 1 115 1 := ⟨by decide, mj_Gin 957 (by decide +kernel) rfl, mj_Gin 11 (by decide +kernel) rfl, ⟨by decide +kernel, by decide +kernel, by decide +kernel⟩, fun h => absurd h (by decide), fun _ => ⟨mj_Gin 956 (by decide +kernel) rfl, mj_Gsel 38 (by decide +kernel) rfl, by decide, _, rfl, rfl⟩, fun h => absurd h (by decide)⟩
theorem mjK_116 : mj_cal 1 116 3 := ⟨by decide, mj_Gin 961 (by decide +kernel) rfl, mj_Gin 11 (by decide +kernel) rfl, ⟨by decide +kernel, by decide +kernel, by decide +kernel⟩, fun h => absurd h (by decide), fun _ => ⟨mj_Gin 960 (by decide +kernel) rfl, mj_Gsel 39 (by decide +kernel) rfl, by decide, _, rfl, rfl⟩, fun h => absurd h (by decide)⟩
theorem mjK_117 : mj_cal 1 117 1 := ⟨by decide, mj_Gin 965 (by decide +kernel) rfl, mj_Gin 11 (by decide +kernel) rfl, ⟨by decide +kernel, by decide +kernel, by decide +kernel⟩, fun h => absurd h (by decide), fun _ => ⟨mj_Gin 964 (by decide +kernel) rfl, mj_Gsel 40 (by decide +kernel) rfl, by decide, _, rfl, rfl⟩, fun h => absurd h (by decide)⟩
theorem mjK_118 : mj_cal 1 118 1 := ⟨by decide, mj_Gin 969 (by decide +kernel) rfl, mj_Gin 11 (by decide +kernel) rfl, ⟨by decide +kernel, by decide +kernel, by decide +kernel⟩, fun h => absurd h (by decide), fun _ => ⟨mj_Gin 968 (by decide +kernel) rfl, mj_Gsel 41 (by decide +kernel) rfl, by decide, _, rfl, rfl⟩, fun h => absurd h (by decide)⟩
theorem mjK_119 : mj_cal 1 119 1 := ⟨by decide, mj_Gin 973 (by decide +kernel) rfl, mj_Gin 11 (by decide +kernel) rfl, ⟨by decide +kernel, by decide +kernel, by decide +kernel⟩, fun h => absurd h (by decide), fun _ => ⟨mj_Gin 972 (by decide +kernel) rfl, mj_Gsel 42 (by decide +kernel) rfl, by decide, _, rfl, rfl⟩, fun h => absurd h (by decide)⟩
theorem mjK_120 : mj_cal 1 120 0 := ⟨by decide, mj_Gin 978 (by decide +kernel) rfl, mj_Gin 11 (by decide +kernel) rfl, ⟨by decide +kernel, by decide +kernel, by decide +kernel⟩, fun h => absurd h (by decide), fun _ => ⟨mj_Gin 976 (by decide +kernel) rfl, mj_Gin 977 (by decide +kernel) rfl, by decide, _, rfl, rfl⟩, fun h => absurd h (by decide)⟩
theorem mjK_121 : mj_cal 1 121 1 := ⟨by decide, mj_Gin 982 (by decide +kernel) rfl, mj_Gin 11 (by decide +kernel) rfl, ⟨by decide +kernel, by decide +kernel, by decide +kernel⟩, fun h => absurd h (by decide), fun _ => ⟨mj_Gin 980 (by decide +kernel) rfl, mj_Gin 981 (by decide +kernel) rfl, by decide, _, rfl, rfl⟩, fun h => absurd h (by decide)⟩
theorem mjK_122 : mj_cal 1 122 2 := ⟨by decide, mj_Gin 986 (by decide +kernel) rfl, mj_Gin 11 (by decide +kernel) rfl, ⟨by decide +kernel, by decide +kernel, by decide +kernel⟩, fun h => absurd h (by decide), fun _ => ⟨mj_Gin 984 (by decide +kernel) rfl, mj_Gin 985 (by decide +kernel) rfl, by decide, _, rfl, rfl⟩, fun h => absurd h (by decide)⟩
theorem mjK_123 : mj_cal 1 123 1 := ⟨by decide, mj_Gin 990 (by decide +kernel) rfl, mj_Gin 11 (by decide +kernel) rfl, ⟨by decide +kernel, by decide +kernel, by decide +kernel⟩, fun h => absurd h (by decide), fun _ => ⟨mj_Gin 988 (by decide +kernel) rfl, mj_Gin 989 (by decide +kernel) rfl, by decide, _, rfl, rfl⟩, fun h => absurd h (by decide)⟩
theorem mjK_124 : mj_cal 1 124 1 := ⟨by decide, mj_Gin 994 (by decide +kernel) rfl, mj_Gin 11 (by decide +kernel) rfl, ⟨by decide +kernel, by decide +kernel, by decide +kernel⟩, fun h => absurd h (by decide), fun _ => ⟨mj_Gin 992 (by decide +kernel) rfl, mj_Gin 993 (by decide +kernel) rfl, by decide, _, rfl, rfl⟩, fun h => absurd h (by decide)⟩
theorem mjK_125 : mj_cal 1 125 1 := ⟨by decide, mj_Gin 998 (by decide +kernel) rfl, mj_Gin 11 (by decide +kernel) rfl, ⟨by decide +kernel, by decide +kernel, by decide +kernel⟩, fun h => absurd h (by decide), fun _ => ⟨mj_Gin 996 (by decide +kernel) rfl, mj_Gin 997 (by decide +kernel) rfl, by decide, _, rfl, rfl⟩, fun h => absurd h (by decide)⟩
theorem mjK_126 : mj_cal 1 126 0 := ⟨by decide, mj_Gin 1002 (by decide +kernel) rfl, mj_Gin 11 (by decide +kernel) rfl, ⟨by decide +kernel, by decide +kernel, by decide +kernel⟩, fun h => absurd h (by decide), fun _ => ⟨mj_Gin 1000 (by decide +kernel) rfl, mj_Gin 1001 (by decide +kernel) rfl, by decide, _, rfl, rfl⟩, fun h => absurd h (by decide)⟩
theorem mjK_127 : mj_cal 1 127 0 := ⟨by decide, mj_Gin 1006 (by decide +kernel) rfl, mj_Gin 11 (by decide +kernel) rfl, ⟨by decide +kernel, by decide +kernel, by decide +kernel⟩, fun h => absurd h (by decide), fun _ => ⟨mj_Gin 1004 (by decide +kernel) rfl, mj_Gin 1005 (by decide +kernel) rfl, by decide, _, rfl, rfl⟩, fun h => absurd h (by decide)⟩
theorem mjK_128 : mj_cal 1 128 1 := ⟨by decide, mj_Gin 1010 (by decide +kernel) rfl, mj_Gin 11 (by decide +kernel) rfl, ⟨by decide +kernel, by decide +kernel, by decide +kernel⟩, fun h => absurd h (by decide), fun _ => ⟨mj_Gin 1008 (by decide +kernel) rfl, mj_Gin 1009 (by decide +kernel) rfl, by decide, _, rfl, rfl⟩, fun h => absurd h (by decide)⟩
theorem mjK_129 : mj_cal 1 129 2 := ⟨by decide, mj_Gin 1014 (by decide +kernel) rfl, mj_Gin 11 (by decide +kernel) rfl, ⟨by decide +kernel, by decide +kernel, by decide +kernel⟩, fun h => absurd h (by decide), fun _ => ⟨mj_Gin 1012 (by decide +kernel) rfl, mj_Gin 1013 (by decide +kernel) rfl, by decide, _, rfl, rfl⟩, fun h => absurd h (by decide)⟩
theorem mjK_130 : mj_cal 1 130 1 := ⟨by decide, mj_Gin 1018 (by decide +kernel) rfl, mj_Gin 11 (by decide +kernel) rfl, ⟨by decide +kernel, by decide +kernel, by decide +kernel⟩, fun h => absurd h (by decide), fun _ => ⟨mj_Gin 1016 (by decide +kernel) rfl, mj_Gin 1017 (by decide +kernel) rfl, by decide, _, rfl, rfl⟩, fun h => absurd h (by decide)⟩
theorem mjK_131 : mj_cal 1 131 0 := ⟨by decide, mj_Gin 1022 (by decide +kernel) rfl, mj_Gin 11 (by decide +kernel) rfl, ⟨by decide +kernel, by decide +kernel, by decide +kernel⟩, fun h => absurd h (by decide), fun _ => ⟨mj_Gin 1021 (by decide +kernel) rfl, mj_Gsel 43 (by decide +kernel) rfl, by decide, _, rfl, rfl⟩, fun h => absurd h (by decide)⟩
theorem mjK_132 : mj_cal 1 132 1 := ⟨by decide, mj_Gin 1026 (by decide +kernel) rfl, mj_Gin 11 (by decide +kernel) rfl, ⟨by decide +kernel, by decide +kernel, by decide +kernel⟩, fun h => absurd h (by decide), fun _ => ⟨mj_Gin 1025 (by decide +kernel) rfl, mj_Gsel 44 (by decide +kernel) rfl, by decide, _, rfl, rfl⟩, fun h => absurd h (by decide)⟩
theorem mjK_133 : mj_cal 1 133 3 := ⟨by decide, mj_Gin 1030 (by decide +kernel) rfl, mj_Gin 11 (by decide +kernel) rfl, ⟨by decide +kernel, by decide +kernel, by decide +kernel⟩, fun h => absurd h (by decide), fun _ => ⟨mj_Gin 1029 (by decide +kernel) rfl, mj_Gsel 45 (by decide +kernel) rfl, by decide, _, rfl, rfl⟩, fun h => absurd h (by decide)⟩
theorem mjK_134 : mj_cal 1 134 0 := ⟨by decide, mj_Gin 1034 (by decide +kernel) rfl, mj_Gin 11 (by decide +kernel) rfl, ⟨by decide +kernel, by decide +kernel, by decide +kernel⟩, fun h => absurd h (by decide), fun _ => ⟨mj_Gin 1033 (by decide +kernel) rfl, mj_Gsel 46 (by decide +kernel) rfl, by decide, _, rfl, rfl⟩, fun h => absurd h (by decide)⟩
theorem mjK_135 : mj_cal 1 135 1 := ⟨by decide, mj_Gin 1038 (by decide +kernel) rfl, mj_Gin 11 (by decide +kernel) rfl, ⟨by decide +kernel, by decide +kernel, by decide +kernel⟩, fun h => absurd h (by decide), fun _ => ⟨mj_Gin 1037 (by decide +kernel) rfl, mj_Gsel 47 (by decide +kernel) rfl, by decide, _, rfl, rfl⟩, fun h => absurd h (by decide)⟩
theorem mjK_136 : mj_cal 1 136 2 := ⟨by decide, mj_Gin 1042 (by decide +kernel) rfl, mj_Gin 11 (by decide +kernel) rfl, ⟨by decide +kernel, by decide +kernel, by decide +kernel⟩, fun h => absurd h (by decide), fun _ => ⟨mj_Gin 1041 (by decide +kernel) rfl, mj_Gsel 48 (by decide +kernel) rfl, by decide, _, rfl, rfl⟩, fun h => absurd h (by decide)⟩
theorem mjK_137 : mj_cal 1 137 2 := ⟨by decide, mj_Gin 1046 (by decide +kernel) rfl, mj_Gin 11 (by decide +kernel) rfl, ⟨by decide +kernel, by decide +kernel, by decide +kernel⟩, fun h => absurd h (by decide), fun _ => ⟨mj_Gin 1045 (by decide +kernel) rfl, mj_Gsel 49 (by decide +kernel) rfl, by decide, _, rfl, rfl⟩, fun h => absurd h (by decide)⟩
theorem mjK_138 : mj_cal 1 138 4 := ⟨by decide, mj_Gin 1050 (by decide +kernel) rfl, mj_Gin 11 (by decide +kernel) rfl, ⟨by decide +kernel, by decide +kernel, by decide +kernel⟩, fun h => absurd h (by decide), fun _ => ⟨mj_Gin 1049 (by decide +kernel) rfl, mj_Gsel 50 (by decide +kernel) rfl, by decide, _, rfl, rfl⟩, fun h => absurd h (by decide)⟩
theorem mjK_139 : mj_cal 1 139 4 := ⟨by decide, mj_Gin 1054 (by decide +kernel) rfl, mj_Gin 11 (by decide +kernel) rfl, ⟨by decide +kernel, by decide +kernel, by decide +kernel⟩, fun h => absurd h (by decide), fun _ => ⟨mj_Gin 1053 (by decide +kernel) rfl, mj_Gsel 51 (by decide +kernel) rfl, by decide, _, rfl, rfl⟩, fun h => absurd h (by decide)⟩
theorem mjK_140 : mj_cal 1 140 4 := ⟨by decide, mj_Gin 1058 (by decide +kernel) rfl, mj_Gin 11 (by decide +kernel) rfl, ⟨by decide +kernel, by decide +kernel, by decide +kernel⟩, fun h => absurd h (by decide), fun _ => ⟨mj_Gin 1057 (by decide +kernel) rfl, mj_Gsel 52 (by decide +kernel) rfl, by decide, _, rfl, rfl⟩, fun h => absurd h (by decide)⟩
theorem mjK_141 : mj_cal 1 141 1 := ⟨by decide, mj_Gin 1062 (by decide +kernel) rfl, mj_Gin 11 (by decide +kernel) rfl, ⟨by decide +kernel, by decide +kernel, by decide +kernel⟩, fun h => absurd h (by decide), fun _ => ⟨mj_Gin 1060 (by decide +kernel) rfl, mj_Gin 1061 (by decide +kernel) rfl, by decide, _, rfl, rfl⟩, fun h => absurd h (by decide)⟩
theorem mjK_142 : mj_cal 1 142 2 := ⟨by decide, mj_Gin 1066 (by decide +kernel) rfl, mj_Gin 11 (by decide +kernel) rfl, ⟨by decide +kernel, by decide +kernel, by decide +kernel⟩, fun h => absurd h (by decide), fun _ => ⟨mj_Gin 1064 (by decide +kernel) rfl, mj_Gin 1065 (by decide +kernel) rfl, by decide, _, rfl, rfl⟩, fun h => absurd h (by decide)⟩
theorem mjK_143 : mj_cal 1 143 1 := ⟨by decide, mj_Gin 1070 (by decide +kernel) rfl, mj_Gin 11 (by decide +kernel) rfl, ⟨by decide +kernel, by decide +kernel, by decide +kernel⟩, fun h => absurd h (by decide), fun _ => ⟨mj_Gin 1068 (by decide +kernel) rfl, mj_Gin 1069 (by decide +kernel) rfl, by decide, _, rfl, rfl⟩, fun h => absurd h (by decide)⟩
theorem mjK_144 : mj_cal 1 144 2 := ⟨by decide, mj_Gin 1074 (by decide +kernel) rfl, mj_Gin 11 (by decide +kernel) rfl, ⟨by decide +kernel, by decide +kernel, by decide +kernel⟩, fun h => absurd h (by decide), fun _ => ⟨mj_Gin 1072 (by decide +kernel) rfl, mj_Gin 1073 (by decide +kernel) rfl, by decide, _, rfl, rfl⟩, fun h => absurd h (by decide)⟩
theorem mjK_145 : mj_cal 1 145 2 := ⟨by decide, mj_Gin 1078 (by decide +kernel) rfl, mj_Gin 11 (by decide +kernel) rfl, ⟨by decide +kernel, by decide +kernel, by decide +kernel⟩, fun h => absurd h (by decide), fun _ => ⟨mj_Gin 1076 (by decide +kernel) rfl, mj_Gin 1077 (by decide +kernel) rfl, by decide, _, rfl, rfl⟩, fun h => absurd h (by decide)⟩
end
section
theorem mje_0 : ∀ e ∈ mj_tb0, mj_lk 0 e.1 e.2.1 e.2.2.1 e.2.2.2 ∧ mj_cok 0 e.2.1 e.2.2.1 e.2.2.2 := by
  unfold mj_tb0
  refine List.forall_mem_cons.mpr ⟨⟨(trivial), trivial⟩, ?_⟩
  refine List.forall_mem_cons.mpr ⟨⟨(trivial), ⟨mj_Gws (mj_Gin 19 (by decide +kernel) rfl), mj_Gws (mj_Gin 20 (by decide +kernel) rfl), mj_Gws (mj_Gin 21 (by decide +kernel) rfl), by decide, by decide⟩⟩, ?_⟩
  refine List.forall_mem_cons.mpr ⟨⟨(trivial), trivial⟩, ?_⟩
  refine List.forall_mem_cons.mpr ⟨⟨(trivial), trivial⟩, ?_⟩
  refine List.forall_mem_cons.mpr ⟨⟨(⟨_, by decide, by decide, rfl, mj_Gws (mj_Gin 22 (by decide +kernel) rfl), by decide +kernel⟩), trivial⟩, ?_⟩
  refine List.forall_mem_cons.mpr ⟨⟨(mj_lkP (by decide) rfl (by decide) mj_inU0 mjf_0_11 mj_TyOk0 mj_Nm0 (Or.inr ⟨rfl, by decide +kernel, rfl⟩) rfl), trivial⟩, ?_⟩
  refine List.forall_mem_cons.mpr ⟨⟨(trivial), trivial⟩, ?_⟩
  refine List.forall_mem_cons.mpr ⟨⟨(mj_lkN (by decide) rfl mj_inU1 mj_TyOk1 (mj_Gin 24 (by decide +kernel) rfl) (mj_Gin 25 (by decide +kernel) rfl) (mj_Gin 2 (by decide +kernel) rfl) rfl (mj_noref (by decide +kernel)) (by decide +kernel)), trivial⟩, ?_⟩
  refine List.forall_mem_cons.mpr ⟨⟨(trivial), trivial⟩, ?_⟩
  refine List.forall_mem_cons.mpr ⟨⟨(trivial), mj_ckOf mjK_1 (by decide) (Or.inr mjl_0_17)⟩, ?_⟩
  refine List.forall_mem_cons.mpr ⟨⟨(mj_lkP (by decide) rfl (by decide) mj_inU0 mjf_0_18 mj_TyOk0 mj_Nm0 (Or.inr ⟨rfl, by decide +kernel, rfl⟩) rfl), trivial⟩, ?_⟩
  refine List.forall_mem_cons.mpr ⟨⟨(trivial), trivial⟩, ?_⟩
  refine List.forall_mem_cons.mpr ⟨⟨(mj_lkN (by decide) rfl mj_inU2 mj_TyOk2 (mj_Gin 48 (by decide +kernel) rfl) (mj_Gin 49 (by decide +kernel) rfl) (mj_Gin 3 (by decide +kernel) rfl) rfl (mj_noref (by decide +kernel)) (by decide +kernel)), trivial⟩, ?_⟩
  refine List.forall_mem_cons.mpr ⟨⟨(trivial), trivial⟩, ?_⟩
  refine List.forall_mem_cons.mpr ⟨⟨(trivial), mj_ckOf mjK_2 (by decide) (Or.inr mjl_0_24)⟩, ?_⟩
  refine List.forall_mem_cons.mpr ⟨⟨(mj_lkP (by decide) rfl (by decide) mj_inU0 mjf_0_25 mj_TyOk0 mj_Nm0 (Or.inr ⟨rfl, by decide +kernel, rfl⟩) rfl), trivial⟩, ?_⟩
  refine List.forall_mem_cons.mpr ⟨⟨(trivial), trivial⟩, ?_⟩
  refine List.forall_mem_cons.mpr ⟨⟨(show (1 : Nat) < mj_maxL 0 by decide), trivial⟩, ?_⟩
  refine List.forall_mem_cons.mpr ⟨⟨(trivial), trivial⟩, ?_⟩
  refine List.forall_mem_cons.mpr ⟨⟨(trivial), trivial⟩, ?_⟩
  refine List.forall_mem_cons.mpr ⟨⟨(show (0 : Int) ≤ ((38 : Nat) : Int) + 22 by decide), trivial⟩, ?_⟩
  refine List.forall_mem_cons.mpr ⟨⟨(trivial), trivial⟩, ?_⟩
  refine List.forall_mem_cons.mpr ⟨⟨(mj_lkG (by decide) rfl (by decide) mj_inU0 mjf_0_11), trivial⟩, ?_⟩
  refine List.forall_mem_cons.mpr ⟨⟨(trivial), trivial⟩, ?_⟩
  refine List.forall_mem_cons.mpr ⟨⟨(mj_lkN (by decide) rfl mj_inU3 mj_TyOk3 (mj_Gin 22 (by decide +kernel) rfl) (mj_Gin 81 (by decide +kernel) rfl) (mj_Gin 4 (by decide +kernel) rfl) rfl (mj_noref (by decide +kernel)) (by decide +kernel)), trivial⟩, ?_⟩
  refine List.forall_mem_cons.mpr ⟨⟨(trivial), trivial⟩, ?_⟩
  refine List.forall_mem_cons.mpr ⟨⟨(trivial), mj_ckOf mjK_3 (by decide) (mj_lnkG mjl_0_29)⟩, ?_⟩
  refine List.forall_mem_cons.mpr ⟨⟨(trivial), trivial⟩, ?_⟩
  refine List.forall_mem_cons.mpr ⟨⟨(show (1 : Nat) < mj_maxL 0 by decide), trivial⟩, ?_⟩
  refine List.forall_mem_cons.mpr ⟨⟨(show (0 : Int) ≤ ((57 : Nat) : Int) + (-21) by decide), trivial⟩, ?_⟩
  refine List.forall_mem_cons.mpr ⟨⟨(trivial), trivial⟩, ?_⟩
  refine List.forall_mem_cons.mpr ⟨⟨(mj_lkN (by decide) rfl mj_inU5 mj_TyOk5 (mj_Gin 150 (by decide +kernel) rfl) (mj_Gin 151 (by decide +kernel) rfl) (mj_Gin 6 (by decide +kernel) rfl) rfl (mj_noref (by decide +kernel)) (by decide +kernel)), trivial⟩, ?_⟩
  refine List.forall_mem_cons.mpr ⟨⟨(trivial), trivial⟩, ?_⟩
  refine List.forall_mem_cons.mpr ⟨⟨(trivial), trivial⟩, ?_⟩
  refine List.forall_mem_cons.mpr ⟨⟨(mj_lkG (by decide) rfl (by decide) mj_inU0 mjf_0_11), trivial⟩, ?_⟩
  refine List.forall_mem_cons.mpr ⟨⟨(trivial), trivial⟩, ?_⟩
  refine List.forall_mem_cons.mpr ⟨⟨(mj_lkG (by decide) rfl (by decide) mj_inU0 mjf_0_25), trivial⟩, ?_⟩
  refine List.forall_mem_cons.mpr ⟨⟨(trivial), mj_ckOf mjK_5 (by decide) (mj_lnkG mjl_0_32)⟩, ?_⟩
  refine List.forall_mem_cons.mpr ⟨⟨(mj_lkP (by decide) rfl (by decide) mj_inU0 mjf_0_35 mj_TyOk0 mj_Nm0 (Or.inr ⟨rfl, by decide +kernel, rfl⟩) rfl), trivial⟩, ?_⟩
  refine List.forall_mem_cons.mpr ⟨⟨(trivial), trivial⟩, ?_⟩
  exact fun _ h => absurd h List.not_mem_nil
theorem mjd_0 : mj_ckd 0 = true := by decide +kernel
theorem mjg_0 : mj_good 0 := mj_goodOf (fun _ => ⟨mj_G, rfl⟩) (by decide +kernel) mjd_0 mje_0
theorem mje_1 : ∀ e ∈ mj_tb1, mj_lk 1 e.1 e.2.1 e.2.2.1 e.2.2.2 ∧ mj_cok 1 e.2.1 e.2.2.1 e.2.2.2 := by
  unfold mj_tb1
  refine List.forall_mem_cons.mpr ⟨⟨(trivial), trivial⟩, ?_⟩
  refine List.forall_mem_cons.mpr ⟨⟨(trivial), ⟨mj_Gws (mj_Gin 29 (by decide +kernel) rfl), mj_Gws (mj_Gin 20 (by decide +kernel) rfl), mj_Gws (mj_Gin 21 (by decide +kernel) rfl), by decide, by decide⟩⟩, ?_⟩
  refine List.forall_mem_cons.mpr ⟨⟨(trivial), trivial⟩, ?_⟩
  refine List.forall_mem_cons.mpr ⟨⟨(trivial), trivial⟩, ?_⟩
  refine List.forall_mem_cons.mpr ⟨⟨(mj_lkP (by decide) rfl (by decide) mj_inU1 mjf_1_9 mj_TyOk1 mj_Nm1 (Or.inl rfl) rfl), trivial⟩, ?_⟩
  refine List.forall_mem_cons.mpr ⟨⟨(trivial), trivial⟩, ?_⟩
  refine List.forall_mem_cons.mpr ⟨⟨(trivial), trivial⟩, ?_⟩
  refine List.forall_mem_cons.mpr ⟨⟨(⟨mj_Gws (mj_Gin 47 (by decide +kernel) rfl), Or.inl ⟨rfl, rfl⟩⟩), trivial⟩, ?_⟩
  refine List.forall_mem_cons.mpr ⟨⟨(mj_lkP (by decide) rfl (by decide) mj_inU1 mjf_1_15 mj_TyOk1 mj_Nm1 (Or.inr ⟨rfl, by decide +kernel, rfl⟩) rfl), trivial⟩, ?_⟩
  refine List.forall_mem_cons.mpr ⟨⟨(trivial), trivial⟩, ?_⟩
  exact fun _ h => absurd h List.not_mem_nil
theorem mjd_1 : mj_ckd 1 = true := by decide +kernel
theorem mjg_1 : mj_good 1 := mj_goodOf (fun _ => ⟨mj_G, rfl⟩) (by decide +kernel) mjd_1 mje_1
theorem mje_2 : ∀ e ∈ mj_tb2, mj_lk 2 e.1 e.2.1 e.2.2.1 e.2.2.2 ∧ mj_cok 2 e.2.1 e.2.2.1 e.2.2.2 := by
  unfold mj_tb2
  refine List.forall_mem_cons.mpr ⟨⟨(trivial), trivial⟩, ?_⟩
  refine List.forall_mem_cons.mpr ⟨⟨(trivial), ⟨mj_Gws (mj_Gin 53 (by decide +kernel) rfl), mj_Gws (mj_Gin 20 (by decide +kernel) rfl), mj_Gws (mj_Gin 21 (by decide +kernel) rfl), by decide, by decide⟩⟩, ?_⟩
  refine List.forall_mem_cons.mpr ⟨⟨(trivial), trivial⟩, ?_⟩
  refine List.forall_mem_cons.mpr ⟨⟨(trivial), trivial⟩, ?_⟩
  refine List.forall_mem_cons.mpr ⟨⟨(⟨mj_Gws (mj_Gin 47 (by decide +kernel) rfl), Or.inl ⟨rfl, rfl⟩⟩), trivial⟩, ?_⟩
  refine List.forall_mem_cons.mpr ⟨⟨(mj_lkP (by decide) rfl (by decide) mj_inU2 mjf_2_9 mj_TyOk2 mj_Nm2 (Or.inr ⟨rfl, by decide +kernel, rfl⟩) rfl), trivial⟩, ?_⟩
  refine List.forall_mem_cons.mpr ⟨⟨(trivial), trivial⟩, ?_⟩
  refine List.forall_mem_cons.mpr ⟨⟨(trivial), trivial⟩, ?_⟩
  refine List.forall_mem_cons.mpr ⟨⟨(trivial), trivial⟩, ?_⟩
  refine List.forall_mem_cons.mpr ⟨⟨(⟨rfl, rfl, mj_Gws (mj_Gin 54 (by decide +kernel) rfl), by decide +kernel, mj_Gws (mj_Gin 47 (by decide +kernel) rfl)⟩), trivial⟩, ?_⟩
  refine List.forall_mem_cons.mpr ⟨⟨(mj_lkP (by decide) rfl (by decide) mj_inU2 mjf_2_17 mj_TyOk2 mj_Nm2 (Or.inr ⟨rfl, by decide +kernel, rfl⟩) rfl), trivial⟩, ?_⟩
  refine List.forall_mem_cons.mpr ⟨⟨(trivial), trivial⟩, ?_⟩
  refine List.forall_mem_cons.mpr ⟨⟨(trivial), trivial⟩, ?_⟩
  refine List.forall_mem_cons.mpr ⟨⟨(⟨mj_Gws (mj_Gin 47 (by decide +kernel) rfl), Or.inl ⟨rfl, rfl⟩⟩), trivial⟩, ?_⟩
  refine List.forall_mem_cons.mpr ⟨⟨(mj_lkP (by decide) rfl (by decide) mj_inU2 mjf_2_20 mj_TyOk2 mj_Nm2 (Or.inr ⟨rfl, by decide +kernel, rfl⟩) rfl), trivial⟩, ?_⟩
  refine List.forall_mem_cons.mpr ⟨⟨(trivial), trivial⟩, ?_⟩
  refine List.forall_mem_cons.mpr ⟨⟨(trivial), trivial⟩, ?_⟩
  refine List.forall_mem_cons.mpr ⟨⟨(⟨mj_Gws (mj_Gin 47 (by decide +kernel) rfl), Or.inl ⟨rfl, rfl⟩⟩), trivial⟩, ?_⟩
  refine List.forall_mem_cons.mpr ⟨⟨(mj_lkP (by decide) rfl (by decide) mj_inU2 mjf_2_23 mj_TyOk2 mj_Nm2 (Or.inr ⟨rfl, by decide +kernel, rfl⟩) rfl), trivial⟩, ?_⟩
  refine List.forall_mem_cons.mpr ⟨⟨(trivial), trivial⟩, ?_⟩
  refine List.forall_mem_cons.mpr ⟨⟨(trivial), trivial⟩, ?_⟩
  refine List.forall_mem_cons.mpr ⟨⟨(⟨mj_Gws (mj_Gin 47 (by decide +kernel) rfl), Or.inl ⟨rfl, rfl⟩⟩), trivial⟩, ?_⟩
  refine List.forall_mem_cons.mpr ⟨⟨(mj_lkP (by decide) rfl (by decide) mj_inU2 mjf_2_26 mj_TyOk2 mj_Nm2 (Or.inr ⟨rfl, by decide +kernel, rfl⟩) rfl), trivial⟩, ?_⟩
  refine List.forall_mem_cons.mpr ⟨⟨(trivial), trivial⟩, ?_⟩
  exact fun _ h => absurd h List.not_mem_nil
theorem mjd_2 : mj_ckd 2 = true := by decide +kernel
theorem mjg_2 : mj_good 2 := mj_goodOf (fun _ => ⟨mj_G, rfl⟩) (by decide +kernel) mjd_2 mje_2
theorem mje_3 : ∀ e ∈ mj_tb3, mj_lk 3 e.1 e.2.1 e.2.2.1 e.2.2.2 ∧ mj_cok 3 e.2.1 e.2.2.1 e.2.2.2 := by
  unfold mj_tb3
  refine List.forall_mem_cons.mpr ⟨⟨(trivial), trivial⟩, ?_⟩
  refine List.forall_mem_cons.mpr ⟨⟨(trivial), ⟨mj_Gws (mj_Gin 85 (by decide +kernel) rfl), mj_Gws (mj_Gin 20 (by decide +kernel) rfl), mj_Gws (mj_Gin 21 (by decide +kernel) rfl), by decide, by decide⟩⟩, ?_⟩
  refine List.forall_mem_cons.mpr ⟨⟨(trivial), trivial⟩, ?_⟩
  refine List.forall_mem_cons.mpr ⟨⟨(trivial), trivial⟩, ?_⟩
  refine List.forall_mem_cons.mpr ⟨⟨(⟨_, by decide, by decide, rfl, mj_Gws (mj_Gin 86 (by decide +kernel) rfl), by decide +kernel⟩), trivial⟩, ?_⟩
  refine List.forall_mem_cons.mpr ⟨⟨(mj_lkP (by decide) rfl (by decide) mj_inU3 mjf_3_11 mj_TyOk3 mj_Nm3 (Or.inr ⟨rfl, by decide +kernel, rfl⟩) rfl), trivial⟩, ?_⟩
  refine List.forall_mem_cons.mpr ⟨⟨(trivial), trivial⟩, ?_⟩
  refine List.forall_mem_cons.mpr ⟨⟨(show (1 : Nat) < mj_maxL 3 by decide), trivial⟩, ?_⟩
  refine List.forall_mem_cons.mpr ⟨⟨(trivial), trivial⟩, ?_⟩
  refine List.forall_mem_cons.mpr ⟨⟨(trivial), trivial⟩, ?_⟩
  refine List.forall_mem_cons.mpr ⟨⟨(show (0 : Int) ≤ ((16 : Nat) : Int) + 22 by decide), trivial⟩, ?_⟩
  refine List.forall_mem_cons.mpr ⟨⟨(trivial), trivial⟩, ?_⟩
  refine List.forall_mem_cons.mpr ⟨⟨(mj_lkG (by decide) rfl (by decide) mj_inU3 mjf_3_11), trivial⟩, ?_⟩
  refine List.forall_mem_cons.mpr ⟨⟨(trivial), trivial⟩, ?_⟩
  refine List.forall_mem_cons.mpr ⟨⟨(mj_lkN (by decide) rfl mj_inU4 mj_TyOk4 (mj_Gin 86 (by decide +kernel) rfl) (mj_Gin 88 (by decide +kernel) rfl) (mj_Gin 5 (by decide +kernel) rfl) rfl (mj_noref (by decide +kernel)) (by decide +kernel)), trivial⟩, ?_⟩
  refine List.forall_mem_cons.mpr ⟨⟨(trivial), trivial⟩, ?_⟩
  refine List.forall_mem_cons.mpr ⟨⟨(trivial), mj_ckOf mjK_4 (by decide) (Or.inr mjl_3_17)⟩, ?_⟩
  refine List.forall_mem_cons.mpr ⟨⟨(trivial), trivial⟩, ?_⟩
  refine List.forall_mem_cons.mpr ⟨⟨(show (1 : Nat) < mj_maxL 3 by decide), trivial⟩, ?_⟩
  refine List.forall_mem_cons.mpr ⟨⟨(show (0 : Int) ≤ ((35 : Nat) : Int) + (-21) by decide), trivial⟩, ?_⟩
  refine List.forall_mem_cons.mpr ⟨⟨(trivial), trivial⟩, ?_⟩
  exact fun _ h => absurd h List.not_mem_nil
theorem mjd_3 : mj_ckd 3 = true := by decide +kernel
theorem mjg_3 : mj_good 3 := mj_goodOf (fun _ => ⟨mj_G, rfl⟩) (by decide +kernel) mjd_3 mje_3
theorem mje_4 : ∀ e ∈ mj_tb4, mj_lk 4 e.1 e.2.1 e.2.2.1 e.2.2.2 ∧ mj_cok 4 e.2.1 e.2.2.1 e.2.2.2 := by
  unfold mj_tb4
  refine List.forall_mem_cons.mpr ⟨⟨(trivial), trivial⟩, ?_⟩
  refine List.forall_mem_cons.mpr ⟨⟨(trivial), ⟨mj_Gws (mj_Gin 92 (by decide +kernel) rfl), mj_Gws (mj_Gin 20 (by decide +kernel) rfl), mj_Gws (mj_Gin 21 (by decide +kernel) rfl), by decide, by decide⟩⟩, ?_⟩
  refine List.forall_mem_cons.mpr ⟨⟨(trivial), trivial⟩, ?_⟩
  refine List.forall_mem_cons.mpr ⟨⟨(trivial), trivial⟩, ?_⟩
  refine List.forall_mem_cons.mpr ⟨⟨(⟨mj_Gws (mj_Gin 47 (by decide +kernel) rfl), Or.inl ⟨rfl, rfl⟩⟩), trivial⟩, ?_⟩
  refine List.forall_mem_cons.mpr ⟨⟨(mj_lkP (by decide) rfl (by decide) mj_inU4 mjf_4_9 mj_TyOk4 mj_Nm4 (Or.inr ⟨rfl, by decide +kernel, rfl⟩) rfl), trivial⟩, ?_⟩
  refine List.forall_mem_cons.mpr ⟨⟨(trivial), trivial⟩, ?_⟩
  refine List.forall_mem_cons.mpr ⟨⟨(trivial), trivial⟩, ?_⟩
  refine List.forall_mem_cons.mpr ⟨⟨(⟨mj_Gws (mj_Gin 47 (by decide +kernel) rfl), Or.inl ⟨rfl, rfl⟩⟩), trivial⟩, ?_⟩
  refine List.forall_mem_cons.mpr ⟨⟨(mj_lkP (by decide) rfl (by decide) mj_inU4 mjf_4_15 mj_TyOk4 mj_Nm4 (Or.inr ⟨rfl, by decide +kernel, rfl⟩) rfl), trivial⟩, ?_⟩
  refine List.forall_mem_cons.mpr ⟨⟨(trivial), trivial⟩, ?_⟩
  refine List.forall_mem_cons.mpr ⟨⟨(trivial), trivial⟩, ?_⟩
  refine List.forall_mem_cons.mpr ⟨⟨(⟨mj_Gws (mj_Gin 47 (by decide +kernel) rfl), Or.inl ⟨rfl, rfl⟩⟩), trivial⟩, ?_⟩
  refine List.forall_mem_cons.mpr ⟨⟨(mj_lkP (by decide) rfl (by decide) mj_inU4 mjf_4_18 mj_TyOk4 mj_Nm4 (Or.inr ⟨rfl, by decide +kernel, rfl⟩) rfl), trivial⟩, ?_⟩
  refine List.forall_mem_cons.mpr ⟨⟨(trivial), trivial⟩, ?_⟩
  refine List.forall_mem_cons.mpr ⟨⟨(trivial), trivial⟩, ?_⟩
  refine List.forall_mem_cons.mpr ⟨⟨(⟨mj_Gws (mj_Gin 47 (by decide +kernel) rfl), Or.inl ⟨rfl, rfl⟩⟩), trivial⟩, ?_⟩
  refine List.forall_mem_cons.mpr ⟨⟨(mj_lkP (by decide) rfl (by decide) mj_inU4 mjf_4_21 mj_TyOk4 mj_Nm4 (Or.inr ⟨rfl, by decide +kernel, rfl⟩) rfl), trivial⟩, ?_⟩
  refine List.forall_mem_cons.mpr ⟨⟨(trivial), trivial⟩, ?_⟩
  exact fun _ h => absurd h List.not_mem_nil
theorem mjd_4 : mj_ckd 4 = true := by decide +kernel
theorem mjg_4 : mj_good 4 := mj_goodOf (fun _ => ⟨mj_G, rfl⟩) (by decide +kernel) mjd_4 mje_4
theorem mje_5 : ∀ e ∈ mj_tb5, mj_lk 5 e.1 e.2.1 e.2.2.1 e.2.2.2 ∧ mj_cok 5 e.2.1 e.2.2.1 e.2.2.2 := by
  unfold mj_tb5
  refine List.forall_mem_cons.mpr ⟨⟨(trivial), trivial⟩, ?_⟩
  refine List.forall_mem_cons.mpr ⟨⟨(trivial), ⟨mj_Gws (mj_Gin 155 (by decide +kernel) rfl), mj_Gws (mj_Gin 20 (by decide +kernel) rfl), mj_Gws (mj_Gin 21 (by decide +kernel) rfl), by decide, by decide⟩⟩, ?_⟩
  refine List.forall_mem_cons.mpr ⟨⟨(trivial), trivial⟩, ?_⟩
  refine List.forall_mem_cons.mpr ⟨⟨(trivial), trivial⟩, ?_⟩
  refine List.forall_mem_cons.mpr ⟨⟨(⟨_, by decide, by decide, rfl, mj_Gws (mj_Gin 156 (by decide +kernel) rfl), by decide +kernel⟩), trivial⟩, ?_⟩
  refine List.forall_mem_cons.mpr ⟨⟨(mj_lkP (by decide) rfl (by decide) mj_inU5 mjf_5_11 mj_TyOk5 mj_Nm5 (Or.inr ⟨rfl, by decide +kernel, rfl⟩) rfl), trivial⟩, ?_⟩
  refine List.forall_mem_cons.mpr ⟨⟨(trivial), trivial⟩, ?_⟩
  refine List.forall_mem_cons.mpr ⟨⟨(trivial), trivial⟩, ?_⟩
  refine List.forall_mem_cons.mpr ⟨⟨(⟨mj_Gws (mj_Gin 47 (by decide +kernel) rfl), Or.inl ⟨rfl, rfl⟩⟩), trivial⟩, ?_⟩
  refine List.forall_mem_cons.mpr ⟨⟨(mj_lkP (by decide) rfl (by decide) mj_inU5 mjf_5_17 mj_TyOk5 mj_Nm5 (Or.inr ⟨rfl, by decide +kernel, rfl⟩) rfl), trivial⟩, ?_⟩
  refine List.forall_mem_cons.mpr ⟨⟨(trivial), trivial⟩, ?_⟩
  refine List.forall_mem_cons.mpr ⟨⟨(mj_lkN (by decide) rfl mj_inU7 mj_TyOk7 (mj_Gin 158 (by decide +kernel) rfl) (mj_Gin 159 (by decide +kernel) rfl) (mj_Gin 7 (by decide +kernel) rfl) rfl (mj_noref (by decide +kernel)) (by decide +kernel)), trivial⟩, ?_⟩
  refine List.forall_mem_cons.mpr ⟨⟨(trivial), trivial⟩, ?_⟩
  refine List.forall_mem_cons.mpr ⟨⟨(trivial), mj_ckOf mjK_6 (by decide) (Or.inr mjl_5_23)⟩, ?_⟩
  refine List.forall_mem_cons.mpr ⟨⟨(mj_lkP (by decide) rfl (by decide) mj_inU5 mjf_5_24 mj_TyOk5 mj_Nm5 (Or.inr ⟨rfl, by decide +kernel, rfl⟩) rfl), trivial⟩, ?_⟩
  refine List.forall_mem_cons.mpr ⟨⟨(trivial), trivial⟩, ?_⟩
  refine List.forall_mem_cons.mpr ⟨⟨(trivial), trivial⟩, ?_⟩
  refine List.forall_mem_cons.mpr ⟨⟨(⟨_, by decide, by decide, rfl, mj_Gws (mj_Gin 181 (by decide +kernel) rfl), by decide +kernel⟩), trivial⟩, ?_⟩
  refine List.forall_mem_cons.mpr ⟨⟨(mj_lkP (by decide) rfl (by decide) mj_inU5 mjf_5_30 mj_TyOk5 mj_Nm5 (Or.inr ⟨rfl, by decide +kernel, rfl⟩) rfl), trivial⟩, ?_⟩
  refine List.forall_mem_cons.mpr ⟨⟨(trivial), trivial⟩, ?_⟩
  refine List.forall_mem_cons.mpr ⟨⟨(trivial), trivial⟩, ?_⟩
  refine List.forall_mem_cons.mpr ⟨⟨(mj_lkP (by decide) rfl (by decide) mj_inU5 mjf_5_34 mj_TyOk5 mj_Nm5 (Or.inr ⟨rfl, by decide +kernel, rfl⟩) rfl), trivial⟩, ?_⟩
  refine List.forall_mem_cons.mpr ⟨⟨(trivial), trivial⟩, ?_⟩
  refine List.forall_mem_cons.mpr ⟨⟨(show (3 : Nat) < mj_maxL 5 by decide), trivial⟩, ?_⟩
  refine List.forall_mem_cons.mpr ⟨⟨(trivial), trivial⟩, ?_⟩
  refine List.forall_mem_cons.mpr ⟨⟨(trivial), trivial⟩, ?_⟩
  refine List.forall_mem_cons.mpr ⟨⟨(show (0 : Int) ≤ ((47 : Nat) : Int) + 25 by decide), trivial⟩, ?_⟩
  refine List.forall_mem_cons.mpr ⟨⟨(trivial), trivial⟩, ?_⟩
  refine List.forall_mem_cons.mpr ⟨⟨(mj_lkG (by decide) rfl (by decide) mj_inU5 mjf_5_11), trivial⟩, ?_⟩
  refine List.forall_mem_cons.mpr ⟨⟨(trivial), trivial⟩, ?_⟩
  refine List.forall_mem_cons.mpr ⟨⟨(mj_lkN (by decide) rfl mj_inU8 mj_TyOk8 (mj_Gin 156 (by decide +kernel) rfl) (mj_Gin 183 (by decide +kernel) rfl) (mj_Gin 8 (by decide +kernel) rfl) rfl (mj_noref (by decide +kernel)) (by decide +kernel)), trivial⟩, ?_⟩
  refine List.forall_mem_cons.mpr ⟨⟨(trivial), trivial⟩, ?_⟩
  refine List.forall_mem_cons.mpr ⟨⟨(trivial), trivial⟩, ?_⟩
  refine List.forall_mem_cons.mpr ⟨⟨(trivial), trivial⟩, ?_⟩
  refine List.forall_mem_cons.mpr ⟨⟨(trivial), trivial⟩, ?_⟩
  refine List.forall_mem_cons.mpr ⟨⟨(trivial), mj_ckOf mjK_7 (by decide) (mj_lnkG mjl_5_38)⟩, ?_⟩
  refine List.forall_mem_cons.mpr ⟨⟨(trivial), trivial⟩, ?_⟩
  refine List.forall_mem_cons.mpr ⟨⟨(show (3 : Nat) < mj_maxL 5 by decide), trivial⟩, ?_⟩
  refine List.forall_mem_cons.mpr ⟨⟨(show (0 : Int) ≤ ((69 : Nat) : Int) + (-24) by decide), trivial⟩, ?_⟩
  refine List.forall_mem_cons.mpr ⟨⟨(trivial), trivial⟩, ?_⟩
  refine List.forall_mem_cons.mpr ⟨⟨(show (3 : Nat) < mj_maxL 5 by decide), trivial⟩, ?_⟩
  refine List.forall_mem_cons.mpr ⟨⟨(trivial), trivial⟩, ?_⟩
  refine List.forall_mem_cons.mpr ⟨⟨(trivial), trivial⟩, ?_⟩
  refine List.forall_mem_cons.mpr ⟨⟨(show (0 : Int) ≤ ((76 : Nat) : Int) + 22 by decide), trivial⟩, ?_⟩
  refine List.forall_mem_cons.mpr ⟨⟨(trivial), trivial⟩, ?_⟩
  refine List.forall_mem_cons.mpr ⟨⟨(mj_lkG (by decide) rfl (by decide) mj_inU5 mjf_5_30), trivial⟩, ?_⟩
  refine List.forall_mem_cons.mpr ⟨⟨(trivial), trivial⟩, ?_⟩
  refine List.forall_mem_cons.mpr ⟨⟨(mj_lkN (by decide) rfl mj_inU9 mj_TyOk9 (mj_Gin 181 (by decide +kernel) rfl) (mj_Gin 279 (by decide +kernel) rfl) (mj_Gin 10 (by decide +kernel) rfl) rfl (mj_noref (by decide +kernel)) (by decide +kernel)), trivial⟩, ?_⟩
  refine List.forall_mem_cons.mpr ⟨⟨(trivial), trivial⟩, ?_⟩
  refine List.forall_mem_cons.mpr ⟨⟨(trivial), mj_ckOf mjK_9 (by decide) (Or.inr mjl_5_41)⟩, ?_⟩
  refine List.forall_mem_cons.mpr ⟨⟨(trivial), trivial⟩, ?_⟩
  refine List.forall_mem_cons.mpr ⟨⟨(show (3 : Nat) < mj_maxL 5 by decide), trivial⟩, ?_⟩
  refine List.forall_mem_cons.mpr ⟨⟨(show (0 : Int) ≤ ((95 : Nat) : Int) + (-21) by decide), trivial⟩, ?_⟩
  refine List.forall_mem_cons.mpr ⟨⟨(trivial), trivial⟩, ?_⟩
  exact fun _ h => absurd h List.not_mem_nil
theorem mjd_5 : mj_ckd 5 = true := by decide +kernel
theorem mjg_5 : mj_good 5 := mj_goodOf (fun _ => ⟨mj_G, rfl⟩) (by decide +kernel) mjd_5 mje_5
theorem mje_6 : ∀ e ∈ mj_tb6, mj_lk 6 e.1 e.2.1 e.2.2.1 e.2.2.2 ∧ mj_cok 6 e.2.1 e.2.2.1 e.2.2.2 := by
  unfold mj_tb6
  refine List.forall_mem_cons.mpr ⟨⟨(trivial), trivial⟩, ?_⟩
  refine List.forall_mem_cons.mpr ⟨⟨(trivial), ⟨mj_Gws (mj_Gin 163 (by decide +kernel) rfl), mj_Gws (mj_Gin 20 (by decide +kernel) rfl), mj_Gws (mj_Gin 21 (by decide +kernel) rfl), by decide, by decide⟩⟩, ?_⟩
  refine List.forall_mem_cons.mpr ⟨⟨(trivial), trivial⟩, ?_⟩
  refine List.forall_mem_cons.mpr ⟨⟨(trivial), trivial⟩, ?_⟩
  refine List.forall_mem_cons.mpr ⟨⟨(⟨mj_Gws (mj_Gin 47 (by decide +kernel) rfl), Or.inl ⟨rfl, rfl⟩⟩), trivial⟩, ?_⟩
  refine List.forall_mem_cons.mpr ⟨⟨(mj_lkP (by decide) rfl (by decide) mj_inU7 mjf_7_9 mj_TyOk7 mj_Nm7 (Or.inr ⟨rfl, by decide +kernel, rfl⟩) rfl), trivial⟩, ?_⟩
  refine List.forall_mem_cons.mpr ⟨⟨(trivial), trivial⟩, ?_⟩
  refine List.forall_mem_cons.mpr ⟨⟨(trivial), trivial⟩, ?_⟩
  refine List.forall_mem_cons.mpr ⟨⟨(⟨mj_Gws (mj_Gin 47 (by decide +kernel) rfl), Or.inl ⟨rfl, rfl⟩⟩), trivial⟩, ?_⟩
  refine List.forall_mem_cons.mpr ⟨⟨(mj_lkP (by decide) rfl (by decide) mj_inU7 mjf_7_15 mj_TyOk7 mj_Nm7 (Or.inr ⟨rfl, by decide +kernel, rfl⟩) rfl), trivial⟩, ?_⟩
  refine List.forall_mem_cons.mpr ⟨⟨(trivial), trivial⟩, ?_⟩
  refine List.forall_mem_cons.mpr ⟨⟨(trivial), trivial⟩, ?_⟩
  refine List.forall_mem_cons.mpr ⟨⟨(⟨mj_Gws (mj_Gin 47 (by decide +kernel) rfl), Or.inl ⟨rfl, rfl⟩⟩), trivial⟩, ?_⟩
  refine List.forall_mem_cons.mpr ⟨⟨(mj_lkP (by decide) rfl (by decide) mj_inU7 mjf_7_18 mj_TyOk7 mj_Nm7 (Or.inr ⟨rfl, by decide +kernel, rfl⟩) rfl), trivial⟩, ?_⟩
  refine List.forall_mem_cons.mpr ⟨⟨(trivial), trivial⟩, ?_⟩
  refine List.forall_mem_cons.mpr ⟨⟨(trivial), trivial⟩, ?_⟩
  refine List.forall_mem_cons.mpr ⟨⟨(⟨mj_Gws (mj_Gin 47 (by decide +kernel) rfl), Or.inl ⟨rfl, rfl⟩⟩), trivial⟩, ?_⟩
  refine List.forall_mem_cons.mpr ⟨⟨(mj_lkP (by decide) rfl (by decide) mj_inU7 mjf_7_21 mj_TyOk7 mj_Nm7 (Or.inr ⟨rfl, by decide +kernel, rfl⟩) rfl), trivial⟩, ?_⟩
  refine List.forall_mem_cons.mpr ⟨⟨(trivial), trivial⟩, ?_⟩
  exact fun _ h => absurd h List.not_mem_nil
theorem mjd_6 : mj_ckd 6 = true := by decide +kernel
theorem mjg_6 : mj_good 6 := mj_goodOf (fun _ => ⟨mj_G, rfl⟩) (by decide +kernel) mjd_6 mje_6
theorem mje_7 : ∀ e ∈ mj_tb7, mj_lk 7 e.1 e.2.1 e.2.2.1 e.2.2.2 ∧ mj_cok 7 e.2.1 e.2.2.1 e.2.2.2 := by
  unfold mj_tb7
  refine List.forall_mem_cons.mpr ⟨⟨(trivial), trivial⟩, ?_⟩
  refine List.forall_mem_cons.mpr ⟨⟨(trivial), ⟨mj_Gws (mj_Gin 187 (by decide +kernel) rfl), mj_Gws (mj_Gin 20 (by decide +kernel) rfl), mj_Gws (mj_Gin 21 (by decide +kernel) rfl), by decide, by decide⟩⟩, ?_⟩
  refine List.forall_mem_cons.mpr ⟨⟨(trivial), trivial⟩, ?_⟩
  refine List.forall_mem_cons.mpr ⟨⟨(trivial), trivial⟩, ?_⟩
  refine List.forall_mem_cons.mpr ⟨⟨(⟨mj_Gws (mj_Gin 47 (by decide +kernel) rfl), Or.inl ⟨rfl, rfl⟩⟩), trivial⟩, ?_⟩
  refine List.forall_mem_cons.mpr ⟨⟨(mj_lkP (by decide) rfl (by decide) mj_inU8 mjf_8_9 mj_TyOk8 mj_Nm8 (Or.inr ⟨rfl, by decide +kernel, rfl⟩) rfl), trivial⟩, ?_⟩
  refine List.forall_mem_cons.mpr ⟨⟨(trivial), trivial⟩, ?_⟩
  refine List.forall_mem_cons.mpr ⟨⟨(trivial), trivial⟩, ?_⟩
  refine List.forall_mem_cons.mpr ⟨⟨(mj_lkP (by decide) rfl (by decide) mj_inU8 mjf_8_15 mj_TyOk8 mj_Nm8 (Or.inr ⟨rfl, by decide +kernel, rfl⟩) rfl), trivial⟩, ?_⟩
  refine List.forall_mem_cons.mpr ⟨⟨(trivial), trivial⟩, ?_⟩
  refine List.forall_mem_cons.mpr ⟨⟨(mj_lkN (by decide) rfl mj_inU6 mj_TyOk6 (mj_Gin 188 (by decide +kernel) rfl) (mj_Gin 189 (by decide +kernel) rfl) (mj_Gin 9 (by decide +kernel) rfl) rfl (mj_noref (by decide +kernel)) (by decide +kernel)), trivial⟩, ?_⟩
  refine List.forall_mem_cons.mpr ⟨⟨(trivial), trivial⟩, ?_⟩
  refine List.forall_mem_cons.mpr ⟨⟨(trivial), trivial⟩, ?_⟩
  refine List.forall_mem_cons.mpr ⟨⟨(mj_lkG (by decide) rfl (by decide) mj_inU3 mjf_8_21), trivial⟩, ?_⟩
  refine List.forall_mem_cons.mpr ⟨⟨(trivial), mj_ckOf mjK_8 (by decide) (mj_lnkG mjl_8_27)⟩, ?_⟩
  refine List.forall_mem_cons.mpr ⟨⟨(mj_lkP (by decide) rfl (by decide) mj_inU8 mjf_8_30 mj_TyOk8 mj_Nm8 (Or.inr ⟨rfl, by decide +kernel, rfl⟩) rfl), trivial⟩, ?_⟩
  refine List.forall_mem_cons.mpr ⟨⟨(trivial), trivial⟩, ?_⟩
  exact fun _ h => absurd h List.not_mem_nil
theorem mjd_7 : mj_ckd 7 = true := by decide +kernel
theorem mjg_7 : mj_good 7 := mj_goodOf (fun _ => ⟨mj_G, rfl⟩) (by decide +kernel) mjd_7 mje_7
theorem mje_8 : ∀ e ∈ mj_tb8, mj_lk 8 e.1 e.2.1 e.2.2.1 e.2.2.2 ∧ mj_cok 8 e.2.1 e.2.2.1 e.2.2.2 := by
  unfold mj_tb8
  refine List.forall_mem_cons.mpr ⟨⟨(trivial), trivial⟩, ?_⟩
  refine List.forall_mem_cons.mpr ⟨⟨(trivial), ⟨mj_Gws (mj_Gin 193 (by decide +kernel) rfl), mj_Gws (mj_Gin 20 (by decide +kernel) rfl), mj_Gws (mj_Gin 21 (by decide +kernel) rfl), by decide, by decide⟩⟩, ?_⟩
  refine List.forall_mem_cons.mpr ⟨⟨(trivial), trivial⟩, ?_⟩
  refine List.forall_mem_cons.mpr ⟨⟨(trivial), trivial⟩, ?_⟩
  refine List.forall_mem_cons.mpr ⟨⟨(⟨mj_Gws (mj_Gin 47 (by decide +kernel) rfl), Or.inl ⟨rfl, rfl⟩⟩), trivial⟩, ?_⟩
  refine List.forall_mem_cons.mpr ⟨⟨(mj_lkP (by decide) rfl (by decide) mj_inU6 mjf_6_9 mj_TyOk6 mj_Nm6 (Or.inr ⟨rfl, by decide +kernel, rfl⟩) rfl), trivial⟩, ?_⟩
  refine List.forall_mem_cons.mpr ⟨⟨(trivial), trivial⟩, ?_⟩
  refine List.forall_mem_cons.mpr ⟨⟨(trivial), trivial⟩, ?_⟩
  refine List.forall_mem_cons.mpr ⟨⟨(⟨mj_Gws (mj_Gin 47 (by decide +kernel) rfl), Or.inl ⟨rfl, rfl⟩⟩), trivial⟩, ?_⟩
  refine List.forall_mem_cons.mpr ⟨⟨(mj_lkP (by decide) rfl (by decide) mj_inU6 mjf_6_15 mj_TyOk6 mj_Nm6 (Or.inr ⟨rfl, by decide +kernel, rfl⟩) rfl), trivial⟩, ?_⟩
  refine List.forall_mem_cons.mpr ⟨⟨(trivial), trivial⟩, ?_⟩
  refine List.forall_mem_cons.mpr ⟨⟨(trivial), trivial⟩, ?_⟩
  refine List.forall_mem_cons.mpr ⟨⟨(⟨mj_Gws (mj_Gin 47 (by decide +kernel) rfl), Or.inl ⟨rfl, rfl⟩⟩), trivial⟩, ?_⟩
  refine List.forall_mem_cons.mpr ⟨⟨(mj_lkP (by decide) rfl (by decide) mj_inU6 mjf_6_18 mj_TyOk6 mj_Nm6 (Or.inr ⟨rfl, by decide +kernel, rfl⟩) rfl), trivial⟩, ?_⟩
  refine List.forall_mem_cons.mpr ⟨⟨(trivial), trivial⟩, ?_⟩
  refine List.forall_mem_cons.mpr ⟨⟨(trivial), trivial⟩, ?_⟩
  refine List.forall_mem_cons.mpr ⟨⟨(trivial), trivial⟩, ?_⟩
  refine List.forall_mem_cons.mpr ⟨⟨(⟨rfl, rfl, mj_Gws (mj_Gin 194 (by decide +kernel) rfl), by decide +kernel, mj_Gws (mj_Gin 47 (by decide +kernel) rfl)⟩), trivial⟩, ?_⟩
  refine List.forall_mem_cons.mpr ⟨⟨(mj_lkP (by decide) rfl (by decide) mj_inU6 mjf_6_23 mj_TyOk6 mj_Nm6 (Or.inr ⟨rfl, by decide +kernel, rfl⟩) rfl), trivial⟩, ?_⟩
  refine List.forall_mem_cons.mpr ⟨⟨(trivial), trivial⟩, ?_⟩
  refine List.forall_mem_cons.mpr ⟨⟨(trivial), trivial⟩, ?_⟩
  refine List.forall_mem_cons.mpr ⟨⟨(mj_lkP (by decide) rfl (by decide) mj_inU6 mjf_6_26 mj_TyOk6 mj_Nm6 (Or.inr ⟨rfl, by decide +kernel, rfl⟩) rfl), trivial⟩, ?_⟩
  refine List.forall_mem_cons.mpr ⟨⟨(trivial), trivial⟩, ?_⟩
  exact fun _ h => absurd h List.not_mem_nil
theorem mjd_8 : mj_ckd 8 = true := by decide +kernel
theorem mjg_8 : mj_good 8 := mj_goodOf (fun _ => ⟨mj_G, rfl⟩) (by decide +kernel) mjd_8 mje_8
theorem mje_9 : ∀ e ∈ mj_tb9, mj_lk 9 e.1 e.2.1 e.2.2.1 e.2.2.2 ∧ mj_cok 9 e.2.1 e.2.2.1 e.2.2.2 := by
  unfold mj_tb9
  refine List.forall_mem_cons.mpr ⟨⟨(trivial), trivial⟩, ?_⟩
  refine List.forall_mem_cons.mpr ⟨⟨(trivial), ⟨mj_Gws (mj_Gin 283 (by decide +kernel) rfl), mj_Gws (mj_Gin 20 (by decide +kernel) rfl), mj_Gws (mj_Gin 21 (by decide +kernel) rfl), by decide, by decide⟩⟩, ?_⟩
  refine List.forall_mem_cons.mpr ⟨⟨(trivial), trivial⟩, ?_⟩
  refine List.forall_mem_cons.mpr ⟨⟨(trivial), trivial⟩, ?_⟩
  refine List.forall_mem_cons.mpr ⟨⟨(⟨mj_Gws (mj_Gin 47 (by decide +kernel) rfl), Or.inl ⟨rfl, rfl⟩⟩), trivial⟩, ?_⟩
  refine List.forall_mem_cons.mpr ⟨⟨(mj_lkP (by decide) rfl (by decide) mj_inU9 mjf_9_9 mj_TyOk9 mj_Nm9 (Or.inr ⟨rfl, by decide +kernel, rfl⟩) rfl), trivial⟩, ?_⟩
  refine List.forall_mem_cons.mpr ⟨⟨(trivial), trivial⟩, ?_⟩
  exact fun _ h => absurd h List.not_mem_nil
theorem mjd_9 : mj_ckd 9 = true := by decide +kernel
theorem mjg_9 : mj_good 9 := mj_goodOf (fun _ => ⟨mj_G, rfl⟩) (by decide +kernel) mjd_9 mje_9
theorem mje_10 : ∀ e ∈ mj_tb10, mj_lk 10 e.1 e.2.1 e.2.2.1 e.2.2.2 ∧ mj_cok 10 e.2.1 e.2.2.1 e.2.2.2 := by
  unfold mj_tb10
  refine List.forall_mem_cons.mpr ⟨⟨(trivial), trivial⟩, ?_⟩
  refine List.forall_mem_cons.mpr ⟨⟨(trivial), trivial⟩, ?_⟩
  refine List.forall_mem_cons.mpr ⟨⟨(trivial), trivial⟩, ?_⟩
  refine List.forall_mem_cons.mpr ⟨⟨(trivial), mj_ckOf mjK_11 (by decide) (mj_lnkG mjl_0_39)⟩, ?_⟩
  refine List.forall_mem_cons.mpr ⟨⟨(show (0 : Int) ≤ ((8 : Nat) : Int) + 27 by decide), trivial⟩, ?_⟩
  refine List.forall_mem_cons.mpr ⟨⟨(trivial), trivial⟩, ?_⟩
  refine List.forall_mem_cons.mpr ⟨⟨(trivial), trivial⟩, ?_⟩
  refine List.forall_mem_cons.mpr ⟨⟨(trivial), trivial⟩, ?_⟩
  refine List.forall_mem_cons.mpr ⟨⟨(trivial), mj_ckOf mjK_11 (by decide) (mj_lnkG mjl_0_39)⟩, ?_⟩
  refine List.forall_mem_cons.mpr ⟨⟨(show (0 : Int) ≤ ((17 : Nat) : Int) + 18 by decide), trivial⟩, ?_⟩
  refine List.forall_mem_cons.mpr ⟨⟨(trivial), trivial⟩, ?_⟩
  refine List.forall_mem_cons.mpr ⟨⟨(trivial), trivial⟩, ?_⟩
  refine List.forall_mem_cons.mpr ⟨⟨(trivial), trivial⟩, ?_⟩
  refine List.forall_mem_cons.mpr ⟨⟨(trivial), mj_ckOf mjK_11 (by decide) (mj_lnkG mjl_0_39)⟩, ?_⟩
  refine List.forall_mem_cons.mpr ⟨⟨(show (0 : Int) ≤ ((28 : Nat) : Int) + 7 by decide), trivial⟩, ?_⟩
  refine List.forall_mem_cons.mpr ⟨⟨(trivial), trivial⟩, ?_⟩
  refine List.forall_mem_cons.mpr ⟨⟨(show (0 : Int) ≤ ((32 : Nat) : Int) + 4 by decide), trivial⟩, ?_⟩
  refine List.forall_mem_cons.mpr ⟨⟨(trivial), trivial⟩, ?_⟩
  refine List.forall_mem_cons.mpr ⟨⟨(show (4 : Nat) < mj_maxL 10 by decide), trivial⟩, ?_⟩
  refine List.forall_mem_cons.mpr ⟨⟨(trivial), trivial⟩, ?_⟩
  refine List.forall_mem_cons.mpr ⟨⟨(mj_lkG (by decide) rfl (by decide) mj_inU0 mjf_0_35), trivial⟩, ?_⟩
  refine List.forall_mem_cons.mpr ⟨⟨(mj_lkG (by decide) rfl (by decide) mj_inU5 mjf_0_43), trivial⟩, ?_⟩
  refine List.forall_mem_cons.mpr ⟨⟨(show (0 : Int) ≤ ((45 : Nat) : Int) + 16 by decide), trivial⟩, ?_⟩
  refine List.forall_mem_cons.mpr ⟨⟨(trivial), trivial⟩, ?_⟩
  refine List.forall_mem_cons.mpr ⟨⟨(mj_lkG (by decide) rfl (by decide) mj_inU0 mjf_0_47), trivial⟩, ?_⟩
  refine List.forall_mem_cons.mpr ⟨⟨(trivial), trivial⟩, ?_⟩
  refine List.forall_mem_cons.mpr ⟨⟨(show (0 : Int) ≤ ((53 : Nat) : Int) + 8 by decide), trivial⟩, ?_⟩
  refine List.forall_mem_cons.mpr ⟨⟨(trivial), trivial⟩, ?_⟩
  refine List.forall_mem_cons.mpr ⟨⟨(show (0 : Int) ≤ ((58 : Nat) : Int) + 5 by decide), trivial⟩, ?_⟩
  refine List.forall_mem_cons.mpr ⟨⟨(trivial), trivial⟩, ?_⟩
  refine List.forall_mem_cons.mpr ⟨⟨(trivial), trivial⟩, ?_⟩
  refine List.forall_mem_cons.mpr ⟨⟨(trivial), trivial⟩, ?_⟩
  refine List.forall_mem_cons.mpr ⟨⟨(mj_lkG (by decide) rfl (by decide) mj_inU0 mjf_0_11), trivial⟩, ?_⟩
  refine List.forall_mem_cons.mpr ⟨⟨(trivial), trivial⟩, ?_⟩
  refine List.forall_mem_cons.mpr ⟨⟨(mj_lkG (by decide) rfl (by decide) mj_inU0 mjf_0_47), trivial⟩, ?_⟩
  refine List.forall_mem_cons.mpr ⟨⟨(trivial), trivial⟩, ?_⟩
  refine List.forall_mem_cons.mpr ⟨⟨(trivial), trivial⟩, ?_⟩
  refine List.forall_mem_cons.mpr ⟨⟨(trivial), trivial⟩, ?_⟩
  refine List.forall_mem_cons.mpr ⟨⟨(trivial), trivial⟩, ?_⟩
  refine List.forall_mem_cons.mpr ⟨⟨(trivial), mj_ckOf mjK_12 (by decide) (mj_lnkG mjl_0_51)⟩, ?_⟩
  refine List.forall_mem_cons.mpr ⟨⟨(trivial), trivial⟩, ?_⟩
  refine List.forall_mem_cons.mpr ⟨⟨(mj_lkG (by decide) rfl (by decide) mj_inU0 mjf_0_25), trivial⟩, ?_⟩
  refine List.forall_mem_cons.mpr ⟨⟨(trivial), trivial⟩, ?_⟩
  refine List.forall_mem_cons.mpr ⟨⟨(mj_lkP (by decide) rfl (by decide) mj_inU2 mjf_0_55 mj_TyOk2 mj_Nm2 (Or.inl rfl) rfl), trivial⟩, ?_⟩
  refine List.forall_mem_cons.mpr ⟨⟨(trivial), trivial⟩, ?_⟩
  refine List.forall_mem_cons.mpr ⟨⟨(trivial), trivial⟩, ?_⟩
  refine List.forall_mem_cons.mpr ⟨⟨(mj_lkG (by decide) rfl (by decide) mj_inU0 mjf_0_47), trivial⟩, ?_⟩
  refine List.forall_mem_cons.mpr ⟨⟨(trivial), trivial⟩, ?_⟩
  refine List.forall_mem_cons.mpr ⟨⟨(trivial), trivial⟩, ?_⟩
  refine List.forall_mem_cons.mpr ⟨⟨(mj_lkP (by decide) rfl (by decide) mj_inU0 mjf_0_47 mj_TyOk0 mj_Nm0 (Or.inl rfl) rfl), trivial⟩, ?_⟩
  refine List.forall_mem_cons.mpr ⟨⟨(trivial), trivial⟩, ?_⟩
  refine List.forall_mem_cons.mpr ⟨⟨(mj_lkG (by decide) rfl (by decide) mj_inU0 mjf_0_47), trivial⟩, ?_⟩
  refine List.forall_mem_cons.mpr ⟨⟨(trivial), trivial⟩, ?_⟩
  refine List.forall_mem_cons.mpr ⟨⟨(trivial), trivial⟩, ?_⟩
  refine List.forall_mem_cons.mpr ⟨⟨(trivial), trivial⟩, ?_⟩
  exact fun _ h => absurd h List.not_mem_nil
theorem mjd_10 : mj_ckd 10 = true := by decide +kernel
theorem mjg_10 : mj_good 10 := mj_goodOf (fun _ => ⟨mj_G, rfl⟩) (by decide +kernel) mjd_10 mje_10
theorem mje_11 : ∀ e ∈ mj_tb11, mj_lk 11 e.1 e.2.1 e.2.2.1 e.2.2.2 ∧ mj_cok 11 e.2.1 e.2.2.1 e.2.2.2 := by
  unfold mj_tb11
  refine List.forall_mem_cons.mpr ⟨⟨(trivial), trivial⟩, ?_⟩
  refine List.forall_mem_cons.mpr ⟨⟨(trivial), trivial⟩, ?_⟩
  refine List.forall_mem_cons.mpr ⟨⟨(show (0 : Int) ≤ ((2 : Nat) : Int) + 12 by decide), trivial⟩, ?_⟩
  refine List.forall_mem_cons.mpr ⟨⟨(trivial), trivial⟩, ?_⟩
  refine List.forall_mem_cons.mpr ⟨⟨(trivial), trivial⟩, ?_⟩
  refine List.forall_mem_cons.mpr ⟨⟨(show (0 : Int) ≤ ((7 : Nat) : Int) + 7 by decide), trivial⟩, ?_⟩
  refine List.forall_mem_cons.mpr ⟨⟨(trivial), trivial⟩, ?_⟩
  refine List.forall_mem_cons.mpr ⟨⟨(show (0 : Int) ≤ ((11 : Nat) : Int) + 4 by decide), trivial⟩, ?_⟩
  refine List.forall_mem_cons.mpr ⟨⟨(trivial), trivial⟩, ?_⟩
  refine List.forall_mem_cons.mpr ⟨⟨(trivial), trivial⟩, ?_⟩
  exact fun _ h => absurd h List.not_mem_nil
theorem mjd_11 : mj_ckd 11 = true := by decide +kernel
theorem mjg_11 : mj_good 11 := mj_goodOf (fun _ => ⟨mj_G, rfl⟩) (by decide +kernel) mjd_11 mje_11
theorem mje_12 : ∀ e ∈ mj_tb12, mj_lk 12 e.1 e.2.1 e.2.2.1 e.2.2.2 ∧ mj_cok 12 e.2.1 e.2.2.1 e.2.2.2 := by
  unfold mj_tb12
  refine List.forall_mem_cons.mpr ⟨⟨(trivial), trivial⟩, ?_⟩
  refine List.forall_mem_cons.mpr ⟨⟨(trivial), trivial⟩, ?_⟩
  refine List.forall_mem_cons.mpr ⟨⟨(mj_lkP (by decide) rfl (by decide) mj_inU3 mjf_3_18 mj_TyOk3 mj_Nm3 (Or.inl rfl) rfl), trivial⟩, ?_⟩
  refine List.forall_mem_cons.mpr ⟨⟨(trivial), trivial⟩, ?_⟩
  refine List.forall_mem_cons.mpr ⟨⟨(trivial), trivial⟩, ?_⟩
  refine List.forall_mem_cons.mpr ⟨⟨(mj_lkP (by decide) rfl (by decide) mj_inU3 mjf_3_22 mj_TyOk3 mj_Nm3 (Or.inl rfl) rfl), trivial⟩, ?_⟩
  refine List.forall_mem_cons.mpr ⟨⟨(trivial), trivial⟩, ?_⟩
  refine List.forall_mem_cons.mpr ⟨⟨(trivial), trivial⟩, ?_⟩
  refine List.forall_mem_cons.mpr ⟨⟨(mj_lkP (by decide) rfl (by decide) mj_inU3 mjf_3_25 mj_TyOk3 mj_Nm3 (Or.inl rfl) rfl), trivial⟩, ?_⟩
  refine List.forall_mem_cons.mpr ⟨⟨(trivial), trivial⟩, ?_⟩
  exact fun _ h => absurd h List.not_mem_nil
theorem mjd_12 : mj_ckd 12 = true := by decide +kernel
theorem mjg_12 : mj_good 12 := mj_goodOf (fun _ => ⟨mj_G, rfl⟩) (by decide +kernel) mjd_12 mje_12
theorem mje_13 : ∀ e ∈ mj_tb13, mj_lk 13 e.1 e.2.1 e.2.2.1 e.2.2.2 ∧ mj_cok 13 e.2.1 e.2.2.1 e.2.2.2 := by
  unfold mj_tb13
  refine List.forall_mem_cons.mpr ⟨⟨(trivial), trivial⟩, ?_⟩
  refine List.forall_mem_cons.mpr ⟨⟨(mj_lkG (by decide) rfl (by decide) mj_inU0 mjf_0_35), trivial⟩, ?_⟩
  refine List.forall_mem_cons.mpr ⟨⟨(mj_lkG (by decide) rfl (by decide) mj_inU5 mjf_0_43), trivial⟩, ?_⟩
  refine List.forall_mem_cons.mpr ⟨⟨(show (0 : Int) ≤ ((7 : Nat) : Int) + 30 by decide), trivial⟩, ?_⟩
  refine List.forall_mem_cons.mpr ⟨⟨(trivial), trivial⟩, ?_⟩
  refine List.forall_mem_cons.mpr ⟨⟨(trivial), trivial⟩, ?_⟩
  refine List.forall_mem_cons.mpr ⟨⟨(trivial), mj_ckOf mjK_14 (by decide) (mj_lnkG mjl_0_58)⟩, ?_⟩
  refine List.forall_mem_cons.mpr ⟨⟨(show (0 : Int) ≤ ((15 : Nat) : Int) + 22 by decide), trivial⟩, ?_⟩
  refine List.forall_mem_cons.mpr ⟨⟨(trivial), trivial⟩, ?_⟩
  refine List.forall_mem_cons.mpr ⟨⟨(trivial), trivial⟩, ?_⟩
  refine List.forall_mem_cons.mpr ⟨⟨(trivial), mj_ckOf mjK_15 (by decide) (mj_lnkG mjl_0_62)⟩, ?_⟩
  refine List.forall_mem_cons.mpr ⟨⟨(show (0 : Int) ≤ ((23 : Nat) : Int) + 14 by decide), trivial⟩, ?_⟩
  refine List.forall_mem_cons.mpr ⟨⟨(trivial), trivial⟩, ?_⟩
  refine List.forall_mem_cons.mpr ⟨⟨(trivial), trivial⟩, ?_⟩
  refine List.forall_mem_cons.mpr ⟨⟨(trivial), trivial⟩, ?_⟩
  refine List.forall_mem_cons.mpr ⟨⟨(trivial), mj_ckOf mjK_16 (by decide) (mj_lnkG mjl_0_66)⟩, ?_⟩
  refine List.forall_mem_cons.mpr ⟨⟨(show (0 : Int) ≤ ((34 : Nat) : Int) + 5 by decide), trivial⟩, ?_⟩
  refine List.forall_mem_cons.mpr ⟨⟨(trivial), trivial⟩, ?_⟩
  refine List.forall_mem_cons.mpr ⟨⟨(trivial), trivial⟩, ?_⟩
  refine List.forall_mem_cons.mpr ⟨⟨(trivial), trivial⟩, ?_⟩
  refine List.forall_mem_cons.mpr ⟨⟨(mj_lkG (by decide) rfl (by decide) mj_inU0 mjf_0_11), trivial⟩, ?_⟩
  refine List.forall_mem_cons.mpr ⟨⟨(trivial), trivial⟩, ?_⟩
  refine List.forall_mem_cons.mpr ⟨⟨(trivial), trivial⟩, ?_⟩
  refine List.forall_mem_cons.mpr ⟨⟨(mj_lkG (by decide) rfl (by decide) mj_inU3 mjf_0_69), trivial⟩, ?_⟩
  refine List.forall_mem_cons.mpr ⟨⟨(trivial), trivial⟩, ?_⟩
  refine List.forall_mem_cons.mpr ⟨⟨(trivial), trivial⟩, ?_⟩
  refine List.forall_mem_cons.mpr ⟨⟨(trivial), trivial⟩, ?_⟩
  refine List.forall_mem_cons.mpr ⟨⟨(trivial), trivial⟩, ?_⟩
  refine List.forall_mem_cons.mpr ⟨⟨(trivial), trivial⟩, ?_⟩
  refine List.forall_mem_cons.mpr ⟨⟨(trivial), mj_ckOf mjK_17 (by decide) (mj_lnkG mjl_0_73)⟩, ?_⟩
  refine List.forall_mem_cons.mpr ⟨⟨(show (0 : Int) ≤ ((58 : Nat) : Int) + 5 by decide), trivial⟩, ?_⟩
  refine List.forall_mem_cons.mpr ⟨⟨(trivial), trivial⟩, ?_⟩
  refine List.forall_mem_cons.mpr ⟨⟨(trivial), trivial⟩, ?_⟩
  refine List.forall_mem_cons.mpr ⟨⟨(trivial), trivial⟩, ?_⟩
  refine List.forall_mem_cons.mpr ⟨⟨(mj_lkG (by decide) rfl (by decide) mj_inU0 mjf_0_25), trivial⟩, ?_⟩
  refine List.forall_mem_cons.mpr ⟨⟨(trivial), trivial⟩, ?_⟩
  refine List.forall_mem_cons.mpr ⟨⟨(mj_lkP (by decide) rfl (by decide) mj_inU2 mjf_0_55 mj_TyOk2 mj_Nm2 (Or.inl rfl) rfl), trivial⟩, ?_⟩
  refine List.forall_mem_cons.mpr ⟨⟨(trivial), trivial⟩, ?_⟩
  refine List.forall_mem_cons.mpr ⟨⟨(trivial), trivial⟩, ?_⟩
  exact fun _ h => absurd h List.not_mem_nil
theorem mjd_13 : mj_ckd 13 = true := by decide +kernel
theorem mjg_13 : mj_good 13 := mj_goodOf (fun _ => ⟨mj_G, rfl⟩) (by decide +kernel) mjd_13 mje_13
theorem mje_14 : ∀ e ∈ mj_tb14, mj_lk 14 e.1 e.2.1 e.2.2.1 e.2.2.2 ∧ mj_cok 14 e.2.1 e.2.2.1 e.2.2.2 := by
  unfold mj_tb14
  refine List.forall_mem_cons.mpr ⟨⟨(trivial), trivial⟩, ?_⟩
  refine List.forall_mem_cons.mpr ⟨⟨(trivial), trivial⟩, ?_⟩
  refine List.forall_mem_cons.mpr ⟨⟨(mj_lkG (by decide) rfl (by decide) mj_inU0 mjf_0_47), trivial⟩, ?_⟩
  refine List.forall_mem_cons.mpr ⟨⟨(trivial), mj_ckOf mjK_15 (by decide) (mj_lnkG mjl_0_62)⟩, ?_⟩
  refine List.forall_mem_cons.mpr ⟨⟨(trivial), trivial⟩, ?_⟩
  exact fun _ h => absurd h List.not_mem_nil
theorem mjd_14 : mj_ckd 14 = true := by decide +kernel
theorem mjg_14 : mj_good 14 := mj_goodOf (fun _ => ⟨mj_G, rfl⟩) (by decide +kernel) mjd_14 mje_14
theorem mje_15 : ∀ e ∈ mj_tb15, mj_lk 15 e.1 e.2.1 e.2.2.1 e.2.2.2 ∧ mj_cok 15 e.2.1 e.2.2.1 e.2.2.2 := by
  unfold mj_tb15
  refine List.forall_mem_cons.mpr ⟨⟨(trivial), trivial⟩, ?_⟩
  refine List.forall_mem_cons.mpr ⟨⟨(show (0 : Int) ≤ ((1 : Nat) : Int) + 12 by decide), trivial⟩, ?_⟩
  refine List.forall_mem_cons.mpr ⟨⟨(trivial), trivial⟩, ?_⟩
  refine List.forall_mem_cons.mpr ⟨⟨(trivial), trivial⟩, ?_⟩
  refine List.forall_mem_cons.mpr ⟨⟨(show (0 : Int) ≤ ((6 : Nat) : Int) + 7 by decide), trivial⟩, ?_⟩
  refine List.forall_mem_cons.mpr ⟨⟨(trivial), trivial⟩, ?_⟩
  refine List.forall_mem_cons.mpr ⟨⟨(show (0 : Int) ≤ ((10 : Nat) : Int) + 4 by decide), trivial⟩, ?_⟩
  refine List.forall_mem_cons.mpr ⟨⟨(trivial), trivial⟩, ?_⟩
  refine List.forall_mem_cons.mpr ⟨⟨(trivial), trivial⟩, ?_⟩
  exact fun _ h => absurd h List.not_mem_nil
theorem mjd_15 : mj_ckd 15 = true := by decide +kernel
theorem mjg_15 : mj_good 15 := mj_goodOf (fun _ => ⟨mj_G, rfl⟩) (by decide +kernel) mjd_15 mje_15
theorem mje_16 : ∀ e ∈ mj_tb16, mj_lk 16 e.1 e.2.1 e.2.2.1 e.2.2.2 ∧ mj_cok 16 e.2.1 e.2.2.1 e.2.2.2 := by
  unfold mj_tb16
  refine List.forall_mem_cons.mpr ⟨⟨(trivial), trivial⟩, ?_⟩
  refine List.forall_mem_cons.mpr ⟨⟨(⟨⟨by decide, by decide⟩, Or.inl (mj_Gws (mj_Gin 379 (by decide +kernel) rfl))⟩), trivial⟩, ?_⟩
  refine List.forall_mem_cons.mpr ⟨⟨(trivial), trivial⟩, ?_⟩
  refine List.forall_mem_cons.mpr ⟨⟨(trivial), mj_ckOf mjK_15 (by decide) (mj_lnkG mjl_0_62)⟩, ?_⟩
  refine List.forall_mem_cons.mpr ⟨⟨(show (0 : Int) ≤ ((8 : Nat) : Int) + 37 by decide), trivial⟩, ?_⟩
  refine List.forall_mem_cons.mpr ⟨⟨(trivial), trivial⟩, ?_⟩
  refine List.forall_mem_cons.mpr ⟨⟨(trivial), trivial⟩, ?_⟩
  refine List.forall_mem_cons.mpr ⟨⟨(⟨⟨by decide, by decide⟩, Or.inl (mj_Gws (mj_Gin 381 (by decide +kernel) rfl))⟩), trivial⟩, ?_⟩
  refine List.forall_mem_cons.mpr ⟨⟨(trivial), trivial⟩, ?_⟩
  refine List.forall_mem_cons.mpr ⟨⟨(trivial), trivial⟩, ?_⟩
  refine List.forall_mem_cons.mpr ⟨⟨(trivial), mj_ckOf mjK_11 (by decide) (mj_lnkG mjl_0_39)⟩, ?_⟩
  refine List.forall_mem_cons.mpr ⟨⟨(show (0 : Int) ≤ ((21 : Nat) : Int) + 24 by decide), trivial⟩, ?_⟩
  refine List.forall_mem_cons.mpr ⟨⟨(trivial), trivial⟩, ?_⟩
  refine List.forall_mem_cons.mpr ⟨⟨(⟨⟨by decide, by decide⟩, Or.inl (mj_Gws (mj_Gin 383 (by decide +kernel) rfl))⟩), trivial⟩, ?_⟩
  refine List.forall_mem_cons.mpr ⟨⟨(trivial), trivial⟩, ?_⟩
  refine List.forall_mem_cons.mpr ⟨⟨(trivial), trivial⟩, ?_⟩
  refine List.forall_mem_cons.mpr ⟨⟨(⟨⟨by decide, by decide⟩, Or.inl (mj_Gws (mj_Gin 385 (by decide +kernel) rfl))⟩), trivial⟩, ?_⟩
  refine List.forall_mem_cons.mpr ⟨⟨(trivial), trivial⟩, ?_⟩
  refine List.forall_mem_cons.mpr ⟨⟨(trivial), trivial⟩, ?_⟩
  refine List.forall_mem_cons.mpr ⟨⟨(trivial), mj_ckOf mjK_11 (by decide) (mj_lnkG mjl_0_39)⟩, ?_⟩
  refine List.forall_mem_cons.mpr ⟨⟨(show (0 : Int) ≤ ((38 : Nat) : Int) + 7 by decide), trivial⟩, ?_⟩
  refine List.forall_mem_cons.mpr ⟨⟨(trivial), trivial⟩, ?_⟩
  refine List.forall_mem_cons.mpr ⟨⟨(show (0 : Int) ≤ ((42 : Nat) : Int) + 4 by decide), trivial⟩, ?_⟩
  refine List.forall_mem_cons.mpr ⟨⟨(trivial), trivial⟩, ?_⟩
  refine List.forall_mem_cons.mpr ⟨⟨(trivial), trivial⟩, ?_⟩
  exact fun _ h => absurd h List.not_mem_nil
theorem mjd_16 : mj_ckd 16 = true := by decide +kernel
theorem mjg_16 : mj_good 16 := mj_goodOf (fun _ => ⟨mj_G, rfl⟩) (by decide +kernel) mjd_16 mje_16
theorem mje_17 : ∀ e ∈ mj_tb17, mj_lk 17 e.1 e.2.1 e.2.2.1 e.2.2.2 ∧ mj_cok 17 e.2.1 e.2.2.1 e.2.2.2 := by
  unfold mj_tb17
  refine List.forall_mem_cons.mpr ⟨⟨(trivial), trivial⟩, ?_⟩
  refine List.forall_mem_cons.mpr ⟨⟨(mj_lkG (by decide) rfl (by decide) mj_inU4 mjf_4_24), trivial⟩, ?_⟩
  refine List.forall_mem_cons.mpr ⟨⟨(trivial), trivial⟩, ?_⟩
  refine List.forall_mem_cons.mpr ⟨⟨(show (0 : Int) ≤ ((6 : Nat) : Int) + 5 by decide), trivial⟩, ?_⟩
  refine List.forall_mem_cons.mpr ⟨⟨(trivial), trivial⟩, ?_⟩
  refine List.forall_mem_cons.mpr ⟨⟨(trivial), trivial⟩, ?_⟩
  refine List.forall_mem_cons.mpr ⟨⟨(trivial), trivial⟩, ?_⟩
  refine List.forall_mem_cons.mpr ⟨⟨(mj_lkG (by decide) rfl (by decide) mj_inU4 mjf_4_9), trivial⟩, ?_⟩
  refine List.forall_mem_cons.mpr ⟨⟨(trivial), trivial⟩, ?_⟩
  refine List.forall_mem_cons.mpr ⟨⟨(mj_lkG (by decide) rfl (by decide) mj_inU4 mjf_4_24), trivial⟩, ?_⟩
  refine List.forall_mem_cons.mpr ⟨⟨(trivial), trivial⟩, ?_⟩
  refine List.forall_mem_cons.mpr ⟨⟨(trivial), trivial⟩, ?_⟩
  refine List.forall_mem_cons.mpr ⟨⟨(trivial), trivial⟩, ?_⟩
  refine List.forall_mem_cons.mpr ⟨⟨(mj_lkG (by decide) rfl (by decide) mj_inU4 mjf_4_15), trivial⟩, ?_⟩
  refine List.forall_mem_cons.mpr ⟨⟨(trivial), trivial⟩, ?_⟩
  refine List.forall_mem_cons.mpr ⟨⟨(mj_lkG (by decide) rfl (by decide) mj_inU4 mjf_4_24), trivial⟩, ?_⟩
  refine List.forall_mem_cons.mpr ⟨⟨(trivial), trivial⟩, ?_⟩
  refine List.forall_mem_cons.mpr ⟨⟨(trivial), trivial⟩, ?_⟩
  refine List.forall_mem_cons.mpr ⟨⟨(trivial), trivial⟩, ?_⟩
  refine List.forall_mem_cons.mpr ⟨⟨(mj_lkG (by decide) rfl (by decide) mj_inU4 mjf_4_18), trivial⟩, ?_⟩
  refine List.forall_mem_cons.mpr ⟨⟨(trivial), trivial⟩, ?_⟩
  refine List.forall_mem_cons.mpr ⟨⟨(mj_lkG (by decide) rfl (by decide) mj_inU4 mjf_4_24), trivial⟩, ?_⟩
  refine List.forall_mem_cons.mpr ⟨⟨(trivial), trivial⟩, ?_⟩
  refine List.forall_mem_cons.mpr ⟨⟨(trivial), trivial⟩, ?_⟩
  refine List.forall_mem_cons.mpr ⟨⟨(trivial), trivial⟩, ?_⟩
  refine List.forall_mem_cons.mpr ⟨⟨(trivial), trivial⟩, ?_⟩
  refine List.forall_mem_cons.mpr ⟨⟨(mj_lkG (by decide) rfl (by decide) mj_inU4 mjf_4_24), trivial⟩, ?_⟩
  refine List.forall_mem_cons.mpr ⟨⟨(trivial), trivial⟩, ?_⟩
  refine List.forall_mem_cons.mpr ⟨⟨(trivial), trivial⟩, ?_⟩
  refine List.forall_mem_cons.mpr ⟨⟨(mj_lkP (by decide) rfl (by decide) mj_inU4 mjf_4_24 mj_TyOk4 mj_Nm4 (Or.inl rfl) rfl), trivial⟩, ?_⟩
  refine List.forall_mem_cons.mpr ⟨⟨(trivial), trivial⟩, ?_⟩
  refine List.forall_mem_cons.mpr ⟨⟨(trivial), trivial⟩, ?_⟩
  exact fun _ h => absurd h List.not_mem_nil
theorem mjd_17 : mj_ckd 17 = true := by decide +kernel
theorem mjg_17 : mj_good 17 := mj_goodOf (fun _ => ⟨mj_G, rfl⟩) (by decide +kernel) mjd_17 mje_17
theorem mje_18 : ∀ e ∈ mj_tb18, mj_lk 18 e.1 e.2.1 e.2.2.1 e.2.2.2 ∧ mj_cok 18 e.2.1 e.2.2.1 e.2.2.2 := by
  unfold mj_tb18
  refine List.forall_mem_cons.mpr ⟨⟨(trivial), trivial⟩, ?_⟩
  refine List.forall_mem_cons.mpr ⟨⟨(mj_lkG (by decide) rfl (by decide) mj_inU0 mjf_0_35), trivial⟩, ?_⟩
  refine List.forall_mem_cons.mpr ⟨⟨(mj_lkG (by decide) rfl (by decide) mj_inU5 mjf_0_43), trivial⟩, ?_⟩
  refine List.forall_mem_cons.mpr ⟨⟨(show (0 : Int) ≤ ((7 : Nat) : Int) + 11 by decide), trivial⟩, ?_⟩
  refine List.forall_mem_cons.mpr ⟨⟨(trivial), trivial⟩, ?_⟩
  refine List.forall_mem_cons.mpr ⟨⟨(trivial), trivial⟩, ?_⟩
  refine List.forall_mem_cons.mpr ⟨⟨(trivial), mj_ckOf mjK_14 (by decide) (mj_lnkG mjl_0_58)⟩, ?_⟩
  refine List.forall_mem_cons.mpr ⟨⟨(show (0 : Int) ≤ ((15 : Nat) : Int) + 5 by decide), trivial⟩, ?_⟩
  refine List.forall_mem_cons.mpr ⟨⟨(trivial), trivial⟩, ?_⟩
  refine List.forall_mem_cons.mpr ⟨⟨(trivial), trivial⟩, ?_⟩
  refine List.forall_mem_cons.mpr ⟨⟨(trivial), trivial⟩, ?_⟩
  refine List.forall_mem_cons.mpr ⟨⟨(mj_lkG (by decide) rfl (by decide) mj_inU0 mjf_0_11), trivial⟩, ?_⟩
  refine List.forall_mem_cons.mpr ⟨⟨(trivial), trivial⟩, ?_⟩
  refine List.forall_mem_cons.mpr ⟨⟨(trivial), trivial⟩, ?_⟩
  refine List.forall_mem_cons.mpr ⟨⟨(trivial), mj_ckOf mjK_19 (by decide) (mj_lnkG mjl_0_78)⟩, ?_⟩
  refine List.forall_mem_cons.mpr ⟨⟨(trivial), trivial⟩, ?_⟩
  refine List.forall_mem_cons.mpr ⟨⟨(mj_lkG (by decide) rfl (by decide) mj_inU0 mjf_0_25), trivial⟩, ?_⟩
  refine List.forall_mem_cons.mpr ⟨⟨(trivial), trivial⟩, ?_⟩
  refine List.forall_mem_cons.mpr ⟨⟨(mj_lkP (by decide) rfl (by decide) mj_inU2 mjf_0_55 mj_TyOk2 mj_Nm2 (Or.inl rfl) rfl), trivial⟩, ?_⟩
  refine List.forall_mem_cons.mpr ⟨⟨(trivial), trivial⟩, ?_⟩
  refine List.forall_mem_cons.mpr ⟨⟨(trivial), trivial⟩, ?_⟩
  exact fun _ h => absurd h List.not_mem_nil
theorem mjd_18 : mj_ckd 18 = true := by decide +kernel
theorem mjg_18 : mj_good 18 := mj_goodOf (fun _ => ⟨mj_G, rfl⟩) (by decide +kernel) mjd_18 mje_18
theorem mje_19 : ∀ e ∈ mj_tb19, mj_lk 19 e.1 e.2.1 e.2.2.1 e.2.2.2 ∧ mj_cok 19 e.2.1 e.2.2.1 e.2.2.2 := by
  unfold mj_tb19
  refine List.forall_mem_cons.mpr ⟨⟨(trivial), trivial⟩, ?_⟩
  refine List.forall_mem_cons.mpr ⟨⟨(show (1 : Nat) < mj_maxL 19 by decide), trivial⟩, ?_⟩
  refine List.forall_mem_cons.mpr ⟨⟨(trivial), trivial⟩, ?_⟩
  refine List.forall_mem_cons.mpr ⟨⟨(trivial), trivial⟩, ?_⟩
  refine List.forall_mem_cons.mpr ⟨⟨(show (0 : Int) ≤ ((4 : Nat) : Int) + 19 by decide), trivial⟩, ?_⟩
  refine List.forall_mem_cons.mpr ⟨⟨(trivial), trivial⟩, ?_⟩
  refine List.forall_mem_cons.mpr ⟨⟨(mj_lkG (by decide) rfl (by decide) mj_inU3 mjf_3_11), trivial⟩, ?_⟩
  refine List.forall_mem_cons.mpr ⟨⟨(trivial), trivial⟩, ?_⟩
  refine List.forall_mem_cons.mpr ⟨⟨(trivial), trivial⟩, ?_⟩
  refine List.forall_mem_cons.mpr ⟨⟨(trivial), trivial⟩, ?_⟩
  refine List.forall_mem_cons.mpr ⟨⟨(mj_lkP (by decide) rfl (by decide) mj_inU4 mjf_3_28 mj_TyOk4 mj_Nm4 (Or.inl rfl) rfl), trivial⟩, ?_⟩
  refine List.forall_mem_cons.mpr ⟨⟨(show (1 : Nat) < mj_maxL 19 by decide), trivial⟩, ?_⟩
  refine List.forall_mem_cons.mpr ⟨⟨(show (0 : Int) ≤ ((20 : Nat) : Int) + (-18) by decide), trivial⟩, ?_⟩
  refine List.forall_mem_cons.mpr ⟨⟨(trivial), trivial⟩, ?_⟩
  exact fun _ h => absurd h List.not_mem_nil
theorem mjd_19 : mj_ckd 19 = true := by decide +kernel
theorem mjg_19 : mj_good 19 := mj_goodOf (fun _ => ⟨mj_G, rfl⟩) (by decide +kernel) mjd_19 mje_19
theorem mje_20 : ∀ e ∈ mj_tb20, mj_lk 20 e.1 e.2.1 e.2.2.1 e.2.2.2 ∧ mj_cok 20 e.2.1 e.2.2.1 e.2.2.2 := by
  unfold mj_tb20
  refine List.forall_mem_cons.mpr ⟨⟨(trivial), trivial⟩, ?_⟩
  refine List.forall_mem_cons.mpr ⟨⟨(mj_lkG (by decide) rfl (by decide) mj_inU0 mjf_0_35), trivial⟩, ?_⟩
  refine List.forall_mem_cons.mpr ⟨⟨(mj_lkG (by decide) rfl (by decide) mj_inU5 mjf_0_43), trivial⟩, ?_⟩
  refine List.forall_mem_cons.mpr ⟨⟨(show (0 : Int) ≤ ((7 : Nat) : Int) + 5 by decide), trivial⟩, ?_⟩
  refine List.forall_mem_cons.mpr ⟨⟨(trivial), trivial⟩, ?_⟩
  refine List.forall_mem_cons.mpr ⟨⟨(trivial), trivial⟩, ?_⟩
  refine List.forall_mem_cons.mpr ⟨⟨(trivial), trivial⟩, ?_⟩
  refine List.forall_mem_cons.mpr ⟨⟨(mj_lkG (by decide) rfl (by decide) mj_inU0 mjf_0_25), trivial⟩, ?_⟩
  refine List.forall_mem_cons.mpr ⟨⟨(trivial), trivial⟩, ?_⟩
  refine List.forall_mem_cons.mpr ⟨⟨(mj_lkP (by decide) rfl (by decide) mj_inU2 mjf_0_55 mj_TyOk2 mj_Nm2 (Or.inl rfl) rfl), trivial⟩, ?_⟩
  refine List.forall_mem_cons.mpr ⟨⟨(trivial), trivial⟩, ?_⟩
  refine List.forall_mem_cons.mpr ⟨⟨(mj_lkG (by decide) rfl (by decide) mj_inU0 mjf_0_18), trivial⟩, ?_⟩
  refine List.forall_mem_cons.mpr ⟨⟨(trivial), trivial⟩, ?_⟩
  refine List.forall_mem_cons.mpr ⟨⟨(mj_lkP (by decide) rfl (by decide) mj_inU1 mjf_0_81 mj_TyOk1 mj_Nm1 (Or.inl rfl) rfl), trivial⟩, ?_⟩
  refine List.forall_mem_cons.mpr ⟨⟨(trivial), trivial⟩, ?_⟩
  refine List.forall_mem_cons.mpr ⟨⟨(mj_lkG (by decide) rfl (by decide) mj_inU0 mjf_0_47), trivial⟩, ?_⟩
  refine List.forall_mem_cons.mpr ⟨⟨(show (0 : Int) ≤ ((32 : Nat) : Int) + 6 by decide), trivial⟩, ?_⟩
  refine List.forall_mem_cons.mpr ⟨⟨(trivial), trivial⟩, ?_⟩
  refine List.forall_mem_cons.mpr ⟨⟨(trivial), trivial⟩, ?_⟩
  refine List.forall_mem_cons.mpr ⟨⟨(trivial), trivial⟩, ?_⟩
  refine List.forall_mem_cons.mpr ⟨⟨(show (1 : Nat) < mj_maxL 20 by decide), trivial⟩, ?_⟩
  refine List.forall_mem_cons.mpr ⟨⟨(trivial), trivial⟩, ?_⟩
  refine List.forall_mem_cons.mpr ⟨⟨(trivial), trivial⟩, ?_⟩
  refine List.forall_mem_cons.mpr ⟨⟨(mj_lkG (by decide) rfl (by decide) mj_inU0 mjf_0_47), trivial⟩, ?_⟩
  refine List.forall_mem_cons.mpr ⟨⟨(show (0 : Int) ≤ ((45 : Nat) : Int) + 37 by decide), trivial⟩, ?_⟩
  refine List.forall_mem_cons.mpr ⟨⟨(trivial), trivial⟩, ?_⟩
  refine List.forall_mem_cons.mpr ⟨⟨(mj_lkG (by decide) rfl (by decide) mj_inU0 mjf_0_18), trivial⟩, ?_⟩
  refine List.forall_mem_cons.mpr ⟨⟨(trivial), trivial⟩, ?_⟩
  refine List.forall_mem_cons.mpr ⟨⟨(mj_lkG (by decide) rfl (by decide) mj_inU0 mjf_0_11), trivial⟩, ?_⟩
  refine List.forall_mem_cons.mpr ⟨⟨(trivial), trivial⟩, ?_⟩
  refine List.forall_mem_cons.mpr ⟨⟨(trivial), trivial⟩, ?_⟩
  refine List.forall_mem_cons.mpr ⟨⟨(mj_lkG (by decide) rfl (by decide) mj_inU3 mjf_0_69), trivial⟩, ?_⟩
  refine List.forall_mem_cons.mpr ⟨⟨(trivial), mj_ckOf mjK_21 (by decide) (mj_lnkG mjl_0_84)⟩, ?_⟩
  refine List.forall_mem_cons.mpr ⟨⟨(show (2 : Nat) < mj_maxL 20 by decide), trivial⟩, ?_⟩
  refine List.forall_mem_cons.mpr ⟨⟨(trivial), trivial⟩, ?_⟩
  refine List.forall_mem_cons.mpr ⟨⟨(show (0 : Int) ≤ ((66 : Nat) : Int) + 10 by decide), trivial⟩, ?_⟩
  refine List.forall_mem_cons.mpr ⟨⟨(trivial), trivial⟩, ?_⟩
  refine List.forall_mem_cons.mpr ⟨⟨(trivial), trivial⟩, ?_⟩
  refine List.forall_mem_cons.mpr ⟨⟨(trivial), trivial⟩, ?_⟩
  refine List.forall_mem_cons.mpr ⟨⟨(trivial), trivial⟩, ?_⟩
  refine List.forall_mem_cons.mpr ⟨⟨(trivial), trivial⟩, ?_⟩
  refine List.forall_mem_cons.mpr ⟨⟨(trivial), trivial⟩, ?_⟩
  refine List.forall_mem_cons.mpr ⟨⟨(show (1 : Nat) < mj_maxL 20 by decide), trivial⟩, ?_⟩
  refine List.forall_mem_cons.mpr ⟨⟨(show (0 : Int) ≤ ((79 : Nat) : Int) + (-39) by decide), trivial⟩, ?_⟩
  refine List.forall_mem_cons.mpr ⟨⟨(trivial), trivial⟩, ?_⟩
  refine List.forall_mem_cons.mpr ⟨⟨(mj_lkG (by decide) rfl (by decide) mj_inU0 mjf_0_25), trivial⟩, ?_⟩
  refine List.forall_mem_cons.mpr ⟨⟨(trivial), trivial⟩, ?_⟩
  refine List.forall_mem_cons.mpr ⟨⟨(mj_lkG (by decide) rfl (by decide) mj_inU0 mjf_0_11), trivial⟩, ?_⟩
  refine List.forall_mem_cons.mpr ⟨⟨(trivial), trivial⟩, ?_⟩
  refine List.forall_mem_cons.mpr ⟨⟨(mj_lkG (by decide) rfl (by decide) mj_inU0 mjf_0_47), trivial⟩, ?_⟩
  refine List.forall_mem_cons.mpr ⟨⟨(trivial), mj_ckOf mjK_35 (by decide) (mj_lnkG mjl_0_88)⟩, ?_⟩
  refine List.forall_mem_cons.mpr ⟨⟨(show (1 : Nat) < mj_maxL 20 by decide), trivial⟩, ?_⟩
  refine List.forall_mem_cons.mpr ⟨⟨(trivial), trivial⟩, ?_⟩
  refine List.forall_mem_cons.mpr ⟨⟨(trivial), trivial⟩, ?_⟩
  refine List.forall_mem_cons.mpr ⟨⟨(show (0 : Int) ≤ ((100 : Nat) : Int) + 7 by decide), trivial⟩, ?_⟩
  refine List.forall_mem_cons.mpr ⟨⟨(trivial), trivial⟩, ?_⟩
  refine List.forall_mem_cons.mpr ⟨⟨(show (0 : Int) ≤ ((104 : Nat) : Int) + 10 by decide), trivial⟩, ?_⟩
  refine List.forall_mem_cons.mpr ⟨⟨(trivial), trivial⟩, ?_⟩
  refine List.forall_mem_cons.mpr ⟨⟨(trivial), trivial⟩, ?_⟩
  refine List.forall_mem_cons.mpr ⟨⟨(trivial), trivial⟩, ?_⟩
  refine List.forall_mem_cons.mpr ⟨⟨(trivial), trivial⟩, ?_⟩
  refine List.forall_mem_cons.mpr ⟨⟨(trivial), trivial⟩, ?_⟩
  refine List.forall_mem_cons.mpr ⟨⟨(trivial), trivial⟩, ?_⟩
  exact fun _ h => absurd h List.not_mem_nil
theorem mjd_20 : mj_ckd 20 = true := by decide +kernel
theorem mjg_20 : mj_good 20 := mj_goodOf (fun _ => ⟨mj_G, rfl⟩) (by decide +kernel) mjd_20 mje_20
theorem mje_21 : ∀ e ∈ mj_tb21, mj_lk 21 e.1 e.2.1 e.2.2.1 e.2.2.2 ∧ mj_cok 21 e.2.1 e.2.2.1 e.2.2.2 := by
  unfold mj_tb21
  refine List.forall_mem_cons.mpr ⟨⟨(trivial), trivial⟩, ?_⟩
  refine List.forall_mem_cons.mpr ⟨⟨(trivial), trivial⟩, ?_⟩
  refine List.forall_mem_cons.mpr ⟨⟨(trivial), mj_ckOf mjK_22 (by decide) (mj_lnkG mjl_1_19)⟩, ?_⟩
  refine List.forall_mem_cons.mpr ⟨⟨(trivial), trivial⟩, ?_⟩
  refine List.forall_mem_cons.mpr ⟨⟨(show (2 : Nat) < mj_maxL 21 by decide), trivial⟩, ?_⟩
  refine List.forall_mem_cons.mpr ⟨⟨(trivial), trivial⟩, ?_⟩
  refine List.forall_mem_cons.mpr ⟨⟨(trivial), trivial⟩, ?_⟩
  refine List.forall_mem_cons.mpr ⟨⟨(show (0 : Int) ≤ ((9 : Nat) : Int) + 22 by decide), trivial⟩, ?_⟩
  refine List.forall_mem_cons.mpr ⟨⟨(trivial), trivial⟩, ?_⟩
  refine List.forall_mem_cons.mpr ⟨⟨(trivial), trivial⟩, ?_⟩
  refine List.forall_mem_cons.mpr ⟨⟨(trivial), trivial⟩, ?_⟩
  refine List.forall_mem_cons.mpr ⟨⟨(trivial), mj_ckOf mjK_23 (by decide) (mj_lnkG mjl_1_23)⟩, ?_⟩
  refine List.forall_mem_cons.mpr ⟨⟨(show (3 : Nat) < mj_maxL 21 by decide), trivial⟩, ?_⟩
  refine List.forall_mem_cons.mpr ⟨⟨(trivial), trivial⟩, ?_⟩
  refine List.forall_mem_cons.mpr ⟨⟨(show (0 : Int) ≤ ((20 : Nat) : Int) + 5 by decide), trivial⟩, ?_⟩
  refine List.forall_mem_cons.mpr ⟨⟨(trivial), trivial⟩, ?_⟩
  refine List.forall_mem_cons.mpr ⟨⟨(trivial), trivial⟩, ?_⟩
  refine List.forall_mem_cons.mpr ⟨⟨(show (2 : Nat) < mj_maxL 21 by decide), trivial⟩, ?_⟩
  refine List.forall_mem_cons.mpr ⟨⟨(show (0 : Int) ≤ ((28 : Nat) : Int) + (-21) by decide), trivial⟩, ?_⟩
  refine List.forall_mem_cons.mpr ⟨⟨(trivial), trivial⟩, ?_⟩
  refine List.forall_mem_cons.mpr ⟨⟨(trivial), trivial⟩, ?_⟩
  exact fun _ h => absurd h List.not_mem_nil
theorem mjd_21 : mj_ckd 21 = true := by decide +kernel
theorem mjg_21 : mj_good 21 := mj_goodOf (fun _ => ⟨mj_G, rfl⟩) (by decide +kernel) mjd_21 mje_21
theorem mje_22 : ∀ e ∈ mj_tb22, mj_lk 22 e.1 e.2.1 e.2.2.1 e.2.2.2 ∧ mj_cok 22 e.2.1 e.2.2.1 e.2.2.2 := by
  unfold mj_tb22
  refine List.forall_mem_cons.mpr ⟨⟨(trivial), trivial⟩, ?_⟩
  refine List.forall_mem_cons.mpr ⟨⟨(show (2 : Nat) < mj_maxL 22 by decide), trivial⟩, ?_⟩
  refine List.forall_mem_cons.mpr ⟨⟨(trivial), trivial⟩, ?_⟩
  refine List.forall_mem_cons.mpr ⟨⟨(show (0 : Int) ≤ ((3 : Nat) : Int) + 107 by decide), trivial⟩, ?_⟩
  refine List.forall_mem_cons.mpr ⟨⟨(trivial), trivial⟩, ?_⟩
  refine List.forall_mem_cons.mpr ⟨⟨(trivial), trivial⟩, ?_⟩
  refine List.forall_mem_cons.mpr ⟨⟨(trivial), trivial⟩, ?_⟩
  refine List.forall_mem_cons.mpr ⟨⟨(show (3 : Nat) < mj_maxL 22 by decide), trivial⟩, ?_⟩
  refine List.forall_mem_cons.mpr ⟨⟨(trivial), trivial⟩, ?_⟩
  refine List.forall_mem_cons.mpr ⟨⟨(trivial), trivial⟩, ?_⟩
  refine List.forall_mem_cons.mpr ⟨⟨(mj_lkP (by decide) rfl (by decide) mj_inU4 mjf_1_27 mj_TyOk4 mj_Nm4 (Or.inl rfl) rfl), trivial⟩, ?_⟩
  refine List.forall_mem_cons.mpr ⟨⟨(trivial), trivial⟩, ?_⟩
  refine List.forall_mem_cons.mpr ⟨⟨(show (4 : Nat) < mj_maxL 22 by decide), trivial⟩, ?_⟩
  refine List.forall_mem_cons.mpr ⟨⟨(trivial), trivial⟩, ?_⟩
  refine List.forall_mem_cons.mpr ⟨⟨(trivial), trivial⟩, ?_⟩
  refine List.forall_mem_cons.mpr ⟨⟨(mj_lkG (by decide) rfl (by decide) mj_inU4 mjf_1_32), trivial⟩, ?_⟩
  refine List.forall_mem_cons.mpr ⟨⟨(show (0 : Int) ≤ ((24 : Nat) : Int) + 80 by decide), trivial⟩, ?_⟩
  refine List.forall_mem_cons.mpr ⟨⟨(trivial), trivial⟩, ?_⟩
  refine List.forall_mem_cons.mpr ⟨⟨(mj_lkG (by decide) rfl (by decide) mj_inU4 mjf_1_35), trivial⟩, ?_⟩
  refine List.forall_mem_cons.mpr ⟨⟨(trivial), trivial⟩, ?_⟩
  refine List.forall_mem_cons.mpr ⟨⟨(trivial), trivial⟩, ?_⟩
  refine List.forall_mem_cons.mpr ⟨⟨(show (5 : Nat) < mj_maxL 22 by decide), trivial⟩, ?_⟩
  refine List.forall_mem_cons.mpr ⟨⟨(trivial), trivial⟩, ?_⟩
  refine List.forall_mem_cons.mpr ⟨⟨(mj_lkG (by decide) rfl (by decide) mj_inU4 mjf_1_38), trivial⟩, ?_⟩
  refine List.forall_mem_cons.mpr ⟨⟨(trivial), trivial⟩, ?_⟩
  refine List.forall_mem_cons.mpr ⟨⟨(trivial), trivial⟩, ?_⟩
  refine List.forall_mem_cons.mpr ⟨⟨(trivial), trivial⟩, ?_⟩
  refine List.forall_mem_cons.mpr ⟨⟨(show (0 : Int) ≤ ((45 : Nat) : Int) + 19 by decide), trivial⟩, ?_⟩
  refine List.forall_mem_cons.mpr ⟨⟨(trivial), trivial⟩, ?_⟩
  refine List.forall_mem_cons.mpr ⟨⟨(trivial), trivial⟩, ?_⟩
  refine List.forall_mem_cons.mpr ⟨⟨(mj_lkG (by decide) rfl (by decide) mj_inU4 mjf_1_27), trivial⟩, ?_⟩
  refine List.forall_mem_cons.mpr ⟨⟨(trivial), trivial⟩, ?_⟩
  refine List.forall_mem_cons.mpr ⟨⟨(trivial), trivial⟩, ?_⟩
  refine List.forall_mem_cons.mpr ⟨⟨(trivial), trivial⟩, ?_⟩
  refine List.forall_mem_cons.mpr ⟨⟨(trivial), trivial⟩, ?_⟩
  refine List.forall_mem_cons.mpr ⟨⟨(mj_lkP (by decide) rfl (by decide) mj_inU4 mjf_1_27 mj_TyOk4 mj_Nm4 (Or.inl rfl) rfl), trivial⟩, ?_⟩
  refine List.forall_mem_cons.mpr ⟨⟨(show (0 : Int) ≤ ((61 : Nat) : Int) + 37 by decide), trivial⟩, ?_⟩
  refine List.forall_mem_cons.mpr ⟨⟨(trivial), trivial⟩, ?_⟩
  refine List.forall_mem_cons.mpr ⟨⟨(mj_lkG (by decide) rfl (by decide) mj_inU4 mjf_1_38), trivial⟩, ?_⟩
  refine List.forall_mem_cons.mpr ⟨⟨(trivial), trivial⟩, ?_⟩
  refine List.forall_mem_cons.mpr ⟨⟨(trivial), trivial⟩, ?_⟩
  refine List.forall_mem_cons.mpr ⟨⟨(trivial), trivial⟩, ?_⟩
  refine List.forall_mem_cons.mpr ⟨⟨(show (0 : Int) ≤ ((73 : Nat) : Int) + 25 by decide), trivial⟩, ?_⟩
  refine List.forall_mem_cons.mpr ⟨⟨(trivial), trivial⟩, ?_⟩
  refine List.forall_mem_cons.mpr ⟨⟨(trivial), trivial⟩, ?_⟩
  refine List.forall_mem_cons.mpr ⟨⟨(show (0 : Int) ≤ ((79 : Nat) : Int) + 19 by decide), trivial⟩, ?_⟩
  refine List.forall_mem_cons.mpr ⟨⟨(trivial), trivial⟩, ?_⟩
  refine List.forall_mem_cons.mpr ⟨⟨(trivial), trivial⟩, ?_⟩
  refine List.forall_mem_cons.mpr ⟨⟨(mj_lkG (by decide) rfl (by decide) mj_inU4 mjf_1_27), trivial⟩, ?_⟩
  refine List.forall_mem_cons.mpr ⟨⟨(trivial), trivial⟩, ?_⟩
  refine List.forall_mem_cons.mpr ⟨⟨(trivial), trivial⟩, ?_⟩
  refine List.forall_mem_cons.mpr ⟨⟨(trivial), trivial⟩, ?_⟩
  refine List.forall_mem_cons.mpr ⟨⟨(mj_lkG (by decide) rfl (by decide) mj_inU4 mjf_1_27), trivial⟩, ?_⟩
  refine List.forall_mem_cons.mpr ⟨⟨(trivial), trivial⟩, ?_⟩
  refine List.forall_mem_cons.mpr ⟨⟨(mj_lkP (by decide) rfl (by decide) mj_inU4 mjf_1_27 mj_TyOk4 mj_Nm4 (Or.inl rfl) rfl), trivial⟩, ?_⟩
  refine List.forall_mem_cons.mpr ⟨⟨(show (4 : Nat) < mj_maxL 22 by decide), trivial⟩, ?_⟩
  refine List.forall_mem_cons.mpr ⟨⟨(show (0 : Int) ≤ ((101 : Nat) : Int) + (-83) by decide), trivial⟩, ?_⟩
  refine List.forall_mem_cons.mpr ⟨⟨(show (2 : Nat) < mj_maxL 22 by decide), trivial⟩, ?_⟩
  refine List.forall_mem_cons.mpr ⟨⟨(show (0 : Int) ≤ ((107 : Nat) : Int) + (-105) by decide), trivial⟩, ?_⟩
  refine List.forall_mem_cons.mpr ⟨⟨(trivial), trivial⟩, ?_⟩
  exact fun _ h => absurd h List.not_mem_nil
theorem mjd_22 : mj_ckd 22 = true := by decide +kernel
theorem mjg_22 : mj_good 22 := mj_goodOf (fun _ => ⟨mj_G, rfl⟩) (by decide +kernel) mjd_22 mje_22
theorem mje_23 : ∀ e ∈ mj_tb23, mj_lk 23 e.1 e.2.1 e.2.2.1 e.2.2.2 ∧ mj_cok 23 e.2.1 e.2.2.1 e.2.2.2 := by
  unfold mj_tb23
  refine List.forall_mem_cons.mpr ⟨⟨(trivial), trivial⟩, ?_⟩
  refine List.forall_mem_cons.mpr ⟨⟨(trivial), trivial⟩, ?_⟩
  refine List.forall_mem_cons.mpr ⟨⟨(trivial), trivial⟩, ?_⟩
  refine List.forall_mem_cons.mpr ⟨⟨(show (3 : Nat) < mj_maxL 23 by decide), trivial⟩, ?_⟩
  refine List.forall_mem_cons.mpr ⟨⟨(trivial), trivial⟩, ?_⟩
  refine List.forall_mem_cons.mpr ⟨⟨(trivial), trivial⟩, ?_⟩
  refine List.forall_mem_cons.mpr ⟨⟨(mj_lkP (by decide) rfl (by decide) mj_inU1 mjf_1_41 mj_TyOk1 mj_Nm1 (Or.inl rfl) rfl), trivial⟩, ?_⟩
  refine List.forall_mem_cons.mpr ⟨⟨(trivial), trivial⟩, ?_⟩
  refine List.forall_mem_cons.mpr ⟨⟨(trivial), trivial⟩, ?_⟩
  refine List.forall_mem_cons.mpr ⟨⟨(mj_lkP (by decide) rfl (by decide) mj_inU1 mjf_1_44 mj_TyOk1 mj_Nm1 (Or.inl rfl) rfl), trivial⟩, ?_⟩
  refine List.forall_mem_cons.mpr ⟨⟨(trivial), trivial⟩, ?_⟩
  refine List.forall_mem_cons.mpr ⟨⟨(trivial), trivial⟩, ?_⟩
  refine List.forall_mem_cons.mpr ⟨⟨(mj_lkP (by decide) rfl (by decide) mj_inU1 mjf_1_47 mj_TyOk1 mj_Nm1 (Or.inl rfl) rfl), trivial⟩, ?_⟩
  refine List.forall_mem_cons.mpr ⟨⟨(trivial), trivial⟩, ?_⟩
  refine List.forall_mem_cons.mpr ⟨⟨(show (0 : Int) ≤ ((20 : Nat) : Int) + 18 by decide), trivial⟩, ?_⟩
  refine List.forall_mem_cons.mpr ⟨⟨(trivial), trivial⟩, ?_⟩
  refine List.forall_mem_cons.mpr ⟨⟨(mj_lkG (by decide) rfl (by decide) mj_inU4 mjf_1_32), trivial⟩, ?_⟩
  refine List.forall_mem_cons.mpr ⟨⟨(show (0 : Int) ≤ ((27 : Nat) : Int) + 11 by decide), trivial⟩, ?_⟩
  refine List.forall_mem_cons.mpr ⟨⟨(trivial), trivial⟩, ?_⟩
  refine List.forall_mem_cons.mpr ⟨⟨(trivial), trivial⟩, ?_⟩
  refine List.forall_mem_cons.mpr ⟨⟨(trivial), trivial⟩, ?_⟩
  refine List.forall_mem_cons.mpr ⟨⟨(trivial), trivial⟩, ?_⟩
  refine List.forall_mem_cons.mpr ⟨⟨(trivial), mj_ckOf mjK_24 (by decide) (mj_lnkG mjl_1_50)⟩, ?_⟩
  refine List.forall_mem_cons.mpr ⟨⟨(trivial), trivial⟩, ?_⟩
  refine List.forall_mem_cons.mpr ⟨⟨(trivial), trivial⟩, ?_⟩
  refine List.forall_mem_cons.mpr ⟨⟨(show (4 : Nat) < mj_maxL 23 by decide), trivial⟩, ?_⟩
  refine List.forall_mem_cons.mpr ⟨⟨(trivial), trivial⟩, ?_⟩
  refine List.forall_mem_cons.mpr ⟨⟨(trivial), trivial⟩, ?_⟩
  refine List.forall_mem_cons.mpr ⟨⟨(mj_lkG (by decide) rfl (by decide) mj_inU4 mjf_1_32), trivial⟩, ?_⟩
  refine List.forall_mem_cons.mpr ⟨⟨(show (0 : Int) ≤ ((47 : Nat) : Int) + 34 by decide), trivial⟩, ?_⟩
  refine List.forall_mem_cons.mpr ⟨⟨(trivial), trivial⟩, ?_⟩
  refine List.forall_mem_cons.mpr ⟨⟨(trivial), trivial⟩, ?_⟩
  refine List.forall_mem_cons.mpr ⟨⟨(trivial), trivial⟩, ?_⟩
  refine List.forall_mem_cons.mpr ⟨⟨(trivial), trivial⟩, ?_⟩
  refine List.forall_mem_cons.mpr ⟨⟨(trivial), mj_ckOf mjK_25 (by decide) (mj_lnkG mjl_1_54)⟩, ?_⟩
  refine List.forall_mem_cons.mpr ⟨⟨(show (5 : Nat) < mj_maxL 23 by decide), trivial⟩, ?_⟩
  refine List.forall_mem_cons.mpr ⟨⟨(trivial), trivial⟩, ?_⟩
  refine List.forall_mem_cons.mpr ⟨⟨(show (0 : Int) ≤ ((62 : Nat) : Int) + 13 by decide), trivial⟩, ?_⟩
  refine List.forall_mem_cons.mpr ⟨⟨(trivial), trivial⟩, ?_⟩
  refine List.forall_mem_cons.mpr ⟨⟨(trivial), trivial⟩, ?_⟩
  refine List.forall_mem_cons.mpr ⟨⟨(trivial), trivial⟩, ?_⟩
  refine List.forall_mem_cons.mpr ⟨⟨(trivial), trivial⟩, ?_⟩
  refine List.forall_mem_cons.mpr ⟨⟨(trivial), mj_ckOf mjK_24 (by decide) (mj_lnkG mjl_1_50)⟩, ?_⟩
  refine List.forall_mem_cons.mpr ⟨⟨(trivial), trivial⟩, ?_⟩
  refine List.forall_mem_cons.mpr ⟨⟨(show (4 : Nat) < mj_maxL 23 by decide), trivial⟩, ?_⟩
  refine List.forall_mem_cons.mpr ⟨⟨(show (0 : Int) ≤ ((78 : Nat) : Int) + (-37) by decide), trivial⟩, ?_⟩
  refine List.forall_mem_cons.mpr ⟨⟨(trivial), trivial⟩, ?_⟩
  refine List.forall_mem_cons.mpr ⟨⟨(mj_lkG (by decide) rfl (by decide) mj_inU1 mjf_1_41), trivial⟩, ?_⟩
  refine List.forall_mem_cons.mpr ⟨⟨(show (0 : Int) ≤ ((85 : Nat) : Int) + 17 by decide), trivial⟩, ?_⟩
  refine List.forall_mem_cons.mpr ⟨⟨(trivial), trivial⟩, ?_⟩
  refine List.forall_mem_cons.mpr ⟨⟨(trivial), trivial⟩, ?_⟩
  refine List.forall_mem_cons.mpr ⟨⟨(trivial), trivial⟩, ?_⟩
  refine List.forall_mem_cons.mpr ⟨⟨(trivial), trivial⟩, ?_⟩
  refine List.forall_mem_cons.mpr ⟨⟨(mj_lkG (by decide) rfl (by decide) mj_inU4 mjf_1_32), trivial⟩, ?_⟩
  refine List.forall_mem_cons.mpr ⟨⟨(trivial), mj_ckOf mjK_24 (by decide) (mj_lnkG mjl_1_50)⟩, ?_⟩
  refine List.forall_mem_cons.mpr ⟨⟨(show (0 : Int) ≤ ((99 : Nat) : Int) + 4 by decide), trivial⟩, ?_⟩
  refine List.forall_mem_cons.mpr ⟨⟨(trivial), trivial⟩, ?_⟩
  refine List.forall_mem_cons.mpr ⟨⟨(trivial), trivial⟩, ?_⟩
  exact fun _ h => absurd h List.not_mem_nil
theorem mjd_23 : mj_ckd 23 = true := by decide +kernel
theorem mjg_23 : mj_good 23 := mj_goodOf (fun _ => ⟨mj_G, rfl⟩) (by decide +kernel) mjd_23 mje_23
theorem mje_24 : ∀ e ∈ mj_tb24, mj_lk 24 e.1 e.2.1 e.2.2.1 e.2.2.2 ∧ mj_cok 24 e.2.1 e.2.2.1 e.2.2.2 := by
  unfold mj_tb24
  refine List.forall_mem_cons.mpr ⟨⟨(trivial), trivial⟩, ?_⟩
  refine List.forall_mem_cons.mpr ⟨⟨(trivial), trivial⟩, ?_⟩
  refine List.forall_mem_cons.mpr ⟨⟨(trivial), trivial⟩, ?_⟩
  refine List.forall_mem_cons.mpr ⟨⟨(trivial), trivial⟩, ?_⟩
  refine List.forall_mem_cons.mpr ⟨⟨(trivial), trivial⟩, ?_⟩
  refine List.forall_mem_cons.mpr ⟨⟨(trivial), trivial⟩, ?_⟩
  refine List.forall_mem_cons.mpr ⟨⟨(mj_lkP (by decide) rfl (by decide) mj_inU1 mjf_1_9 mj_TyOk1 mj_Nm1 (Or.inl rfl) rfl), trivial⟩, ?_⟩
  refine List.forall_mem_cons.mpr ⟨⟨(trivial), trivial⟩, ?_⟩
  refine List.forall_mem_cons.mpr ⟨⟨(trivial), trivial⟩, ?_⟩
  exact fun _ h => absurd h List.not_mem_nil
theorem mjd_24 : mj_ckd 24 = true := by decide +kernel
theorem mjg_24 : mj_good 24 := mj_goodOf (fun _ => ⟨mj_G, rfl⟩) (by decide +kernel) mjd_24 mje_24
theorem mje_25 : ∀ e ∈ mj_tb25, mj_lk 25 e.1 e.2.1 e.2.2.1 e.2.2.2 ∧ mj_cok 25 e.2.1 e.2.2.1 e.2.2.2 := by
  unfold mj_tb25
  refine List.forall_mem_cons.mpr ⟨⟨(trivial), trivial⟩, ?_⟩
  refine List.forall_mem_cons.mpr ⟨⟨(trivial), trivial⟩, ?_⟩
  refine List.forall_mem_cons.mpr ⟨⟨(trivial), trivial⟩, ?_⟩
  refine List.forall_mem_cons.mpr ⟨⟨(show (4 : Nat) < mj_maxL 25 by decide), trivial⟩, ?_⟩
  refine List.forall_mem_cons.mpr ⟨⟨(trivial), trivial⟩, ?_⟩
  refine List.forall_mem_cons.mpr ⟨⟨(mj_lkG (by decide) rfl (by decide) mj_inU4 mjf_1_38), trivial⟩, ?_⟩
  refine List.forall_mem_cons.mpr ⟨⟨(trivial), trivial⟩, ?_⟩
  refine List.forall_mem_cons.mpr ⟨⟨(trivial), trivial⟩, ?_⟩
  refine List.forall_mem_cons.mpr ⟨⟨(show (0 : Int) ≤ ((12 : Nat) : Int) + 103 ∧ ∀ off ∈ (#[95, 40, 61, 46, 71, 81] : Array Int).toList, (0 : Int) ≤ ((12 : Nat) : Int) + off by decide), trivial⟩, ?_⟩
  refine List.forall_mem_cons.mpr ⟨⟨(trivial), trivial⟩, ?_⟩
  refine List.forall_mem_cons.mpr ⟨⟨(trivial), trivial⟩, ?_⟩
  refine List.forall_mem_cons.mpr ⟨⟨(trivial), mj_ckOf mjK_26 (by decide) (mj_lnkG mjl_1_58)⟩, ?_⟩
  refine List.forall_mem_cons.mpr ⟨⟨(trivial), trivial⟩, ?_⟩
  refine List.forall_mem_cons.mpr ⟨⟨(trivial), trivial⟩, ?_⟩
  refine List.forall_mem_cons.mpr ⟨⟨(trivial), trivial⟩, ?_⟩
  refine List.forall_mem_cons.mpr ⟨⟨(trivial), trivial⟩, ?_⟩
  refine List.forall_mem_cons.mpr ⟨⟨(trivial), trivial⟩, ?_⟩
  refine List.forall_mem_cons.mpr ⟨⟨(mj_lkG (by decide) rfl (by decide) mj_inU4 mjf_1_35), trivial⟩, ?_⟩
  refine List.forall_mem_cons.mpr ⟨⟨(trivial), trivial⟩, ?_⟩
  refine List.forall_mem_cons.mpr ⟨⟨(trivial), trivial⟩, ?_⟩
  refine List.forall_mem_cons.mpr ⟨⟨(trivial), trivial⟩, ?_⟩
  refine List.forall_mem_cons.mpr ⟨⟨(trivial), mj_ckOf mjK_28 (by decide) (mj_lnkG mjl_1_62)⟩, ?_⟩
  refine List.forall_mem_cons.mpr ⟨⟨(trivial), trivial⟩, ?_⟩
  refine List.forall_mem_cons.mpr ⟨⟨(trivial), trivial⟩, ?_⟩
  refine List.forall_mem_cons.mpr ⟨⟨(trivial), trivial⟩, ?_⟩
  refine List.forall_mem_cons.mpr ⟨⟨(trivial), trivial⟩, ?_⟩
  refine List.forall_mem_cons.mpr ⟨⟨(trivial), trivial⟩, ?_⟩
  refine List.forall_mem_cons.mpr ⟨⟨(trivial), mj_ckOf mjK_29 (by decide) (mj_lnkG mjl_1_66)⟩, ?_⟩
  refine List.forall_mem_cons.mpr ⟨⟨(trivial), trivial⟩, ?_⟩
  refine List.forall_mem_cons.mpr ⟨⟨(trivial), trivial⟩, ?_⟩
  refine List.forall_mem_cons.mpr ⟨⟨(trivial), trivial⟩, ?_⟩
  refine List.forall_mem_cons.mpr ⟨⟨(trivial), trivial⟩, ?_⟩
  refine List.forall_mem_cons.mpr ⟨⟨(trivial), trivial⟩, ?_⟩
  refine List.forall_mem_cons.mpr ⟨⟨(trivial), mj_ckOf mjK_29 (by decide) (mj_lnkG mjl_1_66)⟩, ?_⟩
  refine List.forall_mem_cons.mpr ⟨⟨(trivial), trivial⟩, ?_⟩
  refine List.forall_mem_cons.mpr ⟨⟨(trivial), trivial⟩, ?_⟩
  refine List.forall_mem_cons.mpr ⟨⟨(trivial), trivial⟩, ?_⟩
  refine List.forall_mem_cons.mpr ⟨⟨(trivial), trivial⟩, ?_⟩
  refine List.forall_mem_cons.mpr ⟨⟨(trivial), trivial⟩, ?_⟩
  refine List.forall_mem_cons.mpr ⟨⟨(mj_lkG (by decide) rfl (by decide) mj_inU4 mjf_1_35), trivial⟩, ?_⟩
  refine List.forall_mem_cons.mpr ⟨⟨(trivial), trivial⟩, ?_⟩
  refine List.forall_mem_cons.mpr ⟨⟨(trivial), trivial⟩, ?_⟩
  refine List.forall_mem_cons.mpr ⟨⟨(trivial), mj_ckOf mjK_32 (by decide) (mj_lnkG mjl_1_70)⟩, ?_⟩
  refine List.forall_mem_cons.mpr ⟨⟨(trivial), trivial⟩, ?_⟩
  refine List.forall_mem_cons.mpr ⟨⟨(trivial), trivial⟩, ?_⟩
  refine List.forall_mem_cons.mpr ⟨⟨(trivial), trivial⟩, ?_⟩
  refine List.forall_mem_cons.mpr ⟨⟨(trivial), trivial⟩, ?_⟩
  refine List.forall_mem_cons.mpr ⟨⟨(trivial), mj_ckOf mjK_33 (by decide) (mj_lnkG mjl_1_73)⟩, ?_⟩
  refine List.forall_mem_cons.mpr ⟨⟨(trivial), trivial⟩, ?_⟩
  refine List.forall_mem_cons.mpr ⟨⟨(trivial), trivial⟩, ?_⟩
  refine List.forall_mem_cons.mpr ⟨⟨(trivial), trivial⟩, ?_⟩
  exact fun _ h => absurd h List.not_mem_nil
theorem mjd_25 : mj_ckd 25 = true := by decide +kernel
theorem mjg_25 : mj_good 25 := mj_goodOf (fun _ => ⟨mj_G, rfl⟩) (by decide +kernel) mjd_25 mje_25
theorem mje_26 : ∀ e ∈ mj_tb26, mj_lk 26 e.1 e.2.1 e.2.2.1 e.2.2.2 ∧ mj_cok 26 e.2.1 e.2.2.1 e.2.2.2 := by
  unfold mj_tb26
  refine List.forall_mem_cons.mpr ⟨⟨(trivial), trivial⟩, ?_⟩
  refine List.forall_mem_cons.mpr ⟨⟨(mj_lkG (by decide) rfl (by decide) mj_inU1 mjf_1_44), trivial⟩, ?_⟩
  refine List.forall_mem_cons.mpr ⟨⟨(trivial), trivial⟩, ?_⟩
  refine List.forall_mem_cons.mpr ⟨⟨(show (0 : Int) ≤ ((5 : Nat) : Int) + 5 by decide), trivial⟩, ?_⟩
  refine List.forall_mem_cons.mpr ⟨⟨(trivial), trivial⟩, ?_⟩
  refine List.forall_mem_cons.mpr ⟨⟨(trivial), trivial⟩, ?_⟩
  refine List.forall_mem_cons.mpr ⟨⟨(trivial), trivial⟩, ?_⟩
  refine List.forall_mem_cons.mpr ⟨⟨(trivial), trivial⟩, ?_⟩
  refine List.forall_mem_cons.mpr ⟨⟨(mj_lkG (by decide) rfl (by decide) mj_inU1 mjf_1_44), trivial⟩, ?_⟩
  refine List.forall_mem_cons.mpr ⟨⟨(trivial), trivial⟩, ?_⟩
  refine List.forall_mem_cons.mpr ⟨⟨(trivial), trivial⟩, ?_⟩
  refine List.forall_mem_cons.mpr ⟨⟨(mj_lkP (by decide) rfl (by decide) mj_inU1 mjf_1_44 mj_TyOk1 mj_Nm1 (Or.inl rfl) rfl), trivial⟩, ?_⟩
  refine List.forall_mem_cons.mpr ⟨⟨(trivial), trivial⟩, ?_⟩
  refine List.forall_mem_cons.mpr ⟨⟨(trivial), trivial⟩, ?_⟩
  refine List.forall_mem_cons.mpr ⟨⟨(trivial), mj_ckOf mjK_27 (by decide) (mj_lnkG mjl_1_77)⟩, ?_⟩
  refine List.forall_mem_cons.mpr ⟨⟨(trivial), trivial⟩, ?_⟩
  exact fun _ h => absurd h List.not_mem_nil
theorem mjd_26 : mj_ckd 26 = true := by decide +kernel
theorem mjg_26 : mj_good 26 := mj_goodOf (fun _ => ⟨mj_G, rfl⟩) (by decide +kernel) mjd_26 mje_26
theorem mje_27 : ∀ e ∈ mj_tb27, mj_lk 27 e.1 e.2.1 e.2.2.1 e.2.2.2 ∧ mj_cok 27 e.2.1 e.2.2.1 e.2.2.2 := by
  unfold mj_tb27
  refine List.forall_mem_cons.mpr ⟨⟨(trivial), trivial⟩, ?_⟩
  refine List.forall_mem_cons.mpr ⟨⟨(mj_lkG (by decide) rfl (by decide) mj_inU1 mjf_1_15), trivial⟩, ?_⟩
  refine List.forall_mem_cons.mpr ⟨⟨(trivial), trivial⟩, ?_⟩
  refine List.forall_mem_cons.mpr ⟨⟨(mj_lkG (by decide) rfl (by decide) mj_inU1 mjf_1_41), trivial⟩, ?_⟩
  refine List.forall_mem_cons.mpr ⟨⟨(trivial), trivial⟩, ?_⟩
  refine List.forall_mem_cons.mpr ⟨⟨(trivial), trivial⟩, ?_⟩
  refine List.forall_mem_cons.mpr ⟨⟨(trivial), trivial⟩, ?_⟩
  refine List.forall_mem_cons.mpr ⟨⟨(trivial), trivial⟩, ?_⟩
  refine List.forall_mem_cons.mpr ⟨⟨(mj_lkG (by decide) rfl (by decide) mj_inU1 mjf_1_41), trivial⟩, ?_⟩
  refine List.forall_mem_cons.mpr ⟨⟨(trivial), trivial⟩, ?_⟩
  refine List.forall_mem_cons.mpr ⟨⟨(trivial), trivial⟩, ?_⟩
  refine List.forall_mem_cons.mpr ⟨⟨(mj_lkP (by decide) rfl (by decide) mj_inU1 mjf_1_41 mj_TyOk1 mj_Nm1 (Or.inl rfl) rfl), trivial⟩, ?_⟩
  refine List.forall_mem_cons.mpr ⟨⟨(trivial), trivial⟩, ?_⟩
  refine List.forall_mem_cons.mpr ⟨⟨(trivial), trivial⟩, ?_⟩
  exact fun _ h => absurd h List.not_mem_nil
theorem mjd_27 : mj_ckd 27 = true := by decide +kernel
theorem mjg_27 : mj_good 27 := mj_goodOf (fun _ => ⟨mj_G, rfl⟩) (by decide +kernel) mjd_27 mje_27
theorem mje_28 : ∀ e ∈ mj_tb28, mj_lk 28 e.1 e.2.1 e.2.2.1 e.2.2.2 ∧ mj_cok 28 e.2.1 e.2.2.1 e.2.2.2 := by
  unfold mj_tb28
  refine List.forall_mem_cons.mpr ⟨⟨(trivial), trivial⟩, ?_⟩
  refine List.forall_mem_cons.mpr ⟨⟨(mj_lkG (by decide) rfl (by decide) mj_inU1 mjf_1_47), trivial⟩, ?_⟩
  refine List.forall_mem_cons.mpr ⟨⟨(trivial), trivial⟩, ?_⟩
  refine List.forall_mem_cons.mpr ⟨⟨(trivial), trivial⟩, ?_⟩
  refine List.forall_mem_cons.mpr ⟨⟨(show (0 : Int) ≤ ((6 : Nat) : Int) + 5 by decide), trivial⟩, ?_⟩
  refine List.forall_mem_cons.mpr ⟨⟨(trivial), trivial⟩, ?_⟩
  refine List.forall_mem_cons.mpr ⟨⟨(trivial), trivial⟩, ?_⟩
  refine List.forall_mem_cons.mpr ⟨⟨(trivial), trivial⟩, ?_⟩
  refine List.forall_mem_cons.mpr ⟨⟨(trivial), trivial⟩, ?_⟩
  refine List.forall_mem_cons.mpr ⟨⟨(mj_lkG (by decide) rfl (by decide) mj_inU1 mjf_1_47), trivial⟩, ?_⟩
  refine List.forall_mem_cons.mpr ⟨⟨(trivial), trivial⟩, ?_⟩
  refine List.forall_mem_cons.mpr ⟨⟨(trivial), trivial⟩, ?_⟩
  refine List.forall_mem_cons.mpr ⟨⟨(mj_lkP (by decide) rfl (by decide) mj_inU1 mjf_1_47 mj_TyOk1 mj_Nm1 (Or.inl rfl) rfl), trivial⟩, ?_⟩
  refine List.forall_mem_cons.mpr ⟨⟨(trivial), trivial⟩, ?_⟩
  refine List.forall_mem_cons.mpr ⟨⟨(trivial), trivial⟩, ?_⟩
  refine List.forall_mem_cons.mpr ⟨⟨(trivial), mj_ckOf mjK_27 (by decide) (mj_lnkG mjl_1_77)⟩, ?_⟩
  refine List.forall_mem_cons.mpr ⟨⟨(trivial), trivial⟩, ?_⟩
  exact fun _ h => absurd h List.not_mem_nil
theorem mjd_28 : mj_ckd 28 = true := by decide +kernel
theorem mjg_28 : mj_good 28 := mj_goodOf (fun _ => ⟨mj_G, rfl⟩) (by decide +kernel) mjd_28 mje_28
theorem mje_29 : ∀ e ∈ mj_tb29, mj_lk 29 e.1 e.2.1 e.2.2.1 e.2.2.2 ∧ mj_cok 29 e.2.1 e.2.2.1 e.2.2.2 := by
  unfold mj_tb29
  refine List.forall_mem_cons.mpr ⟨⟨(trivial), trivial⟩, ?_⟩
  refine List.forall_mem_cons.mpr ⟨⟨(mj_lkG (by decide) rfl (by decide) mj_inU1 mjf_1_41), trivial⟩, ?_⟩
  refine List.forall_mem_cons.mpr ⟨⟨(show (0 : Int) ≤ ((4 : Nat) : Int) + 23 by decide), trivial⟩, ?_⟩
  refine List.forall_mem_cons.mpr ⟨⟨(trivial), trivial⟩, ?_⟩
  refine List.forall_mem_cons.mpr ⟨⟨(mj_lkG (by decide) rfl (by decide) mj_inU4 mjf_1_38), trivial⟩, ?_⟩
  refine List.forall_mem_cons.mpr ⟨⟨(trivial), trivial⟩, ?_⟩
  refine List.forall_mem_cons.mpr ⟨⟨(mj_lkG (by decide) rfl (by decide) mj_inU1 mjf_1_15), trivial⟩, ?_⟩
  refine List.forall_mem_cons.mpr ⟨⟨(trivial), trivial⟩, ?_⟩
  refine List.forall_mem_cons.mpr ⟨⟨(mj_lkG (by decide) rfl (by decide) mj_inU1 mjf_1_41), trivial⟩, ?_⟩
  refine List.forall_mem_cons.mpr ⟨⟨(trivial), trivial⟩, ?_⟩
  refine List.forall_mem_cons.mpr ⟨⟨(trivial), trivial⟩, ?_⟩
  refine List.forall_mem_cons.mpr ⟨⟨(trivial), trivial⟩, ?_⟩
  refine List.forall_mem_cons.mpr ⟨⟨(trivial), trivial⟩, ?_⟩
  refine List.forall_mem_cons.mpr ⟨⟨(trivial), trivial⟩, ?_⟩
  refine List.forall_mem_cons.mpr ⟨⟨(show (0 : Int) ≤ ((24 : Nat) : Int) + 5 by decide), trivial⟩, ?_⟩
  refine List.forall_mem_cons.mpr ⟨⟨(trivial), trivial⟩, ?_⟩
  refine List.forall_mem_cons.mpr ⟨⟨(trivial), trivial⟩, ?_⟩
  refine List.forall_mem_cons.mpr ⟨⟨(trivial), trivial⟩, ?_⟩
  refine List.forall_mem_cons.mpr ⟨⟨(trivial), trivial⟩, ?_⟩
  refine List.forall_mem_cons.mpr ⟨⟨(mj_lkG (by decide) rfl (by decide) mj_inU1 mjf_1_41), trivial⟩, ?_⟩
  refine List.forall_mem_cons.mpr ⟨⟨(trivial), trivial⟩, ?_⟩
  refine List.forall_mem_cons.mpr ⟨⟨(trivial), trivial⟩, ?_⟩
  refine List.forall_mem_cons.mpr ⟨⟨(mj_lkP (by decide) rfl (by decide) mj_inU1 mjf_1_41 mj_TyOk1 mj_Nm1 (Or.inl rfl) rfl), trivial⟩, ?_⟩
  refine List.forall_mem_cons.mpr ⟨⟨(trivial), trivial⟩, ?_⟩
  refine List.forall_mem_cons.mpr ⟨⟨(trivial), trivial⟩, ?_⟩
  refine List.forall_mem_cons.mpr ⟨⟨(mj_lkG (by decide) rfl (by decide) mj_inU1 mjf_1_15), trivial⟩, ?_⟩
  refine List.forall_mem_cons.mpr ⟨⟨(trivial), trivial⟩, ?_⟩
  refine List.forall_mem_cons.mpr ⟨⟨(mj_lkG (by decide) rfl (by decide) mj_inU1 mjf_1_41), trivial⟩, ?_⟩
  refine List.forall_mem_cons.mpr ⟨⟨(trivial), trivial⟩, ?_⟩
  refine List.forall_mem_cons.mpr ⟨⟨(trivial), trivial⟩, ?_⟩
  refine List.forall_mem_cons.mpr ⟨⟨(trivial), mj_ckOf mjK_30 (by decide) (mj_lnkG mjl_1_80)⟩, ?_⟩
  refine List.forall_mem_cons.mpr ⟨⟨(trivial), trivial⟩, ?_⟩
  refine List.forall_mem_cons.mpr ⟨⟨(trivial), trivial⟩, ?_⟩
  refine List.forall_mem_cons.mpr ⟨⟨(show (0 : Int) ≤ ((56 : Nat) : Int) + 16 by decide), trivial⟩, ?_⟩
  refine List.forall_mem_cons.mpr ⟨⟨(trivial), trivial⟩, ?_⟩
  refine List.forall_mem_cons.mpr ⟨⟨(trivial), trivial⟩, ?_⟩
  refine List.forall_mem_cons.mpr ⟨⟨(mj_lkG (by decide) rfl (by decide) mj_inU1 mjf_1_44), trivial⟩, ?_⟩
  refine List.forall_mem_cons.mpr ⟨⟨(trivial), trivial⟩, ?_⟩
  refine List.forall_mem_cons.mpr ⟨⟨(trivial), trivial⟩, ?_⟩
  refine List.forall_mem_cons.mpr ⟨⟨(mj_lkP (by decide) rfl (by decide) mj_inU1 mjf_1_44 mj_TyOk1 mj_Nm1 (Or.inl rfl) rfl), trivial⟩, ?_⟩
  refine List.forall_mem_cons.mpr ⟨⟨(show (0 : Int) ≤ ((69 : Nat) : Int) + 21 by decide), trivial⟩, ?_⟩
  refine List.forall_mem_cons.mpr ⟨⟨(trivial), trivial⟩, ?_⟩
  refine List.forall_mem_cons.mpr ⟨⟨(trivial), trivial⟩, ?_⟩
  refine List.forall_mem_cons.mpr ⟨⟨(mj_lkG (by decide) rfl (by decide) mj_inU1 mjf_1_47), trivial⟩, ?_⟩
  refine List.forall_mem_cons.mpr ⟨⟨(trivial), trivial⟩, ?_⟩
  refine List.forall_mem_cons.mpr ⟨⟨(trivial), trivial⟩, ?_⟩
  refine List.forall_mem_cons.mpr ⟨⟨(trivial), trivial⟩, ?_⟩
  refine List.forall_mem_cons.mpr ⟨⟨(trivial), mj_ckOf mjK_31 (by decide) (mj_lnkG mjl_1_84)⟩, ?_⟩
  refine List.forall_mem_cons.mpr ⟨⟨(trivial), trivial⟩, ?_⟩
  refine List.forall_mem_cons.mpr ⟨⟨(trivial), trivial⟩, ?_⟩
  refine List.forall_mem_cons.mpr ⟨⟨(trivial), trivial⟩, ?_⟩
  refine List.forall_mem_cons.mpr ⟨⟨(trivial), trivial⟩, ?_⟩
  refine List.forall_mem_cons.mpr ⟨⟨(mj_lkP (by decide) rfl (by decide) mj_inU1 mjf_1_47 mj_TyOk1 mj_Nm1 (Or.inl rfl) rfl), trivial⟩, ?_⟩
  refine List.forall_mem_cons.mpr ⟨⟨(trivial), trivial⟩, ?_⟩
  refine List.forall_mem_cons.mpr ⟨⟨(trivial), trivial⟩, ?_⟩
  exact fun _ h => absurd h List.not_mem_nil
theorem mjd_29 : mj_ckd 29 = true := by decide +kernel
theorem mjg_29 : mj_good 29 := mj_goodOf (fun _ => ⟨mj_G, rfl⟩) (by decide +kernel) mjd_29 mje_29
theorem mje_30 : ∀ e ∈ mj_tb30, mj_lk 30 e.1 e.2.1 e.2.2.1 e.2.2.2 ∧ mj_cok 30 e.2.1 e.2.2.1 e.2.2.2 := by
  unfold mj_tb30
  refine List.forall_mem_cons.mpr ⟨⟨(trivial), trivial⟩, ?_⟩
  refine List.forall_mem_cons.mpr ⟨⟨(mj_lkG (by decide) rfl (by decide) mj_inU4 mjf_4_21), trivial⟩, ?_⟩
  refine List.forall_mem_cons.mpr ⟨⟨(trivial), trivial⟩, ?_⟩
  refine List.forall_mem_cons.mpr ⟨⟨(trivial), trivial⟩, ?_⟩
  refine List.forall_mem_cons.mpr ⟨⟨(trivial), trivial⟩, ?_⟩
  refine List.forall_mem_cons.mpr ⟨⟨(trivial), trivial⟩, ?_⟩
  refine List.forall_mem_cons.mpr ⟨⟨(mj_lkG (by decide) rfl (by decide) mj_inU4 mjf_4_21), trivial⟩, ?_⟩
  refine List.forall_mem_cons.mpr ⟨⟨(trivial), trivial⟩, ?_⟩
  refine List.forall_mem_cons.mpr ⟨⟨(trivial), trivial⟩, ?_⟩
  refine List.forall_mem_cons.mpr ⟨⟨(trivial), trivial⟩, ?_⟩
  refine List.forall_mem_cons.mpr ⟨⟨(trivial), trivial⟩, ?_⟩
  exact fun _ h => absurd h List.not_mem_nil
theorem mjd_30 : mj_ckd 30 = true := by decide +kernel
theorem mjg_30 : mj_good 30 := mj_goodOf (fun _ => ⟨mj_G, rfl⟩) (by decide +kernel) mjd_30 mje_30
theorem mje_31 : ∀ e ∈ mj_tb31, mj_lk 31 e.1 e.2.1 e.2.2.1 e.2.2.2 ∧ mj_cok 31 e.2.1 e.2.2.1 e.2.2.2 := by
  unfold mj_tb31
  refine List.forall_mem_cons.mpr ⟨⟨(trivial), trivial⟩, ?_⟩
  refine List.forall_mem_cons.mpr ⟨⟨(mj_lkG (by decide) rfl (by decide) mj_inU4 mjf_4_18), trivial⟩, ?_⟩
  refine List.forall_mem_cons.mpr ⟨⟨(trivial), trivial⟩, ?_⟩
  refine List.forall_mem_cons.mpr ⟨⟨(mj_lkG (by decide) rfl (by decide) mj_inU4 mjf_4_21), trivial⟩, ?_⟩
  refine List.forall_mem_cons.mpr ⟨⟨(trivial), trivial⟩, ?_⟩
  refine List.forall_mem_cons.mpr ⟨⟨(trivial), trivial⟩, ?_⟩
  refine List.forall_mem_cons.mpr ⟨⟨(trivial), trivial⟩, ?_⟩
  refine List.forall_mem_cons.mpr ⟨⟨(trivial), trivial⟩, ?_⟩
  exact fun _ h => absurd h List.not_mem_nil
theorem mjd_31 : mj_ckd 31 = true := by decide +kernel
theorem mjg_31 : mj_good 31 := mj_goodOf (fun _ => ⟨mj_G, rfl⟩) (by decide +kernel) mjd_31 mje_31
theorem mje_32 : ∀ e ∈ mj_tb32, mj_lk 32 e.1 e.2.1 e.2.2.1 e.2.2.2 ∧ mj_cok 32 e.2.1 e.2.2.1 e.2.2.2 := by
  unfold mj_tb32
  refine List.forall_mem_cons.mpr ⟨⟨(trivial), trivial⟩, ?_⟩
  refine List.forall_mem_cons.mpr ⟨⟨(trivial), trivial⟩, ?_⟩
  refine List.forall_mem_cons.mpr ⟨⟨(show (0 : Int) ≤ ((2 : Nat) : Int) + 12 by decide), trivial⟩, ?_⟩
  refine List.forall_mem_cons.mpr ⟨⟨(trivial), trivial⟩, ?_⟩
  refine List.forall_mem_cons.mpr ⟨⟨(trivial), trivial⟩, ?_⟩
  refine List.forall_mem_cons.mpr ⟨⟨(trivial), trivial⟩, ?_⟩
  refine List.forall_mem_cons.mpr ⟨⟨(mj_lkG (by decide) rfl (by decide) mj_inU4 mjf_1_32), trivial⟩, ?_⟩
  refine List.forall_mem_cons.mpr ⟨⟨(show (0 : Int) ≤ ((11 : Nat) : Int) + 5 by decide), trivial⟩, ?_⟩
  refine List.forall_mem_cons.mpr ⟨⟨(trivial), trivial⟩, ?_⟩
  refine List.forall_mem_cons.mpr ⟨⟨(trivial), trivial⟩, ?_⟩
  refine List.forall_mem_cons.mpr ⟨⟨(trivial), trivial⟩, ?_⟩
  refine List.forall_mem_cons.mpr ⟨⟨(trivial), trivial⟩, ?_⟩
  refine List.forall_mem_cons.mpr ⟨⟨(trivial), trivial⟩, ?_⟩
  refine List.forall_mem_cons.mpr ⟨⟨(mj_lkG (by decide) rfl (by decide) mj_inU4 mjf_1_27), trivial⟩, ?_⟩
  refine List.forall_mem_cons.mpr ⟨⟨(trivial), trivial⟩, ?_⟩
  refine List.forall_mem_cons.mpr ⟨⟨(mj_lkG (by decide) rfl (by decide) mj_inU1 mjf_1_47), trivial⟩, ?_⟩
  refine List.forall_mem_cons.mpr ⟨⟨(trivial), trivial⟩, ?_⟩
  refine List.forall_mem_cons.mpr ⟨⟨(show (0 : Int) ≤ ((27 : Nat) : Int) + 7 by decide), trivial⟩, ?_⟩
  refine List.forall_mem_cons.mpr ⟨⟨(trivial), trivial⟩, ?_⟩
  refine List.forall_mem_cons.mpr ⟨⟨(show (0 : Int) ≤ ((31 : Nat) : Int) + 4 by decide), trivial⟩, ?_⟩
  refine List.forall_mem_cons.mpr ⟨⟨(trivial), trivial⟩, ?_⟩
  refine List.forall_mem_cons.mpr ⟨⟨(trivial), trivial⟩, ?_⟩
  exact fun _ h => absurd h List.not_mem_nil
theorem mjd_32 : mj_ckd 32 = true := by decide +kernel
theorem mjg_32 : mj_good 32 := mj_goodOf (fun _ => ⟨mj_G, rfl⟩) (by decide +kernel) mjd_32 mje_32
theorem mje_33 : ∀ e ∈ mj_tb33, mj_lk 33 e.1 e.2.1 e.2.2.1 e.2.2.2 ∧ mj_cok 33 e.2.1 e.2.2.1 e.2.2.2 := by
  unfold mj_tb33
  refine List.forall_mem_cons.mpr ⟨⟨(trivial), trivial⟩, ?_⟩
  refine List.forall_mem_cons.mpr ⟨⟨(trivial), trivial⟩, ?_⟩
  refine List.forall_mem_cons.mpr ⟨⟨(mj_lkG (by decide) rfl (by decide) mj_inU4 mjf_1_35), trivial⟩, ?_⟩
  refine List.forall_mem_cons.mpr ⟨⟨(trivial), trivial⟩, ?_⟩
  refine List.forall_mem_cons.mpr ⟨⟨(trivial), trivial⟩, ?_⟩
  refine List.forall_mem_cons.mpr ⟨⟨(trivial), trivial⟩, ?_⟩
  refine List.forall_mem_cons.mpr ⟨⟨(trivial), trivial⟩, ?_⟩
  refine List.forall_mem_cons.mpr ⟨⟨(trivial), trivial⟩, ?_⟩
  refine List.forall_mem_cons.mpr ⟨⟨(show (3 : Nat) < mj_maxL 33 by decide), trivial⟩, ?_⟩
  refine List.forall_mem_cons.mpr ⟨⟨(trivial), trivial⟩, ?_⟩
  refine List.forall_mem_cons.mpr ⟨⟨(trivial), trivial⟩, ?_⟩
  refine List.forall_mem_cons.mpr ⟨⟨(mj_lkG (by decide) rfl (by decide) mj_inU4 mjf_1_32), trivial⟩, ?_⟩
  refine List.forall_mem_cons.mpr ⟨⟨(show (0 : Int) ≤ ((16 : Nat) : Int) + 6 by decide), trivial⟩, ?_⟩
  refine List.forall_mem_cons.mpr ⟨⟨(trivial), trivial⟩, ?_⟩
  refine List.forall_mem_cons.mpr ⟨⟨(trivial), trivial⟩, ?_⟩
  refine List.forall_mem_cons.mpr ⟨⟨(trivial), trivial⟩, ?_⟩
  refine List.forall_mem_cons.mpr ⟨⟨(show (4 : Nat) < mj_maxL 33 by decide), trivial⟩, ?_⟩
  refine List.forall_mem_cons.mpr ⟨⟨(trivial), trivial⟩, ?_⟩
  refine List.forall_mem_cons.mpr ⟨⟨(trivial), trivial⟩, ?_⟩
  refine List.forall_mem_cons.mpr ⟨⟨(trivial), trivial⟩, ?_⟩
  refine List.forall_mem_cons.mpr ⟨⟨(show (5 : Nat) < mj_maxL 33 by decide), trivial⟩, ?_⟩
  refine List.forall_mem_cons.mpr ⟨⟨(trivial), trivial⟩, ?_⟩
  refine List.forall_mem_cons.mpr ⟨⟨(trivial), trivial⟩, ?_⟩
  refine List.forall_mem_cons.mpr ⟨⟨(show (0 : Int) ≤ ((33 : Nat) : Int) + 29 by decide), trivial⟩, ?_⟩
  refine List.forall_mem_cons.mpr ⟨⟨(trivial), trivial⟩, ?_⟩
  refine List.forall_mem_cons.mpr ⟨⟨(show (0 : Int) ≤ ((38 : Nat) : Int) + 24 by decide), trivial⟩, ?_⟩
  refine List.forall_mem_cons.mpr ⟨⟨(trivial), trivial⟩, ?_⟩
  refine List.forall_mem_cons.mpr ⟨⟨(trivial), trivial⟩, ?_⟩
  refine List.forall_mem_cons.mpr ⟨⟨(mj_lkG (by decide) rfl (by decide) mj_inU4 mjf_1_38), trivial⟩, ?_⟩
  refine List.forall_mem_cons.mpr ⟨⟨(trivial), trivial⟩, ?_⟩
  refine List.forall_mem_cons.mpr ⟨⟨(trivial), trivial⟩, ?_⟩
  refine List.forall_mem_cons.mpr ⟨⟨(trivial), mj_ckOf mjK_34 (by decide) (mj_lnkG mjl_1_87)⟩, ?_⟩
  refine List.forall_mem_cons.mpr ⟨⟨(trivial), trivial⟩, ?_⟩
  refine List.forall_mem_cons.mpr ⟨⟨(show (4 : Nat) < mj_maxL 33 by decide), trivial⟩, ?_⟩
  refine List.forall_mem_cons.mpr ⟨⟨(show (5 : Nat) < mj_maxL 33 by decide), trivial⟩, ?_⟩
  refine List.forall_mem_cons.mpr ⟨⟨(show (0 : Int) ≤ ((59 : Nat) : Int) + (-29) by decide), trivial⟩, ?_⟩
  refine List.forall_mem_cons.mpr ⟨⟨(trivial), trivial⟩, ?_⟩
  refine List.forall_mem_cons.mpr ⟨⟨(show (0 : Int) ≤ ((64 : Nat) : Int) + 8 by decide), trivial⟩, ?_⟩
  refine List.forall_mem_cons.mpr ⟨⟨(trivial), trivial⟩, ?_⟩
  refine List.forall_mem_cons.mpr ⟨⟨(show (0 : Int) ≤ ((69 : Nat) : Int) + 4 by decide), trivial⟩, ?_⟩
  refine List.forall_mem_cons.mpr ⟨⟨(trivial), trivial⟩, ?_⟩
  refine List.forall_mem_cons.mpr ⟨⟨(trivial), trivial⟩, ?_⟩
  exact fun _ h => absurd h List.not_mem_nil
theorem mjd_33 : mj_ckd 33 = true := by decide +kernel
theorem mjg_33 : mj_good 33 := mj_goodOf (fun _ => ⟨mj_G, rfl⟩) (by decide +kernel) mjd_33 mje_33
theorem mje_34 : ∀ e ∈ mj_tb34, mj_lk 34 e.1 e.2.1 e.2.2.1 e.2.2.2 ∧ mj_cok 34 e.2.1 e.2.2.1 e.2.2.2 := by
  unfold mj_tb34
  refine List.forall_mem_cons.mpr ⟨⟨(trivial), trivial⟩, ?_⟩
  refine List.forall_mem_cons.mpr ⟨⟨(trivial), trivial⟩, ?_⟩
  refine List.forall_mem_cons.mpr ⟨⟨(show (0 : Int) ≤ ((3 : Nat) : Int) + 9 by decide), trivial⟩, ?_⟩
  refine List.forall_mem_cons.mpr ⟨⟨(trivial), trivial⟩, ?_⟩
  refine List.forall_mem_cons.mpr ⟨⟨(trivial), trivial⟩, ?_⟩
  refine List.forall_mem_cons.mpr ⟨⟨(show (0 : Int) ≤ ((9 : Nat) : Int) + 5 by decide), trivial⟩, ?_⟩
  refine List.forall_mem_cons.mpr ⟨⟨(trivial), trivial⟩, ?_⟩
  refine List.forall_mem_cons.mpr ⟨⟨(trivial), trivial⟩, ?_⟩
  refine List.forall_mem_cons.mpr ⟨⟨(trivial), trivial⟩, ?_⟩
  refine List.forall_mem_cons.mpr ⟨⟨(trivial), trivial⟩, ?_⟩
  refine List.forall_mem_cons.mpr ⟨⟨(show (0 : Int) ≤ ((17 : Nat) : Int) + 9 by decide), trivial⟩, ?_⟩
  refine List.forall_mem_cons.mpr ⟨⟨(trivial), trivial⟩, ?_⟩
  refine List.forall_mem_cons.mpr ⟨⟨(trivial), trivial⟩, ?_⟩
  refine List.forall_mem_cons.mpr ⟨⟨(show (0 : Int) ≤ ((23 : Nat) : Int) + 7 by decide), trivial⟩, ?_⟩
  refine List.forall_mem_cons.mpr ⟨⟨(trivial), trivial⟩, ?_⟩
  refine List.forall_mem_cons.mpr ⟨⟨(show (0 : Int) ≤ ((27 : Nat) : Int) + 4 by decide), trivial⟩, ?_⟩
  refine List.forall_mem_cons.mpr ⟨⟨(trivial), trivial⟩, ?_⟩
  refine List.forall_mem_cons.mpr ⟨⟨(trivial), trivial⟩, ?_⟩
  exact fun _ h => absurd h List.not_mem_nil
theorem mjd_34 : mj_ckd 34 = true := by decide +kernel
theorem mjg_34 : mj_good 34 := mj_goodOf (fun _ => ⟨mj_G, rfl⟩) (by decide +kernel) mjd_34 mje_34
theorem mje_35 : ∀ e ∈ mj_tb35, mj_lk 35 e.1 e.2.1 e.2.2.1 e.2.2.2 ∧ mj_cok 35 e.2.1 e.2.2.1 e.2.2.2 := by
  unfold mj_tb35
  refine List.forall_mem_cons.mpr ⟨⟨(trivial), trivial⟩, ?_⟩
  refine List.forall_mem_cons.mpr ⟨⟨(mj_lkG (by decide) rfl (by decide) mj_inU2 mjf_2_26), trivial⟩, ?_⟩
  refine List.forall_mem_cons.mpr ⟨⟨(trivial), trivial⟩, ?_⟩
  refine List.forall_mem_cons.mpr ⟨⟨(trivial), mj_ckOf mjK_36 (by decide) (mj_lnkG mjl_2_29)⟩, ?_⟩
  refine List.forall_mem_cons.mpr ⟨⟨(trivial), trivial⟩, ?_⟩
  refine List.forall_mem_cons.mpr ⟨⟨(show (3 : Nat) < mj_maxL 35 by decide), trivial⟩, ?_⟩
  refine List.forall_mem_cons.mpr ⟨⟨(trivial), trivial⟩, ?_⟩
  refine List.forall_mem_cons.mpr ⟨⟨(trivial), trivial⟩, ?_⟩
  refine List.forall_mem_cons.mpr ⟨⟨(show (0 : Int) ≤ ((12 : Nat) : Int) + 46 by decide), trivial⟩, ?_⟩
  refine List.forall_mem_cons.mpr ⟨⟨(trivial), trivial⟩, ?_⟩
  refine List.forall_mem_cons.mpr ⟨⟨(trivial), trivial⟩, ?_⟩
  refine List.forall_mem_cons.mpr ⟨⟨(trivial), trivial⟩, ?_⟩
  refine List.forall_mem_cons.mpr ⟨⟨(mj_lkG (by decide) rfl (by decide) mj_inU3 mjf_2_35), trivial⟩, ?_⟩
  refine List.forall_mem_cons.mpr ⟨⟨(trivial), mj_ckOf mjK_37 (by decide) (mj_lnkG mjl_2_41)⟩, ?_⟩
  refine List.forall_mem_cons.mpr ⟨⟨(trivial), trivial⟩, ?_⟩
  refine List.forall_mem_cons.mpr ⟨⟨(mj_lkG (by decide) rfl (by decide) mj_inU2 mjf_2_9), trivial⟩, ?_⟩
  refine List.forall_mem_cons.mpr ⟨⟨(trivial), trivial⟩, ?_⟩
  refine List.forall_mem_cons.mpr ⟨⟨(trivial), trivial⟩, ?_⟩
  refine List.forall_mem_cons.mpr ⟨⟨(trivial), trivial⟩, ?_⟩
  refine List.forall_mem_cons.mpr ⟨⟨(trivial), trivial⟩, ?_⟩
  refine List.forall_mem_cons.mpr ⟨⟨(mj_lkG (by decide) rfl (by decide) mj_inU3 mjf_2_35), trivial⟩, ?_⟩
  refine List.forall_mem_cons.mpr ⟨⟨(trivial), trivial⟩, ?_⟩
  refine List.forall_mem_cons.mpr ⟨⟨(trivial), trivial⟩, ?_⟩
  refine List.forall_mem_cons.mpr ⟨⟨(mj_lkG (by decide) rfl (by decide) mj_inU4 mjf_2_45), trivial⟩, ?_⟩
  refine List.forall_mem_cons.mpr ⟨⟨(trivial), trivial⟩, ?_⟩
  refine List.forall_mem_cons.mpr ⟨⟨(trivial), trivial⟩, ?_⟩
  refine List.forall_mem_cons.mpr ⟨⟨(trivial), trivial⟩, ?_⟩
  refine List.forall_mem_cons.mpr ⟨⟨(trivial), trivial⟩, ?_⟩
  refine List.forall_mem_cons.mpr ⟨⟨(trivial), trivial⟩, ?_⟩
  refine List.forall_mem_cons.mpr ⟨⟨(mj_lkG (by decide) rfl (by decide) mj_inU3 mjf_2_35), trivial⟩, ?_⟩
  refine List.forall_mem_cons.mpr ⟨⟨(trivial), trivial⟩, ?_⟩
  refine List.forall_mem_cons.mpr ⟨⟨(trivial), mj_ckOf mjK_39 (by decide) (mj_lnkG mjl_2_51)⟩, ?_⟩
  refine List.forall_mem_cons.mpr ⟨⟨(show (3 : Nat) < mj_maxL 35 by decide), trivial⟩, ?_⟩
  refine List.forall_mem_cons.mpr ⟨⟨(show (0 : Int) ≤ ((55 : Nat) : Int) + (-45) by decide), trivial⟩, ?_⟩
  refine List.forall_mem_cons.mpr ⟨⟨(trivial), trivial⟩, ?_⟩
  refine List.forall_mem_cons.mpr ⟨⟨(show (3 : Nat) < mj_maxL 35 by decide), trivial⟩, ?_⟩
  refine List.forall_mem_cons.mpr ⟨⟨(trivial), trivial⟩, ?_⟩
  refine List.forall_mem_cons.mpr ⟨⟨(trivial), trivial⟩, ?_⟩
  refine List.forall_mem_cons.mpr ⟨⟨(show (0 : Int) ≤ ((62 : Nat) : Int) + 21 by decide), trivial⟩, ?_⟩
  refine List.forall_mem_cons.mpr ⟨⟨(trivial), trivial⟩, ?_⟩
  refine List.forall_mem_cons.mpr ⟨⟨(mj_lkG (by decide) rfl (by decide) mj_inU2 mjf_2_20), trivial⟩, ?_⟩
  refine List.forall_mem_cons.mpr ⟨⟨(trivial), trivial⟩, ?_⟩
  refine List.forall_mem_cons.mpr ⟨⟨(trivial), trivial⟩, ?_⟩
  refine List.forall_mem_cons.mpr ⟨⟨(trivial), trivial⟩, ?_⟩
  refine List.forall_mem_cons.mpr ⟨⟨(trivial), trivial⟩, ?_⟩
  refine List.forall_mem_cons.mpr ⟨⟨(trivial), mj_ckOf mjK_41 (by decide) (mj_lnkG mjl_2_55)⟩, ?_⟩
  refine List.forall_mem_cons.mpr ⟨⟨(trivial), trivial⟩, ?_⟩
  refine List.forall_mem_cons.mpr ⟨⟨(show (3 : Nat) < mj_maxL 35 by decide), trivial⟩, ?_⟩
  refine List.forall_mem_cons.mpr ⟨⟨(show (0 : Int) ≤ ((80 : Nat) : Int) + (-20) by decide), trivial⟩, ?_⟩
  refine List.forall_mem_cons.mpr ⟨⟨(trivial), trivial⟩, ?_⟩
  refine List.forall_mem_cons.mpr ⟨⟨(trivial), trivial⟩, ?_⟩
  refine List.forall_mem_cons.mpr ⟨⟨(mj_lkP (by decide) rfl (by decide) mj_inU2 mjf_2_59 mj_TyOk2 mj_Nm2 (Or.inl rfl) rfl), trivial⟩, ?_⟩
  refine List.forall_mem_cons.mpr ⟨⟨(trivial), trivial⟩, ?_⟩
  refine List.forall_mem_cons.mpr ⟨⟨(trivial), trivial⟩, ?_⟩
  refine List.forall_mem_cons.mpr ⟨⟨(trivial), trivial⟩, ?_⟩
  refine List.forall_mem_cons.mpr ⟨⟨(trivial), mj_ckOf mjK_42 (by decide) (mj_lnkG mjl_2_63)⟩, ?_⟩
  refine List.forall_mem_cons.mpr ⟨⟨(trivial), trivial⟩, ?_⟩
  exact fun _ h => absurd h List.not_mem_nil
theorem mjd_35 : mj_ckd 35 = true := by decide +kernel
theorem mjg_35 : mj_good 35 := mj_goodOf (fun _ => ⟨mj_G, rfl⟩) (by decide +kernel) mjd_35 mje_35
theorem mje_36 : ∀ e ∈ mj_tb36, mj_lk 36 e.1 e.2.1 e.2.2.1 e.2.2.2 ∧ mj_cok 36 e.2.1 e.2.2.1 e.2.2.2 := by
  unfold mj_tb36
  refine List.forall_mem_cons.mpr ⟨⟨(trivial), trivial⟩, ?_⟩
  refine List.forall_mem_cons.mpr ⟨⟨(show (2 : Nat) < mj_maxL 36 by decide), trivial⟩, ?_⟩
  refine List.forall_mem_cons.mpr ⟨⟨(trivial), trivial⟩, ?_⟩
  refine List.forall_mem_cons.mpr ⟨⟨(trivial), trivial⟩, ?_⟩
  refine List.forall_mem_cons.mpr ⟨⟨(show (3 : Nat) < mj_maxL 36 by decide), trivial⟩, ?_⟩
  refine List.forall_mem_cons.mpr ⟨⟨(trivial), trivial⟩, ?_⟩
  refine List.forall_mem_cons.mpr ⟨⟨(trivial), trivial⟩, ?_⟩
  refine List.forall_mem_cons.mpr ⟨⟨(show (0 : Int) ≤ ((7 : Nat) : Int) + 13 by decide), trivial⟩, ?_⟩
  refine List.forall_mem_cons.mpr ⟨⟨(trivial), trivial⟩, ?_⟩
  refine List.forall_mem_cons.mpr ⟨⟨(trivial), trivial⟩, ?_⟩
  refine List.forall_mem_cons.mpr ⟨⟨(trivial), trivial⟩, ?_⟩
  refine List.forall_mem_cons.mpr ⟨⟨(trivial), trivial⟩, ?_⟩
  refine List.forall_mem_cons.mpr ⟨⟨(show (2 : Nat) < mj_maxL 36 by decide), trivial⟩, ?_⟩
  refine List.forall_mem_cons.mpr ⟨⟨(show (0 : Int) ≤ ((17 : Nat) : Int) + (-12) by decide), trivial⟩, ?_⟩
  refine List.forall_mem_cons.mpr ⟨⟨(trivial), trivial⟩, ?_⟩
  exact fun _ h => absurd h List.not_mem_nil
theorem mjd_36 : mj_ckd 36 = true := by decide +kernel
theorem mjg_36 : mj_good 36 := mj_goodOf (fun _ => ⟨mj_G, rfl⟩) (by decide +kernel) mjd_36 mje_36
theorem mje_37 : ∀ e ∈ mj_tb37, mj_lk 37 e.1 e.2.1 e.2.2.1 e.2.2.2 ∧ mj_cok 37 e.2.1 e.2.2.1 e.2.2.2 := by
  unfold mj_tb37
  refine List.forall_mem_cons.mpr ⟨⟨(trivial), trivial⟩, ?_⟩
  refine List.forall_mem_cons.mpr ⟨⟨(show (1 : Nat) < mj_maxL 37 by decide), trivial⟩, ?_⟩
  refine List.forall_mem_cons.mpr ⟨⟨(trivial), trivial⟩, ?_⟩
  refine List.forall_mem_cons.mpr ⟨⟨(show (0 : Int) ≤ ((3 : Nat) : Int) + 29 by decide), trivial⟩, ?_⟩
  refine List.forall_mem_cons.mpr ⟨⟨(trivial), trivial⟩, ?_⟩
  refine List.forall_mem_cons.mpr ⟨⟨(trivial), trivial⟩, ?_⟩
  refine List.forall_mem_cons.mpr ⟨⟨(trivial), trivial⟩, ?_⟩
  refine List.forall_mem_cons.mpr ⟨⟨(trivial), trivial⟩, ?_⟩
  refine List.forall_mem_cons.mpr ⟨⟨(trivial), trivial⟩, ?_⟩
  refine List.forall_mem_cons.mpr ⟨⟨(trivial), trivial⟩, ?_⟩
  refine List.forall_mem_cons.mpr ⟨⟨(trivial), trivial⟩, ?_⟩
  refine List.forall_mem_cons.mpr ⟨⟨(trivial), trivial⟩, ?_⟩
  refine List.forall_mem_cons.mpr ⟨⟨(trivial), trivial⟩, ?_⟩
  refine List.forall_mem_cons.mpr ⟨⟨(trivial), trivial⟩, ?_⟩
  refine List.forall_mem_cons.mpr ⟨⟨(trivial), trivial⟩, ?_⟩
  refine List.forall_mem_cons.mpr ⟨⟨(mj_lkG (by decide) rfl (by decide) mj_inU4 mjf_2_67), trivial⟩, ?_⟩
  refine List.forall_mem_cons.mpr ⟨⟨(trivial), mj_ckOf mjK_38 (by decide) (mj_lnkG mjl_2_70)⟩, ?_⟩
  refine List.forall_mem_cons.mpr ⟨⟨(mj_lkP (by decide) rfl (by decide) mj_inU4 mjf_2_45 mj_TyOk4 mj_Nm4 (Or.inl rfl) rfl), trivial⟩, ?_⟩
  refine List.forall_mem_cons.mpr ⟨⟨(show (1 : Nat) < mj_maxL 37 by decide), trivial⟩, ?_⟩
  refine List.forall_mem_cons.mpr ⟨⟨(show (0 : Int) ≤ ((29 : Nat) : Int) + (-27) by decide), trivial⟩, ?_⟩
  refine List.forall_mem_cons.mpr ⟨⟨(trivial), trivial⟩, ?_⟩
  exact fun _ h => absurd h List.not_mem_nil
theorem mjd_37 : mj_ckd 37 = true := by decide +kernel
theorem mjg_37 : mj_good 37 := mj_goodOf (fun _ => ⟨mj_G, rfl⟩) (by decide +kernel) mjd_37 mje_37
theorem mje_38 : ∀ e ∈ mj_tb38, mj_lk 38 e.1 e.2.1 e.2.2.1 e.2.2.2 ∧ mj_cok 38 e.2.1 e.2.2.1 e.2.2.2 := by
  unfold mj_tb38
  refine List.forall_mem_cons.mpr ⟨⟨(trivial), trivial⟩, ?_⟩
  refine List.forall_mem_cons.mpr ⟨⟨(show (4 : Nat) < mj_maxL 38 by decide), trivial⟩, ?_⟩
  refine List.forall_mem_cons.mpr ⟨⟨(trivial), trivial⟩, ?_⟩
  refine List.forall_mem_cons.mpr ⟨⟨(show (5 : Nat) < mj_maxL 38 by decide), trivial⟩, ?_⟩
  refine List.forall_mem_cons.mpr ⟨⟨(trivial), trivial⟩, ?_⟩
  refine List.forall_mem_cons.mpr ⟨⟨(show (6 : Nat) < mj_maxL 38 by decide), trivial⟩, ?_⟩
  refine List.forall_mem_cons.mpr ⟨⟨(trivial), trivial⟩, ?_⟩
  refine List.forall_mem_cons.mpr ⟨⟨(trivial), trivial⟩, ?_⟩
  refine List.forall_mem_cons.mpr ⟨⟨(show (0 : Int) ≤ ((12 : Nat) : Int) + 106 by decide), trivial⟩, ?_⟩
  refine List.forall_mem_cons.mpr ⟨⟨(trivial), trivial⟩, ?_⟩
  refine List.forall_mem_cons.mpr ⟨⟨(mj_lkG (by decide) rfl (by decide) mj_inU4 mjf_2_74), trivial⟩, ?_⟩
  refine List.forall_mem_cons.mpr ⟨⟨(trivial), trivial⟩, ?_⟩
  refine List.forall_mem_cons.mpr ⟨⟨(trivial), trivial⟩, ?_⟩
  refine List.forall_mem_cons.mpr ⟨⟨(show (7 : Nat) < mj_maxL 38 by decide), trivial⟩, ?_⟩
  refine List.forall_mem_cons.mpr ⟨⟨(trivial), trivial⟩, ?_⟩
  refine List.forall_mem_cons.mpr ⟨⟨(trivial), trivial⟩, ?_⟩
  refine List.forall_mem_cons.mpr ⟨⟨(⟨⟨by decide, by decide⟩, Or.inr ⟨"CeilingKernel", by decide +kernel⟩⟩), trivial⟩, ?_⟩
  refine List.forall_mem_cons.mpr ⟨⟨(trivial), trivial⟩, ?_⟩
  refine List.forall_mem_cons.mpr ⟨⟨(trivial), trivial⟩, ?_⟩
  refine List.forall_mem_cons.mpr ⟨⟨(trivial), trivial⟩, ?_⟩
  refine List.forall_mem_cons.mpr ⟨⟨(trivial), trivial⟩, ?_⟩
  refine List.forall_mem_cons.mpr ⟨⟨(show (4 : Nat) < mj_maxL 38 by decide), trivial⟩, ?_⟩
  refine List.forall_mem_cons.mpr ⟨⟨(trivial), trivial⟩, ?_⟩
  refine List.forall_mem_cons.mpr ⟨⟨(trivial), trivial⟩, ?_⟩
  refine List.forall_mem_cons.mpr ⟨⟨(show (0 : Int) ≤ ((42 : Nat) : Int) + 18 by decide), trivial⟩, ?_⟩
  refine List.forall_mem_cons.mpr ⟨⟨(trivial), trivial⟩, ?_⟩
  refine List.forall_mem_cons.mpr ⟨⟨(trivial), trivial⟩, ?_⟩
  refine List.forall_mem_cons.mpr ⟨⟨(mj_lkG (by decide) rfl (by decide) mj_inU4 mjf_2_80), trivial⟩, ?_⟩
  refine List.forall_mem_cons.mpr ⟨⟨(trivial), trivial⟩, ?_⟩
  refine List.forall_mem_cons.mpr ⟨⟨(trivial), trivial⟩, ?_⟩
  refine List.forall_mem_cons.mpr ⟨⟨(trivial), trivial⟩, ?_⟩
  refine List.forall_mem_cons.mpr ⟨⟨(show (5 : Nat) < mj_maxL 38 by decide), trivial⟩, ?_⟩
  refine List.forall_mem_cons.mpr ⟨⟨(show (0 : Int) ≤ ((57 : Nat) : Int) + 55 by decide), trivial⟩, ?_⟩
  refine List.forall_mem_cons.mpr ⟨⟨(trivial), trivial⟩, ?_⟩
  refine List.forall_mem_cons.mpr ⟨⟨(trivial), trivial⟩, ?_⟩
  refine List.forall_mem_cons.mpr ⟨⟨(show (0 : Int) ≤ ((64 : Nat) : Int) + 21 by decide), trivial⟩, ?_⟩
  refine List.forall_mem_cons.mpr ⟨⟨(trivial), trivial⟩, ?_⟩
  refine List.forall_mem_cons.mpr ⟨⟨(trivial), trivial⟩, ?_⟩
  refine List.forall_mem_cons.mpr ⟨⟨(trivial), trivial⟩, ?_⟩
  refine List.forall_mem_cons.mpr ⟨⟨(trivial), trivial⟩, ?_⟩
  refine List.forall_mem_cons.mpr ⟨⟨(trivial), mj_ckOf mjK_31 (by decide) (mj_lnkG mjl_2_83)⟩, ?_⟩
  refine List.forall_mem_cons.mpr ⟨⟨(trivial), ⟨mj_Gws (mj_Gin 473 (by decide +kernel) rfl), mj_Gws (mj_Gin 474 (by decide +kernel) rfl), mj_Gws (mj_Gin 13 (by decide +kernel) rfl), mj_Gws (mj_Gin 475 (by decide +kernel) rfl), by decide, by decide⟩⟩, ?_⟩
  refine List.forall_mem_cons.mpr ⟨⟨(trivial), trivial⟩, ?_⟩
  refine List.forall_mem_cons.mpr ⟨⟨(show (5 : Nat) < mj_maxL 38 by decide), trivial⟩, ?_⟩
  refine List.forall_mem_cons.mpr ⟨⟨(show (0 : Int) ≤ ((82 : Nat) : Int) + 30 by decide), trivial⟩, ?_⟩
  refine List.forall_mem_cons.mpr ⟨⟨(trivial), trivial⟩, ?_⟩
  refine List.forall_mem_cons.mpr ⟨⟨(trivial), trivial⟩, ?_⟩
  refine List.forall_mem_cons.mpr ⟨⟨(show (0 : Int) ≤ ((89 : Nat) : Int) + 23 by decide), trivial⟩, ?_⟩
  refine List.forall_mem_cons.mpr ⟨⟨(trivial), trivial⟩, ?_⟩
  refine List.forall_mem_cons.mpr ⟨⟨(trivial), trivial⟩, ?_⟩
  refine List.forall_mem_cons.mpr ⟨⟨(trivial), trivial⟩, ?_⟩
  refine List.forall_mem_cons.mpr ⟨⟨(trivial), trivial⟩, ?_⟩
  refine List.forall_mem_cons.mpr ⟨⟨(mj_lkG (by decide) rfl (by decide) mj_inU4 mjf_2_80), trivial⟩, ?_⟩
  refine List.forall_mem_cons.mpr ⟨⟨(trivial), trivial⟩, ?_⟩
  refine List.forall_mem_cons.mpr ⟨⟨(trivial), trivial⟩, ?_⟩
  refine List.forall_mem_cons.mpr ⟨⟨(trivial), trivial⟩, ?_⟩
  refine List.forall_mem_cons.mpr ⟨⟨(mj_lkG (by decide) rfl (by decide) mj_inU4 mjf_2_45), trivial⟩, ?_⟩
  refine List.forall_mem_cons.mpr ⟨⟨(trivial), trivial⟩, ?_⟩
  refine List.forall_mem_cons.mpr ⟨⟨(trivial), trivial⟩, ?_⟩
  refine List.forall_mem_cons.mpr ⟨⟨(show (4 : Nat) < mj_maxL 38 by decide), trivial⟩, ?_⟩
  refine List.forall_mem_cons.mpr ⟨⟨(show (6 : Nat) < mj_maxL 38 by decide), trivial⟩, ?_⟩
  refine List.forall_mem_cons.mpr ⟨⟨(show (0 : Int) ≤ ((115 : Nat) : Int) + (-106) by decide), trivial⟩, ?_⟩
  refine List.forall_mem_cons.mpr ⟨⟨(trivial), trivial⟩, ?_⟩
  refine List.forall_mem_cons.mpr ⟨⟨(trivial), trivial⟩, ?_⟩
  exact fun _ h => absurd h List.not_mem_nil
theorem mjd_38 : mj_ckd 38 = true := by decide +kernel
theorem mjg_38 : mj_good 38 := mj_goodOf (fun _ => ⟨mj_G, rfl⟩) (by decide +kernel) mjd_38 mje_38
theorem mje_39 : ∀ e ∈ mj_tb39, mj_lk 39 e.1 e.2.1 e.2.2.1 e.2.2.2 ∧ mj_cok 39 e.2.1 e.2.2.1 e.2.2.2 := by
  unfold mj_tb39
  refine List.forall_mem_cons.mpr ⟨⟨(trivial), trivial⟩, ?_⟩
  refine List.forall_mem_cons.mpr ⟨⟨(mj_lkG (by decide) rfl (by decide) mj_inU2 mjf_2_17), trivial⟩, ?_⟩
  refine List.forall_mem_cons.mpr ⟨⟨(trivial), trivial⟩, ?_⟩
  refine List.forall_mem_cons.mpr ⟨⟨(trivial), trivial⟩, ?_⟩
  refine List.forall_mem_cons.mpr ⟨⟨(trivial), trivial⟩, ?_⟩
  refine List.forall_mem_cons.mpr ⟨⟨(trivial), mj_ckOf mjK_36 (by decide) (mj_lnkG mjl_2_29)⟩, ?_⟩
  refine List.forall_mem_cons.mpr ⟨⟨(trivial), trivial⟩, ?_⟩
  refine List.forall_mem_cons.mpr ⟨⟨(show (3 : Nat) < mj_maxL 39 by decide), trivial⟩, ?_⟩
  refine List.forall_mem_cons.mpr ⟨⟨(trivial), trivial⟩, ?_⟩
  refine List.forall_mem_cons.mpr ⟨⟨(trivial), trivial⟩, ?_⟩
  refine List.forall_mem_cons.mpr ⟨⟨(show (0 : Int) ≤ ((14 : Nat) : Int) + 83 by decide), trivial⟩, ?_⟩
  refine List.forall_mem_cons.mpr ⟨⟨(trivial), trivial⟩, ?_⟩
  refine List.forall_mem_cons.mpr ⟨⟨(trivial), trivial⟩, ?_⟩
  refine List.forall_mem_cons.mpr ⟨⟨(trivial), trivial⟩, ?_⟩
  refine List.forall_mem_cons.mpr ⟨⟨(show (4 : Nat) < mj_maxL 39 by decide), trivial⟩, ?_⟩
  refine List.forall_mem_cons.mpr ⟨⟨(trivial), trivial⟩, ?_⟩
  refine List.forall_mem_cons.mpr ⟨⟨(show (5 : Nat) < mj_maxL 39 by decide), trivial⟩, ?_⟩
  refine List.forall_mem_cons.mpr ⟨⟨(trivial), trivial⟩, ?_⟩
  refine List.forall_mem_cons.mpr ⟨⟨(trivial), trivial⟩, ?_⟩
  refine List.forall_mem_cons.mpr ⟨⟨(mj_lkG (by decide) rfl (by decide) mj_inU4 mjf_2_67), trivial⟩, ?_⟩
  refine List.forall_mem_cons.mpr ⟨⟨(show (0 : Int) ≤ ((32 : Nat) : Int) + 59 by decide), trivial⟩, ?_⟩
  refine List.forall_mem_cons.mpr ⟨⟨(trivial), trivial⟩, ?_⟩
  refine List.forall_mem_cons.mpr ⟨⟨(mj_lkG (by decide) rfl (by decide) mj_inU4 mjf_2_74), trivial⟩, ?_⟩
  refine List.forall_mem_cons.mpr ⟨⟨(trivial), trivial⟩, ?_⟩
  refine List.forall_mem_cons.mpr ⟨⟨(trivial), trivial⟩, ?_⟩
  refine List.forall_mem_cons.mpr ⟨⟨(trivial), trivial⟩, ?_⟩
  refine List.forall_mem_cons.mpr ⟨⟨(show (0 : Int) ≤ ((45 : Nat) : Int) + 40 by decide), trivial⟩, ?_⟩
  refine List.forall_mem_cons.mpr ⟨⟨(trivial), trivial⟩, ?_⟩
  refine List.forall_mem_cons.mpr ⟨⟨(trivial), trivial⟩, ?_⟩
  refine List.forall_mem_cons.mpr ⟨⟨(trivial), trivial⟩, ?_⟩
  refine List.forall_mem_cons.mpr ⟨⟨(trivial), trivial⟩, ?_⟩
  refine List.forall_mem_cons.mpr ⟨⟨(trivial), trivial⟩, ?_⟩
  refine List.forall_mem_cons.mpr ⟨⟨(trivial), trivial⟩, ?_⟩
  refine List.forall_mem_cons.mpr ⟨⟨(mj_lkG (by decide) rfl (by decide) mj_inU4 mjf_2_92), trivial⟩, ?_⟩
  refine List.forall_mem_cons.mpr ⟨⟨(trivial), trivial⟩, ?_⟩
  refine List.forall_mem_cons.mpr ⟨⟨(trivial), trivial⟩, ?_⟩
  refine List.forall_mem_cons.mpr ⟨⟨(trivial), trivial⟩, ?_⟩
  refine List.forall_mem_cons.mpr ⟨⟨(trivial), trivial⟩, ?_⟩
  refine List.forall_mem_cons.mpr ⟨⟨(trivial), mj_ckOf mjK_38 (by decide) (mj_lnkG mjl_2_70)⟩, ?_⟩
  refine List.forall_mem_cons.mpr ⟨⟨(show (6 : Nat) < mj_maxL 39 by decide), trivial⟩, ?_⟩
  refine List.forall_mem_cons.mpr ⟨⟨(trivial), trivial⟩, ?_⟩
  refine List.forall_mem_cons.mpr ⟨⟨(trivial), trivial⟩, ?_⟩
  refine List.forall_mem_cons.mpr ⟨⟨(trivial), trivial⟩, ?_⟩
  refine List.forall_mem_cons.mpr ⟨⟨(mj_lkG (by decide) rfl (by decide) mj_inU4 mjf_2_80), trivial⟩, ?_⟩
  refine List.forall_mem_cons.mpr ⟨⟨(trivial), trivial⟩, ?_⟩
  refine List.forall_mem_cons.mpr ⟨⟨(trivial), trivial⟩, ?_⟩
  refine List.forall_mem_cons.mpr ⟨⟨(trivial), trivial⟩, ?_⟩
  refine List.forall_mem_cons.mpr ⟨⟨(trivial), mj_ckOf mjK_40 (by decide) (mj_lnkG mjl_2_95)⟩, ?_⟩
  refine List.forall_mem_cons.mpr ⟨⟨(show (5 : Nat) < mj_maxL 39 by decide), trivial⟩, ?_⟩
  refine List.forall_mem_cons.mpr ⟨⟨(show (0 : Int) ≤ ((88 : Nat) : Int) + (-63) by decide), trivial⟩, ?_⟩
  refine List.forall_mem_cons.mpr ⟨⟨(show (3 : Nat) < mj_maxL 39 by decide), trivial⟩, ?_⟩
  refine List.forall_mem_cons.mpr ⟨⟨(show (0 : Int) ≤ ((94 : Nat) : Int) + (-82) by decide), trivial⟩, ?_⟩
  refine List.forall_mem_cons.mpr ⟨⟨(trivial), trivial⟩, ?_⟩
  exact fun _ h => absurd h List.not_mem_nil
theorem mjd_39 : mj_ckd 39 = true := by decide +kernel
theorem mjg_39 : mj_good 39 := mj_goodOf (fun _ => ⟨mj_G, rfl⟩) (by decide +kernel) mjd_39 mje_39
theorem mje_40 : ∀ e ∈ mj_tb40, mj_lk 40 e.1 e.2.1 e.2.2.1 e.2.2.2 ∧ mj_cok 40 e.2.1 e.2.2.1 e.2.2.2 := by
  unfold mj_tb40
  refine List.forall_mem_cons.mpr ⟨⟨(trivial), trivial⟩, ?_⟩
  refine List.forall_mem_cons.mpr ⟨⟨(mj_lkG (by decide) rfl (by decide) mj_inU2 mjf_2_17), trivial⟩, ?_⟩
  refine List.forall_mem_cons.mpr ⟨⟨(trivial), trivial⟩, ?_⟩
  refine List.forall_mem_cons.mpr ⟨⟨(trivial), trivial⟩, ?_⟩
  refine List.forall_mem_cons.mpr ⟨⟨(trivial), trivial⟩, ?_⟩
  refine List.forall_mem_cons.mpr ⟨⟨(trivial), trivial⟩, ?_⟩
  refine List.forall_mem_cons.mpr ⟨⟨(mj_lkG (by decide) rfl (by decide) mj_inU2 mjf_2_17), trivial⟩, ?_⟩
  refine List.forall_mem_cons.mpr ⟨⟨(trivial), trivial⟩, ?_⟩
  refine List.forall_mem_cons.mpr ⟨⟨(trivial), trivial⟩, ?_⟩
  refine List.forall_mem_cons.mpr ⟨⟨(trivial), trivial⟩, ?_⟩
  refine List.forall_mem_cons.mpr ⟨⟨(trivial), trivial⟩, ?_⟩
  refine List.forall_mem_cons.mpr ⟨⟨(trivial), trivial⟩, ?_⟩
  refine List.forall_mem_cons.mpr ⟨⟨(trivial), ⟨mj_Gws (mj_Gin 473 (by decide +kernel) rfl), mj_Gws (mj_Gin 474 (by decide +kernel) rfl), mj_Gws (mj_Gin 13 (by decide +kernel) rfl), mj_Gws (mj_Gin 475 (by decide +kernel) rfl), by decide, by decide⟩⟩, ?_⟩
  refine List.forall_mem_cons.mpr ⟨⟨(trivial), trivial⟩, ?_⟩
  refine List.forall_mem_cons.mpr ⟨⟨(trivial), trivial⟩, ?_⟩
  refine List.forall_mem_cons.mpr ⟨⟨(mj_lkG (by decide) rfl (by decide) mj_inU2 mjf_2_26), trivial⟩, ?_⟩
  refine List.forall_mem_cons.mpr ⟨⟨(trivial), trivial⟩, ?_⟩
  refine List.forall_mem_cons.mpr ⟨⟨(trivial), trivial⟩, ?_⟩
  refine List.forall_mem_cons.mpr ⟨⟨(trivial), trivial⟩, ?_⟩
  refine List.forall_mem_cons.mpr ⟨⟨(show (0 : Int) ≤ ((27 : Nat) : Int) + 10 by decide), trivial⟩, ?_⟩
  refine List.forall_mem_cons.mpr ⟨⟨(trivial), trivial⟩, ?_⟩
  refine List.forall_mem_cons.mpr ⟨⟨(mj_lkG (by decide) rfl (by decide) mj_inU2 mjf_2_26), trivial⟩, ?_⟩
  refine List.forall_mem_cons.mpr ⟨⟨(trivial), trivial⟩, ?_⟩
  refine List.forall_mem_cons.mpr ⟨⟨(trivial), trivial⟩, ?_⟩
  refine List.forall_mem_cons.mpr ⟨⟨(trivial), trivial⟩, ?_⟩
  refine List.forall_mem_cons.mpr ⟨⟨(trivial), trivial⟩, ?_⟩
  exact fun _ h => absurd h List.not_mem_nil
theorem mjd_40 : mj_ckd 40 = true := by decide +kernel
theorem mjg_40 : mj_good 40 := mj_goodOf (fun _ => ⟨mj_G, rfl⟩) (by decide +kernel) mjd_40 mje_40
theorem mje_41 : ∀ e ∈ mj_tb41, mj_lk 41 e.1 e.2.1 e.2.2.1 e.2.2.2 ∧ mj_cok 41 e.2.1 e.2.2.1 e.2.2.2 := by
  unfold mj_tb41
  refine List.forall_mem_cons.mpr ⟨⟨(trivial), trivial⟩, ?_⟩
  refine List.forall_mem_cons.mpr ⟨⟨(show (3 : Nat) < mj_maxL 41 by decide), trivial⟩, ?_⟩
  refine List.forall_mem_cons.mpr ⟨⟨(trivial), trivial⟩, ?_⟩
  refine List.forall_mem_cons.mpr ⟨⟨(show (4 : Nat) < mj_maxL 41 by decide), trivial⟩, ?_⟩
  refine List.forall_mem_cons.mpr ⟨⟨(trivial), trivial⟩, ?_⟩
  refine List.forall_mem_cons.mpr ⟨⟨(trivial), trivial⟩, ?_⟩
  refine List.forall_mem_cons.mpr ⟨⟨(show (0 : Int) ≤ ((8 : Nat) : Int) + 56 by decide), trivial⟩, ?_⟩
  refine List.forall_mem_cons.mpr ⟨⟨(trivial), trivial⟩, ?_⟩
  refine List.forall_mem_cons.mpr ⟨⟨(mj_lkG (by decide) rfl (by decide) mj_inU2 mjf_2_26), trivial⟩, ?_⟩
  refine List.forall_mem_cons.mpr ⟨⟨(trivial), trivial⟩, ?_⟩
  refine List.forall_mem_cons.mpr ⟨⟨(trivial), trivial⟩, ?_⟩
  refine List.forall_mem_cons.mpr ⟨⟨(trivial), trivial⟩, ?_⟩
  refine List.forall_mem_cons.mpr ⟨⟨(trivial), trivial⟩, ?_⟩
  refine List.forall_mem_cons.mpr ⟨⟨(trivial), mj_ckOf mjK_11 (by decide) (Or.inr mjl_2_99)⟩, ?_⟩
  refine List.forall_mem_cons.mpr ⟨⟨(show (0 : Int) ≤ ((23 : Nat) : Int) + 35 by decide), trivial⟩, ?_⟩
  refine List.forall_mem_cons.mpr ⟨⟨(trivial), trivial⟩, ?_⟩
  refine List.forall_mem_cons.mpr ⟨⟨(trivial), trivial⟩, ?_⟩
  refine List.forall_mem_cons.mpr ⟨⟨(trivial), trivial⟩, ?_⟩
  refine List.forall_mem_cons.mpr ⟨⟨(show (5 : Nat) < mj_maxL 41 by decide), trivial⟩, ?_⟩
  refine List.forall_mem_cons.mpr ⟨⟨(trivial), trivial⟩, ?_⟩
  refine List.forall_mem_cons.mpr ⟨⟨(trivial), trivial⟩, ?_⟩
  refine List.forall_mem_cons.mpr ⟨⟨(show (0 : Int) ≤ ((34 : Nat) : Int) + 24 by decide), trivial⟩, ?_⟩
  refine List.forall_mem_cons.mpr ⟨⟨(trivial), trivial⟩, ?_⟩
  refine List.forall_mem_cons.mpr ⟨⟨(trivial), trivial⟩, ?_⟩
  refine List.forall_mem_cons.mpr ⟨⟨(mj_lkG (by decide) rfl (by decide) mj_inU2 mjf_2_17), trivial⟩, ?_⟩
  refine List.forall_mem_cons.mpr ⟨⟨(trivial), trivial⟩, ?_⟩
  refine List.forall_mem_cons.mpr ⟨⟨(trivial), trivial⟩, ?_⟩
  refine List.forall_mem_cons.mpr ⟨⟨(trivial), trivial⟩, ?_⟩
  refine List.forall_mem_cons.mpr ⟨⟨(trivial), trivial⟩, ?_⟩
  refine List.forall_mem_cons.mpr ⟨⟨(trivial), ⟨mj_Gws (mj_Gin 473 (by decide +kernel) rfl), mj_Gws (mj_Gin 474 (by decide +kernel) rfl), mj_Gws (mj_Gin 13 (by decide +kernel) rfl), mj_Gws (mj_Gin 475 (by decide +kernel) rfl), by decide, by decide⟩⟩, ?_⟩
  refine List.forall_mem_cons.mpr ⟨⟨(show (3 : Nat) < mj_maxL 41 by decide), trivial⟩, ?_⟩
  refine List.forall_mem_cons.mpr ⟨⟨(show (5 : Nat) < mj_maxL 41 by decide), trivial⟩, ?_⟩
  refine List.forall_mem_cons.mpr ⟨⟨(show (0 : Int) ≤ ((55 : Nat) : Int) + (-24) by decide), trivial⟩, ?_⟩
  refine List.forall_mem_cons.mpr ⟨⟨(show (4 : Nat) < mj_maxL 41 by decide), trivial⟩, ?_⟩
  refine List.forall_mem_cons.mpr ⟨⟨(show (0 : Int) ≤ ((61 : Nat) : Int) + (-56) by decide), trivial⟩, ?_⟩
  refine List.forall_mem_cons.mpr ⟨⟨(trivial), trivial⟩, ?_⟩
  refine List.forall_mem_cons.mpr ⟨⟨(show (0 : Int) ≤ ((65 : Nat) : Int) + 7 by decide), trivial⟩, ?_⟩
  refine List.forall_mem_cons.mpr ⟨⟨(trivial), trivial⟩, ?_⟩
  refine List.forall_mem_cons.mpr ⟨⟨(show (0 : Int) ≤ ((69 : Nat) : Int) + 6 by decide), trivial⟩, ?_⟩
  refine List.forall_mem_cons.mpr ⟨⟨(trivial), trivial⟩, ?_⟩
  refine List.forall_mem_cons.mpr ⟨⟨(trivial), trivial⟩, ?_⟩
  refine List.forall_mem_cons.mpr ⟨⟨(trivial), trivial⟩, ?_⟩
  refine List.forall_mem_cons.mpr ⟨⟨(trivial), trivial⟩, ?_⟩
  exact fun _ h => absurd h List.not_mem_nil
theorem mjd_41 : mj_ckd 41 = true := by decide +kernel
theorem mjg_41 : mj_good 41 := mj_goodOf (fun _ => ⟨mj_G, rfl⟩) (by decide +kernel) mjd_41 mje_41
theorem mje_42 : ∀ e ∈ mj_tb42, mj_lk 42 e.1 e.2.1 e.2.2.1 e.2.2.2 ∧ mj_cok 42 e.2.1 e.2.2.1 e.2.2.2 := by
  unfold mj_tb42
  refine List.forall_mem_cons.mpr ⟨⟨(trivial), trivial⟩, ?_⟩
  refine List.forall_mem_cons.mpr ⟨⟨(mj_lkG (by decide) rfl (by decide) mj_inU2 mjf_2_23), trivial⟩, ?_⟩
  refine List.forall_mem_cons.mpr ⟨⟨(trivial), trivial⟩, ?_⟩
  refine List.forall_mem_cons.mpr ⟨⟨(trivial), mj_ckOf mjK_36 (by decide) (mj_lnkG mjl_2_29)⟩, ?_⟩
  refine List.forall_mem_cons.mpr ⟨⟨(trivial), trivial⟩, ?_⟩
  refine List.forall_mem_cons.mpr ⟨⟨(show (3 : Nat) < mj_maxL 42 by decide), trivial⟩, ?_⟩
  refine List.forall_mem_cons.mpr ⟨⟨(trivial), trivial⟩, ?_⟩
  refine List.forall_mem_cons.mpr ⟨⟨(trivial), trivial⟩, ?_⟩
  refine List.forall_mem_cons.mpr ⟨⟨(show (0 : Int) ≤ ((12 : Nat) : Int) + 33 by decide), trivial⟩, ?_⟩
  refine List.forall_mem_cons.mpr ⟨⟨(trivial), trivial⟩, ?_⟩
  refine List.forall_mem_cons.mpr ⟨⟨(mj_lkG (by decide) rfl (by decide) mj_inU2 mjf_2_23), trivial⟩, ?_⟩
  refine List.forall_mem_cons.mpr ⟨⟨(trivial), trivial⟩, ?_⟩
  refine List.forall_mem_cons.mpr ⟨⟨(trivial), trivial⟩, ?_⟩
  refine List.forall_mem_cons.mpr ⟨⟨(trivial), trivial⟩, ?_⟩
  refine List.forall_mem_cons.mpr ⟨⟨(trivial), trivial⟩, ?_⟩
  refine List.forall_mem_cons.mpr ⟨⟨(trivial), mj_ckOf mjK_43 (by decide) (mj_lnkG mjl_2_103)⟩, ?_⟩
  refine List.forall_mem_cons.mpr ⟨⟨(trivial), trivial⟩, ?_⟩
  refine List.forall_mem_cons.mpr ⟨⟨(trivial), trivial⟩, ?_⟩
  refine List.forall_mem_cons.mpr ⟨⟨(mj_lkG (by decide) rfl (by decide) mj_inU2 mjf_2_23), trivial⟩, ?_⟩
  refine List.forall_mem_cons.mpr ⟨⟨(trivial), trivial⟩, ?_⟩
  refine List.forall_mem_cons.mpr ⟨⟨(trivial), trivial⟩, ?_⟩
  refine List.forall_mem_cons.mpr ⟨⟨(trivial), trivial⟩, ?_⟩
  refine List.forall_mem_cons.mpr ⟨⟨(show (0 : Int) ≤ ((34 : Nat) : Int) + 5 by decide), trivial⟩, ?_⟩
  refine List.forall_mem_cons.mpr ⟨⟨(trivial), trivial⟩, ?_⟩
  refine List.forall_mem_cons.mpr ⟨⟨(trivial), trivial⟩, ?_⟩
  refine List.forall_mem_cons.mpr ⟨⟨(show (3 : Nat) < mj_maxL 42 by decide), trivial⟩, ?_⟩
  refine List.forall_mem_cons.mpr ⟨⟨(show (0 : Int) ≤ ((42 : Nat) : Int) + (-32) by decide), trivial⟩, ?_⟩
  refine List.forall_mem_cons.mpr ⟨⟨(trivial), trivial⟩, ?_⟩
  refine List.forall_mem_cons.mpr ⟨⟨(trivial), trivial⟩, ?_⟩
  exact fun _ h => absurd h List.not_mem_nil
theorem mjd_42 : mj_ckd 42 = true := by decide +kernel
theorem mjg_42 : mj_good 42 := mj_goodOf (fun _ => ⟨mj_G, rfl⟩) (by decide +kernel) mjd_42 mje_42
theorem mje_43 : ∀ e ∈ mj_tb43, mj_lk 43 e.1 e.2.1 e.2.2.1 e.2.2.2 ∧ mj_cok 43 e.2.1 e.2.2.1 e.2.2.2 := by
  unfold mj_tb43
  refine List.forall_mem_cons.mpr ⟨⟨(trivial), trivial⟩, ?_⟩
  refine List.forall_mem_cons.mpr ⟨⟨(trivial), trivial⟩, ?_⟩
  refine List.forall_mem_cons.mpr ⟨⟨(trivial), trivial⟩, ?_⟩
  refine List.forall_mem_cons.mpr ⟨⟨(mj_lkG (by decide) rfl (by decide) mj_inU3 mjf_2_106), trivial⟩, ?_⟩
  refine List.forall_mem_cons.mpr ⟨⟨(show (3 : Nat) < mj_maxL 43 by decide), trivial⟩, ?_⟩
  refine List.forall_mem_cons.mpr ⟨⟨(trivial), trivial⟩, ?_⟩
  refine List.forall_mem_cons.mpr ⟨⟨(show (4 : Nat) < mj_maxL 43 by decide), trivial⟩, ?_⟩
  refine List.forall_mem_cons.mpr ⟨⟨(trivial), trivial⟩, ?_⟩
  refine List.forall_mem_cons.mpr ⟨⟨(show (5 : Nat) < mj_maxL 43 by decide), trivial⟩, ?_⟩
  refine List.forall_mem_cons.mpr ⟨⟨(trivial), trivial⟩, ?_⟩
  refine List.forall_mem_cons.mpr ⟨⟨(trivial), trivial⟩, ?_⟩
  refine List.forall_mem_cons.mpr ⟨⟨(show (0 : Int) ≤ ((16 : Nat) : Int) + 41 by decide), trivial⟩, ?_⟩
  refine List.forall_mem_cons.mpr ⟨⟨(trivial), trivial⟩, ?_⟩
  refine List.forall_mem_cons.mpr ⟨⟨(trivial), trivial⟩, ?_⟩
  refine List.forall_mem_cons.mpr ⟨⟨(trivial), trivial⟩, ?_⟩
  refine List.forall_mem_cons.mpr ⟨⟨(trivial), trivial⟩, ?_⟩
  refine List.forall_mem_cons.mpr ⟨⟨(trivial), mj_ckOf mjK_44 (by decide) (mj_lnkG mjl_2_109)⟩, ?_⟩
  refine List.forall_mem_cons.mpr ⟨⟨(show (6 : Nat) < mj_maxL 43 by decide), trivial⟩, ?_⟩
  refine List.forall_mem_cons.mpr ⟨⟨(trivial), trivial⟩, ?_⟩
  refine List.forall_mem_cons.mpr ⟨⟨(trivial), trivial⟩, ?_⟩
  refine List.forall_mem_cons.mpr ⟨⟨(show (0 : Int) ≤ ((32 : Nat) : Int) + 5 by decide), trivial⟩, ?_⟩
  refine List.forall_mem_cons.mpr ⟨⟨(trivial), trivial⟩, ?_⟩
  refine List.forall_mem_cons.mpr ⟨⟨(trivial), trivial⟩, ?_⟩
  refine List.forall_mem_cons.mpr ⟨⟨(trivial), trivial⟩, ?_⟩
  refine List.forall_mem_cons.mpr ⟨⟨(trivial), trivial⟩, ?_⟩
  refine List.forall_mem_cons.mpr ⟨⟨(show (0 : Int) ≤ ((41 : Nat) : Int) + 6 by decide), trivial⟩, ?_⟩
  refine List.forall_mem_cons.mpr ⟨⟨(trivial), trivial⟩, ?_⟩
  refine List.forall_mem_cons.mpr ⟨⟨(trivial), trivial⟩, ?_⟩
  refine List.forall_mem_cons.mpr ⟨⟨(trivial), trivial⟩, ?_⟩
  refine List.forall_mem_cons.mpr ⟨⟨(show (4 : Nat) < mj_maxL 43 by decide), trivial⟩, ?_⟩
  refine List.forall_mem_cons.mpr ⟨⟨(show (5 : Nat) < mj_maxL 43 by decide), trivial⟩, ?_⟩
  refine List.forall_mem_cons.mpr ⟨⟨(show (0 : Int) ≤ ((54 : Nat) : Int) + (-41) by decide), trivial⟩, ?_⟩
  refine List.forall_mem_cons.mpr ⟨⟨(trivial), trivial⟩, ?_⟩
  refine List.forall_mem_cons.mpr ⟨⟨(trivial), trivial⟩, ?_⟩
  exact fun _ h => absurd h List.not_mem_nil
theorem mjd_43 : mj_ckd 43 = true := by decide +kernel
theorem mjg_43 : mj_good 43 := mj_goodOf (fun _ => ⟨mj_G, rfl⟩) (by decide +kernel) mjd_43 mje_43
end
section
theorem mje_44 : ∀ e ∈ mj_tb44, mj_lk 44 e.1 e.2.1 e.2.2.1 e.2.2.2 ∧ mj_cok 44 e.2.1 e.2.2.1 e.2.2.2 := by
  unfold mj_tb44
  refine List.forall_mem_cons.mpr ⟨⟨(trivial), trivial⟩, ?_⟩
  refine List.forall_mem_cons.mpr ⟨⟨(mj_lkG (by decide) rfl (by decide) mj_inU2 mjf_2_20), trivial⟩, ?_⟩
  refine List.forall_mem_cons.mpr ⟨⟨(trivial), trivial⟩, ?_⟩
  refine List.forall_mem_cons.mpr ⟨⟨(trivial), trivial⟩, ?_⟩
  refine List.forall_mem_cons.mpr ⟨⟨(trivial), trivial⟩, ?_⟩
  refine List.forall_mem_cons.mpr ⟨⟨(mj_lkG (by decide) rfl (by decide) mj_inU2 mjf_2_9), trivial⟩, ?_⟩
  refine List.forall_mem_cons.mpr ⟨⟨(trivial), trivial⟩, ?_⟩
  refine List.forall_mem_cons.mpr ⟨⟨(trivial), trivial⟩, ?_⟩
  refine List.forall_mem_cons.mpr ⟨⟨(trivial), trivial⟩, ?_⟩
  refine List.forall_mem_cons.mpr ⟨⟨(trivial), trivial⟩, ?_⟩
  refine List.forall_mem_cons.mpr ⟨⟨(trivial), trivial⟩, ?_⟩
  refine List.forall_mem_cons.mpr ⟨⟨(show (4 : Nat) < mj_maxL 44 by decide), trivial⟩, ?_⟩
  refine List.forall_mem_cons.mpr ⟨⟨(trivial), trivial⟩, ?_⟩
  refine List.forall_mem_cons.mpr ⟨⟨(show (5 : Nat) < mj_maxL 44 by decide), trivial⟩, ?_⟩
  refine List.forall_mem_cons.mpr ⟨⟨(trivial), trivial⟩, ?_⟩
  refine List.forall_mem_cons.mpr ⟨⟨(trivial), trivial⟩, ?_⟩
  refine List.forall_mem_cons.mpr ⟨⟨(show (0 : Int) ≤ ((23 : Nat) : Int) + 50 by decide), trivial⟩, ?_⟩
  refine List.forall_mem_cons.mpr ⟨⟨(trivial), trivial⟩, ?_⟩
  refine List.forall_mem_cons.mpr ⟨⟨(trivial), trivial⟩, ?_⟩
  refine List.forall_mem_cons.mpr ⟨⟨(trivial), trivial⟩, ?_⟩
  refine List.forall_mem_cons.mpr ⟨⟨(trivial), trivial⟩, ?_⟩
  refine List.forall_mem_cons.mpr ⟨⟨(mj_lkG (by decide) rfl (by decide) mj_inU3 mjf_2_113), trivial⟩, ?_⟩
  refine List.forall_mem_cons.mpr ⟨⟨(trivial), ⟨mj_Gws (mj_Gin 473 (by decide +kernel) rfl), mj_Gws (mj_Gin 474 (by decide +kernel) rfl), mj_Gws (mj_Gin 13 (by decide +kernel) rfl), mj_Gws (mj_Gin 475 (by decide +kernel) rfl), by decide, by decide⟩⟩, ?_⟩
  refine List.forall_mem_cons.mpr ⟨⟨(show (6 : Nat) < mj_maxL 44 by decide), trivial⟩, ?_⟩
  refine List.forall_mem_cons.mpr ⟨⟨(trivial), trivial⟩, ?_⟩
  refine List.forall_mem_cons.mpr ⟨⟨(trivial), trivial⟩, ?_⟩
  refine List.forall_mem_cons.mpr ⟨⟨(trivial), trivial⟩, ?_⟩
  refine List.forall_mem_cons.mpr ⟨⟨(trivial), trivial⟩, ?_⟩
  refine List.forall_mem_cons.mpr ⟨⟨(trivial), trivial⟩, ?_⟩
  refine List.forall_mem_cons.mpr ⟨⟨(trivial), trivial⟩, ?_⟩
  refine List.forall_mem_cons.mpr ⟨⟨(trivial), trivial⟩, ?_⟩
  refine List.forall_mem_cons.mpr ⟨⟨(show (7 : Nat) < mj_maxL 44 by decide), trivial⟩, ?_⟩
  refine List.forall_mem_cons.mpr ⟨⟨(trivial), trivial⟩, ?_⟩
  refine List.forall_mem_cons.mpr ⟨⟨(trivial), trivial⟩, ?_⟩
  refine List.forall_mem_cons.mpr ⟨⟨(trivial), trivial⟩, ?_⟩
  refine List.forall_mem_cons.mpr ⟨⟨(mj_lkG (by decide) rfl (by decide) mj_inU2 mjf_2_9), trivial⟩, ?_⟩
  refine List.forall_mem_cons.mpr ⟨⟨(trivial), trivial⟩, ?_⟩
  refine List.forall_mem_cons.mpr ⟨⟨(trivial), trivial⟩, ?_⟩
  refine List.forall_mem_cons.mpr ⟨⟨(trivial), trivial⟩, ?_⟩
  refine List.forall_mem_cons.mpr ⟨⟨(trivial), trivial⟩, ?_⟩
  refine List.forall_mem_cons.mpr ⟨⟨(trivial), trivial⟩, ?_⟩
  refine List.forall_mem_cons.mpr ⟨⟨(trivial), trivial⟩, ?_⟩
  refine List.forall_mem_cons.mpr ⟨⟨(show (4 : Nat) < mj_maxL 44 by decide), trivial⟩, ?_⟩
  refine List.forall_mem_cons.mpr ⟨⟨(show (5 : Nat) < mj_maxL 44 by decide), trivial⟩, ?_⟩
  refine List.forall_mem_cons.mpr ⟨⟨(show (0 : Int) ≤ ((70 : Nat) : Int) + (-50) by decide), trivial⟩, ?_⟩
  refine List.forall_mem_cons.mpr ⟨⟨(trivial), trivial⟩, ?_⟩
  refine List.forall_mem_cons.mpr ⟨⟨(trivial), trivial⟩, ?_⟩
  exact fun _ h => absurd h List.not_mem_nil
theorem mjd_44 : mj_ckd 44 = true := by decide +kernel
theorem mjg_44 : mj_good 44 := mj_goodOf (fun _ => ⟨mj_G, rfl⟩) (by decide +kernel) mjd_44 mje_44
theorem mje_45 : ∀ e ∈ mj_tb45, mj_lk 45 e.1 e.2.1 e.2.2.1 e.2.2.2 ∧ mj_cok 45 e.2.1 e.2.2.1 e.2.2.2 := by
  unfold mj_tb45
  refine List.forall_mem_cons.mpr ⟨⟨(trivial), trivial⟩, ?_⟩
  refine List.forall_mem_cons.mpr ⟨⟨(mj_lkG (by decide) rfl (by decide) mj_inU0 mjf_0_18), trivial⟩, ?_⟩
  refine List.forall_mem_cons.mpr ⟨⟨(mj_lkG (by decide) rfl (by decide) mj_inU1 mjf_0_81), trivial⟩, ?_⟩
  refine List.forall_mem_cons.mpr ⟨⟨(trivial), trivial⟩, ?_⟩
  exact fun _ h => absurd h List.not_mem_nil
theorem mjd_45 : mj_ckd 45 = true := by decide +kernel
theorem mjg_45 : mj_good 45 := mj_goodOf (fun _ => ⟨mj_G, rfl⟩) (by decide +kernel) mjd_45 mje_45
theorem mje_46 : ∀ e ∈ mj_tb46, mj_lk 46 e.1 e.2.1 e.2.2.1 e.2.2.2 ∧ mj_cok 46 e.2.1 e.2.2.1 e.2.2.2 := by
  unfold mj_tb46
  refine List.forall_mem_cons.mpr ⟨⟨(trivial), trivial⟩, ?_⟩
  refine List.forall_mem_cons.mpr ⟨⟨(trivial), trivial⟩, ?_⟩
  refine List.forall_mem_cons.mpr ⟨⟨(trivial), mj_ckOf mjK_47 (by decide) (mj_lnkG mjl_0_92)⟩, ?_⟩
  refine List.forall_mem_cons.mpr ⟨⟨(show (0 : Int) ≤ ((5 : Nat) : Int) + 15 by decide), trivial⟩, ?_⟩
  refine List.forall_mem_cons.mpr ⟨⟨(trivial), trivial⟩, ?_⟩
  refine List.forall_mem_cons.mpr ⟨⟨(mj_lkG (by decide) rfl (by decide) mj_inU0 mjf_0_25), trivial⟩, ?_⟩
  refine List.forall_mem_cons.mpr ⟨⟨(mj_lkG (by decide) rfl (by decide) mj_inU2 mjf_0_95), trivial⟩, ?_⟩
  refine List.forall_mem_cons.mpr ⟨⟨(trivial), trivial⟩, ?_⟩
  refine List.forall_mem_cons.mpr ⟨⟨(trivial), trivial⟩, ?_⟩
  refine List.forall_mem_cons.mpr ⟨⟨(show (0 : Int) ≤ ((17 : Nat) : Int) + 4 by decide), trivial⟩, ?_⟩
  refine List.forall_mem_cons.mpr ⟨⟨(trivial), trivial⟩, ?_⟩
  refine List.forall_mem_cons.mpr ⟨⟨(trivial), trivial⟩, ?_⟩
  exact fun _ h => absurd h List.not_mem_nil
theorem mjd_46 : mj_ckd 46 = true := by decide +kernel
theorem mjg_46 : mj_good 46 := mj_goodOf (fun _ => ⟨mj_G, rfl⟩) (by decide +kernel) mjd_46 mje_46
theorem mje_47 : ∀ e ∈ mj_tb47, mj_lk 47 e.1 e.2.1 e.2.2.1 e.2.2.2 ∧ mj_cok 47 e.2.1 e.2.2.1 e.2.2.2 := by
  unfold mj_tb47
  refine List.forall_mem_cons.mpr ⟨⟨(trivial), trivial⟩, ?_⟩
  refine List.forall_mem_cons.mpr ⟨⟨(mj_lkG (by decide) rfl (by decide) mj_inU0 mjf_0_25), trivial⟩, ?_⟩
  refine List.forall_mem_cons.mpr ⟨⟨(mj_lkG (by decide) rfl (by decide) mj_inU2 mjf_0_55), trivial⟩, ?_⟩
  refine List.forall_mem_cons.mpr ⟨⟨(show (0 : Int) ≤ ((7 : Nat) : Int) + 15 by decide), trivial⟩, ?_⟩
  refine List.forall_mem_cons.mpr ⟨⟨(trivial), trivial⟩, ?_⟩
  refine List.forall_mem_cons.mpr ⟨⟨(trivial), trivial⟩, ?_⟩
  refine List.forall_mem_cons.mpr ⟨⟨(trivial), mj_ckOf mjK_14 (by decide) (mj_lnkG mjl_0_58)⟩, ?_⟩
  refine List.forall_mem_cons.mpr ⟨⟨(show (0 : Int) ≤ ((15 : Nat) : Int) + 7 by decide), trivial⟩, ?_⟩
  refine List.forall_mem_cons.mpr ⟨⟨(trivial), trivial⟩, ?_⟩
  refine List.forall_mem_cons.mpr ⟨⟨(show (0 : Int) ≤ ((19 : Nat) : Int) + 4 by decide), trivial⟩, ?_⟩
  refine List.forall_mem_cons.mpr ⟨⟨(trivial), trivial⟩, ?_⟩
  refine List.forall_mem_cons.mpr ⟨⟨(trivial), trivial⟩, ?_⟩
  exact fun _ h => absurd h List.not_mem_nil
theorem mjd_47 : mj_ckd 47 = true := by decide +kernel
theorem mjg_47 : mj_good 47 := mj_goodOf (fun _ => ⟨mj_G, rfl⟩) (by decide +kernel) mjd_47 mje_47
theorem mje_48 : ∀ e ∈ mj_tb48, mj_lk 48 e.1 e.2.1 e.2.2.1 e.2.2.2 ∧ mj_cok 48 e.2.1 e.2.2.1 e.2.2.2 := by
  unfold mj_tb48
  refine List.forall_mem_cons.mpr ⟨⟨(trivial), trivial⟩, ?_⟩
  refine List.forall_mem_cons.mpr ⟨⟨(trivial), trivial⟩, ?_⟩
  refine List.forall_mem_cons.mpr ⟨⟨(trivial), mj_ckOf mjK_47 (by decide) (mj_lnkG mjl_0_92)⟩, ?_⟩
  refine List.forall_mem_cons.mpr ⟨⟨(show (0 : Int) ≤ ((5 : Nat) : Int) + 25 by decide), trivial⟩, ?_⟩
  refine List.forall_mem_cons.mpr ⟨⟨(trivial), trivial⟩, ?_⟩
  refine List.forall_mem_cons.mpr ⟨⟨(trivial), trivial⟩, ?_⟩
  refine List.forall_mem_cons.mpr ⟨⟨(trivial), mj_ckOf mjK_15 (by decide) (mj_lnkG mjl_0_62)⟩, ?_⟩
  refine List.forall_mem_cons.mpr ⟨⟨(show (0 : Int) ≤ ((13 : Nat) : Int) + 17 by decide), trivial⟩, ?_⟩
  refine List.forall_mem_cons.mpr ⟨⟨(trivial), trivial⟩, ?_⟩
  refine List.forall_mem_cons.mpr ⟨⟨(mj_lkG (by decide) rfl (by decide) mj_inU0 mjf_0_25), trivial⟩, ?_⟩
  refine List.forall_mem_cons.mpr ⟨⟨(mj_lkG (by decide) rfl (by decide) mj_inU2 mjf_0_99), trivial⟩, ?_⟩
  refine List.forall_mem_cons.mpr ⟨⟨(trivial), trivial⟩, ?_⟩
  refine List.forall_mem_cons.mpr ⟨⟨(trivial), trivial⟩, ?_⟩
  refine List.forall_mem_cons.mpr ⟨⟨(trivial), trivial⟩, ?_⟩
  refine List.forall_mem_cons.mpr ⟨⟨(trivial), trivial⟩, ?_⟩
  refine List.forall_mem_cons.mpr ⟨⟨(show (0 : Int) ≤ ((27 : Nat) : Int) + 4 by decide), trivial⟩, ?_⟩
  refine List.forall_mem_cons.mpr ⟨⟨(trivial), trivial⟩, ?_⟩
  refine List.forall_mem_cons.mpr ⟨⟨(trivial), trivial⟩, ?_⟩
  exact fun _ h => absurd h List.not_mem_nil
theorem mjd_48 : mj_ckd 48 = true := by decide +kernel
theorem mjg_48 : mj_good 48 := mj_goodOf (fun _ => ⟨mj_G, rfl⟩) (by decide +kernel) mjd_48 mje_48
theorem mje_49 : ∀ e ∈ mj_tb49, mj_lk 49 e.1 e.2.1 e.2.2.1 e.2.2.2 ∧ mj_cok 49 e.2.1 e.2.2.1 e.2.2.2 := by
  unfold mj_tb49
  refine List.forall_mem_cons.mpr ⟨⟨(trivial), trivial⟩, ?_⟩
  refine List.forall_mem_cons.mpr ⟨⟨(trivial), trivial⟩, ?_⟩
  refine List.forall_mem_cons.mpr ⟨⟨(trivial), mj_ckOf mjK_47 (by decide) (mj_lnkG mjl_0_92)⟩, ?_⟩
  refine List.forall_mem_cons.mpr ⟨⟨(show (0 : Int) ≤ ((5 : Nat) : Int) + 15 by decide), trivial⟩, ?_⟩
  refine List.forall_mem_cons.mpr ⟨⟨(trivial), trivial⟩, ?_⟩
  refine List.forall_mem_cons.mpr ⟨⟨(mj_lkG (by decide) rfl (by decide) mj_inU0 mjf_0_25), trivial⟩, ?_⟩
  refine List.forall_mem_cons.mpr ⟨⟨(mj_lkG (by decide) rfl (by decide) mj_inU2 mjf_0_103), trivial⟩, ?_⟩
  refine List.forall_mem_cons.mpr ⟨⟨(trivial), trivial⟩, ?_⟩
  refine List.forall_mem_cons.mpr ⟨⟨(trivial), trivial⟩, ?_⟩
  refine List.forall_mem_cons.mpr ⟨⟨(show (0 : Int) ≤ ((17 : Nat) : Int) + 4 by decide), trivial⟩, ?_⟩
  refine List.forall_mem_cons.mpr ⟨⟨(trivial), trivial⟩, ?_⟩
  refine List.forall_mem_cons.mpr ⟨⟨(trivial), trivial⟩, ?_⟩
  exact fun _ h => absurd h List.not_mem_nil
theorem mjd_49 : mj_ckd 49 = true := by decide +kernel
theorem mjg_49 : mj_good 49 := mj_goodOf (fun _ => ⟨mj_G, rfl⟩) (by decide +kernel) mjd_49 mje_49
theorem mje_50 : ∀ e ∈ mj_tb50, mj_lk 50 e.1 e.2.1 e.2.2.1 e.2.2.2 ∧ mj_cok 50 e.2.1 e.2.2.1 e.2.2.2 := by
  unfold mj_tb50
  refine List.forall_mem_cons.mpr ⟨⟨(trivial), trivial⟩, ?_⟩
  refine List.forall_mem_cons.mpr ⟨⟨(trivial), trivial⟩, ?_⟩
  refine List.forall_mem_cons.mpr ⟨⟨(trivial), mj_ckOf mjK_47 (by decide) (mj_lnkG mjl_0_92)⟩, ?_⟩
  refine List.forall_mem_cons.mpr ⟨⟨(show (0 : Int) ≤ ((5 : Nat) : Int) + 15 by decide), trivial⟩, ?_⟩
  refine List.forall_mem_cons.mpr ⟨⟨(trivial), trivial⟩, ?_⟩
  refine List.forall_mem_cons.mpr ⟨⟨(mj_lkG (by decide) rfl (by decide) mj_inU0 mjf_0_25), trivial⟩, ?_⟩
  refine List.forall_mem_cons.mpr ⟨⟨(mj_lkG (by decide) rfl (by decide) mj_inU2 mjf_0_106), trivial⟩, ?_⟩
  refine List.forall_mem_cons.mpr ⟨⟨(trivial), trivial⟩, ?_⟩
  refine List.forall_mem_cons.mpr ⟨⟨(trivial), trivial⟩, ?_⟩
  refine List.forall_mem_cons.mpr ⟨⟨(show (0 : Int) ≤ ((17 : Nat) : Int) + 4 by decide), trivial⟩, ?_⟩
  refine List.forall_mem_cons.mpr ⟨⟨(trivial), trivial⟩, ?_⟩
  refine List.forall_mem_cons.mpr ⟨⟨(trivial), trivial⟩, ?_⟩
  exact fun _ h => absurd h List.not_mem_nil
theorem mjd_50 : mj_ckd 50 = true := by decide +kernel
theorem mjg_50 : mj_good 50 := mj_goodOf (fun _ => ⟨mj_G, rfl⟩) (by decide +kernel) mjd_50 mje_50
theorem mje_51 : ∀ e ∈ mj_tb51, mj_lk 51 e.1 e.2.1 e.2.2.1 e.2.2.2 ∧ mj_cok 51 e.2.1 e.2.2.1 e.2.2.2 := by
  unfold mj_tb51
  refine List.forall_mem_cons.mpr ⟨⟨(trivial), trivial⟩, ?_⟩
  refine List.forall_mem_cons.mpr ⟨⟨(mj_lkG (by decide) rfl (by decide) mj_inU0 mjf_0_25), trivial⟩, ?_⟩
  refine List.forall_mem_cons.mpr ⟨⟨(mj_lkG (by decide) rfl (by decide) mj_inU2 mjf_0_55), trivial⟩, ?_⟩
  refine List.forall_mem_cons.mpr ⟨⟨(show (0 : Int) ≤ ((7 : Nat) : Int) + 23 by decide), trivial⟩, ?_⟩
  refine List.forall_mem_cons.mpr ⟨⟨(trivial), trivial⟩, ?_⟩
  refine List.forall_mem_cons.mpr ⟨⟨(trivial), trivial⟩, ?_⟩
  refine List.forall_mem_cons.mpr ⟨⟨(trivial), mj_ckOf mjK_15 (by decide) (mj_lnkG mjl_0_62)⟩, ?_⟩
  refine List.forall_mem_cons.mpr ⟨⟨(show (0 : Int) ≤ ((15 : Nat) : Int) + 15 by decide), trivial⟩, ?_⟩
  refine List.forall_mem_cons.mpr ⟨⟨(trivial), trivial⟩, ?_⟩
  refine List.forall_mem_cons.mpr ⟨⟨(mj_lkG (by decide) rfl (by decide) mj_inU0 mjf_0_25), trivial⟩, ?_⟩
  refine List.forall_mem_cons.mpr ⟨⟨(mj_lkG (by decide) rfl (by decide) mj_inU2 mjf_0_109), trivial⟩, ?_⟩
  refine List.forall_mem_cons.mpr ⟨⟨(trivial), trivial⟩, ?_⟩
  refine List.forall_mem_cons.mpr ⟨⟨(trivial), trivial⟩, ?_⟩
  refine List.forall_mem_cons.mpr ⟨⟨(show (0 : Int) ≤ ((27 : Nat) : Int) + 4 by decide), trivial⟩, ?_⟩
  refine List.forall_mem_cons.mpr ⟨⟨(trivial), trivial⟩, ?_⟩
  refine List.forall_mem_cons.mpr ⟨⟨(trivial), trivial⟩, ?_⟩
  exact fun _ h => absurd h List.not_mem_nil
theorem mjd_51 : mj_ckd 51 = true := by decide +kernel
theorem mjg_51 : mj_good 51 := mj_goodOf (fun _ => ⟨mj_G, rfl⟩) (by decide +kernel) mjd_51 mje_51
theorem mje_52 : ∀ e ∈ mj_tb52, mj_lk 52 e.1 e.2.1 e.2.2.1 e.2.2.2 ∧ mj_cok 52 e.2.1 e.2.2.1 e.2.2.2 := by
  unfold mj_tb52
  refine List.forall_mem_cons.mpr ⟨⟨(trivial), trivial⟩, ?_⟩
  refine List.forall_mem_cons.mpr ⟨⟨(mj_lkG (by decide) rfl (by decide) mj_inU0 mjf_0_35), trivial⟩, ?_⟩
  refine List.forall_mem_cons.mpr ⟨⟨(mj_lkG (by decide) rfl (by decide) mj_inU5 mjf_0_43), trivial⟩, ?_⟩
  refine List.forall_mem_cons.mpr ⟨⟨(show (0 : Int) ≤ ((7 : Nat) : Int) + 13 by decide), trivial⟩, ?_⟩
  refine List.forall_mem_cons.mpr ⟨⟨(trivial), trivial⟩, ?_⟩
  refine List.forall_mem_cons.mpr ⟨⟨(mj_lkG (by decide) rfl (by decide) mj_inU0 mjf_0_25), trivial⟩, ?_⟩
  refine List.forall_mem_cons.mpr ⟨⟨(mj_lkG (by decide) rfl (by decide) mj_inU2 mjf_0_55), trivial⟩, ?_⟩
  refine List.forall_mem_cons.mpr ⟨⟨(show (0 : Int) ≤ ((17 : Nat) : Int) + 5 by decide), trivial⟩, ?_⟩
  refine List.forall_mem_cons.mpr ⟨⟨(trivial), trivial⟩, ?_⟩
  refine List.forall_mem_cons.mpr ⟨⟨(trivial), trivial⟩, ?_⟩
  refine List.forall_mem_cons.mpr ⟨⟨(trivial), trivial⟩, ?_⟩
  refine List.forall_mem_cons.mpr ⟨⟨(mj_lkG (by decide) rfl (by decide) mj_inU0 mjf_0_35), trivial⟩, ?_⟩
  refine List.forall_mem_cons.mpr ⟨⟨(trivial), trivial⟩, ?_⟩
  refine List.forall_mem_cons.mpr ⟨⟨(mj_lkG (by decide) rfl (by decide) mj_inU0 mjf_0_47), trivial⟩, ?_⟩
  refine List.forall_mem_cons.mpr ⟨⟨(trivial), mj_ckOf mjK_53 (by decide) (mj_lnkG mjl_0_112)⟩, ?_⟩
  refine List.forall_mem_cons.mpr ⟨⟨(trivial), trivial⟩, ?_⟩
  refine List.forall_mem_cons.mpr ⟨⟨(trivial), trivial⟩, ?_⟩
  exact fun _ h => absurd h List.not_mem_nil
theorem mjd_52 : mj_ckd 52 = true := by decide +kernel
theorem mjg_52 : mj_good 52 := mj_goodOf (fun _ => ⟨mj_G, rfl⟩) (by decide +kernel) mjd_52 mje_52
theorem mje_53 : ∀ e ∈ mj_tb53, mj_lk 53 e.1 e.2.1 e.2.2.1 e.2.2.2 ∧ mj_cok 53 e.2.1 e.2.2.1 e.2.2.2 := by
  unfold mj_tb53
  refine List.forall_mem_cons.mpr ⟨⟨(trivial), trivial⟩, ?_⟩
  refine List.forall_mem_cons.mpr ⟨⟨(trivial), trivial⟩, ?_⟩
  refine List.forall_mem_cons.mpr ⟨⟨(mj_lkP (by decide) rfl (by decide) mj_inU5 mjf_5_42 mj_TyOk5 mj_Nm5 (Or.inl rfl) rfl), trivial⟩, ?_⟩
  refine List.forall_mem_cons.mpr ⟨⟨(trivial), trivial⟩, ?_⟩
  refine List.forall_mem_cons.mpr ⟨⟨(trivial), trivial⟩, ?_⟩
  refine List.forall_mem_cons.mpr ⟨⟨(mj_lkP (by decide) rfl (by decide) mj_inU5 mjf_5_46 mj_TyOk5 mj_Nm5 (Or.inl rfl) rfl), trivial⟩, ?_⟩
  refine List.forall_mem_cons.mpr ⟨⟨(trivial), trivial⟩, ?_⟩
  refine List.forall_mem_cons.mpr ⟨⟨(trivial), trivial⟩, ?_⟩
  refine List.forall_mem_cons.mpr ⟨⟨(mj_lkP (by decide) rfl (by decide) mj_inU5 mjf_5_50 mj_TyOk5 mj_Nm5 (Or.inl rfl) rfl), trivial⟩, ?_⟩
  refine List.forall_mem_cons.mpr ⟨⟨(trivial), trivial⟩, ?_⟩
  refine List.forall_mem_cons.mpr ⟨⟨(trivial), trivial⟩, ?_⟩
  refine List.forall_mem_cons.mpr ⟨⟨(mj_lkP (by decide) rfl (by decide) mj_inU5 mjf_5_53 mj_TyOk5 mj_Nm5 (Or.inl rfl) rfl), trivial⟩, ?_⟩
  refine List.forall_mem_cons.mpr ⟨⟨(trivial), trivial⟩, ?_⟩
  refine List.forall_mem_cons.mpr ⟨⟨(trivial), trivial⟩, ?_⟩
  refine List.forall_mem_cons.mpr ⟨⟨(mj_lkP (by decide) rfl (by decide) mj_inU5 mjf_5_56 mj_TyOk5 mj_Nm5 (Or.inl rfl) rfl), trivial⟩, ?_⟩
  refine List.forall_mem_cons.mpr ⟨⟨(trivial), trivial⟩, ?_⟩
  refine List.forall_mem_cons.mpr ⟨⟨(trivial), trivial⟩, ?_⟩
  refine List.forall_mem_cons.mpr ⟨⟨(mj_lkP (by decide) rfl (by decide) mj_inU5 mjf_5_59 mj_TyOk5 mj_Nm5 (Or.inl rfl) rfl), trivial⟩, ?_⟩
  refine List.forall_mem_cons.mpr ⟨⟨(trivial), trivial⟩, ?_⟩
  refine List.forall_mem_cons.mpr ⟨⟨(trivial), trivial⟩, ?_⟩
  refine List.forall_mem_cons.mpr ⟨⟨(mj_lkP (by decide) rfl (by decide) mj_inU5 mjf_5_62 mj_TyOk5 mj_Nm5 (Or.inl rfl) rfl), trivial⟩, ?_⟩
  refine List.forall_mem_cons.mpr ⟨⟨(trivial), trivial⟩, ?_⟩
  refine List.forall_mem_cons.mpr ⟨⟨(trivial), trivial⟩, ?_⟩
  refine List.forall_mem_cons.mpr ⟨⟨(mj_lkP (by decide) rfl (by decide) mj_inU5 mjf_5_65 mj_TyOk5 mj_Nm5 (Or.inl rfl) rfl), trivial⟩, ?_⟩
  refine List.forall_mem_cons.mpr ⟨⟨(trivial), trivial⟩, ?_⟩
  refine List.forall_mem_cons.mpr ⟨⟨(trivial), trivial⟩, ?_⟩
  refine List.forall_mem_cons.mpr ⟨⟨(mj_lkP (by decide) rfl (by decide) mj_inU5 mjf_5_68 mj_TyOk5 mj_Nm5 (Or.inl rfl) rfl), trivial⟩, ?_⟩
  refine List.forall_mem_cons.mpr ⟨⟨(trivial), trivial⟩, ?_⟩
  refine List.forall_mem_cons.mpr ⟨⟨(mj_lkG (by decide) rfl (by decide) mj_inU5 mjf_5_24), trivial⟩, ?_⟩
  refine List.forall_mem_cons.mpr ⟨⟨(trivial), trivial⟩, ?_⟩
  refine List.forall_mem_cons.mpr ⟨⟨(mj_lkP (by decide) rfl (by decide) mj_inU7 mjf_5_71 mj_TyOk7 mj_Nm7 (Or.inl rfl) rfl), trivial⟩, ?_⟩
  refine List.forall_mem_cons.mpr ⟨⟨(trivial), trivial⟩, ?_⟩
  refine List.forall_mem_cons.mpr ⟨⟨(mj_lkG (by decide) rfl (by decide) mj_inU5 mjf_5_17), trivial⟩, ?_⟩
  refine List.forall_mem_cons.mpr ⟨⟨(trivial), trivial⟩, ?_⟩
  refine List.forall_mem_cons.mpr ⟨⟨(trivial), mj_ckOf mjK_36 (by decide) (mj_lnkG mjl_5_74)⟩, ?_⟩
  refine List.forall_mem_cons.mpr ⟨⟨(trivial), trivial⟩, ?_⟩
  refine List.forall_mem_cons.mpr ⟨⟨(show (2 : Nat) < mj_maxL 53 by decide), trivial⟩, ?_⟩
  refine List.forall_mem_cons.mpr ⟨⟨(trivial), trivial⟩, ?_⟩
  refine List.forall_mem_cons.mpr ⟨⟨(trivial), trivial⟩, ?_⟩
  refine List.forall_mem_cons.mpr ⟨⟨(show (0 : Int) ≤ ((65 : Nat) : Int) + 18 by decide), trivial⟩, ?_⟩
  refine List.forall_mem_cons.mpr ⟨⟨(trivial), trivial⟩, ?_⟩
  refine List.forall_mem_cons.mpr ⟨⟨(mj_lkG (by decide) rfl (by decide) mj_inU5 mjf_5_30), trivial⟩, ?_⟩
  refine List.forall_mem_cons.mpr ⟨⟨(trivial), trivial⟩, ?_⟩
  refine List.forall_mem_cons.mpr ⟨⟨(trivial), trivial⟩, ?_⟩
  refine List.forall_mem_cons.mpr ⟨⟨(trivial), mj_ckOf mjK_54 (by decide) (mj_lnkG mjl_5_80)⟩, ?_⟩
  refine List.forall_mem_cons.mpr ⟨⟨(show (2 : Nat) < mj_maxL 53 by decide), trivial⟩, ?_⟩
  refine List.forall_mem_cons.mpr ⟨⟨(show (0 : Int) ≤ ((80 : Nat) : Int) + (-17) by decide), trivial⟩, ?_⟩
  refine List.forall_mem_cons.mpr ⟨⟨(trivial), trivial⟩, ?_⟩
  refine List.forall_mem_cons.mpr ⟨⟨(show (2 : Nat) < mj_maxL 53 by decide), trivial⟩, ?_⟩
  refine List.forall_mem_cons.mpr ⟨⟨(trivial), trivial⟩, ?_⟩
  refine List.forall_mem_cons.mpr ⟨⟨(trivial), trivial⟩, ?_⟩
  refine List.forall_mem_cons.mpr ⟨⟨(show (0 : Int) ≤ ((87 : Nat) : Int) + 18 by decide), trivial⟩, ?_⟩
  refine List.forall_mem_cons.mpr ⟨⟨(trivial), trivial⟩, ?_⟩
  refine List.forall_mem_cons.mpr ⟨⟨(mj_lkG (by decide) rfl (by decide) mj_inU5 mjf_5_11), trivial⟩, ?_⟩
  refine List.forall_mem_cons.mpr ⟨⟨(trivial), trivial⟩, ?_⟩
  refine List.forall_mem_cons.mpr ⟨⟨(trivial), trivial⟩, ?_⟩
  refine List.forall_mem_cons.mpr ⟨⟨(trivial), mj_ckOf mjK_55 (by decide) (mj_lnkG mjl_5_83)⟩, ?_⟩
  refine List.forall_mem_cons.mpr ⟨⟨(show (2 : Nat) < mj_maxL 53 by decide), trivial⟩, ?_⟩
  refine List.forall_mem_cons.mpr ⟨⟨(show (0 : Int) ≤ ((102 : Nat) : Int) + (-17) by decide), trivial⟩, ?_⟩
  refine List.forall_mem_cons.mpr ⟨⟨(trivial), trivial⟩, ?_⟩
  exact fun _ h => absurd h List.not_mem_nil
theorem mjd_53 : mj_ckd 53 = true := by decide +kernel
theorem mjg_53 : mj_good 53 := mj_goodOf (fun _ => ⟨mj_G, rfl⟩) (by decide +kernel) mjd_53 mje_53
theorem mje_54 : ∀ e ∈ mj_tb54, mj_lk 54 e.1 e.2.1 e.2.2.1 e.2.2.2 ∧ mj_cok 54 e.2.1 e.2.2.1 e.2.2.2 := by
  unfold mj_tb54
  refine List.forall_mem_cons.mpr ⟨⟨(trivial), trivial⟩, ?_⟩
  refine List.forall_mem_cons.mpr ⟨⟨(trivial), trivial⟩, ?_⟩
  refine List.forall_mem_cons.mpr ⟨⟨(mj_lkP (by decide) rfl (by decide) mj_inU9 mjf_9_15 mj_TyOk9 mj_Nm9 (Or.inl rfl) rfl), trivial⟩, ?_⟩
  refine List.forall_mem_cons.mpr ⟨⟨(trivial), trivial⟩, ?_⟩
  exact fun _ h => absurd h List.not_mem_nil
theorem mjd_54 : mj_ckd 54 = true := by decide +kernel
theorem mjg_54 : mj_good 54 := mj_goodOf (fun _ => ⟨mj_G, rfl⟩) (by decide +kernel) mjd_54 mje_54
theorem mje_55 : ∀ e ∈ mj_tb55, mj_lk 55 e.1 e.2.1 e.2.2.1 e.2.2.2 ∧ mj_cok 55 e.2.1 e.2.2.1 e.2.2.2 := by
  unfold mj_tb55
  refine List.forall_mem_cons.mpr ⟨⟨(trivial), trivial⟩, ?_⟩
  refine List.forall_mem_cons.mpr ⟨⟨(mj_lkG (by decide) rfl (by decide) mj_inU8 mjf_8_30), trivial⟩, ?_⟩
  refine List.forall_mem_cons.mpr ⟨⟨(trivial), trivial⟩, ?_⟩
  refine List.forall_mem_cons.mpr ⟨⟨(mj_lkP (by decide) rfl (by decide) mj_inU6 mjf_8_34 mj_TyOk6 mj_Nm6 (Or.inl rfl) rfl), trivial⟩, ?_⟩
  refine List.forall_mem_cons.mpr ⟨⟨(trivial), trivial⟩, ?_⟩
  refine List.forall_mem_cons.mpr ⟨⟨(mj_lkG (by decide) rfl (by decide) mj_inU8 mjf_8_9), trivial⟩, ?_⟩
  refine List.forall_mem_cons.mpr ⟨⟨(trivial), trivial⟩, ?_⟩
  refine List.forall_mem_cons.mpr ⟨⟨(trivial), mj_ckOf mjK_36 (by decide) (mj_lnkG mjl_8_38)⟩, ?_⟩
  refine List.forall_mem_cons.mpr ⟨⟨(trivial), trivial⟩, ?_⟩
  refine List.forall_mem_cons.mpr ⟨⟨(trivial), trivial⟩, ?_⟩
  refine List.forall_mem_cons.mpr ⟨⟨(mj_lkP (by decide) rfl (by decide) mj_inU8 mjf_8_44 mj_TyOk8 mj_Nm8 (Or.inl rfl) rfl), trivial⟩, ?_⟩
  refine List.forall_mem_cons.mpr ⟨⟨(trivial), trivial⟩, ?_⟩
  refine List.forall_mem_cons.mpr ⟨⟨(trivial), trivial⟩, ?_⟩
  refine List.forall_mem_cons.mpr ⟨⟨(mj_lkG (by decide) rfl (by decide) mj_inU8 mjf_8_15), trivial⟩, ?_⟩
  refine List.forall_mem_cons.mpr ⟨⟨(trivial), mj_ckOf mjK_56 (by decide) (mj_lnkG mjl_8_48)⟩, ?_⟩
  refine List.forall_mem_cons.mpr ⟨⟨(show (0 : Int) ≤ ((29 : Nat) : Int) + 13 by decide), trivial⟩, ?_⟩
  refine List.forall_mem_cons.mpr ⟨⟨(trivial), trivial⟩, ?_⟩
  refine List.forall_mem_cons.mpr ⟨⟨(mj_lkG (by decide) rfl (by decide) mj_inU8 mjf_8_15), trivial⟩, ?_⟩
  refine List.forall_mem_cons.mpr ⟨⟨(mj_lkG (by decide) rfl (by decide) mj_inU3 mjf_8_52), trivial⟩, ?_⟩
  refine List.forall_mem_cons.mpr ⟨⟨(show (0 : Int) ≤ ((39 : Nat) : Int) + 4 by decide), trivial⟩, ?_⟩
  refine List.forall_mem_cons.mpr ⟨⟨(trivial), trivial⟩, ?_⟩
  refine List.forall_mem_cons.mpr ⟨⟨(mj_lkP (by decide) rfl (by decide) mj_inU8 mjf_8_55 mj_TyOk8 mj_Nm8 (Or.inl rfl) rfl), trivial⟩, ?_⟩
  refine List.forall_mem_cons.mpr ⟨⟨(trivial), trivial⟩, ?_⟩
  refine List.forall_mem_cons.mpr ⟨⟨(trivial), trivial⟩, ?_⟩
  refine List.forall_mem_cons.mpr ⟨⟨(mj_lkP (by decide) rfl (by decide) mj_inU8 mjf_8_58 mj_TyOk8 mj_Nm8 (Or.inl rfl) rfl), trivial⟩, ?_⟩
  refine List.forall_mem_cons.mpr ⟨⟨(trivial), trivial⟩, ?_⟩
  exact fun _ h => absurd h List.not_mem_nil
theorem mjd_55 : mj_ckd 55 = true := by decide +kernel
theorem mjg_55 : mj_good 55 := mj_goodOf (fun _ => ⟨mj_G, rfl⟩) (by decide +kernel) mjd_55 mje_55
theorem mje_56 : ∀ e ∈ mj_tb56, mj_lk 56 e.1 e.2.1 e.2.2.1 e.2.2.2 ∧ mj_cok 56 e.2.1 e.2.2.1 e.2.2.2 := by
  unfold mj_tb56
  refine List.forall_mem_cons.mpr ⟨⟨(trivial), trivial⟩, ?_⟩
  refine List.forall_mem_cons.mpr ⟨⟨(mj_lkG (by decide) rfl (by decide) mj_inU3 mjf_3_25), trivial⟩, ?_⟩
  refine List.forall_mem_cons.mpr ⟨⟨(trivial), trivial⟩, ?_⟩
  refine List.forall_mem_cons.mpr ⟨⟨(show (0 : Int) ≤ ((5 : Nat) : Int) + 7 by decide), trivial⟩, ?_⟩
  refine List.forall_mem_cons.mpr ⟨⟨(trivial), trivial⟩, ?_⟩
  refine List.forall_mem_cons.mpr ⟨⟨(show (0 : Int) ≤ ((9 : Nat) : Int) + 4 by decide), trivial⟩, ?_⟩
  refine List.forall_mem_cons.mpr ⟨⟨(trivial), trivial⟩, ?_⟩
  refine List.forall_mem_cons.mpr ⟨⟨(trivial), trivial⟩, ?_⟩
  exact fun _ h => absurd h List.not_mem_nil
theorem mjd_56 : mj_ckd 56 = true := by decide +kernel
theorem mjg_56 : mj_good 56 := mj_goodOf (fun _ => ⟨mj_G, rfl⟩) (by decide +kernel) mjd_56 mje_56
theorem mje_57 : ∀ e ∈ mj_tb57, mj_lk 57 e.1 e.2.1 e.2.2.1 e.2.2.2 ∧ mj_cok 57 e.2.1 e.2.2.1 e.2.2.2 := by
  unfold mj_tb57
  refine List.forall_mem_cons.mpr ⟨⟨(trivial), trivial⟩, ?_⟩
  refine List.forall_mem_cons.mpr ⟨⟨(mj_lkG (by decide) rfl (by decide) mj_inU0 mjf_0_35), trivial⟩, ?_⟩
  refine List.forall_mem_cons.mpr ⟨⟨(mj_lkG (by decide) rfl (by decide) mj_inU5 mjf_0_43), trivial⟩, ?_⟩
  refine List.forall_mem_cons.mpr ⟨⟨(show (0 : Int) ≤ ((7 : Nat) : Int) + 5 by decide), trivial⟩, ?_⟩
  refine List.forall_mem_cons.mpr ⟨⟨(trivial), trivial⟩, ?_⟩
  refine List.forall_mem_cons.mpr ⟨⟨(trivial), trivial⟩, ?_⟩
  refine List.forall_mem_cons.mpr ⟨⟨(trivial), trivial⟩, ?_⟩
  refine List.forall_mem_cons.mpr ⟨⟨(mj_lkG (by decide) rfl (by decide) mj_inU0 mjf_0_35), trivial⟩, ?_⟩
  refine List.forall_mem_cons.mpr ⟨⟨(trivial), trivial⟩, ?_⟩
  refine List.forall_mem_cons.mpr ⟨⟨(mj_lkP (by decide) rfl (by decide) mj_inU5 mjf_0_43 mj_TyOk5 mj_Nm5 (Or.inl rfl) rfl), trivial⟩, ?_⟩
  refine List.forall_mem_cons.mpr ⟨⟨(trivial), trivial⟩, ?_⟩
  refine List.forall_mem_cons.mpr ⟨⟨(trivial), trivial⟩, ?_⟩
  exact fun _ h => absurd h List.not_mem_nil
theorem mjd_57 : mj_ckd 57 = true := by decide +kernel
theorem mjg_57 : mj_good 57 := mj_goodOf (fun _ => ⟨mj_G, rfl⟩) (by decide +kernel) mjd_57 mje_57
theorem mje_58 : ∀ e ∈ mj_tb58, mj_lk 58 e.1 e.2.1 e.2.2.1 e.2.2.2 ∧ mj_cok 58 e.2.1 e.2.2.1 e.2.2.2 := by
  unfold mj_tb58
  refine List.forall_mem_cons.mpr ⟨⟨(trivial), trivial⟩, ?_⟩
  refine List.forall_mem_cons.mpr ⟨⟨(trivial), trivial⟩, ?_⟩
  refine List.forall_mem_cons.mpr ⟨⟨(trivial), mj_ckOf mjK_59 (by decide) (mj_lnkG mjl_0_116)⟩, ?_⟩
  refine List.forall_mem_cons.mpr ⟨⟨(show (0 : Int) ≤ ((5 : Nat) : Int) + 22 by decide), trivial⟩, ?_⟩
  refine List.forall_mem_cons.mpr ⟨⟨(trivial), trivial⟩, ?_⟩
  refine List.forall_mem_cons.mpr ⟨⟨(mj_lkG (by decide) rfl (by decide) mj_inU0 mjf_0_35), trivial⟩, ?_⟩
  refine List.forall_mem_cons.mpr ⟨⟨(mj_lkG (by decide) rfl (by decide) mj_inU5 mjf_0_119), trivial⟩, ?_⟩
  refine List.forall_mem_cons.mpr ⟨⟨(trivial), trivial⟩, ?_⟩
  refine List.forall_mem_cons.mpr ⟨⟨(trivial), trivial⟩, ?_⟩
  refine List.forall_mem_cons.mpr ⟨⟨(trivial), mj_ckOf mjK_60 (by decide) (mj_lnkG mjl_0_123)⟩, ?_⟩
  refine List.forall_mem_cons.mpr ⟨⟨(show (0 : Int) ≤ ((20 : Nat) : Int) + 7 by decide), trivial⟩, ?_⟩
  refine List.forall_mem_cons.mpr ⟨⟨(trivial), trivial⟩, ?_⟩
  refine List.forall_mem_cons.mpr ⟨⟨(show (0 : Int) ≤ ((24 : Nat) : Int) + 4 by decide), trivial⟩, ?_⟩
  refine List.forall_mem_cons.mpr ⟨⟨(trivial), trivial⟩, ?_⟩
  refine List.forall_mem_cons.mpr ⟨⟨(trivial), trivial⟩, ?_⟩
  exact fun _ h => absurd h List.not_mem_nil
theorem mjd_58 : mj_ckd 58 = true := by decide +kernel
theorem mjg_58 : mj_good 58 := mj_goodOf (fun _ => ⟨mj_G, rfl⟩) (by decide +kernel) mjd_58 mje_58
theorem mje_59 : ∀ e ∈ mj_tb59, mj_lk 59 e.1 e.2.1 e.2.2.1 e.2.2.2 ∧ mj_cok 59 e.2.1 e.2.2.1 e.2.2.2 := by
  unfold mj_tb59
  refine List.forall_mem_cons.mpr ⟨⟨(trivial), trivial⟩, ?_⟩
  refine List.forall_mem_cons.mpr ⟨⟨(mj_lkG (by decide) rfl (by decide) mj_inU0 mjf_0_35), trivial⟩, ?_⟩
  refine List.forall_mem_cons.mpr ⟨⟨(mj_lkG (by decide) rfl (by decide) mj_inU5 mjf_0_43), trivial⟩, ?_⟩
  refine List.forall_mem_cons.mpr ⟨⟨(show (0 : Int) ≤ ((7 : Nat) : Int) + 15 by decide), trivial⟩, ?_⟩
  refine List.forall_mem_cons.mpr ⟨⟨(trivial), trivial⟩, ?_⟩
  refine List.forall_mem_cons.mpr ⟨⟨(trivial), trivial⟩, ?_⟩
  refine List.forall_mem_cons.mpr ⟨⟨(trivial), mj_ckOf mjK_14 (by decide) (mj_lnkG mjl_0_58)⟩, ?_⟩
  refine List.forall_mem_cons.mpr ⟨⟨(show (0 : Int) ≤ ((15 : Nat) : Int) + 7 by decide), trivial⟩, ?_⟩
  refine List.forall_mem_cons.mpr ⟨⟨(trivial), trivial⟩, ?_⟩
  refine List.forall_mem_cons.mpr ⟨⟨(show (0 : Int) ≤ ((19 : Nat) : Int) + 4 by decide), trivial⟩, ?_⟩
  refine List.forall_mem_cons.mpr ⟨⟨(trivial), trivial⟩, ?_⟩
  refine List.forall_mem_cons.mpr ⟨⟨(trivial), trivial⟩, ?_⟩
  exact fun _ h => absurd h List.not_mem_nil
theorem mjd_59 : mj_ckd 59 = true := by decide +kernel
theorem mjg_59 : mj_good 59 := mj_goodOf (fun _ => ⟨mj_G, rfl⟩) (by decide +kernel) mjd_59 mje_59
theorem mje_60 : ∀ e ∈ mj_tb60, mj_lk 60 e.1 e.2.1 e.2.2.1 e.2.2.2 ∧ mj_cok 60 e.2.1 e.2.2.1 e.2.2.2 := by
  unfold mj_tb60
  refine List.forall_mem_cons.mpr ⟨⟨(trivial), trivial⟩, ?_⟩
  refine List.forall_mem_cons.mpr ⟨⟨(mj_lkG (by decide) rfl (by decide) mj_inU8 mjf_8_15), trivial⟩, ?_⟩
  refine List.forall_mem_cons.mpr ⟨⟨(trivial), mj_ckOf mjK_56 (by decide) (mj_lnkG mjl_8_48)⟩, ?_⟩
  refine List.forall_mem_cons.mpr ⟨⟨(show (0 : Int) ≤ ((7 : Nat) : Int) + 11 by decide), trivial⟩, ?_⟩
  refine List.forall_mem_cons.mpr ⟨⟨(trivial), trivial⟩, ?_⟩
  refine List.forall_mem_cons.mpr ⟨⟨(mj_lkG (by decide) rfl (by decide) mj_inU8 mjf_8_58), trivial⟩, ?_⟩
  refine List.forall_mem_cons.mpr ⟨⟨(trivial), trivial⟩, ?_⟩
  refine List.forall_mem_cons.mpr ⟨⟨(show (0 : Int) ≤ ((15 : Nat) : Int) + 5 by decide), trivial⟩, ?_⟩
  refine List.forall_mem_cons.mpr ⟨⟨(trivial), trivial⟩, ?_⟩
  refine List.forall_mem_cons.mpr ⟨⟨(trivial), trivial⟩, ?_⟩
  refine List.forall_mem_cons.mpr ⟨⟨(trivial), trivial⟩, ?_⟩
  refine List.forall_mem_cons.mpr ⟨⟨(trivial), trivial⟩, ?_⟩
  refine List.forall_mem_cons.mpr ⟨⟨(mj_lkG (by decide) rfl (by decide) mj_inU8 mjf_8_58), trivial⟩, ?_⟩
  refine List.forall_mem_cons.mpr ⟨⟨(trivial), trivial⟩, ?_⟩
  refine List.forall_mem_cons.mpr ⟨⟨(trivial), trivial⟩, ?_⟩
  refine List.forall_mem_cons.mpr ⟨⟨(mj_lkP (by decide) rfl (by decide) mj_inU8 mjf_8_58 mj_TyOk8 mj_Nm8 (Or.inl rfl) rfl), trivial⟩, ?_⟩
  refine List.forall_mem_cons.mpr ⟨⟨(trivial), trivial⟩, ?_⟩
  refine List.forall_mem_cons.mpr ⟨⟨(trivial), trivial⟩, ?_⟩
  exact fun _ h => absurd h List.not_mem_nil
theorem mjd_60 : mj_ckd 60 = true := by decide +kernel
theorem mjg_60 : mj_good 60 := mj_goodOf (fun _ => ⟨mj_G, rfl⟩) (by decide +kernel) mjd_60 mje_60
theorem mje_61 : ∀ e ∈ mj_tb61, mj_lk 61 e.1 e.2.1 e.2.2.1 e.2.2.2 ∧ mj_cok 61 e.2.1 e.2.2.1 e.2.2.2 := by
  unfold mj_tb61
  refine List.forall_mem_cons.mpr ⟨⟨(trivial), trivial⟩, ?_⟩
  refine List.forall_mem_cons.mpr ⟨⟨(mj_lkG (by decide) rfl (by decide) mj_inU0 mjf_0_35), trivial⟩, ?_⟩
  refine List.forall_mem_cons.mpr ⟨⟨(mj_lkG (by decide) rfl (by decide) mj_inU5 mjf_0_43), trivial⟩, ?_⟩
  refine List.forall_mem_cons.mpr ⟨⟨(show (0 : Int) ≤ ((7 : Nat) : Int) + 11 by decide), trivial⟩, ?_⟩
  refine List.forall_mem_cons.mpr ⟨⟨(trivial), trivial⟩, ?_⟩
  refine List.forall_mem_cons.mpr ⟨⟨(trivial), trivial⟩, ?_⟩
  refine List.forall_mem_cons.mpr ⟨⟨(trivial), mj_ckOf mjK_15 (by decide) (mj_lnkG mjl_0_62)⟩, ?_⟩
  refine List.forall_mem_cons.mpr ⟨⟨(show (0 : Int) ≤ ((15 : Nat) : Int) + 5 by decide), trivial⟩, ?_⟩
  refine List.forall_mem_cons.mpr ⟨⟨(trivial), trivial⟩, ?_⟩
  refine List.forall_mem_cons.mpr ⟨⟨(trivial), trivial⟩, ?_⟩
  refine List.forall_mem_cons.mpr ⟨⟨(trivial), trivial⟩, ?_⟩
  refine List.forall_mem_cons.mpr ⟨⟨(mj_lkG (by decide) rfl (by decide) mj_inU0 mjf_0_35), trivial⟩, ?_⟩
  refine List.forall_mem_cons.mpr ⟨⟨(mj_lkG (by decide) rfl (by decide) mj_inU5 mjf_0_129), trivial⟩, ?_⟩
  refine List.forall_mem_cons.mpr ⟨⟨(trivial), trivial⟩, ?_⟩
  refine List.forall_mem_cons.mpr ⟨⟨(trivial), trivial⟩, ?_⟩
  refine List.forall_mem_cons.mpr ⟨⟨(trivial), trivial⟩, ?_⟩
  refine List.forall_mem_cons.mpr ⟨⟨(trivial), trivial⟩, ?_⟩
  refine List.forall_mem_cons.mpr ⟨⟨(trivial), trivial⟩, ?_⟩
  exact fun _ h => absurd h List.not_mem_nil
theorem mjd_61 : mj_ckd 61 = true := by decide +kernel
theorem mjg_61 : mj_good 61 := mj_goodOf (fun _ => ⟨mj_G, rfl⟩) (by decide +kernel) mjd_61 mje_61
theorem mje_62 : ∀ e ∈ mj_tb62, mj_lk 62 e.1 e.2.1 e.2.2.1 e.2.2.2 ∧ mj_cok 62 e.2.1 e.2.2.1 e.2.2.2 := by
  unfold mj_tb62
  refine List.forall_mem_cons.mpr ⟨⟨(trivial), trivial⟩, ?_⟩
  refine List.forall_mem_cons.mpr ⟨⟨(mj_lkG (by decide) rfl (by decide) mj_inU0 mjf_0_35), trivial⟩, ?_⟩
  refine List.forall_mem_cons.mpr ⟨⟨(mj_lkG (by decide) rfl (by decide) mj_inU5 mjf_0_43), trivial⟩, ?_⟩
  refine List.forall_mem_cons.mpr ⟨⟨(show (0 : Int) ≤ ((7 : Nat) : Int) + 25 by decide), trivial⟩, ?_⟩
  refine List.forall_mem_cons.mpr ⟨⟨(trivial), trivial⟩, ?_⟩
  refine List.forall_mem_cons.mpr ⟨⟨(trivial), trivial⟩, ?_⟩
  refine List.forall_mem_cons.mpr ⟨⟨(trivial), trivial⟩, ?_⟩
  refine List.forall_mem_cons.mpr ⟨⟨(trivial), mj_ckOf mjK_11 (by decide) (mj_lnkG mjl_0_39)⟩, ?_⟩
  refine List.forall_mem_cons.mpr ⟨⟨(show (0 : Int) ≤ ((18 : Nat) : Int) + 14 by decide), trivial⟩, ?_⟩
  refine List.forall_mem_cons.mpr ⟨⟨(trivial), trivial⟩, ?_⟩
  refine List.forall_mem_cons.mpr ⟨⟨(mj_lkG (by decide) rfl (by decide) mj_inU0 mjf_0_35), trivial⟩, ?_⟩
  refine List.forall_mem_cons.mpr ⟨⟨(trivial), trivial⟩, ?_⟩
  refine List.forall_mem_cons.mpr ⟨⟨(trivial), mj_ckOf mjK_63 (by decide) (mj_lnkG mjl_0_132)⟩, ?_⟩
  refine List.forall_mem_cons.mpr ⟨⟨(show (0 : Int) ≤ ((29 : Nat) : Int) + 4 by decide), trivial⟩, ?_⟩
  refine List.forall_mem_cons.mpr ⟨⟨(trivial), trivial⟩, ?_⟩
  refine List.forall_mem_cons.mpr ⟨⟨(trivial), trivial⟩, ?_⟩
  exact fun _ h => absurd h List.not_mem_nil
theorem mjd_62 : mj_ckd 62 = true := by decide +kernel
theorem mjg_62 : mj_good 62 := mj_goodOf (fun _ => ⟨mj_G, rfl⟩) (by decide +kernel) mjd_62 mje_62
theorem mje_63 : ∀ e ∈ mj_tb63, mj_lk 63 e.1 e.2.1 e.2.2.1 e.2.2.2 ∧ mj_cok 63 e.2.1 e.2.2.1 e.2.2.2 := by
  unfold mj_tb63
  refine List.forall_mem_cons.mpr ⟨⟨(trivial), trivial⟩, ?_⟩
  refine List.forall_mem_cons.mpr ⟨⟨(mj_lkG (by decide) rfl (by decide) mj_inU5 mjf_5_24), trivial⟩, ?_⟩
  refine List.forall_mem_cons.mpr ⟨⟨(mj_lkG (by decide) rfl (by decide) mj_inU7 mjf_5_71), trivial⟩, ?_⟩
  refine List.forall_mem_cons.mpr ⟨⟨(show (2 : Nat) < mj_maxL 63 by decide), trivial⟩, ?_⟩
  refine List.forall_mem_cons.mpr ⟨⟨(trivial), trivial⟩, ?_⟩
  refine List.forall_mem_cons.mpr ⟨⟨(show (3 : Nat) < mj_maxL 63 by decide), trivial⟩, ?_⟩
  refine List.forall_mem_cons.mpr ⟨⟨(trivial), trivial⟩, ?_⟩
  refine List.forall_mem_cons.mpr ⟨⟨(trivial), trivial⟩, ?_⟩
  refine List.forall_mem_cons.mpr ⟨⟨(show (0 : Int) ≤ ((12 : Nat) : Int) + 60 by decide), trivial⟩, ?_⟩
  refine List.forall_mem_cons.mpr ⟨⟨(trivial), trivial⟩, ?_⟩
  refine List.forall_mem_cons.mpr ⟨⟨(trivial), mj_ckOf mjK_64 (by decide) (mj_lnkG mjl_5_86)⟩, ?_⟩
  refine List.forall_mem_cons.mpr ⟨⟨(trivial), trivial⟩, ?_⟩
  refine List.forall_mem_cons.mpr ⟨⟨(trivial), trivial⟩, ?_⟩
  refine List.forall_mem_cons.mpr ⟨⟨(trivial), mj_ckOf mjK_70 (by decide) (mj_lnkG mjl_5_89)⟩, ?_⟩
  refine List.forall_mem_cons.mpr ⟨⟨(mj_lkP (by decide) rfl (by decide) mj_inU5 mjf_5_56 mj_TyOk5 mj_Nm5 (Or.inl rfl) rfl), trivial⟩, ?_⟩
  refine List.forall_mem_cons.mpr ⟨⟨(trivial), trivial⟩, ?_⟩
  refine List.forall_mem_cons.mpr ⟨⟨(trivial), trivial⟩, ?_⟩
  refine List.forall_mem_cons.mpr ⟨⟨(mj_lkG (by decide) rfl (by decide) mj_inU5 mjf_5_50), trivial⟩, ?_⟩
  refine List.forall_mem_cons.mpr ⟨⟨(trivial), trivial⟩, ?_⟩
  refine List.forall_mem_cons.mpr ⟨⟨(trivial), trivial⟩, ?_⟩
  refine List.forall_mem_cons.mpr ⟨⟨(mj_lkP (by decide) rfl (by decide) mj_inU5 mjf_5_50 mj_TyOk5 mj_Nm5 (Or.inl rfl) rfl), trivial⟩, ?_⟩
  refine List.forall_mem_cons.mpr ⟨⟨(trivial), trivial⟩, ?_⟩
  refine List.forall_mem_cons.mpr ⟨⟨(mj_lkG (by decide) rfl (by decide) mj_inU5 mjf_5_56), trivial⟩, ?_⟩
  refine List.forall_mem_cons.mpr ⟨⟨(trivial), trivial⟩, ?_⟩
  refine List.forall_mem_cons.mpr ⟨⟨(show (0 : Int) ≤ ((42 : Nat) : Int) + 16 by decide), trivial⟩, ?_⟩
  refine List.forall_mem_cons.mpr ⟨⟨(trivial), trivial⟩, ?_⟩
  refine List.forall_mem_cons.mpr ⟨⟨(trivial), trivial⟩, ?_⟩
  refine List.forall_mem_cons.mpr ⟨⟨(mj_lkG (by decide) rfl (by decide) mj_inU5 mjf_5_68), trivial⟩, ?_⟩
  refine List.forall_mem_cons.mpr ⟨⟨(trivial), trivial⟩, ?_⟩
  refine List.forall_mem_cons.mpr ⟨⟨(trivial), trivial⟩, ?_⟩
  refine List.forall_mem_cons.mpr ⟨⟨(mj_lkP (by decide) rfl (by decide) mj_inU5 mjf_5_68 mj_TyOk5 mj_Nm5 (Or.inl rfl) rfl), trivial⟩, ?_⟩
  refine List.forall_mem_cons.mpr ⟨⟨(show (0 : Int) ≤ ((55 : Nat) : Int) + 11 by decide), trivial⟩, ?_⟩
  refine List.forall_mem_cons.mpr ⟨⟨(trivial), trivial⟩, ?_⟩
  refine List.forall_mem_cons.mpr ⟨⟨(trivial), trivial⟩, ?_⟩
  refine List.forall_mem_cons.mpr ⟨⟨(mj_lkG (by decide) rfl (by decide) mj_inU5 mjf_5_56), trivial⟩, ?_⟩
  refine List.forall_mem_cons.mpr ⟨⟨(trivial), mj_ckOf mjK_72 (by decide) (mj_lnkG mjl_5_93)⟩, ?_⟩
  refine List.forall_mem_cons.mpr ⟨⟨(show (3 : Nat) < mj_maxL 63 by decide), trivial⟩, ?_⟩
  refine List.forall_mem_cons.mpr ⟨⟨(show (0 : Int) ≤ ((69 : Nat) : Int) + (-59) by decide), trivial⟩, ?_⟩
  refine List.forall_mem_cons.mpr ⟨⟨(trivial), trivial⟩, ?_⟩
  refine List.forall_mem_cons.mpr ⟨⟨(mj_lkG (by decide) rfl (by decide) mj_inU5 mjf_5_24), trivial⟩, ?_⟩
  refine List.forall_mem_cons.mpr ⟨⟨(mj_lkG (by decide) rfl (by decide) mj_inU7 mjf_5_71), trivial⟩, ?_⟩
  refine List.forall_mem_cons.mpr ⟨⟨(trivial), trivial⟩, ?_⟩
  refine List.forall_mem_cons.mpr ⟨⟨(trivial), trivial⟩, ?_⟩
  refine List.forall_mem_cons.mpr ⟨⟨(trivial), trivial⟩, ?_⟩
  exact fun _ h => absurd h List.not_mem_nil
theorem mjd_63 : mj_ckd 63 = true := by decide +kernel
theorem mjg_63 : mj_good 63 := mj_goodOf (fun _ => ⟨mj_G, rfl⟩) (by decide +kernel) mjd_63 mje_63
theorem mje_64 : ∀ e ∈ mj_tb64, mj_lk 64 e.1 e.2.1 e.2.2.1 e.2.2.2 ∧ mj_cok 64 e.2.1 e.2.2.1 e.2.2.2 := by
  unfold mj_tb64
  refine List.forall_mem_cons.mpr ⟨⟨(trivial), trivial⟩, ?_⟩
  refine List.forall_mem_cons.mpr ⟨⟨(show (1 : Nat) < mj_maxL 64 by decide), trivial⟩, ?_⟩
  refine List.forall_mem_cons.mpr ⟨⟨(trivial), trivial⟩, ?_⟩
  refine List.forall_mem_cons.mpr ⟨⟨(trivial), trivial⟩, ?_⟩
  refine List.forall_mem_cons.mpr ⟨⟨(mj_lkG (by decide) rfl (by decide) mj_inU5 mjf_5_46), trivial⟩, ?_⟩
  refine List.forall_mem_cons.mpr ⟨⟨(show (0 : Int) ≤ ((7 : Nat) : Int) + 52 by decide), trivial⟩, ?_⟩
  refine List.forall_mem_cons.mpr ⟨⟨(trivial), trivial⟩, ?_⟩
  refine List.forall_mem_cons.mpr ⟨⟨(mj_lkG (by decide) rfl (by decide) mj_inU5 mjf_5_11), trivial⟩, ?_⟩
  refine List.forall_mem_cons.mpr ⟨⟨(trivial), trivial⟩, ?_⟩
  refine List.forall_mem_cons.mpr ⟨⟨(trivial), trivial⟩, ?_⟩
  refine List.forall_mem_cons.mpr ⟨⟨(trivial), trivial⟩, ?_⟩
  refine List.forall_mem_cons.mpr ⟨⟨(mj_lkG (by decide) rfl (by decide) mj_inU5 mjf_5_50), trivial⟩, ?_⟩
  refine List.forall_mem_cons.mpr ⟨⟨(trivial), mj_ckOf mjK_65 (by decide) (mj_lnkG mjl_5_97)⟩, ?_⟩
  refine List.forall_mem_cons.mpr ⟨⟨(show (0 : Int) ≤ ((23 : Nat) : Int) + 30 by decide), trivial⟩, ?_⟩
  refine List.forall_mem_cons.mpr ⟨⟨(trivial), trivial⟩, ?_⟩
  refine List.forall_mem_cons.mpr ⟨⟨(mj_lkG (by decide) rfl (by decide) mj_inU5 mjf_5_11), trivial⟩, ?_⟩
  refine List.forall_mem_cons.mpr ⟨⟨(trivial), trivial⟩, ?_⟩
  refine List.forall_mem_cons.mpr ⟨⟨(trivial), trivial⟩, ?_⟩
  refine List.forall_mem_cons.mpr ⟨⟨(trivial), trivial⟩, ?_⟩
  refine List.forall_mem_cons.mpr ⟨⟨(mj_lkG (by decide) rfl (by decide) mj_inU5 mjf_5_50), trivial⟩, ?_⟩
  refine List.forall_mem_cons.mpr ⟨⟨(trivial), mj_ckOf mjK_66 (by decide) (mj_lnkG mjl_5_101)⟩, ?_⟩
  refine List.forall_mem_cons.mpr ⟨⟨(trivial), trivial⟩, ?_⟩
  refine List.forall_mem_cons.mpr ⟨⟨(trivial), trivial⟩, ?_⟩
  refine List.forall_mem_cons.mpr ⟨⟨(trivial), trivial⟩, ?_⟩
  refine List.forall_mem_cons.mpr ⟨⟨(mj_lkG (by decide) rfl (by decide) mj_inU5 mjf_5_11), trivial⟩, ?_⟩
  refine List.forall_mem_cons.mpr ⟨⟨(trivial), trivial⟩, ?_⟩
  refine List.forall_mem_cons.mpr ⟨⟨(trivial), trivial⟩, ?_⟩
  refine List.forall_mem_cons.mpr ⟨⟨(mj_lkG (by decide) rfl (by decide) mj_inU8 mjf_5_104), trivial⟩, ?_⟩
  refine List.forall_mem_cons.mpr ⟨⟨(trivial), mj_ckOf mjK_67 (by decide) (mj_lnkG mjl_5_108)⟩, ?_⟩
  refine List.forall_mem_cons.mpr ⟨⟨(show (1 : Nat) < mj_maxL 64 by decide), trivial⟩, ?_⟩
  refine List.forall_mem_cons.mpr ⟨⟨(show (0 : Int) ≤ ((56 : Nat) : Int) + (-54) by decide), trivial⟩, ?_⟩
  refine List.forall_mem_cons.mpr ⟨⟨(trivial), trivial⟩, ?_⟩
  exact fun _ h => absurd h List.not_mem_nil
theorem mjd_64 : mj_ckd 64 = true := by decide +kernel
theorem mjg_64 : mj_good 64 := mj_goodOf (fun _ => ⟨mj_G, rfl⟩) (by decide +kernel) mjd_64 mje_64
theorem mje_65 : ∀ e ∈ mj_tb65, mj_lk 65 e.1 e.2.1 e.2.2.1 e.2.2.2 ∧ mj_cok 65 e.2.1 e.2.2.1 e.2.2.2 := by
  unfold mj_tb65
  refine List.forall_mem_cons.mpr ⟨⟨(trivial), trivial⟩, ?_⟩
  refine List.forall_mem_cons.mpr ⟨⟨(trivial), trivial⟩, ?_⟩
  refine List.forall_mem_cons.mpr ⟨⟨(mj_lkG (by decide) rfl (by decide) mj_inU8 mjf_8_55), trivial⟩, ?_⟩
  refine List.forall_mem_cons.mpr ⟨⟨(show (0 : Int) ≤ ((5 : Nat) : Int) + 24 by decide), trivial⟩, ?_⟩
  refine List.forall_mem_cons.mpr ⟨⟨(trivial), trivial⟩, ?_⟩
  refine List.forall_mem_cons.mpr ⟨⟨(mj_lkG (by decide) rfl (by decide) mj_inU8 mjf_8_15), trivial⟩, ?_⟩
  refine List.forall_mem_cons.mpr ⟨⟨(trivial), mj_ckOf mjK_56 (by decide) (mj_lnkG mjl_8_48)⟩, ?_⟩
  refine List.forall_mem_cons.mpr ⟨⟨(show (0 : Int) ≤ ((15 : Nat) : Int) + 10 by decide), trivial⟩, ?_⟩
  refine List.forall_mem_cons.mpr ⟨⟨(trivial), trivial⟩, ?_⟩
  refine List.forall_mem_cons.mpr ⟨⟨(mj_lkG (by decide) rfl (by decide) mj_inU8 mjf_8_58), trivial⟩, ?_⟩
  refine List.forall_mem_cons.mpr ⟨⟨(show (0 : Int) ≤ ((22 : Nat) : Int) + 7 by decide), trivial⟩, ?_⟩
  refine List.forall_mem_cons.mpr ⟨⟨(trivial), trivial⟩, ?_⟩
  refine List.forall_mem_cons.mpr ⟨⟨(show (0 : Int) ≤ ((26 : Nat) : Int) + 4 by decide), trivial⟩, ?_⟩
  refine List.forall_mem_cons.mpr ⟨⟨(trivial), trivial⟩, ?_⟩
  refine List.forall_mem_cons.mpr ⟨⟨(trivial), trivial⟩, ?_⟩
  exact fun _ h => absurd h List.not_mem_nil
theorem mjd_65 : mj_ckd 65 = true := by decide +kernel
theorem mjg_65 : mj_good 65 := mj_goodOf (fun _ => ⟨mj_G, rfl⟩) (by decide +kernel) mjd_65 mje_65
theorem mje_66 : ∀ e ∈ mj_tb66, mj_lk 66 e.1 e.2.1 e.2.2.1 e.2.2.2 ∧ mj_cok 66 e.2.1 e.2.2.1 e.2.2.2 := by
  unfold mj_tb66
  refine List.forall_mem_cons.mpr ⟨⟨(trivial), trivial⟩, ?_⟩
  refine List.forall_mem_cons.mpr ⟨⟨(trivial), trivial⟩, ?_⟩
  refine List.forall_mem_cons.mpr ⟨⟨(trivial), trivial⟩, ?_⟩
  refine List.forall_mem_cons.mpr ⟨⟨(mj_lkG (by decide) rfl (by decide) mj_inU8 mjf_8_15), trivial⟩, ?_⟩
  refine List.forall_mem_cons.mpr ⟨⟨(mj_lkG (by decide) rfl (by decide) mj_inU3 mjf_8_61), trivial⟩, ?_⟩
  refine List.forall_mem_cons.mpr ⟨⟨(trivial), trivial⟩, ?_⟩
  refine List.forall_mem_cons.mpr ⟨⟨(mj_lkP (by decide) rfl (by decide) mj_inU8 mjf_8_55 mj_TyOk8 mj_Nm8 (Or.inl rfl) rfl), trivial⟩, ?_⟩
  refine List.forall_mem_cons.mpr ⟨⟨(trivial), trivial⟩, ?_⟩
  refine List.forall_mem_cons.mpr ⟨⟨(mj_lkG (by decide) rfl (by decide) mj_inU8 mjf_8_15), trivial⟩, ?_⟩
  refine List.forall_mem_cons.mpr ⟨⟨(trivial), mj_ckOf mjK_56 (by decide) (mj_lnkG mjl_8_48)⟩, ?_⟩
  refine List.forall_mem_cons.mpr ⟨⟨(show (0 : Int) ≤ ((20 : Nat) : Int) + 13 by decide), trivial⟩, ?_⟩
  refine List.forall_mem_cons.mpr ⟨⟨(trivial), trivial⟩, ?_⟩
  refine List.forall_mem_cons.mpr ⟨⟨(trivial), trivial⟩, ?_⟩
  refine List.forall_mem_cons.mpr ⟨⟨(mj_lkG (by decide) rfl (by decide) mj_inU8 mjf_8_58), trivial⟩, ?_⟩
  refine List.forall_mem_cons.mpr ⟨⟨(trivial), trivial⟩, ?_⟩
  refine List.forall_mem_cons.mpr ⟨⟨(trivial), trivial⟩, ?_⟩
  refine List.forall_mem_cons.mpr ⟨⟨(mj_lkP (by decide) rfl (by decide) mj_inU8 mjf_8_58 mj_TyOk8 mj_Nm8 (Or.inl rfl) rfl), trivial⟩, ?_⟩
  refine List.forall_mem_cons.mpr ⟨⟨(trivial), trivial⟩, ?_⟩
  exact fun _ h => absurd h List.not_mem_nil
theorem mjd_66 : mj_ckd 66 = true := by decide +kernel
theorem mjg_66 : mj_good 66 := mj_goodOf (fun _ => ⟨mj_G, rfl⟩) (by decide +kernel) mjd_66 mje_66
theorem mje_67 : ∀ e ∈ mj_tb67, mj_lk 67 e.1 e.2.1 e.2.2.1 e.2.2.2 ∧ mj_cok 67 e.2.1 e.2.2.1 e.2.2.2 := by
  unfold mj_tb67
  refine List.forall_mem_cons.mpr ⟨⟨(trivial), trivial⟩, ?_⟩
  refine List.forall_mem_cons.mpr ⟨⟨(mj_lkG (by decide) rfl (by decide) mj_inU6 mjf_5_112), trivial⟩, ?_⟩
  refine List.forall_mem_cons.mpr ⟨⟨(show (0 : Int) ≤ ((4 : Nat) : Int) + 38 by decide), trivial⟩, ?_⟩
  refine List.forall_mem_cons.mpr ⟨⟨(trivial), trivial⟩, ?_⟩
  refine List.forall_mem_cons.mpr ⟨⟨(trivial), trivial⟩, ?_⟩
  refine List.forall_mem_cons.mpr ⟨⟨(mj_lkG (by decide) rfl (by decide) mj_inU5 mjf_5_65), trivial⟩, ?_⟩
  refine List.forall_mem_cons.mpr ⟨⟨(trivial), trivial⟩, ?_⟩
  refine List.forall_mem_cons.mpr ⟨⟨(trivial), trivial⟩, ?_⟩
  refine List.forall_mem_cons.mpr ⟨⟨(mj_lkP (by decide) rfl (by decide) mj_inU5 mjf_5_65 mj_TyOk5 mj_Nm5 (Or.inl rfl) rfl), trivial⟩, ?_⟩
  refine List.forall_mem_cons.mpr ⟨⟨(trivial), trivial⟩, ?_⟩
  refine List.forall_mem_cons.mpr ⟨⟨(mj_lkG (by decide) rfl (by decide) mj_inU5 mjf_5_24), trivial⟩, ?_⟩
  refine List.forall_mem_cons.mpr ⟨⟨(trivial), trivial⟩, ?_⟩
  refine List.forall_mem_cons.mpr ⟨⟨(trivial), trivial⟩, ?_⟩
  refine List.forall_mem_cons.mpr ⟨⟨(trivial), trivial⟩, ?_⟩
  refine List.forall_mem_cons.mpr ⟨⟨(mj_lkG (by decide) rfl (by decide) mj_inU5 mjf_5_50), trivial⟩, ?_⟩
  refine List.forall_mem_cons.mpr ⟨⟨(trivial), trivial⟩, ?_⟩
  refine List.forall_mem_cons.mpr ⟨⟨(mj_lkG (by decide) rfl (by decide) mj_inU5 mjf_5_50), trivial⟩, ?_⟩
  refine List.forall_mem_cons.mpr ⟨⟨(trivial), trivial⟩, ?_⟩
  refine List.forall_mem_cons.mpr ⟨⟨(mj_lkG (by decide) rfl (by decide) mj_inU6 mjf_5_117), trivial⟩, ?_⟩
  refine List.forall_mem_cons.mpr ⟨⟨(trivial), trivial⟩, ?_⟩
  refine List.forall_mem_cons.mpr ⟨⟨(trivial), mj_ckOf mjK_68 (by decide) (mj_lnkG mjl_5_120)⟩, ?_⟩
  refine List.forall_mem_cons.mpr ⟨⟨(show (0 : Int) ≤ ((39 : Nat) : Int) + 12 by decide), trivial⟩, ?_⟩
  refine List.forall_mem_cons.mpr ⟨⟨(trivial), trivial⟩, ?_⟩
  refine List.forall_mem_cons.mpr ⟨⟨(trivial), trivial⟩, ?_⟩
  refine List.forall_mem_cons.mpr ⟨⟨(trivial), trivial⟩, ?_⟩
  refine List.forall_mem_cons.mpr ⟨⟨(mj_lkG (by decide) rfl (by decide) mj_inU5 mjf_5_50), trivial⟩, ?_⟩
  refine List.forall_mem_cons.mpr ⟨⟨(trivial), mj_ckOf mjK_69 (by decide) (mj_lnkG mjl_5_124)⟩, ?_⟩
  refine List.forall_mem_cons.mpr ⟨⟨(trivial), trivial⟩, ?_⟩
  exact fun _ h => absurd h List.not_mem_nil
theorem mjd_67 : mj_ckd 67 = true := by decide +kernel
theorem mjg_67 : mj_good 67 := mj_goodOf (fun _ => ⟨mj_G, rfl⟩) (by decide +kernel) mjd_67 mje_67
theorem mje_68 : ∀ e ∈ mj_tb68, mj_lk 68 e.1 e.2.1 e.2.2.1 e.2.2.2 ∧ mj_cok 68 e.2.1 e.2.2.1 e.2.2.2 := by
  unfold mj_tb68
  refine List.forall_mem_cons.mpr ⟨⟨(trivial), trivial⟩, ?_⟩
  refine List.forall_mem_cons.mpr ⟨⟨(mj_lkG (by decide) rfl (by decide) mj_inU7 mjf_7_24), trivial⟩, ?_⟩
  refine List.forall_mem_cons.mpr ⟨⟨(trivial), trivial⟩, ?_⟩
  refine List.forall_mem_cons.mpr ⟨⟨(trivial), trivial⟩, ?_⟩
  refine List.forall_mem_cons.mpr ⟨⟨(show (5 : Nat) < mj_maxL 68 by decide), trivial⟩, ?_⟩
  refine List.forall_mem_cons.mpr ⟨⟨(trivial), trivial⟩, ?_⟩
  refine List.forall_mem_cons.mpr ⟨⟨(mj_lkG (by decide) rfl (by decide) mj_inU7 mjf_7_9), trivial⟩, ?_⟩
  refine List.forall_mem_cons.mpr ⟨⟨(trivial), trivial⟩, ?_⟩
  refine List.forall_mem_cons.mpr ⟨⟨(trivial), trivial⟩, ?_⟩
  refine List.forall_mem_cons.mpr ⟨⟨(trivial), trivial⟩, ?_⟩
  refine List.forall_mem_cons.mpr ⟨⟨(trivial), trivial⟩, ?_⟩
  refine List.forall_mem_cons.mpr ⟨⟨(mj_lkG (by decide) rfl (by decide) mj_inU7 mjf_7_15), trivial⟩, ?_⟩
  refine List.forall_mem_cons.mpr ⟨⟨(trivial), trivial⟩, ?_⟩
  refine List.forall_mem_cons.mpr ⟨⟨(trivial), trivial⟩, ?_⟩
  refine List.forall_mem_cons.mpr ⟨⟨(trivial), trivial⟩, ?_⟩
  refine List.forall_mem_cons.mpr ⟨⟨(trivial), trivial⟩, ?_⟩
  refine List.forall_mem_cons.mpr ⟨⟨(mj_lkG (by decide) rfl (by decide) mj_inU7 mjf_7_18), trivial⟩, ?_⟩
  refine List.forall_mem_cons.mpr ⟨⟨(trivial), trivial⟩, ?_⟩
  refine List.forall_mem_cons.mpr ⟨⟨(trivial), trivial⟩, ?_⟩
  refine List.forall_mem_cons.mpr ⟨⟨(trivial), trivial⟩, ?_⟩
  refine List.forall_mem_cons.mpr ⟨⟨(trivial), trivial⟩, ?_⟩
  refine List.forall_mem_cons.mpr ⟨⟨(mj_lkG (by decide) rfl (by decide) mj_inU7 mjf_7_21), trivial⟩, ?_⟩
  refine List.forall_mem_cons.mpr ⟨⟨(trivial), trivial⟩, ?_⟩
  refine List.forall_mem_cons.mpr ⟨⟨(trivial), trivial⟩, ?_⟩
  refine List.forall_mem_cons.mpr ⟨⟨(trivial), trivial⟩, ?_⟩
  refine List.forall_mem_cons.mpr ⟨⟨(trivial), trivial⟩, ?_⟩
  refine List.forall_mem_cons.mpr ⟨⟨(trivial), trivial⟩, ?_⟩
  refine List.forall_mem_cons.mpr ⟨⟨(mj_lkG (by decide) rfl (by decide) mj_inU7 mjf_7_24), trivial⟩, ?_⟩
  refine List.forall_mem_cons.mpr ⟨⟨(trivial), trivial⟩, ?_⟩
  refine List.forall_mem_cons.mpr ⟨⟨(trivial), trivial⟩, ?_⟩
  refine List.forall_mem_cons.mpr ⟨⟨(mj_lkP (by decide) rfl (by decide) mj_inU7 mjf_7_24 mj_TyOk7 mj_Nm7 (Or.inl rfl) rfl), trivial⟩, ?_⟩
  refine List.forall_mem_cons.mpr ⟨⟨(trivial), trivial⟩, ?_⟩
  exact fun _ h => absurd h List.not_mem_nil
theorem mjd_68 : mj_ckd 68 = true := by decide +kernel
theorem mjg_68 : mj_good 68 := mj_goodOf (fun _ => ⟨mj_G, rfl⟩) (by decide +kernel) mjd_68 mje_68
theorem mje_69 : ∀ e ∈ mj_tb69, mj_lk 69 e.1 e.2.1 e.2.2.1 e.2.2.2 ∧ mj_cok 69 e.2.1 e.2.2.1 e.2.2.2 := by
  unfold mj_tb69
  refine List.forall_mem_cons.mpr ⟨⟨(trivial), trivial⟩, ?_⟩
  refine List.forall_mem_cons.mpr ⟨⟨(trivial), trivial⟩, ?_⟩
  refine List.forall_mem_cons.mpr ⟨⟨(mj_lkP (by decide) rfl (by decide) mj_inU6 mjf_6_30 mj_TyOk6 mj_Nm6 (Or.inl rfl) rfl), trivial⟩, ?_⟩
  refine List.forall_mem_cons.mpr ⟨⟨(trivial), trivial⟩, ?_⟩
  refine List.forall_mem_cons.mpr ⟨⟨(trivial), trivial⟩, ?_⟩
  refine List.forall_mem_cons.mpr ⟨⟨(mj_lkP (by decide) rfl (by decide) mj_inU6 mjf_6_34 mj_TyOk6 mj_Nm6 (Or.inl rfl) rfl), trivial⟩, ?_⟩
  refine List.forall_mem_cons.mpr ⟨⟨(trivial), trivial⟩, ?_⟩
  refine List.forall_mem_cons.mpr ⟨⟨(trivial), trivial⟩, ?_⟩
  refine List.forall_mem_cons.mpr ⟨⟨(mj_lkP (by decide) rfl (by decide) mj_inU6 mjf_6_37 mj_TyOk6 mj_Nm6 (Or.inl rfl) rfl), trivial⟩, ?_⟩
  refine List.forall_mem_cons.mpr ⟨⟨(trivial), trivial⟩, ?_⟩
  refine List.forall_mem_cons.mpr ⟨⟨(trivial), trivial⟩, ?_⟩
  refine List.forall_mem_cons.mpr ⟨⟨(mj_lkP (by decide) rfl (by decide) mj_inU6 mjf_6_40 mj_TyOk6 mj_Nm6 (Or.inl rfl) rfl), trivial⟩, ?_⟩
  refine List.forall_mem_cons.mpr ⟨⟨(trivial), trivial⟩, ?_⟩
  refine List.forall_mem_cons.mpr ⟨⟨(trivial), trivial⟩, ?_⟩
  refine List.forall_mem_cons.mpr ⟨⟨(mj_lkP (by decide) rfl (by decide) mj_inU6 mjf_6_44 mj_TyOk6 mj_Nm6 (Or.inl rfl) rfl), trivial⟩, ?_⟩
  refine List.forall_mem_cons.mpr ⟨⟨(trivial), trivial⟩, ?_⟩
  refine List.forall_mem_cons.mpr ⟨⟨(trivial), trivial⟩, ?_⟩
  refine List.forall_mem_cons.mpr ⟨⟨(mj_lkP (by decide) rfl (by decide) mj_inU6 mjf_6_47 mj_TyOk6 mj_Nm6 (Or.inl rfl) rfl), trivial⟩, ?_⟩
  refine List.forall_mem_cons.mpr ⟨⟨(trivial), trivial⟩, ?_⟩
  refine List.forall_mem_cons.mpr ⟨⟨(trivial), trivial⟩, ?_⟩
  refine List.forall_mem_cons.mpr ⟨⟨(mj_lkP (by decide) rfl (by decide) mj_inU6 mjf_6_50 mj_TyOk6 mj_Nm6 (Or.inl rfl) rfl), trivial⟩, ?_⟩
  refine List.forall_mem_cons.mpr ⟨⟨(trivial), trivial⟩, ?_⟩
  refine List.forall_mem_cons.mpr ⟨⟨(trivial), trivial⟩, ?_⟩
  refine List.forall_mem_cons.mpr ⟨⟨(mj_lkP (by decide) rfl (by decide) mj_inU6 mjf_6_53 mj_TyOk6 mj_Nm6 (Or.inl rfl) rfl), trivial⟩, ?_⟩
  refine List.forall_mem_cons.mpr ⟨⟨(trivial), trivial⟩, ?_⟩
  refine List.forall_mem_cons.mpr ⟨⟨(trivial), trivial⟩, ?_⟩
  refine List.forall_mem_cons.mpr ⟨⟨(mj_lkP (by decide) rfl (by decide) mj_inU6 mjf_6_56 mj_TyOk6 mj_Nm6 (Or.inl rfl) rfl), trivial⟩, ?_⟩
  refine List.forall_mem_cons.mpr ⟨⟨(trivial), trivial⟩, ?_⟩
  refine List.forall_mem_cons.mpr ⟨⟨(trivial), trivial⟩, ?_⟩
  refine List.forall_mem_cons.mpr ⟨⟨(mj_lkP (by decide) rfl (by decide) mj_inU6 mjf_6_59 mj_TyOk6 mj_Nm6 (Or.inl rfl) rfl), trivial⟩, ?_⟩
  refine List.forall_mem_cons.mpr ⟨⟨(trivial), trivial⟩, ?_⟩
  refine List.forall_mem_cons.mpr ⟨⟨(trivial), trivial⟩, ?_⟩
  refine List.forall_mem_cons.mpr ⟨⟨(mj_lkP (by decide) rfl (by decide) mj_inU6 mjf_6_62 mj_TyOk6 mj_Nm6 (Or.inl rfl) rfl), trivial⟩, ?_⟩
  refine List.forall_mem_cons.mpr ⟨⟨(trivial), trivial⟩, ?_⟩
  refine List.forall_mem_cons.mpr ⟨⟨(mj_lkG (by decide) rfl (by decide) mj_inU6 mjf_6_9), trivial⟩, ?_⟩
  refine List.forall_mem_cons.mpr ⟨⟨(trivial), trivial⟩, ?_⟩
  refine List.forall_mem_cons.mpr ⟨⟨(trivial), mj_ckOf mjK_36 (by decide) (mj_lnkG mjl_6_65)⟩, ?_⟩
  refine List.forall_mem_cons.mpr ⟨⟨(trivial), trivial⟩, ?_⟩
  exact fun _ h => absurd h List.not_mem_nil
theorem mjd_69 : mj_ckd 69 = true := by decide +kernel
theorem mjg_69 : mj_good 69 := mj_goodOf (fun _ => ⟨mj_G, rfl⟩) (by decide +kernel) mjd_69 mje_69
theorem mje_70 : ∀ e ∈ mj_tb70, mj_lk 70 e.1 e.2.1 e.2.2.1 e.2.2.2 ∧ mj_cok 70 e.2.1 e.2.2.1 e.2.2.2 := by
  unfold mj_tb70
  refine List.forall_mem_cons.mpr ⟨⟨(trivial), trivial⟩, ?_⟩
  refine List.forall_mem_cons.mpr ⟨⟨(show (1 : Nat) < mj_maxL 70 by decide), trivial⟩, ?_⟩
  refine List.forall_mem_cons.mpr ⟨⟨(trivial), trivial⟩, ?_⟩
  refine List.forall_mem_cons.mpr ⟨⟨(show (2 : Nat) < mj_maxL 70 by decide), trivial⟩, ?_⟩
  refine List.forall_mem_cons.mpr ⟨⟨(trivial), trivial⟩, ?_⟩
  refine List.forall_mem_cons.mpr ⟨⟨(trivial), trivial⟩, ?_⟩
  refine List.forall_mem_cons.mpr ⟨⟨(mj_lkG (by decide) rfl (by decide) mj_inU5 mjf_5_46), trivial⟩, ?_⟩
  refine List.forall_mem_cons.mpr ⟨⟨(show (0 : Int) ≤ ((9 : Nat) : Int) + 49 by decide), trivial⟩, ?_⟩
  refine List.forall_mem_cons.mpr ⟨⟨(trivial), trivial⟩, ?_⟩
  refine List.forall_mem_cons.mpr ⟨⟨(mj_lkG (by decide) rfl (by decide) mj_inU5 mjf_5_11), trivial⟩, ?_⟩
  refine List.forall_mem_cons.mpr ⟨⟨(trivial), trivial⟩, ?_⟩
  refine List.forall_mem_cons.mpr ⟨⟨(trivial), trivial⟩, ?_⟩
  refine List.forall_mem_cons.mpr ⟨⟨(mj_lkG (by decide) rfl (by decide) mj_inU8 mjf_5_104), trivial⟩, ?_⟩
  refine List.forall_mem_cons.mpr ⟨⟨(show (3 : Nat) < mj_maxL 70 by decide), trivial⟩, ?_⟩
  refine List.forall_mem_cons.mpr ⟨⟨(trivial), trivial⟩, ?_⟩
  refine List.forall_mem_cons.mpr ⟨⟨(mj_lkG (by decide) rfl (by decide) mj_inU6 mjf_5_112), trivial⟩, ?_⟩
  refine List.forall_mem_cons.mpr ⟨⟨(show (0 : Int) ≤ ((26 : Nat) : Int) + 26 by decide), trivial⟩, ?_⟩
  refine List.forall_mem_cons.mpr ⟨⟨(trivial), trivial⟩, ?_⟩
  refine List.forall_mem_cons.mpr ⟨⟨(trivial), trivial⟩, ?_⟩
  refine List.forall_mem_cons.mpr ⟨⟨(show (0 : Int) ≤ ((31 : Nat) : Int) + 19 by decide), trivial⟩, ?_⟩
  refine List.forall_mem_cons.mpr ⟨⟨(trivial), trivial⟩, ?_⟩
  refine List.forall_mem_cons.mpr ⟨⟨(trivial), trivial⟩, ?_⟩
  refine List.forall_mem_cons.mpr ⟨⟨(mj_lkG (by decide) rfl (by decide) mj_inU5 mjf_5_11), trivial⟩, ?_⟩
  refine List.forall_mem_cons.mpr ⟨⟨(trivial), trivial⟩, ?_⟩
  refine List.forall_mem_cons.mpr ⟨⟨(trivial), trivial⟩, ?_⟩
  refine List.forall_mem_cons.mpr ⟨⟨(mj_lkG (by decide) rfl (by decide) mj_inU8 mjf_5_104), trivial⟩, ?_⟩
  refine List.forall_mem_cons.mpr ⟨⟨(trivial), mj_ckOf mjK_71 (by decide) (mj_lnkG mjl_5_128)⟩, ?_⟩
  refine List.forall_mem_cons.mpr ⟨⟨(show (0 : Int) ≤ ((47 : Nat) : Int) + 5 by decide), trivial⟩, ?_⟩
  refine List.forall_mem_cons.mpr ⟨⟨(trivial), trivial⟩, ?_⟩
  refine List.forall_mem_cons.mpr ⟨⟨(show (1 : Nat) < mj_maxL 70 by decide), trivial⟩, ?_⟩
  refine List.forall_mem_cons.mpr ⟨⟨(show (2 : Nat) < mj_maxL 70 by decide), trivial⟩, ?_⟩
  refine List.forall_mem_cons.mpr ⟨⟨(show (0 : Int) ≤ ((55 : Nat) : Int) + (-51) by decide), trivial⟩, ?_⟩
  refine List.forall_mem_cons.mpr ⟨⟨(trivial), trivial⟩, ?_⟩
  refine List.forall_mem_cons.mpr ⟨⟨(trivial), trivial⟩, ?_⟩
  exact fun _ h => absurd h List.not_mem_nil
theorem mjd_70 : mj_ckd 70 = true := by decide +kernel
theorem mjg_70 : mj_good 70 := mj_goodOf (fun _ => ⟨mj_G, rfl⟩) (by decide +kernel) mjd_70 mje_70
theorem mje_71 : ∀ e ∈ mj_tb71, mj_lk 71 e.1 e.2.1 e.2.2.1 e.2.2.2 ∧ mj_cok 71 e.2.1 e.2.2.1 e.2.2.2 := by
  unfold mj_tb71
  refine List.forall_mem_cons.mpr ⟨⟨(trivial), trivial⟩, ?_⟩
  refine List.forall_mem_cons.mpr ⟨⟨(mj_lkG (by decide) rfl (by decide) mj_inU6 mjf_6_40), trivial⟩, ?_⟩
  refine List.forall_mem_cons.mpr ⟨⟨(trivial), trivial⟩, ?_⟩
  refine List.forall_mem_cons.mpr ⟨⟨(mj_lkG (by decide) rfl (by decide) mj_inU6 mjf_6_40), trivial⟩, ?_⟩
  refine List.forall_mem_cons.mpr ⟨⟨(show (0 : Int) ≤ ((8 : Nat) : Int) + 28 by decide), trivial⟩, ?_⟩
  refine List.forall_mem_cons.mpr ⟨⟨(trivial), trivial⟩, ?_⟩
  refine List.forall_mem_cons.mpr ⟨⟨(mj_lkG (by decide) rfl (by decide) mj_inU6 mjf_6_40), trivial⟩, ?_⟩
  refine List.forall_mem_cons.mpr ⟨⟨(trivial), trivial⟩, ?_⟩
  refine List.forall_mem_cons.mpr ⟨⟨(mj_lkG (by decide) rfl (by decide) mj_inU6 mjf_6_40), trivial⟩, ?_⟩
  refine List.forall_mem_cons.mpr ⟨⟨(show (0 : Int) ≤ ((19 : Nat) : Int) + 21 by decide), trivial⟩, ?_⟩
  refine List.forall_mem_cons.mpr ⟨⟨(trivial), trivial⟩, ?_⟩
  refine List.forall_mem_cons.mpr ⟨⟨(mj_lkG (by decide) rfl (by decide) mj_inU6 mjf_6_34), trivial⟩, ?_⟩
  refine List.forall_mem_cons.mpr ⟨⟨(show (0 : Int) ≤ ((26 : Nat) : Int) + 14 by decide), trivial⟩, ?_⟩
  refine List.forall_mem_cons.mpr ⟨⟨(trivial), trivial⟩, ?_⟩
  refine List.forall_mem_cons.mpr ⟨⟨(mj_lkG (by decide) rfl (by decide) mj_inU6 mjf_6_34), trivial⟩, ?_⟩
  refine List.forall_mem_cons.mpr ⟨⟨(show (0 : Int) ≤ ((33 : Nat) : Int) + 7 by decide), trivial⟩, ?_⟩
  refine List.forall_mem_cons.mpr ⟨⟨(trivial), trivial⟩, ?_⟩
  refine List.forall_mem_cons.mpr ⟨⟨(show (0 : Int) ≤ ((37 : Nat) : Int) + 4 by decide), trivial⟩, ?_⟩
  refine List.forall_mem_cons.mpr ⟨⟨(trivial), trivial⟩, ?_⟩
  refine List.forall_mem_cons.mpr ⟨⟨(trivial), trivial⟩, ?_⟩
  exact fun _ h => absurd h List.not_mem_nil
theorem mjd_71 : mj_ckd 71 = true := by decide +kernel
theorem mjg_71 : mj_good 71 := mj_goodOf (fun _ => ⟨mj_G, rfl⟩) (by decide +kernel) mjd_71 mje_71
theorem mje_72 : ∀ e ∈ mj_tb72, mj_lk 72 e.1 e.2.1 e.2.2.1 e.2.2.2 ∧ mj_cok 72 e.2.1 e.2.2.1 e.2.2.2 := by
  unfold mj_tb72
  refine List.forall_mem_cons.mpr ⟨⟨(trivial), trivial⟩, ?_⟩
  refine List.forall_mem_cons.mpr ⟨⟨(mj_lkG (by decide) rfl (by decide) mj_inU5 mjf_5_11), trivial⟩, ?_⟩
  refine List.forall_mem_cons.mpr ⟨⟨(trivial), trivial⟩, ?_⟩
  refine List.forall_mem_cons.mpr ⟨⟨(trivial), trivial⟩, ?_⟩
  refine List.forall_mem_cons.mpr ⟨⟨(mj_lkG (by decide) rfl (by decide) mj_inU8 mjf_5_104), trivial⟩, ?_⟩
  refine List.forall_mem_cons.mpr ⟨⟨(show (2 : Nat) < mj_maxL 72 by decide), trivial⟩, ?_⟩
  refine List.forall_mem_cons.mpr ⟨⟨(trivial), trivial⟩, ?_⟩
  refine List.forall_mem_cons.mpr ⟨⟨(mj_lkG (by decide) rfl (by decide) mj_inU5 mjf_5_53), trivial⟩, ?_⟩
  refine List.forall_mem_cons.mpr ⟨⟨(trivial), trivial⟩, ?_⟩
  refine List.forall_mem_cons.mpr ⟨⟨(show (0 : Int) ≤ ((15 : Nat) : Int) + 28 by decide), trivial⟩, ?_⟩
  refine List.forall_mem_cons.mpr ⟨⟨(trivial), trivial⟩, ?_⟩
  refine List.forall_mem_cons.mpr ⟨⟨(trivial), trivial⟩, ?_⟩
  refine List.forall_mem_cons.mpr ⟨⟨(mj_lkP (by decide) rfl (by decide) mj_inU5 mjf_5_53 mj_TyOk5 mj_Nm5 (Or.inl rfl) rfl), trivial⟩, ?_⟩
  refine List.forall_mem_cons.mpr ⟨⟨(trivial), trivial⟩, ?_⟩
  refine List.forall_mem_cons.mpr ⟨⟨(trivial), trivial⟩, ?_⟩
  refine List.forall_mem_cons.mpr ⟨⟨(mj_lkG (by decide) rfl (by decide) mj_inU5 mjf_5_59), trivial⟩, ?_⟩
  refine List.forall_mem_cons.mpr ⟨⟨(trivial), trivial⟩, ?_⟩
  refine List.forall_mem_cons.mpr ⟨⟨(trivial), trivial⟩, ?_⟩
  refine List.forall_mem_cons.mpr ⟨⟨(mj_lkP (by decide) rfl (by decide) mj_inU5 mjf_5_59 mj_TyOk5 mj_Nm5 (Or.inl rfl) rfl), trivial⟩, ?_⟩
  refine List.forall_mem_cons.mpr ⟨⟨(trivial), trivial⟩, ?_⟩
  refine List.forall_mem_cons.mpr ⟨⟨(trivial), trivial⟩, ?_⟩
  refine List.forall_mem_cons.mpr ⟨⟨(mj_lkP (by decide) rfl (by decide) mj_inU6 mjf_5_132 mj_TyOk6 mj_Nm6 (Or.inl rfl) rfl), trivial⟩, ?_⟩
  refine List.forall_mem_cons.mpr ⟨⟨(trivial), trivial⟩, ?_⟩
  refine List.forall_mem_cons.mpr ⟨⟨(trivial), trivial⟩, ?_⟩
  refine List.forall_mem_cons.mpr ⟨⟨(mj_lkP (by decide) rfl (by decide) mj_inU6 mjf_5_135 mj_TyOk6 mj_Nm6 (Or.inl rfl) rfl), trivial⟩, ?_⟩
  refine List.forall_mem_cons.mpr ⟨⟨(trivial), trivial⟩, ?_⟩
  refine List.forall_mem_cons.mpr ⟨⟨(mj_lkG (by decide) rfl (by decide) mj_inU6 mjf_5_135), trivial⟩, ?_⟩
  refine List.forall_mem_cons.mpr ⟨⟨(show (0 : Int) ≤ ((47 : Nat) : Int) + 16 by decide), trivial⟩, ?_⟩
  refine List.forall_mem_cons.mpr ⟨⟨(trivial), trivial⟩, ?_⟩
  refine List.forall_mem_cons.mpr ⟨⟨(trivial), trivial⟩, ?_⟩
  refine List.forall_mem_cons.mpr ⟨⟨(mj_lkG (by decide) rfl (by decide) mj_inU6 mjf_5_135), trivial⟩, ?_⟩
  refine List.forall_mem_cons.mpr ⟨⟨(trivial), trivial⟩, ?_⟩
  refine List.forall_mem_cons.mpr ⟨⟨(trivial), trivial⟩, ?_⟩
  refine List.forall_mem_cons.mpr ⟨⟨(mj_lkP (by decide) rfl (by decide) mj_inU6 mjf_5_135 mj_TyOk6 mj_Nm6 (Or.inl rfl) rfl), trivial⟩, ?_⟩
  refine List.forall_mem_cons.mpr ⟨⟨(show (0 : Int) ≤ ((60 : Nat) : Int) + 16 by decide), trivial⟩, ?_⟩
  refine List.forall_mem_cons.mpr ⟨⟨(trivial), trivial⟩, ?_⟩
  refine List.forall_mem_cons.mpr ⟨⟨(trivial), mj_ckOf mjK_73 (by decide) (mj_lnkG mjl_5_138)⟩, ?_⟩
  refine List.forall_mem_cons.mpr ⟨⟨(show (0 : Int) ≤ ((67 : Nat) : Int) + 9 by decide), trivial⟩, ?_⟩
  refine List.forall_mem_cons.mpr ⟨⟨(trivial), trivial⟩, ?_⟩
  refine List.forall_mem_cons.mpr ⟨⟨(trivial), trivial⟩, ?_⟩
  refine List.forall_mem_cons.mpr ⟨⟨(trivial), trivial⟩, ?_⟩
  refine List.forall_mem_cons.mpr ⟨⟨(trivial), mj_ckOf mjK_74 (by decide) (mj_lnkG mjl_5_142)⟩, ?_⟩
  refine List.forall_mem_cons.mpr ⟨⟨(trivial), trivial⟩, ?_⟩
  exact fun _ h => absurd h List.not_mem_nil
theorem mjd_72 : mj_ckd 72 = true := by decide +kernel
theorem mjg_72 : mj_good 72 := mj_goodOf (fun _ => ⟨mj_G, rfl⟩) (by decide +kernel) mjd_72 mje_72
theorem mje_73 : ∀ e ∈ mj_tb73, mj_lk 73 e.1 e.2.1 e.2.2.1 e.2.2.2 ∧ mj_cok 73 e.2.1 e.2.2.1 e.2.2.2 := by
  unfold mj_tb73
  refine List.forall_mem_cons.mpr ⟨⟨(trivial), trivial⟩, ?_⟩
  refine List.forall_mem_cons.mpr ⟨⟨(trivial), trivial⟩, ?_⟩
  refine List.forall_mem_cons.mpr ⟨⟨(mj_lkG (by decide) rfl (by decide) mj_inU6 mjf_6_62), trivial⟩, ?_⟩
  refine List.forall_mem_cons.mpr ⟨⟨(trivial), trivial⟩, ?_⟩
  refine List.forall_mem_cons.mpr ⟨⟨(trivial), trivial⟩, ?_⟩
  refine List.forall_mem_cons.mpr ⟨⟨(mj_lkP (by decide) rfl (by decide) mj_inU6 mjf_6_62 mj_TyOk6 mj_Nm6 (Or.inl rfl) rfl), trivial⟩, ?_⟩
  refine List.forall_mem_cons.mpr ⟨⟨(trivial), trivial⟩, ?_⟩
  refine List.forall_mem_cons.mpr ⟨⟨(mj_lkG (by decide) rfl (by decide) mj_inU6 mjf_6_62), trivial⟩, ?_⟩
  refine List.forall_mem_cons.mpr ⟨⟨(⟨⟨by decide, by decide⟩, Or.inr ⟨"CeilingKernel", by decide +kernel⟩⟩), trivial⟩, ?_⟩
  refine List.forall_mem_cons.mpr ⟨⟨(trivial), trivial⟩, ?_⟩
  refine List.forall_mem_cons.mpr ⟨⟨(mj_lkG (by decide) rfl (by decide) mj_inU6 mjf_6_26), trivial⟩, ?_⟩
  refine List.forall_mem_cons.mpr ⟨⟨(trivial), trivial⟩, ?_⟩
  refine List.forall_mem_cons.mpr ⟨⟨(mj_lkG (by decide) rfl (by decide) mj_inU6 mjf_6_56), trivial⟩, ?_⟩
  refine List.forall_mem_cons.mpr ⟨⟨(trivial), trivial⟩, ?_⟩
  refine List.forall_mem_cons.mpr ⟨⟨(mj_lkG (by decide) rfl (by decide) mj_inU4 mjf_6_74), trivial⟩, ?_⟩
  refine List.forall_mem_cons.mpr ⟨⟨(trivial), trivial⟩, ?_⟩
  refine List.forall_mem_cons.mpr ⟨⟨(mj_lkG (by decide) rfl (by decide) mj_inU6 mjf_6_59), trivial⟩, ?_⟩
  refine List.forall_mem_cons.mpr ⟨⟨(trivial), trivial⟩, ?_⟩
  refine List.forall_mem_cons.mpr ⟨⟨(trivial), trivial⟩, ?_⟩
  refine List.forall_mem_cons.mpr ⟨⟨(show (0 : Int) ≤ ((35 : Nat) : Int) + 7 by decide), trivial⟩, ?_⟩
  refine List.forall_mem_cons.mpr ⟨⟨(trivial), trivial⟩, ?_⟩
  refine List.forall_mem_cons.mpr ⟨⟨(show (0 : Int) ≤ ((39 : Nat) : Int) + 4 by decide), trivial⟩, ?_⟩
  refine List.forall_mem_cons.mpr ⟨⟨(trivial), trivial⟩, ?_⟩
  refine List.forall_mem_cons.mpr ⟨⟨(trivial), trivial⟩, ?_⟩
  exact fun _ h => absurd h List.not_mem_nil
theorem mjd_73 : mj_ckd 73 = true := by decide +kernel
theorem mjg_73 : mj_good 73 := mj_goodOf (fun _ => ⟨mj_G, rfl⟩) (by decide +kernel) mjd_73 mje_73
theorem mje_74 : ∀ e ∈ mj_tb74, mj_lk 74 e.1 e.2.1 e.2.2.1 e.2.2.2 ∧ mj_cok 74 e.2.1 e.2.2.1 e.2.2.2 := by
  unfold mj_tb74
  refine List.forall_mem_cons.mpr ⟨⟨(trivial), trivial⟩, ?_⟩
  refine List.forall_mem_cons.mpr ⟨⟨(trivial), trivial⟩, ?_⟩
  refine List.forall_mem_cons.mpr ⟨⟨(trivial), trivial⟩, ?_⟩
  refine List.forall_mem_cons.mpr ⟨⟨(trivial), mj_ckOf mjK_75 (by decide) (mj_lnkG mjl_5_145)⟩, ?_⟩
  refine List.forall_mem_cons.mpr ⟨⟨(trivial), trivial⟩, ?_⟩
  refine List.forall_mem_cons.mpr ⟨⟨(mj_lkG (by decide) rfl (by decide) mj_inU6 mjf_5_148), trivial⟩, ?_⟩
  refine List.forall_mem_cons.mpr ⟨⟨(show (0 : Int) ≤ ((10 : Nat) : Int) + 12 by decide), trivial⟩, ?_⟩
  refine List.forall_mem_cons.mpr ⟨⟨(trivial), trivial⟩, ?_⟩
  refine List.forall_mem_cons.mpr ⟨⟨(trivial), trivial⟩, ?_⟩
  refine List.forall_mem_cons.mpr ⟨⟨(trivial), trivial⟩, ?_⟩
  refine List.forall_mem_cons.mpr ⟨⟨(trivial), mj_ckOf mjK_89 (by decide) (mj_lnkG mjl_5_151)⟩, ?_⟩
  refine List.forall_mem_cons.mpr ⟨⟨(show (0 : Int) ≤ ((19 : Nat) : Int) + 16 by decide), trivial⟩, ?_⟩
  refine List.forall_mem_cons.mpr ⟨⟨(trivial), trivial⟩, ?_⟩
  refine List.forall_mem_cons.mpr ⟨⟨(trivial), mj_ckOf mjK_90 (by decide) (mj_lnkG mjl_5_154)⟩, ?_⟩
  refine List.forall_mem_cons.mpr ⟨⟨(show (0 : Int) ≤ ((26 : Nat) : Int) + 9 by decide), trivial⟩, ?_⟩
  refine List.forall_mem_cons.mpr ⟨⟨(trivial), trivial⟩, ?_⟩
  refine List.forall_mem_cons.mpr ⟨⟨(trivial), trivial⟩, ?_⟩
  refine List.forall_mem_cons.mpr ⟨⟨(trivial), trivial⟩, ?_⟩
  refine List.forall_mem_cons.mpr ⟨⟨(trivial), mj_ckOf mjK_89 (by decide) (mj_lnkG mjl_5_151)⟩, ?_⟩
  refine List.forall_mem_cons.mpr ⟨⟨(trivial), trivial⟩, ?_⟩
  exact fun _ h => absurd h List.not_mem_nil
theorem mjd_74 : mj_ckd 74 = true := by decide +kernel
theorem mjg_74 : mj_good 74 := mj_goodOf (fun _ => ⟨mj_G, rfl⟩) (by decide +kernel) mjd_74 mje_74
theorem mje_75 : ∀ e ∈ mj_tb75, mj_lk 75 e.1 e.2.1 e.2.2.1 e.2.2.2 ∧ mj_cok 75 e.2.1 e.2.2.1 e.2.2.2 := by
  unfold mj_tb75
  refine List.forall_mem_cons.mpr ⟨⟨(trivial), trivial⟩, ?_⟩
  refine List.forall_mem_cons.mpr ⟨⟨(trivial), mj_ckOf mjK_76 (by decide) (mj_lnkG mjl_5_157)⟩, ?_⟩
  refine List.forall_mem_cons.mpr ⟨⟨(show (3 : Nat) < mj_maxL 75 by decide), trivial⟩, ?_⟩
  refine List.forall_mem_cons.mpr ⟨⟨(trivial), trivial⟩, ?_⟩
  refine List.forall_mem_cons.mpr ⟨⟨(trivial), mj_ckOf mjK_77 (by decide) (mj_lnkG mjl_5_161)⟩, ?_⟩
  refine List.forall_mem_cons.mpr ⟨⟨(show (4 : Nat) < mj_maxL 75 by decide), trivial⟩, ?_⟩
  refine List.forall_mem_cons.mpr ⟨⟨(trivial), trivial⟩, ?_⟩
  refine List.forall_mem_cons.mpr ⟨⟨(mj_lkG (by decide) rfl (by decide) mj_inU4 mjf_5_164), trivial⟩, ?_⟩
  refine List.forall_mem_cons.mpr ⟨⟨(trivial), trivial⟩, ?_⟩
  refine List.forall_mem_cons.mpr ⟨⟨(trivial), trivial⟩, ?_⟩
  refine List.forall_mem_cons.mpr ⟨⟨(show (5 : Nat) < mj_maxL 75 by decide), trivial⟩, ?_⟩
  refine List.forall_mem_cons.mpr ⟨⟨(trivial), trivial⟩, ?_⟩
  refine List.forall_mem_cons.mpr ⟨⟨(mj_lkG (by decide) rfl (by decide) mj_inU4 mjf_5_169), trivial⟩, ?_⟩
  refine List.forall_mem_cons.mpr ⟨⟨(trivial), trivial⟩, ?_⟩
  refine List.forall_mem_cons.mpr ⟨⟨(trivial), trivial⟩, ?_⟩
  refine List.forall_mem_cons.mpr ⟨⟨(show (6 : Nat) < mj_maxL 75 by decide), trivial⟩, ?_⟩
  refine List.forall_mem_cons.mpr ⟨⟨(trivial), trivial⟩, ?_⟩
  refine List.forall_mem_cons.mpr ⟨⟨(trivial), mj_ckOf mjK_78 (by decide) (mj_lnkG mjl_5_172)⟩, ?_⟩
  refine List.forall_mem_cons.mpr ⟨⟨(trivial), trivial⟩, ?_⟩
  refine List.forall_mem_cons.mpr ⟨⟨(mj_lkG (by decide) rfl (by decide) mj_inU4 mjf_5_175), trivial⟩, ?_⟩
  refine List.forall_mem_cons.mpr ⟨⟨(trivial), trivial⟩, ?_⟩
  refine List.forall_mem_cons.mpr ⟨⟨(trivial), trivial⟩, ?_⟩
  refine List.forall_mem_cons.mpr ⟨⟨(show (0 : Int) ≤ ((40 : Nat) : Int) + 243 ∧ ∀ off ∈ (#[64, 86, 243, 243, 243, 108, 126, 243, 150, 167, 190, 224] : Array Int).toList, (0 : Int) ≤ ((40 : Nat) : Int) + off by decide), trivial⟩, ?_⟩
  refine List.forall_mem_cons.mpr ⟨⟨(trivial), trivial⟩, ?_⟩
  refine List.forall_mem_cons.mpr ⟨⟨(mj_lkG (by decide) rfl (by decide) mj_inU6 mjf_5_178), trivial⟩, ?_⟩
  refine List.forall_mem_cons.mpr ⟨⟨(trivial), trivial⟩, ?_⟩
  refine List.forall_mem_cons.mpr ⟨⟨(trivial), trivial⟩, ?_⟩
  refine List.forall_mem_cons.mpr ⟨⟨(mj_lkG (by decide) rfl (by decide) mj_inU5 mjf_5_11), trivial⟩, ?_⟩
  refine List.forall_mem_cons.mpr ⟨⟨(trivial), trivial⟩, ?_⟩
  refine List.forall_mem_cons.mpr ⟨⟨(trivial), trivial⟩, ?_⟩
  refine List.forall_mem_cons.mpr ⟨⟨(mj_lkG (by decide) rfl (by decide) mj_inU8 mjf_5_181), trivial⟩, ?_⟩
  refine List.forall_mem_cons.mpr ⟨⟨(trivial), trivial⟩, ?_⟩
  refine List.forall_mem_cons.mpr ⟨⟨(trivial), trivial⟩, ?_⟩
  refine List.forall_mem_cons.mpr ⟨⟨(trivial), trivial⟩, ?_⟩
  refine List.forall_mem_cons.mpr ⟨⟨(show (0 : Int) ≤ ((123 : Nat) : Int) + 177 by decide), trivial⟩, ?_⟩
  refine List.forall_mem_cons.mpr ⟨⟨(trivial), trivial⟩, ?_⟩
  refine List.forall_mem_cons.mpr ⟨⟨(mj_lkG (by decide) rfl (by decide) mj_inU5 mjf_5_11), trivial⟩, ?_⟩
  refine List.forall_mem_cons.mpr ⟨⟨(trivial), trivial⟩, ?_⟩
  refine List.forall_mem_cons.mpr ⟨⟨(trivial), trivial⟩, ?_⟩
  refine List.forall_mem_cons.mpr ⟨⟨(mj_lkG (by decide) rfl (by decide) mj_inU8 mjf_5_181), trivial⟩, ?_⟩
  refine List.forall_mem_cons.mpr ⟨⟨(trivial), trivial⟩, ?_⟩
  refine List.forall_mem_cons.mpr ⟨⟨(trivial), trivial⟩, ?_⟩
  refine List.forall_mem_cons.mpr ⟨⟨(mj_lkG (by decide) rfl (by decide) mj_inU6 mjf_5_178), trivial⟩, ?_⟩
  refine List.forall_mem_cons.mpr ⟨⟨(trivial), trivial⟩, ?_⟩
  refine List.forall_mem_cons.mpr ⟨⟨(trivial), trivial⟩, ?_⟩
  refine List.forall_mem_cons.mpr ⟨⟨(trivial), trivial⟩, ?_⟩
  refine List.forall_mem_cons.mpr ⟨⟨(show (0 : Int) ≤ ((145 : Nat) : Int) + 155 by decide), trivial⟩, ?_⟩
  refine List.forall_mem_cons.mpr ⟨⟨(trivial), trivial⟩, ?_⟩
  refine List.forall_mem_cons.mpr ⟨⟨(trivial), trivial⟩, ?_⟩
  refine List.forall_mem_cons.mpr ⟨⟨(trivial), trivial⟩, ?_⟩
  refine List.forall_mem_cons.mpr ⟨⟨(trivial), trivial⟩, ?_⟩
  refine List.forall_mem_cons.mpr ⟨⟨(mj_lkG (by decide) rfl (by decide) mj_inU6 mjf_5_184), trivial⟩, ?_⟩
  refine List.forall_mem_cons.mpr ⟨⟨(trivial), trivial⟩, ?_⟩
  refine List.forall_mem_cons.mpr ⟨⟨(trivial), trivial⟩, ?_⟩
  refine List.forall_mem_cons.mpr ⟨⟨(trivial), trivial⟩, ?_⟩
  refine List.forall_mem_cons.mpr ⟨⟨(trivial), trivial⟩, ?_⟩
  refine List.forall_mem_cons.mpr ⟨⟨(trivial), mj_ckOf mjK_79 (by decide) (mj_lnkG mjl_5_187)⟩, ?_⟩
  refine List.forall_mem_cons.mpr ⟨⟨(show (0 : Int) ≤ ((163 : Nat) : Int) + 137 by decide), trivial⟩, ?_⟩
  refine List.forall_mem_cons.mpr ⟨⟨(trivial), trivial⟩, ?_⟩
  refine List.forall_mem_cons.mpr ⟨⟨(trivial), trivial⟩, ?_⟩
  refine List.forall_mem_cons.mpr ⟨⟨(trivial), trivial⟩, ?_⟩
  refine List.forall_mem_cons.mpr ⟨⟨(trivial), trivial⟩, ?_⟩
  refine List.forall_mem_cons.mpr ⟨⟨(mj_lkG (by decide) rfl (by decide) mj_inU6 mjf_5_184), trivial⟩, ?_⟩
  refine List.forall_mem_cons.mpr ⟨⟨(trivial), trivial⟩, ?_⟩
  refine List.forall_mem_cons.mpr ⟨⟨(trivial), trivial⟩, ?_⟩
  refine List.forall_mem_cons.mpr ⟨⟨(trivial), trivial⟩, ?_⟩
  refine List.forall_mem_cons.mpr ⟨⟨(trivial), mj_ckOf mjK_31 (by decide) (mj_lnkG mjl_5_191)⟩, ?_⟩
  refine List.forall_mem_cons.mpr ⟨⟨(trivial), trivial⟩, ?_⟩
  refine List.forall_mem_cons.mpr ⟨⟨(trivial), trivial⟩, ?_⟩
  refine List.forall_mem_cons.mpr ⟨⟨(trivial), trivial⟩, ?_⟩
  refine List.forall_mem_cons.mpr ⟨⟨(trivial), trivial⟩, ?_⟩
  refine List.forall_mem_cons.mpr ⟨⟨(trivial), mj_ckOf mjK_79 (by decide) (mj_lnkG mjl_5_187)⟩, ?_⟩
  refine List.forall_mem_cons.mpr ⟨⟨(show (0 : Int) ≤ ((187 : Nat) : Int) + 113 by decide), trivial⟩, ?_⟩
  refine List.forall_mem_cons.mpr ⟨⟨(trivial), trivial⟩, ?_⟩
  refine List.forall_mem_cons.mpr ⟨⟨(mj_lkG (by decide) rfl (by decide) mj_inU6 mjf_5_178), trivial⟩, ?_⟩
  refine List.forall_mem_cons.mpr ⟨⟨(trivial), trivial⟩, ?_⟩
  refine List.forall_mem_cons.mpr ⟨⟨(trivial), trivial⟩, ?_⟩
  refine List.forall_mem_cons.mpr ⟨⟨(mj_lkG (by decide) rfl (by decide) mj_inU5 mjf_5_17), trivial⟩, ?_⟩
  refine List.forall_mem_cons.mpr ⟨⟨(trivial), trivial⟩, ?_⟩
  refine List.forall_mem_cons.mpr ⟨⟨(trivial), trivial⟩, ?_⟩
  refine List.forall_mem_cons.mpr ⟨⟨(trivial), trivial⟩, ?_⟩
  refine List.forall_mem_cons.mpr ⟨⟨(show (0 : Int) ≤ ((204 : Nat) : Int) + 96 by decide), trivial⟩, ?_⟩
  refine List.forall_mem_cons.mpr ⟨⟨(trivial), trivial⟩, ?_⟩
  refine List.forall_mem_cons.mpr ⟨⟨(mj_lkG (by decide) rfl (by decide) mj_inU5 mjf_5_24), trivial⟩, ?_⟩
  refine List.forall_mem_cons.mpr ⟨⟨(trivial), trivial⟩, ?_⟩
  refine List.forall_mem_cons.mpr ⟨⟨(trivial), trivial⟩, ?_⟩
  refine List.forall_mem_cons.mpr ⟨⟨(trivial), trivial⟩, ?_⟩
  refine List.forall_mem_cons.mpr ⟨⟨(mj_lkG (by decide) rfl (by decide) mj_inU5 mjf_5_50), trivial⟩, ?_⟩
  refine List.forall_mem_cons.mpr ⟨⟨(trivial), trivial⟩, ?_⟩
  refine List.forall_mem_cons.mpr ⟨⟨(mj_lkG (by decide) rfl (by decide) mj_inU6 mjf_5_178), trivial⟩, ?_⟩
  refine List.forall_mem_cons.mpr ⟨⟨(trivial), trivial⟩, ?_⟩
  refine List.forall_mem_cons.mpr ⟨⟨(trivial), trivial⟩, ?_⟩
  refine List.forall_mem_cons.mpr ⟨⟨(trivial), mj_ckOf mjK_68 (by decide) (mj_lnkG mjl_5_120)⟩, ?_⟩
  refine List.forall_mem_cons.mpr ⟨⟨(show (0 : Int) ≤ ((227 : Nat) : Int) + 73 by decide), trivial⟩, ?_⟩
  refine List.forall_mem_cons.mpr ⟨⟨(trivial), trivial⟩, ?_⟩
  refine List.forall_mem_cons.mpr ⟨⟨(mj_lkG (by decide) rfl (by decide) mj_inU6 mjf_5_178), trivial⟩, ?_⟩
  refine List.forall_mem_cons.mpr ⟨⟨(trivial), trivial⟩, ?_⟩
  refine List.forall_mem_cons.mpr ⟨⟨(trivial), trivial⟩, ?_⟩
  refine List.forall_mem_cons.mpr ⟨⟨(mj_lkG (by decide) rfl (by decide) mj_inU5 mjf_5_30), trivial⟩, ?_⟩
  refine List.forall_mem_cons.mpr ⟨⟨(trivial), trivial⟩, ?_⟩
  refine List.forall_mem_cons.mpr ⟨⟨(trivial), trivial⟩, ?_⟩
  refine List.forall_mem_cons.mpr ⟨⟨(trivial), trivial⟩, ?_⟩
  refine List.forall_mem_cons.mpr ⟨⟨(mj_lkG (by decide) rfl (by decide) mj_inU6 mjf_5_178), trivial⟩, ?_⟩
  refine List.forall_mem_cons.mpr ⟨⟨(trivial), trivial⟩, ?_⟩
  refine List.forall_mem_cons.mpr ⟨⟨(trivial), trivial⟩, ?_⟩
  refine List.forall_mem_cons.mpr ⟨⟨(trivial), mj_ckOf mjK_81 (by decide) (mj_lnkG mjl_5_195)⟩, ?_⟩
  refine List.forall_mem_cons.mpr ⟨⟨(show (0 : Int) ≤ ((252 : Nat) : Int) + 7 by decide), trivial⟩, ?_⟩
  refine List.forall_mem_cons.mpr ⟨⟨(trivial), trivial⟩, ?_⟩
  refine List.forall_mem_cons.mpr ⟨⟨(show (0 : Int) ≤ ((256 : Nat) : Int) + 4 by decide), trivial⟩, ?_⟩
  refine List.forall_mem_cons.mpr ⟨⟨(trivial), trivial⟩, ?_⟩
  refine List.forall_mem_cons.mpr ⟨⟨(trivial), trivial⟩, ?_⟩
  refine List.forall_mem_cons.mpr ⟨⟨(show (0 : Int) ≤ ((261 : Nat) : Int) + 39 by decide), trivial⟩, ?_⟩
  refine List.forall_mem_cons.mpr ⟨⟨(trivial), trivial⟩, ?_⟩
  refine List.forall_mem_cons.mpr ⟨⟨(mj_lkG (by decide) rfl (by decide) mj_inU5 mjf_5_30), trivial⟩, ?_⟩
  refine List.forall_mem_cons.mpr ⟨⟨(trivial), trivial⟩, ?_⟩
  refine List.forall_mem_cons.mpr ⟨⟨(trivial), trivial⟩, ?_⟩
  refine List.forall_mem_cons.mpr ⟨⟨(trivial), trivial⟩, ?_⟩
  refine List.forall_mem_cons.mpr ⟨⟨(mj_lkG (by decide) rfl (by decide) mj_inU6 mjf_5_178), trivial⟩, ?_⟩
  refine List.forall_mem_cons.mpr ⟨⟨(trivial), trivial⟩, ?_⟩
  refine List.forall_mem_cons.mpr ⟨⟨(trivial), mj_ckOf mjK_82 (by decide) (mj_lnkG mjl_5_198)⟩, ?_⟩
  refine List.forall_mem_cons.mpr ⟨⟨(show (0 : Int) ≤ ((280 : Nat) : Int) + 20 by decide), trivial⟩, ?_⟩
  refine List.forall_mem_cons.mpr ⟨⟨(trivial), trivial⟩, ?_⟩
  refine List.forall_mem_cons.mpr ⟨⟨(trivial), trivial⟩, ?_⟩
  refine List.forall_mem_cons.mpr ⟨⟨(mj_lkG (by decide) rfl (by decide) mj_inU4 mjf_5_175), trivial⟩, ?_⟩
  refine List.forall_mem_cons.mpr ⟨⟨(trivial), trivial⟩, ?_⟩
  refine List.forall_mem_cons.mpr ⟨⟨(trivial), trivial⟩, ?_⟩
  refine List.forall_mem_cons.mpr ⟨⟨(trivial), trivial⟩, ?_⟩
  refine List.forall_mem_cons.mpr ⟨⟨(trivial), trivial⟩, ?_⟩
  refine List.forall_mem_cons.mpr ⟨⟨(trivial), trivial⟩, ?_⟩
  refine List.forall_mem_cons.mpr ⟨⟨(trivial), mj_ckOf mjK_85 (by decide) (mj_lnkG mjl_5_202)⟩, ?_⟩
  refine List.forall_mem_cons.mpr ⟨⟨(trivial), trivial⟩, ?_⟩
  exact fun _ h => absurd h List.not_mem_nil
theorem mjd_75 : mj_ckd 75 = true := by decide +kernel
theorem mjg_75 : mj_good 75 := mj_goodOf (fun _ => ⟨mj_G, rfl⟩) (by decide +kernel) mjd_75 mje_75
theorem mje_76 : ∀ e ∈ mj_tb76, mj_lk 76 e.1 e.2.1 e.2.2.1 e.2.2.2 ∧ mj_cok 76 e.2.1 e.2.2.1 e.2.2.2 := by
  unfold mj_tb76
  refine List.forall_mem_cons.mpr ⟨⟨(trivial), trivial⟩, ?_⟩
  refine List.forall_mem_cons.mpr ⟨⟨(mj_lkG (by decide) rfl (by decide) mj_inU6 mjf_6_26), trivial⟩, ?_⟩
  refine List.forall_mem_cons.mpr ⟨⟨(trivial), trivial⟩, ?_⟩
  refine List.forall_mem_cons.mpr ⟨⟨(mj_lkG (by decide) rfl (by decide) mj_inU6 mjf_6_56), trivial⟩, ?_⟩
  refine List.forall_mem_cons.mpr ⟨⟨(trivial), trivial⟩, ?_⟩
  refine List.forall_mem_cons.mpr ⟨⟨(trivial), trivial⟩, ?_⟩
  exact fun _ h => absurd h List.not_mem_nil
theorem mjd_76 : mj_ckd 76 = true := by decide +kernel
theorem mjg_76 : mj_good 76 := mj_goodOf (fun _ => ⟨mj_G, rfl⟩) (by decide +kernel) mjd_76 mje_76
theorem mje_77 : ∀ e ∈ mj_tb77, mj_lk 77 e.1 e.2.1 e.2.2.1 e.2.2.2 ∧ mj_cok 77 e.2.1 e.2.2.1 e.2.2.2 := by
  unfold mj_tb77
  refine List.forall_mem_cons.mpr ⟨⟨(trivial), trivial⟩, ?_⟩
  refine List.forall_mem_cons.mpr ⟨⟨(mj_lkG (by decide) rfl (by decide) mj_inU6 mjf_6_59), trivial⟩, ?_⟩
  refine List.forall_mem_cons.mpr ⟨⟨(trivial), trivial⟩, ?_⟩
  exact fun _ h => absurd h List.not_mem_nil
theorem mjd_77 : mj_ckd 77 = true := by decide +kernel
theorem mjg_77 : mj_good 77 := mj_goodOf (fun _ => ⟨mj_G, rfl⟩) (by decide +kernel) mjd_77 mje_77
theorem mje_78 : ∀ e ∈ mj_tb78, mj_lk 78 e.1 e.2.1 e.2.2.1 e.2.2.2 ∧ mj_cok 78 e.2.1 e.2.2.1 e.2.2.2 := by
  unfold mj_tb78
  refine List.forall_mem_cons.mpr ⟨⟨(trivial), trivial⟩, ?_⟩
  refine List.forall_mem_cons.mpr ⟨⟨(trivial), trivial⟩, ?_⟩
  refine List.forall_mem_cons.mpr ⟨⟨(mj_lkP (by decide) rfl (by decide) mj_inU6 mjf_6_62 mj_TyOk6 mj_Nm6 (Or.inl rfl) rfl), trivial⟩, ?_⟩
  refine List.forall_mem_cons.mpr ⟨⟨(trivial), trivial⟩, ?_⟩
  refine List.forall_mem_cons.mpr ⟨⟨(trivial), trivial⟩, ?_⟩
  refine List.forall_mem_cons.mpr ⟨⟨(mj_lkG (by decide) rfl (by decide) mj_inU6 mjf_6_50), trivial⟩, ?_⟩
  refine List.forall_mem_cons.mpr ⟨⟨(trivial), trivial⟩, ?_⟩
  refine List.forall_mem_cons.mpr ⟨⟨(trivial), trivial⟩, ?_⟩
  refine List.forall_mem_cons.mpr ⟨⟨(mj_lkP (by decide) rfl (by decide) mj_inU6 mjf_6_50 mj_TyOk6 mj_Nm6 (Or.inl rfl) rfl), trivial⟩, ?_⟩
  refine List.forall_mem_cons.mpr ⟨⟨(trivial), trivial⟩, ?_⟩
  refine List.forall_mem_cons.mpr ⟨⟨(trivial), trivial⟩, ?_⟩
  refine List.forall_mem_cons.mpr ⟨⟨(mj_lkG (by decide) rfl (by decide) mj_inU6 mjf_6_59), trivial⟩, ?_⟩
  refine List.forall_mem_cons.mpr ⟨⟨(trivial), trivial⟩, ?_⟩
  refine List.forall_mem_cons.mpr ⟨⟨(trivial), trivial⟩, ?_⟩
  refine List.forall_mem_cons.mpr ⟨⟨(mj_lkP (by decide) rfl (by decide) mj_inU6 mjf_6_59 mj_TyOk6 mj_Nm6 (Or.inl rfl) rfl), trivial⟩, ?_⟩
  refine List.forall_mem_cons.mpr ⟨⟨(trivial), trivial⟩, ?_⟩
  exact fun _ h => absurd h List.not_mem_nil
theorem mjd_78 : mj_ckd 78 = true := by decide +kernel
theorem mjg_78 : mj_good 78 := mj_goodOf (fun _ => ⟨mj_G, rfl⟩) (by decide +kernel) mjd_78 mje_78
theorem mje_79 : ∀ e ∈ mj_tb79, mj_lk 79 e.1 e.2.1 e.2.2.1 e.2.2.2 ∧ mj_cok 79 e.2.1 e.2.2.1 e.2.2.2 := by
  unfold mj_tb79
  refine List.forall_mem_cons.mpr ⟨⟨(trivial), trivial⟩, ?_⟩
  refine List.forall_mem_cons.mpr ⟨⟨(trivial), trivial⟩, ?_⟩
  refine List.forall_mem_cons.mpr ⟨⟨(mj_lkP (by decide) rfl (by decide) mj_inU6 mjf_5_184 mj_TyOk6 mj_Nm6 (Or.inl rfl) rfl), trivial⟩, ?_⟩
  refine List.forall_mem_cons.mpr ⟨⟨(trivial), trivial⟩, ?_⟩
  refine List.forall_mem_cons.mpr ⟨⟨(trivial), trivial⟩, ?_⟩
  refine List.forall_mem_cons.mpr ⟨⟨(mj_lkG (by decide) rfl (by decide) mj_inU5 mjf_5_34), trivial⟩, ?_⟩
  refine List.forall_mem_cons.mpr ⟨⟨(trivial), trivial⟩, ?_⟩
  refine List.forall_mem_cons.mpr ⟨⟨(trivial), trivial⟩, ?_⟩
  refine List.forall_mem_cons.mpr ⟨⟨(trivial), mj_ckOf mjK_80 (by decide) (mj_lnkG mjl_5_205)⟩, ?_⟩
  refine List.forall_mem_cons.mpr ⟨⟨(mj_lkP (by decide) rfl (by decide) mj_inU6 mjf_5_211 mj_TyOk6 mj_Nm6 (Or.inl rfl) rfl), trivial⟩, ?_⟩
  refine List.forall_mem_cons.mpr ⟨⟨(trivial), trivial⟩, ?_⟩
  exact fun _ h => absurd h List.not_mem_nil
theorem mjd_79 : mj_ckd 79 = true := by decide +kernel
theorem mjg_79 : mj_good 79 := mj_goodOf (fun _ => ⟨mj_G, rfl⟩) (by decide +kernel) mjd_79 mje_79
theorem mje_80 : ∀ e ∈ mj_tb80, mj_lk 80 e.1 e.2.1 e.2.2.1 e.2.2.2 ∧ mj_cok 80 e.2.1 e.2.2.1 e.2.2.2 := by
  unfold mj_tb80
  refine List.forall_mem_cons.mpr ⟨⟨(trivial), trivial⟩, ?_⟩
  refine List.forall_mem_cons.mpr ⟨⟨(show (3 : Nat) < mj_maxL 80 by decide), trivial⟩, ?_⟩
  refine List.forall_mem_cons.mpr ⟨⟨(trivial), trivial⟩, ?_⟩
  refine List.forall_mem_cons.mpr ⟨⟨(show (4 : Nat) < mj_maxL 80 by decide), trivial⟩, ?_⟩
  refine List.forall_mem_cons.mpr ⟨⟨(trivial), trivial⟩, ?_⟩
  refine List.forall_mem_cons.mpr ⟨⟨(trivial), trivial⟩, ?_⟩
  refine List.forall_mem_cons.mpr ⟨⟨(show (0 : Int) ≤ ((8 : Nat) : Int) + 41 by decide), trivial⟩, ?_⟩
  refine List.forall_mem_cons.mpr ⟨⟨(trivial), trivial⟩, ?_⟩
  refine List.forall_mem_cons.mpr ⟨⟨(trivial), trivial⟩, ?_⟩
  refine List.forall_mem_cons.mpr ⟨⟨(trivial), trivial⟩, ?_⟩
  refine List.forall_mem_cons.mpr ⟨⟨(trivial), trivial⟩, ?_⟩
  refine List.forall_mem_cons.mpr ⟨⟨(trivial), trivial⟩, ?_⟩
  refine List.forall_mem_cons.mpr ⟨⟨(show (0 : Int) ≤ ((17 : Nat) : Int) + 26 by decide), trivial⟩, ?_⟩
  refine List.forall_mem_cons.mpr ⟨⟨(trivial), trivial⟩, ?_⟩
  refine List.forall_mem_cons.mpr ⟨⟨(mj_lkG (by decide) rfl (by decide) mj_inU2 mjf_2_26), trivial⟩, ?_⟩
  refine List.forall_mem_cons.mpr ⟨⟨(trivial), trivial⟩, ?_⟩
  refine List.forall_mem_cons.mpr ⟨⟨(trivial), trivial⟩, ?_⟩
  refine List.forall_mem_cons.mpr ⟨⟨(trivial), trivial⟩, ?_⟩
  refine List.forall_mem_cons.mpr ⟨⟨(show (0 : Int) ≤ ((28 : Nat) : Int) + 15 by decide), trivial⟩, ?_⟩
  refine List.forall_mem_cons.mpr ⟨⟨(trivial), trivial⟩, ?_⟩
  refine List.forall_mem_cons.mpr ⟨⟨(trivial), trivial⟩, ?_⟩
  refine List.forall_mem_cons.mpr ⟨⟨(mj_lkG (by decide) rfl (by decide) mj_inU2 mjf_2_26), trivial⟩, ?_⟩
  refine List.forall_mem_cons.mpr ⟨⟨(trivial), trivial⟩, ?_⟩
  refine List.forall_mem_cons.mpr ⟨⟨(trivial), trivial⟩, ?_⟩
  refine List.forall_mem_cons.mpr ⟨⟨(trivial), ⟨mj_Gws (mj_Gin 649 (by decide +kernel) rfl), mj_Gws (mj_Gin 650 (by decide +kernel) rfl), mj_Gws (mj_Gin 13 (by decide +kernel) rfl), mj_Gws (mj_Gin 651 (by decide +kernel) rfl), by decide, by decide⟩⟩, ?_⟩
  refine List.forall_mem_cons.mpr ⟨⟨(show (3 : Nat) < mj_maxL 80 by decide), trivial⟩, ?_⟩
  refine List.forall_mem_cons.mpr ⟨⟨(show (4 : Nat) < mj_maxL 80 by decide), trivial⟩, ?_⟩
  refine List.forall_mem_cons.mpr ⟨⟨(show (0 : Int) ≤ ((46 : Nat) : Int) + (-41) by decide), trivial⟩, ?_⟩
  refine List.forall_mem_cons.mpr ⟨⟨(trivial), trivial⟩, ?_⟩
  refine List.forall_mem_cons.mpr ⟨⟨(trivial), trivial⟩, ?_⟩
  exact fun _ h => absurd h List.not_mem_nil
theorem mjd_80 : mj_ckd 80 = true := by decide +kernel
theorem mjg_80 : mj_good 80 := mj_goodOf (fun _ => ⟨mj_G, rfl⟩) (by decide +kernel) mjd_80 mje_80
theorem mje_81 : ∀ e ∈ mj_tb81, mj_lk 81 e.1 e.2.1 e.2.2.1 e.2.2.2 ∧ mj_cok 81 e.2.1 e.2.2.1 e.2.2.2 := by
  unfold mj_tb81
  refine List.forall_mem_cons.mpr ⟨⟨(trivial), trivial⟩, ?_⟩
  refine List.forall_mem_cons.mpr ⟨⟨(mj_lkG (by decide) rfl (by decide) mj_inU9 mjf_9_15), trivial⟩, ?_⟩
  refine List.forall_mem_cons.mpr ⟨⟨(trivial), trivial⟩, ?_⟩
  refine List.forall_mem_cons.mpr ⟨⟨(show (0 : Int) ≤ ((5 : Nat) : Int) + 5 by decide), trivial⟩, ?_⟩
  refine List.forall_mem_cons.mpr ⟨⟨(trivial), trivial⟩, ?_⟩
  refine List.forall_mem_cons.mpr ⟨⟨(trivial), trivial⟩, ?_⟩
  refine List.forall_mem_cons.mpr ⟨⟨(trivial), trivial⟩, ?_⟩
  refine List.forall_mem_cons.mpr ⟨⟨(mj_lkG (by decide) rfl (by decide) mj_inU9 mjf_9_9), trivial⟩, ?_⟩
  refine List.forall_mem_cons.mpr ⟨⟨(trivial), trivial⟩, ?_⟩
  refine List.forall_mem_cons.mpr ⟨⟨(mj_lkG (by decide) rfl (by decide) mj_inU9 mjf_9_15), trivial⟩, ?_⟩
  refine List.forall_mem_cons.mpr ⟨⟨(trivial), trivial⟩, ?_⟩
  refine List.forall_mem_cons.mpr ⟨⟨(trivial), trivial⟩, ?_⟩
  refine List.forall_mem_cons.mpr ⟨⟨(trivial), trivial⟩, ?_⟩
  refine List.forall_mem_cons.mpr ⟨⟨(trivial), trivial⟩, ?_⟩
  refine List.forall_mem_cons.mpr ⟨⟨(mj_lkG (by decide) rfl (by decide) mj_inU9 mjf_9_15), trivial⟩, ?_⟩
  refine List.forall_mem_cons.mpr ⟨⟨(trivial), trivial⟩, ?_⟩
  refine List.forall_mem_cons.mpr ⟨⟨(trivial), trivial⟩, ?_⟩
  refine List.forall_mem_cons.mpr ⟨⟨(mj_lkP (by decide) rfl (by decide) mj_inU9 mjf_9_15 mj_TyOk9 mj_Nm9 (Or.inl rfl) rfl), trivial⟩, ?_⟩
  refine List.forall_mem_cons.mpr ⟨⟨(trivial), trivial⟩, ?_⟩
  refine List.forall_mem_cons.mpr ⟨⟨(trivial), trivial⟩, ?_⟩
  exact fun _ h => absurd h List.not_mem_nil
theorem mjd_81 : mj_ckd 81 = true := by decide +kernel
theorem mjg_81 : mj_good 81 := mj_goodOf (fun _ => ⟨mj_G, rfl⟩) (by decide +kernel) mjd_81 mje_81
theorem mje_82 : ∀ e ∈ mj_tb82, mj_lk 82 e.1 e.2.1 e.2.2.1 e.2.2.2 ∧ mj_cok 82 e.2.1 e.2.2.1 e.2.2.2 := by
  unfold mj_tb82
  refine List.forall_mem_cons.mpr ⟨⟨(trivial), trivial⟩, ?_⟩
  refine List.forall_mem_cons.mpr ⟨⟨(trivial), mj_ckOf mjK_83 (by decide) (mj_lnkG mjl_5_214)⟩, ?_⟩
  refine List.forall_mem_cons.mpr ⟨⟨(show (0 : Int) ≤ ((4 : Nat) : Int) + 10 by decide), trivial⟩, ?_⟩
  refine List.forall_mem_cons.mpr ⟨⟨(trivial), trivial⟩, ?_⟩
  refine List.forall_mem_cons.mpr ⟨⟨(trivial), trivial⟩, ?_⟩
  refine List.forall_mem_cons.mpr ⟨⟨(trivial), trivial⟩, ?_⟩
  refine List.forall_mem_cons.mpr ⟨⟨(trivial), trivial⟩, ?_⟩
  refine List.forall_mem_cons.mpr ⟨⟨(show (0 : Int) ≤ ((11 : Nat) : Int) + 14 by decide), trivial⟩, ?_⟩
  refine List.forall_mem_cons.mpr ⟨⟨(trivial), trivial⟩, ?_⟩
  refine List.forall_mem_cons.mpr ⟨⟨(trivial), trivial⟩, ?_⟩
  refine List.forall_mem_cons.mpr ⟨⟨(trivial), trivial⟩, ?_⟩
  refine List.forall_mem_cons.mpr ⟨⟨(trivial), mj_ckOf mjK_84 (by decide) (mj_lnkG mjl_5_217)⟩, ?_⟩
  refine List.forall_mem_cons.mpr ⟨⟨(trivial), trivial⟩, ?_⟩
  refine List.forall_mem_cons.mpr ⟨⟨(trivial), trivial⟩, ?_⟩
  refine List.forall_mem_cons.mpr ⟨⟨(trivial), trivial⟩, ?_⟩
  refine List.forall_mem_cons.mpr ⟨⟨(trivial), trivial⟩, ?_⟩
  refine List.forall_mem_cons.mpr ⟨⟨(trivial), trivial⟩, ?_⟩
  refine List.forall_mem_cons.mpr ⟨⟨(trivial), trivial⟩, ?_⟩
  exact fun _ h => absurd h List.not_mem_nil
theorem mjd_82 : mj_ckd 82 = true := by decide +kernel
theorem mjg_82 : mj_good 82 := mj_goodOf (fun _ => ⟨mj_G, rfl⟩) (by decide +kernel) mjd_82 mje_82
theorem mje_83 : ∀ e ∈ mj_tb83, mj_lk 83 e.1 e.2.1 e.2.2.1 e.2.2.2 ∧ mj_cok 83 e.2.1 e.2.2.1 e.2.2.2 := by
  unfold mj_tb83
  refine List.forall_mem_cons.mpr ⟨⟨(trivial), trivial⟩, ?_⟩
  refine List.forall_mem_cons.mpr ⟨⟨(mj_lkG (by decide) rfl (by decide) mj_inU9 mjf_9_15), trivial⟩, ?_⟩
  refine List.forall_mem_cons.mpr ⟨⟨(show (0 : Int) ≤ ((4 : Nat) : Int) + 7 by decide), trivial⟩, ?_⟩
  refine List.forall_mem_cons.mpr ⟨⟨(trivial), trivial⟩, ?_⟩
  refine List.forall_mem_cons.mpr ⟨⟨(show (0 : Int) ≤ ((8 : Nat) : Int) + 4 by decide), trivial⟩, ?_⟩
  refine List.forall_mem_cons.mpr ⟨⟨(trivial), trivial⟩, ?_⟩
  refine List.forall_mem_cons.mpr ⟨⟨(trivial), trivial⟩, ?_⟩
  exact fun _ h => absurd h List.not_mem_nil
theorem mjd_83 : mj_ckd 83 = true := by decide +kernel
theorem mjg_83 : mj_good 83 := mj_goodOf (fun _ => ⟨mj_G, rfl⟩) (by decide +kernel) mjd_83 mje_83
theorem mje_84 : ∀ e ∈ mj_tb84, mj_lk 84 e.1 e.2.1 e.2.2.1 e.2.2.2 ∧ mj_cok 84 e.2.1 e.2.2.1 e.2.2.2 := by
  unfold mj_tb84
  refine List.forall_mem_cons.mpr ⟨⟨(trivial), trivial⟩, ?_⟩
  refine List.forall_mem_cons.mpr ⟨⟨(mj_lkG (by decide) rfl (by decide) mj_inU9 mjf_9_15), trivial⟩, ?_⟩
  refine List.forall_mem_cons.mpr ⟨⟨(show (0 : Int) ≤ ((4 : Nat) : Int) + 5 by decide), trivial⟩, ?_⟩
  refine List.forall_mem_cons.mpr ⟨⟨(trivial), trivial⟩, ?_⟩
  refine List.forall_mem_cons.mpr ⟨⟨(trivial), trivial⟩, ?_⟩
  refine List.forall_mem_cons.mpr ⟨⟨(trivial), trivial⟩, ?_⟩
  refine List.forall_mem_cons.mpr ⟨⟨(mj_lkG (by decide) rfl (by decide) mj_inU9 mjf_9_9), trivial⟩, ?_⟩
  refine List.forall_mem_cons.mpr ⟨⟨(trivial), trivial⟩, ?_⟩
  refine List.forall_mem_cons.mpr ⟨⟨(trivial), trivial⟩, ?_⟩
  refine List.forall_mem_cons.mpr ⟨⟨(show (1 : Nat) < mj_maxL 84 by decide), trivial⟩, ?_⟩
  refine List.forall_mem_cons.mpr ⟨⟨(trivial), trivial⟩, ?_⟩
  refine List.forall_mem_cons.mpr ⟨⟨(trivial), trivial⟩, ?_⟩
  refine List.forall_mem_cons.mpr ⟨⟨(mj_lkG (by decide) rfl (by decide) mj_inU9 mjf_9_15), trivial⟩, ?_⟩
  refine List.forall_mem_cons.mpr ⟨⟨(trivial), trivial⟩, ?_⟩
  refine List.forall_mem_cons.mpr ⟨⟨(trivial), trivial⟩, ?_⟩
  refine List.forall_mem_cons.mpr ⟨⟨(mj_lkP (by decide) rfl (by decide) mj_inU9 mjf_9_15 mj_TyOk9 mj_Nm9 (Or.inl rfl) rfl), trivial⟩, ?_⟩
  refine List.forall_mem_cons.mpr ⟨⟨(trivial), trivial⟩, ?_⟩
  refine List.forall_mem_cons.mpr ⟨⟨(show (2 : Nat) < mj_maxL 84 by decide), trivial⟩, ?_⟩
  refine List.forall_mem_cons.mpr ⟨⟨(trivial), trivial⟩, ?_⟩
  refine List.forall_mem_cons.mpr ⟨⟨(trivial), trivial⟩, ?_⟩
  refine List.forall_mem_cons.mpr ⟨⟨(mj_lkG (by decide) rfl (by decide) mj_inU9 mjf_9_15), trivial⟩, ?_⟩
  refine List.forall_mem_cons.mpr ⟨⟨(show (0 : Int) ≤ ((33 : Nat) : Int) + 23 by decide), trivial⟩, ?_⟩
  refine List.forall_mem_cons.mpr ⟨⟨(trivial), trivial⟩, ?_⟩
  refine List.forall_mem_cons.mpr ⟨⟨(mj_lkG (by decide) rfl (by decide) mj_inU9 mjf_9_9), trivial⟩, ?_⟩
  refine List.forall_mem_cons.mpr ⟨⟨(trivial), trivial⟩, ?_⟩
  refine List.forall_mem_cons.mpr ⟨⟨(trivial), trivial⟩, ?_⟩
  refine List.forall_mem_cons.mpr ⟨⟨(mj_lkG (by decide) rfl (by decide) mj_inU9 mjf_9_9), trivial⟩, ?_⟩
  refine List.forall_mem_cons.mpr ⟨⟨(trivial), trivial⟩, ?_⟩
  refine List.forall_mem_cons.mpr ⟨⟨(trivial), trivial⟩, ?_⟩
  refine List.forall_mem_cons.mpr ⟨⟨(trivial), trivial⟩, ?_⟩
  refine List.forall_mem_cons.mpr ⟨⟨(trivial), trivial⟩, ?_⟩
  refine List.forall_mem_cons.mpr ⟨⟨(trivial), trivial⟩, ?_⟩
  refine List.forall_mem_cons.mpr ⟨⟨(show (2 : Nat) < mj_maxL 84 by decide), trivial⟩, ?_⟩
  refine List.forall_mem_cons.mpr ⟨⟨(show (0 : Int) ≤ ((53 : Nat) : Int) + (-25) by decide), trivial⟩, ?_⟩
  refine List.forall_mem_cons.mpr ⟨⟨(trivial), trivial⟩, ?_⟩
  refine List.forall_mem_cons.mpr ⟨⟨(trivial), trivial⟩, ?_⟩
  exact fun _ h => absurd h List.not_mem_nil
theorem mjd_84 : mj_ckd 84 = true := by decide +kernel
theorem mjg_84 : mj_good 84 := mj_goodOf (fun _ => ⟨mj_G, rfl⟩) (by decide +kernel) mjd_84 mje_84
theorem mje_85 : ∀ e ∈ mj_tb85, mj_lk 85 e.1 e.2.1 e.2.2.1 e.2.2.2 ∧ mj_cok 85 e.2.1 e.2.2.1 e.2.2.2 := by
  unfold mj_tb85
  refine List.forall_mem_cons.mpr ⟨⟨(trivial), trivial⟩, ?_⟩
  refine List.forall_mem_cons.mpr ⟨⟨(show (0 : Int) ≤ ((1 : Nat) : Int) + 168 ∧ ∀ off ∈ (#[59, 69, 87, 168, 168, 96, 122, 138, 168, 168, 160] : Array Int).toList, (0 : Int) ≤ ((1 : Nat) : Int) + off by decide), trivial⟩, ?_⟩
  refine List.forall_mem_cons.mpr ⟨⟨(trivial), trivial⟩, ?_⟩
  refine List.forall_mem_cons.mpr ⟨⟨(mj_lkG (by decide) rfl (by decide) mj_inU6 mjf_6_9), trivial⟩, ?_⟩
  refine List.forall_mem_cons.mpr ⟨⟨(trivial), trivial⟩, ?_⟩
  refine List.forall_mem_cons.mpr ⟨⟨(trivial), trivial⟩, ?_⟩
  refine List.forall_mem_cons.mpr ⟨⟨(trivial), trivial⟩, ?_⟩
  refine List.forall_mem_cons.mpr ⟨⟨(show (0 : Int) ≤ ((67 : Nat) : Int) + 102 by decide), trivial⟩, ?_⟩
  refine List.forall_mem_cons.mpr ⟨⟨(trivial), trivial⟩, ?_⟩
  refine List.forall_mem_cons.mpr ⟨⟨(mj_lkG (by decide) rfl (by decide) mj_inU6 mjf_6_9), trivial⟩, ?_⟩
  refine List.forall_mem_cons.mpr ⟨⟨(trivial), trivial⟩, ?_⟩
  refine List.forall_mem_cons.mpr ⟨⟨(trivial), trivial⟩, ?_⟩
  refine List.forall_mem_cons.mpr ⟨⟨(trivial), trivial⟩, ?_⟩
  refine List.forall_mem_cons.mpr ⟨⟨(trivial), trivial⟩, ?_⟩
  refine List.forall_mem_cons.mpr ⟨⟨(mj_lkG (by decide) rfl (by decide) mj_inU6 mjf_6_9), trivial⟩, ?_⟩
  refine List.forall_mem_cons.mpr ⟨⟨(trivial), trivial⟩, ?_⟩
  refine List.forall_mem_cons.mpr ⟨⟨(trivial), trivial⟩, ?_⟩
  refine List.forall_mem_cons.mpr ⟨⟨(trivial), trivial⟩, ?_⟩
  refine List.forall_mem_cons.mpr ⟨⟨(trivial), trivial⟩, ?_⟩
  refine List.forall_mem_cons.mpr ⟨⟨(show (0 : Int) ≤ ((85 : Nat) : Int) + 84 by decide), trivial⟩, ?_⟩
  refine List.forall_mem_cons.mpr ⟨⟨(trivial), trivial⟩, ?_⟩
  refine List.forall_mem_cons.mpr ⟨⟨(trivial), trivial⟩, ?_⟩
  refine List.forall_mem_cons.mpr ⟨⟨(trivial), trivial⟩, ?_⟩
  refine List.forall_mem_cons.mpr ⟨⟨(trivial), mj_ckOf mjK_86 (by decide) (mj_lnkG mjl_6_79)⟩, ?_⟩
  refine List.forall_mem_cons.mpr ⟨⟨(show (0 : Int) ≤ ((94 : Nat) : Int) + 75 by decide), trivial⟩, ?_⟩
  refine List.forall_mem_cons.mpr ⟨⟨(trivial), trivial⟩, ?_⟩
  refine List.forall_mem_cons.mpr ⟨⟨(trivial), trivial⟩, ?_⟩
  refine List.forall_mem_cons.mpr ⟨⟨(mj_lkG (by decide) rfl (by decide) mj_inU6 mjf_6_59), trivial⟩, ?_⟩
  refine List.forall_mem_cons.mpr ⟨⟨(trivial), trivial⟩, ?_⟩
  refine List.forall_mem_cons.mpr ⟨⟨(mj_lkG (by decide) rfl (by decide) mj_inU6 mjf_6_9), trivial⟩, ?_⟩
  refine List.forall_mem_cons.mpr ⟨⟨(trivial), trivial⟩, ?_⟩
  refine List.forall_mem_cons.mpr ⟨⟨(trivial), trivial⟩, ?_⟩
  refine List.forall_mem_cons.mpr ⟨⟨(show (0 : Int) ≤ ((108 : Nat) : Int) + 7 by decide), trivial⟩, ?_⟩
  refine List.forall_mem_cons.mpr ⟨⟨(trivial), trivial⟩, ?_⟩
  refine List.forall_mem_cons.mpr ⟨⟨(show (0 : Int) ≤ ((112 : Nat) : Int) + 4 by decide), trivial⟩, ?_⟩
  refine List.forall_mem_cons.mpr ⟨⟨(trivial), trivial⟩, ?_⟩
  refine List.forall_mem_cons.mpr ⟨⟨(trivial), trivial⟩, ?_⟩
  refine List.forall_mem_cons.mpr ⟨⟨(mj_lkP (by decide) rfl (by decide) mj_inU6 mjf_6_59 mj_TyOk6 mj_Nm6 (Or.inl rfl) rfl), trivial⟩, ?_⟩
  refine List.forall_mem_cons.mpr ⟨⟨(show (0 : Int) ≤ ((120 : Nat) : Int) + 49 by decide), trivial⟩, ?_⟩
  refine List.forall_mem_cons.mpr ⟨⟨(trivial), trivial⟩, ?_⟩
  refine List.forall_mem_cons.mpr ⟨⟨(mj_lkG (by decide) rfl (by decide) mj_inU6 mjf_6_23), trivial⟩, ?_⟩
  refine List.forall_mem_cons.mpr ⟨⟨(trivial), trivial⟩, ?_⟩
  refine List.forall_mem_cons.mpr ⟨⟨(mj_lkG (by decide) rfl (by decide) mj_inU6 mjf_6_56), trivial⟩, ?_⟩
  refine List.forall_mem_cons.mpr ⟨⟨(trivial), trivial⟩, ?_⟩
  refine List.forall_mem_cons.mpr ⟨⟨(trivial), trivial⟩, ?_⟩
  refine List.forall_mem_cons.mpr ⟨⟨(trivial), trivial⟩, ?_⟩
  refine List.forall_mem_cons.mpr ⟨⟨(trivial), trivial⟩, ?_⟩
  refine List.forall_mem_cons.mpr ⟨⟨(show (0 : Int) ≤ ((136 : Nat) : Int) + 33 by decide), trivial⟩, ?_⟩
  refine List.forall_mem_cons.mpr ⟨⟨(trivial), trivial⟩, ?_⟩
  refine List.forall_mem_cons.mpr ⟨⟨(trivial), trivial⟩, ?_⟩
  refine List.forall_mem_cons.mpr ⟨⟨(mj_lkG (by decide) rfl (by decide) mj_inU6 mjf_6_26), trivial⟩, ?_⟩
  refine List.forall_mem_cons.mpr ⟨⟨(trivial), trivial⟩, ?_⟩
  refine List.forall_mem_cons.mpr ⟨⟨(mj_lkG (by decide) rfl (by decide) mj_inU6 mjf_6_56), trivial⟩, ?_⟩
  refine List.forall_mem_cons.mpr ⟨⟨(trivial), trivial⟩, ?_⟩
  refine List.forall_mem_cons.mpr ⟨⟨(mj_lkG (by decide) rfl (by decide) mj_inU4 mjf_6_83), trivial⟩, ?_⟩
  refine List.forall_mem_cons.mpr ⟨⟨(trivial), trivial⟩, ?_⟩
  refine List.forall_mem_cons.mpr ⟨⟨(trivial), trivial⟩, ?_⟩
  refine List.forall_mem_cons.mpr ⟨⟨(trivial), mj_ckOf mjK_87 (by decide) (mj_lnkG mjl_6_86)⟩, ?_⟩
  refine List.forall_mem_cons.mpr ⟨⟨(show (0 : Int) ≤ ((158 : Nat) : Int) + 11 by decide), trivial⟩, ?_⟩
  refine List.forall_mem_cons.mpr ⟨⟨(trivial), trivial⟩, ?_⟩
  refine List.forall_mem_cons.mpr ⟨⟨(trivial), trivial⟩, ?_⟩
  refine List.forall_mem_cons.mpr ⟨⟨(trivial), mj_ckOf mjK_88 (by decide) (mj_lnkG mjl_6_90)⟩, ?_⟩
  refine List.forall_mem_cons.mpr ⟨⟨(show (0 : Int) ≤ ((166 : Nat) : Int) + 3 by decide), trivial⟩, ?_⟩
  refine List.forall_mem_cons.mpr ⟨⟨(trivial), trivial⟩, ?_⟩
  exact fun _ h => absurd h List.not_mem_nil
theorem mjd_85 : mj_ckd 85 = true := by decide +kernel
theorem mjg_85 : mj_good 85 := mj_goodOf (fun _ => ⟨mj_G, rfl⟩) (by decide +kernel) mjd_85 mje_85
theorem mje_86 : ∀ e ∈ mj_tb86, mj_lk 86 e.1 e.2.1 e.2.2.1 e.2.2.2 ∧ mj_cok 86 e.2.1 e.2.2.1 e.2.2.2 := by
  unfold mj_tb86
  refine List.forall_mem_cons.mpr ⟨⟨(trivial), trivial⟩, ?_⟩
  refine List.forall_mem_cons.mpr ⟨⟨(mj_lkG (by decide) rfl (by decide) mj_inU6 mjf_6_9), trivial⟩, ?_⟩
  refine List.forall_mem_cons.mpr ⟨⟨(trivial), trivial⟩, ?_⟩
  refine List.forall_mem_cons.mpr ⟨⟨(trivial), trivial⟩, ?_⟩
  refine List.forall_mem_cons.mpr ⟨⟨(show (0 : Int) ≤ ((6 : Nat) : Int) + 11 by decide), trivial⟩, ?_⟩
  refine List.forall_mem_cons.mpr ⟨⟨(trivial), trivial⟩, ?_⟩
  refine List.forall_mem_cons.mpr ⟨⟨(trivial), trivial⟩, ?_⟩
  refine List.forall_mem_cons.mpr ⟨⟨(mj_lkP (by decide) rfl (by decide) mj_inU6 mjf_6_37 mj_TyOk6 mj_Nm6 (Or.inl rfl) rfl), trivial⟩, ?_⟩
  refine List.forall_mem_cons.mpr ⟨⟨(show (0 : Int) ≤ ((14 : Nat) : Int) + 18 by decide), trivial⟩, ?_⟩
  refine List.forall_mem_cons.mpr ⟨⟨(trivial), trivial⟩, ?_⟩
  refine List.forall_mem_cons.mpr ⟨⟨(mj_lkG (by decide) rfl (by decide) mj_inU6 mjf_6_9), trivial⟩, ?_⟩
  refine List.forall_mem_cons.mpr ⟨⟨(trivial), trivial⟩, ?_⟩
  refine List.forall_mem_cons.mpr ⟨⟨(trivial), trivial⟩, ?_⟩
  refine List.forall_mem_cons.mpr ⟨⟨(trivial), trivial⟩, ?_⟩
  refine List.forall_mem_cons.mpr ⟨⟨(trivial), trivial⟩, ?_⟩
  refine List.forall_mem_cons.mpr ⟨⟨(mj_lkG (by decide) rfl (by decide) mj_inU6 mjf_6_9), trivial⟩, ?_⟩
  refine List.forall_mem_cons.mpr ⟨⟨(trivial), trivial⟩, ?_⟩
  refine List.forall_mem_cons.mpr ⟨⟨(trivial), trivial⟩, ?_⟩
  refine List.forall_mem_cons.mpr ⟨⟨(trivial), trivial⟩, ?_⟩
  refine List.forall_mem_cons.mpr ⟨⟨(trivial), trivial⟩, ?_⟩
  refine List.forall_mem_cons.mpr ⟨⟨(trivial), trivial⟩, ?_⟩
  exact fun _ h => absurd h List.not_mem_nil
theorem mjd_86 : mj_ckd 86 = true := by decide +kernel
theorem mjg_86 : mj_good 86 := mj_goodOf (fun _ => ⟨mj_G, rfl⟩) (by decide +kernel) mjd_86 mje_86
theorem mje_87 : ∀ e ∈ mj_tb87, mj_lk 87 e.1 e.2.1 e.2.2.1 e.2.2.2 ∧ mj_cok 87 e.2.1 e.2.2.1 e.2.2.2 := by
  unfold mj_tb87
  refine List.forall_mem_cons.mpr ⟨⟨(trivial), trivial⟩, ?_⟩
  refine List.forall_mem_cons.mpr ⟨⟨(mj_lkG (by decide) rfl (by decide) mj_inU6 mjf_6_23), trivial⟩, ?_⟩
  refine List.forall_mem_cons.mpr ⟨⟨(trivial), trivial⟩, ?_⟩
  refine List.forall_mem_cons.mpr ⟨⟨(mj_lkG (by decide) rfl (by decide) mj_inU6 mjf_6_56), trivial⟩, ?_⟩
  refine List.forall_mem_cons.mpr ⟨⟨(trivial), trivial⟩, ?_⟩
  refine List.forall_mem_cons.mpr ⟨⟨(trivial), trivial⟩, ?_⟩
  refine List.forall_mem_cons.mpr ⟨⟨(trivial), trivial⟩, ?_⟩
  refine List.forall_mem_cons.mpr ⟨⟨(trivial), trivial⟩, ?_⟩
  refine List.forall_mem_cons.mpr ⟨⟨(trivial), trivial⟩, ?_⟩
  refine List.forall_mem_cons.mpr ⟨⟨(trivial), trivial⟩, ?_⟩
  refine List.forall_mem_cons.mpr ⟨⟨(trivial), trivial⟩, ?_⟩
  refine List.forall_mem_cons.mpr ⟨⟨(trivial), trivial⟩, ?_⟩
  refine List.forall_mem_cons.mpr ⟨⟨(mj_lkG (by decide) rfl (by decide) mj_inU6 mjf_6_23), trivial⟩, ?_⟩
  refine List.forall_mem_cons.mpr ⟨⟨(trivial), trivial⟩, ?_⟩
  refine List.forall_mem_cons.mpr ⟨⟨(mj_lkG (by decide) rfl (by decide) mj_inU6 mjf_6_56), trivial⟩, ?_⟩
  refine List.forall_mem_cons.mpr ⟨⟨(trivial), trivial⟩, ?_⟩
  refine List.forall_mem_cons.mpr ⟨⟨(trivial), trivial⟩, ?_⟩
  refine List.forall_mem_cons.mpr ⟨⟨(trivial), trivial⟩, ?_⟩
  refine List.forall_mem_cons.mpr ⟨⟨(show (0 : Int) ≤ ((26 : Nat) : Int) + 10 by decide), trivial⟩, ?_⟩
  refine List.forall_mem_cons.mpr ⟨⟨(trivial), trivial⟩, ?_⟩
  refine List.forall_mem_cons.mpr ⟨⟨(trivial), trivial⟩, ?_⟩
  refine List.forall_mem_cons.mpr ⟨⟨(trivial), trivial⟩, ?_⟩
  refine List.forall_mem_cons.mpr ⟨⟨(trivial), trivial⟩, ?_⟩
  refine List.forall_mem_cons.mpr ⟨⟨(mj_lkP (by decide) rfl (by decide) mj_inU6 mjf_6_59 mj_TyOk6 mj_Nm6 (Or.inl rfl) rfl), trivial⟩, ?_⟩
  refine List.forall_mem_cons.mpr ⟨⟨(trivial), trivial⟩, ?_⟩
  exact fun _ h => absurd h List.not_mem_nil
theorem mjd_87 : mj_ckd 87 = true := by decide +kernel
theorem mjg_87 : mj_good 87 := mj_goodOf (fun _ => ⟨mj_G, rfl⟩) (by decide +kernel) mjd_87 mje_87
theorem mje_88 : ∀ e ∈ mj_tb88, mj_lk 88 e.1 e.2.1 e.2.2.1 e.2.2.2 ∧ mj_cok 88 e.2.1 e.2.2.1 e.2.2.2 := by
  unfold mj_tb88
  refine List.forall_mem_cons.mpr ⟨⟨(trivial), trivial⟩, ?_⟩
  refine List.forall_mem_cons.mpr ⟨⟨(mj_lkG (by decide) rfl (by decide) mj_inU6 mjf_6_15), trivial⟩, ?_⟩
  refine List.forall_mem_cons.mpr ⟨⟨(trivial), trivial⟩, ?_⟩
  refine List.forall_mem_cons.mpr ⟨⟨(trivial), trivial⟩, ?_⟩
  refine List.forall_mem_cons.mpr ⟨⟨(mj_lkG (by decide) rfl (by decide) mj_inU6 mjf_6_56), trivial⟩, ?_⟩
  refine List.forall_mem_cons.mpr ⟨⟨(trivial), trivial⟩, ?_⟩
  refine List.forall_mem_cons.mpr ⟨⟨(trivial), trivial⟩, ?_⟩
  refine List.forall_mem_cons.mpr ⟨⟨(mj_lkG (by decide) rfl (by decide) mj_inU6 mjf_6_18), trivial⟩, ?_⟩
  refine List.forall_mem_cons.mpr ⟨⟨(trivial), trivial⟩, ?_⟩
  refine List.forall_mem_cons.mpr ⟨⟨(trivial), trivial⟩, ?_⟩
  refine List.forall_mem_cons.mpr ⟨⟨(mj_lkG (by decide) rfl (by decide) mj_inU6 mjf_6_59), trivial⟩, ?_⟩
  refine List.forall_mem_cons.mpr ⟨⟨(trivial), trivial⟩, ?_⟩
  refine List.forall_mem_cons.mpr ⟨⟨(trivial), trivial⟩, ?_⟩
  refine List.forall_mem_cons.mpr ⟨⟨(trivial), trivial⟩, ?_⟩
  refine List.forall_mem_cons.mpr ⟨⟨(mj_lkP (by decide) rfl (by decide) mj_inU6 mjf_6_56 mj_TyOk6 mj_Nm6 (Or.inl rfl) rfl), trivial⟩, ?_⟩
  refine List.forall_mem_cons.mpr ⟨⟨(trivial), trivial⟩, ?_⟩
  refine List.forall_mem_cons.mpr ⟨⟨(trivial), trivial⟩, ?_⟩
  refine List.forall_mem_cons.mpr ⟨⟨(mj_lkP (by decide) rfl (by decide) mj_inU6 mjf_6_59 mj_TyOk6 mj_Nm6 (Or.inl rfl) rfl), trivial⟩, ?_⟩
  refine List.forall_mem_cons.mpr ⟨⟨(trivial), trivial⟩, ?_⟩
  exact fun _ h => absurd h List.not_mem_nil
theorem mjd_88 : mj_ckd 88 = true := by decide +kernel
theorem mjg_88 : mj_good 88 := mj_goodOf (fun _ => ⟨mj_G, rfl⟩) (by decide +kernel) mjd_88 mje_88
theorem mje_89 : ∀ e ∈ mj_tb89, mj_lk 89 e.1 e.2.1 e.2.2.1 e.2.2.2 ∧ mj_cok 89 e.2.1 e.2.2.1 e.2.2.2 := by
  unfold mj_tb89
  refine List.forall_mem_cons.mpr ⟨⟨(trivial), trivial⟩, ?_⟩
  refine List.forall_mem_cons.mpr ⟨⟨(mj_lkG (by decide) rfl (by decide) mj_inU5 mjf_5_11), trivial⟩, ?_⟩
  refine List.forall_mem_cons.mpr ⟨⟨(trivial), trivial⟩, ?_⟩
  refine List.forall_mem_cons.mpr ⟨⟨(trivial), trivial⟩, ?_⟩
  refine List.forall_mem_cons.mpr ⟨⟨(show (3 : Nat) < mj_maxL 89 by decide), trivial⟩, ?_⟩
  refine List.forall_mem_cons.mpr ⟨⟨(trivial), trivial⟩, ?_⟩
  refine List.forall_mem_cons.mpr ⟨⟨(mj_lkG (by decide) rfl (by decide) mj_inU5 mjf_5_50), trivial⟩, ?_⟩
  refine List.forall_mem_cons.mpr ⟨⟨(trivial), trivial⟩, ?_⟩
  refine List.forall_mem_cons.mpr ⟨⟨(mj_lkG (by decide) rfl (by decide) mj_inU8 mjf_5_104), trivial⟩, ?_⟩
  refine List.forall_mem_cons.mpr ⟨⟨(mj_lkG (by decide) rfl (by decide) mj_inU6 mjf_5_117), trivial⟩, ?_⟩
  refine List.forall_mem_cons.mpr ⟨⟨(trivial), trivial⟩, ?_⟩
  refine List.forall_mem_cons.mpr ⟨⟨(show (4 : Nat) < mj_maxL 89 by decide), trivial⟩, ?_⟩
  refine List.forall_mem_cons.mpr ⟨⟨(trivial), trivial⟩, ?_⟩
  refine List.forall_mem_cons.mpr ⟨⟨(mj_lkG (by decide) rfl (by decide) mj_inU8 mjf_5_104), trivial⟩, ?_⟩
  refine List.forall_mem_cons.mpr ⟨⟨(trivial), trivial⟩, ?_⟩
  refine List.forall_mem_cons.mpr ⟨⟨(mj_lkP (by decide) rfl (by decide) mj_inU6 mjf_5_112 mj_TyOk6 mj_Nm6 (Or.inl rfl) rfl), trivial⟩, ?_⟩
  refine List.forall_mem_cons.mpr ⟨⟨(trivial), trivial⟩, ?_⟩
  refine List.forall_mem_cons.mpr ⟨⟨(trivial), trivial⟩, ?_⟩
  refine List.forall_mem_cons.mpr ⟨⟨(mj_lkP (by decide) rfl (by decide) mj_inU5 mjf_5_53 mj_TyOk5 mj_Nm5 (Or.inl rfl) rfl), trivial⟩, ?_⟩
  refine List.forall_mem_cons.mpr ⟨⟨(trivial), trivial⟩, ?_⟩
  refine List.forall_mem_cons.mpr ⟨⟨(trivial), trivial⟩, ?_⟩
  refine List.forall_mem_cons.mpr ⟨⟨(mj_lkG (by decide) rfl (by decide) mj_inU8 mjf_5_220), trivial⟩, ?_⟩
  refine List.forall_mem_cons.mpr ⟨⟨(trivial), trivial⟩, ?_⟩
  refine List.forall_mem_cons.mpr ⟨⟨(trivial), ⟨mj_Gws (mj_Gin 688 (by decide +kernel) rfl), mj_Gws (mj_Gin 474 (by decide +kernel) rfl), mj_Gws (mj_Gin 13 (by decide +kernel) rfl), mj_Gws (mj_Gin 475 (by decide +kernel) rfl), by decide, by decide⟩⟩, ?_⟩
  refine List.forall_mem_cons.mpr ⟨⟨(mj_lkP (by decide) rfl (by decide) mj_inU8 mjf_5_220 mj_TyOk8 mj_Nm8 (Or.inl rfl) rfl), trivial⟩, ?_⟩
  refine List.forall_mem_cons.mpr ⟨⟨(trivial), trivial⟩, ?_⟩
  refine List.forall_mem_cons.mpr ⟨⟨(trivial), trivial⟩, ?_⟩
  refine List.forall_mem_cons.mpr ⟨⟨(mj_lkG (by decide) rfl (by decide) mj_inU8 mjf_5_228), trivial⟩, ?_⟩
  refine List.forall_mem_cons.mpr ⟨⟨(mj_lkG (by decide) rfl (by decide) mj_inU3 mjf_5_232), trivial⟩, ?_⟩
  refine List.forall_mem_cons.mpr ⟨⟨(show (0 : Int) ≤ ((56 : Nat) : Int) + 13 by decide), trivial⟩, ?_⟩
  refine List.forall_mem_cons.mpr ⟨⟨(trivial), trivial⟩, ?_⟩
  refine List.forall_mem_cons.mpr ⟨⟨(trivial), trivial⟩, ?_⟩
  refine List.forall_mem_cons.mpr ⟨⟨(mj_lkG (by decide) rfl (by decide) mj_inU5 mjf_5_62), trivial⟩, ?_⟩
  refine List.forall_mem_cons.mpr ⟨⟨(trivial), trivial⟩, ?_⟩
  refine List.forall_mem_cons.mpr ⟨⟨(trivial), trivial⟩, ?_⟩
  refine List.forall_mem_cons.mpr ⟨⟨(mj_lkP (by decide) rfl (by decide) mj_inU5 mjf_5_62 mj_TyOk5 mj_Nm5 (Or.inl rfl) rfl), trivial⟩, ?_⟩
  refine List.forall_mem_cons.mpr ⟨⟨(trivial), trivial⟩, ?_⟩
  refine List.forall_mem_cons.mpr ⟨⟨(mj_lkG (by decide) rfl (by decide) mj_inU5 mjf_5_24), trivial⟩, ?_⟩
  refine List.forall_mem_cons.mpr ⟨⟨(trivial), trivial⟩, ?_⟩
  refine List.forall_mem_cons.mpr ⟨⟨(trivial), trivial⟩, ?_⟩
  refine List.forall_mem_cons.mpr ⟨⟨(trivial), trivial⟩, ?_⟩
  refine List.forall_mem_cons.mpr ⟨⟨(mj_lkG (by decide) rfl (by decide) mj_inU5 mjf_5_50), trivial⟩, ?_⟩
  refine List.forall_mem_cons.mpr ⟨⟨(trivial), trivial⟩, ?_⟩
  refine List.forall_mem_cons.mpr ⟨⟨(trivial), mj_ckOf mjK_68 (by decide) (mj_lnkG mjl_5_120)⟩, ?_⟩
  refine List.forall_mem_cons.mpr ⟨⟨(trivial), trivial⟩, ?_⟩
  exact fun _ h => absurd h List.not_mem_nil
theorem mjd_89 : mj_ckd 89 = true := by decide +kernel
theorem mjg_89 : mj_good 89 := mj_goodOf (fun _ => ⟨mj_G, rfl⟩) (by decide +kernel) mjd_89 mje_89
theorem mje_90 : ∀ e ∈ mj_tb90, mj_lk 90 e.1 e.2.1 e.2.2.1 e.2.2.2 ∧ mj_cok 90 e.2.1 e.2.2.1 e.2.2.2 := by
  unfold mj_tb90
  refine List.forall_mem_cons.mpr ⟨⟨(trivial), trivial⟩, ?_⟩
  refine List.forall_mem_cons.mpr ⟨⟨(show (1 : Nat) < mj_maxL 90 by decide), trivial⟩, ?_⟩
  refine List.forall_mem_cons.mpr ⟨⟨(trivial), trivial⟩, ?_⟩
  refine List.forall_mem_cons.mpr ⟨⟨(trivial), trivial⟩, ?_⟩
  refine List.forall_mem_cons.mpr ⟨⟨(show (0 : Int) ≤ ((4 : Nat) : Int) + 61 by decide), trivial⟩, ?_⟩
  refine List.forall_mem_cons.mpr ⟨⟨(trivial), trivial⟩, ?_⟩
  refine List.forall_mem_cons.mpr ⟨⟨(mj_lkG (by decide) rfl (by decide) mj_inU6 mjf_6_56), trivial⟩, ?_⟩
  refine List.forall_mem_cons.mpr ⟨⟨(show (0 : Int) ≤ ((11 : Nat) : Int) + 54 by decide), trivial⟩, ?_⟩
  refine List.forall_mem_cons.mpr ⟨⟨(trivial), trivial⟩, ?_⟩
  refine List.forall_mem_cons.mpr ⟨⟨(mj_lkG (by decide) rfl (by decide) mj_inU6 mjf_6_59), trivial⟩, ?_⟩
  refine List.forall_mem_cons.mpr ⟨⟨(trivial), trivial⟩, ?_⟩
  refine List.forall_mem_cons.mpr ⟨⟨(mj_lkG (by decide) rfl (by decide) mj_inU6 mjf_6_26), trivial⟩, ?_⟩
  refine List.forall_mem_cons.mpr ⟨⟨(trivial), trivial⟩, ?_⟩
  refine List.forall_mem_cons.mpr ⟨⟨(mj_lkG (by decide) rfl (by decide) mj_inU6 mjf_6_56), trivial⟩, ?_⟩
  refine List.forall_mem_cons.mpr ⟨⟨(trivial), trivial⟩, ?_⟩
  refine List.forall_mem_cons.mpr ⟨⟨(mj_lkG (by decide) rfl (by decide) mj_inU4 mjf_6_93), trivial⟩, ?_⟩
  refine List.forall_mem_cons.mpr ⟨⟨(show (0 : Int) ≤ ((30 : Nat) : Int) + 35 by decide), trivial⟩, ?_⟩
  refine List.forall_mem_cons.mpr ⟨⟨(trivial), trivial⟩, ?_⟩
  refine List.forall_mem_cons.mpr ⟨⟨(trivial), trivial⟩, ?_⟩
  refine List.forall_mem_cons.mpr ⟨⟨(mj_lkG (by decide) rfl (by decide) mj_inU6 mjf_6_18), trivial⟩, ?_⟩
  refine List.forall_mem_cons.mpr ⟨⟨(trivial), trivial⟩, ?_⟩
  refine List.forall_mem_cons.mpr ⟨⟨(mj_lkG (by decide) rfl (by decide) mj_inU6 mjf_6_56), trivial⟩, ?_⟩
  refine List.forall_mem_cons.mpr ⟨⟨(trivial), trivial⟩, ?_⟩
  refine List.forall_mem_cons.mpr ⟨⟨(mj_lkP (by decide) rfl (by decide) mj_inU6 mjf_6_59 mj_TyOk6 mj_Nm6 (Or.inl rfl) rfl), trivial⟩, ?_⟩
  refine List.forall_mem_cons.mpr ⟨⟨(trivial), trivial⟩, ?_⟩
  refine List.forall_mem_cons.mpr ⟨⟨(trivial), trivial⟩, ?_⟩
  refine List.forall_mem_cons.mpr ⟨⟨(mj_lkG (by decide) rfl (by decide) mj_inU6 mjf_6_15), trivial⟩, ?_⟩
  refine List.forall_mem_cons.mpr ⟨⟨(trivial), trivial⟩, ?_⟩
  refine List.forall_mem_cons.mpr ⟨⟨(mj_lkG (by decide) rfl (by decide) mj_inU6 mjf_6_56), trivial⟩, ?_⟩
  refine List.forall_mem_cons.mpr ⟨⟨(trivial), trivial⟩, ?_⟩
  refine List.forall_mem_cons.mpr ⟨⟨(mj_lkP (by decide) rfl (by decide) mj_inU6 mjf_6_56 mj_TyOk6 mj_Nm6 (Or.inl rfl) rfl), trivial⟩, ?_⟩
  refine List.forall_mem_cons.mpr ⟨⟨(show (1 : Nat) < mj_maxL 90 by decide), trivial⟩, ?_⟩
  refine List.forall_mem_cons.mpr ⟨⟨(show (0 : Int) ≤ ((62 : Nat) : Int) + (-60) by decide), trivial⟩, ?_⟩
  refine List.forall_mem_cons.mpr ⟨⟨(trivial), trivial⟩, ?_⟩
  refine List.forall_mem_cons.mpr ⟨⟨(mj_lkG (by decide) rfl (by decide) mj_inU6 mjf_6_59), trivial⟩, ?_⟩
  refine List.forall_mem_cons.mpr ⟨⟨(trivial), trivial⟩, ?_⟩
  refine List.forall_mem_cons.mpr ⟨⟨(mj_lkG (by decide) rfl (by decide) mj_inU6 mjf_6_26), trivial⟩, ?_⟩
  refine List.forall_mem_cons.mpr ⟨⟨(trivial), trivial⟩, ?_⟩
  refine List.forall_mem_cons.mpr ⟨⟨(mj_lkG (by decide) rfl (by decide) mj_inU6 mjf_6_56), trivial⟩, ?_⟩
  refine List.forall_mem_cons.mpr ⟨⟨(trivial), trivial⟩, ?_⟩
  refine List.forall_mem_cons.mpr ⟨⟨(mj_lkG (by decide) rfl (by decide) mj_inU4 mjf_6_93), trivial⟩, ?_⟩
  refine List.forall_mem_cons.mpr ⟨⟨(show (0 : Int) ≤ ((81 : Nat) : Int) + 7 by decide), trivial⟩, ?_⟩
  refine List.forall_mem_cons.mpr ⟨⟨(trivial), trivial⟩, ?_⟩
  refine List.forall_mem_cons.mpr ⟨⟨(show (0 : Int) ≤ ((85 : Nat) : Int) + 4 by decide), trivial⟩, ?_⟩
  refine List.forall_mem_cons.mpr ⟨⟨(trivial), trivial⟩, ?_⟩
  refine List.forall_mem_cons.mpr ⟨⟨(trivial), trivial⟩, ?_⟩
  exact fun _ h => absurd h List.not_mem_nil
theorem mjd_90 : mj_ckd 90 = true := by decide +kernel
theorem mjg_90 : mj_good 90 := mj_goodOf (fun _ => ⟨mj_G, rfl⟩) (by decide +kernel) mjd_90 mje_90
theorem mje_91 : ∀ e ∈ mj_tb91, mj_lk 91 e.1 e.2.1 e.2.2.1 e.2.2.2 ∧ mj_cok 91 e.2.1 e.2.2.1 e.2.2.2 := by
  unfold mj_tb91
  refine List.forall_mem_cons.mpr ⟨⟨(trivial), trivial⟩, ?_⟩
  refine List.forall_mem_cons.mpr ⟨⟨(mj_lkG (by decide) rfl (by decide) mj_inU0 mjf_0_35), trivial⟩, ?_⟩
  refine List.forall_mem_cons.mpr ⟨⟨(mj_lkG (by decide) rfl (by decide) mj_inU5 mjf_0_43), trivial⟩, ?_⟩
  refine List.forall_mem_cons.mpr ⟨⟨(show (0 : Int) ≤ ((7 : Nat) : Int) + 14 by decide), trivial⟩, ?_⟩
  refine List.forall_mem_cons.mpr ⟨⟨(trivial), trivial⟩, ?_⟩
  refine List.forall_mem_cons.mpr ⟨⟨(mj_lkG (by decide) rfl (by decide) mj_inU0 mjf_0_35), trivial⟩, ?_⟩
  refine List.forall_mem_cons.mpr ⟨⟨(trivial), trivial⟩, ?_⟩
  refine List.forall_mem_cons.mpr ⟨⟨(trivial), mj_ckOf mjK_92 (by decide) (mj_lnkG mjl_0_136)⟩, ?_⟩
  refine List.forall_mem_cons.mpr ⟨⟨(show (0 : Int) ≤ ((18 : Nat) : Int) + 4 by decide), trivial⟩, ?_⟩
  refine List.forall_mem_cons.mpr ⟨⟨(trivial), trivial⟩, ?_⟩
  refine List.forall_mem_cons.mpr ⟨⟨(trivial), trivial⟩, ?_⟩
  exact fun _ h => absurd h List.not_mem_nil
theorem mjd_91 : mj_ckd 91 = true := by decide +kernel
theorem mjg_91 : mj_good 91 := mj_goodOf (fun _ => ⟨mj_G, rfl⟩) (by decide +kernel) mjd_91 mje_91
theorem mje_92 : ∀ e ∈ mj_tb92, mj_lk 92 e.1 e.2.1 e.2.2.1 e.2.2.2 ∧ mj_cok 92 e.2.1 e.2.2.1 e.2.2.2 := by
  unfold mj_tb92
  refine List.forall_mem_cons.mpr ⟨⟨(trivial), trivial⟩, ?_⟩
  refine List.forall_mem_cons.mpr ⟨⟨(show (0 : Int) ≤ ((1 : Nat) : Int) + 81 ∧ ∀ off ∈ (#[43, 48, 53, 58, 66, 71, 76] : Array Int).toList, (0 : Int) ≤ ((1 : Nat) : Int) + off by decide), trivial⟩, ?_⟩
  refine List.forall_mem_cons.mpr ⟨⟨(trivial), trivial⟩, ?_⟩
  refine List.forall_mem_cons.mpr ⟨⟨(mj_lkG (by decide) rfl (by decide) mj_inU5 mjf_5_50), trivial⟩, ?_⟩
  refine List.forall_mem_cons.mpr ⟨⟨(trivial), trivial⟩, ?_⟩
  refine List.forall_mem_cons.mpr ⟨⟨(trivial), trivial⟩, ?_⟩
  refine List.forall_mem_cons.mpr ⟨⟨(mj_lkG (by decide) rfl (by decide) mj_inU5 mjf_5_56), trivial⟩, ?_⟩
  refine List.forall_mem_cons.mpr ⟨⟨(trivial), trivial⟩, ?_⟩
  refine List.forall_mem_cons.mpr ⟨⟨(trivial), trivial⟩, ?_⟩
  refine List.forall_mem_cons.mpr ⟨⟨(mj_lkG (by decide) rfl (by decide) mj_inU5 mjf_5_59), trivial⟩, ?_⟩
  refine List.forall_mem_cons.mpr ⟨⟨(trivial), trivial⟩, ?_⟩
  refine List.forall_mem_cons.mpr ⟨⟨(trivial), trivial⟩, ?_⟩
  refine List.forall_mem_cons.mpr ⟨⟨(mj_lkG (by decide) rfl (by decide) mj_inU5 mjf_5_24), trivial⟩, ?_⟩
  refine List.forall_mem_cons.mpr ⟨⟨(mj_lkG (by decide) rfl (by decide) mj_inU7 mjf_5_71), trivial⟩, ?_⟩
  refine List.forall_mem_cons.mpr ⟨⟨(trivial), trivial⟩, ?_⟩
  refine List.forall_mem_cons.mpr ⟨⟨(trivial), trivial⟩, ?_⟩
  refine List.forall_mem_cons.mpr ⟨⟨(mj_lkG (by decide) rfl (by decide) mj_inU5 mjf_5_62), trivial⟩, ?_⟩
  refine List.forall_mem_cons.mpr ⟨⟨(trivial), trivial⟩, ?_⟩
  refine List.forall_mem_cons.mpr ⟨⟨(trivial), trivial⟩, ?_⟩
  refine List.forall_mem_cons.mpr ⟨⟨(mj_lkG (by decide) rfl (by decide) mj_inU5 mjf_5_65), trivial⟩, ?_⟩
  refine List.forall_mem_cons.mpr ⟨⟨(trivial), trivial⟩, ?_⟩
  refine List.forall_mem_cons.mpr ⟨⟨(trivial), trivial⟩, ?_⟩
  refine List.forall_mem_cons.mpr ⟨⟨(mj_lkG (by decide) rfl (by decide) mj_inU5 mjf_5_68), trivial⟩, ?_⟩
  refine List.forall_mem_cons.mpr ⟨⟨(trivial), trivial⟩, ?_⟩
  refine List.forall_mem_cons.mpr ⟨⟨(trivial), trivial⟩, ?_⟩
  refine List.forall_mem_cons.mpr ⟨⟨(trivial), trivial⟩, ?_⟩
  exact fun _ h => absurd h List.not_mem_nil
theorem mjd_92 : mj_ckd 92 = true := by decide +kernel
theorem mjg_92 : mj_good 92 := mj_goodOf (fun _ => ⟨mj_G, rfl⟩) (by decide +kernel) mjd_92 mje_92
theorem mje_93 : ∀ e ∈ mj_tb93, mj_lk 93 e.1 e.2.1 e.2.2.1 e.2.2.2 ∧ mj_cok 93 e.2.1 e.2.2.1 e.2.2.2 := by
  unfold mj_tb93
  refine List.forall_mem_cons.mpr ⟨⟨(trivial), trivial⟩, ?_⟩
  refine List.forall_mem_cons.mpr ⟨⟨(trivial), trivial⟩, ?_⟩
  refine List.forall_mem_cons.mpr ⟨⟨(trivial), mj_ckOf mjK_59 (by decide) (mj_lnkG mjl_0_116)⟩, ?_⟩
  refine List.forall_mem_cons.mpr ⟨⟨(show (0 : Int) ≤ ((5 : Nat) : Int) + 15 by decide), trivial⟩, ?_⟩
  refine List.forall_mem_cons.mpr ⟨⟨(trivial), trivial⟩, ?_⟩
  refine List.forall_mem_cons.mpr ⟨⟨(mj_lkG (by decide) rfl (by decide) mj_inU0 mjf_0_35), trivial⟩, ?_⟩
  refine List.forall_mem_cons.mpr ⟨⟨(trivial), trivial⟩, ?_⟩
  refine List.forall_mem_cons.mpr ⟨⟨(trivial), trivial⟩, ?_⟩
  refine List.forall_mem_cons.mpr ⟨⟨(trivial), mj_ckOf mjK_94 (by decide) (mj_lnkG mjl_0_139)⟩, ?_⟩
  refine List.forall_mem_cons.mpr ⟨⟨(show (0 : Int) ≤ ((17 : Nat) : Int) + 4 by decide), trivial⟩, ?_⟩
  refine List.forall_mem_cons.mpr ⟨⟨(trivial), trivial⟩, ?_⟩
  refine List.forall_mem_cons.mpr ⟨⟨(trivial), trivial⟩, ?_⟩
  exact fun _ h => absurd h List.not_mem_nil
theorem mjd_93 : mj_ckd 93 = true := by decide +kernel
theorem mjg_93 : mj_good 93 := mj_goodOf (fun _ => ⟨mj_G, rfl⟩) (by decide +kernel) mjd_93 mje_93
theorem mje_94 : ∀ e ∈ mj_tb94, mj_lk 94 e.1 e.2.1 e.2.2.1 e.2.2.2 ∧ mj_cok 94 e.2.1 e.2.2.1 e.2.2.2 := by
  unfold mj_tb94
  refine List.forall_mem_cons.mpr ⟨⟨(trivial), trivial⟩, ?_⟩
  refine List.forall_mem_cons.mpr ⟨⟨(mj_lkG (by decide) rfl (by decide) mj_inU5 mjf_5_11), trivial⟩, ?_⟩
  refine List.forall_mem_cons.mpr ⟨⟨(trivial), trivial⟩, ?_⟩
  refine List.forall_mem_cons.mpr ⟨⟨(trivial), trivial⟩, ?_⟩
  refine List.forall_mem_cons.mpr ⟨⟨(mj_lkG (by decide) rfl (by decide) mj_inU8 mjf_5_104), trivial⟩, ?_⟩
  refine List.forall_mem_cons.mpr ⟨⟨(show (3 : Nat) < mj_maxL 94 by decide), trivial⟩, ?_⟩
  refine List.forall_mem_cons.mpr ⟨⟨(trivial), trivial⟩, ?_⟩
  refine List.forall_mem_cons.mpr ⟨⟨(mj_lkG (by decide) rfl (by decide) mj_inU6 mjf_5_112), trivial⟩, ?_⟩
  refine List.forall_mem_cons.mpr ⟨⟨(show (0 : Int) ≤ ((14 : Nat) : Int) + 5 by decide), trivial⟩, ?_⟩
  refine List.forall_mem_cons.mpr ⟨⟨(trivial), trivial⟩, ?_⟩
  refine List.forall_mem_cons.mpr ⟨⟨(trivial), trivial⟩, ?_⟩
  refine List.forall_mem_cons.mpr ⟨⟨(trivial), trivial⟩, ?_⟩
  refine List.forall_mem_cons.mpr ⟨⟨(show (0 : Int) ≤ ((20 : Nat) : Int) + 57 ∧ ∀ off ∈ (#[32, 37, 47, 52] : Array Int).toList, (0 : Int) ≤ ((20 : Nat) : Int) + off by decide), trivial⟩, ?_⟩
  refine List.forall_mem_cons.mpr ⟨⟨(trivial), trivial⟩, ?_⟩
  refine List.forall_mem_cons.mpr ⟨⟨(mj_lkG (by decide) rfl (by decide) mj_inU6 mjf_5_211), trivial⟩, ?_⟩
  refine List.forall_mem_cons.mpr ⟨⟨(trivial), trivial⟩, ?_⟩
  refine List.forall_mem_cons.mpr ⟨⟨(trivial), trivial⟩, ?_⟩
  refine List.forall_mem_cons.mpr ⟨⟨(mj_lkG (by decide) rfl (by decide) mj_inU5 mjf_5_50), trivial⟩, ?_⟩
  refine List.forall_mem_cons.mpr ⟨⟨(trivial), trivial⟩, ?_⟩
  refine List.forall_mem_cons.mpr ⟨⟨(mj_lkG (by decide) rfl (by decide) mj_inU6 mjf_5_117), trivial⟩, ?_⟩
  refine List.forall_mem_cons.mpr ⟨⟨(trivial), trivial⟩, ?_⟩
  refine List.forall_mem_cons.mpr ⟨⟨(trivial), trivial⟩, ?_⟩
  refine List.forall_mem_cons.mpr ⟨⟨(trivial), trivial⟩, ?_⟩
  refine List.forall_mem_cons.mpr ⟨⟨(mj_lkG (by decide) rfl (by decide) mj_inU6 mjf_5_237), trivial⟩, ?_⟩
  refine List.forall_mem_cons.mpr ⟨⟨(trivial), trivial⟩, ?_⟩
  refine List.forall_mem_cons.mpr ⟨⟨(trivial), trivial⟩, ?_⟩
  refine List.forall_mem_cons.mpr ⟨⟨(mj_lkG (by decide) rfl (by decide) mj_inU6 mjf_5_184), trivial⟩, ?_⟩
  refine List.forall_mem_cons.mpr ⟨⟨(trivial), trivial⟩, ?_⟩
  refine List.forall_mem_cons.mpr ⟨⟨(trivial), trivial⟩, ?_⟩
  refine List.forall_mem_cons.mpr ⟨⟨(trivial), trivial⟩, ?_⟩
  exact fun _ h => absurd h List.not_mem_nil
theorem mjd_94 : mj_ckd 94 = true := by decide +kernel
theorem mjg_94 : mj_good 94 := mj_goodOf (fun _ => ⟨mj_G, rfl⟩) (by decide +kernel) mjd_94 mje_94
theorem mje_95 : ∀ e ∈ mj_tb95, mj_lk 95 e.1 e.2.1 e.2.2.1 e.2.2.2 ∧ mj_cok 95 e.2.1 e.2.2.1 e.2.2.2 := by
  unfold mj_tb95
  refine List.forall_mem_cons.mpr ⟨⟨(trivial), trivial⟩, ?_⟩
  refine List.forall_mem_cons.mpr ⟨⟨(trivial), trivial⟩, ?_⟩
  refine List.forall_mem_cons.mpr ⟨⟨(trivial), mj_ckOf mjK_59 (by decide) (mj_lnkG mjl_0_116)⟩, ?_⟩
  refine List.forall_mem_cons.mpr ⟨⟨(show (0 : Int) ≤ ((5 : Nat) : Int) + 18 by decide), trivial⟩, ?_⟩
  refine List.forall_mem_cons.mpr ⟨⟨(trivial), trivial⟩, ?_⟩
  refine List.forall_mem_cons.mpr ⟨⟨(mj_lkG (by decide) rfl (by decide) mj_inU0 mjf_0_35), trivial⟩, ?_⟩
  refine List.forall_mem_cons.mpr ⟨⟨(mj_lkG (by decide) rfl (by decide) mj_inU5 mjf_0_119), trivial⟩, ?_⟩
  refine List.forall_mem_cons.mpr ⟨⟨(trivial), trivial⟩, ?_⟩
  refine List.forall_mem_cons.mpr ⟨⟨(trivial), trivial⟩, ?_⟩
  refine List.forall_mem_cons.mpr ⟨⟨(mj_lkG (by decide) rfl (by decide) mj_inU8 mjf_0_143), trivial⟩, ?_⟩
  refine List.forall_mem_cons.mpr ⟨⟨(show (0 : Int) ≤ ((20 : Nat) : Int) + 4 by decide), trivial⟩, ?_⟩
  refine List.forall_mem_cons.mpr ⟨⟨(trivial), trivial⟩, ?_⟩
  refine List.forall_mem_cons.mpr ⟨⟨(trivial), trivial⟩, ?_⟩
  exact fun _ h => absurd h List.not_mem_nil
theorem mjd_95 : mj_ckd 95 = true := by decide +kernel
theorem mjg_95 : mj_good 95 := mj_goodOf (fun _ => ⟨mj_G, rfl⟩) (by decide +kernel) mjd_95 mje_95
theorem mje_96 : ∀ e ∈ mj_tb96, mj_lk 96 e.1 e.2.1 e.2.2.1 e.2.2.2 ∧ mj_cok 96 e.2.1 e.2.2.1 e.2.2.2 := by
  unfold mj_tb96
  refine List.forall_mem_cons.mpr ⟨⟨(trivial), trivial⟩, ?_⟩
  refine List.forall_mem_cons.mpr ⟨⟨(trivial), trivial⟩, ?_⟩
  refine List.forall_mem_cons.mpr ⟨⟨(trivial), mj_ckOf mjK_59 (by decide) (mj_lnkG mjl_0_116)⟩, ?_⟩
  refine List.forall_mem_cons.mpr ⟨⟨(show (0 : Int) ≤ ((5 : Nat) : Int) + 29 by decide), trivial⟩, ?_⟩
  refine List.forall_mem_cons.mpr ⟨⟨(trivial), trivial⟩, ?_⟩
  refine List.forall_mem_cons.mpr ⟨⟨(trivial), trivial⟩, ?_⟩
  refine List.forall_mem_cons.mpr ⟨⟨(trivial), mj_ckOf mjK_15 (by decide) (mj_lnkG mjl_0_62)⟩, ?_⟩
  refine List.forall_mem_cons.mpr ⟨⟨(show (0 : Int) ≤ ((14 : Nat) : Int) + 20 by decide), trivial⟩, ?_⟩
  refine List.forall_mem_cons.mpr ⟨⟨(trivial), trivial⟩, ?_⟩
  refine List.forall_mem_cons.mpr ⟨⟨(mj_lkG (by decide) rfl (by decide) mj_inU0 mjf_0_35), trivial⟩, ?_⟩
  refine List.forall_mem_cons.mpr ⟨⟨(mj_lkG (by decide) rfl (by decide) mj_inU5 mjf_0_119), trivial⟩, ?_⟩
  refine List.forall_mem_cons.mpr ⟨⟨(trivial), trivial⟩, ?_⟩
  refine List.forall_mem_cons.mpr ⟨⟨(trivial), trivial⟩, ?_⟩
  refine List.forall_mem_cons.mpr ⟨⟨(mj_lkG (by decide) rfl (by decide) mj_inU8 mjf_0_146), trivial⟩, ?_⟩
  refine List.forall_mem_cons.mpr ⟨⟨(trivial), trivial⟩, ?_⟩
  refine List.forall_mem_cons.mpr ⟨⟨(trivial), trivial⟩, ?_⟩
  refine List.forall_mem_cons.mpr ⟨⟨(show (0 : Int) ≤ ((31 : Nat) : Int) + 4 by decide), trivial⟩, ?_⟩
  refine List.forall_mem_cons.mpr ⟨⟨(trivial), trivial⟩, ?_⟩
  refine List.forall_mem_cons.mpr ⟨⟨(trivial), trivial⟩, ?_⟩
  exact fun _ h => absurd h List.not_mem_nil
theorem mjd_96 : mj_ckd 96 = true := by decide +kernel
theorem mjg_96 : mj_good 96 := mj_goodOf (fun _ => ⟨mj_G, rfl⟩) (by decide +kernel) mjd_96 mje_96
end
section
theorem mje_97 : ∀ e ∈ mj_tb97, mj_lk 97 e.1 e.2.1 e.2.2.1 e.2.2.2 ∧ mj_cok 97 e.2.1 e.2.2.1 e.2.2.2 := by
  unfold mj_tb97
  refine List.forall_mem_cons.mpr ⟨⟨(trivial), trivial⟩, ?_⟩
  refine List.forall_mem_cons.mpr ⟨⟨(mj_lkG (by decide) rfl (by decide) mj_inU0 mjf_0_35), trivial⟩, ?_⟩
  refine List.forall_mem_cons.mpr ⟨⟨(mj_lkG (by decide) rfl (by decide) mj_inU5 mjf_0_43), trivial⟩, ?_⟩
  refine List.forall_mem_cons.mpr ⟨⟨(show (0 : Int) ≤ ((7 : Nat) : Int) + 18 by decide), trivial⟩, ?_⟩
  refine List.forall_mem_cons.mpr ⟨⟨(trivial), trivial⟩, ?_⟩
  refine List.forall_mem_cons.mpr ⟨⟨(mj_lkG (by decide) rfl (by decide) mj_inU0 mjf_0_35), trivial⟩, ?_⟩
  refine List.forall_mem_cons.mpr ⟨⟨(mj_lkG (by decide) rfl (by decide) mj_inU5 mjf_0_149), trivial⟩, ?_⟩
  refine List.forall_mem_cons.mpr ⟨⟨(trivial), trivial⟩, ?_⟩
  refine List.forall_mem_cons.mpr ⟨⟨(trivial), trivial⟩, ?_⟩
  refine List.forall_mem_cons.mpr ⟨⟨(trivial), mj_ckOf mjK_98 (by decide) (mj_lnkG mjl_0_153)⟩, ?_⟩
  refine List.forall_mem_cons.mpr ⟨⟨(show (0 : Int) ≤ ((22 : Nat) : Int) + 4 by decide), trivial⟩, ?_⟩
  refine List.forall_mem_cons.mpr ⟨⟨(trivial), trivial⟩, ?_⟩
  refine List.forall_mem_cons.mpr ⟨⟨(trivial), trivial⟩, ?_⟩
  exact fun _ h => absurd h List.not_mem_nil
theorem mjd_97 : mj_ckd 97 = true := by decide +kernel
theorem mjg_97 : mj_good 97 := mj_goodOf (fun _ => ⟨mj_G, rfl⟩) (by decide +kernel) mjd_97 mje_97
theorem mje_98 : ∀ e ∈ mj_tb98, mj_lk 98 e.1 e.2.1 e.2.2.1 e.2.2.2 ∧ mj_cok 98 e.2.1 e.2.2.1 e.2.2.2 := by
  unfold mj_tb98
  refine List.forall_mem_cons.mpr ⟨⟨(trivial), trivial⟩, ?_⟩
  refine List.forall_mem_cons.mpr ⟨⟨(trivial), trivial⟩, ?_⟩
  refine List.forall_mem_cons.mpr ⟨⟨(mj_lkG (by decide) rfl (by decide) mj_inU7 mjf_7_24), trivial⟩, ?_⟩
  refine List.forall_mem_cons.mpr ⟨⟨(trivial), trivial⟩, ?_⟩
  refine List.forall_mem_cons.mpr ⟨⟨(trivial), ⟨mj_Gws (mj_Gin 725 (by decide +kernel) rfl), mj_Gws (mj_Gin 650 (by decide +kernel) rfl), mj_Gws (mj_Gin 13 (by decide +kernel) rfl), mj_Gws (mj_Gin 651 (by decide +kernel) rfl), by decide, by decide⟩⟩, ?_⟩
  refine List.forall_mem_cons.mpr ⟨⟨(trivial), mj_ckOf mjK_15 (by decide) (Or.inr mjl_7_34)⟩, ?_⟩
  refine List.forall_mem_cons.mpr ⟨⟨(show (0 : Int) ≤ ((13 : Nat) : Int) + 5 by decide), trivial⟩, ?_⟩
  refine List.forall_mem_cons.mpr ⟨⟨(trivial), trivial⟩, ?_⟩
  refine List.forall_mem_cons.mpr ⟨⟨(trivial), trivial⟩, ?_⟩
  refine List.forall_mem_cons.mpr ⟨⟨(trivial), trivial⟩, ?_⟩
  refine List.forall_mem_cons.mpr ⟨⟨(mj_lkG (by decide) rfl (by decide) mj_inU7 mjf_7_24), trivial⟩, ?_⟩
  refine List.forall_mem_cons.mpr ⟨⟨(trivial), trivial⟩, ?_⟩
  refine List.forall_mem_cons.mpr ⟨⟨(trivial), trivial⟩, ?_⟩
  refine List.forall_mem_cons.mpr ⟨⟨(trivial), trivial⟩, ?_⟩
  refine List.forall_mem_cons.mpr ⟨⟨(trivial), trivial⟩, ?_⟩
  refine List.forall_mem_cons.mpr ⟨⟨(trivial), trivial⟩, ?_⟩
  refine List.forall_mem_cons.mpr ⟨⟨(trivial), trivial⟩, ?_⟩
  refine List.forall_mem_cons.mpr ⟨⟨(show (3 : Nat) < mj_maxL 98 by decide), trivial⟩, ?_⟩
  refine List.forall_mem_cons.mpr ⟨⟨(trivial), trivial⟩, ?_⟩
  refine List.forall_mem_cons.mpr ⟨⟨(show (0 : Int) ≤ ((31 : Nat) : Int) + 57 ∧ ∀ off ∈ (#[29, 36, 43, 50] : Array Int).toList, (0 : Int) ≤ ((31 : Nat) : Int) + off by decide), trivial⟩, ?_⟩
  refine List.forall_mem_cons.mpr ⟨⟨(trivial), trivial⟩, ?_⟩
  refine List.forall_mem_cons.mpr ⟨⟨(mj_lkG (by decide) rfl (by decide) mj_inU7 mjf_7_9), trivial⟩, ?_⟩
  refine List.forall_mem_cons.mpr ⟨⟨(trivial), trivial⟩, ?_⟩
  refine List.forall_mem_cons.mpr ⟨⟨(trivial), trivial⟩, ?_⟩
  refine List.forall_mem_cons.mpr ⟨⟨(trivial), trivial⟩, ?_⟩
  refine List.forall_mem_cons.mpr ⟨⟨(trivial), trivial⟩, ?_⟩
  refine List.forall_mem_cons.mpr ⟨⟨(mj_lkG (by decide) rfl (by decide) mj_inU7 mjf_7_15), trivial⟩, ?_⟩
  refine List.forall_mem_cons.mpr ⟨⟨(trivial), trivial⟩, ?_⟩
  refine List.forall_mem_cons.mpr ⟨⟨(trivial), trivial⟩, ?_⟩
  refine List.forall_mem_cons.mpr ⟨⟨(trivial), trivial⟩, ?_⟩
  refine List.forall_mem_cons.mpr ⟨⟨(trivial), trivial⟩, ?_⟩
  refine List.forall_mem_cons.mpr ⟨⟨(mj_lkG (by decide) rfl (by decide) mj_inU7 mjf_7_18), trivial⟩, ?_⟩
  refine List.forall_mem_cons.mpr ⟨⟨(trivial), trivial⟩, ?_⟩
  refine List.forall_mem_cons.mpr ⟨⟨(trivial), trivial⟩, ?_⟩
  refine List.forall_mem_cons.mpr ⟨⟨(trivial), trivial⟩, ?_⟩
  refine List.forall_mem_cons.mpr ⟨⟨(trivial), trivial⟩, ?_⟩
  refine List.forall_mem_cons.mpr ⟨⟨(mj_lkG (by decide) rfl (by decide) mj_inU7 mjf_7_21), trivial⟩, ?_⟩
  refine List.forall_mem_cons.mpr ⟨⟨(trivial), trivial⟩, ?_⟩
  refine List.forall_mem_cons.mpr ⟨⟨(trivial), trivial⟩, ?_⟩
  refine List.forall_mem_cons.mpr ⟨⟨(trivial), trivial⟩, ?_⟩
  refine List.forall_mem_cons.mpr ⟨⟨(trivial), trivial⟩, ?_⟩
  refine List.forall_mem_cons.mpr ⟨⟨(trivial), trivial⟩, ?_⟩
  exact fun _ h => absurd h List.not_mem_nil
theorem mjd_98 : mj_ckd 98 = true := by decide +kernel
theorem mjg_98 : mj_good 98 := mj_goodOf (fun _ => ⟨mj_G, rfl⟩) (by decide +kernel) mjd_98 mje_98
theorem mje_99 : ∀ e ∈ mj_tb99, mj_lk 99 e.1 e.2.1 e.2.2.1 e.2.2.2 ∧ mj_cok 99 e.2.1 e.2.2.1 e.2.2.2 := by
  unfold mj_tb99
  refine List.forall_mem_cons.mpr ⟨⟨(trivial), trivial⟩, ?_⟩
  refine List.forall_mem_cons.mpr ⟨⟨(trivial), ⟨mj_Gws (mj_Gin 732 (by decide +kernel) rfl), mj_Gws (mj_Gin 20 (by decide +kernel) rfl), mj_Gws (mj_Gin 21 (by decide +kernel) rfl), by decide, by decide⟩⟩, ?_⟩
  refine List.forall_mem_cons.mpr ⟨⟨(trivial), trivial⟩, ?_⟩
  refine List.forall_mem_cons.mpr ⟨⟨(trivial), trivial⟩, ?_⟩
  refine List.forall_mem_cons.mpr ⟨⟨(mj_lkP (by decide) rfl (by decide) mj_inU10 mjf_10_7 mj_TyOk10 mj_Nm10 (Or.inl rfl) rfl), trivial⟩, ?_⟩
  refine List.forall_mem_cons.mpr ⟨⟨(trivial), trivial⟩, ?_⟩
  refine List.forall_mem_cons.mpr ⟨⟨(trivial), trivial⟩, ?_⟩
  refine List.forall_mem_cons.mpr ⟨⟨(⟨mj_Gws (mj_Gin 47 (by decide +kernel) rfl), Or.inl ⟨rfl, rfl⟩⟩), trivial⟩, ?_⟩
  refine List.forall_mem_cons.mpr ⟨⟨(mj_lkP (by decide) rfl (by decide) mj_inU10 mjf_10_13 mj_TyOk10 mj_Nm10 (Or.inl rfl) rfl), trivial⟩, ?_⟩
  refine List.forall_mem_cons.mpr ⟨⟨(trivial), trivial⟩, ?_⟩
  refine List.forall_mem_cons.mpr ⟨⟨(trivial), trivial⟩, ?_⟩
  refine List.forall_mem_cons.mpr ⟨⟨(⟨mj_Gws (mj_Gin 47 (by decide +kernel) rfl), Or.inl ⟨rfl, rfl⟩⟩), trivial⟩, ?_⟩
  refine List.forall_mem_cons.mpr ⟨⟨(mj_lkP (by decide) rfl (by decide) mj_inU10 mjf_10_17 mj_TyOk10 mj_Nm10 (Or.inl rfl) rfl), trivial⟩, ?_⟩
  refine List.forall_mem_cons.mpr ⟨⟨(trivial), trivial⟩, ?_⟩
  refine List.forall_mem_cons.mpr ⟨⟨(trivial), trivial⟩, ?_⟩
  refine List.forall_mem_cons.mpr ⟨⟨(⟨mj_Gws (mj_Gin 47 (by decide +kernel) rfl), Or.inl ⟨rfl, rfl⟩⟩), trivial⟩, ?_⟩
  refine List.forall_mem_cons.mpr ⟨⟨(mj_lkP (by decide) rfl (by decide) mj_inU10 mjf_10_20 mj_TyOk10 mj_Nm10 (Or.inl rfl) rfl), trivial⟩, ?_⟩
  refine List.forall_mem_cons.mpr ⟨⟨(trivial), trivial⟩, ?_⟩
  refine List.forall_mem_cons.mpr ⟨⟨(trivial), trivial⟩, ?_⟩
  refine List.forall_mem_cons.mpr ⟨⟨(⟨mj_Gws (mj_Gin 47 (by decide +kernel) rfl), Or.inl ⟨rfl, rfl⟩⟩), trivial⟩, ?_⟩
  refine List.forall_mem_cons.mpr ⟨⟨(mj_lkP (by decide) rfl (by decide) mj_inU10 mjf_10_23 mj_TyOk10 mj_Nm10 (Or.inl rfl) rfl), trivial⟩, ?_⟩
  refine List.forall_mem_cons.mpr ⟨⟨(trivial), trivial⟩, ?_⟩
  refine List.forall_mem_cons.mpr ⟨⟨(trivial), trivial⟩, ?_⟩
  refine List.forall_mem_cons.mpr ⟨⟨(⟨mj_Gws (mj_Gin 47 (by decide +kernel) rfl), Or.inl ⟨rfl, rfl⟩⟩), trivial⟩, ?_⟩
  refine List.forall_mem_cons.mpr ⟨⟨(mj_lkP (by decide) rfl (by decide) mj_inU10 mjf_10_26 mj_TyOk10 mj_Nm10 (Or.inl rfl) rfl), trivial⟩, ?_⟩
  refine List.forall_mem_cons.mpr ⟨⟨(trivial), trivial⟩, ?_⟩
  refine List.forall_mem_cons.mpr ⟨⟨(trivial), trivial⟩, ?_⟩
  refine List.forall_mem_cons.mpr ⟨⟨(⟨mj_Gws (mj_Gin 47 (by decide +kernel) rfl), Or.inl ⟨rfl, rfl⟩⟩), trivial⟩, ?_⟩
  refine List.forall_mem_cons.mpr ⟨⟨(mj_lkP (by decide) rfl (by decide) mj_inU10 mjf_10_29 mj_TyOk10 mj_Nm10 (Or.inl rfl) rfl), trivial⟩, ?_⟩
  refine List.forall_mem_cons.mpr ⟨⟨(trivial), trivial⟩, ?_⟩
  refine List.forall_mem_cons.mpr ⟨⟨(trivial), trivial⟩, ?_⟩
  refine List.forall_mem_cons.mpr ⟨⟨(⟨mj_Gws (mj_Gin 47 (by decide +kernel) rfl), Or.inl ⟨rfl, rfl⟩⟩), trivial⟩, ?_⟩
  refine List.forall_mem_cons.mpr ⟨⟨(mj_lkP (by decide) rfl (by decide) mj_inU10 mjf_10_32 mj_TyOk10 mj_Nm10 (Or.inl rfl) rfl), trivial⟩, ?_⟩
  refine List.forall_mem_cons.mpr ⟨⟨(trivial), trivial⟩, ?_⟩
  refine List.forall_mem_cons.mpr ⟨⟨(trivial), trivial⟩, ?_⟩
  refine List.forall_mem_cons.mpr ⟨⟨(⟨mj_Gws (mj_Gin 47 (by decide +kernel) rfl), Or.inl ⟨rfl, rfl⟩⟩), trivial⟩, ?_⟩
  refine List.forall_mem_cons.mpr ⟨⟨(mj_lkP (by decide) rfl (by decide) mj_inU10 mjf_10_35 mj_TyOk10 mj_Nm10 (Or.inl rfl) rfl), trivial⟩, ?_⟩
  refine List.forall_mem_cons.mpr ⟨⟨(trivial), trivial⟩, ?_⟩
  refine List.forall_mem_cons.mpr ⟨⟨(trivial), trivial⟩, ?_⟩
  refine List.forall_mem_cons.mpr ⟨⟨(⟨mj_Gws (mj_Gin 47 (by decide +kernel) rfl), Or.inl ⟨rfl, rfl⟩⟩), trivial⟩, ?_⟩
  refine List.forall_mem_cons.mpr ⟨⟨(trivial), trivial⟩, ?_⟩
  refine List.forall_mem_cons.mpr ⟨⟨(trivial), trivial⟩, ?_⟩
  refine List.forall_mem_cons.mpr ⟨⟨(trivial), trivial⟩, ?_⟩
  refine List.forall_mem_cons.mpr ⟨⟨(trivial), trivial⟩, ?_⟩
  refine List.forall_mem_cons.mpr ⟨⟨(trivial), trivial⟩, ?_⟩
  refine List.forall_mem_cons.mpr ⟨⟨(trivial), trivial⟩, ?_⟩
  refine List.forall_mem_cons.mpr ⟨⟨(trivial), trivial⟩, ?_⟩
  refine List.forall_mem_cons.mpr ⟨⟨(trivial), trivial⟩, ?_⟩
  refine List.forall_mem_cons.mpr ⟨⟨(trivial), trivial⟩, ?_⟩
  refine List.forall_mem_cons.mpr ⟨⟨(trivial), trivial⟩, ?_⟩
  refine List.forall_mem_cons.mpr ⟨⟨(trivial), trivial⟩, ?_⟩
  refine List.forall_mem_cons.mpr ⟨⟨(trivial), trivial⟩, ?_⟩
  refine List.forall_mem_cons.mpr ⟨⟨(trivial), trivial⟩, ?_⟩
  refine List.forall_mem_cons.mpr ⟨⟨(trivial), trivial⟩, ?_⟩
  refine List.forall_mem_cons.mpr ⟨⟨(trivial), trivial⟩, ?_⟩
  refine List.forall_mem_cons.mpr ⟨⟨(trivial), trivial⟩, ?_⟩
  refine List.forall_mem_cons.mpr ⟨⟨(trivial), trivial⟩, ?_⟩
  refine List.forall_mem_cons.mpr ⟨⟨(trivial), trivial⟩, ?_⟩
  refine List.forall_mem_cons.mpr ⟨⟨(trivial), trivial⟩, ?_⟩
  refine List.forall_mem_cons.mpr ⟨⟨(trivial), trivial⟩, ?_⟩
  refine List.forall_mem_cons.mpr ⟨⟨(trivial), trivial⟩, ?_⟩
  refine List.forall_mem_cons.mpr ⟨⟨(trivial), trivial⟩, ?_⟩
  refine List.forall_mem_cons.mpr ⟨⟨(trivial), trivial⟩, ?_⟩
  refine List.forall_mem_cons.mpr ⟨⟨(trivial), trivial⟩, ?_⟩
  refine List.forall_mem_cons.mpr ⟨⟨(trivial), trivial⟩, ?_⟩
  refine List.forall_mem_cons.mpr ⟨⟨(trivial), trivial⟩, ?_⟩
  refine List.forall_mem_cons.mpr ⟨⟨(trivial), trivial⟩, ?_⟩
  refine List.forall_mem_cons.mpr ⟨⟨(trivial), trivial⟩, ?_⟩
  refine List.forall_mem_cons.mpr ⟨⟨(trivial), trivial⟩, ?_⟩
  refine List.forall_mem_cons.mpr ⟨⟨(trivial), trivial⟩, ?_⟩
  refine List.forall_mem_cons.mpr ⟨⟨(trivial), trivial⟩, ?_⟩
  refine List.forall_mem_cons.mpr ⟨⟨(trivial), trivial⟩, ?_⟩
  refine List.forall_mem_cons.mpr ⟨⟨(trivial), trivial⟩, ?_⟩
  refine List.forall_mem_cons.mpr ⟨⟨(trivial), trivial⟩, ?_⟩
  refine List.forall_mem_cons.mpr ⟨⟨(trivial), trivial⟩, ?_⟩
  refine List.forall_mem_cons.mpr ⟨⟨(trivial), trivial⟩, ?_⟩
  refine List.forall_mem_cons.mpr ⟨⟨(trivial), trivial⟩, ?_⟩
  refine List.forall_mem_cons.mpr ⟨⟨(trivial), trivial⟩, ?_⟩
  refine List.forall_mem_cons.mpr ⟨⟨(trivial), trivial⟩, ?_⟩
  refine List.forall_mem_cons.mpr ⟨⟨(trivial), trivial⟩, ?_⟩
  refine List.forall_mem_cons.mpr ⟨⟨(trivial), trivial⟩, ?_⟩
  refine List.forall_mem_cons.mpr ⟨⟨(trivial), trivial⟩, ?_⟩
  refine List.forall_mem_cons.mpr ⟨⟨(trivial), trivial⟩, ?_⟩
  refine List.forall_mem_cons.mpr ⟨⟨(trivial), trivial⟩, ?_⟩
  refine List.forall_mem_cons.mpr ⟨⟨(trivial), trivial⟩, ?_⟩
  refine List.forall_mem_cons.mpr ⟨⟨(trivial), trivial⟩, ?_⟩
  refine List.forall_mem_cons.mpr ⟨⟨(trivial), trivial⟩, ?_⟩
  refine List.forall_mem_cons.mpr ⟨⟨(trivial), trivial⟩, ?_⟩
  refine List.forall_mem_cons.mpr ⟨⟨(trivial), trivial⟩, ?_⟩
  refine List.forall_mem_cons.mpr ⟨⟨(trivial), trivial⟩, ?_⟩
  refine List.forall_mem_cons.mpr ⟨⟨(trivial), trivial⟩, ?_⟩
  refine List.forall_mem_cons.mpr ⟨⟨(trivial), trivial⟩, ?_⟩
  refine List.forall_mem_cons.mpr ⟨⟨(trivial), trivial⟩, ?_⟩
  refine List.forall_mem_cons.mpr ⟨⟨(trivial), trivial⟩, ?_⟩
  refine List.forall_mem_cons.mpr ⟨⟨(trivial), trivial⟩, ?_⟩
  refine List.forall_mem_cons.mpr ⟨⟨(trivial), trivial⟩, ?_⟩
  refine List.forall_mem_cons.mpr ⟨⟨(trivial), trivial⟩, ?_⟩
  refine List.forall_mem_cons.mpr ⟨⟨(trivial), trivial⟩, ?_⟩
  refine List.forall_mem_cons.mpr ⟨⟨(trivial), trivial⟩, ?_⟩
  refine List.forall_mem_cons.mpr ⟨⟨(trivial), trivial⟩, ?_⟩
  refine List.forall_mem_cons.mpr ⟨⟨(mj_lkP (by decide) rfl (by decide) mj_inU10 mjf_10_38 mj_TyOk10 mj_Nm10 (Or.inl rfl) rfl), trivial⟩, ?_⟩
  refine List.forall_mem_cons.mpr ⟨⟨(trivial), trivial⟩, ?_⟩
  refine List.forall_mem_cons.mpr ⟨⟨(trivial), trivial⟩, ?_⟩
  refine List.forall_mem_cons.mpr ⟨⟨(⟨mj_Gws (mj_Gin 47 (by decide +kernel) rfl), Or.inl ⟨rfl, rfl⟩⟩), trivial⟩, ?_⟩
  refine List.forall_mem_cons.mpr ⟨⟨(mj_lkP (by decide) rfl (by decide) mj_inU10 mjf_10_41 mj_TyOk10 mj_Nm10 (Or.inl rfl) rfl), trivial⟩, ?_⟩
  refine List.forall_mem_cons.mpr ⟨⟨(trivial), trivial⟩, ?_⟩
  refine List.forall_mem_cons.mpr ⟨⟨(trivial), trivial⟩, ?_⟩
  refine List.forall_mem_cons.mpr ⟨⟨(⟨mj_Gws (mj_Gin 47 (by decide +kernel) rfl), Or.inl ⟨rfl, rfl⟩⟩), trivial⟩, ?_⟩
  refine List.forall_mem_cons.mpr ⟨⟨(mj_lkP (by decide) rfl (by decide) mj_inU10 mjf_10_44 mj_TyOk10 mj_Nm10 (Or.inl rfl) rfl), trivial⟩, ?_⟩
  refine List.forall_mem_cons.mpr ⟨⟨(trivial), trivial⟩, ?_⟩
  refine List.forall_mem_cons.mpr ⟨⟨(trivial), trivial⟩, ?_⟩
  refine List.forall_mem_cons.mpr ⟨⟨(⟨mj_Gws (mj_Gin 47 (by decide +kernel) rfl), Or.inl ⟨rfl, rfl⟩⟩), trivial⟩, ?_⟩
  refine List.forall_mem_cons.mpr ⟨⟨(mj_lkP (by decide) rfl (by decide) mj_inU10 mjf_10_47 mj_TyOk10 mj_Nm10 (Or.inl rfl) rfl), trivial⟩, ?_⟩
  refine List.forall_mem_cons.mpr ⟨⟨(trivial), trivial⟩, ?_⟩
  refine List.forall_mem_cons.mpr ⟨⟨(trivial), trivial⟩, ?_⟩
  refine List.forall_mem_cons.mpr ⟨⟨(⟨mj_Gws (mj_Gin 47 (by decide +kernel) rfl), Or.inl ⟨rfl, rfl⟩⟩), trivial⟩, ?_⟩
  refine List.forall_mem_cons.mpr ⟨⟨(mj_lkP (by decide) rfl (by decide) mj_inU10 mjf_10_50 mj_TyOk10 mj_Nm10 (Or.inl rfl) rfl), trivial⟩, ?_⟩
  refine List.forall_mem_cons.mpr ⟨⟨(trivial), trivial⟩, ?_⟩
  refine List.forall_mem_cons.mpr ⟨⟨(trivial), trivial⟩, ?_⟩
  refine List.forall_mem_cons.mpr ⟨⟨(⟨mj_Gws (mj_Gin 47 (by decide +kernel) rfl), Or.inl ⟨rfl, rfl⟩⟩), trivial⟩, ?_⟩
  refine List.forall_mem_cons.mpr ⟨⟨(mj_lkP (by decide) rfl (by decide) mj_inU10 mjf_10_53 mj_TyOk10 mj_Nm10 (Or.inl rfl) rfl), trivial⟩, ?_⟩
  refine List.forall_mem_cons.mpr ⟨⟨(trivial), trivial⟩, ?_⟩
  refine List.forall_mem_cons.mpr ⟨⟨(trivial), trivial⟩, ?_⟩
  refine List.forall_mem_cons.mpr ⟨⟨(⟨mj_Gws (mj_Gin 47 (by decide +kernel) rfl), Or.inl ⟨rfl, rfl⟩⟩), trivial⟩, ?_⟩
  refine List.forall_mem_cons.mpr ⟨⟨(mj_lkP (by decide) rfl (by decide) mj_inU10 mjf_10_56 mj_TyOk10 mj_Nm10 (Or.inl rfl) rfl), trivial⟩, ?_⟩
  refine List.forall_mem_cons.mpr ⟨⟨(trivial), trivial⟩, ?_⟩
  refine List.forall_mem_cons.mpr ⟨⟨(trivial), trivial⟩, ?_⟩
  refine List.forall_mem_cons.mpr ⟨⟨(⟨mj_Gws (mj_Gin 47 (by decide +kernel) rfl), Or.inl ⟨rfl, rfl⟩⟩), trivial⟩, ?_⟩
  refine List.forall_mem_cons.mpr ⟨⟨(mj_lkP (by decide) rfl (by decide) mj_inU10 mjf_10_59 mj_TyOk10 mj_Nm10 (Or.inl rfl) rfl), trivial⟩, ?_⟩
  refine List.forall_mem_cons.mpr ⟨⟨(trivial), trivial⟩, ?_⟩
  refine List.forall_mem_cons.mpr ⟨⟨(trivial), trivial⟩, ?_⟩
  refine List.forall_mem_cons.mpr ⟨⟨(⟨mj_Gws (mj_Gin 47 (by decide +kernel) rfl), Or.inl ⟨rfl, rfl⟩⟩), trivial⟩, ?_⟩
  refine List.forall_mem_cons.mpr ⟨⟨(mj_lkP (by decide) rfl (by decide) mj_inU10 mjf_10_62 mj_TyOk10 mj_Nm10 (Or.inl rfl) rfl), trivial⟩, ?_⟩
  refine List.forall_mem_cons.mpr ⟨⟨(trivial), trivial⟩, ?_⟩
  refine List.forall_mem_cons.mpr ⟨⟨(trivial), trivial⟩, ?_⟩
  refine List.forall_mem_cons.mpr ⟨⟨(⟨mj_Gws (mj_Gin 896 (by decide +kernel) rfl), Or.inr ⟨rfl, rfl⟩⟩), trivial⟩, ?_⟩
  refine List.forall_mem_cons.mpr ⟨⟨(mj_lkP (by decide) rfl (by decide) mj_inU10 mjf_10_65 mj_TyOk10 mj_Nm10 (Or.inl rfl) rfl), trivial⟩, ?_⟩
  refine List.forall_mem_cons.mpr ⟨⟨(trivial), trivial⟩, ?_⟩
  refine List.forall_mem_cons.mpr ⟨⟨(trivial), trivial⟩, ?_⟩
  refine List.forall_mem_cons.mpr ⟨⟨(⟨mj_Gws (mj_Gin 896 (by decide +kernel) rfl), Or.inr ⟨rfl, rfl⟩⟩), trivial⟩, ?_⟩
  refine List.forall_mem_cons.mpr ⟨⟨(mj_lkP (by decide) rfl (by decide) mj_inU10 mjf_10_69 mj_TyOk10 mj_Nm10 (Or.inl rfl) rfl), trivial⟩, ?_⟩
  refine List.forall_mem_cons.mpr ⟨⟨(trivial), trivial⟩, ?_⟩
  refine List.forall_mem_cons.mpr ⟨⟨(trivial), trivial⟩, ?_⟩
  refine List.forall_mem_cons.mpr ⟨⟨(⟨mj_Gws (mj_Gin 47 (by decide +kernel) rfl), Or.inl ⟨rfl, rfl⟩⟩), trivial⟩, ?_⟩
  refine List.forall_mem_cons.mpr ⟨⟨(mj_lkP (by decide) rfl (by decide) mj_inU10 mjf_10_72 mj_TyOk10 mj_Nm10 (Or.inl rfl) rfl), trivial⟩, ?_⟩
  refine List.forall_mem_cons.mpr ⟨⟨(trivial), trivial⟩, ?_⟩
  refine List.forall_mem_cons.mpr ⟨⟨(trivial), trivial⟩, ?_⟩
  refine List.forall_mem_cons.mpr ⟨⟨(⟨mj_Gws (mj_Gin 47 (by decide +kernel) rfl), Or.inl ⟨rfl, rfl⟩⟩), trivial⟩, ?_⟩
  refine List.forall_mem_cons.mpr ⟨⟨(mj_lkP (by decide) rfl (by decide) mj_inU10 mjf_10_75 mj_TyOk10 mj_Nm10 (Or.inl rfl) rfl), trivial⟩, ?_⟩
  refine List.forall_mem_cons.mpr ⟨⟨(trivial), trivial⟩, ?_⟩
  refine List.forall_mem_cons.mpr ⟨⟨(trivial), trivial⟩, ?_⟩
  refine List.forall_mem_cons.mpr ⟨⟨(⟨mj_Gws (mj_Gin 47 (by decide +kernel) rfl), Or.inl ⟨rfl, rfl⟩⟩), trivial⟩, ?_⟩
  refine List.forall_mem_cons.mpr ⟨⟨(mj_lkP (by decide) rfl (by decide) mj_inU10 mjf_10_78 mj_TyOk10 mj_Nm10 (Or.inl rfl) rfl), trivial⟩, ?_⟩
  refine List.forall_mem_cons.mpr ⟨⟨(trivial), trivial⟩, ?_⟩
  refine List.forall_mem_cons.mpr ⟨⟨(trivial), trivial⟩, ?_⟩
  refine List.forall_mem_cons.mpr ⟨⟨(⟨mj_Gws (mj_Gin 47 (by decide +kernel) rfl), Or.inl ⟨rfl, rfl⟩⟩), trivial⟩, ?_⟩
  refine List.forall_mem_cons.mpr ⟨⟨(mj_lkP (by decide) rfl (by decide) mj_inU10 mjf_10_81 mj_TyOk10 mj_Nm10 (Or.inl rfl) rfl), trivial⟩, ?_⟩
  refine List.forall_mem_cons.mpr ⟨⟨(trivial), trivial⟩, ?_⟩
  refine List.forall_mem_cons.mpr ⟨⟨(trivial), trivial⟩, ?_⟩
  refine List.forall_mem_cons.mpr ⟨⟨(⟨mj_Gws (mj_Gin 47 (by decide +kernel) rfl), Or.inl ⟨rfl, rfl⟩⟩), trivial⟩, ?_⟩
  refine List.forall_mem_cons.mpr ⟨⟨(mj_lkP (by decide) rfl (by decide) mj_inU10 mjf_10_84 mj_TyOk10 mj_Nm10 (Or.inl rfl) rfl), trivial⟩, ?_⟩
  refine List.forall_mem_cons.mpr ⟨⟨(trivial), trivial⟩, ?_⟩
  refine List.forall_mem_cons.mpr ⟨⟨(trivial), trivial⟩, ?_⟩
  refine List.forall_mem_cons.mpr ⟨⟨(⟨mj_Gws (mj_Gin 47 (by decide +kernel) rfl), Or.inl ⟨rfl, rfl⟩⟩), trivial⟩, ?_⟩
  refine List.forall_mem_cons.mpr ⟨⟨(mj_lkP (by decide) rfl (by decide) mj_inU10 mjf_10_87 mj_TyOk10 mj_Nm10 (Or.inl rfl) rfl), trivial⟩, ?_⟩
  refine List.forall_mem_cons.mpr ⟨⟨(trivial), trivial⟩, ?_⟩
  refine List.forall_mem_cons.mpr ⟨⟨(trivial), trivial⟩, ?_⟩
  refine List.forall_mem_cons.mpr ⟨⟨(⟨mj_Gws (mj_Gin 47 (by decide +kernel) rfl), Or.inl ⟨rfl, rfl⟩⟩), trivial⟩, ?_⟩
  refine List.forall_mem_cons.mpr ⟨⟨(mj_lkP (by decide) rfl (by decide) mj_inU10 mjf_10_90 mj_TyOk10 mj_Nm10 (Or.inl rfl) rfl), trivial⟩, ?_⟩
  refine List.forall_mem_cons.mpr ⟨⟨(trivial), trivial⟩, ?_⟩
  refine List.forall_mem_cons.mpr ⟨⟨(trivial), trivial⟩, ?_⟩
  refine List.forall_mem_cons.mpr ⟨⟨(⟨mj_Gws (mj_Gin 47 (by decide +kernel) rfl), Or.inl ⟨rfl, rfl⟩⟩), trivial⟩, ?_⟩
  refine List.forall_mem_cons.mpr ⟨⟨(mj_lkP (by decide) rfl (by decide) mj_inU10 mjf_10_93 mj_TyOk10 mj_Nm10 (Or.inl rfl) rfl), trivial⟩, ?_⟩
  refine List.forall_mem_cons.mpr ⟨⟨(trivial), trivial⟩, ?_⟩
  refine List.forall_mem_cons.mpr ⟨⟨(trivial), trivial⟩, ?_⟩
  refine List.forall_mem_cons.mpr ⟨⟨(⟨mj_Gws (mj_Gin 47 (by decide +kernel) rfl), Or.inl ⟨rfl, rfl⟩⟩), trivial⟩, ?_⟩
  refine List.forall_mem_cons.mpr ⟨⟨(mj_lkP (by decide) rfl (by decide) mj_inU10 mjf_10_96 mj_TyOk10 mj_Nm10 (Or.inl rfl) rfl), trivial⟩, ?_⟩
  refine List.forall_mem_cons.mpr ⟨⟨(trivial), trivial⟩, ?_⟩
  refine List.forall_mem_cons.mpr ⟨⟨(trivial), trivial⟩, ?_⟩
  refine List.forall_mem_cons.mpr ⟨⟨(⟨mj_Gws (mj_Gin 47 (by decide +kernel) rfl), Or.inl ⟨rfl, rfl⟩⟩), trivial⟩, ?_⟩
  refine List.forall_mem_cons.mpr ⟨⟨(mj_lkP (by decide) rfl (by decide) mj_inU10 mjf_10_99 mj_TyOk10 mj_Nm10 (Or.inl rfl) rfl), trivial⟩, ?_⟩
  refine List.forall_mem_cons.mpr ⟨⟨(trivial), trivial⟩, ?_⟩
  refine List.forall_mem_cons.mpr ⟨⟨(trivial), trivial⟩, ?_⟩
  refine List.forall_mem_cons.mpr ⟨⟨(⟨mj_Gws (mj_Gin 47 (by decide +kernel) rfl), Or.inl ⟨rfl, rfl⟩⟩), trivial⟩, ?_⟩
  refine List.forall_mem_cons.mpr ⟨⟨(mj_lkP (by decide) rfl (by decide) mj_inU10 mjf_10_102 mj_TyOk10 mj_Nm10 (Or.inl rfl) rfl), trivial⟩, ?_⟩
  refine List.forall_mem_cons.mpr ⟨⟨(trivial), trivial⟩, ?_⟩
  refine List.forall_mem_cons.mpr ⟨⟨(trivial), trivial⟩, ?_⟩
  refine List.forall_mem_cons.mpr ⟨⟨(⟨mj_Gws (mj_Gin 47 (by decide +kernel) rfl), Or.inl ⟨rfl, rfl⟩⟩), trivial⟩, ?_⟩
  refine List.forall_mem_cons.mpr ⟨⟨(mj_lkP (by decide) rfl (by decide) mj_inU10 mjf_10_105 mj_TyOk10 mj_Nm10 (Or.inl rfl) rfl), trivial⟩, ?_⟩
  refine List.forall_mem_cons.mpr ⟨⟨(trivial), trivial⟩, ?_⟩
  refine List.forall_mem_cons.mpr ⟨⟨(trivial), trivial⟩, ?_⟩
  refine List.forall_mem_cons.mpr ⟨⟨(⟨mj_Gws (mj_Gin 47 (by decide +kernel) rfl), Or.inl ⟨rfl, rfl⟩⟩), trivial⟩, ?_⟩
  refine List.forall_mem_cons.mpr ⟨⟨(mj_lkP (by decide) rfl (by decide) mj_inU10 mjf_10_108 mj_TyOk10 mj_Nm10 (Or.inl rfl) rfl), trivial⟩, ?_⟩
  refine List.forall_mem_cons.mpr ⟨⟨(trivial), trivial⟩, ?_⟩
  refine List.forall_mem_cons.mpr ⟨⟨(trivial), trivial⟩, ?_⟩
  refine List.forall_mem_cons.mpr ⟨⟨(⟨mj_Gws (mj_Gin 47 (by decide +kernel) rfl), Or.inl ⟨rfl, rfl⟩⟩), trivial⟩, ?_⟩
  refine List.forall_mem_cons.mpr ⟨⟨(mj_lkP (by decide) rfl (by decide) mj_inU10 mjf_10_111 mj_TyOk10 mj_Nm10 (Or.inl rfl) rfl), trivial⟩, ?_⟩
  refine List.forall_mem_cons.mpr ⟨⟨(trivial), trivial⟩, ?_⟩
  refine List.forall_mem_cons.mpr ⟨⟨(trivial), trivial⟩, ?_⟩
  refine List.forall_mem_cons.mpr ⟨⟨(⟨mj_Gws (mj_Gin 47 (by decide +kernel) rfl), Or.inl ⟨rfl, rfl⟩⟩), trivial⟩, ?_⟩
  refine List.forall_mem_cons.mpr ⟨⟨(mj_lkP (by decide) rfl (by decide) mj_inU10 mjf_10_114 mj_TyOk10 mj_Nm10 (Or.inl rfl) rfl), trivial⟩, ?_⟩
  refine List.forall_mem_cons.mpr ⟨⟨(trivial), trivial⟩, ?_⟩
  refine List.forall_mem_cons.mpr ⟨⟨(trivial), trivial⟩, ?_⟩
  refine List.forall_mem_cons.mpr ⟨⟨(⟨mj_Gws (mj_Gin 47 (by decide +kernel) rfl), Or.inl ⟨rfl, rfl⟩⟩), trivial⟩, ?_⟩
  refine List.forall_mem_cons.mpr ⟨⟨(mj_lkP (by decide) rfl (by decide) mj_inU10 mjf_10_117 mj_TyOk10 mj_Nm10 (Or.inl rfl) rfl), trivial⟩, ?_⟩
  refine List.forall_mem_cons.mpr ⟨⟨(trivial), trivial⟩, ?_⟩
  refine List.forall_mem_cons.mpr ⟨⟨(trivial), trivial⟩, ?_⟩
  refine List.forall_mem_cons.mpr ⟨⟨(⟨mj_Gws (mj_Gin 47 (by decide +kernel) rfl), Or.inl ⟨rfl, rfl⟩⟩), trivial⟩, ?_⟩
  refine List.forall_mem_cons.mpr ⟨⟨(mj_lkP (by decide) rfl (by decide) mj_inU10 mjf_10_120 mj_TyOk10 mj_Nm10 (Or.inl rfl) rfl), trivial⟩, ?_⟩
  refine List.forall_mem_cons.mpr ⟨⟨(trivial), trivial⟩, ?_⟩
  refine List.forall_mem_cons.mpr ⟨⟨(trivial), trivial⟩, ?_⟩
  refine List.forall_mem_cons.mpr ⟨⟨(⟨mj_Gws (mj_Gin 47 (by decide +kernel) rfl), Or.inl ⟨rfl, rfl⟩⟩), trivial⟩, ?_⟩
  refine List.forall_mem_cons.mpr ⟨⟨(mj_lkP (by decide) rfl (by decide) mj_inU10 mjf_10_123 mj_TyOk10 mj_Nm10 (Or.inl rfl) rfl), trivial⟩, ?_⟩
  refine List.forall_mem_cons.mpr ⟨⟨(trivial), trivial⟩, ?_⟩
  refine List.forall_mem_cons.mpr ⟨⟨(trivial), trivial⟩, ?_⟩
  refine List.forall_mem_cons.mpr ⟨⟨(⟨mj_Gws (mj_Gin 47 (by decide +kernel) rfl), Or.inl ⟨rfl, rfl⟩⟩), trivial⟩, ?_⟩
  refine List.forall_mem_cons.mpr ⟨⟨(mj_lkP (by decide) rfl (by decide) mj_inU10 mjf_10_126 mj_TyOk10 mj_Nm10 (Or.inl rfl) rfl), trivial⟩, ?_⟩
  refine List.forall_mem_cons.mpr ⟨⟨(trivial), trivial⟩, ?_⟩
  refine List.forall_mem_cons.mpr ⟨⟨(trivial), trivial⟩, ?_⟩
  refine List.forall_mem_cons.mpr ⟨⟨(⟨mj_Gws (mj_Gin 47 (by decide +kernel) rfl), Or.inl ⟨rfl, rfl⟩⟩), trivial⟩, ?_⟩
  refine List.forall_mem_cons.mpr ⟨⟨(mj_lkP (by decide) rfl (by decide) mj_inU10 mjf_10_129 mj_TyOk10 mj_Nm10 (Or.inl rfl) rfl), trivial⟩, ?_⟩
  refine List.forall_mem_cons.mpr ⟨⟨(trivial), trivial⟩, ?_⟩
  refine List.forall_mem_cons.mpr ⟨⟨(trivial), trivial⟩, ?_⟩
  refine List.forall_mem_cons.mpr ⟨⟨(⟨mj_Gws (mj_Gin 47 (by decide +kernel) rfl), Or.inl ⟨rfl, rfl⟩⟩), trivial⟩, ?_⟩
  refine List.forall_mem_cons.mpr ⟨⟨(mj_lkP (by decide) rfl (by decide) mj_inU10 mjf_10_132 mj_TyOk10 mj_Nm10 (Or.inl rfl) rfl), trivial⟩, ?_⟩
  refine List.forall_mem_cons.mpr ⟨⟨(trivial), trivial⟩, ?_⟩
  refine List.forall_mem_cons.mpr ⟨⟨(trivial), trivial⟩, ?_⟩
  refine List.forall_mem_cons.mpr ⟨⟨(⟨mj_Gws (mj_Gin 47 (by decide +kernel) rfl), Or.inl ⟨rfl, rfl⟩⟩), trivial⟩, ?_⟩
  refine List.forall_mem_cons.mpr ⟨⟨(mj_lkP (by decide) rfl (by decide) mj_inU10 mjf_10_135 mj_TyOk10 mj_Nm10 (Or.inl rfl) rfl), trivial⟩, ?_⟩
  refine List.forall_mem_cons.mpr ⟨⟨(trivial), trivial⟩, ?_⟩
  exact fun _ h => absurd h List.not_mem_nil
theorem mjd_99 : mj_ckd 99 = true := by decide +kernel
theorem mjg_99 : mj_good 99 := mj_goodOf (fun _ => ⟨mj_G, rfl⟩) (by decide +kernel) mjd_99 mje_99
theorem mje_100 : ∀ e ∈ mj_tb100, mj_lk 100 e.1 e.2.1 e.2.2.1 e.2.2.2 ∧ mj_cok 100 e.2.1 e.2.2.1 e.2.2.2 := by
  unfold mj_tb100
  refine List.forall_mem_cons.mpr ⟨⟨(trivial), trivial⟩, ?_⟩
  refine List.forall_mem_cons.mpr ⟨⟨(mj_lkG (by decide) rfl (by decide) mj_inU10 mjf_10_141), trivial⟩, ?_⟩
  refine List.forall_mem_cons.mpr ⟨⟨(show (0 : Int) ≤ ((4 : Nat) : Int) + 42 by decide), trivial⟩, ?_⟩
  refine List.forall_mem_cons.mpr ⟨⟨(trivial), trivial⟩, ?_⟩
  refine List.forall_mem_cons.mpr ⟨⟨(mj_lkG (by decide) rfl (by decide) mj_inU10 mjf_10_138), trivial⟩, ?_⟩
  refine List.forall_mem_cons.mpr ⟨⟨(trivial), trivial⟩, ?_⟩
  refine List.forall_mem_cons.mpr ⟨⟨(show (0 : Int) ≤ ((12 : Nat) : Int) + 34 by decide), trivial⟩, ?_⟩
  refine List.forall_mem_cons.mpr ⟨⟨(trivial), trivial⟩, ?_⟩
  refine List.forall_mem_cons.mpr ⟨⟨(trivial), trivial⟩, ?_⟩
  refine List.forall_mem_cons.mpr ⟨⟨(trivial), trivial⟩, ?_⟩
  refine List.forall_mem_cons.mpr ⟨⟨(trivial), mj_ckOf mjK_101 (by decide) (mj_lnkG mjl_10_145)⟩, ?_⟩
  refine List.forall_mem_cons.mpr ⟨⟨(show (0 : Int) ≤ ((23 : Nat) : Int) + 23 by decide), trivial⟩, ?_⟩
  refine List.forall_mem_cons.mpr ⟨⟨(trivial), trivial⟩, ?_⟩
  refine List.forall_mem_cons.mpr ⟨⟨(trivial), trivial⟩, ?_⟩
  refine List.forall_mem_cons.mpr ⟨⟨(trivial), trivial⟩, ?_⟩
  refine List.forall_mem_cons.mpr ⟨⟨(trivial), mj_ckOf mjK_101 (by decide) (mj_lnkG mjl_10_145)⟩, ?_⟩
  refine List.forall_mem_cons.mpr ⟨⟨(show (0 : Int) ≤ ((32 : Nat) : Int) + 14 by decide), trivial⟩, ?_⟩
  refine List.forall_mem_cons.mpr ⟨⟨(trivial), trivial⟩, ?_⟩
  refine List.forall_mem_cons.mpr ⟨⟨(trivial), trivial⟩, ?_⟩
  refine List.forall_mem_cons.mpr ⟨⟨(trivial), trivial⟩, ?_⟩
  refine List.forall_mem_cons.mpr ⟨⟨(trivial), mj_ckOf mjK_101 (by decide) (mj_lnkG mjl_10_145)⟩, ?_⟩
  refine List.forall_mem_cons.mpr ⟨⟨(show (0 : Int) ≤ ((43 : Nat) : Int) + 5 by decide), trivial⟩, ?_⟩
  refine List.forall_mem_cons.mpr ⟨⟨(trivial), trivial⟩, ?_⟩
  refine List.forall_mem_cons.mpr ⟨⟨(trivial), trivial⟩, ?_⟩
  refine List.forall_mem_cons.mpr ⟨⟨(trivial), trivial⟩, ?_⟩
  refine List.forall_mem_cons.mpr ⟨⟨(mj_lkG (by decide) rfl (by decide) mj_inU10 mjf_10_13), trivial⟩, ?_⟩
  refine List.forall_mem_cons.mpr ⟨⟨(trivial), trivial⟩, ?_⟩
  refine List.forall_mem_cons.mpr ⟨⟨(mj_lkG (by decide) rfl (by decide) mj_inU10 mjf_10_138), trivial⟩, ?_⟩
  refine List.forall_mem_cons.mpr ⟨⟨(trivial), trivial⟩, ?_⟩
  refine List.forall_mem_cons.mpr ⟨⟨(trivial), trivial⟩, ?_⟩
  refine List.forall_mem_cons.mpr ⟨⟨(trivial), trivial⟩, ?_⟩
  refine List.forall_mem_cons.mpr ⟨⟨(mj_lkG (by decide) rfl (by decide) mj_inU10 mjf_10_17), trivial⟩, ?_⟩
  refine List.forall_mem_cons.mpr ⟨⟨(trivial), trivial⟩, ?_⟩
  refine List.forall_mem_cons.mpr ⟨⟨(mj_lkG (by decide) rfl (by decide) mj_inU10 mjf_10_138), trivial⟩, ?_⟩
  refine List.forall_mem_cons.mpr ⟨⟨(trivial), trivial⟩, ?_⟩
  refine List.forall_mem_cons.mpr ⟨⟨(trivial), trivial⟩, ?_⟩
  refine List.forall_mem_cons.mpr ⟨⟨(trivial), trivial⟩, ?_⟩
  refine List.forall_mem_cons.mpr ⟨⟨(mj_lkG (by decide) rfl (by decide) mj_inU10 mjf_10_20), trivial⟩, ?_⟩
  refine List.forall_mem_cons.mpr ⟨⟨(trivial), trivial⟩, ?_⟩
  refine List.forall_mem_cons.mpr ⟨⟨(mj_lkG (by decide) rfl (by decide) mj_inU10 mjf_10_138), trivial⟩, ?_⟩
  refine List.forall_mem_cons.mpr ⟨⟨(trivial), trivial⟩, ?_⟩
  refine List.forall_mem_cons.mpr ⟨⟨(trivial), trivial⟩, ?_⟩
  refine List.forall_mem_cons.mpr ⟨⟨(trivial), trivial⟩, ?_⟩
  refine List.forall_mem_cons.mpr ⟨⟨(trivial), trivial⟩, ?_⟩
  refine List.forall_mem_cons.mpr ⟨⟨(mj_lkP (by decide) rfl (by decide) mj_inU10 mjf_10_149 mj_TyOk10 mj_Nm10 (Or.inl rfl) rfl), trivial⟩, ?_⟩
  refine List.forall_mem_cons.mpr ⟨⟨(trivial), trivial⟩, ?_⟩
  refine List.forall_mem_cons.mpr ⟨⟨(trivial), trivial⟩, ?_⟩
  refine List.forall_mem_cons.mpr ⟨⟨(mj_lkG (by decide) rfl (by decide) mj_inU10 mjf_10_138), trivial⟩, ?_⟩
  refine List.forall_mem_cons.mpr ⟨⟨(trivial), trivial⟩, ?_⟩
  refine List.forall_mem_cons.mpr ⟨⟨(trivial), trivial⟩, ?_⟩
  refine List.forall_mem_cons.mpr ⟨⟨(mj_lkP (by decide) rfl (by decide) mj_inU10 mjf_10_138 mj_TyOk10 mj_Nm10 (Or.inl rfl) rfl), trivial⟩, ?_⟩
  refine List.forall_mem_cons.mpr ⟨⟨(trivial), trivial⟩, ?_⟩
  refine List.forall_mem_cons.mpr ⟨⟨(mj_lkG (by decide) rfl (by decide) mj_inU10 mjf_10_138), trivial⟩, ?_⟩
  refine List.forall_mem_cons.mpr ⟨⟨(trivial), trivial⟩, ?_⟩
  refine List.forall_mem_cons.mpr ⟨⟨(trivial), trivial⟩, ?_⟩
  refine List.forall_mem_cons.mpr ⟨⟨(trivial), trivial⟩, ?_⟩
  exact fun _ h => absurd h List.not_mem_nil
theorem mjd_100 : mj_ckd 100 = true := by decide +kernel
theorem mjg_100 : mj_good 100 := mj_goodOf (fun _ => ⟨mj_G, rfl⟩) (by decide +kernel) mjd_100 mje_100
theorem mje_101 : ∀ e ∈ mj_tb101, mj_lk 101 e.1 e.2.1 e.2.2.1 e.2.2.2 ∧ mj_cok 101 e.2.1 e.2.2.1 e.2.2.2 := by
  unfold mj_tb101
  refine List.forall_mem_cons.mpr ⟨⟨(trivial), trivial⟩, ?_⟩
  refine List.forall_mem_cons.mpr ⟨⟨(trivial), trivial⟩, ?_⟩
  refine List.forall_mem_cons.mpr ⟨⟨(show (0 : Int) ≤ ((2 : Nat) : Int) + 12 by decide), trivial⟩, ?_⟩
  refine List.forall_mem_cons.mpr ⟨⟨(trivial), trivial⟩, ?_⟩
  refine List.forall_mem_cons.mpr ⟨⟨(trivial), trivial⟩, ?_⟩
  refine List.forall_mem_cons.mpr ⟨⟨(show (0 : Int) ≤ ((7 : Nat) : Int) + 7 by decide), trivial⟩, ?_⟩
  refine List.forall_mem_cons.mpr ⟨⟨(trivial), trivial⟩, ?_⟩
  refine List.forall_mem_cons.mpr ⟨⟨(show (0 : Int) ≤ ((11 : Nat) : Int) + 4 by decide), trivial⟩, ?_⟩
  refine List.forall_mem_cons.mpr ⟨⟨(trivial), trivial⟩, ?_⟩
  refine List.forall_mem_cons.mpr ⟨⟨(trivial), trivial⟩, ?_⟩
  exact fun _ h => absurd h List.not_mem_nil
theorem mjd_101 : mj_ckd 101 = true := by decide +kernel
theorem mjg_101 : mj_good 101 := mj_goodOf (fun _ => ⟨mj_G, rfl⟩) (by decide +kernel) mjd_101 mje_101
theorem mje_102 : ∀ e ∈ mj_tb102, mj_lk 102 e.1 e.2.1 e.2.2.1 e.2.2.2 ∧ mj_cok 102 e.2.1 e.2.2.1 e.2.2.2 := by
  unfold mj_tb102
  refine List.forall_mem_cons.mpr ⟨⟨(trivial), trivial⟩, ?_⟩
  refine List.forall_mem_cons.mpr ⟨⟨(mj_lkG (by decide) rfl (by decide) mj_inU10 mjf_10_141), trivial⟩, ?_⟩
  refine List.forall_mem_cons.mpr ⟨⟨(show (0 : Int) ≤ ((4 : Nat) : Int) + 56 by decide), trivial⟩, ?_⟩
  refine List.forall_mem_cons.mpr ⟨⟨(trivial), trivial⟩, ?_⟩
  refine List.forall_mem_cons.mpr ⟨⟨(trivial), trivial⟩, ?_⟩
  refine List.forall_mem_cons.mpr ⟨⟨(trivial), mj_ckOf mjK_103 (by decide) (mj_lnkG mjl_10_152)⟩, ?_⟩
  refine List.forall_mem_cons.mpr ⟨⟨(show (0 : Int) ≤ ((12 : Nat) : Int) + 48 by decide), trivial⟩, ?_⟩
  refine List.forall_mem_cons.mpr ⟨⟨(trivial), trivial⟩, ?_⟩
  refine List.forall_mem_cons.mpr ⟨⟨(trivial), trivial⟩, ?_⟩
  refine List.forall_mem_cons.mpr ⟨⟨(trivial), trivial⟩, ?_⟩
  refine List.forall_mem_cons.mpr ⟨⟨(trivial), mj_ckOf mjK_101 (by decide) (mj_lnkG mjl_10_145)⟩, ?_⟩
  refine List.forall_mem_cons.mpr ⟨⟨(show (0 : Int) ≤ ((21 : Nat) : Int) + 39 by decide), trivial⟩, ?_⟩
  refine List.forall_mem_cons.mpr ⟨⟨(trivial), trivial⟩, ?_⟩
  refine List.forall_mem_cons.mpr ⟨⟨(mj_lkG (by decide) rfl (by decide) mj_inU10 mjf_10_35), trivial⟩, ?_⟩
  refine List.forall_mem_cons.mpr ⟨⟨(trivial), trivial⟩, ?_⟩
  refine List.forall_mem_cons.mpr ⟨⟨(trivial), trivial⟩, ?_⟩
  refine List.forall_mem_cons.mpr ⟨⟨(trivial), trivial⟩, ?_⟩
  refine List.forall_mem_cons.mpr ⟨⟨(trivial), trivial⟩, ?_⟩
  refine List.forall_mem_cons.mpr ⟨⟨(trivial), trivial⟩, ?_⟩
  refine List.forall_mem_cons.mpr ⟨⟨(trivial), trivial⟩, ?_⟩
  refine List.forall_mem_cons.mpr ⟨⟨(trivial), trivial⟩, ?_⟩
  refine List.forall_mem_cons.mpr ⟨⟨(show (0 : Int) ≤ ((36 : Nat) : Int) + 24 by decide), trivial⟩, ?_⟩
  refine List.forall_mem_cons.mpr ⟨⟨(trivial), trivial⟩, ?_⟩
  refine List.forall_mem_cons.mpr ⟨⟨(trivial), trivial⟩, ?_⟩
  refine List.forall_mem_cons.mpr ⟨⟨(trivial), trivial⟩, ?_⟩
  refine List.forall_mem_cons.mpr ⟨⟨(trivial), mj_ckOf mjK_101 (by decide) (mj_lnkG mjl_10_145)⟩, ?_⟩
  refine List.forall_mem_cons.mpr ⟨⟨(show (0 : Int) ≤ ((46 : Nat) : Int) + 14 by decide), trivial⟩, ?_⟩
  refine List.forall_mem_cons.mpr ⟨⟨(trivial), trivial⟩, ?_⟩
  refine List.forall_mem_cons.mpr ⟨⟨(trivial), trivial⟩, ?_⟩
  refine List.forall_mem_cons.mpr ⟨⟨(trivial), trivial⟩, ?_⟩
  refine List.forall_mem_cons.mpr ⟨⟨(trivial), mj_ckOf mjK_104 (by decide) (mj_lnkG mjl_10_156)⟩, ?_⟩
  refine List.forall_mem_cons.mpr ⟨⟨(show (0 : Int) ≤ ((57 : Nat) : Int) + 5 by decide), trivial⟩, ?_⟩
  refine List.forall_mem_cons.mpr ⟨⟨(trivial), trivial⟩, ?_⟩
  refine List.forall_mem_cons.mpr ⟨⟨(trivial), trivial⟩, ?_⟩
  refine List.forall_mem_cons.mpr ⟨⟨(trivial), trivial⟩, ?_⟩
  refine List.forall_mem_cons.mpr ⟨⟨(trivial), trivial⟩, ?_⟩
  refine List.forall_mem_cons.mpr ⟨⟨(trivial), trivial⟩, ?_⟩
  refine List.forall_mem_cons.mpr ⟨⟨(trivial), trivial⟩, ?_⟩
  refine List.forall_mem_cons.mpr ⟨⟨(trivial), trivial⟩, ?_⟩
  refine List.forall_mem_cons.mpr ⟨⟨(trivial), trivial⟩, ?_⟩
  refine List.forall_mem_cons.mpr ⟨⟨(trivial), trivial⟩, ?_⟩
  refine List.forall_mem_cons.mpr ⟨⟨(trivial), trivial⟩, ?_⟩
  refine List.forall_mem_cons.mpr ⟨⟨(mj_lkG (by decide) rfl (by decide) mj_inU10 mjf_10_35), trivial⟩, ?_⟩
  refine List.forall_mem_cons.mpr ⟨⟨(trivial), trivial⟩, ?_⟩
  refine List.forall_mem_cons.mpr ⟨⟨(trivial), trivial⟩, ?_⟩
  refine List.forall_mem_cons.mpr ⟨⟨(trivial), trivial⟩, ?_⟩
  refine List.forall_mem_cons.mpr ⟨⟨(trivial), trivial⟩, ?_⟩
  refine List.forall_mem_cons.mpr ⟨⟨(trivial), trivial⟩, ?_⟩
  refine List.forall_mem_cons.mpr ⟨⟨(trivial), trivial⟩, ?_⟩
  refine List.forall_mem_cons.mpr ⟨⟨(trivial), trivial⟩, ?_⟩
  refine List.forall_mem_cons.mpr ⟨⟨(show (6 : Nat) < mj_maxL 102 by decide), trivial⟩, ?_⟩
  refine List.forall_mem_cons.mpr ⟨⟨(trivial), trivial⟩, ?_⟩
  refine List.forall_mem_cons.mpr ⟨⟨(mj_lkG (by decide) rfl (by decide) mj_inU10 mjf_10_23), trivial⟩, ?_⟩
  refine List.forall_mem_cons.mpr ⟨⟨(trivial), trivial⟩, ?_⟩
  refine List.forall_mem_cons.mpr ⟨⟨(trivial), trivial⟩, ?_⟩
  refine List.forall_mem_cons.mpr ⟨⟨(trivial), trivial⟩, ?_⟩
  refine List.forall_mem_cons.mpr ⟨⟨(trivial), trivial⟩, ?_⟩
  refine List.forall_mem_cons.mpr ⟨⟨(mj_lkG (by decide) rfl (by decide) mj_inU10 mjf_10_26), trivial⟩, ?_⟩
  refine List.forall_mem_cons.mpr ⟨⟨(trivial), trivial⟩, ?_⟩
  refine List.forall_mem_cons.mpr ⟨⟨(trivial), trivial⟩, ?_⟩
  refine List.forall_mem_cons.mpr ⟨⟨(trivial), trivial⟩, ?_⟩
  refine List.forall_mem_cons.mpr ⟨⟨(trivial), trivial⟩, ?_⟩
  refine List.forall_mem_cons.mpr ⟨⟨(mj_lkG (by decide) rfl (by decide) mj_inU10 mjf_10_29), trivial⟩, ?_⟩
  refine List.forall_mem_cons.mpr ⟨⟨(trivial), trivial⟩, ?_⟩
  refine List.forall_mem_cons.mpr ⟨⟨(trivial), trivial⟩, ?_⟩
  refine List.forall_mem_cons.mpr ⟨⟨(trivial), trivial⟩, ?_⟩
  refine List.forall_mem_cons.mpr ⟨⟨(trivial), trivial⟩, ?_⟩
  refine List.forall_mem_cons.mpr ⟨⟨(mj_lkG (by decide) rfl (by decide) mj_inU10 mjf_10_35), trivial⟩, ?_⟩
  refine List.forall_mem_cons.mpr ⟨⟨(trivial), trivial⟩, ?_⟩
  refine List.forall_mem_cons.mpr ⟨⟨(trivial), trivial⟩, ?_⟩
  refine List.forall_mem_cons.mpr ⟨⟨(trivial), trivial⟩, ?_⟩
  refine List.forall_mem_cons.mpr ⟨⟨(trivial), trivial⟩, ?_⟩
  refine List.forall_mem_cons.mpr ⟨⟨(trivial), trivial⟩, ?_⟩
  refine List.forall_mem_cons.mpr ⟨⟨(trivial), trivial⟩, ?_⟩
  refine List.forall_mem_cons.mpr ⟨⟨(trivial), trivial⟩, ?_⟩
  refine List.forall_mem_cons.mpr ⟨⟨(trivial), trivial⟩, ?_⟩
  refine List.forall_mem_cons.mpr ⟨⟨(trivial), trivial⟩, ?_⟩
  refine List.forall_mem_cons.mpr ⟨⟨(trivial), trivial⟩, ?_⟩
  refine List.forall_mem_cons.mpr ⟨⟨(trivial), trivial⟩, ?_⟩
  refine List.forall_mem_cons.mpr ⟨⟨(trivial), trivial⟩, ?_⟩
  refine List.forall_mem_cons.mpr ⟨⟨(mj_lkP (by decide) rfl (by decide) mj_inU10 mjf_10_149 mj_TyOk10 mj_Nm10 (Or.inl rfl) rfl), trivial⟩, ?_⟩
  refine List.forall_mem_cons.mpr ⟨⟨(trivial), trivial⟩, ?_⟩
  refine List.forall_mem_cons.mpr ⟨⟨(trivial), trivial⟩, ?_⟩
  exact fun _ h => absurd h List.not_mem_nil
theorem mjd_102 : mj_ckd 102 = true := by decide +kernel
theorem mjg_102 : mj_good 102 := mj_goodOf (fun _ => ⟨mj_G, rfl⟩) (by decide +kernel) mjd_102 mje_102
theorem mje_103 : ∀ e ∈ mj_tb103, mj_lk 103 e.1 e.2.1 e.2.2.1 e.2.2.2 ∧ mj_cok 103 e.2.1 e.2.2.1 e.2.2.2 := by
  unfold mj_tb103
  refine List.forall_mem_cons.mpr ⟨⟨(trivial), trivial⟩, ?_⟩
  refine List.forall_mem_cons.mpr ⟨⟨(show (0 : Int) ≤ ((1 : Nat) : Int) + 15 by decide), trivial⟩, ?_⟩
  refine List.forall_mem_cons.mpr ⟨⟨(trivial), trivial⟩, ?_⟩
  refine List.forall_mem_cons.mpr ⟨⟨(trivial), trivial⟩, ?_⟩
  refine List.forall_mem_cons.mpr ⟨⟨(mj_lkG (by decide) rfl (by decide) mj_inU10 mjf_10_138), trivial⟩, ?_⟩
  refine List.forall_mem_cons.mpr ⟨⟨(show (0 : Int) ≤ ((9 : Nat) : Int) + 7 by decide), trivial⟩, ?_⟩
  refine List.forall_mem_cons.mpr ⟨⟨(trivial), trivial⟩, ?_⟩
  refine List.forall_mem_cons.mpr ⟨⟨(show (0 : Int) ≤ ((13 : Nat) : Int) + 4 by decide), trivial⟩, ?_⟩
  refine List.forall_mem_cons.mpr ⟨⟨(trivial), trivial⟩, ?_⟩
  refine List.forall_mem_cons.mpr ⟨⟨(trivial), trivial⟩, ?_⟩
  exact fun _ h => absurd h List.not_mem_nil
theorem mjd_103 : mj_ckd 103 = true := by decide +kernel
theorem mjg_103 : mj_good 103 := mj_goodOf (fun _ => ⟨mj_G, rfl⟩) (by decide +kernel) mjd_103 mje_103
theorem mje_104 : ∀ e ∈ mj_tb104, mj_lk 104 e.1 e.2.1 e.2.2.1 e.2.2.2 ∧ mj_cok 104 e.2.1 e.2.2.1 e.2.2.2 := by
  unfold mj_tb104
  refine List.forall_mem_cons.mpr ⟨⟨(trivial), trivial⟩, ?_⟩
  refine List.forall_mem_cons.mpr ⟨⟨(trivial), trivial⟩, ?_⟩
  refine List.forall_mem_cons.mpr ⟨⟨(show (0 : Int) ≤ ((3 : Nat) : Int) + 13 by decide), trivial⟩, ?_⟩
  refine List.forall_mem_cons.mpr ⟨⟨(trivial), trivial⟩, ?_⟩
  refine List.forall_mem_cons.mpr ⟨⟨(trivial), trivial⟩, ?_⟩
  refine List.forall_mem_cons.mpr ⟨⟨(show (0 : Int) ≤ ((9 : Nat) : Int) + 7 by decide), trivial⟩, ?_⟩
  refine List.forall_mem_cons.mpr ⟨⟨(trivial), trivial⟩, ?_⟩
  refine List.forall_mem_cons.mpr ⟨⟨(show (0 : Int) ≤ ((13 : Nat) : Int) + 4 by decide), trivial⟩, ?_⟩
  refine List.forall_mem_cons.mpr ⟨⟨(trivial), trivial⟩, ?_⟩
  refine List.forall_mem_cons.mpr ⟨⟨(show (3 : Nat) < mj_maxL 104 by decide), trivial⟩, ?_⟩
  refine List.forall_mem_cons.mpr ⟨⟨(trivial), trivial⟩, ?_⟩
  refine List.forall_mem_cons.mpr ⟨⟨(show (0 : Int) ≤ ((19 : Nat) : Int) + 15 by decide), trivial⟩, ?_⟩
  refine List.forall_mem_cons.mpr ⟨⟨(trivial), trivial⟩, ?_⟩
  refine List.forall_mem_cons.mpr ⟨⟨(show (0 : Int) ≤ ((23 : Nat) : Int) + 7 by decide), trivial⟩, ?_⟩
  refine List.forall_mem_cons.mpr ⟨⟨(trivial), trivial⟩, ?_⟩
  refine List.forall_mem_cons.mpr ⟨⟨(show (0 : Int) ≤ ((27 : Nat) : Int) + 13 by decide), trivial⟩, ?_⟩
  refine List.forall_mem_cons.mpr ⟨⟨(trivial), trivial⟩, ?_⟩
  refine List.forall_mem_cons.mpr ⟨⟨(show (0 : Int) ≤ ((31 : Nat) : Int) + 9 by decide), trivial⟩, ?_⟩
  refine List.forall_mem_cons.mpr ⟨⟨(trivial), trivial⟩, ?_⟩
  refine List.forall_mem_cons.mpr ⟨⟨(trivial), trivial⟩, ?_⟩
  refine List.forall_mem_cons.mpr ⟨⟨(trivial), trivial⟩, ?_⟩
  refine List.forall_mem_cons.mpr ⟨⟨(trivial), mj_ckOf mjK_101 (by decide) (mj_lnkG mjl_10_145)⟩, ?_⟩
  refine List.forall_mem_cons.mpr ⟨⟨(show (4 : Nat) < mj_maxL 104 by decide), trivial⟩, ?_⟩
  refine List.forall_mem_cons.mpr ⟨⟨(trivial), trivial⟩, ?_⟩
  refine List.forall_mem_cons.mpr ⟨⟨(trivial), trivial⟩, ?_⟩
  refine List.forall_mem_cons.mpr ⟨⟨(show (0 : Int) ≤ ((44 : Nat) : Int) + 9 by decide), trivial⟩, ?_⟩
  refine List.forall_mem_cons.mpr ⟨⟨(trivial), trivial⟩, ?_⟩
  refine List.forall_mem_cons.mpr ⟨⟨(trivial), trivial⟩, ?_⟩
  refine List.forall_mem_cons.mpr ⟨⟨(show (0 : Int) ≤ ((50 : Nat) : Int) + 7 by decide), trivial⟩, ?_⟩
  refine List.forall_mem_cons.mpr ⟨⟨(trivial), trivial⟩, ?_⟩
  refine List.forall_mem_cons.mpr ⟨⟨(show (0 : Int) ≤ ((54 : Nat) : Int) + 4 by decide), trivial⟩, ?_⟩
  refine List.forall_mem_cons.mpr ⟨⟨(trivial), trivial⟩, ?_⟩
  refine List.forall_mem_cons.mpr ⟨⟨(show (5 : Nat) < mj_maxL 104 by decide), trivial⟩, ?_⟩
  refine List.forall_mem_cons.mpr ⟨⟨(trivial), trivial⟩, ?_⟩
  refine List.forall_mem_cons.mpr ⟨⟨(trivial), trivial⟩, ?_⟩
  refine List.forall_mem_cons.mpr ⟨⟨(show (0 : Int) ≤ ((62 : Nat) : Int) + 8 by decide), trivial⟩, ?_⟩
  refine List.forall_mem_cons.mpr ⟨⟨(trivial), trivial⟩, ?_⟩
  refine List.forall_mem_cons.mpr ⟨⟨(trivial), trivial⟩, ?_⟩
  refine List.forall_mem_cons.mpr ⟨⟨(show (0 : Int) ≤ ((67 : Nat) : Int) + 8 by decide), trivial⟩, ?_⟩
  refine List.forall_mem_cons.mpr ⟨⟨(trivial), trivial⟩, ?_⟩
  refine List.forall_mem_cons.mpr ⟨⟨(show (0 : Int) ≤ ((72 : Nat) : Int) + 73 by decide), trivial⟩, ?_⟩
  refine List.forall_mem_cons.mpr ⟨⟨(trivial), trivial⟩, ?_⟩
  refine List.forall_mem_cons.mpr ⟨⟨(trivial), trivial⟩, ?_⟩
  refine List.forall_mem_cons.mpr ⟨⟨(show (0 : Int) ≤ ((77 : Nat) : Int) + 8 by decide), trivial⟩, ?_⟩
  refine List.forall_mem_cons.mpr ⟨⟨(trivial), trivial⟩, ?_⟩
  refine List.forall_mem_cons.mpr ⟨⟨(show (0 : Int) ≤ ((82 : Nat) : Int) + 63 by decide), trivial⟩, ?_⟩
  refine List.forall_mem_cons.mpr ⟨⟨(trivial), trivial⟩, ?_⟩
  refine List.forall_mem_cons.mpr ⟨⟨(trivial), trivial⟩, ?_⟩
  refine List.forall_mem_cons.mpr ⟨⟨(show (0 : Int) ≤ ((88 : Nat) : Int) + 8 by decide), trivial⟩, ?_⟩
  refine List.forall_mem_cons.mpr ⟨⟨(trivial), trivial⟩, ?_⟩
  refine List.forall_mem_cons.mpr ⟨⟨(show (0 : Int) ≤ ((93 : Nat) : Int) + 52 by decide), trivial⟩, ?_⟩
  refine List.forall_mem_cons.mpr ⟨⟨(trivial), trivial⟩, ?_⟩
  refine List.forall_mem_cons.mpr ⟨⟨(trivial), trivial⟩, ?_⟩
  refine List.forall_mem_cons.mpr ⟨⟨(show (0 : Int) ≤ ((99 : Nat) : Int) + 15 by decide), trivial⟩, ?_⟩
  refine List.forall_mem_cons.mpr ⟨⟨(trivial), trivial⟩, ?_⟩
  refine List.forall_mem_cons.mpr ⟨⟨(trivial), trivial⟩, ?_⟩
  refine List.forall_mem_cons.mpr ⟨⟨(show (0 : Int) ≤ ((105 : Nat) : Int) + 9 by decide), trivial⟩, ?_⟩
  refine List.forall_mem_cons.mpr ⟨⟨(trivial), trivial⟩, ?_⟩
  refine List.forall_mem_cons.mpr ⟨⟨(trivial), trivial⟩, ?_⟩
  refine List.forall_mem_cons.mpr ⟨⟨(show (0 : Int) ≤ ((111 : Nat) : Int) + 7 by decide), trivial⟩, ?_⟩
  refine List.forall_mem_cons.mpr ⟨⟨(trivial), trivial⟩, ?_⟩
  refine List.forall_mem_cons.mpr ⟨⟨(show (0 : Int) ≤ ((115 : Nat) : Int) + 30 by decide), trivial⟩, ?_⟩
  refine List.forall_mem_cons.mpr ⟨⟨(trivial), trivial⟩, ?_⟩
  refine List.forall_mem_cons.mpr ⟨⟨(trivial), trivial⟩, ?_⟩
  refine List.forall_mem_cons.mpr ⟨⟨(show (0 : Int) ≤ ((121 : Nat) : Int) + 7 by decide), trivial⟩, ?_⟩
  refine List.forall_mem_cons.mpr ⟨⟨(trivial), trivial⟩, ?_⟩
  refine List.forall_mem_cons.mpr ⟨⟨(show (0 : Int) ≤ ((125 : Nat) : Int) + 20 by decide), trivial⟩, ?_⟩
  refine List.forall_mem_cons.mpr ⟨⟨(trivial), trivial⟩, ?_⟩
  refine List.forall_mem_cons.mpr ⟨⟨(trivial), trivial⟩, ?_⟩
  refine List.forall_mem_cons.mpr ⟨⟨(show (0 : Int) ≤ ((131 : Nat) : Int) + 9 by decide), trivial⟩, ?_⟩
  refine List.forall_mem_cons.mpr ⟨⟨(trivial), trivial⟩, ?_⟩
  refine List.forall_mem_cons.mpr ⟨⟨(trivial), trivial⟩, ?_⟩
  refine List.forall_mem_cons.mpr ⟨⟨(show (0 : Int) ≤ ((137 : Nat) : Int) + 7 by decide), trivial⟩, ?_⟩
  refine List.forall_mem_cons.mpr ⟨⟨(trivial), trivial⟩, ?_⟩
  refine List.forall_mem_cons.mpr ⟨⟨(show (0 : Int) ≤ ((141 : Nat) : Int) + 4 by decide), trivial⟩, ?_⟩
  refine List.forall_mem_cons.mpr ⟨⟨(trivial), trivial⟩, ?_⟩
  refine List.forall_mem_cons.mpr ⟨⟨(show (6 : Nat) < mj_maxL 104 by decide), trivial⟩, ?_⟩
  refine List.forall_mem_cons.mpr ⟨⟨(trivial), trivial⟩, ?_⟩
  refine List.forall_mem_cons.mpr ⟨⟨(show (0 : Int) ≤ ((149 : Nat) : Int) + 22 by decide), trivial⟩, ?_⟩
  refine List.forall_mem_cons.mpr ⟨⟨(trivial), trivial⟩, ?_⟩
  refine List.forall_mem_cons.mpr ⟨⟨(show (0 : Int) ≤ ((153 : Nat) : Int) + 14 by decide), trivial⟩, ?_⟩
  refine List.forall_mem_cons.mpr ⟨⟨(trivial), trivial⟩, ?_⟩
  refine List.forall_mem_cons.mpr ⟨⟨(trivial), trivial⟩, ?_⟩
  refine List.forall_mem_cons.mpr ⟨⟨(trivial), trivial⟩, ?_⟩
  refine List.forall_mem_cons.mpr ⟨⟨(trivial), mj_ckOf mjK_101 (by decide) (mj_lnkG mjl_10_145)⟩, ?_⟩
  refine List.forall_mem_cons.mpr ⟨⟨(show (0 : Int) ≤ ((164 : Nat) : Int) + 7 by decide), trivial⟩, ?_⟩
  refine List.forall_mem_cons.mpr ⟨⟨(trivial), trivial⟩, ?_⟩
  refine List.forall_mem_cons.mpr ⟨⟨(show (0 : Int) ≤ ((168 : Nat) : Int) + 4 by decide), trivial⟩, ?_⟩
  refine List.forall_mem_cons.mpr ⟨⟨(trivial), trivial⟩, ?_⟩
  refine List.forall_mem_cons.mpr ⟨⟨(trivial), trivial⟩, ?_⟩
  exact fun _ h => absurd h List.not_mem_nil
theorem mjd_104 : mj_ckd 104 = true := by decide +kernel
theorem mjg_104 : mj_good 104 := mj_goodOf (fun _ => ⟨mj_G, rfl⟩) (by decide +kernel) mjd_104 mje_104
theorem mje_105 : ∀ e ∈ mj_tb105, mj_lk 105 e.1 e.2.1 e.2.2.1 e.2.2.2 ∧ mj_cok 105 e.2.1 e.2.2.1 e.2.2.2 := by
  unfold mj_tb105
  refine List.forall_mem_cons.mpr ⟨⟨(trivial), trivial⟩, ?_⟩
  refine List.forall_mem_cons.mpr ⟨⟨(mj_lkG (by decide) rfl (by decide) mj_inU10 mjf_10_141), trivial⟩, ?_⟩
  refine List.forall_mem_cons.mpr ⟨⟨(show (0 : Int) ≤ ((4 : Nat) : Int) + 11 by decide), trivial⟩, ?_⟩
  refine List.forall_mem_cons.mpr ⟨⟨(trivial), trivial⟩, ?_⟩
  refine List.forall_mem_cons.mpr ⟨⟨(trivial), trivial⟩, ?_⟩
  refine List.forall_mem_cons.mpr ⟨⟨(trivial), mj_ckOf mjK_103 (by decide) (mj_lnkG mjl_10_152)⟩, ?_⟩
  refine List.forall_mem_cons.mpr ⟨⟨(show (0 : Int) ≤ ((12 : Nat) : Int) + 5 by decide), trivial⟩, ?_⟩
  refine List.forall_mem_cons.mpr ⟨⟨(trivial), trivial⟩, ?_⟩
  refine List.forall_mem_cons.mpr ⟨⟨(trivial), trivial⟩, ?_⟩
  refine List.forall_mem_cons.mpr ⟨⟨(trivial), trivial⟩, ?_⟩
  refine List.forall_mem_cons.mpr ⟨⟨(show (2 : Nat) < mj_maxL 105 by decide), trivial⟩, ?_⟩
  refine List.forall_mem_cons.mpr ⟨⟨(trivial), trivial⟩, ?_⟩
  refine List.forall_mem_cons.mpr ⟨⟨(trivial), trivial⟩, ?_⟩
  refine List.forall_mem_cons.mpr ⟨⟨(show (0 : Int) ≤ ((21 : Nat) : Int) + 20 by decide), trivial⟩, ?_⟩
  refine List.forall_mem_cons.mpr ⟨⟨(trivial), trivial⟩, ?_⟩
  refine List.forall_mem_cons.mpr ⟨⟨(mj_lkG (by decide) rfl (by decide) mj_inU10 mjf_10_35), trivial⟩, ?_⟩
  refine List.forall_mem_cons.mpr ⟨⟨(trivial), trivial⟩, ?_⟩
  refine List.forall_mem_cons.mpr ⟨⟨(trivial), trivial⟩, ?_⟩
  refine List.forall_mem_cons.mpr ⟨⟨(trivial), trivial⟩, ?_⟩
  refine List.forall_mem_cons.mpr ⟨⟨(trivial), trivial⟩, ?_⟩
  refine List.forall_mem_cons.mpr ⟨⟨(trivial), trivial⟩, ?_⟩
  refine List.forall_mem_cons.mpr ⟨⟨(trivial), trivial⟩, ?_⟩
  refine List.forall_mem_cons.mpr ⟨⟨(trivial), trivial⟩, ?_⟩
  refine List.forall_mem_cons.mpr ⟨⟨(show (2 : Nat) < mj_maxL 105 by decide), trivial⟩, ?_⟩
  refine List.forall_mem_cons.mpr ⟨⟨(show (0 : Int) ≤ ((38 : Nat) : Int) + (-19) by decide), trivial⟩, ?_⟩
  refine List.forall_mem_cons.mpr ⟨⟨(trivial), trivial⟩, ?_⟩
  refine List.forall_mem_cons.mpr ⟨⟨(trivial), trivial⟩, ?_⟩
  refine List.forall_mem_cons.mpr ⟨⟨(mj_lkP (by decide) rfl (by decide) mj_inU10 mjf_10_149 mj_TyOk10 mj_Nm10 (Or.inl rfl) rfl), trivial⟩, ?_⟩
  refine List.forall_mem_cons.mpr ⟨⟨(trivial), trivial⟩, ?_⟩
  refine List.forall_mem_cons.mpr ⟨⟨(trivial), trivial⟩, ?_⟩
  exact fun _ h => absurd h List.not_mem_nil
theorem mjd_105 : mj_ckd 105 = true := by decide +kernel
theorem mjg_105 : mj_good 105 := mj_goodOf (fun _ => ⟨mj_G, rfl⟩) (by decide +kernel) mjd_105 mje_105
theorem mje_106 : ∀ e ∈ mj_tb106, mj_lk 106 e.1 e.2.1 e.2.2.1 e.2.2.2 ∧ mj_cok 106 e.2.1 e.2.2.1 e.2.2.2 := by
  unfold mj_tb106
  refine List.forall_mem_cons.mpr ⟨⟨(trivial), trivial⟩, ?_⟩
  refine List.forall_mem_cons.mpr ⟨⟨(mj_lkG (by decide) rfl (by decide) mj_inU10 mjf_10_141), trivial⟩, ?_⟩
  refine List.forall_mem_cons.mpr ⟨⟨(show (0 : Int) ≤ ((4 : Nat) : Int) + 5 by decide), trivial⟩, ?_⟩
  refine List.forall_mem_cons.mpr ⟨⟨(trivial), trivial⟩, ?_⟩
  refine List.forall_mem_cons.mpr ⟨⟨(trivial), trivial⟩, ?_⟩
  refine List.forall_mem_cons.mpr ⟨⟨(trivial), trivial⟩, ?_⟩
  refine List.forall_mem_cons.mpr ⟨⟨(trivial), trivial⟩, ?_⟩
  refine List.forall_mem_cons.mpr ⟨⟨(mj_lkP (by decide) rfl (by decide) mj_inU10 mjf_10_7 mj_TyOk10 mj_Nm10 (Or.inl rfl) rfl), trivial⟩, ?_⟩
  refine List.forall_mem_cons.mpr ⟨⟨(trivial), trivial⟩, ?_⟩
  refine List.forall_mem_cons.mpr ⟨⟨(trivial), trivial⟩, ?_⟩
  refine List.forall_mem_cons.mpr ⟨⟨(mj_lkP (by decide) rfl (by decide) mj_inU10 mjf_10_149 mj_TyOk10 mj_Nm10 (Or.inl rfl) rfl), trivial⟩, ?_⟩
  refine List.forall_mem_cons.mpr ⟨⟨(trivial), trivial⟩, ?_⟩
  refine List.forall_mem_cons.mpr ⟨⟨(mj_lkG (by decide) rfl (by decide) mj_inU10 mjf_10_138), trivial⟩, ?_⟩
  refine List.forall_mem_cons.mpr ⟨⟨(show (0 : Int) ≤ ((23 : Nat) : Int) + 6 by decide), trivial⟩, ?_⟩
  refine List.forall_mem_cons.mpr ⟨⟨(trivial), trivial⟩, ?_⟩
  refine List.forall_mem_cons.mpr ⟨⟨(trivial), trivial⟩, ?_⟩
  refine List.forall_mem_cons.mpr ⟨⟨(trivial), trivial⟩, ?_⟩
  refine List.forall_mem_cons.mpr ⟨⟨(show (1 : Nat) < mj_maxL 106 by decide), trivial⟩, ?_⟩
  refine List.forall_mem_cons.mpr ⟨⟨(trivial), trivial⟩, ?_⟩
  refine List.forall_mem_cons.mpr ⟨⟨(trivial), trivial⟩, ?_⟩
  refine List.forall_mem_cons.mpr ⟨⟨(mj_lkG (by decide) rfl (by decide) mj_inU10 mjf_10_138), trivial⟩, ?_⟩
  refine List.forall_mem_cons.mpr ⟨⟨(show (0 : Int) ≤ ((36 : Nat) : Int) + 26 by decide), trivial⟩, ?_⟩
  refine List.forall_mem_cons.mpr ⟨⟨(trivial), trivial⟩, ?_⟩
  refine List.forall_mem_cons.mpr ⟨⟨(trivial), trivial⟩, ?_⟩
  refine List.forall_mem_cons.mpr ⟨⟨(trivial), mj_ckOf mjK_107 (by decide) (mj_lnkG mjl_10_193)⟩, ?_⟩
  refine List.forall_mem_cons.mpr ⟨⟨(show (2 : Nat) < mj_maxL 106 by decide), trivial⟩, ?_⟩
  refine List.forall_mem_cons.mpr ⟨⟨(trivial), trivial⟩, ?_⟩
  refine List.forall_mem_cons.mpr ⟨⟨(show (0 : Int) ≤ ((46 : Nat) : Int) + 10 by decide), trivial⟩, ?_⟩
  refine List.forall_mem_cons.mpr ⟨⟨(trivial), trivial⟩, ?_⟩
  refine List.forall_mem_cons.mpr ⟨⟨(trivial), trivial⟩, ?_⟩
  refine List.forall_mem_cons.mpr ⟨⟨(trivial), trivial⟩, ?_⟩
  refine List.forall_mem_cons.mpr ⟨⟨(trivial), trivial⟩, ?_⟩
  refine List.forall_mem_cons.mpr ⟨⟨(trivial), trivial⟩, ?_⟩
  refine List.forall_mem_cons.mpr ⟨⟨(trivial), trivial⟩, ?_⟩
  refine List.forall_mem_cons.mpr ⟨⟨(show (1 : Nat) < mj_maxL 106 by decide), trivial⟩, ?_⟩
  refine List.forall_mem_cons.mpr ⟨⟨(show (0 : Int) ≤ ((59 : Nat) : Int) + (-28) by decide), trivial⟩, ?_⟩
  refine List.forall_mem_cons.mpr ⟨⟨(trivial), trivial⟩, ?_⟩
  refine List.forall_mem_cons.mpr ⟨⟨(show (1 : Nat) < mj_maxL 106 by decide), trivial⟩, ?_⟩
  refine List.forall_mem_cons.mpr ⟨⟨(trivial), trivial⟩, ?_⟩
  refine List.forall_mem_cons.mpr ⟨⟨(trivial), trivial⟩, ?_⟩
  refine List.forall_mem_cons.mpr ⟨⟨(mj_lkG (by decide) rfl (by decide) mj_inU10 mjf_10_138), trivial⟩, ?_⟩
  refine List.forall_mem_cons.mpr ⟨⟨(show (0 : Int) ≤ ((69 : Nat) : Int) + 14 by decide), trivial⟩, ?_⟩
  refine List.forall_mem_cons.mpr ⟨⟨(trivial), trivial⟩, ?_⟩
  refine List.forall_mem_cons.mpr ⟨⟨(trivial), trivial⟩, ?_⟩
  refine List.forall_mem_cons.mpr ⟨⟨(trivial), mj_ckOf mjK_115 (by decide) (mj_lnkG mjl_10_196)⟩, ?_⟩
  refine List.forall_mem_cons.mpr ⟨⟨(show (1 : Nat) < mj_maxL 106 by decide), trivial⟩, ?_⟩
  refine List.forall_mem_cons.mpr ⟨⟨(show (0 : Int) ≤ ((80 : Nat) : Int) + (-16) by decide), trivial⟩, ?_⟩
  refine List.forall_mem_cons.mpr ⟨⟨(trivial), trivial⟩, ?_⟩
  refine List.forall_mem_cons.mpr ⟨⟨(show (1 : Nat) < mj_maxL 106 by decide), trivial⟩, ?_⟩
  refine List.forall_mem_cons.mpr ⟨⟨(trivial), trivial⟩, ?_⟩
  refine List.forall_mem_cons.mpr ⟨⟨(trivial), trivial⟩, ?_⟩
  refine List.forall_mem_cons.mpr ⟨⟨(show (0 : Int) ≤ ((87 : Nat) : Int) + 20 by decide), trivial⟩, ?_⟩
  refine List.forall_mem_cons.mpr ⟨⟨(trivial), trivial⟩, ?_⟩
  refine List.forall_mem_cons.mpr ⟨⟨(mj_lkG (by decide) rfl (by decide) mj_inU10 mjf_10_62), trivial⟩, ?_⟩
  refine List.forall_mem_cons.mpr ⟨⟨(trivial), trivial⟩, ?_⟩
  refine List.forall_mem_cons.mpr ⟨⟨(trivial), trivial⟩, ?_⟩
  refine List.forall_mem_cons.mpr ⟨⟨(trivial), trivial⟩, ?_⟩
  refine List.forall_mem_cons.mpr ⟨⟨(trivial), mj_ckOf mjK_117 (by decide) (mj_lnkG mjl_10_200)⟩, ?_⟩
  refine List.forall_mem_cons.mpr ⟨⟨(trivial), trivial⟩, ?_⟩
  refine List.forall_mem_cons.mpr ⟨⟨(show (1 : Nat) < mj_maxL 106 by decide), trivial⟩, ?_⟩
  refine List.forall_mem_cons.mpr ⟨⟨(show (0 : Int) ≤ ((104 : Nat) : Int) + (-19) by decide), trivial⟩, ?_⟩
  refine List.forall_mem_cons.mpr ⟨⟨(trivial), trivial⟩, ?_⟩
  refine List.forall_mem_cons.mpr ⟨⟨(trivial), trivial⟩, ?_⟩
  refine List.forall_mem_cons.mpr ⟨⟨(mj_lkP (by decide) rfl (by decide) mj_inU10 mjf_10_149 mj_TyOk10 mj_Nm10 (Or.inl rfl) rfl), trivial⟩, ?_⟩
  refine List.forall_mem_cons.mpr ⟨⟨(trivial), trivial⟩, ?_⟩
  refine List.forall_mem_cons.mpr ⟨⟨(show (1 : Nat) < mj_maxL 106 by decide), trivial⟩, ?_⟩
  refine List.forall_mem_cons.mpr ⟨⟨(trivial), trivial⟩, ?_⟩
  refine List.forall_mem_cons.mpr ⟨⟨(show (2 : Nat) < mj_maxL 106 by decide), trivial⟩, ?_⟩
  refine List.forall_mem_cons.mpr ⟨⟨(trivial), trivial⟩, ?_⟩
  refine List.forall_mem_cons.mpr ⟨⟨(trivial), trivial⟩, ?_⟩
  refine List.forall_mem_cons.mpr ⟨⟨(mj_lkG (by decide) rfl (by decide) mj_inU10 mjf_10_138), trivial⟩, ?_⟩
  refine List.forall_mem_cons.mpr ⟨⟨(show (0 : Int) ≤ ((121 : Nat) : Int) + 64 by decide), trivial⟩, ?_⟩
  refine List.forall_mem_cons.mpr ⟨⟨(trivial), trivial⟩, ?_⟩
  refine List.forall_mem_cons.mpr ⟨⟨(mj_lkG (by decide) rfl (by decide) mj_inU10 mjf_10_56), trivial⟩, ?_⟩
  refine List.forall_mem_cons.mpr ⟨⟨(trivial), trivial⟩, ?_⟩
  refine List.forall_mem_cons.mpr ⟨⟨(trivial), trivial⟩, ?_⟩
  refine List.forall_mem_cons.mpr ⟨⟨(trivial), trivial⟩, ?_⟩
  refine List.forall_mem_cons.mpr ⟨⟨(trivial), mj_ckOf mjK_118 (by decide) (mj_lnkG mjl_10_203)⟩, ?_⟩
  refine List.forall_mem_cons.mpr ⟨⟨(trivial), trivial⟩, ?_⟩
  refine List.forall_mem_cons.mpr ⟨⟨(trivial), trivial⟩, ?_⟩
  refine List.forall_mem_cons.mpr ⟨⟨(mj_lkG (by decide) rfl (by decide) mj_inU10 mjf_10_59), trivial⟩, ?_⟩
  refine List.forall_mem_cons.mpr ⟨⟨(trivial), trivial⟩, ?_⟩
  refine List.forall_mem_cons.mpr ⟨⟨(trivial), trivial⟩, ?_⟩
  refine List.forall_mem_cons.mpr ⟨⟨(show (0 : Int) ≤ ((141 : Nat) : Int) + 11 by decide), trivial⟩, ?_⟩
  refine List.forall_mem_cons.mpr ⟨⟨(trivial), trivial⟩, ?_⟩
  refine List.forall_mem_cons.mpr ⟨⟨(trivial), trivial⟩, ?_⟩
  refine List.forall_mem_cons.mpr ⟨⟨(trivial), mj_ckOf mjK_119 (by decide) (mj_lnkG mjl_10_206)⟩, ?_⟩
  refine List.forall_mem_cons.mpr ⟨⟨(show (0 : Int) ≤ ((149 : Nat) : Int) + 4 by decide), trivial⟩, ?_⟩
  refine List.forall_mem_cons.mpr ⟨⟨(trivial), trivial⟩, ?_⟩
  refine List.forall_mem_cons.mpr ⟨⟨(trivial), trivial⟩, ?_⟩
  refine List.forall_mem_cons.mpr ⟨⟨(trivial), trivial⟩, ?_⟩
  refine List.forall_mem_cons.mpr ⟨⟨(show (0 : Int) ≤ ((155 : Nat) : Int) + 22 by decide), trivial⟩, ?_⟩
  refine List.forall_mem_cons.mpr ⟨⟨(trivial), trivial⟩, ?_⟩
  refine List.forall_mem_cons.mpr ⟨⟨(mj_lkG (by decide) rfl (by decide) mj_inU10 mjf_10_59), trivial⟩, ?_⟩
  refine List.forall_mem_cons.mpr ⟨⟨(trivial), trivial⟩, ?_⟩
  refine List.forall_mem_cons.mpr ⟨⟨(trivial), trivial⟩, ?_⟩
  refine List.forall_mem_cons.mpr ⟨⟨(show (0 : Int) ≤ ((164 : Nat) : Int) + 13 by decide), trivial⟩, ?_⟩
  refine List.forall_mem_cons.mpr ⟨⟨(trivial), trivial⟩, ?_⟩
  refine List.forall_mem_cons.mpr ⟨⟨(trivial), trivial⟩, ?_⟩
  refine List.forall_mem_cons.mpr ⟨⟨(trivial), trivial⟩, ?_⟩
  refine List.forall_mem_cons.mpr ⟨⟨(trivial), trivial⟩, ?_⟩
  refine List.forall_mem_cons.mpr ⟨⟨(trivial), trivial⟩, ?_⟩
  refine List.forall_mem_cons.mpr ⟨⟨(show (0 : Int) ≤ ((174 : Nat) : Int) + 4 by decide), trivial⟩, ?_⟩
  refine List.forall_mem_cons.mpr ⟨⟨(trivial), trivial⟩, ?_⟩
  refine List.forall_mem_cons.mpr ⟨⟨(show (1 : Nat) < mj_maxL 106 by decide), trivial⟩, ?_⟩
  refine List.forall_mem_cons.mpr ⟨⟨(show (2 : Nat) < mj_maxL 106 by decide), trivial⟩, ?_⟩
  refine List.forall_mem_cons.mpr ⟨⟨(show (0 : Int) ≤ ((182 : Nat) : Int) + (-66) by decide), trivial⟩, ?_⟩
  refine List.forall_mem_cons.mpr ⟨⟨(trivial), trivial⟩, ?_⟩
  refine List.forall_mem_cons.mpr ⟨⟨(trivial), trivial⟩, ?_⟩
  exact fun _ h => absurd h List.not_mem_nil
theorem mjd_106 : mj_ckd 106 = true := by decide +kernel
theorem mjg_106 : mj_good 106 := mj_goodOf (fun _ => ⟨mj_G, rfl⟩) (by decide +kernel) mjd_106 mje_106
theorem mje_107 : ∀ e ∈ mj_tb107, mj_lk 107 e.1 e.2.1 e.2.2.1 e.2.2.2 ∧ mj_cok 107 e.2.1 e.2.2.1 e.2.2.2 := by
  unfold mj_tb107
  refine List.forall_mem_cons.mpr ⟨⟨(trivial), trivial⟩, ?_⟩
  refine List.forall_mem_cons.mpr ⟨⟨(show (2 : Nat) < mj_maxL 107 by decide), trivial⟩, ?_⟩
  refine List.forall_mem_cons.mpr ⟨⟨(trivial), trivial⟩, ?_⟩
  refine List.forall_mem_cons.mpr ⟨⟨(trivial), trivial⟩, ?_⟩
  refine List.forall_mem_cons.mpr ⟨⟨(show (0 : Int) ≤ ((4 : Nat) : Int) + 129 by decide), trivial⟩, ?_⟩
  refine List.forall_mem_cons.mpr ⟨⟨(trivial), trivial⟩, ?_⟩
  refine List.forall_mem_cons.mpr ⟨⟨(mj_lkG (by decide) rfl (by decide) mj_inU10 mjf_10_35), trivial⟩, ?_⟩
  refine List.forall_mem_cons.mpr ⟨⟨(trivial), trivial⟩, ?_⟩
  refine List.forall_mem_cons.mpr ⟨⟨(trivial), trivial⟩, ?_⟩
  refine List.forall_mem_cons.mpr ⟨⟨(trivial), trivial⟩, ?_⟩
  refine List.forall_mem_cons.mpr ⟨⟨(trivial), trivial⟩, ?_⟩
  refine List.forall_mem_cons.mpr ⟨⟨(trivial), trivial⟩, ?_⟩
  refine List.forall_mem_cons.mpr ⟨⟨(trivial), trivial⟩, ?_⟩
  refine List.forall_mem_cons.mpr ⟨⟨(show (3 : Nat) < mj_maxL 107 by decide), trivial⟩, ?_⟩
  refine List.forall_mem_cons.mpr ⟨⟨(trivial), trivial⟩, ?_⟩
  refine List.forall_mem_cons.mpr ⟨⟨(trivial), trivial⟩, ?_⟩
  refine List.forall_mem_cons.mpr ⟨⟨(mj_lkP (by decide) rfl (by decide) mj_inU10 mjf_10_159 mj_TyOk10 mj_Nm10 (Or.inl rfl) rfl), trivial⟩, ?_⟩
  refine List.forall_mem_cons.mpr ⟨⟨(trivial), trivial⟩, ?_⟩
  refine List.forall_mem_cons.mpr ⟨⟨(show (4 : Nat) < mj_maxL 107 by decide), trivial⟩, ?_⟩
  refine List.forall_mem_cons.mpr ⟨⟨(trivial), trivial⟩, ?_⟩
  refine List.forall_mem_cons.mpr ⟨⟨(trivial), trivial⟩, ?_⟩
  refine List.forall_mem_cons.mpr ⟨⟨(show (0 : Int) ≤ ((29 : Nat) : Int) + 98 by decide), trivial⟩, ?_⟩
  refine List.forall_mem_cons.mpr ⟨⟨(trivial), trivial⟩, ?_⟩
  refine List.forall_mem_cons.mpr ⟨⟨(trivial), trivial⟩, ?_⟩
  refine List.forall_mem_cons.mpr ⟨⟨(show (0 : Int) ≤ ((35 : Nat) : Int) + 14 by decide), trivial⟩, ?_⟩
  refine List.forall_mem_cons.mpr ⟨⟨(trivial), trivial⟩, ?_⟩
  refine List.forall_mem_cons.mpr ⟨⟨(trivial), trivial⟩, ?_⟩
  refine List.forall_mem_cons.mpr ⟨⟨(trivial), trivial⟩, ?_⟩
  refine List.forall_mem_cons.mpr ⟨⟨(trivial), trivial⟩, ?_⟩
  refine List.forall_mem_cons.mpr ⟨⟨(trivial), mj_ckOf mjK_108 (by decide) (mj_lnkG mjl_10_180)⟩, ?_⟩
  refine List.forall_mem_cons.mpr ⟨⟨(show (0 : Int) ≤ ((46 : Nat) : Int) + 28 by decide), trivial⟩, ?_⟩
  refine List.forall_mem_cons.mpr ⟨⟨(trivial), trivial⟩, ?_⟩
  refine List.forall_mem_cons.mpr ⟨⟨(show (0 : Int) ≤ ((50 : Nat) : Int) + 11 by decide), trivial⟩, ?_⟩
  refine List.forall_mem_cons.mpr ⟨⟨(trivial), trivial⟩, ?_⟩
  refine List.forall_mem_cons.mpr ⟨⟨(show (0 : Int) ≤ ((54 : Nat) : Int) + 7 by decide), trivial⟩, ?_⟩
  refine List.forall_mem_cons.mpr ⟨⟨(trivial), trivial⟩, ?_⟩
  refine List.forall_mem_cons.mpr ⟨⟨(show (0 : Int) ≤ ((58 : Nat) : Int) + 16 by decide), trivial⟩, ?_⟩
  refine List.forall_mem_cons.mpr ⟨⟨(trivial), trivial⟩, ?_⟩
  refine List.forall_mem_cons.mpr ⟨⟨(mj_lkG (by decide) rfl (by decide) mj_inU10 mjf_10_159), trivial⟩, ?_⟩
  refine List.forall_mem_cons.mpr ⟨⟨(show (0 : Int) ≤ ((65 : Nat) : Int) + 8 by decide), trivial⟩, ?_⟩
  refine List.forall_mem_cons.mpr ⟨⟨(trivial), trivial⟩, ?_⟩
  refine List.forall_mem_cons.mpr ⟨⟨(show (0 : Int) ≤ ((70 : Nat) : Int) + 4 by decide), trivial⟩, ?_⟩
  refine List.forall_mem_cons.mpr ⟨⟨(trivial), trivial⟩, ?_⟩
  refine List.forall_mem_cons.mpr ⟨⟨(show (5 : Nat) < mj_maxL 107 by decide), trivial⟩, ?_⟩
  refine List.forall_mem_cons.mpr ⟨⟨(trivial), trivial⟩, ?_⟩
  refine List.forall_mem_cons.mpr ⟨⟨(show (0 : Int) ≤ ((78 : Nat) : Int) + 17 by decide), trivial⟩, ?_⟩
  refine List.forall_mem_cons.mpr ⟨⟨(trivial), trivial⟩, ?_⟩
  refine List.forall_mem_cons.mpr ⟨⟨(trivial), trivial⟩, ?_⟩
  refine List.forall_mem_cons.mpr ⟨⟨(trivial), trivial⟩, ?_⟩
  refine List.forall_mem_cons.mpr ⟨⟨(trivial), trivial⟩, ?_⟩
  refine List.forall_mem_cons.mpr ⟨⟨(trivial), trivial⟩, ?_⟩
  refine List.forall_mem_cons.mpr ⟨⟨(trivial), trivial⟩, ?_⟩
  refine List.forall_mem_cons.mpr ⟨⟨(mj_lkP (by decide) rfl (by decide) mj_inU10 mjf_10_7 mj_TyOk10 mj_Nm10 (Or.inl rfl) rfl), trivial⟩, ?_⟩
  refine List.forall_mem_cons.mpr ⟨⟨(trivial), trivial⟩, ?_⟩
  refine List.forall_mem_cons.mpr ⟨⟨(trivial), trivial⟩, ?_⟩
  refine List.forall_mem_cons.mpr ⟨⟨(trivial), trivial⟩, ?_⟩
  refine List.forall_mem_cons.mpr ⟨⟨(trivial), trivial⟩, ?_⟩
  refine List.forall_mem_cons.mpr ⟨⟨(trivial), trivial⟩, ?_⟩
  refine List.forall_mem_cons.mpr ⟨⟨(trivial), trivial⟩, ?_⟩
  refine List.forall_mem_cons.mpr ⟨⟨(trivial), trivial⟩, ?_⟩
  refine List.forall_mem_cons.mpr ⟨⟨(trivial), trivial⟩, ?_⟩
  refine List.forall_mem_cons.mpr ⟨⟨(trivial), trivial⟩, ?_⟩
  refine List.forall_mem_cons.mpr ⟨⟨(trivial), trivial⟩, ?_⟩
  refine List.forall_mem_cons.mpr ⟨⟨(trivial), trivial⟩, ?_⟩
  refine List.forall_mem_cons.mpr ⟨⟨(trivial), trivial⟩, ?_⟩
  refine List.forall_mem_cons.mpr ⟨⟨(trivial), trivial⟩, ?_⟩
  refine List.forall_mem_cons.mpr ⟨⟨(trivial), trivial⟩, ?_⟩
  refine List.forall_mem_cons.mpr ⟨⟨(show (0 : Int) ≤ ((110 : Nat) : Int) + 7 by decide), trivial⟩, ?_⟩
  refine List.forall_mem_cons.mpr ⟨⟨(trivial), trivial⟩, ?_⟩
  refine List.forall_mem_cons.mpr ⟨⟨(show (0 : Int) ≤ ((114 : Nat) : Int) + 4 by decide), trivial⟩, ?_⟩
  refine List.forall_mem_cons.mpr ⟨⟨(trivial), trivial⟩, ?_⟩
  refine List.forall_mem_cons.mpr ⟨⟨(trivial), mj_ckOf mjK_114 (by decide) (mj_lnkG mjl_10_184)⟩, ?_⟩
  refine List.forall_mem_cons.mpr ⟨⟨(show (4 : Nat) < mj_maxL 107 by decide), trivial⟩, ?_⟩
  refine List.forall_mem_cons.mpr ⟨⟨(show (0 : Int) ≤ ((124 : Nat) : Int) + (-98) by decide), trivial⟩, ?_⟩
  refine List.forall_mem_cons.mpr ⟨⟨(show (2 : Nat) < mj_maxL 107 by decide), trivial⟩, ?_⟩
  refine List.forall_mem_cons.mpr ⟨⟨(show (0 : Int) ≤ ((130 : Nat) : Int) + (-128) by decide), trivial⟩, ?_⟩
  refine List.forall_mem_cons.mpr ⟨⟨(trivial), trivial⟩, ?_⟩
  refine List.forall_mem_cons.mpr ⟨⟨(trivial), trivial⟩, ?_⟩
  exact fun _ h => absurd h List.not_mem_nil
theorem mjd_107 : mj_ckd 107 = true := by decide +kernel
theorem mjg_107 : mj_good 107 := mj_goodOf (fun _ => ⟨mj_G, rfl⟩) (by decide +kernel) mjd_107 mje_107
theorem mje_108 : ∀ e ∈ mj_tb108, mj_lk 108 e.1 e.2.1 e.2.2.1 e.2.2.2 ∧ mj_cok 108 e.2.1 e.2.2.1 e.2.2.2 := by
  unfold mj_tb108
  refine List.forall_mem_cons.mpr ⟨⟨(trivial), trivial⟩, ?_⟩
  refine List.forall_mem_cons.mpr ⟨⟨(trivial), trivial⟩, ?_⟩
  refine List.forall_mem_cons.mpr ⟨⟨(trivial), trivial⟩, ?_⟩
  refine List.forall_mem_cons.mpr ⟨⟨(trivial), trivial⟩, ?_⟩
  refine List.forall_mem_cons.mpr ⟨⟨(trivial), trivial⟩, ?_⟩
  refine List.forall_mem_cons.mpr ⟨⟨(trivial), trivial⟩, ?_⟩
  refine List.forall_mem_cons.mpr ⟨⟨(trivial), trivial⟩, ?_⟩
  refine List.forall_mem_cons.mpr ⟨⟨(trivial), trivial⟩, ?_⟩
  refine List.forall_mem_cons.mpr ⟨⟨(trivial), trivial⟩, ?_⟩
  refine List.forall_mem_cons.mpr ⟨⟨(show (4 : Nat) < mj_maxL 108 by decide), trivial⟩, ?_⟩
  refine List.forall_mem_cons.mpr ⟨⟨(trivial), trivial⟩, ?_⟩
  refine List.forall_mem_cons.mpr ⟨⟨(mj_lkG (by decide) rfl (by decide) mj_inU10 mjf_10_23), trivial⟩, ?_⟩
  refine List.forall_mem_cons.mpr ⟨⟨(trivial), trivial⟩, ?_⟩
  refine List.forall_mem_cons.mpr ⟨⟨(trivial), trivial⟩, ?_⟩
  refine List.forall_mem_cons.mpr ⟨⟨(show (5 : Nat) < mj_maxL 108 by decide), trivial⟩, ?_⟩
  refine List.forall_mem_cons.mpr ⟨⟨(trivial), trivial⟩, ?_⟩
  refine List.forall_mem_cons.mpr ⟨⟨(mj_lkG (by decide) rfl (by decide) mj_inU10 mjf_10_29), trivial⟩, ?_⟩
  refine List.forall_mem_cons.mpr ⟨⟨(trivial), trivial⟩, ?_⟩
  refine List.forall_mem_cons.mpr ⟨⟨(trivial), trivial⟩, ?_⟩
  refine List.forall_mem_cons.mpr ⟨⟨(show (6 : Nat) < mj_maxL 108 by decide), trivial⟩, ?_⟩
  refine List.forall_mem_cons.mpr ⟨⟨(trivial), trivial⟩, ?_⟩
  refine List.forall_mem_cons.mpr ⟨⟨(mj_lkG (by decide) rfl (by decide) mj_inU10 mjf_10_159), trivial⟩, ?_⟩
  refine List.forall_mem_cons.mpr ⟨⟨(show (0 : Int) ≤ ((34 : Nat) : Int) + 22 by decide), trivial⟩, ?_⟩
  refine List.forall_mem_cons.mpr ⟨⟨(trivial), trivial⟩, ?_⟩
  refine List.forall_mem_cons.mpr ⟨⟨(mj_lkG (by decide) rfl (by decide) mj_inU10 mjf_10_23), trivial⟩, ?_⟩
  refine List.forall_mem_cons.mpr ⟨⟨(trivial), trivial⟩, ?_⟩
  refine List.forall_mem_cons.mpr ⟨⟨(mj_lkG (by decide) rfl (by decide) mj_inU10 mjf_10_41), trivial⟩, ?_⟩
  refine List.forall_mem_cons.mpr ⟨⟨(trivial), trivial⟩, ?_⟩
  refine List.forall_mem_cons.mpr ⟨⟨(mj_lkG (by decide) rfl (by decide) mj_inU10 mjf_10_159), trivial⟩, ?_⟩
  refine List.forall_mem_cons.mpr ⟨⟨(trivial), trivial⟩, ?_⟩
  refine List.forall_mem_cons.mpr ⟨⟨(trivial), trivial⟩, ?_⟩
  refine List.forall_mem_cons.mpr ⟨⟨(trivial), trivial⟩, ?_⟩
  refine List.forall_mem_cons.mpr ⟨⟨(trivial), trivial⟩, ?_⟩
  refine List.forall_mem_cons.mpr ⟨⟨(show (0 : Int) ≤ ((53 : Nat) : Int) + 4 by decide), trivial⟩, ?_⟩
  refine List.forall_mem_cons.mpr ⟨⟨(trivial), trivial⟩, ?_⟩
  refine List.forall_mem_cons.mpr ⟨⟨(show (7 : Nat) < mj_maxL 108 by decide), trivial⟩, ?_⟩
  refine List.forall_mem_cons.mpr ⟨⟨(trivial), trivial⟩, ?_⟩
  refine List.forall_mem_cons.mpr ⟨⟨(trivial), trivial⟩, ?_⟩
  refine List.forall_mem_cons.mpr ⟨⟨(show (0 : Int) ≤ ((63 : Nat) : Int) + 10 by decide), trivial⟩, ?_⟩
  refine List.forall_mem_cons.mpr ⟨⟨(trivial), trivial⟩, ?_⟩
  refine List.forall_mem_cons.mpr ⟨⟨(trivial), trivial⟩, ?_⟩
  refine List.forall_mem_cons.mpr ⟨⟨(show (0 : Int) ≤ ((70 : Nat) : Int) + 17 by decide), trivial⟩, ?_⟩
  refine List.forall_mem_cons.mpr ⟨⟨(trivial), trivial⟩, ?_⟩
  refine List.forall_mem_cons.mpr ⟨⟨(trivial), trivial⟩, ?_⟩
  refine List.forall_mem_cons.mpr ⟨⟨(show (0 : Int) ≤ ((77 : Nat) : Int) + 12 by decide), trivial⟩, ?_⟩
  refine List.forall_mem_cons.mpr ⟨⟨(trivial), trivial⟩, ?_⟩
  refine List.forall_mem_cons.mpr ⟨⟨(trivial), trivial⟩, ?_⟩
  refine List.forall_mem_cons.mpr ⟨⟨(show (0 : Int) ≤ ((84 : Nat) : Int) + 5 by decide), trivial⟩, ?_⟩
  refine List.forall_mem_cons.mpr ⟨⟨(trivial), trivial⟩, ?_⟩
  refine List.forall_mem_cons.mpr ⟨⟨(trivial), trivial⟩, ?_⟩
  refine List.forall_mem_cons.mpr ⟨⟨(trivial), trivial⟩, ?_⟩
  refine List.forall_mem_cons.mpr ⟨⟨(trivial), trivial⟩, ?_⟩
  refine List.forall_mem_cons.mpr ⟨⟨(show (0 : Int) ≤ ((93 : Nat) : Int) + 13 by decide), trivial⟩, ?_⟩
  refine List.forall_mem_cons.mpr ⟨⟨(trivial), trivial⟩, ?_⟩
  refine List.forall_mem_cons.mpr ⟨⟨(trivial), mj_ckOf mjK_109 (by decide) (mj_lnkG mjl_10_166)⟩, ?_⟩
  refine List.forall_mem_cons.mpr ⟨⟨(trivial), trivial⟩, ?_⟩
  refine List.forall_mem_cons.mpr ⟨⟨(show (0 : Int) ≤ ((101 : Nat) : Int) + 5 by decide), trivial⟩, ?_⟩
  refine List.forall_mem_cons.mpr ⟨⟨(trivial), trivial⟩, ?_⟩
  refine List.forall_mem_cons.mpr ⟨⟨(trivial), trivial⟩, ?_⟩
  refine List.forall_mem_cons.mpr ⟨⟨(trivial), trivial⟩, ?_⟩
  refine List.forall_mem_cons.mpr ⟨⟨(trivial), trivial⟩, ?_⟩
  refine List.forall_mem_cons.mpr ⟨⟨(show (0 : Int) ≤ ((110 : Nat) : Int) + 25 by decide), trivial⟩, ?_⟩
  refine List.forall_mem_cons.mpr ⟨⟨(trivial), trivial⟩, ?_⟩
  refine List.forall_mem_cons.mpr ⟨⟨(trivial), trivial⟩, ?_⟩
  refine List.forall_mem_cons.mpr ⟨⟨(show (0 : Int) ≤ ((116 : Nat) : Int) + 17 by decide), trivial⟩, ?_⟩
  refine List.forall_mem_cons.mpr ⟨⟨(trivial), trivial⟩, ?_⟩
  refine List.forall_mem_cons.mpr ⟨⟨(mj_lkG (by decide) rfl (by decide) mj_inU10 mjf_10_35), trivial⟩, ?_⟩
  refine List.forall_mem_cons.mpr ⟨⟨(trivial), trivial⟩, ?_⟩
  refine List.forall_mem_cons.mpr ⟨⟨(trivial), trivial⟩, ?_⟩
  refine List.forall_mem_cons.mpr ⟨⟨(trivial), trivial⟩, ?_⟩
  refine List.forall_mem_cons.mpr ⟨⟨(trivial), trivial⟩, ?_⟩
  refine List.forall_mem_cons.mpr ⟨⟨(trivial), trivial⟩, ?_⟩
  refine List.forall_mem_cons.mpr ⟨⟨(trivial), trivial⟩, ?_⟩
  refine List.forall_mem_cons.mpr ⟨⟨(show (0 : Int) ≤ ((130 : Nat) : Int) + 5 by decide), trivial⟩, ?_⟩
  refine List.forall_mem_cons.mpr ⟨⟨(trivial), trivial⟩, ?_⟩
  refine List.forall_mem_cons.mpr ⟨⟨(trivial), trivial⟩, ?_⟩
  refine List.forall_mem_cons.mpr ⟨⟨(trivial), trivial⟩, ?_⟩
  refine List.forall_mem_cons.mpr ⟨⟨(trivial), trivial⟩, ?_⟩
  refine List.forall_mem_cons.mpr ⟨⟨(show (0 : Int) ≤ ((139 : Nat) : Int) + 10 by decide), trivial⟩, ?_⟩
  refine List.forall_mem_cons.mpr ⟨⟨(trivial), trivial⟩, ?_⟩
  refine List.forall_mem_cons.mpr ⟨⟨(trivial), trivial⟩, ?_⟩
  refine List.forall_mem_cons.mpr ⟨⟨(trivial), trivial⟩, ?_⟩
  refine List.forall_mem_cons.mpr ⟨⟨(show (0 : Int) ≤ ((146 : Nat) : Int) + 21 by decide), trivial⟩, ?_⟩
  refine List.forall_mem_cons.mpr ⟨⟨(trivial), trivial⟩, ?_⟩
  refine List.forall_mem_cons.mpr ⟨⟨(trivial), trivial⟩, ?_⟩
  refine List.forall_mem_cons.mpr ⟨⟨(show (0 : Int) ≤ ((153 : Nat) : Int) + 13 by decide), trivial⟩, ?_⟩
  refine List.forall_mem_cons.mpr ⟨⟨(trivial), trivial⟩, ?_⟩
  refine List.forall_mem_cons.mpr ⟨⟨(trivial), trivial⟩, ?_⟩
  refine List.forall_mem_cons.mpr ⟨⟨(trivial), trivial⟩, ?_⟩
  refine List.forall_mem_cons.mpr ⟨⟨(trivial), mj_ckOf mjK_110 (by decide) (mj_lnkG mjl_10_170)⟩, ?_⟩
  refine List.forall_mem_cons.mpr ⟨⟨(show (0 : Int) ≤ ((163 : Nat) : Int) + 4 by decide), trivial⟩, ?_⟩
  refine List.forall_mem_cons.mpr ⟨⟨(trivial), trivial⟩, ?_⟩
  refine List.forall_mem_cons.mpr ⟨⟨(show (8 : Nat) < mj_maxL 108 by decide), trivial⟩, ?_⟩
  refine List.forall_mem_cons.mpr ⟨⟨(trivial), trivial⟩, ?_⟩
  refine List.forall_mem_cons.mpr ⟨⟨(trivial), trivial⟩, ?_⟩
  refine List.forall_mem_cons.mpr ⟨⟨(trivial), mj_ckOf mjK_111 (by decide) (mj_lnkG mjl_10_174)⟩, ?_⟩
  refine List.forall_mem_cons.mpr ⟨⟨(trivial), trivial⟩, ?_⟩
  refine List.forall_mem_cons.mpr ⟨⟨(show (0 : Int) ≤ ((176 : Nat) : Int) + 5 by decide), trivial⟩, ?_⟩
  refine List.forall_mem_cons.mpr ⟨⟨(trivial), trivial⟩, ?_⟩
  refine List.forall_mem_cons.mpr ⟨⟨(trivial), trivial⟩, ?_⟩
  refine List.forall_mem_cons.mpr ⟨⟨(trivial), trivial⟩, ?_⟩
  refine List.forall_mem_cons.mpr ⟨⟨(trivial), trivial⟩, ?_⟩
  refine List.forall_mem_cons.mpr ⟨⟨(show (0 : Int) ≤ ((184 : Nat) : Int) + 28 by decide), trivial⟩, ?_⟩
  refine List.forall_mem_cons.mpr ⟨⟨(trivial), trivial⟩, ?_⟩
  refine List.forall_mem_cons.mpr ⟨⟨(trivial), trivial⟩, ?_⟩
  refine List.forall_mem_cons.mpr ⟨⟨(trivial), trivial⟩, ?_⟩
  refine List.forall_mem_cons.mpr ⟨⟨(trivial), trivial⟩, ?_⟩
  refine List.forall_mem_cons.mpr ⟨⟨(mj_lkG (by decide) rfl (by decide) mj_inU10 mjf_10_35), trivial⟩, ?_⟩
  refine List.forall_mem_cons.mpr ⟨⟨(trivial), trivial⟩, ?_⟩
  refine List.forall_mem_cons.mpr ⟨⟨(trivial), trivial⟩, ?_⟩
  refine List.forall_mem_cons.mpr ⟨⟨(trivial), trivial⟩, ?_⟩
  refine List.forall_mem_cons.mpr ⟨⟨(trivial), trivial⟩, ?_⟩
  refine List.forall_mem_cons.mpr ⟨⟨(trivial), trivial⟩, ?_⟩
  refine List.forall_mem_cons.mpr ⟨⟨(trivial), trivial⟩, ?_⟩
  refine List.forall_mem_cons.mpr ⟨⟨(trivial), mj_ckOf mjK_112 (by decide) (mj_lnkG mjl_10_177)⟩, ?_⟩
  refine List.forall_mem_cons.mpr ⟨⟨(show (0 : Int) ≤ ((204 : Nat) : Int) + 8 by decide), trivial⟩, ?_⟩
  refine List.forall_mem_cons.mpr ⟨⟨(trivial), trivial⟩, ?_⟩
  refine List.forall_mem_cons.mpr ⟨⟨(show (0 : Int) ≤ ((209 : Nat) : Int) + 4 by decide), trivial⟩, ?_⟩
  refine List.forall_mem_cons.mpr ⟨⟨(trivial), trivial⟩, ?_⟩
  refine List.forall_mem_cons.mpr ⟨⟨(trivial), trivial⟩, ?_⟩
  exact fun _ h => absurd h List.not_mem_nil
theorem mjd_108 : mj_ckd 108 = true := by decide +kernel
theorem mjg_108 : mj_good 108 := mj_goodOf (fun _ => ⟨mj_G, rfl⟩) (by decide +kernel) mjd_108 mje_108
theorem mje_109 : ∀ e ∈ mj_tb109, mj_lk 109 e.1 e.2.1 e.2.2.1 e.2.2.2 ∧ mj_cok 109 e.2.1 e.2.2.1 e.2.2.2 := by
  unfold mj_tb109
  refine List.forall_mem_cons.mpr ⟨⟨(trivial), trivial⟩, ?_⟩
  refine List.forall_mem_cons.mpr ⟨⟨(show (1 : Nat) < mj_maxL 109 by decide), trivial⟩, ?_⟩
  refine List.forall_mem_cons.mpr ⟨⟨(trivial), trivial⟩, ?_⟩
  refine List.forall_mem_cons.mpr ⟨⟨(show (2 : Nat) < mj_maxL 109 by decide), trivial⟩, ?_⟩
  refine List.forall_mem_cons.mpr ⟨⟨(trivial), trivial⟩, ?_⟩
  refine List.forall_mem_cons.mpr ⟨⟨(trivial), trivial⟩, ?_⟩
  refine List.forall_mem_cons.mpr ⟨⟨(mj_lkG (by decide) rfl (by decide) mj_inU10 mjf_10_159), trivial⟩, ?_⟩
  refine List.forall_mem_cons.mpr ⟨⟨(show (0 : Int) ≤ ((9 : Nat) : Int) + 33 by decide), trivial⟩, ?_⟩
  refine List.forall_mem_cons.mpr ⟨⟨(trivial), trivial⟩, ?_⟩
  refine List.forall_mem_cons.mpr ⟨⟨(mj_lkG (by decide) rfl (by decide) mj_inU10 mjf_10_23), trivial⟩, ?_⟩
  refine List.forall_mem_cons.mpr ⟨⟨(trivial), trivial⟩, ?_⟩
  refine List.forall_mem_cons.mpr ⟨⟨(mj_lkG (by decide) rfl (by decide) mj_inU10 mjf_10_41), trivial⟩, ?_⟩
  refine List.forall_mem_cons.mpr ⟨⟨(trivial), trivial⟩, ?_⟩
  refine List.forall_mem_cons.mpr ⟨⟨(trivial), trivial⟩, ?_⟩
  refine List.forall_mem_cons.mpr ⟨⟨(trivial), trivial⟩, ?_⟩
  refine List.forall_mem_cons.mpr ⟨⟨(trivial), trivial⟩, ?_⟩
  refine List.forall_mem_cons.mpr ⟨⟨(show (0 : Int) ≤ ((25 : Nat) : Int) + 9 by decide), trivial⟩, ?_⟩
  refine List.forall_mem_cons.mpr ⟨⟨(trivial), trivial⟩, ?_⟩
  refine List.forall_mem_cons.mpr ⟨⟨(trivial), trivial⟩, ?_⟩
  refine List.forall_mem_cons.mpr ⟨⟨(trivial), trivial⟩, ?_⟩
  refine List.forall_mem_cons.mpr ⟨⟨(show (0 : Int) ≤ ((31 : Nat) : Int) + 4 by decide), trivial⟩, ?_⟩
  refine List.forall_mem_cons.mpr ⟨⟨(trivial), trivial⟩, ?_⟩
  refine List.forall_mem_cons.mpr ⟨⟨(show (1 : Nat) < mj_maxL 109 by decide), trivial⟩, ?_⟩
  refine List.forall_mem_cons.mpr ⟨⟨(show (2 : Nat) < mj_maxL 109 by decide), trivial⟩, ?_⟩
  refine List.forall_mem_cons.mpr ⟨⟨(show (0 : Int) ≤ ((39 : Nat) : Int) + (-35) by decide), trivial⟩, ?_⟩
  refine List.forall_mem_cons.mpr ⟨⟨(trivial), trivial⟩, ?_⟩
  refine List.forall_mem_cons.mpr ⟨⟨(trivial), trivial⟩, ?_⟩
  exact fun _ h => absurd h List.not_mem_nil
theorem mjd_109 : mj_ckd 109 = true := by decide +kernel
theorem mjg_109 : mj_good 109 := mj_goodOf (fun _ => ⟨mj_G, rfl⟩) (by decide +kernel) mjd_109 mje_109
theorem mje_110 : ∀ e ∈ mj_tb110, mj_lk 110 e.1 e.2.1 e.2.2.1 e.2.2.2 ∧ mj_cok 110 e.2.1 e.2.2.1 e.2.2.2 := by
  unfold mj_tb110
  refine List.forall_mem_cons.mpr ⟨⟨(trivial), trivial⟩, ?_⟩
  refine List.forall_mem_cons.mpr ⟨⟨(show (3 : Nat) < mj_maxL 110 by decide), trivial⟩, ?_⟩
  refine List.forall_mem_cons.mpr ⟨⟨(trivial), trivial⟩, ?_⟩
  refine List.forall_mem_cons.mpr ⟨⟨(trivial), trivial⟩, ?_⟩
  refine List.forall_mem_cons.mpr ⟨⟨(trivial), trivial⟩, ?_⟩
  refine List.forall_mem_cons.mpr ⟨⟨(show (4 : Nat) < mj_maxL 110 by decide), trivial⟩, ?_⟩
  refine List.forall_mem_cons.mpr ⟨⟨(trivial), trivial⟩, ?_⟩
  refine List.forall_mem_cons.mpr ⟨⟨(show (5 : Nat) < mj_maxL 110 by decide), trivial⟩, ?_⟩
  refine List.forall_mem_cons.mpr ⟨⟨(trivial), trivial⟩, ?_⟩
  refine List.forall_mem_cons.mpr ⟨⟨(trivial), trivial⟩, ?_⟩
  refine List.forall_mem_cons.mpr ⟨⟨(show (0 : Int) ≤ ((13 : Nat) : Int) + 130 by decide), trivial⟩, ?_⟩
  refine List.forall_mem_cons.mpr ⟨⟨(trivial), trivial⟩, ?_⟩
  refine List.forall_mem_cons.mpr ⟨⟨(show (6 : Nat) < mj_maxL 110 by decide), trivial⟩, ?_⟩
  refine List.forall_mem_cons.mpr ⟨⟨(trivial), trivial⟩, ?_⟩
  refine List.forall_mem_cons.mpr ⟨⟨(trivial), trivial⟩, ?_⟩
  refine List.forall_mem_cons.mpr ⟨⟨(mj_lkG (by decide) rfl (by decide) mj_inU10 mjf_10_35), trivial⟩, ?_⟩
  refine List.forall_mem_cons.mpr ⟨⟨(trivial), trivial⟩, ?_⟩
  refine List.forall_mem_cons.mpr ⟨⟨(trivial), trivial⟩, ?_⟩
  refine List.forall_mem_cons.mpr ⟨⟨(trivial), trivial⟩, ?_⟩
  refine List.forall_mem_cons.mpr ⟨⟨(trivial), trivial⟩, ?_⟩
  refine List.forall_mem_cons.mpr ⟨⟨(trivial), trivial⟩, ?_⟩
  refine List.forall_mem_cons.mpr ⟨⟨(trivial), trivial⟩, ?_⟩
  refine List.forall_mem_cons.mpr ⟨⟨(show (0 : Int) ≤ ((32 : Nat) : Int) + 105 by decide), trivial⟩, ?_⟩
  refine List.forall_mem_cons.mpr ⟨⟨(trivial), trivial⟩, ?_⟩
  refine List.forall_mem_cons.mpr ⟨⟨(trivial), trivial⟩, ?_⟩
  refine List.forall_mem_cons.mpr ⟨⟨(trivial), trivial⟩, ?_⟩
  refine List.forall_mem_cons.mpr ⟨⟨(trivial), trivial⟩, ?_⟩
  refine List.forall_mem_cons.mpr ⟨⟨(trivial), trivial⟩, ?_⟩
  refine List.forall_mem_cons.mpr ⟨⟨(trivial), trivial⟩, ?_⟩
  refine List.forall_mem_cons.mpr ⟨⟨(show (0 : Int) ≤ ((43 : Nat) : Int) + 94 by decide), trivial⟩, ?_⟩
  refine List.forall_mem_cons.mpr ⟨⟨(trivial), trivial⟩, ?_⟩
  refine List.forall_mem_cons.mpr ⟨⟨(trivial), trivial⟩, ?_⟩
  refine List.forall_mem_cons.mpr ⟨⟨(trivial), trivial⟩, ?_⟩
  refine List.forall_mem_cons.mpr ⟨⟨(trivial), trivial⟩, ?_⟩
  refine List.forall_mem_cons.mpr ⟨⟨(trivial), trivial⟩, ?_⟩
  refine List.forall_mem_cons.mpr ⟨⟨(trivial), trivial⟩, ?_⟩
  refine List.forall_mem_cons.mpr ⟨⟨(trivial), trivial⟩, ?_⟩
  refine List.forall_mem_cons.mpr ⟨⟨(trivial), trivial⟩, ?_⟩
  refine List.forall_mem_cons.mpr ⟨⟨(trivial), trivial⟩, ?_⟩
  refine List.forall_mem_cons.mpr ⟨⟨(show (7 : Nat) < mj_maxL 110 by decide), trivial⟩, ?_⟩
  refine List.forall_mem_cons.mpr ⟨⟨(trivial), trivial⟩, ?_⟩
  refine List.forall_mem_cons.mpr ⟨⟨(mj_lkG (by decide) rfl (by decide) mj_inU10 mjf_10_23), trivial⟩, ?_⟩
  refine List.forall_mem_cons.mpr ⟨⟨(trivial), trivial⟩, ?_⟩
  refine List.forall_mem_cons.mpr ⟨⟨(trivial), trivial⟩, ?_⟩
  refine List.forall_mem_cons.mpr ⟨⟨(trivial), trivial⟩, ?_⟩
  refine List.forall_mem_cons.mpr ⟨⟨(show (0 : Int) ≤ ((69 : Nat) : Int) + 17 by decide), trivial⟩, ?_⟩
  refine List.forall_mem_cons.mpr ⟨⟨(trivial), trivial⟩, ?_⟩
  refine List.forall_mem_cons.mpr ⟨⟨(trivial), trivial⟩, ?_⟩
  refine List.forall_mem_cons.mpr ⟨⟨(trivial), trivial⟩, ?_⟩
  refine List.forall_mem_cons.mpr ⟨⟨(mj_lkG (by decide) rfl (by decide) mj_inU10 mjf_10_29), trivial⟩, ?_⟩
  refine List.forall_mem_cons.mpr ⟨⟨(trivial), trivial⟩, ?_⟩
  refine List.forall_mem_cons.mpr ⟨⟨(trivial), trivial⟩, ?_⟩
  refine List.forall_mem_cons.mpr ⟨⟨(trivial), trivial⟩, ?_⟩
  refine List.forall_mem_cons.mpr ⟨⟨(trivial), trivial⟩, ?_⟩
  refine List.forall_mem_cons.mpr ⟨⟨(show (0 : Int) ≤ ((83 : Nat) : Int) + 4 by decide), trivial⟩, ?_⟩
  refine List.forall_mem_cons.mpr ⟨⟨(trivial), trivial⟩, ?_⟩
  refine List.forall_mem_cons.mpr ⟨⟨(show (3 : Nat) < mj_maxL 110 by decide), trivial⟩, ?_⟩
  refine List.forall_mem_cons.mpr ⟨⟨(trivial), trivial⟩, ?_⟩
  refine List.forall_mem_cons.mpr ⟨⟨(mj_lkG (by decide) rfl (by decide) mj_inU10 mjf_10_23), trivial⟩, ?_⟩
  refine List.forall_mem_cons.mpr ⟨⟨(trivial), trivial⟩, ?_⟩
  refine List.forall_mem_cons.mpr ⟨⟨(trivial), trivial⟩, ?_⟩
  refine List.forall_mem_cons.mpr ⟨⟨(trivial), trivial⟩, ?_⟩
  refine List.forall_mem_cons.mpr ⟨⟨(show (0 : Int) ≤ ((97 : Nat) : Int) + 30 by decide), trivial⟩, ?_⟩
  refine List.forall_mem_cons.mpr ⟨⟨(trivial), trivial⟩, ?_⟩
  refine List.forall_mem_cons.mpr ⟨⟨(mj_lkG (by decide) rfl (by decide) mj_inU10 mjf_10_29), trivial⟩, ?_⟩
  refine List.forall_mem_cons.mpr ⟨⟨(trivial), trivial⟩, ?_⟩
  refine List.forall_mem_cons.mpr ⟨⟨(trivial), trivial⟩, ?_⟩
  refine List.forall_mem_cons.mpr ⟨⟨(trivial), trivial⟩, ?_⟩
  refine List.forall_mem_cons.mpr ⟨⟨(show (0 : Int) ≤ ((109 : Nat) : Int) + 18 by decide), trivial⟩, ?_⟩
  refine List.forall_mem_cons.mpr ⟨⟨(trivial), trivial⟩, ?_⟩
  refine List.forall_mem_cons.mpr ⟨⟨(trivial), trivial⟩, ?_⟩
  refine List.forall_mem_cons.mpr ⟨⟨(trivial), trivial⟩, ?_⟩
  refine List.forall_mem_cons.mpr ⟨⟨(mj_lkG (by decide) rfl (by decide) mj_inU10 mjf_10_29), trivial⟩, ?_⟩
  refine List.forall_mem_cons.mpr ⟨⟨(trivial), trivial⟩, ?_⟩
  refine List.forall_mem_cons.mpr ⟨⟨(trivial), trivial⟩, ?_⟩
  refine List.forall_mem_cons.mpr ⟨⟨(trivial), trivial⟩, ?_⟩
  refine List.forall_mem_cons.mpr ⟨⟨(trivial), trivial⟩, ?_⟩
  refine List.forall_mem_cons.mpr ⟨⟨(show (0 : Int) ≤ ((124 : Nat) : Int) + 5 by decide), trivial⟩, ?_⟩
  refine List.forall_mem_cons.mpr ⟨⟨(trivial), trivial⟩, ?_⟩
  refine List.forall_mem_cons.mpr ⟨⟨(show (4 : Nat) < mj_maxL 110 by decide), trivial⟩, ?_⟩
  refine List.forall_mem_cons.mpr ⟨⟨(show (6 : Nat) < mj_maxL 110 by decide), trivial⟩, ?_⟩
  refine List.forall_mem_cons.mpr ⟨⟨(show (0 : Int) ≤ ((134 : Nat) : Int) + (-115) by decide), trivial⟩, ?_⟩
  refine List.forall_mem_cons.mpr ⟨⟨(show (5 : Nat) < mj_maxL 110 by decide), trivial⟩, ?_⟩
  refine List.forall_mem_cons.mpr ⟨⟨(show (0 : Int) ≤ ((140 : Nat) : Int) + (-130) by decide), trivial⟩, ?_⟩
  refine List.forall_mem_cons.mpr ⟨⟨(trivial), trivial⟩, ?_⟩
  refine List.forall_mem_cons.mpr ⟨⟨(trivial), trivial⟩, ?_⟩
  exact fun _ h => absurd h List.not_mem_nil
theorem mjd_110 : mj_ckd 110 = true := by decide +kernel
theorem mjg_110 : mj_good 110 := mj_goodOf (fun _ => ⟨mj_G, rfl⟩) (by decide +kernel) mjd_110 mje_110
theorem mje_111 : ∀ e ∈ mj_tb111, mj_lk 111 e.1 e.2.1 e.2.2.1 e.2.2.2 ∧ mj_cok 111 e.2.1 e.2.2.1 e.2.2.2 := by
  unfold mj_tb111
  refine List.forall_mem_cons.mpr ⟨⟨(trivial), trivial⟩, ?_⟩
  refine List.forall_mem_cons.mpr ⟨⟨(show (1 : Nat) < mj_maxL 111 by decide), trivial⟩, ?_⟩
  refine List.forall_mem_cons.mpr ⟨⟨(trivial), trivial⟩, ?_⟩
  refine List.forall_mem_cons.mpr ⟨⟨(show (2 : Nat) < mj_maxL 111 by decide), trivial⟩, ?_⟩
  refine List.forall_mem_cons.mpr ⟨⟨(trivial), trivial⟩, ?_⟩
  refine List.forall_mem_cons.mpr ⟨⟨(trivial), trivial⟩, ?_⟩
  refine List.forall_mem_cons.mpr ⟨⟨(mj_lkG (by decide) rfl (by decide) mj_inU10 mjf_10_159), trivial⟩, ?_⟩
  refine List.forall_mem_cons.mpr ⟨⟨(show (0 : Int) ≤ ((9 : Nat) : Int) + 45 by decide), trivial⟩, ?_⟩
  refine List.forall_mem_cons.mpr ⟨⟨(trivial), trivial⟩, ?_⟩
  refine List.forall_mem_cons.mpr ⟨⟨(mj_lkG (by decide) rfl (by decide) mj_inU10 mjf_10_23), trivial⟩, ?_⟩
  refine List.forall_mem_cons.mpr ⟨⟨(trivial), trivial⟩, ?_⟩
  refine List.forall_mem_cons.mpr ⟨⟨(mj_lkG (by decide) rfl (by decide) mj_inU10 mjf_10_41), trivial⟩, ?_⟩
  refine List.forall_mem_cons.mpr ⟨⟨(trivial), trivial⟩, ?_⟩
  refine List.forall_mem_cons.mpr ⟨⟨(trivial), trivial⟩, ?_⟩
  refine List.forall_mem_cons.mpr ⟨⟨(trivial), trivial⟩, ?_⟩
  refine List.forall_mem_cons.mpr ⟨⟨(trivial), trivial⟩, ?_⟩
  refine List.forall_mem_cons.mpr ⟨⟨(show (0 : Int) ≤ ((25 : Nat) : Int) + 21 by decide), trivial⟩, ?_⟩
  refine List.forall_mem_cons.mpr ⟨⟨(trivial), trivial⟩, ?_⟩
  refine List.forall_mem_cons.mpr ⟨⟨(trivial), trivial⟩, ?_⟩
  refine List.forall_mem_cons.mpr ⟨⟨(trivial), trivial⟩, ?_⟩
  refine List.forall_mem_cons.mpr ⟨⟨(mj_lkG (by decide) rfl (by decide) mj_inU10 mjf_10_29), trivial⟩, ?_⟩
  refine List.forall_mem_cons.mpr ⟨⟨(trivial), trivial⟩, ?_⟩
  refine List.forall_mem_cons.mpr ⟨⟨(mj_lkG (by decide) rfl (by decide) mj_inU10 mjf_10_41), trivial⟩, ?_⟩
  refine List.forall_mem_cons.mpr ⟨⟨(trivial), trivial⟩, ?_⟩
  refine List.forall_mem_cons.mpr ⟨⟨(trivial), trivial⟩, ?_⟩
  refine List.forall_mem_cons.mpr ⟨⟨(trivial), trivial⟩, ?_⟩
  refine List.forall_mem_cons.mpr ⟨⟨(trivial), trivial⟩, ?_⟩
  refine List.forall_mem_cons.mpr ⟨⟨(trivial), trivial⟩, ?_⟩
  refine List.forall_mem_cons.mpr ⟨⟨(show (0 : Int) ≤ ((43 : Nat) : Int) + 4 by decide), trivial⟩, ?_⟩
  refine List.forall_mem_cons.mpr ⟨⟨(trivial), trivial⟩, ?_⟩
  refine List.forall_mem_cons.mpr ⟨⟨(show (1 : Nat) < mj_maxL 111 by decide), trivial⟩, ?_⟩
  refine List.forall_mem_cons.mpr ⟨⟨(show (2 : Nat) < mj_maxL 111 by decide), trivial⟩, ?_⟩
  refine List.forall_mem_cons.mpr ⟨⟨(show (0 : Int) ≤ ((51 : Nat) : Int) + (-47) by decide), trivial⟩, ?_⟩
  refine List.forall_mem_cons.mpr ⟨⟨(trivial), trivial⟩, ?_⟩
  refine List.forall_mem_cons.mpr ⟨⟨(trivial), trivial⟩, ?_⟩
  exact fun _ h => absurd h List.not_mem_nil
theorem mjd_111 : mj_ckd 111 = true := by decide +kernel
theorem mjg_111 : mj_good 111 := mj_goodOf (fun _ => ⟨mj_G, rfl⟩) (by decide +kernel) mjd_111 mje_111
theorem mje_112 : ∀ e ∈ mj_tb112, mj_lk 112 e.1 e.2.1 e.2.2.1 e.2.2.2 ∧ mj_cok 112 e.2.1 e.2.2.1 e.2.2.2 := by
  unfold mj_tb112
  refine List.forall_mem_cons.mpr ⟨⟨(trivial), trivial⟩, ?_⟩
  refine List.forall_mem_cons.mpr ⟨⟨(trivial), trivial⟩, ?_⟩
  refine List.forall_mem_cons.mpr ⟨⟨(mj_lkG (by decide) rfl (by decide) mj_inU10 mjf_10_29), trivial⟩, ?_⟩
  refine List.forall_mem_cons.mpr ⟨⟨(trivial), trivial⟩, ?_⟩
  refine List.forall_mem_cons.mpr ⟨⟨(trivial), trivial⟩, ?_⟩
  refine List.forall_mem_cons.mpr ⟨⟨(trivial), trivial⟩, ?_⟩
  refine List.forall_mem_cons.mpr ⟨⟨(trivial), trivial⟩, ?_⟩
  refine List.forall_mem_cons.mpr ⟨⟨(trivial), trivial⟩, ?_⟩
  refine List.forall_mem_cons.mpr ⟨⟨(trivial), trivial⟩, ?_⟩
  refine List.forall_mem_cons.mpr ⟨⟨(show (0 : Int) ≤ ((11 : Nat) : Int) + 5 by decide), trivial⟩, ?_⟩
  refine List.forall_mem_cons.mpr ⟨⟨(trivial), trivial⟩, ?_⟩
  refine List.forall_mem_cons.mpr ⟨⟨(trivial), trivial⟩, ?_⟩
  refine List.forall_mem_cons.mpr ⟨⟨(trivial), trivial⟩, ?_⟩
  refine List.forall_mem_cons.mpr ⟨⟨(show (4 : Nat) < mj_maxL 112 by decide), trivial⟩, ?_⟩
  refine List.forall_mem_cons.mpr ⟨⟨(trivial), trivial⟩, ?_⟩
  refine List.forall_mem_cons.mpr ⟨⟨(trivial), trivial⟩, ?_⟩
  refine List.forall_mem_cons.mpr ⟨⟨(trivial), trivial⟩, ?_⟩
  refine List.forall_mem_cons.mpr ⟨⟨(show (5 : Nat) < mj_maxL 112 by decide), trivial⟩, ?_⟩
  refine List.forall_mem_cons.mpr ⟨⟨(trivial), trivial⟩, ?_⟩
  refine List.forall_mem_cons.mpr ⟨⟨(trivial), trivial⟩, ?_⟩
  refine List.forall_mem_cons.mpr ⟨⟨(trivial), trivial⟩, ?_⟩
  refine List.forall_mem_cons.mpr ⟨⟨(mj_lkG (by decide) rfl (by decide) mj_inU10 mjf_10_29), trivial⟩, ?_⟩
  refine List.forall_mem_cons.mpr ⟨⟨(trivial), trivial⟩, ?_⟩
  refine List.forall_mem_cons.mpr ⟨⟨(trivial), trivial⟩, ?_⟩
  refine List.forall_mem_cons.mpr ⟨⟨(trivial), trivial⟩, ?_⟩
  refine List.forall_mem_cons.mpr ⟨⟨(show (0 : Int) ≤ ((34 : Nat) : Int) + 31 by decide), trivial⟩, ?_⟩
  refine List.forall_mem_cons.mpr ⟨⟨(trivial), trivial⟩, ?_⟩
  refine List.forall_mem_cons.mpr ⟨⟨(trivial), trivial⟩, ?_⟩
  refine List.forall_mem_cons.mpr ⟨⟨(mj_lkG (by decide) rfl (by decide) mj_inU10 mjf_10_23), trivial⟩, ?_⟩
  refine List.forall_mem_cons.mpr ⟨⟨(trivial), trivial⟩, ?_⟩
  refine List.forall_mem_cons.mpr ⟨⟨(trivial), trivial⟩, ?_⟩
  refine List.forall_mem_cons.mpr ⟨⟨(trivial), mj_ckOf mjK_113 (by decide) (mj_lnkG mjl_10_162)⟩, ?_⟩
  refine List.forall_mem_cons.mpr ⟨⟨(trivial), trivial⟩, ?_⟩
  refine List.forall_mem_cons.mpr ⟨⟨(show (4 : Nat) < mj_maxL 112 by decide), trivial⟩, ?_⟩
  refine List.forall_mem_cons.mpr ⟨⟨(trivial), trivial⟩, ?_⟩
  refine List.forall_mem_cons.mpr ⟨⟨(show (0 : Int) ≤ ((54 : Nat) : Int) + 5 by decide), trivial⟩, ?_⟩
  refine List.forall_mem_cons.mpr ⟨⟨(trivial), trivial⟩, ?_⟩
  refine List.forall_mem_cons.mpr ⟨⟨(trivial), trivial⟩, ?_⟩
  refine List.forall_mem_cons.mpr ⟨⟨(show (5 : Nat) < mj_maxL 112 by decide), trivial⟩, ?_⟩
  refine List.forall_mem_cons.mpr ⟨⟨(show (0 : Int) ≤ ((62 : Nat) : Int) + (-38) by decide), trivial⟩, ?_⟩
  refine List.forall_mem_cons.mpr ⟨⟨(trivial), trivial⟩, ?_⟩
  refine List.forall_mem_cons.mpr ⟨⟨(show (0 : Int) ≤ ((67 : Nat) : Int) + 7 by decide), trivial⟩, ?_⟩
  refine List.forall_mem_cons.mpr ⟨⟨(trivial), trivial⟩, ?_⟩
  refine List.forall_mem_cons.mpr ⟨⟨(show (0 : Int) ≤ ((71 : Nat) : Int) + 4 by decide), trivial⟩, ?_⟩
  refine List.forall_mem_cons.mpr ⟨⟨(trivial), trivial⟩, ?_⟩
  refine List.forall_mem_cons.mpr ⟨⟨(trivial), trivial⟩, ?_⟩
  exact fun _ h => absurd h List.not_mem_nil
theorem mjd_112 : mj_ckd 112 = true := by decide +kernel
theorem mjg_112 : mj_good 112 := mj_goodOf (fun _ => ⟨mj_G, rfl⟩) (by decide +kernel) mjd_112 mje_112
theorem mje_113 : ∀ e ∈ mj_tb113, mj_lk 113 e.1 e.2.1 e.2.2.1 e.2.2.2 ∧ mj_cok 113 e.2.1 e.2.2.1 e.2.2.2 := by
  unfold mj_tb113
  refine List.forall_mem_cons.mpr ⟨⟨(trivial), trivial⟩, ?_⟩
  refine List.forall_mem_cons.mpr ⟨⟨(trivial), trivial⟩, ?_⟩
  refine List.forall_mem_cons.mpr ⟨⟨(show (0 : Int) ≤ ((3 : Nat) : Int) + 9 by decide), trivial⟩, ?_⟩
  refine List.forall_mem_cons.mpr ⟨⟨(trivial), trivial⟩, ?_⟩
  refine List.forall_mem_cons.mpr ⟨⟨(trivial), trivial⟩, ?_⟩
  refine List.forall_mem_cons.mpr ⟨⟨(show (0 : Int) ≤ ((9 : Nat) : Int) + 7 by decide), trivial⟩, ?_⟩
  refine List.forall_mem_cons.mpr ⟨⟨(trivial), trivial⟩, ?_⟩
  refine List.forall_mem_cons.mpr ⟨⟨(show (0 : Int) ≤ ((13 : Nat) : Int) + 20 by decide), trivial⟩, ?_⟩
  refine List.forall_mem_cons.mpr ⟨⟨(trivial), trivial⟩, ?_⟩
  refine List.forall_mem_cons.mpr ⟨⟨(trivial), trivial⟩, ?_⟩
  refine List.forall_mem_cons.mpr ⟨⟨(show (0 : Int) ≤ ((19 : Nat) : Int) + 9 by decide), trivial⟩, ?_⟩
  refine List.forall_mem_cons.mpr ⟨⟨(trivial), trivial⟩, ?_⟩
  refine List.forall_mem_cons.mpr ⟨⟨(trivial), trivial⟩, ?_⟩
  refine List.forall_mem_cons.mpr ⟨⟨(show (0 : Int) ≤ ((25 : Nat) : Int) + 7 by decide), trivial⟩, ?_⟩
  refine List.forall_mem_cons.mpr ⟨⟨(trivial), trivial⟩, ?_⟩
  refine List.forall_mem_cons.mpr ⟨⟨(show (0 : Int) ≤ ((29 : Nat) : Int) + 4 by decide), trivial⟩, ?_⟩
  refine List.forall_mem_cons.mpr ⟨⟨(trivial), trivial⟩, ?_⟩
  refine List.forall_mem_cons.mpr ⟨⟨(trivial), trivial⟩, ?_⟩
  exact fun _ h => absurd h List.not_mem_nil
theorem mjd_113 : mj_ckd 113 = true := by decide +kernel
theorem mjg_113 : mj_good 113 := mj_goodOf (fun _ => ⟨mj_G, rfl⟩) (by decide +kernel) mjd_113 mje_113
theorem mje_114 : ∀ e ∈ mj_tb114, mj_lk 114 e.1 e.2.1 e.2.2.1 e.2.2.2 ∧ mj_cok 114 e.2.1 e.2.2.1 e.2.2.2 := by
  unfold mj_tb114
  refine List.forall_mem_cons.mpr ⟨⟨(trivial), trivial⟩, ?_⟩
  refine List.forall_mem_cons.mpr ⟨⟨(show (0 : Int) ≤ ((1 : Nat) : Int) + 15 by decide), trivial⟩, ?_⟩
  refine List.forall_mem_cons.mpr ⟨⟨(trivial), trivial⟩, ?_⟩
  refine List.forall_mem_cons.mpr ⟨⟨(mj_lkG (by decide) rfl (by decide) mj_inU10 mjf_10_23), trivial⟩, ?_⟩
  refine List.forall_mem_cons.mpr ⟨⟨(trivial), trivial⟩, ?_⟩
  refine List.forall_mem_cons.mpr ⟨⟨(trivial), trivial⟩, ?_⟩
  refine List.forall_mem_cons.mpr ⟨⟨(trivial), mj_ckOf mjK_113 (by decide) (mj_lnkG mjl_10_162)⟩, ?_⟩
  refine List.forall_mem_cons.mpr ⟨⟨(show (0 : Int) ≤ ((13 : Nat) : Int) + 4 by decide), trivial⟩, ?_⟩
  refine List.forall_mem_cons.mpr ⟨⟨(trivial), trivial⟩, ?_⟩
  refine List.forall_mem_cons.mpr ⟨⟨(show (3 : Nat) < mj_maxL 114 by decide), trivial⟩, ?_⟩
  refine List.forall_mem_cons.mpr ⟨⟨(trivial), trivial⟩, ?_⟩
  refine List.forall_mem_cons.mpr ⟨⟨(show (0 : Int) ≤ ((19 : Nat) : Int) + 23 by decide), trivial⟩, ?_⟩
  refine List.forall_mem_cons.mpr ⟨⟨(trivial), trivial⟩, ?_⟩
  refine List.forall_mem_cons.mpr ⟨⟨(mj_lkG (by decide) rfl (by decide) mj_inU10 mjf_10_41), trivial⟩, ?_⟩
  refine List.forall_mem_cons.mpr ⟨⟨(trivial), trivial⟩, ?_⟩
  refine List.forall_mem_cons.mpr ⟨⟨(mj_lkG (by decide) rfl (by decide) mj_inU10 mjf_10_159), trivial⟩, ?_⟩
  refine List.forall_mem_cons.mpr ⟨⟨(trivial), trivial⟩, ?_⟩
  refine List.forall_mem_cons.mpr ⟨⟨(trivial), trivial⟩, ?_⟩
  refine List.forall_mem_cons.mpr ⟨⟨(trivial), trivial⟩, ?_⟩
  refine List.forall_mem_cons.mpr ⟨⟨(trivial), trivial⟩, ?_⟩
  refine List.forall_mem_cons.mpr ⟨⟨(mj_lkG (by decide) rfl (by decide) mj_inU10 mjf_10_159), trivial⟩, ?_⟩
  refine List.forall_mem_cons.mpr ⟨⟨(trivial), trivial⟩, ?_⟩
  refine List.forall_mem_cons.mpr ⟨⟨(trivial), trivial⟩, ?_⟩
  refine List.forall_mem_cons.mpr ⟨⟨(mj_lkP (by decide) rfl (by decide) mj_inU10 mjf_10_159 mj_TyOk10 mj_Nm10 (Or.inl rfl) rfl), trivial⟩, ?_⟩
  refine List.forall_mem_cons.mpr ⟨⟨(trivial), trivial⟩, ?_⟩
  refine List.forall_mem_cons.mpr ⟨⟨(show (0 : Int) ≤ ((43 : Nat) : Int) + 43 by decide), trivial⟩, ?_⟩
  refine List.forall_mem_cons.mpr ⟨⟨(trivial), trivial⟩, ?_⟩
  refine List.forall_mem_cons.mpr ⟨⟨(trivial), trivial⟩, ?_⟩
  refine List.forall_mem_cons.mpr ⟨⟨(mj_lkG (by decide) rfl (by decide) mj_inU10 mjf_10_159), trivial⟩, ?_⟩
  refine List.forall_mem_cons.mpr ⟨⟨(trivial), trivial⟩, ?_⟩
  refine List.forall_mem_cons.mpr ⟨⟨(trivial), trivial⟩, ?_⟩
  refine List.forall_mem_cons.mpr ⟨⟨(mj_lkP (by decide) rfl (by decide) mj_inU10 mjf_10_159 mj_TyOk10 mj_Nm10 (Or.inl rfl) rfl), trivial⟩, ?_⟩
  refine List.forall_mem_cons.mpr ⟨⟨(trivial), trivial⟩, ?_⟩
  refine List.forall_mem_cons.mpr ⟨⟨(mj_lkG (by decide) rfl (by decide) mj_inU10 mjf_10_32), trivial⟩, ?_⟩
  refine List.forall_mem_cons.mpr ⟨⟨(trivial), trivial⟩, ?_⟩
  refine List.forall_mem_cons.mpr ⟨⟨(trivial), trivial⟩, ?_⟩
  refine List.forall_mem_cons.mpr ⟨⟨(mj_lkG (by decide) rfl (by decide) mj_inU10 mjf_10_41), trivial⟩, ?_⟩
  refine List.forall_mem_cons.mpr ⟨⟨(trivial), trivial⟩, ?_⟩
  refine List.forall_mem_cons.mpr ⟨⟨(mj_lkG (by decide) rfl (by decide) mj_inU10 mjf_10_159), trivial⟩, ?_⟩
  refine List.forall_mem_cons.mpr ⟨⟨(trivial), trivial⟩, ?_⟩
  refine List.forall_mem_cons.mpr ⟨⟨(trivial), trivial⟩, ?_⟩
  refine List.forall_mem_cons.mpr ⟨⟨(trivial), trivial⟩, ?_⟩
  refine List.forall_mem_cons.mpr ⟨⟨(mj_lkG (by decide) rfl (by decide) mj_inU10 mjf_10_32), trivial⟩, ?_⟩
  refine List.forall_mem_cons.mpr ⟨⟨(trivial), trivial⟩, ?_⟩
  refine List.forall_mem_cons.mpr ⟨⟨(mj_lkG (by decide) rfl (by decide) mj_inU10 mjf_10_41), trivial⟩, ?_⟩
  refine List.forall_mem_cons.mpr ⟨⟨(trivial), trivial⟩, ?_⟩
  refine List.forall_mem_cons.mpr ⟨⟨(mj_lkG (by decide) rfl (by decide) mj_inU10 mjf_10_159), trivial⟩, ?_⟩
  refine List.forall_mem_cons.mpr ⟨⟨(trivial), trivial⟩, ?_⟩
  refine List.forall_mem_cons.mpr ⟨⟨(trivial), trivial⟩, ?_⟩
  refine List.forall_mem_cons.mpr ⟨⟨(trivial), trivial⟩, ?_⟩
  refine List.forall_mem_cons.mpr ⟨⟨(trivial), trivial⟩, ?_⟩
  exact fun _ h => absurd h List.not_mem_nil
theorem mjd_114 : mj_ckd 114 = true := by decide +kernel
theorem mjg_114 : mj_good 114 := mj_goodOf (fun _ => ⟨mj_G, rfl⟩) (by decide +kernel) mjd_114 mje_114
theorem mje_115 : ∀ e ∈ mj_tb115, mj_lk 115 e.1 e.2.1 e.2.2.1 e.2.2.2 ∧ mj_cok 115 e.2.1 e.2.2.1 e.2.2.2 := by
  unfold mj_tb115
  refine List.forall_mem_cons.mpr ⟨⟨(trivial), trivial⟩, ?_⟩
  refine List.forall_mem_cons.mpr ⟨⟨(show (2 : Nat) < mj_maxL 115 by decide), trivial⟩, ?_⟩
  refine List.forall_mem_cons.mpr ⟨⟨(trivial), trivial⟩, ?_⟩
  refine List.forall_mem_cons.mpr ⟨⟨(show (0 : Int) ≤ ((3 : Nat) : Int) + 38 by decide), trivial⟩, ?_⟩
  refine List.forall_mem_cons.mpr ⟨⟨(trivial), trivial⟩, ?_⟩
  refine List.forall_mem_cons.mpr ⟨⟨(mj_lkG (by decide) rfl (by decide) mj_inU10 mjf_10_47), trivial⟩, ?_⟩
  refine List.forall_mem_cons.mpr ⟨⟨(trivial), trivial⟩, ?_⟩
  refine List.forall_mem_cons.mpr ⟨⟨(trivial), trivial⟩, ?_⟩
  refine List.forall_mem_cons.mpr ⟨⟨(trivial), trivial⟩, ?_⟩
  refine List.forall_mem_cons.mpr ⟨⟨(trivial), trivial⟩, ?_⟩
  refine List.forall_mem_cons.mpr ⟨⟨(trivial), trivial⟩, ?_⟩
  refine List.forall_mem_cons.mpr ⟨⟨(trivial), trivial⟩, ?_⟩
  refine List.forall_mem_cons.mpr ⟨⟨(trivial), trivial⟩, ?_⟩
  refine List.forall_mem_cons.mpr ⟨⟨(trivial), trivial⟩, ?_⟩
  refine List.forall_mem_cons.mpr ⟨⟨(trivial), trivial⟩, ?_⟩
  refine List.forall_mem_cons.mpr ⟨⟨(trivial), trivial⟩, ?_⟩
  refine List.forall_mem_cons.mpr ⟨⟨(trivial), trivial⟩, ?_⟩
  refine List.forall_mem_cons.mpr ⟨⟨(mj_lkG (by decide) rfl (by decide) mj_inU10 mjf_10_35), trivial⟩, ?_⟩
  refine List.forall_mem_cons.mpr ⟨⟨(trivial), trivial⟩, ?_⟩
  refine List.forall_mem_cons.mpr ⟨⟨(trivial), trivial⟩, ?_⟩
  refine List.forall_mem_cons.mpr ⟨⟨(trivial), trivial⟩, ?_⟩
  refine List.forall_mem_cons.mpr ⟨⟨(trivial), trivial⟩, ?_⟩
  refine List.forall_mem_cons.mpr ⟨⟨(trivial), trivial⟩, ?_⟩
  refine List.forall_mem_cons.mpr ⟨⟨(trivial), trivial⟩, ?_⟩
  refine List.forall_mem_cons.mpr ⟨⟨(trivial), mj_ckOf mjK_116 (by decide) (mj_lnkG mjl_10_188)⟩, ?_⟩
  refine List.forall_mem_cons.mpr ⟨⟨(trivial), trivial⟩, ?_⟩
  refine List.forall_mem_cons.mpr ⟨⟨(show (2 : Nat) < mj_maxL 115 by decide), trivial⟩, ?_⟩
  refine List.forall_mem_cons.mpr ⟨⟨(show (0 : Int) ≤ ((38 : Nat) : Int) + (-36) by decide), trivial⟩, ?_⟩
  refine List.forall_mem_cons.mpr ⟨⟨(trivial), trivial⟩, ?_⟩
  refine List.forall_mem_cons.mpr ⟨⟨(mj_lkG (by decide) rfl (by decide) mj_inU10 mjf_10_50), trivial⟩, ?_⟩
  refine List.forall_mem_cons.mpr ⟨⟨(trivial), trivial⟩, ?_⟩
  refine List.forall_mem_cons.mpr ⟨⟨(trivial), trivial⟩, ?_⟩
  refine List.forall_mem_cons.mpr ⟨⟨(mj_lkG (by decide) rfl (by decide) mj_inU10 mjf_10_47), trivial⟩, ?_⟩
  refine List.forall_mem_cons.mpr ⟨⟨(trivial), trivial⟩, ?_⟩
  refine List.forall_mem_cons.mpr ⟨⟨(trivial), trivial⟩, ?_⟩
  refine List.forall_mem_cons.mpr ⟨⟨(trivial), trivial⟩, ?_⟩
  refine List.forall_mem_cons.mpr ⟨⟨(trivial), trivial⟩, ?_⟩
  refine List.forall_mem_cons.mpr ⟨⟨(show (2 : Nat) < mj_maxL 115 by decide), trivial⟩, ?_⟩
  refine List.forall_mem_cons.mpr ⟨⟨(trivial), trivial⟩, ?_⟩
  refine List.forall_mem_cons.mpr ⟨⟨(trivial), trivial⟩, ?_⟩
  refine List.forall_mem_cons.mpr ⟨⟨(show (0 : Int) ≤ ((57 : Nat) : Int) + 20 by decide), trivial⟩, ?_⟩
  refine List.forall_mem_cons.mpr ⟨⟨(trivial), trivial⟩, ?_⟩
  refine List.forall_mem_cons.mpr ⟨⟨(mj_lkG (by decide) rfl (by decide) mj_inU10 mjf_10_53), trivial⟩, ?_⟩
  refine List.forall_mem_cons.mpr ⟨⟨(trivial), trivial⟩, ?_⟩
  refine List.forall_mem_cons.mpr ⟨⟨(trivial), trivial⟩, ?_⟩
  refine List.forall_mem_cons.mpr ⟨⟨(trivial), trivial⟩, ?_⟩
  refine List.forall_mem_cons.mpr ⟨⟨(trivial), trivial⟩, ?_⟩
  refine List.forall_mem_cons.mpr ⟨⟨(trivial), trivial⟩, ?_⟩
  refine List.forall_mem_cons.mpr ⟨⟨(trivial), trivial⟩, ?_⟩
  refine List.forall_mem_cons.mpr ⟨⟨(trivial), trivial⟩, ?_⟩
  refine List.forall_mem_cons.mpr ⟨⟨(show (2 : Nat) < mj_maxL 115 by decide), trivial⟩, ?_⟩
  refine List.forall_mem_cons.mpr ⟨⟨(show (0 : Int) ≤ ((74 : Nat) : Int) + (-19) by decide), trivial⟩, ?_⟩
  refine List.forall_mem_cons.mpr ⟨⟨(trivial), trivial⟩, ?_⟩
  refine List.forall_mem_cons.mpr ⟨⟨(show (2 : Nat) < mj_maxL 115 by decide), trivial⟩, ?_⟩
  refine List.forall_mem_cons.mpr ⟨⟨(trivial), trivial⟩, ?_⟩
  refine List.forall_mem_cons.mpr ⟨⟨(trivial), trivial⟩, ?_⟩
  refine List.forall_mem_cons.mpr ⟨⟨(show (0 : Int) ≤ ((81 : Nat) : Int) + 126 by decide), trivial⟩, ?_⟩
  refine List.forall_mem_cons.mpr ⟨⟨(trivial), trivial⟩, ?_⟩
  refine List.forall_mem_cons.mpr ⟨⟨(trivial), trivial⟩, ?_⟩
  refine List.forall_mem_cons.mpr ⟨⟨(trivial), trivial⟩, ?_⟩
  refine List.forall_mem_cons.mpr ⟨⟨(trivial), trivial⟩, ?_⟩
  refine List.forall_mem_cons.mpr ⟨⟨(trivial), trivial⟩, ?_⟩
  refine List.forall_mem_cons.mpr ⟨⟨(trivial), trivial⟩, ?_⟩
  refine List.forall_mem_cons.mpr ⟨⟨(trivial), trivial⟩, ?_⟩
  refine List.forall_mem_cons.mpr ⟨⟨(show (3 : Nat) < mj_maxL 115 by decide), trivial⟩, ?_⟩
  refine List.forall_mem_cons.mpr ⟨⟨(trivial), trivial⟩, ?_⟩
  refine List.forall_mem_cons.mpr ⟨⟨(show (4 : Nat) < mj_maxL 115 by decide), trivial⟩, ?_⟩
  refine List.forall_mem_cons.mpr ⟨⟨(trivial), trivial⟩, ?_⟩
  refine List.forall_mem_cons.mpr ⟨⟨(trivial), trivial⟩, ?_⟩
  refine List.forall_mem_cons.mpr ⟨⟨(mj_lkG (by decide) rfl (by decide) mj_inU10 mjf_10_35), trivial⟩, ?_⟩
  refine List.forall_mem_cons.mpr ⟨⟨(trivial), trivial⟩, ?_⟩
  refine List.forall_mem_cons.mpr ⟨⟨(trivial), trivial⟩, ?_⟩
  refine List.forall_mem_cons.mpr ⟨⟨(trivial), trivial⟩, ?_⟩
  refine List.forall_mem_cons.mpr ⟨⟨(trivial), trivial⟩, ?_⟩
  refine List.forall_mem_cons.mpr ⟨⟨(trivial), trivial⟩, ?_⟩
  refine List.forall_mem_cons.mpr ⟨⟨(trivial), trivial⟩, ?_⟩
  refine List.forall_mem_cons.mpr ⟨⟨(show (0 : Int) ≤ ((108 : Nat) : Int) + 93 by decide), trivial⟩, ?_⟩
  refine List.forall_mem_cons.mpr ⟨⟨(trivial), trivial⟩, ?_⟩
  refine List.forall_mem_cons.mpr ⟨⟨(mj_lkG (by decide) rfl (by decide) mj_inU10 mjf_10_23), trivial⟩, ?_⟩
  refine List.forall_mem_cons.mpr ⟨⟨(trivial), trivial⟩, ?_⟩
  refine List.forall_mem_cons.mpr ⟨⟨(trivial), trivial⟩, ?_⟩
  refine List.forall_mem_cons.mpr ⟨⟨(trivial), trivial⟩, ?_⟩
  refine List.forall_mem_cons.mpr ⟨⟨(trivial), trivial⟩, ?_⟩
  refine List.forall_mem_cons.mpr ⟨⟨(trivial), trivial⟩, ?_⟩
  refine List.forall_mem_cons.mpr ⟨⟨(show (0 : Int) ≤ ((122 : Nat) : Int) + 73 by decide), trivial⟩, ?_⟩
  refine List.forall_mem_cons.mpr ⟨⟨(trivial), trivial⟩, ?_⟩
  refine List.forall_mem_cons.mpr ⟨⟨(trivial), trivial⟩, ?_⟩
  refine List.forall_mem_cons.mpr ⟨⟨(trivial), trivial⟩, ?_⟩
  refine List.forall_mem_cons.mpr ⟨⟨(trivial), trivial⟩, ?_⟩
  refine List.forall_mem_cons.mpr ⟨⟨(trivial), trivial⟩, ?_⟩
  refine List.forall_mem_cons.mpr ⟨⟨(trivial), trivial⟩, ?_⟩
  refine List.forall_mem_cons.mpr ⟨⟨(mj_lkG (by decide) rfl (by decide) mj_inU10 mjf_10_32), trivial⟩, ?_⟩
  refine List.forall_mem_cons.mpr ⟨⟨(trivial), trivial⟩, ?_⟩
  refine List.forall_mem_cons.mpr ⟨⟨(trivial), trivial⟩, ?_⟩
  refine List.forall_mem_cons.mpr ⟨⟨(trivial), trivial⟩, ?_⟩
  refine List.forall_mem_cons.mpr ⟨⟨(trivial), trivial⟩, ?_⟩
  refine List.forall_mem_cons.mpr ⟨⟨(trivial), trivial⟩, ?_⟩
  refine List.forall_mem_cons.mpr ⟨⟨(trivial), trivial⟩, ?_⟩
  refine List.forall_mem_cons.mpr ⟨⟨(trivial), trivial⟩, ?_⟩
  refine List.forall_mem_cons.mpr ⟨⟨(trivial), trivial⟩, ?_⟩
  refine List.forall_mem_cons.mpr ⟨⟨(trivial), mj_ckOf mjK_116 (by decide) (mj_lnkG mjl_10_188)⟩, ?_⟩
  refine List.forall_mem_cons.mpr ⟨⟨(show (5 : Nat) < mj_maxL 115 by decide), trivial⟩, ?_⟩
  refine List.forall_mem_cons.mpr ⟨⟨(trivial), trivial⟩, ?_⟩
  refine List.forall_mem_cons.mpr ⟨⟨(trivial), trivial⟩, ?_⟩
  refine List.forall_mem_cons.mpr ⟨⟨(trivial), trivial⟩, ?_⟩
  refine List.forall_mem_cons.mpr ⟨⟨(trivial), trivial⟩, ?_⟩
  refine List.forall_mem_cons.mpr ⟨⟨(mj_lkG (by decide) rfl (by decide) mj_inU10 mjf_10_29), trivial⟩, ?_⟩
  refine List.forall_mem_cons.mpr ⟨⟨(trivial), trivial⟩, ?_⟩
  refine List.forall_mem_cons.mpr ⟨⟨(trivial), trivial⟩, ?_⟩
  refine List.forall_mem_cons.mpr ⟨⟨(trivial), trivial⟩, ?_⟩
  refine List.forall_mem_cons.mpr ⟨⟨(trivial), trivial⟩, ?_⟩
  refine List.forall_mem_cons.mpr ⟨⟨(trivial), trivial⟩, ?_⟩
  refine List.forall_mem_cons.mpr ⟨⟨(show (6 : Nat) < mj_maxL 115 by decide), trivial⟩, ?_⟩
  refine List.forall_mem_cons.mpr ⟨⟨(trivial), trivial⟩, ?_⟩
  refine List.forall_mem_cons.mpr ⟨⟨(mj_lkG (by decide) rfl (by decide) mj_inU10 mjf_10_53), trivial⟩, ?_⟩
  refine List.forall_mem_cons.mpr ⟨⟨(trivial), trivial⟩, ?_⟩
  refine List.forall_mem_cons.mpr ⟨⟨(trivial), trivial⟩, ?_⟩
  refine List.forall_mem_cons.mpr ⟨⟨(trivial), trivial⟩, ?_⟩
  refine List.forall_mem_cons.mpr ⟨⟨(mj_lkG (by decide) rfl (by decide) mj_inU10 mjf_10_53), trivial⟩, ?_⟩
  refine List.forall_mem_cons.mpr ⟨⟨(trivial), trivial⟩, ?_⟩
  refine List.forall_mem_cons.mpr ⟨⟨(trivial), trivial⟩, ?_⟩
  refine List.forall_mem_cons.mpr ⟨⟨(show (0 : Int) ≤ ((179 : Nat) : Int) + 8 by decide), trivial⟩, ?_⟩
  refine List.forall_mem_cons.mpr ⟨⟨(trivial), trivial⟩, ?_⟩
  refine List.forall_mem_cons.mpr ⟨⟨(show (0 : Int) ≤ ((184 : Nat) : Int) + 10 by decide), trivial⟩, ?_⟩
  refine List.forall_mem_cons.mpr ⟨⟨(trivial), trivial⟩, ?_⟩
  refine List.forall_mem_cons.mpr ⟨⟨(mj_lkG (by decide) rfl (by decide) mj_inU10 mjf_10_53), trivial⟩, ?_⟩
  refine List.forall_mem_cons.mpr ⟨⟨(trivial), trivial⟩, ?_⟩
  refine List.forall_mem_cons.mpr ⟨⟨(trivial), trivial⟩, ?_⟩
  refine List.forall_mem_cons.mpr ⟨⟨(trivial), trivial⟩, ?_⟩
  refine List.forall_mem_cons.mpr ⟨⟨(show (4 : Nat) < mj_maxL 115 by decide), trivial⟩, ?_⟩
  refine List.forall_mem_cons.mpr ⟨⟨(show (0 : Int) ≤ ((198 : Nat) : Int) + (-102) by decide), trivial⟩, ?_⟩
  refine List.forall_mem_cons.mpr ⟨⟨(show (2 : Nat) < mj_maxL 115 by decide), trivial⟩, ?_⟩
  refine List.forall_mem_cons.mpr ⟨⟨(show (0 : Int) ≤ ((204 : Nat) : Int) + (-125) by decide), trivial⟩, ?_⟩
  refine List.forall_mem_cons.mpr ⟨⟨(trivial), trivial⟩, ?_⟩
  exact fun _ h => absurd h List.not_mem_nil
theorem mjd_115 : mj_ckd 115 = true := by decide +kernel
theorem mjg_115 : mj_good 115 := mj_goodOf (fun _ => ⟨mj_G, rfl⟩) (by decide +kernel) mjd_115 mje_115
end
section
theorem mje_116 : ∀ e ∈ mj_tb116, mj_lk 116 e.1 e.2.1 e.2.2.1 e.2.2.2 ∧ mj_cok 116 e.2.1 e.2.2.1 e.2.2.2 := by
  unfold mj_tb116
  refine List.forall_mem_cons.mpr ⟨⟨(trivial), trivial⟩, ?_⟩
  refine List.forall_mem_cons.mpr ⟨⟨(show (4 : Nat) < mj_maxL 116 by decide), trivial⟩, ?_⟩
  refine List.forall_mem_cons.mpr ⟨⟨(trivial), trivial⟩, ?_⟩
  refine List.forall_mem_cons.mpr ⟨⟨(trivial), trivial⟩, ?_⟩
  refine List.forall_mem_cons.mpr ⟨⟨(show (0 : Int) ≤ ((6 : Nat) : Int) + 17 by decide), trivial⟩, ?_⟩
  refine List.forall_mem_cons.mpr ⟨⟨(trivial), trivial⟩, ?_⟩
  refine List.forall_mem_cons.mpr ⟨⟨(mj_lkG (by decide) rfl (by decide) mj_inU10 mjf_10_44), trivial⟩, ?_⟩
  refine List.forall_mem_cons.mpr ⟨⟨(trivial), trivial⟩, ?_⟩
  refine List.forall_mem_cons.mpr ⟨⟨(trivial), trivial⟩, ?_⟩
  refine List.forall_mem_cons.mpr ⟨⟨(trivial), trivial⟩, ?_⟩
  refine List.forall_mem_cons.mpr ⟨⟨(show (4 : Nat) < mj_maxL 116 by decide), trivial⟩, ?_⟩
  refine List.forall_mem_cons.mpr ⟨⟨(show (0 : Int) ≤ ((20 : Nat) : Int) + (-17) by decide), trivial⟩, ?_⟩
  refine List.forall_mem_cons.mpr ⟨⟨(trivial), trivial⟩, ?_⟩
  refine List.forall_mem_cons.mpr ⟨⟨(mj_lkG (by decide) rfl (by decide) mj_inU10 mjf_10_44), trivial⟩, ?_⟩
  refine List.forall_mem_cons.mpr ⟨⟨(trivial), trivial⟩, ?_⟩
  refine List.forall_mem_cons.mpr ⟨⟨(trivial), trivial⟩, ?_⟩
  refine List.forall_mem_cons.mpr ⟨⟨(trivial), trivial⟩, ?_⟩
  refine List.forall_mem_cons.mpr ⟨⟨(trivial), trivial⟩, ?_⟩
  refine List.forall_mem_cons.mpr ⟨⟨(show (4 : Nat) < mj_maxL 116 by decide), trivial⟩, ?_⟩
  refine List.forall_mem_cons.mpr ⟨⟨(trivial), trivial⟩, ?_⟩
  refine List.forall_mem_cons.mpr ⟨⟨(show (5 : Nat) < mj_maxL 116 by decide), trivial⟩, ?_⟩
  refine List.forall_mem_cons.mpr ⟨⟨(trivial), trivial⟩, ?_⟩
  refine List.forall_mem_cons.mpr ⟨⟨(trivial), trivial⟩, ?_⟩
  refine List.forall_mem_cons.mpr ⟨⟨(show (0 : Int) ≤ ((39 : Nat) : Int) + 223 by decide), trivial⟩, ?_⟩
  refine List.forall_mem_cons.mpr ⟨⟨(trivial), trivial⟩, ?_⟩
  refine List.forall_mem_cons.mpr ⟨⟨(trivial), trivial⟩, ?_⟩
  refine List.forall_mem_cons.mpr ⟨⟨(trivial), trivial⟩, ?_⟩
  refine List.forall_mem_cons.mpr ⟨⟨(show (6 : Nat) < mj_maxL 116 by decide), trivial⟩, ?_⟩
  refine List.forall_mem_cons.mpr ⟨⟨(trivial), trivial⟩, ?_⟩
  refine List.forall_mem_cons.mpr ⟨⟨(mj_lkG (by decide) rfl (by decide) mj_inU10 mjf_10_23), trivial⟩, ?_⟩
  refine List.forall_mem_cons.mpr ⟨⟨(trivial), trivial⟩, ?_⟩
  refine List.forall_mem_cons.mpr ⟨⟨(trivial), trivial⟩, ?_⟩
  refine List.forall_mem_cons.mpr ⟨⟨(show (7 : Nat) < mj_maxL 116 by decide), trivial⟩, ?_⟩
  refine List.forall_mem_cons.mpr ⟨⟨(trivial), trivial⟩, ?_⟩
  refine List.forall_mem_cons.mpr ⟨⟨(trivial), trivial⟩, ?_⟩
  refine List.forall_mem_cons.mpr ⟨⟨(mj_lkG (by decide) rfl (by decide) mj_inU10 mjf_10_38), trivial⟩, ?_⟩
  refine List.forall_mem_cons.mpr ⟨⟨(trivial), trivial⟩, ?_⟩
  refine List.forall_mem_cons.mpr ⟨⟨(trivial), trivial⟩, ?_⟩
  refine List.forall_mem_cons.mpr ⟨⟨(trivial), trivial⟩, ?_⟩
  refine List.forall_mem_cons.mpr ⟨⟨(trivial), trivial⟩, ?_⟩
  refine List.forall_mem_cons.mpr ⟨⟨(show (0 : Int) ≤ ((70 : Nat) : Int) + 18 by decide), trivial⟩, ?_⟩
  refine List.forall_mem_cons.mpr ⟨⟨(trivial), trivial⟩, ?_⟩
  refine List.forall_mem_cons.mpr ⟨⟨(mj_lkG (by decide) rfl (by decide) mj_inU10 mjf_10_47), trivial⟩, ?_⟩
  refine List.forall_mem_cons.mpr ⟨⟨(trivial), trivial⟩, ?_⟩
  refine List.forall_mem_cons.mpr ⟨⟨(mj_lkG (by decide) rfl (by decide) mj_inU10 mjf_10_29), trivial⟩, ?_⟩
  refine List.forall_mem_cons.mpr ⟨⟨(trivial), trivial⟩, ?_⟩
  refine List.forall_mem_cons.mpr ⟨⟨(trivial), trivial⟩, ?_⟩
  refine List.forall_mem_cons.mpr ⟨⟨(trivial), trivial⟩, ?_⟩
  refine List.forall_mem_cons.mpr ⟨⟨(show (0 : Int) ≤ ((85 : Nat) : Int) + 4 by decide), trivial⟩, ?_⟩
  refine List.forall_mem_cons.mpr ⟨⟨(trivial), trivial⟩, ?_⟩
  refine List.forall_mem_cons.mpr ⟨⟨(trivial), trivial⟩, ?_⟩
  refine List.forall_mem_cons.mpr ⟨⟨(trivial), trivial⟩, ?_⟩
  refine List.forall_mem_cons.mpr ⟨⟨(show (8 : Nat) < mj_maxL 116 by decide), trivial⟩, ?_⟩
  refine List.forall_mem_cons.mpr ⟨⟨(trivial), trivial⟩, ?_⟩
  refine List.forall_mem_cons.mpr ⟨⟨(mj_lkG (by decide) rfl (by decide) mj_inU10 mjf_10_44), trivial⟩, ?_⟩
  refine List.forall_mem_cons.mpr ⟨⟨(trivial), trivial⟩, ?_⟩
  refine List.forall_mem_cons.mpr ⟨⟨(trivial), trivial⟩, ?_⟩
  refine List.forall_mem_cons.mpr ⟨⟨(show (0 : Int) ≤ ((100 : Nat) : Int) + 7 by decide), trivial⟩, ?_⟩
  refine List.forall_mem_cons.mpr ⟨⟨(trivial), trivial⟩, ?_⟩
  refine List.forall_mem_cons.mpr ⟨⟨(show (0 : Int) ≤ ((104 : Nat) : Int) + 13 by decide), trivial⟩, ?_⟩
  refine List.forall_mem_cons.mpr ⟨⟨(trivial), trivial⟩, ?_⟩
  refine List.forall_mem_cons.mpr ⟨⟨(mj_lkG (by decide) rfl (by decide) mj_inU10 mjf_10_44), trivial⟩, ?_⟩
  refine List.forall_mem_cons.mpr ⟨⟨(trivial), trivial⟩, ?_⟩
  refine List.forall_mem_cons.mpr ⟨⟨(trivial), trivial⟩, ?_⟩
  refine List.forall_mem_cons.mpr ⟨⟨(trivial), trivial⟩, ?_⟩
  refine List.forall_mem_cons.mpr ⟨⟨(trivial), trivial⟩, ?_⟩
  refine List.forall_mem_cons.mpr ⟨⟨(show (9 : Nat) < mj_maxL 116 by decide), trivial⟩, ?_⟩
  refine List.forall_mem_cons.mpr ⟨⟨(trivial), trivial⟩, ?_⟩
  refine List.forall_mem_cons.mpr ⟨⟨(mj_lkG (by decide) rfl (by decide) mj_inU10 mjf_10_44), trivial⟩, ?_⟩
  refine List.forall_mem_cons.mpr ⟨⟨(trivial), trivial⟩, ?_⟩
  refine List.forall_mem_cons.mpr ⟨⟨(trivial), trivial⟩, ?_⟩
  refine List.forall_mem_cons.mpr ⟨⟨(trivial), trivial⟩, ?_⟩
  refine List.forall_mem_cons.mpr ⟨⟨(trivial), trivial⟩, ?_⟩
  refine List.forall_mem_cons.mpr ⟨⟨(trivial), trivial⟩, ?_⟩
  refine List.forall_mem_cons.mpr ⟨⟨(mj_lkG (by decide) rfl (by decide) mj_inU10 mjf_10_44), trivial⟩, ?_⟩
  refine List.forall_mem_cons.mpr ⟨⟨(trivial), trivial⟩, ?_⟩
  refine List.forall_mem_cons.mpr ⟨⟨(trivial), trivial⟩, ?_⟩
  refine List.forall_mem_cons.mpr ⟨⟨(trivial), trivial⟩, ?_⟩
  refine List.forall_mem_cons.mpr ⟨⟨(trivial), trivial⟩, ?_⟩
  refine List.forall_mem_cons.mpr ⟨⟨(show (0 : Int) ≤ ((138 : Nat) : Int) + 8 by decide), trivial⟩, ?_⟩
  refine List.forall_mem_cons.mpr ⟨⟨(trivial), trivial⟩, ?_⟩
  refine List.forall_mem_cons.mpr ⟨⟨(show (0 : Int) ≤ ((143 : Nat) : Int) + 12 by decide), trivial⟩, ?_⟩
  refine List.forall_mem_cons.mpr ⟨⟨(trivial), trivial⟩, ?_⟩
  refine List.forall_mem_cons.mpr ⟨⟨(mj_lkG (by decide) rfl (by decide) mj_inU10 mjf_10_44), trivial⟩, ?_⟩
  refine List.forall_mem_cons.mpr ⟨⟨(trivial), trivial⟩, ?_⟩
  refine List.forall_mem_cons.mpr ⟨⟨(trivial), trivial⟩, ?_⟩
  refine List.forall_mem_cons.mpr ⟨⟨(trivial), trivial⟩, ?_⟩
  refine List.forall_mem_cons.mpr ⟨⟨(trivial), trivial⟩, ?_⟩
  refine List.forall_mem_cons.mpr ⟨⟨(trivial), trivial⟩, ?_⟩
  refine List.forall_mem_cons.mpr ⟨⟨(trivial), trivial⟩, ?_⟩
  refine List.forall_mem_cons.mpr ⟨⟨(trivial), trivial⟩, ?_⟩
  refine List.forall_mem_cons.mpr ⟨⟨(show (0 : Int) ≤ ((159 : Nat) : Int) + 48 by decide), trivial⟩, ?_⟩
  refine List.forall_mem_cons.mpr ⟨⟨(trivial), trivial⟩, ?_⟩
  refine List.forall_mem_cons.mpr ⟨⟨(trivial), trivial⟩, ?_⟩
  refine List.forall_mem_cons.mpr ⟨⟨(trivial), trivial⟩, ?_⟩
  refine List.forall_mem_cons.mpr ⟨⟨(trivial), trivial⟩, ?_⟩
  refine List.forall_mem_cons.mpr ⟨⟨(mj_lkG (by decide) rfl (by decide) mj_inU10 mjf_10_29), trivial⟩, ?_⟩
  refine List.forall_mem_cons.mpr ⟨⟨(trivial), trivial⟩, ?_⟩
  refine List.forall_mem_cons.mpr ⟨⟨(trivial), trivial⟩, ?_⟩
  refine List.forall_mem_cons.mpr ⟨⟨(trivial), trivial⟩, ?_⟩
  refine List.forall_mem_cons.mpr ⟨⟨(show (10 : Nat) < mj_maxL 116 by decide), trivial⟩, ?_⟩
  refine List.forall_mem_cons.mpr ⟨⟨(trivial), trivial⟩, ?_⟩
  refine List.forall_mem_cons.mpr ⟨⟨(mj_lkG (by decide) rfl (by decide) mj_inU10 mjf_10_44), trivial⟩, ?_⟩
  refine List.forall_mem_cons.mpr ⟨⟨(trivial), trivial⟩, ?_⟩
  refine List.forall_mem_cons.mpr ⟨⟨(trivial), trivial⟩, ?_⟩
  refine List.forall_mem_cons.mpr ⟨⟨(trivial), trivial⟩, ?_⟩
  refine List.forall_mem_cons.mpr ⟨⟨(mj_lkG (by decide) rfl (by decide) mj_inU10 mjf_10_44), trivial⟩, ?_⟩
  refine List.forall_mem_cons.mpr ⟨⟨(trivial), trivial⟩, ?_⟩
  refine List.forall_mem_cons.mpr ⟨⟨(trivial), trivial⟩, ?_⟩
  refine List.forall_mem_cons.mpr ⟨⟨(show (0 : Int) ≤ ((191 : Nat) : Int) + 8 by decide), trivial⟩, ?_⟩
  refine List.forall_mem_cons.mpr ⟨⟨(trivial), trivial⟩, ?_⟩
  refine List.forall_mem_cons.mpr ⟨⟨(show (0 : Int) ≤ ((196 : Nat) : Int) + 10 by decide), trivial⟩, ?_⟩
  refine List.forall_mem_cons.mpr ⟨⟨(trivial), trivial⟩, ?_⟩
  refine List.forall_mem_cons.mpr ⟨⟨(mj_lkG (by decide) rfl (by decide) mj_inU10 mjf_10_44), trivial⟩, ?_⟩
  refine List.forall_mem_cons.mpr ⟨⟨(trivial), trivial⟩, ?_⟩
  refine List.forall_mem_cons.mpr ⟨⟨(trivial), trivial⟩, ?_⟩
  refine List.forall_mem_cons.mpr ⟨⟨(trivial), trivial⟩, ?_⟩
  refine List.forall_mem_cons.mpr ⟨⟨(trivial), trivial⟩, ?_⟩
  refine List.forall_mem_cons.mpr ⟨⟨(trivial), trivial⟩, ?_⟩
  refine List.forall_mem_cons.mpr ⟨⟨(show (0 : Int) ≤ ((211 : Nat) : Int) + 16 by decide), trivial⟩, ?_⟩
  refine List.forall_mem_cons.mpr ⟨⟨(trivial), trivial⟩, ?_⟩
  refine List.forall_mem_cons.mpr ⟨⟨(trivial), trivial⟩, ?_⟩
  refine List.forall_mem_cons.mpr ⟨⟨(mj_lkG (by decide) rfl (by decide) mj_inU10 mjf_10_29), trivial⟩, ?_⟩
  refine List.forall_mem_cons.mpr ⟨⟨(trivial), trivial⟩, ?_⟩
  refine List.forall_mem_cons.mpr ⟨⟨(trivial), trivial⟩, ?_⟩
  refine List.forall_mem_cons.mpr ⟨⟨(trivial), trivial⟩, ?_⟩
  refine List.forall_mem_cons.mpr ⟨⟨(show (0 : Int) ≤ ((224 : Nat) : Int) + 30 by decide), trivial⟩, ?_⟩
  refine List.forall_mem_cons.mpr ⟨⟨(trivial), trivial⟩, ?_⟩
  refine List.forall_mem_cons.mpr ⟨⟨(trivial), trivial⟩, ?_⟩
  refine List.forall_mem_cons.mpr ⟨⟨(show (0 : Int) ≤ ((231 : Nat) : Int) + 21 by decide), trivial⟩, ?_⟩
  refine List.forall_mem_cons.mpr ⟨⟨(trivial), trivial⟩, ?_⟩
  refine List.forall_mem_cons.mpr ⟨⟨(trivial), trivial⟩, ?_⟩
  refine List.forall_mem_cons.mpr ⟨⟨(mj_lkG (by decide) rfl (by decide) mj_inU10 mjf_10_29), trivial⟩, ?_⟩
  refine List.forall_mem_cons.mpr ⟨⟨(trivial), trivial⟩, ?_⟩
  refine List.forall_mem_cons.mpr ⟨⟨(mj_lkG (by decide) rfl (by decide) mj_inU10 mjf_10_32), trivial⟩, ?_⟩
  refine List.forall_mem_cons.mpr ⟨⟨(trivial), trivial⟩, ?_⟩
  refine List.forall_mem_cons.mpr ⟨⟨(trivial), trivial⟩, ?_⟩
  refine List.forall_mem_cons.mpr ⟨⟨(trivial), trivial⟩, ?_⟩
  refine List.forall_mem_cons.mpr ⟨⟨(trivial), trivial⟩, ?_⟩
  refine List.forall_mem_cons.mpr ⟨⟨(show (0 : Int) ≤ ((249 : Nat) : Int) + 5 by decide), trivial⟩, ?_⟩
  refine List.forall_mem_cons.mpr ⟨⟨(trivial), trivial⟩, ?_⟩
  refine List.forall_mem_cons.mpr ⟨⟨(show (4 : Nat) < mj_maxL 116 by decide), trivial⟩, ?_⟩
  refine List.forall_mem_cons.mpr ⟨⟨(show (5 : Nat) < mj_maxL 116 by decide), trivial⟩, ?_⟩
  refine List.forall_mem_cons.mpr ⟨⟨(show (0 : Int) ≤ ((259 : Nat) : Int) + (-223) by decide), trivial⟩, ?_⟩
  refine List.forall_mem_cons.mpr ⟨⟨(trivial), trivial⟩, ?_⟩
  refine List.forall_mem_cons.mpr ⟨⟨(mj_lkG (by decide) rfl (by decide) mj_inU10 mjf_10_44), trivial⟩, ?_⟩
  refine List.forall_mem_cons.mpr ⟨⟨(trivial), trivial⟩, ?_⟩
  refine List.forall_mem_cons.mpr ⟨⟨(trivial), trivial⟩, ?_⟩
  refine List.forall_mem_cons.mpr ⟨⟨(trivial), trivial⟩, ?_⟩
  exact fun _ h => absurd h List.not_mem_nil
theorem mjd_116 : mj_ckd 116 = true := by decide +kernel
theorem mjg_116 : mj_good 116 := mj_goodOf (fun _ => ⟨mj_G, rfl⟩) (by decide +kernel) mjd_116 mje_116
theorem mje_117 : ∀ e ∈ mj_tb117, mj_lk 117 e.1 e.2.1 e.2.2.1 e.2.2.2 ∧ mj_cok 117 e.2.1 e.2.2.1 e.2.2.2 := by
  unfold mj_tb117
  refine List.forall_mem_cons.mpr ⟨⟨(trivial), trivial⟩, ?_⟩
  refine List.forall_mem_cons.mpr ⟨⟨(show (2 : Nat) < mj_maxL 117 by decide), trivial⟩, ?_⟩
  refine List.forall_mem_cons.mpr ⟨⟨(trivial), trivial⟩, ?_⟩
  refine List.forall_mem_cons.mpr ⟨⟨(trivial), trivial⟩, ?_⟩
  refine List.forall_mem_cons.mpr ⟨⟨(mj_lkG (by decide) rfl (by decide) mj_inU10 mjf_10_138), trivial⟩, ?_⟩
  refine List.forall_mem_cons.mpr ⟨⟨(show (0 : Int) ≤ ((7 : Nat) : Int) + 24 by decide), trivial⟩, ?_⟩
  refine List.forall_mem_cons.mpr ⟨⟨(trivial), trivial⟩, ?_⟩
  refine List.forall_mem_cons.mpr ⟨⟨(mj_lkG (by decide) rfl (by decide) mj_inU10 mjf_10_53), trivial⟩, ?_⟩
  refine List.forall_mem_cons.mpr ⟨⟨(trivial), trivial⟩, ?_⟩
  refine List.forall_mem_cons.mpr ⟨⟨(trivial), trivial⟩, ?_⟩
  refine List.forall_mem_cons.mpr ⟨⟨(trivial), trivial⟩, ?_⟩
  refine List.forall_mem_cons.mpr ⟨⟨(trivial), trivial⟩, ?_⟩
  refine List.forall_mem_cons.mpr ⟨⟨(trivial), trivial⟩, ?_⟩
  refine List.forall_mem_cons.mpr ⟨⟨(trivial), trivial⟩, ?_⟩
  refine List.forall_mem_cons.mpr ⟨⟨(show (0 : Int) ≤ ((20 : Nat) : Int) + 5 by decide), trivial⟩, ?_⟩
  refine List.forall_mem_cons.mpr ⟨⟨(trivial), trivial⟩, ?_⟩
  refine List.forall_mem_cons.mpr ⟨⟨(trivial), trivial⟩, ?_⟩
  refine List.forall_mem_cons.mpr ⟨⟨(show (2 : Nat) < mj_maxL 117 by decide), trivial⟩, ?_⟩
  refine List.forall_mem_cons.mpr ⟨⟨(show (0 : Int) ≤ ((28 : Nat) : Int) + (-26) by decide), trivial⟩, ?_⟩
  refine List.forall_mem_cons.mpr ⟨⟨(trivial), trivial⟩, ?_⟩
  refine List.forall_mem_cons.mpr ⟨⟨(trivial), trivial⟩, ?_⟩
  exact fun _ h => absurd h List.not_mem_nil
theorem mjd_117 : mj_ckd 117 = true := by decide +kernel
theorem mjg_117 : mj_good 117 := mj_goodOf (fun _ => ⟨mj_G, rfl⟩) (by decide +kernel) mjd_117 mje_117
theorem mje_118 : ∀ e ∈ mj_tb118, mj_lk 118 e.1 e.2.1 e.2.2.1 e.2.2.2 ∧ mj_cok 118 e.2.1 e.2.2.1 e.2.2.2 := by
  unfold mj_tb118
  refine List.forall_mem_cons.mpr ⟨⟨(trivial), trivial⟩, ?_⟩
  refine List.forall_mem_cons.mpr ⟨⟨(show (2 : Nat) < mj_maxL 118 by decide), trivial⟩, ?_⟩
  refine List.forall_mem_cons.mpr ⟨⟨(trivial), trivial⟩, ?_⟩
  refine List.forall_mem_cons.mpr ⟨⟨(trivial), trivial⟩, ?_⟩
  refine List.forall_mem_cons.mpr ⟨⟨(trivial), trivial⟩, ?_⟩
  refine List.forall_mem_cons.mpr ⟨⟨(show (3 : Nat) < mj_maxL 118 by decide), trivial⟩, ?_⟩
  refine List.forall_mem_cons.mpr ⟨⟨(trivial), trivial⟩, ?_⟩
  refine List.forall_mem_cons.mpr ⟨⟨(trivial), trivial⟩, ?_⟩
  refine List.forall_mem_cons.mpr ⟨⟨(mj_lkG (by decide) rfl (by decide) mj_inU10 mjf_10_138), trivial⟩, ?_⟩
  refine List.forall_mem_cons.mpr ⟨⟨(show (0 : Int) ≤ ((11 : Nat) : Int) + 82 by decide), trivial⟩, ?_⟩
  refine List.forall_mem_cons.mpr ⟨⟨(trivial), trivial⟩, ?_⟩
  refine List.forall_mem_cons.mpr ⟨⟨(show (4 : Nat) < mj_maxL 118 by decide), trivial⟩, ?_⟩
  refine List.forall_mem_cons.mpr ⟨⟨(trivial), trivial⟩, ?_⟩
  refine List.forall_mem_cons.mpr ⟨⟨(trivial), trivial⟩, ?_⟩
  refine List.forall_mem_cons.mpr ⟨⟨(show (0 : Int) ≤ ((20 : Nat) : Int) + 67 by decide), trivial⟩, ?_⟩
  refine List.forall_mem_cons.mpr ⟨⟨(trivial), trivial⟩, ?_⟩
  refine List.forall_mem_cons.mpr ⟨⟨(mj_lkG (by decide) rfl (by decide) mj_inU10 mjf_10_53), trivial⟩, ?_⟩
  refine List.forall_mem_cons.mpr ⟨⟨(trivial), trivial⟩, ?_⟩
  refine List.forall_mem_cons.mpr ⟨⟨(trivial), trivial⟩, ?_⟩
  refine List.forall_mem_cons.mpr ⟨⟨(trivial), trivial⟩, ?_⟩
  refine List.forall_mem_cons.mpr ⟨⟨(trivial), trivial⟩, ?_⟩
  refine List.forall_mem_cons.mpr ⟨⟨(trivial), trivial⟩, ?_⟩
  refine List.forall_mem_cons.mpr ⟨⟨(trivial), trivial⟩, ?_⟩
  refine List.forall_mem_cons.mpr ⟨⟨(show (5 : Nat) < mj_maxL 118 by decide), trivial⟩, ?_⟩
  refine List.forall_mem_cons.mpr ⟨⟨(trivial), trivial⟩, ?_⟩
  refine List.forall_mem_cons.mpr ⟨⟨(show (0 : Int) ≤ ((38 : Nat) : Int) + 18 by decide), trivial⟩, ?_⟩
  refine List.forall_mem_cons.mpr ⟨⟨(trivial), trivial⟩, ?_⟩
  refine List.forall_mem_cons.mpr ⟨⟨(mj_lkG (by decide) rfl (by decide) mj_inU10 mjf_10_62), trivial⟩, ?_⟩
  refine List.forall_mem_cons.mpr ⟨⟨(trivial), trivial⟩, ?_⟩
  refine List.forall_mem_cons.mpr ⟨⟨(trivial), trivial⟩, ?_⟩
  refine List.forall_mem_cons.mpr ⟨⟨(trivial), trivial⟩, ?_⟩
  refine List.forall_mem_cons.mpr ⟨⟨(show (0 : Int) ≤ ((49 : Nat) : Int) + 7 by decide), trivial⟩, ?_⟩
  refine List.forall_mem_cons.mpr ⟨⟨(trivial), trivial⟩, ?_⟩
  refine List.forall_mem_cons.mpr ⟨⟨(show (0 : Int) ≤ ((53 : Nat) : Int) + 4 by decide), trivial⟩, ?_⟩
  refine List.forall_mem_cons.mpr ⟨⟨(trivial), trivial⟩, ?_⟩
  refine List.forall_mem_cons.mpr ⟨⟨(show (6 : Nat) < mj_maxL 118 by decide), trivial⟩, ?_⟩
  refine List.forall_mem_cons.mpr ⟨⟨(trivial), trivial⟩, ?_⟩
  refine List.forall_mem_cons.mpr ⟨⟨(show (0 : Int) ≤ ((61 : Nat) : Int) + 18 by decide), trivial⟩, ?_⟩
  refine List.forall_mem_cons.mpr ⟨⟨(trivial), trivial⟩, ?_⟩
  refine List.forall_mem_cons.mpr ⟨⟨(trivial), trivial⟩, ?_⟩
  refine List.forall_mem_cons.mpr ⟨⟨(trivial), trivial⟩, ?_⟩
  refine List.forall_mem_cons.mpr ⟨⟨(trivial), trivial⟩, ?_⟩
  refine List.forall_mem_cons.mpr ⟨⟨(show (0 : Int) ≤ ((69 : Nat) : Int) + 10 by decide), trivial⟩, ?_⟩
  refine List.forall_mem_cons.mpr ⟨⟨(trivial), trivial⟩, ?_⟩
  refine List.forall_mem_cons.mpr ⟨⟨(trivial), trivial⟩, ?_⟩
  refine List.forall_mem_cons.mpr ⟨⟨(trivial), trivial⟩, ?_⟩
  refine List.forall_mem_cons.mpr ⟨⟨(show (0 : Int) ≤ ((76 : Nat) : Int) + 4 by decide), trivial⟩, ?_⟩
  refine List.forall_mem_cons.mpr ⟨⟨(trivial), trivial⟩, ?_⟩
  refine List.forall_mem_cons.mpr ⟨⟨(show (2 : Nat) < mj_maxL 118 by decide), trivial⟩, ?_⟩
  refine List.forall_mem_cons.mpr ⟨⟨(show (4 : Nat) < mj_maxL 118 by decide), trivial⟩, ?_⟩
  refine List.forall_mem_cons.mpr ⟨⟨(show (0 : Int) ≤ ((84 : Nat) : Int) + (-67) by decide), trivial⟩, ?_⟩
  refine List.forall_mem_cons.mpr ⟨⟨(show (3 : Nat) < mj_maxL 118 by decide), trivial⟩, ?_⟩
  refine List.forall_mem_cons.mpr ⟨⟨(show (0 : Int) ≤ ((90 : Nat) : Int) + (-84) by decide), trivial⟩, ?_⟩
  refine List.forall_mem_cons.mpr ⟨⟨(trivial), trivial⟩, ?_⟩
  refine List.forall_mem_cons.mpr ⟨⟨(trivial), trivial⟩, ?_⟩
  exact fun _ h => absurd h List.not_mem_nil
theorem mjd_118 : mj_ckd 118 = true := by decide +kernel
theorem mjg_118 : mj_good 118 := mj_goodOf (fun _ => ⟨mj_G, rfl⟩) (by decide +kernel) mjd_118 mje_118
theorem mje_119 : ∀ e ∈ mj_tb119, mj_lk 119 e.1 e.2.1 e.2.2.1 e.2.2.2 ∧ mj_cok 119 e.2.1 e.2.2.1 e.2.2.2 := by
  unfold mj_tb119
  refine List.forall_mem_cons.mpr ⟨⟨(trivial), trivial⟩, ?_⟩
  refine List.forall_mem_cons.mpr ⟨⟨(show (2 : Nat) < mj_maxL 119 by decide), trivial⟩, ?_⟩
  refine List.forall_mem_cons.mpr ⟨⟨(trivial), trivial⟩, ?_⟩
  refine List.forall_mem_cons.mpr ⟨⟨(trivial), trivial⟩, ?_⟩
  refine List.forall_mem_cons.mpr ⟨⟨(mj_lkG (by decide) rfl (by decide) mj_inU10 mjf_10_17), trivial⟩, ?_⟩
  refine List.forall_mem_cons.mpr ⟨⟨(trivial), trivial⟩, ?_⟩
  refine List.forall_mem_cons.mpr ⟨⟨(trivial), trivial⟩, ?_⟩
  refine List.forall_mem_cons.mpr ⟨⟨(show (0 : Int) ≤ ((9 : Nat) : Int) + 87 by decide), trivial⟩, ?_⟩
  refine List.forall_mem_cons.mpr ⟨⟨(trivial), trivial⟩, ?_⟩
  refine List.forall_mem_cons.mpr ⟨⟨(mj_lkG (by decide) rfl (by decide) mj_inU10 mjf_10_56), trivial⟩, ?_⟩
  refine List.forall_mem_cons.mpr ⟨⟨(trivial), trivial⟩, ?_⟩
  refine List.forall_mem_cons.mpr ⟨⟨(trivial), trivial⟩, ?_⟩
  refine List.forall_mem_cons.mpr ⟨⟨(trivial), trivial⟩, ?_⟩
  refine List.forall_mem_cons.mpr ⟨⟨(trivial), trivial⟩, ?_⟩
  refine List.forall_mem_cons.mpr ⟨⟨(mj_lkG (by decide) rfl (by decide) mj_inU10 mjf_10_50), trivial⟩, ?_⟩
  refine List.forall_mem_cons.mpr ⟨⟨(trivial), trivial⟩, ?_⟩
  refine List.forall_mem_cons.mpr ⟨⟨(trivial), trivial⟩, ?_⟩
  refine List.forall_mem_cons.mpr ⟨⟨(trivial), trivial⟩, ?_⟩
  refine List.forall_mem_cons.mpr ⟨⟨(trivial), trivial⟩, ?_⟩
  refine List.forall_mem_cons.mpr ⟨⟨(mj_Gws (mj_Gin 974 (by decide +kernel) rfl)), trivial⟩, ?_⟩
  refine List.forall_mem_cons.mpr ⟨⟨(trivial), trivial⟩, ?_⟩
  refine List.forall_mem_cons.mpr ⟨⟨(show (3 : Nat) + 1 < mj_maxL 119 by decide), trivial⟩, ?_⟩
  refine List.forall_mem_cons.mpr ⟨⟨(trivial), trivial⟩, ?_⟩
  refine List.forall_mem_cons.mpr ⟨⟨(show (5 : Nat) < mj_maxL 119 by decide), trivial⟩, ?_⟩
  refine List.forall_mem_cons.mpr ⟨⟨(trivial), trivial⟩, ?_⟩
  refine List.forall_mem_cons.mpr ⟨⟨(trivial), trivial⟩, ?_⟩
  refine List.forall_mem_cons.mpr ⟨⟨(show (0 : Int) ≤ ((38 : Nat) : Int) + 43 by decide), trivial⟩, ?_⟩
  refine List.forall_mem_cons.mpr ⟨⟨(trivial), trivial⟩, ?_⟩
  refine List.forall_mem_cons.mpr ⟨⟨(trivial), trivial⟩, ?_⟩
  refine List.forall_mem_cons.mpr ⟨⟨(trivial), trivial⟩, ?_⟩
  refine List.forall_mem_cons.mpr ⟨⟨(mj_lkG (by decide) rfl (by decide) mj_inU10 mjf_10_13), trivial⟩, ?_⟩
  refine List.forall_mem_cons.mpr ⟨⟨(trivial), trivial⟩, ?_⟩
  refine List.forall_mem_cons.mpr ⟨⟨(trivial), trivial⟩, ?_⟩
  refine List.forall_mem_cons.mpr ⟨⟨(trivial), trivial⟩, ?_⟩
  refine List.forall_mem_cons.mpr ⟨⟨(trivial), trivial⟩, ?_⟩
  refine List.forall_mem_cons.mpr ⟨⟨(trivial), trivial⟩, ?_⟩
  refine List.forall_mem_cons.mpr ⟨⟨(trivial), trivial⟩, ?_⟩
  refine List.forall_mem_cons.mpr ⟨⟨(mj_lkG (by decide) rfl (by decide) mj_inU10 mjf_10_13), trivial⟩, ?_⟩
  refine List.forall_mem_cons.mpr ⟨⟨(trivial), trivial⟩, ?_⟩
  refine List.forall_mem_cons.mpr ⟨⟨(trivial), trivial⟩, ?_⟩
  refine List.forall_mem_cons.mpr ⟨⟨(trivial), trivial⟩, ?_⟩
  refine List.forall_mem_cons.mpr ⟨⟨(trivial), trivial⟩, ?_⟩
  refine List.forall_mem_cons.mpr ⟨⟨(trivial), trivial⟩, ?_⟩
  refine List.forall_mem_cons.mpr ⟨⟨(mj_lkG (by decide) rfl (by decide) mj_inU10 mjf_10_50), trivial⟩, ?_⟩
  refine List.forall_mem_cons.mpr ⟨⟨(trivial), trivial⟩, ?_⟩
  refine List.forall_mem_cons.mpr ⟨⟨(trivial), trivial⟩, ?_⟩
  refine List.forall_mem_cons.mpr ⟨⟨(trivial), trivial⟩, ?_⟩
  refine List.forall_mem_cons.mpr ⟨⟨(trivial), trivial⟩, ?_⟩
  refine List.forall_mem_cons.mpr ⟨⟨(trivial), trivial⟩, ?_⟩
  refine List.forall_mem_cons.mpr ⟨⟨(trivial), trivial⟩, ?_⟩
  refine List.forall_mem_cons.mpr ⟨⟨(trivial), trivial⟩, ?_⟩
  refine List.forall_mem_cons.mpr ⟨⟨(show (3 : Nat) + 1 < mj_maxL 119 by decide), trivial⟩, ?_⟩
  refine List.forall_mem_cons.mpr ⟨⟨(show (5 : Nat) < mj_maxL 119 by decide), trivial⟩, ?_⟩
  refine List.forall_mem_cons.mpr ⟨⟨(show (0 : Int) ≤ ((78 : Nat) : Int) + (-43) by decide), trivial⟩, ?_⟩
  refine List.forall_mem_cons.mpr ⟨⟨(trivial), trivial⟩, ?_⟩
  refine List.forall_mem_cons.mpr ⟨⟨(trivial), trivial⟩, ?_⟩
  refine List.forall_mem_cons.mpr ⟨⟨(trivial), trivial⟩, ?_⟩
  refine List.forall_mem_cons.mpr ⟨⟨(trivial), trivial⟩, ?_⟩
  refine List.forall_mem_cons.mpr ⟨⟨(show (0 : Int) ≤ ((85 : Nat) : Int) + 5 by decide), trivial⟩, ?_⟩
  refine List.forall_mem_cons.mpr ⟨⟨(trivial), trivial⟩, ?_⟩
  refine List.forall_mem_cons.mpr ⟨⟨(trivial), trivial⟩, ?_⟩
  refine List.forall_mem_cons.mpr ⟨⟨(show (2 : Nat) < mj_maxL 119 by decide), trivial⟩, ?_⟩
  refine List.forall_mem_cons.mpr ⟨⟨(show (0 : Int) ≤ ((93 : Nat) : Int) + (-91) by decide), trivial⟩, ?_⟩
  refine List.forall_mem_cons.mpr ⟨⟨(trivial), trivial⟩, ?_⟩
  refine List.forall_mem_cons.mpr ⟨⟨(trivial), trivial⟩, ?_⟩
  exact fun _ h => absurd h List.not_mem_nil
theorem mjd_119 : mj_ckd 119 = true := by decide +kernel
theorem mjg_119 : mj_good 119 := mj_goodOf (fun _ => ⟨mj_G, rfl⟩) (by decide +kernel) mjd_119 mje_119
theorem mje_120 : ∀ e ∈ mj_tb120, mj_lk 120 e.1 e.2.1 e.2.2.1 e.2.2.2 ∧ mj_cok 120 e.2.1 e.2.2.1 e.2.2.2 := by
  unfold mj_tb120
  refine List.forall_mem_cons.mpr ⟨⟨(trivial), trivial⟩, ?_⟩
  refine List.forall_mem_cons.mpr ⟨⟨(mj_lkG (by decide) rfl (by decide) mj_inU10 mjf_10_7), trivial⟩, ?_⟩
  refine List.forall_mem_cons.mpr ⟨⟨(trivial), trivial⟩, ?_⟩
  exact fun _ h => absurd h List.not_mem_nil
theorem mjd_120 : mj_ckd 120 = true := by decide +kernel
theorem mjg_120 : mj_good 120 := mj_goodOf (fun _ => ⟨mj_G, rfl⟩) (by decide +kernel) mjd_120 mje_120
theorem mje_121 : ∀ e ∈ mj_tb121, mj_lk 121 e.1 e.2.1 e.2.2.1 e.2.2.2 ∧ mj_cok 121 e.2.1 e.2.2.1 e.2.2.2 := by
  unfold mj_tb121
  refine List.forall_mem_cons.mpr ⟨⟨(trivial), trivial⟩, ?_⟩
  refine List.forall_mem_cons.mpr ⟨⟨(mj_lkG (by decide) rfl (by decide) mj_inU10 mjf_10_149), trivial⟩, ?_⟩
  refine List.forall_mem_cons.mpr ⟨⟨(show (0 : Int) ≤ ((4 : Nat) : Int) + 20 by decide), trivial⟩, ?_⟩
  refine List.forall_mem_cons.mpr ⟨⟨(trivial), trivial⟩, ?_⟩
  refine List.forall_mem_cons.mpr ⟨⟨(trivial), trivial⟩, ?_⟩
  refine List.forall_mem_cons.mpr ⟨⟨(trivial), mj_ckOf mjK_103 (by decide) (mj_lnkG mjl_10_152)⟩, ?_⟩
  refine List.forall_mem_cons.mpr ⟨⟨(show (0 : Int) ≤ ((12 : Nat) : Int) + 12 by decide), trivial⟩, ?_⟩
  refine List.forall_mem_cons.mpr ⟨⟨(trivial), trivial⟩, ?_⟩
  refine List.forall_mem_cons.mpr ⟨⟨(mj_lkG (by decide) rfl (by decide) mj_inU10 mjf_10_50), trivial⟩, ?_⟩
  refine List.forall_mem_cons.mpr ⟨⟨(trivial), trivial⟩, ?_⟩
  refine List.forall_mem_cons.mpr ⟨⟨(trivial), trivial⟩, ?_⟩
  refine List.forall_mem_cons.mpr ⟨⟨(show (0 : Int) ≤ ((21 : Nat) : Int) + 4 by decide), trivial⟩, ?_⟩
  refine List.forall_mem_cons.mpr ⟨⟨(trivial), trivial⟩, ?_⟩
  refine List.forall_mem_cons.mpr ⟨⟨(trivial), trivial⟩, ?_⟩
  exact fun _ h => absurd h List.not_mem_nil
theorem mjd_121 : mj_ckd 121 = true := by decide +kernel
theorem mjg_121 : mj_good 121 := mj_goodOf (fun _ => ⟨mj_G, rfl⟩) (by decide +kernel) mjd_121 mje_121
theorem mje_122 : ∀ e ∈ mj_tb122, mj_lk 122 e.1 e.2.1 e.2.2.1 e.2.2.2 ∧ mj_cok 122 e.2.1 e.2.2.1 e.2.2.2 := by
  unfold mj_tb122
  refine List.forall_mem_cons.mpr ⟨⟨(trivial), trivial⟩, ?_⟩
  refine List.forall_mem_cons.mpr ⟨⟨(mj_lkG (by decide) rfl (by decide) mj_inU10 mjf_10_149), trivial⟩, ?_⟩
  refine List.forall_mem_cons.mpr ⟨⟨(show (0 : Int) ≤ ((4 : Nat) : Int) + 33 by decide), trivial⟩, ?_⟩
  refine List.forall_mem_cons.mpr ⟨⟨(trivial), trivial⟩, ?_⟩
  refine List.forall_mem_cons.mpr ⟨⟨(trivial), trivial⟩, ?_⟩
  refine List.forall_mem_cons.mpr ⟨⟨(trivial), mj_ckOf mjK_103 (by decide) (mj_lnkG mjl_10_152)⟩, ?_⟩
  refine List.forall_mem_cons.mpr ⟨⟨(show (0 : Int) ≤ ((12 : Nat) : Int) + 25 by decide), trivial⟩, ?_⟩
  refine List.forall_mem_cons.mpr ⟨⟨(trivial), trivial⟩, ?_⟩
  refine List.forall_mem_cons.mpr ⟨⟨(trivial), trivial⟩, ?_⟩
  refine List.forall_mem_cons.mpr ⟨⟨(trivial), trivial⟩, ?_⟩
  refine List.forall_mem_cons.mpr ⟨⟨(trivial), mj_ckOf mjK_101 (by decide) (mj_lnkG mjl_10_145)⟩, ?_⟩
  refine List.forall_mem_cons.mpr ⟨⟨(show (0 : Int) ≤ ((21 : Nat) : Int) + 16 by decide), trivial⟩, ?_⟩
  refine List.forall_mem_cons.mpr ⟨⟨(trivial), trivial⟩, ?_⟩
  refine List.forall_mem_cons.mpr ⟨⟨(mj_lkG (by decide) rfl (by decide) mj_inU10 mjf_10_53), trivial⟩, ?_⟩
  refine List.forall_mem_cons.mpr ⟨⟨(trivial), trivial⟩, ?_⟩
  refine List.forall_mem_cons.mpr ⟨⟨(trivial), trivial⟩, ?_⟩
  refine List.forall_mem_cons.mpr ⟨⟨(trivial), trivial⟩, ?_⟩
  refine List.forall_mem_cons.mpr ⟨⟨(trivial), trivial⟩, ?_⟩
  refine List.forall_mem_cons.mpr ⟨⟨(trivial), trivial⟩, ?_⟩
  refine List.forall_mem_cons.mpr ⟨⟨(trivial), trivial⟩, ?_⟩
  refine List.forall_mem_cons.mpr ⟨⟨(show (0 : Int) ≤ ((34 : Nat) : Int) + 4 by decide), trivial⟩, ?_⟩
  refine List.forall_mem_cons.mpr ⟨⟨(trivial), trivial⟩, ?_⟩
  refine List.forall_mem_cons.mpr ⟨⟨(trivial), trivial⟩, ?_⟩
  exact fun _ h => absurd h List.not_mem_nil
theorem mjd_122 : mj_ckd 122 = true := by decide +kernel
theorem mjg_122 : mj_good 122 := mj_goodOf (fun _ => ⟨mj_G, rfl⟩) (by decide +kernel) mjd_122 mje_122
theorem mje_123 : ∀ e ∈ mj_tb123, mj_lk 123 e.1 e.2.1 e.2.2.1 e.2.2.2 ∧ mj_cok 123 e.2.1 e.2.2.1 e.2.2.2 := by
  unfold mj_tb123
  refine List.forall_mem_cons.mpr ⟨⟨(trivial), trivial⟩, ?_⟩
  refine List.forall_mem_cons.mpr ⟨⟨(mj_lkG (by decide) rfl (by decide) mj_inU10 mjf_10_149), trivial⟩, ?_⟩
  refine List.forall_mem_cons.mpr ⟨⟨(show (0 : Int) ≤ ((4 : Nat) : Int) + 20 by decide), trivial⟩, ?_⟩
  refine List.forall_mem_cons.mpr ⟨⟨(trivial), trivial⟩, ?_⟩
  refine List.forall_mem_cons.mpr ⟨⟨(trivial), trivial⟩, ?_⟩
  refine List.forall_mem_cons.mpr ⟨⟨(trivial), mj_ckOf mjK_103 (by decide) (mj_lnkG mjl_10_152)⟩, ?_⟩
  refine List.forall_mem_cons.mpr ⟨⟨(show (0 : Int) ≤ ((12 : Nat) : Int) + 12 by decide), trivial⟩, ?_⟩
  refine List.forall_mem_cons.mpr ⟨⟨(trivial), trivial⟩, ?_⟩
  refine List.forall_mem_cons.mpr ⟨⟨(mj_lkG (by decide) rfl (by decide) mj_inU10 mjf_10_56), trivial⟩, ?_⟩
  refine List.forall_mem_cons.mpr ⟨⟨(trivial), trivial⟩, ?_⟩
  refine List.forall_mem_cons.mpr ⟨⟨(trivial), trivial⟩, ?_⟩
  refine List.forall_mem_cons.mpr ⟨⟨(show (0 : Int) ≤ ((21 : Nat) : Int) + 4 by decide), trivial⟩, ?_⟩
  refine List.forall_mem_cons.mpr ⟨⟨(trivial), trivial⟩, ?_⟩
  refine List.forall_mem_cons.mpr ⟨⟨(trivial), trivial⟩, ?_⟩
  exact fun _ h => absurd h List.not_mem_nil
theorem mjd_123 : mj_ckd 123 = true := by decide +kernel
theorem mjg_123 : mj_good 123 := mj_goodOf (fun _ => ⟨mj_G, rfl⟩) (by decide +kernel) mjd_123 mje_123
theorem mje_124 : ∀ e ∈ mj_tb124, mj_lk 124 e.1 e.2.1 e.2.2.1 e.2.2.2 ∧ mj_cok 124 e.2.1 e.2.2.1 e.2.2.2 := by
  unfold mj_tb124
  refine List.forall_mem_cons.mpr ⟨⟨(trivial), trivial⟩, ?_⟩
  refine List.forall_mem_cons.mpr ⟨⟨(mj_lkG (by decide) rfl (by decide) mj_inU10 mjf_10_149), trivial⟩, ?_⟩
  refine List.forall_mem_cons.mpr ⟨⟨(show (0 : Int) ≤ ((4 : Nat) : Int) + 20 by decide), trivial⟩, ?_⟩
  refine List.forall_mem_cons.mpr ⟨⟨(trivial), trivial⟩, ?_⟩
  refine List.forall_mem_cons.mpr ⟨⟨(trivial), trivial⟩, ?_⟩
  refine List.forall_mem_cons.mpr ⟨⟨(trivial), mj_ckOf mjK_103 (by decide) (mj_lnkG mjl_10_152)⟩, ?_⟩
  refine List.forall_mem_cons.mpr ⟨⟨(show (0 : Int) ≤ ((12 : Nat) : Int) + 12 by decide), trivial⟩, ?_⟩
  refine List.forall_mem_cons.mpr ⟨⟨(trivial), trivial⟩, ?_⟩
  refine List.forall_mem_cons.mpr ⟨⟨(mj_lkG (by decide) rfl (by decide) mj_inU10 mjf_10_59), trivial⟩, ?_⟩
  refine List.forall_mem_cons.mpr ⟨⟨(trivial), trivial⟩, ?_⟩
  refine List.forall_mem_cons.mpr ⟨⟨(trivial), trivial⟩, ?_⟩
  refine List.forall_mem_cons.mpr ⟨⟨(show (0 : Int) ≤ ((21 : Nat) : Int) + 4 by decide), trivial⟩, ?_⟩
  refine List.forall_mem_cons.mpr ⟨⟨(trivial), trivial⟩, ?_⟩
  refine List.forall_mem_cons.mpr ⟨⟨(trivial), trivial⟩, ?_⟩
  exact fun _ h => absurd h List.not_mem_nil
theorem mjd_124 : mj_ckd 124 = true := by decide +kernel
theorem mjg_124 : mj_good 124 := mj_goodOf (fun _ => ⟨mj_G, rfl⟩) (by decide +kernel) mjd_124 mje_124
theorem mje_125 : ∀ e ∈ mj_tb125, mj_lk 125 e.1 e.2.1 e.2.2.1 e.2.2.2 ∧ mj_cok 125 e.2.1 e.2.2.1 e.2.2.2 := by
  unfold mj_tb125
  refine List.forall_mem_cons.mpr ⟨⟨(trivial), trivial⟩, ?_⟩
  refine List.forall_mem_cons.mpr ⟨⟨(mj_lkG (by decide) rfl (by decide) mj_inU10 mjf_10_149), trivial⟩, ?_⟩
  refine List.forall_mem_cons.mpr ⟨⟨(show (0 : Int) ≤ ((4 : Nat) : Int) + 21 by decide), trivial⟩, ?_⟩
  refine List.forall_mem_cons.mpr ⟨⟨(trivial), trivial⟩, ?_⟩
  refine List.forall_mem_cons.mpr ⟨⟨(trivial), trivial⟩, ?_⟩
  refine List.forall_mem_cons.mpr ⟨⟨(trivial), trivial⟩, ?_⟩
  refine List.forall_mem_cons.mpr ⟨⟨(trivial), mj_ckOf mjK_101 (by decide) (mj_lnkG mjl_10_145)⟩, ?_⟩
  refine List.forall_mem_cons.mpr ⟨⟨(show (0 : Int) ≤ ((13 : Nat) : Int) + 12 by decide), trivial⟩, ?_⟩
  refine List.forall_mem_cons.mpr ⟨⟨(trivial), trivial⟩, ?_⟩
  refine List.forall_mem_cons.mpr ⟨⟨(mj_lkG (by decide) rfl (by decide) mj_inU10 mjf_10_62), trivial⟩, ?_⟩
  refine List.forall_mem_cons.mpr ⟨⟨(trivial), trivial⟩, ?_⟩
  refine List.forall_mem_cons.mpr ⟨⟨(trivial), trivial⟩, ?_⟩
  refine List.forall_mem_cons.mpr ⟨⟨(show (0 : Int) ≤ ((22 : Nat) : Int) + 4 by decide), trivial⟩, ?_⟩
  refine List.forall_mem_cons.mpr ⟨⟨(trivial), trivial⟩, ?_⟩
  refine List.forall_mem_cons.mpr ⟨⟨(trivial), trivial⟩, ?_⟩
  exact fun _ h => absurd h List.not_mem_nil
theorem mjd_125 : mj_ckd 125 = true := by decide +kernel
theorem mjg_125 : mj_good 125 := mj_goodOf (fun _ => ⟨mj_G, rfl⟩) (by decide +kernel) mjd_125 mje_125
theorem mje_126 : ∀ e ∈ mj_tb126, mj_lk 126 e.1 e.2.1 e.2.2.1 e.2.2.2 ∧ mj_cok 126 e.2.1 e.2.2.1 e.2.2.2 := by
  unfold mj_tb126
  refine List.forall_mem_cons.mpr ⟨⟨(trivial), trivial⟩, ?_⟩
  refine List.forall_mem_cons.mpr ⟨⟨(mj_lkG (by decide) rfl (by decide) mj_inU10 mjf_10_141), trivial⟩, ?_⟩
  refine List.forall_mem_cons.mpr ⟨⟨(show (0 : Int) ≤ ((4 : Nat) : Int) + 10 by decide), trivial⟩, ?_⟩
  refine List.forall_mem_cons.mpr ⟨⟨(trivial), trivial⟩, ?_⟩
  refine List.forall_mem_cons.mpr ⟨⟨(mj_lkG (by decide) rfl (by decide) mj_inU10 mjf_10_149), trivial⟩, ?_⟩
  refine List.forall_mem_cons.mpr ⟨⟨(show (0 : Int) ≤ ((11 : Nat) : Int) + 5 by decide), trivial⟩, ?_⟩
  refine List.forall_mem_cons.mpr ⟨⟨(trivial), trivial⟩, ?_⟩
  refine List.forall_mem_cons.mpr ⟨⟨(trivial), trivial⟩, ?_⟩
  refine List.forall_mem_cons.mpr ⟨⟨(trivial), trivial⟩, ?_⟩
  refine List.forall_mem_cons.mpr ⟨⟨(trivial), trivial⟩, ?_⟩
  refine List.forall_mem_cons.mpr ⟨⟨(mj_lkP (by decide) rfl (by decide) mj_inU10 mjf_10_141 mj_TyOk10 mj_Nm10 (Or.inl rfl) rfl), trivial⟩, ?_⟩
  refine List.forall_mem_cons.mpr ⟨⟨(trivial), trivial⟩, ?_⟩
  refine List.forall_mem_cons.mpr ⟨⟨(trivial), trivial⟩, ?_⟩
  refine List.forall_mem_cons.mpr ⟨⟨(mj_lkP (by decide) rfl (by decide) mj_inU10 mjf_10_209 mj_TyOk10 mj_Nm10 (Or.inl rfl) rfl), trivial⟩, ?_⟩
  refine List.forall_mem_cons.mpr ⟨⟨(trivial), trivial⟩, ?_⟩
  refine List.forall_mem_cons.mpr ⟨⟨(trivial), trivial⟩, ?_⟩
  refine List.forall_mem_cons.mpr ⟨⟨(mj_lkP (by decide) rfl (by decide) mj_inU10 mjf_10_212 mj_TyOk10 mj_Nm10 (Or.inl rfl) rfl), trivial⟩, ?_⟩
  refine List.forall_mem_cons.mpr ⟨⟨(trivial), trivial⟩, ?_⟩
  refine List.forall_mem_cons.mpr ⟨⟨(trivial), trivial⟩, ?_⟩
  refine List.forall_mem_cons.mpr ⟨⟨(mj_lkP (by decide) rfl (by decide) mj_inU10 mjf_10_215 mj_TyOk10 mj_Nm10 (Or.inl rfl) rfl), trivial⟩, ?_⟩
  refine List.forall_mem_cons.mpr ⟨⟨(trivial), trivial⟩, ?_⟩
  refine List.forall_mem_cons.mpr ⟨⟨(trivial), trivial⟩, ?_⟩
  refine List.forall_mem_cons.mpr ⟨⟨(mj_lkP (by decide) rfl (by decide) mj_inU10 mjf_10_218 mj_TyOk10 mj_Nm10 (Or.inl rfl) rfl), trivial⟩, ?_⟩
  refine List.forall_mem_cons.mpr ⟨⟨(trivial), trivial⟩, ?_⟩
  refine List.forall_mem_cons.mpr ⟨⟨(trivial), trivial⟩, ?_⟩
  refine List.forall_mem_cons.mpr ⟨⟨(mj_lkP (by decide) rfl (by decide) mj_inU10 mjf_10_221 mj_TyOk10 mj_Nm10 (Or.inl rfl) rfl), trivial⟩, ?_⟩
  refine List.forall_mem_cons.mpr ⟨⟨(trivial), trivial⟩, ?_⟩
  refine List.forall_mem_cons.mpr ⟨⟨(trivial), trivial⟩, ?_⟩
  refine List.forall_mem_cons.mpr ⟨⟨(mj_lkP (by decide) rfl (by decide) mj_inU10 mjf_10_224 mj_TyOk10 mj_Nm10 (Or.inl rfl) rfl), trivial⟩, ?_⟩
  refine List.forall_mem_cons.mpr ⟨⟨(trivial), trivial⟩, ?_⟩
  refine List.forall_mem_cons.mpr ⟨⟨(trivial), trivial⟩, ?_⟩
  refine List.forall_mem_cons.mpr ⟨⟨(mj_lkP (by decide) rfl (by decide) mj_inU10 mjf_10_227 mj_TyOk10 mj_Nm10 (Or.inl rfl) rfl), trivial⟩, ?_⟩
  refine List.forall_mem_cons.mpr ⟨⟨(trivial), trivial⟩, ?_⟩
  refine List.forall_mem_cons.mpr ⟨⟨(trivial), trivial⟩, ?_⟩
  refine List.forall_mem_cons.mpr ⟨⟨(mj_lkP (by decide) rfl (by decide) mj_inU10 mjf_10_230 mj_TyOk10 mj_Nm10 (Or.inl rfl) rfl), trivial⟩, ?_⟩
  refine List.forall_mem_cons.mpr ⟨⟨(trivial), trivial⟩, ?_⟩
  refine List.forall_mem_cons.mpr ⟨⟨(show (1 : Nat) < mj_maxL 126 by decide), trivial⟩, ?_⟩
  refine List.forall_mem_cons.mpr ⟨⟨(trivial), trivial⟩, ?_⟩
  refine List.forall_mem_cons.mpr ⟨⟨(trivial), trivial⟩, ?_⟩
  refine List.forall_mem_cons.mpr ⟨⟨(show (0 : Int) ≤ ((65 : Nat) : Int) + 55 by decide), trivial⟩, ?_⟩
  refine List.forall_mem_cons.mpr ⟨⟨(trivial), trivial⟩, ?_⟩
  refine List.forall_mem_cons.mpr ⟨⟨(mj_lkG (by decide) rfl (by decide) mj_inU10 mjf_10_65), trivial⟩, ?_⟩
  refine List.forall_mem_cons.mpr ⟨⟨(trivial), trivial⟩, ?_⟩
  refine List.forall_mem_cons.mpr ⟨⟨(trivial), trivial⟩, ?_⟩
  refine List.forall_mem_cons.mpr ⟨⟨(trivial), trivial⟩, ?_⟩
  refine List.forall_mem_cons.mpr ⟨⟨(trivial), trivial⟩, ?_⟩
  refine List.forall_mem_cons.mpr ⟨⟨(mj_lkG (by decide) rfl (by decide) mj_inU10 mjf_10_108), trivial⟩, ?_⟩
  refine List.forall_mem_cons.mpr ⟨⟨(trivial), trivial⟩, ?_⟩
  refine List.forall_mem_cons.mpr ⟨⟨(trivial), trivial⟩, ?_⟩
  refine List.forall_mem_cons.mpr ⟨⟨(mj_lkG (by decide) rfl (by decide) mj_inU10 mjf_10_20), trivial⟩, ?_⟩
  refine List.forall_mem_cons.mpr ⟨⟨(trivial), trivial⟩, ?_⟩
  refine List.forall_mem_cons.mpr ⟨⟨(trivial), trivial⟩, ?_⟩
  refine List.forall_mem_cons.mpr ⟨⟨(show (0 : Int) ≤ ((86 : Nat) : Int) + 7 by decide), trivial⟩, ?_⟩
  refine List.forall_mem_cons.mpr ⟨⟨(trivial), trivial⟩, ?_⟩
  refine List.forall_mem_cons.mpr ⟨⟨(show (0 : Int) ≤ ((90 : Nat) : Int) + 9 by decide), trivial⟩, ?_⟩
  refine List.forall_mem_cons.mpr ⟨⟨(trivial), trivial⟩, ?_⟩
  refine List.forall_mem_cons.mpr ⟨⟨(mj_lkG (by decide) rfl (by decide) mj_inU10 mjf_10_20), trivial⟩, ?_⟩
  refine List.forall_mem_cons.mpr ⟨⟨(trivial), trivial⟩, ?_⟩
  refine List.forall_mem_cons.mpr ⟨⟨(trivial), trivial⟩, ?_⟩
  refine List.forall_mem_cons.mpr ⟨⟨(trivial), trivial⟩, ?_⟩
  refine List.forall_mem_cons.mpr ⟨⟨(trivial), trivial⟩, ?_⟩
  refine List.forall_mem_cons.mpr ⟨⟨(mj_lkG (by decide) rfl (by decide) mj_inU10 mjf_10_111), trivial⟩, ?_⟩
  refine List.forall_mem_cons.mpr ⟨⟨(trivial), trivial⟩, ?_⟩
  refine List.forall_mem_cons.mpr ⟨⟨(trivial), trivial⟩, ?_⟩
  refine List.forall_mem_cons.mpr ⟨⟨(trivial), trivial⟩, ?_⟩
  refine List.forall_mem_cons.mpr ⟨⟨(trivial), trivial⟩, ?_⟩
  refine List.forall_mem_cons.mpr ⟨⟨(mj_lkG (by decide) rfl (by decide) mj_inU10 mjf_10_114), trivial⟩, ?_⟩
  refine List.forall_mem_cons.mpr ⟨⟨(trivial), trivial⟩, ?_⟩
  refine List.forall_mem_cons.mpr ⟨⟨(trivial), trivial⟩, ?_⟩
  refine List.forall_mem_cons.mpr ⟨⟨(trivial), trivial⟩, ?_⟩
  refine List.forall_mem_cons.mpr ⟨⟨(show (1 : Nat) < mj_maxL 126 by decide), trivial⟩, ?_⟩
  refine List.forall_mem_cons.mpr ⟨⟨(show (0 : Int) ≤ ((117 : Nat) : Int) + (-54) by decide), trivial⟩, ?_⟩
  refine List.forall_mem_cons.mpr ⟨⟨(trivial), trivial⟩, ?_⟩
  refine List.forall_mem_cons.mpr ⟨⟨(show (1 : Nat) < mj_maxL 126 by decide), trivial⟩, ?_⟩
  refine List.forall_mem_cons.mpr ⟨⟨(trivial), trivial⟩, ?_⟩
  refine List.forall_mem_cons.mpr ⟨⟨(trivial), trivial⟩, ?_⟩
  refine List.forall_mem_cons.mpr ⟨⟨(show (0 : Int) ≤ ((125 : Nat) : Int) + 16 by decide), trivial⟩, ?_⟩
  refine List.forall_mem_cons.mpr ⟨⟨(trivial), trivial⟩, ?_⟩
  refine List.forall_mem_cons.mpr ⟨⟨(mj_lkG (by decide) rfl (by decide) mj_inU10 mjf_10_105), trivial⟩, ?_⟩
  refine List.forall_mem_cons.mpr ⟨⟨(trivial), trivial⟩, ?_⟩
  refine List.forall_mem_cons.mpr ⟨⟨(trivial), trivial⟩, ?_⟩
  refine List.forall_mem_cons.mpr ⟨⟨(trivial), trivial⟩, ?_⟩
  refine List.forall_mem_cons.mpr ⟨⟨(show (1 : Nat) < mj_maxL 126 by decide), trivial⟩, ?_⟩
  refine List.forall_mem_cons.mpr ⟨⟨(show (0 : Int) ≤ ((138 : Nat) : Int) + (-16) by decide), trivial⟩, ?_⟩
  refine List.forall_mem_cons.mpr ⟨⟨(trivial), trivial⟩, ?_⟩
  refine List.forall_mem_cons.mpr ⟨⟨(show (1 : Nat) < mj_maxL 126 by decide), trivial⟩, ?_⟩
  refine List.forall_mem_cons.mpr ⟨⟨(trivial), trivial⟩, ?_⟩
  refine List.forall_mem_cons.mpr ⟨⟨(trivial), trivial⟩, ?_⟩
  refine List.forall_mem_cons.mpr ⟨⟨(show (0 : Int) ≤ ((145 : Nat) : Int) + 23 by decide), trivial⟩, ?_⟩
  refine List.forall_mem_cons.mpr ⟨⟨(trivial), trivial⟩, ?_⟩
  refine List.forall_mem_cons.mpr ⟨⟨(mj_lkG (by decide) rfl (by decide) mj_inU10 mjf_10_117), trivial⟩, ?_⟩
  refine List.forall_mem_cons.mpr ⟨⟨(trivial), trivial⟩, ?_⟩
  refine List.forall_mem_cons.mpr ⟨⟨(trivial), trivial⟩, ?_⟩
  refine List.forall_mem_cons.mpr ⟨⟨(trivial), trivial⟩, ?_⟩
  refine List.forall_mem_cons.mpr ⟨⟨(trivial), trivial⟩, ?_⟩
  refine List.forall_mem_cons.mpr ⟨⟨(mj_lkG (by decide) rfl (by decide) mj_inU10 mjf_10_123), trivial⟩, ?_⟩
  refine List.forall_mem_cons.mpr ⟨⟨(trivial), trivial⟩, ?_⟩
  refine List.forall_mem_cons.mpr ⟨⟨(trivial), trivial⟩, ?_⟩
  refine List.forall_mem_cons.mpr ⟨⟨(trivial), trivial⟩, ?_⟩
  refine List.forall_mem_cons.mpr ⟨⟨(show (1 : Nat) < mj_maxL 126 by decide), trivial⟩, ?_⟩
  refine List.forall_mem_cons.mpr ⟨⟨(show (0 : Int) ≤ ((165 : Nat) : Int) + (-22) by decide), trivial⟩, ?_⟩
  refine List.forall_mem_cons.mpr ⟨⟨(trivial), trivial⟩, ?_⟩
  refine List.forall_mem_cons.mpr ⟨⟨(trivial), trivial⟩, ?_⟩
  exact fun _ h => absurd h List.not_mem_nil
theorem mjd_126 : mj_ckd 126 = true := by decide +kernel
theorem mjg_126 : mj_good 126 := mj_goodOf (fun _ => ⟨mj_G, rfl⟩) (by decide +kernel) mjd_126 mje_126
theorem mje_127 : ∀ e ∈ mj_tb127, mj_lk 127 e.1 e.2.1 e.2.2.1 e.2.2.2 ∧ mj_cok 127 e.2.1 e.2.2.1 e.2.2.2 := by
  unfold mj_tb127
  refine List.forall_mem_cons.mpr ⟨⟨(trivial), trivial⟩, ?_⟩
  refine List.forall_mem_cons.mpr ⟨⟨(mj_lkG (by decide) rfl (by decide) mj_inU10 mjf_10_141), trivial⟩, ?_⟩
  refine List.forall_mem_cons.mpr ⟨⟨(show (1 : Nat) < mj_maxL 127 by decide), trivial⟩, ?_⟩
  refine List.forall_mem_cons.mpr ⟨⟨(trivial), trivial⟩, ?_⟩
  refine List.forall_mem_cons.mpr ⟨⟨(trivial), trivial⟩, ?_⟩
  refine List.forall_mem_cons.mpr ⟨⟨(mj_lkP (by decide) rfl (by decide) mj_inU10 mjf_10_141 mj_TyOk10 mj_Nm10 (Or.inl rfl) rfl), trivial⟩, ?_⟩
  refine List.forall_mem_cons.mpr ⟨⟨(trivial), trivial⟩, ?_⟩
  refine List.forall_mem_cons.mpr ⟨⟨(trivial), trivial⟩, ?_⟩
  exact fun _ h => absurd h List.not_mem_nil
theorem mjd_127 : mj_ckd 127 = true := by decide +kernel
theorem mjg_127 : mj_good 127 := mj_goodOf (fun _ => ⟨mj_G, rfl⟩) (by decide +kernel) mjd_127 mje_127
theorem mje_128 : ∀ e ∈ mj_tb128, mj_lk 128 e.1 e.2.1 e.2.2.1 e.2.2.2 ∧ mj_cok 128 e.2.1 e.2.2.1 e.2.2.2 := by
  unfold mj_tb128
  refine List.forall_mem_cons.mpr ⟨⟨(trivial), trivial⟩, ?_⟩
  refine List.forall_mem_cons.mpr ⟨⟨(mj_lkG (by decide) rfl (by decide) mj_inU10 mjf_10_141), trivial⟩, ?_⟩
  refine List.forall_mem_cons.mpr ⟨⟨(show (0 : Int) ≤ ((4 : Nat) : Int) + 30 by decide), trivial⟩, ?_⟩
  refine List.forall_mem_cons.mpr ⟨⟨(trivial), trivial⟩, ?_⟩
  refine List.forall_mem_cons.mpr ⟨⟨(trivial), trivial⟩, ?_⟩
  refine List.forall_mem_cons.mpr ⟨⟨(trivial), mj_ckOf mjK_103 (by decide) (mj_lnkG mjl_10_152)⟩, ?_⟩
  refine List.forall_mem_cons.mpr ⟨⟨(show (0 : Int) ≤ ((12 : Nat) : Int) + 22 by decide), trivial⟩, ?_⟩
  refine List.forall_mem_cons.mpr ⟨⟨(trivial), trivial⟩, ?_⟩
  refine List.forall_mem_cons.mpr ⟨⟨(mj_lkG (by decide) rfl (by decide) mj_inU10 mjf_10_20), trivial⟩, ?_⟩
  refine List.forall_mem_cons.mpr ⟨⟨(trivial), trivial⟩, ?_⟩
  refine List.forall_mem_cons.mpr ⟨⟨(trivial), trivial⟩, ?_⟩
  refine List.forall_mem_cons.mpr ⟨⟨(show (0 : Int) ≤ ((21 : Nat) : Int) + 13 by decide), trivial⟩, ?_⟩
  refine List.forall_mem_cons.mpr ⟨⟨(trivial), trivial⟩, ?_⟩
  refine List.forall_mem_cons.mpr ⟨⟨(mj_lkG (by decide) rfl (by decide) mj_inU10 mjf_10_111), trivial⟩, ?_⟩
  refine List.forall_mem_cons.mpr ⟨⟨(trivial), trivial⟩, ?_⟩
  refine List.forall_mem_cons.mpr ⟨⟨(trivial), trivial⟩, ?_⟩
  refine List.forall_mem_cons.mpr ⟨⟨(trivial), trivial⟩, ?_⟩
  refine List.forall_mem_cons.mpr ⟨⟨(show (0 : Int) ≤ ((31 : Nat) : Int) + 5 by decide), trivial⟩, ?_⟩
  refine List.forall_mem_cons.mpr ⟨⟨(trivial), trivial⟩, ?_⟩
  refine List.forall_mem_cons.mpr ⟨⟨(trivial), trivial⟩, ?_⟩
  refine List.forall_mem_cons.mpr ⟨⟨(trivial), trivial⟩, ?_⟩
  refine List.forall_mem_cons.mpr ⟨⟨(mj_lkG (by decide) rfl (by decide) mj_inU10 mjf_10_111), trivial⟩, ?_⟩
  refine List.forall_mem_cons.mpr ⟨⟨(trivial), trivial⟩, ?_⟩
  refine List.forall_mem_cons.mpr ⟨⟨(trivial), trivial⟩, ?_⟩
  refine List.forall_mem_cons.mpr ⟨⟨(trivial), trivial⟩, ?_⟩
  refine List.forall_mem_cons.mpr ⟨⟨(trivial), trivial⟩, ?_⟩
  refine List.forall_mem_cons.mpr ⟨⟨(trivial), trivial⟩, ?_⟩
  refine List.forall_mem_cons.mpr ⟨⟨(trivial), trivial⟩, ?_⟩
  refine List.forall_mem_cons.mpr ⟨⟨(trivial), trivial⟩, ?_⟩
  refine List.forall_mem_cons.mpr ⟨⟨(trivial), trivial⟩, ?_⟩
  exact fun _ h => absurd h List.not_mem_nil
theorem mjd_128 : mj_ckd 128 = true := by decide +kernel
theorem mjg_128 : mj_good 128 := mj_goodOf (fun _ => ⟨mj_G, rfl⟩) (by decide +kernel) mjd_128 mje_128
theorem mje_129 : ∀ e ∈ mj_tb129, mj_lk 129 e.1 e.2.1 e.2.2.1 e.2.2.2 ∧ mj_cok 129 e.2.1 e.2.2.1 e.2.2.2 := by
  unfold mj_tb129
  refine List.forall_mem_cons.mpr ⟨⟨(trivial), trivial⟩, ?_⟩
  refine List.forall_mem_cons.mpr ⟨⟨(mj_lkG (by decide) rfl (by decide) mj_inU10 mjf_10_141), trivial⟩, ?_⟩
  refine List.forall_mem_cons.mpr ⟨⟨(show (0 : Int) ≤ ((4 : Nat) : Int) + 12 by decide), trivial⟩, ?_⟩
  refine List.forall_mem_cons.mpr ⟨⟨(trivial), trivial⟩, ?_⟩
  refine List.forall_mem_cons.mpr ⟨⟨(trivial), trivial⟩, ?_⟩
  refine List.forall_mem_cons.mpr ⟨⟨(trivial), trivial⟩, ?_⟩
  refine List.forall_mem_cons.mpr ⟨⟨(trivial), mj_ckOf mjK_101 (by decide) (mj_lnkG mjl_10_145)⟩, ?_⟩
  refine List.forall_mem_cons.mpr ⟨⟨(show (0 : Int) ≤ ((13 : Nat) : Int) + 5 by decide), trivial⟩, ?_⟩
  refine List.forall_mem_cons.mpr ⟨⟨(trivial), trivial⟩, ?_⟩
  refine List.forall_mem_cons.mpr ⟨⟨(trivial), trivial⟩, ?_⟩
  refine List.forall_mem_cons.mpr ⟨⟨(trivial), trivial⟩, ?_⟩
  refine List.forall_mem_cons.mpr ⟨⟨(mj_lkG (by decide) rfl (by decide) mj_inU10 mjf_10_117), trivial⟩, ?_⟩
  refine List.forall_mem_cons.mpr ⟨⟨(trivial), trivial⟩, ?_⟩
  refine List.forall_mem_cons.mpr ⟨⟨(trivial), trivial⟩, ?_⟩
  refine List.forall_mem_cons.mpr ⟨⟨(trivial), trivial⟩, ?_⟩
  refine List.forall_mem_cons.mpr ⟨⟨(trivial), trivial⟩, ?_⟩
  refine List.forall_mem_cons.mpr ⟨⟨(trivial), trivial⟩, ?_⟩
  exact fun _ h => absurd h List.not_mem_nil
theorem mjd_129 : mj_ckd 129 = true := by decide +kernel
theorem mjg_129 : mj_good 129 := mj_goodOf (fun _ => ⟨mj_G, rfl⟩) (by decide +kernel) mjd_129 mje_129
theorem mje_130 : ∀ e ∈ mj_tb130, mj_lk 130 e.1 e.2.1 e.2.2.1 e.2.2.2 ∧ mj_cok 130 e.2.1 e.2.2.1 e.2.2.2 := by
  unfold mj_tb130
  refine List.forall_mem_cons.mpr ⟨⟨(trivial), trivial⟩, ?_⟩
  refine List.forall_mem_cons.mpr ⟨⟨(mj_lkG (by decide) rfl (by decide) mj_inU10 mjf_10_141), trivial⟩, ?_⟩
  refine List.forall_mem_cons.mpr ⟨⟨(show (0 : Int) ≤ ((4 : Nat) : Int) + 14 by decide), trivial⟩, ?_⟩
  refine List.forall_mem_cons.mpr ⟨⟨(trivial), trivial⟩, ?_⟩
  refine List.forall_mem_cons.mpr ⟨⟨(trivial), trivial⟩, ?_⟩
  refine List.forall_mem_cons.mpr ⟨⟨(trivial), trivial⟩, ?_⟩
  refine List.forall_mem_cons.mpr ⟨⟨(trivial), mj_ckOf mjK_101 (by decide) (mj_lnkG mjl_10_145)⟩, ?_⟩
  refine List.forall_mem_cons.mpr ⟨⟨(show (0 : Int) ≤ ((15 : Nat) : Int) + 5 by decide), trivial⟩, ?_⟩
  refine List.forall_mem_cons.mpr ⟨⟨(trivial), trivial⟩, ?_⟩
  refine List.forall_mem_cons.mpr ⟨⟨(trivial), trivial⟩, ?_⟩
  refine List.forall_mem_cons.mpr ⟨⟨(trivial), trivial⟩, ?_⟩
  refine List.forall_mem_cons.mpr ⟨⟨(mj_lkG (by decide) rfl (by decide) mj_inU10 mjf_10_230), trivial⟩, ?_⟩
  refine List.forall_mem_cons.mpr ⟨⟨(show (2 : Nat) < mj_maxL 130 by decide), trivial⟩, ?_⟩
  refine List.forall_mem_cons.mpr ⟨⟨(trivial), trivial⟩, ?_⟩
  refine List.forall_mem_cons.mpr ⟨⟨(show (3 : Nat) < mj_maxL 130 by decide), trivial⟩, ?_⟩
  refine List.forall_mem_cons.mpr ⟨⟨(trivial), trivial⟩, ?_⟩
  refine List.forall_mem_cons.mpr ⟨⟨(trivial), trivial⟩, ?_⟩
  refine List.forall_mem_cons.mpr ⟨⟨(show (0 : Int) ≤ ((29 : Nat) : Int) + 13 by decide), trivial⟩, ?_⟩
  refine List.forall_mem_cons.mpr ⟨⟨(trivial), trivial⟩, ?_⟩
  refine List.forall_mem_cons.mpr ⟨⟨(trivial), mj_ckOf mjK_131 (by decide) (mj_lnkG mjl_10_263)⟩, ?_⟩
  refine List.forall_mem_cons.mpr ⟨⟨(show (3 : Nat) < mj_maxL 130 by decide), trivial⟩, ?_⟩
  refine List.forall_mem_cons.mpr ⟨⟨(show (0 : Int) ≤ ((39 : Nat) : Int) + (-12) by decide), trivial⟩, ?_⟩
  refine List.forall_mem_cons.mpr ⟨⟨(trivial), trivial⟩, ?_⟩
  refine List.forall_mem_cons.mpr ⟨⟨(mj_lkG (by decide) rfl (by decide) mj_inU10 mjf_10_230), trivial⟩, ?_⟩
  refine List.forall_mem_cons.mpr ⟨⟨(trivial), trivial⟩, ?_⟩
  refine List.forall_mem_cons.mpr ⟨⟨(trivial), trivial⟩, ?_⟩
  refine List.forall_mem_cons.mpr ⟨⟨(trivial), trivial⟩, ?_⟩
  exact fun _ h => absurd h List.not_mem_nil
theorem mjd_130 : mj_ckd 130 = true := by decide +kernel
theorem mjg_130 : mj_good 130 := mj_goodOf (fun _ => ⟨mj_G, rfl⟩) (by decide +kernel) mjd_130 mje_130
theorem mje_131 : ∀ e ∈ mj_tb131, mj_lk 131 e.1 e.2.1 e.2.2.1 e.2.2.2 ∧ mj_cok 131 e.2.1 e.2.2.1 e.2.2.2 := by
  unfold mj_tb131
  refine List.forall_mem_cons.mpr ⟨⟨(trivial), trivial⟩, ?_⟩
  refine List.forall_mem_cons.mpr ⟨⟨(show (1 : Nat) < mj_maxL 131 by decide), trivial⟩, ?_⟩
  refine List.forall_mem_cons.mpr ⟨⟨(trivial), trivial⟩, ?_⟩
  refine List.forall_mem_cons.mpr ⟨⟨(trivial), trivial⟩, ?_⟩
  refine List.forall_mem_cons.mpr ⟨⟨(mj_lkG (by decide) rfl (by decide) mj_inU10 mjf_10_138), trivial⟩, ?_⟩
  refine List.forall_mem_cons.mpr ⟨⟨(show (0 : Int) ≤ ((7 : Nat) : Int) + 45 by decide), trivial⟩, ?_⟩
  refine List.forall_mem_cons.mpr ⟨⟨(trivial), trivial⟩, ?_⟩
  refine List.forall_mem_cons.mpr ⟨⟨(mj_lkG (by decide) rfl (by decide) mj_inU10 mjf_10_209), trivial⟩, ?_⟩
  refine List.forall_mem_cons.mpr ⟨⟨(trivial), trivial⟩, ?_⟩
  refine List.forall_mem_cons.mpr ⟨⟨(mj_lkG (by decide) rfl (by decide) mj_inU10 mjf_10_108), trivial⟩, ?_⟩
  refine List.forall_mem_cons.mpr ⟨⟨(trivial), trivial⟩, ?_⟩
  refine List.forall_mem_cons.mpr ⟨⟨(trivial), trivial⟩, ?_⟩
  refine List.forall_mem_cons.mpr ⟨⟨(show (0 : Int) ≤ ((20 : Nat) : Int) + 26 by decide), trivial⟩, ?_⟩
  refine List.forall_mem_cons.mpr ⟨⟨(trivial), trivial⟩, ?_⟩
  refine List.forall_mem_cons.mpr ⟨⟨(mj_lkG (by decide) rfl (by decide) mj_inU10 mjf_10_20), trivial⟩, ?_⟩
  refine List.forall_mem_cons.mpr ⟨⟨(trivial), trivial⟩, ?_⟩
  refine List.forall_mem_cons.mpr ⟨⟨(trivial), trivial⟩, ?_⟩
  refine List.forall_mem_cons.mpr ⟨⟨(show (0 : Int) ≤ ((29 : Nat) : Int) + 12 by decide), trivial⟩, ?_⟩
  refine List.forall_mem_cons.mpr ⟨⟨(trivial), trivial⟩, ?_⟩
  refine List.forall_mem_cons.mpr ⟨⟨(mj_lkG (by decide) rfl (by decide) mj_inU10 mjf_10_111), trivial⟩, ?_⟩
  refine List.forall_mem_cons.mpr ⟨⟨(trivial), trivial⟩, ?_⟩
  refine List.forall_mem_cons.mpr ⟨⟨(trivial), trivial⟩, ?_⟩
  refine List.forall_mem_cons.mpr ⟨⟨(show (0 : Int) ≤ ((38 : Nat) : Int) + 8 by decide), trivial⟩, ?_⟩
  refine List.forall_mem_cons.mpr ⟨⟨(trivial), trivial⟩, ?_⟩
  refine List.forall_mem_cons.mpr ⟨⟨(trivial), trivial⟩, ?_⟩
  refine List.forall_mem_cons.mpr ⟨⟨(trivial), mj_ckOf mjK_132 (by decide) (mj_lnkG mjl_10_240)⟩, ?_⟩
  refine List.forall_mem_cons.mpr ⟨⟨(show (1 : Nat) < mj_maxL 131 by decide), trivial⟩, ?_⟩
  refine List.forall_mem_cons.mpr ⟨⟨(show (0 : Int) ≤ ((49 : Nat) : Int) + (-47) by decide), trivial⟩, ?_⟩
  refine List.forall_mem_cons.mpr ⟨⟨(trivial), trivial⟩, ?_⟩
  refine List.forall_mem_cons.mpr ⟨⟨(trivial), mj_ckOf mjK_134 (by decide) (mj_lnkG mjl_10_243)⟩, ?_⟩
  refine List.forall_mem_cons.mpr ⟨⟨(show (1 : Nat) < mj_maxL 131 by decide), trivial⟩, ?_⟩
  refine List.forall_mem_cons.mpr ⟨⟨(trivial), trivial⟩, ?_⟩
  refine List.forall_mem_cons.mpr ⟨⟨(trivial), trivial⟩, ?_⟩
  refine List.forall_mem_cons.mpr ⟨⟨(mj_lkG (by decide) rfl (by decide) mj_inU10 mjf_10_209), trivial⟩, ?_⟩
  refine List.forall_mem_cons.mpr ⟨⟨(trivial), trivial⟩, ?_⟩
  refine List.forall_mem_cons.mpr ⟨⟨(trivial), trivial⟩, ?_⟩
  refine List.forall_mem_cons.mpr ⟨⟨(mj_lkP (by decide) rfl (by decide) mj_inU10 mjf_10_209 mj_TyOk10 mj_Nm10 (Or.inl rfl) rfl), trivial⟩, ?_⟩
  refine List.forall_mem_cons.mpr ⟨⟨(trivial), trivial⟩, ?_⟩
  refine List.forall_mem_cons.mpr ⟨⟨(trivial), trivial⟩, ?_⟩
  refine List.forall_mem_cons.mpr ⟨⟨(mj_lkP (by decide) rfl (by decide) mj_inU10 mjf_10_212 mj_TyOk10 mj_Nm10 (Or.inl rfl) rfl), trivial⟩, ?_⟩
  refine List.forall_mem_cons.mpr ⟨⟨(trivial), trivial⟩, ?_⟩
  refine List.forall_mem_cons.mpr ⟨⟨(show (0 : Int) ≤ ((73 : Nat) : Int) + 16 by decide), trivial⟩, ?_⟩
  refine List.forall_mem_cons.mpr ⟨⟨(trivial), trivial⟩, ?_⟩
  refine List.forall_mem_cons.mpr ⟨⟨(trivial), trivial⟩, ?_⟩
  refine List.forall_mem_cons.mpr ⟨⟨(mj_lkG (by decide) rfl (by decide) mj_inU10 mjf_10_227), trivial⟩, ?_⟩
  refine List.forall_mem_cons.mpr ⟨⟨(trivial), trivial⟩, ?_⟩
  refine List.forall_mem_cons.mpr ⟨⟨(trivial), trivial⟩, ?_⟩
  refine List.forall_mem_cons.mpr ⟨⟨(mj_lkP (by decide) rfl (by decide) mj_inU10 mjf_10_227 mj_TyOk10 mj_Nm10 (Or.inl rfl) rfl), trivial⟩, ?_⟩
  refine List.forall_mem_cons.mpr ⟨⟨(show (0 : Int) ≤ ((86 : Nat) : Int) + 63 by decide), trivial⟩, ?_⟩
  refine List.forall_mem_cons.mpr ⟨⟨(trivial), trivial⟩, ?_⟩
  refine List.forall_mem_cons.mpr ⟨⟨(trivial), trivial⟩, ?_⟩
  refine List.forall_mem_cons.mpr ⟨⟨(mj_lkG (by decide) rfl (by decide) mj_inU10 mjf_10_215), trivial⟩, ?_⟩
  refine List.forall_mem_cons.mpr ⟨⟨(show (0 : Int) ≤ ((94 : Nat) : Int) + 23 by decide), trivial⟩, ?_⟩
  refine List.forall_mem_cons.mpr ⟨⟨(trivial), trivial⟩, ?_⟩
  refine List.forall_mem_cons.mpr ⟨⟨(trivial), trivial⟩, ?_⟩
  refine List.forall_mem_cons.mpr ⟨⟨(mj_lkG (by decide) rfl (by decide) mj_inU10 mjf_10_218), trivial⟩, ?_⟩
  refine List.forall_mem_cons.mpr ⟨⟨(trivial), trivial⟩, ?_⟩
  refine List.forall_mem_cons.mpr ⟨⟨(trivial), trivial⟩, ?_⟩
  refine List.forall_mem_cons.mpr ⟨⟨(mj_lkP (by decide) rfl (by decide) mj_inU10 mjf_10_218 mj_TyOk10 mj_Nm10 (Or.inl rfl) rfl), trivial⟩, ?_⟩
  refine List.forall_mem_cons.mpr ⟨⟨(trivial), trivial⟩, ?_⟩
  refine List.forall_mem_cons.mpr ⟨⟨(mj_lkG (by decide) rfl (by decide) mj_inU10 mjf_10_75), trivial⟩, ?_⟩
  refine List.forall_mem_cons.mpr ⟨⟨(trivial), trivial⟩, ?_⟩
  refine List.forall_mem_cons.mpr ⟨⟨(trivial), trivial⟩, ?_⟩
  refine List.forall_mem_cons.mpr ⟨⟨(trivial), trivial⟩, ?_⟩
  refine List.forall_mem_cons.mpr ⟨⟨(show (0 : Int) ≤ ((114 : Nat) : Int) + 35 by decide), trivial⟩, ?_⟩
  refine List.forall_mem_cons.mpr ⟨⟨(trivial), trivial⟩, ?_⟩
  refine List.forall_mem_cons.mpr ⟨⟨(mj_lkG (by decide) rfl (by decide) mj_inU10 mjf_10_75), trivial⟩, ?_⟩
  refine List.forall_mem_cons.mpr ⟨⟨(trivial), trivial⟩, ?_⟩
  refine List.forall_mem_cons.mpr ⟨⟨(trivial), trivial⟩, ?_⟩
  refine List.forall_mem_cons.mpr ⟨⟨(show (0 : Int) ≤ ((123 : Nat) : Int) + 16 by decide), trivial⟩, ?_⟩
  refine List.forall_mem_cons.mpr ⟨⟨(trivial), trivial⟩, ?_⟩
  refine List.forall_mem_cons.mpr ⟨⟨(mj_lkG (by decide) rfl (by decide) mj_inU10 mjf_10_75), trivial⟩, ?_⟩
  refine List.forall_mem_cons.mpr ⟨⟨(trivial), trivial⟩, ?_⟩
  refine List.forall_mem_cons.mpr ⟨⟨(trivial), trivial⟩, ?_⟩
  refine List.forall_mem_cons.mpr ⟨⟨(trivial), trivial⟩, ?_⟩
  refine List.forall_mem_cons.mpr ⟨⟨(trivial), trivial⟩, ?_⟩
  refine List.forall_mem_cons.mpr ⟨⟨(trivial), trivial⟩, ?_⟩
  refine List.forall_mem_cons.mpr ⟨⟨(trivial), trivial⟩, ?_⟩
  refine List.forall_mem_cons.mpr ⟨⟨(show (0 : Int) ≤ ((136 : Nat) : Int) + 13 by decide), trivial⟩, ?_⟩
  refine List.forall_mem_cons.mpr ⟨⟨(trivial), trivial⟩, ?_⟩
  refine List.forall_mem_cons.mpr ⟨⟨(mj_lkG (by decide) rfl (by decide) mj_inU10 mjf_10_78), trivial⟩, ?_⟩
  refine List.forall_mem_cons.mpr ⟨⟨(trivial), trivial⟩, ?_⟩
  refine List.forall_mem_cons.mpr ⟨⟨(trivial), trivial⟩, ?_⟩
  refine List.forall_mem_cons.mpr ⟨⟨(trivial), trivial⟩, ?_⟩
  refine List.forall_mem_cons.mpr ⟨⟨(trivial), trivial⟩, ?_⟩
  refine List.forall_mem_cons.mpr ⟨⟨(trivial), trivial⟩, ?_⟩
  refine List.forall_mem_cons.mpr ⟨⟨(trivial), trivial⟩, ?_⟩
  refine List.forall_mem_cons.mpr ⟨⟨(trivial), trivial⟩, ?_⟩
  refine List.forall_mem_cons.mpr ⟨⟨(trivial), trivial⟩, ?_⟩
  refine List.forall_mem_cons.mpr ⟨⟨(mj_lkP (by decide) rfl (by decide) mj_inU10 mjf_10_215 mj_TyOk10 mj_Nm10 (Or.inl rfl) rfl), trivial⟩, ?_⟩
  refine List.forall_mem_cons.mpr ⟨⟨(trivial), trivial⟩, ?_⟩
  refine List.forall_mem_cons.mpr ⟨⟨(show (0 : Int) ≤ ((155 : Nat) : Int) + 64 by decide), trivial⟩, ?_⟩
  refine List.forall_mem_cons.mpr ⟨⟨(trivial), trivial⟩, ?_⟩
  refine List.forall_mem_cons.mpr ⟨⟨(mj_lkG (by decide) rfl (by decide) mj_inU10 mjf_10_69), trivial⟩, ?_⟩
  refine List.forall_mem_cons.mpr ⟨⟨(trivial), trivial⟩, ?_⟩
  refine List.forall_mem_cons.mpr ⟨⟨(trivial), trivial⟩, ?_⟩
  refine List.forall_mem_cons.mpr ⟨⟨(trivial), trivial⟩, ?_⟩
  refine List.forall_mem_cons.mpr ⟨⟨(trivial), trivial⟩, ?_⟩
  refine List.forall_mem_cons.mpr ⟨⟨(trivial), trivial⟩, ?_⟩
  refine List.forall_mem_cons.mpr ⟨⟨(trivial), trivial⟩, ?_⟩
  refine List.forall_mem_cons.mpr ⟨⟨(trivial), trivial⟩, ?_⟩
  refine List.forall_mem_cons.mpr ⟨⟨(mj_lkG (by decide) rfl (by decide) mj_inU10 mjf_10_87), trivial⟩, ?_⟩
  refine List.forall_mem_cons.mpr ⟨⟨(trivial), trivial⟩, ?_⟩
  refine List.forall_mem_cons.mpr ⟨⟨(trivial), trivial⟩, ?_⟩
  refine List.forall_mem_cons.mpr ⟨⟨(trivial), trivial⟩, ?_⟩
  refine List.forall_mem_cons.mpr ⟨⟨(trivial), trivial⟩, ?_⟩
  refine List.forall_mem_cons.mpr ⟨⟨(trivial), trivial⟩, ?_⟩
  refine List.forall_mem_cons.mpr ⟨⟨(trivial), trivial⟩, ?_⟩
  refine List.forall_mem_cons.mpr ⟨⟨(mj_lkG (by decide) rfl (by decide) mj_inU10 mjf_10_90), trivial⟩, ?_⟩
  refine List.forall_mem_cons.mpr ⟨⟨(trivial), trivial⟩, ?_⟩
  refine List.forall_mem_cons.mpr ⟨⟨(trivial), trivial⟩, ?_⟩
  refine List.forall_mem_cons.mpr ⟨⟨(trivial), trivial⟩, ?_⟩
  refine List.forall_mem_cons.mpr ⟨⟨(show (2 : Nat) < mj_maxL 131 by decide), trivial⟩, ?_⟩
  refine List.forall_mem_cons.mpr ⟨⟨(trivial), trivial⟩, ?_⟩
  refine List.forall_mem_cons.mpr ⟨⟨(mj_lkG (by decide) rfl (by decide) mj_inU10 mjf_10_78), trivial⟩, ?_⟩
  refine List.forall_mem_cons.mpr ⟨⟨(trivial), trivial⟩, ?_⟩
  refine List.forall_mem_cons.mpr ⟨⟨(trivial), trivial⟩, ?_⟩
  refine List.forall_mem_cons.mpr ⟨⟨(trivial), trivial⟩, ?_⟩
  refine List.forall_mem_cons.mpr ⟨⟨(mj_lkG (by decide) rfl (by decide) mj_inU10 mjf_10_38), trivial⟩, ?_⟩
  refine List.forall_mem_cons.mpr ⟨⟨(trivial), trivial⟩, ?_⟩
  refine List.forall_mem_cons.mpr ⟨⟨(mj_lkG (by decide) rfl (by decide) mj_inU10 mjf_10_23), trivial⟩, ?_⟩
  refine List.forall_mem_cons.mpr ⟨⟨(trivial), trivial⟩, ?_⟩
  refine List.forall_mem_cons.mpr ⟨⟨(trivial), trivial⟩, ?_⟩
  refine List.forall_mem_cons.mpr ⟨⟨(trivial), trivial⟩, ?_⟩
  refine List.forall_mem_cons.mpr ⟨⟨(show (0 : Int) ≤ ((203 : Nat) : Int) + 16 by decide), trivial⟩, ?_⟩
  refine List.forall_mem_cons.mpr ⟨⟨(trivial), trivial⟩, ?_⟩
  refine List.forall_mem_cons.mpr ⟨⟨(mj_lkG (by decide) rfl (by decide) mj_inU10 mjf_10_78), trivial⟩, ?_⟩
  refine List.forall_mem_cons.mpr ⟨⟨(trivial), trivial⟩, ?_⟩
  refine List.forall_mem_cons.mpr ⟨⟨(trivial), trivial⟩, ?_⟩
  refine List.forall_mem_cons.mpr ⟨⟨(trivial), trivial⟩, ?_⟩
  refine List.forall_mem_cons.mpr ⟨⟨(trivial), trivial⟩, ?_⟩
  refine List.forall_mem_cons.mpr ⟨⟨(trivial), trivial⟩, ?_⟩
  refine List.forall_mem_cons.mpr ⟨⟨(trivial), trivial⟩, ?_⟩
  refine List.forall_mem_cons.mpr ⟨⟨(trivial), mj_ckOf mjK_136 (by decide) (mj_lnkG mjl_10_246)⟩, ?_⟩
  refine List.forall_mem_cons.mpr ⟨⟨(trivial), trivial⟩, ?_⟩
  exact fun _ h => absurd h List.not_mem_nil
theorem mjd_131 : mj_ckd 131 = true := by decide +kernel
theorem mjg_131 : mj_good 131 := mj_goodOf (fun _ => ⟨mj_G, rfl⟩) (by decide +kernel) mjd_131 mje_131
theorem mje_132 : ∀ e ∈ mj_tb132, mj_lk 132 e.1 e.2.1 e.2.2.1 e.2.2.2 ∧ mj_cok 132 e.2.1 e.2.2.1 e.2.2.2 := by
  unfold mj_tb132
  refine List.forall_mem_cons.mpr ⟨⟨(trivial), trivial⟩, ?_⟩
  refine List.forall_mem_cons.mpr ⟨⟨(mj_lkG (by decide) rfl (by decide) mj_inU10 mjf_10_108), trivial⟩, ?_⟩
  refine List.forall_mem_cons.mpr ⟨⟨(trivial), trivial⟩, ?_⟩
  refine List.forall_mem_cons.mpr ⟨⟨(trivial), trivial⟩, ?_⟩
  refine List.forall_mem_cons.mpr ⟨⟨(mj_lkG (by decide) rfl (by decide) mj_inU10 mjf_10_209), trivial⟩, ?_⟩
  refine List.forall_mem_cons.mpr ⟨⟨(trivial), trivial⟩, ?_⟩
  refine List.forall_mem_cons.mpr ⟨⟨(mj_lkG (by decide) rfl (by decide) mj_inU10 mjf_10_13), trivial⟩, ?_⟩
  refine List.forall_mem_cons.mpr ⟨⟨(trivial), trivial⟩, ?_⟩
  refine List.forall_mem_cons.mpr ⟨⟨(trivial), trivial⟩, ?_⟩
  refine List.forall_mem_cons.mpr ⟨⟨(trivial), trivial⟩, ?_⟩
  refine List.forall_mem_cons.mpr ⟨⟨(trivial), trivial⟩, ?_⟩
  refine List.forall_mem_cons.mpr ⟨⟨(trivial), trivial⟩, ?_⟩
  refine List.forall_mem_cons.mpr ⟨⟨(mj_lkG (by decide) rfl (by decide) mj_inU10 mjf_10_111), trivial⟩, ?_⟩
  refine List.forall_mem_cons.mpr ⟨⟨(trivial), trivial⟩, ?_⟩
  refine List.forall_mem_cons.mpr ⟨⟨(trivial), trivial⟩, ?_⟩
  refine List.forall_mem_cons.mpr ⟨⟨(mj_lkG (by decide) rfl (by decide) mj_inU10 mjf_10_20), trivial⟩, ?_⟩
  refine List.forall_mem_cons.mpr ⟨⟨(trivial), trivial⟩, ?_⟩
  refine List.forall_mem_cons.mpr ⟨⟨(trivial), trivial⟩, ?_⟩
  refine List.forall_mem_cons.mpr ⟨⟨(show (0 : Int) ≤ ((28 : Nat) : Int) + 14 by decide), trivial⟩, ?_⟩
  refine List.forall_mem_cons.mpr ⟨⟨(trivial), trivial⟩, ?_⟩
  refine List.forall_mem_cons.mpr ⟨⟨(mj_lkG (by decide) rfl (by decide) mj_inU10 mjf_10_111), trivial⟩, ?_⟩
  refine List.forall_mem_cons.mpr ⟨⟨(trivial), trivial⟩, ?_⟩
  refine List.forall_mem_cons.mpr ⟨⟨(trivial), trivial⟩, ?_⟩
  refine List.forall_mem_cons.mpr ⟨⟨(trivial), trivial⟩, ?_⟩
  refine List.forall_mem_cons.mpr ⟨⟨(trivial), trivial⟩, ?_⟩
  refine List.forall_mem_cons.mpr ⟨⟨(show (0 : Int) ≤ ((39 : Nat) : Int) + 4 by decide), trivial⟩, ?_⟩
  refine List.forall_mem_cons.mpr ⟨⟨(trivial), trivial⟩, ?_⟩
  refine List.forall_mem_cons.mpr ⟨⟨(trivial), trivial⟩, ?_⟩
  refine List.forall_mem_cons.mpr ⟨⟨(trivial), trivial⟩, ?_⟩
  refine List.forall_mem_cons.mpr ⟨⟨(mj_lkG (by decide) rfl (by decide) mj_inU10 mjf_10_65), trivial⟩, ?_⟩
  refine List.forall_mem_cons.mpr ⟨⟨(trivial), trivial⟩, ?_⟩
  refine List.forall_mem_cons.mpr ⟨⟨(trivial), trivial⟩, ?_⟩
  refine List.forall_mem_cons.mpr ⟨⟨(show (0 : Int) ≤ ((50 : Nat) : Int) + 31 by decide), trivial⟩, ?_⟩
  refine List.forall_mem_cons.mpr ⟨⟨(trivial), trivial⟩, ?_⟩
  refine List.forall_mem_cons.mpr ⟨⟨(trivial), trivial⟩, ?_⟩
  refine List.forall_mem_cons.mpr ⟨⟨(mj_lkG (by decide) rfl (by decide) mj_inU10 mjf_10_224), trivial⟩, ?_⟩
  refine List.forall_mem_cons.mpr ⟨⟨(trivial), trivial⟩, ?_⟩
  refine List.forall_mem_cons.mpr ⟨⟨(trivial), trivial⟩, ?_⟩
  refine List.forall_mem_cons.mpr ⟨⟨(mj_lkP (by decide) rfl (by decide) mj_inU10 mjf_10_224 mj_TyOk10 mj_Nm10 (Or.inl rfl) rfl), trivial⟩, ?_⟩
  refine List.forall_mem_cons.mpr ⟨⟨(trivial), trivial⟩, ?_⟩
  refine List.forall_mem_cons.mpr ⟨⟨(trivial), trivial⟩, ?_⟩
  refine List.forall_mem_cons.mpr ⟨⟨(trivial), trivial⟩, ?_⟩
  refine List.forall_mem_cons.mpr ⟨⟨(trivial), trivial⟩, ?_⟩
  refine List.forall_mem_cons.mpr ⟨⟨(mj_lkG (by decide) rfl (by decide) mj_inU10 mjf_10_209), trivial⟩, ?_⟩
  refine List.forall_mem_cons.mpr ⟨⟨(trivial), trivial⟩, ?_⟩
  refine List.forall_mem_cons.mpr ⟨⟨(mj_lkG (by decide) rfl (by decide) mj_inU10 mjf_10_72), trivial⟩, ?_⟩
  refine List.forall_mem_cons.mpr ⟨⟨(trivial), trivial⟩, ?_⟩
  refine List.forall_mem_cons.mpr ⟨⟨(trivial), trivial⟩, ?_⟩
  refine List.forall_mem_cons.mpr ⟨⟨(trivial), trivial⟩, ?_⟩
  refine List.forall_mem_cons.mpr ⟨⟨(trivial), mj_ckOf mjK_133 (by decide) (mj_lnkG mjl_10_233)⟩, ?_⟩
  refine List.forall_mem_cons.mpr ⟨⟨(trivial), trivial⟩, ?_⟩
  refine List.forall_mem_cons.mpr ⟨⟨(trivial), trivial⟩, ?_⟩
  refine List.forall_mem_cons.mpr ⟨⟨(mj_lkG (by decide) rfl (by decide) mj_inU10 mjf_10_65), trivial⟩, ?_⟩
  refine List.forall_mem_cons.mpr ⟨⟨(trivial), trivial⟩, ?_⟩
  refine List.forall_mem_cons.mpr ⟨⟨(trivial), trivial⟩, ?_⟩
  refine List.forall_mem_cons.mpr ⟨⟨(trivial), trivial⟩, ?_⟩
  refine List.forall_mem_cons.mpr ⟨⟨(trivial), trivial⟩, ?_⟩
  refine List.forall_mem_cons.mpr ⟨⟨(mj_lkG (by decide) rfl (by decide) mj_inU10 mjf_10_69), trivial⟩, ?_⟩
  refine List.forall_mem_cons.mpr ⟨⟨(trivial), trivial⟩, ?_⟩
  refine List.forall_mem_cons.mpr ⟨⟨(trivial), trivial⟩, ?_⟩
  refine List.forall_mem_cons.mpr ⟨⟨(trivial), trivial⟩, ?_⟩
  refine List.forall_mem_cons.mpr ⟨⟨(trivial), trivial⟩, ?_⟩
  refine List.forall_mem_cons.mpr ⟨⟨(mj_lkG (by decide) rfl (by decide) mj_inU10 mjf_10_72), trivial⟩, ?_⟩
  refine List.forall_mem_cons.mpr ⟨⟨(trivial), trivial⟩, ?_⟩
  refine List.forall_mem_cons.mpr ⟨⟨(trivial), trivial⟩, ?_⟩
  refine List.forall_mem_cons.mpr ⟨⟨(mj_lkG (by decide) rfl (by decide) mj_inU10 mjf_10_209), trivial⟩, ?_⟩
  refine List.forall_mem_cons.mpr ⟨⟨(trivial), trivial⟩, ?_⟩
  refine List.forall_mem_cons.mpr ⟨⟨(trivial), trivial⟩, ?_⟩
  refine List.forall_mem_cons.mpr ⟨⟨(mj_lkG (by decide) rfl (by decide) mj_inU10 mjf_10_78), trivial⟩, ?_⟩
  refine List.forall_mem_cons.mpr ⟨⟨(trivial), trivial⟩, ?_⟩
  refine List.forall_mem_cons.mpr ⟨⟨(trivial), trivial⟩, ?_⟩
  refine List.forall_mem_cons.mpr ⟨⟨(trivial), trivial⟩, ?_⟩
  refine List.forall_mem_cons.mpr ⟨⟨(trivial), trivial⟩, ?_⟩
  refine List.forall_mem_cons.mpr ⟨⟨(mj_lkG (by decide) rfl (by decide) mj_inU10 mjf_10_81), trivial⟩, ?_⟩
  refine List.forall_mem_cons.mpr ⟨⟨(trivial), trivial⟩, ?_⟩
  refine List.forall_mem_cons.mpr ⟨⟨(trivial), trivial⟩, ?_⟩
  refine List.forall_mem_cons.mpr ⟨⟨(trivial), trivial⟩, ?_⟩
  refine List.forall_mem_cons.mpr ⟨⟨(trivial), trivial⟩, ?_⟩
  refine List.forall_mem_cons.mpr ⟨⟨(mj_lkG (by decide) rfl (by decide) mj_inU10 mjf_10_84), trivial⟩, ?_⟩
  refine List.forall_mem_cons.mpr ⟨⟨(trivial), trivial⟩, ?_⟩
  refine List.forall_mem_cons.mpr ⟨⟨(trivial), trivial⟩, ?_⟩
  refine List.forall_mem_cons.mpr ⟨⟨(trivial), trivial⟩, ?_⟩
  refine List.forall_mem_cons.mpr ⟨⟨(trivial), trivial⟩, ?_⟩
  refine List.forall_mem_cons.mpr ⟨⟨(mj_lkG (by decide) rfl (by decide) mj_inU10 mjf_10_87), trivial⟩, ?_⟩
  refine List.forall_mem_cons.mpr ⟨⟨(trivial), trivial⟩, ?_⟩
  refine List.forall_mem_cons.mpr ⟨⟨(trivial), trivial⟩, ?_⟩
  refine List.forall_mem_cons.mpr ⟨⟨(trivial), trivial⟩, ?_⟩
  refine List.forall_mem_cons.mpr ⟨⟨(trivial), trivial⟩, ?_⟩
  refine List.forall_mem_cons.mpr ⟨⟨(mj_lkG (by decide) rfl (by decide) mj_inU10 mjf_10_90), trivial⟩, ?_⟩
  refine List.forall_mem_cons.mpr ⟨⟨(trivial), trivial⟩, ?_⟩
  refine List.forall_mem_cons.mpr ⟨⟨(trivial), trivial⟩, ?_⟩
  refine List.forall_mem_cons.mpr ⟨⟨(trivial), trivial⟩, ?_⟩
  refine List.forall_mem_cons.mpr ⟨⟨(trivial), trivial⟩, ?_⟩
  refine List.forall_mem_cons.mpr ⟨⟨(show (2 : Nat) < mj_maxL 132 by decide), trivial⟩, ?_⟩
  refine List.forall_mem_cons.mpr ⟨⟨(trivial), trivial⟩, ?_⟩
  refine List.forall_mem_cons.mpr ⟨⟨(trivial), trivial⟩, ?_⟩
  refine List.forall_mem_cons.mpr ⟨⟨(show (0 : Int) ≤ ((144 : Nat) : Int) + 20 by decide), trivial⟩, ?_⟩
  refine List.forall_mem_cons.mpr ⟨⟨(trivial), trivial⟩, ?_⟩
  refine List.forall_mem_cons.mpr ⟨⟨(mj_lkG (by decide) rfl (by decide) mj_inU10 mjf_10_102), trivial⟩, ?_⟩
  refine List.forall_mem_cons.mpr ⟨⟨(trivial), trivial⟩, ?_⟩
  refine List.forall_mem_cons.mpr ⟨⟨(trivial), trivial⟩, ?_⟩
  refine List.forall_mem_cons.mpr ⟨⟨(trivial), trivial⟩, ?_⟩
  refine List.forall_mem_cons.mpr ⟨⟨(trivial), trivial⟩, ?_⟩
  refine List.forall_mem_cons.mpr ⟨⟨(trivial), trivial⟩, ?_⟩
  refine List.forall_mem_cons.mpr ⟨⟨(trivial), trivial⟩, ?_⟩
  refine List.forall_mem_cons.mpr ⟨⟨(trivial), trivial⟩, ?_⟩
  refine List.forall_mem_cons.mpr ⟨⟨(show (2 : Nat) < mj_maxL 132 by decide), trivial⟩, ?_⟩
  refine List.forall_mem_cons.mpr ⟨⟨(show (0 : Int) ≤ ((161 : Nat) : Int) + (-19) by decide), trivial⟩, ?_⟩
  refine List.forall_mem_cons.mpr ⟨⟨(trivial), trivial⟩, ?_⟩
  exact fun _ h => absurd h List.not_mem_nil
theorem mjd_132 : mj_ckd 132 = true := by decide +kernel
theorem mjg_132 : mj_good 132 := mj_goodOf (fun _ => ⟨mj_G, rfl⟩) (by decide +kernel) mjd_132 mje_132
theorem mje_133 : ∀ e ∈ mj_tb133, mj_lk 133 e.1 e.2.1 e.2.2.1 e.2.2.2 ∧ mj_cok 133 e.2.1 e.2.2.1 e.2.2.2 := by
  unfold mj_tb133
  refine List.forall_mem_cons.mpr ⟨⟨(trivial), trivial⟩, ?_⟩
  refine List.forall_mem_cons.mpr ⟨⟨(mj_lkG (by decide) rfl (by decide) mj_inU10 mjf_10_230), trivial⟩, ?_⟩
  refine List.forall_mem_cons.mpr ⟨⟨(trivial), trivial⟩, ?_⟩
  refine List.forall_mem_cons.mpr ⟨⟨(trivial), trivial⟩, ?_⟩
  refine List.forall_mem_cons.mpr ⟨⟨(show (4 : Nat) < mj_maxL 133 by decide), trivial⟩, ?_⟩
  refine List.forall_mem_cons.mpr ⟨⟨(trivial), trivial⟩, ?_⟩
  refine List.forall_mem_cons.mpr ⟨⟨(mj_lkG (by decide) rfl (by decide) mj_inU10 mjf_10_126), trivial⟩, ?_⟩
  refine List.forall_mem_cons.mpr ⟨⟨(trivial), trivial⟩, ?_⟩
  refine List.forall_mem_cons.mpr ⟨⟨(trivial), trivial⟩, ?_⟩
  refine List.forall_mem_cons.mpr ⟨⟨(trivial), trivial⟩, ?_⟩
  refine List.forall_mem_cons.mpr ⟨⟨(trivial), trivial⟩, ?_⟩
  refine List.forall_mem_cons.mpr ⟨⟨(mj_lkG (by decide) rfl (by decide) mj_inU10 mjf_10_129), trivial⟩, ?_⟩
  refine List.forall_mem_cons.mpr ⟨⟨(trivial), trivial⟩, ?_⟩
  refine List.forall_mem_cons.mpr ⟨⟨(trivial), trivial⟩, ?_⟩
  refine List.forall_mem_cons.mpr ⟨⟨(trivial), trivial⟩, ?_⟩
  refine List.forall_mem_cons.mpr ⟨⟨(trivial), trivial⟩, ?_⟩
  refine List.forall_mem_cons.mpr ⟨⟨(mj_lkG (by decide) rfl (by decide) mj_inU10 mjf_10_132), trivial⟩, ?_⟩
  refine List.forall_mem_cons.mpr ⟨⟨(trivial), trivial⟩, ?_⟩
  refine List.forall_mem_cons.mpr ⟨⟨(trivial), trivial⟩, ?_⟩
  refine List.forall_mem_cons.mpr ⟨⟨(mj_lkG (by decide) rfl (by decide) mj_inU10 mjf_10_209), trivial⟩, ?_⟩
  refine List.forall_mem_cons.mpr ⟨⟨(trivial), trivial⟩, ?_⟩
  refine List.forall_mem_cons.mpr ⟨⟨(trivial), trivial⟩, ?_⟩
  refine List.forall_mem_cons.mpr ⟨⟨(mj_lkG (by decide) rfl (by decide) mj_inU10 mjf_10_135), trivial⟩, ?_⟩
  refine List.forall_mem_cons.mpr ⟨⟨(trivial), trivial⟩, ?_⟩
  refine List.forall_mem_cons.mpr ⟨⟨(trivial), trivial⟩, ?_⟩
  refine List.forall_mem_cons.mpr ⟨⟨(trivial), trivial⟩, ?_⟩
  refine List.forall_mem_cons.mpr ⟨⟨(trivial), trivial⟩, ?_⟩
  refine List.forall_mem_cons.mpr ⟨⟨(trivial), trivial⟩, ?_⟩
  refine List.forall_mem_cons.mpr ⟨⟨(mj_lkG (by decide) rfl (by decide) mj_inU10 mjf_10_230), trivial⟩, ?_⟩
  refine List.forall_mem_cons.mpr ⟨⟨(trivial), trivial⟩, ?_⟩
  refine List.forall_mem_cons.mpr ⟨⟨(trivial), trivial⟩, ?_⟩
  refine List.forall_mem_cons.mpr ⟨⟨(mj_lkP (by decide) rfl (by decide) mj_inU10 mjf_10_230 mj_TyOk10 mj_Nm10 (Or.inl rfl) rfl), trivial⟩, ?_⟩
  refine List.forall_mem_cons.mpr ⟨⟨(trivial), trivial⟩, ?_⟩
  exact fun _ h => absurd h List.not_mem_nil
theorem mjd_133 : mj_ckd 133 = true := by decide +kernel
theorem mjg_133 : mj_good 133 := mj_goodOf (fun _ => ⟨mj_G, rfl⟩) (by decide +kernel) mjd_133 mje_133
theorem mje_134 : ∀ e ∈ mj_tb134, mj_lk 134 e.1 e.2.1 e.2.2.1 e.2.2.2 ∧ mj_cok 134 e.2.1 e.2.2.1 e.2.2.2 := by
  unfold mj_tb134
  refine List.forall_mem_cons.mpr ⟨⟨(trivial), trivial⟩, ?_⟩
  refine List.forall_mem_cons.mpr ⟨⟨(show (1 : Nat) < mj_maxL 134 by decide), trivial⟩, ?_⟩
  refine List.forall_mem_cons.mpr ⟨⟨(trivial), trivial⟩, ?_⟩
  refine List.forall_mem_cons.mpr ⟨⟨(show (2 : Nat) < mj_maxL 134 by decide), trivial⟩, ?_⟩
  refine List.forall_mem_cons.mpr ⟨⟨(trivial), trivial⟩, ?_⟩
  refine List.forall_mem_cons.mpr ⟨⟨(trivial), trivial⟩, ?_⟩
  refine List.forall_mem_cons.mpr ⟨⟨(mj_lkG (by decide) rfl (by decide) mj_inU10 mjf_10_138), trivial⟩, ?_⟩
  refine List.forall_mem_cons.mpr ⟨⟨(show (0 : Int) ≤ ((9 : Nat) : Int) + 76 by decide), trivial⟩, ?_⟩
  refine List.forall_mem_cons.mpr ⟨⟨(trivial), trivial⟩, ?_⟩
  refine List.forall_mem_cons.mpr ⟨⟨(mj_lkG (by decide) rfl (by decide) mj_inU10 mjf_10_65), trivial⟩, ?_⟩
  refine List.forall_mem_cons.mpr ⟨⟨(trivial), trivial⟩, ?_⟩
  refine List.forall_mem_cons.mpr ⟨⟨(trivial), trivial⟩, ?_⟩
  refine List.forall_mem_cons.mpr ⟨⟨(show (0 : Int) ≤ ((18 : Nat) : Int) + 61 by decide), trivial⟩, ?_⟩
  refine List.forall_mem_cons.mpr ⟨⟨(trivial), trivial⟩, ?_⟩
  refine List.forall_mem_cons.mpr ⟨⟨(trivial), trivial⟩, ?_⟩
  refine List.forall_mem_cons.mpr ⟨⟨(trivial), mj_ckOf mjK_135 (by decide) (mj_lnkG mjl_10_237)⟩, ?_⟩
  refine List.forall_mem_cons.mpr ⟨⟨(show (3 : Nat) < mj_maxL 134 by decide), trivial⟩, ?_⟩
  refine List.forall_mem_cons.mpr ⟨⟨(trivial), trivial⟩, ?_⟩
  refine List.forall_mem_cons.mpr ⟨⟨(show (0 : Int) ≤ ((28 : Nat) : Int) + 8 by decide), trivial⟩, ?_⟩
  refine List.forall_mem_cons.mpr ⟨⟨(trivial), trivial⟩, ?_⟩
  refine List.forall_mem_cons.mpr ⟨⟨(show (0 : Int) ≤ ((33 : Nat) : Int) + 8 by decide), trivial⟩, ?_⟩
  refine List.forall_mem_cons.mpr ⟨⟨(trivial), trivial⟩, ?_⟩
  refine List.forall_mem_cons.mpr ⟨⟨(trivial), trivial⟩, ?_⟩
  refine List.forall_mem_cons.mpr ⟨⟨(trivial), mj_ckOf mjK_135 (by decide) (mj_lnkG mjl_10_237)⟩, ?_⟩
  refine List.forall_mem_cons.mpr ⟨⟨(show (4 : Nat) < mj_maxL 134 by decide), trivial⟩, ?_⟩
  refine List.forall_mem_cons.mpr ⟨⟨(trivial), trivial⟩, ?_⟩
  refine List.forall_mem_cons.mpr ⟨⟨(trivial), trivial⟩, ?_⟩
  refine List.forall_mem_cons.mpr ⟨⟨(show (0 : Int) ≤ ((46 : Nat) : Int) + 27 by decide), trivial⟩, ?_⟩
  refine List.forall_mem_cons.mpr ⟨⟨(trivial), trivial⟩, ?_⟩
  refine List.forall_mem_cons.mpr ⟨⟨(trivial), trivial⟩, ?_⟩
  refine List.forall_mem_cons.mpr ⟨⟨(show (0 : Int) ≤ ((52 : Nat) : Int) + 25 by decide), trivial⟩, ?_⟩
  refine List.forall_mem_cons.mpr ⟨⟨(trivial), trivial⟩, ?_⟩
  refine List.forall_mem_cons.mpr ⟨⟨(mj_lkG (by decide) rfl (by decide) mj_inU10 mjf_10_69), trivial⟩, ?_⟩
  refine List.forall_mem_cons.mpr ⟨⟨(trivial), trivial⟩, ?_⟩
  refine List.forall_mem_cons.mpr ⟨⟨(trivial), trivial⟩, ?_⟩
  refine List.forall_mem_cons.mpr ⟨⟨(show (0 : Int) ≤ ((61 : Nat) : Int) + 16 by decide), trivial⟩, ?_⟩
  refine List.forall_mem_cons.mpr ⟨⟨(trivial), trivial⟩, ?_⟩
  refine List.forall_mem_cons.mpr ⟨⟨(mj_lkG (by decide) rfl (by decide) mj_inU10 mjf_10_69), trivial⟩, ?_⟩
  refine List.forall_mem_cons.mpr ⟨⟨(trivial), trivial⟩, ?_⟩
  refine List.forall_mem_cons.mpr ⟨⟨(trivial), trivial⟩, ?_⟩
  refine List.forall_mem_cons.mpr ⟨⟨(show (0 : Int) ≤ ((70 : Nat) : Int) + 7 by decide), trivial⟩, ?_⟩
  refine List.forall_mem_cons.mpr ⟨⟨(trivial), trivial⟩, ?_⟩
  refine List.forall_mem_cons.mpr ⟨⟨(show (0 : Int) ≤ ((74 : Nat) : Int) + 4 by decide), trivial⟩, ?_⟩
  refine List.forall_mem_cons.mpr ⟨⟨(trivial), trivial⟩, ?_⟩
  refine List.forall_mem_cons.mpr ⟨⟨(show (1 : Nat) < mj_maxL 134 by decide), trivial⟩, ?_⟩
  refine List.forall_mem_cons.mpr ⟨⟨(show (2 : Nat) < mj_maxL 134 by decide), trivial⟩, ?_⟩
  refine List.forall_mem_cons.mpr ⟨⟨(show (0 : Int) ≤ ((82 : Nat) : Int) + (-78) by decide), trivial⟩, ?_⟩
  refine List.forall_mem_cons.mpr ⟨⟨(trivial), trivial⟩, ?_⟩
  refine List.forall_mem_cons.mpr ⟨⟨(trivial), trivial⟩, ?_⟩
  exact fun _ h => absurd h List.not_mem_nil
theorem mjd_134 : mj_ckd 134 = true := by decide +kernel
theorem mjg_134 : mj_good 134 := mj_goodOf (fun _ => ⟨mj_G, rfl⟩) (by decide +kernel) mjd_134 mje_134
theorem mje_135 : ∀ e ∈ mj_tb135, mj_lk 135 e.1 e.2.1 e.2.2.1 e.2.2.2 ∧ mj_cok 135 e.2.1 e.2.2.1 e.2.2.2 := by
  unfold mj_tb135
  refine List.forall_mem_cons.mpr ⟨⟨(trivial), trivial⟩, ?_⟩
  refine List.forall_mem_cons.mpr ⟨⟨(show (2 : Nat) < mj_maxL 135 by decide), trivial⟩, ?_⟩
  refine List.forall_mem_cons.mpr ⟨⟨(trivial), trivial⟩, ?_⟩
  refine List.forall_mem_cons.mpr ⟨⟨(show (3 : Nat) < mj_maxL 135 by decide), trivial⟩, ?_⟩
  refine List.forall_mem_cons.mpr ⟨⟨(trivial), trivial⟩, ?_⟩
  refine List.forall_mem_cons.mpr ⟨⟨(trivial), trivial⟩, ?_⟩
  refine List.forall_mem_cons.mpr ⟨⟨(show (0 : Int) ≤ ((6 : Nat) : Int) + 44 by decide), trivial⟩, ?_⟩
  refine List.forall_mem_cons.mpr ⟨⟨(trivial), trivial⟩, ?_⟩
  refine List.forall_mem_cons.mpr ⟨⟨(mj_lkG (by decide) rfl (by decide) mj_inU10 mjf_10_84), trivial⟩, ?_⟩
  refine List.forall_mem_cons.mpr ⟨⟨(trivial), trivial⟩, ?_⟩
  refine List.forall_mem_cons.mpr ⟨⟨(trivial), trivial⟩, ?_⟩
  refine List.forall_mem_cons.mpr ⟨⟨(trivial), trivial⟩, ?_⟩
  refine List.forall_mem_cons.mpr ⟨⟨(trivial), trivial⟩, ?_⟩
  refine List.forall_mem_cons.mpr ⟨⟨(trivial), trivial⟩, ?_⟩
  refine List.forall_mem_cons.mpr ⟨⟨(trivial), trivial⟩, ?_⟩
  refine List.forall_mem_cons.mpr ⟨⟨(trivial), trivial⟩, ?_⟩
  refine List.forall_mem_cons.mpr ⟨⟨(show (0 : Int) ≤ ((20 : Nat) : Int) + 22 by decide), trivial⟩, ?_⟩
  refine List.forall_mem_cons.mpr ⟨⟨(trivial), trivial⟩, ?_⟩
  refine List.forall_mem_cons.mpr ⟨⟨(mj_lkG (by decide) rfl (by decide) mj_inU10 mjf_10_62), trivial⟩, ?_⟩
  refine List.forall_mem_cons.mpr ⟨⟨(trivial), trivial⟩, ?_⟩
  refine List.forall_mem_cons.mpr ⟨⟨(trivial), trivial⟩, ?_⟩
  refine List.forall_mem_cons.mpr ⟨⟨(trivial), trivial⟩, ?_⟩
  refine List.forall_mem_cons.mpr ⟨⟨(show (0 : Int) ≤ ((30 : Nat) : Int) + 12 by decide), trivial⟩, ?_⟩
  refine List.forall_mem_cons.mpr ⟨⟨(trivial), trivial⟩, ?_⟩
  refine List.forall_mem_cons.mpr ⟨⟨(mj_lkG (by decide) rfl (by decide) mj_inU10 mjf_10_62), trivial⟩, ?_⟩
  refine List.forall_mem_cons.mpr ⟨⟨(trivial), trivial⟩, ?_⟩
  refine List.forall_mem_cons.mpr ⟨⟨(trivial), trivial⟩, ?_⟩
  refine List.forall_mem_cons.mpr ⟨⟨(show (0 : Int) ≤ ((39 : Nat) : Int) + 4 by decide), trivial⟩, ?_⟩
  refine List.forall_mem_cons.mpr ⟨⟨(trivial), trivial⟩, ?_⟩
  refine List.forall_mem_cons.mpr ⟨⟨(show (2 : Nat) < mj_maxL 135 by decide), trivial⟩, ?_⟩
  refine List.forall_mem_cons.mpr ⟨⟨(show (3 : Nat) < mj_maxL 135 by decide), trivial⟩, ?_⟩
  refine List.forall_mem_cons.mpr ⟨⟨(show (0 : Int) ≤ ((47 : Nat) : Int) + (-43) by decide), trivial⟩, ?_⟩
  refine List.forall_mem_cons.mpr ⟨⟨(trivial), trivial⟩, ?_⟩
  refine List.forall_mem_cons.mpr ⟨⟨(trivial), trivial⟩, ?_⟩
  exact fun _ h => absurd h List.not_mem_nil
theorem mjd_135 : mj_ckd 135 = true := by decide +kernel
theorem mjg_135 : mj_good 135 := mj_goodOf (fun _ => ⟨mj_G, rfl⟩) (by decide +kernel) mjd_135 mje_135
theorem mje_136 : ∀ e ∈ mj_tb136, mj_lk 136 e.1 e.2.1 e.2.2.1 e.2.2.2 ∧ mj_cok 136 e.2.1 e.2.2.1 e.2.2.2 := by
  unfold mj_tb136
  refine List.forall_mem_cons.mpr ⟨⟨(trivial), trivial⟩, ?_⟩
  refine List.forall_mem_cons.mpr ⟨⟨(mj_lkG (by decide) rfl (by decide) mj_inU10 mjf_10_23), trivial⟩, ?_⟩
  refine List.forall_mem_cons.mpr ⟨⟨(trivial), trivial⟩, ?_⟩
  refine List.forall_mem_cons.mpr ⟨⟨(trivial), trivial⟩, ?_⟩
  refine List.forall_mem_cons.mpr ⟨⟨(show (3 : Nat) < mj_maxL 136 by decide), trivial⟩, ?_⟩
  refine List.forall_mem_cons.mpr ⟨⟨(trivial), trivial⟩, ?_⟩
  refine List.forall_mem_cons.mpr ⟨⟨(mj_lkG (by decide) rfl (by decide) mj_inU10 mjf_10_29), trivial⟩, ?_⟩
  refine List.forall_mem_cons.mpr ⟨⟨(trivial), trivial⟩, ?_⟩
  refine List.forall_mem_cons.mpr ⟨⟨(trivial), trivial⟩, ?_⟩
  refine List.forall_mem_cons.mpr ⟨⟨(show (4 : Nat) < mj_maxL 136 by decide), trivial⟩, ?_⟩
  refine List.forall_mem_cons.mpr ⟨⟨(trivial), trivial⟩, ?_⟩
  refine List.forall_mem_cons.mpr ⟨⟨(trivial), trivial⟩, ?_⟩
  refine List.forall_mem_cons.mpr ⟨⟨(trivial), trivial⟩, ?_⟩
  refine List.forall_mem_cons.mpr ⟨⟨(trivial), trivial⟩, ?_⟩
  refine List.forall_mem_cons.mpr ⟨⟨(mj_lkG (by decide) rfl (by decide) mj_inU10 mjf_10_26), trivial⟩, ?_⟩
  refine List.forall_mem_cons.mpr ⟨⟨(trivial), trivial⟩, ?_⟩
  refine List.forall_mem_cons.mpr ⟨⟨(trivial), trivial⟩, ?_⟩
  refine List.forall_mem_cons.mpr ⟨⟨(trivial), trivial⟩, ?_⟩
  refine List.forall_mem_cons.mpr ⟨⟨(show (5 : Nat) < mj_maxL 136 by decide), trivial⟩, ?_⟩
  refine List.forall_mem_cons.mpr ⟨⟨(trivial), trivial⟩, ?_⟩
  refine List.forall_mem_cons.mpr ⟨⟨(mj_lkG (by decide) rfl (by decide) mj_inU10 mjf_10_81), trivial⟩, ?_⟩
  refine List.forall_mem_cons.mpr ⟨⟨(trivial), trivial⟩, ?_⟩
  refine List.forall_mem_cons.mpr ⟨⟨(trivial), trivial⟩, ?_⟩
  refine List.forall_mem_cons.mpr ⟨⟨(trivial), trivial⟩, ?_⟩
  refine List.forall_mem_cons.mpr ⟨⟨(trivial), trivial⟩, ?_⟩
  refine List.forall_mem_cons.mpr ⟨⟨(trivial), trivial⟩, ?_⟩
  refine List.forall_mem_cons.mpr ⟨⟨(trivial), trivial⟩, ?_⟩
  refine List.forall_mem_cons.mpr ⟨⟨(trivial), trivial⟩, ?_⟩
  refine List.forall_mem_cons.mpr ⟨⟨(mj_lkG (by decide) rfl (by decide) mj_inU10 mjf_10_90), trivial⟩, ?_⟩
  refine List.forall_mem_cons.mpr ⟨⟨(trivial), trivial⟩, ?_⟩
  refine List.forall_mem_cons.mpr ⟨⟨(trivial), trivial⟩, ?_⟩
  refine List.forall_mem_cons.mpr ⟨⟨(trivial), trivial⟩, ?_⟩
  refine List.forall_mem_cons.mpr ⟨⟨(trivial), trivial⟩, ?_⟩
  refine List.forall_mem_cons.mpr ⟨⟨(trivial), trivial⟩, ?_⟩
  refine List.forall_mem_cons.mpr ⟨⟨(trivial), trivial⟩, ?_⟩
  refine List.forall_mem_cons.mpr ⟨⟨(trivial), trivial⟩, ?_⟩
  refine List.forall_mem_cons.mpr ⟨⟨(trivial), trivial⟩, ?_⟩
  refine List.forall_mem_cons.mpr ⟨⟨(show (0 : Int) ≤ ((49 : Nat) : Int) + 24 by decide), trivial⟩, ?_⟩
  refine List.forall_mem_cons.mpr ⟨⟨(trivial), trivial⟩, ?_⟩
  refine List.forall_mem_cons.mpr ⟨⟨(mj_lkG (by decide) rfl (by decide) mj_inU10 mjf_10_102), trivial⟩, ?_⟩
  refine List.forall_mem_cons.mpr ⟨⟨(trivial), trivial⟩, ?_⟩
  refine List.forall_mem_cons.mpr ⟨⟨(trivial), trivial⟩, ?_⟩
  refine List.forall_mem_cons.mpr ⟨⟨(trivial), trivial⟩, ?_⟩
  refine List.forall_mem_cons.mpr ⟨⟨(trivial), trivial⟩, ?_⟩
  refine List.forall_mem_cons.mpr ⟨⟨(trivial), trivial⟩, ?_⟩
  refine List.forall_mem_cons.mpr ⟨⟨(trivial), trivial⟩, ?_⟩
  refine List.forall_mem_cons.mpr ⟨⟨(show (0 : Int) ≤ ((63 : Nat) : Int) + 10 by decide), trivial⟩, ?_⟩
  refine List.forall_mem_cons.mpr ⟨⟨(trivial), trivial⟩, ?_⟩
  refine List.forall_mem_cons.mpr ⟨⟨(trivial), trivial⟩, ?_⟩
  refine List.forall_mem_cons.mpr ⟨⟨(trivial), trivial⟩, ?_⟩
  refine List.forall_mem_cons.mpr ⟨⟨(trivial), mj_ckOf mjK_137 (by decide) (mj_lnkG mjl_10_250)⟩, ?_⟩
  refine List.forall_mem_cons.mpr ⟨⟨(trivial), trivial⟩, ?_⟩
  refine List.forall_mem_cons.mpr ⟨⟨(trivial), trivial⟩, ?_⟩
  refine List.forall_mem_cons.mpr ⟨⟨(trivial), trivial⟩, ?_⟩
  refine List.forall_mem_cons.mpr ⟨⟨(show (0 : Int) ≤ ((75 : Nat) : Int) + 15 by decide), trivial⟩, ?_⟩
  refine List.forall_mem_cons.mpr ⟨⟨(trivial), trivial⟩, ?_⟩
  refine List.forall_mem_cons.mpr ⟨⟨(trivial), trivial⟩, ?_⟩
  refine List.forall_mem_cons.mpr ⟨⟨(show (0 : Int) ≤ ((81 : Nat) : Int) + 9 by decide), trivial⟩, ?_⟩
  refine List.forall_mem_cons.mpr ⟨⟨(trivial), trivial⟩, ?_⟩
  refine List.forall_mem_cons.mpr ⟨⟨(trivial), trivial⟩, ?_⟩
  refine List.forall_mem_cons.mpr ⟨⟨(show (0 : Int) ≤ ((87 : Nat) : Int) + 16 by decide), trivial⟩, ?_⟩
  refine List.forall_mem_cons.mpr ⟨⟨(trivial), trivial⟩, ?_⟩
  refine List.forall_mem_cons.mpr ⟨⟨(trivial), trivial⟩, ?_⟩
  refine List.forall_mem_cons.mpr ⟨⟨(trivial), trivial⟩, ?_⟩
  refine List.forall_mem_cons.mpr ⟨⟨(trivial), trivial⟩, ?_⟩
  refine List.forall_mem_cons.mpr ⟨⟨(trivial), trivial⟩, ?_⟩
  refine List.forall_mem_cons.mpr ⟨⟨(trivial), mj_ckOf mjK_138 (by decide) (mj_lnkG mjl_10_253)⟩, ?_⟩
  refine List.forall_mem_cons.mpr ⟨⟨(show (0 : Int) ≤ ((100 : Nat) : Int) + 31 by decide), trivial⟩, ?_⟩
  refine List.forall_mem_cons.mpr ⟨⟨(trivial), trivial⟩, ?_⟩
  refine List.forall_mem_cons.mpr ⟨⟨(trivial), trivial⟩, ?_⟩
  refine List.forall_mem_cons.mpr ⟨⟨(show (0 : Int) ≤ ((106 : Nat) : Int) + 16 by decide), trivial⟩, ?_⟩
  refine List.forall_mem_cons.mpr ⟨⟨(trivial), trivial⟩, ?_⟩
  refine List.forall_mem_cons.mpr ⟨⟨(trivial), trivial⟩, ?_⟩
  refine List.forall_mem_cons.mpr ⟨⟨(trivial), trivial⟩, ?_⟩
  refine List.forall_mem_cons.mpr ⟨⟨(trivial), trivial⟩, ?_⟩
  refine List.forall_mem_cons.mpr ⟨⟨(trivial), trivial⟩, ?_⟩
  refine List.forall_mem_cons.mpr ⟨⟨(trivial), mj_ckOf mjK_139 (by decide) (mj_lnkG mjl_10_257)⟩, ?_⟩
  refine List.forall_mem_cons.mpr ⟨⟨(show (0 : Int) ≤ ((119 : Nat) : Int) + 12 by decide), trivial⟩, ?_⟩
  refine List.forall_mem_cons.mpr ⟨⟨(trivial), trivial⟩, ?_⟩
  refine List.forall_mem_cons.mpr ⟨⟨(trivial), trivial⟩, ?_⟩
  refine List.forall_mem_cons.mpr ⟨⟨(trivial), trivial⟩, ?_⟩
  refine List.forall_mem_cons.mpr ⟨⟨(trivial), trivial⟩, ?_⟩
  refine List.forall_mem_cons.mpr ⟨⟨(trivial), trivial⟩, ?_⟩
  refine List.forall_mem_cons.mpr ⟨⟨(trivial), mj_ckOf mjK_140 (by decide) (mj_lnkG mjl_10_260)⟩, ?_⟩
  refine List.forall_mem_cons.mpr ⟨⟨(trivial), trivial⟩, ?_⟩
  refine List.forall_mem_cons.mpr ⟨⟨(show (6 : Nat) < mj_maxL 136 by decide), trivial⟩, ?_⟩
  refine List.forall_mem_cons.mpr ⟨⟨(trivial), trivial⟩, ?_⟩
  refine List.forall_mem_cons.mpr ⟨⟨(trivial), trivial⟩, ?_⟩
  refine List.forall_mem_cons.mpr ⟨⟨(show (0 : Int) ≤ ((137 : Nat) : Int) + 80 by decide), trivial⟩, ?_⟩
  refine List.forall_mem_cons.mpr ⟨⟨(trivial), trivial⟩, ?_⟩
  refine List.forall_mem_cons.mpr ⟨⟨(mj_lkG (by decide) rfl (by decide) mj_inU10 mjf_10_87), trivial⟩, ?_⟩
  refine List.forall_mem_cons.mpr ⟨⟨(trivial), trivial⟩, ?_⟩
  refine List.forall_mem_cons.mpr ⟨⟨(trivial), trivial⟩, ?_⟩
  refine List.forall_mem_cons.mpr ⟨⟨(show (0 : Int) ≤ ((146 : Nat) : Int) + 71 by decide), trivial⟩, ?_⟩
  refine List.forall_mem_cons.mpr ⟨⟨(trivial), trivial⟩, ?_⟩
  refine List.forall_mem_cons.mpr ⟨⟨(mj_lkG (by decide) rfl (by decide) mj_inU10 mjf_10_90), trivial⟩, ?_⟩
  refine List.forall_mem_cons.mpr ⟨⟨(trivial), trivial⟩, ?_⟩
  refine List.forall_mem_cons.mpr ⟨⟨(trivial), trivial⟩, ?_⟩
  refine List.forall_mem_cons.mpr ⟨⟨(trivial), trivial⟩, ?_⟩
  refine List.forall_mem_cons.mpr ⟨⟨(mj_lkG (by decide) rfl (by decide) mj_inU10 mjf_10_35), trivial⟩, ?_⟩
  refine List.forall_mem_cons.mpr ⟨⟨(trivial), trivial⟩, ?_⟩
  refine List.forall_mem_cons.mpr ⟨⟨(trivial), trivial⟩, ?_⟩
  refine List.forall_mem_cons.mpr ⟨⟨(trivial), trivial⟩, ?_⟩
  refine List.forall_mem_cons.mpr ⟨⟨(trivial), trivial⟩, ?_⟩
  refine List.forall_mem_cons.mpr ⟨⟨(mj_lkG (by decide) rfl (by decide) mj_inU10 mjf_10_87), trivial⟩, ?_⟩
  refine List.forall_mem_cons.mpr ⟨⟨(trivial), trivial⟩, ?_⟩
  refine List.forall_mem_cons.mpr ⟨⟨(trivial), trivial⟩, ?_⟩
  refine List.forall_mem_cons.mpr ⟨⟨(trivial), trivial⟩, ?_⟩
  refine List.forall_mem_cons.mpr ⟨⟨(trivial), trivial⟩, ?_⟩
  refine List.forall_mem_cons.mpr ⟨⟨(show (0 : Int) ≤ ((170 : Nat) : Int) + 47 by decide), trivial⟩, ?_⟩
  refine List.forall_mem_cons.mpr ⟨⟨(trivial), trivial⟩, ?_⟩
  refine List.forall_mem_cons.mpr ⟨⟨(trivial), trivial⟩, ?_⟩
  refine List.forall_mem_cons.mpr ⟨⟨(trivial), trivial⟩, ?_⟩
  refine List.forall_mem_cons.mpr ⟨⟨(trivial), trivial⟩, ?_⟩
  refine List.forall_mem_cons.mpr ⟨⟨(mj_lkG (by decide) rfl (by decide) mj_inU10 mjf_10_87), trivial⟩, ?_⟩
  refine List.forall_mem_cons.mpr ⟨⟨(trivial), trivial⟩, ?_⟩
  refine List.forall_mem_cons.mpr ⟨⟨(trivial), trivial⟩, ?_⟩
  refine List.forall_mem_cons.mpr ⟨⟨(trivial), trivial⟩, ?_⟩
  refine List.forall_mem_cons.mpr ⟨⟨(show (7 : Nat) < mj_maxL 136 by decide), trivial⟩, ?_⟩
  refine List.forall_mem_cons.mpr ⟨⟨(trivial), trivial⟩, ?_⟩
  refine List.forall_mem_cons.mpr ⟨⟨(mj_lkG (by decide) rfl (by decide) mj_inU10 mjf_10_87), trivial⟩, ?_⟩
  refine List.forall_mem_cons.mpr ⟨⟨(trivial), trivial⟩, ?_⟩
  refine List.forall_mem_cons.mpr ⟨⟨(trivial), trivial⟩, ?_⟩
  refine List.forall_mem_cons.mpr ⟨⟨(mj_lkG (by decide) rfl (by decide) mj_inU10 mjf_10_93), trivial⟩, ?_⟩
  refine List.forall_mem_cons.mpr ⟨⟨(trivial), trivial⟩, ?_⟩
  refine List.forall_mem_cons.mpr ⟨⟨(trivial), trivial⟩, ?_⟩
  refine List.forall_mem_cons.mpr ⟨⟨(trivial), trivial⟩, ?_⟩
  refine List.forall_mem_cons.mpr ⟨⟨(trivial), trivial⟩, ?_⟩
  refine List.forall_mem_cons.mpr ⟨⟨(mj_lkG (by decide) rfl (by decide) mj_inU10 mjf_10_90), trivial⟩, ?_⟩
  refine List.forall_mem_cons.mpr ⟨⟨(trivial), trivial⟩, ?_⟩
  refine List.forall_mem_cons.mpr ⟨⟨(trivial), trivial⟩, ?_⟩
  refine List.forall_mem_cons.mpr ⟨⟨(mj_lkG (by decide) rfl (by decide) mj_inU10 mjf_10_96), trivial⟩, ?_⟩
  refine List.forall_mem_cons.mpr ⟨⟨(trivial), trivial⟩, ?_⟩
  refine List.forall_mem_cons.mpr ⟨⟨(trivial), trivial⟩, ?_⟩
  refine List.forall_mem_cons.mpr ⟨⟨(trivial), trivial⟩, ?_⟩
  refine List.forall_mem_cons.mpr ⟨⟨(show (6 : Nat) < mj_maxL 136 by decide), trivial⟩, ?_⟩
  refine List.forall_mem_cons.mpr ⟨⟨(show (0 : Int) ≤ ((214 : Nat) : Int) + (-80) by decide), trivial⟩, ?_⟩
  refine List.forall_mem_cons.mpr ⟨⟨(trivial), trivial⟩, ?_⟩
  refine List.forall_mem_cons.mpr ⟨⟨(mj_lkG (by decide) rfl (by decide) mj_inU10 mjf_10_87), trivial⟩, ?_⟩
  refine List.forall_mem_cons.mpr ⟨⟨(trivial), trivial⟩, ?_⟩
  refine List.forall_mem_cons.mpr ⟨⟨(trivial), trivial⟩, ?_⟩
  refine List.forall_mem_cons.mpr ⟨⟨(show (0 : Int) ≤ ((223 : Nat) : Int) + 26 by decide), trivial⟩, ?_⟩
  refine List.forall_mem_cons.mpr ⟨⟨(trivial), trivial⟩, ?_⟩
  refine List.forall_mem_cons.mpr ⟨⟨(mj_lkG (by decide) rfl (by decide) mj_inU10 mjf_10_90), trivial⟩, ?_⟩
  refine List.forall_mem_cons.mpr ⟨⟨(trivial), trivial⟩, ?_⟩
  refine List.forall_mem_cons.mpr ⟨⟨(trivial), trivial⟩, ?_⟩
  refine List.forall_mem_cons.mpr ⟨⟨(trivial), trivial⟩, ?_⟩
  refine List.forall_mem_cons.mpr ⟨⟨(mj_lkG (by decide) rfl (by decide) mj_inU10 mjf_10_35), trivial⟩, ?_⟩
  refine List.forall_mem_cons.mpr ⟨⟨(trivial), trivial⟩, ?_⟩
  refine List.forall_mem_cons.mpr ⟨⟨(trivial), trivial⟩, ?_⟩
  refine List.forall_mem_cons.mpr ⟨⟨(trivial), trivial⟩, ?_⟩
  refine List.forall_mem_cons.mpr ⟨⟨(trivial), trivial⟩, ?_⟩
  refine List.forall_mem_cons.mpr ⟨⟨(show (0 : Int) ≤ ((240 : Nat) : Int) + 9 by decide), trivial⟩, ?_⟩
  refine List.forall_mem_cons.mpr ⟨⟨(trivial), trivial⟩, ?_⟩
  refine List.forall_mem_cons.mpr ⟨⟨(trivial), trivial⟩, ?_⟩
  refine List.forall_mem_cons.mpr ⟨⟨(trivial), trivial⟩, ?_⟩
  refine List.forall_mem_cons.mpr ⟨⟨(trivial), mj_ckOf mjK_137 (by decide) (mj_lnkG mjl_10_250)⟩, ?_⟩
  refine List.forall_mem_cons.mpr ⟨⟨(trivial), trivial⟩, ?_⟩
  exact fun _ h => absurd h List.not_mem_nil
theorem mjd_136 : mj_ckd 136 = true := by decide +kernel
theorem mjg_136 : mj_good 136 := mj_goodOf (fun _ => ⟨mj_G, rfl⟩) (by decide +kernel) mjd_136 mje_136
theorem mje_137 : ∀ e ∈ mj_tb137, mj_lk 137 e.1 e.2.1 e.2.2.1 e.2.2.2 ∧ mj_cok 137 e.2.1 e.2.2.1 e.2.2.2 := by
  unfold mj_tb137
  refine List.forall_mem_cons.mpr ⟨⟨(trivial), trivial⟩, ?_⟩
  refine List.forall_mem_cons.mpr ⟨⟨(mj_lkG (by decide) rfl (by decide) mj_inU10 mjf_10_209), trivial⟩, ?_⟩
  refine List.forall_mem_cons.mpr ⟨⟨(trivial), trivial⟩, ?_⟩
  refine List.forall_mem_cons.mpr ⟨⟨(mj_lkG (by decide) rfl (by decide) mj_inU10 mjf_10_72), trivial⟩, ?_⟩
  refine List.forall_mem_cons.mpr ⟨⟨(trivial), trivial⟩, ?_⟩
  refine List.forall_mem_cons.mpr ⟨⟨(trivial), trivial⟩, ?_⟩
  refine List.forall_mem_cons.mpr ⟨⟨(trivial), trivial⟩, ?_⟩
  refine List.forall_mem_cons.mpr ⟨⟨(show (3 : Nat) < mj_maxL 137 by decide), trivial⟩, ?_⟩
  refine List.forall_mem_cons.mpr ⟨⟨(trivial), trivial⟩, ?_⟩
  refine List.forall_mem_cons.mpr ⟨⟨(trivial), trivial⟩, ?_⟩
  refine List.forall_mem_cons.mpr ⟨⟨(trivial), trivial⟩, ?_⟩
  refine List.forall_mem_cons.mpr ⟨⟨(trivial), trivial⟩, ?_⟩
  refine List.forall_mem_cons.mpr ⟨⟨(trivial), mj_ckOf mjK_133 (by decide) (mj_lnkG mjl_10_233)⟩, ?_⟩
  refine List.forall_mem_cons.mpr ⟨⟨(trivial), trivial⟩, ?_⟩
  refine List.forall_mem_cons.mpr ⟨⟨(mj_lkG (by decide) rfl (by decide) mj_inU10 mjf_10_65), trivial⟩, ?_⟩
  refine List.forall_mem_cons.mpr ⟨⟨(trivial), trivial⟩, ?_⟩
  refine List.forall_mem_cons.mpr ⟨⟨(trivial), trivial⟩, ?_⟩
  refine List.forall_mem_cons.mpr ⟨⟨(trivial), trivial⟩, ?_⟩
  refine List.forall_mem_cons.mpr ⟨⟨(trivial), trivial⟩, ?_⟩
  refine List.forall_mem_cons.mpr ⟨⟨(trivial), trivial⟩, ?_⟩
  refine List.forall_mem_cons.mpr ⟨⟨(mj_lkP (by decide) rfl (by decide) mj_inU10 mjf_10_215 mj_TyOk10 mj_Nm10 (Or.inl rfl) rfl), trivial⟩, ?_⟩
  refine List.forall_mem_cons.mpr ⟨⟨(trivial), trivial⟩, ?_⟩
  refine List.forall_mem_cons.mpr ⟨⟨(mj_lkG (by decide) rfl (by decide) mj_inU10 mjf_10_114), trivial⟩, ?_⟩
  refine List.forall_mem_cons.mpr ⟨⟨(trivial), trivial⟩, ?_⟩
  refine List.forall_mem_cons.mpr ⟨⟨(trivial), trivial⟩, ?_⟩
  refine List.forall_mem_cons.mpr ⟨⟨(trivial), trivial⟩, ?_⟩
  refine List.forall_mem_cons.mpr ⟨⟨(mj_lkG (by decide) rfl (by decide) mj_inU10 mjf_10_114), trivial⟩, ?_⟩
  refine List.forall_mem_cons.mpr ⟨⟨(trivial), trivial⟩, ?_⟩
  refine List.forall_mem_cons.mpr ⟨⟨(trivial), trivial⟩, ?_⟩
  refine List.forall_mem_cons.mpr ⟨⟨(show (0 : Int) ≤ ((43 : Nat) : Int) + 7 by decide), trivial⟩, ?_⟩
  refine List.forall_mem_cons.mpr ⟨⟨(trivial), trivial⟩, ?_⟩
  refine List.forall_mem_cons.mpr ⟨⟨(show (0 : Int) ≤ ((47 : Nat) : Int) + 9 by decide), trivial⟩, ?_⟩
  refine List.forall_mem_cons.mpr ⟨⟨(trivial), trivial⟩, ?_⟩
  refine List.forall_mem_cons.mpr ⟨⟨(mj_lkG (by decide) rfl (by decide) mj_inU10 mjf_10_114), trivial⟩, ?_⟩
  refine List.forall_mem_cons.mpr ⟨⟨(trivial), trivial⟩, ?_⟩
  refine List.forall_mem_cons.mpr ⟨⟨(trivial), trivial⟩, ?_⟩
  refine List.forall_mem_cons.mpr ⟨⟨(trivial), trivial⟩, ?_⟩
  refine List.forall_mem_cons.mpr ⟨⟨(trivial), trivial⟩, ?_⟩
  refine List.forall_mem_cons.mpr ⟨⟨(trivial), trivial⟩, ?_⟩
  refine List.forall_mem_cons.mpr ⟨⟨(trivial), trivial⟩, ?_⟩
  refine List.forall_mem_cons.mpr ⟨⟨(mj_lkG (by decide) rfl (by decide) mj_inU10 mjf_10_17), trivial⟩, ?_⟩
  refine List.forall_mem_cons.mpr ⟨⟨(trivial), trivial⟩, ?_⟩
  refine List.forall_mem_cons.mpr ⟨⟨(trivial), trivial⟩, ?_⟩
  refine List.forall_mem_cons.mpr ⟨⟨(show (0 : Int) ≤ ((65 : Nat) : Int) + 12 by decide), trivial⟩, ?_⟩
  refine List.forall_mem_cons.mpr ⟨⟨(trivial), trivial⟩, ?_⟩
  refine List.forall_mem_cons.mpr ⟨⟨(mj_lkG (by decide) rfl (by decide) mj_inU10 mjf_10_221), trivial⟩, ?_⟩
  refine List.forall_mem_cons.mpr ⟨⟨(trivial), trivial⟩, ?_⟩
  refine List.forall_mem_cons.mpr ⟨⟨(trivial), trivial⟩, ?_⟩
  refine List.forall_mem_cons.mpr ⟨⟨(show (0 : Int) ≤ ((74 : Nat) : Int) + 7 by decide), trivial⟩, ?_⟩
  refine List.forall_mem_cons.mpr ⟨⟨(trivial), trivial⟩, ?_⟩
  refine List.forall_mem_cons.mpr ⟨⟨(mj_lkG (by decide) rfl (by decide) mj_inU10 mjf_10_221), trivial⟩, ?_⟩
  refine List.forall_mem_cons.mpr ⟨⟨(mj_lkP (by decide) rfl (by decide) mj_inU10 mjf_10_221 mj_TyOk10 mj_Nm10 (Or.inl rfl) rfl), trivial⟩, ?_⟩
  refine List.forall_mem_cons.mpr ⟨⟨(trivial), trivial⟩, ?_⟩
  exact fun _ h => absurd h List.not_mem_nil
theorem mjd_137 : mj_ckd 137 = true := by decide +kernel
theorem mjg_137 : mj_good 137 := mj_goodOf (fun _ => ⟨mj_G, rfl⟩) (by decide +kernel) mjd_137 mje_137
theorem mje_138 : ∀ e ∈ mj_tb138, mj_lk 138 e.1 e.2.1 e.2.2.1 e.2.2.2 ∧ mj_cok 138 e.2.1 e.2.2.1 e.2.2.2 := by
  unfold mj_tb138
  refine List.forall_mem_cons.mpr ⟨⟨(trivial), trivial⟩, ?_⟩
  refine List.forall_mem_cons.mpr ⟨⟨(trivial), trivial⟩, ?_⟩
  refine List.forall_mem_cons.mpr ⟨⟨(show (0 : Int) ≤ ((2 : Nat) : Int) + 24 by decide), trivial⟩, ?_⟩
  refine List.forall_mem_cons.mpr ⟨⟨(trivial), trivial⟩, ?_⟩
  refine List.forall_mem_cons.mpr ⟨⟨(mj_lkG (by decide) rfl (by decide) mj_inU10 mjf_10_105), trivial⟩, ?_⟩
  refine List.forall_mem_cons.mpr ⟨⟨(trivial), trivial⟩, ?_⟩
  refine List.forall_mem_cons.mpr ⟨⟨(trivial), trivial⟩, ?_⟩
  refine List.forall_mem_cons.mpr ⟨⟨(trivial), trivial⟩, ?_⟩
  refine List.forall_mem_cons.mpr ⟨⟨(trivial), trivial⟩, ?_⟩
  refine List.forall_mem_cons.mpr ⟨⟨(trivial), trivial⟩, ?_⟩
  refine List.forall_mem_cons.mpr ⟨⟨(trivial), trivial⟩, ?_⟩
  refine List.forall_mem_cons.mpr ⟨⟨(mj_lkG (by decide) rfl (by decide) mj_inU10 mjf_10_102), trivial⟩, ?_⟩
  refine List.forall_mem_cons.mpr ⟨⟨(trivial), trivial⟩, ?_⟩
  refine List.forall_mem_cons.mpr ⟨⟨(trivial), trivial⟩, ?_⟩
  refine List.forall_mem_cons.mpr ⟨⟨(trivial), trivial⟩, ?_⟩
  refine List.forall_mem_cons.mpr ⟨⟨(show (0 : Int) ≤ ((23 : Nat) : Int) + 137 by decide), trivial⟩, ?_⟩
  refine List.forall_mem_cons.mpr ⟨⟨(trivial), trivial⟩, ?_⟩
  refine List.forall_mem_cons.mpr ⟨⟨(trivial), trivial⟩, ?_⟩
  refine List.forall_mem_cons.mpr ⟨⟨(show (0 : Int) ≤ ((29 : Nat) : Int) + 18 by decide), trivial⟩, ?_⟩
  refine List.forall_mem_cons.mpr ⟨⟨(trivial), trivial⟩, ?_⟩
  refine List.forall_mem_cons.mpr ⟨⟨(trivial), trivial⟩, ?_⟩
  refine List.forall_mem_cons.mpr ⟨⟨(trivial), trivial⟩, ?_⟩
  refine List.forall_mem_cons.mpr ⟨⟨(trivial), trivial⟩, ?_⟩
  refine List.forall_mem_cons.mpr ⟨⟨(mj_lkG (by decide) rfl (by decide) mj_inU10 mjf_10_102), trivial⟩, ?_⟩
  refine List.forall_mem_cons.mpr ⟨⟨(trivial), trivial⟩, ?_⟩
  refine List.forall_mem_cons.mpr ⟨⟨(trivial), trivial⟩, ?_⟩
  refine List.forall_mem_cons.mpr ⟨⟨(trivial), mj_ckOf mjK_133 (by decide) (mj_lnkG mjl_10_233)⟩, ?_⟩
  refine List.forall_mem_cons.mpr ⟨⟨(show (0 : Int) ≤ ((44 : Nat) : Int) + 116 by decide), trivial⟩, ?_⟩
  refine List.forall_mem_cons.mpr ⟨⟨(trivial), trivial⟩, ?_⟩
  refine List.forall_mem_cons.mpr ⟨⟨(show (0 : Int) ≤ ((48 : Nat) : Int) + 14 by decide), trivial⟩, ?_⟩
  refine List.forall_mem_cons.mpr ⟨⟨(trivial), trivial⟩, ?_⟩
  refine List.forall_mem_cons.mpr ⟨⟨(mj_lkG (by decide) rfl (by decide) mj_inU10 mjf_10_102), trivial⟩, ?_⟩
  refine List.forall_mem_cons.mpr ⟨⟨(trivial), trivial⟩, ?_⟩
  refine List.forall_mem_cons.mpr ⟨⟨(trivial), trivial⟩, ?_⟩
  refine List.forall_mem_cons.mpr ⟨⟨(trivial), trivial⟩, ?_⟩
  refine List.forall_mem_cons.mpr ⟨⟨(show (0 : Int) ≤ ((59 : Nat) : Int) + 101 by decide), trivial⟩, ?_⟩
  refine List.forall_mem_cons.mpr ⟨⟨(trivial), trivial⟩, ?_⟩
  refine List.forall_mem_cons.mpr ⟨⟨(trivial), trivial⟩, ?_⟩
  refine List.forall_mem_cons.mpr ⟨⟨(show (0 : Int) ≤ ((65 : Nat) : Int) + 19 by decide), trivial⟩, ?_⟩
  refine List.forall_mem_cons.mpr ⟨⟨(trivial), trivial⟩, ?_⟩
  refine List.forall_mem_cons.mpr ⟨⟨(mj_lkG (by decide) rfl (by decide) mj_inU10 mjf_10_102), trivial⟩, ?_⟩
  refine List.forall_mem_cons.mpr ⟨⟨(trivial), trivial⟩, ?_⟩
  refine List.forall_mem_cons.mpr ⟨⟨(trivial), trivial⟩, ?_⟩
  refine List.forall_mem_cons.mpr ⟨⟨(mj_lkG (by decide) rfl (by decide) mj_inU10 mjf_10_117), trivial⟩, ?_⟩
  refine List.forall_mem_cons.mpr ⟨⟨(trivial), trivial⟩, ?_⟩
  refine List.forall_mem_cons.mpr ⟨⟨(trivial), trivial⟩, ?_⟩
  refine List.forall_mem_cons.mpr ⟨⟨(trivial), trivial⟩, ?_⟩
  refine List.forall_mem_cons.mpr ⟨⟨(show (0 : Int) ≤ ((81 : Nat) : Int) + 79 by decide), trivial⟩, ?_⟩
  refine List.forall_mem_cons.mpr ⟨⟨(trivial), trivial⟩, ?_⟩
  refine List.forall_mem_cons.mpr ⟨⟨(trivial), trivial⟩, ?_⟩
  refine List.forall_mem_cons.mpr ⟨⟨(show (0 : Int) ≤ ((86 : Nat) : Int) + 24 by decide), trivial⟩, ?_⟩
  refine List.forall_mem_cons.mpr ⟨⟨(trivial), trivial⟩, ?_⟩
  refine List.forall_mem_cons.mpr ⟨⟨(mj_lkG (by decide) rfl (by decide) mj_inU10 mjf_10_102), trivial⟩, ?_⟩
  refine List.forall_mem_cons.mpr ⟨⟨(trivial), trivial⟩, ?_⟩
  refine List.forall_mem_cons.mpr ⟨⟨(trivial), trivial⟩, ?_⟩
  refine List.forall_mem_cons.mpr ⟨⟨(mj_lkG (by decide) rfl (by decide) mj_inU10 mjf_10_105), trivial⟩, ?_⟩
  refine List.forall_mem_cons.mpr ⟨⟨(trivial), trivial⟩, ?_⟩
  refine List.forall_mem_cons.mpr ⟨⟨(trivial), trivial⟩, ?_⟩
  refine List.forall_mem_cons.mpr ⟨⟨(trivial), trivial⟩, ?_⟩
  refine List.forall_mem_cons.mpr ⟨⟨(trivial), trivial⟩, ?_⟩
  refine List.forall_mem_cons.mpr ⟨⟨(trivial), trivial⟩, ?_⟩
  refine List.forall_mem_cons.mpr ⟨⟨(trivial), trivial⟩, ?_⟩
  refine List.forall_mem_cons.mpr ⟨⟨(trivial), trivial⟩, ?_⟩
  refine List.forall_mem_cons.mpr ⟨⟨(show (0 : Int) ≤ ((107 : Nat) : Int) + 53 by decide), trivial⟩, ?_⟩
  refine List.forall_mem_cons.mpr ⟨⟨(trivial), trivial⟩, ?_⟩
  refine List.forall_mem_cons.mpr ⟨⟨(mj_lkG (by decide) rfl (by decide) mj_inU10 mjf_10_102), trivial⟩, ?_⟩
  refine List.forall_mem_cons.mpr ⟨⟨(trivial), trivial⟩, ?_⟩
  refine List.forall_mem_cons.mpr ⟨⟨(trivial), trivial⟩, ?_⟩
  refine List.forall_mem_cons.mpr ⟨⟨(trivial), trivial⟩, ?_⟩
  refine List.forall_mem_cons.mpr ⟨⟨(show (0 : Int) ≤ ((117 : Nat) : Int) + 24 by decide), trivial⟩, ?_⟩
  refine List.forall_mem_cons.mpr ⟨⟨(trivial), trivial⟩, ?_⟩
  refine List.forall_mem_cons.mpr ⟨⟨(mj_lkG (by decide) rfl (by decide) mj_inU10 mjf_10_102), trivial⟩, ?_⟩
  refine List.forall_mem_cons.mpr ⟨⟨(trivial), trivial⟩, ?_⟩
  refine List.forall_mem_cons.mpr ⟨⟨(trivial), trivial⟩, ?_⟩
  refine List.forall_mem_cons.mpr ⟨⟨(trivial), trivial⟩, ?_⟩
  refine List.forall_mem_cons.mpr ⟨⟨(mj_lkG (by decide) rfl (by decide) mj_inU10 mjf_10_102), trivial⟩, ?_⟩
  refine List.forall_mem_cons.mpr ⟨⟨(trivial), trivial⟩, ?_⟩
  refine List.forall_mem_cons.mpr ⟨⟨(trivial), trivial⟩, ?_⟩
  refine List.forall_mem_cons.mpr ⟨⟨(trivial), trivial⟩, ?_⟩
  refine List.forall_mem_cons.mpr ⟨⟨(trivial), trivial⟩, ?_⟩
  refine List.forall_mem_cons.mpr ⟨⟨(trivial), trivial⟩, ?_⟩
  refine List.forall_mem_cons.mpr ⟨⟨(trivial), trivial⟩, ?_⟩
  refine List.forall_mem_cons.mpr ⟨⟨(trivial), trivial⟩, ?_⟩
  refine List.forall_mem_cons.mpr ⟨⟨(show (0 : Int) ≤ ((138 : Nat) : Int) + 21 by decide), trivial⟩, ?_⟩
  refine List.forall_mem_cons.mpr ⟨⟨(trivial), trivial⟩, ?_⟩
  refine List.forall_mem_cons.mpr ⟨⟨(mj_lkG (by decide) rfl (by decide) mj_inU10 mjf_10_102), trivial⟩, ?_⟩
  refine List.forall_mem_cons.mpr ⟨⟨(trivial), trivial⟩, ?_⟩
  refine List.forall_mem_cons.mpr ⟨⟨(trivial), trivial⟩, ?_⟩
  refine List.forall_mem_cons.mpr ⟨⟨(trivial), trivial⟩, ?_⟩
  refine List.forall_mem_cons.mpr ⟨⟨(mj_lkG (by decide) rfl (by decide) mj_inU10 mjf_10_102), trivial⟩, ?_⟩
  refine List.forall_mem_cons.mpr ⟨⟨(trivial), trivial⟩, ?_⟩
  refine List.forall_mem_cons.mpr ⟨⟨(trivial), trivial⟩, ?_⟩
  refine List.forall_mem_cons.mpr ⟨⟨(trivial), trivial⟩, ?_⟩
  refine List.forall_mem_cons.mpr ⟨⟨(trivial), trivial⟩, ?_⟩
  refine List.forall_mem_cons.mpr ⟨⟨(trivial), trivial⟩, ?_⟩
  refine List.forall_mem_cons.mpr ⟨⟨(trivial), trivial⟩, ?_⟩
  refine List.forall_mem_cons.mpr ⟨⟨(trivial), trivial⟩, ?_⟩
  refine List.forall_mem_cons.mpr ⟨⟨(trivial), trivial⟩, ?_⟩
  refine List.forall_mem_cons.mpr ⟨⟨(trivial), trivial⟩, ?_⟩
  exact fun _ h => absurd h List.not_mem_nil
theorem mjd_138 : mj_ckd 138 = true := by decide +kernel
theorem mjg_138 : mj_good 138 := mj_goodOf (fun _ => ⟨mj_G, rfl⟩) (by decide +kernel) mjd_138 mje_138
end
section
theorem mje_139 : ∀ e ∈ mj_tb139, mj_lk 139 e.1 e.2.1 e.2.2.1 e.2.2.2 ∧ mj_cok 139 e.2.1 e.2.2.1 e.2.2.2 := by
  unfold mj_tb139
  refine List.forall_mem_cons.mpr ⟨⟨(trivial), trivial⟩, ?_⟩
  refine List.forall_mem_cons.mpr ⟨⟨(trivial), trivial⟩, ?_⟩
  refine List.forall_mem_cons.mpr ⟨⟨(show (0 : Int) ≤ ((3 : Nat) : Int) + 22 by decide), trivial⟩, ?_⟩
  refine List.forall_mem_cons.mpr ⟨⟨(trivial), trivial⟩, ?_⟩
  refine List.forall_mem_cons.mpr ⟨⟨(mj_lkG (by decide) rfl (by decide) mj_inU10 mjf_10_123), trivial⟩, ?_⟩
  refine List.forall_mem_cons.mpr ⟨⟨(trivial), trivial⟩, ?_⟩
  refine List.forall_mem_cons.mpr ⟨⟨(trivial), trivial⟩, ?_⟩
  refine List.forall_mem_cons.mpr ⟨⟨(trivial), trivial⟩, ?_⟩
  refine List.forall_mem_cons.mpr ⟨⟨(show (0 : Int) ≤ ((14 : Nat) : Int) + 7 by decide), trivial⟩, ?_⟩
  refine List.forall_mem_cons.mpr ⟨⟨(trivial), trivial⟩, ?_⟩
  refine List.forall_mem_cons.mpr ⟨⟨(show (0 : Int) ≤ ((18 : Nat) : Int) + 22 by decide), trivial⟩, ?_⟩
  refine List.forall_mem_cons.mpr ⟨⟨(trivial), trivial⟩, ?_⟩
  refine List.forall_mem_cons.mpr ⟨⟨(show (0 : Int) ≤ ((22 : Nat) : Int) + 18 by decide), trivial⟩, ?_⟩
  refine List.forall_mem_cons.mpr ⟨⟨(trivial), trivial⟩, ?_⟩
  refine List.forall_mem_cons.mpr ⟨⟨(mj_lkG (by decide) rfl (by decide) mj_inU10 mjf_10_123), trivial⟩, ?_⟩
  refine List.forall_mem_cons.mpr ⟨⟨(trivial), trivial⟩, ?_⟩
  refine List.forall_mem_cons.mpr ⟨⟨(trivial), trivial⟩, ?_⟩
  refine List.forall_mem_cons.mpr ⟨⟨(show (0 : Int) ≤ ((32 : Nat) : Int) + 7 by decide), trivial⟩, ?_⟩
  refine List.forall_mem_cons.mpr ⟨⟨(trivial), trivial⟩, ?_⟩
  refine List.forall_mem_cons.mpr ⟨⟨(show (0 : Int) ≤ ((36 : Nat) : Int) + 4 by decide), trivial⟩, ?_⟩
  refine List.forall_mem_cons.mpr ⟨⟨(trivial), trivial⟩, ?_⟩
  refine List.forall_mem_cons.mpr ⟨⟨(show (5 : Nat) < mj_maxL 139 by decide), trivial⟩, ?_⟩
  refine List.forall_mem_cons.mpr ⟨⟨(trivial), trivial⟩, ?_⟩
  refine List.forall_mem_cons.mpr ⟨⟨(show (0 : Int) ≤ ((44 : Nat) : Int) + 43 by decide), trivial⟩, ?_⟩
  refine List.forall_mem_cons.mpr ⟨⟨(trivial), trivial⟩, ?_⟩
  refine List.forall_mem_cons.mpr ⟨⟨(trivial), trivial⟩, ?_⟩
  refine List.forall_mem_cons.mpr ⟨⟨(show (0 : Int) ≤ ((50 : Nat) : Int) + 37 by decide), trivial⟩, ?_⟩
  refine List.forall_mem_cons.mpr ⟨⟨(trivial), trivial⟩, ?_⟩
  refine List.forall_mem_cons.mpr ⟨⟨(mj_lkG (by decide) rfl (by decide) mj_inU10 mjf_10_120), trivial⟩, ?_⟩
  refine List.forall_mem_cons.mpr ⟨⟨(trivial), trivial⟩, ?_⟩
  refine List.forall_mem_cons.mpr ⟨⟨(trivial), trivial⟩, ?_⟩
  refine List.forall_mem_cons.mpr ⟨⟨(trivial), trivial⟩, ?_⟩
  refine List.forall_mem_cons.mpr ⟨⟨(trivial), trivial⟩, ?_⟩
  refine List.forall_mem_cons.mpr ⟨⟨(mj_lkG (by decide) rfl (by decide) mj_inU10 mjf_10_123), trivial⟩, ?_⟩
  refine List.forall_mem_cons.mpr ⟨⟨(trivial), trivial⟩, ?_⟩
  refine List.forall_mem_cons.mpr ⟨⟨(trivial), trivial⟩, ?_⟩
  refine List.forall_mem_cons.mpr ⟨⟨(trivial), trivial⟩, ?_⟩
  refine List.forall_mem_cons.mpr ⟨⟨(trivial), trivial⟩, ?_⟩
  refine List.forall_mem_cons.mpr ⟨⟨(mj_lkG (by decide) rfl (by decide) mj_inU10 mjf_10_102), trivial⟩, ?_⟩
  refine List.forall_mem_cons.mpr ⟨⟨(trivial), trivial⟩, ?_⟩
  refine List.forall_mem_cons.mpr ⟨⟨(trivial), trivial⟩, ?_⟩
  refine List.forall_mem_cons.mpr ⟨⟨(trivial), trivial⟩, ?_⟩
  refine List.forall_mem_cons.mpr ⟨⟨(trivial), trivial⟩, ?_⟩
  refine List.forall_mem_cons.mpr ⟨⟨(mj_lkG (by decide) rfl (by decide) mj_inU10 mjf_10_123), trivial⟩, ?_⟩
  refine List.forall_mem_cons.mpr ⟨⟨(trivial), trivial⟩, ?_⟩
  refine List.forall_mem_cons.mpr ⟨⟨(trivial), trivial⟩, ?_⟩
  refine List.forall_mem_cons.mpr ⟨⟨(trivial), trivial⟩, ?_⟩
  refine List.forall_mem_cons.mpr ⟨⟨(trivial), trivial⟩, ?_⟩
  refine List.forall_mem_cons.mpr ⟨⟨(trivial), trivial⟩, ?_⟩
  refine List.forall_mem_cons.mpr ⟨⟨(trivial), trivial⟩, ?_⟩
  refine List.forall_mem_cons.mpr ⟨⟨(trivial), trivial⟩, ?_⟩
  refine List.forall_mem_cons.mpr ⟨⟨(show (0 : Int) ≤ ((89 : Nat) : Int) + 77 by decide), trivial⟩, ?_⟩
  refine List.forall_mem_cons.mpr ⟨⟨(trivial), trivial⟩, ?_⟩
  refine List.forall_mem_cons.mpr ⟨⟨(trivial), trivial⟩, ?_⟩
  refine List.forall_mem_cons.mpr ⟨⟨(show (0 : Int) ≤ ((95 : Nat) : Int) + 71 by decide), trivial⟩, ?_⟩
  refine List.forall_mem_cons.mpr ⟨⟨(trivial), trivial⟩, ?_⟩
  refine List.forall_mem_cons.mpr ⟨⟨(mj_lkG (by decide) rfl (by decide) mj_inU10 mjf_10_102), trivial⟩, ?_⟩
  refine List.forall_mem_cons.mpr ⟨⟨(trivial), trivial⟩, ?_⟩
  refine List.forall_mem_cons.mpr ⟨⟨(trivial), trivial⟩, ?_⟩
  refine List.forall_mem_cons.mpr ⟨⟨(mj_lkG (by decide) rfl (by decide) mj_inU10 mjf_10_120), trivial⟩, ?_⟩
  refine List.forall_mem_cons.mpr ⟨⟨(trivial), trivial⟩, ?_⟩
  refine List.forall_mem_cons.mpr ⟨⟨(trivial), trivial⟩, ?_⟩
  refine List.forall_mem_cons.mpr ⟨⟨(trivial), trivial⟩, ?_⟩
  refine List.forall_mem_cons.mpr ⟨⟨(trivial), trivial⟩, ?_⟩
  refine List.forall_mem_cons.mpr ⟨⟨(trivial), trivial⟩, ?_⟩
  refine List.forall_mem_cons.mpr ⟨⟨(trivial), trivial⟩, ?_⟩
  refine List.forall_mem_cons.mpr ⟨⟨(mj_lkG (by decide) rfl (by decide) mj_inU10 mjf_10_120), trivial⟩, ?_⟩
  refine List.forall_mem_cons.mpr ⟨⟨(trivial), trivial⟩, ?_⟩
  refine List.forall_mem_cons.mpr ⟨⟨(trivial), trivial⟩, ?_⟩
  refine List.forall_mem_cons.mpr ⟨⟨(trivial), trivial⟩, ?_⟩
  refine List.forall_mem_cons.mpr ⟨⟨(trivial), trivial⟩, ?_⟩
  refine List.forall_mem_cons.mpr ⟨⟨(mj_lkG (by decide) rfl (by decide) mj_inU10 mjf_10_120), trivial⟩, ?_⟩
  refine List.forall_mem_cons.mpr ⟨⟨(trivial), trivial⟩, ?_⟩
  refine List.forall_mem_cons.mpr ⟨⟨(trivial), trivial⟩, ?_⟩
  refine List.forall_mem_cons.mpr ⟨⟨(trivial), trivial⟩, ?_⟩
  refine List.forall_mem_cons.mpr ⟨⟨(trivial), trivial⟩, ?_⟩
  refine List.forall_mem_cons.mpr ⟨⟨(trivial), trivial⟩, ?_⟩
  refine List.forall_mem_cons.mpr ⟨⟨(trivial), trivial⟩, ?_⟩
  refine List.forall_mem_cons.mpr ⟨⟨(trivial), trivial⟩, ?_⟩
  refine List.forall_mem_cons.mpr ⟨⟨(trivial), trivial⟩, ?_⟩
  refine List.forall_mem_cons.mpr ⟨⟨(mj_lkG (by decide) rfl (by decide) mj_inU10 mjf_10_120), trivial⟩, ?_⟩
  refine List.forall_mem_cons.mpr ⟨⟨(trivial), trivial⟩, ?_⟩
  refine List.forall_mem_cons.mpr ⟨⟨(trivial), trivial⟩, ?_⟩
  refine List.forall_mem_cons.mpr ⟨⟨(trivial), trivial⟩, ?_⟩
  refine List.forall_mem_cons.mpr ⟨⟨(trivial), trivial⟩, ?_⟩
  refine List.forall_mem_cons.mpr ⟨⟨(trivial), trivial⟩, ?_⟩
  refine List.forall_mem_cons.mpr ⟨⟨(trivial), trivial⟩, ?_⟩
  refine List.forall_mem_cons.mpr ⟨⟨(mj_lkG (by decide) rfl (by decide) mj_inU10 mjf_10_120), trivial⟩, ?_⟩
  refine List.forall_mem_cons.mpr ⟨⟨(trivial), trivial⟩, ?_⟩
  refine List.forall_mem_cons.mpr ⟨⟨(trivial), trivial⟩, ?_⟩
  refine List.forall_mem_cons.mpr ⟨⟨(trivial), trivial⟩, ?_⟩
  refine List.forall_mem_cons.mpr ⟨⟨(trivial), trivial⟩, ?_⟩
  refine List.forall_mem_cons.mpr ⟨⟨(trivial), trivial⟩, ?_⟩
  refine List.forall_mem_cons.mpr ⟨⟨(trivial), trivial⟩, ?_⟩
  refine List.forall_mem_cons.mpr ⟨⟨(trivial), trivial⟩, ?_⟩
  refine List.forall_mem_cons.mpr ⟨⟨(trivial), trivial⟩, ?_⟩
  refine List.forall_mem_cons.mpr ⟨⟨(mj_lkG (by decide) rfl (by decide) mj_inU10 mjf_10_123), trivial⟩, ?_⟩
  refine List.forall_mem_cons.mpr ⟨⟨(trivial), trivial⟩, ?_⟩
  refine List.forall_mem_cons.mpr ⟨⟨(trivial), trivial⟩, ?_⟩
  refine List.forall_mem_cons.mpr ⟨⟨(trivial), trivial⟩, ?_⟩
  refine List.forall_mem_cons.mpr ⟨⟨(trivial), trivial⟩, ?_⟩
  refine List.forall_mem_cons.mpr ⟨⟨(trivial), trivial⟩, ?_⟩
  refine List.forall_mem_cons.mpr ⟨⟨(trivial), trivial⟩, ?_⟩
  refine List.forall_mem_cons.mpr ⟨⟨(trivial), trivial⟩, ?_⟩
  refine List.forall_mem_cons.mpr ⟨⟨(mj_lkG (by decide) rfl (by decide) mj_inU10 mjf_10_102), trivial⟩, ?_⟩
  refine List.forall_mem_cons.mpr ⟨⟨(trivial), trivial⟩, ?_⟩
  refine List.forall_mem_cons.mpr ⟨⟨(trivial), trivial⟩, ?_⟩
  refine List.forall_mem_cons.mpr ⟨⟨(trivial), trivial⟩, ?_⟩
  refine List.forall_mem_cons.mpr ⟨⟨(trivial), trivial⟩, ?_⟩
  refine List.forall_mem_cons.mpr ⟨⟨(show (0 : Int) ≤ ((175 : Nat) : Int) + 7 by decide), trivial⟩, ?_⟩
  refine List.forall_mem_cons.mpr ⟨⟨(trivial), trivial⟩, ?_⟩
  refine List.forall_mem_cons.mpr ⟨⟨(show (0 : Int) ≤ ((179 : Nat) : Int) + 4 by decide), trivial⟩, ?_⟩
  refine List.forall_mem_cons.mpr ⟨⟨(trivial), trivial⟩, ?_⟩
  refine List.forall_mem_cons.mpr ⟨⟨(trivial), trivial⟩, ?_⟩
  refine List.forall_mem_cons.mpr ⟨⟨(trivial), trivial⟩, ?_⟩
  exact fun _ h => absurd h List.not_mem_nil
theorem mjd_139 : mj_ckd 139 = true := by decide +kernel
theorem mjg_139 : mj_good 139 := mj_goodOf (fun _ => ⟨mj_G, rfl⟩) (by decide +kernel) mjd_139 mje_139
theorem mje_140 : ∀ e ∈ mj_tb140, mj_lk 140 e.1 e.2.1 e.2.2.1 e.2.2.2 ∧ mj_cok 140 e.2.1 e.2.2.1 e.2.2.2 := by
  unfold mj_tb140
  refine List.forall_mem_cons.mpr ⟨⟨(trivial), trivial⟩, ?_⟩
  refine List.forall_mem_cons.mpr ⟨⟨(mj_lkG (by decide) rfl (by decide) mj_inU10 mjf_10_29), trivial⟩, ?_⟩
  refine List.forall_mem_cons.mpr ⟨⟨(trivial), trivial⟩, ?_⟩
  refine List.forall_mem_cons.mpr ⟨⟨(trivial), trivial⟩, ?_⟩
  refine List.forall_mem_cons.mpr ⟨⟨(show (5 : Nat) < mj_maxL 140 by decide), trivial⟩, ?_⟩
  refine List.forall_mem_cons.mpr ⟨⟨(trivial), trivial⟩, ?_⟩
  refine List.forall_mem_cons.mpr ⟨⟨(trivial), trivial⟩, ?_⟩
  refine List.forall_mem_cons.mpr ⟨⟨(show (0 : Int) ≤ ((11 : Nat) : Int) + 30 by decide), trivial⟩, ?_⟩
  refine List.forall_mem_cons.mpr ⟨⟨(trivial), trivial⟩, ?_⟩
  refine List.forall_mem_cons.mpr ⟨⟨(mj_lkG (by decide) rfl (by decide) mj_inU10 mjf_10_102), trivial⟩, ?_⟩
  refine List.forall_mem_cons.mpr ⟨⟨(trivial), trivial⟩, ?_⟩
  refine List.forall_mem_cons.mpr ⟨⟨(trivial), trivial⟩, ?_⟩
  refine List.forall_mem_cons.mpr ⟨⟨(show (0 : Int) ≤ ((20 : Nat) : Int) + 21 by decide), trivial⟩, ?_⟩
  refine List.forall_mem_cons.mpr ⟨⟨(trivial), trivial⟩, ?_⟩
  refine List.forall_mem_cons.mpr ⟨⟨(mj_lkG (by decide) rfl (by decide) mj_inU10 mjf_10_90), trivial⟩, ?_⟩
  refine List.forall_mem_cons.mpr ⟨⟨(trivial), trivial⟩, ?_⟩
  refine List.forall_mem_cons.mpr ⟨⟨(trivial), trivial⟩, ?_⟩
  refine List.forall_mem_cons.mpr ⟨⟨(mj_lkG (by decide) rfl (by decide) mj_inU10 mjf_10_90), trivial⟩, ?_⟩
  refine List.forall_mem_cons.mpr ⟨⟨(trivial), trivial⟩, ?_⟩
  refine List.forall_mem_cons.mpr ⟨⟨(trivial), trivial⟩, ?_⟩
  refine List.forall_mem_cons.mpr ⟨⟨(trivial), trivial⟩, ?_⟩
  refine List.forall_mem_cons.mpr ⟨⟨(trivial), trivial⟩, ?_⟩
  refine List.forall_mem_cons.mpr ⟨⟨(trivial), trivial⟩, ?_⟩
  refine List.forall_mem_cons.mpr ⟨⟨(show (0 : Int) ≤ ((38 : Nat) : Int) + 206 by decide), trivial⟩, ?_⟩
  refine List.forall_mem_cons.mpr ⟨⟨(trivial), trivial⟩, ?_⟩
  refine List.forall_mem_cons.mpr ⟨⟨(trivial), trivial⟩, ?_⟩
  refine List.forall_mem_cons.mpr ⟨⟨(show (0 : Int) ≤ ((44 : Nat) : Int) + 15 by decide), trivial⟩, ?_⟩
  refine List.forall_mem_cons.mpr ⟨⟨(trivial), trivial⟩, ?_⟩
  refine List.forall_mem_cons.mpr ⟨⟨(mj_lkG (by decide) rfl (by decide) mj_inU10 mjf_10_99), trivial⟩, ?_⟩
  refine List.forall_mem_cons.mpr ⟨⟨(trivial), trivial⟩, ?_⟩
  refine List.forall_mem_cons.mpr ⟨⟨(trivial), trivial⟩, ?_⟩
  refine List.forall_mem_cons.mpr ⟨⟨(trivial), trivial⟩, ?_⟩
  refine List.forall_mem_cons.mpr ⟨⟨(show (0 : Int) ≤ ((56 : Nat) : Int) + 188 by decide), trivial⟩, ?_⟩
  refine List.forall_mem_cons.mpr ⟨⟨(trivial), trivial⟩, ?_⟩
  refine List.forall_mem_cons.mpr ⟨⟨(trivial), trivial⟩, ?_⟩
  refine List.forall_mem_cons.mpr ⟨⟨(show (0 : Int) ≤ ((62 : Nat) : Int) + 63 by decide), trivial⟩, ?_⟩
  refine List.forall_mem_cons.mpr ⟨⟨(trivial), trivial⟩, ?_⟩
  refine List.forall_mem_cons.mpr ⟨⟨(mj_lkG (by decide) rfl (by decide) mj_inU10 mjf_10_32), trivial⟩, ?_⟩
  refine List.forall_mem_cons.mpr ⟨⟨(trivial), trivial⟩, ?_⟩
  refine List.forall_mem_cons.mpr ⟨⟨(trivial), trivial⟩, ?_⟩
  refine List.forall_mem_cons.mpr ⟨⟨(show (6 : Nat) < mj_maxL 140 by decide), trivial⟩, ?_⟩
  refine List.forall_mem_cons.mpr ⟨⟨(trivial), trivial⟩, ?_⟩
  refine List.forall_mem_cons.mpr ⟨⟨(mj_lkG (by decide) rfl (by decide) mj_inU10 mjf_10_99), trivial⟩, ?_⟩
  refine List.forall_mem_cons.mpr ⟨⟨(trivial), trivial⟩, ?_⟩
  refine List.forall_mem_cons.mpr ⟨⟨(trivial), trivial⟩, ?_⟩
  refine List.forall_mem_cons.mpr ⟨⟨(trivial), trivial⟩, ?_⟩
  refine List.forall_mem_cons.mpr ⟨⟨(trivial), trivial⟩, ?_⟩
  refine List.forall_mem_cons.mpr ⟨⟨(trivial), trivial⟩, ?_⟩
  refine List.forall_mem_cons.mpr ⟨⟨(trivial), trivial⟩, ?_⟩
  refine List.forall_mem_cons.mpr ⟨⟨(trivial), trivial⟩, ?_⟩
  refine List.forall_mem_cons.mpr ⟨⟨(mj_lkG (by decide) rfl (by decide) mj_inU10 mjf_10_90), trivial⟩, ?_⟩
  refine List.forall_mem_cons.mpr ⟨⟨(trivial), trivial⟩, ?_⟩
  refine List.forall_mem_cons.mpr ⟨⟨(trivial), trivial⟩, ?_⟩
  refine List.forall_mem_cons.mpr ⟨⟨(mj_lkG (by decide) rfl (by decide) mj_inU10 mjf_10_99), trivial⟩, ?_⟩
  refine List.forall_mem_cons.mpr ⟨⟨(trivial), trivial⟩, ?_⟩
  refine List.forall_mem_cons.mpr ⟨⟨(trivial), trivial⟩, ?_⟩
  refine List.forall_mem_cons.mpr ⟨⟨(show (0 : Int) ≤ ((97 : Nat) : Int) + 18 by decide), trivial⟩, ?_⟩
  refine List.forall_mem_cons.mpr ⟨⟨(trivial), trivial⟩, ?_⟩
  refine List.forall_mem_cons.mpr ⟨⟨(mj_lkG (by decide) rfl (by decide) mj_inU10 mjf_10_90), trivial⟩, ?_⟩
  refine List.forall_mem_cons.mpr ⟨⟨(trivial), trivial⟩, ?_⟩
  refine List.forall_mem_cons.mpr ⟨⟨(trivial), trivial⟩, ?_⟩
  refine List.forall_mem_cons.mpr ⟨⟨(trivial), trivial⟩, ?_⟩
  refine List.forall_mem_cons.mpr ⟨⟨(trivial), trivial⟩, ?_⟩
  refine List.forall_mem_cons.mpr ⟨⟨(trivial), trivial⟩, ?_⟩
  refine List.forall_mem_cons.mpr ⟨⟨(trivial), trivial⟩, ?_⟩
  refine List.forall_mem_cons.mpr ⟨⟨(show (0 : Int) ≤ ((112 : Nat) : Int) + 9 by decide), trivial⟩, ?_⟩
  refine List.forall_mem_cons.mpr ⟨⟨(trivial), trivial⟩, ?_⟩
  refine List.forall_mem_cons.mpr ⟨⟨(mj_lkG (by decide) rfl (by decide) mj_inU10 mjf_10_90), trivial⟩, ?_⟩
  refine List.forall_mem_cons.mpr ⟨⟨(trivial), trivial⟩, ?_⟩
  refine List.forall_mem_cons.mpr ⟨⟨(trivial), trivial⟩, ?_⟩
  refine List.forall_mem_cons.mpr ⟨⟨(trivial), trivial⟩, ?_⟩
  refine List.forall_mem_cons.mpr ⟨⟨(show (0 : Int) ≤ ((122 : Nat) : Int) + 122 by decide), trivial⟩, ?_⟩
  refine List.forall_mem_cons.mpr ⟨⟨(trivial), trivial⟩, ?_⟩
  refine List.forall_mem_cons.mpr ⟨⟨(trivial), trivial⟩, ?_⟩
  refine List.forall_mem_cons.mpr ⟨⟨(show (0 : Int) ≤ ((128 : Nat) : Int) + 23 by decide), trivial⟩, ?_⟩
  refine List.forall_mem_cons.mpr ⟨⟨(trivial), trivial⟩, ?_⟩
  refine List.forall_mem_cons.mpr ⟨⟨(mj_lkG (by decide) rfl (by decide) mj_inU10 mjf_10_84), trivial⟩, ?_⟩
  refine List.forall_mem_cons.mpr ⟨⟨(trivial), trivial⟩, ?_⟩
  refine List.forall_mem_cons.mpr ⟨⟨(trivial), trivial⟩, ?_⟩
  refine List.forall_mem_cons.mpr ⟨⟨(mj_lkG (by decide) rfl (by decide) mj_inU10 mjf_10_84), trivial⟩, ?_⟩
  refine List.forall_mem_cons.mpr ⟨⟨(trivial), trivial⟩, ?_⟩
  refine List.forall_mem_cons.mpr ⟨⟨(trivial), trivial⟩, ?_⟩
  refine List.forall_mem_cons.mpr ⟨⟨(trivial), trivial⟩, ?_⟩
  refine List.forall_mem_cons.mpr ⟨⟨(trivial), trivial⟩, ?_⟩
  refine List.forall_mem_cons.mpr ⟨⟨(trivial), trivial⟩, ?_⟩
  refine List.forall_mem_cons.mpr ⟨⟨(trivial), trivial⟩, ?_⟩
  refine List.forall_mem_cons.mpr ⟨⟨(trivial), trivial⟩, ?_⟩
  refine List.forall_mem_cons.mpr ⟨⟨(show (0 : Int) ≤ ((148 : Nat) : Int) + 96 by decide), trivial⟩, ?_⟩
  refine List.forall_mem_cons.mpr ⟨⟨(trivial), trivial⟩, ?_⟩
  refine List.forall_mem_cons.mpr ⟨⟨(trivial), trivial⟩, ?_⟩
  refine List.forall_mem_cons.mpr ⟨⟨(show (0 : Int) ≤ ((154 : Nat) : Int) + 35 by decide), trivial⟩, ?_⟩
  refine List.forall_mem_cons.mpr ⟨⟨(trivial), trivial⟩, ?_⟩
  refine List.forall_mem_cons.mpr ⟨⟨(mj_lkG (by decide) rfl (by decide) mj_inU10 mjf_10_84), trivial⟩, ?_⟩
  refine List.forall_mem_cons.mpr ⟨⟨(trivial), trivial⟩, ?_⟩
  refine List.forall_mem_cons.mpr ⟨⟨(trivial), trivial⟩, ?_⟩
  refine List.forall_mem_cons.mpr ⟨⟨(mj_lkG (by decide) rfl (by decide) mj_inU10 mjf_10_84), trivial⟩, ?_⟩
  refine List.forall_mem_cons.mpr ⟨⟨(trivial), trivial⟩, ?_⟩
  refine List.forall_mem_cons.mpr ⟨⟨(trivial), trivial⟩, ?_⟩
  refine List.forall_mem_cons.mpr ⟨⟨(trivial), trivial⟩, ?_⟩
  refine List.forall_mem_cons.mpr ⟨⟨(trivial), trivial⟩, ?_⟩
  refine List.forall_mem_cons.mpr ⟨⟨(mj_lkG (by decide) rfl (by decide) mj_inU10 mjf_10_29), trivial⟩, ?_⟩
  refine List.forall_mem_cons.mpr ⟨⟨(trivial), trivial⟩, ?_⟩
  refine List.forall_mem_cons.mpr ⟨⟨(mj_lkG (by decide) rfl (by decide) mj_inU10 mjf_10_32), trivial⟩, ?_⟩
  refine List.forall_mem_cons.mpr ⟨⟨(trivial), trivial⟩, ?_⟩
  refine List.forall_mem_cons.mpr ⟨⟨(trivial), trivial⟩, ?_⟩
  refine List.forall_mem_cons.mpr ⟨⟨(trivial), trivial⟩, ?_⟩
  refine List.forall_mem_cons.mpr ⟨⟨(trivial), trivial⟩, ?_⟩
  refine List.forall_mem_cons.mpr ⟨⟨(trivial), trivial⟩, ?_⟩
  refine List.forall_mem_cons.mpr ⟨⟨(trivial), trivial⟩, ?_⟩
  refine List.forall_mem_cons.mpr ⟨⟨(trivial), trivial⟩, ?_⟩
  refine List.forall_mem_cons.mpr ⟨⟨(trivial), trivial⟩, ?_⟩
  refine List.forall_mem_cons.mpr ⟨⟨(show (0 : Int) ≤ ((186 : Nat) : Int) + 58 by decide), trivial⟩, ?_⟩
  refine List.forall_mem_cons.mpr ⟨⟨(trivial), trivial⟩, ?_⟩
  refine List.forall_mem_cons.mpr ⟨⟨(trivial), trivial⟩, ?_⟩
  refine List.forall_mem_cons.mpr ⟨⟨(show (0 : Int) ≤ ((192 : Nat) : Int) + 52 by decide), trivial⟩, ?_⟩
  refine List.forall_mem_cons.mpr ⟨⟨(trivial), trivial⟩, ?_⟩
  refine List.forall_mem_cons.mpr ⟨⟨(mj_lkG (by decide) rfl (by decide) mj_inU10 mjf_10_93), trivial⟩, ?_⟩
  refine List.forall_mem_cons.mpr ⟨⟨(trivial), trivial⟩, ?_⟩
  refine List.forall_mem_cons.mpr ⟨⟨(trivial), trivial⟩, ?_⟩
  refine List.forall_mem_cons.mpr ⟨⟨(trivial), trivial⟩, ?_⟩
  refine List.forall_mem_cons.mpr ⟨⟨(trivial), trivial⟩, ?_⟩
  refine List.forall_mem_cons.mpr ⟨⟨(trivial), trivial⟩, ?_⟩
  refine List.forall_mem_cons.mpr ⟨⟨(trivial), trivial⟩, ?_⟩
  refine List.forall_mem_cons.mpr ⟨⟨(mj_lkG (by decide) rfl (by decide) mj_inU10 mjf_10_87), trivial⟩, ?_⟩
  refine List.forall_mem_cons.mpr ⟨⟨(trivial), trivial⟩, ?_⟩
  refine List.forall_mem_cons.mpr ⟨⟨(trivial), trivial⟩, ?_⟩
  refine List.forall_mem_cons.mpr ⟨⟨(trivial), trivial⟩, ?_⟩
  refine List.forall_mem_cons.mpr ⟨⟨(trivial), trivial⟩, ?_⟩
  refine List.forall_mem_cons.mpr ⟨⟨(mj_lkG (by decide) rfl (by decide) mj_inU10 mjf_10_96), trivial⟩, ?_⟩
  refine List.forall_mem_cons.mpr ⟨⟨(trivial), trivial⟩, ?_⟩
  refine List.forall_mem_cons.mpr ⟨⟨(trivial), trivial⟩, ?_⟩
  refine List.forall_mem_cons.mpr ⟨⟨(trivial), trivial⟩, ?_⟩
  refine List.forall_mem_cons.mpr ⟨⟨(trivial), trivial⟩, ?_⟩
  refine List.forall_mem_cons.mpr ⟨⟨(trivial), trivial⟩, ?_⟩
  refine List.forall_mem_cons.mpr ⟨⟨(trivial), trivial⟩, ?_⟩
  refine List.forall_mem_cons.mpr ⟨⟨(mj_lkG (by decide) rfl (by decide) mj_inU10 mjf_10_90), trivial⟩, ?_⟩
  refine List.forall_mem_cons.mpr ⟨⟨(trivial), trivial⟩, ?_⟩
  refine List.forall_mem_cons.mpr ⟨⟨(trivial), trivial⟩, ?_⟩
  refine List.forall_mem_cons.mpr ⟨⟨(trivial), trivial⟩, ?_⟩
  refine List.forall_mem_cons.mpr ⟨⟨(trivial), trivial⟩, ?_⟩
  refine List.forall_mem_cons.mpr ⟨⟨(mj_lkG (by decide) rfl (by decide) mj_inU10 mjf_10_87), trivial⟩, ?_⟩
  refine List.forall_mem_cons.mpr ⟨⟨(trivial), trivial⟩, ?_⟩
  refine List.forall_mem_cons.mpr ⟨⟨(trivial), trivial⟩, ?_⟩
  refine List.forall_mem_cons.mpr ⟨⟨(trivial), trivial⟩, ?_⟩
  refine List.forall_mem_cons.mpr ⟨⟨(trivial), trivial⟩, ?_⟩
  refine List.forall_mem_cons.mpr ⟨⟨(mj_lkG (by decide) rfl (by decide) mj_inU10 mjf_10_90), trivial⟩, ?_⟩
  refine List.forall_mem_cons.mpr ⟨⟨(trivial), trivial⟩, ?_⟩
  refine List.forall_mem_cons.mpr ⟨⟨(trivial), trivial⟩, ?_⟩
  refine List.forall_mem_cons.mpr ⟨⟨(trivial), trivial⟩, ?_⟩
  refine List.forall_mem_cons.mpr ⟨⟨(trivial), trivial⟩, ?_⟩
  exact fun _ h => absurd h List.not_mem_nil
theorem mjd_140 : mj_ckd 140 = true := by decide +kernel
theorem mjg_140 : mj_good 140 := mj_goodOf (fun _ => ⟨mj_G, rfl⟩) (by decide +kernel) mjd_140 mje_140
theorem mje_141 : ∀ e ∈ mj_tb141, mj_lk 141 e.1 e.2.1 e.2.2.1 e.2.2.2 ∧ mj_cok 141 e.2.1 e.2.2.1 e.2.2.2 := by
  unfold mj_tb141
  refine List.forall_mem_cons.mpr ⟨⟨(trivial), trivial⟩, ?_⟩
  refine List.forall_mem_cons.mpr ⟨⟨(mj_lkG (by decide) rfl (by decide) mj_inU10 mjf_10_141), trivial⟩, ?_⟩
  refine List.forall_mem_cons.mpr ⟨⟨(show (0 : Int) ≤ ((4 : Nat) : Int) + 13 by decide), trivial⟩, ?_⟩
  refine List.forall_mem_cons.mpr ⟨⟨(trivial), trivial⟩, ?_⟩
  refine List.forall_mem_cons.mpr ⟨⟨(trivial), trivial⟩, ?_⟩
  refine List.forall_mem_cons.mpr ⟨⟨(trivial), trivial⟩, ?_⟩
  refine List.forall_mem_cons.mpr ⟨⟨(trivial), mj_ckOf mjK_101 (by decide) (mj_lnkG mjl_10_145)⟩, ?_⟩
  refine List.forall_mem_cons.mpr ⟨⟨(show (0 : Int) ≤ ((14 : Nat) : Int) + 5 by decide), trivial⟩, ?_⟩
  refine List.forall_mem_cons.mpr ⟨⟨(trivial), trivial⟩, ?_⟩
  refine List.forall_mem_cons.mpr ⟨⟨(trivial), trivial⟩, ?_⟩
  refine List.forall_mem_cons.mpr ⟨⟨(trivial), trivial⟩, ?_⟩
  refine List.forall_mem_cons.mpr ⟨⟨(show (0 : Int) ≤ ((20 : Nat) : Int) + 10 by decide), trivial⟩, ?_⟩
  refine List.forall_mem_cons.mpr ⟨⟨(trivial), trivial⟩, ?_⟩
  refine List.forall_mem_cons.mpr ⟨⟨(mj_lkG (by decide) rfl (by decide) mj_inU10 mjf_10_209), trivial⟩, ?_⟩
  refine List.forall_mem_cons.mpr ⟨⟨(show (0 : Int) ≤ ((27 : Nat) : Int) + 67 by decide), trivial⟩, ?_⟩
  refine List.forall_mem_cons.mpr ⟨⟨(trivial), trivial⟩, ?_⟩
  refine List.forall_mem_cons.mpr ⟨⟨(trivial), trivial⟩, ?_⟩
  refine List.forall_mem_cons.mpr ⟨⟨(show (0 : Int) ≤ ((32 : Nat) : Int) + 10 by decide), trivial⟩, ?_⟩
  refine List.forall_mem_cons.mpr ⟨⟨(trivial), trivial⟩, ?_⟩
  refine List.forall_mem_cons.mpr ⟨⟨(mj_lkG (by decide) rfl (by decide) mj_inU10 mjf_10_212), trivial⟩, ?_⟩
  refine List.forall_mem_cons.mpr ⟨⟨(show (0 : Int) ≤ ((39 : Nat) : Int) + 55 by decide), trivial⟩, ?_⟩
  refine List.forall_mem_cons.mpr ⟨⟨(trivial), trivial⟩, ?_⟩
  refine List.forall_mem_cons.mpr ⟨⟨(trivial), trivial⟩, ?_⟩
  refine List.forall_mem_cons.mpr ⟨⟨(show (0 : Int) ≤ ((44 : Nat) : Int) + 10 by decide), trivial⟩, ?_⟩
  refine List.forall_mem_cons.mpr ⟨⟨(trivial), trivial⟩, ?_⟩
  refine List.forall_mem_cons.mpr ⟨⟨(mj_lkG (by decide) rfl (by decide) mj_inU10 mjf_10_218), trivial⟩, ?_⟩
  refine List.forall_mem_cons.mpr ⟨⟨(show (0 : Int) ≤ ((51 : Nat) : Int) + 43 by decide), trivial⟩, ?_⟩
  refine List.forall_mem_cons.mpr ⟨⟨(trivial), trivial⟩, ?_⟩
  refine List.forall_mem_cons.mpr ⟨⟨(trivial), trivial⟩, ?_⟩
  refine List.forall_mem_cons.mpr ⟨⟨(show (0 : Int) ≤ ((56 : Nat) : Int) + 10 by decide), trivial⟩, ?_⟩
  refine List.forall_mem_cons.mpr ⟨⟨(trivial), trivial⟩, ?_⟩
  refine List.forall_mem_cons.mpr ⟨⟨(mj_lkG (by decide) rfl (by decide) mj_inU10 mjf_10_230), trivial⟩, ?_⟩
  refine List.forall_mem_cons.mpr ⟨⟨(show (0 : Int) ≤ ((63 : Nat) : Int) + 31 by decide), trivial⟩, ?_⟩
  refine List.forall_mem_cons.mpr ⟨⟨(trivial), trivial⟩, ?_⟩
  refine List.forall_mem_cons.mpr ⟨⟨(trivial), trivial⟩, ?_⟩
  refine List.forall_mem_cons.mpr ⟨⟨(show (0 : Int) ≤ ((68 : Nat) : Int) + 10 by decide), trivial⟩, ?_⟩
  refine List.forall_mem_cons.mpr ⟨⟨(trivial), trivial⟩, ?_⟩
  refine List.forall_mem_cons.mpr ⟨⟨(mj_lkG (by decide) rfl (by decide) mj_inU10 mjf_10_221), trivial⟩, ?_⟩
  refine List.forall_mem_cons.mpr ⟨⟨(show (0 : Int) ≤ ((75 : Nat) : Int) + 19 by decide), trivial⟩, ?_⟩
  refine List.forall_mem_cons.mpr ⟨⟨(trivial), trivial⟩, ?_⟩
  refine List.forall_mem_cons.mpr ⟨⟨(trivial), trivial⟩, ?_⟩
  refine List.forall_mem_cons.mpr ⟨⟨(show (0 : Int) ≤ ((80 : Nat) : Int) + 10 by decide), trivial⟩, ?_⟩
  refine List.forall_mem_cons.mpr ⟨⟨(trivial), trivial⟩, ?_⟩
  refine List.forall_mem_cons.mpr ⟨⟨(mj_lkG (by decide) rfl (by decide) mj_inU10 mjf_10_224), trivial⟩, ?_⟩
  refine List.forall_mem_cons.mpr ⟨⟨(show (0 : Int) ≤ ((87 : Nat) : Int) + 7 by decide), trivial⟩, ?_⟩
  refine List.forall_mem_cons.mpr ⟨⟨(trivial), trivial⟩, ?_⟩
  refine List.forall_mem_cons.mpr ⟨⟨(mj_lkG (by decide) rfl (by decide) mj_inU10 mjf_10_227), trivial⟩, ?_⟩
  refine List.forall_mem_cons.mpr ⟨⟨(trivial), trivial⟩, ?_⟩
  exact fun _ h => absurd h List.not_mem_nil
theorem mjd_141 : mj_ckd 141 = true := by decide +kernel
theorem mjg_141 : mj_good 141 := mj_goodOf (fun _ => ⟨mj_G, rfl⟩) (by decide +kernel) mjd_141 mje_141
theorem mje_142 : ∀ e ∈ mj_tb142, mj_lk 142 e.1 e.2.1 e.2.2.1 e.2.2.2 ∧ mj_cok 142 e.2.1 e.2.2.1 e.2.2.2 := by
  unfold mj_tb142
  refine List.forall_mem_cons.mpr ⟨⟨(trivial), trivial⟩, ?_⟩
  refine List.forall_mem_cons.mpr ⟨⟨(mj_lkG (by decide) rfl (by decide) mj_inU10 mjf_10_141), trivial⟩, ?_⟩
  refine List.forall_mem_cons.mpr ⟨⟨(show (0 : Int) ≤ ((4 : Nat) : Int) + 29 by decide), trivial⟩, ?_⟩
  refine List.forall_mem_cons.mpr ⟨⟨(trivial), trivial⟩, ?_⟩
  refine List.forall_mem_cons.mpr ⟨⟨(trivial), trivial⟩, ?_⟩
  refine List.forall_mem_cons.mpr ⟨⟨(trivial), mj_ckOf mjK_103 (by decide) (mj_lnkG mjl_10_152)⟩, ?_⟩
  refine List.forall_mem_cons.mpr ⟨⟨(show (0 : Int) ≤ ((12 : Nat) : Int) + 21 by decide), trivial⟩, ?_⟩
  refine List.forall_mem_cons.mpr ⟨⟨(trivial), trivial⟩, ?_⟩
  refine List.forall_mem_cons.mpr ⟨⟨(mj_lkG (by decide) rfl (by decide) mj_inU10 mjf_10_65), trivial⟩, ?_⟩
  refine List.forall_mem_cons.mpr ⟨⟨(trivial), trivial⟩, ?_⟩
  refine List.forall_mem_cons.mpr ⟨⟨(trivial), trivial⟩, ?_⟩
  refine List.forall_mem_cons.mpr ⟨⟨(show (0 : Int) ≤ ((21 : Nat) : Int) + 12 by decide), trivial⟩, ?_⟩
  refine List.forall_mem_cons.mpr ⟨⟨(trivial), trivial⟩, ?_⟩
  refine List.forall_mem_cons.mpr ⟨⟨(trivial), trivial⟩, ?_⟩
  refine List.forall_mem_cons.mpr ⟨⟨(trivial), trivial⟩, ?_⟩
  refine List.forall_mem_cons.mpr ⟨⟨(trivial), mj_ckOf mjK_101 (by decide) (mj_lnkG mjl_10_145)⟩, ?_⟩
  refine List.forall_mem_cons.mpr ⟨⟨(show (0 : Int) ≤ ((30 : Nat) : Int) + 5 by decide), trivial⟩, ?_⟩
  refine List.forall_mem_cons.mpr ⟨⟨(trivial), trivial⟩, ?_⟩
  refine List.forall_mem_cons.mpr ⟨⟨(trivial), trivial⟩, ?_⟩
  refine List.forall_mem_cons.mpr ⟨⟨(trivial), trivial⟩, ?_⟩
  refine List.forall_mem_cons.mpr ⟨⟨(show (0 : Int) ≤ ((36 : Nat) : Int) + 11 by decide), trivial⟩, ?_⟩
  refine List.forall_mem_cons.mpr ⟨⟨(trivial), trivial⟩, ?_⟩
  refine List.forall_mem_cons.mpr ⟨⟨(trivial), trivial⟩, ?_⟩
  refine List.forall_mem_cons.mpr ⟨⟨(trivial), mj_ckOf mjK_135 (by decide) (mj_lnkG mjl_10_237)⟩, ?_⟩
  refine List.forall_mem_cons.mpr ⟨⟨(show (0 : Int) ≤ ((44 : Nat) : Int) + 42 by decide), trivial⟩, ?_⟩
  refine List.forall_mem_cons.mpr ⟨⟨(trivial), trivial⟩, ?_⟩
  refine List.forall_mem_cons.mpr ⟨⟨(trivial), trivial⟩, ?_⟩
  refine List.forall_mem_cons.mpr ⟨⟨(show (0 : Int) ≤ ((49 : Nat) : Int) + 17 by decide), trivial⟩, ?_⟩
  refine List.forall_mem_cons.mpr ⟨⟨(trivial), trivial⟩, ?_⟩
  refine List.forall_mem_cons.mpr ⟨⟨(mj_lkG (by decide) rfl (by decide) mj_inU10 mjf_10_209), trivial⟩, ?_⟩
  refine List.forall_mem_cons.mpr ⟨⟨(trivial), trivial⟩, ?_⟩
  refine List.forall_mem_cons.mpr ⟨⟨(mj_lkG (by decide) rfl (by decide) mj_inU10 mjf_10_72), trivial⟩, ?_⟩
  refine List.forall_mem_cons.mpr ⟨⟨(trivial), trivial⟩, ?_⟩
  refine List.forall_mem_cons.mpr ⟨⟨(trivial), trivial⟩, ?_⟩
  refine List.forall_mem_cons.mpr ⟨⟨(trivial), trivial⟩, ?_⟩
  refine List.forall_mem_cons.mpr ⟨⟨(show (0 : Int) ≤ ((63 : Nat) : Int) + 23 by decide), trivial⟩, ?_⟩
  refine List.forall_mem_cons.mpr ⟨⟨(trivial), trivial⟩, ?_⟩
  refine List.forall_mem_cons.mpr ⟨⟨(trivial), trivial⟩, ?_⟩
  refine List.forall_mem_cons.mpr ⟨⟨(show (0 : Int) ≤ ((68 : Nat) : Int) + 12 by decide), trivial⟩, ?_⟩
  refine List.forall_mem_cons.mpr ⟨⟨(trivial), trivial⟩, ?_⟩
  refine List.forall_mem_cons.mpr ⟨⟨(mj_lkG (by decide) rfl (by decide) mj_inU10 mjf_10_81), trivial⟩, ?_⟩
  refine List.forall_mem_cons.mpr ⟨⟨(trivial), trivial⟩, ?_⟩
  refine List.forall_mem_cons.mpr ⟨⟨(trivial), trivial⟩, ?_⟩
  refine List.forall_mem_cons.mpr ⟨⟨(show (0 : Int) ≤ ((77 : Nat) : Int) + 9 by decide), trivial⟩, ?_⟩
  refine List.forall_mem_cons.mpr ⟨⟨(trivial), trivial⟩, ?_⟩
  refine List.forall_mem_cons.mpr ⟨⟨(mj_lkG (by decide) rfl (by decide) mj_inU10 mjf_10_84), trivial⟩, ?_⟩
  refine List.forall_mem_cons.mpr ⟨⟨(trivial), trivial⟩, ?_⟩
  refine List.forall_mem_cons.mpr ⟨⟨(trivial), trivial⟩, ?_⟩
  refine List.forall_mem_cons.mpr ⟨⟨(trivial), trivial⟩, ?_⟩
  exact fun _ h => absurd h List.not_mem_nil
theorem mjd_142 : mj_ckd 142 = true := by decide +kernel
theorem mjg_142 : mj_good 142 := mj_goodOf (fun _ => ⟨mj_G, rfl⟩) (by decide +kernel) mjd_142 mje_142
theorem mje_143 : ∀ e ∈ mj_tb143, mj_lk 143 e.1 e.2.1 e.2.2.1 e.2.2.2 ∧ mj_cok 143 e.2.1 e.2.2.1 e.2.2.2 := by
  unfold mj_tb143
  refine List.forall_mem_cons.mpr ⟨⟨(trivial), trivial⟩, ?_⟩
  refine List.forall_mem_cons.mpr ⟨⟨(mj_lkG (by decide) rfl (by decide) mj_inU10 mjf_10_141), trivial⟩, ?_⟩
  refine List.forall_mem_cons.mpr ⟨⟨(show (0 : Int) ≤ ((4 : Nat) : Int) + 20 by decide), trivial⟩, ?_⟩
  refine List.forall_mem_cons.mpr ⟨⟨(trivial), trivial⟩, ?_⟩
  refine List.forall_mem_cons.mpr ⟨⟨(trivial), trivial⟩, ?_⟩
  refine List.forall_mem_cons.mpr ⟨⟨(trivial), mj_ckOf mjK_103 (by decide) (mj_lnkG mjl_10_152)⟩, ?_⟩
  refine List.forall_mem_cons.mpr ⟨⟨(show (0 : Int) ≤ ((12 : Nat) : Int) + 12 by decide), trivial⟩, ?_⟩
  refine List.forall_mem_cons.mpr ⟨⟨(trivial), trivial⟩, ?_⟩
  refine List.forall_mem_cons.mpr ⟨⟨(mj_lkG (by decide) rfl (by decide) mj_inU10 mjf_10_114), trivial⟩, ?_⟩
  refine List.forall_mem_cons.mpr ⟨⟨(trivial), trivial⟩, ?_⟩
  refine List.forall_mem_cons.mpr ⟨⟨(trivial), trivial⟩, ?_⟩
  refine List.forall_mem_cons.mpr ⟨⟨(show (0 : Int) ≤ ((21 : Nat) : Int) + 4 by decide), trivial⟩, ?_⟩
  refine List.forall_mem_cons.mpr ⟨⟨(trivial), trivial⟩, ?_⟩
  refine List.forall_mem_cons.mpr ⟨⟨(trivial), trivial⟩, ?_⟩
  exact fun _ h => absurd h List.not_mem_nil
theorem mjd_143 : mj_ckd 143 = true := by decide +kernel
theorem mjg_143 : mj_good 143 := mj_goodOf (fun _ => ⟨mj_G, rfl⟩) (by decide +kernel) mjd_143 mje_143
theorem mje_144 : ∀ e ∈ mj_tb144, mj_lk 144 e.1 e.2.1 e.2.2.1 e.2.2.2 ∧ mj_cok 144 e.2.1 e.2.2.1 e.2.2.2 := by
  unfold mj_tb144
  refine List.forall_mem_cons.mpr ⟨⟨(trivial), trivial⟩, ?_⟩
  refine List.forall_mem_cons.mpr ⟨⟨(mj_lkG (by decide) rfl (by decide) mj_inU10 mjf_10_141), trivial⟩, ?_⟩
  refine List.forall_mem_cons.mpr ⟨⟨(show (0 : Int) ≤ ((4 : Nat) : Int) + 35 by decide), trivial⟩, ?_⟩
  refine List.forall_mem_cons.mpr ⟨⟨(trivial), trivial⟩, ?_⟩
  refine List.forall_mem_cons.mpr ⟨⟨(trivial), trivial⟩, ?_⟩
  refine List.forall_mem_cons.mpr ⟨⟨(trivial), mj_ckOf mjK_103 (by decide) (mj_lnkG mjl_10_152)⟩, ?_⟩
  refine List.forall_mem_cons.mpr ⟨⟨(show (0 : Int) ≤ ((12 : Nat) : Int) + 27 by decide), trivial⟩, ?_⟩
  refine List.forall_mem_cons.mpr ⟨⟨(trivial), trivial⟩, ?_⟩
  refine List.forall_mem_cons.mpr ⟨⟨(trivial), trivial⟩, ?_⟩
  refine List.forall_mem_cons.mpr ⟨⟨(trivial), trivial⟩, ?_⟩
  refine List.forall_mem_cons.mpr ⟨⟨(trivial), mj_ckOf mjK_101 (by decide) (mj_lnkG mjl_10_145)⟩, ?_⟩
  refine List.forall_mem_cons.mpr ⟨⟨(show (0 : Int) ≤ ((22 : Nat) : Int) + 17 by decide), trivial⟩, ?_⟩
  refine List.forall_mem_cons.mpr ⟨⟨(trivial), trivial⟩, ?_⟩
  refine List.forall_mem_cons.mpr ⟨⟨(mj_lkG (by decide) rfl (by decide) mj_inU10 mjf_10_105), trivial⟩, ?_⟩
  refine List.forall_mem_cons.mpr ⟨⟨(trivial), trivial⟩, ?_⟩
  refine List.forall_mem_cons.mpr ⟨⟨(trivial), trivial⟩, ?_⟩
  refine List.forall_mem_cons.mpr ⟨⟨(trivial), trivial⟩, ?_⟩
  refine List.forall_mem_cons.mpr ⟨⟨(trivial), trivial⟩, ?_⟩
  refine List.forall_mem_cons.mpr ⟨⟨(trivial), trivial⟩, ?_⟩
  refine List.forall_mem_cons.mpr ⟨⟨(trivial), trivial⟩, ?_⟩
  refine List.forall_mem_cons.mpr ⟨⟨(show (0 : Int) ≤ ((36 : Nat) : Int) + 4 by decide), trivial⟩, ?_⟩
  refine List.forall_mem_cons.mpr ⟨⟨(trivial), trivial⟩, ?_⟩
  refine List.forall_mem_cons.mpr ⟨⟨(trivial), trivial⟩, ?_⟩
  exact fun _ h => absurd h List.not_mem_nil
theorem mjd_144 : mj_ckd 144 = true := by decide +kernel
theorem mjg_144 : mj_good 144 := mj_goodOf (fun _ => ⟨mj_G, rfl⟩) (by decide +kernel) mjd_144 mje_144
theorem mje_145 : ∀ e ∈ mj_tb145, mj_lk 145 e.1 e.2.1 e.2.2.1 e.2.2.2 ∧ mj_cok 145 e.2.1 e.2.2.1 e.2.2.2 := by
  unfold mj_tb145
  refine List.forall_mem_cons.mpr ⟨⟨(trivial), trivial⟩, ?_⟩
  refine List.forall_mem_cons.mpr ⟨⟨(mj_lkG (by decide) rfl (by decide) mj_inU10 mjf_10_141), trivial⟩, ?_⟩
  refine List.forall_mem_cons.mpr ⟨⟨(show (0 : Int) ≤ ((4 : Nat) : Int) + 30 by decide), trivial⟩, ?_⟩
  refine List.forall_mem_cons.mpr ⟨⟨(trivial), trivial⟩, ?_⟩
  refine List.forall_mem_cons.mpr ⟨⟨(trivial), trivial⟩, ?_⟩
  refine List.forall_mem_cons.mpr ⟨⟨(trivial), trivial⟩, ?_⟩
  refine List.forall_mem_cons.mpr ⟨⟨(trivial), mj_ckOf mjK_101 (by decide) (mj_lnkG mjl_10_145)⟩, ?_⟩
  refine List.forall_mem_cons.mpr ⟨⟨(show (0 : Int) ≤ ((14 : Nat) : Int) + 20 by decide), trivial⟩, ?_⟩
  refine List.forall_mem_cons.mpr ⟨⟨(trivial), trivial⟩, ?_⟩
  refine List.forall_mem_cons.mpr ⟨⟨(trivial), trivial⟩, ?_⟩
  refine List.forall_mem_cons.mpr ⟨⟨(mj_lkG (by decide) rfl (by decide) mj_inU10 mjf_10_230), trivial⟩, ?_⟩
  refine List.forall_mem_cons.mpr ⟨⟨(show (0 : Int) ≤ ((22 : Nat) : Int) + 12 by decide), trivial⟩, ?_⟩
  refine List.forall_mem_cons.mpr ⟨⟨(trivial), trivial⟩, ?_⟩
  refine List.forall_mem_cons.mpr ⟨⟨(trivial), trivial⟩, ?_⟩
  refine List.forall_mem_cons.mpr ⟨⟨(trivial), trivial⟩, ?_⟩
  refine List.forall_mem_cons.mpr ⟨⟨(trivial), mj_ckOf mjK_101 (by decide) (mj_lnkG mjl_10_145)⟩, ?_⟩
  refine List.forall_mem_cons.mpr ⟨⟨(show (0 : Int) ≤ ((31 : Nat) : Int) + 5 by decide), trivial⟩, ?_⟩
  refine List.forall_mem_cons.mpr ⟨⟨(trivial), trivial⟩, ?_⟩
  refine List.forall_mem_cons.mpr ⟨⟨(trivial), trivial⟩, ?_⟩
  refine List.forall_mem_cons.mpr ⟨⟨(trivial), trivial⟩, ?_⟩
  refine List.forall_mem_cons.mpr ⟨⟨(mj_lkG (by decide) rfl (by decide) mj_inU10 mjf_10_230), trivial⟩, ?_⟩
  refine List.forall_mem_cons.mpr ⟨⟨(trivial), trivial⟩, ?_⟩
  refine List.forall_mem_cons.mpr ⟨⟨(trivial), trivial⟩, ?_⟩
  refine List.forall_mem_cons.mpr ⟨⟨(trivial), trivial⟩, ?_⟩
  refine List.forall_mem_cons.mpr ⟨⟨(trivial), trivial⟩, ?_⟩
  refine List.forall_mem_cons.mpr ⟨⟨(trivial), trivial⟩, ?_⟩
  refine List.forall_mem_cons.mpr ⟨⟨(trivial), trivial⟩, ?_⟩
  refine List.forall_mem_cons.mpr ⟨⟨(show (3 : Nat) < mj_maxL 145 by decide), trivial⟩, ?_⟩
  refine List.forall_mem_cons.mpr ⟨⟨(trivial), trivial⟩, ?_⟩
  refine List.forall_mem_cons.mpr ⟨⟨(show (0 : Int) ≤ ((49 : Nat) : Int) + 12 by decide), trivial⟩, ?_⟩
  refine List.forall_mem_cons.mpr ⟨⟨(trivial), trivial⟩, ?_⟩
  refine List.forall_mem_cons.mpr ⟨⟨(mj_lkG (by decide) rfl (by decide) mj_inU10 mjf_10_126), trivial⟩, ?_⟩
  refine List.forall_mem_cons.mpr ⟨⟨(trivial), trivial⟩, ?_⟩
  refine List.forall_mem_cons.mpr ⟨⟨(trivial), trivial⟩, ?_⟩
  refine List.forall_mem_cons.mpr ⟨⟨(show (0 : Int) ≤ ((58 : Nat) : Int) + 37 by decide), trivial⟩, ?_⟩
  refine List.forall_mem_cons.mpr ⟨⟨(trivial), trivial⟩, ?_⟩
  refine List.forall_mem_cons.mpr ⟨⟨(trivial), trivial⟩, ?_⟩
  refine List.forall_mem_cons.mpr ⟨⟨(show (0 : Int) ≤ ((63 : Nat) : Int) + 12 by decide), trivial⟩, ?_⟩
  refine List.forall_mem_cons.mpr ⟨⟨(trivial), trivial⟩, ?_⟩
  refine List.forall_mem_cons.mpr ⟨⟨(mj_lkG (by decide) rfl (by decide) mj_inU10 mjf_10_129), trivial⟩, ?_⟩
  refine List.forall_mem_cons.mpr ⟨⟨(trivial), trivial⟩, ?_⟩
  refine List.forall_mem_cons.mpr ⟨⟨(trivial), trivial⟩, ?_⟩
  refine List.forall_mem_cons.mpr ⟨⟨(show (0 : Int) ≤ ((72 : Nat) : Int) + 23 by decide), trivial⟩, ?_⟩
  refine List.forall_mem_cons.mpr ⟨⟨(trivial), trivial⟩, ?_⟩
  refine List.forall_mem_cons.mpr ⟨⟨(trivial), trivial⟩, ?_⟩
  refine List.forall_mem_cons.mpr ⟨⟨(show (0 : Int) ≤ ((77 : Nat) : Int) + 12 by decide), trivial⟩, ?_⟩
  refine List.forall_mem_cons.mpr ⟨⟨(trivial), trivial⟩, ?_⟩
  refine List.forall_mem_cons.mpr ⟨⟨(mj_lkG (by decide) rfl (by decide) mj_inU10 mjf_10_132), trivial⟩, ?_⟩
  refine List.forall_mem_cons.mpr ⟨⟨(trivial), trivial⟩, ?_⟩
  refine List.forall_mem_cons.mpr ⟨⟨(trivial), trivial⟩, ?_⟩
  refine List.forall_mem_cons.mpr ⟨⟨(show (0 : Int) ≤ ((86 : Nat) : Int) + 9 by decide), trivial⟩, ?_⟩
  refine List.forall_mem_cons.mpr ⟨⟨(trivial), trivial⟩, ?_⟩
  refine List.forall_mem_cons.mpr ⟨⟨(mj_lkG (by decide) rfl (by decide) mj_inU10 mjf_10_135), trivial⟩, ?_⟩
  refine List.forall_mem_cons.mpr ⟨⟨(trivial), trivial⟩, ?_⟩
  refine List.forall_mem_cons.mpr ⟨⟨(trivial), trivial⟩, ?_⟩
  refine List.forall_mem_cons.mpr ⟨⟨(trivial), trivial⟩, ?_⟩
  exact fun _ h => absurd h List.not_mem_nil
theorem mjd_145 : mj_ckd 145 = true := by decide +kernel
theorem mjg_145 : mj_good 145 := mj_goodOf (fun _ => ⟨mj_G, rfl⟩) (by decide +kernel) mjd_145 mje_145
theorem mje_146 : ∀ e ∈ mj_tb146, mj_lk 146 e.1 e.2.1 e.2.2.1 e.2.2.2 ∧ mj_cok 146 e.2.1 e.2.2.1 e.2.2.2 := by
  unfold mj_tb146
  refine List.forall_mem_cons.mpr ⟨⟨(mj_lkN (by decide) rfl mj_inU0 mj_TyOk0 (mj_Gin 14 (by decide +kernel) rfl) (mj_Gin 15 (by decide +kernel) rfl) (mj_Gin 1 (by decide +kernel) rfl) rfl (mj_noref (by decide +kernel)) (by decide +kernel)), trivial⟩, ?_⟩
  refine List.forall_mem_cons.mpr ⟨⟨(trivial), trivial⟩, ?_⟩
  refine List.forall_mem_cons.mpr ⟨⟨(trivial), mj_ckOf mjK_0 (by decide) (mj_lnkG mjl_11_9)⟩, ?_⟩
  refine List.forall_mem_cons.mpr ⟨⟨(show (1 : Nat) < mj_maxL 146 by decide), trivial⟩, ?_⟩
  refine List.forall_mem_cons.mpr ⟨⟨(mj_lkN (by decide) rfl mj_inU10 mj_TyOk10 (mj_Gin 727 (by decide +kernel) rfl) (mj_Gin 728 (by decide +kernel) rfl) (mj_Gin 11 (by decide +kernel) rfl) rfl (mj_noref (by decide +kernel)) (by decide +kernel)), trivial⟩, ?_⟩
  refine List.forall_mem_cons.mpr ⟨⟨(trivial), trivial⟩, ?_⟩
  refine List.forall_mem_cons.mpr ⟨⟨(trivial), mj_ckOf mjK_99 (by decide) (mj_lnkG mjl_11_12)⟩, ?_⟩
  refine List.forall_mem_cons.mpr ⟨⟨(show (2 : Nat) < mj_maxL 146 by decide), trivial⟩, ?_⟩
  refine List.forall_mem_cons.mpr ⟨⟨(trivial), trivial⟩, ?_⟩
  refine List.forall_mem_cons.mpr ⟨⟨(show (3 : Nat) < mj_maxL 146 by decide), trivial⟩, ?_⟩
  refine List.forall_mem_cons.mpr ⟨⟨(trivial), trivial⟩, ?_⟩
  refine List.forall_mem_cons.mpr ⟨⟨(trivial), trivial⟩, ?_⟩
  refine List.forall_mem_cons.mpr ⟨⟨(trivial), trivial⟩, ?_⟩
  refine List.forall_mem_cons.mpr ⟨⟨(trivial), trivial⟩, ?_⟩
  refine List.forall_mem_cons.mpr ⟨⟨(trivial), trivial⟩, ?_⟩
  refine List.forall_mem_cons.mpr ⟨⟨(show (0 : Int) ≤ ((24 : Nat) : Int) + 640 by decide), trivial⟩, ?_⟩
  refine List.forall_mem_cons.mpr ⟨⟨(trivial), trivial⟩, ?_⟩
  refine List.forall_mem_cons.mpr ⟨⟨(trivial), trivial⟩, ?_⟩
  refine List.forall_mem_cons.mpr ⟨⟨(trivial), trivial⟩, ?_⟩
  refine List.forall_mem_cons.mpr ⟨⟨(trivial), trivial⟩, ?_⟩
  refine List.forall_mem_cons.mpr ⟨⟨(trivial), trivial⟩, ?_⟩
  refine List.forall_mem_cons.mpr ⟨⟨(show (0 : Int) ≤ ((33 : Nat) : Int) + 625 ∧ ∀ off ∈ (#[95, 138, 201, 224, 237, 250, 273, 306, 329, 352, 375, 388, 401, 424, 457, 480, 503, 536, 559, 592] : Array Int).toList, (0 : Int) ≤ ((33 : Nat) : Int) + off by decide), trivial⟩, ?_⟩
  refine List.forall_mem_cons.mpr ⟨⟨(trivial), trivial⟩, ?_⟩
  refine List.forall_mem_cons.mpr ⟨⟨(trivial), trivial⟩, ?_⟩
  refine List.forall_mem_cons.mpr ⟨⟨(trivial), trivial⟩, ?_⟩
  refine List.forall_mem_cons.mpr ⟨⟨(trivial), trivial⟩, ?_⟩
  refine List.forall_mem_cons.mpr ⟨⟨(trivial), trivial⟩, ?_⟩
  refine List.forall_mem_cons.mpr ⟨⟨(trivial), trivial⟩, ?_⟩
  refine List.forall_mem_cons.mpr ⟨⟨(trivial), trivial⟩, ?_⟩
  refine List.forall_mem_cons.mpr ⟨⟨(trivial), trivial⟩, ?_⟩
  refine List.forall_mem_cons.mpr ⟨⟨(trivial), trivial⟩, ?_⟩
  refine List.forall_mem_cons.mpr ⟨⟨(trivial), trivial⟩, ?_⟩
  refine List.forall_mem_cons.mpr ⟨⟨(trivial), trivial⟩, ?_⟩
  refine List.forall_mem_cons.mpr ⟨⟨(trivial), trivial⟩, ?_⟩
  refine List.forall_mem_cons.mpr ⟨⟨(trivial), trivial⟩, ?_⟩
  refine List.forall_mem_cons.mpr ⟨⟨(trivial), trivial⟩, ?_⟩
  refine List.forall_mem_cons.mpr ⟨⟨(trivial), trivial⟩, ?_⟩
  refine List.forall_mem_cons.mpr ⟨⟨(trivial), trivial⟩, ?_⟩
  refine List.forall_mem_cons.mpr ⟨⟨(trivial), mj_ckOf mjK_10 (by decide) (mj_lnkG mjl_11_13)⟩, ?_⟩
  refine List.forall_mem_cons.mpr ⟨⟨(trivial), trivial⟩, ?_⟩
  refine List.forall_mem_cons.mpr ⟨⟨(trivial), trivial⟩, ?_⟩
  refine List.forall_mem_cons.mpr ⟨⟨(trivial), trivial⟩, ?_⟩
  refine List.forall_mem_cons.mpr ⟨⟨(trivial), trivial⟩, ?_⟩
  refine List.forall_mem_cons.mpr ⟨⟨(trivial), trivial⟩, ?_⟩
  refine List.forall_mem_cons.mpr ⟨⟨(trivial), trivial⟩, ?_⟩
  refine List.forall_mem_cons.mpr ⟨⟨(trivial), trivial⟩, ?_⟩
  refine List.forall_mem_cons.mpr ⟨⟨(trivial), trivial⟩, ?_⟩
  refine List.forall_mem_cons.mpr ⟨⟨(trivial), trivial⟩, ?_⟩
  refine List.forall_mem_cons.mpr ⟨⟨(trivial), trivial⟩, ?_⟩
  refine List.forall_mem_cons.mpr ⟨⟨(trivial), trivial⟩, ?_⟩
  refine List.forall_mem_cons.mpr ⟨⟨(trivial), trivial⟩, ?_⟩
  refine List.forall_mem_cons.mpr ⟨⟨(trivial), trivial⟩, ?_⟩
  refine List.forall_mem_cons.mpr ⟨⟨(trivial), trivial⟩, ?_⟩
  refine List.forall_mem_cons.mpr ⟨⟨(trivial), trivial⟩, ?_⟩
  refine List.forall_mem_cons.mpr ⟨⟨(trivial), trivial⟩, ?_⟩
  refine List.forall_mem_cons.mpr ⟨⟨(trivial), mj_ckOf mjK_100 (by decide) (mj_lnkG mjl_11_17)⟩, ?_⟩
  refine List.forall_mem_cons.mpr ⟨⟨(show (0 : Int) ≤ ((166 : Nat) : Int) + 492 by decide), trivial⟩, ?_⟩
  refine List.forall_mem_cons.mpr ⟨⟨(trivial), trivial⟩, ?_⟩
  refine List.forall_mem_cons.mpr ⟨⟨(trivial), trivial⟩, ?_⟩
  refine List.forall_mem_cons.mpr ⟨⟨(trivial), trivial⟩, ?_⟩
  refine List.forall_mem_cons.mpr ⟨⟨(trivial), trivial⟩, ?_⟩
  refine List.forall_mem_cons.mpr ⟨⟨(trivial), trivial⟩, ?_⟩
  refine List.forall_mem_cons.mpr ⟨⟨(trivial), trivial⟩, ?_⟩
  refine List.forall_mem_cons.mpr ⟨⟨(trivial), trivial⟩, ?_⟩
  refine List.forall_mem_cons.mpr ⟨⟨(trivial), trivial⟩, ?_⟩
  refine List.forall_mem_cons.mpr ⟨⟨(trivial), trivial⟩, ?_⟩
  refine List.forall_mem_cons.mpr ⟨⟨(trivial), trivial⟩, ?_⟩
  refine List.forall_mem_cons.mpr ⟨⟨(trivial), trivial⟩, ?_⟩
  refine List.forall_mem_cons.mpr ⟨⟨(trivial), trivial⟩, ?_⟩
  refine List.forall_mem_cons.mpr ⟨⟨(trivial), trivial⟩, ?_⟩
  refine List.forall_mem_cons.mpr ⟨⟨(trivial), trivial⟩, ?_⟩
  refine List.forall_mem_cons.mpr ⟨⟨(trivial), trivial⟩, ?_⟩
  refine List.forall_mem_cons.mpr ⟨⟨(trivial), trivial⟩, ?_⟩
  refine List.forall_mem_cons.mpr ⟨⟨(trivial), trivial⟩, ?_⟩
  refine List.forall_mem_cons.mpr ⟨⟨(trivial), trivial⟩, ?_⟩
  refine List.forall_mem_cons.mpr ⟨⟨(trivial), trivial⟩, ?_⟩
  refine List.forall_mem_cons.mpr ⟨⟨(trivial), trivial⟩, ?_⟩
  refine List.forall_mem_cons.mpr ⟨⟨(trivial), trivial⟩, ?_⟩
  refine List.forall_mem_cons.mpr ⟨⟨(trivial), trivial⟩, ?_⟩
  refine List.forall_mem_cons.mpr ⟨⟨(trivial), trivial⟩, ?_⟩
  refine List.forall_mem_cons.mpr ⟨⟨(trivial), trivial⟩, ?_⟩
  refine List.forall_mem_cons.mpr ⟨⟨(trivial), trivial⟩, ?_⟩
  refine List.forall_mem_cons.mpr ⟨⟨(trivial), trivial⟩, ?_⟩
  refine List.forall_mem_cons.mpr ⟨⟨(trivial), trivial⟩, ?_⟩
  refine List.forall_mem_cons.mpr ⟨⟨(trivial), trivial⟩, ?_⟩
  refine List.forall_mem_cons.mpr ⟨⟨(trivial), mj_ckOf mjK_13 (by decide) (mj_lnkG mjl_11_18)⟩, ?_⟩
  refine List.forall_mem_cons.mpr ⟨⟨(trivial), trivial⟩, ?_⟩
  refine List.forall_mem_cons.mpr ⟨⟨(trivial), trivial⟩, ?_⟩
  refine List.forall_mem_cons.mpr ⟨⟨(trivial), trivial⟩, ?_⟩
  refine List.forall_mem_cons.mpr ⟨⟨(trivial), trivial⟩, ?_⟩
  refine List.forall_mem_cons.mpr ⟨⟨(trivial), trivial⟩, ?_⟩
  refine List.forall_mem_cons.mpr ⟨⟨(trivial), trivial⟩, ?_⟩
  refine List.forall_mem_cons.mpr ⟨⟨(trivial), trivial⟩, ?_⟩
  refine List.forall_mem_cons.mpr ⟨⟨(trivial), trivial⟩, ?_⟩
  refine List.forall_mem_cons.mpr ⟨⟨(trivial), trivial⟩, ?_⟩
  refine List.forall_mem_cons.mpr ⟨⟨(trivial), trivial⟩, ?_⟩
  refine List.forall_mem_cons.mpr ⟨⟨(trivial), trivial⟩, ?_⟩
  refine List.forall_mem_cons.mpr ⟨⟨(trivial), trivial⟩, ?_⟩
  refine List.forall_mem_cons.mpr ⟨⟨(trivial), trivial⟩, ?_⟩
  refine List.forall_mem_cons.mpr ⟨⟨(trivial), trivial⟩, ?_⟩
  refine List.forall_mem_cons.mpr ⟨⟨(trivial), trivial⟩, ?_⟩
  refine List.forall_mem_cons.mpr ⟨⟨(trivial), trivial⟩, ?_⟩
  refine List.forall_mem_cons.mpr ⟨⟨(trivial), trivial⟩, ?_⟩
  refine List.forall_mem_cons.mpr ⟨⟨(trivial), trivial⟩, ?_⟩
  refine List.forall_mem_cons.mpr ⟨⟨(trivial), trivial⟩, ?_⟩
  refine List.forall_mem_cons.mpr ⟨⟨(trivial), trivial⟩, ?_⟩
  refine List.forall_mem_cons.mpr ⟨⟨(trivial), trivial⟩, ?_⟩
  refine List.forall_mem_cons.mpr ⟨⟨(trivial), trivial⟩, ?_⟩
  refine List.forall_mem_cons.mpr ⟨⟨(trivial), trivial⟩, ?_⟩
  refine List.forall_mem_cons.mpr ⟨⟨(trivial), trivial⟩, ?_⟩
  refine List.forall_mem_cons.mpr ⟨⟨(trivial), trivial⟩, ?_⟩
  refine List.forall_mem_cons.mpr ⟨⟨(trivial), trivial⟩, ?_⟩
  refine List.forall_mem_cons.mpr ⟨⟨(trivial), mj_ckOf mjK_102 (by decide) (mj_lnkG mjl_11_22)⟩, ?_⟩
  refine List.forall_mem_cons.mpr ⟨⟨(show (0 : Int) ≤ ((229 : Nat) : Int) + 429 by decide), trivial⟩, ?_⟩
  refine List.forall_mem_cons.mpr ⟨⟨(trivial), trivial⟩, ?_⟩
  refine List.forall_mem_cons.mpr ⟨⟨(trivial), trivial⟩, ?_⟩
  refine List.forall_mem_cons.mpr ⟨⟨(trivial), trivial⟩, ?_⟩
  refine List.forall_mem_cons.mpr ⟨⟨(trivial), trivial⟩, ?_⟩
  refine List.forall_mem_cons.mpr ⟨⟨(trivial), trivial⟩, ?_⟩
  refine List.forall_mem_cons.mpr ⟨⟨(trivial), trivial⟩, ?_⟩
  refine List.forall_mem_cons.mpr ⟨⟨(trivial), trivial⟩, ?_⟩
  refine List.forall_mem_cons.mpr ⟨⟨(trivial), trivial⟩, ?_⟩
  refine List.forall_mem_cons.mpr ⟨⟨(trivial), mj_ckOf mjK_18 (by decide) (mj_lnkG mjl_11_23)⟩, ?_⟩
  refine List.forall_mem_cons.mpr ⟨⟨(trivial), trivial⟩, ?_⟩
  refine List.forall_mem_cons.mpr ⟨⟨(trivial), trivial⟩, ?_⟩
  refine List.forall_mem_cons.mpr ⟨⟨(trivial), trivial⟩, ?_⟩
  refine List.forall_mem_cons.mpr ⟨⟨(trivial), trivial⟩, ?_⟩
  refine List.forall_mem_cons.mpr ⟨⟨(trivial), trivial⟩, ?_⟩
  refine List.forall_mem_cons.mpr ⟨⟨(trivial), trivial⟩, ?_⟩
  refine List.forall_mem_cons.mpr ⟨⟨(trivial), mj_ckOf mjK_105 (by decide) (mj_lnkG mjl_11_27)⟩, ?_⟩
  refine List.forall_mem_cons.mpr ⟨⟨(show (0 : Int) ≤ ((252 : Nat) : Int) + 406 by decide), trivial⟩, ?_⟩
  refine List.forall_mem_cons.mpr ⟨⟨(trivial), trivial⟩, ?_⟩
  refine List.forall_mem_cons.mpr ⟨⟨(trivial), trivial⟩, ?_⟩
  refine List.forall_mem_cons.mpr ⟨⟨(trivial), trivial⟩, ?_⟩
  refine List.forall_mem_cons.mpr ⟨⟨(trivial), mj_ckOf mjK_20 (by decide) (mj_lnkG mjl_11_28)⟩, ?_⟩
  refine List.forall_mem_cons.mpr ⟨⟨(trivial), trivial⟩, ?_⟩
  refine List.forall_mem_cons.mpr ⟨⟨(trivial), mj_ckOf mjK_106 (by decide) (mj_lnkG mjl_11_32)⟩, ?_⟩
  refine List.forall_mem_cons.mpr ⟨⟨(show (0 : Int) ≤ ((265 : Nat) : Int) + 393 by decide), trivial⟩, ?_⟩
  refine List.forall_mem_cons.mpr ⟨⟨(trivial), trivial⟩, ?_⟩
  refine List.forall_mem_cons.mpr ⟨⟨(trivial), trivial⟩, ?_⟩
  refine List.forall_mem_cons.mpr ⟨⟨(trivial), trivial⟩, ?_⟩
  refine List.forall_mem_cons.mpr ⟨⟨(trivial), mj_ckOf mjK_45 (by decide) (mj_lnkG mjl_11_33)⟩, ?_⟩
  refine List.forall_mem_cons.mpr ⟨⟨(trivial), trivial⟩, ?_⟩
  refine List.forall_mem_cons.mpr ⟨⟨(trivial), mj_ckOf mjK_120 (by decide) (mj_lnkG mjl_11_36)⟩, ?_⟩
  refine List.forall_mem_cons.mpr ⟨⟨(show (0 : Int) ≤ ((278 : Nat) : Int) + 380 by decide), trivial⟩, ?_⟩
  refine List.forall_mem_cons.mpr ⟨⟨(trivial), trivial⟩, ?_⟩
  refine List.forall_mem_cons.mpr ⟨⟨(trivial), trivial⟩, ?_⟩
  refine List.forall_mem_cons.mpr ⟨⟨(trivial), trivial⟩, ?_⟩
  refine List.forall_mem_cons.mpr ⟨⟨(trivial), trivial⟩, ?_⟩
  refine List.forall_mem_cons.mpr ⟨⟨(trivial), trivial⟩, ?_⟩
  refine List.forall_mem_cons.mpr ⟨⟨(trivial), trivial⟩, ?_⟩
  refine List.forall_mem_cons.mpr ⟨⟨(trivial), trivial⟩, ?_⟩
  refine List.forall_mem_cons.mpr ⟨⟨(trivial), trivial⟩, ?_⟩
  refine List.forall_mem_cons.mpr ⟨⟨(trivial), mj_ckOf mjK_46 (by decide) (mj_lnkG mjl_11_37)⟩, ?_⟩
  refine List.forall_mem_cons.mpr ⟨⟨(trivial), trivial⟩, ?_⟩
  refine List.forall_mem_cons.mpr ⟨⟨(trivial), trivial⟩, ?_⟩
  refine List.forall_mem_cons.mpr ⟨⟨(trivial), trivial⟩, ?_⟩
  refine List.forall_mem_cons.mpr ⟨⟨(trivial), trivial⟩, ?_⟩
  refine List.forall_mem_cons.mpr ⟨⟨(trivial), trivial⟩, ?_⟩
  refine List.forall_mem_cons.mpr ⟨⟨(trivial), trivial⟩, ?_⟩
  refine List.forall_mem_cons.mpr ⟨⟨(trivial), mj_ckOf mjK_121 (by decide) (mj_lnkG mjl_11_41)⟩, ?_⟩
  refine List.forall_mem_cons.mpr ⟨⟨(show (0 : Int) ≤ ((301 : Nat) : Int) + 357 by decide), trivial⟩, ?_⟩
  refine List.forall_mem_cons.mpr ⟨⟨(trivial), trivial⟩, ?_⟩
  refine List.forall_mem_cons.mpr ⟨⟨(trivial), trivial⟩, ?_⟩
  refine List.forall_mem_cons.mpr ⟨⟨(trivial), trivial⟩, ?_⟩
  refine List.forall_mem_cons.mpr ⟨⟨(trivial), trivial⟩, ?_⟩
  refine List.forall_mem_cons.mpr ⟨⟨(trivial), trivial⟩, ?_⟩
  refine List.forall_mem_cons.mpr ⟨⟨(trivial), trivial⟩, ?_⟩
  refine List.forall_mem_cons.mpr ⟨⟨(trivial), trivial⟩, ?_⟩
  refine List.forall_mem_cons.mpr ⟨⟨(trivial), trivial⟩, ?_⟩
  refine List.forall_mem_cons.mpr ⟨⟨(trivial), trivial⟩, ?_⟩
  refine List.forall_mem_cons.mpr ⟨⟨(trivial), trivial⟩, ?_⟩
  refine List.forall_mem_cons.mpr ⟨⟨(trivial), trivial⟩, ?_⟩
  refine List.forall_mem_cons.mpr ⟨⟨(trivial), trivial⟩, ?_⟩
  refine List.forall_mem_cons.mpr ⟨⟨(trivial), trivial⟩, ?_⟩
  refine List.forall_mem_cons.mpr ⟨⟨(trivial), mj_ckOf mjK_48 (by decide) (mj_lnkG mjl_11_42)⟩, ?_⟩
  refine List.forall_mem_cons.mpr ⟨⟨(trivial), trivial⟩, ?_⟩
  refine List.forall_mem_cons.mpr ⟨⟨(trivial), trivial⟩, ?_⟩
  refine List.forall_mem_cons.mpr ⟨⟨(trivial), trivial⟩, ?_⟩
  refine List.forall_mem_cons.mpr ⟨⟨(trivial), trivial⟩, ?_⟩
  refine List.forall_mem_cons.mpr ⟨⟨(trivial), trivial⟩, ?_⟩
  refine List.forall_mem_cons.mpr ⟨⟨(trivial), trivial⟩, ?_⟩
  refine List.forall_mem_cons.mpr ⟨⟨(trivial), trivial⟩, ?_⟩
  refine List.forall_mem_cons.mpr ⟨⟨(trivial), trivial⟩, ?_⟩
  refine List.forall_mem_cons.mpr ⟨⟨(trivial), trivial⟩, ?_⟩
  refine List.forall_mem_cons.mpr ⟨⟨(trivial), trivial⟩, ?_⟩
  refine List.forall_mem_cons.mpr ⟨⟨(trivial), trivial⟩, ?_⟩
  refine List.forall_mem_cons.mpr ⟨⟨(trivial), mj_ckOf mjK_122 (by decide) (mj_lnkG mjl_11_46)⟩, ?_⟩
  refine List.forall_mem_cons.mpr ⟨⟨(show (0 : Int) ≤ ((334 : Nat) : Int) + 324 by decide), trivial⟩, ?_⟩
  refine List.forall_mem_cons.mpr ⟨⟨(trivial), trivial⟩, ?_⟩
  refine List.forall_mem_cons.mpr ⟨⟨(trivial), trivial⟩, ?_⟩
  refine List.forall_mem_cons.mpr ⟨⟨(trivial), trivial⟩, ?_⟩
  refine List.forall_mem_cons.mpr ⟨⟨(trivial), trivial⟩, ?_⟩
  refine List.forall_mem_cons.mpr ⟨⟨(trivial), trivial⟩, ?_⟩
  refine List.forall_mem_cons.mpr ⟨⟨(trivial), trivial⟩, ?_⟩
  refine List.forall_mem_cons.mpr ⟨⟨(trivial), trivial⟩, ?_⟩
  refine List.forall_mem_cons.mpr ⟨⟨(trivial), trivial⟩, ?_⟩
  refine List.forall_mem_cons.mpr ⟨⟨(trivial), mj_ckOf mjK_49 (by decide) (mj_lnkG mjl_11_47)⟩, ?_⟩
  refine List.forall_mem_cons.mpr ⟨⟨(trivial), trivial⟩, ?_⟩
  refine List.forall_mem_cons.mpr ⟨⟨(trivial), trivial⟩, ?_⟩
  refine List.forall_mem_cons.mpr ⟨⟨(trivial), trivial⟩, ?_⟩
  refine List.forall_mem_cons.mpr ⟨⟨(trivial), trivial⟩, ?_⟩
  refine List.forall_mem_cons.mpr ⟨⟨(trivial), trivial⟩, ?_⟩
  refine List.forall_mem_cons.mpr ⟨⟨(trivial), trivial⟩, ?_⟩
  refine List.forall_mem_cons.mpr ⟨⟨(trivial), mj_ckOf mjK_123 (by decide) (mj_lnkG mjl_11_50)⟩, ?_⟩
  refine List.forall_mem_cons.mpr ⟨⟨(show (0 : Int) ≤ ((357 : Nat) : Int) + 301 by decide), trivial⟩, ?_⟩
  refine List.forall_mem_cons.mpr ⟨⟨(trivial), trivial⟩, ?_⟩
  refine List.forall_mem_cons.mpr ⟨⟨(trivial), trivial⟩, ?_⟩
  refine List.forall_mem_cons.mpr ⟨⟨(trivial), trivial⟩, ?_⟩
  refine List.forall_mem_cons.mpr ⟨⟨(trivial), trivial⟩, ?_⟩
  refine List.forall_mem_cons.mpr ⟨⟨(trivial), trivial⟩, ?_⟩
  refine List.forall_mem_cons.mpr ⟨⟨(trivial), trivial⟩, ?_⟩
  refine List.forall_mem_cons.mpr ⟨⟨(trivial), trivial⟩, ?_⟩
  refine List.forall_mem_cons.mpr ⟨⟨(trivial), trivial⟩, ?_⟩
  refine List.forall_mem_cons.mpr ⟨⟨(trivial), mj_ckOf mjK_50 (by decide) (mj_lnkG mjl_11_51)⟩, ?_⟩
  refine List.forall_mem_cons.mpr ⟨⟨(trivial), trivial⟩, ?_⟩
  refine List.forall_mem_cons.mpr ⟨⟨(trivial), trivial⟩, ?_⟩
  refine List.forall_mem_cons.mpr ⟨⟨(trivial), trivial⟩, ?_⟩
  refine List.forall_mem_cons.mpr ⟨⟨(trivial), trivial⟩, ?_⟩
  refine List.forall_mem_cons.mpr ⟨⟨(trivial), trivial⟩, ?_⟩
  refine List.forall_mem_cons.mpr ⟨⟨(trivial), trivial⟩, ?_⟩
  refine List.forall_mem_cons.mpr ⟨⟨(trivial), mj_ckOf mjK_124 (by decide) (mj_lnkG mjl_11_54)⟩, ?_⟩
  refine List.forall_mem_cons.mpr ⟨⟨(show (0 : Int) ≤ ((380 : Nat) : Int) + 278 by decide), trivial⟩, ?_⟩
  refine List.forall_mem_cons.mpr ⟨⟨(trivial), trivial⟩, ?_⟩
  refine List.forall_mem_cons.mpr ⟨⟨(trivial), trivial⟩, ?_⟩
  refine List.forall_mem_cons.mpr ⟨⟨(trivial), trivial⟩, ?_⟩
  refine List.forall_mem_cons.mpr ⟨⟨(trivial), trivial⟩, ?_⟩
  refine List.forall_mem_cons.mpr ⟨⟨(trivial), trivial⟩, ?_⟩
  refine List.forall_mem_cons.mpr ⟨⟨(trivial), trivial⟩, ?_⟩
  refine List.forall_mem_cons.mpr ⟨⟨(trivial), trivial⟩, ?_⟩
  refine List.forall_mem_cons.mpr ⟨⟨(trivial), trivial⟩, ?_⟩
  refine List.forall_mem_cons.mpr ⟨⟨(trivial), mj_ckOf mjK_51 (by decide) (mj_lnkG mjl_11_55)⟩, ?_⟩
  refine List.forall_mem_cons.mpr ⟨⟨(trivial), trivial⟩, ?_⟩
  refine List.forall_mem_cons.mpr ⟨⟨(trivial), trivial⟩, ?_⟩
  refine List.forall_mem_cons.mpr ⟨⟨(trivial), trivial⟩, ?_⟩
  refine List.forall_mem_cons.mpr ⟨⟨(trivial), trivial⟩, ?_⟩
  refine List.forall_mem_cons.mpr ⟨⟨(trivial), trivial⟩, ?_⟩
  refine List.forall_mem_cons.mpr ⟨⟨(trivial), trivial⟩, ?_⟩
  refine List.forall_mem_cons.mpr ⟨⟨(trivial), mj_ckOf mjK_125 (by decide) (mj_lnkG mjl_11_58)⟩, ?_⟩
  refine List.forall_mem_cons.mpr ⟨⟨(show (0 : Int) ≤ ((403 : Nat) : Int) + 255 by decide), trivial⟩, ?_⟩
  refine List.forall_mem_cons.mpr ⟨⟨(trivial), trivial⟩, ?_⟩
  refine List.forall_mem_cons.mpr ⟨⟨(trivial), trivial⟩, ?_⟩
  refine List.forall_mem_cons.mpr ⟨⟨(trivial), trivial⟩, ?_⟩
  refine List.forall_mem_cons.mpr ⟨⟨(trivial), mj_ckOf mjK_52 (by decide) (mj_lnkG mjl_11_59)⟩, ?_⟩
  refine List.forall_mem_cons.mpr ⟨⟨(trivial), trivial⟩, ?_⟩
  refine List.forall_mem_cons.mpr ⟨⟨(trivial), mj_ckOf mjK_126 (by decide) (mj_lnkG mjl_11_63)⟩, ?_⟩
  refine List.forall_mem_cons.mpr ⟨⟨(show (0 : Int) ≤ ((416 : Nat) : Int) + 242 by decide), trivial⟩, ?_⟩
  refine List.forall_mem_cons.mpr ⟨⟨(trivial), trivial⟩, ?_⟩
  refine List.forall_mem_cons.mpr ⟨⟨(trivial), trivial⟩, ?_⟩
  refine List.forall_mem_cons.mpr ⟨⟨(trivial), trivial⟩, ?_⟩
  refine List.forall_mem_cons.mpr ⟨⟨(trivial), mj_ckOf mjK_57 (by decide) (mj_lnkG mjl_11_64)⟩, ?_⟩
  refine List.forall_mem_cons.mpr ⟨⟨(trivial), trivial⟩, ?_⟩
  refine List.forall_mem_cons.mpr ⟨⟨(trivial), mj_ckOf mjK_127 (by decide) (mj_lnkG mjl_11_67)⟩, ?_⟩
  refine List.forall_mem_cons.mpr ⟨⟨(show (0 : Int) ≤ ((429 : Nat) : Int) + 229 by decide), trivial⟩, ?_⟩
  refine List.forall_mem_cons.mpr ⟨⟨(trivial), trivial⟩, ?_⟩
  refine List.forall_mem_cons.mpr ⟨⟨(trivial), trivial⟩, ?_⟩
  refine List.forall_mem_cons.mpr ⟨⟨(trivial), trivial⟩, ?_⟩
  refine List.forall_mem_cons.mpr ⟨⟨(trivial), trivial⟩, ?_⟩
  refine List.forall_mem_cons.mpr ⟨⟨(trivial), trivial⟩, ?_⟩
  refine List.forall_mem_cons.mpr ⟨⟨(trivial), trivial⟩, ?_⟩
  refine List.forall_mem_cons.mpr ⟨⟨(trivial), trivial⟩, ?_⟩
  refine List.forall_mem_cons.mpr ⟨⟨(trivial), trivial⟩, ?_⟩
  refine List.forall_mem_cons.mpr ⟨⟨(trivial), mj_ckOf mjK_58 (by decide) (mj_lnkG mjl_11_68)⟩, ?_⟩
  refine List.forall_mem_cons.mpr ⟨⟨(trivial), trivial⟩, ?_⟩
  refine List.forall_mem_cons.mpr ⟨⟨(trivial), trivial⟩, ?_⟩
  refine List.forall_mem_cons.mpr ⟨⟨(trivial), trivial⟩, ?_⟩
  refine List.forall_mem_cons.mpr ⟨⟨(trivial), trivial⟩, ?_⟩
  refine List.forall_mem_cons.mpr ⟨⟨(trivial), trivial⟩, ?_⟩
  refine List.forall_mem_cons.mpr ⟨⟨(trivial), trivial⟩, ?_⟩
  refine List.forall_mem_cons.mpr ⟨⟨(trivial), mj_ckOf mjK_128 (by decide) (mj_lnkG mjl_11_71)⟩, ?_⟩
  refine List.forall_mem_cons.mpr ⟨⟨(show (0 : Int) ≤ ((452 : Nat) : Int) + 206 by decide), trivial⟩, ?_⟩
  refine List.forall_mem_cons.mpr ⟨⟨(trivial), trivial⟩, ?_⟩
  refine List.forall_mem_cons.mpr ⟨⟨(trivial), trivial⟩, ?_⟩
  refine List.forall_mem_cons.mpr ⟨⟨(trivial), trivial⟩, ?_⟩
  refine List.forall_mem_cons.mpr ⟨⟨(trivial), trivial⟩, ?_⟩
  refine List.forall_mem_cons.mpr ⟨⟨(trivial), trivial⟩, ?_⟩
  refine List.forall_mem_cons.mpr ⟨⟨(trivial), trivial⟩, ?_⟩
  refine List.forall_mem_cons.mpr ⟨⟨(trivial), trivial⟩, ?_⟩
  refine List.forall_mem_cons.mpr ⟨⟨(trivial), trivial⟩, ?_⟩
  refine List.forall_mem_cons.mpr ⟨⟨(trivial), trivial⟩, ?_⟩
  refine List.forall_mem_cons.mpr ⟨⟨(trivial), trivial⟩, ?_⟩
  refine List.forall_mem_cons.mpr ⟨⟨(trivial), trivial⟩, ?_⟩
  refine List.forall_mem_cons.mpr ⟨⟨(trivial), trivial⟩, ?_⟩
  refine List.forall_mem_cons.mpr ⟨⟨(trivial), trivial⟩, ?_⟩
  refine List.forall_mem_cons.mpr ⟨⟨(trivial), mj_ckOf mjK_61 (by decide) (mj_lnkG mjl_11_72)⟩, ?_⟩
  refine List.forall_mem_cons.mpr ⟨⟨(trivial), trivial⟩, ?_⟩
  refine List.forall_mem_cons.mpr ⟨⟨(trivial), trivial⟩, ?_⟩
  refine List.forall_mem_cons.mpr ⟨⟨(trivial), trivial⟩, ?_⟩
  refine List.forall_mem_cons.mpr ⟨⟨(trivial), trivial⟩, ?_⟩
  refine List.forall_mem_cons.mpr ⟨⟨(trivial), trivial⟩, ?_⟩
  refine List.forall_mem_cons.mpr ⟨⟨(trivial), trivial⟩, ?_⟩
  refine List.forall_mem_cons.mpr ⟨⟨(trivial), trivial⟩, ?_⟩
  refine List.forall_mem_cons.mpr ⟨⟨(trivial), trivial⟩, ?_⟩
  refine List.forall_mem_cons.mpr ⟨⟨(trivial), trivial⟩, ?_⟩
  refine List.forall_mem_cons.mpr ⟨⟨(trivial), trivial⟩, ?_⟩
  refine List.forall_mem_cons.mpr ⟨⟨(trivial), trivial⟩, ?_⟩
  refine List.forall_mem_cons.mpr ⟨⟨(trivial), mj_ckOf mjK_129 (by decide) (mj_lnkG mjl_11_76)⟩, ?_⟩
  refine List.forall_mem_cons.mpr ⟨⟨(show (0 : Int) ≤ ((485 : Nat) : Int) + 173 by decide), trivial⟩, ?_⟩
  refine List.forall_mem_cons.mpr ⟨⟨(trivial), trivial⟩, ?_⟩
  refine List.forall_mem_cons.mpr ⟨⟨(trivial), trivial⟩, ?_⟩
  refine List.forall_mem_cons.mpr ⟨⟨(trivial), trivial⟩, ?_⟩
  refine List.forall_mem_cons.mpr ⟨⟨(trivial), trivial⟩, ?_⟩
  refine List.forall_mem_cons.mpr ⟨⟨(trivial), trivial⟩, ?_⟩
  refine List.forall_mem_cons.mpr ⟨⟨(trivial), trivial⟩, ?_⟩
  refine List.forall_mem_cons.mpr ⟨⟨(trivial), trivial⟩, ?_⟩
  refine List.forall_mem_cons.mpr ⟨⟨(trivial), trivial⟩, ?_⟩
  refine List.forall_mem_cons.mpr ⟨⟨(trivial), mj_ckOf mjK_62 (by decide) (mj_lnkG mjl_11_77)⟩, ?_⟩
  refine List.forall_mem_cons.mpr ⟨⟨(trivial), trivial⟩, ?_⟩
  refine List.forall_mem_cons.mpr ⟨⟨(trivial), trivial⟩, ?_⟩
  refine List.forall_mem_cons.mpr ⟨⟨(trivial), trivial⟩, ?_⟩
  refine List.forall_mem_cons.mpr ⟨⟨(trivial), trivial⟩, ?_⟩
  refine List.forall_mem_cons.mpr ⟨⟨(trivial), trivial⟩, ?_⟩
  refine List.forall_mem_cons.mpr ⟨⟨(trivial), trivial⟩, ?_⟩
  refine List.forall_mem_cons.mpr ⟨⟨(trivial), mj_ckOf mjK_130 (by decide) (mj_lnkG mjl_11_80)⟩, ?_⟩
  refine List.forall_mem_cons.mpr ⟨⟨(show (0 : Int) ≤ ((508 : Nat) : Int) + 150 by decide), trivial⟩, ?_⟩
  refine List.forall_mem_cons.mpr ⟨⟨(trivial), trivial⟩, ?_⟩
  refine List.forall_mem_cons.mpr ⟨⟨(trivial), trivial⟩, ?_⟩
  refine List.forall_mem_cons.mpr ⟨⟨(trivial), trivial⟩, ?_⟩
  refine List.forall_mem_cons.mpr ⟨⟨(trivial), trivial⟩, ?_⟩
  refine List.forall_mem_cons.mpr ⟨⟨(trivial), trivial⟩, ?_⟩
  refine List.forall_mem_cons.mpr ⟨⟨(trivial), trivial⟩, ?_⟩
  refine List.forall_mem_cons.mpr ⟨⟨(trivial), trivial⟩, ?_⟩
  refine List.forall_mem_cons.mpr ⟨⟨(trivial), trivial⟩, ?_⟩
  refine List.forall_mem_cons.mpr ⟨⟨(trivial), mj_ckOf mjK_91 (by decide) (mj_lnkG mjl_11_81)⟩, ?_⟩
  refine List.forall_mem_cons.mpr ⟨⟨(trivial), trivial⟩, ?_⟩
  refine List.forall_mem_cons.mpr ⟨⟨(trivial), trivial⟩, ?_⟩
  refine List.forall_mem_cons.mpr ⟨⟨(trivial), trivial⟩, ?_⟩
  refine List.forall_mem_cons.mpr ⟨⟨(trivial), trivial⟩, ?_⟩
  refine List.forall_mem_cons.mpr ⟨⟨(trivial), trivial⟩, ?_⟩
  refine List.forall_mem_cons.mpr ⟨⟨(trivial), trivial⟩, ?_⟩
  refine List.forall_mem_cons.mpr ⟨⟨(trivial), mj_ckOf mjK_141 (by decide) (mj_lnkG mjl_11_84)⟩, ?_⟩
  refine List.forall_mem_cons.mpr ⟨⟨(show (0 : Int) ≤ ((531 : Nat) : Int) + 127 by decide), trivial⟩, ?_⟩
  refine List.forall_mem_cons.mpr ⟨⟨(trivial), trivial⟩, ?_⟩
  refine List.forall_mem_cons.mpr ⟨⟨(trivial), trivial⟩, ?_⟩
  refine List.forall_mem_cons.mpr ⟨⟨(trivial), trivial⟩, ?_⟩
  refine List.forall_mem_cons.mpr ⟨⟨(trivial), trivial⟩, ?_⟩
  refine List.forall_mem_cons.mpr ⟨⟨(trivial), trivial⟩, ?_⟩
  refine List.forall_mem_cons.mpr ⟨⟨(trivial), trivial⟩, ?_⟩
  refine List.forall_mem_cons.mpr ⟨⟨(trivial), trivial⟩, ?_⟩
  refine List.forall_mem_cons.mpr ⟨⟨(trivial), trivial⟩, ?_⟩
  refine List.forall_mem_cons.mpr ⟨⟨(trivial), trivial⟩, ?_⟩
  refine List.forall_mem_cons.mpr ⟨⟨(trivial), trivial⟩, ?_⟩
  refine List.forall_mem_cons.mpr ⟨⟨(trivial), trivial⟩, ?_⟩
  refine List.forall_mem_cons.mpr ⟨⟨(trivial), trivial⟩, ?_⟩
  refine List.forall_mem_cons.mpr ⟨⟨(trivial), trivial⟩, ?_⟩
  refine List.forall_mem_cons.mpr ⟨⟨(trivial), mj_ckOf mjK_93 (by decide) (mj_lnkG mjl_11_85)⟩, ?_⟩
  refine List.forall_mem_cons.mpr ⟨⟨(trivial), trivial⟩, ?_⟩
  refine List.forall_mem_cons.mpr ⟨⟨(trivial), trivial⟩, ?_⟩
  refine List.forall_mem_cons.mpr ⟨⟨(trivial), trivial⟩, ?_⟩
  refine List.forall_mem_cons.mpr ⟨⟨(trivial), trivial⟩, ?_⟩
  refine List.forall_mem_cons.mpr ⟨⟨(trivial), trivial⟩, ?_⟩
  refine List.forall_mem_cons.mpr ⟨⟨(trivial), trivial⟩, ?_⟩
  refine List.forall_mem_cons.mpr ⟨⟨(trivial), trivial⟩, ?_⟩
  refine List.forall_mem_cons.mpr ⟨⟨(trivial), trivial⟩, ?_⟩
  refine List.forall_mem_cons.mpr ⟨⟨(trivial), trivial⟩, ?_⟩
  refine List.forall_mem_cons.mpr ⟨⟨(trivial), trivial⟩, ?_⟩
  refine List.forall_mem_cons.mpr ⟨⟨(trivial), trivial⟩, ?_⟩
  refine List.forall_mem_cons.mpr ⟨⟨(trivial), mj_ckOf mjK_142 (by decide) (mj_lnkG mjl_11_88)⟩, ?_⟩
  refine List.forall_mem_cons.mpr ⟨⟨(show (0 : Int) ≤ ((564 : Nat) : Int) + 94 by decide), trivial⟩, ?_⟩
  refine List.forall_mem_cons.mpr ⟨⟨(trivial), trivial⟩, ?_⟩
  refine List.forall_mem_cons.mpr ⟨⟨(trivial), trivial⟩, ?_⟩
  refine List.forall_mem_cons.mpr ⟨⟨(trivial), trivial⟩, ?_⟩
  refine List.forall_mem_cons.mpr ⟨⟨(trivial), trivial⟩, ?_⟩
  refine List.forall_mem_cons.mpr ⟨⟨(trivial), trivial⟩, ?_⟩
  refine List.forall_mem_cons.mpr ⟨⟨(trivial), trivial⟩, ?_⟩
  refine List.forall_mem_cons.mpr ⟨⟨(trivial), trivial⟩, ?_⟩
  refine List.forall_mem_cons.mpr ⟨⟨(trivial), trivial⟩, ?_⟩
  refine List.forall_mem_cons.mpr ⟨⟨(trivial), mj_ckOf mjK_95 (by decide) (mj_lnkG mjl_11_89)⟩, ?_⟩
  refine List.forall_mem_cons.mpr ⟨⟨(trivial), trivial⟩, ?_⟩
  refine List.forall_mem_cons.mpr ⟨⟨(trivial), trivial⟩, ?_⟩
  refine List.forall_mem_cons.mpr ⟨⟨(trivial), trivial⟩, ?_⟩
  refine List.forall_mem_cons.mpr ⟨⟨(trivial), trivial⟩, ?_⟩
  refine List.forall_mem_cons.mpr ⟨⟨(trivial), trivial⟩, ?_⟩
  refine List.forall_mem_cons.mpr ⟨⟨(trivial), trivial⟩, ?_⟩
  refine List.forall_mem_cons.mpr ⟨⟨(trivial), mj_ckOf mjK_143 (by decide) (mj_lnkG mjl_11_92)⟩, ?_⟩
  refine List.forall_mem_cons.mpr ⟨⟨(show (0 : Int) ≤ ((587 : Nat) : Int) + 71 by decide), trivial⟩, ?_⟩
  refine List.forall_mem_cons.mpr ⟨⟨(trivial), trivial⟩, ?_⟩
  refine List.forall_mem_cons.mpr ⟨⟨(trivial), trivial⟩, ?_⟩
  refine List.forall_mem_cons.mpr ⟨⟨(trivial), trivial⟩, ?_⟩
  refine List.forall_mem_cons.mpr ⟨⟨(trivial), trivial⟩, ?_⟩
  refine List.forall_mem_cons.mpr ⟨⟨(trivial), trivial⟩, ?_⟩
  refine List.forall_mem_cons.mpr ⟨⟨(trivial), trivial⟩, ?_⟩
  refine List.forall_mem_cons.mpr ⟨⟨(trivial), trivial⟩, ?_⟩
  refine List.forall_mem_cons.mpr ⟨⟨(trivial), trivial⟩, ?_⟩
  refine List.forall_mem_cons.mpr ⟨⟨(trivial), trivial⟩, ?_⟩
  refine List.forall_mem_cons.mpr ⟨⟨(trivial), trivial⟩, ?_⟩
  refine List.forall_mem_cons.mpr ⟨⟨(trivial), trivial⟩, ?_⟩
  refine List.forall_mem_cons.mpr ⟨⟨(trivial), trivial⟩, ?_⟩
  refine List.forall_mem_cons.mpr ⟨⟨(trivial), trivial⟩, ?_⟩
  refine List.forall_mem_cons.mpr ⟨⟨(trivial), mj_ckOf mjK_96 (by decide) (mj_lnkG mjl_11_93)⟩, ?_⟩
  refine List.forall_mem_cons.mpr ⟨⟨(trivial), trivial⟩, ?_⟩
  refine List.forall_mem_cons.mpr ⟨⟨(trivial), trivial⟩, ?_⟩
  refine List.forall_mem_cons.mpr ⟨⟨(trivial), trivial⟩, ?_⟩
  refine List.forall_mem_cons.mpr ⟨⟨(trivial), trivial⟩, ?_⟩
  refine List.forall_mem_cons.mpr ⟨⟨(trivial), trivial⟩, ?_⟩
  refine List.forall_mem_cons.mpr ⟨⟨(trivial), trivial⟩, ?_⟩
  refine List.forall_mem_cons.mpr ⟨⟨(trivial), trivial⟩, ?_⟩
  refine List.forall_mem_cons.mpr ⟨⟨(trivial), trivial⟩, ?_⟩
  refine List.forall_mem_cons.mpr ⟨⟨(trivial), trivial⟩, ?_⟩
  refine List.forall_mem_cons.mpr ⟨⟨(trivial), trivial⟩, ?_⟩
  refine List.forall_mem_cons.mpr ⟨⟨(trivial), trivial⟩, ?_⟩
  refine List.forall_mem_cons.mpr ⟨⟨(trivial), mj_ckOf mjK_144 (by decide) (mj_lnkG mjl_11_96)⟩, ?_⟩
  refine List.forall_mem_cons.mpr ⟨⟨(show (0 : Int) ≤ ((620 : Nat) : Int) + 38 by decide), trivial⟩, ?_⟩
  refine List.forall_mem_cons.mpr ⟨⟨(trivial), trivial⟩, ?_⟩
  refine List.forall_mem_cons.mpr ⟨⟨(trivial), trivial⟩, ?_⟩
  refine List.forall_mem_cons.mpr ⟨⟨(trivial), trivial⟩, ?_⟩
  refine List.forall_mem_cons.mpr ⟨⟨(trivial), trivial⟩, ?_⟩
  refine List.forall_mem_cons.mpr ⟨⟨(trivial), trivial⟩, ?_⟩
  refine List.forall_mem_cons.mpr ⟨⟨(trivial), trivial⟩, ?_⟩
  refine List.forall_mem_cons.mpr ⟨⟨(trivial), trivial⟩, ?_⟩
  refine List.forall_mem_cons.mpr ⟨⟨(trivial), trivial⟩, ?_⟩
  refine List.forall_mem_cons.mpr ⟨⟨(trivial), trivial⟩, ?_⟩
  refine List.forall_mem_cons.mpr ⟨⟨(trivial), trivial⟩, ?_⟩
  refine List.forall_mem_cons.mpr ⟨⟨(trivial), trivial⟩, ?_⟩
  refine List.forall_mem_cons.mpr ⟨⟨(trivial), trivial⟩, ?_⟩
  refine List.forall_mem_cons.mpr ⟨⟨(trivial), trivial⟩, ?_⟩
  refine List.forall_mem_cons.mpr ⟨⟨(trivial), mj_ckOf mjK_97 (by decide) (mj_lnkG mjl_11_97)⟩, ?_⟩
  refine List.forall_mem_cons.mpr ⟨⟨(trivial), trivial⟩, ?_⟩
  refine List.forall_mem_cons.mpr ⟨⟨(trivial), trivial⟩, ?_⟩
  refine List.forall_mem_cons.mpr ⟨⟨(trivial), trivial⟩, ?_⟩
  refine List.forall_mem_cons.mpr ⟨⟨(trivial), trivial⟩, ?_⟩
  refine List.forall_mem_cons.mpr ⟨⟨(trivial), trivial⟩, ?_⟩
  refine List.forall_mem_cons.mpr ⟨⟨(trivial), trivial⟩, ?_⟩
  refine List.forall_mem_cons.mpr ⟨⟨(trivial), trivial⟩, ?_⟩
  refine List.forall_mem_cons.mpr ⟨⟨(trivial), trivial⟩, ?_⟩
  refine List.forall_mem_cons.mpr ⟨⟨(trivial), trivial⟩, ?_⟩
  refine List.forall_mem_cons.mpr ⟨⟨(trivial), trivial⟩, ?_⟩
  refine List.forall_mem_cons.mpr ⟨⟨(trivial), trivial⟩, ?_⟩
  refine List.forall_mem_cons.mpr ⟨⟨(trivial), mj_ckOf mjK_145 (by decide) (mj_lnkG mjl_11_100)⟩, ?_⟩
  refine List.forall_mem_cons.mpr ⟨⟨(show (0 : Int) ≤ ((653 : Nat) : Int) + 5 by decide), trivial⟩, ?_⟩
  refine List.forall_mem_cons.mpr ⟨⟨(trivial), trivial⟩, ?_⟩
  refine List.forall_mem_cons.mpr ⟨⟨(trivial), trivial⟩, ?_⟩
  refine List.forall_mem_cons.mpr ⟨⟨(show (3 : Nat) < mj_maxL 146 by decide), trivial⟩, ?_⟩
  refine List.forall_mem_cons.mpr ⟨⟨(show (0 : Int) ≤ ((661 : Nat) : Int) + (-643) by decide), trivial⟩, ?_⟩
  refine List.forall_mem_cons.mpr ⟨⟨(trivial), trivial⟩, ?_⟩
  refine List.forall_mem_cons.mpr ⟨⟨(trivial), trivial⟩, ?_⟩
  exact fun _ h => absurd h List.not_mem_nil
theorem mjd_146 : mj_ckd 146 = true := by decide +kernel
theorem mjg_146 : mj_good 146 := mj_goodOf (fun h => absurd h (by decide)) (by decide +kernel) mjd_146 mje_146
theorem mj_goods : ∀ mm, mm < mj_N → mj_good mm := by
  intro mm hm
  match mm, hm with
  | 0, _ => exact mjg_0
  | 1, _ => exact mjg_1
  | 2, _ => exact mjg_2
  | 3, _ => exact mjg_3
  | 4, _ => exact mjg_4
  | 5, _ => exact mjg_5
  | 6, _ => exact mjg_6
  | 7, _ => exact mjg_7
  | 8, _ => exact mjg_8
  | 9, _ => exact mjg_9
  | 10, _ => exact mjg_10
  | 11, _ => exact mjg_11
  | 12, _ => exact mjg_12
  | 13, _ => exact mjg_13
  | 14, _ => exact mjg_14
  | 15, _ => exact mjg_15
  | 16, _ => exact mjg_16
  | 17, _ => exact mjg_17
  | 18, _ => exact mjg_18
  | 19, _ => exact mjg_19
  | 20, _ => exact mjg_20
  | 21, _ => exact mjg_21
  | 22, _ => exact mjg_22
  | 23, _ => exact mjg_23
  | 24, _ => exact mjg_24
  | 25, _ => exact mjg_25
  | 26, _ => exact mjg_26
  | 27, _ => exact mjg_27
  | 28, _ => exact mjg_28
  | 29, _ => exact mjg_29
  | 30, _ => exact mjg_30
  | 31, _ => exact mjg_31
  | 32, _ => exact mjg_32
  | 33, _ => exact mjg_33
  | 34, _ => exact mjg_34
  | 35, _ => exact mjg_35
  | 36, _ => exact mjg_36
  | 37, _ => exact mjg_37
  | 38, _ => exact mjg_38
  | 39, _ => exact mjg_39
  | 40, _ => exact mjg_40
  | 41, _ => exact mjg_41
  | 42, _ => exact mjg_42
  | 43, _ => exact mjg_43
  | 44, _ => exact mjg_44
  | 45, _ => exact mjg_45
  | 46, _ => exact mjg_46
  | 47, _ => exact mjg_47
  | 48, _ => exact mjg_48
  | 49, _ => exact mjg_49
  | 50, _ => exact mjg_50
  | 51, _ => exact mjg_51
  | 52, _ => exact mjg_52
  | 53, _ => exact mjg_53
  | 54, _ => exact mjg_54
  | 55, _ => exact mjg_55
  | 56, _ => exact mjg_56
  | 57, _ => exact mjg_57
  | 58, _ => exact mjg_58
  | 59, _ => exact mjg_59
  | 60, _ => exact mjg_60
  | 61, _ => exact mjg_61
  | 62, _ => exact mjg_62
  | 63, _ => exact mjg_63
  | 64, _ => exact mjg_64
  | 65, _ => exact mjg_65
  | 66, _ => exact mjg_66
  | 67, _ => exact mjg_67
  | 68, _ => exact mjg_68
  | 69, _ => exact mjg_69
  | 70, _ => exact mjg_70
  | 71, _ => exact mjg_71
  | 72, _ => exact mjg_72
  | 73, _ => exact mjg_73
  | 74, _ => exact mjg_74
  | 75, _ => exact mjg_75
  | 76, _ => exact mjg_76
  | 77, _ => exact mjg_77
  | 78, _ => exact mjg_78
  | 79, _ => exact mjg_79
  | 80, _ => exact mjg_80
  | 81, _ => exact mjg_81
  | 82, _ => exact mjg_82
  | 83, _ => exact mjg_83
  | 84, _ => exact mjg_84
  | 85, _ => exact mjg_85
  | 86, _ => exact mjg_86
  | 87, _ => exact mjg_87
  | 88, _ => exact mjg_88
  | 89, _ => exact mjg_89
  | 90, _ => exact mjg_90
  | 91, _ => exact mjg_91
  | 92, _ => exact mjg_92
  | 93, _ => exact mjg_93
  | 94, _ => exact mjg_94
  | 95, _ => exact mjg_95
  | 96, _ => exact mjg_96
  | 97, _ => exact mjg_97
  | 98, _ => exact mjg_98
  | 99, _ => exact mjg_99
  | 100, _ => exact mjg_100
  | 101, _ => exact mjg_101
  | 102, _ => exact mjg_102
  | 103, _ => exact mjg_103
  | 104, _ => exact mjg_104
  | 105, _ => exact mjg_105
  | 106, _ => exact mjg_106
  | 107, _ => exact mjg_107
  | 108, _ => exact mjg_108
  | 109, _ => exact mjg_109
  | 110, _ => exact mjg_110
  | 111, _ => exact mjg_111
  | 112, _ => exact mjg_112
  | 113, _ => exact mjg_113
  | 114, _ => exact mjg_114
  | 115, _ => exact mjg_115
  | 116, _ => exact mjg_116
  | 117, _ => exact mjg_117
  | 118, _ => exact mjg_118
  | 119, _ => exact mjg_119
  | 120, _ => exact mjg_120
  | 121, _ => exact mjg_121
  | 122, _ => exact mjg_122
  | 123, _ => exact mjg_123
  | 124, _ => exact mjg_124
  | 125, _ => exact mjg_125
  | 126, _ => exact mjg_126
  | 127, _ => exact mjg_127
  | 128, _ => exact mjg_128
  | 129, _ => exact mjg_129
  | 130, _ => exact mjg_130
  | 131, _ => exact mjg_131
  | 132, _ => exact mjg_132
  | 133, _ => exact mjg_133
  | 134, _ => exact mjg_134
  | 135, _ => exact mjg_135
  | 136, _ => exact mjg_136
  | 137, _ => exact mjg_137
  | 138, _ => exact mjg_138
  | 139, _ => exact mjg_139
  | 140, _ => exact mjg_140
  | 141, _ => exact mjg_141
  | 142, _ => exact mjg_142
  | 143, _ => exact mjg_143
  | 144, _ => exact mjg_144
  | 145, _ => exact mjg_145
  | 146, _ => exact mjg_146
  | n + 147, h => exact absurd h (Nat.not_lt.mpr (Nat.le_add_left _ _))
end
section
/-! The cells that the constructors lay, by kind and number (by program, wip/tools/gen12.py); a store of ints over them. -/
-- kind 0: Kernel, 5 slots, 1 of them
-- kind 1: Kernel.tasks, 5 slots, 1 of them
-- kind 2: Checker, 5 slots, 1 of them
-- kind 3: Checker.open, 12 slots, 1 of them
-- kind 4: Figures, 6 slots, 1 of them
-- kind 5: wcets, 5 slots, 1 of them
-- kind 6: sections, 5 slots, 1 of them
-- kind 7: sections[i], 4 slots, 5 of them
-- kind 8: blockings, 5 slots, 1 of them
-- kind 9: responses, 5 slots, 1 of them
-- kind 10: ceilings, 4 slots, 1 of them
-- kind 11: Task, 4 slots, 5 of them
-- kind 12: Task.image, 3 slots, 5 of them
-- kind 13: Routine, 7 slots, 15 of them
-- kind 14: ops, 12 slots, 15 of them
-- kind 15: xs, 12 slots, 15 of them
-- kind 16: ys, 12 slots, 15 of them
-- kind 17: mates, 12 slots, 15 of them
-- kind 18: Machine, 14 slots, 1 of them
-- kind 19: posts, 5 slots, 1 of them
-- kind 20: ports, 2 slots, 1 of them
-- kind 21: Journal, 5 slots, 1 of them
-- kind 22: Journal.kinds, 32 slots, 1 of them
-- kind 23: Journal.numbers, 32 slots, 1 of them
-- kind 24: Journal.times, 32 slots, 1 of them
-- kind 25: Journal.values, 32 slots, 1 of them
-- kind 26: mailboxes, 2 slots, 1 of them
-- kind 27: Post, 6 slots, 5 of them
-- kind 28: Post.words, 8 slots, 5 of them
-- kind 29: Job, 16 slots, 5 of them
-- kind 30: registers, 4 slots, 5 of them
-- kind 31: callers, 3 slots, 5 of them
-- kind 32: returns, 3 slots, 5 of them
-- kind 33: roundsLeft, 3 slots, 5 of them
-- kind 34: roundsLeft[r], 12 slots, 15 of them
-- kind 35: Mailbox, 2 slots, 2 of them
-- kind 36: Mailbox.numbers, 3 slots, 2 of them
-- kind 40: Model, 54 slots, 1 of them
-- kind 41: Model.period, 5 slots, 1 of them
-- kind 42: Model.deadline, 5 slots, 1 of them
-- kind 43: Model.offset, 5 slots, 1 of them
-- kind 44: Model.op, 180 slots, 1 of them
-- kind 45: Model.rx, 180 slots, 1 of them
-- kind 46: Model.num, 180 slots, 1 of them
-- kind 47: Model.mate, 180 slots, 1 of them
-- kind 48: Model.len, 15 slots, 1 of them
-- kind 49: Model.price, 15 slots, 1 of them
-- kind 50: Model.open, 12 slots, 1 of them
-- kind 51: Model.far, 13 slots, 1 of them
-- kind 52: Model.total, 3 slots, 1 of them
-- kind 53: Model.wc, 5 slots, 1 of them
-- kind 54: Model.sec, 20 slots, 1 of them
-- kind 55: Model.blk, 5 slots, 1 of them
-- kind 56: Model.resp, 5 slots, 1 of them
-- kind 57: Model.ceil, 4 slots, 1 of them
-- kind 58: Model.has, 5 slots, 1 of them
-- kind 59: Model.ran, 5 slots, 1 of them
-- kind 60: Model.born, 5 slots, 1 of them
-- kind 61: Model.turning, 5 slots, 1 of them
-- kind 62: Model.spent, 5 slots, 1 of them
-- kind 63: Model.steps, 5 slots, 1 of them
-- kind 64: Model.holds, 5 slots, 1 of them
-- kind 65: Model.routine, 5 slots, 1 of them
-- kind 66: Model.at, 5 slots, 1 of them
-- kind 67: Model.caller, 15 slots, 1 of them
-- kind 68: Model.back, 15 slots, 1 of them
-- kind 69: Model.rounds, 180 slots, 1 of them
-- kind 70: Model.regs, 20 slots, 1 of them
-- kind 71: Model.words, 40 slots, 1 of them
-- kind 72: Model.due, 5 slots, 1 of them
-- kind 73: Model.waits, 5 slots, 1 of them
-- kind 74: Model.top, 5 slots, 1 of them
-- kind 75: Model.ports, 2 slots, 1 of them
-- kind 76: Model.box, 6 slots, 1 of them
-- kind 77: Model.held, 2 slots, 1 of them
-- kind 78: Model.kinds, 32 slots, 1 of them
-- kind 79: Model.whose, 32 slots, 1 of them
-- kind 80: Model.times, 32 slots, 1 of them
-- kind 81: Model.values, 32 slots, 1 of them
def kd_tags : List Nat := [0, 22, 1, 20, 2, 20, 26, 20, 20, 20, 20, 3, 23, 4, 20, 20, 20, 20, 5, 24, 20, 7, 20, 20, 20, 20, 25, 8, 20, 6, 20, 20, 20, 26, 20, 9, 20, 0, 0, 0, 10, 20, 20, 20, 20, 20, 20, 20, 20, 20, 20, 20, 20, 20, 20, 20, 20, 20, 21, 21, 20, 20, 20, 20, 20, 20, 20, 20, 20, 20, 20, 20, 20, 20, 20, 20, 20, 20, 20, 20, 20, 20]
def kd_tag (a : Nat) : Nat := kd_tags.getD a 99
def kd_lens : List Nat := [5, 5, 5, 12, 6, 5, 5, 4, 5, 5, 4, 4, 3, 7, 12, 12, 12, 12, 14, 5, 2, 5, 32, 32, 32, 32, 2, 6, 8, 16, 4, 3, 3, 3, 12, 2, 3, 0, 0, 0, 54, 5, 5, 5, 180, 180, 180, 180, 15, 15, 12, 13, 3, 5, 20, 5, 5, 4, 5, 5, 5, 5, 5, 5, 5, 5, 5, 15, 15, 180, 20, 40, 5, 5, 5, 2, 6, 2, 32, 32, 32, 32]
def kd_len (a : Nat) : Nat := kd_lens.getD a 0
def kd_cnts : List Nat := [1, 1, 1, 1, 1, 1, 1, 5, 1, 1, 1, 5, 5, 15, 15, 15, 15, 15, 1, 1, 1, 1, 1, 1, 1, 1, 1, 5, 5, 5, 5, 5, 5, 5, 15, 2, 2, 0, 0, 0, 1, 1, 1, 1, 1, 1, 1, 1, 1, 1, 1, 1, 1, 1, 1, 1, 1, 1, 1, 1, 1, 1, 1, 1, 1, 1, 1, 1, 1, 1, 1, 1, 1, 1, 1, 1, 1, 1, 1, 1, 1, 1]
def kd_cnt (a : Nat) : Nat := kd_cnts.getD a 0
def kd_cells : List (List Nat) := [[0], [1], [2], [3], [4], [5], [6], [7, 8, 9, 10, 11], [12], [13], [14], [15, 32, 49, 66, 83], [16, 33, 50, 67, 84], [17, 22, 27, 34, 39, 44, 51, 56, 61, 68, 73, 78, 85, 90, 95], [18, 23, 28, 35, 40, 45, 52, 57, 62, 69, 74, 79, 86, 91, 96], [19, 24, 29, 36, 41, 46, 53, 58, 63, 70, 75, 80, 87, 92, 97], [20, 25, 30, 37, 42, 47, 54, 59, 64, 71, 76, 81, 88, 93, 98], [21, 26, 31, 38, 43, 48, 55, 60, 65, 72, 77, 82, 89, 94, 99], [100], [101], [102], [103], [104], [105], [106], [107], [108], [109, 119, 129, 139, 149], [110, 120, 130, 140, 150], [111, 121, 131, 141, 151], [112, 122, 132, 142, 152], [113, 123, 133, 143, 153], [114, 124, 134, 144, 154], [115, 125, 135, 145, 155], [116, 117, 118, 126, 127, 128, 136, 137, 138, 146, 147, 148, 156, 157, 158], [159, 161], [160, 162], [], [], [], [163], [164], [165], [166], [167], [168], [169], [170], [171], [172], [173], [174], [175], [176], [177], [178], [179], [180], [181], [182], [183], [184], [185], [186], [187], [188], [189], [190], [191], [192], [193], [194], [195], [196], [197], [198], [199], [200], [201], [202], [203], [204]]
def kd_cell (a i : Nat) : Nat := (kd_cells.getD a []).getD i 0
def kd_ref (a i j : Nat) : Option (Nat × Nat) := match a with
  | 0 => (match j with | 0 => some (1, 0) | 1 => some (2, 0) | 2 => some (4, 0) | 3 => some (18, 0) | _ => none)
  | 1 => some (11, j)
  | 2 => (match j with | 1 => some (3, 0) | _ => none)
  | 4 => (match j with | 1 => some (5, 0) | 2 => some (6, 0) | 3 => some (8, 0) | 4 => some (9, 0) | 5 => some (10, 0) | _ => none)
  | 6 => some (7, j)
  | 11 => (match j with | 0 => some (12, i) | _ => none)
  | 12 => some (13, 3 * i + j)
  | 13 => (match j with | 0 => some (14, i) | 1 => some (15, i) | 2 => some (16, i) | 3 => some (17, i) | _ => none)
  | 18 => (match j with | 1 => some (19, 0) | 2 => some (20, 0) | 3 => some (21, 0) | 4 => some (4, 0) | 5 => some (26, 0) | _ => none)
  | 19 => some (27, j)
  | 21 => (match j with | 1 => some (22, 0) | 2 => some (23, 0) | 3 => some (24, 0) | 4 => some (25, 0) | _ => none)
  | 26 => some (35, j)
  | 27 => (match j with | 0 => some (11, i) | 1 => some (29, i) | 2 => some (28, i) | _ => none)
  | 29 => (match j with | 8 => some (30, i) | 9 => some (12, i) | 13 => some (31, i) | 14 => some (32, i) | 15 => some (33, i) | _ => none)
  | 33 => some (34, 3 * i + j)
  | 35 => (match j with | 0 => some (36, i) | _ => none)
  | 40 => (match j with | 4 => some (41, 0) | 5 => some (42, 0) | 6 => some (43, 0) | 7 => some (44, 0) | 8 => some (45, 0) | 9 => some (46, 0) | 10 => some (47, 0) | 11 => some (48, 0) | 12 => some (49, 0) | 13 => some (50, 0) | 15 => some (51, 0) | 16 => some (52, 0) | 17 => some (53, 0) | 18 => some (54, 0) | 19 => some (55, 0) | 20 => some (56, 0) | 21 => some (57, 0) | 30 => some (58, 0) | 31 => some (59, 0) | 32 => some (60, 0) | 33 => some (61, 0) | 34 => some (62, 0) | 35 => some (63, 0) | 36 => some (64, 0) | 37 => some (65, 0) | 38 => some (66, 0) | 39 => some (67, 0) | 40 => some (68, 0) | 41 => some (69, 0) | 42 => some (70, 0) | 43 => some (71, 0) | 44 => some (72, 0) | 45 => some (73, 0) | 46 => some (74, 0) | 47 => some (75, 0) | 48 => some (76, 0) | 49 => some (77, 0) | 50 => some (78, 0) | 51 => some (79, 0) | 52 => some (80, 0) | 53 => some (81, 0) | _ => none)
  | _ => none
def kd_ix : List (Nat × Nat) := [(0, 0), (1, 0), (2, 0), (3, 0), (4, 0), (5, 0), (6, 0), (7, 0), (7, 1), (7, 2), (7, 3), (7, 4), (8, 0), (9, 0), (10, 0), (11, 0), (12, 0), (13, 0), (14, 0), (15, 0), (16, 0), (17, 0), (13, 1), (14, 1), (15, 1), (16, 1), (17, 1), (13, 2), (14, 2), (15, 2), (16, 2), (17, 2), (11, 1), (12, 1), (13, 3), (14, 3), (15, 3), (16, 3), (17, 3), (13, 4), (14, 4), (15, 4), (16, 4), (17, 4), (13, 5), (14, 5), (15, 5), (16, 5), (17, 5), (11, 2), (12, 2), (13, 6), (14, 6), (15, 6), (16, 6), (17, 6), (13, 7), (14, 7), (15, 7), (16, 7), (17, 7), (13, 8), (14, 8), (15, 8), (16, 8), (17, 8), (11, 3), (12, 3), (13, 9), (14, 9), (15, 9), (16, 9), (17, 9), (13, 10), (14, 10), (15, 10), (16, 10), (17, 10), (13, 11), (14, 11), (15, 11), (16, 11), (17, 11), (11, 4), (12, 4), (13, 12), (14, 12), (15, 12), (16, 12), (17, 12), (13, 13), (14, 13), (15, 13), (16, 13), (17, 13), (13, 14), (14, 14), (15, 14), (16, 14), (17, 14), (18, 0), (19, 0), (20, 0), (21, 0), (22, 0), (23, 0), (24, 0), (25, 0), (26, 0), (27, 0), (28, 0), (29, 0), (30, 0), (31, 0), (32, 0), (33, 0), (34, 0), (34, 1), (34, 2), (27, 1), (28, 1), (29, 1), (30, 1), (31, 1), (32, 1), (33, 1), (34, 3), (34, 4), (34, 5), (27, 2), (28, 2), (29, 2), (30, 2), (31, 2), (32, 2), (33, 2), (34, 6), (34, 7), (34, 8), (27, 3), (28, 3), (29, 3), (30, 3), (31, 3), (32, 3), (33, 3), (34, 9), (34, 10), (34, 11), (27, 4), (28, 4), (29, 4), (30, 4), (31, 4), (32, 4), (33, 4), (34, 12), (34, 13), (34, 14), (35, 0), (36, 0), (35, 1), (36, 1), (40, 0), (41, 0), (42, 0), (43, 0), (44, 0), (45, 0), (46, 0), (47, 0), (48, 0), (49, 0), (50, 0), (51, 0), (52, 0), (53, 0), (54, 0), (55, 0), (56, 0), (57, 0), (58, 0), (59, 0), (60, 0), (61, 0), (62, 0), (63, 0), (64, 0), (65, 0), (66, 0), (67, 0), (68, 0), (69, 0), (70, 0), (71, 0), (72, 0), (73, 0), (74, 0), (75, 0), (76, 0), (77, 0), (78, 0), (79, 0), (80, 0), (81, 0)]
abbrev sg : Type := Nat → Nat → Nat → Int32
def cl (a i : Nat) : Nat := 5 + kd_cell a i
def sv (σ : sg) (a i j : Nat) : Value := match kd_ref a i j with
  | some q => .ref (cl q.1 q.2)
  | none => .int (σ a i j)
def slo (σ : sg) (a i : Nat) : List Value := (List.range (kd_len a)).map (sv σ a i)
def lay (σ : sg) : mj_Hp := kd_ix.map (fun q => (kd_tag q.1, slo σ q.1 q.2))
def up (σ : sg) (a i j : Nat) (v : Int32) : sg := fun a' i' j' => if a' = a then (if i' = i then (if j' = j then v else σ a' i' j') else σ a' i' j') else σ a' i' j'
/-- what the constructors leave -/
def s0 : sg := fun a _ j => match a with
  | 2 => (match j with | 0 => -1 | _ => 0)
  | 40 => (match j with | 3 => -1 | _ => 0)
  | 49 => (([1, 1, 4, 2, 2, 2, 1, 1, 2, 1, 2, 1, 1, 2, 2] : List Int32).getD j 0)
  | _ => 0
set_option maxRecDepth 100000 in
theorem kd_ix1 : ∀ a, a < 82 → ∀ i, i < kd_cnt a → kd_ix[kd_cell a i]? = some (a, i) := by decide +kernel
set_option maxRecDepth 100000 in
theorem kd_ix2 : ∀ k, k < 205 → (match kd_ix[k]? with | some q => decide (kd_cell q.1 q.2 = k ∧ q.2 < kd_cnt q.1 ∧ q.1 < 82) | none => false) = true := by decide +kernel
theorem kd_ixl : kd_ix.length = 205 := by decide +kernel
theorem kd_ltK {a i : Nat} (h : i < kd_cnt a) : a < 82 := by
  have h0 : 0 < kd_cnt a := Nat.lt_of_le_of_lt (Nat.zero_le _) h
  unfold kd_cnt at h0
  rw [List.getD_eq_getElem?_getD] at h0
  rcases Nat.lt_or_ge a kd_cnts.length with h1 | h1
  · exact h1
  · rw [List.getElem?_eq_none h1] at h0
    exact absurd h0 (Nat.lt_irrefl _)
theorem lay_get {σ : sg} {a i : Nat} (h : i < kd_cnt a) : (lay σ)[kd_cell a i]? = some (kd_tag a, slo σ a i) := by
  unfold lay
  rw [List.getElem?_map, kd_ix1 a (kd_ltK h) i h]
  rfl
theorem slo_get {σ : sg} {a i j : Nat} (h : j < kd_len a) : (slo σ a i)[j]? = some (sv σ a i j) := by
  unfold slo
  rw [List.getElem?_map, List.getElem?_range h]
  rfl
theorem slo_len {σ : sg} {a i : Nat} : (slo σ a i).length = kd_len a := by simp [slo]
theorem slo_set {σ : sg} {a i j : Nat} {v : Int32} (hr : kd_ref a i j = none) : (slo σ a i).set j (.int v) = slo (up σ a i j v) a i := by
  apply List.ext_getElem?
  intro k
  by_cases hk : k < kd_len a
  · rw [slo_get hk]
    by_cases e : j = k
    · subst e
      rw [List.getElem?_set_self (by rw [slo_len]; exact hk)]
      simp [sv, hr, up]
    · rw [List.getElem?_set_ne e, slo_get hk]
      have : up σ a i j v a i k = σ a i k := by simp [up, Ne.symm e]
      unfold sv
      rw [this]
  · rw [List.getElem?_eq_none (by rw [List.length_set, slo_len]; omega), List.getElem?_eq_none (by rw [slo_len]; omega)]
theorem slo_up {σ : sg} {a i j a' i' : Nat} {v : Int32} (h : ¬ (a' = a ∧ i' = i)) : slo (up σ a i j v) a' i' = slo σ a' i' := by
  unfold slo
  refine List.map_congr_left fun k _ => ?_
  have : up σ a i j v a' i' k = σ a' i' k := by
    unfold up
    by_cases h1 : a' = a
    · by_cases h2 : i' = i
      · exact absurd ⟨h1, h2⟩ h
      · simp [h1, h2]
    · simp [h1]
  unfold sv
  rw [this]
theorem lay_wr {σ : sg} {a i j : Nat} {v : Int32} (h : i < kd_cnt a) (hr : kd_ref a i j = none) : mj_wr (lay σ) (kd_cell a i) j (.int v) = lay (up σ a i j v) := by
  rw [mj_wr_some (lay_get h), slo_set hr]
  apply List.ext_getElem?
  intro k
  by_cases e : kd_cell a i = k
  · subst e
    rw [List.getElem?_set_self (List.getElem?_eq_some_iff.mp (lay_get h)).1, lay_get h]
  · rw [List.getElem?_set_ne e]
    unfold lay
    rw [List.getElem?_map, List.getElem?_map]
    cases hq : kd_ix[k]? with
    | none => rfl
    | some q =>
      have hk : k < 205 := by rw [← kd_ixl]; exact (List.getElem?_eq_some_iff.mp hq).1
      have h2 := kd_ix2 k hk
      rw [hq] at h2
      simp only [decide_eq_true_eq] at h2
      have hne : ¬ (q.1 = a ∧ q.2 = i) := fun z => e (by rw [← z.1, ← z.2]; exact h2.1)
      simp only [Option.map_some, slo_up hne]
end
section
/-! More fuel does no harm; without tables and script no less. -/
theorem mj_elt_nil {cst : List (List Int32)} {h : mj_Hp} {k tag : Nat} {j : Int32} {v : Value} (he : mj_elt [] h k tag j = some v) : mj_elt cst h k tag j = some v := by
  by_cases hk : k < 5
  · obtain ⟨l, hc, -⟩ := mj_elt_cst hk he
    simp at hc
  · unfold mj_elt at he ⊢
    rw [if_neg hk] at he ⊢
    exact he
set_option maxHeartbeats 4000000 in
theorem mj_step_nil {cst : List (List Int32)} {i : Instr} {a b pc : Nat} {ls : mj_Ls} {st : List Value} {h : mj_Hp} {t : mj_Ms} (hs : mj_step [] i a b pc ls st h = some t) : mj_step cst i a b pc ls st h = some t := by
  cases i
  case iaload =>
    simp only [mj_step] at hs ⊢
    split at hs
    · split at hs
      · rename_i he
        rw [mj_elt_nil he]
        exact hs
      · cases hs
    · cases hs
  case baload =>
    simp only [mj_step] at hs ⊢
    split at hs
    · split at hs
      · cases hs
      · rename_i h5
        rw [if_neg h5]
        split at hs
        · rename_i he
          rw [mj_elt_nil he]
          exact hs
        · cases hs
    · cases hs
  case arraylength =>
    simp only [mj_step] at hs ⊢
    split at hs
    · split at hs
      · simp at hs
      · rename_i h5
        rw [if_neg h5]
        exact hs
    · cases hs
  case iastore =>
    simp only [mj_step] at hs ⊢
    split at hs
    · split at hs
      · cases hs
      · rename_i h5
        rw [if_neg h5]
        split at hs
        · rename_i he
          rw [mj_elt_nil he]
          exact hs
        · cases hs
    · cases hs
  case bastore =>
    simp only [mj_step] at hs ⊢
    split at hs
    · split at hs
      · cases hs
      · rename_i h5
        rw [if_neg h5]
        split at hs
        · rename_i he
          rw [mj_elt_nil he]
          exact hs
        · cases hs
    · cases hs
  all_goals exact hs
theorem mj_run_gen {c1 cst : List (List Int32)} (d : Nat) (hst : ∀ {i : Instr} {a b pc : Nat} {ls : mj_Ls} {st : List Value} {h : mj_Hp} {t : mj_Ms}, mj_step c1 i a b pc ls st h = some t → mj_step cst i a b pc ls st h = some t) : ∀ {n m pc : Nat} {ls : mj_Ls} {st : List Value} {h : mj_Hp} {x : Option Value × mj_Hp}, mj_run c1 n m pc ls st h = some x → mj_run cst (n + d) m pc ls st h = some x := by
  intro n
  induction n with
  | zero => intro m pc ls st h x hr; simp [mj_run] at hr
  | succ n ih =>
    intro m pc ls st h x hr
    rw [Nat.add_right_comm]
    unfold mj_run at hr
    unfold mj_run
    cases hat : mj_at m pc with
    | none => rw [hat] at hr; cases hr
    | some e =>
      obtain ⟨i, a, b⟩ := e
      rw [hat] at hr
      dsimp only at hr ⊢
      cases hret : mj_isRet i (mj_ret m) st with
      | some r => rw [hret] at hr; exact hr
      | none =>
        rw [hret] at hr
        dsimp only at hr ⊢
        have obj : ∀ kd : Nat, (match st.drop b with
            | .ref k :: rest => if a = 1000 then (if b = 0 ∧ kd = 0 ∧ mj_room rest = true then mj_run c1 n m (pc + 3) ls rest h else none)
              else if b ≤ st.length ∧ 5 ≤ k ∧ (h[k - 5]?).map (fun c => c.1) = some (mj_ci a) ∧ mj_argsOk a (.ref k :: (st.take b).reverse) = true ∧ mj_room rest = true then
                (match mj_run c1 n a 0 (lv_args 0 (.ref k :: (st.take b).reverse)) [] h with
                | some (r, h') => mj_run c1 n m (pc + 3) ls (r.toList ++ rest) h'
                | none => none)
              else none
            | _ => none) = some x → (match st.drop b with
            | .ref k :: rest => if a = 1000 then (if b = 0 ∧ kd = 0 ∧ mj_room rest = true then mj_run cst (n + d) m (pc + 3) ls rest h else none)
              else if b ≤ st.length ∧ 5 ≤ k ∧ (h[k - 5]?).map (fun c => c.1) = some (mj_ci a) ∧ mj_argsOk a (.ref k :: (st.take b).reverse) = true ∧ mj_room rest = true then
                (match mj_run cst (n + d) a 0 (lv_args 0 (.ref k :: (st.take b).reverse)) [] h with
                | some (r, h') => mj_run cst (n + d) m (pc + 3) ls (r.toList ++ rest) h'
                | none => none)
              else none
            | _ => none) = some x := by
          intro kd hr
          split at hr
          · rename_i k rest hsd
            split at hr
            · rename_i h1
              rw [if_pos h1]
              split at hr
              · rename_i h2
                rw [if_pos h2]
                exact ih hr
              · cases hr
            · rename_i h1
              rw [if_neg h1]
              split at hr
              · rename_i h2
                rw [if_pos h2]
                split at hr
                · rename_i r1 h3 hc
                  rw [ih hc]
                  exact ih hr
                · cases hr
              · cases hr
          · cases hr
        have sta : (if a = 1001 then (match st with
            | .int y :: .int x :: rest => if mj_room rest then mj_run c1 n m (pc + 3) ls (.int (if x < y then y else x) :: rest) h else none
            | _ => none)
          else if a = 1002 then (match st with
            | .int y :: .int x :: rest => if mj_room rest then mj_run c1 n m (pc + 3) ls (.int (if y < x then y else x) :: rest) h else none
            | _ => none)
          else if b ≤ st.length ∧ mj_argsOk a (st.take b).reverse = true ∧ mj_room (st.drop b) = true then
            (match mj_run c1 n a 0 (lv_args 0 (st.take b).reverse) [] h with
            | some (r, h') => mj_run c1 n m (pc + 3) ls (r.toList ++ st.drop b) h'
            | none => none)
          else none) = some x → (if a = 1001 then (match st with
            | .int y :: .int x :: rest => if mj_room rest then mj_run cst (n + d) m (pc + 3) ls (.int (if x < y then y else x) :: rest) h else none
            | _ => none)
          else if a = 1002 then (match st with
            | .int y :: .int x :: rest => if mj_room rest then mj_run cst (n + d) m (pc + 3) ls (.int (if y < x then y else x) :: rest) h else none
            | _ => none)
          else if b ≤ st.length ∧ mj_argsOk a (st.take b).reverse = true ∧ mj_room (st.drop b) = true then
            (match mj_run cst (n + d) a 0 (lv_args 0 (st.take b).reverse) [] h with
            | some (r, h') => mj_run cst (n + d) m (pc + 3) ls (r.toList ++ st.drop b) h'
            | none => none)
          else none) = some x := by
          intro hr
          split at hr
          · rename_i h1
            rw [if_pos h1]
            split at hr
            · split at hr
              · rename_i h2
                rw [if_pos h2]
                exact ih hr
              · cases hr
            · cases hr
          · rename_i h1
            rw [if_neg h1]
            split at hr
            · rename_i h1
              rw [if_pos h1]
              split at hr
              · split at hr
                · rename_i h2
                  rw [if_pos h2]
                  exact ih hr
                · cases hr
              · cases hr
            · rename_i h1
              rw [if_neg h1]
              split at hr
              · rename_i h2
                rw [if_pos h2]
                split at hr
                · rename_i r1 h3 hc
                  rw [ih hc]
                  exact ih hr
                · cases hr
              · cases hr
        cases hcall : mj_isCall i with
        | none =>
          rw [hcall] at hr
          dsimp only at hr ⊢
          cases hs : mj_step c1 i a b pc ls st h with
          | none => rw [hs] at hr; cases hr
          | some t =>
            obtain ⟨pc', ls', st', h'⟩ := t
            rw [hs] at hr
            rw [hst hs]
            exact ih hr
        | some kd =>
          rw [hcall] at hr
          match kd, hr with
          | 0, hr => exact obj 0 hr
          | 1, hr => exact obj 1 hr
          | 2, hr => exact sta hr
          | k + 3, hr => exact obj (k + 3) hr
theorem mj_run_mono {cst : List (List Int32)} {n m pc : Nat} {ls : mj_Ls} {st : List Value} {h : mj_Hp} {x : Option Value × mj_Hp} (hr : mj_run cst n m pc ls st h = some x) : mj_run cst (n + 1) m pc ls st h = some x := mj_run_gen 1 (fun hs => hs) hr
theorem mj_run_nil {cst : List (List Int32)} {n m pc : Nat} {ls : mj_Ls} {st : List Value} {h : mj_Hp} {x : Option Value × mj_Hp} (hr : mj_run [] n m pc ls st h = some x) : mj_run cst n m pc ls st h = some x := mj_run_gen 0 mj_step_nil hr
theorem mj_run_le {cst : List (List Int32)} {n k m pc : Nat} {ls : mj_Ls} {st : List Value} {h : mj_Hp} {x : Option Value × mj_Hp} (hr : mj_run cst n m pc ls st h = some x) (hk : n ≤ k) : mj_run cst k m pc ls st h = some x := by
  obtain ⟨d, rfl⟩ := Nat.le.dest hk
  clear hk
  induction d with
  | zero => exact hr
  | succ d ih => exact mj_run_mono ih
end
section
/-! THE CLAIM OUT OF ONE WALK OF THE LAW'S BODY. Your part is whole_start (and what it stands on); all else here is the same for every law, but numbers. -/
def R_law : String := "CeilingKernelLaw"
def lw_P (b : Addr) (xs : List Int32) (args : Array Value) (s : State) : Prop := args = #[.ref b] ∧ s.IntsAt b xs ∧ xs.length ≤ 3072 ∧ (Jvm.Cond.and given_1 narrow_1).before args s = true
def lw_Q (_ : Array Value) (s : State) (o : Outcome) (t : State) : Prop := o = .returned (some (.int 1)) ∧ Framed s o t [] 600000 7302250
def lw_Z (below : List Frame) (a : Array Value) (s : State) : State → Prop := fun t => ∃ o, t.status = .running ∧ Ended t below o ∧ lw_Q a s o t
/-- the law's own end, with 1 on the stack, nothing written that was there before, its room as the claim has it -/
theorem lw_ret {p : Program} {l : Launch} {e : Env} {s : State} {m : MethodId} {below : List Frame} {meth : Method} {c : Code} {b : Nat} (hx : p.tables.exec = Jvm.exec) (hb : c.code = code) (hr : meth.sig.returnType = ret) (hlocks : meth.locks = false) {pc : Nat} {H : Heap} {ls : Array Slot} (hdg : decode code pc = .ok (.ireturn, 1)) : W p l e room_1 s m #[Value.ref b] below meth c H [] 600000 7302250 (lw_Z below #[Value.ref b] s) (F0 m pc ls [.int 1]) := by
  intro T hT X
  obtain ⟨fs, hret, hrun, hended, hW, hframe⟩ := X.leave (v := some (.int 1)) (hlocks := hlocks) (fun h => by rw [hr] at h; cases h)
  have hmeth' : T.vm.method? m = some meth := X.method'
  refine ⟨T.setFrames fs, ?_, .returned (some (.int 1)), hrun, hended, rfl, ⟨_, rfl⟩, hW, hframe⟩
  jvm_step X.here [X.here.top, hx, hb, hdg, hmeth', hr, ret, narrow_b1]
  (try refine ⟨rfl, ?_⟩); (try refine ⟨rfl, ?_⟩)
  first | (intro acts; rw [hret _ acts rfl rfl rfl]) | rw [hret _ _ rfl rfl rfl]
  exact Steps.refl _
/-- what holds at the law's entry: the machine, the code, the tables' words (any of lw_tbl by 'hts w (by decide +kernel)'), the script of L ints xs at the cell b, what the Statement gives of the start (any of its parts by flat_of_before) -/
def lw_At (p : Program) (s : State) (m : MethodId) (meth : Method) (c : Code) (b L : Nat) (xs : Nat → Int32) : Prop :=
  p.tables.exec = Jvm.exec ∧ c.code = code ∧ meth.sig.returnType = ret ∧ c.maxLocals = 4 ∧ s.vm.findClass R_law = some m.cls ∧ (∀ w ∈ lw_tbl, w.before #[Value.ref b] s = true) ∧ va_X b L xs s s.heap ∧ b < s.heap.size ∧ meth.locks = false ∧ (Jvm.Cond.and given_1 narrow_1).before #[Value.ref b] s = true
/-! From the law's entry to the small machine. -/
def mj_COST : List Int32 := [1, 1, 4, 2, 2, 2, 1, 1, 2, 1, 2, 1, 1, 2, 2]
def mj_X_MOST : List Int32 := [3, 3, 3, 3, 3, 3, 0, 0, 0, 0, 0, 3, 3, 3, 3]
def mj_Y_LEAST : List Int32 := [-2147483648, 0, 0, 0, 0, 1, 1, 0, 0, 0, 0, 0, 0, 0, 0]
def mj_Y_MOST : List Int32 := [2147483647, 3, 3, 7, 7, 11, 8, 0, 3, 0, 2, 1, 0, 1, 1]
def mj_cst (xs : List Int32) : List (List Int32) := [xs, mj_COST, mj_X_MOST, mj_Y_LEAST, mj_Y_MOST]
theorem mj_stat {args : Array Value} {s : State} {n : String} {A : Nat → Prop} (l : List Int32) (hl : (Cond.laysStatic "CeilingKernel" n "[I").before args s = true) (hini : (Cond.initialized "CeilingKernel").before args s = true) (harr : (Cond.arrayOf (.static "CeilingKernel" n "[I") .int).before args s = true) (hln : (Cond.eq (.length (.static "CeilingKernel" n "[I")) (.int 15)).before args s = true)
    (hel : ∀ j, j < 15 → (Cond.eq (.elem (.static "CeilingKernel" n "[I") (.int (Int32.ofNat j))) (.int (l.getD j 0))).before args s = true) (hA : ∀ a : Nat, a < s.heap.size → ¬ A a) : ∃ t : Nat, va_Z "CeilingKernel" n "[I" (.ref t) A s s.heap ∧ va_T .int t 15 (fun j => .int (l.getD j 0)) A s s.heap := by
  obtain ⟨t, ht, hT⟩ := va_Tof (N := 15) (f := fun j => .int (l.getD j 0)) (A := A) (by decide) harr (va_eqt hln) (fun j hj => va_eqt (hel j hj)) hA
  exact ⟨t, va_Zref hl hini ht hA, hT⟩
theorem mj_tin (i : Nat) {w : Cond} (h : tables_1[i]? = some w) : w ∈ lw_tbl := List.mem_append_right _ (List.mem_of_getElem? h)
theorem mj_Glw {w : Cond} (h : w ∈ mj_G) : w ∈ lw_tbl := (List.mem_filter.mp h).1
theorem mj_exD {args : Array Value} {s : State} (hts : ∀ w ∈ lw_tbl, w.before args s = true) : ∃ D : va_G, ∀ (c : Nat) (q : vw_C), vwCl[c]? = some q → u_Kn s q.1 q.2.1 q.2.2 (D.1 c) (D.2 c) := by
  have key : ∀ c : Nat, ∃ p : ClassId × (Nat → Nat), ∀ q : vw_C, vwCl[c]? = some q → u_Kn s q.1 q.2.1 q.2.2 p.1 p.2 := by
    intro c
    match c with
    | 0 =>
      obtain ⟨cC, iS, h⟩ := u_known (C := "CeilingKernel") (T := mj_T0) (N := 5) (n := 5) hts (fun w hw => mj_Glw (mj_inU0 w hw)) (hts _ (mj_tin 15 (by decide +kernel)))
      exact ⟨(cC, iS), fun q hq => by cases hq; exact h⟩
    | 1 =>
      obtain ⟨cC, iS, h⟩ := u_known (C := "CeilingKernel$Checker") (T := mj_T1) (N := 5) (n := 5) hts (fun w hw => mj_Glw (mj_inU1 w hw)) (hts _ (mj_tin 25 (by decide +kernel)))
      exact ⟨(cC, iS), fun q hq => by cases hq; exact h⟩
    | 2 =>
      obtain ⟨cC, iS, h⟩ := u_known (C := "CeilingKernel$Figures") (T := mj_T2) (N := 6) (n := 6) hts (fun w hw => mj_Glw (mj_inU2 w hw)) (hts _ (mj_tin 49 (by decide +kernel)))
      exact ⟨(cC, iS), fun q hq => by cases hq; exact h⟩
    | 3 =>
      obtain ⟨cC, iS, h⟩ := u_known (C := "CeilingKernel$Task") (T := mj_T3) (N := 4) (n := 4) hts (fun w hw => mj_Glw (mj_inU3 w hw)) (hts _ (mj_tin 81 (by decide +kernel)))
      exact ⟨(cC, iS), fun q hq => by cases hq; exact h⟩
    | 4 =>
      obtain ⟨cC, iS, h⟩ := u_known (C := "CeilingKernel$Routine") (T := mj_T4) (N := 7) (n := 7) hts (fun w hw => mj_Glw (mj_inU4 w hw)) (hts _ (mj_tin 88 (by decide +kernel)))
      exact ⟨(cC, iS), fun q hq => by cases hq; exact h⟩
    | 5 =>
      obtain ⟨cC, iS, h⟩ := u_known (C := "CeilingKernel$Machine") (T := mj_T5) (N := 14) (n := 14) hts (fun w hw => mj_Glw (mj_inU5 w hw)) (hts _ (mj_tin 151 (by decide +kernel)))
      exact ⟨(cC, iS), fun q hq => by cases hq; exact h⟩
    | 6 =>
      obtain ⟨cC, iS, h⟩ := u_known (C := "CeilingKernel$Job") (T := mj_T6) (N := 16) (n := 16) hts (fun w hw => mj_Glw (mj_inU6 w hw)) (hts _ (mj_tin 189 (by decide +kernel)))
      exact ⟨(cC, iS), fun q hq => by cases hq; exact h⟩
    | 7 =>
      obtain ⟨cC, iS, h⟩ := u_known (C := "CeilingKernel$Journal") (T := mj_T7) (N := 5) (n := 5) hts (fun w hw => mj_Glw (mj_inU7 w hw)) (hts _ (mj_tin 159 (by decide +kernel)))
      exact ⟨(cC, iS), fun q hq => by cases hq; exact h⟩
    | 8 =>
      obtain ⟨cC, iS, h⟩ := u_known (C := "CeilingKernel$Post") (T := mj_T8) (N := 6) (n := 6) hts (fun w hw => mj_Glw (mj_inU8 w hw)) (hts _ (mj_tin 183 (by decide +kernel)))
      exact ⟨(cC, iS), fun q hq => by cases hq; exact h⟩
    | 9 =>
      obtain ⟨cC, iS, h⟩ := u_known (C := "CeilingKernel$Mailbox") (T := mj_T9) (N := 2) (n := 2) hts (fun w hw => mj_Glw (mj_inU9 w hw)) (hts _ (mj_tin 279 (by decide +kernel)))
      exact ⟨(cC, iS), fun q hq => by cases hq; exact h⟩
    | 10 =>
      obtain ⟨cC, iS, h⟩ := u_known (C := "CeilingKernelModel") (T := mj_T10) (N := 54) (n := 54) hts (fun w hw => mj_Glw (mj_inU10 w hw)) (hts _ (mj_tin 728 (by decide +kernel)))
      exact ⟨(cC, iS), fun q hq => by cases hq; exact h⟩
    | n + 11 => exact ⟨(0, fun _ => 0), fun q hq => by simp [vwCl] at hq⟩
  exact ⟨(fun c => (Classical.choose (key c)).1, fun c => (Classical.choose (key c)).2), fun c q hq => Classical.choose_spec (key c) q hq⟩
theorem mj_exE {args : Array Value} {s : State} (hts : ∀ w ∈ lw_tbl, w.before args s = true) : ∃ E : Nat → ClassId, ∀ t : Nat, 20 ≤ t → t < 27 → ArrOfT s (E t) (mj_ty t) ∧ va_RA s (E t) (mj_ty t) := by
  have key : ∀ t : Nat, ∃ cA : ClassId, 20 ≤ t → t < 27 → ArrOfT s cA (mj_ty t) ∧ va_RA s cA (mj_ty t) := by
    intro t
    by_cases ht : 20 ≤ t ∧ t < 27
    · have hc : t = 20 ∨ t = 21 ∨ t = 22 ∨ t = 23 ∨ t = 24 ∨ t = 25 ∨ t = 26 := by omega
      rcases hc with rfl | rfl | rfl | rfl | rfl | rfl | rfl
      · obtain ⟨cA, k, comp, h1, h2, h3⟩ := Cond.arrayClass_spec (hts (.arrayClass .int) (mj_tin 47 (by decide +kernel)))
        exact ⟨cA, fun _ _ => ⟨fun n z => ⟨(fun q hq => by cases hq), k, h2, comp, h3⟩, h1⟩⟩
      · obtain ⟨cA, k, comp, h1, h2, h3⟩ := Cond.arrayClass_spec (hts (.arrayClass .boolean) (mj_tin 896 (by decide +kernel)))
        exact ⟨cA, fun _ _ => ⟨fun n z => ⟨(fun q hq => by cases hq), k, h2, comp, h3⟩, h1⟩⟩
      · obtain ⟨comp, cA, k, h1, -, h2, h3, h4⟩ := Cond.arrayOver_spec (hts (.arrayOver (.object "CeilingKernel$Task")) (mj_tin 23 (by decide +kernel)))
        exact ⟨cA, fun _ _ => ⟨fun n z => ⟨(fun q hq => by cases hq), k, h2, comp, h3⟩, k, comp, h2, h3, h1, h4⟩⟩
      · obtain ⟨comp, cA, k, h1, -, h2, h3, h4⟩ := Cond.arrayOver_spec (hts (.arrayOver (.object "CeilingKernel$Routine")) (mj_tin 87 (by decide +kernel)))
        exact ⟨cA, fun _ _ => ⟨fun n z => ⟨(fun q hq => by cases hq), k, h2, comp, h3⟩, k, comp, h2, h3, h1, h4⟩⟩
      · obtain ⟨comp, cA, k, h1, -, h2, h3, h4⟩ := Cond.arrayOver_spec (hts (.arrayOver (.object "CeilingKernel$Post")) (mj_tin 157 (by decide +kernel)))
        exact ⟨cA, fun _ _ => ⟨fun n z => ⟨(fun q hq => by cases hq), k, h2, comp, h3⟩, k, comp, h2, h3, h1, h4⟩⟩
      · obtain ⟨comp, cA, k, h1, -, h2, h3, h4⟩ := Cond.arrayOver_spec (hts (.arrayOver (.object "CeilingKernel$Mailbox")) (mj_tin 182 (by decide +kernel)))
        exact ⟨cA, fun _ _ => ⟨fun n z => ⟨(fun q hq => by cases hq), k, h2, comp, h3⟩, k, comp, h2, h3, h1, h4⟩⟩
      · obtain ⟨comp, cA, k, h1, -, h2, h3, h4⟩ := arrayOverA_spec (hts (.arrayOver (.array .int)) (mj_tin 55 (by decide +kernel)))
        exact ⟨cA, fun _ _ => ⟨fun n z => ⟨(fun q hq => by cases hq), k, h2, comp, h3⟩, h4⟩⟩
    · exact ⟨0, fun h1 h2 => absurd ⟨h1, h2⟩ ht⟩
  exact ⟨fun t => Classical.choose (key t), fun t h1 h2 => Classical.choose_spec (key t) h1 h2⟩
theorem mj_exK {args : Array Value} {s : State} (hts : ∀ w ∈ lw_tbl, w.before args s = true) : ∃ (D : va_G) (E : Nat → ClassId), va_K D vwCl (mj_tys E) s := by
  obtain ⟨D, hD⟩ := mj_exD hts
  obtain ⟨E, hE⟩ := mj_exE hts
  refine ⟨D, E, hD, fun k q hk => ?_⟩
  match k, hk with
  | 0, hk => cases hk; exact hE 20 (by decide) (by decide)
  | 1, hk => cases hk; exact hE 21 (by decide) (by decide)
  | 2, hk => cases hk; exact hE 22 (by decide) (by decide)
  | 3, hk => cases hk; exact hE 23 (by decide) (by decide)
  | 4, hk => cases hk; exact hE 24 (by decide) (by decide)
  | 5, hk => cases hk; exact hE 25 (by decide) (by decide)
  | 6, hk => cases hk; exact hE 26 (by decide) (by decide)
  | n + 7, hk => simp [mj_tys] at hk
theorem mj_bad_in : ∀ w ∈ mj_bad, w ∈ lw_tbl := by
  have h : mj_bad = ([23, 26, 50, 55, 87, 89, 157, 160, 182, 280, 471, 488, 620, 726] : List Nat).filterMap (fun i => tables_1[i]?) := by decide +kernel
  intro w hw
  rw [h] at hw
  obtain ⟨i, -, hi⟩ := List.mem_filterMap.mp hw
  exact mj_tin i hi
theorem mj_bad_any {s : State} {a a' : Array Value} : ∀ w ∈ mj_bad, w.before a s = true → w.before a' s = true := by
  intro w hw h
  simp only [mj_bad, List.mem_cons, List.not_mem_nil, or_false] at hw
  rcases hw with rfl | rfl | rfl | rfl | rfl | rfl | rfl | rfl | rfl | rfl | rfl | rfl | rfl | rfl
  all_goals first
    | exact va_tabs rfl rfl h
    | exact h
theorem mj_exT {b : Nat} {s : State} {A : Nat → Prop} (hts : ∀ w ∈ lw_tbl, w.before #[Value.ref b] s = true) (hgv : (Jvm.Cond.and given_1 narrow_1).before #[Value.ref b] s = true) (hA : ∀ a : Nat, a < s.heap.size → ¬ A a) :
    ∃ t : Nat → Nat, ∀ k : Nat, 1 ≤ k → k < 5 → ∀ l : List Int32, ([[], mj_COST, mj_X_MOST, mj_Y_LEAST, mj_Y_MOST] : List (List Int32))[k]? = some l → va_Z mj_SC (mj_SN k) "[I" (.ref (t k)) A s s.heap ∧ va_T .int (t k) l.length (fun j => .int (l.getD j 0)) A s s.heap := by
  have hs := flat_of_before _ hgv
  obtain ⟨tCOST, zCOST, fCOST⟩ := mj_stat (A := A) mj_COST (hts (.laysStatic "CeilingKernel" "COST" "[I") (mj_tin 380 (by decide +kernel))) (hts (.initialized "CeilingKernel") (mj_tin 1 (by decide +kernel))) (hs _ (by decide +kernel)) (hs _ (by decide +kernel)) (fun j hj => hs _ ((show ∀ j, j < 15 → (Cond.eq (.elem (.static "CeilingKernel" "COST" "[I") (.int (Int32.ofNat j))) (.int (mj_COST.getD j 0))) ∈ flatC (Jvm.Cond.and given_1 narrow_1) by decide +kernel) j hj)) hA
  obtain ⟨tX_MOST, zX_MOST, fX_MOST⟩ := mj_stat (A := A) mj_X_MOST (hts (.laysStatic "CeilingKernel" "X_MOST" "[I") (mj_tin 382 (by decide +kernel))) (hts (.initialized "CeilingKernel") (mj_tin 1 (by decide +kernel))) (hs _ (by decide +kernel)) (hs _ (by decide +kernel)) (fun j hj => hs _ ((show ∀ j, j < 15 → (Cond.eq (.elem (.static "CeilingKernel" "X_MOST" "[I") (.int (Int32.ofNat j))) (.int (mj_X_MOST.getD j 0))) ∈ flatC (Jvm.Cond.and given_1 narrow_1) by decide +kernel) j hj)) hA
  obtain ⟨tY_LEAST, zY_LEAST, fY_LEAST⟩ := mj_stat (A := A) mj_Y_LEAST (hts (.laysStatic "CeilingKernel" "Y_LEAST" "[I") (mj_tin 384 (by decide +kernel))) (hts (.initialized "CeilingKernel") (mj_tin 1 (by decide +kernel))) (hs _ (by decide +kernel)) (hs _ (by decide +kernel)) (fun j hj => hs _ ((show ∀ j, j < 15 → (Cond.eq (.elem (.static "CeilingKernel" "Y_LEAST" "[I") (.int (Int32.ofNat j))) (.int (mj_Y_LEAST.getD j 0))) ∈ flatC (Jvm.Cond.and given_1 narrow_1) by decide +kernel) j hj)) hA
  obtain ⟨tY_MOST, zY_MOST, fY_MOST⟩ := mj_stat (A := A) mj_Y_MOST (hts (.laysStatic "CeilingKernel" "Y_MOST" "[I") (mj_tin 386 (by decide +kernel))) (hts (.initialized "CeilingKernel") (mj_tin 1 (by decide +kernel))) (hs _ (by decide +kernel)) (hs _ (by decide +kernel)) (fun j hj => hs _ ((show ∀ j, j < 15 → (Cond.eq (.elem (.static "CeilingKernel" "Y_MOST" "[I") (.int (Int32.ofNat j))) (.int (mj_Y_MOST.getD j 0))) ∈ flatC (Jvm.Cond.and given_1 narrow_1) by decide +kernel) j hj)) hA
  refine ⟨fun k => match k with | 1 => tCOST | 2 => tX_MOST | 3 => tY_LEAST | _ => tY_MOST, fun k h1 h5 l hl => ?_⟩
  have hc : k = 1 ∨ k = 2 ∨ k = 3 ∨ k = 4 := by omega
  rcases hc with rfl | rfl | rfl | rfl
  · cases hl; exact ⟨zCOST, fCOST⟩
  · cases hl; exact ⟨zX_MOST, fX_MOST⟩
  · cases hl; exact ⟨zY_LEAST, fY_LEAST⟩
  · cases hl; exact ⟨zY_MOST, fY_MOST⟩
theorem W.mono {p : Program} {l : Launch} {e : Env} {R : Room} {s : State} {m : MethodId} {args : Array Value} {below : List Frame} {meth : Method} {c : Code} {H : Heap} {locs : List Loc} {cells slots : Nat} {Q Q' : State → Prop} {g : JFrame} (h : W p l e R s m args below meth c H locs cells slots Q g) (hq : ∀ t, Q t → Q' t) : W p l e R s m args below meth c H locs cells slots Q' g := fun T hT X => by
  obtain ⟨t, a, b⟩ := h T hT X
  exact ⟨t, a, hq t b⟩
/-- the law's walk out of a run of the small machine -/
theorem mj_start {p : Program} {e : Env} {s : State} {m : MethodId} {below : List Frame} {meth : Method} {c : Code} (l : Launch) {b L : Nat} {xs : Nat → Int32} (C0 : lw_At p s m meth c b L xs)
    (hrun : ∃ (n : Nat) (h' : mj_Hp), mj_run (mj_cst ((List.range L).map xs)) n 146 0 [(0, .ref 0)] [] [] = some (some (.int 1), h') ∧ h'.length ≤ 600000 ∧ mj_sl h' ≤ 7302250) :
    W p l e room_1 s m #[Value.ref b] below meth c s.heap [] 0 0 (lw_Z below #[Value.ref b] s) (entryFrame m ([Value.ref b] : List Value).toArray 4) := by
  obtain ⟨n, h', hr, hl1, hl2⟩ := hrun
  obtain ⟨hx, hb, hret, hml, hown, hts, hX, hbl, hlocks, hgv⟩ := C0
  have hA : ∀ a : Nat, a < s.heap.size → ¬ mj_A s.heap.size a := fun a h q => Nat.not_le.mpr h q
  obtain ⟨D, E, hKK⟩ := mj_exK hts
  obtain ⟨t, ht⟩ := mj_exT (A := mj_A s.heap.size) hts hgv hA
  have hK : mj_K s.heap.size (fun k => if k = 0 then b else t k) E D (mj_cst ((List.range L).map xs)) s := by
    refine ⟨hKK, Nat.le_refl _, fun k l9 hc hk => ?_, fun k h1 h5 => ?_, fun w hw => mj_bad_any w hw (hts w (mj_bad_in w hw))⟩
    · by_cases hk0 : k = 0
      · subst hk0
        cases hc
        obtain ⟨scr, g1, g2, g3, g4, g5⟩ := hX
        refine ⟨scr, by simpa using g1, g2, g3, by simp [g4], by simp [g4], fun j hj => ?_, by simpa using hA b hbl⟩
        have hj' : j < L := by simpa using hj
        rw [g5 j hj']
        simp [List.getD_eq_getElem?_getD, hj']
      · simp only [if_neg hk0]
        refine (ht k (by omega) hk l9 ?_).2
        rw [← hc]
        match k, hk0 with
        | j + 1, _ => rfl
    · simp only [if_neg (show ¬ k = 0 by omega)]
      have hc : k = 1 ∨ k = 2 ∨ k = 3 ∨ k = 4 := by omega
      rcases hc with rfl | rfl | rfl | rfl
      · exact (ht 1 (by decide) (by decide) _ rfl).1
      · exact (ht 2 (by decide) (by decide) _ rfl).1
      · exact (ht 3 (by decide) (by decide) _ rfl).1
      · exact (ht 4 (by decide) (by decide) _ rfl).1
  have hP : mj_P s.heap.size (fun k => if k = 0 then b else t k) E D [] s.heap := ⟨by simp, fun k q hq => by simp at hq⟩
  have hl := lv_entry ([Value.ref b]) (n := 4) (Nat.le_of_ble_eq_true rfl)
  rw [lg_entry_eq]
  generalize (lg_sl ([Value.ref b]) ++ List.replicate (4 - (lg_sl ([Value.ref b])).length) Slot.unset).toArray = lsA at hl ⊢
  have hsim := mj_sim (l := l) (sz0 := s.heap.size) (ad := fun k => if k = 0 then b else t k) (E := E) (D := D) (cst := mj_cst ((List.range L).map xs)) mj_goods n 146 0 [(0, .ref 0)] [] [] _ h' (by decide) hr p e room_1 s m #[Value.ref b] below meth c s.heap [] 0 0 h'.length (mj_sl h') lsA
    ⟨hx, hb, hml, hret, hlocks, hown, fun w hw => hts w (mj_Glw hw), fun hi => absurd hi (by decide +kernel), by decide, by decide⟩ hK hP va_S.rf hl hl1 hl2 (by simp) (by simp [mj_sl])
  refine W.mono hsim fun tt hq => ?_
  obtain ⟨oc, q1, q2, ⟨q3, -, -⟩, LL, ⟨f1, f2, f3⟩, q5⟩ := hq
  exact ⟨oc, q1, q2, q3, f1, f2, f3.weaken (fun y hy hlt => absurd hlt (Nat.not_lt.mpr (q5 y hy))) hl1 hl2⟩
end
section
/-! What the constructors leave. -/
set_option maxRecDepth 1000000 in
theorem ph_1 : mj_run [] 5000 0 0 [(0, .ref 5)] [] [(0, mj_blank 0)] = some (none, (lay s0).take 163) := by decide +kernel
set_option maxRecDepth 1000000 in
theorem ph_2 : mj_run [] 5000 99 0 [(0, .ref 168)] [] ((lay s0).take 163 ++ [(10, mj_blank 10)]) = some (none, lay s0) := by decide +kernel
end
