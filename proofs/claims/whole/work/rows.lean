section
/-- a private method of a class that the tables say can be made, by its rows of tables_1 -/
def lw_okq (q : MethodName × Nat) : Prop := (q.1.cls ≠ "java/lang/invoke/MethodHandle" ∧ q.1.cls ≠ "java/lang/invoke/VarHandle") ∧ Cond.instantiable q.1.cls q.2 ∈ tables_1 ∧ Cond.privateMethod q.1 ∈ tables_1 ∧ Cond.instanceMethod q.1 ∈ tables_1
theorem lw_p0 : lw_okq (⟨"ClocklessGates", "discardResults", "()V"⟩, 6) := ⟨⟨by decide +kernel, by decide +kernel⟩, List.mem_of_getElem? (i := 18) (by decide +kernel), List.mem_of_getElem? (i := 240) (by decide +kernel), List.mem_of_getElem? (i := 241) (by decide +kernel)⟩
theorem lw_p1 : lw_okq (⟨"ClocklessGates$Graph", "addState", "(III)I"⟩, 11) := ⟨⟨by decide +kernel, by decide +kernel⟩, List.mem_of_getElem? (i := 77) (by decide +kernel), List.mem_of_getElem? (i := 256) (by decide +kernel), List.mem_of_getElem? (i := 257) (by decide +kernel)⟩
theorem lw_p2 : lw_okq (⟨"ClocklessGates$Graph", "expand", "(LClocklessGates$Net;I)V"⟩, 11) := ⟨⟨by decide +kernel, by decide +kernel⟩, List.mem_of_getElem? (i := 77) (by decide +kernel), List.mem_of_getElem? (i := 260) (by decide +kernel), List.mem_of_getElem? (i := 261) (by decide +kernel)⟩
theorem lw_p3 : lw_okq (⟨"ClocklessGates$Graph", "noteEnabled", "(LClocklessGates$Net;II)V"⟩, 11) := ⟨⟨by decide +kernel, by decide +kernel⟩, List.mem_of_getElem? (i := 77) (by decide +kernel), List.mem_of_getElem? (i := 268) (by decide +kernel), List.mem_of_getElem? (i := 269) (by decide +kernel)⟩
theorem lw_p4 : lw_okq (⟨"ClocklessGates$Graph", "fire", "(LClocklessGates$Net;II)I"⟩, 11) := ⟨⟨by decide +kernel, by decide +kernel⟩, List.mem_of_getElem? (i := 77) (by decide +kernel), List.mem_of_getElem? (i := 296) (by decide +kernel), List.mem_of_getElem? (i := 297) (by decide +kernel)⟩
theorem lw_p5 : lw_okq (⟨"ClocklessGates$Graph", "leastDisablingState", "(LClocklessGates$Net;)I"⟩, 11) := ⟨⟨by decide +kernel, by decide +kernel⟩, List.mem_of_getElem? (i := 77) (by decide +kernel), List.mem_of_getElem? (i := 312) (by decide +kernel), List.mem_of_getElem? (i := 313) (by decide +kernel)⟩
theorem lw_p6 : lw_okq (⟨"ClocklessGates$Graph", "losesEdge", "(LClocklessGates$Net;II)Z"⟩, 11) := ⟨⟨by decide +kernel, by decide +kernel⟩, List.mem_of_getElem? (i := 77) (by decide +kernel), List.mem_of_getElem? (i := 320) (by decide +kernel), List.mem_of_getElem? (i := 321) (by decide +kernel)⟩
theorem lw_p7 : lw_okq (⟨"ClocklessGates$Graph", "leastConflictingState", "()I"⟩, 11) := ⟨⟨by decide +kernel, by decide +kernel⟩, List.mem_of_getElem? (i := 77) (by decide +kernel), List.mem_of_getElem? (i := 324) (by decide +kernel), List.mem_of_getElem? (i := 325) (by decide +kernel)⟩
theorem lw_p8 : lw_okq (⟨"java/lang/Throwable", "fillInStackTrace", "(I)Ljava/lang/Throwable;"⟩, 6) := ⟨⟨by decide +kernel, by decide +kernel⟩, List.mem_of_getElem? (i := 379) (by decide +kernel), List.mem_of_getElem? (i := 377) (by decide +kernel), List.mem_of_getElem? (i := 378) (by decide +kernel)⟩
theorem lw_p9 : lw_okq (⟨"ClocklessGates", "requireSignal", "(I)V"⟩, 6) := ⟨⟨by decide +kernel, by decide +kernel⟩, List.mem_of_getElem? (i := 18) (by decide +kernel), List.mem_of_getElem? (i := 421) (by decide +kernel), List.mem_of_getElem? (i := 422) (by decide +kernel)⟩
theorem lw_p10 : lw_okq (⟨"ClocklessGates", "requireGraph", "()V"⟩, 6) := ⟨⟨by decide +kernel, by decide +kernel⟩, List.mem_of_getElem? (i := 18) (by decide +kernel), List.mem_of_getElem? (i := 499) (by decide +kernel), List.mem_of_getElem? (i := 500) (by decide +kernel)⟩
theorem lw_p11 : lw_okq (⟨"ClocklessGates", "requireState", "(I)V"⟩, 6) := ⟨⟨by decide +kernel, by decide +kernel⟩, List.mem_of_getElem? (i := 18) (by decide +kernel), List.mem_of_getElem? (i := 511) (by decide +kernel), List.mem_of_getElem? (i := 512) (by decide +kernel)⟩
theorem lw_p12 : lw_okq (⟨"ClocklessGates", "requireFine", "()V"⟩, 6) := ⟨⟨by decide +kernel, by decide +kernel⟩, List.mem_of_getElem? (i := 18) (by decide +kernel), List.mem_of_getElem? (i := 545) (by decide +kernel), List.mem_of_getElem? (i := 546) (by decide +kernel)⟩
theorem lw_p13 : lw_okq (⟨"ClocklessGates", "makeDraft", "(I)Z"⟩, 6) := ⟨⟨by decide +kernel, by decide +kernel⟩, List.mem_of_getElem? (i := 18) (by decide +kernel), List.mem_of_getElem? (i := 550) (by decide +kernel), List.mem_of_getElem? (i := 551) (by decide +kernel)⟩
theorem lw_p14 : lw_okq (⟨"ClocklessGates$LeastSum", "collectPrimes", "(III)V"⟩, 11) := ⟨⟨by decide +kernel, by decide +kernel⟩, List.mem_of_getElem? (i := 172) (by decide +kernel), List.mem_of_getElem? (i := 568) (by decide +kernel), List.mem_of_getElem? (i := 569) (by decide +kernel)⟩
theorem lw_p15 : lw_okq (⟨"ClocklessGates$LeastSum", "isPrime", "(III)Z"⟩, 11) := ⟨⟨by decide +kernel, by decide +kernel⟩, List.mem_of_getElem? (i := 172) (by decide +kernel), List.mem_of_getElem? (i := 572) (by decide +kernel), List.mem_of_getElem? (i := 573) (by decide +kernel)⟩
def lw_privs_1 : List (MethodName × Nat) := [(⟨"ClocklessGates", "discardResults", "()V"⟩, 6), (⟨"ClocklessGates$Graph", "addState", "(III)I"⟩, 11), (⟨"ClocklessGates$Graph", "expand", "(LClocklessGates$Net;I)V"⟩, 11), (⟨"ClocklessGates$Graph", "noteEnabled", "(LClocklessGates$Net;II)V"⟩, 11), (⟨"ClocklessGates$Graph", "fire", "(LClocklessGates$Net;II)I"⟩, 11), (⟨"ClocklessGates$Graph", "leastDisablingState", "(LClocklessGates$Net;)I"⟩, 11), (⟨"ClocklessGates$Graph", "losesEdge", "(LClocklessGates$Net;II)Z"⟩, 11), (⟨"ClocklessGates$Graph", "leastConflictingState", "()I"⟩, 11), (⟨"java/lang/Throwable", "fillInStackTrace", "(I)Ljava/lang/Throwable;"⟩, 6), (⟨"ClocklessGates", "requireSignal", "(I)V"⟩, 6), (⟨"ClocklessGates", "requireGraph", "()V"⟩, 6), (⟨"ClocklessGates", "requireState", "(I)V"⟩, 6), (⟨"ClocklessGates", "requireFine", "()V"⟩, 6), (⟨"ClocklessGates", "makeDraft", "(I)Z"⟩, 6), (⟨"ClocklessGates$LeastSum", "collectPrimes", "(III)V"⟩, 11), (⟨"ClocklessGates$LeastSum", "isPrime", "(III)Z"⟩, 11)]
theorem lw_r1 : ∀ q ∈ lw_privs_1, lw_okq q := List.forall_mem_cons.mpr ⟨lw_p0, List.forall_mem_cons.mpr ⟨lw_p1, List.forall_mem_cons.mpr ⟨lw_p2, List.forall_mem_cons.mpr ⟨lw_p3, List.forall_mem_cons.mpr ⟨lw_p4, List.forall_mem_cons.mpr ⟨lw_p5, List.forall_mem_cons.mpr ⟨lw_p6, List.forall_mem_cons.mpr ⟨lw_p7, List.forall_mem_cons.mpr ⟨lw_p8, List.forall_mem_cons.mpr ⟨lw_p9, List.forall_mem_cons.mpr ⟨lw_p10, List.forall_mem_cons.mpr ⟨lw_p11, List.forall_mem_cons.mpr ⟨lw_p12, List.forall_mem_cons.mpr ⟨lw_p13, List.forall_mem_cons.mpr ⟨lw_p14, List.forall_mem_cons.mpr ⟨lw_p15, fun _ h => absurd h List.not_mem_nil⟩⟩⟩⟩⟩⟩⟩⟩⟩⟩⟩⟩⟩⟩⟩⟩
theorem lw_p16 : lw_okq (⟨"ClocklessGates$LeastSum", "countRivals", "()V"⟩, 11) := ⟨⟨by decide +kernel, by decide +kernel⟩, List.mem_of_getElem? (i := 172) (by decide +kernel), List.mem_of_getElem? (i := 591) (by decide +kernel), List.mem_of_getElem? (i := 592) (by decide +kernel)⟩
theorem lw_p17 : lw_okq (⟨"ClocklessGates$LeastSum", "keepIfLess", "(I)V"⟩, 11) := ⟨⟨by decide +kernel, by decide +kernel⟩, List.mem_of_getElem? (i := 172) (by decide +kernel), List.mem_of_getElem? (i := 598) (by decide +kernel), List.mem_of_getElem? (i := 599) (by decide +kernel)⟩
theorem lw_p18 : lw_okq (⟨"ClocklessGates$LeastSum", "takenComesFirst", "()Z"⟩, 11) := ⟨⟨by decide +kernel, by decide +kernel⟩, List.mem_of_getElem? (i := 172) (by decide +kernel), List.mem_of_getElem? (i := 602) (by decide +kernel), List.mem_of_getElem? (i := 603) (by decide +kernel)⟩
theorem lw_p19 : lw_okq (⟨"ClocklessGates$LeastSum", "leastCostOf", "(I)I"⟩, 11) := ⟨⟨by decide +kernel, by decide +kernel⟩, List.mem_of_getElem? (i := 172) (by decide +kernel), List.mem_of_getElem? (i := 606) (by decide +kernel), List.mem_of_getElem? (i := 607) (by decide +kernel)⟩
theorem lw_p20 : lw_okq (⟨"ClocklessGates$LeastSum", "codeWithFewestRivals", "(I)I"⟩, 11) := ⟨⟨by decide +kernel, by decide +kernel⟩, List.mem_of_getElem? (i := 172) (by decide +kernel), List.mem_of_getElem? (i := 610) (by decide +kernel), List.mem_of_getElem? (i := 611) (by decide +kernel)⟩
theorem lw_p21 : lw_okq (⟨"ClocklessGates$LeastSum", "liftBars", "(I)V"⟩, 11) := ⟨⟨by decide +kernel, by decide +kernel⟩, List.mem_of_getElem? (i := 172) (by decide +kernel), List.mem_of_getElem? (i := 614) (by decide +kernel), List.mem_of_getElem? (i := 615) (by decide +kernel)⟩
theorem lw_p22 : lw_okq (⟨"ClocklessGates$Circuit", "reachStates", "(LClocklessGates$Net;LClocklessGates$Graph;)V"⟩, 6) := ⟨⟨by decide +kernel, by decide +kernel⟩, List.mem_of_getElem? (i := 125) (by decide +kernel), List.mem_of_getElem? (i := 707) (by decide +kernel), List.mem_of_getElem? (i := 708) (by decide +kernel)⟩
theorem lw_p23 : lw_okq (⟨"ClocklessGates$Circuit", "reach", "(I)V"⟩, 6) := ⟨⟨by decide +kernel, by decide +kernel⟩, List.mem_of_getElem? (i := 125) (by decide +kernel), List.mem_of_getElem? (i := 711) (by decide +kernel), List.mem_of_getElem? (i := 712) (by decide +kernel)⟩
theorem lw_p24 : lw_okq (⟨"ClocklessGates$Circuit", "mayFire", "(LClocklessGates$Net;LClocklessGates$Graph;II)Z"⟩, 6) := ⟨⟨by decide +kernel, by decide +kernel⟩, List.mem_of_getElem? (i := 125) (by decide +kernel), List.mem_of_getElem? (i := 715) (by decide +kernel), List.mem_of_getElem? (i := 716) (by decide +kernel)⟩
theorem lw_p25 : lw_okq (⟨"ClocklessGates$Circuit", "leastFaultyState", "(LClocklessGates$Net;LClocklessGates$Graph;I)I"⟩, 6) := ⟨⟨by decide +kernel, by decide +kernel⟩, List.mem_of_getElem? (i := 125) (by decide +kernel), List.mem_of_getElem? (i := 724) (by decide +kernel), List.mem_of_getElem? (i := 725) (by decide +kernel)⟩
theorem lw_p26 : lw_okq (⟨"ClocklessGates$Circuit", "isFaulty", "(LClocklessGates$Net;LClocklessGates$Graph;III)Z"⟩, 6) := ⟨⟨by decide +kernel, by decide +kernel⟩, List.mem_of_getElem? (i := 125) (by decide +kernel), List.mem_of_getElem? (i := 728) (by decide +kernel), List.mem_of_getElem? (i := 729) (by decide +kernel)⟩
theorem lw_p27 : lw_okq (⟨"ClocklessGates$Circuit", "acts", "(II)Z"⟩, 6) := ⟨⟨by decide +kernel, by decide +kernel⟩, List.mem_of_getElem? (i := 125) (by decide +kernel), List.mem_of_getElem? (i := 732) (by decide +kernel), List.mem_of_getElem? (i := 733) (by decide +kernel)⟩
theorem lw_p28 : lw_okq (⟨"ClocklessGates$Circuit", "mayStopActing", "(LClocklessGates$Net;LClocklessGates$Graph;II)Z"⟩, 6) := ⟨⟨by decide +kernel, by decide +kernel⟩, List.mem_of_getElem? (i := 125) (by decide +kernel), List.mem_of_getElem? (i := 736) (by decide +kernel), List.mem_of_getElem? (i := 737) (by decide +kernel)⟩
theorem lw_p29 : lw_okq (⟨"ClocklessGatesModel", "discard", "()V"⟩, 30) := ⟨⟨by decide +kernel, by decide +kernel⟩, List.mem_of_getElem? (i := 741) (by decide +kernel), List.mem_of_getElem? (i := 846) (by decide +kernel), List.mem_of_getElem? (i := 847) (by decide +kernel)⟩
theorem lw_p30 : lw_okq (⟨"ClocklessGatesModel", "noSignal", "(I)Z"⟩, 30) := ⟨⟨by decide +kernel, by decide +kernel⟩, List.mem_of_getElem? (i := 741) (by decide +kernel), List.mem_of_getElem? (i := 854) (by decide +kernel), List.mem_of_getElem? (i := 855) (by decide +kernel)⟩
theorem lw_p31 : lw_okq (⟨"ClocklessGatesModel", "explore", "()V"⟩, 30) := ⟨⟨by decide +kernel, by decide +kernel⟩, List.mem_of_getElem? (i := 741) (by decide +kernel), List.mem_of_getElem? (i := 870) (by decide +kernel), List.mem_of_getElem? (i := 871) (by decide +kernel)⟩
def lw_privs_2 : List (MethodName × Nat) := [(⟨"ClocklessGates$LeastSum", "countRivals", "()V"⟩, 11), (⟨"ClocklessGates$LeastSum", "keepIfLess", "(I)V"⟩, 11), (⟨"ClocklessGates$LeastSum", "takenComesFirst", "()Z"⟩, 11), (⟨"ClocklessGates$LeastSum", "leastCostOf", "(I)I"⟩, 11), (⟨"ClocklessGates$LeastSum", "codeWithFewestRivals", "(I)I"⟩, 11), (⟨"ClocklessGates$LeastSum", "liftBars", "(I)V"⟩, 11), (⟨"ClocklessGates$Circuit", "reachStates", "(LClocklessGates$Net;LClocklessGates$Graph;)V"⟩, 6), (⟨"ClocklessGates$Circuit", "reach", "(I)V"⟩, 6), (⟨"ClocklessGates$Circuit", "mayFire", "(LClocklessGates$Net;LClocklessGates$Graph;II)Z"⟩, 6), (⟨"ClocklessGates$Circuit", "leastFaultyState", "(LClocklessGates$Net;LClocklessGates$Graph;I)I"⟩, 6), (⟨"ClocklessGates$Circuit", "isFaulty", "(LClocklessGates$Net;LClocklessGates$Graph;III)Z"⟩, 6), (⟨"ClocklessGates$Circuit", "acts", "(II)Z"⟩, 6), (⟨"ClocklessGates$Circuit", "mayStopActing", "(LClocklessGates$Net;LClocklessGates$Graph;II)Z"⟩, 6), (⟨"ClocklessGatesModel", "discard", "()V"⟩, 30), (⟨"ClocklessGatesModel", "noSignal", "(I)Z"⟩, 30), (⟨"ClocklessGatesModel", "explore", "()V"⟩, 30)]
theorem lw_r2 : ∀ q ∈ lw_privs_2, lw_okq q := List.forall_mem_cons.mpr ⟨lw_p16, List.forall_mem_cons.mpr ⟨lw_p17, List.forall_mem_cons.mpr ⟨lw_p18, List.forall_mem_cons.mpr ⟨lw_p19, List.forall_mem_cons.mpr ⟨lw_p20, List.forall_mem_cons.mpr ⟨lw_p21, List.forall_mem_cons.mpr ⟨lw_p22, List.forall_mem_cons.mpr ⟨lw_p23, List.forall_mem_cons.mpr ⟨lw_p24, List.forall_mem_cons.mpr ⟨lw_p25, List.forall_mem_cons.mpr ⟨lw_p26, List.forall_mem_cons.mpr ⟨lw_p27, List.forall_mem_cons.mpr ⟨lw_p28, List.forall_mem_cons.mpr ⟨lw_p29, List.forall_mem_cons.mpr ⟨lw_p30, List.forall_mem_cons.mpr ⟨lw_p31, fun _ h => absurd h List.not_mem_nil⟩⟩⟩⟩⟩⟩⟩⟩⟩⟩⟩⟩⟩⟩⟩⟩
theorem lw_p32 : lw_okq (⟨"ClocklessGatesModel", "enabled", "(II)Z"⟩, 30) := ⟨⟨by decide +kernel, by decide +kernel⟩, List.mem_of_getElem? (i := 741) (by decide +kernel), List.mem_of_getElem? (i := 874) (by decide +kernel), List.mem_of_getElem? (i := 875) (by decide +kernel)⟩
theorem lw_p33 : lw_okq (⟨"ClocklessGatesModel", "safe", "(II)Z"⟩, 30) := ⟨⟨by decide +kernel, by decide +kernel⟩, List.mem_of_getElem? (i := 741) (by decide +kernel), List.mem_of_getElem? (i := 878) (by decide +kernel), List.mem_of_getElem? (i := 879) (by decide +kernel)⟩
theorem lw_p34 : lw_okq (⟨"ClocklessGatesModel", "right", "(II)Z"⟩, 30) := ⟨⟨by decide +kernel, by decide +kernel⟩, List.mem_of_getElem? (i := 741) (by decide +kernel), List.mem_of_getElem? (i := 882) (by decide +kernel), List.mem_of_getElem? (i := 883) (by decide +kernel)⟩
theorem lw_p35 : lw_okq (⟨"ClocklessGatesModel", "markAfter", "(II)I"⟩, 30) := ⟨⟨by decide +kernel, by decide +kernel⟩, List.mem_of_getElem? (i := 741) (by decide +kernel), List.mem_of_getElem? (i := 886) (by decide +kernel), List.mem_of_getElem? (i := 887) (by decide +kernel)⟩
theorem lw_p36 : lw_okq (⟨"ClocklessGatesModel", "codeAfter", "(II)I"⟩, 30) := ⟨⟨by decide +kernel, by decide +kernel⟩, List.mem_of_getElem? (i := 741) (by decide +kernel), List.mem_of_getElem? (i := 890) (by decide +kernel), List.mem_of_getElem? (i := 891) (by decide +kernel)⟩
theorem lw_p37 : lw_okq (⟨"ClocklessGatesModel", "find", "(II)I"⟩, 30) := ⟨⟨by decide +kernel, by decide +kernel⟩, List.mem_of_getElem? (i := 741) (by decide +kernel), List.mem_of_getElem? (i := 894) (by decide +kernel), List.mem_of_getElem? (i := 895) (by decide +kernel)⟩
theorem lw_p38 : lw_okq (⟨"ClocklessGatesModel", "bad", "(II)Z"⟩, 30) := ⟨⟨by decide +kernel, by decide +kernel⟩, List.mem_of_getElem? (i := 741) (by decide +kernel), List.mem_of_getElem? (i := 898) (by decide +kernel), List.mem_of_getElem? (i := 899) (by decide +kernel)⟩
theorem lw_p39 : lw_okq (⟨"ClocklessGatesModel", "loses", "(I)Z"⟩, 30) := ⟨⟨by decide +kernel, by decide +kernel⟩, List.mem_of_getElem? (i := 741) (by decide +kernel), List.mem_of_getElem? (i := 902) (by decide +kernel), List.mem_of_getElem? (i := 903) (by decide +kernel)⟩
theorem lw_p40 : lw_okq (⟨"ClocklessGatesModel", "sameEdge", "(II)Z"⟩, 30) := ⟨⟨by decide +kernel, by decide +kernel⟩, List.mem_of_getElem? (i := 741) (by decide +kernel), List.mem_of_getElem? (i := 906) (by decide +kernel), List.mem_of_getElem? (i := 907) (by decide +kernel)⟩
theorem lw_p41 : lw_okq (⟨"ClocklessGatesModel", "edgeEnabled", "(II)Z"⟩, 30) := ⟨⟨by decide +kernel, by decide +kernel⟩, List.mem_of_getElem? (i := 741) (by decide +kernel), List.mem_of_getElem? (i := 910) (by decide +kernel), List.mem_of_getElem? (i := 911) (by decide +kernel)⟩
theorem lw_p42 : lw_okq (⟨"ClocklessGatesModel", "conflicts", "(I)Z"⟩, 30) := ⟨⟨by decide +kernel, by decide +kernel⟩, List.mem_of_getElem? (i := 741) (by decide +kernel), List.mem_of_getElem? (i := 914) (by decide +kernel), List.mem_of_getElem? (i := 915) (by decide +kernel)⟩
theorem lw_p43 : lw_okq (⟨"ClocklessGatesModel", "excitedIn", "(I)I"⟩, 30) := ⟨⟨by decide +kernel, by decide +kernel⟩, List.mem_of_getElem? (i := 741) (by decide +kernel), List.mem_of_getElem? (i := 918) (by decide +kernel), List.mem_of_getElem? (i := 919) (by decide +kernel)⟩
theorem lw_p44 : lw_okq (⟨"ClocklessGatesModel", "noGraph", "()Z"⟩, 30) := ⟨⟨by decide +kernel, by decide +kernel⟩, List.mem_of_getElem? (i := 741) (by decide +kernel), List.mem_of_getElem? (i := 926) (by decide +kernel), List.mem_of_getElem? (i := 927) (by decide +kernel)⟩
theorem lw_p45 : lw_okq (⟨"ClocklessGatesModel", "noState", "(I)Z"⟩, 30) := ⟨⟨by decide +kernel, by decide +kernel⟩, List.mem_of_getElem? (i := 741) (by decide +kernel), List.mem_of_getElem? (i := 934) (by decide +kernel), List.mem_of_getElem? (i := 935) (by decide +kernel)⟩
theorem lw_p46 : lw_okq (⟨"ClocklessGatesModel", "leastSum", "(I)I"⟩, 30) := ⟨⟨by decide +kernel, by decide +kernel⟩, List.mem_of_getElem? (i := 741) (by decide +kernel), List.mem_of_getElem? (i := 958) (by decide +kernel), List.mem_of_getElem? (i := 959) (by decide +kernel)⟩
theorem lw_p47 : lw_okq (⟨"ClocklessGatesModel", "codesOf", "(II)I"⟩, 30) := ⟨⟨by decide +kernel, by decide +kernel⟩, List.mem_of_getElem? (i := 741) (by decide +kernel), List.mem_of_getElem? (i := 962) (by decide +kernel), List.mem_of_getElem? (i := 963) (by decide +kernel)⟩
def lw_privs_3 : List (MethodName × Nat) := [(⟨"ClocklessGatesModel", "enabled", "(II)Z"⟩, 30), (⟨"ClocklessGatesModel", "safe", "(II)Z"⟩, 30), (⟨"ClocklessGatesModel", "right", "(II)Z"⟩, 30), (⟨"ClocklessGatesModel", "markAfter", "(II)I"⟩, 30), (⟨"ClocklessGatesModel", "codeAfter", "(II)I"⟩, 30), (⟨"ClocklessGatesModel", "find", "(II)I"⟩, 30), (⟨"ClocklessGatesModel", "bad", "(II)Z"⟩, 30), (⟨"ClocklessGatesModel", "loses", "(I)Z"⟩, 30), (⟨"ClocklessGatesModel", "sameEdge", "(II)Z"⟩, 30), (⟨"ClocklessGatesModel", "edgeEnabled", "(II)Z"⟩, 30), (⟨"ClocklessGatesModel", "conflicts", "(I)Z"⟩, 30), (⟨"ClocklessGatesModel", "excitedIn", "(I)I"⟩, 30), (⟨"ClocklessGatesModel", "noGraph", "()Z"⟩, 30), (⟨"ClocklessGatesModel", "noState", "(I)Z"⟩, 30), (⟨"ClocklessGatesModel", "leastSum", "(I)I"⟩, 30), (⟨"ClocklessGatesModel", "codesOf", "(II)I"⟩, 30)]
theorem lw_r3 : ∀ q ∈ lw_privs_3, lw_okq q := List.forall_mem_cons.mpr ⟨lw_p32, List.forall_mem_cons.mpr ⟨lw_p33, List.forall_mem_cons.mpr ⟨lw_p34, List.forall_mem_cons.mpr ⟨lw_p35, List.forall_mem_cons.mpr ⟨lw_p36, List.forall_mem_cons.mpr ⟨lw_p37, List.forall_mem_cons.mpr ⟨lw_p38, List.forall_mem_cons.mpr ⟨lw_p39, List.forall_mem_cons.mpr ⟨lw_p40, List.forall_mem_cons.mpr ⟨lw_p41, List.forall_mem_cons.mpr ⟨lw_p42, List.forall_mem_cons.mpr ⟨lw_p43, List.forall_mem_cons.mpr ⟨lw_p44, List.forall_mem_cons.mpr ⟨lw_p45, List.forall_mem_cons.mpr ⟨lw_p46, List.forall_mem_cons.mpr ⟨lw_p47, fun _ h => absurd h List.not_mem_nil⟩⟩⟩⟩⟩⟩⟩⟩⟩⟩⟩⟩⟩⟩⟩⟩
theorem lw_p48 : lw_okq (⟨"ClocklessGatesModel", "tabulate", "(I)V"⟩, 30) := ⟨⟨by decide +kernel, by decide +kernel⟩, List.mem_of_getElem? (i := 741) (by decide +kernel), List.mem_of_getElem? (i := 966) (by decide +kernel), List.mem_of_getElem? (i := 967) (by decide +kernel)⟩
theorem lw_p49 : lw_okq (⟨"ClocklessGatesModel", "covers", "(II)Z"⟩, 30) := ⟨⟨by decide +kernel, by decide +kernel⟩, List.mem_of_getElem? (i := 741) (by decide +kernel), List.mem_of_getElem? (i := 973) (by decide +kernel), List.mem_of_getElem? (i := 974) (by decide +kernel)⟩
theorem lw_p50 : lw_okq (⟨"ClocklessGatesModel", "tryCovers", "(II)V"⟩, 30) := ⟨⟨by decide +kernel, by decide +kernel⟩, List.mem_of_getElem? (i := 741) (by decide +kernel), List.mem_of_getElem? (i := 977) (by decide +kernel), List.mem_of_getElem? (i := 978) (by decide +kernel)⟩
theorem lw_p51 : lw_okq (⟨"ClocklessGatesModel", "nextPrime", "(II)I"⟩, 30) := ⟨⟨by decide +kernel, by decide +kernel⟩, List.mem_of_getElem? (i := 741) (by decide +kernel), List.mem_of_getElem? (i := 984) (by decide +kernel), List.mem_of_getElem? (i := 985) (by decide +kernel)⟩
theorem lw_p52 : lw_okq (⟨"ClocklessGatesModel", "judge", "(I)V"⟩, 30) := ⟨⟨by decide +kernel, by decide +kernel⟩, List.mem_of_getElem? (i := 741) (by decide +kernel), List.mem_of_getElem? (i := 988) (by decide +kernel), List.mem_of_getElem? (i := 989) (by decide +kernel)⟩
theorem lw_p53 : lw_okq (⟨"ClocklessGatesModel", "digits", "(I)I"⟩, 30) := ⟨⟨by decide +kernel, by decide +kernel⟩, List.mem_of_getElem? (i := 741) (by decide +kernel), List.mem_of_getElem? (i := 992) (by decide +kernel), List.mem_of_getElem? (i := 993) (by decide +kernel)⟩
theorem lw_p54 : lw_okq (⟨"ClocklessGatesModel", "valueOf", "(II)I"⟩, 30) := ⟨⟨by decide +kernel, by decide +kernel⟩, List.mem_of_getElem? (i := 741) (by decide +kernel), List.mem_of_getElem? (i := 1016) (by decide +kernel), List.mem_of_getElem? (i := 1017) (by decide +kernel)⟩
theorem lw_p55 : lw_okq (⟨"ClocklessGatesModel", "comeTo", "()V"⟩, 30) := ⟨⟨by decide +kernel, by decide +kernel⟩, List.mem_of_getElem? (i := 741) (by decide +kernel), List.mem_of_getElem? (i := 1024) (by decide +kernel), List.mem_of_getElem? (i := 1025) (by decide +kernel)⟩
theorem lw_p56 : lw_okq (⟨"ClocklessGatesModel", "fires", "(II)Z"⟩, 30) := ⟨⟨by decide +kernel, by decide +kernel⟩, List.mem_of_getElem? (i := 741) (by decide +kernel), List.mem_of_getElem? (i := 1028) (by decide +kernel), List.mem_of_getElem? (i := 1029) (by decide +kernel)⟩
theorem lw_p57 : lw_okq (⟨"ClocklessGatesModel", "acts", "(II)Z"⟩, 30) := ⟨⟨by decide +kernel, by decide +kernel⟩, List.mem_of_getElem? (i := 741) (by decide +kernel), List.mem_of_getElem? (i := 1032) (by decide +kernel), List.mem_of_getElem? (i := 1033) (by decide +kernel)⟩
theorem lw_p58 : lw_okq (⟨"ClocklessGatesModel", "hazard", "(I)Z"⟩, 30) := ⟨⟨by decide +kernel, by decide +kernel⟩, List.mem_of_getElem? (i := 741) (by decide +kernel), List.mem_of_getElem? (i := 1036) (by decide +kernel), List.mem_of_getElem? (i := 1037) (by decide +kernel)⟩
theorem lw_p59 : lw_okq (⟨"ClocklessGatesModel", "unexpected", "(I)Z"⟩, 30) := ⟨⟨by decide +kernel, by decide +kernel⟩, List.mem_of_getElem? (i := 741) (by decide +kernel), List.mem_of_getElem? (i := 1040) (by decide +kernel), List.mem_of_getElem? (i := 1041) (by decide +kernel)⟩
theorem lw_p60 : lw_okq (⟨"ClocklessGatesModel", "missing", "(I)Z"⟩, 30) := ⟨⟨by decide +kernel, by decide +kernel⟩, List.mem_of_getElem? (i := 741) (by decide +kernel), List.mem_of_getElem? (i := 1044) (by decide +kernel), List.mem_of_getElem? (i := 1045) (by decide +kernel)⟩
def lw_privs_4 : List (MethodName × Nat) := [(⟨"ClocklessGatesModel", "tabulate", "(I)V"⟩, 30), (⟨"ClocklessGatesModel", "covers", "(II)Z"⟩, 30), (⟨"ClocklessGatesModel", "tryCovers", "(II)V"⟩, 30), (⟨"ClocklessGatesModel", "nextPrime", "(II)I"⟩, 30), (⟨"ClocklessGatesModel", "judge", "(I)V"⟩, 30), (⟨"ClocklessGatesModel", "digits", "(I)I"⟩, 30), (⟨"ClocklessGatesModel", "valueOf", "(II)I"⟩, 30), (⟨"ClocklessGatesModel", "comeTo", "()V"⟩, 30), (⟨"ClocklessGatesModel", "fires", "(II)Z"⟩, 30), (⟨"ClocklessGatesModel", "acts", "(II)Z"⟩, 30), (⟨"ClocklessGatesModel", "hazard", "(I)Z"⟩, 30), (⟨"ClocklessGatesModel", "unexpected", "(I)Z"⟩, 30), (⟨"ClocklessGatesModel", "missing", "(I)Z"⟩, 30)]
theorem lw_r4 : ∀ q ∈ lw_privs_4, lw_okq q := List.forall_mem_cons.mpr ⟨lw_p48, List.forall_mem_cons.mpr ⟨lw_p49, List.forall_mem_cons.mpr ⟨lw_p50, List.forall_mem_cons.mpr ⟨lw_p51, List.forall_mem_cons.mpr ⟨lw_p52, List.forall_mem_cons.mpr ⟨lw_p53, List.forall_mem_cons.mpr ⟨lw_p54, List.forall_mem_cons.mpr ⟨lw_p55, List.forall_mem_cons.mpr ⟨lw_p56, List.forall_mem_cons.mpr ⟨lw_p57, List.forall_mem_cons.mpr ⟨lw_p58, List.forall_mem_cons.mpr ⟨lw_p59, List.forall_mem_cons.mpr ⟨lw_p60, fun _ h => absurd h List.not_mem_nil⟩⟩⟩⟩⟩⟩⟩⟩⟩⟩⟩⟩⟩
def lw_privs : List (MethodName × Nat) := lw_privs_1 ++ (lw_privs_2 ++ (lw_privs_3 ++ (lw_privs_4)))
def lw_tbl : List Cond := k2_sels lw_privs ++ tables_1
theorem lw_privs_ok : ∀ q ∈ lw_privs, lw_okq q := by
  show ∀ q ∈ lw_privs_1 ++ (lw_privs_2 ++ (lw_privs_3 ++ (lw_privs_4))), lw_okq q
  exact List.forall_mem_append.mpr ⟨lw_r1, List.forall_mem_append.mpr ⟨lw_r2, List.forall_mem_append.mpr ⟨lw_r3, lw_r4⟩⟩⟩
end
section
/-! An abstract machine over logical addresses: its states, and how they lie in the real heap. -/
section XDefs
/-- a logical heap: how many cells there are, and what each holds (.inl (number of its array type, length, contents) or .inr (number of its class, fields)); references in it are logical addresses -/
abbrev xa_H : Type := Nat × (Nat → va_E)
/-- how a method ends: .inl what it returned, or .inr the class of what it threw -/
abbrev xa_O : Type := Option Value ⊕ String
abbrev xa_Q : Type := xa_O → xa_H → Prop
/-- a method: its name, its bytes, its locals, what it returns, its handlers -/
abbrev xa_M : Type := MethodName × ByteArray × Nat × Option FieldType × List (Nat × Nat × Nat × Nat)
/-- a program: its methods, the classes of its objects, the words it rests on, the static table (class, name), the class whose objects an array holds -/
abbrev xa_P : Type := (Nat → xa_M) × List vw_C × List Cond × String × String × String
/-- a launch's data: class numbers and field places, array classes, where the read-only tables lie, and what they hold -/
abbrev xa_Z : Type := va_G × List (ClassId × FieldType) × (Nat → Nat) × (Nat → Nat × (Nat → Int32))
abbrev xa_R : Type := Nat → Nat → Nat → List Value → List Value → xa_H → Nat → Nat → xa_Q → Prop
/-- a local whose value isn't known -/
abbrev xa_j : Value := .float 0
def xa_up {α : Type} (f : Nat → α) (k : Nat) (x : α) : Nat → α := fun j => if j = k then x else f j
theorem xa_up_s {α : Type} (f : Nat → α) (k : Nat) (x : α) : xa_up f k x k = x := by simp [xa_up]
theorem xa_up_n {α : Type} (f : Nat → α) {k j : Nat} (x : α) (h : j ≠ k) : xa_up f k x j = f j := by simp [xa_up, h]
/-- from logical to real: .retAddr k stands for the read-only table k -/
def xa_tr (tb ad : Nat → Nat) : Value → Value
  | .ref a => .ref (ad a)
  | .retAddr k => .ref (tb k)
  | v => v
def xa_trE (tys : List (ClassId × FieldType)) (tb ad : Nat → Nat) : va_E → va_E
  | .inl (t, n, .inr (.inr (.inr (.inr f)))) => .inl ((tys.getD t (0, .int)).1, n, .inr (.inr (.inr (.inr (fun j => (f j).map ad)))))
  | .inl (t, n, x) => .inl ((tys.getD t (0, .int)).1, n, x)
  | .inr (ci, fs) => .inr (ci, fs.map (xa_tr tb ad))
def xa_ok (n : Nat) (v : Value) : Prop := ∀ a, v = .ref a → a < n
def xa_okE (n : Nat) : va_E → Prop
  | .inl (_, _, .inr (.inr (.inr (.inr f)))) => ∀ j a, f j = some a → a < n
  | .inl _ => True
  | .inr (_, fs) => ∀ v ∈ fs, xa_ok n v
def xa_oks (n : Nat) (st : List Value) : Prop := ∀ v ∈ st, xa_ok n v
theorem xa_ok_i {n : Nat} {x : Int32} : xa_ok n (.int x) := fun _ h => by cases h
theorem xa_ok_l {n : Nat} {x : Int64} : xa_ok n (.long x) := fun _ h => by cases h
theorem xa_ok_t {n k : Nat} : xa_ok n (.retAddr k) := fun _ h => by cases h
theorem xa_ok_n {n : Nat} : xa_ok n .null := fun _ h => by cases h
theorem xa_ok_r {n a : Nat} (h : a < n) : xa_ok n (.ref a) := fun _ e => by cases e; exact h
theorem xa_ok_m {n n' : Nat} {v : Value} (hn : n ≤ n') (h : xa_ok n v) : xa_ok n' v := fun a e => Nat.lt_of_lt_of_le (h a e) hn
theorem xa_okE_m {n n' : Nat} {e : va_E} (hn : n ≤ n') (h : xa_okE n e) : xa_okE n' e := by
  rcases e with ⟨t, k, f | f | f | f | f⟩ | ⟨ci, fs⟩
  · trivial
  · trivial
  · trivial
  · trivial
  · exact fun j a q => Nat.lt_of_lt_of_le (h j a q) hn
  · exact fun v hv => xa_ok_m hn (h v hv)
theorem xa_oks_m {n n' : Nat} {st : List Value} (hn : n ≤ n') (h : xa_oks n st) : xa_oks n' st := fun v hv => xa_ok_m hn (h v hv)
theorem xa_oks_c {n : Nat} {v : Value} {st : List Value} (h : xa_ok n v) (hs : xa_oks n st) : xa_oks n (v :: st) := fun w hw => by
  rcases List.mem_cons.mp hw with e | e
  · rw [e]; exact h
  · exact hs w e
theorem xa_oks_i {n : Nat} {x : Int32} {st : List Value} (hs : xa_oks n st) : xa_oks n (.int x :: st) := xa_oks_c xa_ok_i hs
theorem xa_oks_l {n : Nat} {x : Int64} {st : List Value} (hs : xa_oks n st) : xa_oks n (.long x :: st) := xa_oks_c xa_ok_l hs
theorem xa_oks_h {n : Nat} {v : Value} {st : List Value} (hs : xa_oks n (v :: st)) : xa_ok n v := hs v List.mem_cons_self
theorem xa_oks_t {n : Nat} {v : Value} {st : List Value} (hs : xa_oks n (v :: st)) : xa_oks n st := fun w hw => hs w (List.mem_cons_of_mem _ hw)
theorem xa_oks_a {n : Nat} {s t : List Value} (hs : xa_oks n (s ++ t)) : xa_oks n s ∧ xa_oks n t := ⟨fun w hw => hs w (List.mem_append_left _ hw), fun w hw => hs w (List.mem_append_right _ hw)⟩
theorem xa_cat (tb ad : Nat → Nat) (v : Value) : (xa_tr tb ad v).category = v.category := by cases v <;> rfl
theorem xa_tr_ag {tb ad ad' : Nat → Nat} {n : Nat} {v : Value} (h : ∀ i, i < n → ad' i = ad i) (ok : xa_ok n v) : xa_tr tb ad' v = xa_tr tb ad v := by
  cases v with
  | ref a => show Value.ref (ad' a) = Value.ref (ad a); rw [h a (ok a rfl)]
  | _ => rfl
theorem xa_trs_ag {tb ad ad' : Nat → Nat} {n : Nat} {st : List Value} (h : ∀ i, i < n → ad' i = ad i) (ok : xa_oks n st) : st.map (xa_tr tb ad') = st.map (xa_tr tb ad) :=
  List.map_congr_left fun v hv => xa_tr_ag h (ok v hv)
theorem xa_trE_ag {tys : List (ClassId × FieldType)} {tb ad ad' : Nat → Nat} {n : Nat} {e : va_E} (h : ∀ i, i < n → ad' i = ad i) (ok : xa_okE n e) : xa_trE tys tb ad' e = xa_trE tys tb ad e := by
  rcases e with ⟨t, k, f | f | f | f | f⟩ | ⟨ci, fs⟩
  · rfl
  · rfl
  · rfl
  · rfl
  · have e1 : (fun j => (f j).map ad') = (fun j => (f j).map ad) := by
      funext j
      cases hf : f j with
      | none => rfl
      | some a => show some (ad' a) = some (ad a); rw [h a (ok j a hf)]
    show (Sum.inl ((tys.getD t (0, .int)).1, k, .inr (.inr (.inr (.inr (fun j => (f j).map ad'))))) : va_E) = .inl ((tys.getD t (0, .int)).1, k, .inr (.inr (.inr (.inr (fun j => (f j).map ad)))))
    rw [e1]
  · show (Sum.inr (ci, fs.map (xa_tr tb ad')) : va_E) = .inr (ci, fs.map (xa_tr tb ad))
    rw [xa_trs_ag h ok]
/-- the real world of a logical heap -/
def xa_w (tys : List (ClassId × FieldType)) (tb ad : Nat → Nat) (h : xa_H) : va_W := (List.range h.1).map fun i => (ad i, xa_trE tys tb ad (h.2 i))
theorem xa_w_get {tys : List (ClassId × FieldType)} {tb ad : Nat → Nat} {h : xa_H} {i : Nat} (hi : i < h.1) : (xa_w tys tb ad h)[i]? = some (ad i, xa_trE tys tb ad (h.2 i)) := by
  simp [xa_w, hi]
theorem xa_w_len {tys : List (ClassId × FieldType)} {tb ad : Nat → Nat} {h : xa_H} : (xa_w tys tb ad h).length = h.1 := by simp [xa_w]
theorem xa_w_of {tys : List (ClassId × FieldType)} {tb ad : Nat → Nat} {h : xa_H} {k : Nat} {q : Nat × va_E} (hk : (xa_w tys tb ad h)[k]? = some q) : k < h.1 ∧ q = (ad k, xa_trE tys tb ad (h.2 k)) := by
  have hl : k < h.1 := by
    have := (List.getElem?_eq_some_iff.mp hk).1
    rwa [xa_w_len] at this
  rw [xa_w_get hl] at hk
  exact ⟨hl, (Option.some.inj hk).symm⟩
theorem xa_w_set {tys : List (ClassId × FieldType)} {tb ad : Nat → Nat} {h : xa_H} {i : Nat} {e : va_E} : (xa_w tys tb ad h).set i (ad i, xa_trE tys tb ad e) = xa_w tys tb ad (h.1, xa_up h.2 i e) := by
  apply List.ext_getElem?
  intro k
  by_cases hk : k < h.1
  · rw [xa_w_get (h := (h.1, xa_up h.2 i e)) hk]
    by_cases hik : i = k
    · subst hik
      rw [List.getElem?_set_self (by rw [xa_w_len]; exact hk)]
      show some (ad i, xa_trE tys tb ad e) = some (ad i, xa_trE tys tb ad (xa_up h.2 i e i))
      rw [xa_up_s]
    · rw [List.getElem?_set_ne hik, xa_w_get hk]
      show some (ad k, xa_trE tys tb ad (h.2 k)) = some (ad k, xa_trE tys tb ad (xa_up h.2 i e k))
      rw [xa_up_n _ _ (fun q => hik q.symm)]
  · rw [List.getElem?_eq_none (by rw [List.length_set, xa_w_len]; omega), List.getElem?_eq_none (by rw [xa_w_len]; show h.1 ≤ k; omega)]
theorem xa_w_push {tys : List (ClassId × FieldType)} {tb ad : Nat → Nat} {h : xa_H} {q : Nat} {e : va_E} (hok : ∀ i, i < h.1 → xa_okE h.1 (h.2 i)) :
    xa_w tys tb ad h ++ [(q, xa_trE tys tb (xa_up ad h.1 q) e)] = xa_w tys tb (xa_up ad h.1 q) (h.1 + 1, xa_up h.2 h.1 e) := by
  show _ = (List.range (h.1 + 1)).map _
  rw [List.range_succ, List.map_append]
  congr 1
  · refine List.map_congr_left fun i hi => ?_
    have hi : i < h.1 := List.mem_range.mp hi
    show (ad i, xa_trE tys tb ad (h.2 i)) = (xa_up ad h.1 q i, xa_trE tys tb (xa_up ad h.1 q) (xa_up h.2 h.1 e i))
    rw [xa_up_n ad q (Nat.ne_of_lt hi), xa_up_n h.2 e (Nat.ne_of_lt hi), xa_trE_ag (ad := ad) (fun j hj => xa_up_n ad q (Nat.ne_of_lt hj)) (hok i hi)]
  · show [(q, xa_trE tys tb (xa_up ad h.1 q) e)] = [(xa_up ad h.1 q h.1, xa_trE tys tb (xa_up ad h.1 q) (xa_up h.2 h.1 e h.1))]
    rw [xa_up_s, xa_up_s]
/-- the known locals, as the kit lists them -/
def xa_kn (tb ad : Nat → Nat) : List Value → Nat → List (Nat × Value)
  | [], _ => []
  | v :: r, i => match v with
    | .float _ => xa_kn tb ad r (i + 1)
    | w => (i, xa_tr tb ad w) :: xa_kn tb ad r (i + 1)
def xa_isj : Value → Bool
  | .float _ => true
  | _ => false
theorem xa_kn_c (tb ad : Nat → Nat) (v : Value) (r : List Value) (b : Nat) : xa_kn tb ad (v :: r) b = if xa_isj v then xa_kn tb ad r (b + 1) else (b, xa_tr tb ad v) :: xa_kn tb ad r (b + 1) := by
  cases v <;> rfl
theorem xa_kn_mem {tb ad : Nat → Nat} {v : Value} (hj : xa_isj v = false) : ∀ (ls : List Value) (i b : Nat), ls[i]? = some v → (b + i, xa_tr tb ad v) ∈ xa_kn tb ad ls b
  | [], i, b, h => by simp at h
  | w :: r, 0, b, h => by
    have e : w = v := by simpa using h
    rw [e, xa_kn_c, hj]
    exact List.mem_cons_self
  | w :: r, i + 1, b, h => by
    have h1 : r[i]? = some v := by simpa using h
    have h2 := xa_kn_mem (tb := tb) (ad := ad) hj r i (b + 1) h1
    have e : b + 1 + i = b + (i + 1) := by omega
    rw [e] at h2
    rw [xa_kn_c]
    split
    · exact h2
    · exact List.mem_cons_of_mem _ h2
theorem xa_kn_of {tb ad : Nat → Nat} : ∀ (ls : List Value) (b : Nat) (q : Nat × Value), q ∈ xa_kn tb ad ls b → ∃ i v, q.1 = b + i ∧ ls[i]? = some v ∧ xa_isj v = false ∧ q.2 = xa_tr tb ad v
  | [], b, q, h => by cases h
  | w :: r, b, q, h => by
    rw [xa_kn_c] at h
    have tail : q ∈ xa_kn tb ad r (b + 1) → ∃ i v, q.1 = b + i ∧ (w :: r)[i]? = some v ∧ xa_isj v = false ∧ q.2 = xa_tr tb ad v := fun h2 => by
      obtain ⟨i, v, e1, e2, e3, e4⟩ := xa_kn_of r (b + 1) q h2
      exact ⟨i + 1, v, by omega, by simpa using e2, e3, e4⟩
    by_cases hj : xa_isj w = true
    · rw [if_pos hj] at h
      exact tail h
    · rw [if_neg hj] at h
      rcases List.mem_cons.mp h with e | e
      · exact ⟨0, w, by rw [e]; rfl, rfl, by simpa using hj, by rw [e]⟩
      · exact tail e
def xa_lv (tb ad : Nat → Nat) (n nL : Nat) (sl : Array Slot) (ls : List Value) : Prop := lv_has sl nL (xa_kn tb ad ls 0) ∧ ls.length = nL ∧ ∀ v ∈ ls, xa_ok n v ∧ v.category = 1
theorem xa_lv_at {tb ad : Nat → Nat} {n nL : Nat} {sl : Array Slot} {ls : List Value} (h : xa_lv tb ad n nL sl ls) {i : Nat} {v : Value} (hi : ls[i]? = some v) (hj : xa_isj v = false) : sl[i]? = some (.val (xa_tr tb ad v)) := by
  have h1 := xa_kn_mem (tb := tb) (ad := ad) hj ls i 0 hi
  rw [Nat.zero_add] at h1
  exact h.1.2.2 _ h1
theorem xa_lv_ok {tb ad : Nat → Nat} {n nL : Nat} {sl : Array Slot} {ls : List Value} (h : xa_lv tb ad n nL sl ls) {i : Nat} {v : Value} (hi : ls[i]? = some v) : xa_ok n v := (h.2.2 v (List.mem_of_getElem? hi)).1
theorem xa_lv_lt {tb ad : Nat → Nat} {n nL : Nat} {sl : Array Slot} {ls : List Value} (h : xa_lv tb ad n nL sl ls) {i : Nat} {v : Value} (hi : ls[i]? = some v) : i < nL := by
  rw [← h.2.1]; exact (List.getElem?_eq_some_iff.mp hi).1
theorem xa_lv_set {tb ad : Nat → Nat} {n nL : Nat} {sl sl' : Array Slot} {ls : List Value} (h : xa_lv tb ad n nL sl ls) {i : Nat} {v w : Value} (hi : ls[i]? = some w) (hv : xa_ok n v) (hc : v.category = 1)
    (h' : lv_has sl' nL ((i, xa_tr tb ad v) :: (xa_kn tb ad ls 0).filter (fun q => !(q.1 == i) && !(q.1 + 1 == i && q.2.category == 2)))) : xa_lv tb ad n nL sl' (ls.set i v) := by
  have hil : i < ls.length := (List.getElem?_eq_some_iff.mp hi).1
  refine ⟨⟨h'.1, h'.2.1, fun q hq => ?_⟩, by rw [List.length_set]; exact h.2.1, fun u hu => ?_⟩
  · obtain ⟨j, u, e1, e2, e3, e4⟩ := xa_kn_of _ _ q hq
    rw [Nat.zero_add] at e1
    by_cases hij : i = j
    · subst hij
      rw [List.getElem?_set_self hil] at e2
      have e5 : v = u := Option.some.inj e2
      have := h'.2.2 (i, xa_tr tb ad v) List.mem_cons_self
      rw [e1, e4, ← e5]
      exact this
    · rw [List.getElem?_set_ne hij] at e2
      have hm := xa_kn_mem (tb := tb) (ad := ad) e3 ls j 0 e2
      rw [Nat.zero_add] at hm
      have hc2 : (xa_tr tb ad u).category = 1 := by rw [xa_cat]; exact (h.2.2 u (List.mem_of_getElem? e2)).2
      have := h'.2.2 (j, xa_tr tb ad u) (List.mem_cons_of_mem _ (List.mem_filter.mpr ⟨hm, by
        have : (j == i) = false := by simpa using fun q : j = i => hij q.symm
        simp [this, hc2]⟩))
      rw [e1, e4]
      exact this
  · rcases List.mem_or_eq_of_mem_set hu with hu | hu
    · exact h.2.2 u hu
    · rw [hu]; exact ⟨hv, hc⟩
/-- the same locals at a larger heap -/
theorem xa_lv_m {tb ad ad' : Nat → Nat} {n n' nL : Nat} {sl : Array Slot} {ls : List Value} (h : xa_lv tb ad n nL sl ls) (hn : n ≤ n') (ha : ∀ i, i < n → ad' i = ad i) : xa_lv tb ad' n' nL sl ls := by
  refine ⟨⟨h.1.1, h.1.2.1, fun q hq => ?_⟩, h.2.1, fun v hv => ⟨xa_ok_m hn (h.2.2 v hv).1, (h.2.2 v hv).2⟩⟩
  obtain ⟨i, v, e1, e2, e3, e4⟩ := xa_kn_of _ _ q hq
  rw [Nat.zero_add] at e1
  have := xa_lv_at h e2 e3
  rw [e1, e4, xa_tr_ag ha (xa_lv_ok h e2)]
  exact this
/-- fewer known locals -/
def xa_le (l l' : List Value) : Prop := l'.length = l.length ∧ ∀ (i : Nat) (v : Value), l'[i]? = some v → v = xa_j ∨ l[i]? = some v
theorem xa_lv_le {tb ad : Nat → Nat} {n nL : Nat} {sl : Array Slot} {ls ls' : List Value} (h : xa_lv tb ad n nL sl ls) (hl : xa_le ls ls') : xa_lv tb ad n nL sl ls' := by
  refine ⟨⟨h.1.1, h.1.2.1, fun q hq => ?_⟩, hl.1.trans h.2.1, fun v hv => ?_⟩
  · obtain ⟨i, v, e1, e2, e3, e4⟩ := xa_kn_of _ _ q hq
    rw [Nat.zero_add] at e1
    rcases hl.2 i v e2 with e5 | e5
    · rw [e5] at e3; cases e3
    · rw [e1, e4]; exact xa_lv_at h e5 e3
  · obtain ⟨i, hi⟩ := List.mem_iff_getElem?.mp hv
    rcases hl.2 i v hi with e5 | e5
    · rw [e5]; exact ⟨(fun a e => by cases e), rfl⟩
    · exact h.2.2 v (List.mem_of_getElem? e5)
/-- a method's locals at its entry -/
def xa_ent (nL : Nat) (vs : List Value) : List Value := vs ++ List.replicate (nL - vs.length) xa_j
end XDefs
end
section
/-! What a run of the abstract machine means on the real one. -/
section XRun
/-- what holds of a state, and goes on holding at every call -/
def xa_G (K : xa_P) (Z : xa_Z) (A : Nat → Prop) (s : State) : Prop :=
  (∀ w ∈ K.2.2.1, ∀ (a' : Array Value) (U : State), s.WarmedH U.vm → w.before a' U = true) ∧ va_K Z.1 K.2.1 Z.2.1 s ∧ Z.2.1.map (·.2) = [.int, .boolean, .long, .object K.2.2.2.2.2] ∧
  (∀ k, k < 2 → va_T .int (Z.2.2.1 k) (Z.2.2.2 k).1 (fun j => .int ((Z.2.2.2 k).2 j)) A s s.heap) ∧ va_Z K.2.2.2.1 K.2.2.2.2.1 "[I" (.ref (Z.2.2.1 0)) A s s.heap
theorem xa_G.to {K : xa_P} {Z : xa_Z} {A B : Nat → Prop} {s U : State} {locs : List Loc} (h : xa_G K Z A s) (hS : va_S A s.heap U.heap locs) (hW : s.WarmedH U.vm) (hAB : ∀ q, B q → A q) : xa_G K Z B U := by
  have kp : ∀ a : Nat, a < s.heap.size → ¬ A a → U.heap[a]? = s.heap[a]? := fun a h1 h2 => hS.2.1 a h1 h2
  refine ⟨fun w hw a' V hV => h.1 w hw a' V (State.WarmedH.trans hW hV), va_K.moved hW.alike h.2.1, h.2.2.1, fun k hk => ?_, ?_⟩
  · exact va_T.narrow (va_T.moved hW.alike (va_T.kept (h.2.2.2.1 k hk) kp)) hAB
  · exact va_Z.narrow (va_Z.moved hW.alike (va_Z.kept h.2.2.2.2 kp)) hAB
/-- a body's standing facts: method y, at most d calls deeper -/
def xa_C (K : xa_P) (Z : xa_Z) (d y : Nat) (p : Program) (R : Room) (s : State) (m : MethodId) (meth : Method) (c : Code) (A : Nat → Prop) : Prop :=
  p.tables.exec = Jvm.exec ∧ c.code = (K.1 y).2.1 ∧ c.maxLocals = (K.1 y).2.2.1 ∧ meth.sig.returnType = (K.1 y).2.2.2.1 ∧ meth.locks = false ∧ meth.name = (K.1 y).1.name ∧ s.vm.findClass (K.1 y).1.cls = some m.cls ∧
  c.exceptionTable.toList = tableOf (K.1 y).2.2.2.2 ∧ d + 8 ≤ R.frames ∧ 60 * d + 300 ≤ R.locals ∧ (∀ q, s.heap.size ≤ q → A q) ∧ xa_G K Z A s
theorem xa_C.ts {K : xa_P} {Z : xa_Z} {d y : Nat} {p : Program} {R : Room} {s : State} {m : MethodId} {meth : Method} {c : Code} {A : Nat → Prop} (C : xa_C K Z d y p R s m meth c A) (args : Array Value) : ∀ w ∈ K.2.2.1, w.before args s = true :=
  fun w hw => C.2.2.2.2.2.2.2.2.2.2.2.1 w hw args s (State.WarmedH.refl s)
theorem xa_C.o {K : xa_P} {Z : xa_Z} {d y : Nat} {p : Program} {R : Room} {s : State} {m : MethodId} {meth : Method} {c : Code} {A : Nat → Prop} (C : xa_C K Z d y p R s m meth c A) : s.vm.findClass (K.1 y).1.cls = some m.cls := C.2.2.2.2.2.2.1
theorem xa_C.l {K : xa_P} {Z : xa_Z} {d y : Nat} {p : Program} {R : Room} {s : State} {m : MethodId} {meth : Method} {c : Code} {A : Nat → Prop} (C : xa_C K Z d y p R s m meth c A) : meth.locks = false := C.2.2.2.2.1
theorem xa_C.a {K : xa_P} {Z : xa_Z} {d y : Nat} {p : Program} {R : Room} {s : State} {m : MethodId} {meth : Method} {c : Code} {A : Nat → Prop} (C : xa_C K Z d y p R s m meth c A) : ∀ q, s.heap.size ≤ q → A q := C.2.2.2.2.2.2.2.2.2.2.1
theorem xa_C.g {K : xa_P} {Z : xa_Z} {d y : Nat} {p : Program} {R : Room} {s : State} {m : MethodId} {meth : Method} {c : Code} {A : Nat → Prop} (C : xa_C K Z d y p R s m meth c A) : xa_G K Z A s := C.2.2.2.2.2.2.2.2.2.2.2
theorem xa_C.k {K : xa_P} {Z : xa_Z} {d y : Nat} {p : Program} {R : Room} {s : State} {m : MethodId} {meth : Method} {c : Code} {A : Nat → Prop} (C : xa_C K Z d y p R s m meth c A) : va_K Z.1 K.2.1 Z.2.1 s := C.g.2.1
theorem xa_C.rm {K : xa_P} {Z : xa_Z} {d y : Nat} {p : Program} {R : Room} {s : State} {m : MethodId} {meth : Method} {c : Code} {A : Nat → Prop} (C : xa_C K Z d y p R s m meth c A) : d + 8 ≤ R.frames ∧ 60 * d + 300 ≤ R.locals := ⟨C.2.2.2.2.2.2.2.2.1, C.2.2.2.2.2.2.2.2.2.1⟩
theorem xa_ty {tys : List (ClassId × FieldType)} {t : Nat} {τ : FieldType} (h : (tys.map (·.2))[t]? = some τ) : tys[t]? = some ((tys.getD t (0, .int)).1, τ) := by
  rw [List.getElem?_map] at h
  cases hq : tys[t]? with
  | none => rw [hq] at h; cases h
  | some q =>
    rw [hq] at h
    have e : q.2 = τ := Option.some.inj h
    rw [List.getD_eq_getElem?_getD, hq, ← e]
    rfl
theorem xa_C.ty {K : xa_P} {Z : xa_Z} {d y : Nat} {p : Program} {R : Room} {s : State} {m : MethodId} {meth : Method} {c : Code} {A : Nat → Prop} (C : xa_C K Z d y p R s m meth c A) {t : Nat} {τ : FieldType} (h : ([.int, .boolean, .long, .object K.2.2.2.2.2] : List FieldType)[t]? = some τ) :
    Z.2.1[t]? = some ((Z.2.1.getD t (0, .int)).1, τ) := xa_ty (by rw [C.g.2.2.1]; exact h)
/-- the logical heap lies in the real one -/
def xa_rep (K : xa_P) (Z : xa_Z) (A : Nat → Prop) (s : State) (H : Heap) (locs : List Loc) (ad : Nat → Nat) (h : xa_H) : Prop :=
  va_P Z.1 K.2.1 (xa_w Z.2.1 Z.2.2.1 ad h) H ∧ va_D A (xa_w Z.2.1 Z.2.2.1 ad h) ∧ va_S A s.heap H locs ∧ ∀ i, i < h.1 → xa_okE h.1 (h.2 i)
/-- what came of a method -/
def xa_oc (Z : xa_Z) (s : State) (ad : Nat → Nat) (h : xa_H) (t : State) (o : Outcome) : xa_O → Prop
  | .inl v => o = .returned (v.map (xa_tr Z.2.2.1 ad)) ∧ ∀ w, v = some w → xa_ok h.1 w
  | .inr E => ∃ (q : Addr) (ce : Cell), o = .threw q ∧ t.heap[q]? = some ce ∧ ce.vm = .none ∧ s.vm.findClass E = some ce.cls
def xa_E (K : xa_P) (Z : xa_Z) (below : List Frame) (A : Nat → Prop) (s : State) (ad : Nat → Nat) (n mc ms : Nat) (Q : xa_Q) (t : State) : Prop :=
  ∃ o, t.status = .running ∧ Ended t below o ∧ (∃ L, s.WarmedH t.vm ∧ s.sameButNew ({ t with vm := s.vm } : State) L mc ms ∧ ∀ q ∈ L, A q.base) ∧
    ∃ (ad' : Nat → Nat) (h' : xa_H) (oa : xa_O), n ≤ h'.1 ∧ (∀ i, i < n → ad' i = ad i) ∧ xa_rep K Z A s t.heap [] ad' h' ∧ Q oa h' ∧ xa_oc Z s ad' h' t o oa
theorem xa_E.m {K : xa_P} {Z : xa_Z} {below : List Frame} {A : Nat → Prop} {s : State} {ad ad1 : Nat → Nat} {n n1 mc ms : Nat} {Q : xa_Q} {t : State} (hn : n ≤ n1) (ha : ∀ i, i < n → ad1 i = ad i) (h : xa_E K Z below A s ad1 n1 mc ms Q t) : xa_E K Z below A s ad n mc ms Q t := by
  obtain ⟨o, h1, h2, h3, ad', h', oa, h4, h5, h6⟩ := h
  exact ⟨o, h1, h2, h3, ad', h', oa, Nat.le_trans hn h4, fun i hi => (h5 i (Nat.lt_of_lt_of_le hi hn)).trans (ha i hi), h6⟩
theorem xa_post {p : Program} {l : Launch} {e : Env} {R : Room} {s : State} {m : MethodId} {args : Array Value} {below : List Frame} {meth : Method} {c : Code} {H : Heap} {locs : List Loc} {cells slots : Nat} {Q Q' : State → Prop} {g : JFrame}
    (hq : ∀ t, Q' t → Q t) (k : W p l e R s m args below meth c H locs cells slots Q' g) : W p l e R s m args below meth c H locs cells slots Q g := by
  intro T hT X
  obtain ⟨t, a, b⟩ := k T hT X
  exact ⟨t, a, hq t b⟩
/-- the meaning of a configuration -/
def xa_W (l : Launch) (K : xa_P) (Z : xa_Z) : xa_R := fun d y pc ls st h mc ms Q =>
  ∀ (p : Program) (e : Env) (R : Room) (s : State) (m : MethodId) (args : Array Value) (below : List Frame) (meth : Method) (c : Code) (A : Nat → Prop) (H : Heap) (locs : List Loc) (cells slots : Nat) (ad : Nat → Nat) (sl : Array Slot),
    xa_C K Z d y p R s m meth c A → cells + mc ≤ R.cells → slots + ms ≤ R.slots → xa_rep K Z A s H locs ad h → xa_lv Z.2.2.1 ad h.1 (K.1 y).2.2.1 sl ls → xa_oks h.1 st →
    W p l e R s m args below meth c H locs cells slots (xa_E K Z below A s ad h.1 (cells + mc) (slots + ms) Q) (F0 m pc sl (st.map (xa_tr Z.2.2.1 ad)))
end XRun
end
section
/-! What the words of the tables give the abstract machine: fields, classes, methods. -/
section XLinks
/-- the instruction at pc, its length, the next pc; and where a jump leads -/
def xa_d (K : xa_P) (y pc : Nat) (ins : Instr) (len n : Nat) : Prop := decode (K.1 y).2.1 pc = .ok (ins, len) ∧ pc + len = n
def xa_db (K : xa_P) (y pc : Nat) (ins : Instr) (len n : Nat) (off : Int) (tgt : Nat) : Prop := xa_d K y pc ins len n ∧ (pc : Int) + off = (tgt : Int)
/-- the class with the number ci: its name, its fields, their types -/
def xa_k (K : xa_P) (ci : Nat) (C : String) (T : u_T) (N : Nat) (ty0 : Nat → FieldType) : Prop :=
  K.2.1[ci]? = some (C, T, N) ∧ (∀ w ∈ u_ws C T N, w ∈ K.2.2.1) ∧ (∀ k, k < N → parseFieldDescriptor (T k).2.2.1 = some (ty0 k)) ∧ ∀ a, a < N → ∀ b, b < N → a ≠ b → (T a).2.1 ≠ (T b).2.1
/-- the entry i of the class own leads to the field k of the class ci -/
def xa_fll (K : xa_P) (own : String) (i : Nat) (T : u_T) (k : Nat) : Prop :=
  Cond.fieldLink own i (T k).1 (T k).2.1 (T k).2.2.1 ∈ K.2.2.1 ∨ ∃ host, Cond.fieldLinkNest own i (T k).1 (T k).2.1 (T k).2.2.1 host ∈ K.2.2.1
def xa_fld (K : xa_P) (own : String) (i ci k : Nat) : Prop := ∃ C T N ty0, xa_k K ci C T N ty0 ∧ k < N ∧ xa_fll K own i T k
def xa_fldP (K : xa_P) (own : String) (i ci k : Nat) (ty : FieldType) : Prop := ∃ C T N ty0, xa_k K ci C T N ty0 ∧ k < N ∧ ty0 k = ty ∧ (T k).2.2.2 = false ∧ xa_fll K own i T k
def xa_fldF (K : xa_P) (own : String) (i ci k : Nat) (ty : FieldType) : Prop := ∃ C T N ty0, xa_k K ci C T N ty0 ∧ k < N ∧ ty0 k = ty ∧ (T k).2.2.2 = true ∧ (T k).1 = own ∧ Cond.fieldLink own i (T k).1 (T k).2.1 (T k).2.2.1 ∈ K.2.2.1
def xa_new (K : xa_P) (own : String) (i ci N : Nat) (fs : List Value) : Prop := ∃ C T ty0, xa_k K ci C T N ty0 ∧ Cond.classLink own i C ∈ K.2.2.1 ∧ Cond.instantiable C N ∈ K.2.2.1 ∧ Cond.initialized C ∈ K.2.2.1 ∧ (∀ j, j < N → defaultValue (ty0 j) = vp_V fs j) ∧ fs.all (fun v => match v with | .ref _ => false | .retAddr _ => false | _ => true) = true
/-- the word of a method's code -/
def xa_cw (q : xa_M) : Cond := match q.2.2.2.2 with
  | [] => .code q.1 q.2.1 q.2.2.1 q.2.2.2.1
  | hh => .codeWith q.1 q.2.1 q.2.2.1 q.2.2.2.1 hh
def xa_ml (K : xa_P) (own : String) (i : Nat) (x : MethodName) : Prop := Cond.methodLink own i x ∈ K.2.2.1 ∨ ∃ host, Cond.methodLinkNest own i x host ∈ K.2.2.1
def xa_my (K : xa_P) (y n : Nat) : Prop := xa_cw (K.1 y) ∈ K.2.2.1 ∧ plainName (K.1 y).1.cls = true ∧ ((K.1 y).1.cls ≠ "java/lang/invoke/MethodHandle" ∧ (K.1 y).1.cls ≠ "java/lang/invoke/VarHandle") ∧ (parseMethodDescriptor (K.1 y).1.desc).map (fun d => d.parameters.length) = some n ∧ (K.1 y).2.2.1 ≤ 41
def xa_lkV (K : xa_P) (own : String) (i ci y n : Nat) : Prop := xa_ml K own i (K.1 y).1 ∧ Cond.instanceMethod (K.1 y).1 ∈ K.2.2.1 ∧ (∃ T N, K.2.1[ci]? = some ((K.1 y).1.cls, T, N)) ∧ Cond.selects (K.1 y).1.cls (K.1 y).1 (K.1 y).1 ∈ K.2.2.1 ∧ xa_my K y n ∧ n + 1 ≤ (K.1 y).2.2.1
def xa_lkS (K : xa_P) (own : String) (i y n : Nat) : Prop := xa_ml K own i (K.1 y).1 ∧ Cond.static (K.1 y).1 ∈ K.2.2.1 ∧ Cond.initialized (K.1 y).1.cls ∈ K.2.2.1 ∧ xa_my K y n ∧ n ≤ (K.1 y).2.2.1
def xa_lkI (K : xa_P) (own : String) (i y n : Nat) : Prop := xa_ml K own i (K.1 y).1 ∧ Cond.instanceMethod (K.1 y).1 ∈ K.2.2.1 ∧ (K.1 y).1.name = "<init>" ∧ (K.1 y).2.2.2.1 = none ∧ (K.1 y).2.2.2.2 = [] ∧ xa_my K y n ∧ n + 1 ≤ (K.1 y).2.2.1
end XLinks
end
section
/-! The rules of the abstract machine (printed by wip/whole/gen_machine.py). -/
section XRules
variable (K : xa_P) (tx : Nat → Nat × (Nat → Int32)) (R : xa_R)
def xr_iconst : Prop := ∀ (d y pc : Nat) (ls st : List Value) (h : xa_H) (mc ms : Nat) (Q : xa_Q) (n' : Nat) (n : Int) (v : Int32), (xa_d K y pc (.iconst n) 1 n') → (Int32.ofInt n = v) → (R d y (n') (ls) (.int v :: st) (h) (mc) (ms) Q) → R d y (pc) (ls) (st) (h) (mc) (ms) Q
def xr_bipush : Prop := ∀ (d y pc : Nat) (ls st : List Value) (h : xa_H) (mc ms : Nat) (Q : xa_Q) (n' : Nat) (n : Int) (v : Int32), (xa_d K y pc (.bipush n) 2 n') → ((Int8.ofInt n).toInt32 = v) → (R d y (n') (ls) (.int v :: st) (h) (mc) (ms) Q) → R d y (pc) (ls) (st) (h) (mc) (ms) Q
def xr_sipush : Prop := ∀ (d y pc : Nat) (ls st : List Value) (h : xa_H) (mc ms : Nat) (Q : xa_Q) (n' : Nat) (n : Int) (v : Int32), (xa_d K y pc (.sipush n) 3 n') → ((Int16.ofInt n).toInt32 = v) → (R d y (n') (ls) (.int v :: st) (h) (mc) (ms) Q) → R d y (pc) (ls) (st) (h) (mc) (ms) Q
def xr_ldc : Prop := ∀ (d y pc : Nat) (ls st : List Value) (h : xa_H) (mc ms : Nat) (Q : xa_Q) (n' : Nat) (i : Nat) (v : Int32), (xa_d K y pc (.ldc i) 2 n') → (Jvm.Cond.constant (K.1 y).1.cls i v ∈ K.2.2.1) → (R d y (n') (ls) (.int v :: st) (h) (mc) (ms) Q) → R d y (pc) (ls) (st) (h) (mc) (ms) Q
def xr_iload_n : Prop := ∀ (d y pc : Nat) (ls st : List Value) (h : xa_H) (mc ms : Nat) (Q : xa_Q) (n' : Nat) (n : Fin 4) (i : Nat) (x : Int32), (xa_d K y pc (.iload_n n) 1 n') → ((n : Nat) = i) → (ls[i]? = some (.int x)) → (R d y (n') (ls) (.int x :: st) (h) (mc) (ms) Q) → R d y (pc) (ls) (st) (h) (mc) (ms) Q
def xr_iload : Prop := ∀ (d y pc : Nat) (ls st : List Value) (h : xa_H) (mc ms : Nat) (Q : xa_Q) (n' : Nat) (i : Nat) (x : Int32), (xa_d K y pc (.iload i) 2 n') → (ls[i]? = some (.int x)) → (R d y (n') (ls) (.int x :: st) (h) (mc) (ms) Q) → R d y (pc) (ls) (st) (h) (mc) (ms) Q
def xr_aload_n : Prop := ∀ (d y pc : Nat) (ls st : List Value) (h : xa_H) (mc ms : Nat) (Q : xa_Q) (n' : Nat) (n : Fin 4) (i : Nat) (x : Nat), (xa_d K y pc (.aload_n n) 1 n') → ((n : Nat) = i) → (ls[i]? = some (.ref x)) → (R d y (n') (ls) (.ref x :: st) (h) (mc) (ms) Q) → R d y (pc) (ls) (st) (h) (mc) (ms) Q
def xr_aload_nT : Prop := ∀ (d y pc : Nat) (ls st : List Value) (h : xa_H) (mc ms : Nat) (Q : xa_Q) (n' : Nat) (n : Fin 4) (i : Nat) (x : Nat), (xa_d K y pc (.aload_n n) 1 n') → ((n : Nat) = i) → (ls[i]? = some (.retAddr x)) → (R d y (n') (ls) (.retAddr x :: st) (h) (mc) (ms) Q) → R d y (pc) (ls) (st) (h) (mc) (ms) Q
def xr_aload : Prop := ∀ (d y pc : Nat) (ls st : List Value) (h : xa_H) (mc ms : Nat) (Q : xa_Q) (n' : Nat) (i : Nat) (x : Nat), (xa_d K y pc (.aload i) 2 n') → (ls[i]? = some (.ref x)) → (R d y (n') (ls) (.ref x :: st) (h) (mc) (ms) Q) → R d y (pc) (ls) (st) (h) (mc) (ms) Q
def xr_aloadT : Prop := ∀ (d y pc : Nat) (ls st : List Value) (h : xa_H) (mc ms : Nat) (Q : xa_Q) (n' : Nat) (i : Nat) (x : Nat), (xa_d K y pc (.aload i) 2 n') → (ls[i]? = some (.retAddr x)) → (R d y (n') (ls) (.retAddr x :: st) (h) (mc) (ms) Q) → R d y (pc) (ls) (st) (h) (mc) (ms) Q
def xr_istore_n : Prop := ∀ (d y pc : Nat) (ls st : List Value) (h : xa_H) (mc ms : Nat) (Q : xa_Q) (n' : Nat) (n : Fin 4) (i : Nat) (x : Int32) (w : Value), (xa_d K y pc (.istore_n n) 1 n') → ((n : Nat) = i) → (ls[i]? = some w) → (R d y (n') (ls.set i (.int x)) (st) (h) (mc) (ms) Q) → R d y (pc) (ls) (.int x :: st) (h) (mc) (ms) Q
def xr_istore : Prop := ∀ (d y pc : Nat) (ls st : List Value) (h : xa_H) (mc ms : Nat) (Q : xa_Q) (n' : Nat) (i : Nat) (x : Int32) (w : Value), (xa_d K y pc (.istore i) 2 n') → (ls[i]? = some w) → (R d y (n') (ls.set i (.int x)) (st) (h) (mc) (ms) Q) → R d y (pc) (ls) (.int x :: st) (h) (mc) (ms) Q
def xr_astore_n : Prop := ∀ (d y pc : Nat) (ls st : List Value) (h : xa_H) (mc ms : Nat) (Q : xa_Q) (n' : Nat) (n : Fin 4) (i : Nat) (x : Nat) (w : Value), (xa_d K y pc (.astore_n n) 1 n') → ((n : Nat) = i) → (ls[i]? = some w) → (R d y (n') (ls.set i (.ref x)) (st) (h) (mc) (ms) Q) → R d y (pc) (ls) (.ref x :: st) (h) (mc) (ms) Q
def xr_astore : Prop := ∀ (d y pc : Nat) (ls st : List Value) (h : xa_H) (mc ms : Nat) (Q : xa_Q) (n' : Nat) (i : Nat) (x : Nat) (w : Value), (xa_d K y pc (.astore i) 2 n') → (ls[i]? = some w) → (R d y (n') (ls.set i (.ref x)) (st) (h) (mc) (ms) Q) → R d y (pc) (ls) (.ref x :: st) (h) (mc) (ms) Q
def xr_iinc : Prop := ∀ (d y pc : Nat) (ls st : List Value) (h : xa_H) (mc ms : Nat) (Q : xa_Q) (n' : Nat) (i : Nat) (n : Int) (x : Int32) (v : Int32), (xa_d K y pc (.iinc i n) 3 n') → (ls[i]? = some (.int x)) → (x + Int32.ofInt n = v) → (R d y (n') (ls.set i (.int v)) (st) (h) (mc) (ms) Q) → R d y (pc) (ls) (st) (h) (mc) (ms) Q
def xr_iadd : Prop := ∀ (d y pc : Nat) (ls st : List Value) (h : xa_H) (mc ms : Nat) (Q : xa_Q) (n' : Nat) (x : Int32) (z : Int32), (xa_d K y pc (.iadd) 1 n') → (R d y (n') (ls) (.int (x + z) :: st) (h) (mc) (ms) Q) → R d y (pc) (ls) (.int z :: .int x :: st) (h) (mc) (ms) Q
def xr_isub : Prop := ∀ (d y pc : Nat) (ls st : List Value) (h : xa_H) (mc ms : Nat) (Q : xa_Q) (n' : Nat) (x : Int32) (z : Int32), (xa_d K y pc (.isub) 1 n') → (R d y (n') (ls) (.int (x - z) :: st) (h) (mc) (ms) Q) → R d y (pc) (ls) (.int z :: .int x :: st) (h) (mc) (ms) Q
def xr_imul : Prop := ∀ (d y pc : Nat) (ls st : List Value) (h : xa_H) (mc ms : Nat) (Q : xa_Q) (n' : Nat) (x : Int32) (z : Int32), (xa_d K y pc (.imul) 1 n') → (R d y (n') (ls) (.int (x * z) :: st) (h) (mc) (ms) Q) → R d y (pc) (ls) (.int z :: .int x :: st) (h) (mc) (ms) Q
def xr_iand : Prop := ∀ (d y pc : Nat) (ls st : List Value) (h : xa_H) (mc ms : Nat) (Q : xa_Q) (n' : Nat) (x : Int32) (z : Int32), (xa_d K y pc (.iand) 1 n') → (R d y (n') (ls) (.int (x &&& z) :: st) (h) (mc) (ms) Q) → R d y (pc) (ls) (.int z :: .int x :: st) (h) (mc) (ms) Q
def xr_ior : Prop := ∀ (d y pc : Nat) (ls st : List Value) (h : xa_H) (mc ms : Nat) (Q : xa_Q) (n' : Nat) (x : Int32) (z : Int32), (xa_d K y pc (.ior) 1 n') → (R d y (n') (ls) (.int (x ||| z) :: st) (h) (mc) (ms) Q) → R d y (pc) (ls) (.int z :: .int x :: st) (h) (mc) (ms) Q
def xr_ixor : Prop := ∀ (d y pc : Nat) (ls st : List Value) (h : xa_H) (mc ms : Nat) (Q : xa_Q) (n' : Nat) (x : Int32) (z : Int32), (xa_d K y pc (.ixor) 1 n') → (R d y (n') (ls) (.int (x ^^^ z) :: st) (h) (mc) (ms) Q) → R d y (pc) (ls) (.int z :: .int x :: st) (h) (mc) (ms) Q
def xr_ishl : Prop := ∀ (d y pc : Nat) (ls st : List Value) (h : xa_H) (mc ms : Nat) (Q : xa_Q) (n' : Nat) (x : Int32) (z : Int32), (xa_d K y pc (.ishl) 1 n') → (R d y (n') (ls) (.int (x <<< (z &&& 31)) :: st) (h) (mc) (ms) Q) → R d y (pc) (ls) (.int z :: .int x :: st) (h) (mc) (ms) Q
def xr_ishr : Prop := ∀ (d y pc : Nat) (ls st : List Value) (h : xa_H) (mc ms : Nat) (Q : xa_Q) (n' : Nat) (x : Int32) (z : Int32), (xa_d K y pc (.ishr) 1 n') → (R d y (n') (ls) (.int (x >>> (z &&& 31)) :: st) (h) (mc) (ms) Q) → R d y (pc) (ls) (.int z :: .int x :: st) (h) (mc) (ms) Q
def xr_iushr : Prop := ∀ (d y pc : Nat) (ls st : List Value) (h : xa_H) (mc ms : Nat) (Q : xa_Q) (n' : Nat) (x : Int32) (z : Int32), (xa_d K y pc (.iushr) 1 n') → (R d y (n') (ls) (.int ((x.toUInt32 >>> (z.toUInt32 &&& Int32.toUInt32 31)).toInt32) :: st) (h) (mc) (ms) Q) → R d y (pc) (ls) (.int z :: .int x :: st) (h) (mc) (ms) Q
def xr_idiv : Prop := ∀ (d y pc : Nat) (ls st : List Value) (h : xa_H) (mc ms : Nat) (Q : xa_Q) (n' : Nat) (x : Int32) (z : Int32), (xa_d K y pc (.idiv) 1 n') → (¬ z = 0) → (R d y (n') (ls) (.int (x / z) :: st) (h) (mc) (ms) Q) → R d y (pc) (ls) (.int z :: .int x :: st) (h) (mc) (ms) Q
def xr_irem : Prop := ∀ (d y pc : Nat) (ls st : List Value) (h : xa_H) (mc ms : Nat) (Q : xa_Q) (n' : Nat) (x : Int32) (z : Int32), (xa_d K y pc (.irem) 1 n') → (¬ z = 0) → (R d y (n') (ls) (.int (x - x / z * z) :: st) (h) (mc) (ms) Q) → R d y (pc) (ls) (.int z :: .int x :: st) (h) (mc) (ms) Q
def xr_i2l : Prop := ∀ (d y pc : Nat) (ls st : List Value) (h : xa_H) (mc ms : Nat) (Q : xa_Q) (n' : Nat) (x : Int32), (xa_d K y pc (.i2l) 1 n') → (R d y (n') (ls) (.long x.toInt64 :: st) (h) (mc) (ms) Q) → R d y (pc) (ls) (.int x :: st) (h) (mc) (ms) Q
def xr_lcmp : Prop := ∀ (d y pc : Nat) (ls st : List Value) (h : xa_H) (mc ms : Nat) (Q : xa_Q) (n' : Nat) (x : Int64) (z : Int64), (xa_d K y pc (.lcmp) 1 n') → (R d y (n') (ls) (.int (lg_cmp x z) :: st) (h) (mc) (ms) Q) → R d y (pc) (ls) (.long z :: .long x :: st) (h) (mc) (ms) Q
def xr_dup : Prop := ∀ (d y pc : Nat) (ls st : List Value) (h : xa_H) (mc ms : Nat) (Q : xa_Q) (n' : Nat) (v : Value), (xa_d K y pc (.dup) 1 n') → (v.category = 1) → (R d y (n') (ls) (v :: v :: st) (h) (mc) (ms) Q) → R d y (pc) (ls) (v :: st) (h) (mc) (ms) Q
def xr_pop : Prop := ∀ (d y pc : Nat) (ls st : List Value) (h : xa_H) (mc ms : Nat) (Q : xa_Q) (n' : Nat) (v : Value), (xa_d K y pc (.pop) 1 n') → (v.category = 1) → (R d y (n') (ls) (st) (h) (mc) (ms) Q) → R d y (pc) (ls) (v :: st) (h) (mc) (ms) Q
def xr_dup2 : Prop := ∀ (d y pc : Nat) (ls st : List Value) (h : xa_H) (mc ms : Nat) (Q : xa_Q) (n' : Nat) (v : Value) (w : Value), (xa_d K y pc (.dup2) 1 n') → (v.category = 1) → (w.category = 1) → (R d y (n') (ls) (v :: w :: v :: w :: st) (h) (mc) (ms) Q) → R d y (pc) (ls) (v :: w :: st) (h) (mc) (ms) Q
def xr_dup_x1 : Prop := ∀ (d y pc : Nat) (ls st : List Value) (h : xa_H) (mc ms : Nat) (Q : xa_Q) (n' : Nat) (v : Value) (w : Value), (xa_d K y pc (.dup_x1) 1 n') → (v.category = 1) → (w.category = 1) → (R d y (n') (ls) (v :: w :: v :: st) (h) (mc) (ms) Q) → R d y (pc) (ls) (v :: w :: st) (h) (mc) (ms) Q
def xr_if_eq : Prop := ∀ (d y pc : Nat) (ls st : List Value) (h : xa_H) (mc ms : Nat) (Q : xa_Q) (n' : Nat) (x : Int32) (off : Int) (tgt : Nat), (xa_db K y pc (.ifCond .eq off) 3 n' off tgt) → (x = 0 → R d y (tgt) (ls) (st) (h) (mc) (ms) Q) → (¬ x = 0 → R d y (n') (ls) (st) (h) (mc) (ms) Q) → R d y (pc) (ls) (.int x :: st) (h) (mc) (ms) Q
def xr_if_ne : Prop := ∀ (d y pc : Nat) (ls st : List Value) (h : xa_H) (mc ms : Nat) (Q : xa_Q) (n' : Nat) (x : Int32) (off : Int) (tgt : Nat), (xa_db K y pc (.ifCond .ne off) 3 n' off tgt) → (¬ x = 0 → R d y (tgt) (ls) (st) (h) (mc) (ms) Q) → (x = 0 → R d y (n') (ls) (st) (h) (mc) (ms) Q) → R d y (pc) (ls) (.int x :: st) (h) (mc) (ms) Q
def xr_if_lt : Prop := ∀ (d y pc : Nat) (ls st : List Value) (h : xa_H) (mc ms : Nat) (Q : xa_Q) (n' : Nat) (x : Int32) (off : Int) (tgt : Nat), (xa_db K y pc (.ifCond .lt off) 3 n' off tgt) → (x < 0 → R d y (tgt) (ls) (st) (h) (mc) (ms) Q) → (¬ x < 0 → R d y (n') (ls) (st) (h) (mc) (ms) Q) → R d y (pc) (ls) (.int x :: st) (h) (mc) (ms) Q
def xr_if_ge : Prop := ∀ (d y pc : Nat) (ls st : List Value) (h : xa_H) (mc ms : Nat) (Q : xa_Q) (n' : Nat) (x : Int32) (off : Int) (tgt : Nat), (xa_db K y pc (.ifCond .ge off) 3 n' off tgt) → (0 ≤ x → R d y (tgt) (ls) (st) (h) (mc) (ms) Q) → (¬ 0 ≤ x → R d y (n') (ls) (st) (h) (mc) (ms) Q) → R d y (pc) (ls) (.int x :: st) (h) (mc) (ms) Q
def xr_if_gt : Prop := ∀ (d y pc : Nat) (ls st : List Value) (h : xa_H) (mc ms : Nat) (Q : xa_Q) (n' : Nat) (x : Int32) (off : Int) (tgt : Nat), (xa_db K y pc (.ifCond .gt off) 3 n' off tgt) → (0 < x → R d y (tgt) (ls) (st) (h) (mc) (ms) Q) → (¬ 0 < x → R d y (n') (ls) (st) (h) (mc) (ms) Q) → R d y (pc) (ls) (.int x :: st) (h) (mc) (ms) Q
def xr_if_le : Prop := ∀ (d y pc : Nat) (ls st : List Value) (h : xa_H) (mc ms : Nat) (Q : xa_Q) (n' : Nat) (x : Int32) (off : Int) (tgt : Nat), (xa_db K y pc (.ifCond .le off) 3 n' off tgt) → (x ≤ 0 → R d y (tgt) (ls) (st) (h) (mc) (ms) Q) → (¬ x ≤ 0 → R d y (n') (ls) (st) (h) (mc) (ms) Q) → R d y (pc) (ls) (.int x :: st) (h) (mc) (ms) Q
def xr_icmp_eq : Prop := ∀ (d y pc : Nat) (ls st : List Value) (h : xa_H) (mc ms : Nat) (Q : xa_Q) (n' : Nat) (x : Int32) (z : Int32) (off : Int) (tgt : Nat), (xa_db K y pc (.if_icmp .eq off) 3 n' off tgt) → (x = z → R d y (tgt) (ls) (st) (h) (mc) (ms) Q) → (¬ x = z → R d y (n') (ls) (st) (h) (mc) (ms) Q) → R d y (pc) (ls) (.int z :: .int x :: st) (h) (mc) (ms) Q
def xr_icmp_ne : Prop := ∀ (d y pc : Nat) (ls st : List Value) (h : xa_H) (mc ms : Nat) (Q : xa_Q) (n' : Nat) (x : Int32) (z : Int32) (off : Int) (tgt : Nat), (xa_db K y pc (.if_icmp .ne off) 3 n' off tgt) → (¬ x = z → R d y (tgt) (ls) (st) (h) (mc) (ms) Q) → (x = z → R d y (n') (ls) (st) (h) (mc) (ms) Q) → R d y (pc) (ls) (.int z :: .int x :: st) (h) (mc) (ms) Q
def xr_icmp_lt : Prop := ∀ (d y pc : Nat) (ls st : List Value) (h : xa_H) (mc ms : Nat) (Q : xa_Q) (n' : Nat) (x : Int32) (z : Int32) (off : Int) (tgt : Nat), (xa_db K y pc (.if_icmp .lt off) 3 n' off tgt) → (x < z → R d y (tgt) (ls) (st) (h) (mc) (ms) Q) → (¬ x < z → R d y (n') (ls) (st) (h) (mc) (ms) Q) → R d y (pc) (ls) (.int z :: .int x :: st) (h) (mc) (ms) Q
def xr_icmp_ge : Prop := ∀ (d y pc : Nat) (ls st : List Value) (h : xa_H) (mc ms : Nat) (Q : xa_Q) (n' : Nat) (x : Int32) (z : Int32) (off : Int) (tgt : Nat), (xa_db K y pc (.if_icmp .ge off) 3 n' off tgt) → (z ≤ x → R d y (tgt) (ls) (st) (h) (mc) (ms) Q) → (¬ z ≤ x → R d y (n') (ls) (st) (h) (mc) (ms) Q) → R d y (pc) (ls) (.int z :: .int x :: st) (h) (mc) (ms) Q
def xr_icmp_gt : Prop := ∀ (d y pc : Nat) (ls st : List Value) (h : xa_H) (mc ms : Nat) (Q : xa_Q) (n' : Nat) (x : Int32) (z : Int32) (off : Int) (tgt : Nat), (xa_db K y pc (.if_icmp .gt off) 3 n' off tgt) → (z < x → R d y (tgt) (ls) (st) (h) (mc) (ms) Q) → (¬ z < x → R d y (n') (ls) (st) (h) (mc) (ms) Q) → R d y (pc) (ls) (.int z :: .int x :: st) (h) (mc) (ms) Q
def xr_icmp_le : Prop := ∀ (d y pc : Nat) (ls st : List Value) (h : xa_H) (mc ms : Nat) (Q : xa_Q) (n' : Nat) (x : Int32) (z : Int32) (off : Int) (tgt : Nat), (xa_db K y pc (.if_icmp .le off) 3 n' off tgt) → (x ≤ z → R d y (tgt) (ls) (st) (h) (mc) (ms) Q) → (¬ x ≤ z → R d y (n') (ls) (st) (h) (mc) (ms) Q) → R d y (pc) (ls) (.int z :: .int x :: st) (h) (mc) (ms) Q
def xr_goto : Prop := ∀ (d y pc : Nat) (ls st : List Value) (h : xa_H) (mc ms : Nat) (Q : xa_Q) (n' : Nat) (off : Int) (tgt : Nat), (xa_db K y pc (.goto off) 3 n' off tgt) → (R d y (tgt) (ls) (st) (h) (mc) (ms) Q) → R d y (pc) (ls) (st) (h) (mc) (ms) Q
def xr_tableOut : Prop := ∀ (d y pc : Nat) (ls st : List Value) (h : xa_H) (mc ms : Nat) (Q : xa_Q) (n' : Nat) (dflt : Int) (lo : Int) (hi : Int) (offs : Array Int) (len : Nat) (x : Int32) (tgt : Nat), (xa_d K y pc (.tableswitch dflt lo hi offs) len n') → (x.toInt < lo ∨ hi < x.toInt) → ((pc : Int) + dflt = (tgt : Int)) → (R d y (tgt) (ls) (st) (h) (mc) (ms) Q) → R d y (pc) (ls) (.int x :: st) (h) (mc) (ms) Q
def xr_tableIn : Prop := ∀ (d y pc : Nat) (ls st : List Value) (h : xa_H) (mc ms : Nat) (Q : xa_Q) (n' : Nat) (dflt : Int) (lo : Int) (hi : Int) (offs : Array Int) (len : Nat) (x : Int32) (off : Int) (tgt : Nat), (xa_d K y pc (.tableswitch dflt lo hi offs) len n') → (¬ x.toInt < lo) → (¬ hi < x.toInt) → (offs[(x.toInt - lo).toNat]? = some off) → ((pc : Int) + off = (tgt : Int)) → (R d y (tgt) (ls) (st) (h) (mc) (ms) Q) → R d y (pc) (ls) (.int x :: st) (h) (mc) (ms) Q
def xr_lookup : Prop := ∀ (d y pc : Nat) (ls st : List Value) (h : xa_H) (mc ms : Nat) (Q : xa_Q) (n' : Nat) (dflt : Int) (ps : Array (Int × Int)) (len : Nat) (x : Int32) (off : Int) (tgt : Nat), (xa_d K y pc (.lookupswitch dflt ps) len n') → ((ps.toList.zip (ps.toList.drop 1)).all (fun (a, next) => a.1 < next.1) = true) → (Op.lookupswitch.offset ps.toList dflt x.toInt = off) → ((pc : Int) + off = (tgt : Int)) → (R d y (tgt) (ls) (st) (h) (mc) (ms) Q) → R d y (pc) (ls) (.int x :: st) (h) (mc) (ms) Q
def xr_less : Prop := ∀ (d y pc : Nat) (ls st : List Value) (h : xa_H) (mc ms : Nat) (Q : xa_Q) (ls' : List Value), (xa_le ls ls') → (R d y (pc) (ls') (st) (h) (mc) (ms) Q) → R d y (pc) (ls) (st) (h) (mc) (ms) Q
def xr_wide : Prop := ∀ (d y pc : Nat) (ls st : List Value) (h : xa_H) (mc ms : Nat) (Q : xa_Q) (mc' : Nat) (ms' : Nat), (mc' ≤ mc) → (ms' ≤ ms) → (R d y (pc) (ls) (st) (h) (mc') (ms') Q) → R d y (pc) (ls) (st) (h) (mc) (ms) Q
def xr_get : Prop := ∀ (d y pc : Nat) (ls st : List Value) (h : xa_H) (mc ms : Nat) (Q : xa_Q) (n' : Nat) (i : Nat) (ci : Nat) (k0 : Nat) (a : Nat) (fs : List Value) (v : Value), (xa_d K y pc (.getfield i) 3 n') → (xa_fld K (K.1 y).1.cls i ci k0) → (h.2 a = .inr (ci, fs)) → (fs[k0]? = some v) → (R d y (n') (ls) (v :: st) (h) (mc) (ms) Q) → R d y (pc) (ls) (.ref a :: st) (h) (mc) (ms) Q
def xr_put : Prop := ∀ (d y pc : Nat) (ls st : List Value) (h : xa_H) (mc ms : Nat) (Q : xa_Q) (n' : Nat) (i : Nat) (ci : Nat) (k0 : Nat) (ty : FieldType) (a : Nat) (fs : List Value) (v : Value), (xa_d K y pc (.putfield i) 3 n') → (xa_fldP K (K.1 y).1.cls i ci k0 ty) → (h.2 a = .inr (ci, fs)) → (k0 < fs.length) → (∀ tb ad : Nat → Nat, narrow ty (xa_tr tb ad v) = xa_tr tb ad v ∧ fits ty (xa_tr tb ad v) = true) → (R d y (n') (ls) (st) ((h.1, xa_up h.2 a (.inr (ci, fs.set k0 v)))) (mc) (ms) Q) → R d y (pc) (ls) (v :: .ref a :: st) (h) (mc) (ms) Q
def xr_putF : Prop := ∀ (d y pc : Nat) (ls st : List Value) (h : xa_H) (mc ms : Nat) (Q : xa_Q) (n' : Nat) (i : Nat) (ci : Nat) (k0 : Nat) (ty : FieldType) (a : Nat) (fs : List Value) (v : Value), (xa_d K y pc (.putfield i) 3 n') → (xa_fldF K (K.1 y).1.cls i ci k0 ty) → ((K.1 y).1.name = "<init>") → (h.2 a = .inr (ci, fs)) → (k0 < fs.length) → (∀ tb ad : Nat → Nat, narrow ty (xa_tr tb ad v) = xa_tr tb ad v ∧ fits ty (xa_tr tb ad v) = true) → (R d y (n') (ls) (st) ((h.1, xa_up h.2 a (.inr (ci, fs.set k0 v)))) (mc) (ms) Q) → R d y (pc) (ls) (v :: .ref a :: st) (h) (mc) (ms) Q
def xr_iaload : Prop := ∀ (d y pc : Nat) (ls st : List Value) (h : xa_H) (mc ms : Nat) (Q : xa_Q) (n' : Nat) (a : Nat) (n : Nat) (f : Nat → Int32) (i : Int32), (xa_d K y pc (.iaload) 1 n') → (h.2 a = .inl (0, n, .inl f)) → (vp_in i n) → (R d y (n') (ls) (.int (f i.toNatClampNeg) :: st) (h) (mc) (ms) Q) → R d y (pc) (ls) (.int i :: .ref a :: st) (h) (mc) (ms) Q
def xr_baload : Prop := ∀ (d y pc : Nat) (ls st : List Value) (h : xa_H) (mc ms : Nat) (Q : xa_Q) (n' : Nat) (a : Nat) (n : Nat) (f : Nat → Int32) (i : Int32), (xa_d K y pc (.baload) 1 n') → (h.2 a = .inl (1, n, .inl f)) → (vp_in i n) → (R d y (n') (ls) (.int (f i.toNatClampNeg) :: st) (h) (mc) (ms) Q) → R d y (pc) (ls) (.int i :: .ref a :: st) (h) (mc) (ms) Q
def xr_laload : Prop := ∀ (d y pc : Nat) (ls st : List Value) (h : xa_H) (mc ms : Nat) (Q : xa_Q) (n' : Nat) (a : Nat) (n : Nat) (f : Nat → Int64) (i : Int32), (xa_d K y pc (.laload) 1 n') → (h.2 a = .inl (2, n, .inr (.inl f))) → (vp_in i n) → (R d y (n') (ls) (.long (f i.toNatClampNeg) :: st) (h) (mc) (ms) Q) → R d y (pc) (ls) (.int i :: .ref a :: st) (h) (mc) (ms) Q
def xr_aaload : Prop := ∀ (d y pc : Nat) (ls st : List Value) (h : xa_H) (mc ms : Nat) (Q : xa_Q) (n' : Nat) (a : Nat) (n : Nat) (f : Nat → Option Nat) (i : Int32) (b : Nat), (xa_d K y pc (.aaload) 1 n') → (h.2 a = .inl (3, n, .inr (.inr (.inr (.inr f))))) → (vp_in i n) → (f i.toNatClampNeg = some b) → (R d y (n') (ls) (.ref b :: st) (h) (mc) (ms) Q) → R d y (pc) (ls) (.int i :: .ref a :: st) (h) (mc) (ms) Q
def xr_iastore : Prop := ∀ (d y pc : Nat) (ls st : List Value) (h : xa_H) (mc ms : Nat) (Q : xa_Q) (n' : Nat) (a : Nat) (n : Nat) (f : Nat → Int32) (i : Int32) (x : Int32), (xa_d K y pc (.iastore) 1 n') → (h.2 a = .inl (0, n, .inl (f))) → (vp_in i n) → (R d y (n') (ls) (st) ((h.1, xa_up h.2 a (.inl (0, n, .inl (upd f i.toNatClampNeg x))))) (mc) (ms) Q) → R d y (pc) (ls) (.int x :: .int i :: .ref a :: st) (h) (mc) (ms) Q
def xr_bastore : Prop := ∀ (d y pc : Nat) (ls st : List Value) (h : xa_H) (mc ms : Nat) (Q : xa_Q) (n' : Nat) (a : Nat) (n : Nat) (f : Nat → Int32) (i : Int32) (x : Int32), (xa_d K y pc (.bastore) 1 n') → (h.2 a = .inl (1, n, .inl (f))) → (vp_in i n) → (R d y (n') (ls) (st) ((h.1, xa_up h.2 a (.inl (1, n, .inl (upd f i.toNatClampNeg (vp_nar .boolean x)))))) (mc) (ms) Q) → R d y (pc) (ls) (.int x :: .int i :: .ref a :: st) (h) (mc) (ms) Q
def xr_lastore : Prop := ∀ (d y pc : Nat) (ls st : List Value) (h : xa_H) (mc ms : Nat) (Q : xa_Q) (n' : Nat) (a : Nat) (n : Nat) (f : Nat → Int64) (i : Int32) (x : Int64), (xa_d K y pc (.lastore) 1 n') → (h.2 a = .inl (2, n, .inr (.inl (f)))) → (vp_in i n) → (R d y (n') (ls) (st) ((h.1, xa_up h.2 a (.inl (2, n, .inr (.inl (vp_updL f i.toNatClampNeg x)))))) (mc) (ms) Q) → R d y (pc) (ls) (.long x :: .int i :: .ref a :: st) (h) (mc) (ms) Q
def xr_aastore : Prop := ∀ (d y pc : Nat) (ls st : List Value) (h : xa_H) (mc ms : Nat) (Q : xa_Q) (n' : Nat) (a : Nat) (n : Nat) (f : Nat → Option Nat) (i : Int32) (b : Nat) (ci : Nat) (fs : List Value), (xa_d K y pc (.aastore) 1 n') → (h.2 a = .inl (3, n, .inr (.inr (.inr (.inr f))))) → (vp_in i n) → (h.2 b = .inr (ci, fs)) → (∃ T N, K.2.1[ci]? = some (K.2.2.2.2.2, T, N)) → (R d y (n') (ls) (st) ((h.1, xa_up h.2 a (.inl (3, n, .inr (.inr (.inr (.inr (va_up f i.toNatClampNeg (some b))))))))) (mc) (ms) Q) → R d y (pc) (ls) (.ref b :: .int i :: .ref a :: st) (h) (mc) (ms) Q
def xr_tload : Prop := ∀ (d y pc : Nat) (ls st : List Value) (h : xa_H) (mc ms : Nat) (Q : xa_Q) (n' : Nat) (j : Nat) (i : Int32), (xa_d K y pc (.iaload) 1 n') → (j < 2) → (vp_in i (tx j).1) → (R d y (n') (ls) (.int ((tx j).2 i.toNatClampNeg) :: st) (h) (mc) (ms) Q) → R d y (pc) (ls) (.int i :: .retAddr j :: st) (h) (mc) (ms) Q
def xr_tlen : Prop := ∀ (d y pc : Nat) (ls st : List Value) (h : xa_H) (mc ms : Nat) (Q : xa_Q) (n' : Nat) (j : Nat) (v : Int32), (xa_d K y pc (.arraylength) 1 n') → (j < 2) → (Int32.ofNat (tx j).1 = v) → (R d y (n') (ls) (.int v :: st) (h) (mc) (ms) Q) → R d y (pc) (ls) (.retAddr j :: st) (h) (mc) (ms) Q
def xr_gets : Prop := ∀ (d y pc : Nat) (ls st : List Value) (h : xa_H) (mc ms : Nat) (Q : xa_Q) (n' : Nat) (i : Nat), (xa_d K y pc (.getstatic i) 3 n') → (Cond.fieldLink (K.1 y).1.cls i K.2.2.2.1 K.2.2.2.2.1 "[I" ∈ K.2.2.1 ∨ ∃ host, Cond.fieldLinkNest (K.1 y).1.cls i K.2.2.2.1 K.2.2.2.2.1 "[I" host ∈ K.2.2.1) → (R d y (n') (ls) (.retAddr 0 :: st) (h) (mc) (ms) Q) → R d y (pc) (ls) (st) (h) (mc) (ms) Q
def xr_iret : Prop := ∀ (d y pc : Nat) (ls st : List Value) (h : xa_H) (mc ms : Nat) (Q : xa_Q) (n' : Nat) (v : Int32) (ty : FieldType), (xa_d K y pc (.ireturn) 1 n') → ((K.1 y).2.2.2.1 = some ty) → (narrow ty (.int v) = .int v) → (Q (.inl (some (.int v))) h) → R d y (pc) (ls) ([.int v]) (h) (mc) (ms) Q
def xr_vret : Prop := ∀ (d y pc : Nat) (ls st : List Value) (h : xa_H) (mc ms : Nat) (Q : xa_Q) (n' : Nat), (xa_d K y pc (.return_) 1 n') → ((K.1 y).2.2.2.1 = none) → (Q (.inl none) h) → R d y (pc) (ls) ([]) (h) (mc) (ms) Q
def xr_aret : Prop := ∀ (d y pc : Nat) (ls st : List Value) (h : xa_H) (mc ms : Nat) (Q : xa_Q) (n' : Nat) (a : Nat) (ty : FieldType), (xa_d K y pc (.areturn) 1 n') → ((K.1 y).2.2.2.1 = some ty) → ((∃ n, ty = .object n) ∨ ∃ t, ty = .array t) → (Q (.inl (some (.ref a))) h) → R d y (pc) (ls) ([.ref a]) (h) (mc) (ms) Q
def xr_oinit : Prop := ∀ (d y pc : Nat) (ls st : List Value) (h : xa_H) (mc ms : Nat) (Q : xa_Q) (n' : Nat) (i : Nat) (a : Nat), (xa_d K y pc (.invokespecial i) 3 n') → (Cond.methodLink (K.1 y).1.cls i Lib.objectInit ∈ K.2.2.1) → (Cond.instanceMethod Lib.objectInit ∈ K.2.2.1) → (Cond.code Lib.objectInit ⟨#[0xb1]⟩ 1 none ∈ K.2.2.1) → ((st.map fun v => v.category).sum ≤ 8) → (R d y (n') (ls) (st) (h) (mc) (ms) Q) → R d y (pc) (ls) (.ref a :: st) (h) (mc) (ms) Q
def xr_new : Prop := ∀ (d y pc : Nat) (ls st : List Value) (h : xa_H) (mc ms : Nat) (Q : xa_Q) (n' : Nat) (i : Nat) (ci : Nat) (N : Nat) (fs : List Value), (xa_d K y pc (.new i) 3 n') → (xa_new K (K.1 y).1.cls i ci N fs) → (R d y (n') (ls) (.ref h.1 :: st) ((h.1 + 1, xa_up h.2 h.1 (.inr (ci, fs)))) (mc) (ms) Q) → R d y (pc) (ls) (st) (h) (mc + 1) (ms + N) Q
def xr_newI : Prop := ∀ (d y pc : Nat) (ls st : List Value) (h : xa_H) (mc ms : Nat) (Q : xa_Q) (n' : Nat) (n : Int32) (N : Nat), (xa_d K y pc (.newarray .int) 2 n') → (Cond.arrayClass .int ∈ K.2.2.1) → (¬ n < 0) → (n.toNatClampNeg = N) → (N * componentBytes .int ≤ 536870912) → (R d y (n') (ls) (.ref h.1 :: st) ((h.1 + 1, xa_up h.2 h.1 (.inl (0, N, .inl (fun _ => 0))))) (mc) (ms) Q) → R d y (pc) (ls) (.int n :: st) (h) (mc + 1) (ms + N) Q
def xr_newZ : Prop := ∀ (d y pc : Nat) (ls st : List Value) (h : xa_H) (mc ms : Nat) (Q : xa_Q) (n' : Nat) (n : Int32) (N : Nat), (xa_d K y pc (.newarray .boolean) 2 n') → (Cond.arrayClass .boolean ∈ K.2.2.1) → (¬ n < 0) → (n.toNatClampNeg = N) → (N * componentBytes .boolean ≤ 536870912) → (R d y (n') (ls) (.ref h.1 :: st) ((h.1 + 1, xa_up h.2 h.1 (.inl (1, N, .inl (fun _ => 0))))) (mc) (ms) Q) → R d y (pc) (ls) (.int n :: st) (h) (mc + 1) (ms + N) Q
def xr_newL : Prop := ∀ (d y pc : Nat) (ls st : List Value) (h : xa_H) (mc ms : Nat) (Q : xa_Q) (n' : Nat) (n : Int32) (N : Nat), (xa_d K y pc (.newarray .long) 2 n') → (Cond.arrayClass .long ∈ K.2.2.1) → (¬ n < 0) → (n.toNatClampNeg = N) → (N * componentBytes .long ≤ 536870912) → (R d y (n') (ls) (.ref h.1 :: st) ((h.1 + 1, xa_up h.2 h.1 (.inl (2, N, .inr (.inl (fun _ => 0)))))) (mc) (ms) Q) → R d y (pc) (ls) (.int n :: st) (h) (mc + 1) (ms + N) Q
def xr_newQ : Prop := ∀ (d y pc : Nat) (ls st : List Value) (h : xa_H) (mc ms : Nat) (Q : xa_Q) (n' : Nat) (i : Nat) (n : Int32) (N : Nat), (xa_d K y pc (.anewarray i) 3 n') → (Cond.classLink (K.1 y).1.cls i K.2.2.2.2.2 ∈ K.2.2.1) → (Cond.arrayOver (.object K.2.2.2.2.2) ∈ K.2.2.1) → (¬ n < 0) → (n.toNatClampNeg = N) → (N * 4 ≤ 536870912) → (R d y (n') (ls) (.ref h.1 :: st) ((h.1 + 1, xa_up h.2 h.1 (.inl (3, N, .inr (.inr (.inr (.inr (fun _ => none)))))))) (mc) (ms) Q) → R d y (pc) (ls) (.int n :: st) (h) (mc + 1) (ms + N) Q
def xr_callV : Prop := ∀ (d y pc : Nat) (ls st : List Value) (h : xa_H) (mc ms : Nat) (Q : xa_Q) (n' : Nat) (i : Nat) (y' : Nat) (ci : Nat) (fs : List Value) (a : Nat) (As : List Value) (mc' : Nat) (ms' : Nat) (P : xa_Q), (xa_d K y pc (.invokevirtual i) 3 n') → (xa_lkV K (K.1 y).1.cls i ci y' As.length) → (h.2 a = .inr (ci, fs)) → (∀ v ∈ As, v.category = 1) → ((st.map fun v => v.category).sum ≤ 8) → (∀ E h', ¬ P (.inr E) h') → (R d y' 0 (xa_ent (K.1 y').2.2.1 (.ref a :: As)) [] h mc' ms' P) → (∀ (v : Option Value) (h' : xa_H), P (.inl v) h' → R (d + 1) y n' ls (v.toList ++ st) h' mc ms Q) → R (d + 1) y pc ls (As.reverse ++ .ref a :: st) h (mc + mc') (ms + ms') Q
def xr_callS : Prop := ∀ (d y pc : Nat) (ls st : List Value) (h : xa_H) (mc ms : Nat) (Q : xa_Q) (n' : Nat) (i : Nat) (y' : Nat) (As : List Value) (mc' : Nat) (ms' : Nat) (P : xa_Q), (xa_d K y pc (.invokestatic i) 3 n') → (xa_lkS K (K.1 y).1.cls i y' As.length) → (∀ v ∈ As, v.category = 1) → ((st.map fun v => v.category).sum ≤ 8) → (∀ E h', ¬ P (.inr E) h') → (R d y' 0 (xa_ent (K.1 y').2.2.1 (As)) [] h mc' ms' P) → (∀ (v : Option Value) (h' : xa_H), P (.inl v) h' → R (d + 1) y n' ls (v.toList ++ st) h' mc ms Q) → R (d + 1) y pc ls (As.reverse ++ st) h (mc + mc') (ms + ms') Q
def xr_callI : Prop := ∀ (d y pc : Nat) (ls st : List Value) (h : xa_H) (mc ms : Nat) (Q : xa_Q) (n' : Nat) (i : Nat) (y' : Nat) (a : Nat) (As : List Value) (mc' : Nat) (ms' : Nat) (P : xa_Q), (xa_d K y pc (.invokespecial i) 3 n') → (xa_lkI K (K.1 y).1.cls i y' As.length) → (∀ v ∈ As, v.category = 1) → ((st.map fun v => v.category).sum ≤ 8) → (∀ E h', ¬ P (.inr E) h') → (R d y' 0 (xa_ent (K.1 y').2.2.1 (.ref a :: As)) [] h mc' ms' P) → (∀ (v : Option Value) (h' : xa_H), P (.inl v) h' → R (d + 1) y n' ls (v.toList ++ st) h' mc ms Q) → R (d + 1) y pc ls (As.reverse ++ .ref a :: st) h (mc + mc') (ms + ms') Q
def xr_mmax : Prop := ∀ (d y pc : Nat) (ls st : List Value) (h : xa_H) (mc ms : Nat) (Q : xa_Q) (n' : Nat) (i : Nat) (x : Int32) (z : Int32), (xa_d K y pc (.invokestatic i) 3 n') → (Cond.methodLink (K.1 y).1.cls i Lib.Math.max.name ∈ K.2.2.1) → (Cond.static Lib.Math.max.name ∈ K.2.2.1) → (Cond.initialized "java/lang/Math" ∈ K.2.2.1) → (Cond.code Lib.Math.max.name Lib.Math.max.code 2 (some .int) ∈ K.2.2.1) → ((st.map fun v => v.category).sum ≤ 8) → (R d y (n') (ls) (.int (if x < z then z else x) :: st) (h) (mc) (ms) Q) → R d y (pc) (ls) (.int z :: .int x :: st) (h) (mc) (ms) Q
def xa_cl : Prop := xr_iconst K R ∧ xr_bipush K R ∧ xr_sipush K R ∧ xr_ldc K R ∧ xr_iload_n K R ∧ xr_iload K R ∧ xr_aload_n K R ∧ xr_aload_nT K R ∧ xr_aload K R ∧ xr_aloadT K R ∧ xr_istore_n K R ∧ xr_istore K R ∧ xr_astore_n K R ∧ xr_astore K R ∧ xr_iinc K R ∧ xr_iadd K R ∧ xr_isub K R ∧ xr_imul K R ∧ xr_iand K R ∧ xr_ior K R ∧ xr_ixor K R ∧ xr_ishl K R ∧ xr_ishr K R ∧ xr_iushr K R ∧ xr_idiv K R ∧ xr_irem K R ∧ xr_i2l K R ∧ xr_lcmp K R ∧ xr_dup K R ∧ xr_pop K R ∧ xr_dup2 K R ∧ xr_dup_x1 K R ∧ xr_if_eq K R ∧ xr_if_ne K R ∧ xr_if_lt K R ∧ xr_if_ge K R ∧ xr_if_gt K R ∧ xr_if_le K R ∧ xr_icmp_eq K R ∧ xr_icmp_ne K R ∧ xr_icmp_lt K R ∧ xr_icmp_ge K R ∧ xr_icmp_gt K R ∧ xr_icmp_le K R ∧ xr_goto K R ∧ xr_tableOut K R ∧ xr_tableIn K R ∧ xr_lookup K R ∧ xr_less R ∧ xr_wide R ∧ xr_get K R ∧ xr_put K R ∧ xr_putF K R ∧ xr_iaload K R ∧ xr_baload K R ∧ xr_laload K R ∧ xr_aaload K R ∧ xr_iastore K R ∧ xr_bastore K R ∧ xr_lastore K R ∧ xr_aastore K R ∧ xr_tload K tx R ∧ xr_tlen K tx R ∧ xr_gets K R ∧ xr_iret K R ∧ xr_vret K R ∧ xr_aret K R ∧ xr_oinit K R ∧ xr_new K R ∧ xr_newI K R ∧ xr_newZ K R ∧ xr_newL K R ∧ xr_newQ K R ∧ xr_callV K R ∧ xr_callS K R ∧ xr_callI K R ∧ xr_mmax K R
end XRules
/-- from here the machine ends, and Q holds there -/
def xa_X (K : xa_P) (tx : Nat → Nat × (Nat → Int32)) : xa_R := fun d y pc ls st h mc ms Q => ∀ R : xa_R, xa_cl K tx R → R d y pc ls st h mc ms Q
section XRows
variable {K : xa_P} {tx : Nat → Nat × (Nat → Int32)} {d y pc : Nat} {ls st : List Value} {h : xa_H} {mc ms : Nat} {Q : xa_Q}
theorem xx_iconst {n' : Nat} {n : Int} {v : Int32} (hd : xa_d K y pc (.iconst n) 1 n') (hv : Int32.ofInt n = v) (k : xa_X K tx d y (n') (ls) (.int v :: st) (h) (mc) (ms) Q) : xa_X K tx d y (pc) (ls) (st) (h) (mc) (ms) Q := fun R hR => hR.1 _ _ _ _ _ _ _ _ _ _ _ _ hd hv (k R hR)
theorem xx_bipush {n' : Nat} {n : Int} {v : Int32} (hd : xa_d K y pc (.bipush n) 2 n') (hv : (Int8.ofInt n).toInt32 = v) (k : xa_X K tx d y (n') (ls) (.int v :: st) (h) (mc) (ms) Q) : xa_X K tx d y (pc) (ls) (st) (h) (mc) (ms) Q := fun R hR => hR.2.1 _ _ _ _ _ _ _ _ _ _ _ _ hd hv (k R hR)
theorem xx_sipush {n' : Nat} {n : Int} {v : Int32} (hd : xa_d K y pc (.sipush n) 3 n') (hv : (Int16.ofInt n).toInt32 = v) (k : xa_X K tx d y (n') (ls) (.int v :: st) (h) (mc) (ms) Q) : xa_X K tx d y (pc) (ls) (st) (h) (mc) (ms) Q := fun R hR => hR.2.2.1 _ _ _ _ _ _ _ _ _ _ _ _ hd hv (k R hR)
theorem xx_ldc {n' : Nat} {i : Nat} {v : Int32} (hd : xa_d K y pc (.ldc i) 2 n') (hv : Jvm.Cond.constant (K.1 y).1.cls i v ∈ K.2.2.1) (k : xa_X K tx d y (n') (ls) (.int v :: st) (h) (mc) (ms) Q) : xa_X K tx d y (pc) (ls) (st) (h) (mc) (ms) Q := fun R hR => hR.2.2.2.1 _ _ _ _ _ _ _ _ _ _ _ _ hd hv (k R hR)
theorem xx_iload_n {n' : Nat} {n : Fin 4} {i : Nat} {x : Int32} (hd : xa_d K y pc (.iload_n n) 1 n') (hi : (n : Nat) = i) (hl : ls[i]? = some (.int x)) (k : xa_X K tx d y (n') (ls) (.int x :: st) (h) (mc) (ms) Q) : xa_X K tx d y (pc) (ls) (st) (h) (mc) (ms) Q := fun R hR => hR.2.2.2.2.1 _ _ _ _ _ _ _ _ _ _ _ _ _ hd hi hl (k R hR)
theorem xx_iload {n' : Nat} {i : Nat} {x : Int32} (hd : xa_d K y pc (.iload i) 2 n') (hl : ls[i]? = some (.int x)) (k : xa_X K tx d y (n') (ls) (.int x :: st) (h) (mc) (ms) Q) : xa_X K tx d y (pc) (ls) (st) (h) (mc) (ms) Q := fun R hR => hR.2.2.2.2.2.1 _ _ _ _ _ _ _ _ _ _ _ _ hd hl (k R hR)
theorem xx_aload_n {n' : Nat} {n : Fin 4} {i : Nat} {x : Nat} (hd : xa_d K y pc (.aload_n n) 1 n') (hi : (n : Nat) = i) (hl : ls[i]? = some (.ref x)) (k : xa_X K tx d y (n') (ls) (.ref x :: st) (h) (mc) (ms) Q) : xa_X K tx d y (pc) (ls) (st) (h) (mc) (ms) Q := fun R hR => hR.2.2.2.2.2.2.1 _ _ _ _ _ _ _ _ _ _ _ _ _ hd hi hl (k R hR)
theorem xx_aload_nT {n' : Nat} {n : Fin 4} {i : Nat} {x : Nat} (hd : xa_d K y pc (.aload_n n) 1 n') (hi : (n : Nat) = i) (hl : ls[i]? = some (.retAddr x)) (k : xa_X K tx d y (n') (ls) (.retAddr x :: st) (h) (mc) (ms) Q) : xa_X K tx d y (pc) (ls) (st) (h) (mc) (ms) Q := fun R hR => hR.2.2.2.2.2.2.2.1 _ _ _ _ _ _ _ _ _ _ _ _ _ hd hi hl (k R hR)
theorem xx_aload {n' : Nat} {i : Nat} {x : Nat} (hd : xa_d K y pc (.aload i) 2 n') (hl : ls[i]? = some (.ref x)) (k : xa_X K tx d y (n') (ls) (.ref x :: st) (h) (mc) (ms) Q) : xa_X K tx d y (pc) (ls) (st) (h) (mc) (ms) Q := fun R hR => hR.2.2.2.2.2.2.2.2.1 _ _ _ _ _ _ _ _ _ _ _ _ hd hl (k R hR)
theorem xx_aloadT {n' : Nat} {i : Nat} {x : Nat} (hd : xa_d K y pc (.aload i) 2 n') (hl : ls[i]? = some (.retAddr x)) (k : xa_X K tx d y (n') (ls) (.retAddr x :: st) (h) (mc) (ms) Q) : xa_X K tx d y (pc) (ls) (st) (h) (mc) (ms) Q := fun R hR => hR.2.2.2.2.2.2.2.2.2.1 _ _ _ _ _ _ _ _ _ _ _ _ hd hl (k R hR)
theorem xx_istore_n {n' : Nat} {n : Fin 4} {i : Nat} {x : Int32} {w : Value} (hd : xa_d K y pc (.istore_n n) 1 n') (hi : (n : Nat) = i) (hl : ls[i]? = some w) (k : xa_X K tx d y (n') (ls.set i (.int x)) (st) (h) (mc) (ms) Q) : xa_X K tx d y (pc) (ls) (.int x :: st) (h) (mc) (ms) Q := fun R hR => hR.2.2.2.2.2.2.2.2.2.2.1 _ _ _ _ _ _ _ _ _ _ _ _ _ _ hd hi hl (k R hR)
theorem xx_istore {n' : Nat} {i : Nat} {x : Int32} {w : Value} (hd : xa_d K y pc (.istore i) 2 n') (hl : ls[i]? = some w) (k : xa_X K tx d y (n') (ls.set i (.int x)) (st) (h) (mc) (ms) Q) : xa_X K tx d y (pc) (ls) (.int x :: st) (h) (mc) (ms) Q := fun R hR => hR.2.2.2.2.2.2.2.2.2.2.2.1 _ _ _ _ _ _ _ _ _ _ _ _ _ hd hl (k R hR)
theorem xx_astore_n {n' : Nat} {n : Fin 4} {i : Nat} {x : Nat} {w : Value} (hd : xa_d K y pc (.astore_n n) 1 n') (hi : (n : Nat) = i) (hl : ls[i]? = some w) (k : xa_X K tx d y (n') (ls.set i (.ref x)) (st) (h) (mc) (ms) Q) : xa_X K tx d y (pc) (ls) (.ref x :: st) (h) (mc) (ms) Q := fun R hR => hR.2.2.2.2.2.2.2.2.2.2.2.2.1 _ _ _ _ _ _ _ _ _ _ _ _ _ _ hd hi hl (k R hR)
theorem xx_astore {n' : Nat} {i : Nat} {x : Nat} {w : Value} (hd : xa_d K y pc (.astore i) 2 n') (hl : ls[i]? = some w) (k : xa_X K tx d y (n') (ls.set i (.ref x)) (st) (h) (mc) (ms) Q) : xa_X K tx d y (pc) (ls) (.ref x :: st) (h) (mc) (ms) Q := fun R hR => hR.2.2.2.2.2.2.2.2.2.2.2.2.2.1 _ _ _ _ _ _ _ _ _ _ _ _ _ hd hl (k R hR)
theorem xx_iinc {n' : Nat} {i : Nat} {n : Int} {x : Int32} {v : Int32} (hd : xa_d K y pc (.iinc i n) 3 n') (hl : ls[i]? = some (.int x)) (hv : x + Int32.ofInt n = v) (k : xa_X K tx d y (n') (ls.set i (.int v)) (st) (h) (mc) (ms) Q) : xa_X K tx d y (pc) (ls) (st) (h) (mc) (ms) Q := fun R hR => hR.2.2.2.2.2.2.2.2.2.2.2.2.2.2.1 _ _ _ _ _ _ _ _ _ _ _ _ _ _ hd hl hv (k R hR)
theorem xx_iadd {n' : Nat} {x : Int32} {z : Int32} (hd : xa_d K y pc (.iadd) 1 n') (k : xa_X K tx d y (n') (ls) (.int (x + z) :: st) (h) (mc) (ms) Q) : xa_X K tx d y (pc) (ls) (.int z :: .int x :: st) (h) (mc) (ms) Q := fun R hR => hR.2.2.2.2.2.2.2.2.2.2.2.2.2.2.2.1 _ _ _ _ _ _ _ _ _ _ _ _ hd (k R hR)
theorem xx_isub {n' : Nat} {x : Int32} {z : Int32} (hd : xa_d K y pc (.isub) 1 n') (k : xa_X K tx d y (n') (ls) (.int (x - z) :: st) (h) (mc) (ms) Q) : xa_X K tx d y (pc) (ls) (.int z :: .int x :: st) (h) (mc) (ms) Q := fun R hR => hR.2.2.2.2.2.2.2.2.2.2.2.2.2.2.2.2.1 _ _ _ _ _ _ _ _ _ _ _ _ hd (k R hR)
theorem xx_imul {n' : Nat} {x : Int32} {z : Int32} (hd : xa_d K y pc (.imul) 1 n') (k : xa_X K tx d y (n') (ls) (.int (x * z) :: st) (h) (mc) (ms) Q) : xa_X K tx d y (pc) (ls) (.int z :: .int x :: st) (h) (mc) (ms) Q := fun R hR => hR.2.2.2.2.2.2.2.2.2.2.2.2.2.2.2.2.2.1 _ _ _ _ _ _ _ _ _ _ _ _ hd (k R hR)
theorem xx_iand {n' : Nat} {x : Int32} {z : Int32} (hd : xa_d K y pc (.iand) 1 n') (k : xa_X K tx d y (n') (ls) (.int (x &&& z) :: st) (h) (mc) (ms) Q) : xa_X K tx d y (pc) (ls) (.int z :: .int x :: st) (h) (mc) (ms) Q := fun R hR => hR.2.2.2.2.2.2.2.2.2.2.2.2.2.2.2.2.2.2.1 _ _ _ _ _ _ _ _ _ _ _ _ hd (k R hR)
theorem xx_ior {n' : Nat} {x : Int32} {z : Int32} (hd : xa_d K y pc (.ior) 1 n') (k : xa_X K tx d y (n') (ls) (.int (x ||| z) :: st) (h) (mc) (ms) Q) : xa_X K tx d y (pc) (ls) (.int z :: .int x :: st) (h) (mc) (ms) Q := fun R hR => hR.2.2.2.2.2.2.2.2.2.2.2.2.2.2.2.2.2.2.2.1 _ _ _ _ _ _ _ _ _ _ _ _ hd (k R hR)
theorem xx_ixor {n' : Nat} {x : Int32} {z : Int32} (hd : xa_d K y pc (.ixor) 1 n') (k : xa_X K tx d y (n') (ls) (.int (x ^^^ z) :: st) (h) (mc) (ms) Q) : xa_X K tx d y (pc) (ls) (.int z :: .int x :: st) (h) (mc) (ms) Q := fun R hR => hR.2.2.2.2.2.2.2.2.2.2.2.2.2.2.2.2.2.2.2.2.1 _ _ _ _ _ _ _ _ _ _ _ _ hd (k R hR)
theorem xx_ishl {n' : Nat} {x : Int32} {z : Int32} (hd : xa_d K y pc (.ishl) 1 n') (k : xa_X K tx d y (n') (ls) (.int (x <<< (z &&& 31)) :: st) (h) (mc) (ms) Q) : xa_X K tx d y (pc) (ls) (.int z :: .int x :: st) (h) (mc) (ms) Q := fun R hR => hR.2.2.2.2.2.2.2.2.2.2.2.2.2.2.2.2.2.2.2.2.2.1 _ _ _ _ _ _ _ _ _ _ _ _ hd (k R hR)
theorem xx_ishr {n' : Nat} {x : Int32} {z : Int32} (hd : xa_d K y pc (.ishr) 1 n') (k : xa_X K tx d y (n') (ls) (.int (x >>> (z &&& 31)) :: st) (h) (mc) (ms) Q) : xa_X K tx d y (pc) (ls) (.int z :: .int x :: st) (h) (mc) (ms) Q := fun R hR => hR.2.2.2.2.2.2.2.2.2.2.2.2.2.2.2.2.2.2.2.2.2.2.1 _ _ _ _ _ _ _ _ _ _ _ _ hd (k R hR)
theorem xx_iushr {n' : Nat} {x : Int32} {z : Int32} (hd : xa_d K y pc (.iushr) 1 n') (k : xa_X K tx d y (n') (ls) (.int ((x.toUInt32 >>> (z.toUInt32 &&& Int32.toUInt32 31)).toInt32) :: st) (h) (mc) (ms) Q) : xa_X K tx d y (pc) (ls) (.int z :: .int x :: st) (h) (mc) (ms) Q := fun R hR => hR.2.2.2.2.2.2.2.2.2.2.2.2.2.2.2.2.2.2.2.2.2.2.2.1 _ _ _ _ _ _ _ _ _ _ _ _ hd (k R hR)
theorem xx_idiv {n' : Nat} {x : Int32} {z : Int32} (hd : xa_d K y pc (.idiv) 1 n') (hz : ¬ z = 0) (k : xa_X K tx d y (n') (ls) (.int (x / z) :: st) (h) (mc) (ms) Q) : xa_X K tx d y (pc) (ls) (.int z :: .int x :: st) (h) (mc) (ms) Q := fun R hR => hR.2.2.2.2.2.2.2.2.2.2.2.2.2.2.2.2.2.2.2.2.2.2.2.2.1 _ _ _ _ _ _ _ _ _ _ _ _ hd hz (k R hR)
theorem xx_irem {n' : Nat} {x : Int32} {z : Int32} (hd : xa_d K y pc (.irem) 1 n') (hz : ¬ z = 0) (k : xa_X K tx d y (n') (ls) (.int (x - x / z * z) :: st) (h) (mc) (ms) Q) : xa_X K tx d y (pc) (ls) (.int z :: .int x :: st) (h) (mc) (ms) Q := fun R hR => hR.2.2.2.2.2.2.2.2.2.2.2.2.2.2.2.2.2.2.2.2.2.2.2.2.2.1 _ _ _ _ _ _ _ _ _ _ _ _ hd hz (k R hR)
theorem xx_i2l {n' : Nat} {x : Int32} (hd : xa_d K y pc (.i2l) 1 n') (k : xa_X K tx d y (n') (ls) (.long x.toInt64 :: st) (h) (mc) (ms) Q) : xa_X K tx d y (pc) (ls) (.int x :: st) (h) (mc) (ms) Q := fun R hR => hR.2.2.2.2.2.2.2.2.2.2.2.2.2.2.2.2.2.2.2.2.2.2.2.2.2.2.1 _ _ _ _ _ _ _ _ _ _ _ hd (k R hR)
theorem xx_lcmp {n' : Nat} {x : Int64} {z : Int64} (hd : xa_d K y pc (.lcmp) 1 n') (k : xa_X K tx d y (n') (ls) (.int (lg_cmp x z) :: st) (h) (mc) (ms) Q) : xa_X K tx d y (pc) (ls) (.long z :: .long x :: st) (h) (mc) (ms) Q := fun R hR => hR.2.2.2.2.2.2.2.2.2.2.2.2.2.2.2.2.2.2.2.2.2.2.2.2.2.2.2.1 _ _ _ _ _ _ _ _ _ _ _ _ hd (k R hR)
theorem xx_dup {n' : Nat} {v : Value} (hd : xa_d K y pc (.dup) 1 n') (hv : v.category = 1) (k : xa_X K tx d y (n') (ls) (v :: v :: st) (h) (mc) (ms) Q) : xa_X K tx d y (pc) (ls) (v :: st) (h) (mc) (ms) Q := fun R hR => hR.2.2.2.2.2.2.2.2.2.2.2.2.2.2.2.2.2.2.2.2.2.2.2.2.2.2.2.2.1 _ _ _ _ _ _ _ _ _ _ _ hd hv (k R hR)
theorem xx_pop {n' : Nat} {v : Value} (hd : xa_d K y pc (.pop) 1 n') (hv : v.category = 1) (k : xa_X K tx d y (n') (ls) (st) (h) (mc) (ms) Q) : xa_X K tx d y (pc) (ls) (v :: st) (h) (mc) (ms) Q := fun R hR => hR.2.2.2.2.2.2.2.2.2.2.2.2.2.2.2.2.2.2.2.2.2.2.2.2.2.2.2.2.2.1 _ _ _ _ _ _ _ _ _ _ _ hd hv (k R hR)
theorem xx_dup2 {n' : Nat} {v : Value} {w : Value} (hd : xa_d K y pc (.dup2) 1 n') (hv : v.category = 1) (hw : w.category = 1) (k : xa_X K tx d y (n') (ls) (v :: w :: v :: w :: st) (h) (mc) (ms) Q) : xa_X K tx d y (pc) (ls) (v :: w :: st) (h) (mc) (ms) Q := fun R hR => hR.2.2.2.2.2.2.2.2.2.2.2.2.2.2.2.2.2.2.2.2.2.2.2.2.2.2.2.2.2.2.1 _ _ _ _ _ _ _ _ _ _ _ _ hd hv hw (k R hR)
theorem xx_dup_x1 {n' : Nat} {v : Value} {w : Value} (hd : xa_d K y pc (.dup_x1) 1 n') (hv : v.category = 1) (hw : w.category = 1) (k : xa_X K tx d y (n') (ls) (v :: w :: v :: st) (h) (mc) (ms) Q) : xa_X K tx d y (pc) (ls) (v :: w :: st) (h) (mc) (ms) Q := fun R hR => hR.2.2.2.2.2.2.2.2.2.2.2.2.2.2.2.2.2.2.2.2.2.2.2.2.2.2.2.2.2.2.2.1 _ _ _ _ _ _ _ _ _ _ _ _ hd hv hw (k R hR)
theorem xx_if_eq {n' : Nat} {x : Int32} {off : Int} {tgt : Nat} (hd : xa_db K y pc (.ifCond .eq off) 3 n' off tgt) (kt : (x = 0 → xa_X K tx d y (tgt) (ls) (st) (h) (mc) (ms) Q)) (kf : (¬ x = 0 → xa_X K tx d y (n') (ls) (st) (h) (mc) (ms) Q)) : xa_X K tx d y (pc) (ls) (.int x :: st) (h) (mc) (ms) Q := fun R hR => hR.2.2.2.2.2.2.2.2.2.2.2.2.2.2.2.2.2.2.2.2.2.2.2.2.2.2.2.2.2.2.2.2.1 _ _ _ _ _ _ _ _ _ _ _ _ _ hd (fun q => kt q R hR) (fun q => kf q R hR)
theorem xx_if_ne {n' : Nat} {x : Int32} {off : Int} {tgt : Nat} (hd : xa_db K y pc (.ifCond .ne off) 3 n' off tgt) (kt : (¬ x = 0 → xa_X K tx d y (tgt) (ls) (st) (h) (mc) (ms) Q)) (kf : (x = 0 → xa_X K tx d y (n') (ls) (st) (h) (mc) (ms) Q)) : xa_X K tx d y (pc) (ls) (.int x :: st) (h) (mc) (ms) Q := fun R hR => hR.2.2.2.2.2.2.2.2.2.2.2.2.2.2.2.2.2.2.2.2.2.2.2.2.2.2.2.2.2.2.2.2.2.1 _ _ _ _ _ _ _ _ _ _ _ _ _ hd (fun q => kt q R hR) (fun q => kf q R hR)
theorem xx_if_lt {n' : Nat} {x : Int32} {off : Int} {tgt : Nat} (hd : xa_db K y pc (.ifCond .lt off) 3 n' off tgt) (kt : (x < 0 → xa_X K tx d y (tgt) (ls) (st) (h) (mc) (ms) Q)) (kf : (¬ x < 0 → xa_X K tx d y (n') (ls) (st) (h) (mc) (ms) Q)) : xa_X K tx d y (pc) (ls) (.int x :: st) (h) (mc) (ms) Q := fun R hR => hR.2.2.2.2.2.2.2.2.2.2.2.2.2.2.2.2.2.2.2.2.2.2.2.2.2.2.2.2.2.2.2.2.2.2.1 _ _ _ _ _ _ _ _ _ _ _ _ _ hd (fun q => kt q R hR) (fun q => kf q R hR)
theorem xx_if_ge {n' : Nat} {x : Int32} {off : Int} {tgt : Nat} (hd : xa_db K y pc (.ifCond .ge off) 3 n' off tgt) (kt : (0 ≤ x → xa_X K tx d y (tgt) (ls) (st) (h) (mc) (ms) Q)) (kf : (¬ 0 ≤ x → xa_X K tx d y (n') (ls) (st) (h) (mc) (ms) Q)) : xa_X K tx d y (pc) (ls) (.int x :: st) (h) (mc) (ms) Q := fun R hR => hR.2.2.2.2.2.2.2.2.2.2.2.2.2.2.2.2.2.2.2.2.2.2.2.2.2.2.2.2.2.2.2.2.2.2.2.1 _ _ _ _ _ _ _ _ _ _ _ _ _ hd (fun q => kt q R hR) (fun q => kf q R hR)
theorem xx_if_gt {n' : Nat} {x : Int32} {off : Int} {tgt : Nat} (hd : xa_db K y pc (.ifCond .gt off) 3 n' off tgt) (kt : (0 < x → xa_X K tx d y (tgt) (ls) (st) (h) (mc) (ms) Q)) (kf : (¬ 0 < x → xa_X K tx d y (n') (ls) (st) (h) (mc) (ms) Q)) : xa_X K tx d y (pc) (ls) (.int x :: st) (h) (mc) (ms) Q := fun R hR => hR.2.2.2.2.2.2.2.2.2.2.2.2.2.2.2.2.2.2.2.2.2.2.2.2.2.2.2.2.2.2.2.2.2.2.2.2.1 _ _ _ _ _ _ _ _ _ _ _ _ _ hd (fun q => kt q R hR) (fun q => kf q R hR)
theorem xx_if_le {n' : Nat} {x : Int32} {off : Int} {tgt : Nat} (hd : xa_db K y pc (.ifCond .le off) 3 n' off tgt) (kt : (x ≤ 0 → xa_X K tx d y (tgt) (ls) (st) (h) (mc) (ms) Q)) (kf : (¬ x ≤ 0 → xa_X K tx d y (n') (ls) (st) (h) (mc) (ms) Q)) : xa_X K tx d y (pc) (ls) (.int x :: st) (h) (mc) (ms) Q := fun R hR => hR.2.2.2.2.2.2.2.2.2.2.2.2.2.2.2.2.2.2.2.2.2.2.2.2.2.2.2.2.2.2.2.2.2.2.2.2.2.1 _ _ _ _ _ _ _ _ _ _ _ _ _ hd (fun q => kt q R hR) (fun q => kf q R hR)
theorem xx_icmp_eq {n' : Nat} {x : Int32} {z : Int32} {off : Int} {tgt : Nat} (hd : xa_db K y pc (.if_icmp .eq off) 3 n' off tgt) (kt : (x = z → xa_X K tx d y (tgt) (ls) (st) (h) (mc) (ms) Q)) (kf : (¬ x = z → xa_X K tx d y (n') (ls) (st) (h) (mc) (ms) Q)) : xa_X K tx d y (pc) (ls) (.int z :: .int x :: st) (h) (mc) (ms) Q := fun R hR => hR.2.2.2.2.2.2.2.2.2.2.2.2.2.2.2.2.2.2.2.2.2.2.2.2.2.2.2.2.2.2.2.2.2.2.2.2.2.2.1 _ _ _ _ _ _ _ _ _ _ _ _ _ _ hd (fun q => kt q R hR) (fun q => kf q R hR)
theorem xx_icmp_ne {n' : Nat} {x : Int32} {z : Int32} {off : Int} {tgt : Nat} (hd : xa_db K y pc (.if_icmp .ne off) 3 n' off tgt) (kt : (¬ x = z → xa_X K tx d y (tgt) (ls) (st) (h) (mc) (ms) Q)) (kf : (x = z → xa_X K tx d y (n') (ls) (st) (h) (mc) (ms) Q)) : xa_X K tx d y (pc) (ls) (.int z :: .int x :: st) (h) (mc) (ms) Q := fun R hR => hR.2.2.2.2.2.2.2.2.2.2.2.2.2.2.2.2.2.2.2.2.2.2.2.2.2.2.2.2.2.2.2.2.2.2.2.2.2.2.2.1 _ _ _ _ _ _ _ _ _ _ _ _ _ _ hd (fun q => kt q R hR) (fun q => kf q R hR)
theorem xx_icmp_lt {n' : Nat} {x : Int32} {z : Int32} {off : Int} {tgt : Nat} (hd : xa_db K y pc (.if_icmp .lt off) 3 n' off tgt) (kt : (x < z → xa_X K tx d y (tgt) (ls) (st) (h) (mc) (ms) Q)) (kf : (¬ x < z → xa_X K tx d y (n') (ls) (st) (h) (mc) (ms) Q)) : xa_X K tx d y (pc) (ls) (.int z :: .int x :: st) (h) (mc) (ms) Q := fun R hR => hR.2.2.2.2.2.2.2.2.2.2.2.2.2.2.2.2.2.2.2.2.2.2.2.2.2.2.2.2.2.2.2.2.2.2.2.2.2.2.2.2.1 _ _ _ _ _ _ _ _ _ _ _ _ _ _ hd (fun q => kt q R hR) (fun q => kf q R hR)
theorem xx_icmp_ge {n' : Nat} {x : Int32} {z : Int32} {off : Int} {tgt : Nat} (hd : xa_db K y pc (.if_icmp .ge off) 3 n' off tgt) (kt : (z ≤ x → xa_X K tx d y (tgt) (ls) (st) (h) (mc) (ms) Q)) (kf : (¬ z ≤ x → xa_X K tx d y (n') (ls) (st) (h) (mc) (ms) Q)) : xa_X K tx d y (pc) (ls) (.int z :: .int x :: st) (h) (mc) (ms) Q := fun R hR => hR.2.2.2.2.2.2.2.2.2.2.2.2.2.2.2.2.2.2.2.2.2.2.2.2.2.2.2.2.2.2.2.2.2.2.2.2.2.2.2.2.2.1 _ _ _ _ _ _ _ _ _ _ _ _ _ _ hd (fun q => kt q R hR) (fun q => kf q R hR)
theorem xx_icmp_gt {n' : Nat} {x : Int32} {z : Int32} {off : Int} {tgt : Nat} (hd : xa_db K y pc (.if_icmp .gt off) 3 n' off tgt) (kt : (z < x → xa_X K tx d y (tgt) (ls) (st) (h) (mc) (ms) Q)) (kf : (¬ z < x → xa_X K tx d y (n') (ls) (st) (h) (mc) (ms) Q)) : xa_X K tx d y (pc) (ls) (.int z :: .int x :: st) (h) (mc) (ms) Q := fun R hR => hR.2.2.2.2.2.2.2.2.2.2.2.2.2.2.2.2.2.2.2.2.2.2.2.2.2.2.2.2.2.2.2.2.2.2.2.2.2.2.2.2.2.2.1 _ _ _ _ _ _ _ _ _ _ _ _ _ _ hd (fun q => kt q R hR) (fun q => kf q R hR)
theorem xx_icmp_le {n' : Nat} {x : Int32} {z : Int32} {off : Int} {tgt : Nat} (hd : xa_db K y pc (.if_icmp .le off) 3 n' off tgt) (kt : (x ≤ z → xa_X K tx d y (tgt) (ls) (st) (h) (mc) (ms) Q)) (kf : (¬ x ≤ z → xa_X K tx d y (n') (ls) (st) (h) (mc) (ms) Q)) : xa_X K tx d y (pc) (ls) (.int z :: .int x :: st) (h) (mc) (ms) Q := fun R hR => hR.2.2.2.2.2.2.2.2.2.2.2.2.2.2.2.2.2.2.2.2.2.2.2.2.2.2.2.2.2.2.2.2.2.2.2.2.2.2.2.2.2.2.2.1 _ _ _ _ _ _ _ _ _ _ _ _ _ _ hd (fun q => kt q R hR) (fun q => kf q R hR)
theorem xx_goto {n' : Nat} {off : Int} {tgt : Nat} (hd : xa_db K y pc (.goto off) 3 n' off tgt) (k : xa_X K tx d y (tgt) (ls) (st) (h) (mc) (ms) Q) : xa_X K tx d y (pc) (ls) (st) (h) (mc) (ms) Q := fun R hR => hR.2.2.2.2.2.2.2.2.2.2.2.2.2.2.2.2.2.2.2.2.2.2.2.2.2.2.2.2.2.2.2.2.2.2.2.2.2.2.2.2.2.2.2.2.1 _ _ _ _ _ _ _ _ _ _ _ _ hd (k R hR)
theorem xx_tableOut {n' : Nat} {dflt : Int} {lo : Int} {hi : Int} {offs : Array Int} {len : Nat} {x : Int32} {tgt : Nat} (hd : xa_d K y pc (.tableswitch dflt lo hi offs) len n') (hx : x.toInt < lo ∨ hi < x.toInt) (ht : (pc : Int) + dflt = (tgt : Int)) (k : xa_X K tx d y (tgt) (ls) (st) (h) (mc) (ms) Q) : xa_X K tx d y (pc) (ls) (.int x :: st) (h) (mc) (ms) Q := fun R hR => hR.2.2.2.2.2.2.2.2.2.2.2.2.2.2.2.2.2.2.2.2.2.2.2.2.2.2.2.2.2.2.2.2.2.2.2.2.2.2.2.2.2.2.2.2.2.1 _ _ _ _ _ _ _ _ _ _ _ _ _ _ _ _ _ hd hx ht (k R hR)
theorem xx_tableIn {n' : Nat} {dflt : Int} {lo : Int} {hi : Int} {offs : Array Int} {len : Nat} {x : Int32} {off : Int} {tgt : Nat} (hd : xa_d K y pc (.tableswitch dflt lo hi offs) len n') (h1 : ¬ x.toInt < lo) (h2 : ¬ hi < x.toInt) (ho : offs[(x.toInt - lo).toNat]? = some off) (ht : (pc : Int) + off = (tgt : Int)) (k : xa_X K tx d y (tgt) (ls) (st) (h) (mc) (ms) Q) : xa_X K tx d y (pc) (ls) (.int x :: st) (h) (mc) (ms) Q := fun R hR => hR.2.2.2.2.2.2.2.2.2.2.2.2.2.2.2.2.2.2.2.2.2.2.2.2.2.2.2.2.2.2.2.2.2.2.2.2.2.2.2.2.2.2.2.2.2.2.1 _ _ _ _ _ _ _ _ _ _ _ _ _ _ _ _ _ _ hd h1 h2 ho ht (k R hR)
theorem xx_lookup {n' : Nat} {dflt : Int} {ps : Array (Int × Int)} {len : Nat} {x : Int32} {off : Int} {tgt : Nat} (hd : xa_d K y pc (.lookupswitch dflt ps) len n') (hp : (ps.toList.zip (ps.toList.drop 1)).all (fun (a, next) => a.1 < next.1) = true) (ho : Op.lookupswitch.offset ps.toList dflt x.toInt = off) (ht : (pc : Int) + off = (tgt : Int)) (k : xa_X K tx d y (tgt) (ls) (st) (h) (mc) (ms) Q) : xa_X K tx d y (pc) (ls) (.int x :: st) (h) (mc) (ms) Q := fun R hR => hR.2.2.2.2.2.2.2.2.2.2.2.2.2.2.2.2.2.2.2.2.2.2.2.2.2.2.2.2.2.2.2.2.2.2.2.2.2.2.2.2.2.2.2.2.2.2.2.1 _ _ _ _ _ _ _ _ _ _ _ _ _ _ _ _ hd hp ho ht (k R hR)
theorem xx_less {ls' : List Value} (hl : xa_le ls ls') (k : xa_X K tx d y (pc) (ls') (st) (h) (mc) (ms) Q) : xa_X K tx d y (pc) (ls) (st) (h) (mc) (ms) Q := fun R hR => hR.2.2.2.2.2.2.2.2.2.2.2.2.2.2.2.2.2.2.2.2.2.2.2.2.2.2.2.2.2.2.2.2.2.2.2.2.2.2.2.2.2.2.2.2.2.2.2.2.1 _ _ _ _ _ _ _ _ _ _ hl (k R hR)
theorem xx_wide {mc' : Nat} {ms' : Nat} (h1 : mc' ≤ mc) (h2 : ms' ≤ ms) (k : xa_X K tx d y (pc) (ls) (st) (h) (mc') (ms') Q) : xa_X K tx d y (pc) (ls) (st) (h) (mc) (ms) Q := fun R hR => hR.2.2.2.2.2.2.2.2.2.2.2.2.2.2.2.2.2.2.2.2.2.2.2.2.2.2.2.2.2.2.2.2.2.2.2.2.2.2.2.2.2.2.2.2.2.2.2.2.2.1 _ _ _ _ _ _ _ _ _ _ _ h1 h2 (k R hR)
theorem xx_get {n' : Nat} {i : Nat} {ci : Nat} {k0 : Nat} {a : Nat} {fs : List Value} {v : Value} (hd : xa_d K y pc (.getfield i) 3 n') (hf : xa_fld K (K.1 y).1.cls i ci k0) (hh : h.2 a = .inr (ci, fs)) (hv : fs[k0]? = some v) (k : xa_X K tx d y (n') (ls) (v :: st) (h) (mc) (ms) Q) : xa_X K tx d y (pc) (ls) (.ref a :: st) (h) (mc) (ms) Q := fun R hR => hR.2.2.2.2.2.2.2.2.2.2.2.2.2.2.2.2.2.2.2.2.2.2.2.2.2.2.2.2.2.2.2.2.2.2.2.2.2.2.2.2.2.2.2.2.2.2.2.2.2.2.1 _ _ _ _ _ _ _ _ _ _ _ _ _ _ _ _ hd hf hh hv (k R hR)
theorem xx_put {n' : Nat} {i : Nat} {ci : Nat} {k0 : Nat} {ty : FieldType} {a : Nat} {fs : List Value} {v : Value} (hd : xa_d K y pc (.putfield i) 3 n') (hf : xa_fldP K (K.1 y).1.cls i ci k0 ty) (hh : h.2 a = .inr (ci, fs)) (hl0 : k0 < fs.length) (hfit : ∀ tb ad : Nat → Nat, narrow ty (xa_tr tb ad v) = xa_tr tb ad v ∧ fits ty (xa_tr tb ad v) = true) (k : xa_X K tx d y (n') (ls) (st) ((h.1, xa_up h.2 a (.inr (ci, fs.set k0 v)))) (mc) (ms) Q) : xa_X K tx d y (pc) (ls) (v :: .ref a :: st) (h) (mc) (ms) Q := fun R hR => hR.2.2.2.2.2.2.2.2.2.2.2.2.2.2.2.2.2.2.2.2.2.2.2.2.2.2.2.2.2.2.2.2.2.2.2.2.2.2.2.2.2.2.2.2.2.2.2.2.2.2.2.1 _ _ _ _ _ _ _ _ _ _ _ _ _ _ _ _ _ hd hf hh hl0 hfit (k R hR)
theorem xx_putF {n' : Nat} {i : Nat} {ci : Nat} {k0 : Nat} {ty : FieldType} {a : Nat} {fs : List Value} {v : Value} (hd : xa_d K y pc (.putfield i) 3 n') (hf : xa_fldF K (K.1 y).1.cls i ci k0 ty) (hin : (K.1 y).1.name = "<init>") (hh : h.2 a = .inr (ci, fs)) (hl0 : k0 < fs.length) (hfit : ∀ tb ad : Nat → Nat, narrow ty (xa_tr tb ad v) = xa_tr tb ad v ∧ fits ty (xa_tr tb ad v) = true) (k : xa_X K tx d y (n') (ls) (st) ((h.1, xa_up h.2 a (.inr (ci, fs.set k0 v)))) (mc) (ms) Q) : xa_X K tx d y (pc) (ls) (v :: .ref a :: st) (h) (mc) (ms) Q := fun R hR => hR.2.2.2.2.2.2.2.2.2.2.2.2.2.2.2.2.2.2.2.2.2.2.2.2.2.2.2.2.2.2.2.2.2.2.2.2.2.2.2.2.2.2.2.2.2.2.2.2.2.2.2.2.1 _ _ _ _ _ _ _ _ _ _ _ _ _ _ _ _ _ hd hf hin hh hl0 hfit (k R hR)
theorem xx_iaload {n' : Nat} {a : Nat} {n : Nat} {f : Nat → Int32} {i : Int32} (hd : xa_d K y pc (.iaload) 1 n') (hh : h.2 a = .inl (0, n, .inl f)) (hi : vp_in i n) (k : xa_X K tx d y (n') (ls) (.int (f i.toNatClampNeg) :: st) (h) (mc) (ms) Q) : xa_X K tx d y (pc) (ls) (.int i :: .ref a :: st) (h) (mc) (ms) Q := fun R hR => hR.2.2.2.2.2.2.2.2.2.2.2.2.2.2.2.2.2.2.2.2.2.2.2.2.2.2.2.2.2.2.2.2.2.2.2.2.2.2.2.2.2.2.2.2.2.2.2.2.2.2.2.2.2.1 _ _ _ _ _ _ _ _ _ _ _ _ _ _ hd hh hi (k R hR)
theorem xx_baload {n' : Nat} {a : Nat} {n : Nat} {f : Nat → Int32} {i : Int32} (hd : xa_d K y pc (.baload) 1 n') (hh : h.2 a = .inl (1, n, .inl f)) (hi : vp_in i n) (k : xa_X K tx d y (n') (ls) (.int (f i.toNatClampNeg) :: st) (h) (mc) (ms) Q) : xa_X K tx d y (pc) (ls) (.int i :: .ref a :: st) (h) (mc) (ms) Q := fun R hR => hR.2.2.2.2.2.2.2.2.2.2.2.2.2.2.2.2.2.2.2.2.2.2.2.2.2.2.2.2.2.2.2.2.2.2.2.2.2.2.2.2.2.2.2.2.2.2.2.2.2.2.2.2.2.2.1 _ _ _ _ _ _ _ _ _ _ _ _ _ _ hd hh hi (k R hR)
theorem xx_laload {n' : Nat} {a : Nat} {n : Nat} {f : Nat → Int64} {i : Int32} (hd : xa_d K y pc (.laload) 1 n') (hh : h.2 a = .inl (2, n, .inr (.inl f))) (hi : vp_in i n) (k : xa_X K tx d y (n') (ls) (.long (f i.toNatClampNeg) :: st) (h) (mc) (ms) Q) : xa_X K tx d y (pc) (ls) (.int i :: .ref a :: st) (h) (mc) (ms) Q := fun R hR => hR.2.2.2.2.2.2.2.2.2.2.2.2.2.2.2.2.2.2.2.2.2.2.2.2.2.2.2.2.2.2.2.2.2.2.2.2.2.2.2.2.2.2.2.2.2.2.2.2.2.2.2.2.2.2.2.1 _ _ _ _ _ _ _ _ _ _ _ _ _ _ hd hh hi (k R hR)
theorem xx_aaload {n' : Nat} {a : Nat} {n : Nat} {f : Nat → Option Nat} {i : Int32} {b : Nat} (hd : xa_d K y pc (.aaload) 1 n') (hh : h.2 a = .inl (3, n, .inr (.inr (.inr (.inr f))))) (hi : vp_in i n) (hb : f i.toNatClampNeg = some b) (k : xa_X K tx d y (n') (ls) (.ref b :: st) (h) (mc) (ms) Q) : xa_X K tx d y (pc) (ls) (.int i :: .ref a :: st) (h) (mc) (ms) Q := fun R hR => hR.2.2.2.2.2.2.2.2.2.2.2.2.2.2.2.2.2.2.2.2.2.2.2.2.2.2.2.2.2.2.2.2.2.2.2.2.2.2.2.2.2.2.2.2.2.2.2.2.2.2.2.2.2.2.2.2.1 _ _ _ _ _ _ _ _ _ _ _ _ _ _ _ hd hh hi hb (k R hR)
theorem xx_iastore {n' : Nat} {a : Nat} {n : Nat} {f : Nat → Int32} {i : Int32} {x : Int32} (hd : xa_d K y pc (.iastore) 1 n') (hh : h.2 a = .inl (0, n, .inl (f))) (hi : vp_in i n) (k : xa_X K tx d y (n') (ls) (st) ((h.1, xa_up h.2 a (.inl (0, n, .inl (upd f i.toNatClampNeg x))))) (mc) (ms) Q) : xa_X K tx d y (pc) (ls) (.int x :: .int i :: .ref a :: st) (h) (mc) (ms) Q := fun R hR => hR.2.2.2.2.2.2.2.2.2.2.2.2.2.2.2.2.2.2.2.2.2.2.2.2.2.2.2.2.2.2.2.2.2.2.2.2.2.2.2.2.2.2.2.2.2.2.2.2.2.2.2.2.2.2.2.2.2.1 _ _ _ _ _ _ _ _ _ _ _ _ _ _ _ hd hh hi (k R hR)
theorem xx_bastore {n' : Nat} {a : Nat} {n : Nat} {f : Nat → Int32} {i : Int32} {x : Int32} (hd : xa_d K y pc (.bastore) 1 n') (hh : h.2 a = .inl (1, n, .inl (f))) (hi : vp_in i n) (k : xa_X K tx d y (n') (ls) (st) ((h.1, xa_up h.2 a (.inl (1, n, .inl (upd f i.toNatClampNeg (vp_nar .boolean x)))))) (mc) (ms) Q) : xa_X K tx d y (pc) (ls) (.int x :: .int i :: .ref a :: st) (h) (mc) (ms) Q := fun R hR => hR.2.2.2.2.2.2.2.2.2.2.2.2.2.2.2.2.2.2.2.2.2.2.2.2.2.2.2.2.2.2.2.2.2.2.2.2.2.2.2.2.2.2.2.2.2.2.2.2.2.2.2.2.2.2.2.2.2.2.1 _ _ _ _ _ _ _ _ _ _ _ _ _ _ _ hd hh hi (k R hR)
theorem xx_lastore {n' : Nat} {a : Nat} {n : Nat} {f : Nat → Int64} {i : Int32} {x : Int64} (hd : xa_d K y pc (.lastore) 1 n') (hh : h.2 a = .inl (2, n, .inr (.inl (f)))) (hi : vp_in i n) (k : xa_X K tx d y (n') (ls) (st) ((h.1, xa_up h.2 a (.inl (2, n, .inr (.inl (vp_updL f i.toNatClampNeg x)))))) (mc) (ms) Q) : xa_X K tx d y (pc) (ls) (.long x :: .int i :: .ref a :: st) (h) (mc) (ms) Q := fun R hR => hR.2.2.2.2.2.2.2.2.2.2.2.2.2.2.2.2.2.2.2.2.2.2.2.2.2.2.2.2.2.2.2.2.2.2.2.2.2.2.2.2.2.2.2.2.2.2.2.2.2.2.2.2.2.2.2.2.2.2.2.1 _ _ _ _ _ _ _ _ _ _ _ _ _ _ _ hd hh hi (k R hR)
theorem xx_aastore {n' : Nat} {a : Nat} {n : Nat} {f : Nat → Option Nat} {i : Int32} {b : Nat} {ci : Nat} {fs : List Value} (hd : xa_d K y pc (.aastore) 1 n') (hh : h.2 a = .inl (3, n, .inr (.inr (.inr (.inr f))))) (hi : vp_in i n) (hb : h.2 b = .inr (ci, fs)) (hg : ∃ T N, K.2.1[ci]? = some (K.2.2.2.2.2, T, N)) (k : xa_X K tx d y (n') (ls) (st) ((h.1, xa_up h.2 a (.inl (3, n, .inr (.inr (.inr (.inr (va_up f i.toNatClampNeg (some b))))))))) (mc) (ms) Q) : xa_X K tx d y (pc) (ls) (.ref b :: .int i :: .ref a :: st) (h) (mc) (ms) Q := fun R hR => hR.2.2.2.2.2.2.2.2.2.2.2.2.2.2.2.2.2.2.2.2.2.2.2.2.2.2.2.2.2.2.2.2.2.2.2.2.2.2.2.2.2.2.2.2.2.2.2.2.2.2.2.2.2.2.2.2.2.2.2.2.1 _ _ _ _ _ _ _ _ _ _ _ _ _ _ _ _ _ hd hh hi hb hg (k R hR)
theorem xx_tload {n' : Nat} {j : Nat} {i : Int32} (hd : xa_d K y pc (.iaload) 1 n') (hj : j < 2) (hi : vp_in i (tx j).1) (k : xa_X K tx d y (n') (ls) (.int ((tx j).2 i.toNatClampNeg) :: st) (h) (mc) (ms) Q) : xa_X K tx d y (pc) (ls) (.int i :: .retAddr j :: st) (h) (mc) (ms) Q := fun R hR => hR.2.2.2.2.2.2.2.2.2.2.2.2.2.2.2.2.2.2.2.2.2.2.2.2.2.2.2.2.2.2.2.2.2.2.2.2.2.2.2.2.2.2.2.2.2.2.2.2.2.2.2.2.2.2.2.2.2.2.2.2.2.1 _ _ _ _ _ _ _ _ _ _ _ _ hd hj hi (k R hR)
theorem xx_tlen {n' : Nat} {j : Nat} {v : Int32} (hd : xa_d K y pc (.arraylength) 1 n') (hj : j < 2) (hv : Int32.ofNat (tx j).1 = v) (k : xa_X K tx d y (n') (ls) (.int v :: st) (h) (mc) (ms) Q) : xa_X K tx d y (pc) (ls) (.retAddr j :: st) (h) (mc) (ms) Q := fun R hR => hR.2.2.2.2.2.2.2.2.2.2.2.2.2.2.2.2.2.2.2.2.2.2.2.2.2.2.2.2.2.2.2.2.2.2.2.2.2.2.2.2.2.2.2.2.2.2.2.2.2.2.2.2.2.2.2.2.2.2.2.2.2.2.1 _ _ _ _ _ _ _ _ _ _ _ _ hd hj hv (k R hR)
theorem xx_gets {n' : Nat} {i : Nat} (hd : xa_d K y pc (.getstatic i) 3 n') (hl : Cond.fieldLink (K.1 y).1.cls i K.2.2.2.1 K.2.2.2.2.1 "[I" ∈ K.2.2.1 ∨ ∃ host, Cond.fieldLinkNest (K.1 y).1.cls i K.2.2.2.1 K.2.2.2.2.1 "[I" host ∈ K.2.2.1) (k : xa_X K tx d y (n') (ls) (.retAddr 0 :: st) (h) (mc) (ms) Q) : xa_X K tx d y (pc) (ls) (st) (h) (mc) (ms) Q := fun R hR => hR.2.2.2.2.2.2.2.2.2.2.2.2.2.2.2.2.2.2.2.2.2.2.2.2.2.2.2.2.2.2.2.2.2.2.2.2.2.2.2.2.2.2.2.2.2.2.2.2.2.2.2.2.2.2.2.2.2.2.2.2.2.2.2.1 _ _ _ _ _ _ _ _ _ _ _ hd hl (k R hR)
theorem xx_iret {n' : Nat} {v : Int32} {ty : FieldType} (hd : xa_d K y pc (.ireturn) 1 n') (hr : (K.1 y).2.2.2.1 = some ty) (hn : narrow ty (.int v) = .int v) (hq : Q (.inl (some (.int v))) h)  : xa_X K tx d y (pc) (ls) ([.int v]) (h) (mc) (ms) Q := fun R hR => hR.2.2.2.2.2.2.2.2.2.2.2.2.2.2.2.2.2.2.2.2.2.2.2.2.2.2.2.2.2.2.2.2.2.2.2.2.2.2.2.2.2.2.2.2.2.2.2.2.2.2.2.2.2.2.2.2.2.2.2.2.2.2.2.2.1 _ _ _ _ [] _ _ _ _ _ _ _ hd hr hn hq 
theorem xx_vret {n' : Nat} (hd : xa_d K y pc (.return_) 1 n') (hr : (K.1 y).2.2.2.1 = none) (hq : Q (.inl none) h)  : xa_X K tx d y (pc) (ls) ([]) (h) (mc) (ms) Q := fun R hR => hR.2.2.2.2.2.2.2.2.2.2.2.2.2.2.2.2.2.2.2.2.2.2.2.2.2.2.2.2.2.2.2.2.2.2.2.2.2.2.2.2.2.2.2.2.2.2.2.2.2.2.2.2.2.2.2.2.2.2.2.2.2.2.2.2.2.1 _ _ _ _ [] _ _ _ _ _ hd hr hq 
theorem xx_aret {n' : Nat} {a : Nat} {ty : FieldType} (hd : xa_d K y pc (.areturn) 1 n') (hr : (K.1 y).2.2.2.1 = some ty) (hty : (∃ n, ty = .object n) ∨ ∃ t, ty = .array t) (hq : Q (.inl (some (.ref a))) h)  : xa_X K tx d y (pc) (ls) ([.ref a]) (h) (mc) (ms) Q := fun R hR => hR.2.2.2.2.2.2.2.2.2.2.2.2.2.2.2.2.2.2.2.2.2.2.2.2.2.2.2.2.2.2.2.2.2.2.2.2.2.2.2.2.2.2.2.2.2.2.2.2.2.2.2.2.2.2.2.2.2.2.2.2.2.2.2.2.2.2.1 _ _ _ _ [] _ _ _ _ _ _ _ hd hr hty hq 
theorem xx_oinit {n' : Nat} {i : Nat} {a : Nat} (hd : xa_d K y pc (.invokespecial i) 3 n') (h1 : Cond.methodLink (K.1 y).1.cls i Lib.objectInit ∈ K.2.2.1) (h2 : Cond.instanceMethod Lib.objectInit ∈ K.2.2.1) (h3 : Cond.code Lib.objectInit ⟨#[0xb1]⟩ 1 none ∈ K.2.2.1) (hw : (st.map fun v => v.category).sum ≤ 8) (k : xa_X K tx d y (n') (ls) (st) (h) (mc) (ms) Q) : xa_X K tx d y (pc) (ls) (.ref a :: st) (h) (mc) (ms) Q := fun R hR => hR.2.2.2.2.2.2.2.2.2.2.2.2.2.2.2.2.2.2.2.2.2.2.2.2.2.2.2.2.2.2.2.2.2.2.2.2.2.2.2.2.2.2.2.2.2.2.2.2.2.2.2.2.2.2.2.2.2.2.2.2.2.2.2.2.2.2.2.1 _ _ _ _ _ _ _ _ _ _ _ _ hd h1 h2 h3 hw (k R hR)
theorem xx_new {n' : Nat} {i : Nat} {ci : Nat} {N : Nat} {fs : List Value} (hd : xa_d K y pc (.new i) 3 n') (hn : xa_new K (K.1 y).1.cls i ci N fs) (k : xa_X K tx d y (n') (ls) (.ref h.1 :: st) ((h.1 + 1, xa_up h.2 h.1 (.inr (ci, fs)))) (mc) (ms) Q) : xa_X K tx d y (pc) (ls) (st) (h) (mc + 1) (ms + N) Q := fun R hR => hR.2.2.2.2.2.2.2.2.2.2.2.2.2.2.2.2.2.2.2.2.2.2.2.2.2.2.2.2.2.2.2.2.2.2.2.2.2.2.2.2.2.2.2.2.2.2.2.2.2.2.2.2.2.2.2.2.2.2.2.2.2.2.2.2.2.2.2.2.1 _ _ _ _ _ _ _ _ _ _ _ _ _ _ hd hn (k R hR)
theorem xx_newI {n' : Nat} {n : Int32} {N : Nat} (hd : xa_d K y pc (.newarray .int) 2 n') (hw : Cond.arrayClass .int ∈ K.2.2.1) (hn0 : ¬ n < 0) (hN : n.toNatClampNeg = N) (hb : N * componentBytes .int ≤ 536870912) (k : xa_X K tx d y (n') (ls) (.ref h.1 :: st) ((h.1 + 1, xa_up h.2 h.1 (.inl (0, N, .inl (fun _ => 0))))) (mc) (ms) Q) : xa_X K tx d y (pc) (ls) (.int n :: st) (h) (mc + 1) (ms + N) Q := fun R hR => hR.2.2.2.2.2.2.2.2.2.2.2.2.2.2.2.2.2.2.2.2.2.2.2.2.2.2.2.2.2.2.2.2.2.2.2.2.2.2.2.2.2.2.2.2.2.2.2.2.2.2.2.2.2.2.2.2.2.2.2.2.2.2.2.2.2.2.2.2.2.1 _ _ _ _ _ _ _ _ _ _ _ _ hd hw hn0 hN hb (k R hR)
theorem xx_newZ {n' : Nat} {n : Int32} {N : Nat} (hd : xa_d K y pc (.newarray .boolean) 2 n') (hw : Cond.arrayClass .boolean ∈ K.2.2.1) (hn0 : ¬ n < 0) (hN : n.toNatClampNeg = N) (hb : N * componentBytes .boolean ≤ 536870912) (k : xa_X K tx d y (n') (ls) (.ref h.1 :: st) ((h.1 + 1, xa_up h.2 h.1 (.inl (1, N, .inl (fun _ => 0))))) (mc) (ms) Q) : xa_X K tx d y (pc) (ls) (.int n :: st) (h) (mc + 1) (ms + N) Q := fun R hR => hR.2.2.2.2.2.2.2.2.2.2.2.2.2.2.2.2.2.2.2.2.2.2.2.2.2.2.2.2.2.2.2.2.2.2.2.2.2.2.2.2.2.2.2.2.2.2.2.2.2.2.2.2.2.2.2.2.2.2.2.2.2.2.2.2.2.2.2.2.2.2.1 _ _ _ _ _ _ _ _ _ _ _ _ hd hw hn0 hN hb (k R hR)
theorem xx_newL {n' : Nat} {n : Int32} {N : Nat} (hd : xa_d K y pc (.newarray .long) 2 n') (hw : Cond.arrayClass .long ∈ K.2.2.1) (hn0 : ¬ n < 0) (hN : n.toNatClampNeg = N) (hb : N * componentBytes .long ≤ 536870912) (k : xa_X K tx d y (n') (ls) (.ref h.1 :: st) ((h.1 + 1, xa_up h.2 h.1 (.inl (2, N, .inr (.inl (fun _ => 0)))))) (mc) (ms) Q) : xa_X K tx d y (pc) (ls) (.int n :: st) (h) (mc + 1) (ms + N) Q := fun R hR => hR.2.2.2.2.2.2.2.2.2.2.2.2.2.2.2.2.2.2.2.2.2.2.2.2.2.2.2.2.2.2.2.2.2.2.2.2.2.2.2.2.2.2.2.2.2.2.2.2.2.2.2.2.2.2.2.2.2.2.2.2.2.2.2.2.2.2.2.2.2.2.2.1 _ _ _ _ _ _ _ _ _ _ _ _ hd hw hn0 hN hb (k R hR)
theorem xx_newQ {n' : Nat} {i : Nat} {n : Int32} {N : Nat} (hd : xa_d K y pc (.anewarray i) 3 n') (hw : Cond.classLink (K.1 y).1.cls i K.2.2.2.2.2 ∈ K.2.2.1) (hw2 : Cond.arrayOver (.object K.2.2.2.2.2) ∈ K.2.2.1) (hn0 : ¬ n < 0) (hN : n.toNatClampNeg = N) (hb : N * 4 ≤ 536870912) (k : xa_X K tx d y (n') (ls) (.ref h.1 :: st) ((h.1 + 1, xa_up h.2 h.1 (.inl (3, N, .inr (.inr (.inr (.inr (fun _ => none)))))))) (mc) (ms) Q) : xa_X K tx d y (pc) (ls) (.int n :: st) (h) (mc + 1) (ms + N) Q := fun R hR => hR.2.2.2.2.2.2.2.2.2.2.2.2.2.2.2.2.2.2.2.2.2.2.2.2.2.2.2.2.2.2.2.2.2.2.2.2.2.2.2.2.2.2.2.2.2.2.2.2.2.2.2.2.2.2.2.2.2.2.2.2.2.2.2.2.2.2.2.2.2.2.2.2.1 _ _ _ _ _ _ _ _ _ _ _ _ _ hd hw hw2 hn0 hN hb (k R hR)
theorem xx_callV {n' : Nat} {i : Nat} {y' : Nat} {ci : Nat} {fs : List Value} {a : Nat} {As : List Value} {mc' : Nat} {ms' : Nat} {P : xa_Q} (hd : xa_d K y pc (.invokevirtual i) 3 n') (hl : xa_lkV K (K.1 y).1.cls i ci y' As.length) (hh : h.2 a = .inr (ci, fs)) (hca : ∀ v ∈ As, v.category = 1) (hw : (st.map fun v => v.category).sum ≤ 8) (hP : ∀ E h', ¬ P (.inr E) h') (k1 : xa_X K tx d y' 0 (xa_ent (K.1 y').2.2.1 (.ref a :: As)) [] h mc' ms' P) (k2 : (∀ (v : Option Value) (h' : xa_H), P (.inl v) h' → xa_X K tx (d + 1) y n' ls (v.toList ++ st) h' mc ms Q)) : xa_X K tx (d + 1) y pc ls (As.reverse ++ .ref a :: st) h (mc + mc') (ms + ms') Q := fun R hR => hR.2.2.2.2.2.2.2.2.2.2.2.2.2.2.2.2.2.2.2.2.2.2.2.2.2.2.2.2.2.2.2.2.2.2.2.2.2.2.2.2.2.2.2.2.2.2.2.2.2.2.2.2.2.2.2.2.2.2.2.2.2.2.2.2.2.2.2.2.2.2.2.2.2.1 _ _ _ _ _ _ _ _ _ _ _ _ _ _ _ _ _ _ _ hd hl hh hca hw hP (k1 R hR) (fun v h' q => k2 v h' q R hR)
theorem xx_callS {n' : Nat} {i : Nat} {y' : Nat} {As : List Value} {mc' : Nat} {ms' : Nat} {P : xa_Q} (hd : xa_d K y pc (.invokestatic i) 3 n') (hl : xa_lkS K (K.1 y).1.cls i y' As.length) (hca : ∀ v ∈ As, v.category = 1) (hw : (st.map fun v => v.category).sum ≤ 8) (hP : ∀ E h', ¬ P (.inr E) h') (k1 : xa_X K tx d y' 0 (xa_ent (K.1 y').2.2.1 (As)) [] h mc' ms' P) (k2 : (∀ (v : Option Value) (h' : xa_H), P (.inl v) h' → xa_X K tx (d + 1) y n' ls (v.toList ++ st) h' mc ms Q)) : xa_X K tx (d + 1) y pc ls (As.reverse ++ st) h (mc + mc') (ms + ms') Q := fun R hR => hR.2.2.2.2.2.2.2.2.2.2.2.2.2.2.2.2.2.2.2.2.2.2.2.2.2.2.2.2.2.2.2.2.2.2.2.2.2.2.2.2.2.2.2.2.2.2.2.2.2.2.2.2.2.2.2.2.2.2.2.2.2.2.2.2.2.2.2.2.2.2.2.2.2.2.1 _ _ _ _ _ _ _ _ _ _ _ _ _ _ _ _ hd hl hca hw hP (k1 R hR) (fun v h' q => k2 v h' q R hR)
theorem xx_callI {n' : Nat} {i : Nat} {y' : Nat} {a : Nat} {As : List Value} {mc' : Nat} {ms' : Nat} {P : xa_Q} (hd : xa_d K y pc (.invokespecial i) 3 n') (hl : xa_lkI K (K.1 y).1.cls i y' As.length) (hca : ∀ v ∈ As, v.category = 1) (hw : (st.map fun v => v.category).sum ≤ 8) (hP : ∀ E h', ¬ P (.inr E) h') (k1 : xa_X K tx d y' 0 (xa_ent (K.1 y').2.2.1 (.ref a :: As)) [] h mc' ms' P) (k2 : (∀ (v : Option Value) (h' : xa_H), P (.inl v) h' → xa_X K tx (d + 1) y n' ls (v.toList ++ st) h' mc ms Q)) : xa_X K tx (d + 1) y pc ls (As.reverse ++ .ref a :: st) h (mc + mc') (ms + ms') Q := fun R hR => hR.2.2.2.2.2.2.2.2.2.2.2.2.2.2.2.2.2.2.2.2.2.2.2.2.2.2.2.2.2.2.2.2.2.2.2.2.2.2.2.2.2.2.2.2.2.2.2.2.2.2.2.2.2.2.2.2.2.2.2.2.2.2.2.2.2.2.2.2.2.2.2.2.2.2.2.1 _ _ _ _ _ _ _ _ _ _ _ _ _ _ _ _ _ hd hl hca hw hP (k1 R hR) (fun v h' q => k2 v h' q R hR)
theorem xx_mmax {n' : Nat} {i : Nat} {x : Int32} {z : Int32} (hd : xa_d K y pc (.invokestatic i) 3 n') (h1 : Cond.methodLink (K.1 y).1.cls i Lib.Math.max.name ∈ K.2.2.1) (h2 : Cond.static Lib.Math.max.name ∈ K.2.2.1) (h3 : Cond.initialized "java/lang/Math" ∈ K.2.2.1) (h4 : Cond.code Lib.Math.max.name Lib.Math.max.code 2 (some .int) ∈ K.2.2.1) (hw : (st.map fun v => v.category).sum ≤ 8) (k : xa_X K tx d y (n') (ls) (.int (if x < z then z else x) :: st) (h) (mc) (ms) Q) : xa_X K tx d y (pc) (ls) (.int z :: .int x :: st) (h) (mc) (ms) Q := fun R hR => hR.2.2.2.2.2.2.2.2.2.2.2.2.2.2.2.2.2.2.2.2.2.2.2.2.2.2.2.2.2.2.2.2.2.2.2.2.2.2.2.2.2.2.2.2.2.2.2.2.2.2.2.2.2.2.2.2.2.2.2.2.2.2.2.2.2.2.2.2.2.2.2.2.2.2.2.2 _ _ _ _ _ _ _ _ _ _ _ _ _ hd h1 h2 h3 h4 hw (k R hR)
end XRows
end
section
/-! Laws that the soundness of the rules rests on: ends, new cells, calls. -/
section XCalls
theorem xa_E.w {K : xa_P} {Z : xa_Z} {below : List Frame} {A : Nat → Prop} {s : State} {ad : Nat → Nat} {n mc ms mc' ms' : Nat} {Q : xa_Q} {t : State} (h1 : mc' ≤ mc) (h2 : ms' ≤ ms) (h : xa_E K Z below A s ad n mc' ms' Q t) : xa_E K Z below A s ad n mc ms Q t := by
  obtain ⟨o, g1, g2, ⟨L, g3, g4, g5⟩, g6⟩ := h
  exact ⟨o, g1, g2, ⟨L, g3, g4.mono h1 h2, g5⟩, g6⟩
theorem xa_E.c {K : xa_P} {Z : xa_Z} {below : List Frame} {A : Nat → Prop} {s : State} {ad : Nat → Nat} {n mc ms mc' ms' : Nat} {Q : xa_Q} {t : State} (h1 : mc' = mc) (h2 : ms' = ms) (h : xa_E K Z below A s ad n mc' ms' Q t) : xa_E K Z below A s ad n mc ms Q t := by
  rw [← h1, ← h2]; exact h
theorem xa_sum {tb ad : Nat → Nat} (st : List Value) : ((st.map (xa_tr tb ad)).map fun v => v.category).sum = (st.map fun v => v.category).sum := by
  rw [List.map_map]
  congr 1
  exact List.map_congr_left fun v _ => xa_cat tb ad v
theorem xa_end {K : xa_P} {Z : xa_Z} {d y : Nat} {p : Program} {R : Room} {s : State} {m : MethodId} {meth : Method} {c : Code} {A : Nat → Prop} {below : List Frame} {args : Array Value} {H : Heap} {locs : List Loc} {cells slots mc ms : Nat} {ad : Nat → Nat} {h : xa_H} {Q : xa_Q} {v : Option Value}
    (C : xa_C K Z d y p R s m meth c A) (hc : cells + mc ≤ R.cells) (hs : slots + ms ≤ R.slots) (rp : xa_rep K Z A s H locs ad h) (hq : Q (.inl v) h) (hv : ∀ w, v = some w → xa_ok h.1 w) :
    ∀ t, MQ below (fun _ _ o t => o = .returned (v.map (xa_tr Z.2.2.1 ad)) ∧ t.heap = H) args s cells slots A t → xa_E K Z below A s ad h.1 (cells + mc) (slots + ms) Q t := by
  intro t ht
  obtain ⟨o, h1, h2, ⟨e1, e2⟩, L, ⟨-, h3, h4⟩, h5⟩ := ht
  refine ⟨o, h1, h2, ⟨L, h3, h4.mono (Nat.le_add_right _ _) (Nat.le_add_right _ _), h5⟩, ad, h, .inl v, Nat.le_refl _, fun _ _ => rfl, ?_, hq, e1, hv⟩
  rw [e2]
  exact ⟨rp.1, rp.2.1, ⟨rp.2.2.1.1, rp.2.2.1.2.1, fun q hq => nomatch hq⟩, rp.2.2.2⟩
theorem xa_norefs {tb ad : Nat → Nat} {fs : List Value} (h : fs.all (fun v => match v with | .ref _ => false | .retAddr _ => false | _ => true) = true) : fs.map (xa_tr tb ad) = fs := by
  have : ∀ v ∈ fs, xa_tr tb ad v = v := fun v hv => by
    have := List.all_eq_true.mp h v hv
    cases v with
    | ref a => cases this
    | retAddr k => cases this
    | _ => rfl
  calc fs.map (xa_tr tb ad) = fs.map id := List.map_congr_left this
    _ = fs := List.map_id fs
theorem xa_ok_of_norefs {n : Nat} {fs : List Value} (h : fs.all (fun v => match v with | .ref _ => false | .retAddr _ => false | _ => true) = true) : ∀ v ∈ fs, xa_ok n v := fun v hv a e => by
  have := List.all_eq_true.mp h v hv
  rw [e] at this
  cases this
theorem xa_okpushA {h : xa_H} {e : va_E} (hok : ∀ i, i < h.1 → xa_okE h.1 (h.2 i)) (he : xa_okE (h.1 + 1) e) : ∀ i, i < (h.1 + 1, xa_up h.2 h.1 e).1 → xa_okE (h.1 + 1, xa_up h.2 h.1 e).1 ((h.1 + 1, xa_up h.2 h.1 e).2 i) := by
  intro i hi
  show xa_okE (h.1 + 1) (xa_up h.2 h.1 e i)
  by_cases q : i = h.1
  · rw [q, xa_up_s]; exact he
  · rw [xa_up_n _ _ q]
    have hi : i < h.1 + 1 := hi
    exact xa_okE_m (Nat.le_succ _) (hok i (by omega))
theorem xa_okpush {h : xa_H} {ci : Nat} {fs : List Value} (hok : ∀ i, i < h.1 → xa_okE h.1 (h.2 i)) (hf : ∀ v ∈ fs, xa_ok (h.1 + 1) v) : ∀ i, i < (h.1 + 1, xa_up h.2 h.1 (.inr (ci, fs))).1 → xa_okE (h.1 + 1, xa_up h.2 h.1 (.inr (ci, fs))).1 ((h.1 + 1, xa_up h.2 h.1 (.inr (ci, fs))).2 i) := xa_okpushA hok hf
/-- the locals at a method's entry -/
theorem xa_lva {tb ad : Nat → Nat} : ∀ (vs : List Value) (i : Nat), (∀ v ∈ vs, v.category = 1) → ∀ q ∈ xa_kn tb ad vs i, q ∈ lv_args i (vs.map (xa_tr tb ad))
  | [], _, _, q, h => by cases h
  | v :: r, i, hc, q, h => by
    have hv := hc v List.mem_cons_self
    have hr : ∀ w ∈ r, w.category = 1 := fun w hw => hc w (List.mem_cons_of_mem _ hw)
    rw [xa_kn_c] at h
    show q ∈ (i, xa_tr tb ad v) :: lv_args (if (xa_tr tb ad v).category = 2 then i + 2 else i + 1) (r.map (xa_tr tb ad))
    rw [xa_cat, hv, if_neg (by decide)]
    by_cases hj : xa_isj v = true
    · rw [if_pos hj] at h
      exact List.mem_cons_of_mem _ (xa_lva r (i + 1) hr q h)
    · rw [if_neg hj] at h
      rcases List.mem_cons.mp h with e | e
      · rw [e]; exact List.mem_cons_self
      · exact List.mem_cons_of_mem _ (xa_lva r (i + 1) hr q e)
theorem xa_kn_rep {tb ad : Nat → Nat} : ∀ (k i : Nat), xa_kn tb ad (List.replicate k xa_j) i = []
  | 0, _ => rfl
  | k + 1, i => by
    show xa_kn tb ad (xa_j :: List.replicate k xa_j) i = []
    exact xa_kn_rep k (i + 1)
theorem xa_kn_app {tb ad : Nat → Nat} : ∀ (vs : List Value) (k i : Nat), xa_kn tb ad (vs ++ List.replicate k xa_j) i = xa_kn tb ad vs i
  | [], k, i => xa_kn_rep k i
  | v :: r, k, i => by
    rw [List.cons_append, xa_kn_c, xa_kn_c, xa_kn_app r k (i + 1)]
theorem xa_sl_len {tb ad : Nat → Nat} {vs : List Value} (hc : ∀ v ∈ vs, v.category = 1) : (lg_sl (vs.map (xa_tr tb ad))).length = vs.length := by
  induction vs with
  | nil => rfl
  | cons v r ih =>
    have h1 := ih (fun w hw => hc w (List.mem_cons_of_mem _ hw))
    have h2 : ¬ (xa_tr tb ad v).category = 2 := by rw [xa_cat, hc v List.mem_cons_self]; decide
    show (List.flatMap _ (xa_tr tb ad v :: r.map (xa_tr tb ad))).length = r.length + 1
    rw [List.flatMap_cons, if_neg h2, List.length_append]
    show 1 + (lg_sl (r.map (xa_tr tb ad))).length = r.length + 1
    rw [h1]; omega
theorem xa_lv_ent {tb ad : Nat → Nat} {n nL : Nat} {vs : List Value} (hc : ∀ v ∈ vs, v.category = 1) (ok : xa_oks n vs) (hl : vs.length ≤ nL) :
    xa_lv tb ad n nL ((lg_sl (vs.map (xa_tr tb ad)) ++ List.replicate (nL - (lg_sl (vs.map (xa_tr tb ad))).length) Slot.unset).toArray) (xa_ent nL vs) := by
  have h1 := lv_entry (vs.map (xa_tr tb ad)) (n := nL) (by rw [xa_sl_len hc]; exact hl)
  refine ⟨⟨h1.1, h1.2.1, fun q hq => ?_⟩, by simp [xa_ent]; omega, fun v hv => ?_⟩
  · rw [xa_ent, xa_kn_app] at hq
    exact h1.2.2 q (xa_lva vs 0 hc q hq)
  · rcases List.mem_append.mp hv with e | e
    · exact ⟨ok v e, hc v e⟩
    · rw [(List.mem_replicate.mp e).2]; exact ⟨(fun a q => by cases q), rfl⟩
theorem xa_weak {tb : Tables} {e : Env} {mid below : List Frame} {a b : State} (h : Steps tb e (mid ++ below) a b) : Steps tb e below a b := by
  obtain ⟨n, hn, w⟩ := h
  exact ⟨n, hn, fun k hk => (w k hk).weaken⟩
/-- the callee of a call, out of its words -/
theorem xa_cal {K : xa_P} {y n : Nat} {args : Array Value} {U : State} (hy : xa_my K y n) (hw : (xa_cw (K.1 y)).before args U = true) :
    ∃ mk meth ck, U.methodNamed? (K.1 y).1 = some mk ∧ U.vm.method? mk = some meth ∧ meth.code = some ck ∧ ck.code = (K.1 y).2.1 ∧ ck.maxLocals = (K.1 y).2.2.1 ∧ meth.sig.returnType = (K.1 y).2.2.2.1 ∧ meth.locks = false ∧ ck.exceptionTable.toList = tableOf (K.1 y).2.2.2.2 ∧ meth.sig.parameters.length = n ∧ U.plainMethod mk := by
  obtain ⟨h1, h2, h3, h4, h5⟩ := hy
  have fin : ∀ mk meth, U.methodNamed? (K.1 y).1 = some mk → U.vm.method? mk = some meth → U.plainMethod mk := fun mk meth a b => State.plainMethod.of_named (plainFor_of_name h2) a b
  have par : ∀ meth : Method, parseMethodDescriptor (K.1 y).1.desc = some meth.sig → meth.sig.parameters.length = n := fun meth q => by
    rw [q] at h4
    exact Option.some.inj h4
  unfold xa_cw at hw
  split at hw
  · rename_i e
    obtain ⟨mk, hn⟩ := Cond.code_named hw
    obtain ⟨meth, ck, q1, q2, q3, q4, q5, q6, q7, q8⟩ := Cond.code_spec hn hw
    refine ⟨mk, meth, ck, hn, q1, q2, q3, q4, q5, q6, ?_, par meth q8, fin mk meth hn q1⟩
    rw [e]
    have h0 : ck.exceptionTable.size = 0 := by simpa [Array.isEmpty] using q7
    exact List.eq_nil_of_length_eq_zero (by simpa using h0)
  · obtain ⟨mk, meth, ck, hn, q1, q2, q3, q4, q5, q6, q7, q8⟩ := Cond.codeWith_spec hw
    refine ⟨mk, meth, ck, hn, q1, q2, q3, q4, q6, q7, ?_, par meth q8, fin mk meth hn q1⟩
    rw [← q5, table_eq]
set_option maxRecDepth 10000 in
theorem xa_ar {a b d R : Nat} (h : 60 * (d + 1) + 300 ≤ R) (ha : a ≤ 8) (hb : b ≤ 41) : a + (b + 11) + (60 * d + 300) ≤ R := by omega
/-- a call, from the frame g whose arguments are taken off: the callee runs, and the caller stands again -/
theorem xa_run {l : Launch} {K : xa_P} {Z : xa_Z} {d y y' : Nat} {p : Program} {e : Env} {R : Room} {s : State} {m : MethodId} {args : Array Value} {below : List Frame} {meth : Method} {c : Code} {A : Nat → Prop} {T : State} {locs : List Loc} {cells slots mc' ms' : Nat} {ad : Nat → Nat} {h : xa_H} {P : xa_Q} {As : List Value} {g : JFrame} {ig : Instr} {len : Nat}
    {mk : MethodId} {methk : Method} {ck : Code}
    (k : xa_W l K Z d y' 0 (xa_ent (K.1 y').2.2.1 As) [] h mc' ms' P) (C : xa_C K Z (d + 1) y p R s m meth c A) (X : Stand p l e R s m args below meth c T locs cells slots)
    (hc : cells + mc' ≤ R.cells) (hs : slots + ms' ≤ R.slots) (rp : xa_rep K Z A s T.heap locs ad h) (ok : xa_oks h.1 As) (hca : ∀ v ∈ As, v.category = 1) (hlen : As.length ≤ (K.1 y').2.2.1) (h41 : (K.1 y').2.2.1 ≤ 41)
    (hg : g.method = m) (hsize : g.locals.size = c.maxLocals) (hdg : decode c.code g.pc = .ok (ig, len)) (hw : 2 * g.monitorRoom + (g.stack.map fun v => v.category).sum ≤ 8)
    (hn : T.methodNamed? (K.1 y').1 = some mk) (hmk : T.vm.method? mk = some methk) (hck : methk.code = some ck) (q3 : ck.code = (K.1 y').2.1) (q4 : ck.maxLocals = (K.1 y').2.2.1) (q5 : methk.sig.returnType = (K.1 y').2.2.2.1) (q6 : methk.locks = false) (q7 : ck.exceptionTable.toList = tableOf (K.1 y').2.2.2.2) (q8 : T.plainMethod mk) :
    ∃ (o : Outcome) (t T' : State) (L : List Loc) (ad' : Nat → Nat) (h' : xa_H) (oa : xa_O), Stand p l e R s m args below meth c T' (locs ++ L) (cells + mc') (slots + ms') ∧ h.1 ≤ h'.1 ∧ (∀ i, i < h.1 → ad' i = ad i) ∧ xa_rep K Z A s T'.heap (locs ++ L) ad' h' ∧ P oa h' ∧ xa_oc Z s ad' h' T' o oa ∧
      (∀ acts, Steps p.tables e below (doInvoke e (T.setTop g) acts mk (As.map (xa_tr Z.2.2.1 ad)).toArray).1 t) ∧ (∀ v, o = .returned v → t = T'.setTop { g with pc := g.pc + len, stack := v.toList ++ g.stack }) ∧ (∀ x, o = .threw x → t = (T'.setTop g).pushFrame (.throwing x)) := by
  have r1 : d + 8 + 1 ≤ R.frames := by have := C.rm.1; omega
  have r2 : 2 * g.monitorRoom + (g.stack.map fun v => v.category).sum + (ck.maxLocals + 11) + (60 * d + 300) ≤ R.locals := by rw [q4]; exact xa_ar C.rm.2 hw h41
  obtain ⟨Y, hin⟩ := X.into hg hsize hdg (As.map (xa_tr Z.2.2.1 ad)).toArray (R' := { frames := d + 8, cells := mc', slots := ms', locals := 60 * d + 300 }) hmk hck q6 q8 r1 r2 hc hs
  have hsub : ∀ q, va_A (xa_w Z.2.1 Z.2.2.1 ad h) T.heap.size q → A q := fun q hq => by
    rcases hq with ⟨k9, e9, h9⟩ | h9
    · exact rp.2.1.2 k9 _ h9
    · exact C.a q (Nat.le_trans rp.2.2.1.1 h9)
  have hW0 : s.WarmedH (T.calling g mk (As.map (xa_tr Z.2.2.1 ad)).toArray).vm := X.warmed
  have hG : xa_G K Z (va_A (xa_w Z.2.1 Z.2.2.1 ad h) T.heap.size) (T.calling g mk (As.map (xa_tr Z.2.2.1 ad)).toArray) := C.g.to (locs := locs) rp.2.2.1 hW0 hsub
  have hnm : methk.name = (K.1 y').1.name := (name_of_methodNamed hn hmk).1
  have hown : T.vm.findClass (K.1 y').1.cls = some mk.cls := findClass_of_methodNamed hn
  have C' : xa_C K Z d y' p { frames := d + 8, cells := mc', slots := ms', locals := 60 * d + 300 } (T.calling g mk (As.map (xa_tr Z.2.2.1 ad)).toArray) mk methk ck (va_A (xa_w Z.2.1 Z.2.2.1 ad h) T.heap.size) :=
    ⟨C.1, q3, q4, q5, q6, hnm, hown, q7, Nat.le_refl _, Nat.le_refl _, fun q hq => Or.inr hq, hG⟩
  have rp' : xa_rep K Z (va_A (xa_w Z.2.1 Z.2.2.1 ad h) T.heap.size) (T.calling g mk (As.map (xa_tr Z.2.2.1 ad)).toArray) T.heap [] ad h :=
    ⟨rp.1, rp.2.1.self, va_S.rf, rp.2.2.2⟩
  have kk := k p e _ _ mk (As.map (xa_tr Z.2.2.1 ad)).toArray (.java g :: below) methk ck _ T.heap [] 0 0 ad _ C' (by show 0 + mc' ≤ mc'; omega) (by show 0 + ms' ≤ ms'; omega) rp' (xa_lv_ent hca ok hlen) (fun v hv => nomatch hv)
  obtain ⟨t, hst, o, hrun, hend, ⟨L, hWe, hsm, hL⟩, ad', h', oa, hn', hag, rp2, hP, hoc⟩ := kk ((T.setTop g).pushFrame (.java (entryFrame mk (As.map (xa_tr Z.2.2.1 ad)).toArray ck.maxLocals))) rfl Y
  rw [Nat.zero_add] at hsm
  have hsm : (T.calling g mk (As.map (xa_tr Z.2.2.1 ad)).toArray).sameButNew ({ t with vm := (T.calling g mk (As.map (xa_tr Z.2.2.1 ad)).toArray).vm } : State) L mc' ms' := by
    have := hsm
    rwa [Nat.zero_add] at this
  have hst' : ∀ acts, Steps p.tables e below (doInvoke e (T.setTop g) acts mk (As.map (xa_tr Z.2.2.1 ad)).toArray).1 t := fun acts => by
    rw [hin acts, q4, lg_entry_eq]
    rw [q4, lg_entry_eq] at hst
    exact xa_weak (mid := [.java g]) hst
  have hcall : (T.calling g mk (As.map (xa_tr Z.2.2.1 ad)).toArray).heap = T.heap := rfl
  have hS2 : va_S A s.heap t.heap (locs ++ L) := by
    have h2 := rp2.2.2.1
    refine ⟨Nat.le_trans rp.2.2.1.1 h2.1, fun q hq hA => ?_, fun z hz => ?_⟩
    · exact (h2.2.1 q (Nat.lt_of_lt_of_le hq rp.2.2.1.1) (fun z => hA (hsub q z))).trans (rp.2.2.1.2.1 q hq hA)
    · rcases List.mem_append.mp hz with z1 | z1
      · exact rp.2.2.1.2.2 z z1
      · exact hsub _ (hL z z1)
  have hD2 : va_D A (xa_w Z.2.1 Z.2.2.1 ad' h') := rp2.2.1.weaken (fun _ _ _ z => hsub _ z)
  cases o with
  | returned v =>
    obtain ⟨T', X', hW', -, ht⟩ := X.outOf hg hdg hend hWe hsm
    have hheap : t.heap = T'.heap := by rw [ht]; rfl
    refine ⟨.returned v, t, T', L, ad', h', oa, X', hn', hag, ⟨by rw [← hheap]; exact rp2.1, hD2, by rw [← hheap]; exact hS2, rp2.2.2.2⟩, hP, ?_, hst', (fun v' e1 => by cases e1; exact ht), (fun x e1 => by cases e1)⟩
    cases oa with
    | inl w => exact hoc
    | inr E => obtain ⟨q, ce, e1, -⟩ := hoc; cases e1
  | threw x =>
    obtain ⟨T', X', hW', -, ht⟩ := X.outOfThrown hg hend hWe hsm
    have hheap : t.heap = T'.heap := by rw [ht]; exact Stand.throwing_heap T' g x
    refine ⟨.threw x, t, T', L, ad', h', oa, X', hn', hag, ⟨by rw [← hheap]; exact rp2.1, hD2, by rw [← hheap]; exact hS2, rp2.2.2.2⟩, hP, ?_, hst', (fun v' e1 => by cases e1), (fun x' e1 => by cases e1; exact ht)⟩
    cases oa with
    | inl w => obtain ⟨e1, -⟩ := hoc; cases e1
    | inr E =>
      obtain ⟨q, ce, e1, e2, e3, e4⟩ := hoc
      exact ⟨q, ce, e1, by rw [← hheap]; exact e2, e3, by rw [← hW0.alike.findClass]; exact e4⟩
end XCalls
section XCalls2
variable {l : Launch} {K : xa_P} {Z : xa_Z} {d y y' : Nat} {p : Program} {e : Env} {R : Room} {s : State} {m : MethodId} {args : Array Value} {below : List Frame} {meth : Method} {c : Code} {A : Nat → Prop} {H : Heap} {locs : List Loc} {cells slots mc ms mc' ms' : Nat} {ad : Nat → Nat} {h : xa_H} {P Q : xa_Q} {sl : Array Slot} {ls st : List Value} {pc : Nat}
/-- behind the call: what the callee returned is on the stack -/
theorem xa_ret {Fs : List Value} {T T₁ : State} {g0 : JFrame} {ig : Instr} {mk : MethodId} (hP : ∀ E h', ¬ P (.inr E) h') (k1 : xa_W l K Z d y' 0 (xa_ent (K.1 y').2.2.1 Fs) [] h mc' ms' P) (k2 : ∀ (v : Option Value) (h' : xa_H), P (.inl v) h' → xa_W l K Z (d + 1) y (pc + 3) ls (v.toList ++ st) h' mc ms Q)
    (C : xa_C K Z (d + 1) y p R s m meth c A) (hc : cells + (mc + mc') ≤ R.cells) (hs : slots + (ms + ms') ≤ R.slots) (X : Stand p l e R s m args below meth c T₁ locs cells slots) (hT : T₁.heap = H) (rp : xa_rep K Z A s H locs ad h) (lv : xa_lv Z.2.2.1 ad h.1 (K.1 y).2.2.1 sl ls) (okS : xa_oks h.1 st) (okF : xa_oks h.1 Fs)
    (hca : ∀ v ∈ Fs, v.category = 1) {n : Nat} (hmy : xa_my K y' n) (hlen : Fs.length ≤ (K.1 y').2.2.1) (hd : decode (K.1 y).2.1 pc = .ok (ig, 3)) (hw : (st.map fun v => v.category).sum ≤ 8) (hnm : T₁.methodNamed? (K.1 y').1 = some mk)
    (hstep : ∀ target, (∀ acts, Steps p.tables e below (doInvoke e (T₁.setTop (F0 m pc sl (st.map (xa_tr Z.2.2.1 ad)))) acts mk (Fs.map (xa_tr Z.2.2.1 ad)).toArray).1 target) → Steps p.tables e below (T.setTop g0) target) :
    ∃ t, Steps p.tables e below (T.setTop g0) t ∧ xa_E K Z below A s ad h.1 (cells + (mc + mc')) (slots + (ms + ms')) Q t := by
  subst hT
  obtain ⟨mk1, methk, ck, e1, e2, e3, e4, e5, e6, e7, e8, -, e9⟩ := xa_cal hmy (C.g.1 _ hmy.1 args T₁ X.warmed)
  cases hnm.symm.trans e1
  obtain ⟨o, t, T', L, ad', h', oa, X', hn', hag, rp', hPo, hoc, hst, hret, -⟩ := xa_run (g := F0 m pc sl (st.map (xa_tr Z.2.2.1 ad))) (ig := ig) (len := 3) k1 C X (by omega) (by omega) rp okF hca hlen hmy.2.2.2.2 rfl (lv.1.1.trans C.2.2.1.symm) (by rw [C.2.1]; exact hd) (by rw [xa_sum]; simp only [JFrame.monitorRoom]; omega) hnm e2 e3 e4 e5 e6 e7 e8 e9
  cases oa with
  | inr E => exact absurd hPo (hP E h')
  | inl v =>
    have ht := hret _ hoc.1
    have okv : xa_oks h'.1 (v.toList ++ st) := fun w hw => by
      rcases List.mem_append.mp hw with q | q
      · cases v with
        | none => cases q
        | some u => rw [List.mem_singleton.mp q]; exact hoc.2 u rfl
      · exact xa_ok_m hn' (okS w q)
    obtain ⟨t2, a1, b1⟩ := k2 v h' hPo p e R s m args below meth c A T'.heap (locs ++ L) (cells + mc') (slots + ms') ad' sl C (by omega) (by omega) rp' (xa_lv_m lv hn' hag) okv T' rfl X'
    have est : (v.toList ++ st).map (xa_tr Z.2.2.1 ad') = (v.map (xa_tr Z.2.2.1 ad')).toList ++ st.map (xa_tr Z.2.2.1 ad) := by
      rw [List.map_append, xa_trs_ag hag okS]
      cases v <;> rfl
    rw [est] at a1
    refine ⟨t2, hstep t2 (fun acts => (hst acts).trans ?_), xa_E.m hn' hag (xa_E.c (by omega) (by omega) b1)⟩
    rw [ht]
    exact a1
theorem xa_sV {i ci a : Nat} {fs As : List Value} (hd : decode (K.1 y).2.1 pc = .ok (.invokevirtual i, 3)) (hl : xa_lkV K (K.1 y).1.cls i ci y' As.length) (hh : h.2 a = .inr (ci, fs)) (hca : ∀ v ∈ As, v.category = 1) (hw : (st.map fun v => v.category).sum ≤ 8) (hP : ∀ E h', ¬ P (.inr E) h')
    (k1 : xa_W l K Z d y' 0 (xa_ent (K.1 y').2.2.1 (.ref a :: As)) [] h mc' ms' P) (k2 : ∀ (v : Option Value) (h' : xa_H), P (.inl v) h' → xa_W l K Z (d + 1) y (pc + 3) ls (v.toList ++ st) h' mc ms Q)
    (C : xa_C K Z (d + 1) y p R s m meth c A) (hc : cells + (mc + mc') ≤ R.cells) (hs : slots + (ms + ms') ≤ R.slots) (rp : xa_rep K Z A s H locs ad h) (lv : xa_lv Z.2.2.1 ad h.1 (K.1 y).2.2.1 sl ls) (ok : xa_oks h.1 (As.reverse ++ .ref a :: st)) :
    W p l e R s m args below meth c H locs cells slots (xa_E K Z below A s ad h.1 (cells + (mc + mc')) (slots + (ms + ms')) Q) (F0 m pc sl ((As.reverse ++ .ref a :: st).map (xa_tr Z.2.2.1 ad))) := by
  intro T hT X
  obtain ⟨hml, hinst, ⟨Tc, N, hcl⟩, hsel, hmy, hlen⟩ := hl
  obtain ⟨ok1, ok2⟩ := xa_oks_a ok
  have okA : xa_oks h.1 As := fun v hv => ok1 v (List.mem_reverse.mpr hv)
  have ha : a < h.1 := xa_oks_h ok2 a rfl
  have hwA := xa_w_get (tys := Z.2.1) (tb := Z.2.2.1) (ad := ad) ha
  rw [hh] at hwA
  obtain ⟨cell, hcell, hobj, hcls⟩ := va_recv C.k rp.1 hcl hwA
  obtain ⟨mk, methk, hnamed, hmeth, hstt, hab⟩ := Cond.instanceMethod_spec (C.ts args _ hinst)
  obtain ⟨c2, r2, m2, q1, q2, q3, q4, kP, hkP, hkPi⟩ := Cond.selects_spec (C.ts args _ hsel)
  cases hcls.symm.trans q1
  cases (State.methodFound?_of_named hnamed hmy.2.2.1).symm.trans q2
  cases hnamed.symm.trans q3
  have hselP : selectMethod e.platform s.vm cell.cls mk = .method mk := by rw [Launch.admits_selectMethod X.admits]; exact q4
  obtain ⟨mk0, meth0, ck0, f1, f2, -, -, -, -, -, -, f9, -⟩ := xa_cal hmy (C.ts args _ hmy.1)
  cases hnamed.symm.trans f1
  cases hmeth.symm.trans f2
  have est : (As.reverse ++ .ref a :: st).map (xa_tr Z.2.2.1 ad) = (As.map (xa_tr Z.2.2.1 ad)).reverse ++ .ref (ad a) :: st.map (xa_tr Z.2.2.1 ad) := by
    rw [List.map_append, List.map_reverse]; rfl
  rw [est]
  have key : ∃ vm', Stand p l e R s m args below meth c (T.setVm vm') locs cells slots ∧ ∀ target, (∀ acts, Steps p.tables e below (doInvoke e ((T.setVm vm').setTop { F0 m pc sl ((As.map (xa_tr Z.2.2.1 ad)).reverse ++ .ref (ad a) :: st.map (xa_tr Z.2.2.1 ad)) with stack := st.map (xa_tr Z.2.2.1 ad) }) acts mk (.ref (ad a) :: As.map (xa_tr Z.2.2.1 ad)).toArray).1 target) → Steps p.tables e below (T.setTop (F0 m pc sl ((As.map (xa_tr Z.2.2.1 ad)).reverse ++ .ref (ad a) :: st.map (xa_tr Z.2.2.1 ad)))) target := by
    rcases hml with hl | ⟨host, hl⟩
    · exact X.invokevirtual C.1 C.o (C.ts args _ hl) hnamed hmeth hstt hkP hkPi hmy.2.2.1 (a := ad a) (cell := cell) (by rw [hT]; exact hcell) (fun z q => by rw [q] at hobj; cases hobj) hselP hmeth hab hkP hkPi (g := F0 m pc sl ((As.map (xa_tr Z.2.2.1 ad)).reverse ++ .ref (ad a) :: st.map (xa_tr Z.2.2.1 ad))) rfl (argsL := As.map (xa_tr Z.2.2.1 ad)) (rest := st.map (xa_tr Z.2.2.1 ad)) (by rw [List.length_map]; exact f9.symm) rfl (by rw [C.2.1]; exact hd)
    · exact X.invokevirtualNest C.1 C.o (C.ts args _ hl) hnamed hmeth hstt hkP hkPi hmy.2.2.1 (a := ad a) (cell := cell) (by rw [hT]; exact hcell) (fun z q => by rw [q] at hobj; cases hobj) hselP hmeth hab hkP hkPi (g := F0 m pc sl ((As.map (xa_tr Z.2.2.1 ad)).reverse ++ .ref (ad a) :: st.map (xa_tr Z.2.2.1 ad))) rfl (argsL := As.map (xa_tr Z.2.2.1 ad)) (rest := st.map (xa_tr Z.2.2.1 ad)) (by rw [List.length_map]; exact f9.symm) rfl (by rw [C.2.1]; exact hd)
  obtain ⟨vm', X₁, hstep⟩ := key
  exact xa_ret (Fs := .ref a :: As) hP k1 k2 C hc hs X₁ hT rp lv (xa_oks_t ok2) (xa_oks_c (xa_ok_r ha) okA) (fun v hv => by
    rcases List.mem_cons.mp hv with q | q
    · rw [q]; rfl
    · exact hca v q) hmy (by show As.length + 1 ≤ _; exact hlen) hd hw (X₁.named hnamed) hstep
theorem xa_sS {i : Nat} {As : List Value} (hd : decode (K.1 y).2.1 pc = .ok (.invokestatic i, 3)) (hl : xa_lkS K (K.1 y).1.cls i y' As.length) (hca : ∀ v ∈ As, v.category = 1) (hw : (st.map fun v => v.category).sum ≤ 8) (hP : ∀ E h', ¬ P (.inr E) h')
    (k1 : xa_W l K Z d y' 0 (xa_ent (K.1 y').2.2.1 As) [] h mc' ms' P) (k2 : ∀ (v : Option Value) (h' : xa_H), P (.inl v) h' → xa_W l K Z (d + 1) y (pc + 3) ls (v.toList ++ st) h' mc ms Q)
    (C : xa_C K Z (d + 1) y p R s m meth c A) (hc : cells + (mc + mc') ≤ R.cells) (hs : slots + (ms + ms') ≤ R.slots) (rp : xa_rep K Z A s H locs ad h) (lv : xa_lv Z.2.2.1 ad h.1 (K.1 y).2.2.1 sl ls) (ok : xa_oks h.1 (As.reverse ++ st)) :
    W p l e R s m args below meth c H locs cells slots (xa_E K Z below A s ad h.1 (cells + (mc + mc')) (slots + (ms + ms')) Q) (F0 m pc sl ((As.reverse ++ st).map (xa_tr Z.2.2.1 ad))) := by
  intro T hT X
  obtain ⟨hml, hstat, hini, hmy, hlen⟩ := hl
  obtain ⟨ok1, ok2⟩ := xa_oks_a ok
  have okA : xa_oks h.1 As := fun v hv => ok1 v (List.mem_reverse.mpr hv)
  obtain ⟨mk, methk, ck0, hnamed, hmeth, -, -, -, -, -, -, f9, -⟩ := xa_cal hmy (C.ts args _ hmy.1)
  have hstatic : methk.isStatic = true := Cond.static_spec hnamed hmeth (C.ts args _ hstat)
  obtain ⟨kP, hkP, -⟩ := className_of_methodNamed hnamed
  have hinitP : kP.init = .initialized := Cond.initialized_spec (findClass_of_methodNamed hnamed) hkP (C.ts args _ hini)
  have est : (As.reverse ++ st).map (xa_tr Z.2.2.1 ad) = (As.map (xa_tr Z.2.2.1 ad)).reverse ++ st.map (xa_tr Z.2.2.1 ad) := by
    rw [List.map_append, List.map_reverse]
  rw [est]
  have key : ∃ vm', Stand p l e R s m args below meth c (T.setVm vm') locs cells slots ∧ ∀ target, (∀ acts, Steps p.tables e below (doInvoke e ((T.setVm vm').setTop { F0 m pc sl ((As.map (xa_tr Z.2.2.1 ad)).reverse ++ st.map (xa_tr Z.2.2.1 ad)) with stack := st.map (xa_tr Z.2.2.1 ad) }) acts mk (As.map (xa_tr Z.2.2.1 ad)).toArray).1 target) → Steps p.tables e below (T.setTop (F0 m pc sl ((As.map (xa_tr Z.2.2.1 ad)).reverse ++ st.map (xa_tr Z.2.2.1 ad)))) target := by
    rcases hml with hl | ⟨host, hl⟩
    · exact X.invokestatic C.1 C.o (C.ts args _ hl) hnamed hmeth hstatic hkP hinitP hmy.2.2.1 (g := F0 m pc sl ((As.map (xa_tr Z.2.2.1 ad)).reverse ++ st.map (xa_tr Z.2.2.1 ad))) rfl (argsL := As.map (xa_tr Z.2.2.1 ad)) (rest := st.map (xa_tr Z.2.2.1 ad)) (by rw [List.length_map]; exact f9.symm) rfl (by rw [C.2.1]; exact hd)
    · exact X.invokestaticNest C.1 C.o (C.ts args _ hl) hnamed hmeth hstatic hkP hinitP hmy.2.2.1 (g := F0 m pc sl ((As.map (xa_tr Z.2.2.1 ad)).reverse ++ st.map (xa_tr Z.2.2.1 ad))) rfl (argsL := As.map (xa_tr Z.2.2.1 ad)) (rest := st.map (xa_tr Z.2.2.1 ad)) (by rw [List.length_map]; exact f9.symm) rfl (by rw [C.2.1]; exact hd)
  obtain ⟨vm', X₁, hstep⟩ := key
  exact xa_ret (Fs := As) hP k1 k2 C hc hs X₁ hT rp lv ok2 okA hca hmy hlen hd hw (X₁.named hnamed) hstep
theorem xa_sI {i a : Nat} {As : List Value} (hd : decode (K.1 y).2.1 pc = .ok (.invokespecial i, 3)) (hl : xa_lkI K (K.1 y).1.cls i y' As.length) (hca : ∀ v ∈ As, v.category = 1) (hw : (st.map fun v => v.category).sum ≤ 8) (hP : ∀ E h', ¬ P (.inr E) h')
    (k1 : xa_W l K Z d y' 0 (xa_ent (K.1 y').2.2.1 (.ref a :: As)) [] h mc' ms' P) (k2 : ∀ (v : Option Value) (h' : xa_H), P (.inl v) h' → xa_W l K Z (d + 1) y (pc + 3) ls (v.toList ++ st) h' mc ms Q)
    (C : xa_C K Z (d + 1) y p R s m meth c A) (hc : cells + (mc + mc') ≤ R.cells) (hs : slots + (ms + ms') ≤ R.slots) (rp : xa_rep K Z A s H locs ad h) (lv : xa_lv Z.2.2.1 ad h.1 (K.1 y).2.2.1 sl ls) (ok : xa_oks h.1 (As.reverse ++ .ref a :: st)) :
    W p l e R s m args below meth c H locs cells slots (xa_E K Z below A s ad h.1 (cells + (mc + mc')) (slots + (ms + ms')) Q) (F0 m pc sl ((As.reverse ++ .ref a :: st).map (xa_tr Z.2.2.1 ad))) := by
  intro T hT X
  obtain ⟨hml, hinst, hnm, hrn, hhn, hmy, hlen⟩ := hl
  obtain ⟨ok1, ok2⟩ := xa_oks_a ok
  have okA : xa_oks h.1 As := fun v hv => ok1 v (List.mem_reverse.mpr hv)
  have ha : a < h.1 := xa_oks_h ok2 a rfl
  have hpl : e.platform.magicAccessors = ({} : Platform).magicAccessors := by rw [X.admits.platform]
  have hcode : (Cond.code (K.1 y').1 (K.1 y').2.1 (K.1 y').2.2.1 none).before args s = true := by
    have := C.ts args _ hmy.1
    unfold xa_cw at this
    rw [hhn, hrn] at this
    exact this
  have hpar : ∀ sig, parseMethodDescriptor (K.1 y').1.desc = some sig → (As.map (xa_tr Z.2.2.1 ad)).length = sig.parameters.length := fun sig q => by
    have h2 := hmy.2.2.2.1
    rw [q] at h2
    rw [List.length_map]
    exact (Option.some.inj h2).symm
  have est : (As.reverse ++ .ref a :: st).map (xa_tr Z.2.2.1 ad) = (As.map (xa_tr Z.2.2.1 ad)).reverse ++ .ref (ad a) :: st.map (xa_tr Z.2.2.1 ad) := by
    rw [List.map_append, List.map_reverse]; rfl
  rw [est]
  have key : ∃ mk vm', s.methodNamed? (K.1 y').1 = some mk ∧ s.WarmedH vm' ∧ ∀ target, (∀ acts, Steps p.tables e below (doInvoke e ((T.setVm vm').setTop { F0 m pc sl ((As.map (xa_tr Z.2.2.1 ad)).reverse ++ .ref (ad a) :: st.map (xa_tr Z.2.2.1 ad)) with stack := st.map (xa_tr Z.2.2.1 ad) }) acts mk (.ref (ad a) :: As.map (xa_tr Z.2.2.1 ad)).toArray).1 target) → Steps p.tables e below (T.setTop (F0 m pc sl ((As.map (xa_tr Z.2.2.1 ad)).reverse ++ .ref (ad a) :: st.map (xa_tr Z.2.2.1 ad)))) target := by
    rcases hml with hl | ⟨host, hl⟩
    · obtain ⟨mk, _, _, _, vm', g1, -, -, -, -, -, -, -, g2, g3⟩ := Steps.initColdArgs (e := e) X.here C.1 X.warmed hpl C.o hnm hmy.2.2.1 (C.ts args _ hl) (C.ts args _ hinst) hcode (f := F0 m pc sl ((As.map (xa_tr Z.2.2.1 ad)).reverse ++ .ref (ad a) :: st.map (xa_tr Z.2.2.1 ad))) rfl hpar rfl (by rw [C.2.1]; exact hd)
      exact ⟨mk, vm', g1, g2, g3⟩
    · obtain ⟨mk, _, _, _, vm', g1, -, -, -, -, -, -, -, g2, g3⟩ := Steps.initColdArgsNest (e := e) X.here C.1 X.warmed hpl C.o hnm hmy.2.2.1 (C.ts args _ hl) (C.ts args _ hinst) hcode (f := F0 m pc sl ((As.map (xa_tr Z.2.2.1 ad)).reverse ++ .ref (ad a) :: st.map (xa_tr Z.2.2.1 ad))) rfl hpar rfl (by rw [C.2.1]; exact hd)
      exact ⟨mk, vm', g1, g2, g3⟩
  obtain ⟨mk, vm', hnamed, hW₁, hstep⟩ := key
  have X₁ := X.noted hW₁
  exact xa_ret (Fs := .ref a :: As) hP k1 k2 C hc hs X₁ hT rp lv (xa_oks_t ok2) (xa_oks_c (xa_ok_r ha) okA) (fun v hv => by
    rcases List.mem_cons.mp hv with q | q
    · rw [q]; rfl
    · exact hca v q) hmy (by show As.length + 1 ≤ _; exact hlen) hd hw (X₁.named hnamed) hstep
end XCalls2
end
section
/-! Each rule of the abstract machine is sound (printed by wip/whole/gen_machine.py). -/
section XSound
variable {l : Launch} {K : xa_P} {Z : xa_Z}
set_option maxHeartbeats 2000000 in
theorem xs_iconst : xr_iconst K (xa_W l K Z) := by
  intro d y pc ls st h mc ms Q n' n v hd hv k p e R s m args below meth c A H locs cells slots ad sl C hc hs rp lv ok
  obtain ⟨hd, rfl⟩ := hd
  exact lv_iconst C.1 C.2.1 hd hv (k p e R s m args below meth c A H locs cells slots ad sl C hc hs rp lv (xa_oks_i ok))
set_option maxHeartbeats 2000000 in
theorem xs_bipush : xr_bipush K (xa_W l K Z) := by
  intro d y pc ls st h mc ms Q n' n v hd hv k p e R s m args below meth c A H locs cells slots ad sl C hc hs rp lv ok
  obtain ⟨hd, rfl⟩ := hd
  exact lv_bipush C.1 C.2.1 hd hv (k p e R s m args below meth c A H locs cells slots ad sl C hc hs rp lv (xa_oks_i ok))
set_option maxHeartbeats 2000000 in
theorem xs_sipush : xr_sipush K (xa_W l K Z) := by
  intro d y pc ls st h mc ms Q n' n v hd hv k p e R s m args below meth c A H locs cells slots ad sl C hc hs rp lv ok
  obtain ⟨hd, rfl⟩ := hd
  exact lv_sipush C.1 C.2.1 hd hv (k p e R s m args below meth c A H locs cells slots ad sl C hc hs rp lv (xa_oks_i ok))
set_option maxHeartbeats 2000000 in
theorem xs_ldc : xr_ldc K (xa_W l K Z) := by
  intro d y pc ls st h mc ms Q n' i v hd hv k p e R s m args below meth c A H locs cells slots ad sl C hc hs rp lv ok
  obtain ⟨hd, rfl⟩ := hd
  exact lv_ldc C.1 C.2.1 C.o (C.ts args _ hv) hd (k p e R s m args below meth c A H locs cells slots ad sl C hc hs rp lv (xa_oks_i ok))
set_option maxHeartbeats 2000000 in
theorem xs_iload_n : xr_iload_n K (xa_W l K Z) := by
  intro d y pc ls st h mc ms Q n' n i x hd hi hl k p e R s m args below meth c A H locs cells slots ad sl C hc hs rp lv ok
  obtain ⟨hd, rfl⟩ := hd
  exact lv_iload_n C.1 C.2.1 hd hi (xa_lv_at lv hl rfl) (k p e R s m args below meth c A H locs cells slots ad sl C hc hs rp lv (xa_oks_i ok))
set_option maxHeartbeats 2000000 in
theorem xs_iload : xr_iload K (xa_W l K Z) := by
  intro d y pc ls st h mc ms Q n' i x hd hl k p e R s m args below meth c A H locs cells slots ad sl C hc hs rp lv ok
  obtain ⟨hd, rfl⟩ := hd
  exact lv_iload C.1 C.2.1 hd (xa_lv_at lv hl rfl) (k p e R s m args below meth c A H locs cells slots ad sl C hc hs rp lv (xa_oks_i ok))
set_option maxHeartbeats 2000000 in
theorem xs_aload_n : xr_aload_n K (xa_W l K Z) := by
  intro d y pc ls st h mc ms Q n' n i x hd hi hl k p e R s m args below meth c A H locs cells slots ad sl C hc hs rp lv ok
  obtain ⟨hd, rfl⟩ := hd
  exact lv_aload_n C.1 C.2.1 hd hi (xa_lv_at lv hl rfl) (k p e R s m args below meth c A H locs cells slots ad sl C hc hs rp lv (xa_oks_c (xa_lv_ok lv hl) ok))
set_option maxHeartbeats 2000000 in
theorem xs_aload_nT : xr_aload_nT K (xa_W l K Z) := by
  intro d y pc ls st h mc ms Q n' n i x hd hi hl k p e R s m args below meth c A H locs cells slots ad sl C hc hs rp lv ok
  obtain ⟨hd, rfl⟩ := hd
  exact lv_aload_n C.1 C.2.1 hd hi (xa_lv_at lv hl rfl) (k p e R s m args below meth c A H locs cells slots ad sl C hc hs rp lv (xa_oks_c (xa_lv_ok lv hl) ok))
set_option maxHeartbeats 2000000 in
theorem xs_aload : xr_aload K (xa_W l K Z) := by
  intro d y pc ls st h mc ms Q n' i x hd hl k p e R s m args below meth c A H locs cells slots ad sl C hc hs rp lv ok
  obtain ⟨hd, rfl⟩ := hd
  exact lv_aload C.1 C.2.1 hd (xa_lv_at lv hl rfl) (k p e R s m args below meth c A H locs cells slots ad sl C hc hs rp lv (xa_oks_c (xa_lv_ok lv hl) ok))
set_option maxHeartbeats 2000000 in
theorem xs_aloadT : xr_aloadT K (xa_W l K Z) := by
  intro d y pc ls st h mc ms Q n' i x hd hl k p e R s m args below meth c A H locs cells slots ad sl C hc hs rp lv ok
  obtain ⟨hd, rfl⟩ := hd
  exact lv_aload C.1 C.2.1 hd (xa_lv_at lv hl rfl) (k p e R s m args below meth c A H locs cells slots ad sl C hc hs rp lv (xa_oks_c (xa_lv_ok lv hl) ok))
set_option maxHeartbeats 2000000 in
theorem xs_istore_n : xr_istore_n K (xa_W l K Z) := by
  intro d y pc ls st h mc ms Q n' n i x w hd hi hl k p e R s m args below meth c A H locs cells slots ad sl C hc hs rp lv ok
  obtain ⟨hd, rfl⟩ := hd
  exact lv_istore_n C.1 C.2.1 hd hi lv.1 (xa_lv_lt lv hl) rfl (fun sl2 hl2 => (k p e R s m args below meth c A H locs cells slots ad sl2 C hc hs rp (xa_lv_set lv hl xa_ok_i rfl hl2) (xa_oks_t ok)))
set_option maxHeartbeats 2000000 in
theorem xs_istore : xr_istore K (xa_W l K Z) := by
  intro d y pc ls st h mc ms Q n' i x w hd hl k p e R s m args below meth c A H locs cells slots ad sl C hc hs rp lv ok
  obtain ⟨hd, rfl⟩ := hd
  exact lv_istore C.1 C.2.1 hd lv.1 (xa_lv_lt lv hl) rfl (fun sl2 hl2 => (k p e R s m args below meth c A H locs cells slots ad sl2 C hc hs rp (xa_lv_set lv hl xa_ok_i rfl hl2) (xa_oks_t ok)))
set_option maxHeartbeats 2000000 in
theorem xs_astore_n : xr_astore_n K (xa_W l K Z) := by
  intro d y pc ls st h mc ms Q n' n i x w hd hi hl k p e R s m args below meth c A H locs cells slots ad sl C hc hs rp lv ok
  obtain ⟨hd, rfl⟩ := hd
  exact lv_astore_n C.1 C.2.1 hd hi lv.1 (xa_lv_lt lv hl) rfl (fun sl2 hl2 => (k p e R s m args below meth c A H locs cells slots ad sl2 C hc hs rp (xa_lv_set lv hl (xa_oks_h ok) rfl hl2) (xa_oks_t ok)))
set_option maxHeartbeats 2000000 in
theorem xs_astore : xr_astore K (xa_W l K Z) := by
  intro d y pc ls st h mc ms Q n' i x w hd hl k p e R s m args below meth c A H locs cells slots ad sl C hc hs rp lv ok
  obtain ⟨hd, rfl⟩ := hd
  exact lv_astore C.1 C.2.1 hd lv.1 (xa_lv_lt lv hl) rfl (fun sl2 hl2 => (k p e R s m args below meth c A H locs cells slots ad sl2 C hc hs rp (xa_lv_set lv hl (xa_oks_h ok) rfl hl2) (xa_oks_t ok)))
set_option maxHeartbeats 2000000 in
theorem xs_iinc : xr_iinc K (xa_W l K Z) := by
  intro d y pc ls st h mc ms Q n' i n x v hd hl hv k p e R s m args below meth c A H locs cells slots ad sl C hc hs rp lv ok
  obtain ⟨hd, rfl⟩ := hd
  obtain ⟨j, hj⟩ := List.mem_iff_getElem?.mp (xa_kn_mem (tb := Z.2.2.1) (ad := ad) (v := .int x) rfl ls i 0 hl)
  rw [Nat.zero_add] at hj
  exact lv_iinc C.1 C.2.1 hd lv.1 hj hv (xa_lv_lt lv hl) rfl (fun sl2 hl2 => (k p e R s m args below meth c A H locs cells slots ad sl2 C hc hs rp (xa_lv_set lv hl xa_ok_i rfl hl2) (ok)))
set_option maxHeartbeats 2000000 in
theorem xs_iadd : xr_iadd K (xa_W l K Z) := by
  intro d y pc ls st h mc ms Q n' x z hd k p e R s m args below meth c A H locs cells slots ad sl C hc hs rp lv ok
  obtain ⟨hd, rfl⟩ := hd
  exact lv_iadd C.1 C.2.1 hd (k p e R s m args below meth c A H locs cells slots ad sl C hc hs rp lv (xa_oks_i (xa_oks_t (xa_oks_t ok))))
set_option maxHeartbeats 2000000 in
theorem xs_isub : xr_isub K (xa_W l K Z) := by
  intro d y pc ls st h mc ms Q n' x z hd k p e R s m args below meth c A H locs cells slots ad sl C hc hs rp lv ok
  obtain ⟨hd, rfl⟩ := hd
  exact lv_isub C.1 C.2.1 hd (k p e R s m args below meth c A H locs cells slots ad sl C hc hs rp lv (xa_oks_i (xa_oks_t (xa_oks_t ok))))
set_option maxHeartbeats 2000000 in
theorem xs_imul : xr_imul K (xa_W l K Z) := by
  intro d y pc ls st h mc ms Q n' x z hd k p e R s m args below meth c A H locs cells slots ad sl C hc hs rp lv ok
  obtain ⟨hd, rfl⟩ := hd
  exact lv_imul C.1 C.2.1 hd (k p e R s m args below meth c A H locs cells slots ad sl C hc hs rp lv (xa_oks_i (xa_oks_t (xa_oks_t ok))))
set_option maxHeartbeats 2000000 in
theorem xs_iand : xr_iand K (xa_W l K Z) := by
  intro d y pc ls st h mc ms Q n' x z hd k p e R s m args below meth c A H locs cells slots ad sl C hc hs rp lv ok
  obtain ⟨hd, rfl⟩ := hd
  exact lv_iand C.1 C.2.1 hd (k p e R s m args below meth c A H locs cells slots ad sl C hc hs rp lv (xa_oks_i (xa_oks_t (xa_oks_t ok))))
set_option maxHeartbeats 2000000 in
theorem xs_ior : xr_ior K (xa_W l K Z) := by
  intro d y pc ls st h mc ms Q n' x z hd k p e R s m args below meth c A H locs cells slots ad sl C hc hs rp lv ok
  obtain ⟨hd, rfl⟩ := hd
  exact lv_ior C.1 C.2.1 hd (k p e R s m args below meth c A H locs cells slots ad sl C hc hs rp lv (xa_oks_i (xa_oks_t (xa_oks_t ok))))
set_option maxHeartbeats 2000000 in
theorem xs_ixor : xr_ixor K (xa_W l K Z) := by
  intro d y pc ls st h mc ms Q n' x z hd k p e R s m args below meth c A H locs cells slots ad sl C hc hs rp lv ok
  obtain ⟨hd, rfl⟩ := hd
  exact lv_ixor C.1 C.2.1 hd (k p e R s m args below meth c A H locs cells slots ad sl C hc hs rp lv (xa_oks_i (xa_oks_t (xa_oks_t ok))))
set_option maxHeartbeats 2000000 in
theorem xs_ishl : xr_ishl K (xa_W l K Z) := by
  intro d y pc ls st h mc ms Q n' x z hd k p e R s m args below meth c A H locs cells slots ad sl C hc hs rp lv ok
  obtain ⟨hd, rfl⟩ := hd
  exact lv_ishl C.1 C.2.1 hd (k p e R s m args below meth c A H locs cells slots ad sl C hc hs rp lv (xa_oks_i (xa_oks_t (xa_oks_t ok))))
set_option maxHeartbeats 2000000 in
theorem xs_ishr : xr_ishr K (xa_W l K Z) := by
  intro d y pc ls st h mc ms Q n' x z hd k p e R s m args below meth c A H locs cells slots ad sl C hc hs rp lv ok
  obtain ⟨hd, rfl⟩ := hd
  exact lv_ishr C.1 C.2.1 hd (k p e R s m args below meth c A H locs cells slots ad sl C hc hs rp lv (xa_oks_i (xa_oks_t (xa_oks_t ok))))
set_option maxHeartbeats 2000000 in
theorem xs_iushr : xr_iushr K (xa_W l K Z) := by
  intro d y pc ls st h mc ms Q n' x z hd k p e R s m args below meth c A H locs cells slots ad sl C hc hs rp lv ok
  obtain ⟨hd, rfl⟩ := hd
  exact lv_iushr C.1 C.2.1 hd rfl (k p e R s m args below meth c A H locs cells slots ad sl C hc hs rp lv (xa_oks_i (xa_oks_t (xa_oks_t ok))))
set_option maxHeartbeats 2000000 in
theorem xs_idiv : xr_idiv K (xa_W l K Z) := by
  intro d y pc ls st h mc ms Q n' x z hd hz k p e R s m args below meth c A H locs cells slots ad sl C hc hs rp lv ok
  obtain ⟨hd, rfl⟩ := hd
  exact lv_idiv C.1 C.2.1 hd hz (k p e R s m args below meth c A H locs cells slots ad sl C hc hs rp lv (xa_oks_i (xa_oks_t (xa_oks_t ok))))
set_option maxHeartbeats 2000000 in
theorem xs_irem : xr_irem K (xa_W l K Z) := by
  intro d y pc ls st h mc ms Q n' x z hd hz k p e R s m args below meth c A H locs cells slots ad sl C hc hs rp lv ok
  obtain ⟨hd, rfl⟩ := hd
  exact lv_irem C.1 C.2.1 hd hz (k p e R s m args below meth c A H locs cells slots ad sl C hc hs rp lv (xa_oks_i (xa_oks_t (xa_oks_t ok))))
set_option maxHeartbeats 2000000 in
theorem xs_i2l : xr_i2l K (xa_W l K Z) := by
  intro d y pc ls st h mc ms Q n' x hd k p e R s m args below meth c A H locs cells slots ad sl C hc hs rp lv ok
  obtain ⟨hd, rfl⟩ := hd
  exact lv_i2l C.1 C.2.1 hd rfl (k p e R s m args below meth c A H locs cells slots ad sl C hc hs rp lv (xa_oks_l (xa_oks_t ok)))
set_option maxHeartbeats 2000000 in
theorem xs_lcmp : xr_lcmp K (xa_W l K Z) := by
  intro d y pc ls st h mc ms Q n' x z hd k p e R s m args below meth c A H locs cells slots ad sl C hc hs rp lv ok
  obtain ⟨hd, rfl⟩ := hd
  exact W.lcmp C.1 C.2.1 hd (k p e R s m args below meth c A H locs cells slots ad sl C hc hs rp lv (xa_oks_i (xa_oks_t (xa_oks_t ok))))
set_option maxHeartbeats 2000000 in
theorem xs_dup : xr_dup K (xa_W l K Z) := by
  intro d y pc ls st h mc ms Q n' v hd hv k p e R s m args below meth c A H locs cells slots ad sl C hc hs rp lv ok
  obtain ⟨hd, rfl⟩ := hd
  exact lv_dup C.1 C.2.1 hd (by rw [xa_cat]; exact hv) (k p e R s m args below meth c A H locs cells slots ad sl C hc hs rp lv (xa_oks_c (xa_oks_h ok) ok))
set_option maxHeartbeats 2000000 in
theorem xs_pop : xr_pop K (xa_W l K Z) := by
  intro d y pc ls st h mc ms Q n' v hd hv k p e R s m args below meth c A H locs cells slots ad sl C hc hs rp lv ok
  obtain ⟨hd, rfl⟩ := hd
  exact lv_pop C.1 C.2.1 hd (by rw [xa_cat]; exact hv) (k p e R s m args below meth c A H locs cells slots ad sl C hc hs rp lv (xa_oks_t ok))
set_option maxHeartbeats 2000000 in
theorem xs_dup2 : xr_dup2 K (xa_W l K Z) := by
  intro d y pc ls st h mc ms Q n' v w hd hv hw k p e R s m args below meth c A H locs cells slots ad sl C hc hs rp lv ok
  obtain ⟨hd, rfl⟩ := hd
  exact lv_dup2_11 C.1 C.2.1 hd (by rw [xa_cat]; exact hv) (by rw [xa_cat]; exact hw) (k p e R s m args below meth c A H locs cells slots ad sl C hc hs rp lv (xa_oks_c (xa_oks_h ok) (xa_oks_c (xa_oks_h (xa_oks_t ok)) ok)))
set_option maxHeartbeats 2000000 in
theorem xs_dup_x1 : xr_dup_x1 K (xa_W l K Z) := by
  intro d y pc ls st h mc ms Q n' v w hd hv hw k p e R s m args below meth c A H locs cells slots ad sl C hc hs rp lv ok
  obtain ⟨hd, rfl⟩ := hd
  exact lv_dup_x1 C.1 C.2.1 hd (by rw [xa_cat]; exact hv) (by rw [xa_cat]; exact hw) (k p e R s m args below meth c A H locs cells slots ad sl C hc hs rp lv (xa_oks_c (xa_oks_h ok) (xa_oks_c (xa_oks_h (xa_oks_t ok)) (xa_oks_c (xa_oks_h ok) (xa_oks_t (xa_oks_t ok))))))
set_option maxHeartbeats 2000000 in
theorem xs_if_eq : xr_if_eq K (xa_W l K Z) := by
  intro d y pc ls st h mc ms Q n' x off tgt hd kt kf p e R s m args below meth c A H locs cells slots ad sl C hc hs rp lv ok
  obtain ⟨⟨hd, rfl⟩, ht⟩ := hd
  exact lv_if_eq C.1 C.2.1 hd ht (fun q => (kt q p e R s m args below meth c A H locs cells slots ad sl C hc hs rp lv (xa_oks_t ok))) (fun q => (kf q p e R s m args below meth c A H locs cells slots ad sl C hc hs rp lv (xa_oks_t ok)))
set_option maxHeartbeats 2000000 in
theorem xs_if_ne : xr_if_ne K (xa_W l K Z) := by
  intro d y pc ls st h mc ms Q n' x off tgt hd kt kf p e R s m args below meth c A H locs cells slots ad sl C hc hs rp lv ok
  obtain ⟨⟨hd, rfl⟩, ht⟩ := hd
  exact lv_if_ne C.1 C.2.1 hd ht (fun q => (kt q p e R s m args below meth c A H locs cells slots ad sl C hc hs rp lv (xa_oks_t ok))) (fun q => (kf q p e R s m args below meth c A H locs cells slots ad sl C hc hs rp lv (xa_oks_t ok)))
set_option maxHeartbeats 2000000 in
theorem xs_if_lt : xr_if_lt K (xa_W l K Z) := by
  intro d y pc ls st h mc ms Q n' x off tgt hd kt kf p e R s m args below meth c A H locs cells slots ad sl C hc hs rp lv ok
  obtain ⟨⟨hd, rfl⟩, ht⟩ := hd
  exact lv_if_lt C.1 C.2.1 hd ht (fun q => (kt q p e R s m args below meth c A H locs cells slots ad sl C hc hs rp lv (xa_oks_t ok))) (fun q => (kf q p e R s m args below meth c A H locs cells slots ad sl C hc hs rp lv (xa_oks_t ok)))
set_option maxHeartbeats 2000000 in
theorem xs_if_ge : xr_if_ge K (xa_W l K Z) := by
  intro d y pc ls st h mc ms Q n' x off tgt hd kt kf p e R s m args below meth c A H locs cells slots ad sl C hc hs rp lv ok
  obtain ⟨⟨hd, rfl⟩, ht⟩ := hd
  exact lv_if_ge C.1 C.2.1 hd ht (fun q => (kt q p e R s m args below meth c A H locs cells slots ad sl C hc hs rp lv (xa_oks_t ok))) (fun q => (kf q p e R s m args below meth c A H locs cells slots ad sl C hc hs rp lv (xa_oks_t ok)))
set_option maxHeartbeats 2000000 in
theorem xs_if_gt : xr_if_gt K (xa_W l K Z) := by
  intro d y pc ls st h mc ms Q n' x off tgt hd kt kf p e R s m args below meth c A H locs cells slots ad sl C hc hs rp lv ok
  obtain ⟨⟨hd, rfl⟩, ht⟩ := hd
  exact lv_if_gt C.1 C.2.1 hd ht (fun q => (kt q p e R s m args below meth c A H locs cells slots ad sl C hc hs rp lv (xa_oks_t ok))) (fun q => (kf q p e R s m args below meth c A H locs cells slots ad sl C hc hs rp lv (xa_oks_t ok)))
set_option maxHeartbeats 2000000 in
theorem xs_if_le : xr_if_le K (xa_W l K Z) := by
  intro d y pc ls st h mc ms Q n' x off tgt hd kt kf p e R s m args below meth c A H locs cells slots ad sl C hc hs rp lv ok
  obtain ⟨⟨hd, rfl⟩, ht⟩ := hd
  exact lv_if_le C.1 C.2.1 hd ht (fun q => (kt q p e R s m args below meth c A H locs cells slots ad sl C hc hs rp lv (xa_oks_t ok))) (fun q => (kf q p e R s m args below meth c A H locs cells slots ad sl C hc hs rp lv (xa_oks_t ok)))
set_option maxHeartbeats 2000000 in
theorem xs_icmp_eq : xr_icmp_eq K (xa_W l K Z) := by
  intro d y pc ls st h mc ms Q n' x z off tgt hd kt kf p e R s m args below meth c A H locs cells slots ad sl C hc hs rp lv ok
  obtain ⟨⟨hd, rfl⟩, ht⟩ := hd
  exact lv_icmp_eq C.1 C.2.1 hd ht (fun q => (kt q p e R s m args below meth c A H locs cells slots ad sl C hc hs rp lv (xa_oks_t (xa_oks_t ok)))) (fun q => (kf q p e R s m args below meth c A H locs cells slots ad sl C hc hs rp lv (xa_oks_t (xa_oks_t ok))))
set_option maxHeartbeats 2000000 in
theorem xs_icmp_ne : xr_icmp_ne K (xa_W l K Z) := by
  intro d y pc ls st h mc ms Q n' x z off tgt hd kt kf p e R s m args below meth c A H locs cells slots ad sl C hc hs rp lv ok
  obtain ⟨⟨hd, rfl⟩, ht⟩ := hd
  exact lv_icmp_ne C.1 C.2.1 hd ht (fun q => (kt q p e R s m args below meth c A H locs cells slots ad sl C hc hs rp lv (xa_oks_t (xa_oks_t ok)))) (fun q => (kf q p e R s m args below meth c A H locs cells slots ad sl C hc hs rp lv (xa_oks_t (xa_oks_t ok))))
set_option maxHeartbeats 2000000 in
theorem xs_icmp_lt : xr_icmp_lt K (xa_W l K Z) := by
  intro d y pc ls st h mc ms Q n' x z off tgt hd kt kf p e R s m args below meth c A H locs cells slots ad sl C hc hs rp lv ok
  obtain ⟨⟨hd, rfl⟩, ht⟩ := hd
  exact lv_icmp_lt C.1 C.2.1 hd ht (fun q => (kt q p e R s m args below meth c A H locs cells slots ad sl C hc hs rp lv (xa_oks_t (xa_oks_t ok)))) (fun q => (kf q p e R s m args below meth c A H locs cells slots ad sl C hc hs rp lv (xa_oks_t (xa_oks_t ok))))
set_option maxHeartbeats 2000000 in
theorem xs_icmp_ge : xr_icmp_ge K (xa_W l K Z) := by
  intro d y pc ls st h mc ms Q n' x z off tgt hd kt kf p e R s m args below meth c A H locs cells slots ad sl C hc hs rp lv ok
  obtain ⟨⟨hd, rfl⟩, ht⟩ := hd
  exact lv_icmp_ge C.1 C.2.1 hd ht (fun q => (kt q p e R s m args below meth c A H locs cells slots ad sl C hc hs rp lv (xa_oks_t (xa_oks_t ok)))) (fun q => (kf q p e R s m args below meth c A H locs cells slots ad sl C hc hs rp lv (xa_oks_t (xa_oks_t ok))))
set_option maxHeartbeats 2000000 in
theorem xs_icmp_gt : xr_icmp_gt K (xa_W l K Z) := by
  intro d y pc ls st h mc ms Q n' x z off tgt hd kt kf p e R s m args below meth c A H locs cells slots ad sl C hc hs rp lv ok
  obtain ⟨⟨hd, rfl⟩, ht⟩ := hd
  exact lv_icmp_gt C.1 C.2.1 hd ht (fun q => (kt q p e R s m args below meth c A H locs cells slots ad sl C hc hs rp lv (xa_oks_t (xa_oks_t ok)))) (fun q => (kf q p e R s m args below meth c A H locs cells slots ad sl C hc hs rp lv (xa_oks_t (xa_oks_t ok))))
set_option maxHeartbeats 2000000 in
theorem xs_icmp_le : xr_icmp_le K (xa_W l K Z) := by
  intro d y pc ls st h mc ms Q n' x z off tgt hd kt kf p e R s m args below meth c A H locs cells slots ad sl C hc hs rp lv ok
  obtain ⟨⟨hd, rfl⟩, ht⟩ := hd
  exact lv_icmp_le C.1 C.2.1 hd ht (fun q => (kt q p e R s m args below meth c A H locs cells slots ad sl C hc hs rp lv (xa_oks_t (xa_oks_t ok)))) (fun q => (kf q p e R s m args below meth c A H locs cells slots ad sl C hc hs rp lv (xa_oks_t (xa_oks_t ok))))
set_option maxHeartbeats 2000000 in
theorem xs_goto : xr_goto K (xa_W l K Z) := by
  intro d y pc ls st h mc ms Q n' off tgt hd k p e R s m args below meth c A H locs cells slots ad sl C hc hs rp lv ok
  obtain ⟨⟨hd, rfl⟩, ht⟩ := hd
  exact lv_goto C.1 C.2.1 hd ht (k p e R s m args below meth c A H locs cells slots ad sl C hc hs rp lv (ok))
set_option maxHeartbeats 2000000 in
theorem xs_tableOut : xr_tableOut K (xa_W l K Z) := by
  intro d y pc ls st h mc ms Q n' dflt lo hi offs len x tgt hd hx ht k p e R s m args below meth c A H locs cells slots ad sl C hc hs rp lv ok
  obtain ⟨hd, rfl⟩ := hd
  exact lv_tableOut C.1 C.2.1 hd hx ht (k p e R s m args below meth c A H locs cells slots ad sl C hc hs rp lv (xa_oks_t ok))
set_option maxHeartbeats 2000000 in
theorem xs_tableIn : xr_tableIn K (xa_W l K Z) := by
  intro d y pc ls st h mc ms Q n' dflt lo hi offs len x off tgt hd h1 h2 ho ht k p e R s m args below meth c A H locs cells slots ad sl C hc hs rp lv ok
  obtain ⟨hd, rfl⟩ := hd
  exact lv_tableIn C.1 C.2.1 hd h1 h2 ho ht (k p e R s m args below meth c A H locs cells slots ad sl C hc hs rp lv (xa_oks_t ok))
set_option maxHeartbeats 2000000 in
theorem xs_lookup : xr_lookup K (xa_W l K Z) := by
  intro d y pc ls st h mc ms Q n' dflt ps len x off tgt hd hp ho ht k p e R s m args below meth c A H locs cells slots ad sl C hc hs rp lv ok
  obtain ⟨hd, rfl⟩ := hd
  exact lv_lookup C.1 C.2.1 hd hp ho ht (k p e R s m args below meth c A H locs cells slots ad sl C hc hs rp lv (xa_oks_t ok))
set_option maxHeartbeats 2000000 in
theorem xs_less : xr_less (xa_W l K Z) := by
  intro d y pc ls st h mc ms Q ls' hl k p e R s m args below meth c A H locs cells slots ad sl C hc hs rp lv ok
  exact (k p e R s m args below meth c A H locs cells slots ad sl C hc hs rp (xa_lv_le lv hl) (ok))
set_option maxHeartbeats 2000000 in
theorem xs_wide : xr_wide (xa_W l K Z) := by
  intro d y pc ls st h mc ms Q mc' ms' h1 h2 k p e R s m args below meth c A H locs cells slots ad sl C hc hs rp lv ok
  exact xa_post (fun t q => xa_E.w (Nat.add_le_add_left h1 _) (Nat.add_le_add_left h2 _) q) (k p e R s m args below meth c A H locs cells slots ad sl C (Nat.le_trans (Nat.add_le_add_left h1 _) hc) (Nat.le_trans (Nat.add_le_add_left h2 _) hs) rp lv (ok))
set_option maxHeartbeats 2000000 in
theorem xs_get : xr_get K (xa_W l K Z) := by
  intro d y pc ls st h mc ms Q n' i ci k0 a fs v hd hf hh hv k p e R s m args below meth c A H locs cells slots ad sl C hc hs rp lv ok
  obtain ⟨hd, rfl⟩ := hd
  have ha : a < h.1 := ok _ List.mem_cons_self a rfl
  have hv' : (fs.map (xa_tr Z.2.2.1 ad))[k0]? = some (xa_tr Z.2.2.1 ad v) := by rw [List.getElem?_map, hv]; rfl
  have hw := xa_w_get (tys := Z.2.1) (tb := Z.2.2.1) (ad := ad) ha
  rw [hh] at hw
  have hok : xa_ok h.1 v := by
    have := rp.2.2.2 a ha
    rw [hh] at this
    exact this v (List.mem_of_getElem? hv)
  obtain ⟨Cn, T, N, ty0, hk, hkN, hl⟩ := hf
  rcases hl with hl | ⟨host, hl⟩
  · exact va_get (cl := K.2.1) C.1 C.2.1 (C.ts args) hk.2.1 C.o C.k rp.1 a hw hk.1 k0 hkN (C.ts args _ hl) (fun _ q => q) hv' hd (k p e R s m args below meth c A H locs cells slots ad sl C hc hs rp lv (xa_oks_c hok (xa_oks_t ok)))
  · exact va_getN (cl := K.2.1) C.1 C.2.1 (C.ts args) hk.2.1 C.o C.k rp.1 a hw hk.1 k0 hkN (C.ts args _ hl) (fun _ q => q) hv' hd (k p e R s m args below meth c A H locs cells slots ad sl C hc hs rp lv (xa_oks_c hok (xa_oks_t ok)))
set_option maxHeartbeats 2000000 in
theorem xs_put : xr_put K (xa_W l K Z) := by
  intro d y pc ls st h mc ms Q n' i ci k0 ty a fs v hd hf hh hl0 hfit k p e R s m args below meth c A H locs cells slots ad sl C hc hs rp lv ok
  obtain ⟨hd, rfl⟩ := hd
  have ha : a < h.1 := ok _ (List.mem_cons_of_mem _ List.mem_cons_self) a rfl
  have hw := xa_w_get (tys := Z.2.1) (tb := Z.2.2.1) (ad := ad) ha
  rw [hh] at hw
  have hokv : xa_ok h.1 v := xa_oks_h ok
  have hcl := rp.2.2.2
  have ecl : ∀ i, i < h.1 → xa_okE h.1 (xa_up h.2 a (.inr (ci, fs.set k0 v)) i) := fun i hi => by
    by_cases e : i = a
    · rw [e, xa_up_s]
      intro w hw
      rcases List.mem_or_eq_of_mem_set hw with q | q
      · have := hcl a ha
        rw [hh] at this
        exact this w q
      · rw [q]; exact hokv
    · rw [xa_up_n _ _ e]; exact hcl i hi
  have eset : (xa_w Z.2.1 Z.2.2.1 ad h).set a (ad a, .inr (ci, (fs.map (xa_tr Z.2.2.1 ad)).set k0 (xa_tr Z.2.2.1 ad v))) = xa_w Z.2.1 Z.2.2.1 ad (h.1, xa_up h.2 a (.inr (ci, fs.set k0 v))) := by
    rw [← xa_w_set]
    show _ = (xa_w Z.2.1 Z.2.2.1 ad h).set a (ad a, .inr (ci, (fs.set k0 v).map (xa_tr Z.2.2.1 ad)))
    rw [List.map_set]
  obtain ⟨Cn, T, N, ty0, hk, hkN, hty, hfin, hl⟩ := hf
  rcases hl with hl | ⟨host, hl⟩
  · exact va_put (cl := K.2.1) (A := A) C.1 C.2.1 (C.ts args) hk.2.1 ty0 hk.2.2.1 hk.2.2.2 C.o C.k rp.1 rp.2.1 rp.2.2.1 a hw hk.1 k0 hkN (C.ts args _ hl) (fun _ q => q) hfin ((hk.2.2.1 k0 hkN).trans (congrArg some hty)) (hfit _ _).1 (hfit _ _).2 (by rw [List.length_map]; exact hl0) hd (fun H1 locs1 hP1 hD1 hS1 => by
      rw [eset] at hP1 hD1
      exact (k p e R s m args below meth c A H1 locs1 cells slots ad sl C hc hs ⟨hP1, hD1, hS1, ecl⟩ lv (xa_oks_t (xa_oks_t ok))))
  · exact va_putN (cl := K.2.1) (A := A) C.1 C.2.1 (C.ts args) hk.2.1 ty0 hk.2.2.1 hk.2.2.2 C.o C.k rp.1 rp.2.1 rp.2.2.1 a hw hk.1 k0 hkN (C.ts args _ hl) (fun _ q => q) hfin ((hk.2.2.1 k0 hkN).trans (congrArg some hty)) (hfit _ _).1 (hfit _ _).2 (by rw [List.length_map]; exact hl0) hd (fun H1 locs1 hP1 hD1 hS1 => by
      rw [eset] at hP1 hD1
      exact (k p e R s m args below meth c A H1 locs1 cells slots ad sl C hc hs ⟨hP1, hD1, hS1, ecl⟩ lv (xa_oks_t (xa_oks_t ok))))
set_option maxHeartbeats 2000000 in
theorem xs_putF : xr_putF K (xa_W l K Z) := by
  intro d y pc ls st h mc ms Q n' i ci k0 ty a fs v hd hf hin hh hl0 hfit k p e R s m args below meth c A H locs cells slots ad sl C hc hs rp lv ok
  obtain ⟨hd, rfl⟩ := hd
  have ha : a < h.1 := ok _ (List.mem_cons_of_mem _ List.mem_cons_self) a rfl
  have hw := xa_w_get (tys := Z.2.1) (tb := Z.2.2.1) (ad := ad) ha
  rw [hh] at hw
  have hokv : xa_ok h.1 v := xa_oks_h ok
  have hcl := rp.2.2.2
  have ecl : ∀ i, i < h.1 → xa_okE h.1 (xa_up h.2 a (.inr (ci, fs.set k0 v)) i) := fun i hi => by
    by_cases e : i = a
    · rw [e, xa_up_s]
      intro w hw
      rcases List.mem_or_eq_of_mem_set hw with q | q
      · have := hcl a ha
        rw [hh] at this
        exact this w q
      · rw [q]; exact hokv
    · rw [xa_up_n _ _ e]; exact hcl i hi
  have eset : (xa_w Z.2.1 Z.2.2.1 ad h).set a (ad a, .inr (ci, (fs.map (xa_tr Z.2.2.1 ad)).set k0 (xa_tr Z.2.2.1 ad v))) = xa_w Z.2.1 Z.2.2.1 ad (h.1, xa_up h.2 a (.inr (ci, fs.set k0 v))) := by
    rw [← xa_w_set]
    show _ = (xa_w Z.2.1 Z.2.2.1 ad h).set a (ad a, .inr (ci, (fs.set k0 v).map (xa_tr Z.2.2.1 ad)))
    rw [List.map_set]
  obtain ⟨Cn, T, N, ty0, hk, hkN, hty, hfin, hdec, hl⟩ := hf
  exact va_putF (cl := K.2.1) (A := A) C.1 C.2.1 (C.ts args) hk.2.1 ty0 hk.2.2.1 hk.2.2.2 C.o C.k rp.1 rp.2.1 rp.2.2.1 a hw hk.1 k0 hkN (C.ts args _ hl) (fun _ q => q) hfin (C.2.2.2.2.2.1.trans hin) hdec ((hk.2.2.1 k0 hkN).trans (congrArg some hty)) (hfit _ _).1 (hfit _ _).2 (by rw [List.length_map]; exact hl0) hd (fun H1 locs1 hP1 hD1 hS1 => by
      rw [eset] at hP1 hD1
      exact (k p e R s m args below meth c A H1 locs1 cells slots ad sl C hc hs ⟨hP1, hD1, hS1, ecl⟩ lv (xa_oks_t (xa_oks_t ok))))
set_option maxHeartbeats 2000000 in
theorem xs_iaload : xr_iaload K (xa_W l K Z) := by
  intro d y pc ls st h mc ms Q n' a n f i hd hh hi k p e R s m args below meth c A H locs cells slots ad sl C hc hs rp lv ok
  obtain ⟨hd, rfl⟩ := hd
  have ha : a < h.1 := ok _ (List.mem_cons_of_mem _ List.mem_cons_self) a rfl
  have hw := xa_w_get (tys := Z.2.1) (tb := Z.2.2.1) (ad := ad) ha
  rw [hh] at hw
  exact va_iald (cl := K.2.1) C.1 C.2.1 C.k rp.1 a 0 hw (C.ty rfl) hi hd (k p e R s m args below meth c A H locs cells slots ad sl C hc hs rp lv (xa_oks_c (fun _ q => by cases q) (xa_oks_t (xa_oks_t ok))))
set_option maxHeartbeats 2000000 in
theorem xs_baload : xr_baload K (xa_W l K Z) := by
  intro d y pc ls st h mc ms Q n' a n f i hd hh hi k p e R s m args below meth c A H locs cells slots ad sl C hc hs rp lv ok
  obtain ⟨hd, rfl⟩ := hd
  have ha : a < h.1 := ok _ (List.mem_cons_of_mem _ List.mem_cons_self) a rfl
  have hw := xa_w_get (tys := Z.2.1) (tb := Z.2.2.1) (ad := ad) ha
  rw [hh] at hw
  exact va_zald (cl := K.2.1) C.1 C.2.1 C.k rp.1 a 1 hw (C.ty rfl) hi hd (k p e R s m args below meth c A H locs cells slots ad sl C hc hs rp lv (xa_oks_c (fun _ q => by cases q) (xa_oks_t (xa_oks_t ok))))
set_option maxHeartbeats 2000000 in
theorem xs_laload : xr_laload K (xa_W l K Z) := by
  intro d y pc ls st h mc ms Q n' a n f i hd hh hi k p e R s m args below meth c A H locs cells slots ad sl C hc hs rp lv ok
  obtain ⟨hd, rfl⟩ := hd
  have ha : a < h.1 := ok _ (List.mem_cons_of_mem _ List.mem_cons_self) a rfl
  have hw := xa_w_get (tys := Z.2.1) (tb := Z.2.2.1) (ad := ad) ha
  rw [hh] at hw
  exact va_lald (cl := K.2.1) C.1 C.2.1 C.k rp.1 a 2 hw (C.ty rfl) hi hd (k p e R s m args below meth c A H locs cells slots ad sl C hc hs rp lv (xa_oks_c (fun _ q => by cases q) (xa_oks_t (xa_oks_t ok))))
set_option maxHeartbeats 2000000 in
theorem xs_aaload : xr_aaload K (xa_W l K Z) := by
  intro d y pc ls st h mc ms Q n' a n f i b hd hh hi hb k p e R s m args below meth c A H locs cells slots ad sl C hc hs rp lv ok
  obtain ⟨hd, rfl⟩ := hd
  have ha : a < h.1 := ok _ (List.mem_cons_of_mem _ List.mem_cons_self) a rfl
  have hw := xa_w_get (tys := Z.2.1) (tb := Z.2.2.1) (ad := ad) ha
  rw [hh] at hw
  have hok : xa_ok h.1 (.ref b) := by
    have := rp.2.2.2 a ha
    rw [hh] at this
    exact xa_ok_r (this _ _ hb)
  refine va_aldq (cl := K.2.1) C.1 C.2.1 C.k rp.1 a 3 hw (C.ty rfl) hi hd ?_
  show W p l e R s m args below meth c H locs cells slots _ (F0 m (pc + 1) sl (va_rf ((f i.toNatClampNeg).map ad) :: st.map (xa_tr Z.2.2.1 ad)))
  rw [hb]
  exact (k p e R s m args below meth c A H locs cells slots ad sl C hc hs rp lv (xa_oks_c hok (xa_oks_t (xa_oks_t ok))))
set_option maxHeartbeats 2000000 in
theorem xs_iastore : xr_iastore K (xa_W l K Z) := by
  intro d y pc ls st h mc ms Q n' a n f i x hd hh hi k p e R s m args below meth c A H locs cells slots ad sl C hc hs rp lv ok
  obtain ⟨hd, rfl⟩ := hd
  have ha : a < h.1 := ok _ (List.mem_cons_of_mem _ (List.mem_cons_of_mem _ List.mem_cons_self)) a rfl
  have hw := xa_w_get (tys := Z.2.1) (tb := Z.2.2.1) (ad := ad) ha
  rw [hh] at hw
  have hcl := rp.2.2.2
  have ecl : ∀ j, j < h.1 → xa_okE h.1 (xa_up h.2 a (.inl (0, n, .inl (upd f i.toNatClampNeg x))) j) := fun j hj => by
    by_cases e : j = a
    · rw [e, xa_up_s]; trivial
    · rw [xa_up_n _ _ e]; exact hcl j hj
  exact va_iast (cl := K.2.1) (A := A) C.1 C.2.1 C.k rp.1 rp.2.1 rp.2.2.1 a 0 hw (C.ty rfl) hi hd (fun H1 locs1 hP1 hD1 hS1 => by
    have eset : (xa_w Z.2.1 Z.2.2.1 ad h).set a (ad a, .inl ((Z.2.1.getD 0 (0, .int)).1, n, .inl (upd f i.toNatClampNeg x))) = xa_w Z.2.1 Z.2.2.1 ad (h.1, xa_up h.2 a (.inl (0, n, .inl (upd f i.toNatClampNeg x)))) := by
      rw [← xa_w_set]; rfl
    rw [eset] at hP1 hD1
    exact (k p e R s m args below meth c A H1 locs1 cells slots ad sl C hc hs ⟨hP1, hD1, hS1, ecl⟩ lv (xa_oks_t (xa_oks_t (xa_oks_t ok)))))
set_option maxHeartbeats 2000000 in
theorem xs_bastore : xr_bastore K (xa_W l K Z) := by
  intro d y pc ls st h mc ms Q n' a n f i x hd hh hi k p e R s m args below meth c A H locs cells slots ad sl C hc hs rp lv ok
  obtain ⟨hd, rfl⟩ := hd
  have ha : a < h.1 := ok _ (List.mem_cons_of_mem _ (List.mem_cons_of_mem _ List.mem_cons_self)) a rfl
  have hw := xa_w_get (tys := Z.2.1) (tb := Z.2.2.1) (ad := ad) ha
  rw [hh] at hw
  have hcl := rp.2.2.2
  have ecl : ∀ j, j < h.1 → xa_okE h.1 (xa_up h.2 a (.inl (1, n, .inl (upd f i.toNatClampNeg (vp_nar .boolean x)))) j) := fun j hj => by
    by_cases e : j = a
    · rw [e, xa_up_s]; trivial
    · rw [xa_up_n _ _ e]; exact hcl j hj
  exact va_zast (cl := K.2.1) (A := A) C.1 C.2.1 C.k rp.1 rp.2.1 rp.2.2.1 a 1 hw (C.ty rfl) hi hd (fun H1 locs1 hP1 hD1 hS1 => by
    have eset : (xa_w Z.2.1 Z.2.2.1 ad h).set a (ad a, .inl ((Z.2.1.getD 1 (0, .int)).1, n, .inl (upd f i.toNatClampNeg (vp_nar .boolean x)))) = xa_w Z.2.1 Z.2.2.1 ad (h.1, xa_up h.2 a (.inl (1, n, .inl (upd f i.toNatClampNeg (vp_nar .boolean x))))) := by
      rw [← xa_w_set]; rfl
    rw [eset] at hP1 hD1
    exact (k p e R s m args below meth c A H1 locs1 cells slots ad sl C hc hs ⟨hP1, hD1, hS1, ecl⟩ lv (xa_oks_t (xa_oks_t (xa_oks_t ok)))))
set_option maxHeartbeats 2000000 in
theorem xs_lastore : xr_lastore K (xa_W l K Z) := by
  intro d y pc ls st h mc ms Q n' a n f i x hd hh hi k p e R s m args below meth c A H locs cells slots ad sl C hc hs rp lv ok
  obtain ⟨hd, rfl⟩ := hd
  have ha : a < h.1 := ok _ (List.mem_cons_of_mem _ (List.mem_cons_of_mem _ List.mem_cons_self)) a rfl
  have hw := xa_w_get (tys := Z.2.1) (tb := Z.2.2.1) (ad := ad) ha
  rw [hh] at hw
  have hcl := rp.2.2.2
  have ecl : ∀ j, j < h.1 → xa_okE h.1 (xa_up h.2 a (.inl (2, n, .inr (.inl (vp_updL f i.toNatClampNeg x)))) j) := fun j hj => by
    by_cases e : j = a
    · rw [e, xa_up_s]; trivial
    · rw [xa_up_n _ _ e]; exact hcl j hj
  exact va_last (cl := K.2.1) (A := A) C.1 C.2.1 C.k rp.1 rp.2.1 rp.2.2.1 a 2 hw (C.ty rfl) hi hd (fun H1 locs1 hP1 hD1 hS1 => by
    have eset : (xa_w Z.2.1 Z.2.2.1 ad h).set a (ad a, .inl ((Z.2.1.getD 2 (0, .int)).1, n, .inr (.inl (vp_updL f i.toNatClampNeg x)))) = xa_w Z.2.1 Z.2.2.1 ad (h.1, xa_up h.2 a (.inl (2, n, .inr (.inl (vp_updL f i.toNatClampNeg x))))) := by
      rw [← xa_w_set]; rfl
    rw [eset] at hP1 hD1
    exact (k p e R s m args below meth c A H1 locs1 cells slots ad sl C hc hs ⟨hP1, hD1, hS1, ecl⟩ lv (xa_oks_t (xa_oks_t (xa_oks_t ok)))))
set_option maxHeartbeats 2000000 in
theorem xs_aastore : xr_aastore K (xa_W l K Z) := by
  intro d y pc ls st h mc ms Q n' a n f i b ci fs hd hh hi hb hg k p e R s m args below meth c A H locs cells slots ad sl C hc hs rp lv ok
  obtain ⟨hd, rfl⟩ := hd
  have hb1 : b < h.1 := ok _ List.mem_cons_self b rfl
  have ha : a < h.1 := ok _ (List.mem_cons_of_mem _ (List.mem_cons_of_mem _ List.mem_cons_self)) a rfl
  have hw := xa_w_get (tys := Z.2.1) (tb := Z.2.2.1) (ad := ad) ha
  rw [hh] at hw
  have hwb := xa_w_get (tys := Z.2.1) (tb := Z.2.2.1) (ad := ad) hb1
  rw [hb] at hwb
  have hcl := rp.2.2.2
  have ecl : ∀ j, j < h.1 → xa_okE h.1 (xa_up h.2 a (.inl (3, n, .inr (.inr (.inr (.inr (va_up f i.toNatClampNeg (some b))))))) j) := fun j hj => by
    by_cases e : j = a
    · rw [e, xa_up_s]
      intro j2 a2 q
      have h9 := hcl a ha
      rw [hh] at h9
      by_cases e2 : j2 = i.toNatClampNeg
      · rw [e2, va_up_self] at q
        cases q
        exact hb1
      · rw [va_up_ne _ _ e2] at q
        exact h9 _ _ q
    · rw [xa_up_n _ _ e]; exact hcl j hj
  obtain ⟨T, N, hg⟩ := hg
  exact va_astq (cl := K.2.1) (A := A) (r := (K.2.2.2.2.2, T, N)) C.1 C.2.1 C.k rp.1 rp.2.1 rp.2.2.1 a 3 b ci hw (C.ty rfl) hwb hg hi hd (fun H1 locs1 hP1 hD1 hS1 => by
    have efun : va_up (fun j => (f j).map ad) i.toNatClampNeg (some (ad b)) = fun j => (va_up f i.toNatClampNeg (some b) j).map ad := by
      funext j
      by_cases e : j = i.toNatClampNeg
      · rw [e, va_up_self, va_up_self]; rfl
      · rw [va_up_ne _ _ e, va_up_ne _ _ e]
    have eset : (xa_w Z.2.1 Z.2.2.1 ad h).set a (ad a, .inl ((Z.2.1.getD 3 (0, .int)).1, n, .inr (.inr (.inr (.inr (va_up (fun j => (f j).map ad) i.toNatClampNeg (some (ad b)))))))) = xa_w Z.2.1 Z.2.2.1 ad (h.1, xa_up h.2 a (.inl (3, n, .inr (.inr (.inr (.inr (va_up f i.toNatClampNeg (some b)))))))) := by
      rw [← xa_w_set, efun]; rfl
    rw [eset] at hP1 hD1
    exact (k p e R s m args below meth c A H1 locs1 cells slots ad sl C hc hs ⟨hP1, hD1, hS1, ecl⟩ lv (xa_oks_t (xa_oks_t (xa_oks_t ok)))))
set_option maxHeartbeats 2000000 in
theorem xs_tload : xr_tload K Z.2.2.2 (xa_W l K Z) := by
  intro d y pc ls st h mc ms Q n' j i hd hj hi k p e R s m args below meth c A H locs cells slots ad sl C hc hs rp lv ok
  obtain ⟨hd, rfl⟩ := hd
  exact va_ti C.1 C.2.1 (C.g.2.2.2.1 j hj) rp.2.2.1 hi rfl hd (k p e R s m args below meth c A H locs cells slots ad sl C hc hs rp lv (xa_oks_i (xa_oks_t (xa_oks_t ok))))
set_option maxHeartbeats 2000000 in
theorem xs_tlen : xr_tlen K Z.2.2.2 (xa_W l K Z) := by
  intro d y pc ls st h mc ms Q n' j v hd hj hv k p e R s m args below meth c A H locs cells slots ad sl C hc hs rp lv ok
  obtain ⟨hd, rfl⟩ := hd
  exact va_tlen C.1 C.2.1 (C.g.2.2.2.1 j hj) rp.2.2.1 hv hd (k p e R s m args below meth c A H locs cells slots ad sl C hc hs rp lv (xa_oks_i (xa_oks_t ok)))
set_option maxHeartbeats 2000000 in
theorem xs_gets : xr_gets K (xa_W l K Z) := by
  intro d y pc ls st h mc ms Q n' i hd hl k p e R s m args below meth c A H locs cells slots ad sl C hc hs rp lv ok
  obtain ⟨hd, rfl⟩ := hd
  rcases hl with hl | ⟨host, hl⟩
  · exact va_gets C.1 C.2.1 C.g.2.2.2.2 rp.2.2.1 C.o (C.ts args _ hl) (fun _ q => q) hd (k p e R s m args below meth c A H locs cells slots ad sl C hc hs rp lv (xa_oks_c xa_ok_t ok))
  · exact va_getsN C.1 C.2.1 C.g.2.2.2.2 rp.2.2.1 C.o (C.ts args _ hl) (fun _ q => q) hd (k p e R s m args below meth c A H locs cells slots ad sl C hc hs rp lv (xa_oks_c xa_ok_t ok))
set_option maxHeartbeats 2000000 in
theorem xs_iret : xr_iret K (xa_W l K Z) := by
  intro d y pc ls st h mc ms Q n' v ty hd hr hn hq p e R s m args below meth c A H locs cells slots ad sl C hc hs rp lv ok
  obtain ⟨hd, rfl⟩ := hd
  exact xa_post (xa_end C hc hs rp (v := some (.int v)) hq (fun w e => by cases e; exact xa_ok_i)) (W.zret (Qc := fun _ _ o t => o = .returned (some (.int v)) ∧ t.heap = H) (free := A) C.1 C.2.1 (C.2.2.2.1.trans hr) hn (fun t ht _ => ⟨rfl, ht⟩) rp.2.2.1.2.2 hd C.l)
set_option maxHeartbeats 2000000 in
theorem xs_vret : xr_vret K (xa_W l K Z) := by
  intro d y pc ls st h mc ms Q n' hd hr hq p e R s m args below meth c A H locs cells slots ad sl C hc hs rp lv ok
  obtain ⟨hd, rfl⟩ := hd
  exact xa_post (xa_end C hc hs rp (v := none) hq (fun w e => by cases e)) (W.vret (Qc := fun _ _ o t => o = .returned none ∧ t.heap = H) (free := A) C.1 C.2.1 (C.2.2.2.1.trans hr) (fun t ht _ => ⟨rfl, ht⟩) rp.2.2.1.2.2 hd C.l)
set_option maxHeartbeats 2000000 in
theorem xs_aret : xr_aret K (xa_W l K Z) := by
  intro d y pc ls st h mc ms Q n' a ty hd hr hty hq p e R s m args below meth c A H locs cells slots ad sl C hc hs rp lv ok
  obtain ⟨hd, rfl⟩ := hd
  exact xa_post (xa_end C hc hs rp (v := some (.ref a)) hq (fun w e => by cases e; exact xa_oks_h ok)) (W.aret (Qc := fun _ _ o t => o = .returned (some (.ref (ad a))) ∧ t.heap = H) (free := A) C.1 C.2.1 (C.2.2.2.1.trans hr) hty (Or.inr ⟨_, rfl⟩) (fun t ht _ => ⟨rfl, ht⟩) rp.2.2.1.2.2 hd C.l)
set_option maxHeartbeats 2000000 in
theorem xs_oinit : xr_oinit K (xa_W l K Z) := by
  intro d y pc ls st h mc ms Q n' i a hd h1 h2 h3 hw k p e R s m args below meth c A H locs cells slots ad sl C hc hs rp lv ok
  obtain ⟨hd, rfl⟩ := hd
  refine W.objInit C.1 C.2.1 C.o (C.ts args _ h1) (C.ts args _ h2) (C.ts args _ h3) rfl (lv.1.1.trans C.2.2.1.symm) rfl hd (by have := C.rm.1; omega) (by have := C.rm.2; rw [xa_sum]; simp only [JFrame.monitorRoom]; omega) ?_
  exact (k p e R s m args below meth c A H locs cells slots ad sl C hc hs rp lv (xa_oks_t ok))
set_option maxHeartbeats 2000000 in
theorem xs_new : xr_new K (xa_W l K Z) := by
  intro d y pc ls st h mc ms Q n' i ci N fs hd hn k p e R s m args below meth c A H locs cells slots ad sl C hc hs rp lv ok
  obtain ⟨hd, rfl⟩ := hd
  obtain ⟨Cn, T, ty0, hk, hcl, hinst, hini, hfs, hnr⟩ := hn
  refine xa_post (fun t q => q) (va_new (cl := K.2.1) (A := A) C.1 C.2.1 (C.ts args) hk.2.1 ty0 hk.2.2.1 C.o (C.ts args _ hcl) (C.ts args _ hinst) (C.ts args _ hini) C.k rp.1 rp.2.1 rp.2.2.1 C.a hk.1 hfs (by omega) (by omega) hd (fun q H1 hP1 hD1 hS1 => ?_))
  have e1 : fs.map (xa_tr Z.2.2.1 (xa_up ad h.1 q)) = fs := xa_norefs hnr
  have ew := xa_w_push (tys := Z.2.1) (tb := Z.2.2.1) (ad := ad) (h := h) (q := q) (e := .inr (ci, fs)) rp.2.2.2
  rw [show xa_trE Z.2.1 Z.2.2.1 (xa_up ad h.1 q) (.inr (ci, fs)) = .inr (ci, fs) from congrArg (fun z => (Sum.inr (ci, z) : va_E)) e1] at ew
  rw [ew] at hP1 hD1
  have hag : ∀ j, j < h.1 → xa_up ad h.1 q j = ad j := fun j hj => xa_up_n ad q (Nat.ne_of_lt hj)
  refine xa_post (fun t z => xa_E.m (ad := ad) (n := h.1) (Nat.le_succ _) hag (xa_E.c (mc' := cells + 1 + mc) (ms' := slots + N + ms) (by omega) (by omega) z)) ?_
  have kk := k p e R s m args below meth c A H1 locs (cells + 1) (slots + N) (xa_up ad h.1 q) sl C (by omega) (by omega) ⟨hP1, hD1, hS1, xa_okpush rp.2.2.2 (fun v hv => xa_ok_of_norefs hnr v hv)⟩ (xa_lv_m lv (Nat.le_succ _) hag) (xa_oks_c (xa_ok_r (Nat.lt_succ_self _)) (xa_oks_m (Nat.le_succ _) ok))
  have e2 : (Value.ref h.1 :: st).map (xa_tr Z.2.2.1 (xa_up ad h.1 q)) = .ref q :: st.map (xa_tr Z.2.2.1 ad) := by
    show Value.ref (xa_up ad h.1 q h.1) :: st.map (xa_tr Z.2.2.1 (xa_up ad h.1 q)) = _
    rw [xa_up_s, xa_trs_ag hag ok]
  rw [e2] at kk
  exact kk
set_option maxHeartbeats 2000000 in
theorem xs_newI : xr_newI K (xa_W l K Z) := by
  intro d y pc ls st h mc ms Q n' n N hd hw hn0 hN hb k p e R s m args below meth c A H locs cells slots ad sl C hc hs rp lv ok
  obtain ⟨hd, rfl⟩ := hd
  have hty := C.ty (t := 0) rfl
  refine va_newaK C.1 C.2.1 (atype := .int) (C.ts args _ hw) rfl hd rfl hn0 hN hb (by omega) (by omega) rfl (fun H1 cA e1 z1 o1 hAr hNm => ?_)
  have ecA : cA = (Z.2.1.getD 0 (0, .int)).1 := Option.some.inj (hNm.symm.trans (C.k.2 0 _ hty).2)
  have hk9 : ∀ (j : Nat) (x : Nat × va_E), (xa_w Z.2.1 Z.2.2.1 ad h)[j]? = some x → H1[x.1]? = H[x.1]? := fun j x hx => o1 x.1 ((rp.1 j x hx).lt)
  have hP1 : va_P Z.1 K.2.1 (xa_w Z.2.1 Z.2.2.1 ad h ++ [(H.size, .inl (cA, N, .inl (fun _ => 0)))]) H1 := (rp.1.kept hk9).app (fun j x hx => by
    have hz : j < 1 := (List.getElem?_eq_some_iff.mp hx).1
    rw [show j = 0 by omega] at hx
    cases hx
    show H1[H.size]? = some (vp_cell cA (N, .inl (fun _ => 0)))
    rw [e1]; rfl)
  have hD1 : va_D A (xa_w Z.2.1 Z.2.2.1 ad h ++ [(H.size, .inl (cA, N, .inl (fun _ => 0)))]) := rp.2.1.push rp.1 rfl (C.a _ rp.2.2.1.1)
  have hS1 : va_S A s.heap H1 locs := ⟨Nat.le_trans rp.2.2.1.1 (by omega), fun x h1 h2 => (o1 x (Nat.lt_of_lt_of_le h1 rp.2.2.1.1)).trans (rp.2.2.1.2.1 x h1 h2), rp.2.2.1.2.2⟩
  have ew := xa_w_push (tys := Z.2.1) (tb := Z.2.2.1) (ad := ad) (h := h) (q := H.size) (e := .inl (0, N, .inl (fun _ => 0))) rp.2.2.2
  rw [show xa_trE Z.2.1 Z.2.2.1 (xa_up ad h.1 H.size) (.inl (0, N, .inl (fun _ => 0))) = .inl (cA, N, .inl (fun _ => 0)) by rw [ecA]; rfl] at ew
  rw [ew] at hP1 hD1
  have hag : ∀ j, j < h.1 → xa_up ad h.1 H.size j = ad j := fun j hj => xa_up_n ad H.size (Nat.ne_of_lt hj)
  refine xa_post (fun t z => xa_E.m (ad := ad) (n := h.1) (Nat.le_succ _) hag (xa_E.c (mc' := cells + 1 + mc) (ms' := slots + N + ms) (by omega) (by omega) z)) ?_
  have kk := k p e R s m args below meth c A H1 locs (cells + 1) (slots + N) (xa_up ad h.1 H.size) sl C (by omega) (by omega) ⟨hP1, hD1, hS1, xa_okpushA rp.2.2.2 trivial⟩ (xa_lv_m lv (Nat.le_succ _) hag) (xa_oks_c (xa_ok_r (Nat.lt_succ_self _)) (xa_oks_m (Nat.le_succ _) (xa_oks_t ok)))
  have e2 : (Value.ref h.1 :: st).map (xa_tr Z.2.2.1 (xa_up ad h.1 H.size)) = .ref H.size :: st.map (xa_tr Z.2.2.1 ad) := by
    show Value.ref (xa_up ad h.1 H.size h.1) :: st.map (xa_tr Z.2.2.1 (xa_up ad h.1 H.size)) = _
    rw [xa_up_s, xa_trs_ag hag (xa_oks_t ok)]
  rw [e2] at kk
  exact kk
set_option maxHeartbeats 2000000 in
theorem xs_newZ : xr_newZ K (xa_W l K Z) := by
  intro d y pc ls st h mc ms Q n' n N hd hw hn0 hN hb k p e R s m args below meth c A H locs cells slots ad sl C hc hs rp lv ok
  obtain ⟨hd, rfl⟩ := hd
  have hty := C.ty (t := 1) rfl
  refine va_newaK C.1 C.2.1 (atype := .boolean) (C.ts args _ hw) rfl hd rfl hn0 hN hb (by omega) (by omega) rfl (fun H1 cA e1 z1 o1 hAr hNm => ?_)
  have ecA : cA = (Z.2.1.getD 1 (0, .int)).1 := Option.some.inj (hNm.symm.trans (C.k.2 1 _ hty).2)
  have hk9 : ∀ (j : Nat) (x : Nat × va_E), (xa_w Z.2.1 Z.2.2.1 ad h)[j]? = some x → H1[x.1]? = H[x.1]? := fun j x hx => o1 x.1 ((rp.1 j x hx).lt)
  have hP1 : va_P Z.1 K.2.1 (xa_w Z.2.1 Z.2.2.1 ad h ++ [(H.size, .inl (cA, N, .inl (fun _ => 0)))]) H1 := (rp.1.kept hk9).app (fun j x hx => by
    have hz : j < 1 := (List.getElem?_eq_some_iff.mp hx).1
    rw [show j = 0 by omega] at hx
    cases hx
    show H1[H.size]? = some (vp_cell cA (N, .inl (fun _ => 0)))
    rw [e1]; rfl)
  have hD1 : va_D A (xa_w Z.2.1 Z.2.2.1 ad h ++ [(H.size, .inl (cA, N, .inl (fun _ => 0)))]) := rp.2.1.push rp.1 rfl (C.a _ rp.2.2.1.1)
  have hS1 : va_S A s.heap H1 locs := ⟨Nat.le_trans rp.2.2.1.1 (by omega), fun x h1 h2 => (o1 x (Nat.lt_of_lt_of_le h1 rp.2.2.1.1)).trans (rp.2.2.1.2.1 x h1 h2), rp.2.2.1.2.2⟩
  have ew := xa_w_push (tys := Z.2.1) (tb := Z.2.2.1) (ad := ad) (h := h) (q := H.size) (e := .inl (1, N, .inl (fun _ => 0))) rp.2.2.2
  rw [show xa_trE Z.2.1 Z.2.2.1 (xa_up ad h.1 H.size) (.inl (1, N, .inl (fun _ => 0))) = .inl (cA, N, .inl (fun _ => 0)) by rw [ecA]; rfl] at ew
  rw [ew] at hP1 hD1
  have hag : ∀ j, j < h.1 → xa_up ad h.1 H.size j = ad j := fun j hj => xa_up_n ad H.size (Nat.ne_of_lt hj)
  refine xa_post (fun t z => xa_E.m (ad := ad) (n := h.1) (Nat.le_succ _) hag (xa_E.c (mc' := cells + 1 + mc) (ms' := slots + N + ms) (by omega) (by omega) z)) ?_
  have kk := k p e R s m args below meth c A H1 locs (cells + 1) (slots + N) (xa_up ad h.1 H.size) sl C (by omega) (by omega) ⟨hP1, hD1, hS1, xa_okpushA rp.2.2.2 trivial⟩ (xa_lv_m lv (Nat.le_succ _) hag) (xa_oks_c (xa_ok_r (Nat.lt_succ_self _)) (xa_oks_m (Nat.le_succ _) (xa_oks_t ok)))
  have e2 : (Value.ref h.1 :: st).map (xa_tr Z.2.2.1 (xa_up ad h.1 H.size)) = .ref H.size :: st.map (xa_tr Z.2.2.1 ad) := by
    show Value.ref (xa_up ad h.1 H.size h.1) :: st.map (xa_tr Z.2.2.1 (xa_up ad h.1 H.size)) = _
    rw [xa_up_s, xa_trs_ag hag (xa_oks_t ok)]
  rw [e2] at kk
  exact kk
set_option maxHeartbeats 2000000 in
theorem xs_newL : xr_newL K (xa_W l K Z) := by
  intro d y pc ls st h mc ms Q n' n N hd hw hn0 hN hb k p e R s m args below meth c A H locs cells slots ad sl C hc hs rp lv ok
  obtain ⟨hd, rfl⟩ := hd
  have hty := C.ty (t := 2) rfl
  refine va_newaK C.1 C.2.1 (atype := .long) (C.ts args _ hw) rfl hd rfl hn0 hN hb (by omega) (by omega) rfl (fun H1 cA e1 z1 o1 hAr hNm => ?_)
  have ecA : cA = (Z.2.1.getD 2 (0, .int)).1 := Option.some.inj (hNm.symm.trans (C.k.2 2 _ hty).2)
  have hk9 : ∀ (j : Nat) (x : Nat × va_E), (xa_w Z.2.1 Z.2.2.1 ad h)[j]? = some x → H1[x.1]? = H[x.1]? := fun j x hx => o1 x.1 ((rp.1 j x hx).lt)
  have hP1 : va_P Z.1 K.2.1 (xa_w Z.2.1 Z.2.2.1 ad h ++ [(H.size, .inl (cA, N, .inr (.inl (fun _ => 0))))]) H1 := (rp.1.kept hk9).app (fun j x hx => by
    have hz : j < 1 := (List.getElem?_eq_some_iff.mp hx).1
    rw [show j = 0 by omega] at hx
    cases hx
    show H1[H.size]? = some (vp_cell cA (N, .inr (.inl (fun _ => 0))))
    rw [e1]; rfl)
  have hD1 : va_D A (xa_w Z.2.1 Z.2.2.1 ad h ++ [(H.size, .inl (cA, N, .inr (.inl (fun _ => 0))))]) := rp.2.1.push rp.1 rfl (C.a _ rp.2.2.1.1)
  have hS1 : va_S A s.heap H1 locs := ⟨Nat.le_trans rp.2.2.1.1 (by omega), fun x h1 h2 => (o1 x (Nat.lt_of_lt_of_le h1 rp.2.2.1.1)).trans (rp.2.2.1.2.1 x h1 h2), rp.2.2.1.2.2⟩
  have ew := xa_w_push (tys := Z.2.1) (tb := Z.2.2.1) (ad := ad) (h := h) (q := H.size) (e := .inl (2, N, .inr (.inl (fun _ => 0)))) rp.2.2.2
  rw [show xa_trE Z.2.1 Z.2.2.1 (xa_up ad h.1 H.size) (.inl (2, N, .inr (.inl (fun _ => 0)))) = .inl (cA, N, .inr (.inl (fun _ => 0))) by rw [ecA]; rfl] at ew
  rw [ew] at hP1 hD1
  have hag : ∀ j, j < h.1 → xa_up ad h.1 H.size j = ad j := fun j hj => xa_up_n ad H.size (Nat.ne_of_lt hj)
  refine xa_post (fun t z => xa_E.m (ad := ad) (n := h.1) (Nat.le_succ _) hag (xa_E.c (mc' := cells + 1 + mc) (ms' := slots + N + ms) (by omega) (by omega) z)) ?_
  have kk := k p e R s m args below meth c A H1 locs (cells + 1) (slots + N) (xa_up ad h.1 H.size) sl C (by omega) (by omega) ⟨hP1, hD1, hS1, xa_okpushA rp.2.2.2 trivial⟩ (xa_lv_m lv (Nat.le_succ _) hag) (xa_oks_c (xa_ok_r (Nat.lt_succ_self _)) (xa_oks_m (Nat.le_succ _) (xa_oks_t ok)))
  have e2 : (Value.ref h.1 :: st).map (xa_tr Z.2.2.1 (xa_up ad h.1 H.size)) = .ref H.size :: st.map (xa_tr Z.2.2.1 ad) := by
    show Value.ref (xa_up ad h.1 H.size h.1) :: st.map (xa_tr Z.2.2.1 (xa_up ad h.1 H.size)) = _
    rw [xa_up_s, xa_trs_ag hag (xa_oks_t ok)]
  rw [e2] at kk
  exact kk
set_option maxHeartbeats 2000000 in
theorem xs_newQ : xr_newQ K (xa_W l K Z) := by
  intro d y pc ls st h mc ms Q n' i n N hd hw hw2 hn0 hN hb k p e R s m args below meth c A H locs cells slots ad sl C hc hs rp lv ok
  obtain ⟨hd, rfl⟩ := hd
  have hty := C.ty (t := 3) rfl
  refine va_newq (cl := K.2.1) (A := A) C.1 C.2.1 C.o (C.ts args _ hw) (va_AO.of (C.ts args _ hw2)) C.k rp.1 rp.2.1 rp.2.2.1 C.a hn0 hN hb (by omega) (by omega) hd (fun q cA H1 hK1 hP1 hD1 hS1 => ?_)
  have ecA : cA = (Z.2.1.getD 3 (0, .int)).1 := by
    have h1 := (hK1.2 Z.2.1.length (cA, .object K.2.2.2.2.2) (by simp)).2
    have h2 := (C.k.2 3 _ hty).2
    obtain ⟨_, _, _, _, _, h3⟩ := h1
    obtain ⟨_, _, _, _, _, h4⟩ := h2
    exact Option.some.inj (h3.symm.trans h4)
  have ew := xa_w_push (tys := Z.2.1) (tb := Z.2.2.1) (ad := ad) (h := h) (q := q) (e := .inl (3, N, .inr (.inr (.inr (.inr (fun _ => none)))))) rp.2.2.2
  rw [show xa_trE Z.2.1 Z.2.2.1 (xa_up ad h.1 q) (.inl (3, N, .inr (.inr (.inr (.inr (fun _ => none)))))) = .inl (cA, N, .inr (.inr (.inr (.inr (fun _ => none))))) by rw [ecA]; rfl] at ew
  rw [ew] at hP1 hD1
  have hag : ∀ j, j < h.1 → xa_up ad h.1 q j = ad j := fun j hj => xa_up_n ad q (Nat.ne_of_lt hj)
  refine xa_post (fun t z => xa_E.m (ad := ad) (n := h.1) (Nat.le_succ _) hag (xa_E.c (mc' := cells + 1 + mc) (ms' := slots + N + ms) (by omega) (by omega) z)) ?_
  have kk := k p e R s m args below meth c A H1 locs (cells + 1) (slots + N) (xa_up ad h.1 q) sl C (by omega) (by omega) ⟨hP1, hD1, hS1, xa_okpushA rp.2.2.2 (fun j a z => by cases z)⟩ (xa_lv_m lv (Nat.le_succ _) hag) (xa_oks_c (xa_ok_r (Nat.lt_succ_self _)) (xa_oks_m (Nat.le_succ _) (xa_oks_t ok)))
  have e2 : (Value.ref h.1 :: st).map (xa_tr Z.2.2.1 (xa_up ad h.1 q)) = .ref q :: st.map (xa_tr Z.2.2.1 ad) := by
    show Value.ref (xa_up ad h.1 q h.1) :: st.map (xa_tr Z.2.2.1 (xa_up ad h.1 q)) = _
    rw [xa_up_s, xa_trs_ag hag (xa_oks_t ok)]
  rw [e2] at kk
  exact kk
set_option maxHeartbeats 2000000 in
theorem xs_callV : xr_callV K (xa_W l K Z) := by
  intro d y pc ls st h mc ms Q n' i y' ci fs a As mc' ms' P hd hl hh hca hw hP k1 k2 p e R s m args below meth c A H locs cells slots ad sl C hc hs rp lv ok
  obtain ⟨hd, rfl⟩ := hd
  exact xa_sV hd hl hh hca hw hP k1 k2 C hc hs rp lv ok
set_option maxHeartbeats 2000000 in
theorem xs_callS : xr_callS K (xa_W l K Z) := by
  intro d y pc ls st h mc ms Q n' i y' As mc' ms' P hd hl hca hw hP k1 k2 p e R s m args below meth c A H locs cells slots ad sl C hc hs rp lv ok
  obtain ⟨hd, rfl⟩ := hd
  exact xa_sS hd hl hca hw hP k1 k2 C hc hs rp lv ok
set_option maxHeartbeats 2000000 in
theorem xs_callI : xr_callI K (xa_W l K Z) := by
  intro d y pc ls st h mc ms Q n' i y' a As mc' ms' P hd hl hca hw hP k1 k2 p e R s m args below meth c A H locs cells slots ad sl C hc hs rp lv ok
  obtain ⟨hd, rfl⟩ := hd
  exact xa_sI hd hl hca hw hP k1 k2 C hc hs rp lv ok
set_option maxHeartbeats 2000000 in
theorem xs_mmax : xr_mmax K (xa_W l K Z) := by
  intro d y pc ls st h mc ms Q n' i x z hd h1 h2 h3 h4 hw k p e R s m args below meth c A H locs cells slots ad sl C hc hs rp lv ok
  obtain ⟨hd, rfl⟩ := hd
  refine va_mmax C.1 C.2.1 (C.2.2.1.trans lv.1.1.symm) C.o (C.ts args _ h1) (C.ts args _ h2) (C.ts args _ h3) (C.ts args _ h4) (by have := C.rm.1; omega) (by have := C.rm.2; rw [xa_sum]; omega) (by omega) (by omega) hd ?_
  exact (k p e R s m args below meth c A H locs cells slots ad sl C hc hs rp lv (xa_oks_i (xa_oks_t (xa_oks_t ok))))
theorem xa_sound : xa_cl K Z.2.2.2 (xa_W l K Z) := ⟨xs_iconst, xs_bipush, xs_sipush, xs_ldc, xs_iload_n, xs_iload, xs_aload_n, xs_aload_nT, xs_aload, xs_aloadT, xs_istore_n, xs_istore, xs_astore_n, xs_astore, xs_iinc, xs_iadd, xs_isub, xs_imul, xs_iand, xs_ior, xs_ixor, xs_ishl, xs_ishr, xs_iushr, xs_idiv, xs_irem, xs_i2l, xs_lcmp, xs_dup, xs_pop, xs_dup2, xs_dup_x1, xs_if_eq, xs_if_ne, xs_if_lt, xs_if_ge, xs_if_gt, xs_if_le, xs_icmp_eq, xs_icmp_ne, xs_icmp_lt, xs_icmp_ge, xs_icmp_gt, xs_icmp_le, xs_goto, xs_tableOut, xs_tableIn, xs_lookup, xs_less, xs_wide, xs_get, xs_put, xs_putF, xs_iaload, xs_baload, xs_laload, xs_aaload, xs_iastore, xs_bastore, xs_lastore, xs_aastore, xs_tload, xs_tlen, xs_gets, xs_iret, xs_vret, xs_aret, xs_oinit, xs_new, xs_newI, xs_newZ, xs_newL, xs_newQ, xs_callV, xs_callS, xs_callI, xs_mmax⟩
end XSound
end
section
/-! A heap whose shape is fixed: its numbers alone change. -/
section XWorld
/-- what lies at an address: an object of the class ci, whose field is a number (none) or leads to a fixed cell; or an array: its type's number, its length -/
abbrev xl_S : Type := (Nat × List (Option Nat)) ⊕ (Nat × Nat)
/-- the numbers: fields (by address and place), arrays of numbers (by address and place), arrays of references, the law's own array -/
abbrev xl_V : Type := (Nat → Nat → Int32) × (Nat → Nat → Int32) × (Nat → Nat → Option Nat) × (Nat → Int64)
def xl_f (I : Nat → Int32) : List (Option Nat) → Nat → List Value
  | [], _ => []
  | none :: r, k => .int (I k) :: xl_f I r (k + 1)
  | some b :: r, k => .ref b :: xl_f I r (k + 1)
def xl_c (lay : List xl_S) (V : xl_V) (a : Nat) : va_E := match lay[a]? with
  | some (.inl (ci, fl)) => .inr (ci, xl_f (V.1 a) fl 0)
  | some (.inr (0, n)) => .inl (0, n, .inl (V.2.1 a))
  | some (.inr (1, n)) => .inl (1, n, .inl (V.2.1 a))
  | some (.inr (2, n)) => .inl (2, n, .inr (.inl V.2.2.2))
  | some (.inr (_, n)) => .inl (3, n, .inr (.inr (.inr (.inr (V.2.2.1 a)))))
  | none => .inr (0, [])
def xl_H (lay : List xl_S) (V : xl_V) : xa_H := (lay.length, xl_c lay V)
/-- a field set, an array's place set -/
def xl_i (V : xl_V) (a k : Nat) (x : Int32) : xl_V := (fun b j => if b = a ∧ j = k then x else V.1 b j, V.2)
def xl_a (V : xl_V) (a : Nat) (f : Nat → Int32) : xl_V := (V.1, xa_up V.2.1 a f, V.2.2)
def xl_g (V : xl_V) (a : Nat) (f : Nat → Option Nat) : xl_V := (V.1, V.2.1, xa_up V.2.2.1 a f, V.2.2.2)
def xl_o (V : xl_V) (f : Nat → Int64) : xl_V := (V.1, V.2.1, V.2.2.1, f)
theorem xl_f_get {I : Nat → Int32} : ∀ (fl : List (Option Nat)) (b k : Nat), fl[k]? = some none → (xl_f I fl b)[k]? = some (.int (I (b + k)))
  | [], b, k, h => by simp at h
  | o :: r, b, 0, h => by
    have e : o = none := by simpa using h
    subst e
    rfl
  | o :: r, b, k + 1, h => by
    have h1 : r[k]? = some none := by simpa using h
    have h2 := xl_f_get (I := I) r (b + 1) k h1
    have e : b + 1 + k = b + (k + 1) := by omega
    rw [e] at h2
    cases o <;> exact h2
theorem xl_f_getR {I : Nat → Int32} {x : Nat} : ∀ (fl : List (Option Nat)) (b k : Nat), fl[k]? = some (some x) → (xl_f I fl b)[k]? = some (.ref x)
  | [], b, k, h => by simp at h
  | o :: r, b, 0, h => by
    have e : o = some x := by simpa using h
    subst e
    rfl
  | o :: r, b, k + 1, h => by
    have h1 : r[k]? = some (some x) := by simpa using h
    have h2 := xl_f_getR (I := I) r (b + 1) k h1
    cases o <;> exact h2
theorem xl_f_len {I : Nat → Int32} : ∀ (fl : List (Option Nat)) (b : Nat), (xl_f I fl b).length = fl.length
  | [], _ => rfl
  | none :: r, b => by show (xl_f I r (b + 1)).length + 1 = _; rw [xl_f_len r (b + 1)]; rfl
  | some x :: r, b => by show (xl_f I r (b + 1)).length + 1 = _; rw [xl_f_len r (b + 1)]; rfl
theorem xl_f_cg {I J : Nat → Int32} : ∀ (fl : List (Option Nat)) (b : Nat), (∀ j, b ≤ j → I j = J j) → xl_f I fl b = xl_f J fl b
  | [], _, _ => rfl
  | none :: r, b, h => by
    show Value.int (I b) :: xl_f I r (b + 1) = .int (J b) :: xl_f J r (b + 1)
    rw [h b (Nat.le_refl b), xl_f_cg r (b + 1) (fun j hj => h j (by omega))]
  | some x :: r, b, h => by
    show Value.ref x :: xl_f I r (b + 1) = .ref x :: xl_f J r (b + 1)
    rw [xl_f_cg r (b + 1) (fun j hj => h j (by omega))]
theorem xl_f_set {I : Nat → Int32} {x : Int32} : ∀ (fl : List (Option Nat)) (b k : Nat), fl[k]? = some none → (xl_f I fl b).set k (.int x) = xl_f (fun j => if j = b + k then x else I j) fl b
  | [], b, k, h => by simp at h
  | o :: r, b, 0, h => by
    have e : o = none := by simpa using h
    subst e
    show Value.int x :: xl_f I r (b + 1) = .int (if b = b + 0 then x else I b) :: xl_f _ r (b + 1)
    rw [if_pos (Nat.add_zero b).symm]
    congr 1
    exact xl_f_cg r (b + 1) (fun j hj => (if_neg (by omega)).symm)
  | o :: r, b, k + 1, h => by
    have h1 : r[k]? = some none := by simpa using h
    have h2 := xl_f_set (I := I) (x := x) r (b + 1) k h1
    have e : b + 1 + k = b + (k + 1) := by omega
    rw [e] at h2
    cases o with
    | none =>
      show Value.int (I b) :: (xl_f I r (b + 1)).set k (.int x) = .int (if b = b + (k + 1) then x else I b) :: xl_f _ r (b + 1)
      rw [h2, if_neg (by omega)]
    | some z =>
      show Value.ref z :: (xl_f I r (b + 1)).set k (.int x) = .ref z :: xl_f _ r (b + 1)
      rw [h2]
theorem xl_put {lay : List xl_S} {V : xl_V} {a ci k : Nat} {fl : List (Option Nat)} {x : Int32} (ha : lay[a]? = some (.inl (ci, fl))) (hk : fl[k]? = some none) :
    ((xl_H lay V).1, xa_up (xl_H lay V).2 a (.inr (ci, (xl_f (V.1 a) fl 0).set k (.int x)))) = xl_H lay (xl_i V a k x) := by
  show (lay.length, xa_up (xl_c lay V) a _) = (lay.length, xl_c lay (xl_i V a k x))
  congr 1
  funext b
  by_cases e : b = a
  · subst e
    rw [xa_up_s, xl_f_set fl 0 k hk]
    unfold xl_c
    rw [ha]
    show (Sum.inr (ci, _) : va_E) = .inr (ci, _)
    congr 2
    refine xl_f_cg fl 0 (fun j _ => ?_)
    show (if j = 0 + k then x else V.1 b j) = (if b = b ∧ j = k then x else V.1 b j)
    rw [Nat.zero_add]
    by_cases q : j = k
    · rw [if_pos q, if_pos ⟨rfl, q⟩]
    · rw [if_neg q, if_neg (fun z => q z.2)]
  · rw [xa_up_n _ _ e]
    unfold xl_c
    have hI : (xl_i V a k x).1 b = V.1 b := by
      funext j
      show (if b = a ∧ j = k then x else V.1 b j) = _
      rw [if_neg (fun z => e z.1)]
    rw [hI]
    rfl
theorem xl_aset {lay : List xl_S} {V : xl_V} {a n t : Nat} {f : Nat → Int32} (ht : t = 0 ∨ t = 1) (ha : lay[a]? = some (.inr (t, n))) :
    ((xl_H lay V).1, xa_up (xl_H lay V).2 a (.inl (t, n, .inl f))) = xl_H lay (xl_a V a f) := by
  show (lay.length, xa_up (xl_c lay V) a _) = (lay.length, xl_c lay (xl_a V a f))
  congr 1
  funext b
  by_cases e : b = a
  · subst e
    rw [xa_up_s]
    unfold xl_c
    rw [ha]
    have e1 : (xl_a V b f).2.1 b = f := xa_up_s V.2.1 b f
    rcases ht with rfl | rfl
    · show (Sum.inl (0, n, .inl f) : va_E) = .inl (0, n, .inl ((xl_a V b f).2.1 b)); rw [e1]
    · show (Sum.inl (1, n, .inl f) : va_E) = .inl (1, n, .inl ((xl_a V b f).2.1 b)); rw [e1]
  · rw [xa_up_n _ _ e]
    unfold xl_c
    have e1 : (xl_a V a f).2.1 b = V.2.1 b := xa_up_n V.2.1 f e
    rw [e1]
    rfl
theorem xl_gset {lay : List xl_S} {V : xl_V} {a n : Nat} {f : Nat → Option Nat} (ha : lay[a]? = some (.inr (3, n))) :
    ((xl_H lay V).1, xa_up (xl_H lay V).2 a (.inl (3, n, .inr (.inr (.inr (.inr f)))))) = xl_H lay (xl_g V a f) := by
  show (lay.length, xa_up (xl_c lay V) a _) = (lay.length, xl_c lay (xl_g V a f))
  congr 1
  funext b
  by_cases e : b = a
  · subst e
    rw [xa_up_s]
    unfold xl_c
    rw [ha]
    have e1 : (xl_g V b f).2.2.1 b = f := xa_up_s V.2.2.1 b f
    show (Sum.inl (3, n, .inr (.inr (.inr (.inr f)))) : va_E) = .inl (3, n, .inr (.inr (.inr (.inr ((xl_g V b f).2.2.1 b))))); rw [e1]
  · rw [xa_up_n _ _ e]
    unfold xl_c
    have e1 : (xl_g V a f).2.2.1 b = V.2.2.1 b := xa_up_n V.2.2.1 f e
    rw [e1]
    rfl
theorem xl_oset {lay : List xl_S} {V : xl_V} {a n : Nat} {f : Nat → Int64} (ha : lay[a]? = some (.inr (2, n))) (hu : ∀ b m, lay[b]? = some (.inr (2, m)) → b = a) :
    ((xl_H lay V).1, xa_up (xl_H lay V).2 a (.inl (2, n, .inr (.inl f)))) = xl_H lay (xl_o V f) := by
  show (lay.length, xa_up (xl_c lay V) a _) = (lay.length, xl_c lay (xl_o V f))
  congr 1
  funext b
  by_cases e : b = a
  · subst e
    rw [xa_up_s]
    unfold xl_c
    rw [ha]
    rfl
  · rw [xa_up_n _ _ e]
    unfold xl_c
    split
    · rfl
    · rfl
    · rfl
    · rename_i m hm; exact absurd (hu b m hm) e
    · rfl
    · rfl
end XWorld
end
section
/-! The rows of the abstract machine over a heap of a fixed shape, and calls of methods whose answer is known. -/
section XHRows
def xq (v : Option Value) (h : xa_H) : xa_Q := fun o h' => o = .inl v ∧ h' = h
theorem xq_n {v : Option Value} {h : xa_H} : ∀ E h', ¬ xq v h (.inr E) h' := fun E h' q => by cases q.1
variable {K : xa_P} {tx : Nat → Nat × (Nat → Int32)} {d y pc n' : Nat} {ls st : List Value} {h : xa_H} {mc ms : Nat} {Q : xa_Q} {lay : List xl_S} {V : xl_V}
theorem xl_obj {a ci : Nat} {fl : List (Option Nat)} (ha : lay[a]? = some (.inl (ci, fl))) : (xl_H lay V).2 a = .inr (ci, xl_f (V.1 a) fl 0) := by
  show xl_c lay V a = _
  unfold xl_c
  rw [ha]
theorem xh_get {i ci k0 a : Nat} {fl : List (Option Nat)} (hd : xa_d K y pc (.getfield i) 3 n') (hf : xa_fld K (K.1 y).1.cls i ci k0) (ha : lay[a]? = some (.inl (ci, fl))) (hk : fl[k0]? = some none) (k : xa_X K tx d y n' ls (.int (V.1 a k0) :: st) (xl_H lay V) mc ms Q) : xa_X K tx d y pc ls (.ref a :: st) (xl_H lay V) mc ms Q :=
  xx_get hd hf (xl_obj ha) (by have := xl_f_get (I := V.1 a) fl 0 k0 hk; rwa [Nat.zero_add] at this) k
theorem xh_getR {i ci k0 a b : Nat} {fl : List (Option Nat)} (hd : xa_d K y pc (.getfield i) 3 n') (hf : xa_fld K (K.1 y).1.cls i ci k0) (ha : lay[a]? = some (.inl (ci, fl))) (hk : fl[k0]? = some (some b)) (k : xa_X K tx d y n' ls (.ref b :: st) (xl_H lay V) mc ms Q) : xa_X K tx d y pc ls (.ref a :: st) (xl_H lay V) mc ms Q :=
  xx_get hd hf (xl_obj ha) (xl_f_getR fl 0 k0 hk) k
theorem xh_put {i ci k0 a : Nat} {ty : FieldType} {fl : List (Option Nat)} {x : Int32} (hd : xa_d K y pc (.putfield i) 3 n') (hf : xa_fldP K (K.1 y).1.cls i ci k0 ty) (ha : lay[a]? = some (.inl (ci, fl))) (hk : fl[k0]? = some none) (hn : narrow ty (.int x) = .int x ∧ fits ty (.int x) = true) (k : xa_X K tx d y n' ls st (xl_H lay (xl_i V a k0 x)) mc ms Q) : xa_X K tx d y pc ls (.int x :: .ref a :: st) (xl_H lay V) mc ms Q :=
  xx_put hd hf (xl_obj ha) (by rw [xl_f_len]; exact (List.getElem?_eq_some_iff.mp hk).1) (fun _ _ => hn) (by rw [xl_put ha hk]; exact k)
theorem xl_arr {a n t : Nat} (ht : t = 0 ∨ t = 1) (ha : lay[a]? = some (.inr (t, n))) : (xl_H lay V).2 a = .inl (t, n, .inl (V.2.1 a)) := by
  show xl_c lay V a = _
  unfold xl_c
  rw [ha]
  rcases ht with rfl | rfl <;> rfl
theorem xh_iald {a n : Nat} {i : Int32} (hd : xa_d K y pc (.iaload) 1 n') (ha : lay[a]? = some (.inr (0, n))) (hi : vp_in i n) (k : xa_X K tx d y n' ls (.int (V.2.1 a i.toNatClampNeg) :: st) (xl_H lay V) mc ms Q) : xa_X K tx d y pc ls (.int i :: .ref a :: st) (xl_H lay V) mc ms Q :=
  xx_iaload hd (xl_arr (Or.inl rfl) ha) hi k
theorem xh_bald {a n : Nat} {i : Int32} (hd : xa_d K y pc (.baload) 1 n') (ha : lay[a]? = some (.inr (1, n))) (hi : vp_in i n) (k : xa_X K tx d y n' ls (.int (V.2.1 a i.toNatClampNeg) :: st) (xl_H lay V) mc ms Q) : xa_X K tx d y pc ls (.int i :: .ref a :: st) (xl_H lay V) mc ms Q :=
  xx_baload hd (xl_arr (Or.inr rfl) ha) hi k
theorem xh_iast {a n : Nat} {i x : Int32} (hd : xa_d K y pc (.iastore) 1 n') (ha : lay[a]? = some (.inr (0, n))) (hi : vp_in i n) (k : xa_X K tx d y n' ls st (xl_H lay (xl_a V a (upd (V.2.1 a) i.toNatClampNeg x))) mc ms Q) : xa_X K tx d y pc ls (.int x :: .int i :: .ref a :: st) (xl_H lay V) mc ms Q :=
  xx_iastore hd (xl_arr (Or.inl rfl) ha) hi (by rw [xl_aset (Or.inl rfl) ha]; exact k)
theorem xh_bast {a n : Nat} {i x : Int32} (hd : xa_d K y pc (.bastore) 1 n') (ha : lay[a]? = some (.inr (1, n))) (hi : vp_in i n) (k : xa_X K tx d y n' ls st (xl_H lay (xl_a V a (upd (V.2.1 a) i.toNatClampNeg (vp_nar .boolean x)))) mc ms Q) : xa_X K tx d y pc ls (.int x :: .int i :: .ref a :: st) (xl_H lay V) mc ms Q :=
  xx_bastore hd (xl_arr (Or.inr rfl) ha) hi (by rw [xl_aset (Or.inr rfl) ha]; exact k)
theorem xl_arrG {a n : Nat} (ha : lay[a]? = some (.inr (3, n))) : (xl_H lay V).2 a = .inl (3, n, .inr (.inr (.inr (.inr (V.2.2.1 a))))) := by
  show xl_c lay V a = _
  unfold xl_c
  rw [ha]
  rfl
theorem xh_aald {a n b : Nat} {i : Int32} (hd : xa_d K y pc (.aaload) 1 n') (ha : lay[a]? = some (.inr (3, n))) (hi : vp_in i n) (hb : V.2.2.1 a i.toNatClampNeg = some b) (k : xa_X K tx d y n' ls (.ref b :: st) (xl_H lay V) mc ms Q) : xa_X K tx d y pc ls (.int i :: .ref a :: st) (xl_H lay V) mc ms Q :=
  xx_aaload hd (xl_arrG ha) hi hb k
theorem xh_aast {a n b ci : Nat} {fl : List (Option Nat)} {i : Int32} (hd : xa_d K y pc (.aastore) 1 n') (ha : lay[a]? = some (.inr (3, n))) (hi : vp_in i n) (hb : lay[b]? = some (.inl (ci, fl))) (hg : ∃ T N, K.2.1[ci]? = some (K.2.2.2.2.2, T, N)) (k : xa_X K tx d y n' ls st (xl_H lay (xl_g V a (va_up (V.2.2.1 a) i.toNatClampNeg (some b)))) mc ms Q) : xa_X K tx d y pc ls (.ref b :: .int i :: .ref a :: st) (xl_H lay V) mc ms Q :=
  xx_aastore hd (xl_arrG ha) hi (xl_obj hb) hg (by rw [xl_gset ha]; exact k)
theorem xl_arrO {a n : Nat} (ha : lay[a]? = some (.inr (2, n))) : (xl_H lay V).2 a = .inl (2, n, .inr (.inl V.2.2.2)) := by
  show xl_c lay V a = _
  unfold xl_c
  rw [ha]
  rfl
theorem xh_lald {a n : Nat} {i : Int32} (hd : xa_d K y pc (.laload) 1 n') (ha : lay[a]? = some (.inr (2, n))) (hi : vp_in i n) (k : xa_X K tx d y n' ls (.long (V.2.2.2 i.toNatClampNeg) :: st) (xl_H lay V) mc ms Q) : xa_X K tx d y pc ls (.int i :: .ref a :: st) (xl_H lay V) mc ms Q :=
  xx_laload hd (xl_arrO ha) hi k
theorem xh_last {a n : Nat} {i : Int32} {x : Int64} (hu : ∀ b m, lay[b]? = some (.inr (2, m)) → b = a) (hd : xa_d K y pc (.lastore) 1 n') (ha : lay[a]? = some (.inr (2, n))) (hi : vp_in i n) (k : xa_X K tx d y n' ls st (xl_H lay (xl_o V (vp_updL V.2.2.2 i.toNatClampNeg x))) mc ms Q) : xa_X K tx d y pc ls (.long x :: .int i :: .ref a :: st) (xl_H lay V) mc ms Q :=
  xx_lastore hd (xl_arrO ha) hi (by rw [xl_oset ha hu]; exact k)
theorem xc_V0 {i y' mc' ms' : Nat} {fs : List Value} {ci : Nat} {a : Nat} {P : xa_Q} (hd : xa_d K y pc (.invokevirtual i) 3 n') (hl : xa_lkV K (K.1 y).1.cls i ci y' 0) (hh : h.2 a = .inr (ci, fs)) (hP : ∀ E h', ¬ P (.inr E) h') (k1 : xa_X K tx d y' 0 (xa_ent (K.1 y').2.2.1 (.ref a :: [])) [] h mc' ms' P) (k2 : ∀ (v : Option Value) (h' : xa_H), P (.inl v) h' → xa_X K tx (d + 1) y n' ls (v.toList ++ st) h' mc ms Q)  (hw : (st.map fun v => v.category).sum ≤ 8 := by exact Nat.le_of_ble_eq_true rfl) : xa_X K tx (d + 1) y pc ls (.ref a :: st) h (mc + mc') (ms + ms') Q :=
  xx_callV (As := []) hd hl hh (by intro v hv; cases hv) hw hP k1 k2
theorem xc_V0i {i y' : Nat} {ci : Nat} {fs : List Value} {a : Nat} {r : Int32} {h1 : xa_H} (hd : xa_d K y pc (.invokevirtual i) 3 n') (hl : xa_lkV K (K.1 y).1.cls i ci y' 0) (hh : h.2 a = .inr (ci, fs)) (k1 : xa_X K tx d y' 0 (xa_ent (K.1 y').2.2.1 (.ref a :: [])) [] h 0 0 (xq (some (.int r)) h1)) (k2 : xa_X K tx (d + 1) y n' ls (.int r :: st) h1 mc ms Q)  (hw : (st.map fun v => v.category).sum ≤ 8 := by exact Nat.le_of_ble_eq_true rfl) : xa_X K tx (d + 1) y pc ls (.ref a :: st) h mc ms Q :=
  xx_callV (As := []) (mc' := 0) (ms' := 0) hd hl hh (by intro v hv; cases hv) hw xq_n k1 (fun v h' q => by obtain ⟨e1, e2⟩ := q; cases e1; cases e2; exact k2)
theorem xc_V0v {i y' : Nat} {ci : Nat} {fs : List Value} {a : Nat} {h1 : xa_H} (hd : xa_d K y pc (.invokevirtual i) 3 n') (hl : xa_lkV K (K.1 y).1.cls i ci y' 0) (hh : h.2 a = .inr (ci, fs)) (k1 : xa_X K tx d y' 0 (xa_ent (K.1 y').2.2.1 (.ref a :: [])) [] h 0 0 (xq none h1)) (k2 : xa_X K tx (d + 1) y n' ls (st) h1 mc ms Q)  (hw : (st.map fun v => v.category).sum ≤ 8 := by exact Nat.le_of_ble_eq_true rfl) : xa_X K tx (d + 1) y pc ls (.ref a :: st) h mc ms Q :=
  xx_callV (As := []) (mc' := 0) (ms' := 0) hd hl hh (by intro v hv; cases hv) hw xq_n k1 (fun v h' q => by obtain ⟨e1, e2⟩ := q; cases e1; cases e2; exact k2)
theorem xc_V0r {i y' : Nat} {ci : Nat} {fs : List Value} {a : Nat} {r : Nat} {h1 : xa_H} (hd : xa_d K y pc (.invokevirtual i) 3 n') (hl : xa_lkV K (K.1 y).1.cls i ci y' 0) (hh : h.2 a = .inr (ci, fs)) (k1 : xa_X K tx d y' 0 (xa_ent (K.1 y').2.2.1 (.ref a :: [])) [] h 0 0 (xq (some (.ref r)) h1)) (k2 : xa_X K tx (d + 1) y n' ls (.ref r :: st) h1 mc ms Q)  (hw : (st.map fun v => v.category).sum ≤ 8 := by exact Nat.le_of_ble_eq_true rfl) : xa_X K tx (d + 1) y pc ls (.ref a :: st) h mc ms Q :=
  xx_callV (As := []) (mc' := 0) (ms' := 0) hd hl hh (by intro v hv; cases hv) hw xq_n k1 (fun v h' q => by obtain ⟨e1, e2⟩ := q; cases e1; cases e2; exact k2)
theorem xc_S0 {i y' mc' ms' : Nat} {P : xa_Q} (hd : xa_d K y pc (.invokestatic i) 3 n') (hl : xa_lkS K (K.1 y).1.cls i y' 0) (hP : ∀ E h', ¬ P (.inr E) h') (k1 : xa_X K tx d y' 0 (xa_ent (K.1 y').2.2.1 ([])) [] h mc' ms' P) (k2 : ∀ (v : Option Value) (h' : xa_H), P (.inl v) h' → xa_X K tx (d + 1) y n' ls (v.toList ++ st) h' mc ms Q)  (hw : (st.map fun v => v.category).sum ≤ 8 := by exact Nat.le_of_ble_eq_true rfl) : xa_X K tx (d + 1) y pc ls (st) h (mc + mc') (ms + ms') Q :=
  xx_callS (As := []) hd hl (by intro v hv; cases hv) hw hP k1 k2
theorem xc_S0i {i y' : Nat} {r : Int32} {h1 : xa_H} (hd : xa_d K y pc (.invokestatic i) 3 n') (hl : xa_lkS K (K.1 y).1.cls i y' 0) (k1 : xa_X K tx d y' 0 (xa_ent (K.1 y').2.2.1 ([])) [] h 0 0 (xq (some (.int r)) h1)) (k2 : xa_X K tx (d + 1) y n' ls (.int r :: st) h1 mc ms Q)  (hw : (st.map fun v => v.category).sum ≤ 8 := by exact Nat.le_of_ble_eq_true rfl) : xa_X K tx (d + 1) y pc ls (st) h mc ms Q :=
  xx_callS (As := []) (mc' := 0) (ms' := 0) hd hl (by intro v hv; cases hv) hw xq_n k1 (fun v h' q => by obtain ⟨e1, e2⟩ := q; cases e1; cases e2; exact k2)
theorem xc_S0v {i y' : Nat} {h1 : xa_H} (hd : xa_d K y pc (.invokestatic i) 3 n') (hl : xa_lkS K (K.1 y).1.cls i y' 0) (k1 : xa_X K tx d y' 0 (xa_ent (K.1 y').2.2.1 ([])) [] h 0 0 (xq none h1)) (k2 : xa_X K tx (d + 1) y n' ls (st) h1 mc ms Q)  (hw : (st.map fun v => v.category).sum ≤ 8 := by exact Nat.le_of_ble_eq_true rfl) : xa_X K tx (d + 1) y pc ls (st) h mc ms Q :=
  xx_callS (As := []) (mc' := 0) (ms' := 0) hd hl (by intro v hv; cases hv) hw xq_n k1 (fun v h' q => by obtain ⟨e1, e2⟩ := q; cases e1; cases e2; exact k2)
theorem xc_S0r {i y' : Nat} {r : Nat} {h1 : xa_H} (hd : xa_d K y pc (.invokestatic i) 3 n') (hl : xa_lkS K (K.1 y).1.cls i y' 0) (k1 : xa_X K tx d y' 0 (xa_ent (K.1 y').2.2.1 ([])) [] h 0 0 (xq (some (.ref r)) h1)) (k2 : xa_X K tx (d + 1) y n' ls (.ref r :: st) h1 mc ms Q)  (hw : (st.map fun v => v.category).sum ≤ 8 := by exact Nat.le_of_ble_eq_true rfl) : xa_X K tx (d + 1) y pc ls (st) h mc ms Q :=
  xx_callS (As := []) (mc' := 0) (ms' := 0) hd hl (by intro v hv; cases hv) hw xq_n k1 (fun v h' q => by obtain ⟨e1, e2⟩ := q; cases e1; cases e2; exact k2)
theorem xc_I0 {i y' mc' ms' : Nat} {a : Nat} {P : xa_Q} (hd : xa_d K y pc (.invokespecial i) 3 n') (hl : xa_lkI K (K.1 y).1.cls i y' 0) (hP : ∀ E h', ¬ P (.inr E) h') (k1 : xa_X K tx d y' 0 (xa_ent (K.1 y').2.2.1 (.ref a :: [])) [] h mc' ms' P) (k2 : ∀ (v : Option Value) (h' : xa_H), P (.inl v) h' → xa_X K tx (d + 1) y n' ls (v.toList ++ st) h' mc ms Q)  (hw : (st.map fun v => v.category).sum ≤ 8 := by exact Nat.le_of_ble_eq_true rfl) : xa_X K tx (d + 1) y pc ls (.ref a :: st) h (mc + mc') (ms + ms') Q :=
  xx_callI (As := []) hd hl (by intro v hv; cases hv) hw hP k1 k2
theorem xc_I0i {i y' : Nat} {a : Nat} {r : Int32} {h1 : xa_H} (hd : xa_d K y pc (.invokespecial i) 3 n') (hl : xa_lkI K (K.1 y).1.cls i y' 0) (k1 : xa_X K tx d y' 0 (xa_ent (K.1 y').2.2.1 (.ref a :: [])) [] h 0 0 (xq (some (.int r)) h1)) (k2 : xa_X K tx (d + 1) y n' ls (.int r :: st) h1 mc ms Q)  (hw : (st.map fun v => v.category).sum ≤ 8 := by exact Nat.le_of_ble_eq_true rfl) : xa_X K tx (d + 1) y pc ls (.ref a :: st) h mc ms Q :=
  xx_callI (As := []) (mc' := 0) (ms' := 0) hd hl (by intro v hv; cases hv) hw xq_n k1 (fun v h' q => by obtain ⟨e1, e2⟩ := q; cases e1; cases e2; exact k2)
theorem xc_I0v {i y' : Nat} {a : Nat} {h1 : xa_H} (hd : xa_d K y pc (.invokespecial i) 3 n') (hl : xa_lkI K (K.1 y).1.cls i y' 0) (k1 : xa_X K tx d y' 0 (xa_ent (K.1 y').2.2.1 (.ref a :: [])) [] h 0 0 (xq none h1)) (k2 : xa_X K tx (d + 1) y n' ls (st) h1 mc ms Q)  (hw : (st.map fun v => v.category).sum ≤ 8 := by exact Nat.le_of_ble_eq_true rfl) : xa_X K tx (d + 1) y pc ls (.ref a :: st) h mc ms Q :=
  xx_callI (As := []) (mc' := 0) (ms' := 0) hd hl (by intro v hv; cases hv) hw xq_n k1 (fun v h' q => by obtain ⟨e1, e2⟩ := q; cases e1; cases e2; exact k2)
theorem xc_I0r {i y' : Nat} {a : Nat} {r : Nat} {h1 : xa_H} (hd : xa_d K y pc (.invokespecial i) 3 n') (hl : xa_lkI K (K.1 y).1.cls i y' 0) (k1 : xa_X K tx d y' 0 (xa_ent (K.1 y').2.2.1 (.ref a :: [])) [] h 0 0 (xq (some (.ref r)) h1)) (k2 : xa_X K tx (d + 1) y n' ls (.ref r :: st) h1 mc ms Q)  (hw : (st.map fun v => v.category).sum ≤ 8 := by exact Nat.le_of_ble_eq_true rfl) : xa_X K tx (d + 1) y pc ls (.ref a :: st) h mc ms Q :=
  xx_callI (As := []) (mc' := 0) (ms' := 0) hd hl (by intro v hv; cases hv) hw xq_n k1 (fun v h' q => by obtain ⟨e1, e2⟩ := q; cases e1; cases e2; exact k2)
theorem xc_V1 {i y' mc' ms' : Nat} {fs : List Value} {ci : Nat} {a : Nat} {w1 : Value} {P : xa_Q} (hd : xa_d K y pc (.invokevirtual i) 3 n') (hl : xa_lkV K (K.1 y).1.cls i ci y' 1) (hh : h.2 a = .inr (ci, fs)) (hP : ∀ E h', ¬ P (.inr E) h') (k1 : xa_X K tx d y' 0 (xa_ent (K.1 y').2.2.1 (.ref a :: [w1])) [] h mc' ms' P) (k2 : ∀ (v : Option Value) (h' : xa_H), P (.inl v) h' → xa_X K tx (d + 1) y n' ls (v.toList ++ st) h' mc ms Q) (c1 : w1.category = 1 := by rfl) (hw : (st.map fun v => v.category).sum ≤ 8 := by exact Nat.le_of_ble_eq_true rfl) : xa_X K tx (d + 1) y pc ls (w1 :: .ref a :: st) h (mc + mc') (ms + ms') Q :=
  xx_callV (As := [w1]) hd hl hh (by intro v hv; rw [List.mem_singleton.mp hv]; exact c1) hw hP k1 k2
theorem xc_V1i {i y' : Nat} {ci : Nat} {fs : List Value} {a : Nat} {w1 : Value} {r : Int32} {h1 : xa_H} (hd : xa_d K y pc (.invokevirtual i) 3 n') (hl : xa_lkV K (K.1 y).1.cls i ci y' 1) (hh : h.2 a = .inr (ci, fs)) (k1 : xa_X K tx d y' 0 (xa_ent (K.1 y').2.2.1 (.ref a :: [w1])) [] h 0 0 (xq (some (.int r)) h1)) (k2 : xa_X K tx (d + 1) y n' ls (.int r :: st) h1 mc ms Q) (c1 : w1.category = 1 := by rfl) (hw : (st.map fun v => v.category).sum ≤ 8 := by exact Nat.le_of_ble_eq_true rfl) : xa_X K tx (d + 1) y pc ls (w1 :: .ref a :: st) h mc ms Q :=
  xx_callV (As := [w1]) (mc' := 0) (ms' := 0) hd hl hh (by intro v hv; rw [List.mem_singleton.mp hv]; exact c1) hw xq_n k1 (fun v h' q => by obtain ⟨e1, e2⟩ := q; cases e1; cases e2; exact k2)
theorem xc_V1v {i y' : Nat} {ci : Nat} {fs : List Value} {a : Nat} {w1 : Value} {h1 : xa_H} (hd : xa_d K y pc (.invokevirtual i) 3 n') (hl : xa_lkV K (K.1 y).1.cls i ci y' 1) (hh : h.2 a = .inr (ci, fs)) (k1 : xa_X K tx d y' 0 (xa_ent (K.1 y').2.2.1 (.ref a :: [w1])) [] h 0 0 (xq none h1)) (k2 : xa_X K tx (d + 1) y n' ls (st) h1 mc ms Q) (c1 : w1.category = 1 := by rfl) (hw : (st.map fun v => v.category).sum ≤ 8 := by exact Nat.le_of_ble_eq_true rfl) : xa_X K tx (d + 1) y pc ls (w1 :: .ref a :: st) h mc ms Q :=
  xx_callV (As := [w1]) (mc' := 0) (ms' := 0) hd hl hh (by intro v hv; rw [List.mem_singleton.mp hv]; exact c1) hw xq_n k1 (fun v h' q => by obtain ⟨e1, e2⟩ := q; cases e1; cases e2; exact k2)
theorem xc_V1r {i y' : Nat} {ci : Nat} {fs : List Value} {a : Nat} {w1 : Value} {r : Nat} {h1 : xa_H} (hd : xa_d K y pc (.invokevirtual i) 3 n') (hl : xa_lkV K (K.1 y).1.cls i ci y' 1) (hh : h.2 a = .inr (ci, fs)) (k1 : xa_X K tx d y' 0 (xa_ent (K.1 y').2.2.1 (.ref a :: [w1])) [] h 0 0 (xq (some (.ref r)) h1)) (k2 : xa_X K tx (d + 1) y n' ls (.ref r :: st) h1 mc ms Q) (c1 : w1.category = 1 := by rfl) (hw : (st.map fun v => v.category).sum ≤ 8 := by exact Nat.le_of_ble_eq_true rfl) : xa_X K tx (d + 1) y pc ls (w1 :: .ref a :: st) h mc ms Q :=
  xx_callV (As := [w1]) (mc' := 0) (ms' := 0) hd hl hh (by intro v hv; rw [List.mem_singleton.mp hv]; exact c1) hw xq_n k1 (fun v h' q => by obtain ⟨e1, e2⟩ := q; cases e1; cases e2; exact k2)
theorem xc_S1 {i y' mc' ms' : Nat} {w1 : Value} {P : xa_Q} (hd : xa_d K y pc (.invokestatic i) 3 n') (hl : xa_lkS K (K.1 y).1.cls i y' 1) (hP : ∀ E h', ¬ P (.inr E) h') (k1 : xa_X K tx d y' 0 (xa_ent (K.1 y').2.2.1 ([w1])) [] h mc' ms' P) (k2 : ∀ (v : Option Value) (h' : xa_H), P (.inl v) h' → xa_X K tx (d + 1) y n' ls (v.toList ++ st) h' mc ms Q) (c1 : w1.category = 1 := by rfl) (hw : (st.map fun v => v.category).sum ≤ 8 := by exact Nat.le_of_ble_eq_true rfl) : xa_X K tx (d + 1) y pc ls (w1 :: st) h (mc + mc') (ms + ms') Q :=
  xx_callS (As := [w1]) hd hl (by intro v hv; rw [List.mem_singleton.mp hv]; exact c1) hw hP k1 k2
theorem xc_S1i {i y' : Nat} {w1 : Value} {r : Int32} {h1 : xa_H} (hd : xa_d K y pc (.invokestatic i) 3 n') (hl : xa_lkS K (K.1 y).1.cls i y' 1) (k1 : xa_X K tx d y' 0 (xa_ent (K.1 y').2.2.1 ([w1])) [] h 0 0 (xq (some (.int r)) h1)) (k2 : xa_X K tx (d + 1) y n' ls (.int r :: st) h1 mc ms Q) (c1 : w1.category = 1 := by rfl) (hw : (st.map fun v => v.category).sum ≤ 8 := by exact Nat.le_of_ble_eq_true rfl) : xa_X K tx (d + 1) y pc ls (w1 :: st) h mc ms Q :=
  xx_callS (As := [w1]) (mc' := 0) (ms' := 0) hd hl (by intro v hv; rw [List.mem_singleton.mp hv]; exact c1) hw xq_n k1 (fun v h' q => by obtain ⟨e1, e2⟩ := q; cases e1; cases e2; exact k2)
theorem xc_S1v {i y' : Nat} {w1 : Value} {h1 : xa_H} (hd : xa_d K y pc (.invokestatic i) 3 n') (hl : xa_lkS K (K.1 y).1.cls i y' 1) (k1 : xa_X K tx d y' 0 (xa_ent (K.1 y').2.2.1 ([w1])) [] h 0 0 (xq none h1)) (k2 : xa_X K tx (d + 1) y n' ls (st) h1 mc ms Q) (c1 : w1.category = 1 := by rfl) (hw : (st.map fun v => v.category).sum ≤ 8 := by exact Nat.le_of_ble_eq_true rfl) : xa_X K tx (d + 1) y pc ls (w1 :: st) h mc ms Q :=
  xx_callS (As := [w1]) (mc' := 0) (ms' := 0) hd hl (by intro v hv; rw [List.mem_singleton.mp hv]; exact c1) hw xq_n k1 (fun v h' q => by obtain ⟨e1, e2⟩ := q; cases e1; cases e2; exact k2)
theorem xc_S1r {i y' : Nat} {w1 : Value} {r : Nat} {h1 : xa_H} (hd : xa_d K y pc (.invokestatic i) 3 n') (hl : xa_lkS K (K.1 y).1.cls i y' 1) (k1 : xa_X K tx d y' 0 (xa_ent (K.1 y').2.2.1 ([w1])) [] h 0 0 (xq (some (.ref r)) h1)) (k2 : xa_X K tx (d + 1) y n' ls (.ref r :: st) h1 mc ms Q) (c1 : w1.category = 1 := by rfl) (hw : (st.map fun v => v.category).sum ≤ 8 := by exact Nat.le_of_ble_eq_true rfl) : xa_X K tx (d + 1) y pc ls (w1 :: st) h mc ms Q :=
  xx_callS (As := [w1]) (mc' := 0) (ms' := 0) hd hl (by intro v hv; rw [List.mem_singleton.mp hv]; exact c1) hw xq_n k1 (fun v h' q => by obtain ⟨e1, e2⟩ := q; cases e1; cases e2; exact k2)
theorem xc_I1 {i y' mc' ms' : Nat} {a : Nat} {w1 : Value} {P : xa_Q} (hd : xa_d K y pc (.invokespecial i) 3 n') (hl : xa_lkI K (K.1 y).1.cls i y' 1) (hP : ∀ E h', ¬ P (.inr E) h') (k1 : xa_X K tx d y' 0 (xa_ent (K.1 y').2.2.1 (.ref a :: [w1])) [] h mc' ms' P) (k2 : ∀ (v : Option Value) (h' : xa_H), P (.inl v) h' → xa_X K tx (d + 1) y n' ls (v.toList ++ st) h' mc ms Q) (c1 : w1.category = 1 := by rfl) (hw : (st.map fun v => v.category).sum ≤ 8 := by exact Nat.le_of_ble_eq_true rfl) : xa_X K tx (d + 1) y pc ls (w1 :: .ref a :: st) h (mc + mc') (ms + ms') Q :=
  xx_callI (As := [w1]) hd hl (by intro v hv; rw [List.mem_singleton.mp hv]; exact c1) hw hP k1 k2
theorem xc_I1i {i y' : Nat} {a : Nat} {w1 : Value} {r : Int32} {h1 : xa_H} (hd : xa_d K y pc (.invokespecial i) 3 n') (hl : xa_lkI K (K.1 y).1.cls i y' 1) (k1 : xa_X K tx d y' 0 (xa_ent (K.1 y').2.2.1 (.ref a :: [w1])) [] h 0 0 (xq (some (.int r)) h1)) (k2 : xa_X K tx (d + 1) y n' ls (.int r :: st) h1 mc ms Q) (c1 : w1.category = 1 := by rfl) (hw : (st.map fun v => v.category).sum ≤ 8 := by exact Nat.le_of_ble_eq_true rfl) : xa_X K tx (d + 1) y pc ls (w1 :: .ref a :: st) h mc ms Q :=
  xx_callI (As := [w1]) (mc' := 0) (ms' := 0) hd hl (by intro v hv; rw [List.mem_singleton.mp hv]; exact c1) hw xq_n k1 (fun v h' q => by obtain ⟨e1, e2⟩ := q; cases e1; cases e2; exact k2)
theorem xc_I1v {i y' : Nat} {a : Nat} {w1 : Value} {h1 : xa_H} (hd : xa_d K y pc (.invokespecial i) 3 n') (hl : xa_lkI K (K.1 y).1.cls i y' 1) (k1 : xa_X K tx d y' 0 (xa_ent (K.1 y').2.2.1 (.ref a :: [w1])) [] h 0 0 (xq none h1)) (k2 : xa_X K tx (d + 1) y n' ls (st) h1 mc ms Q) (c1 : w1.category = 1 := by rfl) (hw : (st.map fun v => v.category).sum ≤ 8 := by exact Nat.le_of_ble_eq_true rfl) : xa_X K tx (d + 1) y pc ls (w1 :: .ref a :: st) h mc ms Q :=
  xx_callI (As := [w1]) (mc' := 0) (ms' := 0) hd hl (by intro v hv; rw [List.mem_singleton.mp hv]; exact c1) hw xq_n k1 (fun v h' q => by obtain ⟨e1, e2⟩ := q; cases e1; cases e2; exact k2)
theorem xc_I1r {i y' : Nat} {a : Nat} {w1 : Value} {r : Nat} {h1 : xa_H} (hd : xa_d K y pc (.invokespecial i) 3 n') (hl : xa_lkI K (K.1 y).1.cls i y' 1) (k1 : xa_X K tx d y' 0 (xa_ent (K.1 y').2.2.1 (.ref a :: [w1])) [] h 0 0 (xq (some (.ref r)) h1)) (k2 : xa_X K tx (d + 1) y n' ls (.ref r :: st) h1 mc ms Q) (c1 : w1.category = 1 := by rfl) (hw : (st.map fun v => v.category).sum ≤ 8 := by exact Nat.le_of_ble_eq_true rfl) : xa_X K tx (d + 1) y pc ls (w1 :: .ref a :: st) h mc ms Q :=
  xx_callI (As := [w1]) (mc' := 0) (ms' := 0) hd hl (by intro v hv; rw [List.mem_singleton.mp hv]; exact c1) hw xq_n k1 (fun v h' q => by obtain ⟨e1, e2⟩ := q; cases e1; cases e2; exact k2)
theorem xc_V2 {i y' mc' ms' : Nat} {fs : List Value} {ci : Nat} {a : Nat} {w1 w2 : Value} {P : xa_Q} (hd : xa_d K y pc (.invokevirtual i) 3 n') (hl : xa_lkV K (K.1 y).1.cls i ci y' 2) (hh : h.2 a = .inr (ci, fs)) (hP : ∀ E h', ¬ P (.inr E) h') (k1 : xa_X K tx d y' 0 (xa_ent (K.1 y').2.2.1 (.ref a :: [w1, w2])) [] h mc' ms' P) (k2 : ∀ (v : Option Value) (h' : xa_H), P (.inl v) h' → xa_X K tx (d + 1) y n' ls (v.toList ++ st) h' mc ms Q) (c1 : w1.category = 1 := by rfl) (c2 : w2.category = 1 := by rfl) (hw : (st.map fun v => v.category).sum ≤ 8 := by exact Nat.le_of_ble_eq_true rfl) : xa_X K tx (d + 1) y pc ls (w2 :: w1 :: .ref a :: st) h (mc + mc') (ms + ms') Q :=
  xx_callV (As := [w1, w2]) hd hl hh (by intro v hv; simp only [List.mem_cons, List.not_mem_nil, or_false] at hv; rcases hv with rfl | rfl <;> assumption) hw hP k1 k2
theorem xc_V2i {i y' : Nat} {ci : Nat} {fs : List Value} {a : Nat} {w1 w2 : Value} {r : Int32} {h1 : xa_H} (hd : xa_d K y pc (.invokevirtual i) 3 n') (hl : xa_lkV K (K.1 y).1.cls i ci y' 2) (hh : h.2 a = .inr (ci, fs)) (k1 : xa_X K tx d y' 0 (xa_ent (K.1 y').2.2.1 (.ref a :: [w1, w2])) [] h 0 0 (xq (some (.int r)) h1)) (k2 : xa_X K tx (d + 1) y n' ls (.int r :: st) h1 mc ms Q) (c1 : w1.category = 1 := by rfl) (c2 : w2.category = 1 := by rfl) (hw : (st.map fun v => v.category).sum ≤ 8 := by exact Nat.le_of_ble_eq_true rfl) : xa_X K tx (d + 1) y pc ls (w2 :: w1 :: .ref a :: st) h mc ms Q :=
  xx_callV (As := [w1, w2]) (mc' := 0) (ms' := 0) hd hl hh (by intro v hv; simp only [List.mem_cons, List.not_mem_nil, or_false] at hv; rcases hv with rfl | rfl <;> assumption) hw xq_n k1 (fun v h' q => by obtain ⟨e1, e2⟩ := q; cases e1; cases e2; exact k2)
theorem xc_V2v {i y' : Nat} {ci : Nat} {fs : List Value} {a : Nat} {w1 w2 : Value} {h1 : xa_H} (hd : xa_d K y pc (.invokevirtual i) 3 n') (hl : xa_lkV K (K.1 y).1.cls i ci y' 2) (hh : h.2 a = .inr (ci, fs)) (k1 : xa_X K tx d y' 0 (xa_ent (K.1 y').2.2.1 (.ref a :: [w1, w2])) [] h 0 0 (xq none h1)) (k2 : xa_X K tx (d + 1) y n' ls (st) h1 mc ms Q) (c1 : w1.category = 1 := by rfl) (c2 : w2.category = 1 := by rfl) (hw : (st.map fun v => v.category).sum ≤ 8 := by exact Nat.le_of_ble_eq_true rfl) : xa_X K tx (d + 1) y pc ls (w2 :: w1 :: .ref a :: st) h mc ms Q :=
  xx_callV (As := [w1, w2]) (mc' := 0) (ms' := 0) hd hl hh (by intro v hv; simp only [List.mem_cons, List.not_mem_nil, or_false] at hv; rcases hv with rfl | rfl <;> assumption) hw xq_n k1 (fun v h' q => by obtain ⟨e1, e2⟩ := q; cases e1; cases e2; exact k2)
theorem xc_V2r {i y' : Nat} {ci : Nat} {fs : List Value} {a : Nat} {w1 w2 : Value} {r : Nat} {h1 : xa_H} (hd : xa_d K y pc (.invokevirtual i) 3 n') (hl : xa_lkV K (K.1 y).1.cls i ci y' 2) (hh : h.2 a = .inr (ci, fs)) (k1 : xa_X K tx d y' 0 (xa_ent (K.1 y').2.2.1 (.ref a :: [w1, w2])) [] h 0 0 (xq (some (.ref r)) h1)) (k2 : xa_X K tx (d + 1) y n' ls (.ref r :: st) h1 mc ms Q) (c1 : w1.category = 1 := by rfl) (c2 : w2.category = 1 := by rfl) (hw : (st.map fun v => v.category).sum ≤ 8 := by exact Nat.le_of_ble_eq_true rfl) : xa_X K tx (d + 1) y pc ls (w2 :: w1 :: .ref a :: st) h mc ms Q :=
  xx_callV (As := [w1, w2]) (mc' := 0) (ms' := 0) hd hl hh (by intro v hv; simp only [List.mem_cons, List.not_mem_nil, or_false] at hv; rcases hv with rfl | rfl <;> assumption) hw xq_n k1 (fun v h' q => by obtain ⟨e1, e2⟩ := q; cases e1; cases e2; exact k2)
theorem xc_S2 {i y' mc' ms' : Nat} {w1 w2 : Value} {P : xa_Q} (hd : xa_d K y pc (.invokestatic i) 3 n') (hl : xa_lkS K (K.1 y).1.cls i y' 2) (hP : ∀ E h', ¬ P (.inr E) h') (k1 : xa_X K tx d y' 0 (xa_ent (K.1 y').2.2.1 ([w1, w2])) [] h mc' ms' P) (k2 : ∀ (v : Option Value) (h' : xa_H), P (.inl v) h' → xa_X K tx (d + 1) y n' ls (v.toList ++ st) h' mc ms Q) (c1 : w1.category = 1 := by rfl) (c2 : w2.category = 1 := by rfl) (hw : (st.map fun v => v.category).sum ≤ 8 := by exact Nat.le_of_ble_eq_true rfl) : xa_X K tx (d + 1) y pc ls (w2 :: w1 :: st) h (mc + mc') (ms + ms') Q :=
  xx_callS (As := [w1, w2]) hd hl (by intro v hv; simp only [List.mem_cons, List.not_mem_nil, or_false] at hv; rcases hv with rfl | rfl <;> assumption) hw hP k1 k2
theorem xc_S2i {i y' : Nat} {w1 w2 : Value} {r : Int32} {h1 : xa_H} (hd : xa_d K y pc (.invokestatic i) 3 n') (hl : xa_lkS K (K.1 y).1.cls i y' 2) (k1 : xa_X K tx d y' 0 (xa_ent (K.1 y').2.2.1 ([w1, w2])) [] h 0 0 (xq (some (.int r)) h1)) (k2 : xa_X K tx (d + 1) y n' ls (.int r :: st) h1 mc ms Q) (c1 : w1.category = 1 := by rfl) (c2 : w2.category = 1 := by rfl) (hw : (st.map fun v => v.category).sum ≤ 8 := by exact Nat.le_of_ble_eq_true rfl) : xa_X K tx (d + 1) y pc ls (w2 :: w1 :: st) h mc ms Q :=
  xx_callS (As := [w1, w2]) (mc' := 0) (ms' := 0) hd hl (by intro v hv; simp only [List.mem_cons, List.not_mem_nil, or_false] at hv; rcases hv with rfl | rfl <;> assumption) hw xq_n k1 (fun v h' q => by obtain ⟨e1, e2⟩ := q; cases e1; cases e2; exact k2)
theorem xc_S2v {i y' : Nat} {w1 w2 : Value} {h1 : xa_H} (hd : xa_d K y pc (.invokestatic i) 3 n') (hl : xa_lkS K (K.1 y).1.cls i y' 2) (k1 : xa_X K tx d y' 0 (xa_ent (K.1 y').2.2.1 ([w1, w2])) [] h 0 0 (xq none h1)) (k2 : xa_X K tx (d + 1) y n' ls (st) h1 mc ms Q) (c1 : w1.category = 1 := by rfl) (c2 : w2.category = 1 := by rfl) (hw : (st.map fun v => v.category).sum ≤ 8 := by exact Nat.le_of_ble_eq_true rfl) : xa_X K tx (d + 1) y pc ls (w2 :: w1 :: st) h mc ms Q :=
  xx_callS (As := [w1, w2]) (mc' := 0) (ms' := 0) hd hl (by intro v hv; simp only [List.mem_cons, List.not_mem_nil, or_false] at hv; rcases hv with rfl | rfl <;> assumption) hw xq_n k1 (fun v h' q => by obtain ⟨e1, e2⟩ := q; cases e1; cases e2; exact k2)
theorem xc_S2r {i y' : Nat} {w1 w2 : Value} {r : Nat} {h1 : xa_H} (hd : xa_d K y pc (.invokestatic i) 3 n') (hl : xa_lkS K (K.1 y).1.cls i y' 2) (k1 : xa_X K tx d y' 0 (xa_ent (K.1 y').2.2.1 ([w1, w2])) [] h 0 0 (xq (some (.ref r)) h1)) (k2 : xa_X K tx (d + 1) y n' ls (.ref r :: st) h1 mc ms Q) (c1 : w1.category = 1 := by rfl) (c2 : w2.category = 1 := by rfl) (hw : (st.map fun v => v.category).sum ≤ 8 := by exact Nat.le_of_ble_eq_true rfl) : xa_X K tx (d + 1) y pc ls (w2 :: w1 :: st) h mc ms Q :=
  xx_callS (As := [w1, w2]) (mc' := 0) (ms' := 0) hd hl (by intro v hv; simp only [List.mem_cons, List.not_mem_nil, or_false] at hv; rcases hv with rfl | rfl <;> assumption) hw xq_n k1 (fun v h' q => by obtain ⟨e1, e2⟩ := q; cases e1; cases e2; exact k2)
theorem xc_I2 {i y' mc' ms' : Nat} {a : Nat} {w1 w2 : Value} {P : xa_Q} (hd : xa_d K y pc (.invokespecial i) 3 n') (hl : xa_lkI K (K.1 y).1.cls i y' 2) (hP : ∀ E h', ¬ P (.inr E) h') (k1 : xa_X K tx d y' 0 (xa_ent (K.1 y').2.2.1 (.ref a :: [w1, w2])) [] h mc' ms' P) (k2 : ∀ (v : Option Value) (h' : xa_H), P (.inl v) h' → xa_X K tx (d + 1) y n' ls (v.toList ++ st) h' mc ms Q) (c1 : w1.category = 1 := by rfl) (c2 : w2.category = 1 := by rfl) (hw : (st.map fun v => v.category).sum ≤ 8 := by exact Nat.le_of_ble_eq_true rfl) : xa_X K tx (d + 1) y pc ls (w2 :: w1 :: .ref a :: st) h (mc + mc') (ms + ms') Q :=
  xx_callI (As := [w1, w2]) hd hl (by intro v hv; simp only [List.mem_cons, List.not_mem_nil, or_false] at hv; rcases hv with rfl | rfl <;> assumption) hw hP k1 k2
theorem xc_I2i {i y' : Nat} {a : Nat} {w1 w2 : Value} {r : Int32} {h1 : xa_H} (hd : xa_d K y pc (.invokespecial i) 3 n') (hl : xa_lkI K (K.1 y).1.cls i y' 2) (k1 : xa_X K tx d y' 0 (xa_ent (K.1 y').2.2.1 (.ref a :: [w1, w2])) [] h 0 0 (xq (some (.int r)) h1)) (k2 : xa_X K tx (d + 1) y n' ls (.int r :: st) h1 mc ms Q) (c1 : w1.category = 1 := by rfl) (c2 : w2.category = 1 := by rfl) (hw : (st.map fun v => v.category).sum ≤ 8 := by exact Nat.le_of_ble_eq_true rfl) : xa_X K tx (d + 1) y pc ls (w2 :: w1 :: .ref a :: st) h mc ms Q :=
  xx_callI (As := [w1, w2]) (mc' := 0) (ms' := 0) hd hl (by intro v hv; simp only [List.mem_cons, List.not_mem_nil, or_false] at hv; rcases hv with rfl | rfl <;> assumption) hw xq_n k1 (fun v h' q => by obtain ⟨e1, e2⟩ := q; cases e1; cases e2; exact k2)
theorem xc_I2v {i y' : Nat} {a : Nat} {w1 w2 : Value} {h1 : xa_H} (hd : xa_d K y pc (.invokespecial i) 3 n') (hl : xa_lkI K (K.1 y).1.cls i y' 2) (k1 : xa_X K tx d y' 0 (xa_ent (K.1 y').2.2.1 (.ref a :: [w1, w2])) [] h 0 0 (xq none h1)) (k2 : xa_X K tx (d + 1) y n' ls (st) h1 mc ms Q) (c1 : w1.category = 1 := by rfl) (c2 : w2.category = 1 := by rfl) (hw : (st.map fun v => v.category).sum ≤ 8 := by exact Nat.le_of_ble_eq_true rfl) : xa_X K tx (d + 1) y pc ls (w2 :: w1 :: .ref a :: st) h mc ms Q :=
  xx_callI (As := [w1, w2]) (mc' := 0) (ms' := 0) hd hl (by intro v hv; simp only [List.mem_cons, List.not_mem_nil, or_false] at hv; rcases hv with rfl | rfl <;> assumption) hw xq_n k1 (fun v h' q => by obtain ⟨e1, e2⟩ := q; cases e1; cases e2; exact k2)
theorem xc_I2r {i y' : Nat} {a : Nat} {w1 w2 : Value} {r : Nat} {h1 : xa_H} (hd : xa_d K y pc (.invokespecial i) 3 n') (hl : xa_lkI K (K.1 y).1.cls i y' 2) (k1 : xa_X K tx d y' 0 (xa_ent (K.1 y').2.2.1 (.ref a :: [w1, w2])) [] h 0 0 (xq (some (.ref r)) h1)) (k2 : xa_X K tx (d + 1) y n' ls (.ref r :: st) h1 mc ms Q) (c1 : w1.category = 1 := by rfl) (c2 : w2.category = 1 := by rfl) (hw : (st.map fun v => v.category).sum ≤ 8 := by exact Nat.le_of_ble_eq_true rfl) : xa_X K tx (d + 1) y pc ls (w2 :: w1 :: .ref a :: st) h mc ms Q :=
  xx_callI (As := [w1, w2]) (mc' := 0) (ms' := 0) hd hl (by intro v hv; simp only [List.mem_cons, List.not_mem_nil, or_false] at hv; rcases hv with rfl | rfl <;> assumption) hw xq_n k1 (fun v h' q => by obtain ⟨e1, e2⟩ := q; cases e1; cases e2; exact k2)
theorem xc_V3 {i y' mc' ms' : Nat} {fs : List Value} {ci : Nat} {a : Nat} {w1 w2 w3 : Value} {P : xa_Q} (hd : xa_d K y pc (.invokevirtual i) 3 n') (hl : xa_lkV K (K.1 y).1.cls i ci y' 3) (hh : h.2 a = .inr (ci, fs)) (hP : ∀ E h', ¬ P (.inr E) h') (k1 : xa_X K tx d y' 0 (xa_ent (K.1 y').2.2.1 (.ref a :: [w1, w2, w3])) [] h mc' ms' P) (k2 : ∀ (v : Option Value) (h' : xa_H), P (.inl v) h' → xa_X K tx (d + 1) y n' ls (v.toList ++ st) h' mc ms Q) (c1 : w1.category = 1 := by rfl) (c2 : w2.category = 1 := by rfl) (c3 : w3.category = 1 := by rfl) (hw : (st.map fun v => v.category).sum ≤ 8 := by exact Nat.le_of_ble_eq_true rfl) : xa_X K tx (d + 1) y pc ls (w3 :: w2 :: w1 :: .ref a :: st) h (mc + mc') (ms + ms') Q :=
  xx_callV (As := [w1, w2, w3]) hd hl hh (by intro v hv; simp only [List.mem_cons, List.not_mem_nil, or_false] at hv; rcases hv with rfl | rfl | rfl <;> assumption) hw hP k1 k2
theorem xc_V3i {i y' : Nat} {ci : Nat} {fs : List Value} {a : Nat} {w1 w2 w3 : Value} {r : Int32} {h1 : xa_H} (hd : xa_d K y pc (.invokevirtual i) 3 n') (hl : xa_lkV K (K.1 y).1.cls i ci y' 3) (hh : h.2 a = .inr (ci, fs)) (k1 : xa_X K tx d y' 0 (xa_ent (K.1 y').2.2.1 (.ref a :: [w1, w2, w3])) [] h 0 0 (xq (some (.int r)) h1)) (k2 : xa_X K tx (d + 1) y n' ls (.int r :: st) h1 mc ms Q) (c1 : w1.category = 1 := by rfl) (c2 : w2.category = 1 := by rfl) (c3 : w3.category = 1 := by rfl) (hw : (st.map fun v => v.category).sum ≤ 8 := by exact Nat.le_of_ble_eq_true rfl) : xa_X K tx (d + 1) y pc ls (w3 :: w2 :: w1 :: .ref a :: st) h mc ms Q :=
  xx_callV (As := [w1, w2, w3]) (mc' := 0) (ms' := 0) hd hl hh (by intro v hv; simp only [List.mem_cons, List.not_mem_nil, or_false] at hv; rcases hv with rfl | rfl | rfl <;> assumption) hw xq_n k1 (fun v h' q => by obtain ⟨e1, e2⟩ := q; cases e1; cases e2; exact k2)
theorem xc_V3v {i y' : Nat} {ci : Nat} {fs : List Value} {a : Nat} {w1 w2 w3 : Value} {h1 : xa_H} (hd : xa_d K y pc (.invokevirtual i) 3 n') (hl : xa_lkV K (K.1 y).1.cls i ci y' 3) (hh : h.2 a = .inr (ci, fs)) (k1 : xa_X K tx d y' 0 (xa_ent (K.1 y').2.2.1 (.ref a :: [w1, w2, w3])) [] h 0 0 (xq none h1)) (k2 : xa_X K tx (d + 1) y n' ls (st) h1 mc ms Q) (c1 : w1.category = 1 := by rfl) (c2 : w2.category = 1 := by rfl) (c3 : w3.category = 1 := by rfl) (hw : (st.map fun v => v.category).sum ≤ 8 := by exact Nat.le_of_ble_eq_true rfl) : xa_X K tx (d + 1) y pc ls (w3 :: w2 :: w1 :: .ref a :: st) h mc ms Q :=
  xx_callV (As := [w1, w2, w3]) (mc' := 0) (ms' := 0) hd hl hh (by intro v hv; simp only [List.mem_cons, List.not_mem_nil, or_false] at hv; rcases hv with rfl | rfl | rfl <;> assumption) hw xq_n k1 (fun v h' q => by obtain ⟨e1, e2⟩ := q; cases e1; cases e2; exact k2)
theorem xc_V3r {i y' : Nat} {ci : Nat} {fs : List Value} {a : Nat} {w1 w2 w3 : Value} {r : Nat} {h1 : xa_H} (hd : xa_d K y pc (.invokevirtual i) 3 n') (hl : xa_lkV K (K.1 y).1.cls i ci y' 3) (hh : h.2 a = .inr (ci, fs)) (k1 : xa_X K tx d y' 0 (xa_ent (K.1 y').2.2.1 (.ref a :: [w1, w2, w3])) [] h 0 0 (xq (some (.ref r)) h1)) (k2 : xa_X K tx (d + 1) y n' ls (.ref r :: st) h1 mc ms Q) (c1 : w1.category = 1 := by rfl) (c2 : w2.category = 1 := by rfl) (c3 : w3.category = 1 := by rfl) (hw : (st.map fun v => v.category).sum ≤ 8 := by exact Nat.le_of_ble_eq_true rfl) : xa_X K tx (d + 1) y pc ls (w3 :: w2 :: w1 :: .ref a :: st) h mc ms Q :=
  xx_callV (As := [w1, w2, w3]) (mc' := 0) (ms' := 0) hd hl hh (by intro v hv; simp only [List.mem_cons, List.not_mem_nil, or_false] at hv; rcases hv with rfl | rfl | rfl <;> assumption) hw xq_n k1 (fun v h' q => by obtain ⟨e1, e2⟩ := q; cases e1; cases e2; exact k2)
theorem xc_S3 {i y' mc' ms' : Nat} {w1 w2 w3 : Value} {P : xa_Q} (hd : xa_d K y pc (.invokestatic i) 3 n') (hl : xa_lkS K (K.1 y).1.cls i y' 3) (hP : ∀ E h', ¬ P (.inr E) h') (k1 : xa_X K tx d y' 0 (xa_ent (K.1 y').2.2.1 ([w1, w2, w3])) [] h mc' ms' P) (k2 : ∀ (v : Option Value) (h' : xa_H), P (.inl v) h' → xa_X K tx (d + 1) y n' ls (v.toList ++ st) h' mc ms Q) (c1 : w1.category = 1 := by rfl) (c2 : w2.category = 1 := by rfl) (c3 : w3.category = 1 := by rfl) (hw : (st.map fun v => v.category).sum ≤ 8 := by exact Nat.le_of_ble_eq_true rfl) : xa_X K tx (d + 1) y pc ls (w3 :: w2 :: w1 :: st) h (mc + mc') (ms + ms') Q :=
  xx_callS (As := [w1, w2, w3]) hd hl (by intro v hv; simp only [List.mem_cons, List.not_mem_nil, or_false] at hv; rcases hv with rfl | rfl | rfl <;> assumption) hw hP k1 k2
theorem xc_S3i {i y' : Nat} {w1 w2 w3 : Value} {r : Int32} {h1 : xa_H} (hd : xa_d K y pc (.invokestatic i) 3 n') (hl : xa_lkS K (K.1 y).1.cls i y' 3) (k1 : xa_X K tx d y' 0 (xa_ent (K.1 y').2.2.1 ([w1, w2, w3])) [] h 0 0 (xq (some (.int r)) h1)) (k2 : xa_X K tx (d + 1) y n' ls (.int r :: st) h1 mc ms Q) (c1 : w1.category = 1 := by rfl) (c2 : w2.category = 1 := by rfl) (c3 : w3.category = 1 := by rfl) (hw : (st.map fun v => v.category).sum ≤ 8 := by exact Nat.le_of_ble_eq_true rfl) : xa_X K tx (d + 1) y pc ls (w3 :: w2 :: w1 :: st) h mc ms Q :=
  xx_callS (As := [w1, w2, w3]) (mc' := 0) (ms' := 0) hd hl (by intro v hv; simp only [List.mem_cons, List.not_mem_nil, or_false] at hv; rcases hv with rfl | rfl | rfl <;> assumption) hw xq_n k1 (fun v h' q => by obtain ⟨e1, e2⟩ := q; cases e1; cases e2; exact k2)
theorem xc_S3v {i y' : Nat} {w1 w2 w3 : Value} {h1 : xa_H} (hd : xa_d K y pc (.invokestatic i) 3 n') (hl : xa_lkS K (K.1 y).1.cls i y' 3) (k1 : xa_X K tx d y' 0 (xa_ent (K.1 y').2.2.1 ([w1, w2, w3])) [] h 0 0 (xq none h1)) (k2 : xa_X K tx (d + 1) y n' ls (st) h1 mc ms Q) (c1 : w1.category = 1 := by rfl) (c2 : w2.category = 1 := by rfl) (c3 : w3.category = 1 := by rfl) (hw : (st.map fun v => v.category).sum ≤ 8 := by exact Nat.le_of_ble_eq_true rfl) : xa_X K tx (d + 1) y pc ls (w3 :: w2 :: w1 :: st) h mc ms Q :=
  xx_callS (As := [w1, w2, w3]) (mc' := 0) (ms' := 0) hd hl (by intro v hv; simp only [List.mem_cons, List.not_mem_nil, or_false] at hv; rcases hv with rfl | rfl | rfl <;> assumption) hw xq_n k1 (fun v h' q => by obtain ⟨e1, e2⟩ := q; cases e1; cases e2; exact k2)
theorem xc_S3r {i y' : Nat} {w1 w2 w3 : Value} {r : Nat} {h1 : xa_H} (hd : xa_d K y pc (.invokestatic i) 3 n') (hl : xa_lkS K (K.1 y).1.cls i y' 3) (k1 : xa_X K tx d y' 0 (xa_ent (K.1 y').2.2.1 ([w1, w2, w3])) [] h 0 0 (xq (some (.ref r)) h1)) (k2 : xa_X K tx (d + 1) y n' ls (.ref r :: st) h1 mc ms Q) (c1 : w1.category = 1 := by rfl) (c2 : w2.category = 1 := by rfl) (c3 : w3.category = 1 := by rfl) (hw : (st.map fun v => v.category).sum ≤ 8 := by exact Nat.le_of_ble_eq_true rfl) : xa_X K tx (d + 1) y pc ls (w3 :: w2 :: w1 :: st) h mc ms Q :=
  xx_callS (As := [w1, w2, w3]) (mc' := 0) (ms' := 0) hd hl (by intro v hv; simp only [List.mem_cons, List.not_mem_nil, or_false] at hv; rcases hv with rfl | rfl | rfl <;> assumption) hw xq_n k1 (fun v h' q => by obtain ⟨e1, e2⟩ := q; cases e1; cases e2; exact k2)
theorem xc_I3 {i y' mc' ms' : Nat} {a : Nat} {w1 w2 w3 : Value} {P : xa_Q} (hd : xa_d K y pc (.invokespecial i) 3 n') (hl : xa_lkI K (K.1 y).1.cls i y' 3) (hP : ∀ E h', ¬ P (.inr E) h') (k1 : xa_X K tx d y' 0 (xa_ent (K.1 y').2.2.1 (.ref a :: [w1, w2, w3])) [] h mc' ms' P) (k2 : ∀ (v : Option Value) (h' : xa_H), P (.inl v) h' → xa_X K tx (d + 1) y n' ls (v.toList ++ st) h' mc ms Q) (c1 : w1.category = 1 := by rfl) (c2 : w2.category = 1 := by rfl) (c3 : w3.category = 1 := by rfl) (hw : (st.map fun v => v.category).sum ≤ 8 := by exact Nat.le_of_ble_eq_true rfl) : xa_X K tx (d + 1) y pc ls (w3 :: w2 :: w1 :: .ref a :: st) h (mc + mc') (ms + ms') Q :=
  xx_callI (As := [w1, w2, w3]) hd hl (by intro v hv; simp only [List.mem_cons, List.not_mem_nil, or_false] at hv; rcases hv with rfl | rfl | rfl <;> assumption) hw hP k1 k2
theorem xc_I3i {i y' : Nat} {a : Nat} {w1 w2 w3 : Value} {r : Int32} {h1 : xa_H} (hd : xa_d K y pc (.invokespecial i) 3 n') (hl : xa_lkI K (K.1 y).1.cls i y' 3) (k1 : xa_X K tx d y' 0 (xa_ent (K.1 y').2.2.1 (.ref a :: [w1, w2, w3])) [] h 0 0 (xq (some (.int r)) h1)) (k2 : xa_X K tx (d + 1) y n' ls (.int r :: st) h1 mc ms Q) (c1 : w1.category = 1 := by rfl) (c2 : w2.category = 1 := by rfl) (c3 : w3.category = 1 := by rfl) (hw : (st.map fun v => v.category).sum ≤ 8 := by exact Nat.le_of_ble_eq_true rfl) : xa_X K tx (d + 1) y pc ls (w3 :: w2 :: w1 :: .ref a :: st) h mc ms Q :=
  xx_callI (As := [w1, w2, w3]) (mc' := 0) (ms' := 0) hd hl (by intro v hv; simp only [List.mem_cons, List.not_mem_nil, or_false] at hv; rcases hv with rfl | rfl | rfl <;> assumption) hw xq_n k1 (fun v h' q => by obtain ⟨e1, e2⟩ := q; cases e1; cases e2; exact k2)
theorem xc_I3v {i y' : Nat} {a : Nat} {w1 w2 w3 : Value} {h1 : xa_H} (hd : xa_d K y pc (.invokespecial i) 3 n') (hl : xa_lkI K (K.1 y).1.cls i y' 3) (k1 : xa_X K tx d y' 0 (xa_ent (K.1 y').2.2.1 (.ref a :: [w1, w2, w3])) [] h 0 0 (xq none h1)) (k2 : xa_X K tx (d + 1) y n' ls (st) h1 mc ms Q) (c1 : w1.category = 1 := by rfl) (c2 : w2.category = 1 := by rfl) (c3 : w3.category = 1 := by rfl) (hw : (st.map fun v => v.category).sum ≤ 8 := by exact Nat.le_of_ble_eq_true rfl) : xa_X K tx (d + 1) y pc ls (w3 :: w2 :: w1 :: .ref a :: st) h mc ms Q :=
  xx_callI (As := [w1, w2, w3]) (mc' := 0) (ms' := 0) hd hl (by intro v hv; simp only [List.mem_cons, List.not_mem_nil, or_false] at hv; rcases hv with rfl | rfl | rfl <;> assumption) hw xq_n k1 (fun v h' q => by obtain ⟨e1, e2⟩ := q; cases e1; cases e2; exact k2)
theorem xc_I3r {i y' : Nat} {a : Nat} {w1 w2 w3 : Value} {r : Nat} {h1 : xa_H} (hd : xa_d K y pc (.invokespecial i) 3 n') (hl : xa_lkI K (K.1 y).1.cls i y' 3) (k1 : xa_X K tx d y' 0 (xa_ent (K.1 y').2.2.1 (.ref a :: [w1, w2, w3])) [] h 0 0 (xq (some (.ref r)) h1)) (k2 : xa_X K tx (d + 1) y n' ls (.ref r :: st) h1 mc ms Q) (c1 : w1.category = 1 := by rfl) (c2 : w2.category = 1 := by rfl) (c3 : w3.category = 1 := by rfl) (hw : (st.map fun v => v.category).sum ≤ 8 := by exact Nat.le_of_ble_eq_true rfl) : xa_X K tx (d + 1) y pc ls (w3 :: w2 :: w1 :: .ref a :: st) h mc ms Q :=
  xx_callI (As := [w1, w2, w3]) (mc' := 0) (ms' := 0) hd hl (by intro v hv; simp only [List.mem_cons, List.not_mem_nil, or_false] at hv; rcases hv with rfl | rfl | rfl <;> assumption) hw xq_n k1 (fun v h' q => by obtain ⟨e1, e2⟩ := q; cases e1; cases e2; exact k2)
theorem xc_V4 {i y' mc' ms' : Nat} {fs : List Value} {ci : Nat} {a : Nat} {w1 w2 w3 w4 : Value} {P : xa_Q} (hd : xa_d K y pc (.invokevirtual i) 3 n') (hl : xa_lkV K (K.1 y).1.cls i ci y' 4) (hh : h.2 a = .inr (ci, fs)) (hP : ∀ E h', ¬ P (.inr E) h') (k1 : xa_X K tx d y' 0 (xa_ent (K.1 y').2.2.1 (.ref a :: [w1, w2, w3, w4])) [] h mc' ms' P) (k2 : ∀ (v : Option Value) (h' : xa_H), P (.inl v) h' → xa_X K tx (d + 1) y n' ls (v.toList ++ st) h' mc ms Q) (c1 : w1.category = 1 := by rfl) (c2 : w2.category = 1 := by rfl) (c3 : w3.category = 1 := by rfl) (c4 : w4.category = 1 := by rfl) (hw : (st.map fun v => v.category).sum ≤ 8 := by exact Nat.le_of_ble_eq_true rfl) : xa_X K tx (d + 1) y pc ls (w4 :: w3 :: w2 :: w1 :: .ref a :: st) h (mc + mc') (ms + ms') Q :=
  xx_callV (As := [w1, w2, w3, w4]) hd hl hh (by intro v hv; simp only [List.mem_cons, List.not_mem_nil, or_false] at hv; rcases hv with rfl | rfl | rfl | rfl <;> assumption) hw hP k1 k2
theorem xc_V4i {i y' : Nat} {ci : Nat} {fs : List Value} {a : Nat} {w1 w2 w3 w4 : Value} {r : Int32} {h1 : xa_H} (hd : xa_d K y pc (.invokevirtual i) 3 n') (hl : xa_lkV K (K.1 y).1.cls i ci y' 4) (hh : h.2 a = .inr (ci, fs)) (k1 : xa_X K tx d y' 0 (xa_ent (K.1 y').2.2.1 (.ref a :: [w1, w2, w3, w4])) [] h 0 0 (xq (some (.int r)) h1)) (k2 : xa_X K tx (d + 1) y n' ls (.int r :: st) h1 mc ms Q) (c1 : w1.category = 1 := by rfl) (c2 : w2.category = 1 := by rfl) (c3 : w3.category = 1 := by rfl) (c4 : w4.category = 1 := by rfl) (hw : (st.map fun v => v.category).sum ≤ 8 := by exact Nat.le_of_ble_eq_true rfl) : xa_X K tx (d + 1) y pc ls (w4 :: w3 :: w2 :: w1 :: .ref a :: st) h mc ms Q :=
  xx_callV (As := [w1, w2, w3, w4]) (mc' := 0) (ms' := 0) hd hl hh (by intro v hv; simp only [List.mem_cons, List.not_mem_nil, or_false] at hv; rcases hv with rfl | rfl | rfl | rfl <;> assumption) hw xq_n k1 (fun v h' q => by obtain ⟨e1, e2⟩ := q; cases e1; cases e2; exact k2)
theorem xc_V4v {i y' : Nat} {ci : Nat} {fs : List Value} {a : Nat} {w1 w2 w3 w4 : Value} {h1 : xa_H} (hd : xa_d K y pc (.invokevirtual i) 3 n') (hl : xa_lkV K (K.1 y).1.cls i ci y' 4) (hh : h.2 a = .inr (ci, fs)) (k1 : xa_X K tx d y' 0 (xa_ent (K.1 y').2.2.1 (.ref a :: [w1, w2, w3, w4])) [] h 0 0 (xq none h1)) (k2 : xa_X K tx (d + 1) y n' ls (st) h1 mc ms Q) (c1 : w1.category = 1 := by rfl) (c2 : w2.category = 1 := by rfl) (c3 : w3.category = 1 := by rfl) (c4 : w4.category = 1 := by rfl) (hw : (st.map fun v => v.category).sum ≤ 8 := by exact Nat.le_of_ble_eq_true rfl) : xa_X K tx (d + 1) y pc ls (w4 :: w3 :: w2 :: w1 :: .ref a :: st) h mc ms Q :=
  xx_callV (As := [w1, w2, w3, w4]) (mc' := 0) (ms' := 0) hd hl hh (by intro v hv; simp only [List.mem_cons, List.not_mem_nil, or_false] at hv; rcases hv with rfl | rfl | rfl | rfl <;> assumption) hw xq_n k1 (fun v h' q => by obtain ⟨e1, e2⟩ := q; cases e1; cases e2; exact k2)
theorem xc_V4r {i y' : Nat} {ci : Nat} {fs : List Value} {a : Nat} {w1 w2 w3 w4 : Value} {r : Nat} {h1 : xa_H} (hd : xa_d K y pc (.invokevirtual i) 3 n') (hl : xa_lkV K (K.1 y).1.cls i ci y' 4) (hh : h.2 a = .inr (ci, fs)) (k1 : xa_X K tx d y' 0 (xa_ent (K.1 y').2.2.1 (.ref a :: [w1, w2, w3, w4])) [] h 0 0 (xq (some (.ref r)) h1)) (k2 : xa_X K tx (d + 1) y n' ls (.ref r :: st) h1 mc ms Q) (c1 : w1.category = 1 := by rfl) (c2 : w2.category = 1 := by rfl) (c3 : w3.category = 1 := by rfl) (c4 : w4.category = 1 := by rfl) (hw : (st.map fun v => v.category).sum ≤ 8 := by exact Nat.le_of_ble_eq_true rfl) : xa_X K tx (d + 1) y pc ls (w4 :: w3 :: w2 :: w1 :: .ref a :: st) h mc ms Q :=
  xx_callV (As := [w1, w2, w3, w4]) (mc' := 0) (ms' := 0) hd hl hh (by intro v hv; simp only [List.mem_cons, List.not_mem_nil, or_false] at hv; rcases hv with rfl | rfl | rfl | rfl <;> assumption) hw xq_n k1 (fun v h' q => by obtain ⟨e1, e2⟩ := q; cases e1; cases e2; exact k2)
theorem xc_S4 {i y' mc' ms' : Nat} {w1 w2 w3 w4 : Value} {P : xa_Q} (hd : xa_d K y pc (.invokestatic i) 3 n') (hl : xa_lkS K (K.1 y).1.cls i y' 4) (hP : ∀ E h', ¬ P (.inr E) h') (k1 : xa_X K tx d y' 0 (xa_ent (K.1 y').2.2.1 ([w1, w2, w3, w4])) [] h mc' ms' P) (k2 : ∀ (v : Option Value) (h' : xa_H), P (.inl v) h' → xa_X K tx (d + 1) y n' ls (v.toList ++ st) h' mc ms Q) (c1 : w1.category = 1 := by rfl) (c2 : w2.category = 1 := by rfl) (c3 : w3.category = 1 := by rfl) (c4 : w4.category = 1 := by rfl) (hw : (st.map fun v => v.category).sum ≤ 8 := by exact Nat.le_of_ble_eq_true rfl) : xa_X K tx (d + 1) y pc ls (w4 :: w3 :: w2 :: w1 :: st) h (mc + mc') (ms + ms') Q :=
  xx_callS (As := [w1, w2, w3, w4]) hd hl (by intro v hv; simp only [List.mem_cons, List.not_mem_nil, or_false] at hv; rcases hv with rfl | rfl | rfl | rfl <;> assumption) hw hP k1 k2
theorem xc_S4i {i y' : Nat} {w1 w2 w3 w4 : Value} {r : Int32} {h1 : xa_H} (hd : xa_d K y pc (.invokestatic i) 3 n') (hl : xa_lkS K (K.1 y).1.cls i y' 4) (k1 : xa_X K tx d y' 0 (xa_ent (K.1 y').2.2.1 ([w1, w2, w3, w4])) [] h 0 0 (xq (some (.int r)) h1)) (k2 : xa_X K tx (d + 1) y n' ls (.int r :: st) h1 mc ms Q) (c1 : w1.category = 1 := by rfl) (c2 : w2.category = 1 := by rfl) (c3 : w3.category = 1 := by rfl) (c4 : w4.category = 1 := by rfl) (hw : (st.map fun v => v.category).sum ≤ 8 := by exact Nat.le_of_ble_eq_true rfl) : xa_X K tx (d + 1) y pc ls (w4 :: w3 :: w2 :: w1 :: st) h mc ms Q :=
  xx_callS (As := [w1, w2, w3, w4]) (mc' := 0) (ms' := 0) hd hl (by intro v hv; simp only [List.mem_cons, List.not_mem_nil, or_false] at hv; rcases hv with rfl | rfl | rfl | rfl <;> assumption) hw xq_n k1 (fun v h' q => by obtain ⟨e1, e2⟩ := q; cases e1; cases e2; exact k2)
theorem xc_S4v {i y' : Nat} {w1 w2 w3 w4 : Value} {h1 : xa_H} (hd : xa_d K y pc (.invokestatic i) 3 n') (hl : xa_lkS K (K.1 y).1.cls i y' 4) (k1 : xa_X K tx d y' 0 (xa_ent (K.1 y').2.2.1 ([w1, w2, w3, w4])) [] h 0 0 (xq none h1)) (k2 : xa_X K tx (d + 1) y n' ls (st) h1 mc ms Q) (c1 : w1.category = 1 := by rfl) (c2 : w2.category = 1 := by rfl) (c3 : w3.category = 1 := by rfl) (c4 : w4.category = 1 := by rfl) (hw : (st.map fun v => v.category).sum ≤ 8 := by exact Nat.le_of_ble_eq_true rfl) : xa_X K tx (d + 1) y pc ls (w4 :: w3 :: w2 :: w1 :: st) h mc ms Q :=
  xx_callS (As := [w1, w2, w3, w4]) (mc' := 0) (ms' := 0) hd hl (by intro v hv; simp only [List.mem_cons, List.not_mem_nil, or_false] at hv; rcases hv with rfl | rfl | rfl | rfl <;> assumption) hw xq_n k1 (fun v h' q => by obtain ⟨e1, e2⟩ := q; cases e1; cases e2; exact k2)
theorem xc_S4r {i y' : Nat} {w1 w2 w3 w4 : Value} {r : Nat} {h1 : xa_H} (hd : xa_d K y pc (.invokestatic i) 3 n') (hl : xa_lkS K (K.1 y).1.cls i y' 4) (k1 : xa_X K tx d y' 0 (xa_ent (K.1 y').2.2.1 ([w1, w2, w3, w4])) [] h 0 0 (xq (some (.ref r)) h1)) (k2 : xa_X K tx (d + 1) y n' ls (.ref r :: st) h1 mc ms Q) (c1 : w1.category = 1 := by rfl) (c2 : w2.category = 1 := by rfl) (c3 : w3.category = 1 := by rfl) (c4 : w4.category = 1 := by rfl) (hw : (st.map fun v => v.category).sum ≤ 8 := by exact Nat.le_of_ble_eq_true rfl) : xa_X K tx (d + 1) y pc ls (w4 :: w3 :: w2 :: w1 :: st) h mc ms Q :=
  xx_callS (As := [w1, w2, w3, w4]) (mc' := 0) (ms' := 0) hd hl (by intro v hv; simp only [List.mem_cons, List.not_mem_nil, or_false] at hv; rcases hv with rfl | rfl | rfl | rfl <;> assumption) hw xq_n k1 (fun v h' q => by obtain ⟨e1, e2⟩ := q; cases e1; cases e2; exact k2)
theorem xc_I4 {i y' mc' ms' : Nat} {a : Nat} {w1 w2 w3 w4 : Value} {P : xa_Q} (hd : xa_d K y pc (.invokespecial i) 3 n') (hl : xa_lkI K (K.1 y).1.cls i y' 4) (hP : ∀ E h', ¬ P (.inr E) h') (k1 : xa_X K tx d y' 0 (xa_ent (K.1 y').2.2.1 (.ref a :: [w1, w2, w3, w4])) [] h mc' ms' P) (k2 : ∀ (v : Option Value) (h' : xa_H), P (.inl v) h' → xa_X K tx (d + 1) y n' ls (v.toList ++ st) h' mc ms Q) (c1 : w1.category = 1 := by rfl) (c2 : w2.category = 1 := by rfl) (c3 : w3.category = 1 := by rfl) (c4 : w4.category = 1 := by rfl) (hw : (st.map fun v => v.category).sum ≤ 8 := by exact Nat.le_of_ble_eq_true rfl) : xa_X K tx (d + 1) y pc ls (w4 :: w3 :: w2 :: w1 :: .ref a :: st) h (mc + mc') (ms + ms') Q :=
  xx_callI (As := [w1, w2, w3, w4]) hd hl (by intro v hv; simp only [List.mem_cons, List.not_mem_nil, or_false] at hv; rcases hv with rfl | rfl | rfl | rfl <;> assumption) hw hP k1 k2
theorem xc_I4i {i y' : Nat} {a : Nat} {w1 w2 w3 w4 : Value} {r : Int32} {h1 : xa_H} (hd : xa_d K y pc (.invokespecial i) 3 n') (hl : xa_lkI K (K.1 y).1.cls i y' 4) (k1 : xa_X K tx d y' 0 (xa_ent (K.1 y').2.2.1 (.ref a :: [w1, w2, w3, w4])) [] h 0 0 (xq (some (.int r)) h1)) (k2 : xa_X K tx (d + 1) y n' ls (.int r :: st) h1 mc ms Q) (c1 : w1.category = 1 := by rfl) (c2 : w2.category = 1 := by rfl) (c3 : w3.category = 1 := by rfl) (c4 : w4.category = 1 := by rfl) (hw : (st.map fun v => v.category).sum ≤ 8 := by exact Nat.le_of_ble_eq_true rfl) : xa_X K tx (d + 1) y pc ls (w4 :: w3 :: w2 :: w1 :: .ref a :: st) h mc ms Q :=
  xx_callI (As := [w1, w2, w3, w4]) (mc' := 0) (ms' := 0) hd hl (by intro v hv; simp only [List.mem_cons, List.not_mem_nil, or_false] at hv; rcases hv with rfl | rfl | rfl | rfl <;> assumption) hw xq_n k1 (fun v h' q => by obtain ⟨e1, e2⟩ := q; cases e1; cases e2; exact k2)
theorem xc_I4v {i y' : Nat} {a : Nat} {w1 w2 w3 w4 : Value} {h1 : xa_H} (hd : xa_d K y pc (.invokespecial i) 3 n') (hl : xa_lkI K (K.1 y).1.cls i y' 4) (k1 : xa_X K tx d y' 0 (xa_ent (K.1 y').2.2.1 (.ref a :: [w1, w2, w3, w4])) [] h 0 0 (xq none h1)) (k2 : xa_X K tx (d + 1) y n' ls (st) h1 mc ms Q) (c1 : w1.category = 1 := by rfl) (c2 : w2.category = 1 := by rfl) (c3 : w3.category = 1 := by rfl) (c4 : w4.category = 1 := by rfl) (hw : (st.map fun v => v.category).sum ≤ 8 := by exact Nat.le_of_ble_eq_true rfl) : xa_X K tx (d + 1) y pc ls (w4 :: w3 :: w2 :: w1 :: .ref a :: st) h mc ms Q :=
  xx_callI (As := [w1, w2, w3, w4]) (mc' := 0) (ms' := 0) hd hl (by intro v hv; simp only [List.mem_cons, List.not_mem_nil, or_false] at hv; rcases hv with rfl | rfl | rfl | rfl <;> assumption) hw xq_n k1 (fun v h' q => by obtain ⟨e1, e2⟩ := q; cases e1; cases e2; exact k2)
theorem xc_I4r {i y' : Nat} {a : Nat} {w1 w2 w3 w4 : Value} {r : Nat} {h1 : xa_H} (hd : xa_d K y pc (.invokespecial i) 3 n') (hl : xa_lkI K (K.1 y).1.cls i y' 4) (k1 : xa_X K tx d y' 0 (xa_ent (K.1 y').2.2.1 (.ref a :: [w1, w2, w3, w4])) [] h 0 0 (xq (some (.ref r)) h1)) (k2 : xa_X K tx (d + 1) y n' ls (.ref r :: st) h1 mc ms Q) (c1 : w1.category = 1 := by rfl) (c2 : w2.category = 1 := by rfl) (c3 : w3.category = 1 := by rfl) (c4 : w4.category = 1 := by rfl) (hw : (st.map fun v => v.category).sum ≤ 8 := by exact Nat.le_of_ble_eq_true rfl) : xa_X K tx (d + 1) y pc ls (w4 :: w3 :: w2 :: w1 :: .ref a :: st) h mc ms Q :=
  xx_callI (As := [w1, w2, w3, w4]) (mc' := 0) (ms' := 0) hd hl (by intro v hv; simp only [List.mem_cons, List.not_mem_nil, or_false] at hv; rcases hv with rfl | rfl | rfl | rfl <;> assumption) hw xq_n k1 (fun v h' q => by obtain ⟨e1, e2⟩ := q; cases e1; cases e2; exact k2)
theorem xc_V5 {i y' mc' ms' : Nat} {fs : List Value} {ci : Nat} {a : Nat} {w1 w2 w3 w4 w5 : Value} {P : xa_Q} (hd : xa_d K y pc (.invokevirtual i) 3 n') (hl : xa_lkV K (K.1 y).1.cls i ci y' 5) (hh : h.2 a = .inr (ci, fs)) (hP : ∀ E h', ¬ P (.inr E) h') (k1 : xa_X K tx d y' 0 (xa_ent (K.1 y').2.2.1 (.ref a :: [w1, w2, w3, w4, w5])) [] h mc' ms' P) (k2 : ∀ (v : Option Value) (h' : xa_H), P (.inl v) h' → xa_X K tx (d + 1) y n' ls (v.toList ++ st) h' mc ms Q) (c1 : w1.category = 1 := by rfl) (c2 : w2.category = 1 := by rfl) (c3 : w3.category = 1 := by rfl) (c4 : w4.category = 1 := by rfl) (c5 : w5.category = 1 := by rfl) (hw : (st.map fun v => v.category).sum ≤ 8 := by exact Nat.le_of_ble_eq_true rfl) : xa_X K tx (d + 1) y pc ls (w5 :: w4 :: w3 :: w2 :: w1 :: .ref a :: st) h (mc + mc') (ms + ms') Q :=
  xx_callV (As := [w1, w2, w3, w4, w5]) hd hl hh (by intro v hv; simp only [List.mem_cons, List.not_mem_nil, or_false] at hv; rcases hv with rfl | rfl | rfl | rfl | rfl <;> assumption) hw hP k1 k2
theorem xc_V5i {i y' : Nat} {ci : Nat} {fs : List Value} {a : Nat} {w1 w2 w3 w4 w5 : Value} {r : Int32} {h1 : xa_H} (hd : xa_d K y pc (.invokevirtual i) 3 n') (hl : xa_lkV K (K.1 y).1.cls i ci y' 5) (hh : h.2 a = .inr (ci, fs)) (k1 : xa_X K tx d y' 0 (xa_ent (K.1 y').2.2.1 (.ref a :: [w1, w2, w3, w4, w5])) [] h 0 0 (xq (some (.int r)) h1)) (k2 : xa_X K tx (d + 1) y n' ls (.int r :: st) h1 mc ms Q) (c1 : w1.category = 1 := by rfl) (c2 : w2.category = 1 := by rfl) (c3 : w3.category = 1 := by rfl) (c4 : w4.category = 1 := by rfl) (c5 : w5.category = 1 := by rfl) (hw : (st.map fun v => v.category).sum ≤ 8 := by exact Nat.le_of_ble_eq_true rfl) : xa_X K tx (d + 1) y pc ls (w5 :: w4 :: w3 :: w2 :: w1 :: .ref a :: st) h mc ms Q :=
  xx_callV (As := [w1, w2, w3, w4, w5]) (mc' := 0) (ms' := 0) hd hl hh (by intro v hv; simp only [List.mem_cons, List.not_mem_nil, or_false] at hv; rcases hv with rfl | rfl | rfl | rfl | rfl <;> assumption) hw xq_n k1 (fun v h' q => by obtain ⟨e1, e2⟩ := q; cases e1; cases e2; exact k2)
theorem xc_V5v {i y' : Nat} {ci : Nat} {fs : List Value} {a : Nat} {w1 w2 w3 w4 w5 : Value} {h1 : xa_H} (hd : xa_d K y pc (.invokevirtual i) 3 n') (hl : xa_lkV K (K.1 y).1.cls i ci y' 5) (hh : h.2 a = .inr (ci, fs)) (k1 : xa_X K tx d y' 0 (xa_ent (K.1 y').2.2.1 (.ref a :: [w1, w2, w3, w4, w5])) [] h 0 0 (xq none h1)) (k2 : xa_X K tx (d + 1) y n' ls (st) h1 mc ms Q) (c1 : w1.category = 1 := by rfl) (c2 : w2.category = 1 := by rfl) (c3 : w3.category = 1 := by rfl) (c4 : w4.category = 1 := by rfl) (c5 : w5.category = 1 := by rfl) (hw : (st.map fun v => v.category).sum ≤ 8 := by exact Nat.le_of_ble_eq_true rfl) : xa_X K tx (d + 1) y pc ls (w5 :: w4 :: w3 :: w2 :: w1 :: .ref a :: st) h mc ms Q :=
  xx_callV (As := [w1, w2, w3, w4, w5]) (mc' := 0) (ms' := 0) hd hl hh (by intro v hv; simp only [List.mem_cons, List.not_mem_nil, or_false] at hv; rcases hv with rfl | rfl | rfl | rfl | rfl <;> assumption) hw xq_n k1 (fun v h' q => by obtain ⟨e1, e2⟩ := q; cases e1; cases e2; exact k2)
theorem xc_V5r {i y' : Nat} {ci : Nat} {fs : List Value} {a : Nat} {w1 w2 w3 w4 w5 : Value} {r : Nat} {h1 : xa_H} (hd : xa_d K y pc (.invokevirtual i) 3 n') (hl : xa_lkV K (K.1 y).1.cls i ci y' 5) (hh : h.2 a = .inr (ci, fs)) (k1 : xa_X K tx d y' 0 (xa_ent (K.1 y').2.2.1 (.ref a :: [w1, w2, w3, w4, w5])) [] h 0 0 (xq (some (.ref r)) h1)) (k2 : xa_X K tx (d + 1) y n' ls (.ref r :: st) h1 mc ms Q) (c1 : w1.category = 1 := by rfl) (c2 : w2.category = 1 := by rfl) (c3 : w3.category = 1 := by rfl) (c4 : w4.category = 1 := by rfl) (c5 : w5.category = 1 := by rfl) (hw : (st.map fun v => v.category).sum ≤ 8 := by exact Nat.le_of_ble_eq_true rfl) : xa_X K tx (d + 1) y pc ls (w5 :: w4 :: w3 :: w2 :: w1 :: .ref a :: st) h mc ms Q :=
  xx_callV (As := [w1, w2, w3, w4, w5]) (mc' := 0) (ms' := 0) hd hl hh (by intro v hv; simp only [List.mem_cons, List.not_mem_nil, or_false] at hv; rcases hv with rfl | rfl | rfl | rfl | rfl <;> assumption) hw xq_n k1 (fun v h' q => by obtain ⟨e1, e2⟩ := q; cases e1; cases e2; exact k2)
theorem xc_S5 {i y' mc' ms' : Nat} {w1 w2 w3 w4 w5 : Value} {P : xa_Q} (hd : xa_d K y pc (.invokestatic i) 3 n') (hl : xa_lkS K (K.1 y).1.cls i y' 5) (hP : ∀ E h', ¬ P (.inr E) h') (k1 : xa_X K tx d y' 0 (xa_ent (K.1 y').2.2.1 ([w1, w2, w3, w4, w5])) [] h mc' ms' P) (k2 : ∀ (v : Option Value) (h' : xa_H), P (.inl v) h' → xa_X K tx (d + 1) y n' ls (v.toList ++ st) h' mc ms Q) (c1 : w1.category = 1 := by rfl) (c2 : w2.category = 1 := by rfl) (c3 : w3.category = 1 := by rfl) (c4 : w4.category = 1 := by rfl) (c5 : w5.category = 1 := by rfl) (hw : (st.map fun v => v.category).sum ≤ 8 := by exact Nat.le_of_ble_eq_true rfl) : xa_X K tx (d + 1) y pc ls (w5 :: w4 :: w3 :: w2 :: w1 :: st) h (mc + mc') (ms + ms') Q :=
  xx_callS (As := [w1, w2, w3, w4, w5]) hd hl (by intro v hv; simp only [List.mem_cons, List.not_mem_nil, or_false] at hv; rcases hv with rfl | rfl | rfl | rfl | rfl <;> assumption) hw hP k1 k2
theorem xc_S5i {i y' : Nat} {w1 w2 w3 w4 w5 : Value} {r : Int32} {h1 : xa_H} (hd : xa_d K y pc (.invokestatic i) 3 n') (hl : xa_lkS K (K.1 y).1.cls i y' 5) (k1 : xa_X K tx d y' 0 (xa_ent (K.1 y').2.2.1 ([w1, w2, w3, w4, w5])) [] h 0 0 (xq (some (.int r)) h1)) (k2 : xa_X K tx (d + 1) y n' ls (.int r :: st) h1 mc ms Q) (c1 : w1.category = 1 := by rfl) (c2 : w2.category = 1 := by rfl) (c3 : w3.category = 1 := by rfl) (c4 : w4.category = 1 := by rfl) (c5 : w5.category = 1 := by rfl) (hw : (st.map fun v => v.category).sum ≤ 8 := by exact Nat.le_of_ble_eq_true rfl) : xa_X K tx (d + 1) y pc ls (w5 :: w4 :: w3 :: w2 :: w1 :: st) h mc ms Q :=
  xx_callS (As := [w1, w2, w3, w4, w5]) (mc' := 0) (ms' := 0) hd hl (by intro v hv; simp only [List.mem_cons, List.not_mem_nil, or_false] at hv; rcases hv with rfl | rfl | rfl | rfl | rfl <;> assumption) hw xq_n k1 (fun v h' q => by obtain ⟨e1, e2⟩ := q; cases e1; cases e2; exact k2)
theorem xc_S5v {i y' : Nat} {w1 w2 w3 w4 w5 : Value} {h1 : xa_H} (hd : xa_d K y pc (.invokestatic i) 3 n') (hl : xa_lkS K (K.1 y).1.cls i y' 5) (k1 : xa_X K tx d y' 0 (xa_ent (K.1 y').2.2.1 ([w1, w2, w3, w4, w5])) [] h 0 0 (xq none h1)) (k2 : xa_X K tx (d + 1) y n' ls (st) h1 mc ms Q) (c1 : w1.category = 1 := by rfl) (c2 : w2.category = 1 := by rfl) (c3 : w3.category = 1 := by rfl) (c4 : w4.category = 1 := by rfl) (c5 : w5.category = 1 := by rfl) (hw : (st.map fun v => v.category).sum ≤ 8 := by exact Nat.le_of_ble_eq_true rfl) : xa_X K tx (d + 1) y pc ls (w5 :: w4 :: w3 :: w2 :: w1 :: st) h mc ms Q :=
  xx_callS (As := [w1, w2, w3, w4, w5]) (mc' := 0) (ms' := 0) hd hl (by intro v hv; simp only [List.mem_cons, List.not_mem_nil, or_false] at hv; rcases hv with rfl | rfl | rfl | rfl | rfl <;> assumption) hw xq_n k1 (fun v h' q => by obtain ⟨e1, e2⟩ := q; cases e1; cases e2; exact k2)
theorem xc_S5r {i y' : Nat} {w1 w2 w3 w4 w5 : Value} {r : Nat} {h1 : xa_H} (hd : xa_d K y pc (.invokestatic i) 3 n') (hl : xa_lkS K (K.1 y).1.cls i y' 5) (k1 : xa_X K tx d y' 0 (xa_ent (K.1 y').2.2.1 ([w1, w2, w3, w4, w5])) [] h 0 0 (xq (some (.ref r)) h1)) (k2 : xa_X K tx (d + 1) y n' ls (.ref r :: st) h1 mc ms Q) (c1 : w1.category = 1 := by rfl) (c2 : w2.category = 1 := by rfl) (c3 : w3.category = 1 := by rfl) (c4 : w4.category = 1 := by rfl) (c5 : w5.category = 1 := by rfl) (hw : (st.map fun v => v.category).sum ≤ 8 := by exact Nat.le_of_ble_eq_true rfl) : xa_X K tx (d + 1) y pc ls (w5 :: w4 :: w3 :: w2 :: w1 :: st) h mc ms Q :=
  xx_callS (As := [w1, w2, w3, w4, w5]) (mc' := 0) (ms' := 0) hd hl (by intro v hv; simp only [List.mem_cons, List.not_mem_nil, or_false] at hv; rcases hv with rfl | rfl | rfl | rfl | rfl <;> assumption) hw xq_n k1 (fun v h' q => by obtain ⟨e1, e2⟩ := q; cases e1; cases e2; exact k2)
theorem xc_I5 {i y' mc' ms' : Nat} {a : Nat} {w1 w2 w3 w4 w5 : Value} {P : xa_Q} (hd : xa_d K y pc (.invokespecial i) 3 n') (hl : xa_lkI K (K.1 y).1.cls i y' 5) (hP : ∀ E h', ¬ P (.inr E) h') (k1 : xa_X K tx d y' 0 (xa_ent (K.1 y').2.2.1 (.ref a :: [w1, w2, w3, w4, w5])) [] h mc' ms' P) (k2 : ∀ (v : Option Value) (h' : xa_H), P (.inl v) h' → xa_X K tx (d + 1) y n' ls (v.toList ++ st) h' mc ms Q) (c1 : w1.category = 1 := by rfl) (c2 : w2.category = 1 := by rfl) (c3 : w3.category = 1 := by rfl) (c4 : w4.category = 1 := by rfl) (c5 : w5.category = 1 := by rfl) (hw : (st.map fun v => v.category).sum ≤ 8 := by exact Nat.le_of_ble_eq_true rfl) : xa_X K tx (d + 1) y pc ls (w5 :: w4 :: w3 :: w2 :: w1 :: .ref a :: st) h (mc + mc') (ms + ms') Q :=
  xx_callI (As := [w1, w2, w3, w4, w5]) hd hl (by intro v hv; simp only [List.mem_cons, List.not_mem_nil, or_false] at hv; rcases hv with rfl | rfl | rfl | rfl | rfl <;> assumption) hw hP k1 k2
theorem xc_I5i {i y' : Nat} {a : Nat} {w1 w2 w3 w4 w5 : Value} {r : Int32} {h1 : xa_H} (hd : xa_d K y pc (.invokespecial i) 3 n') (hl : xa_lkI K (K.1 y).1.cls i y' 5) (k1 : xa_X K tx d y' 0 (xa_ent (K.1 y').2.2.1 (.ref a :: [w1, w2, w3, w4, w5])) [] h 0 0 (xq (some (.int r)) h1)) (k2 : xa_X K tx (d + 1) y n' ls (.int r :: st) h1 mc ms Q) (c1 : w1.category = 1 := by rfl) (c2 : w2.category = 1 := by rfl) (c3 : w3.category = 1 := by rfl) (c4 : w4.category = 1 := by rfl) (c5 : w5.category = 1 := by rfl) (hw : (st.map fun v => v.category).sum ≤ 8 := by exact Nat.le_of_ble_eq_true rfl) : xa_X K tx (d + 1) y pc ls (w5 :: w4 :: w3 :: w2 :: w1 :: .ref a :: st) h mc ms Q :=
  xx_callI (As := [w1, w2, w3, w4, w5]) (mc' := 0) (ms' := 0) hd hl (by intro v hv; simp only [List.mem_cons, List.not_mem_nil, or_false] at hv; rcases hv with rfl | rfl | rfl | rfl | rfl <;> assumption) hw xq_n k1 (fun v h' q => by obtain ⟨e1, e2⟩ := q; cases e1; cases e2; exact k2)
theorem xc_I5v {i y' : Nat} {a : Nat} {w1 w2 w3 w4 w5 : Value} {h1 : xa_H} (hd : xa_d K y pc (.invokespecial i) 3 n') (hl : xa_lkI K (K.1 y).1.cls i y' 5) (k1 : xa_X K tx d y' 0 (xa_ent (K.1 y').2.2.1 (.ref a :: [w1, w2, w3, w4, w5])) [] h 0 0 (xq none h1)) (k2 : xa_X K tx (d + 1) y n' ls (st) h1 mc ms Q) (c1 : w1.category = 1 := by rfl) (c2 : w2.category = 1 := by rfl) (c3 : w3.category = 1 := by rfl) (c4 : w4.category = 1 := by rfl) (c5 : w5.category = 1 := by rfl) (hw : (st.map fun v => v.category).sum ≤ 8 := by exact Nat.le_of_ble_eq_true rfl) : xa_X K tx (d + 1) y pc ls (w5 :: w4 :: w3 :: w2 :: w1 :: .ref a :: st) h mc ms Q :=
  xx_callI (As := [w1, w2, w3, w4, w5]) (mc' := 0) (ms' := 0) hd hl (by intro v hv; simp only [List.mem_cons, List.not_mem_nil, or_false] at hv; rcases hv with rfl | rfl | rfl | rfl | rfl <;> assumption) hw xq_n k1 (fun v h' q => by obtain ⟨e1, e2⟩ := q; cases e1; cases e2; exact k2)
theorem xc_I5r {i y' : Nat} {a : Nat} {w1 w2 w3 w4 w5 : Value} {r : Nat} {h1 : xa_H} (hd : xa_d K y pc (.invokespecial i) 3 n') (hl : xa_lkI K (K.1 y).1.cls i y' 5) (k1 : xa_X K tx d y' 0 (xa_ent (K.1 y').2.2.1 (.ref a :: [w1, w2, w3, w4, w5])) [] h 0 0 (xq (some (.ref r)) h1)) (k2 : xa_X K tx (d + 1) y n' ls (.ref r :: st) h1 mc ms Q) (c1 : w1.category = 1 := by rfl) (c2 : w2.category = 1 := by rfl) (c3 : w3.category = 1 := by rfl) (c4 : w4.category = 1 := by rfl) (c5 : w5.category = 1 := by rfl) (hw : (st.map fun v => v.category).sum ≤ 8 := by exact Nat.le_of_ble_eq_true rfl) : xa_X K tx (d + 1) y pc ls (w5 :: w4 :: w3 :: w2 :: w1 :: .ref a :: st) h mc ms Q :=
  xx_callI (As := [w1, w2, w3, w4, w5]) (mc' := 0) (ms' := 0) hd hl (by intro v hv; simp only [List.mem_cons, List.not_mem_nil, or_false] at hv; rcases hv with rfl | rfl | rfl | rfl | rfl <;> assumption) hw xq_n k1 (fun v h' q => by obtain ⟨e1, e2⟩ := q; cases e1; cases e2; exact k2)
end XHRows
end
section
/-! The program: its classes, its methods, the words it rests on (printed by wip/whole/gen_prog.py). -/
def xgood : Cond → Bool
  | .methodLinkNest .. => true
  | .fieldLinkNest .. => true
  | .arrayOver _ => true
  | .stringRef .. => true
  | .castable .. => true
  | w => goodWord w
def xws : List Cond := lw_tbl.filter xgood
theorem xw_t {i : Nat} {w : Cond} (h : tables_1[i]? = some w) (hg : xgood w = true) : w ∈ xws := List.mem_filter.mpr ⟨List.mem_append_right _ (List.mem_of_getElem? h), hg⟩
theorem xw_s {i : Nat} {q : MethodName × Nat} (h : lw_privs[i]? = some q) (hg : xgood (Cond.selects q.1.cls q.1 q.1) = true) : Cond.selects q.1.cls q.1 q.1 ∈ xws := List.mem_filter.mpr ⟨List.mem_append_left _ (List.mem_map.mpr ⟨q, List.mem_of_getElem? h, rfl⟩), hg⟩
def xT_CG : u_T := fun k => match k with
  | 0 => ("ClocklessGates", "net", "LClocklessGates$Net;", true)
  | 1 => ("ClocklessGates", "graph", "LClocklessGates$Graph;", true)
  | 2 => ("ClocklessGates", "circuit", "LClocklessGates$Circuit;", true)
  | 3 => ("ClocklessGates", "leastSum", "LClocklessGates$LeastSum;", true)
  | 4 => ("ClocklessGates", "verdict", "I", false)
  | _ => ("ClocklessGates", "latestFault", "I", false)
def xt_CG : Nat → FieldType := fun k => match k with
  | 0 => .object "ClocklessGates$Net"
  | 1 => .object "ClocklessGates$Graph"
  | 2 => .object "ClocklessGates$Circuit"
  | 3 => .object "ClocklessGates$LeastSum"
  | 4 => .int
  | _ => .int
def xT_N : u_T := fun k => match k with
  | 0 => ("ClocklessGates$Net", "signalCount", "I", false)
  | 1 => ("ClocklessGates$Net", "edgeCount", "I", false)
  | 2 => ("ClocklessGates$Net", "placeCount", "I", false)
  | 3 => ("ClocklessGates$Net", "firstCode", "I", false)
  | 4 => ("ClocklessGates$Net", "firstMarking", "I", false)
  | 5 => ("ClocklessGates$Net", "outputEdges", "I", false)
  | 6 => ("ClocklessGates$Net", "inputs", "I", false)
  | 7 => ("ClocklessGates$Net", "edgeSignals", "[I", true)
  | 8 => ("ClocklessGates$Net", "edgeRises", "[Z", true)
  | 9 => ("ClocklessGates$Net", "placesBefore", "[I", true)
  | _ => ("ClocklessGates$Net", "placesBehind", "[I", true)
def xt_N : Nat → FieldType := fun k => match k with
  | 0 => .int
  | 1 => .int
  | 2 => .int
  | 3 => .int
  | 4 => .int
  | 5 => .int
  | 6 => .int
  | 7 => .array .int
  | 8 => .array .boolean
  | 9 => .array .int
  | _ => .array .int
def xT_G : u_T := fun k => match k with
  | 0 => ("ClocklessGates$Graph", "count", "I", false)
  | 1 => ("ClocklessGates$Graph", "faultState", "I", false)
  | 2 => ("ClocklessGates$Graph", "markings", "[I", true)
  | 3 => ("ClocklessGates$Graph", "codes", "[I", true)
  | 4 => ("ClocklessGates$Graph", "origins", "[I", true)
  | 5 => ("ClocklessGates$Graph", "excitedOutputs", "[I", true)
  | 6 => ("ClocklessGates$Graph", "enabledEdges", "[I", true)
  | 7 => ("ClocklessGates$Graph", "successors", "[I", true)
  | 8 => ("ClocklessGates$Graph", "tooBig", "Z", false)
  | 9 => ("ClocklessGates$Graph", "unsafeState", "I", false)
  | _ => ("ClocklessGates$Graph", "wrongState", "I", false)
def xt_G : Nat → FieldType := fun k => match k with
  | 0 => .int
  | 1 => .int
  | 2 => .array .int
  | 3 => .array .int
  | 4 => .array .int
  | 5 => .array .int
  | 6 => .array .int
  | 7 => .array .int
  | 8 => .boolean
  | 9 => .int
  | _ => .int
def xT_Ci : u_T := fun k => match k with
  | 0 => ("ClocklessGates$Circuit", "faultState", "I", false)
  | 1 => ("ClocklessGates$Circuit", "gates", "[LClocklessGates$Gate;", true)
  | 2 => ("ClocklessGates$Circuit", "drafts", "[LClocklessGates$Gate;", true)
  | 3 => ("ClocklessGates$Circuit", "reached", "[Z", true)
  | 4 => ("ClocklessGates$Circuit", "waiting", "[I", true)
  | _ => ("ClocklessGates$Circuit", "waitingCount", "I", false)
def xt_Ci : Nat → FieldType := fun k => match k with
  | 0 => .int
  | 1 => .array (.object "ClocklessGates$Gate")
  | 2 => .array (.object "ClocklessGates$Gate")
  | 3 => .array .boolean
  | 4 => .array .int
  | _ => .int
def xT_Ga : u_T := fun k => match k with
  | 0 => ("ClocklessGates$Gate", "count", "I", false)
  | 1 => ("ClocklessGates$Gate", "numbers", "[I", true)
  | _ => ("ClocklessGates$Gate", "covered", "I", false)
def xt_Ga : Nat → FieldType := fun k => match k with
  | 0 => .int
  | 1 => .array .int
  | _ => .int
def xT_L : u_T := fun k => match k with
  | 0 => ("ClocklessGates$LeastSum", "spans", "[I", true)
  | 1 => ("ClocklessGates$LeastSum", "primes", "[I", true)
  | 2 => ("ClocklessGates$LeastSum", "covers", "[I", true)
  | 3 => ("ClocklessGates$LeastSum", "costs", "[I", true)
  | 4 => ("ClocklessGates$LeastSum", "barredAt", "[I", true)
  | 5 => ("ClocklessGates$LeastSum", "taken", "[Z", true)
  | 6 => ("ClocklessGates$LeastSum", "best", "[Z", true)
  | 7 => ("ClocklessGates$LeastSum", "rivals", "[I", true)
  | 8 => ("ClocklessGates$LeastSum", "primeCount", "I", false)
  | 9 => ("ClocklessGates$LeastSum", "widestCover", "I", false)
  | _ => ("ClocklessGates$LeastSum", "bestCost", "I", false)
def xt_L : Nat → FieldType := fun k => match k with
  | 0 => .array .int
  | 1 => .array .int
  | 2 => .array .int
  | 3 => .array .int
  | 4 => .array .int
  | 5 => .array .boolean
  | 6 => .array .boolean
  | 7 => .array .int
  | 8 => .int
  | 9 => .int
  | _ => .int
def xT_M : u_T := fun k => match k with
  | 0 => ("ClocklessGatesModel", "code", "I", false)
  | 1 => ("ClocklessGatesModel", "signals", "I", false)
  | 2 => ("ClocklessGatesModel", "input", "[Z", true)
  | 3 => ("ClocklessGatesModel", "high", "[Z", true)
  | 4 => ("ClocklessGatesModel", "edges", "I", false)
  | 5 => ("ClocklessGatesModel", "of", "[I", true)
  | 6 => ("ClocklessGatesModel", "rises", "[Z", true)
  | 7 => ("ClocklessGatesModel", "before", "[I", true)
  | 8 => ("ClocklessGatesModel", "behind", "[I", true)
  | 9 => ("ClocklessGatesModel", "places", "I", false)
  | 10 => ("ClocklessGatesModel", "tokens", "I", false)
  | 11 => ("ClocklessGatesModel", "verdict", "I", false)
  | 12 => ("ClocklessGatesModel", "fault", "I", false)
  | 13 => ("ClocklessGatesModel", "count", "I", false)
  | 14 => ("ClocklessGatesModel", "marks", "[I", true)
  | 15 => ("ClocklessGatesModel", "codes", "[I", true)
  | 16 => ("ClocklessGatesModel", "ways", "[I", true)
  | 17 => ("ClocklessGatesModel", "many", "[I", true)
  | 18 => ("ClocklessGatesModel", "gate", "[I", true)
  | 19 => ("ClocklessGatesModel", "covered", "[I", true)
  | 20 => ("ClocklessGatesModel", "prime", "[Z", true)
  | 21 => ("ClocklessGatesModel", "chosen", "[I", true)
  | 22 => ("ClocklessGatesModel", "reached", "[I", true)
  | 23 => ("ClocklessGatesModel", "sorted", "[I", true)
  | 24 => ("ClocklessGatesModel", "best", "[I", true)
  | 25 => ("ClocklessGatesModel", "bestDigits", "I", false)
  | 26 => ("ClocklessGatesModel", "some", "Z", false)
  | 27 => ("ClocklessGatesModel", "newMany", "[I", true)
  | 28 => ("ClocklessGatesModel", "newGate", "[I", true)
  | _ => ("ClocklessGatesModel", "come", "[Z", true)
def xt_M : Nat → FieldType := fun k => match k with
  | 0 => .int
  | 1 => .int
  | 2 => .array .boolean
  | 3 => .array .boolean
  | 4 => .int
  | 5 => .array .int
  | 6 => .array .boolean
  | 7 => .array .int
  | 8 => .array .int
  | 9 => .int
  | 10 => .int
  | 11 => .int
  | 12 => .int
  | 13 => .int
  | 14 => .array .int
  | 15 => .array .int
  | 16 => .array .int
  | 17 => .array .int
  | 18 => .array .int
  | 19 => .array .int
  | 20 => .array .boolean
  | 21 => .array .int
  | 22 => .array .int
  | 23 => .array .int
  | 24 => .array .int
  | 25 => .int
  | 26 => .boolean
  | 27 => .array .int
  | 28 => .array .int
  | _ => .array .boolean
def xcl : List vw_C := [("ClocklessGates", xT_CG, 6), ("ClocklessGates$Net", xT_N, 11), ("ClocklessGates$Graph", xT_G, 11), ("ClocklessGates$Circuit", xT_Ci, 6), ("ClocklessGates$Gate", xT_Ga, 3), ("ClocklessGates$LeastSum", xT_L, 11), ("ClocklessGatesModel", xT_M, 30)]
def xMl : List xa_M := [
  (⟨"ClocklessGates", "<init>", "()V"⟩, prog_1_method_1_code, 1, none, []),
  (⟨"ClocklessGates$Net", "<init>", "()V"⟩, prog_6_method_1_code, 1, none, []),
  (⟨"ClocklessGates$Graph", "<init>", "()V"⟩, prog_4_method_1_code, 1, none, []),
  (⟨"ClocklessGates$Circuit", "<init>", "()V"⟩, prog_2_method_1_code, 2, none, []),
  (⟨"ClocklessGates$Gate", "<init>", "()V"⟩, prog_3_method_1_code, 1, none, []),
  (⟨"ClocklessGates$LeastSum", "<init>", "()V"⟩, prog_5_method_1_code, 1, none, []),
  (⟨"ClocklessGates$LeastSum", "spansOfAllProducts", "()[I"⟩, prog_5_method_2_code, 5, (some (Jvm.ClassFile.FieldType.array Jvm.ClassFile.FieldType.int)), []),
  (⟨"ClocklessGates", "analyse", "()I"⟩, prog_1_method_6_code, 1, (some Jvm.ClassFile.FieldType.int), []),
  (⟨"ClocklessGates", "discardResults", "()V"⟩, prog_1_method_21_code, 1, none, []),
  (⟨"ClocklessGates$Circuit", "clear", "()V"⟩, prog_2_method_2_code, 2, none, []),
  (⟨"ClocklessGates$Gate", "clear", "()V"⟩, prog_3_method_2_code, 1, none, []),
  (⟨"ClocklessGates$Graph", "build", "(LClocklessGates$Net;)V"⟩, prog_4_method_4_code, 3, none, []),
  (⟨"ClocklessGates$Graph", "addState", "(III)I"⟩, prog_4_method_8_code, 4, (some Jvm.ClassFile.FieldType.int), []),
  (⟨"ClocklessGates$Graph", "expand", "(LClocklessGates$Net;I)V"⟩, prog_4_method_5_code, 6, none, []),
  (⟨"ClocklessGates$Net", "isEnabled", "(II)Z"⟩, prog_6_method_11_code, 3, (some Jvm.ClassFile.FieldType.boolean), []),
  (⟨"ClocklessGates$Graph", "noteEnabled", "(LClocklessGates$Net;II)V"⟩, prog_4_method_6_code, 4, none, []),
  (⟨"ClocklessGates$Net", "edgeBit", "(I)I"⟩, prog_6_method_10_code, 2, (some Jvm.ClassFile.FieldType.int), []),
  (⟨"ClocklessGates$Net", "levelAfter", "(I)I"⟩, prog_6_method_9_code, 2, (some Jvm.ClassFile.FieldType.int), []),
  (⟨"ClocklessGates$Net", "signalOf", "(I)I"⟩, prog_6_method_8_code, 2, (some Jvm.ClassFile.FieldType.int), []),
  (⟨"ClocklessGates$Net", "isInput", "(I)Z"⟩, prog_6_method_7_code, 2, (some Jvm.ClassFile.FieldType.boolean), []),
  (⟨"ClocklessGates$Net", "isSafe", "(II)Z"⟩, prog_6_method_12_code, 3, (some Jvm.ClassFile.FieldType.boolean), []),
  (⟨"ClocklessGates$Net", "isRight", "(II)Z"⟩, prog_6_method_13_code, 3, (some Jvm.ClassFile.FieldType.boolean), []),
  (⟨"ClocklessGates$Graph", "fire", "(LClocklessGates$Net;II)I"⟩, prog_4_method_7_code, 7, (some Jvm.ClassFile.FieldType.int), []),
  (⟨"ClocklessGates$Net", "markingAfter", "(II)I"⟩, prog_6_method_14_code, 3, (some Jvm.ClassFile.FieldType.int), []),
  (⟨"ClocklessGates$Net", "codeAfter", "(II)I"⟩, prog_6_method_15_code, 4, (some Jvm.ClassFile.FieldType.int), []),
  (⟨"ClocklessGates$Graph", "judge", "(LClocklessGates$Net;)I"⟩, prog_4_method_9_code, 2, (some Jvm.ClassFile.FieldType.int), []),
  (⟨"ClocklessGates$Graph", "leastDisablingState", "(LClocklessGates$Net;)I"⟩, prog_4_method_10_code, 4, (some Jvm.ClassFile.FieldType.int), []),
  (⟨"ClocklessGates$Graph", "successor", "(II)I"⟩, prog_4_method_2_code, 3, (some Jvm.ClassFile.FieldType.int), []),
  (⟨"ClocklessGates$Graph", "losesEdge", "(LClocklessGates$Net;II)Z"⟩, prog_4_method_11_code, 5, (some Jvm.ClassFile.FieldType.boolean), []),
  (⟨"ClocklessGates$Graph", "leastConflictingState", "()I"⟩, prog_4_method_12_code, 3, (some Jvm.ClassFile.FieldType.int), []),
  (⟨"ClocklessGates", "fault", "()I"⟩, prog_1_method_12_code, 1, (some Jvm.ClassFile.FieldType.int), []),
  (⟨"ClocklessGatesLaw", "signal", "(LClocklessGates;ZZ[J)I"⟩, method_3_code, 5, (some Jvm.ClassFile.FieldType.int), [(0, 10, 13, 13)]),
  (⟨"ClocklessGates", "signal", "(ZZ)I"⟩, prog_1_method_2_code, 3, (some Jvm.ClassFile.FieldType.int), []),
  (⟨"ClocklessGates$Net", "addSignal", "(ZZ)I"⟩, prog_6_method_2_code, 4, (some Jvm.ClassFile.FieldType.int), []),
  (⟨"ClocklessGatesLaw", "edge", "(LClocklessGates;IZ[J)I"⟩, method_4_code, 5, (some Jvm.ClassFile.FieldType.int), [(0, 10, 13, 19), (0, 10, 17, 13)]),
  (⟨"ClocklessGates", "edge", "(IZ)I"⟩, prog_1_method_3_code, 3, (some Jvm.ClassFile.FieldType.int), []),
  (⟨"ClocklessGates", "requireSignal", "(I)V"⟩, prog_1_method_22_code, 2, none, []),
  (⟨"ClocklessGates$Net", "addEdge", "(IZ)I"⟩, prog_6_method_3_code, 3, (some Jvm.ClassFile.FieldType.int), []),
  (⟨"ClocklessGatesLaw", "place", "(LClocklessGates;Z[J)I"⟩, method_5_code, 4, (some Jvm.ClassFile.FieldType.int), [(0, 9, 12, 13)]),
  (⟨"ClocklessGates", "place", "(Z)I"⟩, prog_1_method_4_code, 2, (some Jvm.ClassFile.FieldType.int), []),
  (⟨"ClocklessGates$Net", "addPlace", "(Z)I"⟩, prog_6_method_4_code, 2, (some Jvm.ClassFile.FieldType.int), []),
  (⟨"ClocklessGatesLaw", "arc", "(LClocklessGates;IIZ)I"⟩, method_6_code, 5, (some Jvm.ClassFile.FieldType.int), [(0, 7, 10, 19), (0, 7, 14, 29)]),
  (⟨"ClocklessGates", "arc", "(IIZ)V"⟩, prog_1_method_5_code, 4, none, []),
  (⟨"ClocklessGates$Net", "hasArc", "(IIZ)Z"⟩, prog_6_method_6_code, 5, (some Jvm.ClassFile.FieldType.boolean), []),
  (⟨"ClocklessGates$Net", "addArc", "(IIZ)V"⟩, prog_6_method_5_code, 4, none, []),
  (⟨"ClocklessGatesLaw", "states", "(LClocklessGates;[J)I"⟩, method_7_code, 3, (some Jvm.ClassFile.FieldType.int), [(0, 8, 11, 13)]),
  (⟨"ClocklessGates", "states", "()I"⟩, prog_1_method_7_code, 1, (some Jvm.ClassFile.FieldType.int), []),
  (⟨"ClocklessGates", "requireGraph", "()V"⟩, prog_1_method_23_code, 1, none, []),
  (⟨"ClocklessGatesLaw", "code", "(LClocklessGates;I[J)I"⟩, method_8_code, 4, (some Jvm.ClassFile.FieldType.int), [(0, 9, 12, 13), (0, 9, 15, 19)]),
  (⟨"ClocklessGates", "code", "(I)I"⟩, prog_1_method_8_code, 2, (some Jvm.ClassFile.FieldType.int), []),
  (⟨"ClocklessGates", "requireState", "(I)V"⟩, prog_1_method_24_code, 2, none, []),
  (⟨"ClocklessGatesLaw", "marking", "(LClocklessGates;I[J)I"⟩, method_9_code, 4, (some Jvm.ClassFile.FieldType.int), [(0, 9, 12, 13), (0, 9, 15, 19)]),
  (⟨"ClocklessGates", "marking", "(I)I"⟩, prog_1_method_9_code, 2, (some Jvm.ClassFile.FieldType.int), []),
  (⟨"ClocklessGatesLaw", "found", "(LClocklessGates;I[J)I"⟩, method_10_code, 4, (some Jvm.ClassFile.FieldType.int), [(0, 9, 12, 13), (0, 9, 15, 19)]),
  (⟨"ClocklessGates", "found", "(I)I"⟩, prog_1_method_10_code, 2, (some Jvm.ClassFile.FieldType.int), []),
  (⟨"ClocklessGatesLaw", "excited", "(LClocklessGates;I[J)I"⟩, method_11_code, 4, (some Jvm.ClassFile.FieldType.int), [(0, 9, 12, 13), (0, 9, 15, 19)]),
  (⟨"ClocklessGates", "excited", "(I)I"⟩, prog_1_method_11_code, 2, (some Jvm.ClassFile.FieldType.int), []),
  (⟨"ClocklessGatesLaw", "synthesise", "(LClocklessGates;[J)I"⟩, method_12_code, 3, (some Jvm.ClassFile.FieldType.int), [(0, 8, 11, 13), (0, 8, 14, 51)]),
  (⟨"ClocklessGates", "synthesise", "()I"⟩, prog_1_method_13_code, 3, (some Jvm.ClassFile.FieldType.int), []),
  (⟨"ClocklessGates", "requireFine", "()V"⟩, prog_1_method_25_code, 1, none, []),
  (⟨"ClocklessGates", "makeDraft", "(I)Z"⟩, prog_1_method_20_code, 4, (some Jvm.ClassFile.FieldType.boolean), []),
  (⟨"ClocklessGates$Graph", "codesWithNext", "(II)I"⟩, prog_4_method_13_code, 7, (some Jvm.ClassFile.FieldType.int), []),
  (⟨"ClocklessGates$Graph", "isExcited", "(II)Z"⟩, prog_4_method_3_code, 3, (some Jvm.ClassFile.FieldType.boolean), []),
  (⟨"ClocklessGates$LeastSum", "find", "(III)Z"⟩, prog_5_method_4_code, 4, (some Jvm.ClassFile.FieldType.boolean), []),
  (⟨"ClocklessGates$LeastSum", "collectPrimes", "(III)V"⟩, prog_5_method_6_code, 6, none, []),
  (⟨"ClocklessGates$LeastSum", "isPrime", "(III)Z"⟩, prog_5_method_7_code, 6, (some Jvm.ClassFile.FieldType.boolean), []),
  (⟨"ClocklessGates$LeastSum", "digit", "(II)I"⟩, prog_5_method_9_code, 2, (some Jvm.ClassFile.FieldType.int), []),
  (⟨"ClocklessGates$LeastSum", "fixedDigits", "(II)I"⟩, prog_5_method_8_code, 4, (some Jvm.ClassFile.FieldType.int), []),
  (⟨"java/lang/Integer", "bitCount", "(I)I"⟩, prog_13_method_49_code, 1, (some Jvm.ClassFile.FieldType.int), []),
  (⟨"ClocklessGates$LeastSum", "countRivals", "()V"⟩, prog_5_method_10_code, 3, none, []),
  (⟨"ClocklessGates$LeastSum", "search", "(LClocklessGates$LeastSum;III)V"⟩, prog_5_method_11_code, 6, none, []),
  (⟨"ClocklessGates$LeastSum", "keepIfLess", "(I)V"⟩, prog_5_method_15_code, 3, none, []),
  (⟨"ClocklessGates$LeastSum", "takenComesFirst", "()Z"⟩, prog_5_method_16_code, 2, (some Jvm.ClassFile.FieldType.boolean), []),
  (⟨"ClocklessGates$LeastSum", "leastCostOf", "(I)I"⟩, prog_5_method_13_code, 2, (some Jvm.ClassFile.FieldType.int), []),
  (⟨"ClocklessGates$LeastSum", "codeWithFewestRivals", "(I)I"⟩, prog_5_method_14_code, 5, (some Jvm.ClassFile.FieldType.int), []),
  (⟨"ClocklessGates$LeastSum", "liftBars", "(I)V"⟩, prog_5_method_12_code, 3, none, []),
  (⟨"ClocklessGates$LeastSum", "giveTo", "(LClocklessGates$Gate;)V"⟩, prog_5_method_5_code, 3, none, []),
  (⟨"ClocklessGates$Gate", "add", "(II)I"⟩, prog_3_method_3_code, 3, (some Jvm.ClassFile.FieldType.int), []),
  (⟨"ClocklessGates$Circuit", "adoptDrafts", "()V"⟩, prog_2_method_3_code, 3, none, []),
  (⟨"ClocklessGatesLaw", "products", "(LClocklessGates;I[J)I"⟩, method_13_code, 4, (some Jvm.ClassFile.FieldType.int), [(0, 9, 12, 19)]),
  (⟨"ClocklessGates", "products", "(I)I"⟩, prog_1_method_14_code, 2, (some Jvm.ClassFile.FieldType.int), []),
  (⟨"ClocklessGatesLaw", "product", "(LClocklessGates;II[J)I"⟩, method_14_code, 5, (some Jvm.ClassFile.FieldType.int), [(0, 10, 13, 19)]),
  (⟨"ClocklessGates", "product", "(II)I"⟩, prog_1_method_15_code, 3, (some Jvm.ClassFile.FieldType.int), []),
  (⟨"ClocklessGatesLaw", "append", "(LClocklessGates;II[J)I"⟩, method_15_code, 5, (some Jvm.ClassFile.FieldType.int), [(0, 10, 13, 19), (0, 10, 17, 29), (0, 10, 21, 13)]),
  (⟨"ClocklessGates", "append", "(II)I"⟩, prog_1_method_16_code, 3, (some Jvm.ClassFile.FieldType.int), []),
  (⟨"ClocklessGates$LeastSum", "spanOf", "(I)I"⟩, prog_5_method_3_code, 2, (some Jvm.ClassFile.FieldType.int), []),
  (⟨"ClocklessGatesLaw", "strip", "(LClocklessGates;I)I"⟩, method_16_code, 3, (some Jvm.ClassFile.FieldType.int), [(0, 5, 8, 19)]),
  (⟨"ClocklessGates", "strip", "(I)V"⟩, prog_1_method_17_code, 2, none, []),
  (⟨"ClocklessGatesLaw", "value", "(LClocklessGates;II[J)I"⟩, method_17_code, 5, (some Jvm.ClassFile.FieldType.int), [(0, 10, 13, 19)]),
  (⟨"ClocklessGates", "value", "(II)I"⟩, prog_1_method_18_code, 3, (some Jvm.ClassFile.FieldType.int), []),
  (⟨"ClocklessGates$Gate", "output", "(I)I"⟩, prog_3_method_4_code, 2, (some Jvm.ClassFile.FieldType.int), []),
  (⟨"ClocklessGatesLaw", "check", "(LClocklessGates;[J)I"⟩, method_18_code, 3, (some Jvm.ClassFile.FieldType.int), [(0, 8, 11, 13)]),
  (⟨"ClocklessGates", "check", "()I"⟩, prog_1_method_19_code, 2, (some Jvm.ClassFile.FieldType.int), []),
  (⟨"ClocklessGates$Circuit", "explore", "(LClocklessGates$Net;LClocklessGates$Graph;)I"⟩, prog_2_method_4_code, 4, (some Jvm.ClassFile.FieldType.int), []),
  (⟨"ClocklessGates$Circuit", "reachStates", "(LClocklessGates$Net;LClocklessGates$Graph;)V"⟩, prog_2_method_5_code, 6, none, []),
  (⟨"ClocklessGates$Circuit", "reach", "(I)V"⟩, prog_2_method_6_code, 2, none, []),
  (⟨"ClocklessGates$Circuit", "mayFire", "(LClocklessGates$Net;LClocklessGates$Graph;II)Z"⟩, prog_2_method_7_code, 6, (some Jvm.ClassFile.FieldType.boolean), []),
  (⟨"ClocklessGates$Circuit", "leastFaultyState", "(LClocklessGates$Net;LClocklessGates$Graph;I)I"⟩, prog_2_method_9_code, 6, (some Jvm.ClassFile.FieldType.int), []),
  (⟨"ClocklessGates$Circuit", "isFaulty", "(LClocklessGates$Net;LClocklessGates$Graph;III)Z"⟩, prog_2_method_10_code, 7, (some Jvm.ClassFile.FieldType.boolean), []),
  (⟨"ClocklessGates$Circuit", "acts", "(II)Z"⟩, prog_2_method_8_code, 3, (some Jvm.ClassFile.FieldType.boolean), []),
  (⟨"ClocklessGates$Circuit", "mayStopActing", "(LClocklessGates$Net;LClocklessGates$Graph;II)Z"⟩, prog_2_method_11_code, 6, (some Jvm.ClassFile.FieldType.boolean), []),
  (⟨"ClocklessGatesModel", "<init>", "()V"⟩, prog_8_method_1_code, 1, none, []),
  (⟨"ClocklessGatesModel", "thrown", "()I"⟩, prog_8_method_2_code, 1, (some Jvm.ClassFile.FieldType.int), []),
  (⟨"ClocklessGatesModel", "signal", "(ZZ)I"⟩, prog_8_method_4_code, 3, (some Jvm.ClassFile.FieldType.int), []),
  (⟨"ClocklessGatesModel", "discard", "()V"⟩, prog_8_method_3_code, 2, none, []),
  (⟨"ClocklessGatesModel", "edge", "(IZ)I"⟩, prog_8_method_6_code, 3, (some Jvm.ClassFile.FieldType.int), []),
  (⟨"ClocklessGatesModel", "noSignal", "(I)Z"⟩, prog_8_method_5_code, 2, (some Jvm.ClassFile.FieldType.boolean), []),
  (⟨"ClocklessGatesModel", "place", "(Z)I"⟩, prog_8_method_7_code, 2, (some Jvm.ClassFile.FieldType.int), []),
  (⟨"ClocklessGatesModel", "arc", "(IIZ)V"⟩, prog_8_method_8_code, 6, none, []),
  (⟨"ClocklessGatesModel", "analyse", "()I"⟩, prog_8_method_22_code, 3, (some Jvm.ClassFile.FieldType.int), []),
  (⟨"ClocklessGatesModel", "explore", "()V"⟩, prog_8_method_15_code, 3, none, []),
  (⟨"ClocklessGatesModel", "enabled", "(II)Z"⟩, prog_8_method_9_code, 3, (some Jvm.ClassFile.FieldType.boolean), []),
  (⟨"ClocklessGatesModel", "safe", "(II)Z"⟩, prog_8_method_10_code, 3, (some Jvm.ClassFile.FieldType.boolean), []),
  (⟨"ClocklessGatesModel", "right", "(II)Z"⟩, prog_8_method_11_code, 3, (some Jvm.ClassFile.FieldType.boolean), []),
  (⟨"ClocklessGatesModel", "markAfter", "(II)I"⟩, prog_8_method_12_code, 3, (some Jvm.ClassFile.FieldType.int), []),
  (⟨"ClocklessGatesModel", "codeAfter", "(II)I"⟩, prog_8_method_13_code, 3, (some Jvm.ClassFile.FieldType.int), []),
  (⟨"ClocklessGatesModel", "find", "(II)I"⟩, prog_8_method_14_code, 4, (some Jvm.ClassFile.FieldType.int), []),
  (⟨"ClocklessGatesModel", "bad", "(II)Z"⟩, prog_8_method_21_code, 4, (some Jvm.ClassFile.FieldType.boolean), []),
  (⟨"ClocklessGatesModel", "loses", "(I)Z"⟩, prog_8_method_18_code, 5, (some Jvm.ClassFile.FieldType.boolean), []),
  (⟨"ClocklessGatesModel", "sameEdge", "(II)Z"⟩, prog_8_method_16_code, 3, (some Jvm.ClassFile.FieldType.boolean), []),
  (⟨"ClocklessGatesModel", "edgeEnabled", "(II)Z"⟩, prog_8_method_17_code, 4, (some Jvm.ClassFile.FieldType.boolean), []),
  (⟨"ClocklessGatesModel", "conflicts", "(I)Z"⟩, prog_8_method_20_code, 3, (some Jvm.ClassFile.FieldType.boolean), []),
  (⟨"ClocklessGatesModel", "excitedIn", "(I)I"⟩, prog_8_method_19_code, 4, (some Jvm.ClassFile.FieldType.int), []),
  (⟨"ClocklessGatesModel", "states", "()I"⟩, prog_8_method_24_code, 1, (some Jvm.ClassFile.FieldType.int), []),
  (⟨"ClocklessGatesModel", "noGraph", "()Z"⟩, prog_8_method_23_code, 1, (some Jvm.ClassFile.FieldType.boolean), []),
  (⟨"ClocklessGatesModel", "code", "(I)I"⟩, prog_8_method_26_code, 2, (some Jvm.ClassFile.FieldType.int), []),
  (⟨"ClocklessGatesModel", "noState", "(I)Z"⟩, prog_8_method_25_code, 2, (some Jvm.ClassFile.FieldType.boolean), []),
  (⟨"ClocklessGatesModel", "marking", "(I)I"⟩, prog_8_method_27_code, 2, (some Jvm.ClassFile.FieldType.int), []),
  (⟨"ClocklessGatesModel", "found", "(I)I"⟩, prog_8_method_28_code, 2, (some Jvm.ClassFile.FieldType.int), []),
  (⟨"ClocklessGatesModel", "excited", "(I)I"⟩, prog_8_method_29_code, 2, (some Jvm.ClassFile.FieldType.int), []),
  (⟨"ClocklessGatesModel", "fault", "()I"⟩, prog_8_method_30_code, 1, (some Jvm.ClassFile.FieldType.int), []),
  (⟨"ClocklessGatesModel", "synthesise", "()I"⟩, prog_8_method_41_code, 4, (some Jvm.ClassFile.FieldType.int), []),
  (⟨"ClocklessGatesModel", "leastSum", "(I)I"⟩, prog_8_method_40_code, 4, (some Jvm.ClassFile.FieldType.int), []),
  (⟨"ClocklessGatesModel", "codesOf", "(II)I"⟩, prog_8_method_34_code, 6, (some Jvm.ClassFile.FieldType.int), []),
  (⟨"ClocklessGatesModel", "tabulate", "(I)V"⟩, prog_8_method_35_code, 7, none, []),
  (⟨"ClocklessGatesModel", "three", "(I)I"⟩, prog_8_method_31_code, 3, (some Jvm.ClassFile.FieldType.int), []),
  (⟨"ClocklessGatesModel", "covers", "(II)Z"⟩, prog_8_method_32_code, 5, (some Jvm.ClassFile.FieldType.boolean), []),
  (⟨"ClocklessGatesModel", "tryCovers", "(II)V"⟩, prog_8_method_39_code, 6, none, []),
  (⟨"ClocklessGatesModel", "open", "(II)I"⟩, prog_8_method_37_code, 3, (some Jvm.ClassFile.FieldType.int), []),
  (⟨"ClocklessGatesModel", "nextPrime", "(II)I"⟩, prog_8_method_36_code, 5, (some Jvm.ClassFile.FieldType.int), []),
  (⟨"ClocklessGatesModel", "judge", "(I)V"⟩, prog_8_method_38_code, 5, none, []),
  (⟨"ClocklessGatesModel", "digits", "(I)I"⟩, prog_8_method_33_code, 4, (some Jvm.ClassFile.FieldType.int), []),
  (⟨"ClocklessGatesModel", "products", "(I)I"⟩, prog_8_method_42_code, 2, (some Jvm.ClassFile.FieldType.int), []),
  (⟨"ClocklessGatesModel", "product", "(II)I"⟩, prog_8_method_43_code, 3, (some Jvm.ClassFile.FieldType.int), []),
  (⟨"ClocklessGatesModel", "append", "(II)I"⟩, prog_8_method_44_code, 3, (some Jvm.ClassFile.FieldType.int), []),
  (⟨"ClocklessGatesModel", "strip", "(I)V"⟩, prog_8_method_45_code, 2, none, []),
  (⟨"ClocklessGatesModel", "value", "(II)I"⟩, prog_8_method_47_code, 3, (some Jvm.ClassFile.FieldType.int), []),
  (⟨"ClocklessGatesModel", "valueOf", "(II)I"⟩, prog_8_method_46_code, 4, (some Jvm.ClassFile.FieldType.int), []),
  (⟨"ClocklessGatesModel", "check", "()I"⟩, prog_8_method_54_code, 3, (some Jvm.ClassFile.FieldType.int), []),
  (⟨"ClocklessGatesModel", "comeTo", "()V"⟩, prog_8_method_50_code, 5, none, []),
  (⟨"ClocklessGatesModel", "fires", "(II)Z"⟩, prog_8_method_49_code, 3, (some Jvm.ClassFile.FieldType.boolean), []),
  (⟨"ClocklessGatesModel", "acts", "(II)Z"⟩, prog_8_method_48_code, 3, (some Jvm.ClassFile.FieldType.boolean), []),
  (⟨"ClocklessGatesModel", "hazard", "(I)Z"⟩, prog_8_method_53_code, 5, (some Jvm.ClassFile.FieldType.boolean), []),
  (⟨"ClocklessGatesModel", "unexpected", "(I)Z"⟩, prog_8_method_51_code, 3, (some Jvm.ClassFile.FieldType.boolean), []),
  (⟨"ClocklessGatesModel", "missing", "(I)Z"⟩, prog_8_method_52_code, 3, (some Jvm.ClassFile.FieldType.boolean), []),
  (⟨"ClocklessGatesLaw", "law", "([I)Z"⟩, code, 7, ret, [])]
def xM (i : Nat) : xa_M := xMl.getD i (⟨"", "", ""⟩, ⟨#[]⟩, 0, none, [])
def xP : xa_P := (xM, xcl, xws, "ClocklessGates", "POWER_OF_THREE", "ClocklessGates$Gate")
theorem k_CG : xa_k xP 0 "ClocklessGates" xT_CG 6 xt_CG := ⟨rfl, by decide +kernel, by decide +kernel, by decide +kernel⟩
theorem k_N : xa_k xP 1 "ClocklessGates$Net" xT_N 11 xt_N := ⟨rfl, by decide +kernel, by decide +kernel, by decide +kernel⟩
theorem k_G : xa_k xP 2 "ClocklessGates$Graph" xT_G 11 xt_G := ⟨rfl, by decide +kernel, by decide +kernel, by decide +kernel⟩
theorem k_Ci : xa_k xP 3 "ClocklessGates$Circuit" xT_Ci 6 xt_Ci := ⟨rfl, by decide +kernel, by decide +kernel, by decide +kernel⟩
theorem k_Ga : xa_k xP 4 "ClocklessGates$Gate" xT_Ga 3 xt_Ga := ⟨rfl, by decide +kernel, by decide +kernel, by decide +kernel⟩
theorem k_L : xa_k xP 5 "ClocklessGates$LeastSum" xT_L 11 xt_L := ⟨rfl, by decide +kernel, by decide +kernel, by decide +kernel⟩
theorem k_M : xa_k xP 6 "ClocklessGatesModel" xT_M 30 xt_M := ⟨rfl, by decide +kernel, by decide +kernel, by decide +kernel⟩
end
section
/-! Where the entries of the constant pools lead (printed by wip/whole/gen_prog.py). -/
set_option maxRecDepth 100000 in
theorem my_CG_init : xa_my xP 0 0 := ⟨xw_t (i := 21) rfl (by decide +kernel), by decide +kernel, by decide +kernel, by decide +kernel, by decide +kernel⟩
set_option maxRecDepth 100000 in
theorem my_N_init : xa_my xP 1 0 := ⟨xw_t (i := 29) rfl (by decide +kernel), by decide +kernel, by decide +kernel, by decide +kernel, by decide +kernel⟩
set_option maxRecDepth 100000 in
theorem my_G_init : xa_my xP 2 0 := ⟨xw_t (i := 80) rfl (by decide +kernel), by decide +kernel, by decide +kernel, by decide +kernel, by decide +kernel⟩
set_option maxRecDepth 100000 in
theorem my_Ci_init : xa_my xP 3 0 := ⟨xw_t (i := 128) rfl (by decide +kernel), by decide +kernel, by decide +kernel, by decide +kernel, by decide +kernel⟩
set_option maxRecDepth 100000 in
theorem my_Ga_init : xa_my xP 4 0 := ⟨xw_t (i := 135) rfl (by decide +kernel), by decide +kernel, by decide +kernel, by decide +kernel, by decide +kernel⟩
set_option maxRecDepth 100000 in
theorem my_L_init : xa_my xP 5 0 := ⟨xw_t (i := 175) rfl (by decide +kernel), by decide +kernel, by decide +kernel, by decide +kernel, by decide +kernel⟩
set_option maxRecDepth 100000 in
theorem my_L_spansOfAllProducts : xa_my xP 6 0 := ⟨xw_t (i := 179) rfl (by decide +kernel), by decide +kernel, by decide +kernel, by decide +kernel, by decide +kernel⟩
set_option maxRecDepth 100000 in
theorem my_CG_analyse : xa_my xP 7 0 := ⟨xw_t (i := 238) rfl (by decide +kernel), by decide +kernel, by decide +kernel, by decide +kernel, by decide +kernel⟩
set_option maxRecDepth 100000 in
theorem my_CG_discardResults : xa_my xP 8 0 := ⟨xw_t (i := 242) rfl (by decide +kernel), by decide +kernel, by decide +kernel, by decide +kernel, by decide +kernel⟩
set_option maxRecDepth 100000 in
theorem my_Ci_clear : xa_my xP 9 0 := ⟨xw_t (i := 246) rfl (by decide +kernel), by decide +kernel, by decide +kernel, by decide +kernel, by decide +kernel⟩
set_option maxRecDepth 100000 in
theorem my_Ga_clear : xa_my xP 10 0 := ⟨xw_t (i := 250) rfl (by decide +kernel), by decide +kernel, by decide +kernel, by decide +kernel, by decide +kernel⟩
set_option maxRecDepth 100000 in
theorem my_G_build : xa_my xP 11 1 := ⟨xw_t (i := 254) rfl (by decide +kernel), by decide +kernel, by decide +kernel, by decide +kernel, by decide +kernel⟩
set_option maxRecDepth 100000 in
theorem my_G_addState : xa_my xP 12 3 := ⟨xw_t (i := 258) rfl (by decide +kernel), by decide +kernel, by decide +kernel, by decide +kernel, by decide +kernel⟩
set_option maxRecDepth 100000 in
theorem my_G_expand : xa_my xP 13 2 := ⟨xw_t (i := 262) rfl (by decide +kernel), by decide +kernel, by decide +kernel, by decide +kernel, by decide +kernel⟩
set_option maxRecDepth 100000 in
theorem my_N_isEnabled : xa_my xP 14 2 := ⟨xw_t (i := 266) rfl (by decide +kernel), by decide +kernel, by decide +kernel, by decide +kernel, by decide +kernel⟩
set_option maxRecDepth 100000 in
theorem my_G_noteEnabled : xa_my xP 15 3 := ⟨xw_t (i := 270) rfl (by decide +kernel), by decide +kernel, by decide +kernel, by decide +kernel, by decide +kernel⟩
set_option maxRecDepth 100000 in
theorem my_N_edgeBit : xa_my xP 16 1 := ⟨xw_t (i := 274) rfl (by decide +kernel), by decide +kernel, by decide +kernel, by decide +kernel, by decide +kernel⟩
set_option maxRecDepth 100000 in
theorem my_N_levelAfter : xa_my xP 17 1 := ⟨xw_t (i := 278) rfl (by decide +kernel), by decide +kernel, by decide +kernel, by decide +kernel, by decide +kernel⟩
set_option maxRecDepth 100000 in
theorem my_N_signalOf : xa_my xP 18 1 := ⟨xw_t (i := 282) rfl (by decide +kernel), by decide +kernel, by decide +kernel, by decide +kernel, by decide +kernel⟩
set_option maxRecDepth 100000 in
theorem my_N_isInput : xa_my xP 19 1 := ⟨xw_t (i := 286) rfl (by decide +kernel), by decide +kernel, by decide +kernel, by decide +kernel, by decide +kernel⟩
set_option maxRecDepth 100000 in
theorem my_N_isSafe : xa_my xP 20 2 := ⟨xw_t (i := 290) rfl (by decide +kernel), by decide +kernel, by decide +kernel, by decide +kernel, by decide +kernel⟩
set_option maxRecDepth 100000 in
theorem my_N_isRight : xa_my xP 21 2 := ⟨xw_t (i := 294) rfl (by decide +kernel), by decide +kernel, by decide +kernel, by decide +kernel, by decide +kernel⟩
set_option maxRecDepth 100000 in
theorem my_G_fire : xa_my xP 22 3 := ⟨xw_t (i := 298) rfl (by decide +kernel), by decide +kernel, by decide +kernel, by decide +kernel, by decide +kernel⟩
set_option maxRecDepth 100000 in
theorem my_N_markingAfter : xa_my xP 23 2 := ⟨xw_t (i := 302) rfl (by decide +kernel), by decide +kernel, by decide +kernel, by decide +kernel, by decide +kernel⟩
set_option maxRecDepth 100000 in
theorem my_N_codeAfter : xa_my xP 24 2 := ⟨xw_t (i := 306) rfl (by decide +kernel), by decide +kernel, by decide +kernel, by decide +kernel, by decide +kernel⟩
set_option maxRecDepth 100000 in
theorem my_G_judge : xa_my xP 25 1 := ⟨xw_t (i := 310) rfl (by decide +kernel), by decide +kernel, by decide +kernel, by decide +kernel, by decide +kernel⟩
set_option maxRecDepth 100000 in
theorem my_G_leastDisablingState : xa_my xP 26 1 := ⟨xw_t (i := 314) rfl (by decide +kernel), by decide +kernel, by decide +kernel, by decide +kernel, by decide +kernel⟩
set_option maxRecDepth 100000 in
theorem my_G_successor : xa_my xP 27 2 := ⟨xw_t (i := 318) rfl (by decide +kernel), by decide +kernel, by decide +kernel, by decide +kernel, by decide +kernel⟩
set_option maxRecDepth 100000 in
theorem my_G_losesEdge : xa_my xP 28 3 := ⟨xw_t (i := 322) rfl (by decide +kernel), by decide +kernel, by decide +kernel, by decide +kernel, by decide +kernel⟩
set_option maxRecDepth 100000 in
theorem my_G_leastConflictingState : xa_my xP 29 0 := ⟨xw_t (i := 326) rfl (by decide +kernel), by decide +kernel, by decide +kernel, by decide +kernel, by decide +kernel⟩
set_option maxRecDepth 100000 in
theorem my_CG_fault : xa_my xP 30 0 := ⟨xw_t (i := 330) rfl (by decide +kernel), by decide +kernel, by decide +kernel, by decide +kernel, by decide +kernel⟩
set_option maxRecDepth 100000 in
theorem my_W_signal : xa_my xP 31 4 := ⟨xw_t (i := 333) rfl (by decide +kernel), by decide +kernel, by decide +kernel, by decide +kernel, by decide +kernel⟩
set_option maxRecDepth 100000 in
theorem my_CG_signal : xa_my xP 32 2 := ⟨xw_t (i := 338) rfl (by decide +kernel), by decide +kernel, by decide +kernel, by decide +kernel, by decide +kernel⟩
set_option maxRecDepth 100000 in
theorem my_N_addSignal : xa_my xP 33 2 := ⟨xw_t (i := 411) rfl (by decide +kernel), by decide +kernel, by decide +kernel, by decide +kernel, by decide +kernel⟩
set_option maxRecDepth 100000 in
theorem my_W_edge : xa_my xP 34 4 := ⟨xw_t (i := 414) rfl (by decide +kernel), by decide +kernel, by decide +kernel, by decide +kernel, by decide +kernel⟩
set_option maxRecDepth 100000 in
theorem my_CG_edge : xa_my xP 35 2 := ⟨xw_t (i := 419) rfl (by decide +kernel), by decide +kernel, by decide +kernel, by decide +kernel, by decide +kernel⟩
set_option maxRecDepth 100000 in
theorem my_CG_requireSignal : xa_my xP 36 1 := ⟨xw_t (i := 423) rfl (by decide +kernel), by decide +kernel, by decide +kernel, by decide +kernel, by decide +kernel⟩
set_option maxRecDepth 100000 in
theorem my_N_addEdge : xa_my xP 37 2 := ⟨xw_t (i := 444) rfl (by decide +kernel), by decide +kernel, by decide +kernel, by decide +kernel, by decide +kernel⟩
set_option maxRecDepth 100000 in
theorem my_W_place : xa_my xP 38 3 := ⟨xw_t (i := 447) rfl (by decide +kernel), by decide +kernel, by decide +kernel, by decide +kernel, by decide +kernel⟩
set_option maxRecDepth 100000 in
theorem my_CG_place : xa_my xP 39 1 := ⟨xw_t (i := 451) rfl (by decide +kernel), by decide +kernel, by decide +kernel, by decide +kernel, by decide +kernel⟩
set_option maxRecDepth 100000 in
theorem my_N_addPlace : xa_my xP 40 1 := ⟨xw_t (i := 456) rfl (by decide +kernel), by decide +kernel, by decide +kernel, by decide +kernel, by decide +kernel⟩
set_option maxRecDepth 100000 in
theorem my_W_arc : xa_my xP 41 4 := ⟨xw_t (i := 459) rfl (by decide +kernel), by decide +kernel, by decide +kernel, by decide +kernel, by decide +kernel⟩
set_option maxRecDepth 100000 in
theorem my_CG_arc : xa_my xP 42 3 := ⟨xw_t (i := 464) rfl (by decide +kernel), by decide +kernel, by decide +kernel, by decide +kernel, by decide +kernel⟩
set_option maxRecDepth 100000 in
theorem my_N_hasArc : xa_my xP 43 3 := ⟨xw_t (i := 470) rfl (by decide +kernel), by decide +kernel, by decide +kernel, by decide +kernel, by decide +kernel⟩
set_option maxRecDepth 100000 in
theorem my_N_addArc : xa_my xP 44 3 := ⟨xw_t (i := 490) rfl (by decide +kernel), by decide +kernel, by decide +kernel, by decide +kernel, by decide +kernel⟩
set_option maxRecDepth 100000 in
theorem my_W_states : xa_my xP 45 2 := ⟨xw_t (i := 493) rfl (by decide +kernel), by decide +kernel, by decide +kernel, by decide +kernel, by decide +kernel⟩
set_option maxRecDepth 100000 in
theorem my_CG_states : xa_my xP 46 0 := ⟨xw_t (i := 497) rfl (by decide +kernel), by decide +kernel, by decide +kernel, by decide +kernel, by decide +kernel⟩
set_option maxRecDepth 100000 in
theorem my_CG_requireGraph : xa_my xP 47 0 := ⟨xw_t (i := 501) rfl (by decide +kernel), by decide +kernel, by decide +kernel, by decide +kernel, by decide +kernel⟩
set_option maxRecDepth 100000 in
theorem my_W_code : xa_my xP 48 3 := ⟨xw_t (i := 505) rfl (by decide +kernel), by decide +kernel, by decide +kernel, by decide +kernel, by decide +kernel⟩
set_option maxRecDepth 100000 in
theorem my_CG_code : xa_my xP 49 1 := ⟨xw_t (i := 509) rfl (by decide +kernel), by decide +kernel, by decide +kernel, by decide +kernel, by decide +kernel⟩
set_option maxRecDepth 100000 in
theorem my_CG_requireState : xa_my xP 50 1 := ⟨xw_t (i := 513) rfl (by decide +kernel), by decide +kernel, by decide +kernel, by decide +kernel, by decide +kernel⟩
set_option maxRecDepth 100000 in
theorem my_W_marking : xa_my xP 51 3 := ⟨xw_t (i := 517) rfl (by decide +kernel), by decide +kernel, by decide +kernel, by decide +kernel, by decide +kernel⟩
set_option maxRecDepth 100000 in
theorem my_CG_marking : xa_my xP 52 1 := ⟨xw_t (i := 521) rfl (by decide +kernel), by decide +kernel, by decide +kernel, by decide +kernel, by decide +kernel⟩
set_option maxRecDepth 100000 in
theorem my_W_found : xa_my xP 53 3 := ⟨xw_t (i := 524) rfl (by decide +kernel), by decide +kernel, by decide +kernel, by decide +kernel, by decide +kernel⟩
set_option maxRecDepth 100000 in
theorem my_CG_found : xa_my xP 54 1 := ⟨xw_t (i := 528) rfl (by decide +kernel), by decide +kernel, by decide +kernel, by decide +kernel, by decide +kernel⟩
set_option maxRecDepth 100000 in
theorem my_W_excited : xa_my xP 55 3 := ⟨xw_t (i := 531) rfl (by decide +kernel), by decide +kernel, by decide +kernel, by decide +kernel, by decide +kernel⟩
set_option maxRecDepth 100000 in
theorem my_CG_excited : xa_my xP 56 1 := ⟨xw_t (i := 535) rfl (by decide +kernel), by decide +kernel, by decide +kernel, by decide +kernel, by decide +kernel⟩
set_option maxRecDepth 100000 in
theorem my_W_synthesise : xa_my xP 57 2 := ⟨xw_t (i := 538) rfl (by decide +kernel), by decide +kernel, by decide +kernel, by decide +kernel, by decide +kernel⟩
set_option maxRecDepth 100000 in
theorem my_CG_synthesise : xa_my xP 58 0 := ⟨xw_t (i := 543) rfl (by decide +kernel), by decide +kernel, by decide +kernel, by decide +kernel, by decide +kernel⟩
set_option maxRecDepth 100000 in
theorem my_CG_requireFine : xa_my xP 59 0 := ⟨xw_t (i := 547) rfl (by decide +kernel), by decide +kernel, by decide +kernel, by decide +kernel, by decide +kernel⟩
set_option maxRecDepth 100000 in
theorem my_CG_makeDraft : xa_my xP 60 1 := ⟨xw_t (i := 552) rfl (by decide +kernel), by decide +kernel, by decide +kernel, by decide +kernel, by decide +kernel⟩
set_option maxRecDepth 100000 in
theorem my_G_codesWithNext : xa_my xP 61 2 := ⟨xw_t (i := 558) rfl (by decide +kernel), by decide +kernel, by decide +kernel, by decide +kernel, by decide +kernel⟩
set_option maxRecDepth 100000 in
theorem my_G_isExcited : xa_my xP 62 2 := ⟨xw_t (i := 562) rfl (by decide +kernel), by decide +kernel, by decide +kernel, by decide +kernel, by decide +kernel⟩
set_option maxRecDepth 100000 in
theorem my_L_find : xa_my xP 63 3 := ⟨xw_t (i := 566) rfl (by decide +kernel), by decide +kernel, by decide +kernel, by decide +kernel, by decide +kernel⟩
set_option maxRecDepth 100000 in
theorem my_L_collectPrimes : xa_my xP 64 3 := ⟨xw_t (i := 570) rfl (by decide +kernel), by decide +kernel, by decide +kernel, by decide +kernel, by decide +kernel⟩
set_option maxRecDepth 100000 in
theorem my_L_isPrime : xa_my xP 65 3 := ⟨xw_t (i := 574) rfl (by decide +kernel), by decide +kernel, by decide +kernel, by decide +kernel, by decide +kernel⟩
set_option maxRecDepth 100000 in
theorem my_L_digit : xa_my xP 66 2 := ⟨xw_t (i := 577) rfl (by decide +kernel), by decide +kernel, by decide +kernel, by decide +kernel, by decide +kernel⟩
set_option maxRecDepth 100000 in
theorem my_L_fixedDigits : xa_my xP 67 2 := ⟨xw_t (i := 580) rfl (by decide +kernel), by decide +kernel, by decide +kernel, by decide +kernel, by decide +kernel⟩
set_option maxRecDepth 100000 in
theorem my_JI_bitCount : xa_my xP 68 1 := ⟨xw_t (i := 583) rfl (by decide +kernel), by decide +kernel, by decide +kernel, by decide +kernel, by decide +kernel⟩
set_option maxRecDepth 100000 in
theorem my_L_countRivals : xa_my xP 69 0 := ⟨xw_t (i := 593) rfl (by decide +kernel), by decide +kernel, by decide +kernel, by decide +kernel, by decide +kernel⟩
set_option maxRecDepth 100000 in
theorem my_L_search : xa_my xP 70 4 := ⟨xw_t (i := 596) rfl (by decide +kernel), by decide +kernel, by decide +kernel, by decide +kernel, by decide +kernel⟩
set_option maxRecDepth 100000 in
theorem my_L_keepIfLess : xa_my xP 71 1 := ⟨xw_t (i := 600) rfl (by decide +kernel), by decide +kernel, by decide +kernel, by decide +kernel, by decide +kernel⟩
set_option maxRecDepth 100000 in
theorem my_L_takenComesFirst : xa_my xP 72 0 := ⟨xw_t (i := 604) rfl (by decide +kernel), by decide +kernel, by decide +kernel, by decide +kernel, by decide +kernel⟩
set_option maxRecDepth 100000 in
theorem my_L_leastCostOf : xa_my xP 73 1 := ⟨xw_t (i := 608) rfl (by decide +kernel), by decide +kernel, by decide +kernel, by decide +kernel, by decide +kernel⟩
set_option maxRecDepth 100000 in
theorem my_L_codeWithFewestRivals : xa_my xP 74 1 := ⟨xw_t (i := 612) rfl (by decide +kernel), by decide +kernel, by decide +kernel, by decide +kernel, by decide +kernel⟩
set_option maxRecDepth 100000 in
theorem my_L_liftBars : xa_my xP 75 1 := ⟨xw_t (i := 616) rfl (by decide +kernel), by decide +kernel, by decide +kernel, by decide +kernel, by decide +kernel⟩
set_option maxRecDepth 100000 in
theorem my_L_giveTo : xa_my xP 76 1 := ⟨xw_t (i := 620) rfl (by decide +kernel), by decide +kernel, by decide +kernel, by decide +kernel, by decide +kernel⟩
set_option maxRecDepth 100000 in
theorem my_Ga_add : xa_my xP 77 2 := ⟨xw_t (i := 624) rfl (by decide +kernel), by decide +kernel, by decide +kernel, by decide +kernel, by decide +kernel⟩
set_option maxRecDepth 100000 in
theorem my_Ci_adoptDrafts : xa_my xP 78 0 := ⟨xw_t (i := 644) rfl (by decide +kernel), by decide +kernel, by decide +kernel, by decide +kernel, by decide +kernel⟩
set_option maxRecDepth 100000 in
theorem my_W_products : xa_my xP 79 3 := ⟨xw_t (i := 647) rfl (by decide +kernel), by decide +kernel, by decide +kernel, by decide +kernel, by decide +kernel⟩
set_option maxRecDepth 100000 in
theorem my_CG_products : xa_my xP 80 1 := ⟨xw_t (i := 651) rfl (by decide +kernel), by decide +kernel, by decide +kernel, by decide +kernel, by decide +kernel⟩
set_option maxRecDepth 100000 in
theorem my_W_product : xa_my xP 81 4 := ⟨xw_t (i := 654) rfl (by decide +kernel), by decide +kernel, by decide +kernel, by decide +kernel, by decide +kernel⟩
set_option maxRecDepth 100000 in
theorem my_CG_product : xa_my xP 82 2 := ⟨xw_t (i := 658) rfl (by decide +kernel), by decide +kernel, by decide +kernel, by decide +kernel, by decide +kernel⟩
set_option maxRecDepth 100000 in
theorem my_W_append : xa_my xP 83 4 := ⟨xw_t (i := 662) rfl (by decide +kernel), by decide +kernel, by decide +kernel, by decide +kernel, by decide +kernel⟩
set_option maxRecDepth 100000 in
theorem my_CG_append : xa_my xP 84 2 := ⟨xw_t (i := 666) rfl (by decide +kernel), by decide +kernel, by decide +kernel, by decide +kernel, by decide +kernel⟩
set_option maxRecDepth 100000 in
theorem my_L_spanOf : xa_my xP 85 1 := ⟨xw_t (i := 674) rfl (by decide +kernel), by decide +kernel, by decide +kernel, by decide +kernel, by decide +kernel⟩
set_option maxRecDepth 100000 in
theorem my_W_strip : xa_my xP 86 2 := ⟨xw_t (i := 678) rfl (by decide +kernel), by decide +kernel, by decide +kernel, by decide +kernel, by decide +kernel⟩
set_option maxRecDepth 100000 in
theorem my_CG_strip : xa_my xP 87 1 := ⟨xw_t (i := 682) rfl (by decide +kernel), by decide +kernel, by decide +kernel, by decide +kernel, by decide +kernel⟩
set_option maxRecDepth 100000 in
theorem my_W_value : xa_my xP 88 4 := ⟨xw_t (i := 685) rfl (by decide +kernel), by decide +kernel, by decide +kernel, by decide +kernel, by decide +kernel⟩
set_option maxRecDepth 100000 in
theorem my_CG_value : xa_my xP 89 2 := ⟨xw_t (i := 689) rfl (by decide +kernel), by decide +kernel, by decide +kernel, by decide +kernel, by decide +kernel⟩
set_option maxRecDepth 100000 in
theorem my_Ga_output : xa_my xP 90 1 := ⟨xw_t (i := 694) rfl (by decide +kernel), by decide +kernel, by decide +kernel, by decide +kernel, by decide +kernel⟩
set_option maxRecDepth 100000 in
theorem my_W_check : xa_my xP 91 2 := ⟨xw_t (i := 697) rfl (by decide +kernel), by decide +kernel, by decide +kernel, by decide +kernel, by decide +kernel⟩
set_option maxRecDepth 100000 in
theorem my_CG_check : xa_my xP 92 0 := ⟨xw_t (i := 701) rfl (by decide +kernel), by decide +kernel, by decide +kernel, by decide +kernel, by decide +kernel⟩
set_option maxRecDepth 100000 in
theorem my_Ci_explore : xa_my xP 93 2 := ⟨xw_t (i := 705) rfl (by decide +kernel), by decide +kernel, by decide +kernel, by decide +kernel, by decide +kernel⟩
set_option maxRecDepth 100000 in
theorem my_Ci_reachStates : xa_my xP 94 2 := ⟨xw_t (i := 709) rfl (by decide +kernel), by decide +kernel, by decide +kernel, by decide +kernel, by decide +kernel⟩
set_option maxRecDepth 100000 in
theorem my_Ci_reach : xa_my xP 95 1 := ⟨xw_t (i := 713) rfl (by decide +kernel), by decide +kernel, by decide +kernel, by decide +kernel, by decide +kernel⟩
set_option maxRecDepth 100000 in
theorem my_Ci_mayFire : xa_my xP 96 4 := ⟨xw_t (i := 717) rfl (by decide +kernel), by decide +kernel, by decide +kernel, by decide +kernel, by decide +kernel⟩
set_option maxRecDepth 100000 in
theorem my_Ci_leastFaultyState : xa_my xP 97 3 := ⟨xw_t (i := 726) rfl (by decide +kernel), by decide +kernel, by decide +kernel, by decide +kernel, by decide +kernel⟩
set_option maxRecDepth 100000 in
theorem my_Ci_isFaulty : xa_my xP 98 5 := ⟨xw_t (i := 730) rfl (by decide +kernel), by decide +kernel, by decide +kernel, by decide +kernel, by decide +kernel⟩
set_option maxRecDepth 100000 in
theorem my_Ci_acts : xa_my xP 99 2 := ⟨xw_t (i := 734) rfl (by decide +kernel), by decide +kernel, by decide +kernel, by decide +kernel, by decide +kernel⟩
set_option maxRecDepth 100000 in
theorem my_Ci_mayStopActing : xa_my xP 100 4 := ⟨xw_t (i := 738) rfl (by decide +kernel), by decide +kernel, by decide +kernel, by decide +kernel, by decide +kernel⟩
set_option maxRecDepth 100000 in
theorem my_M_init : xa_my xP 101 0 := ⟨xw_t (i := 744) rfl (by decide +kernel), by decide +kernel, by decide +kernel, by decide +kernel, by decide +kernel⟩
set_option maxRecDepth 100000 in
theorem my_M_thrown : xa_my xP 102 0 := ⟨xw_t (i := 840) rfl (by decide +kernel), by decide +kernel, by decide +kernel, by decide +kernel, by decide +kernel⟩
set_option maxRecDepth 100000 in
theorem my_M_signal : xa_my xP 103 2 := ⟨xw_t (i := 844) rfl (by decide +kernel), by decide +kernel, by decide +kernel, by decide +kernel, by decide +kernel⟩
set_option maxRecDepth 100000 in
theorem my_M_discard : xa_my xP 104 0 := ⟨xw_t (i := 848) rfl (by decide +kernel), by decide +kernel, by decide +kernel, by decide +kernel, by decide +kernel⟩
set_option maxRecDepth 100000 in
theorem my_M_edge : xa_my xP 105 2 := ⟨xw_t (i := 852) rfl (by decide +kernel), by decide +kernel, by decide +kernel, by decide +kernel, by decide +kernel⟩
set_option maxRecDepth 100000 in
theorem my_M_noSignal : xa_my xP 106 1 := ⟨xw_t (i := 856) rfl (by decide +kernel), by decide +kernel, by decide +kernel, by decide +kernel, by decide +kernel⟩
set_option maxRecDepth 100000 in
theorem my_M_place : xa_my xP 107 1 := ⟨xw_t (i := 860) rfl (by decide +kernel), by decide +kernel, by decide +kernel, by decide +kernel, by decide +kernel⟩
set_option maxRecDepth 100000 in
theorem my_M_arc : xa_my xP 108 3 := ⟨xw_t (i := 864) rfl (by decide +kernel), by decide +kernel, by decide +kernel, by decide +kernel, by decide +kernel⟩
set_option maxRecDepth 100000 in
theorem my_M_analyse : xa_my xP 109 0 := ⟨xw_t (i := 868) rfl (by decide +kernel), by decide +kernel, by decide +kernel, by decide +kernel, by decide +kernel⟩
set_option maxRecDepth 100000 in
theorem my_M_explore : xa_my xP 110 0 := ⟨xw_t (i := 872) rfl (by decide +kernel), by decide +kernel, by decide +kernel, by decide +kernel, by decide +kernel⟩
set_option maxRecDepth 100000 in
theorem my_M_enabled : xa_my xP 111 2 := ⟨xw_t (i := 876) rfl (by decide +kernel), by decide +kernel, by decide +kernel, by decide +kernel, by decide +kernel⟩
set_option maxRecDepth 100000 in
theorem my_M_safe : xa_my xP 112 2 := ⟨xw_t (i := 880) rfl (by decide +kernel), by decide +kernel, by decide +kernel, by decide +kernel, by decide +kernel⟩
set_option maxRecDepth 100000 in
theorem my_M_right : xa_my xP 113 2 := ⟨xw_t (i := 884) rfl (by decide +kernel), by decide +kernel, by decide +kernel, by decide +kernel, by decide +kernel⟩
set_option maxRecDepth 100000 in
theorem my_M_markAfter : xa_my xP 114 2 := ⟨xw_t (i := 888) rfl (by decide +kernel), by decide +kernel, by decide +kernel, by decide +kernel, by decide +kernel⟩
set_option maxRecDepth 100000 in
theorem my_M_codeAfter : xa_my xP 115 2 := ⟨xw_t (i := 892) rfl (by decide +kernel), by decide +kernel, by decide +kernel, by decide +kernel, by decide +kernel⟩
set_option maxRecDepth 100000 in
theorem my_M_find : xa_my xP 116 2 := ⟨xw_t (i := 896) rfl (by decide +kernel), by decide +kernel, by decide +kernel, by decide +kernel, by decide +kernel⟩
set_option maxRecDepth 100000 in
theorem my_M_bad : xa_my xP 117 2 := ⟨xw_t (i := 900) rfl (by decide +kernel), by decide +kernel, by decide +kernel, by decide +kernel, by decide +kernel⟩
set_option maxRecDepth 100000 in
theorem my_M_loses : xa_my xP 118 1 := ⟨xw_t (i := 904) rfl (by decide +kernel), by decide +kernel, by decide +kernel, by decide +kernel, by decide +kernel⟩
set_option maxRecDepth 100000 in
theorem my_M_sameEdge : xa_my xP 119 2 := ⟨xw_t (i := 908) rfl (by decide +kernel), by decide +kernel, by decide +kernel, by decide +kernel, by decide +kernel⟩
set_option maxRecDepth 100000 in
theorem my_M_edgeEnabled : xa_my xP 120 2 := ⟨xw_t (i := 912) rfl (by decide +kernel), by decide +kernel, by decide +kernel, by decide +kernel, by decide +kernel⟩
set_option maxRecDepth 100000 in
theorem my_M_conflicts : xa_my xP 121 1 := ⟨xw_t (i := 916) rfl (by decide +kernel), by decide +kernel, by decide +kernel, by decide +kernel, by decide +kernel⟩
set_option maxRecDepth 100000 in
theorem my_M_excitedIn : xa_my xP 122 1 := ⟨xw_t (i := 920) rfl (by decide +kernel), by decide +kernel, by decide +kernel, by decide +kernel, by decide +kernel⟩
set_option maxRecDepth 100000 in
theorem my_M_states : xa_my xP 123 0 := ⟨xw_t (i := 924) rfl (by decide +kernel), by decide +kernel, by decide +kernel, by decide +kernel, by decide +kernel⟩
set_option maxRecDepth 100000 in
theorem my_M_noGraph : xa_my xP 124 0 := ⟨xw_t (i := 928) rfl (by decide +kernel), by decide +kernel, by decide +kernel, by decide +kernel, by decide +kernel⟩
set_option maxRecDepth 100000 in
theorem my_M_code : xa_my xP 125 1 := ⟨xw_t (i := 932) rfl (by decide +kernel), by decide +kernel, by decide +kernel, by decide +kernel, by decide +kernel⟩
set_option maxRecDepth 100000 in
theorem my_M_noState : xa_my xP 126 1 := ⟨xw_t (i := 936) rfl (by decide +kernel), by decide +kernel, by decide +kernel, by decide +kernel, by decide +kernel⟩
set_option maxRecDepth 100000 in
theorem my_M_marking : xa_my xP 127 1 := ⟨xw_t (i := 940) rfl (by decide +kernel), by decide +kernel, by decide +kernel, by decide +kernel, by decide +kernel⟩
set_option maxRecDepth 100000 in
theorem my_M_found : xa_my xP 128 1 := ⟨xw_t (i := 944) rfl (by decide +kernel), by decide +kernel, by decide +kernel, by decide +kernel, by decide +kernel⟩
set_option maxRecDepth 100000 in
theorem my_M_excited : xa_my xP 129 1 := ⟨xw_t (i := 948) rfl (by decide +kernel), by decide +kernel, by decide +kernel, by decide +kernel, by decide +kernel⟩
set_option maxRecDepth 100000 in
theorem my_M_fault : xa_my xP 130 0 := ⟨xw_t (i := 952) rfl (by decide +kernel), by decide +kernel, by decide +kernel, by decide +kernel, by decide +kernel⟩
set_option maxRecDepth 100000 in
theorem my_M_synthesise : xa_my xP 131 0 := ⟨xw_t (i := 956) rfl (by decide +kernel), by decide +kernel, by decide +kernel, by decide +kernel, by decide +kernel⟩
set_option maxRecDepth 100000 in
theorem my_M_leastSum : xa_my xP 132 1 := ⟨xw_t (i := 960) rfl (by decide +kernel), by decide +kernel, by decide +kernel, by decide +kernel, by decide +kernel⟩
set_option maxRecDepth 100000 in
theorem my_M_codesOf : xa_my xP 133 2 := ⟨xw_t (i := 964) rfl (by decide +kernel), by decide +kernel, by decide +kernel, by decide +kernel, by decide +kernel⟩
set_option maxRecDepth 100000 in
theorem my_M_tabulate : xa_my xP 134 1 := ⟨xw_t (i := 968) rfl (by decide +kernel), by decide +kernel, by decide +kernel, by decide +kernel, by decide +kernel⟩
set_option maxRecDepth 100000 in
theorem my_M_three : xa_my xP 135 1 := ⟨xw_t (i := 971) rfl (by decide +kernel), by decide +kernel, by decide +kernel, by decide +kernel, by decide +kernel⟩
set_option maxRecDepth 100000 in
theorem my_M_covers : xa_my xP 136 2 := ⟨xw_t (i := 975) rfl (by decide +kernel), by decide +kernel, by decide +kernel, by decide +kernel, by decide +kernel⟩
set_option maxRecDepth 100000 in
theorem my_M_tryCovers : xa_my xP 137 2 := ⟨xw_t (i := 979) rfl (by decide +kernel), by decide +kernel, by decide +kernel, by decide +kernel, by decide +kernel⟩
set_option maxRecDepth 100000 in
theorem my_M_open : xa_my xP 138 2 := ⟨xw_t (i := 982) rfl (by decide +kernel), by decide +kernel, by decide +kernel, by decide +kernel, by decide +kernel⟩
set_option maxRecDepth 100000 in
theorem my_M_nextPrime : xa_my xP 139 2 := ⟨xw_t (i := 986) rfl (by decide +kernel), by decide +kernel, by decide +kernel, by decide +kernel, by decide +kernel⟩
set_option maxRecDepth 100000 in
theorem my_M_judge : xa_my xP 140 1 := ⟨xw_t (i := 990) rfl (by decide +kernel), by decide +kernel, by decide +kernel, by decide +kernel, by decide +kernel⟩
set_option maxRecDepth 100000 in
theorem my_M_digits : xa_my xP 141 1 := ⟨xw_t (i := 994) rfl (by decide +kernel), by decide +kernel, by decide +kernel, by decide +kernel, by decide +kernel⟩
set_option maxRecDepth 100000 in
theorem my_M_products : xa_my xP 142 1 := ⟨xw_t (i := 998) rfl (by decide +kernel), by decide +kernel, by decide +kernel, by decide +kernel, by decide +kernel⟩
set_option maxRecDepth 100000 in
theorem my_M_product : xa_my xP 143 2 := ⟨xw_t (i := 1002) rfl (by decide +kernel), by decide +kernel, by decide +kernel, by decide +kernel, by decide +kernel⟩
set_option maxRecDepth 100000 in
theorem my_M_append : xa_my xP 144 2 := ⟨xw_t (i := 1006) rfl (by decide +kernel), by decide +kernel, by decide +kernel, by decide +kernel, by decide +kernel⟩
set_option maxRecDepth 100000 in
theorem my_M_strip : xa_my xP 145 1 := ⟨xw_t (i := 1010) rfl (by decide +kernel), by decide +kernel, by decide +kernel, by decide +kernel, by decide +kernel⟩
set_option maxRecDepth 100000 in
theorem my_M_value : xa_my xP 146 2 := ⟨xw_t (i := 1014) rfl (by decide +kernel), by decide +kernel, by decide +kernel, by decide +kernel, by decide +kernel⟩
set_option maxRecDepth 100000 in
theorem my_M_valueOf : xa_my xP 147 2 := ⟨xw_t (i := 1018) rfl (by decide +kernel), by decide +kernel, by decide +kernel, by decide +kernel, by decide +kernel⟩
set_option maxRecDepth 100000 in
theorem my_M_check : xa_my xP 148 0 := ⟨xw_t (i := 1022) rfl (by decide +kernel), by decide +kernel, by decide +kernel, by decide +kernel, by decide +kernel⟩
set_option maxRecDepth 100000 in
theorem my_M_comeTo : xa_my xP 149 0 := ⟨xw_t (i := 1026) rfl (by decide +kernel), by decide +kernel, by decide +kernel, by decide +kernel, by decide +kernel⟩
set_option maxRecDepth 100000 in
theorem my_M_fires : xa_my xP 150 2 := ⟨xw_t (i := 1030) rfl (by decide +kernel), by decide +kernel, by decide +kernel, by decide +kernel, by decide +kernel⟩
set_option maxRecDepth 100000 in
theorem my_M_acts : xa_my xP 151 2 := ⟨xw_t (i := 1034) rfl (by decide +kernel), by decide +kernel, by decide +kernel, by decide +kernel, by decide +kernel⟩
set_option maxRecDepth 100000 in
theorem my_M_hazard : xa_my xP 152 1 := ⟨xw_t (i := 1038) rfl (by decide +kernel), by decide +kernel, by decide +kernel, by decide +kernel, by decide +kernel⟩
set_option maxRecDepth 100000 in
theorem my_M_unexpected : xa_my xP 153 1 := ⟨xw_t (i := 1042) rfl (by decide +kernel), by decide +kernel, by decide +kernel, by decide +kernel, by decide +kernel⟩
set_option maxRecDepth 100000 in
theorem my_M_missing : xa_my xP 154 1 := ⟨xw_t (i := 1046) rfl (by decide +kernel), by decide +kernel, by decide +kernel, by decide +kernel, by decide +kernel⟩
theorem ki_CG_9 : xa_lkI xP "ClocklessGates" 9 1 0 := ⟨Or.inr ⟨"ClocklessGates", xw_t (i := 27) (by decide +kernel) (by decide +kernel)⟩, xw_t (i := 28) (by decide +kernel) (by decide +kernel), rfl, rfl, rfl, my_N_init, by decide +kernel⟩
theorem fg_CG_10 : xa_fld xP "ClocklessGates" 10 0 0 := ⟨_, _, _, _, k_CG, by decide, Or.inl (xw_t (i := 216) (by decide +kernel) (by decide +kernel))⟩
theorem ff_CG_10 : xa_fldF xP "ClocklessGates" 10 0 0 (.object "ClocklessGates$Net") := ⟨_, _, _, _, k_CG, by decide, rfl, rfl, rfl, xw_t (i := 216) (by decide +kernel) (by decide +kernel)⟩
theorem ki_CG_18 : xa_lkI xP "ClocklessGates" 18 2 0 := ⟨Or.inr ⟨"ClocklessGates", xw_t (i := 78) (by decide +kernel) (by decide +kernel)⟩, xw_t (i := 79) (by decide +kernel) (by decide +kernel), rfl, rfl, rfl, my_G_init, by decide +kernel⟩
theorem fg_CG_19 : xa_fld xP "ClocklessGates" 19 0 1 := ⟨_, _, _, _, k_CG, by decide, Or.inl (xw_t (i := 217) (by decide +kernel) (by decide +kernel))⟩
theorem ff_CG_19 : xa_fldF xP "ClocklessGates" 19 0 1 (.object "ClocklessGates$Graph") := ⟨_, _, _, _, k_CG, by decide, rfl, rfl, rfl, xw_t (i := 217) (by decide +kernel) (by decide +kernel)⟩
theorem ki_CG_25 : xa_lkI xP "ClocklessGates" 25 3 0 := ⟨Or.inl (xw_t (i := 126) (by decide +kernel) (by decide +kernel)), xw_t (i := 127) (by decide +kernel) (by decide +kernel), rfl, rfl, rfl, my_Ci_init, by decide +kernel⟩
theorem fg_CG_26 : xa_fld xP "ClocklessGates" 26 0 2 := ⟨_, _, _, _, k_CG, by decide, Or.inl (xw_t (i := 218) (by decide +kernel) (by decide +kernel))⟩
theorem ff_CG_26 : xa_fldF xP "ClocklessGates" 26 0 2 (.object "ClocklessGates$Circuit") := ⟨_, _, _, _, k_CG, by decide, rfl, rfl, rfl, xw_t (i := 218) (by decide +kernel) (by decide +kernel)⟩
theorem ki_CG_32 : xa_lkI xP "ClocklessGates" 32 5 0 := ⟨Or.inl (xw_t (i := 173) (by decide +kernel) (by decide +kernel)), xw_t (i := 174) (by decide +kernel) (by decide +kernel), rfl, rfl, rfl, my_L_init, by decide +kernel⟩
theorem fg_CG_33 : xa_fld xP "ClocklessGates" 33 0 3 := ⟨_, _, _, _, k_CG, by decide, Or.inl (xw_t (i := 219) (by decide +kernel) (by decide +kernel))⟩
theorem ff_CG_33 : xa_fldF xP "ClocklessGates" 33 0 3 (.object "ClocklessGates$LeastSum") := ⟨_, _, _, _, k_CG, by decide, rfl, rfl, rfl, xw_t (i := 219) (by decide +kernel) (by decide +kernel)⟩
theorem fg_CG_37 : xa_fld xP "ClocklessGates" 37 0 4 := ⟨_, _, _, _, k_CG, by decide, Or.inl (xw_t (i := 220) (by decide +kernel) (by decide +kernel))⟩
theorem fp_CG_37 : xa_fldP xP "ClocklessGates" 37 0 4 (.int) := ⟨_, _, _, _, k_CG, by decide, rfl, rfl, Or.inl (xw_t (i := 220) (by decide +kernel) (by decide +kernel))⟩
theorem fg_CG_41 : xa_fld xP "ClocklessGates" 41 0 5 := ⟨_, _, _, _, k_CG, by decide, Or.inl (xw_t (i := 221) (by decide +kernel) (by decide +kernel))⟩
theorem fp_CG_41 : xa_fldP xP "ClocklessGates" 41 0 5 (.int) := ⟨_, _, _, _, k_CG, by decide, rfl, rfl, Or.inl (xw_t (i := 221) (by decide +kernel) (by decide +kernel))⟩
theorem fg_CG_44 : xa_fld xP "ClocklessGates" 44 1 0 := ⟨_, _, _, _, k_N, by decide, Or.inl (xw_t (i := 32) (by decide +kernel) (by decide +kernel))⟩
theorem kv_CG_54 : xa_lkV xP "ClocklessGates" 54 0 8 0 := ⟨Or.inl (xw_t (i := 239) (by decide +kernel) (by decide +kernel)), xw_t (i := 241) (by decide +kernel) (by decide +kernel), ⟨_, _, rfl⟩, xw_s (i := 0) (q := (⟨"ClocklessGates", "discardResults", "()V"⟩, 6)) (by decide +kernel) (by decide +kernel), my_CG_discardResults, by decide +kernel⟩
theorem kv_CG_57 : xa_lkV xP "ClocklessGates" 57 1 33 2 := ⟨Or.inl (xw_t (i := 408) (by decide +kernel) (by decide +kernel)), xw_t (i := 409) (by decide +kernel) (by decide +kernel), ⟨_, _, rfl⟩, xw_t (i := 410) (by decide +kernel) (by decide +kernel), my_N_addSignal, by decide +kernel⟩
theorem kv_CG_61 : xa_lkV xP "ClocklessGates" 61 0 36 1 := ⟨Or.inl (xw_t (i := 420) (by decide +kernel) (by decide +kernel)), xw_t (i := 422) (by decide +kernel) (by decide +kernel), ⟨_, _, rfl⟩, xw_s (i := 9) (q := (⟨"ClocklessGates", "requireSignal", "(I)V"⟩, 6)) (by decide +kernel) (by decide +kernel), my_CG_requireSignal, by decide +kernel⟩
theorem fg_CG_65 : xa_fld xP "ClocklessGates" 65 1 1 := ⟨_, _, _, _, k_N, by decide, Or.inl (xw_t (i := 35) (by decide +kernel) (by decide +kernel))⟩
theorem kv_CG_70 : xa_lkV xP "ClocklessGates" 70 1 37 2 := ⟨Or.inl (xw_t (i := 441) (by decide +kernel) (by decide +kernel)), xw_t (i := 442) (by decide +kernel) (by decide +kernel), ⟨_, _, rfl⟩, xw_t (i := 443) (by decide +kernel) (by decide +kernel), my_N_addEdge, by decide +kernel⟩
theorem fg_CG_74 : xa_fld xP "ClocklessGates" 74 1 2 := ⟨_, _, _, _, k_N, by decide, Or.inl (xw_t (i := 38) (by decide +kernel) (by decide +kernel))⟩
theorem kv_CG_79 : xa_lkV xP "ClocklessGates" 79 1 40 1 := ⟨Or.inl (xw_t (i := 453) (by decide +kernel) (by decide +kernel)), xw_t (i := 454) (by decide +kernel) (by decide +kernel), ⟨_, _, rfl⟩, xw_t (i := 455) (by decide +kernel) (by decide +kernel), my_N_addPlace, by decide +kernel⟩
theorem kv_CG_90 : xa_lkV xP "ClocklessGates" 90 1 43 3 := ⟨Or.inl (xw_t (i := 467) (by decide +kernel) (by decide +kernel)), xw_t (i := 468) (by decide +kernel) (by decide +kernel), ⟨_, _, rfl⟩, xw_t (i := 469) (by decide +kernel) (by decide +kernel), my_N_hasArc, by decide +kernel⟩
theorem kv_CG_99 : xa_lkV xP "ClocklessGates" 99 1 44 3 := ⟨Or.inl (xw_t (i := 487) (by decide +kernel) (by decide +kernel)), xw_t (i := 488) (by decide +kernel) (by decide +kernel), ⟨_, _, rfl⟩, xw_t (i := 489) (by decide +kernel) (by decide +kernel), my_N_addArc, by decide +kernel⟩
theorem kv_CG_103 : xa_lkV xP "ClocklessGates" 103 2 11 1 := ⟨Or.inl (xw_t (i := 251) (by decide +kernel) (by decide +kernel)), xw_t (i := 252) (by decide +kernel) (by decide +kernel), ⟨_, _, rfl⟩, xw_t (i := 253) (by decide +kernel) (by decide +kernel), my_G_build, by decide +kernel⟩
theorem kv_CG_107 : xa_lkV xP "ClocklessGates" 107 2 25 1 := ⟨Or.inl (xw_t (i := 307) (by decide +kernel) (by decide +kernel)), xw_t (i := 308) (by decide +kernel) (by decide +kernel), ⟨_, _, rfl⟩, xw_t (i := 309) (by decide +kernel) (by decide +kernel), my_G_judge, by decide +kernel⟩
theorem fg_CG_111 : xa_fld xP "ClocklessGates" 111 2 1 := ⟨_, _, _, _, k_G, by decide, Or.inl (xw_t (i := 85) (by decide +kernel) (by decide +kernel))⟩
theorem kv_CG_114 : xa_lkV xP "ClocklessGates" 114 0 47 0 := ⟨Or.inl (xw_t (i := 498) (by decide +kernel) (by decide +kernel)), xw_t (i := 500) (by decide +kernel) (by decide +kernel), ⟨_, _, rfl⟩, xw_s (i := 10) (q := (⟨"ClocklessGates", "requireGraph", "()V"⟩, 6)) (by decide +kernel) (by decide +kernel), my_CG_requireGraph, by decide +kernel⟩
theorem fg_CG_117 : xa_fld xP "ClocklessGates" 117 2 0 := ⟨_, _, _, _, k_G, by decide, Or.inl (xw_t (i := 83) (by decide +kernel) (by decide +kernel))⟩
theorem fp_CG_117 : xa_fldP xP "ClocklessGates" 117 2 0 (.int) := ⟨_, _, _, _, k_G, by decide, rfl, rfl, Or.inl (xw_t (i := 83) (by decide +kernel) (by decide +kernel))⟩
theorem kv_CG_120 : xa_lkV xP "ClocklessGates" 120 0 50 1 := ⟨Or.inl (xw_t (i := 510) (by decide +kernel) (by decide +kernel)), xw_t (i := 512) (by decide +kernel) (by decide +kernel), ⟨_, _, rfl⟩, xw_s (i := 11) (q := (⟨"ClocklessGates", "requireState", "(I)V"⟩, 6)) (by decide +kernel) (by decide +kernel), my_CG_requireState, by decide +kernel⟩
theorem fg_CG_123 : xa_fld xP "ClocklessGates" 123 2 3 := ⟨_, _, _, _, k_G, by decide, Or.inl (xw_t (i := 91) (by decide +kernel) (by decide +kernel))⟩
theorem fg_CG_127 : xa_fld xP "ClocklessGates" 127 2 2 := ⟨_, _, _, _, k_G, by decide, Or.inl (xw_t (i := 88) (by decide +kernel) (by decide +kernel))⟩
theorem fg_CG_130 : xa_fld xP "ClocklessGates" 130 2 4 := ⟨_, _, _, _, k_G, by decide, Or.inl (xw_t (i := 93) (by decide +kernel) (by decide +kernel))⟩
theorem fg_CG_133 : xa_fld xP "ClocklessGates" 133 2 5 := ⟨_, _, _, _, k_G, by decide, Or.inl (xw_t (i := 95) (by decide +kernel) (by decide +kernel))⟩
theorem kv_CG_136 : xa_lkV xP "ClocklessGates" 136 0 59 0 := ⟨Or.inl (xw_t (i := 544) (by decide +kernel) (by decide +kernel)), xw_t (i := 546) (by decide +kernel) (by decide +kernel), ⟨_, _, rfl⟩, xw_s (i := 12) (q := (⟨"ClocklessGates", "requireFine", "()V"⟩, 6)) (by decide +kernel) (by decide +kernel), my_CG_requireFine, by decide +kernel⟩
theorem kv_CG_139 : xa_lkV xP "ClocklessGates" 139 0 60 1 := ⟨Or.inl (xw_t (i := 549) (by decide +kernel) (by decide +kernel)), xw_t (i := 551) (by decide +kernel) (by decide +kernel), ⟨_, _, rfl⟩, xw_s (i := 13) (q := (⟨"ClocklessGates", "makeDraft", "(I)Z"⟩, 6)) (by decide +kernel) (by decide +kernel), my_CG_makeDraft, by decide +kernel⟩
theorem fg_CG_148 : xa_fld xP "ClocklessGates" 148 3 2 := ⟨_, _, _, _, k_Ci, by decide, Or.inl (xw_t (i := 154) (by decide +kernel) (by decide +kernel))⟩
theorem fg_CG_152 : xa_fld xP "ClocklessGates" 152 4 0 := ⟨_, _, _, _, k_Ga, by decide, Or.inl (xw_t (i := 138) (by decide +kernel) (by decide +kernel))⟩
theorem kv_CG_155 : xa_lkV xP "ClocklessGates" 155 3 78 0 := ⟨Or.inl (xw_t (i := 641) (by decide +kernel) (by decide +kernel)), xw_t (i := 642) (by decide +kernel) (by decide +kernel), ⟨_, _, rfl⟩, xw_t (i := 643) (by decide +kernel) (by decide +kernel), my_Ci_adoptDrafts, by decide +kernel⟩
theorem fg_CG_158 : xa_fld xP "ClocklessGates" 158 3 1 := ⟨_, _, _, _, k_Ci, by decide, Or.inl (xw_t (i := 152) (by decide +kernel) (by decide +kernel))⟩
theorem fg_CG_163 : xa_fld xP "ClocklessGates" 163 4 1 := ⟨_, _, _, _, k_Ga, by decide, Or.inl (xw_t (i := 140) (by decide +kernel) (by decide +kernel))⟩
theorem kv_CG_166 : xa_lkV xP "ClocklessGates" 166 1 19 1 := ⟨Or.inl (xw_t (i := 554) (by decide +kernel) (by decide +kernel)), xw_t (i := 284) (by decide +kernel) (by decide +kernel), ⟨_, _, rfl⟩, xw_t (i := 285) (by decide +kernel) (by decide +kernel), my_N_isInput, by decide +kernel⟩
theorem gs_CG_171 : Cond.fieldLink "ClocklessGates" 171 xP.2.2.2.1 xP.2.2.2.2.1 "[I" ∈ xP.2.2.1 ∨ ∃ host, Cond.fieldLinkNest "ClocklessGates" 171 xP.2.2.2.1 xP.2.2.2.2.1 "[I" host ∈ xP.2.2.1 := Or.inl (xw_t (i := 668) (by decide +kernel) (by decide +kernel))
theorem kv_CG_178 : xa_lkV xP "ClocklessGates" 178 5 85 1 := ⟨Or.inl (xw_t (i := 671) (by decide +kernel) (by decide +kernel)), xw_t (i := 672) (by decide +kernel) (by decide +kernel), ⟨_, _, rfl⟩, xw_t (i := 673) (by decide +kernel) (by decide +kernel), my_L_spanOf, by decide +kernel⟩
theorem kv_CG_182 : xa_lkV xP "ClocklessGates" 182 4 77 2 := ⟨Or.inl (xw_t (i := 675) (by decide +kernel) (by decide +kernel)), xw_t (i := 622) (by decide +kernel) (by decide +kernel), ⟨_, _, rfl⟩, xw_t (i := 623) (by decide +kernel) (by decide +kernel), my_Ga_add, by decide +kernel⟩
theorem kv_CG_186 : xa_lkV xP "ClocklessGates" 186 4 10 0 := ⟨Or.inl (xw_t (i := 553) (by decide +kernel) (by decide +kernel)), xw_t (i := 248) (by decide +kernel) (by decide +kernel), ⟨_, _, rfl⟩, xw_t (i := 249) (by decide +kernel) (by decide +kernel), my_Ga_clear, by decide +kernel⟩
theorem kv_CG_191 : xa_lkV xP "ClocklessGates" 191 4 90 1 := ⟨Or.inl (xw_t (i := 691) (by decide +kernel) (by decide +kernel)), xw_t (i := 692) (by decide +kernel) (by decide +kernel), ⟨_, _, rfl⟩, xw_t (i := 693) (by decide +kernel) (by decide +kernel), my_Ga_output, by decide +kernel⟩
theorem kv_CG_194 : xa_lkV xP "ClocklessGates" 194 3 93 2 := ⟨Or.inl (xw_t (i := 702) (by decide +kernel) (by decide +kernel)), xw_t (i := 703) (by decide +kernel) (by decide +kernel), ⟨_, _, rfl⟩, xw_t (i := 704) (by decide +kernel) (by decide +kernel), my_Ci_explore, by decide +kernel⟩
theorem fg_CG_198 : xa_fld xP "ClocklessGates" 198 3 0 := ⟨_, _, _, _, k_Ci, by decide, Or.inl (xw_t (i := 150) (by decide +kernel) (by decide +kernel))⟩
theorem kv_CG_199 : xa_lkV xP "ClocklessGates" 199 2 61 2 := ⟨Or.inl (xw_t (i := 555) (by decide +kernel) (by decide +kernel)), xw_t (i := 556) (by decide +kernel) (by decide +kernel), ⟨_, _, rfl⟩, xw_t (i := 557) (by decide +kernel) (by decide +kernel), my_G_codesWithNext, by decide +kernel⟩
theorem kv_CG_202 : xa_lkV xP "ClocklessGates" 202 5 63 3 := ⟨Or.inl (xw_t (i := 563) (by decide +kernel) (by decide +kernel)), xw_t (i := 564) (by decide +kernel) (by decide +kernel), ⟨_, _, rfl⟩, xw_t (i := 565) (by decide +kernel) (by decide +kernel), my_L_find, by decide +kernel⟩
theorem kv_CG_206 : xa_lkV xP "ClocklessGates" 206 5 76 1 := ⟨Or.inl (xw_t (i := 617) (by decide +kernel) (by decide +kernel)), xw_t (i := 618) (by decide +kernel) (by decide +kernel), ⟨_, _, rfl⟩, xw_t (i := 619) (by decide +kernel) (by decide +kernel), my_L_giveTo, by decide +kernel⟩
theorem kv_CG_210 : xa_lkV xP "ClocklessGates" 210 3 9 0 := ⟨Or.inl (xw_t (i := 243) (by decide +kernel) (by decide +kernel)), xw_t (i := 244) (by decide +kernel) (by decide +kernel), ⟨_, _, rfl⟩, xw_t (i := 245) (by decide +kernel) (by decide +kernel), my_Ci_clear, by decide +kernel⟩
theorem fg_Ci_11 : xa_fld xP "ClocklessGates$Circuit" 11 3 1 := ⟨_, _, _, _, k_Ci, by decide, Or.inl (xw_t (i := 151) (by decide +kernel) (by decide +kernel))⟩
theorem ff_Ci_11 : xa_fldF xP "ClocklessGates$Circuit" 11 3 1 (.array (.object "ClocklessGates$Gate")) := ⟨_, _, _, _, k_Ci, by decide, rfl, rfl, rfl, xw_t (i := 151) (by decide +kernel) (by decide +kernel)⟩
theorem fg_Ci_17 : xa_fld xP "ClocklessGates$Circuit" 17 3 2 := ⟨_, _, _, _, k_Ci, by decide, Or.inl (xw_t (i := 153) (by decide +kernel) (by decide +kernel))⟩
theorem ff_Ci_17 : xa_fldF xP "ClocklessGates$Circuit" 17 3 2 (.array (.object "ClocklessGates$Gate")) := ⟨_, _, _, _, k_Ci, by decide, rfl, rfl, rfl, xw_t (i := 153) (by decide +kernel) (by decide +kernel)⟩
theorem fg_Ci_20 : xa_fld xP "ClocklessGates$Circuit" 20 3 3 := ⟨_, _, _, _, k_Ci, by decide, Or.inl (xw_t (i := 155) (by decide +kernel) (by decide +kernel))⟩
theorem ff_Ci_20 : xa_fldF xP "ClocklessGates$Circuit" 20 3 3 (.array .boolean) := ⟨_, _, _, _, k_Ci, by decide, rfl, rfl, rfl, xw_t (i := 155) (by decide +kernel) (by decide +kernel)⟩
theorem fg_Ci_24 : xa_fld xP "ClocklessGates$Circuit" 24 3 4 := ⟨_, _, _, _, k_Ci, by decide, Or.inl (xw_t (i := 156) (by decide +kernel) (by decide +kernel))⟩
theorem ff_Ci_24 : xa_fldF xP "ClocklessGates$Circuit" 24 3 4 (.array .int) := ⟨_, _, _, _, k_Ci, by decide, rfl, rfl, rfl, xw_t (i := 156) (by decide +kernel) (by decide +kernel)⟩
theorem ki_Ci_28 : xa_lkI xP "ClocklessGates$Circuit" 28 4 0 := ⟨Or.inr ⟨"ClocklessGates", xw_t (i := 133) (by decide +kernel) (by decide +kernel)⟩, xw_t (i := 134) (by decide +kernel) (by decide +kernel), rfl, rfl, rfl, my_Ga_init, by decide +kernel⟩
theorem kv_Ci_29 : xa_lkV xP "ClocklessGates$Circuit" 29 4 10 0 := ⟨Or.inl (xw_t (i := 247) (by decide +kernel) (by decide +kernel)), xw_t (i := 248) (by decide +kernel) (by decide +kernel), ⟨_, _, rfl⟩, xw_t (i := 249) (by decide +kernel) (by decide +kernel), my_Ga_clear, by decide +kernel⟩
theorem kv_Ci_32 : xa_lkV xP "ClocklessGates$Circuit" 32 3 94 2 := ⟨Or.inl (xw_t (i := 706) (by decide +kernel) (by decide +kernel)), xw_t (i := 708) (by decide +kernel) (by decide +kernel), ⟨_, _, rfl⟩, xw_s (i := 22) (q := (⟨"ClocklessGates$Circuit", "reachStates", "(LClocklessGates$Net;LClocklessGates$Graph;)V"⟩, 6)) (by decide +kernel) (by decide +kernel), my_Ci_reachStates, by decide +kernel⟩
theorem kv_Ci_36 : xa_lkV xP "ClocklessGates$Circuit" 36 3 97 3 := ⟨Or.inl (xw_t (i := 723) (by decide +kernel) (by decide +kernel)), xw_t (i := 725) (by decide +kernel) (by decide +kernel), ⟨_, _, rfl⟩, xw_s (i := 25) (q := (⟨"ClocklessGates$Circuit", "leastFaultyState", "(LClocklessGates$Net;LClocklessGates$Graph;I)I"⟩, 6)) (by decide +kernel) (by decide +kernel), my_Ci_leastFaultyState, by decide +kernel⟩
theorem fg_Ci_40 : xa_fld xP "ClocklessGates$Circuit" 40 3 0 := ⟨_, _, _, _, k_Ci, by decide, Or.inl (xw_t (i := 149) (by decide +kernel) (by decide +kernel))⟩
theorem fp_Ci_40 : xa_fldP xP "ClocklessGates$Circuit" 40 3 0 (.int) := ⟨_, _, _, _, k_Ci, by decide, rfl, rfl, Or.inl (xw_t (i := 149) (by decide +kernel) (by decide +kernel))⟩
theorem fg_Ci_44 : xa_fld xP "ClocklessGates$Circuit" 44 3 5 := ⟨_, _, _, _, k_Ci, by decide, Or.inl (xw_t (i := 157) (by decide +kernel) (by decide +kernel))⟩
theorem fp_Ci_44 : xa_fldP xP "ClocklessGates$Circuit" 44 3 5 (.int) := ⟨_, _, _, _, k_Ci, by decide, rfl, rfl, Or.inl (xw_t (i := 157) (by decide +kernel) (by decide +kernel))⟩
theorem kv_Ci_47 : xa_lkV xP "ClocklessGates$Circuit" 47 3 95 1 := ⟨Or.inl (xw_t (i := 710) (by decide +kernel) (by decide +kernel)), xw_t (i := 712) (by decide +kernel) (by decide +kernel), ⟨_, _, rfl⟩, xw_s (i := 23) (q := (⟨"ClocklessGates$Circuit", "reach", "(I)V"⟩, 6)) (by decide +kernel) (by decide +kernel), my_Ci_reach, by decide +kernel⟩
theorem fg_Ci_51 : xa_fld xP "ClocklessGates$Circuit" 51 1 1 := ⟨_, _, _, _, k_N, by decide, Or.inl (xw_t (i := 37) (by decide +kernel) (by decide +kernel))⟩
theorem kv_Ci_56 : xa_lkV xP "ClocklessGates$Circuit" 56 3 96 4 := ⟨Or.inl (xw_t (i := 714) (by decide +kernel) (by decide +kernel)), xw_t (i := 716) (by decide +kernel) (by decide +kernel), ⟨_, _, rfl⟩, xw_s (i := 24) (q := (⟨"ClocklessGates$Circuit", "mayFire", "(LClocklessGates$Net;LClocklessGates$Graph;II)Z"⟩, 6)) (by decide +kernel) (by decide +kernel), my_Ci_mayFire, by decide +kernel⟩
theorem kv_Ci_60 : xa_lkV xP "ClocklessGates$Circuit" 60 2 27 2 := ⟨Or.inl (xw_t (i := 718) (by decide +kernel) (by decide +kernel)), xw_t (i := 316) (by decide +kernel) (by decide +kernel), ⟨_, _, rfl⟩, xw_t (i := 317) (by decide +kernel) (by decide +kernel), my_G_successor, by decide +kernel⟩
theorem kv_Ci_66 : xa_lkV xP "ClocklessGates$Circuit" 66 1 18 1 := ⟨Or.inl (xw_t (i := 719) (by decide +kernel) (by decide +kernel)), xw_t (i := 280) (by decide +kernel) (by decide +kernel), ⟨_, _, rfl⟩, xw_t (i := 281) (by decide +kernel) (by decide +kernel), my_N_signalOf, by decide +kernel⟩
theorem kv_Ci_70 : xa_lkV xP "ClocklessGates$Circuit" 70 1 19 1 := ⟨Or.inl (xw_t (i := 720) (by decide +kernel) (by decide +kernel)), xw_t (i := 284) (by decide +kernel) (by decide +kernel), ⟨_, _, rfl⟩, xw_t (i := 285) (by decide +kernel) (by decide +kernel), my_N_isInput, by decide +kernel⟩
theorem fg_Ci_74 : xa_fld xP "ClocklessGates$Circuit" 74 2 3 := ⟨_, _, _, _, k_G, by decide, Or.inl (xw_t (i := 90) (by decide +kernel) (by decide +kernel))⟩
theorem kv_Ci_77 : xa_lkV xP "ClocklessGates$Circuit" 77 4 90 1 := ⟨Or.inl (xw_t (i := 721) (by decide +kernel) (by decide +kernel)), xw_t (i := 692) (by decide +kernel) (by decide +kernel), ⟨_, _, rfl⟩, xw_t (i := 693) (by decide +kernel) (by decide +kernel), my_Ga_output, by decide +kernel⟩
theorem kv_Ci_80 : xa_lkV xP "ClocklessGates$Circuit" 80 1 17 1 := ⟨Or.inl (xw_t (i := 722) (by decide +kernel) (by decide +kernel)), xw_t (i := 276) (by decide +kernel) (by decide +kernel), ⟨_, _, rfl⟩, xw_t (i := 277) (by decide +kernel) (by decide +kernel), my_N_levelAfter, by decide +kernel⟩
theorem fg_Ci_83 : xa_fld xP "ClocklessGates$Circuit" 83 2 0 := ⟨_, _, _, _, k_G, by decide, Or.inl (xw_t (i := 84) (by decide +kernel) (by decide +kernel))⟩
theorem fg_Ci_86 : xa_fld xP "ClocklessGates$Circuit" 86 1 0 := ⟨_, _, _, _, k_N, by decide, Or.inl (xw_t (i := 33) (by decide +kernel) (by decide +kernel))⟩
theorem kv_Ci_89 : xa_lkV xP "ClocklessGates$Circuit" 89 3 98 5 := ⟨Or.inl (xw_t (i := 727) (by decide +kernel) (by decide +kernel)), xw_t (i := 729) (by decide +kernel) (by decide +kernel), ⟨_, _, rfl⟩, xw_s (i := 26) (q := (⟨"ClocklessGates$Circuit", "isFaulty", "(LClocklessGates$Net;LClocklessGates$Graph;III)Z"⟩, 6)) (by decide +kernel) (by decide +kernel), my_Ci_isFaulty, by decide +kernel⟩
theorem kv_Ci_93 : xa_lkV xP "ClocklessGates$Circuit" 93 3 99 2 := ⟨Or.inl (xw_t (i := 731) (by decide +kernel) (by decide +kernel)), xw_t (i := 733) (by decide +kernel) (by decide +kernel), ⟨_, _, rfl⟩, xw_s (i := 27) (q := (⟨"ClocklessGates$Circuit", "acts", "(II)Z"⟩, 6)) (by decide +kernel) (by decide +kernel), my_Ci_acts, by decide +kernel⟩
theorem kv_Ci_97 : xa_lkV xP "ClocklessGates$Circuit" 97 3 100 4 := ⟨Or.inl (xw_t (i := 735) (by decide +kernel) (by decide +kernel)), xw_t (i := 737) (by decide +kernel) (by decide +kernel), ⟨_, _, rfl⟩, xw_s (i := 28) (q := (⟨"ClocklessGates$Circuit", "mayStopActing", "(LClocklessGates$Net;LClocklessGates$Graph;II)Z"⟩, 6)) (by decide +kernel) (by decide +kernel), my_Ci_mayStopActing, by decide +kernel⟩
theorem kv_Ci_100 : xa_lkV xP "ClocklessGates$Circuit" 100 2 62 2 := ⟨Or.inl (xw_t (i := 739) (by decide +kernel) (by decide +kernel)), xw_t (i := 560) (by decide +kernel) (by decide +kernel), ⟨_, _, rfl⟩, xw_t (i := 561) (by decide +kernel) (by decide +kernel), my_G_isExcited, by decide +kernel⟩
theorem fg_Ga_9 : xa_fld xP "ClocklessGates$Gate" 9 4 1 := ⟨_, _, _, _, k_Ga, by decide, Or.inl (xw_t (i := 139) (by decide +kernel) (by decide +kernel))⟩
theorem ff_Ga_9 : xa_fldF xP "ClocklessGates$Gate" 9 4 1 (.array .int) := ⟨_, _, _, _, k_Ga, by decide, rfl, rfl, rfl, xw_t (i := 139) (by decide +kernel) (by decide +kernel)⟩
theorem fg_Ga_15 : xa_fld xP "ClocklessGates$Gate" 15 4 0 := ⟨_, _, _, _, k_Ga, by decide, Or.inl (xw_t (i := 137) (by decide +kernel) (by decide +kernel))⟩
theorem fp_Ga_15 : xa_fldP xP "ClocklessGates$Gate" 15 4 0 (.int) := ⟨_, _, _, _, k_Ga, by decide, rfl, rfl, Or.inl (xw_t (i := 137) (by decide +kernel) (by decide +kernel))⟩
theorem fg_Ga_19 : xa_fld xP "ClocklessGates$Gate" 19 4 2 := ⟨_, _, _, _, k_Ga, by decide, Or.inl (xw_t (i := 141) (by decide +kernel) (by decide +kernel))⟩
theorem fp_Ga_19 : xa_fldP xP "ClocklessGates$Gate" 19 4 2 (.int) := ⟨_, _, _, _, k_Ga, by decide, rfl, rfl, Or.inl (xw_t (i := 141) (by decide +kernel) (by decide +kernel))⟩
theorem fg_G_9 : xa_fld xP "ClocklessGates$Graph" 9 2 2 := ⟨_, _, _, _, k_G, by decide, Or.inl (xw_t (i := 87) (by decide +kernel) (by decide +kernel))⟩
theorem ff_G_9 : xa_fldF xP "ClocklessGates$Graph" 9 2 2 (.array .int) := ⟨_, _, _, _, k_G, by decide, rfl, rfl, rfl, xw_t (i := 87) (by decide +kernel) (by decide +kernel)⟩
theorem fg_G_15 : xa_fld xP "ClocklessGates$Graph" 15 2 3 := ⟨_, _, _, _, k_G, by decide, Or.inl (xw_t (i := 89) (by decide +kernel) (by decide +kernel))⟩
theorem ff_G_15 : xa_fldF xP "ClocklessGates$Graph" 15 2 3 (.array .int) := ⟨_, _, _, _, k_G, by decide, rfl, rfl, rfl, xw_t (i := 89) (by decide +kernel) (by decide +kernel)⟩
theorem fg_G_18 : xa_fld xP "ClocklessGates$Graph" 18 2 4 := ⟨_, _, _, _, k_G, by decide, Or.inl (xw_t (i := 92) (by decide +kernel) (by decide +kernel))⟩
theorem ff_G_18 : xa_fldF xP "ClocklessGates$Graph" 18 2 4 (.array .int) := ⟨_, _, _, _, k_G, by decide, rfl, rfl, rfl, xw_t (i := 92) (by decide +kernel) (by decide +kernel)⟩
theorem fg_G_21 : xa_fld xP "ClocklessGates$Graph" 21 2 5 := ⟨_, _, _, _, k_G, by decide, Or.inl (xw_t (i := 94) (by decide +kernel) (by decide +kernel))⟩
theorem ff_G_21 : xa_fldF xP "ClocklessGates$Graph" 21 2 5 (.array .int) := ⟨_, _, _, _, k_G, by decide, rfl, rfl, rfl, xw_t (i := 94) (by decide +kernel) (by decide +kernel)⟩
theorem fg_G_24 : xa_fld xP "ClocklessGates$Graph" 24 2 6 := ⟨_, _, _, _, k_G, by decide, Or.inl (xw_t (i := 96) (by decide +kernel) (by decide +kernel))⟩
theorem ff_G_24 : xa_fldF xP "ClocklessGates$Graph" 24 2 6 (.array .int) := ⟨_, _, _, _, k_G, by decide, rfl, rfl, rfl, xw_t (i := 96) (by decide +kernel) (by decide +kernel)⟩
theorem fg_G_27 : xa_fld xP "ClocklessGates$Graph" 27 2 7 := ⟨_, _, _, _, k_G, by decide, Or.inl (xw_t (i := 97) (by decide +kernel) (by decide +kernel))⟩
theorem ff_G_27 : xa_fldF xP "ClocklessGates$Graph" 27 2 7 (.array .int) := ⟨_, _, _, _, k_G, by decide, rfl, rfl, rfl, xw_t (i := 97) (by decide +kernel) (by decide +kernel)⟩
theorem fg_G_30 : xa_fld xP "ClocklessGates$Graph" 30 2 8 := ⟨_, _, _, _, k_G, by decide, Or.inl (xw_t (i := 98) (by decide +kernel) (by decide +kernel))⟩
theorem fp_G_30 : xa_fldP xP "ClocklessGates$Graph" 30 2 8 (.boolean) := ⟨_, _, _, _, k_G, by decide, rfl, rfl, Or.inl (xw_t (i := 98) (by decide +kernel) (by decide +kernel))⟩
theorem fg_G_34 : xa_fld xP "ClocklessGates$Graph" 34 2 9 := ⟨_, _, _, _, k_G, by decide, Or.inl (xw_t (i := 99) (by decide +kernel) (by decide +kernel))⟩
theorem fp_G_34 : xa_fldP xP "ClocklessGates$Graph" 34 2 9 (.int) := ⟨_, _, _, _, k_G, by decide, rfl, rfl, Or.inl (xw_t (i := 99) (by decide +kernel) (by decide +kernel))⟩
theorem fg_G_38 : xa_fld xP "ClocklessGates$Graph" 38 2 10 := ⟨_, _, _, _, k_G, by decide, Or.inl (xw_t (i := 100) (by decide +kernel) (by decide +kernel))⟩
theorem fp_G_38 : xa_fldP xP "ClocklessGates$Graph" 38 2 10 (.int) := ⟨_, _, _, _, k_G, by decide, rfl, rfl, Or.inl (xw_t (i := 100) (by decide +kernel) (by decide +kernel))⟩
theorem fg_G_41 : xa_fld xP "ClocklessGates$Graph" 41 2 0 := ⟨_, _, _, _, k_G, by decide, Or.inl (xw_t (i := 82) (by decide +kernel) (by decide +kernel))⟩
theorem fp_G_41 : xa_fldP xP "ClocklessGates$Graph" 41 2 0 (.int) := ⟨_, _, _, _, k_G, by decide, rfl, rfl, Or.inl (xw_t (i := 82) (by decide +kernel) (by decide +kernel))⟩
theorem fg_G_44 : xa_fld xP "ClocklessGates$Graph" 44 1 4 := ⟨_, _, _, _, k_N, by decide, Or.inl (xw_t (i := 43) (by decide +kernel) (by decide +kernel))⟩
theorem fg_G_49 : xa_fld xP "ClocklessGates$Graph" 49 1 3 := ⟨_, _, _, _, k_N, by decide, Or.inl (xw_t (i := 41) (by decide +kernel) (by decide +kernel))⟩
theorem kv_G_52 : xa_lkV xP "ClocklessGates$Graph" 52 2 12 3 := ⟨Or.inl (xw_t (i := 255) (by decide +kernel) (by decide +kernel)), xw_t (i := 257) (by decide +kernel) (by decide +kernel), ⟨_, _, rfl⟩, xw_s (i := 1) (q := (⟨"ClocklessGates$Graph", "addState", "(III)I"⟩, 11)) (by decide +kernel) (by decide +kernel), my_G_addState, by decide +kernel⟩
theorem kv_G_56 : xa_lkV xP "ClocklessGates$Graph" 56 2 13 2 := ⟨Or.inl (xw_t (i := 259) (by decide +kernel) (by decide +kernel)), xw_t (i := 261) (by decide +kernel) (by decide +kernel), ⟨_, _, rfl⟩, xw_s (i := 2) (q := (⟨"ClocklessGates$Graph", "expand", "(LClocklessGates$Net;I)V"⟩, 11)) (by decide +kernel) (by decide +kernel), my_G_expand, by decide +kernel⟩
theorem fg_G_60 : xa_fld xP "ClocklessGates$Graph" 60 1 1 := ⟨_, _, _, _, k_N, by decide, Or.inl (xw_t (i := 36) (by decide +kernel) (by decide +kernel))⟩
theorem kv_G_63 : xa_lkV xP "ClocklessGates$Graph" 63 1 14 2 := ⟨Or.inl (xw_t (i := 263) (by decide +kernel) (by decide +kernel)), xw_t (i := 264) (by decide +kernel) (by decide +kernel), ⟨_, _, rfl⟩, xw_t (i := 265) (by decide +kernel) (by decide +kernel), my_N_isEnabled, by decide +kernel⟩
theorem kv_G_67 : xa_lkV xP "ClocklessGates$Graph" 67 2 15 3 := ⟨Or.inl (xw_t (i := 267) (by decide +kernel) (by decide +kernel)), xw_t (i := 269) (by decide +kernel) (by decide +kernel), ⟨_, _, rfl⟩, xw_s (i := 3) (q := (⟨"ClocklessGates$Graph", "noteEnabled", "(LClocklessGates$Net;II)V"⟩, 11)) (by decide +kernel) (by decide +kernel), my_G_noteEnabled, by decide +kernel⟩
theorem kv_G_71 : xa_lkV xP "ClocklessGates$Graph" 71 1 20 2 := ⟨Or.inl (xw_t (i := 287) (by decide +kernel) (by decide +kernel)), xw_t (i := 288) (by decide +kernel) (by decide +kernel), ⟨_, _, rfl⟩, xw_t (i := 289) (by decide +kernel) (by decide +kernel), my_N_isSafe, by decide +kernel⟩
theorem kv_G_74 : xa_lkV xP "ClocklessGates$Graph" 74 1 21 2 := ⟨Or.inl (xw_t (i := 291) (by decide +kernel) (by decide +kernel)), xw_t (i := 292) (by decide +kernel) (by decide +kernel), ⟨_, _, rfl⟩, xw_t (i := 293) (by decide +kernel) (by decide +kernel), my_N_isRight, by decide +kernel⟩
theorem kv_G_77 : xa_lkV xP "ClocklessGates$Graph" 77 2 22 3 := ⟨Or.inl (xw_t (i := 295) (by decide +kernel) (by decide +kernel)), xw_t (i := 297) (by decide +kernel) (by decide +kernel), ⟨_, _, rfl⟩, xw_s (i := 4) (q := (⟨"ClocklessGates$Graph", "fire", "(LClocklessGates$Net;II)I"⟩, 11)) (by decide +kernel) (by decide +kernel), my_G_fire, by decide +kernel⟩
theorem kv_G_81 : xa_lkV xP "ClocklessGates$Graph" 81 1 16 1 := ⟨Or.inl (xw_t (i := 271) (by decide +kernel) (by decide +kernel)), xw_t (i := 272) (by decide +kernel) (by decide +kernel), ⟨_, _, rfl⟩, xw_t (i := 273) (by decide +kernel) (by decide +kernel), my_N_edgeBit, by decide +kernel⟩
theorem kv_G_85 : xa_lkV xP "ClocklessGates$Graph" 85 1 18 1 := ⟨Or.inl (xw_t (i := 279) (by decide +kernel) (by decide +kernel)), xw_t (i := 280) (by decide +kernel) (by decide +kernel), ⟨_, _, rfl⟩, xw_t (i := 281) (by decide +kernel) (by decide +kernel), my_N_signalOf, by decide +kernel⟩
theorem kv_G_88 : xa_lkV xP "ClocklessGates$Graph" 88 1 19 1 := ⟨Or.inl (xw_t (i := 283) (by decide +kernel) (by decide +kernel)), xw_t (i := 284) (by decide +kernel) (by decide +kernel), ⟨_, _, rfl⟩, xw_t (i := 285) (by decide +kernel) (by decide +kernel), my_N_isInput, by decide +kernel⟩
theorem kv_G_92 : xa_lkV xP "ClocklessGates$Graph" 92 1 23 2 := ⟨Or.inl (xw_t (i := 299) (by decide +kernel) (by decide +kernel)), xw_t (i := 300) (by decide +kernel) (by decide +kernel), ⟨_, _, rfl⟩, xw_t (i := 301) (by decide +kernel) (by decide +kernel), my_N_markingAfter, by decide +kernel⟩
theorem kv_G_96 : xa_lkV xP "ClocklessGates$Graph" 96 1 24 2 := ⟨Or.inl (xw_t (i := 303) (by decide +kernel) (by decide +kernel)), xw_t (i := 304) (by decide +kernel) (by decide +kernel), ⟨_, _, rfl⟩, xw_t (i := 305) (by decide +kernel) (by decide +kernel), my_N_codeAfter, by decide +kernel⟩
theorem fg_G_99 : xa_fld xP "ClocklessGates$Graph" 99 2 1 := ⟨_, _, _, _, k_G, by decide, Or.inl (xw_t (i := 86) (by decide +kernel) (by decide +kernel))⟩
theorem fp_G_99 : xa_fldP xP "ClocklessGates$Graph" 99 2 1 (.int) := ⟨_, _, _, _, k_G, by decide, rfl, rfl, Or.inl (xw_t (i := 86) (by decide +kernel) (by decide +kernel))⟩
theorem kv_G_102 : xa_lkV xP "ClocklessGates$Graph" 102 2 26 1 := ⟨Or.inl (xw_t (i := 311) (by decide +kernel) (by decide +kernel)), xw_t (i := 313) (by decide +kernel) (by decide +kernel), ⟨_, _, rfl⟩, xw_s (i := 5) (q := (⟨"ClocklessGates$Graph", "leastDisablingState", "(LClocklessGates$Net;)I"⟩, 11)) (by decide +kernel) (by decide +kernel), my_G_leastDisablingState, by decide +kernel⟩
theorem kv_G_106 : xa_lkV xP "ClocklessGates$Graph" 106 2 29 0 := ⟨Or.inl (xw_t (i := 323) (by decide +kernel) (by decide +kernel)), xw_t (i := 325) (by decide +kernel) (by decide +kernel), ⟨_, _, rfl⟩, xw_s (i := 7) (q := (⟨"ClocklessGates$Graph", "leastConflictingState", "()I"⟩, 11)) (by decide +kernel) (by decide +kernel), my_G_leastConflictingState, by decide +kernel⟩
theorem kv_G_110 : xa_lkV xP "ClocklessGates$Graph" 110 2 27 2 := ⟨Or.inl (xw_t (i := 315) (by decide +kernel) (by decide +kernel)), xw_t (i := 316) (by decide +kernel) (by decide +kernel), ⟨_, _, rfl⟩, xw_t (i := 317) (by decide +kernel) (by decide +kernel), my_G_successor, by decide +kernel⟩
theorem kv_G_113 : xa_lkV xP "ClocklessGates$Graph" 113 2 28 3 := ⟨Or.inl (xw_t (i := 319) (by decide +kernel) (by decide +kernel)), xw_t (i := 321) (by decide +kernel) (by decide +kernel), ⟨_, _, rfl⟩, xw_s (i := 6) (q := (⟨"ClocklessGates$Graph", "losesEdge", "(LClocklessGates$Net;II)Z"⟩, 11)) (by decide +kernel) (by decide +kernel), my_G_losesEdge, by decide +kernel⟩
theorem fg_G_117 : xa_fld xP "ClocklessGates$Graph" 117 1 5 := ⟨_, _, _, _, k_N, by decide, Or.inl (xw_t (i := 45) (by decide +kernel) (by decide +kernel))⟩
theorem kv_G_120 : xa_lkV xP "ClocklessGates$Graph" 120 2 62 2 := ⟨Or.inl (xw_t (i := 559) (by decide +kernel) (by decide +kernel)), xw_t (i := 560) (by decide +kernel) (by decide +kernel), ⟨_, _, rfl⟩, xw_t (i := 561) (by decide +kernel) (by decide +kernel), my_G_isExcited, by decide +kernel⟩
theorem fg_L_9 : xa_fld xP "ClocklessGates$LeastSum" 9 5 1 := ⟨_, _, _, _, k_L, by decide, Or.inl (xw_t (i := 183) (by decide +kernel) (by decide +kernel))⟩
theorem ff_L_9 : xa_fldF xP "ClocklessGates$LeastSum" 9 5 1 (.array .int) := ⟨_, _, _, _, k_L, by decide, rfl, rfl, rfl, xw_t (i := 183) (by decide +kernel) (by decide +kernel)⟩
theorem fg_L_15 : xa_fld xP "ClocklessGates$LeastSum" 15 5 2 := ⟨_, _, _, _, k_L, by decide, Or.inl (xw_t (i := 184) (by decide +kernel) (by decide +kernel))⟩
theorem ff_L_15 : xa_fldF xP "ClocklessGates$LeastSum" 15 5 2 (.array .int) := ⟨_, _, _, _, k_L, by decide, rfl, rfl, rfl, xw_t (i := 184) (by decide +kernel) (by decide +kernel)⟩
theorem fg_L_18 : xa_fld xP "ClocklessGates$LeastSum" 18 5 3 := ⟨_, _, _, _, k_L, by decide, Or.inl (xw_t (i := 185) (by decide +kernel) (by decide +kernel))⟩
theorem ff_L_18 : xa_fldF xP "ClocklessGates$LeastSum" 18 5 3 (.array .int) := ⟨_, _, _, _, k_L, by decide, rfl, rfl, rfl, xw_t (i := 185) (by decide +kernel) (by decide +kernel)⟩
theorem fg_L_21 : xa_fld xP "ClocklessGates$LeastSum" 21 5 4 := ⟨_, _, _, _, k_L, by decide, Or.inl (xw_t (i := 186) (by decide +kernel) (by decide +kernel))⟩
theorem ff_L_21 : xa_fldF xP "ClocklessGates$LeastSum" 21 5 4 (.array .int) := ⟨_, _, _, _, k_L, by decide, rfl, rfl, rfl, xw_t (i := 186) (by decide +kernel) (by decide +kernel)⟩
theorem fg_L_24 : xa_fld xP "ClocklessGates$LeastSum" 24 5 5 := ⟨_, _, _, _, k_L, by decide, Or.inl (xw_t (i := 187) (by decide +kernel) (by decide +kernel))⟩
theorem ff_L_24 : xa_fldF xP "ClocklessGates$LeastSum" 24 5 5 (.array .boolean) := ⟨_, _, _, _, k_L, by decide, rfl, rfl, rfl, xw_t (i := 187) (by decide +kernel) (by decide +kernel)⟩
theorem fg_L_28 : xa_fld xP "ClocklessGates$LeastSum" 28 5 6 := ⟨_, _, _, _, k_L, by decide, Or.inl (xw_t (i := 188) (by decide +kernel) (by decide +kernel))⟩
theorem ff_L_28 : xa_fldF xP "ClocklessGates$LeastSum" 28 5 6 (.array .boolean) := ⟨_, _, _, _, k_L, by decide, rfl, rfl, rfl, xw_t (i := 188) (by decide +kernel) (by decide +kernel)⟩
theorem fg_L_31 : xa_fld xP "ClocklessGates$LeastSum" 31 5 7 := ⟨_, _, _, _, k_L, by decide, Or.inl (xw_t (i := 189) (by decide +kernel) (by decide +kernel))⟩
theorem ff_L_31 : xa_fldF xP "ClocklessGates$LeastSum" 31 5 7 (.array .int) := ⟨_, _, _, _, k_L, by decide, rfl, rfl, rfl, xw_t (i := 189) (by decide +kernel) (by decide +kernel)⟩
theorem ks_L_34 : xa_lkS xP "ClocklessGates$LeastSum" 34 6 0 := ⟨Or.inl (xw_t (i := 177) (by decide +kernel) (by decide +kernel)), xw_t (i := 178) (by decide +kernel) (by decide +kernel), xw_t (i := 6) (by decide +kernel) (by decide +kernel), my_L_spansOfAllProducts, by decide +kernel⟩
theorem fg_L_38 : xa_fld xP "ClocklessGates$LeastSum" 38 5 0 := ⟨_, _, _, _, k_L, by decide, Or.inl (xw_t (i := 182) (by decide +kernel) (by decide +kernel))⟩
theorem ff_L_38 : xa_fldF xP "ClocklessGates$LeastSum" 38 5 0 (.array .int) := ⟨_, _, _, _, k_L, by decide, rfl, rfl, rfl, xw_t (i := 182) (by decide +kernel) (by decide +kernel)⟩
theorem gs_L_41 : Cond.fieldLink "ClocklessGates$LeastSum" 41 xP.2.2.2.1 xP.2.2.2.2.1 "[I" ∈ xP.2.2.1 ∨ ∃ host, Cond.fieldLinkNest "ClocklessGates$LeastSum" 41 xP.2.2.2.1 xP.2.2.2.2.1 "[I" host ∈ xP.2.2.1 := Or.inr ⟨"ClocklessGates", xw_t (i := 180) (by decide +kernel) (by decide +kernel)⟩
theorem kv_L_44 : xa_lkV xP "ClocklessGates$LeastSum" 44 5 64 3 := ⟨Or.inl (xw_t (i := 567) (by decide +kernel) (by decide +kernel)), xw_t (i := 569) (by decide +kernel) (by decide +kernel), ⟨_, _, rfl⟩, xw_s (i := 14) (q := (⟨"ClocklessGates$LeastSum", "collectPrimes", "(III)V"⟩, 11)) (by decide +kernel) (by decide +kernel), my_L_collectPrimes, by decide +kernel⟩
theorem kv_L_48 : xa_lkV xP "ClocklessGates$LeastSum" 48 5 69 0 := ⟨Or.inl (xw_t (i := 590) (by decide +kernel) (by decide +kernel)), xw_t (i := 592) (by decide +kernel) (by decide +kernel), ⟨_, _, rfl⟩, xw_s (i := 16) (q := (⟨"ClocklessGates$LeastSum", "countRivals", "()V"⟩, 11)) (by decide +kernel) (by decide +kernel), my_L_countRivals, by decide +kernel⟩
theorem fg_L_51 : xa_fld xP "ClocklessGates$LeastSum" 51 5 10 := ⟨_, _, _, _, k_L, by decide, Or.inl (xw_t (i := 192) (by decide +kernel) (by decide +kernel))⟩
theorem fp_L_51 : xa_fldP xP "ClocklessGates$LeastSum" 51 5 10 (.int) := ⟨_, _, _, _, k_L, by decide, rfl, rfl, Or.inl (xw_t (i := 192) (by decide +kernel) (by decide +kernel))⟩
theorem ks_L_55 : xa_lkS xP "ClocklessGates$LeastSum" 55 70 4 := ⟨Or.inl (xw_t (i := 594) (by decide +kernel) (by decide +kernel)), xw_t (i := 595) (by decide +kernel) (by decide +kernel), xw_t (i := 6) (by decide +kernel) (by decide +kernel), my_L_search, by decide +kernel⟩
theorem fg_L_59 : xa_fld xP "ClocklessGates$LeastSum" 59 5 8 := ⟨_, _, _, _, k_L, by decide, Or.inl (xw_t (i := 190) (by decide +kernel) (by decide +kernel))⟩
theorem fp_L_59 : xa_fldP xP "ClocklessGates$LeastSum" 59 5 8 (.int) := ⟨_, _, _, _, k_L, by decide, rfl, rfl, Or.inl (xw_t (i := 190) (by decide +kernel) (by decide +kernel))⟩
theorem kv_L_62 : xa_lkV xP "ClocklessGates$LeastSum" 62 4 77 2 := ⟨Or.inl (xw_t (i := 621) (by decide +kernel) (by decide +kernel)), xw_t (i := 622) (by decide +kernel) (by decide +kernel), ⟨_, _, rfl⟩, xw_t (i := 623) (by decide +kernel) (by decide +kernel), my_Ga_add, by decide +kernel⟩
theorem fg_L_68 : xa_fld xP "ClocklessGates$LeastSum" 68 5 9 := ⟨_, _, _, _, k_L, by decide, Or.inl (xw_t (i := 191) (by decide +kernel) (by decide +kernel))⟩
theorem fp_L_68 : xa_fldP xP "ClocklessGates$LeastSum" 68 5 9 (.int) := ⟨_, _, _, _, k_L, by decide, rfl, rfl, Or.inl (xw_t (i := 191) (by decide +kernel) (by decide +kernel))⟩
theorem kv_L_71 : xa_lkV xP "ClocklessGates$LeastSum" 71 5 65 3 := ⟨Or.inl (xw_t (i := 571) (by decide +kernel) (by decide +kernel)), xw_t (i := 573) (by decide +kernel) (by decide +kernel), ⟨_, _, rfl⟩, xw_s (i := 15) (q := (⟨"ClocklessGates$LeastSum", "isPrime", "(III)Z"⟩, 11)) (by decide +kernel) (by decide +kernel), my_L_isPrime, by decide +kernel⟩
theorem ks_L_75 : xa_lkS xP "ClocklessGates$LeastSum" 75 67 2 := ⟨Or.inl (xw_t (i := 578) (by decide +kernel) (by decide +kernel)), xw_t (i := 579) (by decide +kernel) (by decide +kernel), xw_t (i := 6) (by decide +kernel) (by decide +kernel), my_L_fixedDigits, by decide +kernel⟩
theorem ks_L_78 : xa_lkS xP "ClocklessGates$LeastSum" 78 68 1 := ⟨Or.inl (xw_t (i := 581) (by decide +kernel) (by decide +kernel)), xw_t (i := 582) (by decide +kernel) (by decide +kernel), xw_t (i := 14) (by decide +kernel) (by decide +kernel), my_JI_bitCount, by decide +kernel⟩
theorem ks_L_89 : xa_lkS xP "ClocklessGates$LeastSum" 89 66 2 := ⟨Or.inl (xw_t (i := 575) (by decide +kernel) (by decide +kernel)), xw_t (i := 576) (by decide +kernel) (by decide +kernel), xw_t (i := 6) (by decide +kernel) (by decide +kernel), my_L_digit, by decide +kernel⟩
theorem kv_L_92 : xa_lkV xP "ClocklessGates$LeastSum" 92 5 71 1 := ⟨Or.inl (xw_t (i := 597) (by decide +kernel) (by decide +kernel)), xw_t (i := 599) (by decide +kernel) (by decide +kernel), ⟨_, _, rfl⟩, xw_s (i := 17) (q := (⟨"ClocklessGates$LeastSum", "keepIfLess", "(I)V"⟩, 11)) (by decide +kernel) (by decide +kernel), my_L_keepIfLess, by decide +kernel⟩
theorem kv_L_96 : xa_lkV xP "ClocklessGates$LeastSum" 96 5 73 1 := ⟨Or.inl (xw_t (i := 605) (by decide +kernel) (by decide +kernel)), xw_t (i := 607) (by decide +kernel) (by decide +kernel), ⟨_, _, rfl⟩, xw_s (i := 19) (q := (⟨"ClocklessGates$LeastSum", "leastCostOf", "(I)I"⟩, 11)) (by decide +kernel) (by decide +kernel), my_L_leastCostOf, by decide +kernel⟩
theorem kv_L_99 : xa_lkV xP "ClocklessGates$LeastSum" 99 5 74 1 := ⟨Or.inl (xw_t (i := 609) (by decide +kernel) (by decide +kernel)), xw_t (i := 611) (by decide +kernel) (by decide +kernel), ⟨_, _, rfl⟩, xw_s (i := 20) (q := (⟨"ClocklessGates$LeastSum", "codeWithFewestRivals", "(I)I"⟩, 11)) (by decide +kernel) (by decide +kernel), my_L_codeWithFewestRivals, by decide +kernel⟩
theorem kv_L_102 : xa_lkV xP "ClocklessGates$LeastSum" 102 5 75 1 := ⟨Or.inl (xw_t (i := 613) (by decide +kernel) (by decide +kernel)), xw_t (i := 615) (by decide +kernel) (by decide +kernel), ⟨_, _, rfl⟩, xw_s (i := 21) (q := (⟨"ClocklessGates$LeastSum", "liftBars", "(I)V"⟩, 11)) (by decide +kernel) (by decide +kernel), my_L_liftBars, by decide +kernel⟩
theorem kv_L_105 : xa_lkV xP "ClocklessGates$LeastSum" 105 5 72 0 := ⟨Or.inl (xw_t (i := 601) (by decide +kernel) (by decide +kernel)), xw_t (i := 603) (by decide +kernel) (by decide +kernel), ⟨_, _, rfl⟩, xw_s (i := 18) (q := (⟨"ClocklessGates$LeastSum", "takenComesFirst", "()Z"⟩, 11)) (by decide +kernel) (by decide +kernel), my_L_takenComesFirst, by decide +kernel⟩
theorem fg_N_9 : xa_fld xP "ClocklessGates$Net" 9 1 7 := ⟨_, _, _, _, k_N, by decide, Or.inl (xw_t (i := 47) (by decide +kernel) (by decide +kernel))⟩
theorem ff_N_9 : xa_fldF xP "ClocklessGates$Net" 9 1 7 (.array .int) := ⟨_, _, _, _, k_N, by decide, rfl, rfl, rfl, xw_t (i := 47) (by decide +kernel) (by decide +kernel)⟩
theorem fg_N_15 : xa_fld xP "ClocklessGates$Net" 15 1 8 := ⟨_, _, _, _, k_N, by decide, Or.inl (xw_t (i := 48) (by decide +kernel) (by decide +kernel))⟩
theorem ff_N_15 : xa_fldF xP "ClocklessGates$Net" 15 1 8 (.array .boolean) := ⟨_, _, _, _, k_N, by decide, rfl, rfl, rfl, xw_t (i := 48) (by decide +kernel) (by decide +kernel)⟩
theorem fg_N_19 : xa_fld xP "ClocklessGates$Net" 19 1 9 := ⟨_, _, _, _, k_N, by decide, Or.inl (xw_t (i := 49) (by decide +kernel) (by decide +kernel))⟩
theorem ff_N_19 : xa_fldF xP "ClocklessGates$Net" 19 1 9 (.array .int) := ⟨_, _, _, _, k_N, by decide, rfl, rfl, rfl, xw_t (i := 49) (by decide +kernel) (by decide +kernel)⟩
theorem fg_N_22 : xa_fld xP "ClocklessGates$Net" 22 1 10 := ⟨_, _, _, _, k_N, by decide, Or.inl (xw_t (i := 50) (by decide +kernel) (by decide +kernel))⟩
theorem ff_N_22 : xa_fldF xP "ClocklessGates$Net" 22 1 10 (.array .int) := ⟨_, _, _, _, k_N, by decide, rfl, rfl, rfl, xw_t (i := 50) (by decide +kernel) (by decide +kernel)⟩
theorem fg_N_25 : xa_fld xP "ClocklessGates$Net" 25 1 0 := ⟨_, _, _, _, k_N, by decide, Or.inl (xw_t (i := 31) (by decide +kernel) (by decide +kernel))⟩
theorem fp_N_25 : xa_fldP xP "ClocklessGates$Net" 25 1 0 (.int) := ⟨_, _, _, _, k_N, by decide, rfl, rfl, Or.inl (xw_t (i := 31) (by decide +kernel) (by decide +kernel))⟩
theorem fg_N_29 : xa_fld xP "ClocklessGates$Net" 29 1 6 := ⟨_, _, _, _, k_N, by decide, Or.inl (xw_t (i := 46) (by decide +kernel) (by decide +kernel))⟩
theorem fp_N_29 : xa_fldP xP "ClocklessGates$Net" 29 1 6 (.int) := ⟨_, _, _, _, k_N, by decide, rfl, rfl, Or.inl (xw_t (i := 46) (by decide +kernel) (by decide +kernel))⟩
theorem fg_N_32 : xa_fld xP "ClocklessGates$Net" 32 1 5 := ⟨_, _, _, _, k_N, by decide, Or.inl (xw_t (i := 44) (by decide +kernel) (by decide +kernel))⟩
theorem fp_N_32 : xa_fldP xP "ClocklessGates$Net" 32 1 5 (.int) := ⟨_, _, _, _, k_N, by decide, rfl, rfl, Or.inl (xw_t (i := 44) (by decide +kernel) (by decide +kernel))⟩
theorem fg_N_35 : xa_fld xP "ClocklessGates$Net" 35 1 3 := ⟨_, _, _, _, k_N, by decide, Or.inl (xw_t (i := 40) (by decide +kernel) (by decide +kernel))⟩
theorem fp_N_35 : xa_fldP xP "ClocklessGates$Net" 35 1 3 (.int) := ⟨_, _, _, _, k_N, by decide, rfl, rfl, Or.inl (xw_t (i := 40) (by decide +kernel) (by decide +kernel))⟩
theorem fg_N_38 : xa_fld xP "ClocklessGates$Net" 38 1 1 := ⟨_, _, _, _, k_N, by decide, Or.inl (xw_t (i := 34) (by decide +kernel) (by decide +kernel))⟩
theorem fp_N_38 : xa_fldP xP "ClocklessGates$Net" 38 1 1 (.int) := ⟨_, _, _, _, k_N, by decide, rfl, rfl, Or.inl (xw_t (i := 34) (by decide +kernel) (by decide +kernel))⟩
theorem fg_N_41 : xa_fld xP "ClocklessGates$Net" 41 1 4 := ⟨_, _, _, _, k_N, by decide, Or.inl (xw_t (i := 42) (by decide +kernel) (by decide +kernel))⟩
theorem fp_N_41 : xa_fldP xP "ClocklessGates$Net" 41 1 4 (.int) := ⟨_, _, _, _, k_N, by decide, rfl, rfl, Or.inl (xw_t (i := 42) (by decide +kernel) (by decide +kernel))⟩
theorem fg_N_44 : xa_fld xP "ClocklessGates$Net" 44 1 2 := ⟨_, _, _, _, k_N, by decide, Or.inl (xw_t (i := 39) (by decide +kernel) (by decide +kernel))⟩
theorem fp_N_44 : xa_fldP xP "ClocklessGates$Net" 44 1 2 (.int) := ⟨_, _, _, _, k_N, by decide, rfl, rfl, Or.inl (xw_t (i := 39) (by decide +kernel) (by decide +kernel))⟩
theorem kv_N_47 : xa_lkV xP "ClocklessGates$Net" 47 1 17 1 := ⟨Or.inl (xw_t (i := 275) (by decide +kernel) (by decide +kernel)), xw_t (i := 276) (by decide +kernel) (by decide +kernel), ⟨_, _, rfl⟩, xw_t (i := 277) (by decide +kernel) (by decide +kernel), my_N_levelAfter, by decide +kernel⟩
theorem kv_W_7 : xa_lkV xP "ClocklessGatesLaw" 7 0 32 2 := ⟨Or.inl (xw_t (i := 335) (by decide +kernel) (by decide +kernel)), xw_t (i := 336) (by decide +kernel) (by decide +kernel), ⟨_, _, rfl⟩, xw_t (i := 337) (by decide +kernel) (by decide +kernel), my_CG_signal, by decide +kernel⟩
theorem kv_W_15 : xa_lkV xP "ClocklessGatesLaw" 15 0 35 2 := ⟨Or.inl (xw_t (i := 416) (by decide +kernel) (by decide +kernel)), xw_t (i := 417) (by decide +kernel) (by decide +kernel), ⟨_, _, rfl⟩, xw_t (i := 418) (by decide +kernel) (by decide +kernel), my_CG_edge, by decide +kernel⟩
theorem kv_W_21 : xa_lkV xP "ClocklessGatesLaw" 21 0 39 1 := ⟨Or.inl (xw_t (i := 448) (by decide +kernel) (by decide +kernel)), xw_t (i := 449) (by decide +kernel) (by decide +kernel), ⟨_, _, rfl⟩, xw_t (i := 450) (by decide +kernel) (by decide +kernel), my_CG_place, by decide +kernel⟩
theorem kv_W_25 : xa_lkV xP "ClocklessGatesLaw" 25 0 42 3 := ⟨Or.inl (xw_t (i := 461) (by decide +kernel) (by decide +kernel)), xw_t (i := 462) (by decide +kernel) (by decide +kernel), ⟨_, _, rfl⟩, xw_t (i := 463) (by decide +kernel) (by decide +kernel), my_CG_arc, by decide +kernel⟩
theorem kv_W_31 : xa_lkV xP "ClocklessGatesLaw" 31 0 46 0 := ⟨Or.inl (xw_t (i := 494) (by decide +kernel) (by decide +kernel)), xw_t (i := 495) (by decide +kernel) (by decide +kernel), ⟨_, _, rfl⟩, xw_t (i := 496) (by decide +kernel) (by decide +kernel), my_CG_states, by decide +kernel⟩
theorem kv_W_35 : xa_lkV xP "ClocklessGatesLaw" 35 0 49 1 := ⟨Or.inl (xw_t (i := 506) (by decide +kernel) (by decide +kernel)), xw_t (i := 507) (by decide +kernel) (by decide +kernel), ⟨_, _, rfl⟩, xw_t (i := 508) (by decide +kernel) (by decide +kernel), my_CG_code, by decide +kernel⟩
theorem kv_W_39 : xa_lkV xP "ClocklessGatesLaw" 39 0 52 1 := ⟨Or.inl (xw_t (i := 518) (by decide +kernel) (by decide +kernel)), xw_t (i := 519) (by decide +kernel) (by decide +kernel), ⟨_, _, rfl⟩, xw_t (i := 520) (by decide +kernel) (by decide +kernel), my_CG_marking, by decide +kernel⟩
theorem kv_W_42 : xa_lkV xP "ClocklessGatesLaw" 42 0 54 1 := ⟨Or.inl (xw_t (i := 525) (by decide +kernel) (by decide +kernel)), xw_t (i := 526) (by decide +kernel) (by decide +kernel), ⟨_, _, rfl⟩, xw_t (i := 527) (by decide +kernel) (by decide +kernel), my_CG_found, by decide +kernel⟩
theorem kv_W_45 : xa_lkV xP "ClocklessGatesLaw" 45 0 56 1 := ⟨Or.inl (xw_t (i := 532) (by decide +kernel) (by decide +kernel)), xw_t (i := 533) (by decide +kernel) (by decide +kernel), ⟨_, _, rfl⟩, xw_t (i := 534) (by decide +kernel) (by decide +kernel), my_CG_excited, by decide +kernel⟩
theorem kv_W_48 : xa_lkV xP "ClocklessGatesLaw" 48 0 58 0 := ⟨Or.inl (xw_t (i := 540) (by decide +kernel) (by decide +kernel)), xw_t (i := 541) (by decide +kernel) (by decide +kernel), ⟨_, _, rfl⟩, xw_t (i := 542) (by decide +kernel) (by decide +kernel), my_CG_synthesise, by decide +kernel⟩
theorem kv_W_53 : xa_lkV xP "ClocklessGatesLaw" 53 0 80 1 := ⟨Or.inl (xw_t (i := 648) (by decide +kernel) (by decide +kernel)), xw_t (i := 649) (by decide +kernel) (by decide +kernel), ⟨_, _, rfl⟩, xw_t (i := 650) (by decide +kernel) (by decide +kernel), my_CG_products, by decide +kernel⟩
theorem kv_W_56 : xa_lkV xP "ClocklessGatesLaw" 56 0 82 2 := ⟨Or.inl (xw_t (i := 655) (by decide +kernel) (by decide +kernel)), xw_t (i := 656) (by decide +kernel) (by decide +kernel), ⟨_, _, rfl⟩, xw_t (i := 657) (by decide +kernel) (by decide +kernel), my_CG_product, by decide +kernel⟩
theorem kv_W_60 : xa_lkV xP "ClocklessGatesLaw" 60 0 84 2 := ⟨Or.inl (xw_t (i := 663) (by decide +kernel) (by decide +kernel)), xw_t (i := 664) (by decide +kernel) (by decide +kernel), ⟨_, _, rfl⟩, xw_t (i := 665) (by decide +kernel) (by decide +kernel), my_CG_append, by decide +kernel⟩
theorem kv_W_63 : xa_lkV xP "ClocklessGatesLaw" 63 0 87 1 := ⟨Or.inl (xw_t (i := 679) (by decide +kernel) (by decide +kernel)), xw_t (i := 680) (by decide +kernel) (by decide +kernel), ⟨_, _, rfl⟩, xw_t (i := 681) (by decide +kernel) (by decide +kernel), my_CG_strip, by decide +kernel⟩
theorem kv_W_67 : xa_lkV xP "ClocklessGatesLaw" 67 0 89 2 := ⟨Or.inl (xw_t (i := 686) (by decide +kernel) (by decide +kernel)), xw_t (i := 687) (by decide +kernel) (by decide +kernel), ⟨_, _, rfl⟩, xw_t (i := 688) (by decide +kernel) (by decide +kernel), my_CG_value, by decide +kernel⟩
theorem kv_W_70 : xa_lkV xP "ClocklessGatesLaw" 70 0 92 0 := ⟨Or.inl (xw_t (i := 698) (by decide +kernel) (by decide +kernel)), xw_t (i := 699) (by decide +kernel) (by decide +kernel), ⟨_, _, rfl⟩, xw_t (i := 700) (by decide +kernel) (by decide +kernel), my_CG_check, by decide +kernel⟩
theorem ki_W_73 : xa_lkI xP "ClocklessGatesLaw" 73 0 0 := ⟨Or.inl (xw_t (i := 19) (by decide +kernel) (by decide +kernel)), xw_t (i := 20) (by decide +kernel) (by decide +kernel), rfl, rfl, rfl, my_CG_init, by decide +kernel⟩
theorem ki_W_76 : xa_lkI xP "ClocklessGatesLaw" 76 101 0 := ⟨Or.inl (xw_t (i := 742) (by decide +kernel) (by decide +kernel)), xw_t (i := 743) (by decide +kernel) (by decide +kernel), rfl, rfl, rfl, my_M_init, by decide +kernel⟩
theorem ks_W_77 : xa_lkS xP "ClocklessGatesLaw" 77 31 4 := ⟨Or.inl (xw_t (i := 331) (by decide +kernel) (by decide +kernel)), xw_t (i := 332) (by decide +kernel) (by decide +kernel), xw_t (i := 0) (by decide +kernel) (by decide +kernel), my_W_signal, by decide +kernel⟩
theorem kv_W_82 : xa_lkV xP "ClocklessGatesLaw" 82 6 103 2 := ⟨Or.inl (xw_t (i := 841) (by decide +kernel) (by decide +kernel)), xw_t (i := 842) (by decide +kernel) (by decide +kernel), ⟨_, _, rfl⟩, xw_t (i := 843) (by decide +kernel) (by decide +kernel), my_M_signal, by decide +kernel⟩
theorem kv_W_83 : xa_lkV xP "ClocklessGatesLaw" 83 6 102 0 := ⟨Or.inl (xw_t (i := 837) (by decide +kernel) (by decide +kernel)), xw_t (i := 838) (by decide +kernel) (by decide +kernel), ⟨_, _, rfl⟩, xw_t (i := 839) (by decide +kernel) (by decide +kernel), my_M_thrown, by decide +kernel⟩
theorem ks_W_86 : xa_lkS xP "ClocklessGatesLaw" 86 34 4 := ⟨Or.inl (xw_t (i := 412) (by decide +kernel) (by decide +kernel)), xw_t (i := 413) (by decide +kernel) (by decide +kernel), xw_t (i := 0) (by decide +kernel) (by decide +kernel), my_W_edge, by decide +kernel⟩
theorem kv_W_89 : xa_lkV xP "ClocklessGatesLaw" 89 6 105 2 := ⟨Or.inl (xw_t (i := 849) (by decide +kernel) (by decide +kernel)), xw_t (i := 850) (by decide +kernel) (by decide +kernel), ⟨_, _, rfl⟩, xw_t (i := 851) (by decide +kernel) (by decide +kernel), my_M_edge, by decide +kernel⟩
theorem ks_W_90 : xa_lkS xP "ClocklessGatesLaw" 90 38 3 := ⟨Or.inl (xw_t (i := 445) (by decide +kernel) (by decide +kernel)), xw_t (i := 446) (by decide +kernel) (by decide +kernel), xw_t (i := 0) (by decide +kernel) (by decide +kernel), my_W_place, by decide +kernel⟩
theorem kv_W_93 : xa_lkV xP "ClocklessGatesLaw" 93 6 107 1 := ⟨Or.inl (xw_t (i := 857) (by decide +kernel) (by decide +kernel)), xw_t (i := 858) (by decide +kernel) (by decide +kernel), ⟨_, _, rfl⟩, xw_t (i := 859) (by decide +kernel) (by decide +kernel), my_M_place, by decide +kernel⟩
theorem ks_W_94 : xa_lkS xP "ClocklessGatesLaw" 94 41 4 := ⟨Or.inl (xw_t (i := 457) (by decide +kernel) (by decide +kernel)), xw_t (i := 458) (by decide +kernel) (by decide +kernel), xw_t (i := 0) (by decide +kernel) (by decide +kernel), my_W_arc, by decide +kernel⟩
theorem kv_W_97 : xa_lkV xP "ClocklessGatesLaw" 97 6 108 3 := ⟨Or.inl (xw_t (i := 861) (by decide +kernel) (by decide +kernel)), xw_t (i := 862) (by decide +kernel) (by decide +kernel), ⟨_, _, rfl⟩, xw_t (i := 863) (by decide +kernel) (by decide +kernel), my_M_arc, by decide +kernel⟩
theorem kv_W_98 : xa_lkV xP "ClocklessGatesLaw" 98 0 7 0 := ⟨Or.inl (xw_t (i := 235) (by decide +kernel) (by decide +kernel)), xw_t (i := 236) (by decide +kernel) (by decide +kernel), ⟨_, _, rfl⟩, xw_t (i := 237) (by decide +kernel) (by decide +kernel), my_CG_analyse, by decide +kernel⟩
theorem kv_W_101 : xa_lkV xP "ClocklessGatesLaw" 101 6 109 0 := ⟨Or.inl (xw_t (i := 865) (by decide +kernel) (by decide +kernel)), xw_t (i := 866) (by decide +kernel) (by decide +kernel), ⟨_, _, rfl⟩, xw_t (i := 867) (by decide +kernel) (by decide +kernel), my_M_analyse, by decide +kernel⟩
theorem ks_W_102 : xa_lkS xP "ClocklessGatesLaw" 102 45 2 := ⟨Or.inl (xw_t (i := 491) (by decide +kernel) (by decide +kernel)), xw_t (i := 492) (by decide +kernel) (by decide +kernel), xw_t (i := 0) (by decide +kernel) (by decide +kernel), my_W_states, by decide +kernel⟩
theorem kv_W_105 : xa_lkV xP "ClocklessGatesLaw" 105 6 123 0 := ⟨Or.inl (xw_t (i := 921) (by decide +kernel) (by decide +kernel)), xw_t (i := 922) (by decide +kernel) (by decide +kernel), ⟨_, _, rfl⟩, xw_t (i := 923) (by decide +kernel) (by decide +kernel), my_M_states, by decide +kernel⟩
theorem ks_W_106 : xa_lkS xP "ClocklessGatesLaw" 106 48 3 := ⟨Or.inl (xw_t (i := 503) (by decide +kernel) (by decide +kernel)), xw_t (i := 504) (by decide +kernel) (by decide +kernel), xw_t (i := 0) (by decide +kernel) (by decide +kernel), my_W_code, by decide +kernel⟩
theorem kv_W_109 : xa_lkV xP "ClocklessGatesLaw" 109 6 125 1 := ⟨Or.inl (xw_t (i := 929) (by decide +kernel) (by decide +kernel)), xw_t (i := 930) (by decide +kernel) (by decide +kernel), ⟨_, _, rfl⟩, xw_t (i := 931) (by decide +kernel) (by decide +kernel), my_M_code, by decide +kernel⟩
theorem ks_W_110 : xa_lkS xP "ClocklessGatesLaw" 110 51 3 := ⟨Or.inl (xw_t (i := 515) (by decide +kernel) (by decide +kernel)), xw_t (i := 516) (by decide +kernel) (by decide +kernel), xw_t (i := 0) (by decide +kernel) (by decide +kernel), my_W_marking, by decide +kernel⟩
theorem kv_W_112 : xa_lkV xP "ClocklessGatesLaw" 112 6 127 1 := ⟨Or.inl (xw_t (i := 937) (by decide +kernel) (by decide +kernel)), xw_t (i := 938) (by decide +kernel) (by decide +kernel), ⟨_, _, rfl⟩, xw_t (i := 939) (by decide +kernel) (by decide +kernel), my_M_marking, by decide +kernel⟩
theorem ks_W_113 : xa_lkS xP "ClocklessGatesLaw" 113 53 3 := ⟨Or.inl (xw_t (i := 522) (by decide +kernel) (by decide +kernel)), xw_t (i := 523) (by decide +kernel) (by decide +kernel), xw_t (i := 0) (by decide +kernel) (by decide +kernel), my_W_found, by decide +kernel⟩
theorem kv_W_115 : xa_lkV xP "ClocklessGatesLaw" 115 6 128 1 := ⟨Or.inl (xw_t (i := 941) (by decide +kernel) (by decide +kernel)), xw_t (i := 942) (by decide +kernel) (by decide +kernel), ⟨_, _, rfl⟩, xw_t (i := 943) (by decide +kernel) (by decide +kernel), my_M_found, by decide +kernel⟩
theorem ks_W_116 : xa_lkS xP "ClocklessGatesLaw" 116 55 3 := ⟨Or.inl (xw_t (i := 529) (by decide +kernel) (by decide +kernel)), xw_t (i := 530) (by decide +kernel) (by decide +kernel), xw_t (i := 0) (by decide +kernel) (by decide +kernel), my_W_excited, by decide +kernel⟩
theorem kv_W_118 : xa_lkV xP "ClocklessGatesLaw" 118 6 129 1 := ⟨Or.inl (xw_t (i := 945) (by decide +kernel) (by decide +kernel)), xw_t (i := 946) (by decide +kernel) (by decide +kernel), ⟨_, _, rfl⟩, xw_t (i := 947) (by decide +kernel) (by decide +kernel), my_M_excited, by decide +kernel⟩
theorem kv_W_119 : xa_lkV xP "ClocklessGatesLaw" 119 0 30 0 := ⟨Or.inl (xw_t (i := 327) (by decide +kernel) (by decide +kernel)), xw_t (i := 328) (by decide +kernel) (by decide +kernel), ⟨_, _, rfl⟩, xw_t (i := 329) (by decide +kernel) (by decide +kernel), my_CG_fault, by decide +kernel⟩
theorem kv_W_122 : xa_lkV xP "ClocklessGatesLaw" 122 6 130 0 := ⟨Or.inl (xw_t (i := 949) (by decide +kernel) (by decide +kernel)), xw_t (i := 950) (by decide +kernel) (by decide +kernel), ⟨_, _, rfl⟩, xw_t (i := 951) (by decide +kernel) (by decide +kernel), my_M_fault, by decide +kernel⟩
theorem ks_W_123 : xa_lkS xP "ClocklessGatesLaw" 123 57 2 := ⟨Or.inl (xw_t (i := 536) (by decide +kernel) (by decide +kernel)), xw_t (i := 537) (by decide +kernel) (by decide +kernel), xw_t (i := 0) (by decide +kernel) (by decide +kernel), my_W_synthesise, by decide +kernel⟩
theorem kv_W_125 : xa_lkV xP "ClocklessGatesLaw" 125 6 131 0 := ⟨Or.inl (xw_t (i := 953) (by decide +kernel) (by decide +kernel)), xw_t (i := 954) (by decide +kernel) (by decide +kernel), ⟨_, _, rfl⟩, xw_t (i := 955) (by decide +kernel) (by decide +kernel), my_M_synthesise, by decide +kernel⟩
theorem ks_W_126 : xa_lkS xP "ClocklessGatesLaw" 126 79 3 := ⟨Or.inl (xw_t (i := 645) (by decide +kernel) (by decide +kernel)), xw_t (i := 646) (by decide +kernel) (by decide +kernel), xw_t (i := 0) (by decide +kernel) (by decide +kernel), my_W_products, by decide +kernel⟩
theorem kv_W_128 : xa_lkV xP "ClocklessGatesLaw" 128 6 142 1 := ⟨Or.inl (xw_t (i := 995) (by decide +kernel) (by decide +kernel)), xw_t (i := 996) (by decide +kernel) (by decide +kernel), ⟨_, _, rfl⟩, xw_t (i := 997) (by decide +kernel) (by decide +kernel), my_M_products, by decide +kernel⟩
theorem ks_W_129 : xa_lkS xP "ClocklessGatesLaw" 129 81 4 := ⟨Or.inl (xw_t (i := 652) (by decide +kernel) (by decide +kernel)), xw_t (i := 653) (by decide +kernel) (by decide +kernel), xw_t (i := 0) (by decide +kernel) (by decide +kernel), my_W_product, by decide +kernel⟩
theorem kv_W_132 : xa_lkV xP "ClocklessGatesLaw" 132 6 143 2 := ⟨Or.inl (xw_t (i := 999) (by decide +kernel) (by decide +kernel)), xw_t (i := 1000) (by decide +kernel) (by decide +kernel), ⟨_, _, rfl⟩, xw_t (i := 1001) (by decide +kernel) (by decide +kernel), my_M_product, by decide +kernel⟩
theorem ks_W_133 : xa_lkS xP "ClocklessGatesLaw" 133 83 4 := ⟨Or.inl (xw_t (i := 660) (by decide +kernel) (by decide +kernel)), xw_t (i := 661) (by decide +kernel) (by decide +kernel), xw_t (i := 0) (by decide +kernel) (by decide +kernel), my_W_append, by decide +kernel⟩
theorem kv_W_135 : xa_lkV xP "ClocklessGatesLaw" 135 6 144 2 := ⟨Or.inl (xw_t (i := 1003) (by decide +kernel) (by decide +kernel)), xw_t (i := 1004) (by decide +kernel) (by decide +kernel), ⟨_, _, rfl⟩, xw_t (i := 1005) (by decide +kernel) (by decide +kernel), my_M_append, by decide +kernel⟩
theorem ks_W_136 : xa_lkS xP "ClocklessGatesLaw" 136 86 2 := ⟨Or.inl (xw_t (i := 676) (by decide +kernel) (by decide +kernel)), xw_t (i := 677) (by decide +kernel) (by decide +kernel), xw_t (i := 0) (by decide +kernel) (by decide +kernel), my_W_strip, by decide +kernel⟩
theorem kv_W_139 : xa_lkV xP "ClocklessGatesLaw" 139 6 145 1 := ⟨Or.inl (xw_t (i := 1007) (by decide +kernel) (by decide +kernel)), xw_t (i := 1008) (by decide +kernel) (by decide +kernel), ⟨_, _, rfl⟩, xw_t (i := 1009) (by decide +kernel) (by decide +kernel), my_M_strip, by decide +kernel⟩
theorem ks_W_140 : xa_lkS xP "ClocklessGatesLaw" 140 88 4 := ⟨Or.inl (xw_t (i := 683) (by decide +kernel) (by decide +kernel)), xw_t (i := 684) (by decide +kernel) (by decide +kernel), xw_t (i := 0) (by decide +kernel) (by decide +kernel), my_W_value, by decide +kernel⟩
theorem kv_W_142 : xa_lkV xP "ClocklessGatesLaw" 142 6 146 2 := ⟨Or.inl (xw_t (i := 1011) (by decide +kernel) (by decide +kernel)), xw_t (i := 1012) (by decide +kernel) (by decide +kernel), ⟨_, _, rfl⟩, xw_t (i := 1013) (by decide +kernel) (by decide +kernel), my_M_value, by decide +kernel⟩
theorem ks_W_143 : xa_lkS xP "ClocklessGatesLaw" 143 91 2 := ⟨Or.inl (xw_t (i := 695) (by decide +kernel) (by decide +kernel)), xw_t (i := 696) (by decide +kernel) (by decide +kernel), xw_t (i := 0) (by decide +kernel) (by decide +kernel), my_W_check, by decide +kernel⟩
theorem kv_W_145 : xa_lkV xP "ClocklessGatesLaw" 145 6 148 0 := ⟨Or.inl (xw_t (i := 1019) (by decide +kernel) (by decide +kernel)), xw_t (i := 1020) (by decide +kernel) (by decide +kernel), ⟨_, _, rfl⟩, xw_t (i := 1021) (by decide +kernel) (by decide +kernel), my_M_check, by decide +kernel⟩
theorem fg_M_7 : xa_fld xP "ClocklessGatesModel" 7 6 2 := ⟨_, _, _, _, k_M, by decide, Or.inl (xw_t (i := 748) (by decide +kernel) (by decide +kernel))⟩
theorem ff_M_7 : xa_fldF xP "ClocklessGatesModel" 7 6 2 (.array .boolean) := ⟨_, _, _, _, k_M, by decide, rfl, rfl, rfl, xw_t (i := 748) (by decide +kernel) (by decide +kernel)⟩
theorem fg_M_13 : xa_fld xP "ClocklessGatesModel" 13 6 3 := ⟨_, _, _, _, k_M, by decide, Or.inl (xw_t (i := 749) (by decide +kernel) (by decide +kernel))⟩
theorem ff_M_13 : xa_fldF xP "ClocklessGatesModel" 13 6 3 (.array .boolean) := ⟨_, _, _, _, k_M, by decide, rfl, rfl, rfl, xw_t (i := 749) (by decide +kernel) (by decide +kernel)⟩
theorem fg_M_16 : xa_fld xP "ClocklessGatesModel" 16 6 5 := ⟨_, _, _, _, k_M, by decide, Or.inl (xw_t (i := 751) (by decide +kernel) (by decide +kernel))⟩
theorem ff_M_16 : xa_fldF xP "ClocklessGatesModel" 16 6 5 (.array .int) := ⟨_, _, _, _, k_M, by decide, rfl, rfl, rfl, xw_t (i := 751) (by decide +kernel) (by decide +kernel)⟩
theorem fg_M_20 : xa_fld xP "ClocklessGatesModel" 20 6 6 := ⟨_, _, _, _, k_M, by decide, Or.inl (xw_t (i := 752) (by decide +kernel) (by decide +kernel))⟩
theorem ff_M_20 : xa_fldF xP "ClocklessGatesModel" 20 6 6 (.array .boolean) := ⟨_, _, _, _, k_M, by decide, rfl, rfl, rfl, xw_t (i := 752) (by decide +kernel) (by decide +kernel)⟩
theorem fg_M_23 : xa_fld xP "ClocklessGatesModel" 23 6 7 := ⟨_, _, _, _, k_M, by decide, Or.inl (xw_t (i := 753) (by decide +kernel) (by decide +kernel))⟩
theorem ff_M_23 : xa_fldF xP "ClocklessGatesModel" 23 6 7 (.array .int) := ⟨_, _, _, _, k_M, by decide, rfl, rfl, rfl, xw_t (i := 753) (by decide +kernel) (by decide +kernel)⟩
theorem fg_M_26 : xa_fld xP "ClocklessGatesModel" 26 6 8 := ⟨_, _, _, _, k_M, by decide, Or.inl (xw_t (i := 754) (by decide +kernel) (by decide +kernel))⟩
theorem ff_M_26 : xa_fldF xP "ClocklessGatesModel" 26 6 8 (.array .int) := ⟨_, _, _, _, k_M, by decide, rfl, rfl, rfl, xw_t (i := 754) (by decide +kernel) (by decide +kernel)⟩
theorem fg_M_29 : xa_fld xP "ClocklessGatesModel" 29 6 11 := ⟨_, _, _, _, k_M, by decide, Or.inl (xw_t (i := 757) (by decide +kernel) (by decide +kernel))⟩
theorem fp_M_29 : xa_fldP xP "ClocklessGatesModel" 29 6 11 (.int) := ⟨_, _, _, _, k_M, by decide, rfl, rfl, Or.inl (xw_t (i := 757) (by decide +kernel) (by decide +kernel))⟩
theorem fg_M_33 : xa_fld xP "ClocklessGatesModel" 33 6 12 := ⟨_, _, _, _, k_M, by decide, Or.inl (xw_t (i := 758) (by decide +kernel) (by decide +kernel))⟩
theorem fp_M_33 : xa_fldP xP "ClocklessGatesModel" 33 6 12 (.int) := ⟨_, _, _, _, k_M, by decide, rfl, rfl, Or.inl (xw_t (i := 758) (by decide +kernel) (by decide +kernel))⟩
theorem fg_M_36 : xa_fld xP "ClocklessGatesModel" 36 6 14 := ⟨_, _, _, _, k_M, by decide, Or.inl (xw_t (i := 760) (by decide +kernel) (by decide +kernel))⟩
theorem ff_M_36 : xa_fldF xP "ClocklessGatesModel" 36 6 14 (.array .int) := ⟨_, _, _, _, k_M, by decide, rfl, rfl, rfl, xw_t (i := 760) (by decide +kernel) (by decide +kernel)⟩
theorem fg_M_39 : xa_fld xP "ClocklessGatesModel" 39 6 15 := ⟨_, _, _, _, k_M, by decide, Or.inl (xw_t (i := 761) (by decide +kernel) (by decide +kernel))⟩
theorem ff_M_39 : xa_fldF xP "ClocklessGatesModel" 39 6 15 (.array .int) := ⟨_, _, _, _, k_M, by decide, rfl, rfl, rfl, xw_t (i := 761) (by decide +kernel) (by decide +kernel)⟩
theorem fg_M_42 : xa_fld xP "ClocklessGatesModel" 42 6 16 := ⟨_, _, _, _, k_M, by decide, Or.inl (xw_t (i := 762) (by decide +kernel) (by decide +kernel))⟩
theorem ff_M_42 : xa_fldF xP "ClocklessGatesModel" 42 6 16 (.array .int) := ⟨_, _, _, _, k_M, by decide, rfl, rfl, rfl, xw_t (i := 762) (by decide +kernel) (by decide +kernel)⟩
theorem fg_M_45 : xa_fld xP "ClocklessGatesModel" 45 6 17 := ⟨_, _, _, _, k_M, by decide, Or.inl (xw_t (i := 763) (by decide +kernel) (by decide +kernel))⟩
theorem ff_M_45 : xa_fldF xP "ClocklessGatesModel" 45 6 17 (.array .int) := ⟨_, _, _, _, k_M, by decide, rfl, rfl, rfl, xw_t (i := 763) (by decide +kernel) (by decide +kernel)⟩
theorem fg_M_48 : xa_fld xP "ClocklessGatesModel" 48 6 18 := ⟨_, _, _, _, k_M, by decide, Or.inl (xw_t (i := 764) (by decide +kernel) (by decide +kernel))⟩
theorem ff_M_48 : xa_fldF xP "ClocklessGatesModel" 48 6 18 (.array .int) := ⟨_, _, _, _, k_M, by decide, rfl, rfl, rfl, xw_t (i := 764) (by decide +kernel) (by decide +kernel)⟩
theorem fg_M_51 : xa_fld xP "ClocklessGatesModel" 51 6 19 := ⟨_, _, _, _, k_M, by decide, Or.inl (xw_t (i := 765) (by decide +kernel) (by decide +kernel))⟩
theorem ff_M_51 : xa_fldF xP "ClocklessGatesModel" 51 6 19 (.array .int) := ⟨_, _, _, _, k_M, by decide, rfl, rfl, rfl, xw_t (i := 765) (by decide +kernel) (by decide +kernel)⟩
theorem fg_M_54 : xa_fld xP "ClocklessGatesModel" 54 6 20 := ⟨_, _, _, _, k_M, by decide, Or.inl (xw_t (i := 766) (by decide +kernel) (by decide +kernel))⟩
theorem ff_M_54 : xa_fldF xP "ClocklessGatesModel" 54 6 20 (.array .boolean) := ⟨_, _, _, _, k_M, by decide, rfl, rfl, rfl, xw_t (i := 766) (by decide +kernel) (by decide +kernel)⟩
theorem fg_M_57 : xa_fld xP "ClocklessGatesModel" 57 6 21 := ⟨_, _, _, _, k_M, by decide, Or.inl (xw_t (i := 767) (by decide +kernel) (by decide +kernel))⟩
theorem ff_M_57 : xa_fldF xP "ClocklessGatesModel" 57 6 21 (.array .int) := ⟨_, _, _, _, k_M, by decide, rfl, rfl, rfl, xw_t (i := 767) (by decide +kernel) (by decide +kernel)⟩
theorem fg_M_60 : xa_fld xP "ClocklessGatesModel" 60 6 22 := ⟨_, _, _, _, k_M, by decide, Or.inl (xw_t (i := 768) (by decide +kernel) (by decide +kernel))⟩
theorem ff_M_60 : xa_fldF xP "ClocklessGatesModel" 60 6 22 (.array .int) := ⟨_, _, _, _, k_M, by decide, rfl, rfl, rfl, xw_t (i := 768) (by decide +kernel) (by decide +kernel)⟩
theorem fg_M_63 : xa_fld xP "ClocklessGatesModel" 63 6 23 := ⟨_, _, _, _, k_M, by decide, Or.inl (xw_t (i := 769) (by decide +kernel) (by decide +kernel))⟩
theorem ff_M_63 : xa_fldF xP "ClocklessGatesModel" 63 6 23 (.array .int) := ⟨_, _, _, _, k_M, by decide, rfl, rfl, rfl, xw_t (i := 769) (by decide +kernel) (by decide +kernel)⟩
theorem fg_M_66 : xa_fld xP "ClocklessGatesModel" 66 6 24 := ⟨_, _, _, _, k_M, by decide, Or.inl (xw_t (i := 770) (by decide +kernel) (by decide +kernel))⟩
theorem ff_M_66 : xa_fldF xP "ClocklessGatesModel" 66 6 24 (.array .int) := ⟨_, _, _, _, k_M, by decide, rfl, rfl, rfl, xw_t (i := 770) (by decide +kernel) (by decide +kernel)⟩
theorem fg_M_69 : xa_fld xP "ClocklessGatesModel" 69 6 27 := ⟨_, _, _, _, k_M, by decide, Or.inl (xw_t (i := 773) (by decide +kernel) (by decide +kernel))⟩
theorem ff_M_69 : xa_fldF xP "ClocklessGatesModel" 69 6 27 (.array .int) := ⟨_, _, _, _, k_M, by decide, rfl, rfl, rfl, xw_t (i := 773) (by decide +kernel) (by decide +kernel)⟩
theorem fg_M_72 : xa_fld xP "ClocklessGatesModel" 72 6 28 := ⟨_, _, _, _, k_M, by decide, Or.inl (xw_t (i := 774) (by decide +kernel) (by decide +kernel))⟩
theorem ff_M_72 : xa_fldF xP "ClocklessGatesModel" 72 6 28 (.array .int) := ⟨_, _, _, _, k_M, by decide, rfl, rfl, rfl, xw_t (i := 774) (by decide +kernel) (by decide +kernel)⟩
theorem fg_M_75 : xa_fld xP "ClocklessGatesModel" 75 6 29 := ⟨_, _, _, _, k_M, by decide, Or.inl (xw_t (i := 775) (by decide +kernel) (by decide +kernel))⟩
theorem ff_M_75 : xa_fldF xP "ClocklessGatesModel" 75 6 29 (.array .boolean) := ⟨_, _, _, _, k_M, by decide, rfl, rfl, rfl, xw_t (i := 775) (by decide +kernel) (by decide +kernel)⟩
theorem fg_M_78 : xa_fld xP "ClocklessGatesModel" 78 6 0 := ⟨_, _, _, _, k_M, by decide, Or.inl (xw_t (i := 746) (by decide +kernel) (by decide +kernel))⟩
theorem fp_M_78 : xa_fldP xP "ClocklessGatesModel" 78 6 0 (.int) := ⟨_, _, _, _, k_M, by decide, rfl, rfl, Or.inl (xw_t (i := 746) (by decide +kernel) (by decide +kernel))⟩
theorem fg_M_81 : xa_fld xP "ClocklessGatesModel" 81 6 13 := ⟨_, _, _, _, k_M, by decide, Or.inl (xw_t (i := 759) (by decide +kernel) (by decide +kernel))⟩
theorem fp_M_81 : xa_fldP xP "ClocklessGatesModel" 81 6 13 (.int) := ⟨_, _, _, _, k_M, by decide, rfl, rfl, Or.inl (xw_t (i := 759) (by decide +kernel) (by decide +kernel))⟩
theorem fg_M_84 : xa_fld xP "ClocklessGatesModel" 84 6 1 := ⟨_, _, _, _, k_M, by decide, Or.inl (xw_t (i := 747) (by decide +kernel) (by decide +kernel))⟩
theorem fp_M_84 : xa_fldP xP "ClocklessGatesModel" 84 6 1 (.int) := ⟨_, _, _, _, k_M, by decide, rfl, rfl, Or.inl (xw_t (i := 747) (by decide +kernel) (by decide +kernel))⟩
theorem kv_M_87 : xa_lkV xP "ClocklessGatesModel" 87 6 104 0 := ⟨Or.inl (xw_t (i := 845) (by decide +kernel) (by decide +kernel)), xw_t (i := 847) (by decide +kernel) (by decide +kernel), ⟨_, _, rfl⟩, xw_s (i := 29) (q := (⟨"ClocklessGatesModel", "discard", "()V"⟩, 30)) (by decide +kernel) (by decide +kernel), my_M_discard, by decide +kernel⟩
theorem kv_M_90 : xa_lkV xP "ClocklessGatesModel" 90 6 106 1 := ⟨Or.inl (xw_t (i := 853) (by decide +kernel) (by decide +kernel)), xw_t (i := 855) (by decide +kernel) (by decide +kernel), ⟨_, _, rfl⟩, xw_s (i := 30) (q := (⟨"ClocklessGatesModel", "noSignal", "(I)Z"⟩, 30)) (by decide +kernel) (by decide +kernel), my_M_noSignal, by decide +kernel⟩
theorem fg_M_94 : xa_fld xP "ClocklessGatesModel" 94 6 4 := ⟨_, _, _, _, k_M, by decide, Or.inl (xw_t (i := 750) (by decide +kernel) (by decide +kernel))⟩
theorem fp_M_94 : xa_fldP xP "ClocklessGatesModel" 94 6 4 (.int) := ⟨_, _, _, _, k_M, by decide, rfl, rfl, Or.inl (xw_t (i := 750) (by decide +kernel) (by decide +kernel))⟩
theorem fg_M_97 : xa_fld xP "ClocklessGatesModel" 97 6 9 := ⟨_, _, _, _, k_M, by decide, Or.inl (xw_t (i := 755) (by decide +kernel) (by decide +kernel))⟩
theorem fp_M_97 : xa_fldP xP "ClocklessGatesModel" 97 6 9 (.int) := ⟨_, _, _, _, k_M, by decide, rfl, rfl, Or.inl (xw_t (i := 755) (by decide +kernel) (by decide +kernel))⟩
theorem fg_M_100 : xa_fld xP "ClocklessGatesModel" 100 6 10 := ⟨_, _, _, _, k_M, by decide, Or.inl (xw_t (i := 756) (by decide +kernel) (by decide +kernel))⟩
theorem fp_M_100 : xa_fldP xP "ClocklessGatesModel" 100 6 10 (.int) := ⟨_, _, _, _, k_M, by decide, rfl, rfl, Or.inl (xw_t (i := 756) (by decide +kernel) (by decide +kernel))⟩
theorem kv_M_103 : xa_lkV xP "ClocklessGatesModel" 103 6 111 2 := ⟨Or.inl (xw_t (i := 873) (by decide +kernel) (by decide +kernel)), xw_t (i := 875) (by decide +kernel) (by decide +kernel), ⟨_, _, rfl⟩, xw_s (i := 32) (q := (⟨"ClocklessGatesModel", "enabled", "(II)Z"⟩, 30)) (by decide +kernel) (by decide +kernel), my_M_enabled, by decide +kernel⟩
theorem kv_M_107 : xa_lkV xP "ClocklessGatesModel" 107 6 112 2 := ⟨Or.inl (xw_t (i := 877) (by decide +kernel) (by decide +kernel)), xw_t (i := 879) (by decide +kernel) (by decide +kernel), ⟨_, _, rfl⟩, xw_s (i := 33) (q := (⟨"ClocklessGatesModel", "safe", "(II)Z"⟩, 30)) (by decide +kernel) (by decide +kernel), my_M_safe, by decide +kernel⟩
theorem kv_M_110 : xa_lkV xP "ClocklessGatesModel" 110 6 113 2 := ⟨Or.inl (xw_t (i := 881) (by decide +kernel) (by decide +kernel)), xw_t (i := 883) (by decide +kernel) (by decide +kernel), ⟨_, _, rfl⟩, xw_s (i := 34) (q := (⟨"ClocklessGatesModel", "right", "(II)Z"⟩, 30)) (by decide +kernel) (by decide +kernel), my_M_right, by decide +kernel⟩
theorem kv_M_113 : xa_lkV xP "ClocklessGatesModel" 113 6 114 2 := ⟨Or.inl (xw_t (i := 885) (by decide +kernel) (by decide +kernel)), xw_t (i := 887) (by decide +kernel) (by decide +kernel), ⟨_, _, rfl⟩, xw_s (i := 35) (q := (⟨"ClocklessGatesModel", "markAfter", "(II)I"⟩, 30)) (by decide +kernel) (by decide +kernel), my_M_markAfter, by decide +kernel⟩
theorem kv_M_117 : xa_lkV xP "ClocklessGatesModel" 117 6 115 2 := ⟨Or.inl (xw_t (i := 889) (by decide +kernel) (by decide +kernel)), xw_t (i := 891) (by decide +kernel) (by decide +kernel), ⟨_, _, rfl⟩, xw_s (i := 36) (q := (⟨"ClocklessGatesModel", "codeAfter", "(II)I"⟩, 30)) (by decide +kernel) (by decide +kernel), my_M_codeAfter, by decide +kernel⟩
theorem kv_M_120 : xa_lkV xP "ClocklessGatesModel" 120 6 116 2 := ⟨Or.inl (xw_t (i := 893) (by decide +kernel) (by decide +kernel)), xw_t (i := 895) (by decide +kernel) (by decide +kernel), ⟨_, _, rfl⟩, xw_s (i := 37) (q := (⟨"ClocklessGatesModel", "find", "(II)I"⟩, 30)) (by decide +kernel) (by decide +kernel), my_M_find, by decide +kernel⟩
theorem kv_M_123 : xa_lkV xP "ClocklessGatesModel" 123 6 119 2 := ⟨Or.inl (xw_t (i := 905) (by decide +kernel) (by decide +kernel)), xw_t (i := 907) (by decide +kernel) (by decide +kernel), ⟨_, _, rfl⟩, xw_s (i := 40) (q := (⟨"ClocklessGatesModel", "sameEdge", "(II)Z"⟩, 30)) (by decide +kernel) (by decide +kernel), my_M_sameEdge, by decide +kernel⟩
theorem kv_M_126 : xa_lkV xP "ClocklessGatesModel" 126 6 120 2 := ⟨Or.inl (xw_t (i := 909) (by decide +kernel) (by decide +kernel)), xw_t (i := 911) (by decide +kernel) (by decide +kernel), ⟨_, _, rfl⟩, xw_s (i := 41) (q := (⟨"ClocklessGatesModel", "edgeEnabled", "(II)Z"⟩, 30)) (by decide +kernel) (by decide +kernel), my_M_edgeEnabled, by decide +kernel⟩
theorem kv_M_129 : xa_lkV xP "ClocklessGatesModel" 129 6 122 1 := ⟨Or.inl (xw_t (i := 917) (by decide +kernel) (by decide +kernel)), xw_t (i := 919) (by decide +kernel) (by decide +kernel), ⟨_, _, rfl⟩, xw_s (i := 43) (q := (⟨"ClocklessGatesModel", "excitedIn", "(I)I"⟩, 30)) (by decide +kernel) (by decide +kernel), my_M_excitedIn, by decide +kernel⟩
theorem kv_M_133 : xa_lkV xP "ClocklessGatesModel" 133 6 118 1 := ⟨Or.inl (xw_t (i := 901) (by decide +kernel) (by decide +kernel)), xw_t (i := 903) (by decide +kernel) (by decide +kernel), ⟨_, _, rfl⟩, xw_s (i := 39) (q := (⟨"ClocklessGatesModel", "loses", "(I)Z"⟩, 30)) (by decide +kernel) (by decide +kernel), my_M_loses, by decide +kernel⟩
theorem kv_M_136 : xa_lkV xP "ClocklessGatesModel" 136 6 121 1 := ⟨Or.inl (xw_t (i := 913) (by decide +kernel) (by decide +kernel)), xw_t (i := 915) (by decide +kernel) (by decide +kernel), ⟨_, _, rfl⟩, xw_s (i := 42) (q := (⟨"ClocklessGatesModel", "conflicts", "(I)Z"⟩, 30)) (by decide +kernel) (by decide +kernel), my_M_conflicts, by decide +kernel⟩
theorem kv_M_139 : xa_lkV xP "ClocklessGatesModel" 139 6 110 0 := ⟨Or.inl (xw_t (i := 869) (by decide +kernel) (by decide +kernel)), xw_t (i := 871) (by decide +kernel) (by decide +kernel), ⟨_, _, rfl⟩, xw_s (i := 31) (q := (⟨"ClocklessGatesModel", "explore", "()V"⟩, 30)) (by decide +kernel) (by decide +kernel), my_M_explore, by decide +kernel⟩
theorem kv_M_142 : xa_lkV xP "ClocklessGatesModel" 142 6 117 2 := ⟨Or.inl (xw_t (i := 897) (by decide +kernel) (by decide +kernel)), xw_t (i := 899) (by decide +kernel) (by decide +kernel), ⟨_, _, rfl⟩, xw_s (i := 38) (q := (⟨"ClocklessGatesModel", "bad", "(II)Z"⟩, 30)) (by decide +kernel) (by decide +kernel), my_M_bad, by decide +kernel⟩
theorem kv_M_145 : xa_lkV xP "ClocklessGatesModel" 145 6 124 0 := ⟨Or.inl (xw_t (i := 925) (by decide +kernel) (by decide +kernel)), xw_t (i := 927) (by decide +kernel) (by decide +kernel), ⟨_, _, rfl⟩, xw_s (i := 44) (q := (⟨"ClocklessGatesModel", "noGraph", "()Z"⟩, 30)) (by decide +kernel) (by decide +kernel), my_M_noGraph, by decide +kernel⟩
theorem kv_M_149 : xa_lkV xP "ClocklessGatesModel" 149 6 126 1 := ⟨Or.inl (xw_t (i := 933) (by decide +kernel) (by decide +kernel)), xw_t (i := 935) (by decide +kernel) (by decide +kernel), ⟨_, _, rfl⟩, xw_s (i := 45) (q := (⟨"ClocklessGatesModel", "noState", "(I)Z"⟩, 30)) (by decide +kernel) (by decide +kernel), my_M_noState, by decide +kernel⟩
theorem ks_M_152 : xa_lkS xP "ClocklessGatesModel" 152 135 1 := ⟨Or.inl (xw_t (i := 969) (by decide +kernel) (by decide +kernel)), xw_t (i := 970) (by decide +kernel) (by decide +kernel), xw_t (i := 7) (by decide +kernel) (by decide +kernel), my_M_three, by decide +kernel⟩
theorem kv_M_155 : xa_lkV xP "ClocklessGatesModel" 155 6 136 2 := ⟨Or.inl (xw_t (i := 972) (by decide +kernel) (by decide +kernel)), xw_t (i := 974) (by decide +kernel) (by decide +kernel), ⟨_, _, rfl⟩, xw_s (i := 49) (q := (⟨"ClocklessGatesModel", "covers", "(II)Z"⟩, 30)) (by decide +kernel) (by decide +kernel), my_M_covers, by decide +kernel⟩
theorem kv_M_158 : xa_lkV xP "ClocklessGatesModel" 158 6 141 1 := ⟨Or.inl (xw_t (i := 991) (by decide +kernel) (by decide +kernel)), xw_t (i := 993) (by decide +kernel) (by decide +kernel), ⟨_, _, rfl⟩, xw_s (i := 53) (q := (⟨"ClocklessGatesModel", "digits", "(I)I"⟩, 30)) (by decide +kernel) (by decide +kernel), my_M_digits, by decide +kernel⟩
theorem fg_M_161 : xa_fld xP "ClocklessGatesModel" 161 6 26 := ⟨_, _, _, _, k_M, by decide, Or.inl (xw_t (i := 772) (by decide +kernel) (by decide +kernel))⟩
theorem fp_M_161 : xa_fldP xP "ClocklessGatesModel" 161 6 26 (.boolean) := ⟨_, _, _, _, k_M, by decide, rfl, rfl, Or.inl (xw_t (i := 772) (by decide +kernel) (by decide +kernel))⟩
theorem fg_M_165 : xa_fld xP "ClocklessGatesModel" 165 6 25 := ⟨_, _, _, _, k_M, by decide, Or.inl (xw_t (i := 771) (by decide +kernel) (by decide +kernel))⟩
theorem fp_M_165 : xa_fldP xP "ClocklessGatesModel" 165 6 25 (.int) := ⟨_, _, _, _, k_M, by decide, rfl, rfl, Or.inl (xw_t (i := 771) (by decide +kernel) (by decide +kernel))⟩
theorem ks_M_168 : xa_lkS xP "ClocklessGatesModel" 168 138 2 := ⟨Or.inl (xw_t (i := 980) (by decide +kernel) (by decide +kernel)), xw_t (i := 981) (by decide +kernel) (by decide +kernel), xw_t (i := 7) (by decide +kernel) (by decide +kernel), my_M_open, by decide +kernel⟩
theorem kv_M_171 : xa_lkV xP "ClocklessGatesModel" 171 6 139 2 := ⟨Or.inl (xw_t (i := 983) (by decide +kernel) (by decide +kernel)), xw_t (i := 985) (by decide +kernel) (by decide +kernel), ⟨_, _, rfl⟩, xw_s (i := 51) (q := (⟨"ClocklessGatesModel", "nextPrime", "(II)I"⟩, 30)) (by decide +kernel) (by decide +kernel), my_M_nextPrime, by decide +kernel⟩
theorem kv_M_174 : xa_lkV xP "ClocklessGatesModel" 174 6 140 1 := ⟨Or.inl (xw_t (i := 987) (by decide +kernel) (by decide +kernel)), xw_t (i := 989) (by decide +kernel) (by decide +kernel), ⟨_, _, rfl⟩, xw_s (i := 52) (q := (⟨"ClocklessGatesModel", "judge", "(I)V"⟩, 30)) (by decide +kernel) (by decide +kernel), my_M_judge, by decide +kernel⟩
theorem kv_M_178 : xa_lkV xP "ClocklessGatesModel" 178 6 133 2 := ⟨Or.inl (xw_t (i := 961) (by decide +kernel) (by decide +kernel)), xw_t (i := 963) (by decide +kernel) (by decide +kernel), ⟨_, _, rfl⟩, xw_s (i := 47) (q := (⟨"ClocklessGatesModel", "codesOf", "(II)I"⟩, 30)) (by decide +kernel) (by decide +kernel), my_M_codesOf, by decide +kernel⟩
theorem kv_M_181 : xa_lkV xP "ClocklessGatesModel" 181 6 134 1 := ⟨Or.inl (xw_t (i := 965) (by decide +kernel) (by decide +kernel)), xw_t (i := 967) (by decide +kernel) (by decide +kernel), ⟨_, _, rfl⟩, xw_s (i := 48) (q := (⟨"ClocklessGatesModel", "tabulate", "(I)V"⟩, 30)) (by decide +kernel) (by decide +kernel), my_M_tabulate, by decide +kernel⟩
theorem kv_M_184 : xa_lkV xP "ClocklessGatesModel" 184 6 137 2 := ⟨Or.inl (xw_t (i := 976) (by decide +kernel) (by decide +kernel)), xw_t (i := 978) (by decide +kernel) (by decide +kernel), ⟨_, _, rfl⟩, xw_s (i := 50) (q := (⟨"ClocklessGatesModel", "tryCovers", "(II)V"⟩, 30)) (by decide +kernel) (by decide +kernel), my_M_tryCovers, by decide +kernel⟩
theorem kv_M_188 : xa_lkV xP "ClocklessGatesModel" 188 6 132 1 := ⟨Or.inl (xw_t (i := 957) (by decide +kernel) (by decide +kernel)), xw_t (i := 959) (by decide +kernel) (by decide +kernel), ⟨_, _, rfl⟩, xw_s (i := 46) (q := (⟨"ClocklessGatesModel", "leastSum", "(I)I"⟩, 30)) (by decide +kernel) (by decide +kernel), my_M_leastSum, by decide +kernel⟩
theorem kv_M_191 : xa_lkV xP "ClocklessGatesModel" 191 6 147 2 := ⟨Or.inl (xw_t (i := 1015) (by decide +kernel) (by decide +kernel)), xw_t (i := 1017) (by decide +kernel) (by decide +kernel), ⟨_, _, rfl⟩, xw_s (i := 54) (q := (⟨"ClocklessGatesModel", "valueOf", "(II)I"⟩, 30)) (by decide +kernel) (by decide +kernel), my_M_valueOf, by decide +kernel⟩
theorem kv_M_194 : xa_lkV xP "ClocklessGatesModel" 194 6 151 2 := ⟨Or.inl (xw_t (i := 1031) (by decide +kernel) (by decide +kernel)), xw_t (i := 1033) (by decide +kernel) (by decide +kernel), ⟨_, _, rfl⟩, xw_s (i := 57) (q := (⟨"ClocklessGatesModel", "acts", "(II)Z"⟩, 30)) (by decide +kernel) (by decide +kernel), my_M_acts, by decide +kernel⟩
theorem kv_M_197 : xa_lkV xP "ClocklessGatesModel" 197 6 150 2 := ⟨Or.inl (xw_t (i := 1027) (by decide +kernel) (by decide +kernel)), xw_t (i := 1029) (by decide +kernel) (by decide +kernel), ⟨_, _, rfl⟩, xw_s (i := 56) (q := (⟨"ClocklessGatesModel", "fires", "(II)Z"⟩, 30)) (by decide +kernel) (by decide +kernel), my_M_fires, by decide +kernel⟩
theorem kv_M_200 : xa_lkV xP "ClocklessGatesModel" 200 6 149 0 := ⟨Or.inl (xw_t (i := 1023) (by decide +kernel) (by decide +kernel)), xw_t (i := 1025) (by decide +kernel) (by decide +kernel), ⟨_, _, rfl⟩, xw_s (i := 55) (q := (⟨"ClocklessGatesModel", "comeTo", "()V"⟩, 30)) (by decide +kernel) (by decide +kernel), my_M_comeTo, by decide +kernel⟩
theorem kv_M_203 : xa_lkV xP "ClocklessGatesModel" 203 6 152 1 := ⟨Or.inl (xw_t (i := 1035) (by decide +kernel) (by decide +kernel)), xw_t (i := 1037) (by decide +kernel) (by decide +kernel), ⟨_, _, rfl⟩, xw_s (i := 58) (q := (⟨"ClocklessGatesModel", "hazard", "(I)Z"⟩, 30)) (by decide +kernel) (by decide +kernel), my_M_hazard, by decide +kernel⟩
theorem kv_M_206 : xa_lkV xP "ClocklessGatesModel" 206 6 153 1 := ⟨Or.inl (xw_t (i := 1039) (by decide +kernel) (by decide +kernel)), xw_t (i := 1041) (by decide +kernel) (by decide +kernel), ⟨_, _, rfl⟩, xw_s (i := 59) (q := (⟨"ClocklessGatesModel", "unexpected", "(I)Z"⟩, 30)) (by decide +kernel) (by decide +kernel), my_M_unexpected, by decide +kernel⟩
theorem kv_M_209 : xa_lkV xP "ClocklessGatesModel" 209 6 154 1 := ⟨Or.inl (xw_t (i := 1043) (by decide +kernel) (by decide +kernel)), xw_t (i := 1045) (by decide +kernel) (by decide +kernel), ⟨_, _, rfl⟩, xw_s (i := 60) (q := (⟨"ClocklessGatesModel", "missing", "(I)Z"⟩, 30)) (by decide +kernel) (by decide +kernel), my_M_missing, by decide +kernel⟩
end
section
/-! Decode rows (printed by wip/whole/gen_prog.py). -/
theorem e_CG_init_0 : xa_d xP 0 0 (.aload_n 0) 1 1 := ⟨by decide +kernel, rfl⟩
theorem e_CG_init_1 : xa_d xP 0 1 (.invokespecial 1) 3 4 := ⟨by decide +kernel, rfl⟩
theorem e_CG_init_4 : xa_d xP 0 4 (.aload_n 0) 1 5 := ⟨by decide +kernel, rfl⟩
theorem e_CG_init_5 : xa_d xP 0 5 (.new 7) 3 8 := ⟨by decide +kernel, rfl⟩
theorem e_CG_init_8 : xa_d xP 0 8 (.dup) 1 9 := ⟨by decide +kernel, rfl⟩
theorem e_CG_init_9 : xa_d xP 0 9 (.invokespecial 9) 3 12 := ⟨by decide +kernel, rfl⟩
theorem e_CG_init_12 : xa_d xP 0 12 (.putfield 10) 3 15 := ⟨by decide +kernel, rfl⟩
theorem e_CG_init_15 : xa_d xP 0 15 (.aload_n 0) 1 16 := ⟨by decide +kernel, rfl⟩
theorem e_CG_init_16 : xa_d xP 0 16 (.new 16) 3 19 := ⟨by decide +kernel, rfl⟩
theorem e_CG_init_19 : xa_d xP 0 19 (.dup) 1 20 := ⟨by decide +kernel, rfl⟩
theorem e_CG_init_20 : xa_d xP 0 20 (.invokespecial 18) 3 23 := ⟨by decide +kernel, rfl⟩
theorem e_CG_init_23 : xa_d xP 0 23 (.putfield 19) 3 26 := ⟨by decide +kernel, rfl⟩
theorem e_CG_init_26 : xa_d xP 0 26 (.aload_n 0) 1 27 := ⟨by decide +kernel, rfl⟩
theorem e_CG_init_27 : xa_d xP 0 27 (.new 23) 3 30 := ⟨by decide +kernel, rfl⟩
theorem e_CG_init_30 : xa_d xP 0 30 (.dup) 1 31 := ⟨by decide +kernel, rfl⟩
theorem e_CG_init_31 : xa_d xP 0 31 (.invokespecial 25) 3 34 := ⟨by decide +kernel, rfl⟩
theorem e_CG_init_34 : xa_d xP 0 34 (.putfield 26) 3 37 := ⟨by decide +kernel, rfl⟩
theorem e_CG_init_37 : xa_d xP 0 37 (.aload_n 0) 1 38 := ⟨by decide +kernel, rfl⟩
theorem e_CG_init_38 : xa_d xP 0 38 (.new 30) 3 41 := ⟨by decide +kernel, rfl⟩
theorem e_CG_init_41 : xa_d xP 0 41 (.dup) 1 42 := ⟨by decide +kernel, rfl⟩
theorem e_CG_init_42 : xa_d xP 0 42 (.invokespecial 32) 3 45 := ⟨by decide +kernel, rfl⟩
theorem e_CG_init_45 : xa_d xP 0 45 (.putfield 33) 3 48 := ⟨by decide +kernel, rfl⟩
theorem e_CG_init_48 : xa_d xP 0 48 (.aload_n 0) 1 49 := ⟨by decide +kernel, rfl⟩
theorem e_CG_init_49 : xa_d xP 0 49 (.iconst (-1)) 1 50 := ⟨by decide +kernel, rfl⟩
theorem e_CG_init_50 : xa_d xP 0 50 (.putfield 37) 3 53 := ⟨by decide +kernel, rfl⟩
theorem e_CG_init_53 : xa_d xP 0 53 (.aload_n 0) 1 54 := ⟨by decide +kernel, rfl⟩
theorem e_CG_init_54 : xa_d xP 0 54 (.iconst (-1)) 1 55 := ⟨by decide +kernel, rfl⟩
theorem e_CG_init_55 : xa_d xP 0 55 (.putfield 41) 3 58 := ⟨by decide +kernel, rfl⟩
theorem e_CG_init_58 : xa_d xP 0 58 (.return_) 1 59 := ⟨by decide +kernel, rfl⟩
theorem e_N_init_0 : xa_d xP 1 0 (.aload_n 0) 1 1 := ⟨by decide +kernel, rfl⟩
theorem e_N_init_1 : xa_d xP 1 1 (.invokespecial 3) 3 4 := ⟨by decide +kernel, rfl⟩
theorem e_N_init_4 : xa_d xP 1 4 (.aload_n 0) 1 5 := ⟨by decide +kernel, rfl⟩
theorem e_N_init_5 : xa_d xP 1 5 (.bipush 14) 2 7 := ⟨by decide +kernel, rfl⟩
theorem e_N_init_7 : xa_d xP 1 7 (.newarray .int) 2 9 := ⟨by decide +kernel, rfl⟩
theorem e_N_init_9 : xa_d xP 1 9 (.putfield 9) 3 12 := ⟨by decide +kernel, rfl⟩
theorem e_N_init_12 : xa_d xP 1 12 (.aload_n 0) 1 13 := ⟨by decide +kernel, rfl⟩
theorem e_N_init_13 : xa_d xP 1 13 (.bipush 14) 2 15 := ⟨by decide +kernel, rfl⟩
theorem e_N_init_15 : xa_d xP 1 15 (.newarray .boolean) 2 17 := ⟨by decide +kernel, rfl⟩
theorem e_N_init_17 : xa_d xP 1 17 (.putfield 15) 3 20 := ⟨by decide +kernel, rfl⟩
theorem e_N_init_20 : xa_d xP 1 20 (.aload_n 0) 1 21 := ⟨by decide +kernel, rfl⟩
theorem e_N_init_21 : xa_d xP 1 21 (.bipush 14) 2 23 := ⟨by decide +kernel, rfl⟩
theorem e_N_init_23 : xa_d xP 1 23 (.newarray .int) 2 25 := ⟨by decide +kernel, rfl⟩
theorem e_N_init_25 : xa_d xP 1 25 (.putfield 19) 3 28 := ⟨by decide +kernel, rfl⟩
theorem e_N_init_28 : xa_d xP 1 28 (.aload_n 0) 1 29 := ⟨by decide +kernel, rfl⟩
theorem e_N_init_29 : xa_d xP 1 29 (.bipush 14) 2 31 := ⟨by decide +kernel, rfl⟩
theorem e_N_init_31 : xa_d xP 1 31 (.newarray .int) 2 33 := ⟨by decide +kernel, rfl⟩
theorem e_N_init_33 : xa_d xP 1 33 (.putfield 22) 3 36 := ⟨by decide +kernel, rfl⟩
theorem e_N_init_36 : xa_d xP 1 36 (.return_) 1 37 := ⟨by decide +kernel, rfl⟩
theorem e_G_init_0 : xa_d xP 2 0 (.aload_n 0) 1 1 := ⟨by decide +kernel, rfl⟩
theorem e_G_init_1 : xa_d xP 2 1 (.invokespecial 3) 3 4 := ⟨by decide +kernel, rfl⟩
theorem e_G_init_4 : xa_d xP 2 4 (.aload_n 0) 1 5 := ⟨by decide +kernel, rfl⟩
theorem e_G_init_5 : xa_d xP 2 5 (.bipush 80) 2 7 := ⟨by decide +kernel, rfl⟩
theorem e_G_init_7 : xa_d xP 2 7 (.newarray .int) 2 9 := ⟨by decide +kernel, rfl⟩
theorem e_G_init_9 : xa_d xP 2 9 (.putfield 9) 3 12 := ⟨by decide +kernel, rfl⟩
theorem e_G_init_12 : xa_d xP 2 12 (.aload_n 0) 1 13 := ⟨by decide +kernel, rfl⟩
theorem e_G_init_13 : xa_d xP 2 13 (.bipush 80) 2 15 := ⟨by decide +kernel, rfl⟩
theorem e_G_init_15 : xa_d xP 2 15 (.newarray .int) 2 17 := ⟨by decide +kernel, rfl⟩
theorem e_G_init_17 : xa_d xP 2 17 (.putfield 15) 3 20 := ⟨by decide +kernel, rfl⟩
theorem e_G_init_20 : xa_d xP 2 20 (.aload_n 0) 1 21 := ⟨by decide +kernel, rfl⟩
theorem e_G_init_21 : xa_d xP 2 21 (.bipush 80) 2 23 := ⟨by decide +kernel, rfl⟩
theorem e_G_init_23 : xa_d xP 2 23 (.newarray .int) 2 25 := ⟨by decide +kernel, rfl⟩
theorem e_G_init_25 : xa_d xP 2 25 (.putfield 18) 3 28 := ⟨by decide +kernel, rfl⟩
theorem e_G_init_28 : xa_d xP 2 28 (.aload_n 0) 1 29 := ⟨by decide +kernel, rfl⟩
theorem e_G_init_29 : xa_d xP 2 29 (.bipush 80) 2 31 := ⟨by decide +kernel, rfl⟩
theorem e_G_init_31 : xa_d xP 2 31 (.newarray .int) 2 33 := ⟨by decide +kernel, rfl⟩
theorem e_G_init_33 : xa_d xP 2 33 (.putfield 21) 3 36 := ⟨by decide +kernel, rfl⟩
theorem e_G_init_36 : xa_d xP 2 36 (.aload_n 0) 1 37 := ⟨by decide +kernel, rfl⟩
theorem e_G_init_37 : xa_d xP 2 37 (.bipush 80) 2 39 := ⟨by decide +kernel, rfl⟩
theorem e_G_init_39 : xa_d xP 2 39 (.newarray .int) 2 41 := ⟨by decide +kernel, rfl⟩
theorem e_G_init_41 : xa_d xP 2 41 (.putfield 24) 3 44 := ⟨by decide +kernel, rfl⟩
theorem e_G_init_44 : xa_d xP 2 44 (.aload_n 0) 1 45 := ⟨by decide +kernel, rfl⟩
theorem e_G_init_45 : xa_d xP 2 45 (.sipush 1120) 3 48 := ⟨by decide +kernel, rfl⟩
theorem e_G_init_48 : xa_d xP 2 48 (.newarray .int) 2 50 := ⟨by decide +kernel, rfl⟩
theorem e_G_init_50 : xa_d xP 2 50 (.putfield 27) 3 53 := ⟨by decide +kernel, rfl⟩
theorem e_G_init_53 : xa_d xP 2 53 (.return_) 1 54 := ⟨by decide +kernel, rfl⟩
theorem e_Ci_init_0 : xa_d xP 3 0 (.aload_n 0) 1 1 := ⟨by decide +kernel, rfl⟩
theorem e_Ci_init_1 : xa_d xP 3 1 (.invokespecial 3) 3 4 := ⟨by decide +kernel, rfl⟩
theorem e_Ci_init_4 : xa_d xP 3 4 (.aload_n 0) 1 5 := ⟨by decide +kernel, rfl⟩
theorem e_Ci_init_5 : xa_d xP 3 5 (.iconst 5) 1 6 := ⟨by decide +kernel, rfl⟩
theorem e_Ci_init_6 : xa_d xP 3 6 (.anewarray 9) 3 9 := ⟨by decide +kernel, rfl⟩
theorem e_Ci_init_9 : xa_d xP 3 9 (.putfield 11) 3 12 := ⟨by decide +kernel, rfl⟩
theorem e_Ci_init_12 : xa_d xP 3 12 (.aload_n 0) 1 13 := ⟨by decide +kernel, rfl⟩
theorem e_Ci_init_13 : xa_d xP 3 13 (.iconst 5) 1 14 := ⟨by decide +kernel, rfl⟩
theorem e_Ci_init_14 : xa_d xP 3 14 (.anewarray 9) 3 17 := ⟨by decide +kernel, rfl⟩
theorem e_Ci_init_17 : xa_d xP 3 17 (.putfield 17) 3 20 := ⟨by decide +kernel, rfl⟩
theorem e_Ci_init_20 : xa_d xP 3 20 (.aload_n 0) 1 21 := ⟨by decide +kernel, rfl⟩
theorem e_Ci_init_21 : xa_d xP 3 21 (.bipush 80) 2 23 := ⟨by decide +kernel, rfl⟩
theorem e_Ci_init_23 : xa_d xP 3 23 (.newarray .boolean) 2 25 := ⟨by decide +kernel, rfl⟩
theorem e_Ci_init_25 : xa_d xP 3 25 (.putfield 20) 3 28 := ⟨by decide +kernel, rfl⟩
theorem e_Ci_init_28 : xa_d xP 3 28 (.aload_n 0) 1 29 := ⟨by decide +kernel, rfl⟩
theorem e_Ci_init_29 : xa_d xP 3 29 (.bipush 80) 2 31 := ⟨by decide +kernel, rfl⟩
theorem e_Ci_init_31 : xa_d xP 3 31 (.newarray .int) 2 33 := ⟨by decide +kernel, rfl⟩
theorem e_Ci_init_33 : xa_d xP 3 33 (.putfield 24) 3 36 := ⟨by decide +kernel, rfl⟩
theorem e_Ci_init_36 : xa_d xP 3 36 (.iconst 0) 1 37 := ⟨by decide +kernel, rfl⟩
theorem e_Ci_init_37 : xa_d xP 3 37 (.istore_n 1) 1 38 := ⟨by decide +kernel, rfl⟩
theorem e_Ci_init_38 : xa_d xP 3 38 (.iload_n 1) 1 39 := ⟨by decide +kernel, rfl⟩
theorem e_Ci_init_39 : xa_d xP 3 39 (.iconst 5) 1 40 := ⟨by decide +kernel, rfl⟩
theorem e_Ci_init_40 : xa_db xP 3 40 (.if_icmp .ge 35) 3 43 35 75 := ⟨⟨by decide +kernel, rfl⟩, rfl⟩
theorem e_Ci_init_43 : xa_d xP 3 43 (.aload_n 0) 1 44 := ⟨by decide +kernel, rfl⟩
theorem e_Ci_init_44 : xa_d xP 3 44 (.getfield 11) 3 47 := ⟨by decide +kernel, rfl⟩
theorem e_Ci_init_47 : xa_d xP 3 47 (.iload_n 1) 1 48 := ⟨by decide +kernel, rfl⟩
theorem e_Ci_init_48 : xa_d xP 3 48 (.new 9) 3 51 := ⟨by decide +kernel, rfl⟩
theorem e_Ci_init_51 : xa_d xP 3 51 (.dup) 1 52 := ⟨by decide +kernel, rfl⟩
theorem e_Ci_init_52 : xa_d xP 3 52 (.invokespecial 28) 3 55 := ⟨by decide +kernel, rfl⟩
theorem e_Ci_init_55 : xa_d xP 3 55 (.aastore) 1 56 := ⟨by decide +kernel, rfl⟩
theorem e_Ci_init_56 : xa_d xP 3 56 (.aload_n 0) 1 57 := ⟨by decide +kernel, rfl⟩
theorem e_Ci_init_57 : xa_d xP 3 57 (.getfield 17) 3 60 := ⟨by decide +kernel, rfl⟩
theorem e_Ci_init_60 : xa_d xP 3 60 (.iload_n 1) 1 61 := ⟨by decide +kernel, rfl⟩
theorem e_Ci_init_61 : xa_d xP 3 61 (.new 9) 3 64 := ⟨by decide +kernel, rfl⟩
theorem e_Ci_init_64 : xa_d xP 3 64 (.dup) 1 65 := ⟨by decide +kernel, rfl⟩
theorem e_Ci_init_65 : xa_d xP 3 65 (.invokespecial 28) 3 68 := ⟨by decide +kernel, rfl⟩
theorem e_Ci_init_68 : xa_d xP 3 68 (.aastore) 1 69 := ⟨by decide +kernel, rfl⟩
theorem e_Ci_init_69 : xa_d xP 3 69 (.iinc 1 1) 3 72 := ⟨by decide +kernel, rfl⟩
theorem e_Ci_init_72 : xa_db xP 3 72 (.goto (-34)) 3 75 (-34) 38 := ⟨⟨by decide +kernel, rfl⟩, rfl⟩
theorem e_Ci_init_75 : xa_d xP 3 75 (.return_) 1 76 := ⟨by decide +kernel, rfl⟩
theorem e_Ga_init_0 : xa_d xP 4 0 (.aload_n 0) 1 1 := ⟨by decide +kernel, rfl⟩
theorem e_Ga_init_1 : xa_d xP 4 1 (.invokespecial 3) 3 4 := ⟨by decide +kernel, rfl⟩
theorem e_Ga_init_4 : xa_d xP 4 4 (.aload_n 0) 1 5 := ⟨by decide +kernel, rfl⟩
theorem e_Ga_init_5 : xa_d xP 4 5 (.bipush 8) 2 7 := ⟨by decide +kernel, rfl⟩
theorem e_Ga_init_7 : xa_d xP 4 7 (.newarray .int) 2 9 := ⟨by decide +kernel, rfl⟩
theorem e_Ga_init_9 : xa_d xP 4 9 (.putfield 9) 3 12 := ⟨by decide +kernel, rfl⟩
theorem e_Ga_init_12 : xa_d xP 4 12 (.return_) 1 13 := ⟨by decide +kernel, rfl⟩
theorem e_L_init_0 : xa_d xP 5 0 (.aload_n 0) 1 1 := ⟨by decide +kernel, rfl⟩
theorem e_L_init_1 : xa_d xP 5 1 (.invokespecial 3) 3 4 := ⟨by decide +kernel, rfl⟩
theorem e_L_init_4 : xa_d xP 5 4 (.aload_n 0) 1 5 := ⟨by decide +kernel, rfl⟩
theorem e_L_init_5 : xa_d xP 5 5 (.sipush 243) 3 8 := ⟨by decide +kernel, rfl⟩
theorem e_L_init_8 : xa_d xP 5 8 (.newarray .int) 2 10 := ⟨by decide +kernel, rfl⟩
theorem e_L_init_10 : xa_d xP 5 10 (.putfield 9) 3 13 := ⟨by decide +kernel, rfl⟩
theorem e_L_init_13 : xa_d xP 5 13 (.aload_n 0) 1 14 := ⟨by decide +kernel, rfl⟩
theorem e_L_init_14 : xa_d xP 5 14 (.sipush 243) 3 17 := ⟨by decide +kernel, rfl⟩
theorem e_L_init_17 : xa_d xP 5 17 (.newarray .int) 2 19 := ⟨by decide +kernel, rfl⟩
theorem e_L_init_19 : xa_d xP 5 19 (.putfield 15) 3 22 := ⟨by decide +kernel, rfl⟩
theorem e_L_init_22 : xa_d xP 5 22 (.aload_n 0) 1 23 := ⟨by decide +kernel, rfl⟩
theorem e_L_init_23 : xa_d xP 5 23 (.sipush 243) 3 26 := ⟨by decide +kernel, rfl⟩
theorem e_L_init_26 : xa_d xP 5 26 (.newarray .int) 2 28 := ⟨by decide +kernel, rfl⟩
theorem e_L_init_28 : xa_d xP 5 28 (.putfield 18) 3 31 := ⟨by decide +kernel, rfl⟩
theorem e_L_init_31 : xa_d xP 5 31 (.aload_n 0) 1 32 := ⟨by decide +kernel, rfl⟩
theorem e_L_init_32 : xa_d xP 5 32 (.sipush 243) 3 35 := ⟨by decide +kernel, rfl⟩
theorem e_L_init_35 : xa_d xP 5 35 (.newarray .int) 2 37 := ⟨by decide +kernel, rfl⟩
theorem e_L_init_37 : xa_d xP 5 37 (.putfield 21) 3 40 := ⟨by decide +kernel, rfl⟩
theorem e_L_init_40 : xa_d xP 5 40 (.aload_n 0) 1 41 := ⟨by decide +kernel, rfl⟩
theorem e_L_init_41 : xa_d xP 5 41 (.sipush 243) 3 44 := ⟨by decide +kernel, rfl⟩
theorem e_L_init_44 : xa_d xP 5 44 (.newarray .boolean) 2 46 := ⟨by decide +kernel, rfl⟩
theorem e_L_init_46 : xa_d xP 5 46 (.putfield 24) 3 49 := ⟨by decide +kernel, rfl⟩
theorem e_L_init_49 : xa_d xP 5 49 (.aload_n 0) 1 50 := ⟨by decide +kernel, rfl⟩
theorem e_L_init_50 : xa_d xP 5 50 (.sipush 243) 3 53 := ⟨by decide +kernel, rfl⟩
theorem e_L_init_53 : xa_d xP 5 53 (.newarray .boolean) 2 55 := ⟨by decide +kernel, rfl⟩
theorem e_L_init_55 : xa_d xP 5 55 (.putfield 28) 3 58 := ⟨by decide +kernel, rfl⟩
theorem e_L_init_58 : xa_d xP 5 58 (.aload_n 0) 1 59 := ⟨by decide +kernel, rfl⟩
theorem e_L_init_59 : xa_d xP 5 59 (.bipush 32) 2 61 := ⟨by decide +kernel, rfl⟩
theorem e_L_init_61 : xa_d xP 5 61 (.newarray .int) 2 63 := ⟨by decide +kernel, rfl⟩
theorem e_L_init_63 : xa_d xP 5 63 (.putfield 31) 3 66 := ⟨by decide +kernel, rfl⟩
theorem e_L_init_66 : xa_d xP 5 66 (.aload_n 0) 1 67 := ⟨by decide +kernel, rfl⟩
theorem e_L_init_67 : xa_d xP 5 67 (.invokestatic 34) 3 70 := ⟨by decide +kernel, rfl⟩
theorem e_L_init_70 : xa_d xP 5 70 (.putfield 38) 3 73 := ⟨by decide +kernel, rfl⟩
theorem e_L_init_73 : xa_d xP 5 73 (.return_) 1 74 := ⟨by decide +kernel, rfl⟩
theorem e_L_spansOfAllProducts_0 : xa_d xP 6 0 (.sipush 243) 3 3 := ⟨by decide +kernel, rfl⟩
theorem e_L_spansOfAllProducts_3 : xa_d xP 6 3 (.newarray .int) 2 5 := ⟨by decide +kernel, rfl⟩
theorem e_L_spansOfAllProducts_5 : xa_d xP 6 5 (.astore_n 0) 1 6 := ⟨by decide +kernel, rfl⟩
theorem e_L_spansOfAllProducts_6 : xa_d xP 6 6 (.aload_n 0) 1 7 := ⟨by decide +kernel, rfl⟩
theorem e_L_spansOfAllProducts_7 : xa_d xP 6 7 (.iconst 0) 1 8 := ⟨by decide +kernel, rfl⟩
theorem e_L_spansOfAllProducts_8 : xa_d xP 6 8 (.iconst 1) 1 9 := ⟨by decide +kernel, rfl⟩
theorem e_L_spansOfAllProducts_9 : xa_d xP 6 9 (.iastore) 1 10 := ⟨by decide +kernel, rfl⟩
theorem e_L_spansOfAllProducts_10 : xa_d xP 6 10 (.iconst 0) 1 11 := ⟨by decide +kernel, rfl⟩
theorem e_L_spansOfAllProducts_11 : xa_d xP 6 11 (.istore_n 1) 1 12 := ⟨by decide +kernel, rfl⟩
theorem e_L_spansOfAllProducts_12 : xa_d xP 6 12 (.iload_n 1) 1 13 := ⟨by decide +kernel, rfl⟩
theorem e_L_spansOfAllProducts_13 : xa_d xP 6 13 (.iconst 5) 1 14 := ⟨by decide +kernel, rfl⟩
theorem e_L_spansOfAllProducts_14 : xa_db xP 6 14 (.if_icmp .ge 57) 3 17 57 71 := ⟨⟨by decide +kernel, rfl⟩, rfl⟩
theorem e_L_spansOfAllProducts_17 : xa_d xP 6 17 (.getstatic 41) 3 20 := ⟨by decide +kernel, rfl⟩
theorem e_L_spansOfAllProducts_20 : xa_d xP 6 20 (.iload_n 1) 1 21 := ⟨by decide +kernel, rfl⟩
theorem e_L_spansOfAllProducts_21 : xa_d xP 6 21 (.iaload) 1 22 := ⟨by decide +kernel, rfl⟩
theorem e_L_spansOfAllProducts_22 : xa_d xP 6 22 (.istore_n 2) 1 23 := ⟨by decide +kernel, rfl⟩
theorem e_L_spansOfAllProducts_23 : xa_d xP 6 23 (.iconst 0) 1 24 := ⟨by decide +kernel, rfl⟩
theorem e_L_spansOfAllProducts_24 : xa_d xP 6 24 (.istore_n 3) 1 25 := ⟨by decide +kernel, rfl⟩
theorem e_L_spansOfAllProducts_25 : xa_d xP 6 25 (.iload_n 3) 1 26 := ⟨by decide +kernel, rfl⟩
theorem e_L_spansOfAllProducts_26 : xa_d xP 6 26 (.iload_n 2) 1 27 := ⟨by decide +kernel, rfl⟩
theorem e_L_spansOfAllProducts_27 : xa_db xP 6 27 (.if_icmp .ge 38) 3 30 38 65 := ⟨⟨by decide +kernel, rfl⟩, rfl⟩
theorem e_L_spansOfAllProducts_30 : xa_d xP 6 30 (.aload_n 0) 1 31 := ⟨by decide +kernel, rfl⟩
theorem e_L_spansOfAllProducts_31 : xa_d xP 6 31 (.iload_n 3) 1 32 := ⟨by decide +kernel, rfl⟩
theorem e_L_spansOfAllProducts_32 : xa_d xP 6 32 (.iaload) 1 33 := ⟨by decide +kernel, rfl⟩
theorem e_L_spansOfAllProducts_33 : xa_d xP 6 33 (.iconst 1) 1 34 := ⟨by decide +kernel, rfl⟩
theorem e_L_spansOfAllProducts_34 : xa_d xP 6 34 (.iload_n 1) 1 35 := ⟨by decide +kernel, rfl⟩
theorem e_L_spansOfAllProducts_35 : xa_d xP 6 35 (.ishl) 1 36 := ⟨by decide +kernel, rfl⟩
theorem e_L_spansOfAllProducts_36 : xa_d xP 6 36 (.ishl) 1 37 := ⟨by decide +kernel, rfl⟩
theorem e_L_spansOfAllProducts_37 : xa_d xP 6 37 (.istore 4) 2 39 := ⟨by decide +kernel, rfl⟩
theorem e_L_spansOfAllProducts_39 : xa_d xP 6 39 (.aload_n 0) 1 40 := ⟨by decide +kernel, rfl⟩
theorem e_L_spansOfAllProducts_40 : xa_d xP 6 40 (.iload_n 3) 1 41 := ⟨by decide +kernel, rfl⟩
theorem e_L_spansOfAllProducts_41 : xa_d xP 6 41 (.iload_n 2) 1 42 := ⟨by decide +kernel, rfl⟩
theorem e_L_spansOfAllProducts_42 : xa_d xP 6 42 (.iadd) 1 43 := ⟨by decide +kernel, rfl⟩
theorem e_L_spansOfAllProducts_43 : xa_d xP 6 43 (.iload 4) 2 45 := ⟨by decide +kernel, rfl⟩
theorem e_L_spansOfAllProducts_45 : xa_d xP 6 45 (.iastore) 1 46 := ⟨by decide +kernel, rfl⟩
theorem e_L_spansOfAllProducts_46 : xa_d xP 6 46 (.aload_n 0) 1 47 := ⟨by decide +kernel, rfl⟩
theorem e_L_spansOfAllProducts_47 : xa_d xP 6 47 (.iload_n 3) 1 48 := ⟨by decide +kernel, rfl⟩
theorem e_L_spansOfAllProducts_48 : xa_d xP 6 48 (.iconst 2) 1 49 := ⟨by decide +kernel, rfl⟩
theorem e_L_spansOfAllProducts_49 : xa_d xP 6 49 (.iload_n 2) 1 50 := ⟨by decide +kernel, rfl⟩
theorem e_L_spansOfAllProducts_50 : xa_d xP 6 50 (.imul) 1 51 := ⟨by decide +kernel, rfl⟩
theorem e_L_spansOfAllProducts_51 : xa_d xP 6 51 (.iadd) 1 52 := ⟨by decide +kernel, rfl⟩
theorem e_L_spansOfAllProducts_52 : xa_d xP 6 52 (.aload_n 0) 1 53 := ⟨by decide +kernel, rfl⟩
theorem e_L_spansOfAllProducts_53 : xa_d xP 6 53 (.iload_n 3) 1 54 := ⟨by decide +kernel, rfl⟩
theorem e_L_spansOfAllProducts_54 : xa_d xP 6 54 (.iaload) 1 55 := ⟨by decide +kernel, rfl⟩
theorem e_L_spansOfAllProducts_55 : xa_d xP 6 55 (.iload 4) 2 57 := ⟨by decide +kernel, rfl⟩
theorem e_L_spansOfAllProducts_57 : xa_d xP 6 57 (.ior) 1 58 := ⟨by decide +kernel, rfl⟩
theorem e_L_spansOfAllProducts_58 : xa_d xP 6 58 (.iastore) 1 59 := ⟨by decide +kernel, rfl⟩
theorem e_L_spansOfAllProducts_59 : xa_d xP 6 59 (.iinc 3 1) 3 62 := ⟨by decide +kernel, rfl⟩
theorem e_L_spansOfAllProducts_62 : xa_db xP 6 62 (.goto (-37)) 3 65 (-37) 25 := ⟨⟨by decide +kernel, rfl⟩, rfl⟩
theorem e_L_spansOfAllProducts_65 : xa_d xP 6 65 (.iinc 1 1) 3 68 := ⟨by decide +kernel, rfl⟩
theorem e_L_spansOfAllProducts_68 : xa_db xP 6 68 (.goto (-56)) 3 71 (-56) 12 := ⟨⟨by decide +kernel, rfl⟩, rfl⟩
theorem e_L_spansOfAllProducts_71 : xa_d xP 6 71 (.aload_n 0) 1 72 := ⟨by decide +kernel, rfl⟩
theorem e_L_spansOfAllProducts_72 : xa_d xP 6 72 (.areturn) 1 73 := ⟨by decide +kernel, rfl⟩
theorem e_CG_analyse_0 : xa_d xP 7 0 (.aload_n 0) 1 1 := ⟨by decide +kernel, rfl⟩
theorem e_CG_analyse_1 : xa_d xP 7 1 (.invokevirtual 54) 3 4 := ⟨by decide +kernel, rfl⟩
theorem e_CG_analyse_4 : xa_d xP 7 4 (.aload_n 0) 1 5 := ⟨by decide +kernel, rfl⟩
theorem e_CG_analyse_5 : xa_d xP 7 5 (.getfield 19) 3 8 := ⟨by decide +kernel, rfl⟩
theorem e_CG_analyse_8 : xa_d xP 7 8 (.aload_n 0) 1 9 := ⟨by decide +kernel, rfl⟩
theorem e_CG_analyse_9 : xa_d xP 7 9 (.getfield 10) 3 12 := ⟨by decide +kernel, rfl⟩
theorem e_CG_analyse_12 : xa_d xP 7 12 (.invokevirtual 103) 3 15 := ⟨by decide +kernel, rfl⟩
theorem e_CG_analyse_15 : xa_d xP 7 15 (.aload_n 0) 1 16 := ⟨by decide +kernel, rfl⟩
theorem e_CG_analyse_16 : xa_d xP 7 16 (.aload_n 0) 1 17 := ⟨by decide +kernel, rfl⟩
theorem e_CG_analyse_17 : xa_d xP 7 17 (.getfield 19) 3 20 := ⟨by decide +kernel, rfl⟩
theorem e_CG_analyse_20 : xa_d xP 7 20 (.aload_n 0) 1 21 := ⟨by decide +kernel, rfl⟩
theorem e_CG_analyse_21 : xa_d xP 7 21 (.getfield 10) 3 24 := ⟨by decide +kernel, rfl⟩
theorem e_CG_analyse_24 : xa_d xP 7 24 (.invokevirtual 107) 3 27 := ⟨by decide +kernel, rfl⟩
theorem e_CG_analyse_27 : xa_d xP 7 27 (.putfield 37) 3 30 := ⟨by decide +kernel, rfl⟩
theorem e_CG_analyse_30 : xa_d xP 7 30 (.aload_n 0) 1 31 := ⟨by decide +kernel, rfl⟩
theorem e_CG_analyse_31 : xa_d xP 7 31 (.aload_n 0) 1 32 := ⟨by decide +kernel, rfl⟩
theorem e_CG_analyse_32 : xa_d xP 7 32 (.getfield 19) 3 35 := ⟨by decide +kernel, rfl⟩
theorem e_CG_analyse_35 : xa_d xP 7 35 (.getfield 111) 3 38 := ⟨by decide +kernel, rfl⟩
theorem e_CG_analyse_38 : xa_d xP 7 38 (.putfield 41) 3 41 := ⟨by decide +kernel, rfl⟩
theorem e_CG_analyse_41 : xa_d xP 7 41 (.aload_n 0) 1 42 := ⟨by decide +kernel, rfl⟩
theorem e_CG_analyse_42 : xa_d xP 7 42 (.getfield 37) 3 45 := ⟨by decide +kernel, rfl⟩
theorem e_CG_analyse_45 : xa_d xP 7 45 (.ireturn) 1 46 := ⟨by decide +kernel, rfl⟩
theorem e_CG_discardResults_0 : xa_d xP 8 0 (.aload_n 0) 1 1 := ⟨by decide +kernel, rfl⟩
theorem e_CG_discardResults_1 : xa_d xP 8 1 (.getfield 19) 3 4 := ⟨by decide +kernel, rfl⟩
theorem e_CG_discardResults_4 : xa_d xP 8 4 (.iconst 0) 1 5 := ⟨by decide +kernel, rfl⟩
theorem e_CG_discardResults_5 : xa_d xP 8 5 (.putfield 117) 3 8 := ⟨by decide +kernel, rfl⟩
theorem e_CG_discardResults_8 : xa_d xP 8 8 (.aload_n 0) 1 9 := ⟨by decide +kernel, rfl⟩
theorem e_CG_discardResults_9 : xa_d xP 8 9 (.getfield 26) 3 12 := ⟨by decide +kernel, rfl⟩
theorem e_CG_discardResults_12 : xa_d xP 8 12 (.invokevirtual 210) 3 15 := ⟨by decide +kernel, rfl⟩
theorem e_CG_discardResults_15 : xa_d xP 8 15 (.aload_n 0) 1 16 := ⟨by decide +kernel, rfl⟩
theorem e_CG_discardResults_16 : xa_d xP 8 16 (.iconst (-1)) 1 17 := ⟨by decide +kernel, rfl⟩
theorem e_CG_discardResults_17 : xa_d xP 8 17 (.putfield 37) 3 20 := ⟨by decide +kernel, rfl⟩
theorem e_CG_discardResults_20 : xa_d xP 8 20 (.aload_n 0) 1 21 := ⟨by decide +kernel, rfl⟩
theorem e_CG_discardResults_21 : xa_d xP 8 21 (.iconst (-1)) 1 22 := ⟨by decide +kernel, rfl⟩
theorem e_CG_discardResults_22 : xa_d xP 8 22 (.putfield 41) 3 25 := ⟨by decide +kernel, rfl⟩
theorem e_CG_discardResults_25 : xa_d xP 8 25 (.return_) 1 26 := ⟨by decide +kernel, rfl⟩
theorem e_Ci_clear_0 : xa_d xP 9 0 (.iconst 0) 1 1 := ⟨by decide +kernel, rfl⟩
theorem e_Ci_clear_1 : xa_d xP 9 1 (.istore_n 1) 1 2 := ⟨by decide +kernel, rfl⟩
theorem e_Ci_clear_2 : xa_d xP 9 2 (.iload_n 1) 1 3 := ⟨by decide +kernel, rfl⟩
theorem e_Ci_clear_3 : xa_d xP 9 3 (.iconst 5) 1 4 := ⟨by decide +kernel, rfl⟩
theorem e_Ci_clear_4 : xa_db xP 9 4 (.if_icmp .ge 18) 3 7 18 22 := ⟨⟨by decide +kernel, rfl⟩, rfl⟩
theorem e_Ci_clear_7 : xa_d xP 9 7 (.aload_n 0) 1 8 := ⟨by decide +kernel, rfl⟩
theorem e_Ci_clear_8 : xa_d xP 9 8 (.getfield 11) 3 11 := ⟨by decide +kernel, rfl⟩
theorem e_Ci_clear_11 : xa_d xP 9 11 (.iload_n 1) 1 12 := ⟨by decide +kernel, rfl⟩
theorem e_Ci_clear_12 : xa_d xP 9 12 (.aaload) 1 13 := ⟨by decide +kernel, rfl⟩
theorem e_Ci_clear_13 : xa_d xP 9 13 (.invokevirtual 29) 3 16 := ⟨by decide +kernel, rfl⟩
theorem e_Ci_clear_16 : xa_d xP 9 16 (.iinc 1 1) 3 19 := ⟨by decide +kernel, rfl⟩
theorem e_Ci_clear_19 : xa_db xP 9 19 (.goto (-17)) 3 22 (-17) 2 := ⟨⟨by decide +kernel, rfl⟩, rfl⟩
theorem e_Ci_clear_22 : xa_d xP 9 22 (.return_) 1 23 := ⟨by decide +kernel, rfl⟩
theorem e_Ga_clear_0 : xa_d xP 10 0 (.aload_n 0) 1 1 := ⟨by decide +kernel, rfl⟩
theorem e_Ga_clear_1 : xa_d xP 10 1 (.iconst 0) 1 2 := ⟨by decide +kernel, rfl⟩
theorem e_Ga_clear_2 : xa_d xP 10 2 (.putfield 15) 3 5 := ⟨by decide +kernel, rfl⟩
theorem e_Ga_clear_5 : xa_d xP 10 5 (.aload_n 0) 1 6 := ⟨by decide +kernel, rfl⟩
theorem e_Ga_clear_6 : xa_d xP 10 6 (.iconst 0) 1 7 := ⟨by decide +kernel, rfl⟩
theorem e_Ga_clear_7 : xa_d xP 10 7 (.putfield 19) 3 10 := ⟨by decide +kernel, rfl⟩
theorem e_Ga_clear_10 : xa_d xP 10 10 (.return_) 1 11 := ⟨by decide +kernel, rfl⟩
theorem e_G_build_0 : xa_d xP 11 0 (.aload_n 0) 1 1 := ⟨by decide +kernel, rfl⟩
theorem e_G_build_1 : xa_d xP 11 1 (.iconst 0) 1 2 := ⟨by decide +kernel, rfl⟩
theorem e_G_build_2 : xa_d xP 11 2 (.putfield 30) 3 5 := ⟨by decide +kernel, rfl⟩
theorem e_G_build_5 : xa_d xP 11 5 (.aload_n 0) 1 6 := ⟨by decide +kernel, rfl⟩
theorem e_G_build_6 : xa_d xP 11 6 (.iconst (-1)) 1 7 := ⟨by decide +kernel, rfl⟩
theorem e_G_build_7 : xa_d xP 11 7 (.putfield 34) 3 10 := ⟨by decide +kernel, rfl⟩
theorem e_G_build_10 : xa_d xP 11 10 (.aload_n 0) 1 11 := ⟨by decide +kernel, rfl⟩
theorem e_G_build_11 : xa_d xP 11 11 (.iconst (-1)) 1 12 := ⟨by decide +kernel, rfl⟩
theorem e_G_build_12 : xa_d xP 11 12 (.putfield 38) 3 15 := ⟨by decide +kernel, rfl⟩
theorem e_G_build_15 : xa_d xP 11 15 (.aload_n 0) 1 16 := ⟨by decide +kernel, rfl⟩
theorem e_G_build_16 : xa_d xP 11 16 (.iconst 0) 1 17 := ⟨by decide +kernel, rfl⟩
theorem e_G_build_17 : xa_d xP 11 17 (.putfield 41) 3 20 := ⟨by decide +kernel, rfl⟩
theorem e_G_build_20 : xa_d xP 11 20 (.aload_n 0) 1 21 := ⟨by decide +kernel, rfl⟩
theorem e_G_build_21 : xa_d xP 11 21 (.aload_n 1) 1 22 := ⟨by decide +kernel, rfl⟩
theorem e_G_build_22 : xa_d xP 11 22 (.getfield 44) 3 25 := ⟨by decide +kernel, rfl⟩
theorem e_G_build_25 : xa_d xP 11 25 (.aload_n 1) 1 26 := ⟨by decide +kernel, rfl⟩
theorem e_G_build_26 : xa_d xP 11 26 (.getfield 49) 3 29 := ⟨by decide +kernel, rfl⟩
theorem e_G_build_29 : xa_d xP 11 29 (.iconst (-1)) 1 30 := ⟨by decide +kernel, rfl⟩
theorem e_G_build_30 : xa_d xP 11 30 (.invokevirtual 52) 3 33 := ⟨by decide +kernel, rfl⟩
theorem e_G_build_33 : xa_d xP 11 33 (.pop) 1 34 := ⟨by decide +kernel, rfl⟩
theorem e_G_build_34 : xa_d xP 11 34 (.iconst 0) 1 35 := ⟨by decide +kernel, rfl⟩
theorem e_G_build_35 : xa_d xP 11 35 (.istore_n 2) 1 36 := ⟨by decide +kernel, rfl⟩
theorem e_G_build_36 : xa_d xP 11 36 (.iload_n 2) 1 37 := ⟨by decide +kernel, rfl⟩
theorem e_G_build_37 : xa_d xP 11 37 (.bipush 80) 2 39 := ⟨by decide +kernel, rfl⟩
theorem e_G_build_39 : xa_db xP 11 39 (.if_icmp .ge 30) 3 42 30 69 := ⟨⟨by decide +kernel, rfl⟩, rfl⟩
theorem e_G_build_42 : xa_d xP 11 42 (.iload_n 2) 1 43 := ⟨by decide +kernel, rfl⟩
theorem e_G_build_43 : xa_d xP 11 43 (.aload_n 0) 1 44 := ⟨by decide +kernel, rfl⟩
theorem e_G_build_44 : xa_d xP 11 44 (.getfield 41) 3 47 := ⟨by decide +kernel, rfl⟩
theorem e_G_build_47 : xa_db xP 11 47 (.if_icmp .ge 22) 3 50 22 69 := ⟨⟨by decide +kernel, rfl⟩, rfl⟩
theorem e_G_build_50 : xa_d xP 11 50 (.aload_n 0) 1 51 := ⟨by decide +kernel, rfl⟩
theorem e_G_build_51 : xa_d xP 11 51 (.getfield 30) 3 54 := ⟨by decide +kernel, rfl⟩
theorem e_G_build_54 : xa_db xP 11 54 (.ifCond .ne 15) 3 57 15 69 := ⟨⟨by decide +kernel, rfl⟩, rfl⟩
theorem e_G_build_57 : xa_d xP 11 57 (.aload_n 0) 1 58 := ⟨by decide +kernel, rfl⟩
theorem e_G_build_58 : xa_d xP 11 58 (.aload_n 1) 1 59 := ⟨by decide +kernel, rfl⟩
theorem e_G_build_59 : xa_d xP 11 59 (.iload_n 2) 1 60 := ⟨by decide +kernel, rfl⟩
theorem e_G_build_60 : xa_d xP 11 60 (.invokevirtual 56) 3 63 := ⟨by decide +kernel, rfl⟩
theorem e_G_build_63 : xa_d xP 11 63 (.iinc 2 1) 3 66 := ⟨by decide +kernel, rfl⟩
theorem e_G_build_66 : xa_db xP 11 66 (.goto (-30)) 3 69 (-30) 36 := ⟨⟨by decide +kernel, rfl⟩, rfl⟩
theorem e_G_build_69 : xa_d xP 11 69 (.aload_n 0) 1 70 := ⟨by decide +kernel, rfl⟩
theorem e_G_build_70 : xa_d xP 11 70 (.getfield 30) 3 73 := ⟨by decide +kernel, rfl⟩
theorem e_G_build_73 : xa_db xP 11 73 (.ifCond .eq 8) 3 76 8 81 := ⟨⟨by decide +kernel, rfl⟩, rfl⟩
theorem e_G_build_76 : xa_d xP 11 76 (.aload_n 0) 1 77 := ⟨by decide +kernel, rfl⟩
theorem e_G_build_77 : xa_d xP 11 77 (.iconst 0) 1 78 := ⟨by decide +kernel, rfl⟩
theorem e_G_build_78 : xa_d xP 11 78 (.putfield 41) 3 81 := ⟨by decide +kernel, rfl⟩
theorem e_G_build_81 : xa_d xP 11 81 (.return_) 1 82 := ⟨by decide +kernel, rfl⟩
theorem e_G_addState_0 : xa_d xP 12 0 (.aload_n 0) 1 1 := ⟨by decide +kernel, rfl⟩
theorem e_G_addState_1 : xa_d xP 12 1 (.getfield 9) 3 4 := ⟨by decide +kernel, rfl⟩
theorem e_G_addState_4 : xa_d xP 12 4 (.aload_n 0) 1 5 := ⟨by decide +kernel, rfl⟩
theorem e_G_addState_5 : xa_d xP 12 5 (.getfield 41) 3 8 := ⟨by decide +kernel, rfl⟩
theorem e_G_addState_8 : xa_d xP 12 8 (.iload_n 1) 1 9 := ⟨by decide +kernel, rfl⟩
theorem e_G_addState_9 : xa_d xP 12 9 (.iastore) 1 10 := ⟨by decide +kernel, rfl⟩
theorem e_G_addState_10 : xa_d xP 12 10 (.aload_n 0) 1 11 := ⟨by decide +kernel, rfl⟩
theorem e_G_addState_11 : xa_d xP 12 11 (.getfield 15) 3 14 := ⟨by decide +kernel, rfl⟩
theorem e_G_addState_14 : xa_d xP 12 14 (.aload_n 0) 1 15 := ⟨by decide +kernel, rfl⟩
theorem e_G_addState_15 : xa_d xP 12 15 (.getfield 41) 3 18 := ⟨by decide +kernel, rfl⟩
theorem e_G_addState_18 : xa_d xP 12 18 (.iload_n 2) 1 19 := ⟨by decide +kernel, rfl⟩
theorem e_G_addState_19 : xa_d xP 12 19 (.iastore) 1 20 := ⟨by decide +kernel, rfl⟩
theorem e_G_addState_20 : xa_d xP 12 20 (.aload_n 0) 1 21 := ⟨by decide +kernel, rfl⟩
theorem e_G_addState_21 : xa_d xP 12 21 (.getfield 18) 3 24 := ⟨by decide +kernel, rfl⟩
theorem e_G_addState_24 : xa_d xP 12 24 (.aload_n 0) 1 25 := ⟨by decide +kernel, rfl⟩
theorem e_G_addState_25 : xa_d xP 12 25 (.getfield 41) 3 28 := ⟨by decide +kernel, rfl⟩
theorem e_G_addState_28 : xa_d xP 12 28 (.iload_n 3) 1 29 := ⟨by decide +kernel, rfl⟩
theorem e_G_addState_29 : xa_d xP 12 29 (.iastore) 1 30 := ⟨by decide +kernel, rfl⟩
theorem e_G_addState_30 : xa_d xP 12 30 (.aload_n 0) 1 31 := ⟨by decide +kernel, rfl⟩
theorem e_G_addState_31 : xa_d xP 12 31 (.getfield 21) 3 34 := ⟨by decide +kernel, rfl⟩
theorem e_G_addState_34 : xa_d xP 12 34 (.aload_n 0) 1 35 := ⟨by decide +kernel, rfl⟩
theorem e_G_addState_35 : xa_d xP 12 35 (.getfield 41) 3 38 := ⟨by decide +kernel, rfl⟩
theorem e_G_addState_38 : xa_d xP 12 38 (.iconst 0) 1 39 := ⟨by decide +kernel, rfl⟩
theorem e_G_addState_39 : xa_d xP 12 39 (.iastore) 1 40 := ⟨by decide +kernel, rfl⟩
theorem e_G_addState_40 : xa_d xP 12 40 (.aload_n 0) 1 41 := ⟨by decide +kernel, rfl⟩
theorem e_G_addState_41 : xa_d xP 12 41 (.getfield 24) 3 44 := ⟨by decide +kernel, rfl⟩
theorem e_G_addState_44 : xa_d xP 12 44 (.aload_n 0) 1 45 := ⟨by decide +kernel, rfl⟩
theorem e_G_addState_45 : xa_d xP 12 45 (.getfield 41) 3 48 := ⟨by decide +kernel, rfl⟩
theorem e_G_addState_48 : xa_d xP 12 48 (.iconst 0) 1 49 := ⟨by decide +kernel, rfl⟩
theorem e_G_addState_49 : xa_d xP 12 49 (.iastore) 1 50 := ⟨by decide +kernel, rfl⟩
theorem e_G_addState_50 : xa_d xP 12 50 (.aload_n 0) 1 51 := ⟨by decide +kernel, rfl⟩
theorem e_G_addState_51 : xa_d xP 12 51 (.dup) 1 52 := ⟨by decide +kernel, rfl⟩
theorem e_G_addState_52 : xa_d xP 12 52 (.getfield 41) 3 55 := ⟨by decide +kernel, rfl⟩
theorem e_G_addState_55 : xa_d xP 12 55 (.iconst 1) 1 56 := ⟨by decide +kernel, rfl⟩
theorem e_G_addState_56 : xa_d xP 12 56 (.iadd) 1 57 := ⟨by decide +kernel, rfl⟩
theorem e_G_addState_57 : xa_d xP 12 57 (.putfield 41) 3 60 := ⟨by decide +kernel, rfl⟩
theorem e_G_addState_60 : xa_d xP 12 60 (.aload_n 0) 1 61 := ⟨by decide +kernel, rfl⟩
theorem e_G_addState_61 : xa_d xP 12 61 (.getfield 41) 3 64 := ⟨by decide +kernel, rfl⟩
theorem e_G_addState_64 : xa_d xP 12 64 (.iconst 1) 1 65 := ⟨by decide +kernel, rfl⟩
theorem e_G_addState_65 : xa_d xP 12 65 (.isub) 1 66 := ⟨by decide +kernel, rfl⟩
theorem e_G_addState_66 : xa_d xP 12 66 (.ireturn) 1 67 := ⟨by decide +kernel, rfl⟩
theorem e_G_expand_0 : xa_d xP 13 0 (.iconst 0) 1 1 := ⟨by decide +kernel, rfl⟩
theorem e_G_expand_1 : xa_d xP 13 1 (.istore_n 3) 1 2 := ⟨by decide +kernel, rfl⟩
theorem e_G_expand_2 : xa_d xP 13 2 (.iload_n 3) 1 3 := ⟨by decide +kernel, rfl⟩
theorem e_G_expand_3 : xa_d xP 13 3 (.aload_n 1) 1 4 := ⟨by decide +kernel, rfl⟩
theorem e_G_expand_4 : xa_d xP 13 4 (.getfield 60) 3 7 := ⟨by decide +kernel, rfl⟩
theorem e_G_expand_7 : xa_db xP 13 7 (.if_icmp .ge 132) 3 10 132 139 := ⟨⟨by decide +kernel, rfl⟩, rfl⟩
theorem e_G_expand_10 : xa_d xP 13 10 (.aload_n 0) 1 11 := ⟨by decide +kernel, rfl⟩
theorem e_G_expand_11 : xa_d xP 13 11 (.getfield 27) 3 14 := ⟨by decide +kernel, rfl⟩
theorem e_G_expand_14 : xa_d xP 13 14 (.iload_n 2) 1 15 := ⟨by decide +kernel, rfl⟩
theorem e_G_expand_15 : xa_d xP 13 15 (.bipush 14) 2 17 := ⟨by decide +kernel, rfl⟩
theorem e_G_expand_17 : xa_d xP 13 17 (.imul) 1 18 := ⟨by decide +kernel, rfl⟩
theorem e_G_expand_18 : xa_d xP 13 18 (.iload_n 3) 1 19 := ⟨by decide +kernel, rfl⟩
theorem e_G_expand_19 : xa_d xP 13 19 (.iadd) 1 20 := ⟨by decide +kernel, rfl⟩
theorem e_G_expand_20 : xa_d xP 13 20 (.iconst (-1)) 1 21 := ⟨by decide +kernel, rfl⟩
theorem e_G_expand_21 : xa_d xP 13 21 (.iastore) 1 22 := ⟨by decide +kernel, rfl⟩
theorem e_G_expand_22 : xa_d xP 13 22 (.aload_n 1) 1 23 := ⟨by decide +kernel, rfl⟩
theorem e_G_expand_23 : xa_d xP 13 23 (.iload_n 3) 1 24 := ⟨by decide +kernel, rfl⟩
theorem e_G_expand_24 : xa_d xP 13 24 (.aload_n 0) 1 25 := ⟨by decide +kernel, rfl⟩
theorem e_G_expand_25 : xa_d xP 13 25 (.getfield 9) 3 28 := ⟨by decide +kernel, rfl⟩
theorem e_G_expand_28 : xa_d xP 13 28 (.iload_n 2) 1 29 := ⟨by decide +kernel, rfl⟩
theorem e_G_expand_29 : xa_d xP 13 29 (.iaload) 1 30 := ⟨by decide +kernel, rfl⟩
theorem e_G_expand_30 : xa_d xP 13 30 (.invokevirtual 63) 3 33 := ⟨by decide +kernel, rfl⟩
theorem e_G_expand_33 : xa_db xP 13 33 (.ifCond .eq 100) 3 36 100 133 := ⟨⟨by decide +kernel, rfl⟩, rfl⟩
theorem e_G_expand_36 : xa_d xP 13 36 (.aload_n 0) 1 37 := ⟨by decide +kernel, rfl⟩
theorem e_G_expand_37 : xa_d xP 13 37 (.aload_n 1) 1 38 := ⟨by decide +kernel, rfl⟩
theorem e_G_expand_38 : xa_d xP 13 38 (.iload_n 2) 1 39 := ⟨by decide +kernel, rfl⟩
theorem e_G_expand_39 : xa_d xP 13 39 (.iload_n 3) 1 40 := ⟨by decide +kernel, rfl⟩
theorem e_G_expand_40 : xa_d xP 13 40 (.invokevirtual 67) 3 43 := ⟨by decide +kernel, rfl⟩
theorem e_G_expand_43 : xa_d xP 13 43 (.aload_n 1) 1 44 := ⟨by decide +kernel, rfl⟩
theorem e_G_expand_44 : xa_d xP 13 44 (.iload_n 3) 1 45 := ⟨by decide +kernel, rfl⟩
theorem e_G_expand_45 : xa_d xP 13 45 (.aload_n 0) 1 46 := ⟨by decide +kernel, rfl⟩
theorem e_G_expand_46 : xa_d xP 13 46 (.getfield 9) 3 49 := ⟨by decide +kernel, rfl⟩
theorem e_G_expand_49 : xa_d xP 13 49 (.iload_n 2) 1 50 := ⟨by decide +kernel, rfl⟩
theorem e_G_expand_50 : xa_d xP 13 50 (.iaload) 1 51 := ⟨by decide +kernel, rfl⟩
theorem e_G_expand_51 : xa_d xP 13 51 (.invokevirtual 71) 3 54 := ⟨by decide +kernel, rfl⟩
theorem e_G_expand_54 : xa_d xP 13 54 (.istore 4) 2 56 := ⟨by decide +kernel, rfl⟩
theorem e_G_expand_56 : xa_d xP 13 56 (.aload_n 1) 1 57 := ⟨by decide +kernel, rfl⟩
theorem e_G_expand_57 : xa_d xP 13 57 (.iload_n 3) 1 58 := ⟨by decide +kernel, rfl⟩
theorem e_G_expand_58 : xa_d xP 13 58 (.aload_n 0) 1 59 := ⟨by decide +kernel, rfl⟩
theorem e_G_expand_59 : xa_d xP 13 59 (.getfield 15) 3 62 := ⟨by decide +kernel, rfl⟩
theorem e_G_expand_62 : xa_d xP 13 62 (.iload_n 2) 1 63 := ⟨by decide +kernel, rfl⟩
theorem e_G_expand_63 : xa_d xP 13 63 (.iaload) 1 64 := ⟨by decide +kernel, rfl⟩
theorem e_G_expand_64 : xa_d xP 13 64 (.invokevirtual 74) 3 67 := ⟨by decide +kernel, rfl⟩
theorem e_G_expand_67 : xa_d xP 13 67 (.istore 5) 2 69 := ⟨by decide +kernel, rfl⟩
theorem e_G_expand_69 : xa_d xP 13 69 (.iload 4) 2 71 := ⟨by decide +kernel, rfl⟩
theorem e_G_expand_71 : xa_db xP 13 71 (.ifCond .eq 26) 3 74 26 97 := ⟨⟨by decide +kernel, rfl⟩, rfl⟩
theorem e_G_expand_74 : xa_d xP 13 74 (.iload 5) 2 76 := ⟨by decide +kernel, rfl⟩
theorem e_G_expand_76 : xa_db xP 13 76 (.ifCond .eq 21) 3 79 21 97 := ⟨⟨by decide +kernel, rfl⟩, rfl⟩
theorem e_G_expand_79 : xa_d xP 13 79 (.aload_n 0) 1 80 := ⟨by decide +kernel, rfl⟩
theorem e_G_expand_80 : xa_d xP 13 80 (.getfield 27) 3 83 := ⟨by decide +kernel, rfl⟩
theorem e_G_expand_83 : xa_d xP 13 83 (.iload_n 2) 1 84 := ⟨by decide +kernel, rfl⟩
theorem e_G_expand_84 : xa_d xP 13 84 (.bipush 14) 2 86 := ⟨by decide +kernel, rfl⟩
theorem e_G_expand_86 : xa_d xP 13 86 (.imul) 1 87 := ⟨by decide +kernel, rfl⟩
theorem e_G_expand_87 : xa_d xP 13 87 (.iload_n 3) 1 88 := ⟨by decide +kernel, rfl⟩
theorem e_G_expand_88 : xa_d xP 13 88 (.iadd) 1 89 := ⟨by decide +kernel, rfl⟩
theorem e_G_expand_89 : xa_d xP 13 89 (.aload_n 0) 1 90 := ⟨by decide +kernel, rfl⟩
theorem e_G_expand_90 : xa_d xP 13 90 (.aload_n 1) 1 91 := ⟨by decide +kernel, rfl⟩
theorem e_G_expand_91 : xa_d xP 13 91 (.iload_n 2) 1 92 := ⟨by decide +kernel, rfl⟩
theorem e_G_expand_92 : xa_d xP 13 92 (.iload_n 3) 1 93 := ⟨by decide +kernel, rfl⟩
theorem e_G_expand_93 : xa_d xP 13 93 (.invokevirtual 77) 3 96 := ⟨by decide +kernel, rfl⟩
theorem e_G_expand_96 : xa_d xP 13 96 (.iastore) 1 97 := ⟨by decide +kernel, rfl⟩
theorem e_G_expand_97 : xa_d xP 13 97 (.iload 4) 2 99 := ⟨by decide +kernel, rfl⟩
theorem e_G_expand_99 : xa_db xP 13 99 (.ifCond .ne 16) 3 102 16 115 := ⟨⟨by decide +kernel, rfl⟩, rfl⟩
theorem e_G_expand_102 : xa_d xP 13 102 (.aload_n 0) 1 103 := ⟨by decide +kernel, rfl⟩
theorem e_G_expand_103 : xa_d xP 13 103 (.getfield 34) 3 106 := ⟨by decide +kernel, rfl⟩
theorem e_G_expand_106 : xa_d xP 13 106 (.iconst (-1)) 1 107 := ⟨by decide +kernel, rfl⟩
theorem e_G_expand_107 : xa_db xP 13 107 (.if_icmp .ne 8) 3 110 8 115 := ⟨⟨by decide +kernel, rfl⟩, rfl⟩
theorem e_G_expand_110 : xa_d xP 13 110 (.aload_n 0) 1 111 := ⟨by decide +kernel, rfl⟩
theorem e_G_expand_111 : xa_d xP 13 111 (.iload_n 2) 1 112 := ⟨by decide +kernel, rfl⟩
theorem e_G_expand_112 : xa_d xP 13 112 (.putfield 34) 3 115 := ⟨by decide +kernel, rfl⟩
theorem e_G_expand_115 : xa_d xP 13 115 (.iload 5) 2 117 := ⟨by decide +kernel, rfl⟩
theorem e_G_expand_117 : xa_db xP 13 117 (.ifCond .ne 16) 3 120 16 133 := ⟨⟨by decide +kernel, rfl⟩, rfl⟩
theorem e_G_expand_120 : xa_d xP 13 120 (.aload_n 0) 1 121 := ⟨by decide +kernel, rfl⟩
theorem e_G_expand_121 : xa_d xP 13 121 (.getfield 38) 3 124 := ⟨by decide +kernel, rfl⟩
theorem e_G_expand_124 : xa_d xP 13 124 (.iconst (-1)) 1 125 := ⟨by decide +kernel, rfl⟩
theorem e_G_expand_125 : xa_db xP 13 125 (.if_icmp .ne 8) 3 128 8 133 := ⟨⟨by decide +kernel, rfl⟩, rfl⟩
theorem e_G_expand_128 : xa_d xP 13 128 (.aload_n 0) 1 129 := ⟨by decide +kernel, rfl⟩
theorem e_G_expand_129 : xa_d xP 13 129 (.iload_n 2) 1 130 := ⟨by decide +kernel, rfl⟩
theorem e_G_expand_130 : xa_d xP 13 130 (.putfield 38) 3 133 := ⟨by decide +kernel, rfl⟩
theorem e_G_expand_133 : xa_d xP 13 133 (.iinc 3 1) 3 136 := ⟨by decide +kernel, rfl⟩
theorem e_G_expand_136 : xa_db xP 13 136 (.goto (-134)) 3 139 (-134) 2 := ⟨⟨by decide +kernel, rfl⟩, rfl⟩
theorem e_G_expand_139 : xa_d xP 13 139 (.return_) 1 140 := ⟨by decide +kernel, rfl⟩
theorem e_N_isEnabled_0 : xa_d xP 14 0 (.aload_n 0) 1 1 := ⟨by decide +kernel, rfl⟩
theorem e_N_isEnabled_1 : xa_d xP 14 1 (.getfield 19) 3 4 := ⟨by decide +kernel, rfl⟩
theorem e_N_isEnabled_4 : xa_d xP 14 4 (.iload_n 1) 1 5 := ⟨by decide +kernel, rfl⟩
theorem e_N_isEnabled_5 : xa_d xP 14 5 (.iaload) 1 6 := ⟨by decide +kernel, rfl⟩
theorem e_N_isEnabled_6 : xa_d xP 14 6 (.iload_n 2) 1 7 := ⟨by decide +kernel, rfl⟩
theorem e_N_isEnabled_7 : xa_d xP 14 7 (.iconst (-1)) 1 8 := ⟨by decide +kernel, rfl⟩
theorem e_N_isEnabled_8 : xa_d xP 14 8 (.ixor) 1 9 := ⟨by decide +kernel, rfl⟩
theorem e_N_isEnabled_9 : xa_d xP 14 9 (.iand) 1 10 := ⟨by decide +kernel, rfl⟩
theorem e_N_isEnabled_10 : xa_db xP 14 10 (.ifCond .ne 7) 3 13 7 17 := ⟨⟨by decide +kernel, rfl⟩, rfl⟩
theorem e_N_isEnabled_13 : xa_d xP 14 13 (.iconst 1) 1 14 := ⟨by decide +kernel, rfl⟩
theorem e_N_isEnabled_14 : xa_db xP 14 14 (.goto 4) 3 17 4 18 := ⟨⟨by decide +kernel, rfl⟩, rfl⟩
theorem e_N_isEnabled_17 : xa_d xP 14 17 (.iconst 0) 1 18 := ⟨by decide +kernel, rfl⟩
theorem e_N_isEnabled_18 : xa_d xP 14 18 (.ireturn) 1 19 := ⟨by decide +kernel, rfl⟩
theorem e_G_noteEnabled_0 : xa_d xP 15 0 (.aload_n 0) 1 1 := ⟨by decide +kernel, rfl⟩
theorem e_G_noteEnabled_1 : xa_d xP 15 1 (.getfield 24) 3 4 := ⟨by decide +kernel, rfl⟩
theorem e_G_noteEnabled_4 : xa_d xP 15 4 (.iload_n 2) 1 5 := ⟨by decide +kernel, rfl⟩
theorem e_G_noteEnabled_5 : xa_d xP 15 5 (.dup2) 1 6 := ⟨by decide +kernel, rfl⟩
theorem e_G_noteEnabled_6 : xa_d xP 15 6 (.iaload) 1 7 := ⟨by decide +kernel, rfl⟩
theorem e_G_noteEnabled_7 : xa_d xP 15 7 (.aload_n 1) 1 8 := ⟨by decide +kernel, rfl⟩
theorem e_G_noteEnabled_8 : xa_d xP 15 8 (.iload_n 3) 1 9 := ⟨by decide +kernel, rfl⟩
theorem e_G_noteEnabled_9 : xa_d xP 15 9 (.invokevirtual 81) 3 12 := ⟨by decide +kernel, rfl⟩
theorem e_G_noteEnabled_12 : xa_d xP 15 12 (.ior) 1 13 := ⟨by decide +kernel, rfl⟩
theorem e_G_noteEnabled_13 : xa_d xP 15 13 (.iastore) 1 14 := ⟨by decide +kernel, rfl⟩
theorem e_G_noteEnabled_14 : xa_d xP 15 14 (.aload_n 1) 1 15 := ⟨by decide +kernel, rfl⟩
theorem e_G_noteEnabled_15 : xa_d xP 15 15 (.aload_n 1) 1 16 := ⟨by decide +kernel, rfl⟩
theorem e_G_noteEnabled_16 : xa_d xP 15 16 (.iload_n 3) 1 17 := ⟨by decide +kernel, rfl⟩
theorem e_G_noteEnabled_17 : xa_d xP 15 17 (.invokevirtual 85) 3 20 := ⟨by decide +kernel, rfl⟩
theorem e_G_noteEnabled_20 : xa_d xP 15 20 (.invokevirtual 88) 3 23 := ⟨by decide +kernel, rfl⟩
theorem e_G_noteEnabled_23 : xa_db xP 15 23 (.ifCond .ne 19) 3 26 19 42 := ⟨⟨by decide +kernel, rfl⟩, rfl⟩
theorem e_G_noteEnabled_26 : xa_d xP 15 26 (.aload_n 0) 1 27 := ⟨by decide +kernel, rfl⟩
theorem e_G_noteEnabled_27 : xa_d xP 15 27 (.getfield 21) 3 30 := ⟨by decide +kernel, rfl⟩
theorem e_G_noteEnabled_30 : xa_d xP 15 30 (.iload_n 2) 1 31 := ⟨by decide +kernel, rfl⟩
theorem e_G_noteEnabled_31 : xa_d xP 15 31 (.dup2) 1 32 := ⟨by decide +kernel, rfl⟩
theorem e_G_noteEnabled_32 : xa_d xP 15 32 (.iaload) 1 33 := ⟨by decide +kernel, rfl⟩
theorem e_G_noteEnabled_33 : xa_d xP 15 33 (.iconst 1) 1 34 := ⟨by decide +kernel, rfl⟩
theorem e_G_noteEnabled_34 : xa_d xP 15 34 (.aload_n 1) 1 35 := ⟨by decide +kernel, rfl⟩
theorem e_G_noteEnabled_35 : xa_d xP 15 35 (.iload_n 3) 1 36 := ⟨by decide +kernel, rfl⟩
theorem e_G_noteEnabled_36 : xa_d xP 15 36 (.invokevirtual 85) 3 39 := ⟨by decide +kernel, rfl⟩
theorem e_G_noteEnabled_39 : xa_d xP 15 39 (.ishl) 1 40 := ⟨by decide +kernel, rfl⟩
theorem e_G_noteEnabled_40 : xa_d xP 15 40 (.ior) 1 41 := ⟨by decide +kernel, rfl⟩
theorem e_G_noteEnabled_41 : xa_d xP 15 41 (.iastore) 1 42 := ⟨by decide +kernel, rfl⟩
theorem e_G_noteEnabled_42 : xa_d xP 15 42 (.return_) 1 43 := ⟨by decide +kernel, rfl⟩
theorem e_N_edgeBit_0 : xa_d xP 16 0 (.iconst 1) 1 1 := ⟨by decide +kernel, rfl⟩
theorem e_N_edgeBit_1 : xa_d xP 16 1 (.iconst 2) 1 2 := ⟨by decide +kernel, rfl⟩
theorem e_N_edgeBit_2 : xa_d xP 16 2 (.aload_n 0) 1 3 := ⟨by decide +kernel, rfl⟩
theorem e_N_edgeBit_3 : xa_d xP 16 3 (.getfield 9) 3 6 := ⟨by decide +kernel, rfl⟩
theorem e_N_edgeBit_6 : xa_d xP 16 6 (.iload_n 1) 1 7 := ⟨by decide +kernel, rfl⟩
theorem e_N_edgeBit_7 : xa_d xP 16 7 (.iaload) 1 8 := ⟨by decide +kernel, rfl⟩
theorem e_N_edgeBit_8 : xa_d xP 16 8 (.imul) 1 9 := ⟨by decide +kernel, rfl⟩
theorem e_N_edgeBit_9 : xa_d xP 16 9 (.aload_n 0) 1 10 := ⟨by decide +kernel, rfl⟩
theorem e_N_edgeBit_10 : xa_d xP 16 10 (.iload_n 1) 1 11 := ⟨by decide +kernel, rfl⟩
theorem e_N_edgeBit_11 : xa_d xP 16 11 (.invokevirtual 47) 3 14 := ⟨by decide +kernel, rfl⟩
theorem e_N_edgeBit_14 : xa_d xP 16 14 (.iadd) 1 15 := ⟨by decide +kernel, rfl⟩
theorem e_N_edgeBit_15 : xa_d xP 16 15 (.ishl) 1 16 := ⟨by decide +kernel, rfl⟩
theorem e_N_edgeBit_16 : xa_d xP 16 16 (.ireturn) 1 17 := ⟨by decide +kernel, rfl⟩
theorem e_N_levelAfter_0 : xa_d xP 17 0 (.aload_n 0) 1 1 := ⟨by decide +kernel, rfl⟩
theorem e_N_levelAfter_1 : xa_d xP 17 1 (.getfield 15) 3 4 := ⟨by decide +kernel, rfl⟩
theorem e_N_levelAfter_4 : xa_d xP 17 4 (.iload_n 1) 1 5 := ⟨by decide +kernel, rfl⟩
theorem e_N_levelAfter_5 : xa_d xP 17 5 (.baload) 1 6 := ⟨by decide +kernel, rfl⟩
theorem e_N_levelAfter_6 : xa_db xP 17 6 (.ifCond .eq 7) 3 9 7 13 := ⟨⟨by decide +kernel, rfl⟩, rfl⟩
theorem e_N_levelAfter_9 : xa_d xP 17 9 (.iconst 1) 1 10 := ⟨by decide +kernel, rfl⟩
theorem e_N_levelAfter_10 : xa_db xP 17 10 (.goto 4) 3 13 4 14 := ⟨⟨by decide +kernel, rfl⟩, rfl⟩
theorem e_N_levelAfter_13 : xa_d xP 17 13 (.iconst 0) 1 14 := ⟨by decide +kernel, rfl⟩
theorem e_N_levelAfter_14 : xa_d xP 17 14 (.ireturn) 1 15 := ⟨by decide +kernel, rfl⟩
theorem e_N_signalOf_0 : xa_d xP 18 0 (.aload_n 0) 1 1 := ⟨by decide +kernel, rfl⟩
theorem e_N_signalOf_1 : xa_d xP 18 1 (.getfield 9) 3 4 := ⟨by decide +kernel, rfl⟩
theorem e_N_signalOf_4 : xa_d xP 18 4 (.iload_n 1) 1 5 := ⟨by decide +kernel, rfl⟩
theorem e_N_signalOf_5 : xa_d xP 18 5 (.iaload) 1 6 := ⟨by decide +kernel, rfl⟩
theorem e_N_signalOf_6 : xa_d xP 18 6 (.ireturn) 1 7 := ⟨by decide +kernel, rfl⟩
theorem e_N_isInput_0 : xa_d xP 19 0 (.aload_n 0) 1 1 := ⟨by decide +kernel, rfl⟩
theorem e_N_isInput_1 : xa_d xP 19 1 (.getfield 29) 3 4 := ⟨by decide +kernel, rfl⟩
theorem e_N_isInput_4 : xa_d xP 19 4 (.iload_n 1) 1 5 := ⟨by decide +kernel, rfl⟩
theorem e_N_isInput_5 : xa_d xP 19 5 (.ishr) 1 6 := ⟨by decide +kernel, rfl⟩
theorem e_N_isInput_6 : xa_d xP 19 6 (.iconst 1) 1 7 := ⟨by decide +kernel, rfl⟩
theorem e_N_isInput_7 : xa_d xP 19 7 (.iand) 1 8 := ⟨by decide +kernel, rfl⟩
theorem e_N_isInput_8 : xa_d xP 19 8 (.iconst 1) 1 9 := ⟨by decide +kernel, rfl⟩
theorem e_N_isInput_9 : xa_db xP 19 9 (.if_icmp .ne 7) 3 12 7 16 := ⟨⟨by decide +kernel, rfl⟩, rfl⟩
theorem e_N_isInput_12 : xa_d xP 19 12 (.iconst 1) 1 13 := ⟨by decide +kernel, rfl⟩
theorem e_N_isInput_13 : xa_db xP 19 13 (.goto 4) 3 16 4 17 := ⟨⟨by decide +kernel, rfl⟩, rfl⟩
theorem e_N_isInput_16 : xa_d xP 19 16 (.iconst 0) 1 17 := ⟨by decide +kernel, rfl⟩
theorem e_N_isInput_17 : xa_d xP 19 17 (.ireturn) 1 18 := ⟨by decide +kernel, rfl⟩
theorem e_N_isSafe_0 : xa_d xP 20 0 (.aload_n 0) 1 1 := ⟨by decide +kernel, rfl⟩
theorem e_N_isSafe_1 : xa_d xP 20 1 (.getfield 22) 3 4 := ⟨by decide +kernel, rfl⟩
theorem e_N_isSafe_4 : xa_d xP 20 4 (.iload_n 1) 1 5 := ⟨by decide +kernel, rfl⟩
theorem e_N_isSafe_5 : xa_d xP 20 5 (.iaload) 1 6 := ⟨by decide +kernel, rfl⟩
theorem e_N_isSafe_6 : xa_d xP 20 6 (.aload_n 0) 1 7 := ⟨by decide +kernel, rfl⟩
theorem e_N_isSafe_7 : xa_d xP 20 7 (.getfield 19) 3 10 := ⟨by decide +kernel, rfl⟩
theorem e_N_isSafe_10 : xa_d xP 20 10 (.iload_n 1) 1 11 := ⟨by decide +kernel, rfl⟩
theorem e_N_isSafe_11 : xa_d xP 20 11 (.iaload) 1 12 := ⟨by decide +kernel, rfl⟩
theorem e_N_isSafe_12 : xa_d xP 20 12 (.iconst (-1)) 1 13 := ⟨by decide +kernel, rfl⟩
theorem e_N_isSafe_13 : xa_d xP 20 13 (.ixor) 1 14 := ⟨by decide +kernel, rfl⟩
theorem e_N_isSafe_14 : xa_d xP 20 14 (.iand) 1 15 := ⟨by decide +kernel, rfl⟩
theorem e_N_isSafe_15 : xa_d xP 20 15 (.iload_n 2) 1 16 := ⟨by decide +kernel, rfl⟩
theorem e_N_isSafe_16 : xa_d xP 20 16 (.iand) 1 17 := ⟨by decide +kernel, rfl⟩
theorem e_N_isSafe_17 : xa_db xP 20 17 (.ifCond .ne 7) 3 20 7 24 := ⟨⟨by decide +kernel, rfl⟩, rfl⟩
theorem e_N_isSafe_20 : xa_d xP 20 20 (.iconst 1) 1 21 := ⟨by decide +kernel, rfl⟩
theorem e_N_isSafe_21 : xa_db xP 20 21 (.goto 4) 3 24 4 25 := ⟨⟨by decide +kernel, rfl⟩, rfl⟩
theorem e_N_isSafe_24 : xa_d xP 20 24 (.iconst 0) 1 25 := ⟨by decide +kernel, rfl⟩
theorem e_N_isSafe_25 : xa_d xP 20 25 (.ireturn) 1 26 := ⟨by decide +kernel, rfl⟩
theorem e_N_isRight_0 : xa_d xP 21 0 (.iload_n 2) 1 1 := ⟨by decide +kernel, rfl⟩
theorem e_N_isRight_1 : xa_d xP 21 1 (.aload_n 0) 1 2 := ⟨by decide +kernel, rfl⟩
theorem e_N_isRight_2 : xa_d xP 21 2 (.getfield 9) 3 5 := ⟨by decide +kernel, rfl⟩
theorem e_N_isRight_5 : xa_d xP 21 5 (.iload_n 1) 1 6 := ⟨by decide +kernel, rfl⟩
theorem e_N_isRight_6 : xa_d xP 21 6 (.iaload) 1 7 := ⟨by decide +kernel, rfl⟩
theorem e_N_isRight_7 : xa_d xP 21 7 (.ishr) 1 8 := ⟨by decide +kernel, rfl⟩
theorem e_N_isRight_8 : xa_d xP 21 8 (.iconst 1) 1 9 := ⟨by decide +kernel, rfl⟩
theorem e_N_isRight_9 : xa_d xP 21 9 (.iand) 1 10 := ⟨by decide +kernel, rfl⟩
theorem e_N_isRight_10 : xa_d xP 21 10 (.aload_n 0) 1 11 := ⟨by decide +kernel, rfl⟩
theorem e_N_isRight_11 : xa_d xP 21 11 (.iload_n 1) 1 12 := ⟨by decide +kernel, rfl⟩
theorem e_N_isRight_12 : xa_d xP 21 12 (.invokevirtual 47) 3 15 := ⟨by decide +kernel, rfl⟩
theorem e_N_isRight_15 : xa_db xP 21 15 (.if_icmp .eq 7) 3 18 7 22 := ⟨⟨by decide +kernel, rfl⟩, rfl⟩
theorem e_N_isRight_18 : xa_d xP 21 18 (.iconst 1) 1 19 := ⟨by decide +kernel, rfl⟩
theorem e_N_isRight_19 : xa_db xP 21 19 (.goto 4) 3 22 4 23 := ⟨⟨by decide +kernel, rfl⟩, rfl⟩
theorem e_N_isRight_22 : xa_d xP 21 22 (.iconst 0) 1 23 := ⟨by decide +kernel, rfl⟩
theorem e_N_isRight_23 : xa_d xP 21 23 (.ireturn) 1 24 := ⟨by decide +kernel, rfl⟩
theorem e_G_fire_0 : xa_d xP 22 0 (.aload_n 1) 1 1 := ⟨by decide +kernel, rfl⟩
theorem e_G_fire_1 : xa_d xP 22 1 (.iload_n 3) 1 2 := ⟨by decide +kernel, rfl⟩
theorem e_G_fire_2 : xa_d xP 22 2 (.aload_n 0) 1 3 := ⟨by decide +kernel, rfl⟩
theorem e_G_fire_3 : xa_d xP 22 3 (.getfield 9) 3 6 := ⟨by decide +kernel, rfl⟩
theorem e_G_fire_6 : xa_d xP 22 6 (.iload_n 2) 1 7 := ⟨by decide +kernel, rfl⟩
theorem e_G_fire_7 : xa_d xP 22 7 (.iaload) 1 8 := ⟨by decide +kernel, rfl⟩
theorem e_G_fire_8 : xa_d xP 22 8 (.invokevirtual 92) 3 11 := ⟨by decide +kernel, rfl⟩
theorem e_G_fire_11 : xa_d xP 22 11 (.istore 4) 2 13 := ⟨by decide +kernel, rfl⟩
theorem e_G_fire_13 : xa_d xP 22 13 (.aload_n 1) 1 14 := ⟨by decide +kernel, rfl⟩
theorem e_G_fire_14 : xa_d xP 22 14 (.iload_n 3) 1 15 := ⟨by decide +kernel, rfl⟩
theorem e_G_fire_15 : xa_d xP 22 15 (.aload_n 0) 1 16 := ⟨by decide +kernel, rfl⟩
theorem e_G_fire_16 : xa_d xP 22 16 (.getfield 15) 3 19 := ⟨by decide +kernel, rfl⟩
theorem e_G_fire_19 : xa_d xP 22 19 (.iload_n 2) 1 20 := ⟨by decide +kernel, rfl⟩
theorem e_G_fire_20 : xa_d xP 22 20 (.iaload) 1 21 := ⟨by decide +kernel, rfl⟩
theorem e_G_fire_21 : xa_d xP 22 21 (.invokevirtual 96) 3 24 := ⟨by decide +kernel, rfl⟩
theorem e_G_fire_24 : xa_d xP 22 24 (.istore 5) 2 26 := ⟨by decide +kernel, rfl⟩
theorem e_G_fire_26 : xa_d xP 22 26 (.iconst 0) 1 27 := ⟨by decide +kernel, rfl⟩
theorem e_G_fire_27 : xa_d xP 22 27 (.istore 6) 2 29 := ⟨by decide +kernel, rfl⟩
theorem e_G_fire_29 : xa_d xP 22 29 (.iload 6) 2 31 := ⟨by decide +kernel, rfl⟩
theorem e_G_fire_31 : xa_d xP 22 31 (.aload_n 0) 1 32 := ⟨by decide +kernel, rfl⟩
theorem e_G_fire_32 : xa_d xP 22 32 (.getfield 41) 3 35 := ⟨by decide +kernel, rfl⟩
theorem e_G_fire_35 : xa_db xP 22 35 (.if_icmp .ge 36) 3 38 36 71 := ⟨⟨by decide +kernel, rfl⟩, rfl⟩
theorem e_G_fire_38 : xa_d xP 22 38 (.aload_n 0) 1 39 := ⟨by decide +kernel, rfl⟩
theorem e_G_fire_39 : xa_d xP 22 39 (.getfield 9) 3 42 := ⟨by decide +kernel, rfl⟩
theorem e_G_fire_42 : xa_d xP 22 42 (.iload 6) 2 44 := ⟨by decide +kernel, rfl⟩
theorem e_G_fire_44 : xa_d xP 22 44 (.iaload) 1 45 := ⟨by decide +kernel, rfl⟩
theorem e_G_fire_45 : xa_d xP 22 45 (.iload 4) 2 47 := ⟨by decide +kernel, rfl⟩
theorem e_G_fire_47 : xa_db xP 22 47 (.if_icmp .ne 18) 3 50 18 65 := ⟨⟨by decide +kernel, rfl⟩, rfl⟩
theorem e_G_fire_50 : xa_d xP 22 50 (.aload_n 0) 1 51 := ⟨by decide +kernel, rfl⟩
theorem e_G_fire_51 : xa_d xP 22 51 (.getfield 15) 3 54 := ⟨by decide +kernel, rfl⟩
theorem e_G_fire_54 : xa_d xP 22 54 (.iload 6) 2 56 := ⟨by decide +kernel, rfl⟩
theorem e_G_fire_56 : xa_d xP 22 56 (.iaload) 1 57 := ⟨by decide +kernel, rfl⟩
theorem e_G_fire_57 : xa_d xP 22 57 (.iload 5) 2 59 := ⟨by decide +kernel, rfl⟩
theorem e_G_fire_59 : xa_db xP 22 59 (.if_icmp .ne 6) 3 62 6 65 := ⟨⟨by decide +kernel, rfl⟩, rfl⟩
theorem e_G_fire_62 : xa_d xP 22 62 (.iload 6) 2 64 := ⟨by decide +kernel, rfl⟩
theorem e_G_fire_64 : xa_d xP 22 64 (.ireturn) 1 65 := ⟨by decide +kernel, rfl⟩
theorem e_G_fire_65 : xa_d xP 22 65 (.iinc 6 1) 3 68 := ⟨by decide +kernel, rfl⟩
theorem e_G_fire_68 : xa_db xP 22 68 (.goto (-39)) 3 71 (-39) 29 := ⟨⟨by decide +kernel, rfl⟩, rfl⟩
theorem e_G_fire_71 : xa_d xP 22 71 (.aload_n 0) 1 72 := ⟨by decide +kernel, rfl⟩
theorem e_G_fire_72 : xa_d xP 22 72 (.getfield 41) 3 75 := ⟨by decide +kernel, rfl⟩
theorem e_G_fire_75 : xa_d xP 22 75 (.bipush 80) 2 77 := ⟨by decide +kernel, rfl⟩
theorem e_G_fire_77 : xa_db xP 22 77 (.if_icmp .lt 10) 3 80 10 87 := ⟨⟨by decide +kernel, rfl⟩, rfl⟩
theorem e_G_fire_80 : xa_d xP 22 80 (.aload_n 0) 1 81 := ⟨by decide +kernel, rfl⟩
theorem e_G_fire_81 : xa_d xP 22 81 (.iconst 1) 1 82 := ⟨by decide +kernel, rfl⟩
theorem e_G_fire_82 : xa_d xP 22 82 (.putfield 30) 3 85 := ⟨by decide +kernel, rfl⟩
theorem e_G_fire_85 : xa_d xP 22 85 (.iconst (-1)) 1 86 := ⟨by decide +kernel, rfl⟩
theorem e_G_fire_86 : xa_d xP 22 86 (.ireturn) 1 87 := ⟨by decide +kernel, rfl⟩
theorem e_G_fire_87 : xa_d xP 22 87 (.aload_n 0) 1 88 := ⟨by decide +kernel, rfl⟩
theorem e_G_fire_88 : xa_d xP 22 88 (.iload 4) 2 90 := ⟨by decide +kernel, rfl⟩
theorem e_G_fire_90 : xa_d xP 22 90 (.iload 5) 2 92 := ⟨by decide +kernel, rfl⟩
theorem e_G_fire_92 : xa_d xP 22 92 (.bipush 100) 2 94 := ⟨by decide +kernel, rfl⟩
theorem e_G_fire_94 : xa_d xP 22 94 (.iload_n 2) 1 95 := ⟨by decide +kernel, rfl⟩
theorem e_G_fire_95 : xa_d xP 22 95 (.imul) 1 96 := ⟨by decide +kernel, rfl⟩
theorem e_G_fire_96 : xa_d xP 22 96 (.iload_n 3) 1 97 := ⟨by decide +kernel, rfl⟩
theorem e_G_fire_97 : xa_d xP 22 97 (.iadd) 1 98 := ⟨by decide +kernel, rfl⟩
theorem e_G_fire_98 : xa_d xP 22 98 (.invokevirtual 52) 3 101 := ⟨by decide +kernel, rfl⟩
theorem e_G_fire_101 : xa_d xP 22 101 (.ireturn) 1 102 := ⟨by decide +kernel, rfl⟩
theorem e_N_markingAfter_0 : xa_d xP 23 0 (.iload_n 2) 1 1 := ⟨by decide +kernel, rfl⟩
theorem e_N_markingAfter_1 : xa_d xP 23 1 (.aload_n 0) 1 2 := ⟨by decide +kernel, rfl⟩
theorem e_N_markingAfter_2 : xa_d xP 23 2 (.getfield 19) 3 5 := ⟨by decide +kernel, rfl⟩
theorem e_N_markingAfter_5 : xa_d xP 23 5 (.iload_n 1) 1 6 := ⟨by decide +kernel, rfl⟩
theorem e_N_markingAfter_6 : xa_d xP 23 6 (.iaload) 1 7 := ⟨by decide +kernel, rfl⟩
theorem e_N_markingAfter_7 : xa_d xP 23 7 (.iconst (-1)) 1 8 := ⟨by decide +kernel, rfl⟩
theorem e_N_markingAfter_8 : xa_d xP 23 8 (.ixor) 1 9 := ⟨by decide +kernel, rfl⟩
theorem e_N_markingAfter_9 : xa_d xP 23 9 (.iand) 1 10 := ⟨by decide +kernel, rfl⟩
theorem e_N_markingAfter_10 : xa_d xP 23 10 (.aload_n 0) 1 11 := ⟨by decide +kernel, rfl⟩
theorem e_N_markingAfter_11 : xa_d xP 23 11 (.getfield 22) 3 14 := ⟨by decide +kernel, rfl⟩
theorem e_N_markingAfter_14 : xa_d xP 23 14 (.iload_n 1) 1 15 := ⟨by decide +kernel, rfl⟩
theorem e_N_markingAfter_15 : xa_d xP 23 15 (.iaload) 1 16 := ⟨by decide +kernel, rfl⟩
theorem e_N_markingAfter_16 : xa_d xP 23 16 (.ior) 1 17 := ⟨by decide +kernel, rfl⟩
theorem e_N_markingAfter_17 : xa_d xP 23 17 (.ireturn) 1 18 := ⟨by decide +kernel, rfl⟩
theorem e_N_codeAfter_0 : xa_d xP 24 0 (.iconst 1) 1 1 := ⟨by decide +kernel, rfl⟩
theorem e_N_codeAfter_1 : xa_d xP 24 1 (.aload_n 0) 1 2 := ⟨by decide +kernel, rfl⟩
theorem e_N_codeAfter_2 : xa_d xP 24 2 (.getfield 9) 3 5 := ⟨by decide +kernel, rfl⟩
theorem e_N_codeAfter_5 : xa_d xP 24 5 (.iload_n 1) 1 6 := ⟨by decide +kernel, rfl⟩
theorem e_N_codeAfter_6 : xa_d xP 24 6 (.iaload) 1 7 := ⟨by decide +kernel, rfl⟩
theorem e_N_codeAfter_7 : xa_d xP 24 7 (.ishl) 1 8 := ⟨by decide +kernel, rfl⟩
theorem e_N_codeAfter_8 : xa_d xP 24 8 (.istore_n 3) 1 9 := ⟨by decide +kernel, rfl⟩
theorem e_N_codeAfter_9 : xa_d xP 24 9 (.aload_n 0) 1 10 := ⟨by decide +kernel, rfl⟩
theorem e_N_codeAfter_10 : xa_d xP 24 10 (.getfield 15) 3 13 := ⟨by decide +kernel, rfl⟩
theorem e_N_codeAfter_13 : xa_d xP 24 13 (.iload_n 1) 1 14 := ⟨by decide +kernel, rfl⟩
theorem e_N_codeAfter_14 : xa_d xP 24 14 (.baload) 1 15 := ⟨by decide +kernel, rfl⟩
theorem e_N_codeAfter_15 : xa_db xP 24 15 (.ifCond .eq 9) 3 18 9 24 := ⟨⟨by decide +kernel, rfl⟩, rfl⟩
theorem e_N_codeAfter_18 : xa_d xP 24 18 (.iload_n 2) 1 19 := ⟨by decide +kernel, rfl⟩
theorem e_N_codeAfter_19 : xa_d xP 24 19 (.iload_n 3) 1 20 := ⟨by decide +kernel, rfl⟩
theorem e_N_codeAfter_20 : xa_d xP 24 20 (.ior) 1 21 := ⟨by decide +kernel, rfl⟩
theorem e_N_codeAfter_21 : xa_db xP 24 21 (.goto 8) 3 24 8 29 := ⟨⟨by decide +kernel, rfl⟩, rfl⟩
theorem e_N_codeAfter_24 : xa_d xP 24 24 (.iload_n 2) 1 25 := ⟨by decide +kernel, rfl⟩
theorem e_N_codeAfter_25 : xa_d xP 24 25 (.iload_n 3) 1 26 := ⟨by decide +kernel, rfl⟩
theorem e_N_codeAfter_26 : xa_d xP 24 26 (.iconst (-1)) 1 27 := ⟨by decide +kernel, rfl⟩
theorem e_N_codeAfter_27 : xa_d xP 24 27 (.ixor) 1 28 := ⟨by decide +kernel, rfl⟩
theorem e_N_codeAfter_28 : xa_d xP 24 28 (.iand) 1 29 := ⟨by decide +kernel, rfl⟩
theorem e_N_codeAfter_29 : xa_d xP 24 29 (.ireturn) 1 30 := ⟨by decide +kernel, rfl⟩
theorem e_G_judge_0 : xa_d xP 25 0 (.aload_n 0) 1 1 := ⟨by decide +kernel, rfl⟩
theorem e_G_judge_1 : xa_d xP 25 1 (.iconst (-1)) 1 2 := ⟨by decide +kernel, rfl⟩
theorem e_G_judge_2 : xa_d xP 25 2 (.putfield 99) 3 5 := ⟨by decide +kernel, rfl⟩
theorem e_G_judge_5 : xa_d xP 25 5 (.aload_n 0) 1 6 := ⟨by decide +kernel, rfl⟩
theorem e_G_judge_6 : xa_d xP 25 6 (.getfield 30) 3 9 := ⟨by decide +kernel, rfl⟩
theorem e_G_judge_9 : xa_db xP 25 9 (.ifCond .eq 5) 3 12 5 14 := ⟨⟨by decide +kernel, rfl⟩, rfl⟩
theorem e_G_judge_12 : xa_d xP 25 12 (.iconst 5) 1 13 := ⟨by decide +kernel, rfl⟩
theorem e_G_judge_13 : xa_d xP 25 13 (.ireturn) 1 14 := ⟨by decide +kernel, rfl⟩
theorem e_G_judge_14 : xa_d xP 25 14 (.aload_n 0) 1 15 := ⟨by decide +kernel, rfl⟩
theorem e_G_judge_15 : xa_d xP 25 15 (.aload_n 0) 1 16 := ⟨by decide +kernel, rfl⟩
theorem e_G_judge_16 : xa_d xP 25 16 (.getfield 34) 3 19 := ⟨by decide +kernel, rfl⟩
theorem e_G_judge_19 : xa_d xP 25 19 (.putfield 99) 3 22 := ⟨by decide +kernel, rfl⟩
theorem e_G_judge_22 : xa_d xP 25 22 (.aload_n 0) 1 23 := ⟨by decide +kernel, rfl⟩
theorem e_G_judge_23 : xa_d xP 25 23 (.getfield 99) 3 26 := ⟨by decide +kernel, rfl⟩
theorem e_G_judge_26 : xa_d xP 25 26 (.iconst (-1)) 1 27 := ⟨by decide +kernel, rfl⟩
theorem e_G_judge_27 : xa_db xP 25 27 (.if_icmp .eq 5) 3 30 5 32 := ⟨⟨by decide +kernel, rfl⟩, rfl⟩
theorem e_G_judge_30 : xa_d xP 25 30 (.iconst 1) 1 31 := ⟨by decide +kernel, rfl⟩
theorem e_G_judge_31 : xa_d xP 25 31 (.ireturn) 1 32 := ⟨by decide +kernel, rfl⟩
theorem e_G_judge_32 : xa_d xP 25 32 (.aload_n 0) 1 33 := ⟨by decide +kernel, rfl⟩
theorem e_G_judge_33 : xa_d xP 25 33 (.aload_n 0) 1 34 := ⟨by decide +kernel, rfl⟩
theorem e_G_judge_34 : xa_d xP 25 34 (.getfield 38) 3 37 := ⟨by decide +kernel, rfl⟩
theorem e_G_judge_37 : xa_d xP 25 37 (.putfield 99) 3 40 := ⟨by decide +kernel, rfl⟩
theorem e_G_judge_40 : xa_d xP 25 40 (.aload_n 0) 1 41 := ⟨by decide +kernel, rfl⟩
theorem e_G_judge_41 : xa_d xP 25 41 (.getfield 99) 3 44 := ⟨by decide +kernel, rfl⟩
theorem e_G_judge_44 : xa_d xP 25 44 (.iconst (-1)) 1 45 := ⟨by decide +kernel, rfl⟩
theorem e_G_judge_45 : xa_db xP 25 45 (.if_icmp .eq 5) 3 48 5 50 := ⟨⟨by decide +kernel, rfl⟩, rfl⟩
theorem e_G_judge_48 : xa_d xP 25 48 (.iconst 2) 1 49 := ⟨by decide +kernel, rfl⟩
theorem e_G_judge_49 : xa_d xP 25 49 (.ireturn) 1 50 := ⟨by decide +kernel, rfl⟩
theorem e_G_judge_50 : xa_d xP 25 50 (.aload_n 0) 1 51 := ⟨by decide +kernel, rfl⟩
theorem e_G_judge_51 : xa_d xP 25 51 (.aload_n 0) 1 52 := ⟨by decide +kernel, rfl⟩
theorem e_G_judge_52 : xa_d xP 25 52 (.aload_n 1) 1 53 := ⟨by decide +kernel, rfl⟩
theorem e_G_judge_53 : xa_d xP 25 53 (.invokevirtual 102) 3 56 := ⟨by decide +kernel, rfl⟩
theorem e_G_judge_56 : xa_d xP 25 56 (.putfield 99) 3 59 := ⟨by decide +kernel, rfl⟩
theorem e_G_judge_59 : xa_d xP 25 59 (.aload_n 0) 1 60 := ⟨by decide +kernel, rfl⟩
theorem e_G_judge_60 : xa_d xP 25 60 (.getfield 99) 3 63 := ⟨by decide +kernel, rfl⟩
theorem e_G_judge_63 : xa_d xP 25 63 (.iconst (-1)) 1 64 := ⟨by decide +kernel, rfl⟩
theorem e_G_judge_64 : xa_db xP 25 64 (.if_icmp .eq 5) 3 67 5 69 := ⟨⟨by decide +kernel, rfl⟩, rfl⟩
theorem e_G_judge_67 : xa_d xP 25 67 (.iconst 3) 1 68 := ⟨by decide +kernel, rfl⟩
theorem e_G_judge_68 : xa_d xP 25 68 (.ireturn) 1 69 := ⟨by decide +kernel, rfl⟩
theorem e_G_judge_69 : xa_d xP 25 69 (.aload_n 0) 1 70 := ⟨by decide +kernel, rfl⟩
theorem e_G_judge_70 : xa_d xP 25 70 (.aload_n 0) 1 71 := ⟨by decide +kernel, rfl⟩
theorem e_G_judge_71 : xa_d xP 25 71 (.invokevirtual 106) 3 74 := ⟨by decide +kernel, rfl⟩
theorem e_G_judge_74 : xa_d xP 25 74 (.putfield 99) 3 77 := ⟨by decide +kernel, rfl⟩
theorem e_G_judge_77 : xa_d xP 25 77 (.aload_n 0) 1 78 := ⟨by decide +kernel, rfl⟩
theorem e_G_judge_78 : xa_d xP 25 78 (.getfield 99) 3 81 := ⟨by decide +kernel, rfl⟩
theorem e_G_judge_81 : xa_d xP 25 81 (.iconst (-1)) 1 82 := ⟨by decide +kernel, rfl⟩
theorem e_G_judge_82 : xa_db xP 25 82 (.if_icmp .eq 7) 3 85 7 89 := ⟨⟨by decide +kernel, rfl⟩, rfl⟩
theorem e_G_judge_85 : xa_d xP 25 85 (.iconst 4) 1 86 := ⟨by decide +kernel, rfl⟩
theorem e_G_judge_86 : xa_db xP 25 86 (.goto 4) 3 89 4 90 := ⟨⟨by decide +kernel, rfl⟩, rfl⟩
theorem e_G_judge_89 : xa_d xP 25 89 (.iconst 0) 1 90 := ⟨by decide +kernel, rfl⟩
theorem e_G_judge_90 : xa_d xP 25 90 (.ireturn) 1 91 := ⟨by decide +kernel, rfl⟩
theorem e_G_leastDisablingState_0 : xa_d xP 26 0 (.iconst 0) 1 1 := ⟨by decide +kernel, rfl⟩
theorem e_G_leastDisablingState_1 : xa_d xP 26 1 (.istore_n 2) 1 2 := ⟨by decide +kernel, rfl⟩
theorem e_G_leastDisablingState_2 : xa_d xP 26 2 (.iload_n 2) 1 3 := ⟨by decide +kernel, rfl⟩
theorem e_G_leastDisablingState_3 : xa_d xP 26 3 (.aload_n 0) 1 4 := ⟨by decide +kernel, rfl⟩
theorem e_G_leastDisablingState_4 : xa_d xP 26 4 (.getfield 41) 3 7 := ⟨by decide +kernel, rfl⟩
theorem e_G_leastDisablingState_7 : xa_db xP 26 7 (.if_icmp .ge 47) 3 10 47 54 := ⟨⟨by decide +kernel, rfl⟩, rfl⟩
theorem e_G_leastDisablingState_10 : xa_d xP 26 10 (.iconst 0) 1 11 := ⟨by decide +kernel, rfl⟩
theorem e_G_leastDisablingState_11 : xa_d xP 26 11 (.istore_n 3) 1 12 := ⟨by decide +kernel, rfl⟩
end
section
/-! Decode rows (printed by wip/whole/gen_prog.py). -/
theorem e_G_leastDisablingState_12 : xa_d xP 26 12 (.iload_n 3) 1 13 := ⟨by decide +kernel, rfl⟩
theorem e_G_leastDisablingState_13 : xa_d xP 26 13 (.aload_n 1) 1 14 := ⟨by decide +kernel, rfl⟩
theorem e_G_leastDisablingState_14 : xa_d xP 26 14 (.getfield 60) 3 17 := ⟨by decide +kernel, rfl⟩
theorem e_G_leastDisablingState_17 : xa_db xP 26 17 (.if_icmp .ge 31) 3 20 31 48 := ⟨⟨by decide +kernel, rfl⟩, rfl⟩
theorem e_G_leastDisablingState_20 : xa_d xP 26 20 (.aload_n 0) 1 21 := ⟨by decide +kernel, rfl⟩
theorem e_G_leastDisablingState_21 : xa_d xP 26 21 (.iload_n 2) 1 22 := ⟨by decide +kernel, rfl⟩
theorem e_G_leastDisablingState_22 : xa_d xP 26 22 (.iload_n 3) 1 23 := ⟨by decide +kernel, rfl⟩
theorem e_G_leastDisablingState_23 : xa_d xP 26 23 (.invokevirtual 110) 3 26 := ⟨by decide +kernel, rfl⟩
theorem e_G_leastDisablingState_26 : xa_d xP 26 26 (.iconst (-1)) 1 27 := ⟨by decide +kernel, rfl⟩
theorem e_G_leastDisablingState_27 : xa_db xP 26 27 (.if_icmp .eq 15) 3 30 15 42 := ⟨⟨by decide +kernel, rfl⟩, rfl⟩
theorem e_G_leastDisablingState_30 : xa_d xP 26 30 (.aload_n 0) 1 31 := ⟨by decide +kernel, rfl⟩
theorem e_G_leastDisablingState_31 : xa_d xP 26 31 (.aload_n 1) 1 32 := ⟨by decide +kernel, rfl⟩
theorem e_G_leastDisablingState_32 : xa_d xP 26 32 (.iload_n 2) 1 33 := ⟨by decide +kernel, rfl⟩
theorem e_G_leastDisablingState_33 : xa_d xP 26 33 (.iload_n 3) 1 34 := ⟨by decide +kernel, rfl⟩
theorem e_G_leastDisablingState_34 : xa_d xP 26 34 (.invokevirtual 113) 3 37 := ⟨by decide +kernel, rfl⟩
theorem e_G_leastDisablingState_37 : xa_db xP 26 37 (.ifCond .eq 5) 3 40 5 42 := ⟨⟨by decide +kernel, rfl⟩, rfl⟩
theorem e_G_leastDisablingState_40 : xa_d xP 26 40 (.iload_n 2) 1 41 := ⟨by decide +kernel, rfl⟩
theorem e_G_leastDisablingState_41 : xa_d xP 26 41 (.ireturn) 1 42 := ⟨by decide +kernel, rfl⟩
theorem e_G_leastDisablingState_42 : xa_d xP 26 42 (.iinc 3 1) 3 45 := ⟨by decide +kernel, rfl⟩
theorem e_G_leastDisablingState_45 : xa_db xP 26 45 (.goto (-33)) 3 48 (-33) 12 := ⟨⟨by decide +kernel, rfl⟩, rfl⟩
theorem e_G_leastDisablingState_48 : xa_d xP 26 48 (.iinc 2 1) 3 51 := ⟨by decide +kernel, rfl⟩
theorem e_G_leastDisablingState_51 : xa_db xP 26 51 (.goto (-49)) 3 54 (-49) 2 := ⟨⟨by decide +kernel, rfl⟩, rfl⟩
theorem e_G_leastDisablingState_54 : xa_d xP 26 54 (.iconst (-1)) 1 55 := ⟨by decide +kernel, rfl⟩
theorem e_G_leastDisablingState_55 : xa_d xP 26 55 (.ireturn) 1 56 := ⟨by decide +kernel, rfl⟩
theorem e_G_successor_0 : xa_d xP 27 0 (.aload_n 0) 1 1 := ⟨by decide +kernel, rfl⟩
theorem e_G_successor_1 : xa_d xP 27 1 (.getfield 27) 3 4 := ⟨by decide +kernel, rfl⟩
theorem e_G_successor_4 : xa_d xP 27 4 (.iload_n 1) 1 5 := ⟨by decide +kernel, rfl⟩
theorem e_G_successor_5 : xa_d xP 27 5 (.bipush 14) 2 7 := ⟨by decide +kernel, rfl⟩
theorem e_G_successor_7 : xa_d xP 27 7 (.imul) 1 8 := ⟨by decide +kernel, rfl⟩
theorem e_G_successor_8 : xa_d xP 27 8 (.iload_n 2) 1 9 := ⟨by decide +kernel, rfl⟩
theorem e_G_successor_9 : xa_d xP 27 9 (.iadd) 1 10 := ⟨by decide +kernel, rfl⟩
theorem e_G_successor_10 : xa_d xP 27 10 (.iaload) 1 11 := ⟨by decide +kernel, rfl⟩
theorem e_G_successor_11 : xa_d xP 27 11 (.ireturn) 1 12 := ⟨by decide +kernel, rfl⟩
theorem e_G_losesEdge_0 : xa_d xP 28 0 (.aload_n 0) 1 1 := ⟨by decide +kernel, rfl⟩
theorem e_G_losesEdge_1 : xa_d xP 28 1 (.getfield 24) 3 4 := ⟨by decide +kernel, rfl⟩
theorem e_G_losesEdge_4 : xa_d xP 28 4 (.iload_n 2) 1 5 := ⟨by decide +kernel, rfl⟩
theorem e_G_losesEdge_5 : xa_d xP 28 5 (.iaload) 1 6 := ⟨by decide +kernel, rfl⟩
theorem e_G_losesEdge_6 : xa_d xP 28 6 (.aload_n 0) 1 7 := ⟨by decide +kernel, rfl⟩
theorem e_G_losesEdge_7 : xa_d xP 28 7 (.getfield 24) 3 10 := ⟨by decide +kernel, rfl⟩
theorem e_G_losesEdge_10 : xa_d xP 28 10 (.aload_n 0) 1 11 := ⟨by decide +kernel, rfl⟩
theorem e_G_losesEdge_11 : xa_d xP 28 11 (.iload_n 2) 1 12 := ⟨by decide +kernel, rfl⟩
theorem e_G_losesEdge_12 : xa_d xP 28 12 (.iload_n 3) 1 13 := ⟨by decide +kernel, rfl⟩
theorem e_G_losesEdge_13 : xa_d xP 28 13 (.invokevirtual 110) 3 16 := ⟨by decide +kernel, rfl⟩
theorem e_G_losesEdge_16 : xa_d xP 28 16 (.iaload) 1 17 := ⟨by decide +kernel, rfl⟩
theorem e_G_losesEdge_17 : xa_d xP 28 17 (.iconst (-1)) 1 18 := ⟨by decide +kernel, rfl⟩
theorem e_G_losesEdge_18 : xa_d xP 28 18 (.ixor) 1 19 := ⟨by decide +kernel, rfl⟩
theorem e_G_losesEdge_19 : xa_d xP 28 19 (.iand) 1 20 := ⟨by decide +kernel, rfl⟩
theorem e_G_losesEdge_20 : xa_d xP 28 20 (.aload_n 1) 1 21 := ⟨by decide +kernel, rfl⟩
theorem e_G_losesEdge_21 : xa_d xP 28 21 (.iload_n 3) 1 22 := ⟨by decide +kernel, rfl⟩
theorem e_G_losesEdge_22 : xa_d xP 28 22 (.invokevirtual 81) 3 25 := ⟨by decide +kernel, rfl⟩
theorem e_G_losesEdge_25 : xa_d xP 28 25 (.iconst (-1)) 1 26 := ⟨by decide +kernel, rfl⟩
theorem e_G_losesEdge_26 : xa_d xP 28 26 (.ixor) 1 27 := ⟨by decide +kernel, rfl⟩
theorem e_G_losesEdge_27 : xa_d xP 28 27 (.iand) 1 28 := ⟨by decide +kernel, rfl⟩
theorem e_G_losesEdge_28 : xa_d xP 28 28 (.istore 4) 2 30 := ⟨by decide +kernel, rfl⟩
theorem e_G_losesEdge_30 : xa_d xP 28 30 (.aload_n 1) 1 31 := ⟨by decide +kernel, rfl⟩
theorem e_G_losesEdge_31 : xa_d xP 28 31 (.aload_n 1) 1 32 := ⟨by decide +kernel, rfl⟩
theorem e_G_losesEdge_32 : xa_d xP 28 32 (.iload_n 3) 1 33 := ⟨by decide +kernel, rfl⟩
theorem e_G_losesEdge_33 : xa_d xP 28 33 (.invokevirtual 85) 3 36 := ⟨by decide +kernel, rfl⟩
theorem e_G_losesEdge_36 : xa_d xP 28 36 (.invokevirtual 88) 3 39 := ⟨by decide +kernel, rfl⟩
theorem e_G_losesEdge_39 : xa_db xP 28 39 (.ifCond .eq 12) 3 42 12 51 := ⟨⟨by decide +kernel, rfl⟩, rfl⟩
theorem e_G_losesEdge_42 : xa_d xP 28 42 (.iload 4) 2 44 := ⟨by decide +kernel, rfl⟩
theorem e_G_losesEdge_44 : xa_d xP 28 44 (.aload_n 1) 1 45 := ⟨by decide +kernel, rfl⟩
theorem e_G_losesEdge_45 : xa_d xP 28 45 (.getfield 117) 3 48 := ⟨by decide +kernel, rfl⟩
theorem e_G_losesEdge_48 : xa_d xP 28 48 (.iand) 1 49 := ⟨by decide +kernel, rfl⟩
theorem e_G_losesEdge_49 : xa_d xP 28 49 (.istore 4) 2 51 := ⟨by decide +kernel, rfl⟩
theorem e_G_losesEdge_51 : xa_d xP 28 51 (.iload 4) 2 53 := ⟨by decide +kernel, rfl⟩
theorem e_G_losesEdge_53 : xa_db xP 28 53 (.ifCond .eq 7) 3 56 7 60 := ⟨⟨by decide +kernel, rfl⟩, rfl⟩
theorem e_G_losesEdge_56 : xa_d xP 28 56 (.iconst 1) 1 57 := ⟨by decide +kernel, rfl⟩
theorem e_G_losesEdge_57 : xa_db xP 28 57 (.goto 4) 3 60 4 61 := ⟨⟨by decide +kernel, rfl⟩, rfl⟩
theorem e_G_losesEdge_60 : xa_d xP 28 60 (.iconst 0) 1 61 := ⟨by decide +kernel, rfl⟩
theorem e_G_losesEdge_61 : xa_d xP 28 61 (.ireturn) 1 62 := ⟨by decide +kernel, rfl⟩
theorem e_G_leastConflictingState_0 : xa_d xP 29 0 (.iconst 0) 1 1 := ⟨by decide +kernel, rfl⟩
theorem e_G_leastConflictingState_1 : xa_d xP 29 1 (.istore_n 1) 1 2 := ⟨by decide +kernel, rfl⟩
theorem e_G_leastConflictingState_2 : xa_d xP 29 2 (.iload_n 1) 1 3 := ⟨by decide +kernel, rfl⟩
theorem e_G_leastConflictingState_3 : xa_d xP 29 3 (.aload_n 0) 1 4 := ⟨by decide +kernel, rfl⟩
theorem e_G_leastConflictingState_4 : xa_d xP 29 4 (.getfield 41) 3 7 := ⟨by decide +kernel, rfl⟩
theorem e_G_leastConflictingState_7 : xa_db xP 29 7 (.if_icmp .ge 54) 3 10 54 61 := ⟨⟨by decide +kernel, rfl⟩, rfl⟩
theorem e_G_leastConflictingState_10 : xa_d xP 29 10 (.iconst 0) 1 11 := ⟨by decide +kernel, rfl⟩
theorem e_G_leastConflictingState_11 : xa_d xP 29 11 (.istore_n 2) 1 12 := ⟨by decide +kernel, rfl⟩
theorem e_G_leastConflictingState_12 : xa_d xP 29 12 (.iload_n 2) 1 13 := ⟨by decide +kernel, rfl⟩
theorem e_G_leastConflictingState_13 : xa_d xP 29 13 (.iload_n 1) 1 14 := ⟨by decide +kernel, rfl⟩
theorem e_G_leastConflictingState_14 : xa_db xP 29 14 (.if_icmp .ge 41) 3 17 41 55 := ⟨⟨by decide +kernel, rfl⟩, rfl⟩
theorem e_G_leastConflictingState_17 : xa_d xP 29 17 (.aload_n 0) 1 18 := ⟨by decide +kernel, rfl⟩
theorem e_G_leastConflictingState_18 : xa_d xP 29 18 (.getfield 15) 3 21 := ⟨by decide +kernel, rfl⟩
theorem e_G_leastConflictingState_21 : xa_d xP 29 21 (.iload_n 2) 1 22 := ⟨by decide +kernel, rfl⟩
theorem e_G_leastConflictingState_22 : xa_d xP 29 22 (.iaload) 1 23 := ⟨by decide +kernel, rfl⟩
theorem e_G_leastConflictingState_23 : xa_d xP 29 23 (.aload_n 0) 1 24 := ⟨by decide +kernel, rfl⟩
theorem e_G_leastConflictingState_24 : xa_d xP 29 24 (.getfield 15) 3 27 := ⟨by decide +kernel, rfl⟩
theorem e_G_leastConflictingState_27 : xa_d xP 29 27 (.iload_n 1) 1 28 := ⟨by decide +kernel, rfl⟩
theorem e_G_leastConflictingState_28 : xa_d xP 29 28 (.iaload) 1 29 := ⟨by decide +kernel, rfl⟩
theorem e_G_leastConflictingState_29 : xa_db xP 29 29 (.if_icmp .ne 20) 3 32 20 49 := ⟨⟨by decide +kernel, rfl⟩, rfl⟩
theorem e_G_leastConflictingState_32 : xa_d xP 29 32 (.aload_n 0) 1 33 := ⟨by decide +kernel, rfl⟩
theorem e_G_leastConflictingState_33 : xa_d xP 29 33 (.getfield 21) 3 36 := ⟨by decide +kernel, rfl⟩
theorem e_G_leastConflictingState_36 : xa_d xP 29 36 (.iload_n 2) 1 37 := ⟨by decide +kernel, rfl⟩
theorem e_G_leastConflictingState_37 : xa_d xP 29 37 (.iaload) 1 38 := ⟨by decide +kernel, rfl⟩
theorem e_G_leastConflictingState_38 : xa_d xP 29 38 (.aload_n 0) 1 39 := ⟨by decide +kernel, rfl⟩
theorem e_G_leastConflictingState_39 : xa_d xP 29 39 (.getfield 21) 3 42 := ⟨by decide +kernel, rfl⟩
theorem e_G_leastConflictingState_42 : xa_d xP 29 42 (.iload_n 1) 1 43 := ⟨by decide +kernel, rfl⟩
theorem e_G_leastConflictingState_43 : xa_d xP 29 43 (.iaload) 1 44 := ⟨by decide +kernel, rfl⟩
theorem e_G_leastConflictingState_44 : xa_db xP 29 44 (.if_icmp .eq 5) 3 47 5 49 := ⟨⟨by decide +kernel, rfl⟩, rfl⟩
theorem e_G_leastConflictingState_47 : xa_d xP 29 47 (.iload_n 1) 1 48 := ⟨by decide +kernel, rfl⟩
theorem e_G_leastConflictingState_48 : xa_d xP 29 48 (.ireturn) 1 49 := ⟨by decide +kernel, rfl⟩
theorem e_G_leastConflictingState_49 : xa_d xP 29 49 (.iinc 2 1) 3 52 := ⟨by decide +kernel, rfl⟩
theorem e_G_leastConflictingState_52 : xa_db xP 29 52 (.goto (-40)) 3 55 (-40) 12 := ⟨⟨by decide +kernel, rfl⟩, rfl⟩
theorem e_G_leastConflictingState_55 : xa_d xP 29 55 (.iinc 1 1) 3 58 := ⟨by decide +kernel, rfl⟩
theorem e_G_leastConflictingState_58 : xa_db xP 29 58 (.goto (-56)) 3 61 (-56) 2 := ⟨⟨by decide +kernel, rfl⟩, rfl⟩
theorem e_G_leastConflictingState_61 : xa_d xP 29 61 (.iconst (-1)) 1 62 := ⟨by decide +kernel, rfl⟩
theorem e_G_leastConflictingState_62 : xa_d xP 29 62 (.ireturn) 1 63 := ⟨by decide +kernel, rfl⟩
theorem e_CG_fault_0 : xa_d xP 30 0 (.aload_n 0) 1 1 := ⟨by decide +kernel, rfl⟩
theorem e_CG_fault_1 : xa_d xP 30 1 (.getfield 41) 3 4 := ⟨by decide +kernel, rfl⟩
theorem e_CG_fault_4 : xa_d xP 30 4 (.ireturn) 1 5 := ⟨by decide +kernel, rfl⟩
theorem e_W_signal_0 : xa_d xP 31 0 (.aload_n 3) 1 1 := ⟨by decide +kernel, rfl⟩
theorem e_W_signal_1 : xa_d xP 31 1 (.iconst 0) 1 2 := ⟨by decide +kernel, rfl⟩
theorem e_W_signal_2 : xa_d xP 31 2 (.aload_n 0) 1 3 := ⟨by decide +kernel, rfl⟩
theorem e_W_signal_3 : xa_d xP 31 3 (.iload_n 1) 1 4 := ⟨by decide +kernel, rfl⟩
theorem e_W_signal_4 : xa_d xP 31 4 (.iload_n 2) 1 5 := ⟨by decide +kernel, rfl⟩
theorem e_W_signal_5 : xa_d xP 31 5 (.invokevirtual 7) 3 8 := ⟨by decide +kernel, rfl⟩
theorem e_W_signal_8 : xa_d xP 31 8 (.i2l) 1 9 := ⟨by decide +kernel, rfl⟩
theorem e_W_signal_9 : xa_d xP 31 9 (.lastore) 1 10 := ⟨by decide +kernel, rfl⟩
theorem e_W_signal_10 : xa_db xP 31 10 (.goto 7) 3 13 7 17 := ⟨⟨by decide +kernel, rfl⟩, rfl⟩
theorem e_W_signal_13 : xa_d xP 31 13 (.astore 4) 2 15 := ⟨by decide +kernel, rfl⟩
theorem e_W_signal_15 : xa_d xP 31 15 (.iconst 1) 1 16 := ⟨by decide +kernel, rfl⟩
theorem e_W_signal_16 : xa_d xP 31 16 (.ireturn) 1 17 := ⟨by decide +kernel, rfl⟩
theorem e_W_signal_17 : xa_d xP 31 17 (.iconst 0) 1 18 := ⟨by decide +kernel, rfl⟩
theorem e_W_signal_18 : xa_d xP 31 18 (.ireturn) 1 19 := ⟨by decide +kernel, rfl⟩
theorem e_CG_signal_0 : xa_d xP 32 0 (.aload_n 0) 1 1 := ⟨by decide +kernel, rfl⟩
theorem e_CG_signal_1 : xa_d xP 32 1 (.getfield 10) 3 4 := ⟨by decide +kernel, rfl⟩
theorem e_CG_signal_4 : xa_d xP 32 4 (.getfield 44) 3 7 := ⟨by decide +kernel, rfl⟩
theorem e_CG_signal_7 : xa_d xP 32 7 (.iconst 5) 1 8 := ⟨by decide +kernel, rfl⟩
theorem e_CG_signal_8 : xa_db xP 32 8 (.if_icmp .lt 13) 3 11 13 21 := ⟨⟨by decide +kernel, rfl⟩, rfl⟩
theorem e_CG_signal_11 : xa_d xP 32 11 (.new 47) 3 14 := ⟨by decide +kernel, rfl⟩
theorem e_CG_signal_14 : xa_d xP 32 14 (.dup) 1 15 := ⟨by decide +kernel, rfl⟩
theorem e_CG_signal_15 : xa_d xP 32 15 (.ldc 49) 2 17 := ⟨by decide +kernel, rfl⟩
theorem e_CG_signal_17 : xa_d xP 32 17 (.invokespecial 51) 3 20 := ⟨by decide +kernel, rfl⟩
theorem e_CG_signal_20 : xa_d xP 32 20 (.athrow) 1 21 := ⟨by decide +kernel, rfl⟩
theorem e_CG_signal_21 : xa_d xP 32 21 (.aload_n 0) 1 22 := ⟨by decide +kernel, rfl⟩
theorem e_CG_signal_22 : xa_d xP 32 22 (.invokevirtual 54) 3 25 := ⟨by decide +kernel, rfl⟩
theorem e_CG_signal_25 : xa_d xP 32 25 (.aload_n 0) 1 26 := ⟨by decide +kernel, rfl⟩
theorem e_CG_signal_26 : xa_d xP 32 26 (.getfield 10) 3 29 := ⟨by decide +kernel, rfl⟩
theorem e_CG_signal_29 : xa_d xP 32 29 (.iload_n 1) 1 30 := ⟨by decide +kernel, rfl⟩
theorem e_CG_signal_30 : xa_d xP 32 30 (.iload_n 2) 1 31 := ⟨by decide +kernel, rfl⟩
theorem e_CG_signal_31 : xa_d xP 32 31 (.invokevirtual 57) 3 34 := ⟨by decide +kernel, rfl⟩
theorem e_CG_signal_34 : xa_d xP 32 34 (.ireturn) 1 35 := ⟨by decide +kernel, rfl⟩
theorem e_N_addSignal_0 : xa_d xP 33 0 (.iconst 1) 1 1 := ⟨by decide +kernel, rfl⟩
theorem e_N_addSignal_1 : xa_d xP 33 1 (.aload_n 0) 1 2 := ⟨by decide +kernel, rfl⟩
theorem e_N_addSignal_2 : xa_d xP 33 2 (.getfield 25) 3 5 := ⟨by decide +kernel, rfl⟩
theorem e_N_addSignal_5 : xa_d xP 33 5 (.ishl) 1 6 := ⟨by decide +kernel, rfl⟩
theorem e_N_addSignal_6 : xa_d xP 33 6 (.istore_n 3) 1 7 := ⟨by decide +kernel, rfl⟩
theorem e_N_addSignal_7 : xa_d xP 33 7 (.aload_n 0) 1 8 := ⟨by decide +kernel, rfl⟩
theorem e_N_addSignal_8 : xa_d xP 33 8 (.dup) 1 9 := ⟨by decide +kernel, rfl⟩
theorem e_N_addSignal_9 : xa_d xP 33 9 (.getfield 29) 3 12 := ⟨by decide +kernel, rfl⟩
theorem e_N_addSignal_12 : xa_d xP 33 12 (.iload_n 1) 1 13 := ⟨by decide +kernel, rfl⟩
theorem e_N_addSignal_13 : xa_db xP 33 13 (.ifCond .eq 7) 3 16 7 20 := ⟨⟨by decide +kernel, rfl⟩, rfl⟩
theorem e_N_addSignal_16 : xa_d xP 33 16 (.iload_n 3) 1 17 := ⟨by decide +kernel, rfl⟩
theorem e_N_addSignal_17 : xa_db xP 33 17 (.goto 4) 3 20 4 21 := ⟨⟨by decide +kernel, rfl⟩, rfl⟩
theorem e_N_addSignal_20 : xa_d xP 33 20 (.iconst 0) 1 21 := ⟨by decide +kernel, rfl⟩
theorem e_N_addSignal_21 : xa_d xP 33 21 (.ior) 1 22 := ⟨by decide +kernel, rfl⟩
theorem e_N_addSignal_22 : xa_d xP 33 22 (.putfield 29) 3 25 := ⟨by decide +kernel, rfl⟩
theorem e_N_addSignal_25 : xa_d xP 33 25 (.aload_n 0) 1 26 := ⟨by decide +kernel, rfl⟩
theorem e_N_addSignal_26 : xa_d xP 33 26 (.dup) 1 27 := ⟨by decide +kernel, rfl⟩
theorem e_N_addSignal_27 : xa_d xP 33 27 (.getfield 32) 3 30 := ⟨by decide +kernel, rfl⟩
theorem e_N_addSignal_30 : xa_d xP 33 30 (.iload_n 1) 1 31 := ⟨by decide +kernel, rfl⟩
theorem e_N_addSignal_31 : xa_db xP 33 31 (.ifCond .eq 7) 3 34 7 38 := ⟨⟨by decide +kernel, rfl⟩, rfl⟩
theorem e_N_addSignal_34 : xa_d xP 33 34 (.iconst 0) 1 35 := ⟨by decide +kernel, rfl⟩
theorem e_N_addSignal_35 : xa_db xP 33 35 (.goto 11) 3 38 11 46 := ⟨⟨by decide +kernel, rfl⟩, rfl⟩
theorem e_N_addSignal_38 : xa_d xP 33 38 (.iconst 3) 1 39 := ⟨by decide +kernel, rfl⟩
theorem e_N_addSignal_39 : xa_d xP 33 39 (.iconst 2) 1 40 := ⟨by decide +kernel, rfl⟩
theorem e_N_addSignal_40 : xa_d xP 33 40 (.aload_n 0) 1 41 := ⟨by decide +kernel, rfl⟩
theorem e_N_addSignal_41 : xa_d xP 33 41 (.getfield 25) 3 44 := ⟨by decide +kernel, rfl⟩
theorem e_N_addSignal_44 : xa_d xP 33 44 (.imul) 1 45 := ⟨by decide +kernel, rfl⟩
theorem e_N_addSignal_45 : xa_d xP 33 45 (.ishl) 1 46 := ⟨by decide +kernel, rfl⟩
theorem e_N_addSignal_46 : xa_d xP 33 46 (.ior) 1 47 := ⟨by decide +kernel, rfl⟩
theorem e_N_addSignal_47 : xa_d xP 33 47 (.putfield 32) 3 50 := ⟨by decide +kernel, rfl⟩
theorem e_N_addSignal_50 : xa_d xP 33 50 (.aload_n 0) 1 51 := ⟨by decide +kernel, rfl⟩
theorem e_N_addSignal_51 : xa_d xP 33 51 (.dup) 1 52 := ⟨by decide +kernel, rfl⟩
theorem e_N_addSignal_52 : xa_d xP 33 52 (.getfield 35) 3 55 := ⟨by decide +kernel, rfl⟩
theorem e_N_addSignal_55 : xa_d xP 33 55 (.iload_n 2) 1 56 := ⟨by decide +kernel, rfl⟩
theorem e_N_addSignal_56 : xa_db xP 33 56 (.ifCond .eq 7) 3 59 7 63 := ⟨⟨by decide +kernel, rfl⟩, rfl⟩
theorem e_N_addSignal_59 : xa_d xP 33 59 (.iload_n 3) 1 60 := ⟨by decide +kernel, rfl⟩
theorem e_N_addSignal_60 : xa_db xP 33 60 (.goto 4) 3 63 4 64 := ⟨⟨by decide +kernel, rfl⟩, rfl⟩
theorem e_N_addSignal_63 : xa_d xP 33 63 (.iconst 0) 1 64 := ⟨by decide +kernel, rfl⟩
theorem e_N_addSignal_64 : xa_d xP 33 64 (.ior) 1 65 := ⟨by decide +kernel, rfl⟩
theorem e_N_addSignal_65 : xa_d xP 33 65 (.putfield 35) 3 68 := ⟨by decide +kernel, rfl⟩
theorem e_N_addSignal_68 : xa_d xP 33 68 (.aload_n 0) 1 69 := ⟨by decide +kernel, rfl⟩
theorem e_N_addSignal_69 : xa_d xP 33 69 (.dup) 1 70 := ⟨by decide +kernel, rfl⟩
theorem e_N_addSignal_70 : xa_d xP 33 70 (.getfield 25) 3 73 := ⟨by decide +kernel, rfl⟩
theorem e_N_addSignal_73 : xa_d xP 33 73 (.iconst 1) 1 74 := ⟨by decide +kernel, rfl⟩
theorem e_N_addSignal_74 : xa_d xP 33 74 (.iadd) 1 75 := ⟨by decide +kernel, rfl⟩
theorem e_N_addSignal_75 : xa_d xP 33 75 (.putfield 25) 3 78 := ⟨by decide +kernel, rfl⟩
theorem e_N_addSignal_78 : xa_d xP 33 78 (.aload_n 0) 1 79 := ⟨by decide +kernel, rfl⟩
theorem e_N_addSignal_79 : xa_d xP 33 79 (.getfield 25) 3 82 := ⟨by decide +kernel, rfl⟩
theorem e_N_addSignal_82 : xa_d xP 33 82 (.iconst 1) 1 83 := ⟨by decide +kernel, rfl⟩
theorem e_N_addSignal_83 : xa_d xP 33 83 (.isub) 1 84 := ⟨by decide +kernel, rfl⟩
theorem e_N_addSignal_84 : xa_d xP 33 84 (.ireturn) 1 85 := ⟨by decide +kernel, rfl⟩
theorem e_W_edge_0 : xa_d xP 34 0 (.aload_n 3) 1 1 := ⟨by decide +kernel, rfl⟩
theorem e_W_edge_1 : xa_d xP 34 1 (.iconst 0) 1 2 := ⟨by decide +kernel, rfl⟩
theorem e_W_edge_2 : xa_d xP 34 2 (.aload_n 0) 1 3 := ⟨by decide +kernel, rfl⟩
theorem e_W_edge_3 : xa_d xP 34 3 (.iload_n 1) 1 4 := ⟨by decide +kernel, rfl⟩
theorem e_W_edge_4 : xa_d xP 34 4 (.iload_n 2) 1 5 := ⟨by decide +kernel, rfl⟩
theorem e_W_edge_5 : xa_d xP 34 5 (.invokevirtual 15) 3 8 := ⟨by decide +kernel, rfl⟩
theorem e_W_edge_8 : xa_d xP 34 8 (.i2l) 1 9 := ⟨by decide +kernel, rfl⟩
theorem e_W_edge_9 : xa_d xP 34 9 (.lastore) 1 10 := ⟨by decide +kernel, rfl⟩
theorem e_W_edge_10 : xa_db xP 34 10 (.goto 11) 3 13 11 21 := ⟨⟨by decide +kernel, rfl⟩, rfl⟩
theorem e_W_edge_13 : xa_d xP 34 13 (.astore 4) 2 15 := ⟨by decide +kernel, rfl⟩
theorem e_W_edge_15 : xa_d xP 34 15 (.iconst 1) 1 16 := ⟨by decide +kernel, rfl⟩
theorem e_W_edge_16 : xa_d xP 34 16 (.ireturn) 1 17 := ⟨by decide +kernel, rfl⟩
theorem e_W_edge_17 : xa_d xP 34 17 (.astore 4) 2 19 := ⟨by decide +kernel, rfl⟩
theorem e_W_edge_19 : xa_d xP 34 19 (.iconst 2) 1 20 := ⟨by decide +kernel, rfl⟩
theorem e_W_edge_20 : xa_d xP 34 20 (.ireturn) 1 21 := ⟨by decide +kernel, rfl⟩
theorem e_W_edge_21 : xa_d xP 34 21 (.iconst 0) 1 22 := ⟨by decide +kernel, rfl⟩
theorem e_W_edge_22 : xa_d xP 34 22 (.ireturn) 1 23 := ⟨by decide +kernel, rfl⟩
theorem e_CG_edge_0 : xa_d xP 35 0 (.aload_n 0) 1 1 := ⟨by decide +kernel, rfl⟩
theorem e_CG_edge_1 : xa_d xP 35 1 (.iload_n 1) 1 2 := ⟨by decide +kernel, rfl⟩
theorem e_CG_edge_2 : xa_d xP 35 2 (.invokevirtual 61) 3 5 := ⟨by decide +kernel, rfl⟩
theorem e_CG_edge_5 : xa_d xP 35 5 (.aload_n 0) 1 6 := ⟨by decide +kernel, rfl⟩
theorem e_CG_edge_6 : xa_d xP 35 6 (.getfield 10) 3 9 := ⟨by decide +kernel, rfl⟩
theorem e_CG_edge_9 : xa_d xP 35 9 (.getfield 65) 3 12 := ⟨by decide +kernel, rfl⟩
theorem e_CG_edge_12 : xa_d xP 35 12 (.bipush 14) 2 14 := ⟨by decide +kernel, rfl⟩
theorem e_CG_edge_14 : xa_db xP 35 14 (.if_icmp .lt 13) 3 17 13 27 := ⟨⟨by decide +kernel, rfl⟩, rfl⟩
theorem e_CG_edge_17 : xa_d xP 35 17 (.new 47) 3 20 := ⟨by decide +kernel, rfl⟩
theorem e_CG_edge_20 : xa_d xP 35 20 (.dup) 1 21 := ⟨by decide +kernel, rfl⟩
theorem e_CG_edge_21 : xa_d xP 35 21 (.ldc 68) 2 23 := ⟨by decide +kernel, rfl⟩
theorem e_CG_edge_23 : xa_d xP 35 23 (.invokespecial 51) 3 26 := ⟨by decide +kernel, rfl⟩
theorem e_CG_edge_26 : xa_d xP 35 26 (.athrow) 1 27 := ⟨by decide +kernel, rfl⟩
theorem e_CG_edge_27 : xa_d xP 35 27 (.aload_n 0) 1 28 := ⟨by decide +kernel, rfl⟩
theorem e_CG_edge_28 : xa_d xP 35 28 (.invokevirtual 54) 3 31 := ⟨by decide +kernel, rfl⟩
theorem e_CG_edge_31 : xa_d xP 35 31 (.aload_n 0) 1 32 := ⟨by decide +kernel, rfl⟩
theorem e_CG_edge_32 : xa_d xP 35 32 (.getfield 10) 3 35 := ⟨by decide +kernel, rfl⟩
theorem e_CG_edge_35 : xa_d xP 35 35 (.iload_n 1) 1 36 := ⟨by decide +kernel, rfl⟩
theorem e_CG_edge_36 : xa_d xP 35 36 (.iload_n 2) 1 37 := ⟨by decide +kernel, rfl⟩
theorem e_CG_edge_37 : xa_d xP 35 37 (.invokevirtual 70) 3 40 := ⟨by decide +kernel, rfl⟩
theorem e_CG_edge_40 : xa_d xP 35 40 (.ireturn) 1 41 := ⟨by decide +kernel, rfl⟩
theorem e_CG_requireSignal_0 : xa_d xP 36 0 (.iload_n 1) 1 1 := ⟨by decide +kernel, rfl⟩
theorem e_CG_requireSignal_1 : xa_db xP 36 1 (.ifCond .lt 14) 3 4 14 15 := ⟨⟨by decide +kernel, rfl⟩, rfl⟩
theorem e_CG_requireSignal_4 : xa_d xP 36 4 (.iload_n 1) 1 5 := ⟨by decide +kernel, rfl⟩
theorem e_CG_requireSignal_5 : xa_d xP 36 5 (.aload_n 0) 1 6 := ⟨by decide +kernel, rfl⟩
theorem e_CG_requireSignal_6 : xa_d xP 36 6 (.getfield 10) 3 9 := ⟨by decide +kernel, rfl⟩
theorem e_CG_requireSignal_9 : xa_d xP 36 9 (.getfield 44) 3 12 := ⟨by decide +kernel, rfl⟩
theorem e_CG_requireSignal_12 : xa_db xP 36 12 (.if_icmp .lt 13) 3 15 13 25 := ⟨⟨by decide +kernel, rfl⟩, rfl⟩
theorem e_CG_requireSignal_15 : xa_d xP 36 15 (.new 83) 3 18 := ⟨by decide +kernel, rfl⟩
theorem e_CG_requireSignal_18 : xa_d xP 36 18 (.dup) 1 19 := ⟨by decide +kernel, rfl⟩
theorem e_CG_requireSignal_19 : xa_d xP 36 19 (.ldc 211) 2 21 := ⟨by decide +kernel, rfl⟩
theorem e_CG_requireSignal_21 : xa_d xP 36 21 (.invokespecial 87) 3 24 := ⟨by decide +kernel, rfl⟩
theorem e_CG_requireSignal_24 : xa_d xP 36 24 (.athrow) 1 25 := ⟨by decide +kernel, rfl⟩
theorem e_CG_requireSignal_25 : xa_d xP 36 25 (.return_) 1 26 := ⟨by decide +kernel, rfl⟩
theorem e_N_addEdge_0 : xa_d xP 37 0 (.aload_n 0) 1 1 := ⟨by decide +kernel, rfl⟩
theorem e_N_addEdge_1 : xa_d xP 37 1 (.getfield 9) 3 4 := ⟨by decide +kernel, rfl⟩
theorem e_N_addEdge_4 : xa_d xP 37 4 (.aload_n 0) 1 5 := ⟨by decide +kernel, rfl⟩
theorem e_N_addEdge_5 : xa_d xP 37 5 (.getfield 38) 3 8 := ⟨by decide +kernel, rfl⟩
theorem e_N_addEdge_8 : xa_d xP 37 8 (.iload_n 1) 1 9 := ⟨by decide +kernel, rfl⟩
theorem e_N_addEdge_9 : xa_d xP 37 9 (.iastore) 1 10 := ⟨by decide +kernel, rfl⟩
theorem e_N_addEdge_10 : xa_d xP 37 10 (.aload_n 0) 1 11 := ⟨by decide +kernel, rfl⟩
theorem e_N_addEdge_11 : xa_d xP 37 11 (.getfield 15) 3 14 := ⟨by decide +kernel, rfl⟩
theorem e_N_addEdge_14 : xa_d xP 37 14 (.aload_n 0) 1 15 := ⟨by decide +kernel, rfl⟩
theorem e_N_addEdge_15 : xa_d xP 37 15 (.getfield 38) 3 18 := ⟨by decide +kernel, rfl⟩
theorem e_N_addEdge_18 : xa_d xP 37 18 (.iload_n 2) 1 19 := ⟨by decide +kernel, rfl⟩
theorem e_N_addEdge_19 : xa_d xP 37 19 (.bastore) 1 20 := ⟨by decide +kernel, rfl⟩
theorem e_N_addEdge_20 : xa_d xP 37 20 (.aload_n 0) 1 21 := ⟨by decide +kernel, rfl⟩
theorem e_N_addEdge_21 : xa_d xP 37 21 (.dup) 1 22 := ⟨by decide +kernel, rfl⟩
theorem e_N_addEdge_22 : xa_d xP 37 22 (.getfield 38) 3 25 := ⟨by decide +kernel, rfl⟩
theorem e_N_addEdge_25 : xa_d xP 37 25 (.iconst 1) 1 26 := ⟨by decide +kernel, rfl⟩
theorem e_N_addEdge_26 : xa_d xP 37 26 (.iadd) 1 27 := ⟨by decide +kernel, rfl⟩
theorem e_N_addEdge_27 : xa_d xP 37 27 (.putfield 38) 3 30 := ⟨by decide +kernel, rfl⟩
theorem e_N_addEdge_30 : xa_d xP 37 30 (.aload_n 0) 1 31 := ⟨by decide +kernel, rfl⟩
theorem e_N_addEdge_31 : xa_d xP 37 31 (.getfield 38) 3 34 := ⟨by decide +kernel, rfl⟩
theorem e_N_addEdge_34 : xa_d xP 37 34 (.iconst 1) 1 35 := ⟨by decide +kernel, rfl⟩
theorem e_N_addEdge_35 : xa_d xP 37 35 (.isub) 1 36 := ⟨by decide +kernel, rfl⟩
theorem e_N_addEdge_36 : xa_d xP 37 36 (.ireturn) 1 37 := ⟨by decide +kernel, rfl⟩
theorem e_W_place_0 : xa_d xP 38 0 (.aload_n 2) 1 1 := ⟨by decide +kernel, rfl⟩
theorem e_W_place_1 : xa_d xP 38 1 (.iconst 0) 1 2 := ⟨by decide +kernel, rfl⟩
theorem e_W_place_2 : xa_d xP 38 2 (.aload_n 0) 1 3 := ⟨by decide +kernel, rfl⟩
theorem e_W_place_3 : xa_d xP 38 3 (.iload_n 1) 1 4 := ⟨by decide +kernel, rfl⟩
theorem e_W_place_4 : xa_d xP 38 4 (.invokevirtual 21) 3 7 := ⟨by decide +kernel, rfl⟩
theorem e_W_place_7 : xa_d xP 38 7 (.i2l) 1 8 := ⟨by decide +kernel, rfl⟩
theorem e_W_place_8 : xa_d xP 38 8 (.lastore) 1 9 := ⟨by decide +kernel, rfl⟩
theorem e_W_place_9 : xa_db xP 38 9 (.goto 6) 3 12 6 15 := ⟨⟨by decide +kernel, rfl⟩, rfl⟩
theorem e_W_place_12 : xa_d xP 38 12 (.astore_n 3) 1 13 := ⟨by decide +kernel, rfl⟩
theorem e_W_place_13 : xa_d xP 38 13 (.iconst 1) 1 14 := ⟨by decide +kernel, rfl⟩
theorem e_W_place_14 : xa_d xP 38 14 (.ireturn) 1 15 := ⟨by decide +kernel, rfl⟩
theorem e_W_place_15 : xa_d xP 38 15 (.iconst 0) 1 16 := ⟨by decide +kernel, rfl⟩
theorem e_W_place_16 : xa_d xP 38 16 (.ireturn) 1 17 := ⟨by decide +kernel, rfl⟩
theorem e_CG_place_0 : xa_d xP 39 0 (.aload_n 0) 1 1 := ⟨by decide +kernel, rfl⟩
theorem e_CG_place_1 : xa_d xP 39 1 (.getfield 10) 3 4 := ⟨by decide +kernel, rfl⟩
theorem e_CG_place_4 : xa_d xP 39 4 (.getfield 74) 3 7 := ⟨by decide +kernel, rfl⟩
theorem e_CG_place_7 : xa_d xP 39 7 (.bipush 16) 2 9 := ⟨by decide +kernel, rfl⟩
theorem e_CG_place_9 : xa_db xP 39 9 (.if_icmp .lt 13) 3 12 13 22 := ⟨⟨by decide +kernel, rfl⟩, rfl⟩
theorem e_CG_place_12 : xa_d xP 39 12 (.new 47) 3 15 := ⟨by decide +kernel, rfl⟩
theorem e_CG_place_15 : xa_d xP 39 15 (.dup) 1 16 := ⟨by decide +kernel, rfl⟩
theorem e_CG_place_16 : xa_d xP 39 16 (.ldc 77) 2 18 := ⟨by decide +kernel, rfl⟩
theorem e_CG_place_18 : xa_d xP 39 18 (.invokespecial 51) 3 21 := ⟨by decide +kernel, rfl⟩
theorem e_CG_place_21 : xa_d xP 39 21 (.athrow) 1 22 := ⟨by decide +kernel, rfl⟩
theorem e_CG_place_22 : xa_d xP 39 22 (.aload_n 0) 1 23 := ⟨by decide +kernel, rfl⟩
theorem e_CG_place_23 : xa_d xP 39 23 (.invokevirtual 54) 3 26 := ⟨by decide +kernel, rfl⟩
theorem e_CG_place_26 : xa_d xP 39 26 (.aload_n 0) 1 27 := ⟨by decide +kernel, rfl⟩
theorem e_CG_place_27 : xa_d xP 39 27 (.getfield 10) 3 30 := ⟨by decide +kernel, rfl⟩
theorem e_CG_place_30 : xa_d xP 39 30 (.iload_n 1) 1 31 := ⟨by decide +kernel, rfl⟩
theorem e_CG_place_31 : xa_d xP 39 31 (.invokevirtual 79) 3 34 := ⟨by decide +kernel, rfl⟩
theorem e_CG_place_34 : xa_d xP 39 34 (.ireturn) 1 35 := ⟨by decide +kernel, rfl⟩
theorem e_N_addPlace_0 : xa_d xP 40 0 (.aload_n 0) 1 1 := ⟨by decide +kernel, rfl⟩
theorem e_N_addPlace_1 : xa_d xP 40 1 (.dup) 1 2 := ⟨by decide +kernel, rfl⟩
theorem e_N_addPlace_2 : xa_d xP 40 2 (.getfield 41) 3 5 := ⟨by decide +kernel, rfl⟩
theorem e_N_addPlace_5 : xa_d xP 40 5 (.iload_n 1) 1 6 := ⟨by decide +kernel, rfl⟩
theorem e_N_addPlace_6 : xa_db xP 40 6 (.ifCond .eq 12) 3 9 12 18 := ⟨⟨by decide +kernel, rfl⟩, rfl⟩
theorem e_N_addPlace_9 : xa_d xP 40 9 (.iconst 1) 1 10 := ⟨by decide +kernel, rfl⟩
theorem e_N_addPlace_10 : xa_d xP 40 10 (.aload_n 0) 1 11 := ⟨by decide +kernel, rfl⟩
theorem e_N_addPlace_11 : xa_d xP 40 11 (.getfield 44) 3 14 := ⟨by decide +kernel, rfl⟩
theorem e_N_addPlace_14 : xa_d xP 40 14 (.ishl) 1 15 := ⟨by decide +kernel, rfl⟩
theorem e_N_addPlace_15 : xa_db xP 40 15 (.goto 4) 3 18 4 19 := ⟨⟨by decide +kernel, rfl⟩, rfl⟩
theorem e_N_addPlace_18 : xa_d xP 40 18 (.iconst 0) 1 19 := ⟨by decide +kernel, rfl⟩
theorem e_N_addPlace_19 : xa_d xP 40 19 (.ior) 1 20 := ⟨by decide +kernel, rfl⟩
theorem e_N_addPlace_20 : xa_d xP 40 20 (.putfield 41) 3 23 := ⟨by decide +kernel, rfl⟩
theorem e_N_addPlace_23 : xa_d xP 40 23 (.aload_n 0) 1 24 := ⟨by decide +kernel, rfl⟩
theorem e_N_addPlace_24 : xa_d xP 40 24 (.dup) 1 25 := ⟨by decide +kernel, rfl⟩
theorem e_N_addPlace_25 : xa_d xP 40 25 (.getfield 44) 3 28 := ⟨by decide +kernel, rfl⟩
theorem e_N_addPlace_28 : xa_d xP 40 28 (.iconst 1) 1 29 := ⟨by decide +kernel, rfl⟩
theorem e_N_addPlace_29 : xa_d xP 40 29 (.iadd) 1 30 := ⟨by decide +kernel, rfl⟩
theorem e_N_addPlace_30 : xa_d xP 40 30 (.putfield 44) 3 33 := ⟨by decide +kernel, rfl⟩
theorem e_N_addPlace_33 : xa_d xP 40 33 (.aload_n 0) 1 34 := ⟨by decide +kernel, rfl⟩
theorem e_N_addPlace_34 : xa_d xP 40 34 (.getfield 44) 3 37 := ⟨by decide +kernel, rfl⟩
theorem e_N_addPlace_37 : xa_d xP 40 37 (.iconst 1) 1 38 := ⟨by decide +kernel, rfl⟩
theorem e_N_addPlace_38 : xa_d xP 40 38 (.isub) 1 39 := ⟨by decide +kernel, rfl⟩
theorem e_N_addPlace_39 : xa_d xP 40 39 (.ireturn) 1 40 := ⟨by decide +kernel, rfl⟩
theorem e_W_arc_0 : xa_d xP 41 0 (.aload_n 0) 1 1 := ⟨by decide +kernel, rfl⟩
theorem e_W_arc_1 : xa_d xP 41 1 (.iload_n 1) 1 2 := ⟨by decide +kernel, rfl⟩
theorem e_W_arc_2 : xa_d xP 41 2 (.iload_n 2) 1 3 := ⟨by decide +kernel, rfl⟩
theorem e_W_arc_3 : xa_d xP 41 3 (.iload_n 3) 1 4 := ⟨by decide +kernel, rfl⟩
theorem e_W_arc_4 : xa_d xP 41 4 (.invokevirtual 25) 3 7 := ⟨by decide +kernel, rfl⟩
theorem e_W_arc_7 : xa_db xP 41 7 (.goto 11) 3 10 11 18 := ⟨⟨by decide +kernel, rfl⟩, rfl⟩
theorem e_W_arc_10 : xa_d xP 41 10 (.astore 4) 2 12 := ⟨by decide +kernel, rfl⟩
theorem e_W_arc_12 : xa_d xP 41 12 (.iconst 1) 1 13 := ⟨by decide +kernel, rfl⟩
theorem e_W_arc_13 : xa_d xP 41 13 (.ireturn) 1 14 := ⟨by decide +kernel, rfl⟩
theorem e_W_arc_14 : xa_d xP 41 14 (.astore 4) 2 16 := ⟨by decide +kernel, rfl⟩
theorem e_W_arc_16 : xa_d xP 41 16 (.iconst 2) 1 17 := ⟨by decide +kernel, rfl⟩
theorem e_W_arc_17 : xa_d xP 41 17 (.ireturn) 1 18 := ⟨by decide +kernel, rfl⟩
theorem e_W_arc_18 : xa_d xP 41 18 (.iconst 0) 1 19 := ⟨by decide +kernel, rfl⟩
theorem e_W_arc_19 : xa_d xP 41 19 (.ireturn) 1 20 := ⟨by decide +kernel, rfl⟩
theorem e_CG_arc_0 : xa_d xP 42 0 (.iload_n 1) 1 1 := ⟨by decide +kernel, rfl⟩
theorem e_CG_arc_1 : xa_db xP 42 1 (.ifCond .lt 14) 3 4 14 15 := ⟨⟨by decide +kernel, rfl⟩, rfl⟩
theorem e_CG_arc_4 : xa_d xP 42 4 (.iload_n 1) 1 5 := ⟨by decide +kernel, rfl⟩
theorem e_CG_arc_5 : xa_d xP 42 5 (.aload_n 0) 1 6 := ⟨by decide +kernel, rfl⟩
theorem e_CG_arc_6 : xa_d xP 42 6 (.getfield 10) 3 9 := ⟨by decide +kernel, rfl⟩
theorem e_CG_arc_9 : xa_d xP 42 9 (.getfield 74) 3 12 := ⟨by decide +kernel, rfl⟩
theorem e_CG_arc_12 : xa_db xP 42 12 (.if_icmp .lt 13) 3 15 13 25 := ⟨⟨by decide +kernel, rfl⟩, rfl⟩
theorem e_CG_arc_15 : xa_d xP 42 15 (.new 83) 3 18 := ⟨by decide +kernel, rfl⟩
theorem e_CG_arc_18 : xa_d xP 42 18 (.dup) 1 19 := ⟨by decide +kernel, rfl⟩
theorem e_CG_arc_19 : xa_d xP 42 19 (.ldc 85) 2 21 := ⟨by decide +kernel, rfl⟩
theorem e_CG_arc_21 : xa_d xP 42 21 (.invokespecial 87) 3 24 := ⟨by decide +kernel, rfl⟩
theorem e_CG_arc_24 : xa_d xP 42 24 (.athrow) 1 25 := ⟨by decide +kernel, rfl⟩
theorem e_CG_arc_25 : xa_d xP 42 25 (.iload_n 2) 1 26 := ⟨by decide +kernel, rfl⟩
theorem e_CG_arc_26 : xa_db xP 42 26 (.ifCond .lt 14) 3 29 14 40 := ⟨⟨by decide +kernel, rfl⟩, rfl⟩
theorem e_CG_arc_29 : xa_d xP 42 29 (.iload_n 2) 1 30 := ⟨by decide +kernel, rfl⟩
theorem e_CG_arc_30 : xa_d xP 42 30 (.aload_n 0) 1 31 := ⟨by decide +kernel, rfl⟩
theorem e_CG_arc_31 : xa_d xP 42 31 (.getfield 10) 3 34 := ⟨by decide +kernel, rfl⟩
theorem e_CG_arc_34 : xa_d xP 42 34 (.getfield 65) 3 37 := ⟨by decide +kernel, rfl⟩
theorem e_CG_arc_37 : xa_db xP 42 37 (.if_icmp .lt 13) 3 40 13 50 := ⟨⟨by decide +kernel, rfl⟩, rfl⟩
theorem e_CG_arc_40 : xa_d xP 42 40 (.new 83) 3 43 := ⟨by decide +kernel, rfl⟩
theorem e_CG_arc_43 : xa_d xP 42 43 (.dup) 1 44 := ⟨by decide +kernel, rfl⟩
theorem e_CG_arc_44 : xa_d xP 42 44 (.ldc 88) 2 46 := ⟨by decide +kernel, rfl⟩
theorem e_CG_arc_46 : xa_d xP 42 46 (.invokespecial 87) 3 49 := ⟨by decide +kernel, rfl⟩
theorem e_CG_arc_49 : xa_d xP 42 49 (.athrow) 1 50 := ⟨by decide +kernel, rfl⟩
theorem e_CG_arc_50 : xa_d xP 42 50 (.aload_n 0) 1 51 := ⟨by decide +kernel, rfl⟩
theorem e_CG_arc_51 : xa_d xP 42 51 (.getfield 10) 3 54 := ⟨by decide +kernel, rfl⟩
theorem e_CG_arc_54 : xa_d xP 42 54 (.iload_n 1) 1 55 := ⟨by decide +kernel, rfl⟩
theorem e_CG_arc_55 : xa_d xP 42 55 (.iload_n 2) 1 56 := ⟨by decide +kernel, rfl⟩
theorem e_CG_arc_56 : xa_d xP 42 56 (.iload_n 3) 1 57 := ⟨by decide +kernel, rfl⟩
theorem e_CG_arc_57 : xa_d xP 42 57 (.invokevirtual 90) 3 60 := ⟨by decide +kernel, rfl⟩
theorem e_CG_arc_60 : xa_db xP 42 60 (.ifCond .eq 13) 3 63 13 73 := ⟨⟨by decide +kernel, rfl⟩, rfl⟩
theorem e_CG_arc_63 : xa_d xP 42 63 (.new 94) 3 66 := ⟨by decide +kernel, rfl⟩
theorem e_CG_arc_66 : xa_d xP 42 66 (.dup) 1 67 := ⟨by decide +kernel, rfl⟩
theorem e_CG_arc_67 : xa_d xP 42 67 (.ldc 96) 2 69 := ⟨by decide +kernel, rfl⟩
theorem e_CG_arc_69 : xa_d xP 42 69 (.invokespecial 98) 3 72 := ⟨by decide +kernel, rfl⟩
theorem e_CG_arc_72 : xa_d xP 42 72 (.athrow) 1 73 := ⟨by decide +kernel, rfl⟩
theorem e_CG_arc_73 : xa_d xP 42 73 (.aload_n 0) 1 74 := ⟨by decide +kernel, rfl⟩
theorem e_CG_arc_74 : xa_d xP 42 74 (.invokevirtual 54) 3 77 := ⟨by decide +kernel, rfl⟩
theorem e_CG_arc_77 : xa_d xP 42 77 (.aload_n 0) 1 78 := ⟨by decide +kernel, rfl⟩
theorem e_CG_arc_78 : xa_d xP 42 78 (.getfield 10) 3 81 := ⟨by decide +kernel, rfl⟩
theorem e_CG_arc_81 : xa_d xP 42 81 (.iload_n 1) 1 82 := ⟨by decide +kernel, rfl⟩
theorem e_CG_arc_82 : xa_d xP 42 82 (.iload_n 2) 1 83 := ⟨by decide +kernel, rfl⟩
theorem e_CG_arc_83 : xa_d xP 42 83 (.iload_n 3) 1 84 := ⟨by decide +kernel, rfl⟩
theorem e_CG_arc_84 : xa_d xP 42 84 (.invokevirtual 99) 3 87 := ⟨by decide +kernel, rfl⟩
theorem e_CG_arc_87 : xa_d xP 42 87 (.return_) 1 88 := ⟨by decide +kernel, rfl⟩
theorem e_N_hasArc_0 : xa_d xP 43 0 (.iload_n 3) 1 1 := ⟨by decide +kernel, rfl⟩
theorem e_N_hasArc_1 : xa_db xP 43 1 (.ifCond .eq 12) 3 4 12 13 := ⟨⟨by decide +kernel, rfl⟩, rfl⟩
theorem e_N_hasArc_4 : xa_d xP 43 4 (.aload_n 0) 1 5 := ⟨by decide +kernel, rfl⟩
theorem e_N_hasArc_5 : xa_d xP 43 5 (.getfield 22) 3 8 := ⟨by decide +kernel, rfl⟩
theorem e_N_hasArc_8 : xa_d xP 43 8 (.iload_n 2) 1 9 := ⟨by decide +kernel, rfl⟩
theorem e_N_hasArc_9 : xa_d xP 43 9 (.iaload) 1 10 := ⟨by decide +kernel, rfl⟩
theorem e_N_hasArc_10 : xa_db xP 43 10 (.goto 9) 3 13 9 19 := ⟨⟨by decide +kernel, rfl⟩, rfl⟩
theorem e_N_hasArc_13 : xa_d xP 43 13 (.aload_n 0) 1 14 := ⟨by decide +kernel, rfl⟩
theorem e_N_hasArc_14 : xa_d xP 43 14 (.getfield 19) 3 17 := ⟨by decide +kernel, rfl⟩
theorem e_N_hasArc_17 : xa_d xP 43 17 (.iload_n 2) 1 18 := ⟨by decide +kernel, rfl⟩
theorem e_N_hasArc_18 : xa_d xP 43 18 (.iaload) 1 19 := ⟨by decide +kernel, rfl⟩
theorem e_N_hasArc_19 : xa_d xP 43 19 (.istore 4) 2 21 := ⟨by decide +kernel, rfl⟩
theorem e_N_hasArc_21 : xa_d xP 43 21 (.iload 4) 2 23 := ⟨by decide +kernel, rfl⟩
theorem e_N_hasArc_23 : xa_d xP 43 23 (.iload_n 1) 1 24 := ⟨by decide +kernel, rfl⟩
theorem e_N_hasArc_24 : xa_d xP 43 24 (.ishr) 1 25 := ⟨by decide +kernel, rfl⟩
theorem e_N_hasArc_25 : xa_d xP 43 25 (.iconst 1) 1 26 := ⟨by decide +kernel, rfl⟩
theorem e_N_hasArc_26 : xa_d xP 43 26 (.iand) 1 27 := ⟨by decide +kernel, rfl⟩
theorem e_N_hasArc_27 : xa_d xP 43 27 (.iconst 1) 1 28 := ⟨by decide +kernel, rfl⟩
theorem e_N_hasArc_28 : xa_db xP 43 28 (.if_icmp .ne 7) 3 31 7 35 := ⟨⟨by decide +kernel, rfl⟩, rfl⟩
theorem e_N_hasArc_31 : xa_d xP 43 31 (.iconst 1) 1 32 := ⟨by decide +kernel, rfl⟩
theorem e_N_hasArc_32 : xa_db xP 43 32 (.goto 4) 3 35 4 36 := ⟨⟨by decide +kernel, rfl⟩, rfl⟩
theorem e_N_hasArc_35 : xa_d xP 43 35 (.iconst 0) 1 36 := ⟨by decide +kernel, rfl⟩
theorem e_N_hasArc_36 : xa_d xP 43 36 (.ireturn) 1 37 := ⟨by decide +kernel, rfl⟩
theorem e_N_addArc_0 : xa_d xP 44 0 (.iload_n 3) 1 1 := ⟨by decide +kernel, rfl⟩
theorem e_N_addArc_1 : xa_db xP 44 1 (.ifCond .eq 18) 3 4 18 19 := ⟨⟨by decide +kernel, rfl⟩, rfl⟩
theorem e_N_addArc_4 : xa_d xP 44 4 (.aload_n 0) 1 5 := ⟨by decide +kernel, rfl⟩
theorem e_N_addArc_5 : xa_d xP 44 5 (.getfield 22) 3 8 := ⟨by decide +kernel, rfl⟩
theorem e_N_addArc_8 : xa_d xP 44 8 (.iload_n 2) 1 9 := ⟨by decide +kernel, rfl⟩
theorem e_N_addArc_9 : xa_d xP 44 9 (.dup2) 1 10 := ⟨by decide +kernel, rfl⟩
theorem e_N_addArc_10 : xa_d xP 44 10 (.iaload) 1 11 := ⟨by decide +kernel, rfl⟩
theorem e_N_addArc_11 : xa_d xP 44 11 (.iconst 1) 1 12 := ⟨by decide +kernel, rfl⟩
theorem e_N_addArc_12 : xa_d xP 44 12 (.iload_n 1) 1 13 := ⟨by decide +kernel, rfl⟩
theorem e_N_addArc_13 : xa_d xP 44 13 (.ishl) 1 14 := ⟨by decide +kernel, rfl⟩
theorem e_N_addArc_14 : xa_d xP 44 14 (.ior) 1 15 := ⟨by decide +kernel, rfl⟩
theorem e_N_addArc_15 : xa_d xP 44 15 (.iastore) 1 16 := ⟨by decide +kernel, rfl⟩
theorem e_N_addArc_16 : xa_db xP 44 16 (.goto 15) 3 19 15 31 := ⟨⟨by decide +kernel, rfl⟩, rfl⟩
theorem e_N_addArc_19 : xa_d xP 44 19 (.aload_n 0) 1 20 := ⟨by decide +kernel, rfl⟩
theorem e_N_addArc_20 : xa_d xP 44 20 (.getfield 19) 3 23 := ⟨by decide +kernel, rfl⟩
theorem e_N_addArc_23 : xa_d xP 44 23 (.iload_n 2) 1 24 := ⟨by decide +kernel, rfl⟩
theorem e_N_addArc_24 : xa_d xP 44 24 (.dup2) 1 25 := ⟨by decide +kernel, rfl⟩
theorem e_N_addArc_25 : xa_d xP 44 25 (.iaload) 1 26 := ⟨by decide +kernel, rfl⟩
theorem e_N_addArc_26 : xa_d xP 44 26 (.iconst 1) 1 27 := ⟨by decide +kernel, rfl⟩
theorem e_N_addArc_27 : xa_d xP 44 27 (.iload_n 1) 1 28 := ⟨by decide +kernel, rfl⟩
theorem e_N_addArc_28 : xa_d xP 44 28 (.ishl) 1 29 := ⟨by decide +kernel, rfl⟩
theorem e_N_addArc_29 : xa_d xP 44 29 (.ior) 1 30 := ⟨by decide +kernel, rfl⟩
theorem e_N_addArc_30 : xa_d xP 44 30 (.iastore) 1 31 := ⟨by decide +kernel, rfl⟩
theorem e_N_addArc_31 : xa_d xP 44 31 (.return_) 1 32 := ⟨by decide +kernel, rfl⟩
theorem e_W_states_0 : xa_d xP 45 0 (.aload_n 1) 1 1 := ⟨by decide +kernel, rfl⟩
theorem e_W_states_1 : xa_d xP 45 1 (.iconst 0) 1 2 := ⟨by decide +kernel, rfl⟩
theorem e_W_states_2 : xa_d xP 45 2 (.aload_n 0) 1 3 := ⟨by decide +kernel, rfl⟩
theorem e_W_states_3 : xa_d xP 45 3 (.invokevirtual 31) 3 6 := ⟨by decide +kernel, rfl⟩
theorem e_W_states_6 : xa_d xP 45 6 (.i2l) 1 7 := ⟨by decide +kernel, rfl⟩
theorem e_W_states_7 : xa_d xP 45 7 (.lastore) 1 8 := ⟨by decide +kernel, rfl⟩
theorem e_W_states_8 : xa_db xP 45 8 (.goto 6) 3 11 6 14 := ⟨⟨by decide +kernel, rfl⟩, rfl⟩
theorem e_W_states_11 : xa_d xP 45 11 (.astore_n 2) 1 12 := ⟨by decide +kernel, rfl⟩
theorem e_W_states_12 : xa_d xP 45 12 (.iconst 1) 1 13 := ⟨by decide +kernel, rfl⟩
theorem e_W_states_13 : xa_d xP 45 13 (.ireturn) 1 14 := ⟨by decide +kernel, rfl⟩
theorem e_W_states_14 : xa_d xP 45 14 (.iconst 0) 1 15 := ⟨by decide +kernel, rfl⟩
theorem e_W_states_15 : xa_d xP 45 15 (.ireturn) 1 16 := ⟨by decide +kernel, rfl⟩
theorem e_CG_states_0 : xa_d xP 46 0 (.aload_n 0) 1 1 := ⟨by decide +kernel, rfl⟩
theorem e_CG_states_1 : xa_d xP 46 1 (.invokevirtual 114) 3 4 := ⟨by decide +kernel, rfl⟩
theorem e_CG_states_4 : xa_d xP 46 4 (.aload_n 0) 1 5 := ⟨by decide +kernel, rfl⟩
theorem e_CG_states_5 : xa_d xP 46 5 (.getfield 19) 3 8 := ⟨by decide +kernel, rfl⟩
theorem e_CG_states_8 : xa_d xP 46 8 (.getfield 117) 3 11 := ⟨by decide +kernel, rfl⟩
theorem e_CG_states_11 : xa_d xP 46 11 (.ireturn) 1 12 := ⟨by decide +kernel, rfl⟩
theorem e_CG_requireGraph_0 : xa_d xP 47 0 (.aload_n 0) 1 1 := ⟨by decide +kernel, rfl⟩
theorem e_CG_requireGraph_1 : xa_d xP 47 1 (.getfield 19) 3 4 := ⟨by decide +kernel, rfl⟩
theorem e_CG_requireGraph_4 : xa_d xP 47 4 (.getfield 117) 3 7 := ⟨by decide +kernel, rfl⟩
theorem e_CG_requireGraph_7 : xa_db xP 47 7 (.ifCond .ne 13) 3 10 13 20 := ⟨⟨by decide +kernel, rfl⟩, rfl⟩
theorem e_CG_requireGraph_10 : xa_d xP 47 10 (.new 47) 3 13 := ⟨by decide +kernel, rfl⟩
theorem e_CG_requireGraph_13 : xa_d xP 47 13 (.dup) 1 14 := ⟨by decide +kernel, rfl⟩
theorem e_CG_requireGraph_14 : xa_d xP 47 14 (.ldc 213) 2 16 := ⟨by decide +kernel, rfl⟩
theorem e_CG_requireGraph_16 : xa_d xP 47 16 (.invokespecial 51) 3 19 := ⟨by decide +kernel, rfl⟩
theorem e_CG_requireGraph_19 : xa_d xP 47 19 (.athrow) 1 20 := ⟨by decide +kernel, rfl⟩
theorem e_CG_requireGraph_20 : xa_d xP 47 20 (.return_) 1 21 := ⟨by decide +kernel, rfl⟩
theorem e_W_code_0 : xa_d xP 48 0 (.aload_n 2) 1 1 := ⟨by decide +kernel, rfl⟩
theorem e_W_code_1 : xa_d xP 48 1 (.iconst 0) 1 2 := ⟨by decide +kernel, rfl⟩
theorem e_W_code_2 : xa_d xP 48 2 (.aload_n 0) 1 3 := ⟨by decide +kernel, rfl⟩
theorem e_W_code_3 : xa_d xP 48 3 (.iload_n 1) 1 4 := ⟨by decide +kernel, rfl⟩
theorem e_W_code_4 : xa_d xP 48 4 (.invokevirtual 35) 3 7 := ⟨by decide +kernel, rfl⟩
theorem e_W_code_7 : xa_d xP 48 7 (.i2l) 1 8 := ⟨by decide +kernel, rfl⟩
theorem e_W_code_8 : xa_d xP 48 8 (.lastore) 1 9 := ⟨by decide +kernel, rfl⟩
theorem e_W_code_9 : xa_db xP 48 9 (.goto 9) 3 12 9 18 := ⟨⟨by decide +kernel, rfl⟩, rfl⟩
theorem e_W_code_12 : xa_d xP 48 12 (.astore_n 3) 1 13 := ⟨by decide +kernel, rfl⟩
theorem e_W_code_13 : xa_d xP 48 13 (.iconst 1) 1 14 := ⟨by decide +kernel, rfl⟩
theorem e_W_code_14 : xa_d xP 48 14 (.ireturn) 1 15 := ⟨by decide +kernel, rfl⟩
theorem e_W_code_15 : xa_d xP 48 15 (.astore_n 3) 1 16 := ⟨by decide +kernel, rfl⟩
theorem e_W_code_16 : xa_d xP 48 16 (.iconst 2) 1 17 := ⟨by decide +kernel, rfl⟩
theorem e_W_code_17 : xa_d xP 48 17 (.ireturn) 1 18 := ⟨by decide +kernel, rfl⟩
theorem e_W_code_18 : xa_d xP 48 18 (.iconst 0) 1 19 := ⟨by decide +kernel, rfl⟩
theorem e_W_code_19 : xa_d xP 48 19 (.ireturn) 1 20 := ⟨by decide +kernel, rfl⟩
theorem e_CG_code_0 : xa_d xP 49 0 (.aload_n 0) 1 1 := ⟨by decide +kernel, rfl⟩
theorem e_CG_code_1 : xa_d xP 49 1 (.iload_n 1) 1 2 := ⟨by decide +kernel, rfl⟩
theorem e_CG_code_2 : xa_d xP 49 2 (.invokevirtual 120) 3 5 := ⟨by decide +kernel, rfl⟩
theorem e_CG_code_5 : xa_d xP 49 5 (.aload_n 0) 1 6 := ⟨by decide +kernel, rfl⟩
theorem e_CG_code_6 : xa_d xP 49 6 (.getfield 19) 3 9 := ⟨by decide +kernel, rfl⟩
theorem e_CG_code_9 : xa_d xP 49 9 (.getfield 123) 3 12 := ⟨by decide +kernel, rfl⟩
theorem e_CG_code_12 : xa_d xP 49 12 (.iload_n 1) 1 13 := ⟨by decide +kernel, rfl⟩
theorem e_CG_code_13 : xa_d xP 49 13 (.iaload) 1 14 := ⟨by decide +kernel, rfl⟩
theorem e_CG_code_14 : xa_d xP 49 14 (.ireturn) 1 15 := ⟨by decide +kernel, rfl⟩
theorem e_CG_requireState_0 : xa_d xP 50 0 (.aload_n 0) 1 1 := ⟨by decide +kernel, rfl⟩
theorem e_CG_requireState_1 : xa_d xP 50 1 (.invokevirtual 114) 3 4 := ⟨by decide +kernel, rfl⟩
theorem e_CG_requireState_4 : xa_d xP 50 4 (.iload_n 1) 1 5 := ⟨by decide +kernel, rfl⟩
theorem e_CG_requireState_5 : xa_db xP 50 5 (.ifCond .lt 14) 3 8 14 19 := ⟨⟨by decide +kernel, rfl⟩, rfl⟩
theorem e_CG_requireState_8 : xa_d xP 50 8 (.iload_n 1) 1 9 := ⟨by decide +kernel, rfl⟩
theorem e_CG_requireState_9 : xa_d xP 50 9 (.aload_n 0) 1 10 := ⟨by decide +kernel, rfl⟩
theorem e_CG_requireState_10 : xa_d xP 50 10 (.getfield 19) 3 13 := ⟨by decide +kernel, rfl⟩
theorem e_CG_requireState_13 : xa_d xP 50 13 (.getfield 117) 3 16 := ⟨by decide +kernel, rfl⟩
theorem e_CG_requireState_16 : xa_db xP 50 16 (.if_icmp .lt 13) 3 19 13 29 := ⟨⟨by decide +kernel, rfl⟩, rfl⟩
theorem e_CG_requireState_19 : xa_d xP 50 19 (.new 83) 3 22 := ⟨by decide +kernel, rfl⟩
theorem e_CG_requireState_22 : xa_d xP 50 22 (.dup) 1 23 := ⟨by decide +kernel, rfl⟩
theorem e_CG_requireState_23 : xa_d xP 50 23 (.ldc 215) 2 25 := ⟨by decide +kernel, rfl⟩
theorem e_CG_requireState_25 : xa_d xP 50 25 (.invokespecial 87) 3 28 := ⟨by decide +kernel, rfl⟩
theorem e_CG_requireState_28 : xa_d xP 50 28 (.athrow) 1 29 := ⟨by decide +kernel, rfl⟩
theorem e_CG_requireState_29 : xa_d xP 50 29 (.return_) 1 30 := ⟨by decide +kernel, rfl⟩
theorem e_W_marking_0 : xa_d xP 51 0 (.aload_n 2) 1 1 := ⟨by decide +kernel, rfl⟩
theorem e_W_marking_1 : xa_d xP 51 1 (.iconst 0) 1 2 := ⟨by decide +kernel, rfl⟩
theorem e_W_marking_2 : xa_d xP 51 2 (.aload_n 0) 1 3 := ⟨by decide +kernel, rfl⟩
theorem e_W_marking_3 : xa_d xP 51 3 (.iload_n 1) 1 4 := ⟨by decide +kernel, rfl⟩
theorem e_W_marking_4 : xa_d xP 51 4 (.invokevirtual 39) 3 7 := ⟨by decide +kernel, rfl⟩
theorem e_W_marking_7 : xa_d xP 51 7 (.i2l) 1 8 := ⟨by decide +kernel, rfl⟩
theorem e_W_marking_8 : xa_d xP 51 8 (.lastore) 1 9 := ⟨by decide +kernel, rfl⟩
theorem e_W_marking_9 : xa_db xP 51 9 (.goto 9) 3 12 9 18 := ⟨⟨by decide +kernel, rfl⟩, rfl⟩
theorem e_W_marking_12 : xa_d xP 51 12 (.astore_n 3) 1 13 := ⟨by decide +kernel, rfl⟩
theorem e_W_marking_13 : xa_d xP 51 13 (.iconst 1) 1 14 := ⟨by decide +kernel, rfl⟩
theorem e_W_marking_14 : xa_d xP 51 14 (.ireturn) 1 15 := ⟨by decide +kernel, rfl⟩
theorem e_W_marking_15 : xa_d xP 51 15 (.astore_n 3) 1 16 := ⟨by decide +kernel, rfl⟩
theorem e_W_marking_16 : xa_d xP 51 16 (.iconst 2) 1 17 := ⟨by decide +kernel, rfl⟩
theorem e_W_marking_17 : xa_d xP 51 17 (.ireturn) 1 18 := ⟨by decide +kernel, rfl⟩
theorem e_W_marking_18 : xa_d xP 51 18 (.iconst 0) 1 19 := ⟨by decide +kernel, rfl⟩
theorem e_W_marking_19 : xa_d xP 51 19 (.ireturn) 1 20 := ⟨by decide +kernel, rfl⟩
theorem e_CG_marking_0 : xa_d xP 52 0 (.aload_n 0) 1 1 := ⟨by decide +kernel, rfl⟩
theorem e_CG_marking_1 : xa_d xP 52 1 (.iload_n 1) 1 2 := ⟨by decide +kernel, rfl⟩
theorem e_CG_marking_2 : xa_d xP 52 2 (.invokevirtual 120) 3 5 := ⟨by decide +kernel, rfl⟩
theorem e_CG_marking_5 : xa_d xP 52 5 (.aload_n 0) 1 6 := ⟨by decide +kernel, rfl⟩
theorem e_CG_marking_6 : xa_d xP 52 6 (.getfield 19) 3 9 := ⟨by decide +kernel, rfl⟩
theorem e_CG_marking_9 : xa_d xP 52 9 (.getfield 127) 3 12 := ⟨by decide +kernel, rfl⟩
theorem e_CG_marking_12 : xa_d xP 52 12 (.iload_n 1) 1 13 := ⟨by decide +kernel, rfl⟩
theorem e_CG_marking_13 : xa_d xP 52 13 (.iaload) 1 14 := ⟨by decide +kernel, rfl⟩
theorem e_CG_marking_14 : xa_d xP 52 14 (.ireturn) 1 15 := ⟨by decide +kernel, rfl⟩
theorem e_W_found_0 : xa_d xP 53 0 (.aload_n 2) 1 1 := ⟨by decide +kernel, rfl⟩
theorem e_W_found_1 : xa_d xP 53 1 (.iconst 0) 1 2 := ⟨by decide +kernel, rfl⟩
theorem e_W_found_2 : xa_d xP 53 2 (.aload_n 0) 1 3 := ⟨by decide +kernel, rfl⟩
theorem e_W_found_3 : xa_d xP 53 3 (.iload_n 1) 1 4 := ⟨by decide +kernel, rfl⟩
theorem e_W_found_4 : xa_d xP 53 4 (.invokevirtual 42) 3 7 := ⟨by decide +kernel, rfl⟩
theorem e_W_found_7 : xa_d xP 53 7 (.i2l) 1 8 := ⟨by decide +kernel, rfl⟩
theorem e_W_found_8 : xa_d xP 53 8 (.lastore) 1 9 := ⟨by decide +kernel, rfl⟩
theorem e_W_found_9 : xa_db xP 53 9 (.goto 9) 3 12 9 18 := ⟨⟨by decide +kernel, rfl⟩, rfl⟩
theorem e_W_found_12 : xa_d xP 53 12 (.astore_n 3) 1 13 := ⟨by decide +kernel, rfl⟩
theorem e_W_found_13 : xa_d xP 53 13 (.iconst 1) 1 14 := ⟨by decide +kernel, rfl⟩
theorem e_W_found_14 : xa_d xP 53 14 (.ireturn) 1 15 := ⟨by decide +kernel, rfl⟩
theorem e_W_found_15 : xa_d xP 53 15 (.astore_n 3) 1 16 := ⟨by decide +kernel, rfl⟩
theorem e_W_found_16 : xa_d xP 53 16 (.iconst 2) 1 17 := ⟨by decide +kernel, rfl⟩
theorem e_W_found_17 : xa_d xP 53 17 (.ireturn) 1 18 := ⟨by decide +kernel, rfl⟩
theorem e_W_found_18 : xa_d xP 53 18 (.iconst 0) 1 19 := ⟨by decide +kernel, rfl⟩
theorem e_W_found_19 : xa_d xP 53 19 (.ireturn) 1 20 := ⟨by decide +kernel, rfl⟩
theorem e_CG_found_0 : xa_d xP 54 0 (.aload_n 0) 1 1 := ⟨by decide +kernel, rfl⟩
theorem e_CG_found_1 : xa_d xP 54 1 (.iload_n 1) 1 2 := ⟨by decide +kernel, rfl⟩
theorem e_CG_found_2 : xa_d xP 54 2 (.invokevirtual 120) 3 5 := ⟨by decide +kernel, rfl⟩
theorem e_CG_found_5 : xa_d xP 54 5 (.aload_n 0) 1 6 := ⟨by decide +kernel, rfl⟩
theorem e_CG_found_6 : xa_d xP 54 6 (.getfield 19) 3 9 := ⟨by decide +kernel, rfl⟩
theorem e_CG_found_9 : xa_d xP 54 9 (.getfield 130) 3 12 := ⟨by decide +kernel, rfl⟩
theorem e_CG_found_12 : xa_d xP 54 12 (.iload_n 1) 1 13 := ⟨by decide +kernel, rfl⟩
theorem e_CG_found_13 : xa_d xP 54 13 (.iaload) 1 14 := ⟨by decide +kernel, rfl⟩
theorem e_CG_found_14 : xa_d xP 54 14 (.ireturn) 1 15 := ⟨by decide +kernel, rfl⟩
theorem e_W_excited_0 : xa_d xP 55 0 (.aload_n 2) 1 1 := ⟨by decide +kernel, rfl⟩
theorem e_W_excited_1 : xa_d xP 55 1 (.iconst 0) 1 2 := ⟨by decide +kernel, rfl⟩
theorem e_W_excited_2 : xa_d xP 55 2 (.aload_n 0) 1 3 := ⟨by decide +kernel, rfl⟩
theorem e_W_excited_3 : xa_d xP 55 3 (.iload_n 1) 1 4 := ⟨by decide +kernel, rfl⟩
theorem e_W_excited_4 : xa_d xP 55 4 (.invokevirtual 45) 3 7 := ⟨by decide +kernel, rfl⟩
theorem e_W_excited_7 : xa_d xP 55 7 (.i2l) 1 8 := ⟨by decide +kernel, rfl⟩
theorem e_W_excited_8 : xa_d xP 55 8 (.lastore) 1 9 := ⟨by decide +kernel, rfl⟩
theorem e_W_excited_9 : xa_db xP 55 9 (.goto 9) 3 12 9 18 := ⟨⟨by decide +kernel, rfl⟩, rfl⟩
theorem e_W_excited_12 : xa_d xP 55 12 (.astore_n 3) 1 13 := ⟨by decide +kernel, rfl⟩
theorem e_W_excited_13 : xa_d xP 55 13 (.iconst 1) 1 14 := ⟨by decide +kernel, rfl⟩
theorem e_W_excited_14 : xa_d xP 55 14 (.ireturn) 1 15 := ⟨by decide +kernel, rfl⟩
theorem e_W_excited_15 : xa_d xP 55 15 (.astore_n 3) 1 16 := ⟨by decide +kernel, rfl⟩
theorem e_W_excited_16 : xa_d xP 55 16 (.iconst 2) 1 17 := ⟨by decide +kernel, rfl⟩
theorem e_W_excited_17 : xa_d xP 55 17 (.ireturn) 1 18 := ⟨by decide +kernel, rfl⟩
theorem e_W_excited_18 : xa_d xP 55 18 (.iconst 0) 1 19 := ⟨by decide +kernel, rfl⟩
theorem e_W_excited_19 : xa_d xP 55 19 (.ireturn) 1 20 := ⟨by decide +kernel, rfl⟩
theorem e_CG_excited_0 : xa_d xP 56 0 (.aload_n 0) 1 1 := ⟨by decide +kernel, rfl⟩
theorem e_CG_excited_1 : xa_d xP 56 1 (.iload_n 1) 1 2 := ⟨by decide +kernel, rfl⟩
theorem e_CG_excited_2 : xa_d xP 56 2 (.invokevirtual 120) 3 5 := ⟨by decide +kernel, rfl⟩
theorem e_CG_excited_5 : xa_d xP 56 5 (.aload_n 0) 1 6 := ⟨by decide +kernel, rfl⟩
theorem e_CG_excited_6 : xa_d xP 56 6 (.getfield 19) 3 9 := ⟨by decide +kernel, rfl⟩
theorem e_CG_excited_9 : xa_d xP 56 9 (.getfield 133) 3 12 := ⟨by decide +kernel, rfl⟩
theorem e_CG_excited_12 : xa_d xP 56 12 (.iload_n 1) 1 13 := ⟨by decide +kernel, rfl⟩
theorem e_CG_excited_13 : xa_d xP 56 13 (.iaload) 1 14 := ⟨by decide +kernel, rfl⟩
theorem e_CG_excited_14 : xa_d xP 56 14 (.ireturn) 1 15 := ⟨by decide +kernel, rfl⟩
theorem e_W_synthesise_0 : xa_d xP 57 0 (.aload_n 1) 1 1 := ⟨by decide +kernel, rfl⟩
theorem e_W_synthesise_1 : xa_d xP 57 1 (.iconst 0) 1 2 := ⟨by decide +kernel, rfl⟩
theorem e_W_synthesise_2 : xa_d xP 57 2 (.aload_n 0) 1 3 := ⟨by decide +kernel, rfl⟩
theorem e_W_synthesise_3 : xa_d xP 57 3 (.invokevirtual 48) 3 6 := ⟨by decide +kernel, rfl⟩
theorem e_W_synthesise_6 : xa_d xP 57 6 (.i2l) 1 7 := ⟨by decide +kernel, rfl⟩
theorem e_W_synthesise_7 : xa_d xP 57 7 (.lastore) 1 8 := ⟨by decide +kernel, rfl⟩
theorem e_W_synthesise_8 : xa_db xP 57 8 (.goto 9) 3 11 9 17 := ⟨⟨by decide +kernel, rfl⟩, rfl⟩
theorem e_W_synthesise_11 : xa_d xP 57 11 (.astore_n 2) 1 12 := ⟨by decide +kernel, rfl⟩
theorem e_W_synthesise_12 : xa_d xP 57 12 (.iconst 1) 1 13 := ⟨by decide +kernel, rfl⟩
theorem e_W_synthesise_13 : xa_d xP 57 13 (.ireturn) 1 14 := ⟨by decide +kernel, rfl⟩
theorem e_W_synthesise_14 : xa_d xP 57 14 (.astore_n 2) 1 15 := ⟨by decide +kernel, rfl⟩
theorem e_W_synthesise_15 : xa_d xP 57 15 (.iconst 2) 1 16 := ⟨by decide +kernel, rfl⟩
theorem e_W_synthesise_16 : xa_d xP 57 16 (.ireturn) 1 17 := ⟨by decide +kernel, rfl⟩
theorem e_W_synthesise_17 : xa_d xP 57 17 (.iconst 0) 1 18 := ⟨by decide +kernel, rfl⟩
theorem e_W_synthesise_18 : xa_d xP 57 18 (.ireturn) 1 19 := ⟨by decide +kernel, rfl⟩
theorem e_CG_synthesise_0 : xa_d xP 58 0 (.aload_n 0) 1 1 := ⟨by decide +kernel, rfl⟩
theorem e_CG_synthesise_1 : xa_d xP 58 1 (.invokevirtual 136) 3 4 := ⟨by decide +kernel, rfl⟩
theorem e_CG_synthesise_4 : xa_d xP 58 4 (.iconst 0) 1 5 := ⟨by decide +kernel, rfl⟩
theorem e_CG_synthesise_5 : xa_d xP 58 5 (.istore_n 1) 1 6 := ⟨by decide +kernel, rfl⟩
theorem e_CG_synthesise_6 : xa_d xP 58 6 (.iconst 0) 1 7 := ⟨by decide +kernel, rfl⟩
theorem e_CG_synthesise_7 : xa_d xP 58 7 (.istore_n 2) 1 8 := ⟨by decide +kernel, rfl⟩
theorem e_CG_synthesise_8 : xa_d xP 58 8 (.iload_n 2) 1 9 := ⟨by decide +kernel, rfl⟩
theorem e_CG_synthesise_9 : xa_d xP 58 9 (.aload_n 0) 1 10 := ⟨by decide +kernel, rfl⟩
theorem e_CG_synthesise_10 : xa_d xP 58 10 (.getfield 10) 3 13 := ⟨by decide +kernel, rfl⟩
theorem e_CG_synthesise_13 : xa_d xP 58 13 (.getfield 44) 3 16 := ⟨by decide +kernel, rfl⟩
theorem e_CG_synthesise_16 : xa_db xP 58 16 (.if_icmp .ge 42) 3 19 42 58 := ⟨⟨by decide +kernel, rfl⟩, rfl⟩
theorem e_CG_synthesise_19 : xa_d xP 58 19 (.aload_n 0) 1 20 := ⟨by decide +kernel, rfl⟩
theorem e_CG_synthesise_20 : xa_d xP 58 20 (.iload_n 2) 1 21 := ⟨by decide +kernel, rfl⟩
theorem e_CG_synthesise_21 : xa_d xP 58 21 (.invokevirtual 139) 3 24 := ⟨by decide +kernel, rfl⟩
theorem e_CG_synthesise_24 : xa_db xP 58 24 (.ifCond .ne 13) 3 27 13 37 := ⟨⟨by decide +kernel, rfl⟩, rfl⟩
theorem e_CG_synthesise_27 : xa_d xP 58 27 (.new 143) 3 30 := ⟨by decide +kernel, rfl⟩
theorem e_CG_synthesise_30 : xa_d xP 58 30 (.dup) 1 31 := ⟨by decide +kernel, rfl⟩
theorem e_CG_synthesise_31 : xa_d xP 58 31 (.ldc 145) 2 33 := ⟨by decide +kernel, rfl⟩
theorem e_CG_synthesise_33 : xa_d xP 58 33 (.invokespecial 147) 3 36 := ⟨by decide +kernel, rfl⟩
theorem e_CG_synthesise_36 : xa_d xP 58 36 (.athrow) 1 37 := ⟨by decide +kernel, rfl⟩
theorem e_CG_synthesise_37 : xa_d xP 58 37 (.iload_n 1) 1 38 := ⟨by decide +kernel, rfl⟩
theorem e_CG_synthesise_38 : xa_d xP 58 38 (.aload_n 0) 1 39 := ⟨by decide +kernel, rfl⟩
theorem e_CG_synthesise_39 : xa_d xP 58 39 (.getfield 26) 3 42 := ⟨by decide +kernel, rfl⟩
theorem e_CG_synthesise_42 : xa_d xP 58 42 (.getfield 148) 3 45 := ⟨by decide +kernel, rfl⟩
theorem e_CG_synthesise_45 : xa_d xP 58 45 (.iload_n 2) 1 46 := ⟨by decide +kernel, rfl⟩
theorem e_CG_synthesise_46 : xa_d xP 58 46 (.aaload) 1 47 := ⟨by decide +kernel, rfl⟩
theorem e_CG_synthesise_47 : xa_d xP 58 47 (.getfield 152) 3 50 := ⟨by decide +kernel, rfl⟩
theorem e_CG_synthesise_50 : xa_d xP 58 50 (.iadd) 1 51 := ⟨by decide +kernel, rfl⟩
theorem e_CG_synthesise_51 : xa_d xP 58 51 (.istore_n 1) 1 52 := ⟨by decide +kernel, rfl⟩
theorem e_CG_synthesise_52 : xa_d xP 58 52 (.iinc 2 1) 3 55 := ⟨by decide +kernel, rfl⟩
theorem e_CG_synthesise_55 : xa_db xP 58 55 (.goto (-47)) 3 58 (-47) 8 := ⟨⟨by decide +kernel, rfl⟩, rfl⟩
theorem e_CG_synthesise_58 : xa_d xP 58 58 (.aload_n 0) 1 59 := ⟨by decide +kernel, rfl⟩
theorem e_CG_synthesise_59 : xa_d xP 58 59 (.getfield 26) 3 62 := ⟨by decide +kernel, rfl⟩
theorem e_CG_synthesise_62 : xa_d xP 58 62 (.invokevirtual 155) 3 65 := ⟨by decide +kernel, rfl⟩
theorem e_CG_synthesise_65 : xa_d xP 58 65 (.iload_n 1) 1 66 := ⟨by decide +kernel, rfl⟩
theorem e_CG_synthesise_66 : xa_d xP 58 66 (.ireturn) 1 67 := ⟨by decide +kernel, rfl⟩
theorem e_CG_requireFine_0 : xa_d xP 59 0 (.aload_n 0) 1 1 := ⟨by decide +kernel, rfl⟩
theorem e_CG_requireFine_1 : xa_d xP 59 1 (.getfield 37) 3 4 := ⟨by decide +kernel, rfl⟩
theorem e_CG_requireFine_4 : xa_db xP 59 4 (.ifCond .eq 13) 3 7 13 17 := ⟨⟨by decide +kernel, rfl⟩, rfl⟩
theorem e_CG_requireFine_7 : xa_d xP 59 7 (.new 47) 3 10 := ⟨by decide +kernel, rfl⟩
theorem e_CG_requireFine_10 : xa_d xP 59 10 (.dup) 1 11 := ⟨by decide +kernel, rfl⟩
theorem e_CG_requireFine_11 : xa_d xP 59 11 (.ldc 217) 2 13 := ⟨by decide +kernel, rfl⟩
theorem e_CG_requireFine_13 : xa_d xP 59 13 (.invokespecial 51) 3 16 := ⟨by decide +kernel, rfl⟩
theorem e_CG_requireFine_16 : xa_d xP 59 16 (.athrow) 1 17 := ⟨by decide +kernel, rfl⟩
theorem e_CG_requireFine_17 : xa_d xP 59 17 (.return_) 1 18 := ⟨by decide +kernel, rfl⟩
theorem e_CG_makeDraft_0 : xa_d xP 60 0 (.aload_n 0) 1 1 := ⟨by decide +kernel, rfl⟩
theorem e_CG_makeDraft_1 : xa_d xP 60 1 (.getfield 26) 3 4 := ⟨by decide +kernel, rfl⟩
theorem e_CG_makeDraft_4 : xa_d xP 60 4 (.getfield 148) 3 7 := ⟨by decide +kernel, rfl⟩
theorem e_CG_makeDraft_7 : xa_d xP 60 7 (.iload_n 1) 1 8 := ⟨by decide +kernel, rfl⟩
theorem e_CG_makeDraft_8 : xa_d xP 60 8 (.aaload) 1 9 := ⟨by decide +kernel, rfl⟩
theorem e_CG_makeDraft_9 : xa_d xP 60 9 (.invokevirtual 186) 3 12 := ⟨by decide +kernel, rfl⟩
theorem e_CG_makeDraft_12 : xa_d xP 60 12 (.aload_n 0) 1 13 := ⟨by decide +kernel, rfl⟩
theorem e_CG_makeDraft_13 : xa_d xP 60 13 (.getfield 10) 3 16 := ⟨by decide +kernel, rfl⟩
theorem e_CG_makeDraft_16 : xa_d xP 60 16 (.iload_n 1) 1 17 := ⟨by decide +kernel, rfl⟩
theorem e_CG_makeDraft_17 : xa_d xP 60 17 (.invokevirtual 166) 3 20 := ⟨by decide +kernel, rfl⟩
theorem e_CG_makeDraft_20 : xa_db xP 60 20 (.ifCond .eq 5) 3 23 5 25 := ⟨⟨by decide +kernel, rfl⟩, rfl⟩
theorem e_CG_makeDraft_23 : xa_d xP 60 23 (.iconst 1) 1 24 := ⟨by decide +kernel, rfl⟩
theorem e_CG_makeDraft_24 : xa_d xP 60 24 (.ireturn) 1 25 := ⟨by decide +kernel, rfl⟩
theorem e_CG_makeDraft_25 : xa_d xP 60 25 (.aload_n 0) 1 26 := ⟨by decide +kernel, rfl⟩
theorem e_CG_makeDraft_26 : xa_d xP 60 26 (.getfield 19) 3 29 := ⟨by decide +kernel, rfl⟩
theorem e_CG_makeDraft_29 : xa_d xP 60 29 (.iload_n 1) 1 30 := ⟨by decide +kernel, rfl⟩
theorem e_CG_makeDraft_30 : xa_d xP 60 30 (.iconst 1) 1 31 := ⟨by decide +kernel, rfl⟩
theorem e_CG_makeDraft_31 : xa_d xP 60 31 (.invokevirtual 199) 3 34 := ⟨by decide +kernel, rfl⟩
theorem e_CG_makeDraft_34 : xa_d xP 60 34 (.istore_n 2) 1 35 := ⟨by decide +kernel, rfl⟩
theorem e_CG_makeDraft_35 : xa_d xP 60 35 (.aload_n 0) 1 36 := ⟨by decide +kernel, rfl⟩
theorem e_CG_makeDraft_36 : xa_d xP 60 36 (.getfield 19) 3 39 := ⟨by decide +kernel, rfl⟩
theorem e_CG_makeDraft_39 : xa_d xP 60 39 (.iload_n 1) 1 40 := ⟨by decide +kernel, rfl⟩
theorem e_CG_makeDraft_40 : xa_d xP 60 40 (.iconst 0) 1 41 := ⟨by decide +kernel, rfl⟩
theorem e_CG_makeDraft_41 : xa_d xP 60 41 (.invokevirtual 199) 3 44 := ⟨by decide +kernel, rfl⟩
theorem e_CG_makeDraft_44 : xa_d xP 60 44 (.istore_n 3) 1 45 := ⟨by decide +kernel, rfl⟩
theorem e_CG_makeDraft_45 : xa_d xP 60 45 (.aload_n 0) 1 46 := ⟨by decide +kernel, rfl⟩
theorem e_CG_makeDraft_46 : xa_d xP 60 46 (.getfield 33) 3 49 := ⟨by decide +kernel, rfl⟩
theorem e_CG_makeDraft_49 : xa_d xP 60 49 (.iload_n 2) 1 50 := ⟨by decide +kernel, rfl⟩
theorem e_CG_makeDraft_50 : xa_d xP 60 50 (.iload_n 3) 1 51 := ⟨by decide +kernel, rfl⟩
theorem e_CG_makeDraft_51 : xa_d xP 60 51 (.aload_n 0) 1 52 := ⟨by decide +kernel, rfl⟩
theorem e_CG_makeDraft_52 : xa_d xP 60 52 (.getfield 10) 3 55 := ⟨by decide +kernel, rfl⟩
theorem e_CG_makeDraft_55 : xa_d xP 60 55 (.getfield 44) 3 58 := ⟨by decide +kernel, rfl⟩
theorem e_CG_makeDraft_58 : xa_d xP 60 58 (.invokevirtual 202) 3 61 := ⟨by decide +kernel, rfl⟩
theorem e_CG_makeDraft_61 : xa_db xP 60 61 (.ifCond .ne 5) 3 64 5 66 := ⟨⟨by decide +kernel, rfl⟩, rfl⟩
theorem e_CG_makeDraft_64 : xa_d xP 60 64 (.iconst 0) 1 65 := ⟨by decide +kernel, rfl⟩
theorem e_CG_makeDraft_65 : xa_d xP 60 65 (.ireturn) 1 66 := ⟨by decide +kernel, rfl⟩
theorem e_CG_makeDraft_66 : xa_d xP 60 66 (.aload_n 0) 1 67 := ⟨by decide +kernel, rfl⟩
theorem e_CG_makeDraft_67 : xa_d xP 60 67 (.getfield 33) 3 70 := ⟨by decide +kernel, rfl⟩
theorem e_CG_makeDraft_70 : xa_d xP 60 70 (.aload_n 0) 1 71 := ⟨by decide +kernel, rfl⟩
theorem e_CG_makeDraft_71 : xa_d xP 60 71 (.getfield 26) 3 74 := ⟨by decide +kernel, rfl⟩
theorem e_CG_makeDraft_74 : xa_d xP 60 74 (.getfield 148) 3 77 := ⟨by decide +kernel, rfl⟩
theorem e_CG_makeDraft_77 : xa_d xP 60 77 (.iload_n 1) 1 78 := ⟨by decide +kernel, rfl⟩
theorem e_CG_makeDraft_78 : xa_d xP 60 78 (.aaload) 1 79 := ⟨by decide +kernel, rfl⟩
theorem e_CG_makeDraft_79 : xa_d xP 60 79 (.invokevirtual 206) 3 82 := ⟨by decide +kernel, rfl⟩
theorem e_CG_makeDraft_82 : xa_d xP 60 82 (.iconst 1) 1 83 := ⟨by decide +kernel, rfl⟩
theorem e_CG_makeDraft_83 : xa_d xP 60 83 (.ireturn) 1 84 := ⟨by decide +kernel, rfl⟩
theorem e_G_codesWithNext_0 : xa_d xP 61 0 (.iconst 0) 1 1 := ⟨by decide +kernel, rfl⟩
theorem e_G_codesWithNext_1 : xa_d xP 61 1 (.istore_n 3) 1 2 := ⟨by decide +kernel, rfl⟩
theorem e_G_codesWithNext_2 : xa_d xP 61 2 (.iconst 0) 1 3 := ⟨by decide +kernel, rfl⟩
theorem e_G_codesWithNext_3 : xa_d xP 61 3 (.istore 4) 2 5 := ⟨by decide +kernel, rfl⟩
theorem e_G_codesWithNext_5 : xa_d xP 61 5 (.iload 4) 2 7 := ⟨by decide +kernel, rfl⟩
theorem e_G_codesWithNext_7 : xa_d xP 61 7 (.aload_n 0) 1 8 := ⟨by decide +kernel, rfl⟩
theorem e_G_codesWithNext_8 : xa_d xP 61 8 (.getfield 41) 3 11 := ⟨by decide +kernel, rfl⟩
theorem e_G_codesWithNext_11 : xa_db xP 61 11 (.if_icmp .ge 65) 3 14 65 76 := ⟨⟨by decide +kernel, rfl⟩, rfl⟩
theorem e_G_codesWithNext_14 : xa_d xP 61 14 (.aload_n 0) 1 15 := ⟨by decide +kernel, rfl⟩
theorem e_G_codesWithNext_15 : xa_d xP 61 15 (.getfield 15) 3 18 := ⟨by decide +kernel, rfl⟩
theorem e_G_codesWithNext_18 : xa_d xP 61 18 (.iload 4) 2 20 := ⟨by decide +kernel, rfl⟩
theorem e_G_codesWithNext_20 : xa_d xP 61 20 (.iaload) 1 21 := ⟨by decide +kernel, rfl⟩
theorem e_G_codesWithNext_21 : xa_d xP 61 21 (.iload_n 1) 1 22 := ⟨by decide +kernel, rfl⟩
theorem e_G_codesWithNext_22 : xa_d xP 61 22 (.ishr) 1 23 := ⟨by decide +kernel, rfl⟩
theorem e_G_codesWithNext_23 : xa_d xP 61 23 (.iconst 1) 1 24 := ⟨by decide +kernel, rfl⟩
theorem e_G_codesWithNext_24 : xa_d xP 61 24 (.iand) 1 25 := ⟨by decide +kernel, rfl⟩
theorem e_G_codesWithNext_25 : xa_d xP 61 25 (.istore 5) 2 27 := ⟨by decide +kernel, rfl⟩
theorem e_G_codesWithNext_27 : xa_d xP 61 27 (.aload_n 0) 1 28 := ⟨by decide +kernel, rfl⟩
theorem e_G_codesWithNext_28 : xa_d xP 61 28 (.iload_n 1) 1 29 := ⟨by decide +kernel, rfl⟩
theorem e_G_codesWithNext_29 : xa_d xP 61 29 (.iload 4) 2 31 := ⟨by decide +kernel, rfl⟩
theorem e_G_codesWithNext_31 : xa_d xP 61 31 (.invokevirtual 120) 3 34 := ⟨by decide +kernel, rfl⟩
theorem e_G_codesWithNext_34 : xa_db xP 61 34 (.ifCond .eq 10) 3 37 10 44 := ⟨⟨by decide +kernel, rfl⟩, rfl⟩
theorem e_G_codesWithNext_37 : xa_d xP 61 37 (.iconst 1) 1 38 := ⟨by decide +kernel, rfl⟩
end
section
/-! Decode rows (printed by wip/whole/gen_prog.py). -/
theorem e_G_codesWithNext_38 : xa_d xP 61 38 (.iload 5) 2 40 := ⟨by decide +kernel, rfl⟩
theorem e_G_codesWithNext_40 : xa_d xP 61 40 (.isub) 1 41 := ⟨by decide +kernel, rfl⟩
theorem e_G_codesWithNext_41 : xa_db xP 61 41 (.goto 5) 3 44 5 46 := ⟨⟨by decide +kernel, rfl⟩, rfl⟩
theorem e_G_codesWithNext_44 : xa_d xP 61 44 (.iload 5) 2 46 := ⟨by decide +kernel, rfl⟩
theorem e_G_codesWithNext_46 : xa_d xP 61 46 (.istore 6) 2 48 := ⟨by decide +kernel, rfl⟩
theorem e_G_codesWithNext_48 : xa_d xP 61 48 (.iload_n 3) 1 49 := ⟨by decide +kernel, rfl⟩
theorem e_G_codesWithNext_49 : xa_d xP 61 49 (.iload 6) 2 51 := ⟨by decide +kernel, rfl⟩
theorem e_G_codesWithNext_51 : xa_d xP 61 51 (.iload_n 2) 1 52 := ⟨by decide +kernel, rfl⟩
theorem e_G_codesWithNext_52 : xa_db xP 61 52 (.if_icmp .ne 15) 3 55 15 67 := ⟨⟨by decide +kernel, rfl⟩, rfl⟩
theorem e_G_codesWithNext_55 : xa_d xP 61 55 (.iconst 1) 1 56 := ⟨by decide +kernel, rfl⟩
theorem e_G_codesWithNext_56 : xa_d xP 61 56 (.aload_n 0) 1 57 := ⟨by decide +kernel, rfl⟩
theorem e_G_codesWithNext_57 : xa_d xP 61 57 (.getfield 15) 3 60 := ⟨by decide +kernel, rfl⟩
theorem e_G_codesWithNext_60 : xa_d xP 61 60 (.iload 4) 2 62 := ⟨by decide +kernel, rfl⟩
theorem e_G_codesWithNext_62 : xa_d xP 61 62 (.iaload) 1 63 := ⟨by decide +kernel, rfl⟩
theorem e_G_codesWithNext_63 : xa_d xP 61 63 (.ishl) 1 64 := ⟨by decide +kernel, rfl⟩
theorem e_G_codesWithNext_64 : xa_db xP 61 64 (.goto 4) 3 67 4 68 := ⟨⟨by decide +kernel, rfl⟩, rfl⟩
theorem e_G_codesWithNext_67 : xa_d xP 61 67 (.iconst 0) 1 68 := ⟨by decide +kernel, rfl⟩
theorem e_G_codesWithNext_68 : xa_d xP 61 68 (.ior) 1 69 := ⟨by decide +kernel, rfl⟩
theorem e_G_codesWithNext_69 : xa_d xP 61 69 (.istore_n 3) 1 70 := ⟨by decide +kernel, rfl⟩
theorem e_G_codesWithNext_70 : xa_d xP 61 70 (.iinc 4 1) 3 73 := ⟨by decide +kernel, rfl⟩
theorem e_G_codesWithNext_73 : xa_db xP 61 73 (.goto (-68)) 3 76 (-68) 5 := ⟨⟨by decide +kernel, rfl⟩, rfl⟩
theorem e_G_codesWithNext_76 : xa_d xP 61 76 (.iload_n 3) 1 77 := ⟨by decide +kernel, rfl⟩
theorem e_G_codesWithNext_77 : xa_d xP 61 77 (.ireturn) 1 78 := ⟨by decide +kernel, rfl⟩
theorem e_G_isExcited_0 : xa_d xP 62 0 (.aload_n 0) 1 1 := ⟨by decide +kernel, rfl⟩
theorem e_G_isExcited_1 : xa_d xP 62 1 (.getfield 21) 3 4 := ⟨by decide +kernel, rfl⟩
theorem e_G_isExcited_4 : xa_d xP 62 4 (.iload_n 2) 1 5 := ⟨by decide +kernel, rfl⟩
theorem e_G_isExcited_5 : xa_d xP 62 5 (.iaload) 1 6 := ⟨by decide +kernel, rfl⟩
theorem e_G_isExcited_6 : xa_d xP 62 6 (.iload_n 1) 1 7 := ⟨by decide +kernel, rfl⟩
theorem e_G_isExcited_7 : xa_d xP 62 7 (.ishr) 1 8 := ⟨by decide +kernel, rfl⟩
theorem e_G_isExcited_8 : xa_d xP 62 8 (.iconst 1) 1 9 := ⟨by decide +kernel, rfl⟩
theorem e_G_isExcited_9 : xa_d xP 62 9 (.iand) 1 10 := ⟨by decide +kernel, rfl⟩
theorem e_G_isExcited_10 : xa_d xP 62 10 (.iconst 1) 1 11 := ⟨by decide +kernel, rfl⟩
theorem e_G_isExcited_11 : xa_db xP 62 11 (.if_icmp .ne 7) 3 14 7 18 := ⟨⟨by decide +kernel, rfl⟩, rfl⟩
theorem e_G_isExcited_14 : xa_d xP 62 14 (.iconst 1) 1 15 := ⟨by decide +kernel, rfl⟩
theorem e_G_isExcited_15 : xa_db xP 62 15 (.goto 4) 3 18 4 19 := ⟨⟨by decide +kernel, rfl⟩, rfl⟩
theorem e_G_isExcited_18 : xa_d xP 62 18 (.iconst 0) 1 19 := ⟨by decide +kernel, rfl⟩
theorem e_G_isExcited_19 : xa_d xP 62 19 (.ireturn) 1 20 := ⟨by decide +kernel, rfl⟩
theorem e_L_find_0 : xa_d xP 63 0 (.aload_n 0) 1 1 := ⟨by decide +kernel, rfl⟩
theorem e_L_find_1 : xa_d xP 63 1 (.iload_n 1) 1 2 := ⟨by decide +kernel, rfl⟩
theorem e_L_find_2 : xa_d xP 63 2 (.iload_n 2) 1 3 := ⟨by decide +kernel, rfl⟩
theorem e_L_find_3 : xa_d xP 63 3 (.iload_n 3) 1 4 := ⟨by decide +kernel, rfl⟩
theorem e_L_find_4 : xa_d xP 63 4 (.invokevirtual 44) 3 7 := ⟨by decide +kernel, rfl⟩
theorem e_L_find_7 : xa_d xP 63 7 (.aload_n 0) 1 8 := ⟨by decide +kernel, rfl⟩
theorem e_L_find_8 : xa_d xP 63 8 (.invokevirtual 48) 3 11 := ⟨by decide +kernel, rfl⟩
theorem e_L_find_11 : xa_d xP 63 11 (.aload_n 0) 1 12 := ⟨by decide +kernel, rfl⟩
theorem e_L_find_12 : xa_d xP 63 12 (.sipush 900) 3 15 := ⟨by decide +kernel, rfl⟩
theorem e_L_find_15 : xa_d xP 63 15 (.putfield 51) 3 18 := ⟨by decide +kernel, rfl⟩
theorem e_L_find_18 : xa_d xP 63 18 (.aload_n 0) 1 19 := ⟨by decide +kernel, rfl⟩
theorem e_L_find_19 : xa_d xP 63 19 (.iconst 0) 1 20 := ⟨by decide +kernel, rfl⟩
theorem e_L_find_20 : xa_d xP 63 20 (.iload_n 1) 1 21 := ⟨by decide +kernel, rfl⟩
theorem e_L_find_21 : xa_d xP 63 21 (.iconst 0) 1 22 := ⟨by decide +kernel, rfl⟩
theorem e_L_find_22 : xa_d xP 63 22 (.invokestatic 55) 3 25 := ⟨by decide +kernel, rfl⟩
theorem e_L_find_25 : xa_d xP 63 25 (.aload_n 0) 1 26 := ⟨by decide +kernel, rfl⟩
theorem e_L_find_26 : xa_d xP 63 26 (.getfield 51) 3 29 := ⟨by decide +kernel, rfl⟩
theorem e_L_find_29 : xa_d xP 63 29 (.sipush 900) 3 32 := ⟨by decide +kernel, rfl⟩
theorem e_L_find_32 : xa_db xP 63 32 (.if_icmp .ge 7) 3 35 7 39 := ⟨⟨by decide +kernel, rfl⟩, rfl⟩
theorem e_L_find_35 : xa_d xP 63 35 (.iconst 1) 1 36 := ⟨by decide +kernel, rfl⟩
theorem e_L_find_36 : xa_db xP 63 36 (.goto 4) 3 39 4 40 := ⟨⟨by decide +kernel, rfl⟩, rfl⟩
theorem e_L_find_39 : xa_d xP 63 39 (.iconst 0) 1 40 := ⟨by decide +kernel, rfl⟩
theorem e_L_find_40 : xa_d xP 63 40 (.ireturn) 1 41 := ⟨by decide +kernel, rfl⟩
theorem e_L_collectPrimes_0 : xa_d xP 64 0 (.aload_n 0) 1 1 := ⟨by decide +kernel, rfl⟩
theorem e_L_collectPrimes_1 : xa_d xP 64 1 (.iconst 0) 1 2 := ⟨by decide +kernel, rfl⟩
theorem e_L_collectPrimes_2 : xa_d xP 64 2 (.putfield 59) 3 5 := ⟨by decide +kernel, rfl⟩
theorem e_L_collectPrimes_5 : xa_d xP 64 5 (.aload_n 0) 1 6 := ⟨by decide +kernel, rfl⟩
theorem e_L_collectPrimes_6 : xa_d xP 64 6 (.iconst 1) 1 7 := ⟨by decide +kernel, rfl⟩
theorem e_L_collectPrimes_7 : xa_d xP 64 7 (.putfield 68) 3 10 := ⟨by decide +kernel, rfl⟩
theorem e_L_collectPrimes_10 : xa_d xP 64 10 (.iconst 0) 1 11 := ⟨by decide +kernel, rfl⟩
theorem e_L_collectPrimes_11 : xa_d xP 64 11 (.istore 4) 2 13 := ⟨by decide +kernel, rfl⟩
theorem e_L_collectPrimes_13 : xa_d xP 64 13 (.iload 4) 2 15 := ⟨by decide +kernel, rfl⟩
theorem e_L_collectPrimes_15 : xa_d xP 64 15 (.getstatic 41) 3 18 := ⟨by decide +kernel, rfl⟩
theorem e_L_collectPrimes_18 : xa_d xP 64 18 (.iload_n 3) 1 19 := ⟨by decide +kernel, rfl⟩
theorem e_L_collectPrimes_19 : xa_d xP 64 19 (.iaload) 1 20 := ⟨by decide +kernel, rfl⟩
theorem e_L_collectPrimes_20 : xa_db xP 64 20 (.if_icmp .ge 122) 3 23 122 142 := ⟨⟨by decide +kernel, rfl⟩, rfl⟩
theorem e_L_collectPrimes_23 : xa_d xP 64 23 (.aload_n 0) 1 24 := ⟨by decide +kernel, rfl⟩
theorem e_L_collectPrimes_24 : xa_d xP 64 24 (.getfield 38) 3 27 := ⟨by decide +kernel, rfl⟩
theorem e_L_collectPrimes_27 : xa_d xP 64 27 (.iload 4) 2 29 := ⟨by decide +kernel, rfl⟩
theorem e_L_collectPrimes_29 : xa_d xP 64 29 (.iaload) 1 30 := ⟨by decide +kernel, rfl⟩
theorem e_L_collectPrimes_30 : xa_d xP 64 30 (.iload_n 1) 1 31 := ⟨by decide +kernel, rfl⟩
theorem e_L_collectPrimes_31 : xa_d xP 64 31 (.iand) 1 32 := ⟨by decide +kernel, rfl⟩
theorem e_L_collectPrimes_32 : xa_d xP 64 32 (.istore 5) 2 34 := ⟨by decide +kernel, rfl⟩
theorem e_L_collectPrimes_34 : xa_d xP 64 34 (.iload 5) 2 36 := ⟨by decide +kernel, rfl⟩
theorem e_L_collectPrimes_36 : xa_db xP 64 36 (.ifCond .eq 100) 3 39 100 136 := ⟨⟨by decide +kernel, rfl⟩, rfl⟩
theorem e_L_collectPrimes_39 : xa_d xP 64 39 (.aload_n 0) 1 40 := ⟨by decide +kernel, rfl⟩
theorem e_L_collectPrimes_40 : xa_d xP 64 40 (.iload 4) 2 42 := ⟨by decide +kernel, rfl⟩
theorem e_L_collectPrimes_42 : xa_d xP 64 42 (.iload_n 2) 1 43 := ⟨by decide +kernel, rfl⟩
theorem e_L_collectPrimes_43 : xa_d xP 64 43 (.iload_n 3) 1 44 := ⟨by decide +kernel, rfl⟩
theorem e_L_collectPrimes_44 : xa_d xP 64 44 (.invokevirtual 71) 3 47 := ⟨by decide +kernel, rfl⟩
theorem e_L_collectPrimes_47 : xa_db xP 64 47 (.ifCond .eq 89) 3 50 89 136 := ⟨⟨by decide +kernel, rfl⟩, rfl⟩
theorem e_L_collectPrimes_50 : xa_d xP 64 50 (.aload_n 0) 1 51 := ⟨by decide +kernel, rfl⟩
theorem e_L_collectPrimes_51 : xa_d xP 64 51 (.getfield 9) 3 54 := ⟨by decide +kernel, rfl⟩
theorem e_L_collectPrimes_54 : xa_d xP 64 54 (.aload_n 0) 1 55 := ⟨by decide +kernel, rfl⟩
theorem e_L_collectPrimes_55 : xa_d xP 64 55 (.getfield 59) 3 58 := ⟨by decide +kernel, rfl⟩
theorem e_L_collectPrimes_58 : xa_d xP 64 58 (.iload 4) 2 60 := ⟨by decide +kernel, rfl⟩
theorem e_L_collectPrimes_60 : xa_d xP 64 60 (.iastore) 1 61 := ⟨by decide +kernel, rfl⟩
theorem e_L_collectPrimes_61 : xa_d xP 64 61 (.aload_n 0) 1 62 := ⟨by decide +kernel, rfl⟩
theorem e_L_collectPrimes_62 : xa_d xP 64 62 (.getfield 15) 3 65 := ⟨by decide +kernel, rfl⟩
theorem e_L_collectPrimes_65 : xa_d xP 64 65 (.aload_n 0) 1 66 := ⟨by decide +kernel, rfl⟩
theorem e_L_collectPrimes_66 : xa_d xP 64 66 (.getfield 59) 3 69 := ⟨by decide +kernel, rfl⟩
theorem e_L_collectPrimes_69 : xa_d xP 64 69 (.iload 5) 2 71 := ⟨by decide +kernel, rfl⟩
theorem e_L_collectPrimes_71 : xa_d xP 64 71 (.iastore) 1 72 := ⟨by decide +kernel, rfl⟩
theorem e_L_collectPrimes_72 : xa_d xP 64 72 (.aload_n 0) 1 73 := ⟨by decide +kernel, rfl⟩
theorem e_L_collectPrimes_73 : xa_d xP 64 73 (.getfield 18) 3 76 := ⟨by decide +kernel, rfl⟩
theorem e_L_collectPrimes_76 : xa_d xP 64 76 (.aload_n 0) 1 77 := ⟨by decide +kernel, rfl⟩
theorem e_L_collectPrimes_77 : xa_d xP 64 77 (.getfield 59) 3 80 := ⟨by decide +kernel, rfl⟩
theorem e_L_collectPrimes_80 : xa_d xP 64 80 (.bipush 100) 2 82 := ⟨by decide +kernel, rfl⟩
theorem e_L_collectPrimes_82 : xa_d xP 64 82 (.iload 4) 2 84 := ⟨by decide +kernel, rfl⟩
theorem e_L_collectPrimes_84 : xa_d xP 64 84 (.iload_n 3) 1 85 := ⟨by decide +kernel, rfl⟩
theorem e_L_collectPrimes_85 : xa_d xP 64 85 (.invokestatic 75) 3 88 := ⟨by decide +kernel, rfl⟩
theorem e_L_collectPrimes_88 : xa_d xP 64 88 (.iadd) 1 89 := ⟨by decide +kernel, rfl⟩
theorem e_L_collectPrimes_89 : xa_d xP 64 89 (.iastore) 1 90 := ⟨by decide +kernel, rfl⟩
theorem e_L_collectPrimes_90 : xa_d xP 64 90 (.aload_n 0) 1 91 := ⟨by decide +kernel, rfl⟩
theorem e_L_collectPrimes_91 : xa_d xP 64 91 (.getfield 21) 3 94 := ⟨by decide +kernel, rfl⟩
theorem e_L_collectPrimes_94 : xa_d xP 64 94 (.aload_n 0) 1 95 := ⟨by decide +kernel, rfl⟩
theorem e_L_collectPrimes_95 : xa_d xP 64 95 (.getfield 59) 3 98 := ⟨by decide +kernel, rfl⟩
theorem e_L_collectPrimes_98 : xa_d xP 64 98 (.iconst 0) 1 99 := ⟨by decide +kernel, rfl⟩
theorem e_L_collectPrimes_99 : xa_d xP 64 99 (.iastore) 1 100 := ⟨by decide +kernel, rfl⟩
theorem e_L_collectPrimes_100 : xa_d xP 64 100 (.aload_n 0) 1 101 := ⟨by decide +kernel, rfl⟩
theorem e_L_collectPrimes_101 : xa_d xP 64 101 (.getfield 24) 3 104 := ⟨by decide +kernel, rfl⟩
theorem e_L_collectPrimes_104 : xa_d xP 64 104 (.aload_n 0) 1 105 := ⟨by decide +kernel, rfl⟩
theorem e_L_collectPrimes_105 : xa_d xP 64 105 (.getfield 59) 3 108 := ⟨by decide +kernel, rfl⟩
theorem e_L_collectPrimes_108 : xa_d xP 64 108 (.iconst 0) 1 109 := ⟨by decide +kernel, rfl⟩
theorem e_L_collectPrimes_109 : xa_d xP 64 109 (.bastore) 1 110 := ⟨by decide +kernel, rfl⟩
theorem e_L_collectPrimes_110 : xa_d xP 64 110 (.aload_n 0) 1 111 := ⟨by decide +kernel, rfl⟩
theorem e_L_collectPrimes_111 : xa_d xP 64 111 (.aload_n 0) 1 112 := ⟨by decide +kernel, rfl⟩
theorem e_L_collectPrimes_112 : xa_d xP 64 112 (.getfield 68) 3 115 := ⟨by decide +kernel, rfl⟩
theorem e_L_collectPrimes_115 : xa_d xP 64 115 (.iload 5) 2 117 := ⟨by decide +kernel, rfl⟩
theorem e_L_collectPrimes_117 : xa_d xP 64 117 (.invokestatic 78) 3 120 := ⟨by decide +kernel, rfl⟩
theorem e_L_collectPrimes_120 : xa_d xP 64 120 (.invokestatic 84) 3 123 := ⟨by decide +kernel, rfl⟩
theorem e_L_collectPrimes_123 : xa_d xP 64 123 (.putfield 68) 3 126 := ⟨by decide +kernel, rfl⟩
theorem e_L_collectPrimes_126 : xa_d xP 64 126 (.aload_n 0) 1 127 := ⟨by decide +kernel, rfl⟩
theorem e_L_collectPrimes_127 : xa_d xP 64 127 (.dup) 1 128 := ⟨by decide +kernel, rfl⟩
theorem e_L_collectPrimes_128 : xa_d xP 64 128 (.getfield 59) 3 131 := ⟨by decide +kernel, rfl⟩
theorem e_L_collectPrimes_131 : xa_d xP 64 131 (.iconst 1) 1 132 := ⟨by decide +kernel, rfl⟩
theorem e_L_collectPrimes_132 : xa_d xP 64 132 (.iadd) 1 133 := ⟨by decide +kernel, rfl⟩
theorem e_L_collectPrimes_133 : xa_d xP 64 133 (.putfield 59) 3 136 := ⟨by decide +kernel, rfl⟩
theorem e_L_collectPrimes_136 : xa_d xP 64 136 (.iinc 4 1) 3 139 := ⟨by decide +kernel, rfl⟩
theorem e_L_collectPrimes_139 : xa_db xP 64 139 (.goto (-126)) 3 142 (-126) 13 := ⟨⟨by decide +kernel, rfl⟩, rfl⟩
theorem e_L_collectPrimes_142 : xa_d xP 64 142 (.return_) 1 143 := ⟨by decide +kernel, rfl⟩
theorem e_L_isPrime_0 : xa_d xP 65 0 (.aload_n 0) 1 1 := ⟨by decide +kernel, rfl⟩
theorem e_L_isPrime_1 : xa_d xP 65 1 (.getfield 38) 3 4 := ⟨by decide +kernel, rfl⟩
theorem e_L_isPrime_4 : xa_d xP 65 4 (.iload_n 1) 1 5 := ⟨by decide +kernel, rfl⟩
theorem e_L_isPrime_5 : xa_d xP 65 5 (.iaload) 1 6 := ⟨by decide +kernel, rfl⟩
theorem e_L_isPrime_6 : xa_d xP 65 6 (.iload_n 2) 1 7 := ⟨by decide +kernel, rfl⟩
theorem e_L_isPrime_7 : xa_d xP 65 7 (.iand) 1 8 := ⟨by decide +kernel, rfl⟩
theorem e_L_isPrime_8 : xa_db xP 65 8 (.ifCond .eq 5) 3 11 5 13 := ⟨⟨by decide +kernel, rfl⟩, rfl⟩
theorem e_L_isPrime_11 : xa_d xP 65 11 (.iconst 0) 1 12 := ⟨by decide +kernel, rfl⟩
theorem e_L_isPrime_12 : xa_d xP 65 12 (.ireturn) 1 13 := ⟨by decide +kernel, rfl⟩
theorem e_L_isPrime_13 : xa_d xP 65 13 (.iconst 0) 1 14 := ⟨by decide +kernel, rfl⟩
theorem e_L_isPrime_14 : xa_d xP 65 14 (.istore 4) 2 16 := ⟨by decide +kernel, rfl⟩
theorem e_L_isPrime_16 : xa_d xP 65 16 (.iload 4) 2 18 := ⟨by decide +kernel, rfl⟩
theorem e_L_isPrime_18 : xa_d xP 65 18 (.iload_n 3) 1 19 := ⟨by decide +kernel, rfl⟩
theorem e_L_isPrime_19 : xa_db xP 65 19 (.if_icmp .ge 48) 3 22 48 67 := ⟨⟨by decide +kernel, rfl⟩, rfl⟩
theorem e_L_isPrime_22 : xa_d xP 65 22 (.iload_n 1) 1 23 := ⟨by decide +kernel, rfl⟩
theorem e_L_isPrime_23 : xa_d xP 65 23 (.iconst 2) 1 24 := ⟨by decide +kernel, rfl⟩
theorem e_L_isPrime_24 : xa_d xP 65 24 (.iload_n 1) 1 25 := ⟨by decide +kernel, rfl⟩
theorem e_L_isPrime_25 : xa_d xP 65 25 (.iload 4) 2 27 := ⟨by decide +kernel, rfl⟩
theorem e_L_isPrime_27 : xa_d xP 65 27 (.invokestatic 89) 3 30 := ⟨by decide +kernel, rfl⟩
theorem e_L_isPrime_30 : xa_d xP 65 30 (.isub) 1 31 := ⟨by decide +kernel, rfl⟩
theorem e_L_isPrime_31 : xa_d xP 65 31 (.getstatic 41) 3 34 := ⟨by decide +kernel, rfl⟩
theorem e_L_isPrime_34 : xa_d xP 65 34 (.iload 4) 2 36 := ⟨by decide +kernel, rfl⟩
theorem e_L_isPrime_36 : xa_d xP 65 36 (.iaload) 1 37 := ⟨by decide +kernel, rfl⟩
theorem e_L_isPrime_37 : xa_d xP 65 37 (.imul) 1 38 := ⟨by decide +kernel, rfl⟩
theorem e_L_isPrime_38 : xa_d xP 65 38 (.iadd) 1 39 := ⟨by decide +kernel, rfl⟩
theorem e_L_isPrime_39 : xa_d xP 65 39 (.istore 5) 2 41 := ⟨by decide +kernel, rfl⟩
theorem e_L_isPrime_41 : xa_d xP 65 41 (.iload 5) 2 43 := ⟨by decide +kernel, rfl⟩
theorem e_L_isPrime_43 : xa_d xP 65 43 (.iload_n 1) 1 44 := ⟨by decide +kernel, rfl⟩
theorem e_L_isPrime_44 : xa_db xP 65 44 (.if_icmp .eq 17) 3 47 17 61 := ⟨⟨by decide +kernel, rfl⟩, rfl⟩
theorem e_L_isPrime_47 : xa_d xP 65 47 (.aload_n 0) 1 48 := ⟨by decide +kernel, rfl⟩
theorem e_L_isPrime_48 : xa_d xP 65 48 (.getfield 38) 3 51 := ⟨by decide +kernel, rfl⟩
theorem e_L_isPrime_51 : xa_d xP 65 51 (.iload 5) 2 53 := ⟨by decide +kernel, rfl⟩
theorem e_L_isPrime_53 : xa_d xP 65 53 (.iaload) 1 54 := ⟨by decide +kernel, rfl⟩
theorem e_L_isPrime_54 : xa_d xP 65 54 (.iload_n 2) 1 55 := ⟨by decide +kernel, rfl⟩
theorem e_L_isPrime_55 : xa_d xP 65 55 (.iand) 1 56 := ⟨by decide +kernel, rfl⟩
theorem e_L_isPrime_56 : xa_db xP 65 56 (.ifCond .ne 5) 3 59 5 61 := ⟨⟨by decide +kernel, rfl⟩, rfl⟩
theorem e_L_isPrime_59 : xa_d xP 65 59 (.iconst 0) 1 60 := ⟨by decide +kernel, rfl⟩
theorem e_L_isPrime_60 : xa_d xP 65 60 (.ireturn) 1 61 := ⟨by decide +kernel, rfl⟩
theorem e_L_isPrime_61 : xa_d xP 65 61 (.iinc 4 1) 3 64 := ⟨by decide +kernel, rfl⟩
theorem e_L_isPrime_64 : xa_db xP 65 64 (.goto (-48)) 3 67 (-48) 16 := ⟨⟨by decide +kernel, rfl⟩, rfl⟩
theorem e_L_isPrime_67 : xa_d xP 65 67 (.iconst 1) 1 68 := ⟨by decide +kernel, rfl⟩
theorem e_L_isPrime_68 : xa_d xP 65 68 (.ireturn) 1 69 := ⟨by decide +kernel, rfl⟩
theorem e_L_digit_0 : xa_d xP 66 0 (.iload_n 0) 1 1 := ⟨by decide +kernel, rfl⟩
theorem e_L_digit_1 : xa_d xP 66 1 (.getstatic 41) 3 4 := ⟨by decide +kernel, rfl⟩
theorem e_L_digit_4 : xa_d xP 66 4 (.iload_n 1) 1 5 := ⟨by decide +kernel, rfl⟩
theorem e_L_digit_5 : xa_d xP 66 5 (.iaload) 1 6 := ⟨by decide +kernel, rfl⟩
theorem e_L_digit_6 : xa_d xP 66 6 (.idiv) 1 7 := ⟨by decide +kernel, rfl⟩
theorem e_L_digit_7 : xa_d xP 66 7 (.iconst 3) 1 8 := ⟨by decide +kernel, rfl⟩
theorem e_L_digit_8 : xa_d xP 66 8 (.irem) 1 9 := ⟨by decide +kernel, rfl⟩
theorem e_L_digit_9 : xa_d xP 66 9 (.ireturn) 1 10 := ⟨by decide +kernel, rfl⟩
theorem e_L_fixedDigits_0 : xa_d xP 67 0 (.iconst 0) 1 1 := ⟨by decide +kernel, rfl⟩
theorem e_L_fixedDigits_1 : xa_d xP 67 1 (.istore_n 2) 1 2 := ⟨by decide +kernel, rfl⟩
theorem e_L_fixedDigits_2 : xa_d xP 67 2 (.iconst 0) 1 3 := ⟨by decide +kernel, rfl⟩
theorem e_L_fixedDigits_3 : xa_d xP 67 3 (.istore_n 3) 1 4 := ⟨by decide +kernel, rfl⟩
theorem e_L_fixedDigits_4 : xa_d xP 67 4 (.iload_n 3) 1 5 := ⟨by decide +kernel, rfl⟩
theorem e_L_fixedDigits_5 : xa_d xP 67 5 (.iload_n 1) 1 6 := ⟨by decide +kernel, rfl⟩
theorem e_L_fixedDigits_6 : xa_db xP 67 6 (.if_icmp .ge 26) 3 9 26 32 := ⟨⟨by decide +kernel, rfl⟩, rfl⟩
theorem e_L_fixedDigits_9 : xa_d xP 67 9 (.iload_n 2) 1 10 := ⟨by decide +kernel, rfl⟩
theorem e_L_fixedDigits_10 : xa_d xP 67 10 (.iload_n 0) 1 11 := ⟨by decide +kernel, rfl⟩
theorem e_L_fixedDigits_11 : xa_d xP 67 11 (.iload_n 3) 1 12 := ⟨by decide +kernel, rfl⟩
theorem e_L_fixedDigits_12 : xa_d xP 67 12 (.invokestatic 89) 3 15 := ⟨by decide +kernel, rfl⟩
theorem e_L_fixedDigits_15 : xa_d xP 67 15 (.iconst 2) 1 16 := ⟨by decide +kernel, rfl⟩
theorem e_L_fixedDigits_16 : xa_db xP 67 16 (.if_icmp .eq 7) 3 19 7 23 := ⟨⟨by decide +kernel, rfl⟩, rfl⟩
theorem e_L_fixedDigits_19 : xa_d xP 67 19 (.iconst 1) 1 20 := ⟨by decide +kernel, rfl⟩
theorem e_L_fixedDigits_20 : xa_db xP 67 20 (.goto 4) 3 23 4 24 := ⟨⟨by decide +kernel, rfl⟩, rfl⟩
theorem e_L_fixedDigits_23 : xa_d xP 67 23 (.iconst 0) 1 24 := ⟨by decide +kernel, rfl⟩
theorem e_L_fixedDigits_24 : xa_d xP 67 24 (.iadd) 1 25 := ⟨by decide +kernel, rfl⟩
theorem e_L_fixedDigits_25 : xa_d xP 67 25 (.istore_n 2) 1 26 := ⟨by decide +kernel, rfl⟩
theorem e_L_fixedDigits_26 : xa_d xP 67 26 (.iinc 3 1) 3 29 := ⟨by decide +kernel, rfl⟩
theorem e_L_fixedDigits_29 : xa_db xP 67 29 (.goto (-25)) 3 32 (-25) 4 := ⟨⟨by decide +kernel, rfl⟩, rfl⟩
theorem e_L_fixedDigits_32 : xa_d xP 67 32 (.iload_n 2) 1 33 := ⟨by decide +kernel, rfl⟩
theorem e_L_fixedDigits_33 : xa_d xP 67 33 (.ireturn) 1 34 := ⟨by decide +kernel, rfl⟩
theorem e_JI_bitCount_0 : xa_d xP 68 0 (.iload_n 0) 1 1 := ⟨by decide +kernel, rfl⟩
theorem e_JI_bitCount_1 : xa_d xP 68 1 (.iload_n 0) 1 2 := ⟨by decide +kernel, rfl⟩
theorem e_JI_bitCount_2 : xa_d xP 68 2 (.iconst 1) 1 3 := ⟨by decide +kernel, rfl⟩
theorem e_JI_bitCount_3 : xa_d xP 68 3 (.iushr) 1 4 := ⟨by decide +kernel, rfl⟩
theorem e_JI_bitCount_4 : xa_d xP 68 4 (.ldc_w 265) 3 7 := ⟨by decide +kernel, rfl⟩
theorem e_JI_bitCount_7 : xa_d xP 68 7 (.iand) 1 8 := ⟨by decide +kernel, rfl⟩
theorem e_JI_bitCount_8 : xa_d xP 68 8 (.isub) 1 9 := ⟨by decide +kernel, rfl⟩
theorem e_JI_bitCount_9 : xa_d xP 68 9 (.istore_n 0) 1 10 := ⟨by decide +kernel, rfl⟩
theorem e_JI_bitCount_10 : xa_d xP 68 10 (.iload_n 0) 1 11 := ⟨by decide +kernel, rfl⟩
theorem e_JI_bitCount_11 : xa_d xP 68 11 (.ldc_w 266) 3 14 := ⟨by decide +kernel, rfl⟩
theorem e_JI_bitCount_14 : xa_d xP 68 14 (.iand) 1 15 := ⟨by decide +kernel, rfl⟩
theorem e_JI_bitCount_15 : xa_d xP 68 15 (.iload_n 0) 1 16 := ⟨by decide +kernel, rfl⟩
theorem e_JI_bitCount_16 : xa_d xP 68 16 (.iconst 2) 1 17 := ⟨by decide +kernel, rfl⟩
theorem e_JI_bitCount_17 : xa_d xP 68 17 (.iushr) 1 18 := ⟨by decide +kernel, rfl⟩
theorem e_JI_bitCount_18 : xa_d xP 68 18 (.ldc_w 266) 3 21 := ⟨by decide +kernel, rfl⟩
theorem e_JI_bitCount_21 : xa_d xP 68 21 (.iand) 1 22 := ⟨by decide +kernel, rfl⟩
theorem e_JI_bitCount_22 : xa_d xP 68 22 (.iadd) 1 23 := ⟨by decide +kernel, rfl⟩
theorem e_JI_bitCount_23 : xa_d xP 68 23 (.istore_n 0) 1 24 := ⟨by decide +kernel, rfl⟩
theorem e_JI_bitCount_24 : xa_d xP 68 24 (.iload_n 0) 1 25 := ⟨by decide +kernel, rfl⟩
theorem e_JI_bitCount_25 : xa_d xP 68 25 (.iload_n 0) 1 26 := ⟨by decide +kernel, rfl⟩
theorem e_JI_bitCount_26 : xa_d xP 68 26 (.iconst 4) 1 27 := ⟨by decide +kernel, rfl⟩
theorem e_JI_bitCount_27 : xa_d xP 68 27 (.iushr) 1 28 := ⟨by decide +kernel, rfl⟩
theorem e_JI_bitCount_28 : xa_d xP 68 28 (.iadd) 1 29 := ⟨by decide +kernel, rfl⟩
theorem e_JI_bitCount_29 : xa_d xP 68 29 (.ldc_w 267) 3 32 := ⟨by decide +kernel, rfl⟩
theorem e_JI_bitCount_32 : xa_d xP 68 32 (.iand) 1 33 := ⟨by decide +kernel, rfl⟩
theorem e_JI_bitCount_33 : xa_d xP 68 33 (.istore_n 0) 1 34 := ⟨by decide +kernel, rfl⟩
theorem e_JI_bitCount_34 : xa_d xP 68 34 (.iload_n 0) 1 35 := ⟨by decide +kernel, rfl⟩
theorem e_JI_bitCount_35 : xa_d xP 68 35 (.iload_n 0) 1 36 := ⟨by decide +kernel, rfl⟩
theorem e_JI_bitCount_36 : xa_d xP 68 36 (.bipush 8) 2 38 := ⟨by decide +kernel, rfl⟩
theorem e_JI_bitCount_38 : xa_d xP 68 38 (.iushr) 1 39 := ⟨by decide +kernel, rfl⟩
theorem e_JI_bitCount_39 : xa_d xP 68 39 (.iadd) 1 40 := ⟨by decide +kernel, rfl⟩
theorem e_JI_bitCount_40 : xa_d xP 68 40 (.istore_n 0) 1 41 := ⟨by decide +kernel, rfl⟩
theorem e_JI_bitCount_41 : xa_d xP 68 41 (.iload_n 0) 1 42 := ⟨by decide +kernel, rfl⟩
theorem e_JI_bitCount_42 : xa_d xP 68 42 (.iload_n 0) 1 43 := ⟨by decide +kernel, rfl⟩
theorem e_JI_bitCount_43 : xa_d xP 68 43 (.bipush 16) 2 45 := ⟨by decide +kernel, rfl⟩
theorem e_JI_bitCount_45 : xa_d xP 68 45 (.iushr) 1 46 := ⟨by decide +kernel, rfl⟩
theorem e_JI_bitCount_46 : xa_d xP 68 46 (.iadd) 1 47 := ⟨by decide +kernel, rfl⟩
theorem e_JI_bitCount_47 : xa_d xP 68 47 (.istore_n 0) 1 48 := ⟨by decide +kernel, rfl⟩
theorem e_JI_bitCount_48 : xa_d xP 68 48 (.iload_n 0) 1 49 := ⟨by decide +kernel, rfl⟩
theorem e_JI_bitCount_49 : xa_d xP 68 49 (.bipush 63) 2 51 := ⟨by decide +kernel, rfl⟩
theorem e_JI_bitCount_51 : xa_d xP 68 51 (.iand) 1 52 := ⟨by decide +kernel, rfl⟩
theorem e_JI_bitCount_52 : xa_d xP 68 52 (.ireturn) 1 53 := ⟨by decide +kernel, rfl⟩
theorem e_L_countRivals_0 : xa_d xP 69 0 (.iconst 0) 1 1 := ⟨by decide +kernel, rfl⟩
theorem e_L_countRivals_1 : xa_d xP 69 1 (.istore_n 1) 1 2 := ⟨by decide +kernel, rfl⟩
theorem e_L_countRivals_2 : xa_d xP 69 2 (.iload_n 1) 1 3 := ⟨by decide +kernel, rfl⟩
theorem e_L_countRivals_3 : xa_d xP 69 3 (.bipush 32) 2 5 := ⟨by decide +kernel, rfl⟩
theorem e_L_countRivals_5 : xa_db xP 69 5 (.if_icmp .ge 51) 3 8 51 56 := ⟨⟨by decide +kernel, rfl⟩, rfl⟩
theorem e_L_countRivals_8 : xa_d xP 69 8 (.aload_n 0) 1 9 := ⟨by decide +kernel, rfl⟩
theorem e_L_countRivals_9 : xa_d xP 69 9 (.getfield 31) 3 12 := ⟨by decide +kernel, rfl⟩
theorem e_L_countRivals_12 : xa_d xP 69 12 (.iload_n 1) 1 13 := ⟨by decide +kernel, rfl⟩
theorem e_L_countRivals_13 : xa_d xP 69 13 (.iconst 0) 1 14 := ⟨by decide +kernel, rfl⟩
theorem e_L_countRivals_14 : xa_d xP 69 14 (.iastore) 1 15 := ⟨by decide +kernel, rfl⟩
theorem e_L_countRivals_15 : xa_d xP 69 15 (.iconst 0) 1 16 := ⟨by decide +kernel, rfl⟩
theorem e_L_countRivals_16 : xa_d xP 69 16 (.istore_n 2) 1 17 := ⟨by decide +kernel, rfl⟩
theorem e_L_countRivals_17 : xa_d xP 69 17 (.iload_n 2) 1 18 := ⟨by decide +kernel, rfl⟩
theorem e_L_countRivals_18 : xa_d xP 69 18 (.aload_n 0) 1 19 := ⟨by decide +kernel, rfl⟩
theorem e_L_countRivals_19 : xa_d xP 69 19 (.getfield 59) 3 22 := ⟨by decide +kernel, rfl⟩
theorem e_L_countRivals_22 : xa_db xP 69 22 (.if_icmp .ge 28) 3 25 28 50 := ⟨⟨by decide +kernel, rfl⟩, rfl⟩
theorem e_L_countRivals_25 : xa_d xP 69 25 (.aload_n 0) 1 26 := ⟨by decide +kernel, rfl⟩
theorem e_L_countRivals_26 : xa_d xP 69 26 (.getfield 31) 3 29 := ⟨by decide +kernel, rfl⟩
theorem e_L_countRivals_29 : xa_d xP 69 29 (.iload_n 1) 1 30 := ⟨by decide +kernel, rfl⟩
theorem e_L_countRivals_30 : xa_d xP 69 30 (.dup2) 1 31 := ⟨by decide +kernel, rfl⟩
theorem e_L_countRivals_31 : xa_d xP 69 31 (.iaload) 1 32 := ⟨by decide +kernel, rfl⟩
theorem e_L_countRivals_32 : xa_d xP 69 32 (.aload_n 0) 1 33 := ⟨by decide +kernel, rfl⟩
theorem e_L_countRivals_33 : xa_d xP 69 33 (.getfield 15) 3 36 := ⟨by decide +kernel, rfl⟩
theorem e_L_countRivals_36 : xa_d xP 69 36 (.iload_n 2) 1 37 := ⟨by decide +kernel, rfl⟩
theorem e_L_countRivals_37 : xa_d xP 69 37 (.iaload) 1 38 := ⟨by decide +kernel, rfl⟩
theorem e_L_countRivals_38 : xa_d xP 69 38 (.iload_n 1) 1 39 := ⟨by decide +kernel, rfl⟩
theorem e_L_countRivals_39 : xa_d xP 69 39 (.iushr) 1 40 := ⟨by decide +kernel, rfl⟩
theorem e_L_countRivals_40 : xa_d xP 69 40 (.iconst 1) 1 41 := ⟨by decide +kernel, rfl⟩
theorem e_L_countRivals_41 : xa_d xP 69 41 (.iand) 1 42 := ⟨by decide +kernel, rfl⟩
theorem e_L_countRivals_42 : xa_d xP 69 42 (.iadd) 1 43 := ⟨by decide +kernel, rfl⟩
theorem e_L_countRivals_43 : xa_d xP 69 43 (.iastore) 1 44 := ⟨by decide +kernel, rfl⟩
theorem e_L_countRivals_44 : xa_d xP 69 44 (.iinc 2 1) 3 47 := ⟨by decide +kernel, rfl⟩
theorem e_L_countRivals_47 : xa_db xP 69 47 (.goto (-30)) 3 50 (-30) 17 := ⟨⟨by decide +kernel, rfl⟩, rfl⟩
theorem e_L_countRivals_50 : xa_d xP 69 50 (.iinc 1 1) 3 53 := ⟨by decide +kernel, rfl⟩
theorem e_L_countRivals_53 : xa_db xP 69 53 (.goto (-51)) 3 56 (-51) 2 := ⟨⟨by decide +kernel, rfl⟩, rfl⟩
theorem e_L_countRivals_56 : xa_d xP 69 56 (.return_) 1 57 := ⟨by decide +kernel, rfl⟩
theorem e_L_search_0 : xa_d xP 70 0 (.iload_n 2) 1 1 := ⟨by decide +kernel, rfl⟩
theorem e_L_search_1 : xa_db xP 70 1 (.ifCond .ne 9) 3 4 9 10 := ⟨⟨by decide +kernel, rfl⟩, rfl⟩
theorem e_L_search_4 : xa_d xP 70 4 (.aload_n 0) 1 5 := ⟨by decide +kernel, rfl⟩
theorem e_L_search_5 : xa_d xP 70 5 (.iload_n 3) 1 6 := ⟨by decide +kernel, rfl⟩
theorem e_L_search_6 : xa_d xP 70 6 (.invokevirtual 92) 3 9 := ⟨by decide +kernel, rfl⟩
theorem e_L_search_9 : xa_d xP 70 9 (.return_) 1 10 := ⟨by decide +kernel, rfl⟩
theorem e_L_search_10 : xa_d xP 70 10 (.iload_n 1) 1 11 := ⟨by decide +kernel, rfl⟩
theorem e_L_search_11 : xa_d xP 70 11 (.bipush 8) 2 13 := ⟨by decide +kernel, rfl⟩
theorem e_L_search_13 : xa_db xP 70 13 (.if_icmp .ge 17) 3 16 17 30 := ⟨⟨by decide +kernel, rfl⟩, rfl⟩
theorem e_L_search_16 : xa_d xP 70 16 (.iload_n 3) 1 17 := ⟨by decide +kernel, rfl⟩
theorem e_L_search_17 : xa_d xP 70 17 (.aload_n 0) 1 18 := ⟨by decide +kernel, rfl⟩
theorem e_L_search_18 : xa_d xP 70 18 (.iload_n 2) 1 19 := ⟨by decide +kernel, rfl⟩
theorem e_L_search_19 : xa_d xP 70 19 (.invokevirtual 96) 3 22 := ⟨by decide +kernel, rfl⟩
theorem e_L_search_22 : xa_d xP 70 22 (.iadd) 1 23 := ⟨by decide +kernel, rfl⟩
theorem e_L_search_23 : xa_d xP 70 23 (.aload_n 0) 1 24 := ⟨by decide +kernel, rfl⟩
theorem e_L_search_24 : xa_d xP 70 24 (.getfield 51) 3 27 := ⟨by decide +kernel, rfl⟩
theorem e_L_search_27 : xa_db xP 70 27 (.if_icmp .le 4) 3 30 4 31 := ⟨⟨by decide +kernel, rfl⟩, rfl⟩
theorem e_L_search_30 : xa_d xP 70 30 (.return_) 1 31 := ⟨by decide +kernel, rfl⟩
theorem e_L_search_31 : xa_d xP 70 31 (.aload_n 0) 1 32 := ⟨by decide +kernel, rfl⟩
theorem e_L_search_32 : xa_d xP 70 32 (.iload_n 2) 1 33 := ⟨by decide +kernel, rfl⟩
theorem e_L_search_33 : xa_d xP 70 33 (.invokevirtual 99) 3 36 := ⟨by decide +kernel, rfl⟩
theorem e_L_search_36 : xa_d xP 70 36 (.istore 4) 2 38 := ⟨by decide +kernel, rfl⟩
theorem e_L_search_38 : xa_d xP 70 38 (.iconst 0) 1 39 := ⟨by decide +kernel, rfl⟩
theorem e_L_search_39 : xa_d xP 70 39 (.istore 5) 2 41 := ⟨by decide +kernel, rfl⟩
theorem e_L_search_41 : xa_d xP 70 41 (.iload 5) 2 43 := ⟨by decide +kernel, rfl⟩
theorem e_L_search_43 : xa_d xP 70 43 (.aload_n 0) 1 44 := ⟨by decide +kernel, rfl⟩
theorem e_L_search_44 : xa_d xP 70 44 (.getfield 59) 3 47 := ⟨by decide +kernel, rfl⟩
theorem e_L_search_47 : xa_db xP 70 47 (.if_icmp .ge 88) 3 50 88 135 := ⟨⟨by decide +kernel, rfl⟩, rfl⟩
theorem e_L_search_50 : xa_d xP 70 50 (.aload_n 0) 1 51 := ⟨by decide +kernel, rfl⟩
theorem e_L_search_51 : xa_d xP 70 51 (.getfield 21) 3 54 := ⟨by decide +kernel, rfl⟩
theorem e_L_search_54 : xa_d xP 70 54 (.iload 5) 2 56 := ⟨by decide +kernel, rfl⟩
theorem e_L_search_56 : xa_d xP 70 56 (.iaload) 1 57 := ⟨by decide +kernel, rfl⟩
theorem e_L_search_57 : xa_db xP 70 57 (.ifCond .ne 72) 3 60 72 129 := ⟨⟨by decide +kernel, rfl⟩, rfl⟩
theorem e_L_search_60 : xa_d xP 70 60 (.aload_n 0) 1 61 := ⟨by decide +kernel, rfl⟩
theorem e_L_search_61 : xa_d xP 70 61 (.getfield 15) 3 64 := ⟨by decide +kernel, rfl⟩
theorem e_L_search_64 : xa_d xP 70 64 (.iload 5) 2 66 := ⟨by decide +kernel, rfl⟩
theorem e_L_search_66 : xa_d xP 70 66 (.iaload) 1 67 := ⟨by decide +kernel, rfl⟩
theorem e_L_search_67 : xa_d xP 70 67 (.iload 4) 2 69 := ⟨by decide +kernel, rfl⟩
theorem e_L_search_69 : xa_d xP 70 69 (.iushr) 1 70 := ⟨by decide +kernel, rfl⟩
theorem e_L_search_70 : xa_d xP 70 70 (.iconst 1) 1 71 := ⟨by decide +kernel, rfl⟩
theorem e_L_search_71 : xa_d xP 70 71 (.iand) 1 72 := ⟨by decide +kernel, rfl⟩
theorem e_L_search_72 : xa_d xP 70 72 (.iconst 1) 1 73 := ⟨by decide +kernel, rfl⟩
theorem e_L_search_73 : xa_db xP 70 73 (.if_icmp .ne 56) 3 76 56 129 := ⟨⟨by decide +kernel, rfl⟩, rfl⟩
theorem e_L_search_76 : xa_d xP 70 76 (.aload_n 0) 1 77 := ⟨by decide +kernel, rfl⟩
theorem e_L_search_77 : xa_d xP 70 77 (.getfield 24) 3 80 := ⟨by decide +kernel, rfl⟩
theorem e_L_search_80 : xa_d xP 70 80 (.iload 5) 2 82 := ⟨by decide +kernel, rfl⟩
theorem e_L_search_82 : xa_d xP 70 82 (.iconst 1) 1 83 := ⟨by decide +kernel, rfl⟩
theorem e_L_search_83 : xa_d xP 70 83 (.bastore) 1 84 := ⟨by decide +kernel, rfl⟩
theorem e_L_search_84 : xa_d xP 70 84 (.aload_n 0) 1 85 := ⟨by decide +kernel, rfl⟩
theorem e_L_search_85 : xa_d xP 70 85 (.iload_n 1) 1 86 := ⟨by decide +kernel, rfl⟩
theorem e_L_search_86 : xa_d xP 70 86 (.iconst 1) 1 87 := ⟨by decide +kernel, rfl⟩
theorem e_L_search_87 : xa_d xP 70 87 (.iadd) 1 88 := ⟨by decide +kernel, rfl⟩
theorem e_L_search_88 : xa_d xP 70 88 (.iload_n 2) 1 89 := ⟨by decide +kernel, rfl⟩
theorem e_L_search_89 : xa_d xP 70 89 (.aload_n 0) 1 90 := ⟨by decide +kernel, rfl⟩
theorem e_L_search_90 : xa_d xP 70 90 (.getfield 15) 3 93 := ⟨by decide +kernel, rfl⟩
theorem e_L_search_93 : xa_d xP 70 93 (.iload 5) 2 95 := ⟨by decide +kernel, rfl⟩
theorem e_L_search_95 : xa_d xP 70 95 (.iaload) 1 96 := ⟨by decide +kernel, rfl⟩
theorem e_L_search_96 : xa_d xP 70 96 (.iconst (-1)) 1 97 := ⟨by decide +kernel, rfl⟩
theorem e_L_search_97 : xa_d xP 70 97 (.ixor) 1 98 := ⟨by decide +kernel, rfl⟩
theorem e_L_search_98 : xa_d xP 70 98 (.iand) 1 99 := ⟨by decide +kernel, rfl⟩
theorem e_L_search_99 : xa_d xP 70 99 (.iload_n 3) 1 100 := ⟨by decide +kernel, rfl⟩
theorem e_L_search_100 : xa_d xP 70 100 (.aload_n 0) 1 101 := ⟨by decide +kernel, rfl⟩
theorem e_L_search_101 : xa_d xP 70 101 (.getfield 18) 3 104 := ⟨by decide +kernel, rfl⟩
theorem e_L_search_104 : xa_d xP 70 104 (.iload 5) 2 106 := ⟨by decide +kernel, rfl⟩
theorem e_L_search_106 : xa_d xP 70 106 (.iaload) 1 107 := ⟨by decide +kernel, rfl⟩
theorem e_L_search_107 : xa_d xP 70 107 (.iadd) 1 108 := ⟨by decide +kernel, rfl⟩
theorem e_L_search_108 : xa_d xP 70 108 (.invokestatic 55) 3 111 := ⟨by decide +kernel, rfl⟩
theorem e_L_search_111 : xa_d xP 70 111 (.aload_n 0) 1 112 := ⟨by decide +kernel, rfl⟩
theorem e_L_search_112 : xa_d xP 70 112 (.getfield 24) 3 115 := ⟨by decide +kernel, rfl⟩
theorem e_L_search_115 : xa_d xP 70 115 (.iload 5) 2 117 := ⟨by decide +kernel, rfl⟩
theorem e_L_search_117 : xa_d xP 70 117 (.iconst 0) 1 118 := ⟨by decide +kernel, rfl⟩
theorem e_L_search_118 : xa_d xP 70 118 (.bastore) 1 119 := ⟨by decide +kernel, rfl⟩
theorem e_L_search_119 : xa_d xP 70 119 (.aload_n 0) 1 120 := ⟨by decide +kernel, rfl⟩
theorem e_L_search_120 : xa_d xP 70 120 (.getfield 21) 3 123 := ⟨by decide +kernel, rfl⟩
theorem e_L_search_123 : xa_d xP 70 123 (.iload 5) 2 125 := ⟨by decide +kernel, rfl⟩
theorem e_L_search_125 : xa_d xP 70 125 (.iload_n 1) 1 126 := ⟨by decide +kernel, rfl⟩
theorem e_L_search_126 : xa_d xP 70 126 (.iconst 1) 1 127 := ⟨by decide +kernel, rfl⟩
theorem e_L_search_127 : xa_d xP 70 127 (.iadd) 1 128 := ⟨by decide +kernel, rfl⟩
theorem e_L_search_128 : xa_d xP 70 128 (.iastore) 1 129 := ⟨by decide +kernel, rfl⟩
theorem e_L_search_129 : xa_d xP 70 129 (.iinc 5 1) 3 132 := ⟨by decide +kernel, rfl⟩
theorem e_L_search_132 : xa_db xP 70 132 (.goto (-91)) 3 135 (-91) 41 := ⟨⟨by decide +kernel, rfl⟩, rfl⟩
theorem e_L_search_135 : xa_d xP 70 135 (.aload_n 0) 1 136 := ⟨by decide +kernel, rfl⟩
theorem e_L_search_136 : xa_d xP 70 136 (.iload_n 1) 1 137 := ⟨by decide +kernel, rfl⟩
theorem e_L_search_137 : xa_d xP 70 137 (.iconst 1) 1 138 := ⟨by decide +kernel, rfl⟩
theorem e_L_search_138 : xa_d xP 70 138 (.iadd) 1 139 := ⟨by decide +kernel, rfl⟩
theorem e_L_search_139 : xa_d xP 70 139 (.invokevirtual 102) 3 142 := ⟨by decide +kernel, rfl⟩
theorem e_L_search_142 : xa_d xP 70 142 (.return_) 1 143 := ⟨by decide +kernel, rfl⟩
theorem e_L_keepIfLess_0 : xa_d xP 71 0 (.iload_n 1) 1 1 := ⟨by decide +kernel, rfl⟩
theorem e_L_keepIfLess_1 : xa_d xP 71 1 (.aload_n 0) 1 2 := ⟨by decide +kernel, rfl⟩
theorem e_L_keepIfLess_2 : xa_d xP 71 2 (.getfield 51) 3 5 := ⟨by decide +kernel, rfl⟩
theorem e_L_keepIfLess_5 : xa_db xP 71 5 (.if_icmp .lt 18) 3 8 18 23 := ⟨⟨by decide +kernel, rfl⟩, rfl⟩
theorem e_L_keepIfLess_8 : xa_d xP 71 8 (.iload_n 1) 1 9 := ⟨by decide +kernel, rfl⟩
theorem e_L_keepIfLess_9 : xa_d xP 71 9 (.aload_n 0) 1 10 := ⟨by decide +kernel, rfl⟩
theorem e_L_keepIfLess_10 : xa_d xP 71 10 (.getfield 51) 3 13 := ⟨by decide +kernel, rfl⟩
theorem e_L_keepIfLess_13 : xa_db xP 71 13 (.if_icmp .ne 43) 3 16 43 56 := ⟨⟨by decide +kernel, rfl⟩, rfl⟩
theorem e_L_keepIfLess_16 : xa_d xP 71 16 (.aload_n 0) 1 17 := ⟨by decide +kernel, rfl⟩
theorem e_L_keepIfLess_17 : xa_d xP 71 17 (.invokevirtual 105) 3 20 := ⟨by decide +kernel, rfl⟩
theorem e_L_keepIfLess_20 : xa_db xP 71 20 (.ifCond .eq 36) 3 23 36 56 := ⟨⟨by decide +kernel, rfl⟩, rfl⟩
theorem e_L_keepIfLess_23 : xa_d xP 71 23 (.aload_n 0) 1 24 := ⟨by decide +kernel, rfl⟩
theorem e_L_keepIfLess_24 : xa_d xP 71 24 (.iload_n 1) 1 25 := ⟨by decide +kernel, rfl⟩
theorem e_L_keepIfLess_25 : xa_d xP 71 25 (.putfield 51) 3 28 := ⟨by decide +kernel, rfl⟩
theorem e_L_keepIfLess_28 : xa_d xP 71 28 (.iconst 0) 1 29 := ⟨by decide +kernel, rfl⟩
theorem e_L_keepIfLess_29 : xa_d xP 71 29 (.istore_n 2) 1 30 := ⟨by decide +kernel, rfl⟩
theorem e_L_keepIfLess_30 : xa_d xP 71 30 (.iload_n 2) 1 31 := ⟨by decide +kernel, rfl⟩
theorem e_L_keepIfLess_31 : xa_d xP 71 31 (.aload_n 0) 1 32 := ⟨by decide +kernel, rfl⟩
theorem e_L_keepIfLess_32 : xa_d xP 71 32 (.getfield 59) 3 35 := ⟨by decide +kernel, rfl⟩
theorem e_L_keepIfLess_35 : xa_db xP 71 35 (.if_icmp .ge 21) 3 38 21 56 := ⟨⟨by decide +kernel, rfl⟩, rfl⟩
theorem e_L_keepIfLess_38 : xa_d xP 71 38 (.aload_n 0) 1 39 := ⟨by decide +kernel, rfl⟩
theorem e_L_keepIfLess_39 : xa_d xP 71 39 (.getfield 28) 3 42 := ⟨by decide +kernel, rfl⟩
theorem e_L_keepIfLess_42 : xa_d xP 71 42 (.iload_n 2) 1 43 := ⟨by decide +kernel, rfl⟩
theorem e_L_keepIfLess_43 : xa_d xP 71 43 (.aload_n 0) 1 44 := ⟨by decide +kernel, rfl⟩
theorem e_L_keepIfLess_44 : xa_d xP 71 44 (.getfield 24) 3 47 := ⟨by decide +kernel, rfl⟩
theorem e_L_keepIfLess_47 : xa_d xP 71 47 (.iload_n 2) 1 48 := ⟨by decide +kernel, rfl⟩
theorem e_L_keepIfLess_48 : xa_d xP 71 48 (.baload) 1 49 := ⟨by decide +kernel, rfl⟩
theorem e_L_keepIfLess_49 : xa_d xP 71 49 (.bastore) 1 50 := ⟨by decide +kernel, rfl⟩
theorem e_L_keepIfLess_50 : xa_d xP 71 50 (.iinc 2 1) 3 53 := ⟨by decide +kernel, rfl⟩
theorem e_L_keepIfLess_53 : xa_db xP 71 53 (.goto (-23)) 3 56 (-23) 30 := ⟨⟨by decide +kernel, rfl⟩, rfl⟩
theorem e_L_keepIfLess_56 : xa_d xP 71 56 (.return_) 1 57 := ⟨by decide +kernel, rfl⟩
theorem e_L_takenComesFirst_0 : xa_d xP 72 0 (.iconst 0) 1 1 := ⟨by decide +kernel, rfl⟩
theorem e_L_takenComesFirst_1 : xa_d xP 72 1 (.istore_n 1) 1 2 := ⟨by decide +kernel, rfl⟩
theorem e_L_takenComesFirst_2 : xa_d xP 72 2 (.iload_n 1) 1 3 := ⟨by decide +kernel, rfl⟩
theorem e_L_takenComesFirst_3 : xa_d xP 72 3 (.aload_n 0) 1 4 := ⟨by decide +kernel, rfl⟩
theorem e_L_takenComesFirst_4 : xa_d xP 72 4 (.getfield 59) 3 7 := ⟨by decide +kernel, rfl⟩
theorem e_L_takenComesFirst_7 : xa_db xP 72 7 (.if_icmp .ge 31) 3 10 31 38 := ⟨⟨by decide +kernel, rfl⟩, rfl⟩
theorem e_L_takenComesFirst_10 : xa_d xP 72 10 (.aload_n 0) 1 11 := ⟨by decide +kernel, rfl⟩
theorem e_L_takenComesFirst_11 : xa_d xP 72 11 (.getfield 24) 3 14 := ⟨by decide +kernel, rfl⟩
theorem e_L_takenComesFirst_14 : xa_d xP 72 14 (.iload_n 1) 1 15 := ⟨by decide +kernel, rfl⟩
theorem e_L_takenComesFirst_15 : xa_d xP 72 15 (.baload) 1 16 := ⟨by decide +kernel, rfl⟩
theorem e_L_takenComesFirst_16 : xa_d xP 72 16 (.aload_n 0) 1 17 := ⟨by decide +kernel, rfl⟩
theorem e_L_takenComesFirst_17 : xa_d xP 72 17 (.getfield 28) 3 20 := ⟨by decide +kernel, rfl⟩
theorem e_L_takenComesFirst_20 : xa_d xP 72 20 (.iload_n 1) 1 21 := ⟨by decide +kernel, rfl⟩
theorem e_L_takenComesFirst_21 : xa_d xP 72 21 (.baload) 1 22 := ⟨by decide +kernel, rfl⟩
theorem e_L_takenComesFirst_22 : xa_db xP 72 22 (.if_icmp .eq 10) 3 25 10 32 := ⟨⟨by decide +kernel, rfl⟩, rfl⟩
theorem e_L_takenComesFirst_25 : xa_d xP 72 25 (.aload_n 0) 1 26 := ⟨by decide +kernel, rfl⟩
theorem e_L_takenComesFirst_26 : xa_d xP 72 26 (.getfield 24) 3 29 := ⟨by decide +kernel, rfl⟩
theorem e_L_takenComesFirst_29 : xa_d xP 72 29 (.iload_n 1) 1 30 := ⟨by decide +kernel, rfl⟩
theorem e_L_takenComesFirst_30 : xa_d xP 72 30 (.baload) 1 31 := ⟨by decide +kernel, rfl⟩
theorem e_L_takenComesFirst_31 : xa_d xP 72 31 (.ireturn) 1 32 := ⟨by decide +kernel, rfl⟩
theorem e_L_takenComesFirst_32 : xa_d xP 72 32 (.iinc 1 1) 3 35 := ⟨by decide +kernel, rfl⟩
theorem e_L_takenComesFirst_35 : xa_db xP 72 35 (.goto (-33)) 3 38 (-33) 2 := ⟨⟨by decide +kernel, rfl⟩, rfl⟩
theorem e_L_takenComesFirst_38 : xa_d xP 72 38 (.iconst 0) 1 39 := ⟨by decide +kernel, rfl⟩
theorem e_L_takenComesFirst_39 : xa_d xP 72 39 (.ireturn) 1 40 := ⟨by decide +kernel, rfl⟩
theorem e_L_leastCostOf_0 : xa_d xP 73 0 (.iload_n 1) 1 1 := ⟨by decide +kernel, rfl⟩
theorem e_L_leastCostOf_1 : xa_d xP 73 1 (.invokestatic 78) 3 4 := ⟨by decide +kernel, rfl⟩
theorem e_L_leastCostOf_4 : xa_d xP 73 4 (.aload_n 0) 1 5 := ⟨by decide +kernel, rfl⟩
theorem e_L_leastCostOf_5 : xa_d xP 73 5 (.getfield 68) 3 8 := ⟨by decide +kernel, rfl⟩
theorem e_L_leastCostOf_8 : xa_d xP 73 8 (.iadd) 1 9 := ⟨by decide +kernel, rfl⟩
theorem e_L_leastCostOf_9 : xa_d xP 73 9 (.iconst 1) 1 10 := ⟨by decide +kernel, rfl⟩
theorem e_L_leastCostOf_10 : xa_d xP 73 10 (.isub) 1 11 := ⟨by decide +kernel, rfl⟩
theorem e_L_leastCostOf_11 : xa_d xP 73 11 (.aload_n 0) 1 12 := ⟨by decide +kernel, rfl⟩
theorem e_L_leastCostOf_12 : xa_d xP 73 12 (.getfield 68) 3 15 := ⟨by decide +kernel, rfl⟩
theorem e_L_leastCostOf_15 : xa_d xP 73 15 (.idiv) 1 16 := ⟨by decide +kernel, rfl⟩
theorem e_L_leastCostOf_16 : xa_d xP 73 16 (.bipush 100) 2 18 := ⟨by decide +kernel, rfl⟩
theorem e_L_leastCostOf_18 : xa_d xP 73 18 (.imul) 1 19 := ⟨by decide +kernel, rfl⟩
theorem e_L_leastCostOf_19 : xa_d xP 73 19 (.ireturn) 1 20 := ⟨by decide +kernel, rfl⟩
theorem e_L_codeWithFewestRivals_0 : xa_d xP 74 0 (.iconst 0) 1 1 := ⟨by decide +kernel, rfl⟩
theorem e_L_codeWithFewestRivals_1 : xa_d xP 74 1 (.istore_n 2) 1 2 := ⟨by decide +kernel, rfl⟩
theorem e_L_codeWithFewestRivals_2 : xa_d xP 74 2 (.sipush 243) 3 5 := ⟨by decide +kernel, rfl⟩
theorem e_L_codeWithFewestRivals_5 : xa_d xP 74 5 (.istore_n 3) 1 6 := ⟨by decide +kernel, rfl⟩
theorem e_L_codeWithFewestRivals_6 : xa_d xP 74 6 (.iconst 0) 1 7 := ⟨by decide +kernel, rfl⟩
theorem e_L_codeWithFewestRivals_7 : xa_d xP 74 7 (.istore 4) 2 9 := ⟨by decide +kernel, rfl⟩
theorem e_L_codeWithFewestRivals_9 : xa_d xP 74 9 (.iload 4) 2 11 := ⟨by decide +kernel, rfl⟩
theorem e_L_codeWithFewestRivals_11 : xa_d xP 74 11 (.bipush 32) 2 13 := ⟨by decide +kernel, rfl⟩
theorem e_L_codeWithFewestRivals_13 : xa_db xP 74 13 (.if_icmp .ge 41) 3 16 41 54 := ⟨⟨by decide +kernel, rfl⟩, rfl⟩
theorem e_L_codeWithFewestRivals_16 : xa_d xP 74 16 (.iload_n 1) 1 17 := ⟨by decide +kernel, rfl⟩
theorem e_L_codeWithFewestRivals_17 : xa_d xP 74 17 (.iload 4) 2 19 := ⟨by decide +kernel, rfl⟩
theorem e_L_codeWithFewestRivals_19 : xa_d xP 74 19 (.iushr) 1 20 := ⟨by decide +kernel, rfl⟩
theorem e_L_codeWithFewestRivals_20 : xa_d xP 74 20 (.iconst 1) 1 21 := ⟨by decide +kernel, rfl⟩
theorem e_L_codeWithFewestRivals_21 : xa_d xP 74 21 (.iand) 1 22 := ⟨by decide +kernel, rfl⟩
theorem e_L_codeWithFewestRivals_22 : xa_d xP 74 22 (.iconst 1) 1 23 := ⟨by decide +kernel, rfl⟩
theorem e_L_codeWithFewestRivals_23 : xa_db xP 74 23 (.if_icmp .ne 25) 3 26 25 48 := ⟨⟨by decide +kernel, rfl⟩, rfl⟩
theorem e_L_codeWithFewestRivals_26 : xa_d xP 74 26 (.aload_n 0) 1 27 := ⟨by decide +kernel, rfl⟩
theorem e_L_codeWithFewestRivals_27 : xa_d xP 74 27 (.getfield 31) 3 30 := ⟨by decide +kernel, rfl⟩
theorem e_L_codeWithFewestRivals_30 : xa_d xP 74 30 (.iload 4) 2 32 := ⟨by decide +kernel, rfl⟩
theorem e_L_codeWithFewestRivals_32 : xa_d xP 74 32 (.iaload) 1 33 := ⟨by decide +kernel, rfl⟩
theorem e_L_codeWithFewestRivals_33 : xa_d xP 74 33 (.iload_n 3) 1 34 := ⟨by decide +kernel, rfl⟩
theorem e_L_codeWithFewestRivals_34 : xa_db xP 74 34 (.if_icmp .ge 14) 3 37 14 48 := ⟨⟨by decide +kernel, rfl⟩, rfl⟩
theorem e_L_codeWithFewestRivals_37 : xa_d xP 74 37 (.iload 4) 2 39 := ⟨by decide +kernel, rfl⟩
theorem e_L_codeWithFewestRivals_39 : xa_d xP 74 39 (.istore_n 2) 1 40 := ⟨by decide +kernel, rfl⟩
theorem e_L_codeWithFewestRivals_40 : xa_d xP 74 40 (.aload_n 0) 1 41 := ⟨by decide +kernel, rfl⟩
theorem e_L_codeWithFewestRivals_41 : xa_d xP 74 41 (.getfield 31) 3 44 := ⟨by decide +kernel, rfl⟩
theorem e_L_codeWithFewestRivals_44 : xa_d xP 74 44 (.iload 4) 2 46 := ⟨by decide +kernel, rfl⟩
theorem e_L_codeWithFewestRivals_46 : xa_d xP 74 46 (.iaload) 1 47 := ⟨by decide +kernel, rfl⟩
theorem e_L_codeWithFewestRivals_47 : xa_d xP 74 47 (.istore_n 3) 1 48 := ⟨by decide +kernel, rfl⟩
theorem e_L_codeWithFewestRivals_48 : xa_d xP 74 48 (.iinc 4 1) 3 51 := ⟨by decide +kernel, rfl⟩
theorem e_L_codeWithFewestRivals_51 : xa_db xP 74 51 (.goto (-42)) 3 54 (-42) 9 := ⟨⟨by decide +kernel, rfl⟩, rfl⟩
theorem e_L_codeWithFewestRivals_54 : xa_d xP 74 54 (.iload_n 2) 1 55 := ⟨by decide +kernel, rfl⟩
theorem e_L_codeWithFewestRivals_55 : xa_d xP 74 55 (.ireturn) 1 56 := ⟨by decide +kernel, rfl⟩
theorem e_L_liftBars_0 : xa_d xP 75 0 (.iconst 0) 1 1 := ⟨by decide +kernel, rfl⟩
theorem e_L_liftBars_1 : xa_d xP 75 1 (.istore_n 2) 1 2 := ⟨by decide +kernel, rfl⟩
theorem e_L_liftBars_2 : xa_d xP 75 2 (.iload_n 2) 1 3 := ⟨by decide +kernel, rfl⟩
theorem e_L_liftBars_3 : xa_d xP 75 3 (.aload_n 0) 1 4 := ⟨by decide +kernel, rfl⟩
theorem e_L_liftBars_4 : xa_d xP 75 4 (.getfield 59) 3 7 := ⟨by decide +kernel, rfl⟩
theorem e_L_liftBars_7 : xa_db xP 75 7 (.if_icmp .ge 26) 3 10 26 33 := ⟨⟨by decide +kernel, rfl⟩, rfl⟩
theorem e_L_liftBars_10 : xa_d xP 75 10 (.aload_n 0) 1 11 := ⟨by decide +kernel, rfl⟩
theorem e_L_liftBars_11 : xa_d xP 75 11 (.getfield 21) 3 14 := ⟨by decide +kernel, rfl⟩
theorem e_L_liftBars_14 : xa_d xP 75 14 (.iload_n 2) 1 15 := ⟨by decide +kernel, rfl⟩
theorem e_L_liftBars_15 : xa_d xP 75 15 (.iaload) 1 16 := ⟨by decide +kernel, rfl⟩
theorem e_L_liftBars_16 : xa_d xP 75 16 (.iload_n 1) 1 17 := ⟨by decide +kernel, rfl⟩
theorem e_L_liftBars_17 : xa_db xP 75 17 (.if_icmp .ne 10) 3 20 10 27 := ⟨⟨by decide +kernel, rfl⟩, rfl⟩
theorem e_L_liftBars_20 : xa_d xP 75 20 (.aload_n 0) 1 21 := ⟨by decide +kernel, rfl⟩
theorem e_L_liftBars_21 : xa_d xP 75 21 (.getfield 21) 3 24 := ⟨by decide +kernel, rfl⟩
theorem e_L_liftBars_24 : xa_d xP 75 24 (.iload_n 2) 1 25 := ⟨by decide +kernel, rfl⟩
theorem e_L_liftBars_25 : xa_d xP 75 25 (.iconst 0) 1 26 := ⟨by decide +kernel, rfl⟩
theorem e_L_liftBars_26 : xa_d xP 75 26 (.iastore) 1 27 := ⟨by decide +kernel, rfl⟩
theorem e_L_liftBars_27 : xa_d xP 75 27 (.iinc 2 1) 3 30 := ⟨by decide +kernel, rfl⟩
theorem e_L_liftBars_30 : xa_db xP 75 30 (.goto (-28)) 3 33 (-28) 2 := ⟨⟨by decide +kernel, rfl⟩, rfl⟩
theorem e_L_liftBars_33 : xa_d xP 75 33 (.return_) 1 34 := ⟨by decide +kernel, rfl⟩
theorem e_L_giveTo_0 : xa_d xP 76 0 (.iconst 0) 1 1 := ⟨by decide +kernel, rfl⟩
theorem e_L_giveTo_1 : xa_d xP 76 1 (.istore_n 2) 1 2 := ⟨by decide +kernel, rfl⟩
theorem e_L_giveTo_2 : xa_d xP 76 2 (.iload_n 2) 1 3 := ⟨by decide +kernel, rfl⟩
theorem e_L_giveTo_3 : xa_d xP 76 3 (.aload_n 0) 1 4 := ⟨by decide +kernel, rfl⟩
theorem e_L_giveTo_4 : xa_d xP 76 4 (.getfield 59) 3 7 := ⟨by decide +kernel, rfl⟩
theorem e_L_giveTo_7 : xa_db xP 76 7 (.if_icmp .ge 40) 3 10 40 47 := ⟨⟨by decide +kernel, rfl⟩, rfl⟩
theorem e_L_giveTo_10 : xa_d xP 76 10 (.aload_n 0) 1 11 := ⟨by decide +kernel, rfl⟩
theorem e_L_giveTo_11 : xa_d xP 76 11 (.getfield 28) 3 14 := ⟨by decide +kernel, rfl⟩
theorem e_L_giveTo_14 : xa_d xP 76 14 (.iload_n 2) 1 15 := ⟨by decide +kernel, rfl⟩
theorem e_L_giveTo_15 : xa_d xP 76 15 (.baload) 1 16 := ⟨by decide +kernel, rfl⟩
theorem e_L_giveTo_16 : xa_db xP 76 16 (.ifCond .eq 25) 3 19 25 41 := ⟨⟨by decide +kernel, rfl⟩, rfl⟩
theorem e_L_giveTo_19 : xa_d xP 76 19 (.aload_n 1) 1 20 := ⟨by decide +kernel, rfl⟩
theorem e_L_giveTo_20 : xa_d xP 76 20 (.aload_n 0) 1 21 := ⟨by decide +kernel, rfl⟩
theorem e_L_giveTo_21 : xa_d xP 76 21 (.getfield 9) 3 24 := ⟨by decide +kernel, rfl⟩
theorem e_L_giveTo_24 : xa_d xP 76 24 (.iload_n 2) 1 25 := ⟨by decide +kernel, rfl⟩
theorem e_L_giveTo_25 : xa_d xP 76 25 (.iaload) 1 26 := ⟨by decide +kernel, rfl⟩
theorem e_L_giveTo_26 : xa_d xP 76 26 (.aload_n 0) 1 27 := ⟨by decide +kernel, rfl⟩
theorem e_L_giveTo_27 : xa_d xP 76 27 (.getfield 38) 3 30 := ⟨by decide +kernel, rfl⟩
theorem e_L_giveTo_30 : xa_d xP 76 30 (.aload_n 0) 1 31 := ⟨by decide +kernel, rfl⟩
theorem e_L_giveTo_31 : xa_d xP 76 31 (.getfield 9) 3 34 := ⟨by decide +kernel, rfl⟩
theorem e_L_giveTo_34 : xa_d xP 76 34 (.iload_n 2) 1 35 := ⟨by decide +kernel, rfl⟩
theorem e_L_giveTo_35 : xa_d xP 76 35 (.iaload) 1 36 := ⟨by decide +kernel, rfl⟩
theorem e_L_giveTo_36 : xa_d xP 76 36 (.iaload) 1 37 := ⟨by decide +kernel, rfl⟩
theorem e_L_giveTo_37 : xa_d xP 76 37 (.invokevirtual 62) 3 40 := ⟨by decide +kernel, rfl⟩
theorem e_L_giveTo_40 : xa_d xP 76 40 (.pop) 1 41 := ⟨by decide +kernel, rfl⟩
theorem e_L_giveTo_41 : xa_d xP 76 41 (.iinc 2 1) 3 44 := ⟨by decide +kernel, rfl⟩
theorem e_L_giveTo_44 : xa_db xP 76 44 (.goto (-42)) 3 47 (-42) 2 := ⟨⟨by decide +kernel, rfl⟩, rfl⟩
theorem e_L_giveTo_47 : xa_d xP 76 47 (.return_) 1 48 := ⟨by decide +kernel, rfl⟩
theorem e_Ga_add_0 : xa_d xP 77 0 (.aload_n 0) 1 1 := ⟨by decide +kernel, rfl⟩
theorem e_Ga_add_1 : xa_d xP 77 1 (.getfield 9) 3 4 := ⟨by decide +kernel, rfl⟩
theorem e_Ga_add_4 : xa_d xP 77 4 (.aload_n 0) 1 5 := ⟨by decide +kernel, rfl⟩
theorem e_Ga_add_5 : xa_d xP 77 5 (.getfield 15) 3 8 := ⟨by decide +kernel, rfl⟩
theorem e_Ga_add_8 : xa_d xP 77 8 (.iload_n 1) 1 9 := ⟨by decide +kernel, rfl⟩
theorem e_Ga_add_9 : xa_d xP 77 9 (.iastore) 1 10 := ⟨by decide +kernel, rfl⟩
theorem e_Ga_add_10 : xa_d xP 77 10 (.aload_n 0) 1 11 := ⟨by decide +kernel, rfl⟩
theorem e_Ga_add_11 : xa_d xP 77 11 (.dup) 1 12 := ⟨by decide +kernel, rfl⟩
theorem e_Ga_add_12 : xa_d xP 77 12 (.getfield 19) 3 15 := ⟨by decide +kernel, rfl⟩
theorem e_Ga_add_15 : xa_d xP 77 15 (.iload_n 2) 1 16 := ⟨by decide +kernel, rfl⟩
theorem e_Ga_add_16 : xa_d xP 77 16 (.ior) 1 17 := ⟨by decide +kernel, rfl⟩
theorem e_Ga_add_17 : xa_d xP 77 17 (.putfield 19) 3 20 := ⟨by decide +kernel, rfl⟩
theorem e_Ga_add_20 : xa_d xP 77 20 (.aload_n 0) 1 21 := ⟨by decide +kernel, rfl⟩
theorem e_Ga_add_21 : xa_d xP 77 21 (.dup) 1 22 := ⟨by decide +kernel, rfl⟩
theorem e_Ga_add_22 : xa_d xP 77 22 (.getfield 15) 3 25 := ⟨by decide +kernel, rfl⟩
theorem e_Ga_add_25 : xa_d xP 77 25 (.iconst 1) 1 26 := ⟨by decide +kernel, rfl⟩
theorem e_Ga_add_26 : xa_d xP 77 26 (.iadd) 1 27 := ⟨by decide +kernel, rfl⟩
theorem e_Ga_add_27 : xa_d xP 77 27 (.putfield 15) 3 30 := ⟨by decide +kernel, rfl⟩
theorem e_Ga_add_30 : xa_d xP 77 30 (.aload_n 0) 1 31 := ⟨by decide +kernel, rfl⟩
theorem e_Ga_add_31 : xa_d xP 77 31 (.getfield 15) 3 34 := ⟨by decide +kernel, rfl⟩
theorem e_Ga_add_34 : xa_d xP 77 34 (.iconst 1) 1 35 := ⟨by decide +kernel, rfl⟩
theorem e_Ga_add_35 : xa_d xP 77 35 (.isub) 1 36 := ⟨by decide +kernel, rfl⟩
theorem e_Ga_add_36 : xa_d xP 77 36 (.ireturn) 1 37 := ⟨by decide +kernel, rfl⟩
theorem e_Ci_adoptDrafts_0 : xa_d xP 78 0 (.iconst 0) 1 1 := ⟨by decide +kernel, rfl⟩
theorem e_Ci_adoptDrafts_1 : xa_d xP 78 1 (.istore_n 1) 1 2 := ⟨by decide +kernel, rfl⟩
theorem e_Ci_adoptDrafts_2 : xa_d xP 78 2 (.iload_n 1) 1 3 := ⟨by decide +kernel, rfl⟩
theorem e_Ci_adoptDrafts_3 : xa_d xP 78 3 (.iconst 5) 1 4 := ⟨by decide +kernel, rfl⟩
theorem e_Ci_adoptDrafts_4 : xa_db xP 78 4 (.if_icmp .ge 35) 3 7 35 39 := ⟨⟨by decide +kernel, rfl⟩, rfl⟩
theorem e_Ci_adoptDrafts_7 : xa_d xP 78 7 (.aload_n 0) 1 8 := ⟨by decide +kernel, rfl⟩
theorem e_Ci_adoptDrafts_8 : xa_d xP 78 8 (.getfield 11) 3 11 := ⟨by decide +kernel, rfl⟩
theorem e_Ci_adoptDrafts_11 : xa_d xP 78 11 (.iload_n 1) 1 12 := ⟨by decide +kernel, rfl⟩
theorem e_Ci_adoptDrafts_12 : xa_d xP 78 12 (.aaload) 1 13 := ⟨by decide +kernel, rfl⟩
theorem e_Ci_adoptDrafts_13 : xa_d xP 78 13 (.astore_n 2) 1 14 := ⟨by decide +kernel, rfl⟩
theorem e_Ci_adoptDrafts_14 : xa_d xP 78 14 (.aload_n 0) 1 15 := ⟨by decide +kernel, rfl⟩
theorem e_Ci_adoptDrafts_15 : xa_d xP 78 15 (.getfield 11) 3 18 := ⟨by decide +kernel, rfl⟩
theorem e_Ci_adoptDrafts_18 : xa_d xP 78 18 (.iload_n 1) 1 19 := ⟨by decide +kernel, rfl⟩
theorem e_Ci_adoptDrafts_19 : xa_d xP 78 19 (.aload_n 0) 1 20 := ⟨by decide +kernel, rfl⟩
theorem e_Ci_adoptDrafts_20 : xa_d xP 78 20 (.getfield 17) 3 23 := ⟨by decide +kernel, rfl⟩
theorem e_Ci_adoptDrafts_23 : xa_d xP 78 23 (.iload_n 1) 1 24 := ⟨by decide +kernel, rfl⟩
theorem e_Ci_adoptDrafts_24 : xa_d xP 78 24 (.aaload) 1 25 := ⟨by decide +kernel, rfl⟩
theorem e_Ci_adoptDrafts_25 : xa_d xP 78 25 (.aastore) 1 26 := ⟨by decide +kernel, rfl⟩
theorem e_Ci_adoptDrafts_26 : xa_d xP 78 26 (.aload_n 0) 1 27 := ⟨by decide +kernel, rfl⟩
theorem e_Ci_adoptDrafts_27 : xa_d xP 78 27 (.getfield 17) 3 30 := ⟨by decide +kernel, rfl⟩
theorem e_Ci_adoptDrafts_30 : xa_d xP 78 30 (.iload_n 1) 1 31 := ⟨by decide +kernel, rfl⟩
theorem e_Ci_adoptDrafts_31 : xa_d xP 78 31 (.aload_n 2) 1 32 := ⟨by decide +kernel, rfl⟩
theorem e_Ci_adoptDrafts_32 : xa_d xP 78 32 (.aastore) 1 33 := ⟨by decide +kernel, rfl⟩
theorem e_Ci_adoptDrafts_33 : xa_d xP 78 33 (.iinc 1 1) 3 36 := ⟨by decide +kernel, rfl⟩
theorem e_Ci_adoptDrafts_36 : xa_db xP 78 36 (.goto (-34)) 3 39 (-34) 2 := ⟨⟨by decide +kernel, rfl⟩, rfl⟩
theorem e_Ci_adoptDrafts_39 : xa_d xP 78 39 (.return_) 1 40 := ⟨by decide +kernel, rfl⟩
theorem e_W_products_0 : xa_d xP 79 0 (.aload_n 2) 1 1 := ⟨by decide +kernel, rfl⟩
theorem e_W_products_1 : xa_d xP 79 1 (.iconst 0) 1 2 := ⟨by decide +kernel, rfl⟩
theorem e_W_products_2 : xa_d xP 79 2 (.aload_n 0) 1 3 := ⟨by decide +kernel, rfl⟩
theorem e_W_products_3 : xa_d xP 79 3 (.iload_n 1) 1 4 := ⟨by decide +kernel, rfl⟩
theorem e_W_products_4 : xa_d xP 79 4 (.invokevirtual 53) 3 7 := ⟨by decide +kernel, rfl⟩
theorem e_W_products_7 : xa_d xP 79 7 (.i2l) 1 8 := ⟨by decide +kernel, rfl⟩
theorem e_W_products_8 : xa_d xP 79 8 (.lastore) 1 9 := ⟨by decide +kernel, rfl⟩
theorem e_W_products_9 : xa_db xP 79 9 (.goto 6) 3 12 6 15 := ⟨⟨by decide +kernel, rfl⟩, rfl⟩
theorem e_W_products_12 : xa_d xP 79 12 (.astore_n 3) 1 13 := ⟨by decide +kernel, rfl⟩
theorem e_W_products_13 : xa_d xP 79 13 (.iconst 1) 1 14 := ⟨by decide +kernel, rfl⟩
theorem e_W_products_14 : xa_d xP 79 14 (.ireturn) 1 15 := ⟨by decide +kernel, rfl⟩
theorem e_W_products_15 : xa_d xP 79 15 (.iconst 0) 1 16 := ⟨by decide +kernel, rfl⟩
theorem e_W_products_16 : xa_d xP 79 16 (.ireturn) 1 17 := ⟨by decide +kernel, rfl⟩
theorem e_CG_products_0 : xa_d xP 80 0 (.aload_n 0) 1 1 := ⟨by decide +kernel, rfl⟩
theorem e_CG_products_1 : xa_d xP 80 1 (.iload_n 1) 1 2 := ⟨by decide +kernel, rfl⟩
theorem e_CG_products_2 : xa_d xP 80 2 (.invokevirtual 61) 3 5 := ⟨by decide +kernel, rfl⟩
theorem e_CG_products_5 : xa_d xP 80 5 (.aload_n 0) 1 6 := ⟨by decide +kernel, rfl⟩
theorem e_CG_products_6 : xa_d xP 80 6 (.getfield 26) 3 9 := ⟨by decide +kernel, rfl⟩
theorem e_CG_products_9 : xa_d xP 80 9 (.getfield 158) 3 12 := ⟨by decide +kernel, rfl⟩
theorem e_CG_products_12 : xa_d xP 80 12 (.iload_n 1) 1 13 := ⟨by decide +kernel, rfl⟩
theorem e_CG_products_13 : xa_d xP 80 13 (.aaload) 1 14 := ⟨by decide +kernel, rfl⟩
theorem e_CG_products_14 : xa_d xP 80 14 (.getfield 152) 3 17 := ⟨by decide +kernel, rfl⟩
theorem e_CG_products_17 : xa_d xP 80 17 (.ireturn) 1 18 := ⟨by decide +kernel, rfl⟩
theorem e_W_product_0 : xa_d xP 81 0 (.aload_n 3) 1 1 := ⟨by decide +kernel, rfl⟩
theorem e_W_product_1 : xa_d xP 81 1 (.iconst 0) 1 2 := ⟨by decide +kernel, rfl⟩
theorem e_W_product_2 : xa_d xP 81 2 (.aload_n 0) 1 3 := ⟨by decide +kernel, rfl⟩
theorem e_W_product_3 : xa_d xP 81 3 (.iload_n 1) 1 4 := ⟨by decide +kernel, rfl⟩
theorem e_W_product_4 : xa_d xP 81 4 (.iload_n 2) 1 5 := ⟨by decide +kernel, rfl⟩
theorem e_W_product_5 : xa_d xP 81 5 (.invokevirtual 56) 3 8 := ⟨by decide +kernel, rfl⟩
theorem e_W_product_8 : xa_d xP 81 8 (.i2l) 1 9 := ⟨by decide +kernel, rfl⟩
theorem e_W_product_9 : xa_d xP 81 9 (.lastore) 1 10 := ⟨by decide +kernel, rfl⟩
theorem e_W_product_10 : xa_db xP 81 10 (.goto 7) 3 13 7 17 := ⟨⟨by decide +kernel, rfl⟩, rfl⟩
theorem e_W_product_13 : xa_d xP 81 13 (.astore 4) 2 15 := ⟨by decide +kernel, rfl⟩
theorem e_W_product_15 : xa_d xP 81 15 (.iconst 1) 1 16 := ⟨by decide +kernel, rfl⟩
theorem e_W_product_16 : xa_d xP 81 16 (.ireturn) 1 17 := ⟨by decide +kernel, rfl⟩
theorem e_W_product_17 : xa_d xP 81 17 (.iconst 0) 1 18 := ⟨by decide +kernel, rfl⟩
theorem e_W_product_18 : xa_d xP 81 18 (.ireturn) 1 19 := ⟨by decide +kernel, rfl⟩
theorem e_CG_product_0 : xa_d xP 82 0 (.aload_n 0) 1 1 := ⟨by decide +kernel, rfl⟩
theorem e_CG_product_1 : xa_d xP 82 1 (.iload_n 1) 1 2 := ⟨by decide +kernel, rfl⟩
theorem e_CG_product_2 : xa_d xP 82 2 (.invokevirtual 61) 3 5 := ⟨by decide +kernel, rfl⟩
theorem e_CG_product_5 : xa_d xP 82 5 (.iload_n 2) 1 6 := ⟨by decide +kernel, rfl⟩
theorem e_CG_product_6 : xa_db xP 82 6 (.ifCond .lt 19) 3 9 19 25 := ⟨⟨by decide +kernel, rfl⟩, rfl⟩
theorem e_CG_product_9 : xa_d xP 82 9 (.iload_n 2) 1 10 := ⟨by decide +kernel, rfl⟩
theorem e_CG_product_10 : xa_d xP 82 10 (.aload_n 0) 1 11 := ⟨by decide +kernel, rfl⟩
theorem e_CG_product_11 : xa_d xP 82 11 (.getfield 26) 3 14 := ⟨by decide +kernel, rfl⟩
theorem e_CG_product_14 : xa_d xP 82 14 (.getfield 158) 3 17 := ⟨by decide +kernel, rfl⟩
theorem e_CG_product_17 : xa_d xP 82 17 (.iload_n 1) 1 18 := ⟨by decide +kernel, rfl⟩
theorem e_CG_product_18 : xa_d xP 82 18 (.aaload) 1 19 := ⟨by decide +kernel, rfl⟩
theorem e_CG_product_19 : xa_d xP 82 19 (.getfield 152) 3 22 := ⟨by decide +kernel, rfl⟩
theorem e_CG_product_22 : xa_db xP 82 22 (.if_icmp .lt 13) 3 25 13 35 := ⟨⟨by decide +kernel, rfl⟩, rfl⟩
theorem e_CG_product_25 : xa_d xP 82 25 (.new 83) 3 28 := ⟨by decide +kernel, rfl⟩
theorem e_CG_product_28 : xa_d xP 82 28 (.dup) 1 29 := ⟨by decide +kernel, rfl⟩
theorem e_CG_product_29 : xa_d xP 82 29 (.ldc 161) 2 31 := ⟨by decide +kernel, rfl⟩
theorem e_CG_product_31 : xa_d xP 82 31 (.invokespecial 87) 3 34 := ⟨by decide +kernel, rfl⟩
theorem e_CG_product_34 : xa_d xP 82 34 (.athrow) 1 35 := ⟨by decide +kernel, rfl⟩
theorem e_CG_product_35 : xa_d xP 82 35 (.aload_n 0) 1 36 := ⟨by decide +kernel, rfl⟩
theorem e_CG_product_36 : xa_d xP 82 36 (.getfield 26) 3 39 := ⟨by decide +kernel, rfl⟩
theorem e_CG_product_39 : xa_d xP 82 39 (.getfield 158) 3 42 := ⟨by decide +kernel, rfl⟩
theorem e_CG_product_42 : xa_d xP 82 42 (.iload_n 1) 1 43 := ⟨by decide +kernel, rfl⟩
theorem e_CG_product_43 : xa_d xP 82 43 (.aaload) 1 44 := ⟨by decide +kernel, rfl⟩
theorem e_CG_product_44 : xa_d xP 82 44 (.getfield 163) 3 47 := ⟨by decide +kernel, rfl⟩
theorem e_CG_product_47 : xa_d xP 82 47 (.iload_n 2) 1 48 := ⟨by decide +kernel, rfl⟩
theorem e_CG_product_48 : xa_d xP 82 48 (.iaload) 1 49 := ⟨by decide +kernel, rfl⟩
theorem e_CG_product_49 : xa_d xP 82 49 (.ireturn) 1 50 := ⟨by decide +kernel, rfl⟩
theorem e_W_append_0 : xa_d xP 83 0 (.aload_n 3) 1 1 := ⟨by decide +kernel, rfl⟩
theorem e_W_append_1 : xa_d xP 83 1 (.iconst 0) 1 2 := ⟨by decide +kernel, rfl⟩
theorem e_W_append_2 : xa_d xP 83 2 (.aload_n 0) 1 3 := ⟨by decide +kernel, rfl⟩
theorem e_W_append_3 : xa_d xP 83 3 (.iload_n 1) 1 4 := ⟨by decide +kernel, rfl⟩
theorem e_W_append_4 : xa_d xP 83 4 (.iload_n 2) 1 5 := ⟨by decide +kernel, rfl⟩
theorem e_W_append_5 : xa_d xP 83 5 (.invokevirtual 60) 3 8 := ⟨by decide +kernel, rfl⟩
theorem e_W_append_8 : xa_d xP 83 8 (.i2l) 1 9 := ⟨by decide +kernel, rfl⟩
theorem e_W_append_9 : xa_d xP 83 9 (.lastore) 1 10 := ⟨by decide +kernel, rfl⟩
theorem e_W_append_10 : xa_db xP 83 10 (.goto 15) 3 13 15 25 := ⟨⟨by decide +kernel, rfl⟩, rfl⟩
theorem e_W_append_13 : xa_d xP 83 13 (.astore 4) 2 15 := ⟨by decide +kernel, rfl⟩
theorem e_W_append_15 : xa_d xP 83 15 (.iconst 1) 1 16 := ⟨by decide +kernel, rfl⟩
theorem e_W_append_16 : xa_d xP 83 16 (.ireturn) 1 17 := ⟨by decide +kernel, rfl⟩
theorem e_W_append_17 : xa_d xP 83 17 (.astore 4) 2 19 := ⟨by decide +kernel, rfl⟩
theorem e_W_append_19 : xa_d xP 83 19 (.iconst 2) 1 20 := ⟨by decide +kernel, rfl⟩
theorem e_W_append_20 : xa_d xP 83 20 (.ireturn) 1 21 := ⟨by decide +kernel, rfl⟩
theorem e_W_append_21 : xa_d xP 83 21 (.astore 4) 2 23 := ⟨by decide +kernel, rfl⟩
theorem e_W_append_23 : xa_d xP 83 23 (.iconst 3) 1 24 := ⟨by decide +kernel, rfl⟩
theorem e_W_append_24 : xa_d xP 83 24 (.ireturn) 1 25 := ⟨by decide +kernel, rfl⟩
theorem e_W_append_25 : xa_d xP 83 25 (.iconst 0) 1 26 := ⟨by decide +kernel, rfl⟩
theorem e_W_append_26 : xa_d xP 83 26 (.ireturn) 1 27 := ⟨by decide +kernel, rfl⟩
theorem e_CG_append_0 : xa_d xP 84 0 (.aload_n 0) 1 1 := ⟨by decide +kernel, rfl⟩
theorem e_CG_append_1 : xa_d xP 84 1 (.iload_n 1) 1 2 := ⟨by decide +kernel, rfl⟩
theorem e_CG_append_2 : xa_d xP 84 2 (.invokevirtual 61) 3 5 := ⟨by decide +kernel, rfl⟩
theorem e_CG_append_5 : xa_d xP 84 5 (.aload_n 0) 1 6 := ⟨by decide +kernel, rfl⟩
theorem e_CG_append_6 : xa_d xP 84 6 (.getfield 10) 3 9 := ⟨by decide +kernel, rfl⟩
theorem e_CG_append_9 : xa_d xP 84 9 (.iload_n 1) 1 10 := ⟨by decide +kernel, rfl⟩
theorem e_CG_append_10 : xa_d xP 84 10 (.invokevirtual 166) 3 13 := ⟨by decide +kernel, rfl⟩
theorem e_CG_append_13 : xa_db xP 84 13 (.ifCond .eq 13) 3 16 13 26 := ⟨⟨by decide +kernel, rfl⟩, rfl⟩
theorem e_CG_append_16 : xa_d xP 84 16 (.new 94) 3 19 := ⟨by decide +kernel, rfl⟩
theorem e_CG_append_19 : xa_d xP 84 19 (.dup) 1 20 := ⟨by decide +kernel, rfl⟩
theorem e_CG_append_20 : xa_d xP 84 20 (.ldc 169) 2 22 := ⟨by decide +kernel, rfl⟩
theorem e_CG_append_22 : xa_d xP 84 22 (.invokespecial 98) 3 25 := ⟨by decide +kernel, rfl⟩
theorem e_CG_append_25 : xa_d xP 84 25 (.athrow) 1 26 := ⟨by decide +kernel, rfl⟩
theorem e_CG_append_26 : xa_d xP 84 26 (.iload_n 2) 1 27 := ⟨by decide +kernel, rfl⟩
theorem e_CG_append_27 : xa_db xP 84 27 (.ifCond .lt 18) 3 30 18 45 := ⟨⟨by decide +kernel, rfl⟩, rfl⟩
theorem e_CG_append_30 : xa_d xP 84 30 (.iload_n 2) 1 31 := ⟨by decide +kernel, rfl⟩
theorem e_CG_append_31 : xa_d xP 84 31 (.getstatic 171) 3 34 := ⟨by decide +kernel, rfl⟩
theorem e_CG_append_34 : xa_d xP 84 34 (.aload_n 0) 1 35 := ⟨by decide +kernel, rfl⟩
theorem e_CG_append_35 : xa_d xP 84 35 (.getfield 10) 3 38 := ⟨by decide +kernel, rfl⟩
theorem e_CG_append_38 : xa_d xP 84 38 (.getfield 44) 3 41 := ⟨by decide +kernel, rfl⟩
theorem e_CG_append_41 : xa_d xP 84 41 (.iaload) 1 42 := ⟨by decide +kernel, rfl⟩
theorem e_CG_append_42 : xa_db xP 84 42 (.if_icmp .lt 13) 3 45 13 55 := ⟨⟨by decide +kernel, rfl⟩, rfl⟩
theorem e_CG_append_45 : xa_d xP 84 45 (.new 94) 3 48 := ⟨by decide +kernel, rfl⟩
theorem e_CG_append_48 : xa_d xP 84 48 (.dup) 1 49 := ⟨by decide +kernel, rfl⟩
theorem e_CG_append_49 : xa_d xP 84 49 (.ldc 174) 2 51 := ⟨by decide +kernel, rfl⟩
theorem e_CG_append_51 : xa_d xP 84 51 (.invokespecial 98) 3 54 := ⟨by decide +kernel, rfl⟩
theorem e_CG_append_54 : xa_d xP 84 54 (.athrow) 1 55 := ⟨by decide +kernel, rfl⟩
theorem e_CG_append_55 : xa_d xP 84 55 (.aload_n 0) 1 56 := ⟨by decide +kernel, rfl⟩
theorem e_CG_append_56 : xa_d xP 84 56 (.getfield 26) 3 59 := ⟨by decide +kernel, rfl⟩
theorem e_CG_append_59 : xa_d xP 84 59 (.getfield 158) 3 62 := ⟨by decide +kernel, rfl⟩
theorem e_CG_append_62 : xa_d xP 84 62 (.iload_n 1) 1 63 := ⟨by decide +kernel, rfl⟩
theorem e_CG_append_63 : xa_d xP 84 63 (.aaload) 1 64 := ⟨by decide +kernel, rfl⟩
theorem e_CG_append_64 : xa_d xP 84 64 (.getfield 152) 3 67 := ⟨by decide +kernel, rfl⟩
theorem e_CG_append_67 : xa_d xP 84 67 (.bipush 8) 2 69 := ⟨by decide +kernel, rfl⟩
theorem e_CG_append_69 : xa_db xP 84 69 (.if_icmp .lt 13) 3 72 13 82 := ⟨⟨by decide +kernel, rfl⟩, rfl⟩
theorem e_CG_append_72 : xa_d xP 84 72 (.new 47) 3 75 := ⟨by decide +kernel, rfl⟩
theorem e_CG_append_75 : xa_d xP 84 75 (.dup) 1 76 := ⟨by decide +kernel, rfl⟩
theorem e_CG_append_76 : xa_d xP 84 76 (.ldc 176) 2 78 := ⟨by decide +kernel, rfl⟩
theorem e_CG_append_78 : xa_d xP 84 78 (.invokespecial 51) 3 81 := ⟨by decide +kernel, rfl⟩
theorem e_CG_append_81 : xa_d xP 84 81 (.athrow) 1 82 := ⟨by decide +kernel, rfl⟩
theorem e_CG_append_82 : xa_d xP 84 82 (.aload_n 0) 1 83 := ⟨by decide +kernel, rfl⟩
theorem e_CG_append_83 : xa_d xP 84 83 (.getfield 26) 3 86 := ⟨by decide +kernel, rfl⟩
theorem e_CG_append_86 : xa_d xP 84 86 (.getfield 158) 3 89 := ⟨by decide +kernel, rfl⟩
end
section
/-! Decode rows (printed by wip/whole/gen_prog.py). -/
theorem e_CG_append_89 : xa_d xP 84 89 (.iload_n 1) 1 90 := ⟨by decide +kernel, rfl⟩
theorem e_CG_append_90 : xa_d xP 84 90 (.aaload) 1 91 := ⟨by decide +kernel, rfl⟩
theorem e_CG_append_91 : xa_d xP 84 91 (.iload_n 2) 1 92 := ⟨by decide +kernel, rfl⟩
theorem e_CG_append_92 : xa_d xP 84 92 (.aload_n 0) 1 93 := ⟨by decide +kernel, rfl⟩
theorem e_CG_append_93 : xa_d xP 84 93 (.getfield 33) 3 96 := ⟨by decide +kernel, rfl⟩
theorem e_CG_append_96 : xa_d xP 84 96 (.iload_n 2) 1 97 := ⟨by decide +kernel, rfl⟩
theorem e_CG_append_97 : xa_d xP 84 97 (.invokevirtual 178) 3 100 := ⟨by decide +kernel, rfl⟩
theorem e_CG_append_100 : xa_d xP 84 100 (.invokevirtual 182) 3 103 := ⟨by decide +kernel, rfl⟩
theorem e_CG_append_103 : xa_d xP 84 103 (.ireturn) 1 104 := ⟨by decide +kernel, rfl⟩
theorem e_L_spanOf_0 : xa_d xP 85 0 (.aload_n 0) 1 1 := ⟨by decide +kernel, rfl⟩
theorem e_L_spanOf_1 : xa_d xP 85 1 (.getfield 38) 3 4 := ⟨by decide +kernel, rfl⟩
theorem e_L_spanOf_4 : xa_d xP 85 4 (.iload_n 1) 1 5 := ⟨by decide +kernel, rfl⟩
theorem e_L_spanOf_5 : xa_d xP 85 5 (.iaload) 1 6 := ⟨by decide +kernel, rfl⟩
theorem e_L_spanOf_6 : xa_d xP 85 6 (.ireturn) 1 7 := ⟨by decide +kernel, rfl⟩
theorem e_W_strip_0 : xa_d xP 86 0 (.aload_n 0) 1 1 := ⟨by decide +kernel, rfl⟩
theorem e_W_strip_1 : xa_d xP 86 1 (.iload_n 1) 1 2 := ⟨by decide +kernel, rfl⟩
theorem e_W_strip_2 : xa_d xP 86 2 (.invokevirtual 63) 3 5 := ⟨by decide +kernel, rfl⟩
theorem e_W_strip_5 : xa_db xP 86 5 (.goto 6) 3 8 6 11 := ⟨⟨by decide +kernel, rfl⟩, rfl⟩
theorem e_W_strip_8 : xa_d xP 86 8 (.astore_n 2) 1 9 := ⟨by decide +kernel, rfl⟩
theorem e_W_strip_9 : xa_d xP 86 9 (.iconst 1) 1 10 := ⟨by decide +kernel, rfl⟩
theorem e_W_strip_10 : xa_d xP 86 10 (.ireturn) 1 11 := ⟨by decide +kernel, rfl⟩
theorem e_W_strip_11 : xa_d xP 86 11 (.iconst 0) 1 12 := ⟨by decide +kernel, rfl⟩
theorem e_W_strip_12 : xa_d xP 86 12 (.ireturn) 1 13 := ⟨by decide +kernel, rfl⟩
theorem e_CG_strip_0 : xa_d xP 87 0 (.aload_n 0) 1 1 := ⟨by decide +kernel, rfl⟩
theorem e_CG_strip_1 : xa_d xP 87 1 (.iload_n 1) 1 2 := ⟨by decide +kernel, rfl⟩
theorem e_CG_strip_2 : xa_d xP 87 2 (.invokevirtual 61) 3 5 := ⟨by decide +kernel, rfl⟩
theorem e_CG_strip_5 : xa_d xP 87 5 (.aload_n 0) 1 6 := ⟨by decide +kernel, rfl⟩
theorem e_CG_strip_6 : xa_d xP 87 6 (.getfield 26) 3 9 := ⟨by decide +kernel, rfl⟩
theorem e_CG_strip_9 : xa_d xP 87 9 (.getfield 158) 3 12 := ⟨by decide +kernel, rfl⟩
theorem e_CG_strip_12 : xa_d xP 87 12 (.iload_n 1) 1 13 := ⟨by decide +kernel, rfl⟩
theorem e_CG_strip_13 : xa_d xP 87 13 (.aaload) 1 14 := ⟨by decide +kernel, rfl⟩
theorem e_CG_strip_14 : xa_d xP 87 14 (.invokevirtual 186) 3 17 := ⟨by decide +kernel, rfl⟩
theorem e_CG_strip_17 : xa_d xP 87 17 (.return_) 1 18 := ⟨by decide +kernel, rfl⟩
theorem e_W_value_0 : xa_d xP 88 0 (.aload_n 3) 1 1 := ⟨by decide +kernel, rfl⟩
theorem e_W_value_1 : xa_d xP 88 1 (.iconst 0) 1 2 := ⟨by decide +kernel, rfl⟩
theorem e_W_value_2 : xa_d xP 88 2 (.aload_n 0) 1 3 := ⟨by decide +kernel, rfl⟩
theorem e_W_value_3 : xa_d xP 88 3 (.iload_n 1) 1 4 := ⟨by decide +kernel, rfl⟩
theorem e_W_value_4 : xa_d xP 88 4 (.iload_n 2) 1 5 := ⟨by decide +kernel, rfl⟩
theorem e_W_value_5 : xa_d xP 88 5 (.invokevirtual 67) 3 8 := ⟨by decide +kernel, rfl⟩
theorem e_W_value_8 : xa_d xP 88 8 (.i2l) 1 9 := ⟨by decide +kernel, rfl⟩
theorem e_W_value_9 : xa_d xP 88 9 (.lastore) 1 10 := ⟨by decide +kernel, rfl⟩
theorem e_W_value_10 : xa_db xP 88 10 (.goto 7) 3 13 7 17 := ⟨⟨by decide +kernel, rfl⟩, rfl⟩
theorem e_W_value_13 : xa_d xP 88 13 (.astore 4) 2 15 := ⟨by decide +kernel, rfl⟩
theorem e_W_value_15 : xa_d xP 88 15 (.iconst 1) 1 16 := ⟨by decide +kernel, rfl⟩
theorem e_W_value_16 : xa_d xP 88 16 (.ireturn) 1 17 := ⟨by decide +kernel, rfl⟩
theorem e_W_value_17 : xa_d xP 88 17 (.iconst 0) 1 18 := ⟨by decide +kernel, rfl⟩
theorem e_W_value_18 : xa_d xP 88 18 (.ireturn) 1 19 := ⟨by decide +kernel, rfl⟩
theorem e_CG_value_0 : xa_d xP 89 0 (.aload_n 0) 1 1 := ⟨by decide +kernel, rfl⟩
theorem e_CG_value_1 : xa_d xP 89 1 (.iload_n 1) 1 2 := ⟨by decide +kernel, rfl⟩
theorem e_CG_value_2 : xa_d xP 89 2 (.invokevirtual 61) 3 5 := ⟨by decide +kernel, rfl⟩
theorem e_CG_value_5 : xa_d xP 89 5 (.iload_n 2) 1 6 := ⟨by decide +kernel, rfl⟩
theorem e_CG_value_6 : xa_db xP 89 6 (.ifCond .lt 16) 3 9 16 22 := ⟨⟨by decide +kernel, rfl⟩, rfl⟩
theorem e_CG_value_9 : xa_d xP 89 9 (.iload_n 2) 1 10 := ⟨by decide +kernel, rfl⟩
theorem e_CG_value_10 : xa_d xP 89 10 (.iconst 1) 1 11 := ⟨by decide +kernel, rfl⟩
theorem e_CG_value_11 : xa_d xP 89 11 (.aload_n 0) 1 12 := ⟨by decide +kernel, rfl⟩
theorem e_CG_value_12 : xa_d xP 89 12 (.getfield 10) 3 15 := ⟨by decide +kernel, rfl⟩
theorem e_CG_value_15 : xa_d xP 89 15 (.getfield 44) 3 18 := ⟨by decide +kernel, rfl⟩
theorem e_CG_value_18 : xa_d xP 89 18 (.ishl) 1 19 := ⟨by decide +kernel, rfl⟩
theorem e_CG_value_19 : xa_db xP 89 19 (.if_icmp .lt 13) 3 22 13 32 := ⟨⟨by decide +kernel, rfl⟩, rfl⟩
theorem e_CG_value_22 : xa_d xP 89 22 (.new 83) 3 25 := ⟨by decide +kernel, rfl⟩
theorem e_CG_value_25 : xa_d xP 89 25 (.dup) 1 26 := ⟨by decide +kernel, rfl⟩
theorem e_CG_value_26 : xa_d xP 89 26 (.ldc 189) 2 28 := ⟨by decide +kernel, rfl⟩
theorem e_CG_value_28 : xa_d xP 89 28 (.invokespecial 87) 3 31 := ⟨by decide +kernel, rfl⟩
theorem e_CG_value_31 : xa_d xP 89 31 (.athrow) 1 32 := ⟨by decide +kernel, rfl⟩
theorem e_CG_value_32 : xa_d xP 89 32 (.aload_n 0) 1 33 := ⟨by decide +kernel, rfl⟩
theorem e_CG_value_33 : xa_d xP 89 33 (.getfield 26) 3 36 := ⟨by decide +kernel, rfl⟩
theorem e_CG_value_36 : xa_d xP 89 36 (.getfield 158) 3 39 := ⟨by decide +kernel, rfl⟩
theorem e_CG_value_39 : xa_d xP 89 39 (.iload_n 1) 1 40 := ⟨by decide +kernel, rfl⟩
theorem e_CG_value_40 : xa_d xP 89 40 (.aaload) 1 41 := ⟨by decide +kernel, rfl⟩
theorem e_CG_value_41 : xa_d xP 89 41 (.iload_n 2) 1 42 := ⟨by decide +kernel, rfl⟩
theorem e_CG_value_42 : xa_d xP 89 42 (.invokevirtual 191) 3 45 := ⟨by decide +kernel, rfl⟩
theorem e_CG_value_45 : xa_d xP 89 45 (.ireturn) 1 46 := ⟨by decide +kernel, rfl⟩
theorem e_Ga_output_0 : xa_d xP 90 0 (.aload_n 0) 1 1 := ⟨by decide +kernel, rfl⟩
theorem e_Ga_output_1 : xa_d xP 90 1 (.getfield 19) 3 4 := ⟨by decide +kernel, rfl⟩
theorem e_Ga_output_4 : xa_d xP 90 4 (.iload_n 1) 1 5 := ⟨by decide +kernel, rfl⟩
theorem e_Ga_output_5 : xa_d xP 90 5 (.iushr) 1 6 := ⟨by decide +kernel, rfl⟩
theorem e_Ga_output_6 : xa_d xP 90 6 (.iconst 1) 1 7 := ⟨by decide +kernel, rfl⟩
theorem e_Ga_output_7 : xa_d xP 90 7 (.iand) 1 8 := ⟨by decide +kernel, rfl⟩
theorem e_Ga_output_8 : xa_d xP 90 8 (.ireturn) 1 9 := ⟨by decide +kernel, rfl⟩
theorem e_W_check_0 : xa_d xP 91 0 (.aload_n 1) 1 1 := ⟨by decide +kernel, rfl⟩
theorem e_W_check_1 : xa_d xP 91 1 (.iconst 0) 1 2 := ⟨by decide +kernel, rfl⟩
theorem e_W_check_2 : xa_d xP 91 2 (.aload_n 0) 1 3 := ⟨by decide +kernel, rfl⟩
theorem e_W_check_3 : xa_d xP 91 3 (.invokevirtual 70) 3 6 := ⟨by decide +kernel, rfl⟩
theorem e_W_check_6 : xa_d xP 91 6 (.i2l) 1 7 := ⟨by decide +kernel, rfl⟩
theorem e_W_check_7 : xa_d xP 91 7 (.lastore) 1 8 := ⟨by decide +kernel, rfl⟩
theorem e_W_check_8 : xa_db xP 91 8 (.goto 6) 3 11 6 14 := ⟨⟨by decide +kernel, rfl⟩, rfl⟩
theorem e_W_check_11 : xa_d xP 91 11 (.astore_n 2) 1 12 := ⟨by decide +kernel, rfl⟩
theorem e_W_check_12 : xa_d xP 91 12 (.iconst 1) 1 13 := ⟨by decide +kernel, rfl⟩
theorem e_W_check_13 : xa_d xP 91 13 (.ireturn) 1 14 := ⟨by decide +kernel, rfl⟩
theorem e_W_check_14 : xa_d xP 91 14 (.iconst 0) 1 15 := ⟨by decide +kernel, rfl⟩
theorem e_W_check_15 : xa_d xP 91 15 (.ireturn) 1 16 := ⟨by decide +kernel, rfl⟩
theorem e_CG_check_0 : xa_d xP 92 0 (.aload_n 0) 1 1 := ⟨by decide +kernel, rfl⟩
theorem e_CG_check_1 : xa_d xP 92 1 (.invokevirtual 136) 3 4 := ⟨by decide +kernel, rfl⟩
theorem e_CG_check_4 : xa_d xP 92 4 (.aload_n 0) 1 5 := ⟨by decide +kernel, rfl⟩
theorem e_CG_check_5 : xa_d xP 92 5 (.getfield 26) 3 8 := ⟨by decide +kernel, rfl⟩
theorem e_CG_check_8 : xa_d xP 92 8 (.aload_n 0) 1 9 := ⟨by decide +kernel, rfl⟩
theorem e_CG_check_9 : xa_d xP 92 9 (.getfield 10) 3 12 := ⟨by decide +kernel, rfl⟩
theorem e_CG_check_12 : xa_d xP 92 12 (.aload_n 0) 1 13 := ⟨by decide +kernel, rfl⟩
theorem e_CG_check_13 : xa_d xP 92 13 (.getfield 19) 3 16 := ⟨by decide +kernel, rfl⟩
theorem e_CG_check_16 : xa_d xP 92 16 (.invokevirtual 194) 3 19 := ⟨by decide +kernel, rfl⟩
theorem e_CG_check_19 : xa_d xP 92 19 (.istore_n 1) 1 20 := ⟨by decide +kernel, rfl⟩
theorem e_CG_check_20 : xa_d xP 92 20 (.aload_n 0) 1 21 := ⟨by decide +kernel, rfl⟩
theorem e_CG_check_21 : xa_d xP 92 21 (.aload_n 0) 1 22 := ⟨by decide +kernel, rfl⟩
theorem e_CG_check_22 : xa_d xP 92 22 (.getfield 26) 3 25 := ⟨by decide +kernel, rfl⟩
theorem e_CG_check_25 : xa_d xP 92 25 (.getfield 198) 3 28 := ⟨by decide +kernel, rfl⟩
theorem e_CG_check_28 : xa_d xP 92 28 (.putfield 41) 3 31 := ⟨by decide +kernel, rfl⟩
theorem e_CG_check_31 : xa_d xP 92 31 (.iload_n 1) 1 32 := ⟨by decide +kernel, rfl⟩
theorem e_CG_check_32 : xa_d xP 92 32 (.ireturn) 1 33 := ⟨by decide +kernel, rfl⟩
theorem e_Ci_explore_0 : xa_d xP 93 0 (.aload_n 0) 1 1 := ⟨by decide +kernel, rfl⟩
theorem e_Ci_explore_1 : xa_d xP 93 1 (.aload_n 1) 1 2 := ⟨by decide +kernel, rfl⟩
theorem e_Ci_explore_2 : xa_d xP 93 2 (.aload_n 2) 1 3 := ⟨by decide +kernel, rfl⟩
theorem e_Ci_explore_3 : xa_d xP 93 3 (.invokevirtual 32) 3 6 := ⟨by decide +kernel, rfl⟩
theorem e_Ci_explore_6 : xa_d xP 93 6 (.iconst 1) 1 7 := ⟨by decide +kernel, rfl⟩
theorem e_Ci_explore_7 : xa_d xP 93 7 (.istore_n 3) 1 8 := ⟨by decide +kernel, rfl⟩
theorem e_Ci_explore_8 : xa_d xP 93 8 (.iload_n 3) 1 9 := ⟨by decide +kernel, rfl⟩
theorem e_Ci_explore_9 : xa_d xP 93 9 (.iconst 3) 1 10 := ⟨by decide +kernel, rfl⟩
theorem e_Ci_explore_10 : xa_db xP 93 10 (.if_icmp .gt 30) 3 13 30 40 := ⟨⟨by decide +kernel, rfl⟩, rfl⟩
theorem e_Ci_explore_13 : xa_d xP 93 13 (.aload_n 0) 1 14 := ⟨by decide +kernel, rfl⟩
theorem e_Ci_explore_14 : xa_d xP 93 14 (.aload_n 0) 1 15 := ⟨by decide +kernel, rfl⟩
theorem e_Ci_explore_15 : xa_d xP 93 15 (.aload_n 1) 1 16 := ⟨by decide +kernel, rfl⟩
theorem e_Ci_explore_16 : xa_d xP 93 16 (.aload_n 2) 1 17 := ⟨by decide +kernel, rfl⟩
theorem e_Ci_explore_17 : xa_d xP 93 17 (.iload_n 3) 1 18 := ⟨by decide +kernel, rfl⟩
theorem e_Ci_explore_18 : xa_d xP 93 18 (.invokevirtual 36) 3 21 := ⟨by decide +kernel, rfl⟩
theorem e_Ci_explore_21 : xa_d xP 93 21 (.putfield 40) 3 24 := ⟨by decide +kernel, rfl⟩
theorem e_Ci_explore_24 : xa_d xP 93 24 (.aload_n 0) 1 25 := ⟨by decide +kernel, rfl⟩
theorem e_Ci_explore_25 : xa_d xP 93 25 (.getfield 40) 3 28 := ⟨by decide +kernel, rfl⟩
theorem e_Ci_explore_28 : xa_d xP 93 28 (.iconst (-1)) 1 29 := ⟨by decide +kernel, rfl⟩
theorem e_Ci_explore_29 : xa_db xP 93 29 (.if_icmp .eq 5) 3 32 5 34 := ⟨⟨by decide +kernel, rfl⟩, rfl⟩
theorem e_Ci_explore_32 : xa_d xP 93 32 (.iload_n 3) 1 33 := ⟨by decide +kernel, rfl⟩
theorem e_Ci_explore_33 : xa_d xP 93 33 (.ireturn) 1 34 := ⟨by decide +kernel, rfl⟩
theorem e_Ci_explore_34 : xa_d xP 93 34 (.iinc 3 1) 3 37 := ⟨by decide +kernel, rfl⟩
theorem e_Ci_explore_37 : xa_db xP 93 37 (.goto (-29)) 3 40 (-29) 8 := ⟨⟨by decide +kernel, rfl⟩, rfl⟩
theorem e_Ci_explore_40 : xa_d xP 93 40 (.iconst 0) 1 41 := ⟨by decide +kernel, rfl⟩
theorem e_Ci_explore_41 : xa_d xP 93 41 (.ireturn) 1 42 := ⟨by decide +kernel, rfl⟩
theorem e_Ci_reachStates_0 : xa_d xP 94 0 (.iconst 0) 1 1 := ⟨by decide +kernel, rfl⟩
theorem e_Ci_reachStates_1 : xa_d xP 94 1 (.istore_n 3) 1 2 := ⟨by decide +kernel, rfl⟩
theorem e_Ci_reachStates_2 : xa_d xP 94 2 (.iload_n 3) 1 3 := ⟨by decide +kernel, rfl⟩
theorem e_Ci_reachStates_3 : xa_d xP 94 3 (.bipush 80) 2 5 := ⟨by decide +kernel, rfl⟩
theorem e_Ci_reachStates_5 : xa_db xP 94 5 (.if_icmp .ge 16) 3 8 16 21 := ⟨⟨by decide +kernel, rfl⟩, rfl⟩
theorem e_Ci_reachStates_8 : xa_d xP 94 8 (.aload_n 0) 1 9 := ⟨by decide +kernel, rfl⟩
theorem e_Ci_reachStates_9 : xa_d xP 94 9 (.getfield 20) 3 12 := ⟨by decide +kernel, rfl⟩
theorem e_Ci_reachStates_12 : xa_d xP 94 12 (.iload_n 3) 1 13 := ⟨by decide +kernel, rfl⟩
theorem e_Ci_reachStates_13 : xa_d xP 94 13 (.iconst 0) 1 14 := ⟨by decide +kernel, rfl⟩
theorem e_Ci_reachStates_14 : xa_d xP 94 14 (.bastore) 1 15 := ⟨by decide +kernel, rfl⟩
theorem e_Ci_reachStates_15 : xa_d xP 94 15 (.iinc 3 1) 3 18 := ⟨by decide +kernel, rfl⟩
theorem e_Ci_reachStates_18 : xa_db xP 94 18 (.goto (-16)) 3 21 (-16) 2 := ⟨⟨by decide +kernel, rfl⟩, rfl⟩
theorem e_Ci_reachStates_21 : xa_d xP 94 21 (.aload_n 0) 1 22 := ⟨by decide +kernel, rfl⟩
theorem e_Ci_reachStates_22 : xa_d xP 94 22 (.iconst 0) 1 23 := ⟨by decide +kernel, rfl⟩
theorem e_Ci_reachStates_23 : xa_d xP 94 23 (.putfield 44) 3 26 := ⟨by decide +kernel, rfl⟩
theorem e_Ci_reachStates_26 : xa_d xP 94 26 (.aload_n 0) 1 27 := ⟨by decide +kernel, rfl⟩
theorem e_Ci_reachStates_27 : xa_d xP 94 27 (.iconst 0) 1 28 := ⟨by decide +kernel, rfl⟩
theorem e_Ci_reachStates_28 : xa_d xP 94 28 (.invokevirtual 47) 3 31 := ⟨by decide +kernel, rfl⟩
theorem e_Ci_reachStates_31 : xa_d xP 94 31 (.iconst 0) 1 32 := ⟨by decide +kernel, rfl⟩
theorem e_Ci_reachStates_32 : xa_d xP 94 32 (.istore_n 3) 1 33 := ⟨by decide +kernel, rfl⟩
theorem e_Ci_reachStates_33 : xa_d xP 94 33 (.iload_n 3) 1 34 := ⟨by decide +kernel, rfl⟩
theorem e_Ci_reachStates_34 : xa_d xP 94 34 (.bipush 80) 2 36 := ⟨by decide +kernel, rfl⟩
theorem e_Ci_reachStates_36 : xa_db xP 94 36 (.if_icmp .ge 68) 3 39 68 104 := ⟨⟨by decide +kernel, rfl⟩, rfl⟩
theorem e_Ci_reachStates_39 : xa_d xP 94 39 (.iload_n 3) 1 40 := ⟨by decide +kernel, rfl⟩
theorem e_Ci_reachStates_40 : xa_d xP 94 40 (.aload_n 0) 1 41 := ⟨by decide +kernel, rfl⟩
theorem e_Ci_reachStates_41 : xa_d xP 94 41 (.getfield 44) 3 44 := ⟨by decide +kernel, rfl⟩
theorem e_Ci_reachStates_44 : xa_db xP 94 44 (.if_icmp .ge 60) 3 47 60 104 := ⟨⟨by decide +kernel, rfl⟩, rfl⟩
theorem e_Ci_reachStates_47 : xa_d xP 94 47 (.aload_n 0) 1 48 := ⟨by decide +kernel, rfl⟩
theorem e_Ci_reachStates_48 : xa_d xP 94 48 (.getfield 24) 3 51 := ⟨by decide +kernel, rfl⟩
theorem e_Ci_reachStates_51 : xa_d xP 94 51 (.iload_n 3) 1 52 := ⟨by decide +kernel, rfl⟩
theorem e_Ci_reachStates_52 : xa_d xP 94 52 (.iaload) 1 53 := ⟨by decide +kernel, rfl⟩
theorem e_Ci_reachStates_53 : xa_d xP 94 53 (.istore 4) 2 55 := ⟨by decide +kernel, rfl⟩
theorem e_Ci_reachStates_55 : xa_d xP 94 55 (.iconst 0) 1 56 := ⟨by decide +kernel, rfl⟩
theorem e_Ci_reachStates_56 : xa_d xP 94 56 (.istore 5) 2 58 := ⟨by decide +kernel, rfl⟩
theorem e_Ci_reachStates_58 : xa_d xP 94 58 (.iload 5) 2 60 := ⟨by decide +kernel, rfl⟩
theorem e_Ci_reachStates_60 : xa_d xP 94 60 (.aload_n 1) 1 61 := ⟨by decide +kernel, rfl⟩
theorem e_Ci_reachStates_61 : xa_d xP 94 61 (.getfield 51) 3 64 := ⟨by decide +kernel, rfl⟩
theorem e_Ci_reachStates_64 : xa_db xP 94 64 (.if_icmp .ge 34) 3 67 34 98 := ⟨⟨by decide +kernel, rfl⟩, rfl⟩
theorem e_Ci_reachStates_67 : xa_d xP 94 67 (.aload_n 0) 1 68 := ⟨by decide +kernel, rfl⟩
theorem e_Ci_reachStates_68 : xa_d xP 94 68 (.aload_n 1) 1 69 := ⟨by decide +kernel, rfl⟩
theorem e_Ci_reachStates_69 : xa_d xP 94 69 (.aload_n 2) 1 70 := ⟨by decide +kernel, rfl⟩
theorem e_Ci_reachStates_70 : xa_d xP 94 70 (.iload 4) 2 72 := ⟨by decide +kernel, rfl⟩
theorem e_Ci_reachStates_72 : xa_d xP 94 72 (.iload 5) 2 74 := ⟨by decide +kernel, rfl⟩
theorem e_Ci_reachStates_74 : xa_d xP 94 74 (.invokevirtual 56) 3 77 := ⟨by decide +kernel, rfl⟩
theorem e_Ci_reachStates_77 : xa_db xP 94 77 (.ifCond .eq 15) 3 80 15 92 := ⟨⟨by decide +kernel, rfl⟩, rfl⟩
theorem e_Ci_reachStates_80 : xa_d xP 94 80 (.aload_n 0) 1 81 := ⟨by decide +kernel, rfl⟩
theorem e_Ci_reachStates_81 : xa_d xP 94 81 (.aload_n 2) 1 82 := ⟨by decide +kernel, rfl⟩
theorem e_Ci_reachStates_82 : xa_d xP 94 82 (.iload 4) 2 84 := ⟨by decide +kernel, rfl⟩
theorem e_Ci_reachStates_84 : xa_d xP 94 84 (.iload 5) 2 86 := ⟨by decide +kernel, rfl⟩
theorem e_Ci_reachStates_86 : xa_d xP 94 86 (.invokevirtual 60) 3 89 := ⟨by decide +kernel, rfl⟩
theorem e_Ci_reachStates_89 : xa_d xP 94 89 (.invokevirtual 47) 3 92 := ⟨by decide +kernel, rfl⟩
theorem e_Ci_reachStates_92 : xa_d xP 94 92 (.iinc 5 1) 3 95 := ⟨by decide +kernel, rfl⟩
theorem e_Ci_reachStates_95 : xa_db xP 94 95 (.goto (-37)) 3 98 (-37) 58 := ⟨⟨by decide +kernel, rfl⟩, rfl⟩
theorem e_Ci_reachStates_98 : xa_d xP 94 98 (.iinc 3 1) 3 101 := ⟨by decide +kernel, rfl⟩
theorem e_Ci_reachStates_101 : xa_db xP 94 101 (.goto (-68)) 3 104 (-68) 33 := ⟨⟨by decide +kernel, rfl⟩, rfl⟩
theorem e_Ci_reachStates_104 : xa_d xP 94 104 (.return_) 1 105 := ⟨by decide +kernel, rfl⟩
theorem e_Ci_reach_0 : xa_d xP 95 0 (.aload_n 0) 1 1 := ⟨by decide +kernel, rfl⟩
theorem e_Ci_reach_1 : xa_d xP 95 1 (.getfield 20) 3 4 := ⟨by decide +kernel, rfl⟩
theorem e_Ci_reach_4 : xa_d xP 95 4 (.iload_n 1) 1 5 := ⟨by decide +kernel, rfl⟩
theorem e_Ci_reach_5 : xa_d xP 95 5 (.baload) 1 6 := ⟨by decide +kernel, rfl⟩
theorem e_Ci_reach_6 : xa_db xP 95 6 (.ifCond .ne 30) 3 9 30 36 := ⟨⟨by decide +kernel, rfl⟩, rfl⟩
theorem e_Ci_reach_9 : xa_d xP 95 9 (.aload_n 0) 1 10 := ⟨by decide +kernel, rfl⟩
theorem e_Ci_reach_10 : xa_d xP 95 10 (.getfield 20) 3 13 := ⟨by decide +kernel, rfl⟩
theorem e_Ci_reach_13 : xa_d xP 95 13 (.iload_n 1) 1 14 := ⟨by decide +kernel, rfl⟩
theorem e_Ci_reach_14 : xa_d xP 95 14 (.iconst 1) 1 15 := ⟨by decide +kernel, rfl⟩
theorem e_Ci_reach_15 : xa_d xP 95 15 (.bastore) 1 16 := ⟨by decide +kernel, rfl⟩
theorem e_Ci_reach_16 : xa_d xP 95 16 (.aload_n 0) 1 17 := ⟨by decide +kernel, rfl⟩
theorem e_Ci_reach_17 : xa_d xP 95 17 (.getfield 24) 3 20 := ⟨by decide +kernel, rfl⟩
theorem e_Ci_reach_20 : xa_d xP 95 20 (.aload_n 0) 1 21 := ⟨by decide +kernel, rfl⟩
theorem e_Ci_reach_21 : xa_d xP 95 21 (.getfield 44) 3 24 := ⟨by decide +kernel, rfl⟩
theorem e_Ci_reach_24 : xa_d xP 95 24 (.iload_n 1) 1 25 := ⟨by decide +kernel, rfl⟩
theorem e_Ci_reach_25 : xa_d xP 95 25 (.iastore) 1 26 := ⟨by decide +kernel, rfl⟩
theorem e_Ci_reach_26 : xa_d xP 95 26 (.aload_n 0) 1 27 := ⟨by decide +kernel, rfl⟩
theorem e_Ci_reach_27 : xa_d xP 95 27 (.dup) 1 28 := ⟨by decide +kernel, rfl⟩
theorem e_Ci_reach_28 : xa_d xP 95 28 (.getfield 44) 3 31 := ⟨by decide +kernel, rfl⟩
theorem e_Ci_reach_31 : xa_d xP 95 31 (.iconst 1) 1 32 := ⟨by decide +kernel, rfl⟩
theorem e_Ci_reach_32 : xa_d xP 95 32 (.iadd) 1 33 := ⟨by decide +kernel, rfl⟩
theorem e_Ci_reach_33 : xa_d xP 95 33 (.putfield 44) 3 36 := ⟨by decide +kernel, rfl⟩
theorem e_Ci_reach_36 : xa_d xP 95 36 (.return_) 1 37 := ⟨by decide +kernel, rfl⟩
theorem e_Ci_mayFire_0 : xa_d xP 96 0 (.aload_n 2) 1 1 := ⟨by decide +kernel, rfl⟩
theorem e_Ci_mayFire_1 : xa_d xP 96 1 (.iload_n 3) 1 2 := ⟨by decide +kernel, rfl⟩
theorem e_Ci_mayFire_2 : xa_d xP 96 2 (.iload 4) 2 4 := ⟨by decide +kernel, rfl⟩
theorem e_Ci_mayFire_4 : xa_d xP 96 4 (.invokevirtual 60) 3 7 := ⟨by decide +kernel, rfl⟩
theorem e_Ci_mayFire_7 : xa_d xP 96 7 (.iconst (-1)) 1 8 := ⟨by decide +kernel, rfl⟩
theorem e_Ci_mayFire_8 : xa_db xP 96 8 (.if_icmp .ne 5) 3 11 5 13 := ⟨⟨by decide +kernel, rfl⟩, rfl⟩
theorem e_Ci_mayFire_11 : xa_d xP 96 11 (.iconst 0) 1 12 := ⟨by decide +kernel, rfl⟩
theorem e_Ci_mayFire_12 : xa_d xP 96 12 (.ireturn) 1 13 := ⟨by decide +kernel, rfl⟩
theorem e_Ci_mayFire_13 : xa_d xP 96 13 (.aload_n 1) 1 14 := ⟨by decide +kernel, rfl⟩
theorem e_Ci_mayFire_14 : xa_d xP 96 14 (.iload 4) 2 16 := ⟨by decide +kernel, rfl⟩
theorem e_Ci_mayFire_16 : xa_d xP 96 16 (.invokevirtual 66) 3 19 := ⟨by decide +kernel, rfl⟩
theorem e_Ci_mayFire_19 : xa_d xP 96 19 (.istore 5) 2 21 := ⟨by decide +kernel, rfl⟩
theorem e_Ci_mayFire_21 : xa_d xP 96 21 (.aload_n 1) 1 22 := ⟨by decide +kernel, rfl⟩
theorem e_Ci_mayFire_22 : xa_d xP 96 22 (.iload 5) 2 24 := ⟨by decide +kernel, rfl⟩
theorem e_Ci_mayFire_24 : xa_d xP 96 24 (.invokevirtual 70) 3 27 := ⟨by decide +kernel, rfl⟩
theorem e_Ci_mayFire_27 : xa_db xP 96 27 (.ifCond .ne 28) 3 30 28 55 := ⟨⟨by decide +kernel, rfl⟩, rfl⟩
theorem e_Ci_mayFire_30 : xa_d xP 96 30 (.aload_n 0) 1 31 := ⟨by decide +kernel, rfl⟩
theorem e_Ci_mayFire_31 : xa_d xP 96 31 (.getfield 11) 3 34 := ⟨by decide +kernel, rfl⟩
theorem e_Ci_mayFire_34 : xa_d xP 96 34 (.iload 5) 2 36 := ⟨by decide +kernel, rfl⟩
theorem e_Ci_mayFire_36 : xa_d xP 96 36 (.aaload) 1 37 := ⟨by decide +kernel, rfl⟩
theorem e_Ci_mayFire_37 : xa_d xP 96 37 (.aload_n 2) 1 38 := ⟨by decide +kernel, rfl⟩
theorem e_Ci_mayFire_38 : xa_d xP 96 38 (.getfield 74) 3 41 := ⟨by decide +kernel, rfl⟩
theorem e_Ci_mayFire_41 : xa_d xP 96 41 (.iload_n 3) 1 42 := ⟨by decide +kernel, rfl⟩
theorem e_Ci_mayFire_42 : xa_d xP 96 42 (.iaload) 1 43 := ⟨by decide +kernel, rfl⟩
theorem e_Ci_mayFire_43 : xa_d xP 96 43 (.invokevirtual 77) 3 46 := ⟨by decide +kernel, rfl⟩
theorem e_Ci_mayFire_46 : xa_d xP 96 46 (.aload_n 1) 1 47 := ⟨by decide +kernel, rfl⟩
theorem e_Ci_mayFire_47 : xa_d xP 96 47 (.iload 4) 2 49 := ⟨by decide +kernel, rfl⟩
theorem e_Ci_mayFire_49 : xa_d xP 96 49 (.invokevirtual 80) 3 52 := ⟨by decide +kernel, rfl⟩
theorem e_Ci_mayFire_52 : xa_db xP 96 52 (.if_icmp .ne 7) 3 55 7 59 := ⟨⟨by decide +kernel, rfl⟩, rfl⟩
theorem e_Ci_mayFire_55 : xa_d xP 96 55 (.iconst 1) 1 56 := ⟨by decide +kernel, rfl⟩
theorem e_Ci_mayFire_56 : xa_db xP 96 56 (.goto 4) 3 59 4 60 := ⟨⟨by decide +kernel, rfl⟩, rfl⟩
theorem e_Ci_mayFire_59 : xa_d xP 96 59 (.iconst 0) 1 60 := ⟨by decide +kernel, rfl⟩
theorem e_Ci_mayFire_60 : xa_d xP 96 60 (.ireturn) 1 61 := ⟨by decide +kernel, rfl⟩
theorem e_Ci_leastFaultyState_0 : xa_d xP 97 0 (.iconst 0) 1 1 := ⟨by decide +kernel, rfl⟩
theorem e_Ci_leastFaultyState_1 : xa_d xP 97 1 (.istore 4) 2 3 := ⟨by decide +kernel, rfl⟩
theorem e_Ci_leastFaultyState_3 : xa_d xP 97 3 (.iload 4) 2 5 := ⟨by decide +kernel, rfl⟩
theorem e_Ci_leastFaultyState_5 : xa_d xP 97 5 (.aload_n 2) 1 6 := ⟨by decide +kernel, rfl⟩
theorem e_Ci_leastFaultyState_6 : xa_d xP 97 6 (.getfield 83) 3 9 := ⟨by decide +kernel, rfl⟩
theorem e_Ci_leastFaultyState_9 : xa_db xP 97 9 (.if_icmp .ge 63) 3 12 63 72 := ⟨⟨by decide +kernel, rfl⟩, rfl⟩
theorem e_Ci_leastFaultyState_12 : xa_d xP 97 12 (.iconst 0) 1 13 := ⟨by decide +kernel, rfl⟩
theorem e_Ci_leastFaultyState_13 : xa_d xP 97 13 (.istore 5) 2 15 := ⟨by decide +kernel, rfl⟩
theorem e_Ci_leastFaultyState_15 : xa_d xP 97 15 (.iload 5) 2 17 := ⟨by decide +kernel, rfl⟩
theorem e_Ci_leastFaultyState_17 : xa_d xP 97 17 (.aload_n 1) 1 18 := ⟨by decide +kernel, rfl⟩
theorem e_Ci_leastFaultyState_18 : xa_d xP 97 18 (.getfield 86) 3 21 := ⟨by decide +kernel, rfl⟩
theorem e_Ci_leastFaultyState_21 : xa_db xP 97 21 (.if_icmp .ge 45) 3 24 45 66 := ⟨⟨by decide +kernel, rfl⟩, rfl⟩
theorem e_Ci_leastFaultyState_24 : xa_d xP 97 24 (.aload_n 0) 1 25 := ⟨by decide +kernel, rfl⟩
theorem e_Ci_leastFaultyState_25 : xa_d xP 97 25 (.getfield 20) 3 28 := ⟨by decide +kernel, rfl⟩
theorem e_Ci_leastFaultyState_28 : xa_d xP 97 28 (.iload 4) 2 30 := ⟨by decide +kernel, rfl⟩
theorem e_Ci_leastFaultyState_30 : xa_d xP 97 30 (.baload) 1 31 := ⟨by decide +kernel, rfl⟩
theorem e_Ci_leastFaultyState_31 : xa_db xP 97 31 (.ifCond .eq 29) 3 34 29 60 := ⟨⟨by decide +kernel, rfl⟩, rfl⟩
theorem e_Ci_leastFaultyState_34 : xa_d xP 97 34 (.aload_n 1) 1 35 := ⟨by decide +kernel, rfl⟩
theorem e_Ci_leastFaultyState_35 : xa_d xP 97 35 (.iload 5) 2 37 := ⟨by decide +kernel, rfl⟩
theorem e_Ci_leastFaultyState_37 : xa_d xP 97 37 (.invokevirtual 70) 3 40 := ⟨by decide +kernel, rfl⟩
theorem e_Ci_leastFaultyState_40 : xa_db xP 97 40 (.ifCond .ne 20) 3 43 20 60 := ⟨⟨by decide +kernel, rfl⟩, rfl⟩
theorem e_Ci_leastFaultyState_43 : xa_d xP 97 43 (.aload_n 0) 1 44 := ⟨by decide +kernel, rfl⟩
theorem e_Ci_leastFaultyState_44 : xa_d xP 97 44 (.aload_n 1) 1 45 := ⟨by decide +kernel, rfl⟩
theorem e_Ci_leastFaultyState_45 : xa_d xP 97 45 (.aload_n 2) 1 46 := ⟨by decide +kernel, rfl⟩
theorem e_Ci_leastFaultyState_46 : xa_d xP 97 46 (.iload 4) 2 48 := ⟨by decide +kernel, rfl⟩
theorem e_Ci_leastFaultyState_48 : xa_d xP 97 48 (.iload 5) 2 50 := ⟨by decide +kernel, rfl⟩
theorem e_Ci_leastFaultyState_50 : xa_d xP 97 50 (.iload_n 3) 1 51 := ⟨by decide +kernel, rfl⟩
theorem e_Ci_leastFaultyState_51 : xa_d xP 97 51 (.invokevirtual 89) 3 54 := ⟨by decide +kernel, rfl⟩
theorem e_Ci_leastFaultyState_54 : xa_db xP 97 54 (.ifCond .eq 6) 3 57 6 60 := ⟨⟨by decide +kernel, rfl⟩, rfl⟩
theorem e_Ci_leastFaultyState_57 : xa_d xP 97 57 (.iload 4) 2 59 := ⟨by decide +kernel, rfl⟩
theorem e_Ci_leastFaultyState_59 : xa_d xP 97 59 (.ireturn) 1 60 := ⟨by decide +kernel, rfl⟩
theorem e_Ci_leastFaultyState_60 : xa_d xP 97 60 (.iinc 5 1) 3 63 := ⟨by decide +kernel, rfl⟩
theorem e_Ci_leastFaultyState_63 : xa_db xP 97 63 (.goto (-48)) 3 66 (-48) 15 := ⟨⟨by decide +kernel, rfl⟩, rfl⟩
theorem e_Ci_leastFaultyState_66 : xa_d xP 97 66 (.iinc 4 1) 3 69 := ⟨by decide +kernel, rfl⟩
theorem e_Ci_leastFaultyState_69 : xa_db xP 97 69 (.goto (-66)) 3 72 (-66) 3 := ⟨⟨by decide +kernel, rfl⟩, rfl⟩
theorem e_Ci_leastFaultyState_72 : xa_d xP 97 72 (.iconst (-1)) 1 73 := ⟨by decide +kernel, rfl⟩
theorem e_Ci_leastFaultyState_73 : xa_d xP 97 73 (.ireturn) 1 74 := ⟨by decide +kernel, rfl⟩
theorem e_Ci_isFaulty_0 : xa_d xP 98 0 (.aload_n 0) 1 1 := ⟨by decide +kernel, rfl⟩
theorem e_Ci_isFaulty_1 : xa_d xP 98 1 (.iload 4) 2 3 := ⟨by decide +kernel, rfl⟩
theorem e_Ci_isFaulty_3 : xa_d xP 98 3 (.aload_n 2) 1 4 := ⟨by decide +kernel, rfl⟩
theorem e_Ci_isFaulty_4 : xa_d xP 98 4 (.getfield 74) 3 7 := ⟨by decide +kernel, rfl⟩
theorem e_Ci_isFaulty_7 : xa_d xP 98 7 (.iload_n 3) 1 8 := ⟨by decide +kernel, rfl⟩
theorem e_Ci_isFaulty_8 : xa_d xP 98 8 (.iaload) 1 9 := ⟨by decide +kernel, rfl⟩
theorem e_Ci_isFaulty_9 : xa_d xP 98 9 (.invokevirtual 93) 3 12 := ⟨by decide +kernel, rfl⟩
theorem e_Ci_isFaulty_12 : xa_d xP 98 12 (.istore 6) 2 14 := ⟨by decide +kernel, rfl⟩
theorem e_Ci_isFaulty_14 : xa_d xP 98 14 (.iload 5) 2 16 := ⟨by decide +kernel, rfl⟩
theorem e_Ci_isFaulty_16 : xa_d xP 98 16 (.lookupswitch 72 #[(1, 28), (2, 51)]) 28 44 := ⟨by decide +kernel, rfl⟩
theorem e_Ci_isFaulty_44 : xa_d xP 98 44 (.iload 6) 2 46 := ⟨by decide +kernel, rfl⟩
theorem e_Ci_isFaulty_46 : xa_db xP 98 46 (.ifCond .eq 19) 3 49 19 65 := ⟨⟨by decide +kernel, rfl⟩, rfl⟩
theorem e_Ci_isFaulty_49 : xa_d xP 98 49 (.aload_n 0) 1 50 := ⟨by decide +kernel, rfl⟩
theorem e_Ci_isFaulty_50 : xa_d xP 98 50 (.aload_n 1) 1 51 := ⟨by decide +kernel, rfl⟩
theorem e_Ci_isFaulty_51 : xa_d xP 98 51 (.aload_n 2) 1 52 := ⟨by decide +kernel, rfl⟩
theorem e_Ci_isFaulty_52 : xa_d xP 98 52 (.iload_n 3) 1 53 := ⟨by decide +kernel, rfl⟩
theorem e_Ci_isFaulty_53 : xa_d xP 98 53 (.iload 4) 2 55 := ⟨by decide +kernel, rfl⟩
theorem e_Ci_isFaulty_55 : xa_d xP 98 55 (.invokevirtual 97) 3 58 := ⟨by decide +kernel, rfl⟩
theorem e_Ci_isFaulty_58 : xa_db xP 98 58 (.ifCond .eq 7) 3 61 7 65 := ⟨⟨by decide +kernel, rfl⟩, rfl⟩
theorem e_Ci_isFaulty_61 : xa_d xP 98 61 (.iconst 1) 1 62 := ⟨by decide +kernel, rfl⟩
theorem e_Ci_isFaulty_62 : xa_db xP 98 62 (.goto 4) 3 65 4 66 := ⟨⟨by decide +kernel, rfl⟩, rfl⟩
theorem e_Ci_isFaulty_65 : xa_d xP 98 65 (.iconst 0) 1 66 := ⟨by decide +kernel, rfl⟩
theorem e_Ci_isFaulty_66 : xa_d xP 98 66 (.ireturn) 1 67 := ⟨by decide +kernel, rfl⟩
theorem e_Ci_isFaulty_67 : xa_d xP 98 67 (.iload 6) 2 69 := ⟨by decide +kernel, rfl⟩
theorem e_Ci_isFaulty_69 : xa_db xP 98 69 (.ifCond .eq 17) 3 72 17 86 := ⟨⟨by decide +kernel, rfl⟩, rfl⟩
theorem e_Ci_isFaulty_72 : xa_d xP 98 72 (.aload_n 2) 1 73 := ⟨by decide +kernel, rfl⟩
theorem e_Ci_isFaulty_73 : xa_d xP 98 73 (.iload 4) 2 75 := ⟨by decide +kernel, rfl⟩
theorem e_Ci_isFaulty_75 : xa_d xP 98 75 (.iload_n 3) 1 76 := ⟨by decide +kernel, rfl⟩
theorem e_Ci_isFaulty_76 : xa_d xP 98 76 (.invokevirtual 100) 3 79 := ⟨by decide +kernel, rfl⟩
theorem e_Ci_isFaulty_79 : xa_db xP 98 79 (.ifCond .ne 7) 3 82 7 86 := ⟨⟨by decide +kernel, rfl⟩, rfl⟩
theorem e_Ci_isFaulty_82 : xa_d xP 98 82 (.iconst 1) 1 83 := ⟨by decide +kernel, rfl⟩
theorem e_Ci_isFaulty_83 : xa_db xP 98 83 (.goto 4) 3 86 4 87 := ⟨⟨by decide +kernel, rfl⟩, rfl⟩
theorem e_Ci_isFaulty_86 : xa_d xP 98 86 (.iconst 0) 1 87 := ⟨by decide +kernel, rfl⟩
theorem e_Ci_isFaulty_87 : xa_d xP 98 87 (.ireturn) 1 88 := ⟨by decide +kernel, rfl⟩
theorem e_Ci_isFaulty_88 : xa_d xP 98 88 (.iload 6) 2 90 := ⟨by decide +kernel, rfl⟩
theorem e_Ci_isFaulty_90 : xa_db xP 98 90 (.ifCond .ne 17) 3 93 17 107 := ⟨⟨by decide +kernel, rfl⟩, rfl⟩
theorem e_Ci_isFaulty_93 : xa_d xP 98 93 (.aload_n 2) 1 94 := ⟨by decide +kernel, rfl⟩
theorem e_Ci_isFaulty_94 : xa_d xP 98 94 (.iload 4) 2 96 := ⟨by decide +kernel, rfl⟩
theorem e_Ci_isFaulty_96 : xa_d xP 98 96 (.iload_n 3) 1 97 := ⟨by decide +kernel, rfl⟩
theorem e_Ci_isFaulty_97 : xa_d xP 98 97 (.invokevirtual 100) 3 100 := ⟨by decide +kernel, rfl⟩
theorem e_Ci_isFaulty_100 : xa_db xP 98 100 (.ifCond .eq 7) 3 103 7 107 := ⟨⟨by decide +kernel, rfl⟩, rfl⟩
theorem e_Ci_isFaulty_103 : xa_d xP 98 103 (.iconst 1) 1 104 := ⟨by decide +kernel, rfl⟩
theorem e_Ci_isFaulty_104 : xa_db xP 98 104 (.goto 4) 3 107 4 108 := ⟨⟨by decide +kernel, rfl⟩, rfl⟩
theorem e_Ci_isFaulty_107 : xa_d xP 98 107 (.iconst 0) 1 108 := ⟨by decide +kernel, rfl⟩
theorem e_Ci_isFaulty_108 : xa_d xP 98 108 (.ireturn) 1 109 := ⟨by decide +kernel, rfl⟩
theorem e_Ci_acts_0 : xa_d xP 99 0 (.aload_n 0) 1 1 := ⟨by decide +kernel, rfl⟩
theorem e_Ci_acts_1 : xa_d xP 99 1 (.getfield 11) 3 4 := ⟨by decide +kernel, rfl⟩
theorem e_Ci_acts_4 : xa_d xP 99 4 (.iload_n 1) 1 5 := ⟨by decide +kernel, rfl⟩
theorem e_Ci_acts_5 : xa_d xP 99 5 (.aaload) 1 6 := ⟨by decide +kernel, rfl⟩
theorem e_Ci_acts_6 : xa_d xP 99 6 (.iload_n 2) 1 7 := ⟨by decide +kernel, rfl⟩
theorem e_Ci_acts_7 : xa_d xP 99 7 (.invokevirtual 77) 3 10 := ⟨by decide +kernel, rfl⟩
theorem e_Ci_acts_10 : xa_d xP 99 10 (.iload_n 2) 1 11 := ⟨by decide +kernel, rfl⟩
theorem e_Ci_acts_11 : xa_d xP 99 11 (.iload_n 1) 1 12 := ⟨by decide +kernel, rfl⟩
theorem e_Ci_acts_12 : xa_d xP 99 12 (.ishr) 1 13 := ⟨by decide +kernel, rfl⟩
theorem e_Ci_acts_13 : xa_d xP 99 13 (.iconst 1) 1 14 := ⟨by decide +kernel, rfl⟩
theorem e_Ci_acts_14 : xa_d xP 99 14 (.iand) 1 15 := ⟨by decide +kernel, rfl⟩
theorem e_Ci_acts_15 : xa_db xP 99 15 (.if_icmp .eq 7) 3 18 7 22 := ⟨⟨by decide +kernel, rfl⟩, rfl⟩
theorem e_Ci_acts_18 : xa_d xP 99 18 (.iconst 1) 1 19 := ⟨by decide +kernel, rfl⟩
theorem e_Ci_acts_19 : xa_db xP 99 19 (.goto 4) 3 22 4 23 := ⟨⟨by decide +kernel, rfl⟩, rfl⟩
theorem e_Ci_acts_22 : xa_d xP 99 22 (.iconst 0) 1 23 := ⟨by decide +kernel, rfl⟩
theorem e_Ci_acts_23 : xa_d xP 99 23 (.ireturn) 1 24 := ⟨by decide +kernel, rfl⟩
theorem e_Ci_mayStopActing_0 : xa_d xP 100 0 (.iconst 0) 1 1 := ⟨by decide +kernel, rfl⟩
theorem e_Ci_mayStopActing_1 : xa_d xP 100 1 (.istore 5) 2 3 := ⟨by decide +kernel, rfl⟩
theorem e_Ci_mayStopActing_3 : xa_d xP 100 3 (.iload 5) 2 5 := ⟨by decide +kernel, rfl⟩
theorem e_Ci_mayStopActing_5 : xa_d xP 100 5 (.aload_n 1) 1 6 := ⟨by decide +kernel, rfl⟩
theorem e_Ci_mayStopActing_6 : xa_d xP 100 6 (.getfield 51) 3 9 := ⟨by decide +kernel, rfl⟩
theorem e_Ci_mayStopActing_9 : xa_db xP 100 9 (.if_icmp .ge 55) 3 12 55 64 := ⟨⟨by decide +kernel, rfl⟩, rfl⟩
theorem e_Ci_mayStopActing_12 : xa_d xP 100 12 (.aload_n 1) 1 13 := ⟨by decide +kernel, rfl⟩
theorem e_Ci_mayStopActing_13 : xa_d xP 100 13 (.iload 5) 2 15 := ⟨by decide +kernel, rfl⟩
theorem e_Ci_mayStopActing_15 : xa_d xP 100 15 (.invokevirtual 66) 3 18 := ⟨by decide +kernel, rfl⟩
theorem e_Ci_mayStopActing_18 : xa_d xP 100 18 (.iload 4) 2 20 := ⟨by decide +kernel, rfl⟩
theorem e_Ci_mayStopActing_20 : xa_db xP 100 20 (.if_icmp .eq 38) 3 23 38 58 := ⟨⟨by decide +kernel, rfl⟩, rfl⟩
theorem e_Ci_mayStopActing_23 : xa_d xP 100 23 (.aload_n 0) 1 24 := ⟨by decide +kernel, rfl⟩
theorem e_Ci_mayStopActing_24 : xa_d xP 100 24 (.aload_n 1) 1 25 := ⟨by decide +kernel, rfl⟩
theorem e_Ci_mayStopActing_25 : xa_d xP 100 25 (.aload_n 2) 1 26 := ⟨by decide +kernel, rfl⟩
theorem e_Ci_mayStopActing_26 : xa_d xP 100 26 (.iload_n 3) 1 27 := ⟨by decide +kernel, rfl⟩
theorem e_Ci_mayStopActing_27 : xa_d xP 100 27 (.iload 5) 2 29 := ⟨by decide +kernel, rfl⟩
theorem e_Ci_mayStopActing_29 : xa_d xP 100 29 (.invokevirtual 56) 3 32 := ⟨by decide +kernel, rfl⟩
theorem e_Ci_mayStopActing_32 : xa_db xP 100 32 (.ifCond .eq 26) 3 35 26 58 := ⟨⟨by decide +kernel, rfl⟩, rfl⟩
theorem e_Ci_mayStopActing_35 : xa_d xP 100 35 (.aload_n 0) 1 36 := ⟨by decide +kernel, rfl⟩
theorem e_Ci_mayStopActing_36 : xa_d xP 100 36 (.iload 4) 2 38 := ⟨by decide +kernel, rfl⟩
theorem e_Ci_mayStopActing_38 : xa_d xP 100 38 (.aload_n 2) 1 39 := ⟨by decide +kernel, rfl⟩
theorem e_Ci_mayStopActing_39 : xa_d xP 100 39 (.getfield 74) 3 42 := ⟨by decide +kernel, rfl⟩
theorem e_Ci_mayStopActing_42 : xa_d xP 100 42 (.aload_n 2) 1 43 := ⟨by decide +kernel, rfl⟩
theorem e_Ci_mayStopActing_43 : xa_d xP 100 43 (.iload_n 3) 1 44 := ⟨by decide +kernel, rfl⟩
theorem e_Ci_mayStopActing_44 : xa_d xP 100 44 (.iload 5) 2 46 := ⟨by decide +kernel, rfl⟩
theorem e_Ci_mayStopActing_46 : xa_d xP 100 46 (.invokevirtual 60) 3 49 := ⟨by decide +kernel, rfl⟩
theorem e_Ci_mayStopActing_49 : xa_d xP 100 49 (.iaload) 1 50 := ⟨by decide +kernel, rfl⟩
theorem e_Ci_mayStopActing_50 : xa_d xP 100 50 (.invokevirtual 93) 3 53 := ⟨by decide +kernel, rfl⟩
theorem e_Ci_mayStopActing_53 : xa_db xP 100 53 (.ifCond .ne 5) 3 56 5 58 := ⟨⟨by decide +kernel, rfl⟩, rfl⟩
theorem e_Ci_mayStopActing_56 : xa_d xP 100 56 (.iconst 1) 1 57 := ⟨by decide +kernel, rfl⟩
theorem e_Ci_mayStopActing_57 : xa_d xP 100 57 (.ireturn) 1 58 := ⟨by decide +kernel, rfl⟩
theorem e_Ci_mayStopActing_58 : xa_d xP 100 58 (.iinc 5 1) 3 61 := ⟨by decide +kernel, rfl⟩
theorem e_Ci_mayStopActing_61 : xa_db xP 100 61 (.goto (-58)) 3 64 (-58) 3 := ⟨⟨by decide +kernel, rfl⟩, rfl⟩
theorem e_Ci_mayStopActing_64 : xa_d xP 100 64 (.iconst 0) 1 65 := ⟨by decide +kernel, rfl⟩
theorem e_Ci_mayStopActing_65 : xa_d xP 100 65 (.ireturn) 1 66 := ⟨by decide +kernel, rfl⟩
theorem e_M_init_0 : xa_d xP 101 0 (.aload_n 0) 1 1 := ⟨by decide +kernel, rfl⟩
theorem e_M_init_1 : xa_d xP 101 1 (.invokespecial 1) 3 4 := ⟨by decide +kernel, rfl⟩
theorem e_M_init_4 : xa_d xP 101 4 (.aload_n 0) 1 5 := ⟨by decide +kernel, rfl⟩
theorem e_M_init_5 : xa_d xP 101 5 (.iconst 5) 1 6 := ⟨by decide +kernel, rfl⟩
theorem e_M_init_6 : xa_d xP 101 6 (.newarray .boolean) 2 8 := ⟨by decide +kernel, rfl⟩
theorem e_M_init_8 : xa_d xP 101 8 (.putfield 7) 3 11 := ⟨by decide +kernel, rfl⟩
theorem e_M_init_11 : xa_d xP 101 11 (.aload_n 0) 1 12 := ⟨by decide +kernel, rfl⟩
theorem e_M_init_12 : xa_d xP 101 12 (.iconst 5) 1 13 := ⟨by decide +kernel, rfl⟩
theorem e_M_init_13 : xa_d xP 101 13 (.newarray .boolean) 2 15 := ⟨by decide +kernel, rfl⟩
theorem e_M_init_15 : xa_d xP 101 15 (.putfield 13) 3 18 := ⟨by decide +kernel, rfl⟩
theorem e_M_init_18 : xa_d xP 101 18 (.aload_n 0) 1 19 := ⟨by decide +kernel, rfl⟩
theorem e_M_init_19 : xa_d xP 101 19 (.bipush 14) 2 21 := ⟨by decide +kernel, rfl⟩
theorem e_M_init_21 : xa_d xP 101 21 (.newarray .int) 2 23 := ⟨by decide +kernel, rfl⟩
theorem e_M_init_23 : xa_d xP 101 23 (.putfield 16) 3 26 := ⟨by decide +kernel, rfl⟩
theorem e_M_init_26 : xa_d xP 101 26 (.aload_n 0) 1 27 := ⟨by decide +kernel, rfl⟩
theorem e_M_init_27 : xa_d xP 101 27 (.bipush 14) 2 29 := ⟨by decide +kernel, rfl⟩
theorem e_M_init_29 : xa_d xP 101 29 (.newarray .boolean) 2 31 := ⟨by decide +kernel, rfl⟩
theorem e_M_init_31 : xa_d xP 101 31 (.putfield 20) 3 34 := ⟨by decide +kernel, rfl⟩
theorem e_M_init_34 : xa_d xP 101 34 (.aload_n 0) 1 35 := ⟨by decide +kernel, rfl⟩
theorem e_M_init_35 : xa_d xP 101 35 (.bipush 14) 2 37 := ⟨by decide +kernel, rfl⟩
theorem e_M_init_37 : xa_d xP 101 37 (.newarray .int) 2 39 := ⟨by decide +kernel, rfl⟩
theorem e_M_init_39 : xa_d xP 101 39 (.putfield 23) 3 42 := ⟨by decide +kernel, rfl⟩
theorem e_M_init_42 : xa_d xP 101 42 (.aload_n 0) 1 43 := ⟨by decide +kernel, rfl⟩
theorem e_M_init_43 : xa_d xP 101 43 (.bipush 14) 2 45 := ⟨by decide +kernel, rfl⟩
theorem e_M_init_45 : xa_d xP 101 45 (.newarray .int) 2 47 := ⟨by decide +kernel, rfl⟩
theorem e_M_init_47 : xa_d xP 101 47 (.putfield 26) 3 50 := ⟨by decide +kernel, rfl⟩
theorem e_M_init_50 : xa_d xP 101 50 (.aload_n 0) 1 51 := ⟨by decide +kernel, rfl⟩
theorem e_M_init_51 : xa_d xP 101 51 (.iconst (-1)) 1 52 := ⟨by decide +kernel, rfl⟩
theorem e_M_init_52 : xa_d xP 101 52 (.putfield 29) 3 55 := ⟨by decide +kernel, rfl⟩
theorem e_M_init_55 : xa_d xP 101 55 (.aload_n 0) 1 56 := ⟨by decide +kernel, rfl⟩
theorem e_M_init_56 : xa_d xP 101 56 (.iconst (-1)) 1 57 := ⟨by decide +kernel, rfl⟩
theorem e_M_init_57 : xa_d xP 101 57 (.putfield 33) 3 60 := ⟨by decide +kernel, rfl⟩
theorem e_M_init_60 : xa_d xP 101 60 (.aload_n 0) 1 61 := ⟨by decide +kernel, rfl⟩
theorem e_M_init_61 : xa_d xP 101 61 (.bipush 81) 2 63 := ⟨by decide +kernel, rfl⟩
theorem e_M_init_63 : xa_d xP 101 63 (.newarray .int) 2 65 := ⟨by decide +kernel, rfl⟩
theorem e_M_init_65 : xa_d xP 101 65 (.putfield 36) 3 68 := ⟨by decide +kernel, rfl⟩
theorem e_M_init_68 : xa_d xP 101 68 (.aload_n 0) 1 69 := ⟨by decide +kernel, rfl⟩
theorem e_M_init_69 : xa_d xP 101 69 (.bipush 81) 2 71 := ⟨by decide +kernel, rfl⟩
theorem e_M_init_71 : xa_d xP 101 71 (.newarray .int) 2 73 := ⟨by decide +kernel, rfl⟩
theorem e_M_init_73 : xa_d xP 101 73 (.putfield 39) 3 76 := ⟨by decide +kernel, rfl⟩
theorem e_M_init_76 : xa_d xP 101 76 (.aload_n 0) 1 77 := ⟨by decide +kernel, rfl⟩
theorem e_M_init_77 : xa_d xP 101 77 (.bipush 81) 2 79 := ⟨by decide +kernel, rfl⟩
theorem e_M_init_79 : xa_d xP 101 79 (.newarray .int) 2 81 := ⟨by decide +kernel, rfl⟩
theorem e_M_init_81 : xa_d xP 101 81 (.putfield 42) 3 84 := ⟨by decide +kernel, rfl⟩
theorem e_M_init_84 : xa_d xP 101 84 (.aload_n 0) 1 85 := ⟨by decide +kernel, rfl⟩
theorem e_M_init_85 : xa_d xP 101 85 (.iconst 5) 1 86 := ⟨by decide +kernel, rfl⟩
theorem e_M_init_86 : xa_d xP 101 86 (.newarray .int) 2 88 := ⟨by decide +kernel, rfl⟩
theorem e_M_init_88 : xa_d xP 101 88 (.putfield 45) 3 91 := ⟨by decide +kernel, rfl⟩
theorem e_M_init_91 : xa_d xP 101 91 (.aload_n 0) 1 92 := ⟨by decide +kernel, rfl⟩
theorem e_M_init_92 : xa_d xP 101 92 (.bipush 40) 2 94 := ⟨by decide +kernel, rfl⟩
theorem e_M_init_94 : xa_d xP 101 94 (.newarray .int) 2 96 := ⟨by decide +kernel, rfl⟩
theorem e_M_init_96 : xa_d xP 101 96 (.putfield 48) 3 99 := ⟨by decide +kernel, rfl⟩
theorem e_M_init_99 : xa_d xP 101 99 (.aload_n 0) 1 100 := ⟨by decide +kernel, rfl⟩
theorem e_M_init_100 : xa_d xP 101 100 (.sipush 243) 3 103 := ⟨by decide +kernel, rfl⟩
theorem e_M_init_103 : xa_d xP 101 103 (.newarray .int) 2 105 := ⟨by decide +kernel, rfl⟩
theorem e_M_init_105 : xa_d xP 101 105 (.putfield 51) 3 108 := ⟨by decide +kernel, rfl⟩
theorem e_M_init_108 : xa_d xP 101 108 (.aload_n 0) 1 109 := ⟨by decide +kernel, rfl⟩
theorem e_M_init_109 : xa_d xP 101 109 (.sipush 243) 3 112 := ⟨by decide +kernel, rfl⟩
theorem e_M_init_112 : xa_d xP 101 112 (.newarray .boolean) 2 114 := ⟨by decide +kernel, rfl⟩
theorem e_M_init_114 : xa_d xP 101 114 (.putfield 54) 3 117 := ⟨by decide +kernel, rfl⟩
theorem e_M_init_117 : xa_d xP 101 117 (.aload_n 0) 1 118 := ⟨by decide +kernel, rfl⟩
theorem e_M_init_118 : xa_d xP 101 118 (.bipush 9) 2 120 := ⟨by decide +kernel, rfl⟩
theorem e_M_init_120 : xa_d xP 101 120 (.newarray .int) 2 122 := ⟨by decide +kernel, rfl⟩
theorem e_M_init_122 : xa_d xP 101 122 (.putfield 57) 3 125 := ⟨by decide +kernel, rfl⟩
theorem e_M_init_125 : xa_d xP 101 125 (.aload_n 0) 1 126 := ⟨by decide +kernel, rfl⟩
theorem e_M_init_126 : xa_d xP 101 126 (.bipush 10) 2 128 := ⟨by decide +kernel, rfl⟩
theorem e_M_init_128 : xa_d xP 101 128 (.newarray .int) 2 130 := ⟨by decide +kernel, rfl⟩
theorem e_M_init_130 : xa_d xP 101 130 (.putfield 60) 3 133 := ⟨by decide +kernel, rfl⟩
theorem e_M_init_133 : xa_d xP 101 133 (.aload_n 0) 1 134 := ⟨by decide +kernel, rfl⟩
theorem e_M_init_134 : xa_d xP 101 134 (.bipush 9) 2 136 := ⟨by decide +kernel, rfl⟩
theorem e_M_init_136 : xa_d xP 101 136 (.newarray .int) 2 138 := ⟨by decide +kernel, rfl⟩
theorem e_M_init_138 : xa_d xP 101 138 (.putfield 63) 3 141 := ⟨by decide +kernel, rfl⟩
theorem e_M_init_141 : xa_d xP 101 141 (.aload_n 0) 1 142 := ⟨by decide +kernel, rfl⟩
theorem e_M_init_142 : xa_d xP 101 142 (.bipush 9) 2 144 := ⟨by decide +kernel, rfl⟩
theorem e_M_init_144 : xa_d xP 101 144 (.newarray .int) 2 146 := ⟨by decide +kernel, rfl⟩
theorem e_M_init_146 : xa_d xP 101 146 (.putfield 66) 3 149 := ⟨by decide +kernel, rfl⟩
theorem e_M_init_149 : xa_d xP 101 149 (.aload_n 0) 1 150 := ⟨by decide +kernel, rfl⟩
theorem e_M_init_150 : xa_d xP 101 150 (.iconst 5) 1 151 := ⟨by decide +kernel, rfl⟩
theorem e_M_init_151 : xa_d xP 101 151 (.newarray .int) 2 153 := ⟨by decide +kernel, rfl⟩
theorem e_M_init_153 : xa_d xP 101 153 (.putfield 69) 3 156 := ⟨by decide +kernel, rfl⟩
theorem e_M_init_156 : xa_d xP 101 156 (.aload_n 0) 1 157 := ⟨by decide +kernel, rfl⟩
theorem e_M_init_157 : xa_d xP 101 157 (.bipush 40) 2 159 := ⟨by decide +kernel, rfl⟩
theorem e_M_init_159 : xa_d xP 101 159 (.newarray .int) 2 161 := ⟨by decide +kernel, rfl⟩
theorem e_M_init_161 : xa_d xP 101 161 (.putfield 72) 3 164 := ⟨by decide +kernel, rfl⟩
theorem e_M_init_164 : xa_d xP 101 164 (.aload_n 0) 1 165 := ⟨by decide +kernel, rfl⟩
theorem e_M_init_165 : xa_d xP 101 165 (.bipush 81) 2 167 := ⟨by decide +kernel, rfl⟩
theorem e_M_init_167 : xa_d xP 101 167 (.newarray .boolean) 2 169 := ⟨by decide +kernel, rfl⟩
theorem e_M_init_169 : xa_d xP 101 169 (.putfield 75) 3 172 := ⟨by decide +kernel, rfl⟩
theorem e_M_init_172 : xa_d xP 101 172 (.return_) 1 173 := ⟨by decide +kernel, rfl⟩
theorem e_M_thrown_0 : xa_d xP 102 0 (.aload_n 0) 1 1 := ⟨by decide +kernel, rfl⟩
theorem e_M_thrown_1 : xa_d xP 102 1 (.getfield 78) 3 4 := ⟨by decide +kernel, rfl⟩
theorem e_M_thrown_4 : xa_d xP 102 4 (.ireturn) 1 5 := ⟨by decide +kernel, rfl⟩
theorem e_M_signal_0 : xa_d xP 103 0 (.aload_n 0) 1 1 := ⟨by decide +kernel, rfl⟩
theorem e_M_signal_1 : xa_d xP 103 1 (.aload_n 0) 1 2 := ⟨by decide +kernel, rfl⟩
theorem e_M_signal_2 : xa_d xP 103 2 (.getfield 84) 3 5 := ⟨by decide +kernel, rfl⟩
theorem e_M_signal_5 : xa_d xP 103 5 (.iconst 5) 1 6 := ⟨by decide +kernel, rfl⟩
theorem e_M_signal_6 : xa_db xP 103 6 (.if_icmp .ne 7) 3 9 7 13 := ⟨⟨by decide +kernel, rfl⟩, rfl⟩
theorem e_M_signal_9 : xa_d xP 103 9 (.iconst 1) 1 10 := ⟨by decide +kernel, rfl⟩
theorem e_M_signal_10 : xa_db xP 103 10 (.goto 4) 3 13 4 14 := ⟨⟨by decide +kernel, rfl⟩, rfl⟩
theorem e_M_signal_13 : xa_d xP 103 13 (.iconst 0) 1 14 := ⟨by decide +kernel, rfl⟩
theorem e_M_signal_14 : xa_d xP 103 14 (.putfield 78) 3 17 := ⟨by decide +kernel, rfl⟩
theorem e_M_signal_17 : xa_d xP 103 17 (.aload_n 0) 1 18 := ⟨by decide +kernel, rfl⟩
theorem e_M_signal_18 : xa_d xP 103 18 (.getfield 78) 3 21 := ⟨by decide +kernel, rfl⟩
theorem e_M_signal_21 : xa_db xP 103 21 (.ifCond .le 5) 3 24 5 26 := ⟨⟨by decide +kernel, rfl⟩, rfl⟩
theorem e_M_signal_24 : xa_d xP 103 24 (.iconst 0) 1 25 := ⟨by decide +kernel, rfl⟩
theorem e_M_signal_25 : xa_d xP 103 25 (.ireturn) 1 26 := ⟨by decide +kernel, rfl⟩
theorem e_M_signal_26 : xa_d xP 103 26 (.aload_n 0) 1 27 := ⟨by decide +kernel, rfl⟩
theorem e_M_signal_27 : xa_d xP 103 27 (.invokevirtual 87) 3 30 := ⟨by decide +kernel, rfl⟩
theorem e_M_signal_30 : xa_d xP 103 30 (.aload_n 0) 1 31 := ⟨by decide +kernel, rfl⟩
theorem e_M_signal_31 : xa_d xP 103 31 (.getfield 7) 3 34 := ⟨by decide +kernel, rfl⟩
theorem e_M_signal_34 : xa_d xP 103 34 (.aload_n 0) 1 35 := ⟨by decide +kernel, rfl⟩
theorem e_M_signal_35 : xa_d xP 103 35 (.getfield 84) 3 38 := ⟨by decide +kernel, rfl⟩
theorem e_M_signal_38 : xa_d xP 103 38 (.iload_n 1) 1 39 := ⟨by decide +kernel, rfl⟩
theorem e_M_signal_39 : xa_d xP 103 39 (.bastore) 1 40 := ⟨by decide +kernel, rfl⟩
theorem e_M_signal_40 : xa_d xP 103 40 (.aload_n 0) 1 41 := ⟨by decide +kernel, rfl⟩
theorem e_M_signal_41 : xa_d xP 103 41 (.getfield 13) 3 44 := ⟨by decide +kernel, rfl⟩
theorem e_M_signal_44 : xa_d xP 103 44 (.aload_n 0) 1 45 := ⟨by decide +kernel, rfl⟩
theorem e_M_signal_45 : xa_d xP 103 45 (.getfield 84) 3 48 := ⟨by decide +kernel, rfl⟩
theorem e_M_signal_48 : xa_d xP 103 48 (.iload_n 2) 1 49 := ⟨by decide +kernel, rfl⟩
theorem e_M_signal_49 : xa_d xP 103 49 (.bastore) 1 50 := ⟨by decide +kernel, rfl⟩
theorem e_M_signal_50 : xa_d xP 103 50 (.aload_n 0) 1 51 := ⟨by decide +kernel, rfl⟩
theorem e_M_signal_51 : xa_d xP 103 51 (.dup) 1 52 := ⟨by decide +kernel, rfl⟩
theorem e_M_signal_52 : xa_d xP 103 52 (.getfield 84) 3 55 := ⟨by decide +kernel, rfl⟩
theorem e_M_signal_55 : xa_d xP 103 55 (.iconst 1) 1 56 := ⟨by decide +kernel, rfl⟩
theorem e_M_signal_56 : xa_d xP 103 56 (.iadd) 1 57 := ⟨by decide +kernel, rfl⟩
theorem e_M_signal_57 : xa_d xP 103 57 (.putfield 84) 3 60 := ⟨by decide +kernel, rfl⟩
theorem e_M_signal_60 : xa_d xP 103 60 (.aload_n 0) 1 61 := ⟨by decide +kernel, rfl⟩
theorem e_M_signal_61 : xa_d xP 103 61 (.getfield 84) 3 64 := ⟨by decide +kernel, rfl⟩
theorem e_M_signal_64 : xa_d xP 103 64 (.iconst 1) 1 65 := ⟨by decide +kernel, rfl⟩
theorem e_M_signal_65 : xa_d xP 103 65 (.isub) 1 66 := ⟨by decide +kernel, rfl⟩
theorem e_M_signal_66 : xa_d xP 103 66 (.ireturn) 1 67 := ⟨by decide +kernel, rfl⟩
theorem e_M_discard_0 : xa_d xP 104 0 (.aload_n 0) 1 1 := ⟨by decide +kernel, rfl⟩
theorem e_M_discard_1 : xa_d xP 104 1 (.iconst (-1)) 1 2 := ⟨by decide +kernel, rfl⟩
theorem e_M_discard_2 : xa_d xP 104 2 (.putfield 29) 3 5 := ⟨by decide +kernel, rfl⟩
theorem e_M_discard_5 : xa_d xP 104 5 (.aload_n 0) 1 6 := ⟨by decide +kernel, rfl⟩
theorem e_M_discard_6 : xa_d xP 104 6 (.iconst (-1)) 1 7 := ⟨by decide +kernel, rfl⟩
theorem e_M_discard_7 : xa_d xP 104 7 (.putfield 33) 3 10 := ⟨by decide +kernel, rfl⟩
theorem e_M_discard_10 : xa_d xP 104 10 (.aload_n 0) 1 11 := ⟨by decide +kernel, rfl⟩
theorem e_M_discard_11 : xa_d xP 104 11 (.iconst 0) 1 12 := ⟨by decide +kernel, rfl⟩
theorem e_M_discard_12 : xa_d xP 104 12 (.putfield 81) 3 15 := ⟨by decide +kernel, rfl⟩
theorem e_M_discard_15 : xa_d xP 104 15 (.iconst 0) 1 16 := ⟨by decide +kernel, rfl⟩
theorem e_M_discard_16 : xa_d xP 104 16 (.istore_n 1) 1 17 := ⟨by decide +kernel, rfl⟩
theorem e_M_discard_17 : xa_d xP 104 17 (.iload_n 1) 1 18 := ⟨by decide +kernel, rfl⟩
theorem e_M_discard_18 : xa_d xP 104 18 (.iconst 5) 1 19 := ⟨by decide +kernel, rfl⟩
theorem e_M_discard_19 : xa_db xP 104 19 (.if_icmp .ge 16) 3 22 16 35 := ⟨⟨by decide +kernel, rfl⟩, rfl⟩
theorem e_M_discard_22 : xa_d xP 104 22 (.aload_n 0) 1 23 := ⟨by decide +kernel, rfl⟩
theorem e_M_discard_23 : xa_d xP 104 23 (.getfield 45) 3 26 := ⟨by decide +kernel, rfl⟩
theorem e_M_discard_26 : xa_d xP 104 26 (.iload_n 1) 1 27 := ⟨by decide +kernel, rfl⟩
theorem e_M_discard_27 : xa_d xP 104 27 (.iconst 0) 1 28 := ⟨by decide +kernel, rfl⟩
theorem e_M_discard_28 : xa_d xP 104 28 (.iastore) 1 29 := ⟨by decide +kernel, rfl⟩
theorem e_M_discard_29 : xa_d xP 104 29 (.iinc 1 1) 3 32 := ⟨by decide +kernel, rfl⟩
theorem e_M_discard_32 : xa_db xP 104 32 (.goto (-15)) 3 35 (-15) 17 := ⟨⟨by decide +kernel, rfl⟩, rfl⟩
theorem e_M_discard_35 : xa_d xP 104 35 (.return_) 1 36 := ⟨by decide +kernel, rfl⟩
theorem e_M_edge_0 : xa_d xP 105 0 (.aload_n 0) 1 1 := ⟨by decide +kernel, rfl⟩
theorem e_M_edge_1 : xa_d xP 105 1 (.aload_n 0) 1 2 := ⟨by decide +kernel, rfl⟩
theorem e_M_edge_2 : xa_d xP 105 2 (.iload_n 1) 1 3 := ⟨by decide +kernel, rfl⟩
theorem e_M_edge_3 : xa_d xP 105 3 (.invokevirtual 90) 3 6 := ⟨by decide +kernel, rfl⟩
theorem e_M_edge_6 : xa_db xP 105 6 (.ifCond .eq 7) 3 9 7 13 := ⟨⟨by decide +kernel, rfl⟩, rfl⟩
theorem e_M_edge_9 : xa_d xP 105 9 (.iconst 1) 1 10 := ⟨by decide +kernel, rfl⟩
theorem e_M_edge_10 : xa_db xP 105 10 (.goto 17) 3 13 17 27 := ⟨⟨by decide +kernel, rfl⟩, rfl⟩
theorem e_M_edge_13 : xa_d xP 105 13 (.aload_n 0) 1 14 := ⟨by decide +kernel, rfl⟩
theorem e_M_edge_14 : xa_d xP 105 14 (.getfield 94) 3 17 := ⟨by decide +kernel, rfl⟩
theorem e_M_edge_17 : xa_d xP 105 17 (.bipush 14) 2 19 := ⟨by decide +kernel, rfl⟩
theorem e_M_edge_19 : xa_db xP 105 19 (.if_icmp .ne 7) 3 22 7 26 := ⟨⟨by decide +kernel, rfl⟩, rfl⟩
theorem e_M_edge_22 : xa_d xP 105 22 (.iconst 2) 1 23 := ⟨by decide +kernel, rfl⟩
theorem e_M_edge_23 : xa_db xP 105 23 (.goto 4) 3 26 4 27 := ⟨⟨by decide +kernel, rfl⟩, rfl⟩
theorem e_M_edge_26 : xa_d xP 105 26 (.iconst 0) 1 27 := ⟨by decide +kernel, rfl⟩
theorem e_M_edge_27 : xa_d xP 105 27 (.putfield 78) 3 30 := ⟨by decide +kernel, rfl⟩
theorem e_M_edge_30 : xa_d xP 105 30 (.aload_n 0) 1 31 := ⟨by decide +kernel, rfl⟩
theorem e_M_edge_31 : xa_d xP 105 31 (.getfield 78) 3 34 := ⟨by decide +kernel, rfl⟩
theorem e_M_edge_34 : xa_db xP 105 34 (.ifCond .le 5) 3 37 5 39 := ⟨⟨by decide +kernel, rfl⟩, rfl⟩
theorem e_M_edge_37 : xa_d xP 105 37 (.iconst 0) 1 38 := ⟨by decide +kernel, rfl⟩
theorem e_M_edge_38 : xa_d xP 105 38 (.ireturn) 1 39 := ⟨by decide +kernel, rfl⟩
theorem e_M_edge_39 : xa_d xP 105 39 (.aload_n 0) 1 40 := ⟨by decide +kernel, rfl⟩
theorem e_M_edge_40 : xa_d xP 105 40 (.invokevirtual 87) 3 43 := ⟨by decide +kernel, rfl⟩
theorem e_M_edge_43 : xa_d xP 105 43 (.aload_n 0) 1 44 := ⟨by decide +kernel, rfl⟩
theorem e_M_edge_44 : xa_d xP 105 44 (.getfield 16) 3 47 := ⟨by decide +kernel, rfl⟩
theorem e_M_edge_47 : xa_d xP 105 47 (.aload_n 0) 1 48 := ⟨by decide +kernel, rfl⟩
theorem e_M_edge_48 : xa_d xP 105 48 (.getfield 94) 3 51 := ⟨by decide +kernel, rfl⟩
theorem e_M_edge_51 : xa_d xP 105 51 (.iload_n 1) 1 52 := ⟨by decide +kernel, rfl⟩
theorem e_M_edge_52 : xa_d xP 105 52 (.iastore) 1 53 := ⟨by decide +kernel, rfl⟩
theorem e_M_edge_53 : xa_d xP 105 53 (.aload_n 0) 1 54 := ⟨by decide +kernel, rfl⟩
theorem e_M_edge_54 : xa_d xP 105 54 (.getfield 20) 3 57 := ⟨by decide +kernel, rfl⟩
theorem e_M_edge_57 : xa_d xP 105 57 (.aload_n 0) 1 58 := ⟨by decide +kernel, rfl⟩
theorem e_M_edge_58 : xa_d xP 105 58 (.getfield 94) 3 61 := ⟨by decide +kernel, rfl⟩
theorem e_M_edge_61 : xa_d xP 105 61 (.iload_n 2) 1 62 := ⟨by decide +kernel, rfl⟩
theorem e_M_edge_62 : xa_d xP 105 62 (.bastore) 1 63 := ⟨by decide +kernel, rfl⟩
theorem e_M_edge_63 : xa_d xP 105 63 (.aload_n 0) 1 64 := ⟨by decide +kernel, rfl⟩
theorem e_M_edge_64 : xa_d xP 105 64 (.getfield 23) 3 67 := ⟨by decide +kernel, rfl⟩
theorem e_M_edge_67 : xa_d xP 105 67 (.aload_n 0) 1 68 := ⟨by decide +kernel, rfl⟩
theorem e_M_edge_68 : xa_d xP 105 68 (.getfield 94) 3 71 := ⟨by decide +kernel, rfl⟩
theorem e_M_edge_71 : xa_d xP 105 71 (.iconst 0) 1 72 := ⟨by decide +kernel, rfl⟩
theorem e_M_edge_72 : xa_d xP 105 72 (.iastore) 1 73 := ⟨by decide +kernel, rfl⟩
theorem e_M_edge_73 : xa_d xP 105 73 (.aload_n 0) 1 74 := ⟨by decide +kernel, rfl⟩
theorem e_M_edge_74 : xa_d xP 105 74 (.getfield 26) 3 77 := ⟨by decide +kernel, rfl⟩
theorem e_M_edge_77 : xa_d xP 105 77 (.aload_n 0) 1 78 := ⟨by decide +kernel, rfl⟩
theorem e_M_edge_78 : xa_d xP 105 78 (.getfield 94) 3 81 := ⟨by decide +kernel, rfl⟩
theorem e_M_edge_81 : xa_d xP 105 81 (.iconst 0) 1 82 := ⟨by decide +kernel, rfl⟩
theorem e_M_edge_82 : xa_d xP 105 82 (.iastore) 1 83 := ⟨by decide +kernel, rfl⟩
theorem e_M_edge_83 : xa_d xP 105 83 (.aload_n 0) 1 84 := ⟨by decide +kernel, rfl⟩
theorem e_M_edge_84 : xa_d xP 105 84 (.dup) 1 85 := ⟨by decide +kernel, rfl⟩
theorem e_M_edge_85 : xa_d xP 105 85 (.getfield 94) 3 88 := ⟨by decide +kernel, rfl⟩
theorem e_M_edge_88 : xa_d xP 105 88 (.iconst 1) 1 89 := ⟨by decide +kernel, rfl⟩
theorem e_M_edge_89 : xa_d xP 105 89 (.iadd) 1 90 := ⟨by decide +kernel, rfl⟩
theorem e_M_edge_90 : xa_d xP 105 90 (.putfield 94) 3 93 := ⟨by decide +kernel, rfl⟩
theorem e_M_edge_93 : xa_d xP 105 93 (.aload_n 0) 1 94 := ⟨by decide +kernel, rfl⟩
theorem e_M_edge_94 : xa_d xP 105 94 (.getfield 94) 3 97 := ⟨by decide +kernel, rfl⟩
theorem e_M_edge_97 : xa_d xP 105 97 (.iconst 1) 1 98 := ⟨by decide +kernel, rfl⟩
theorem e_M_edge_98 : xa_d xP 105 98 (.isub) 1 99 := ⟨by decide +kernel, rfl⟩
theorem e_M_edge_99 : xa_d xP 105 99 (.ireturn) 1 100 := ⟨by decide +kernel, rfl⟩
theorem e_M_noSignal_0 : xa_d xP 106 0 (.iload_n 1) 1 1 := ⟨by decide +kernel, rfl⟩
theorem e_M_noSignal_1 : xa_db xP 106 1 (.ifCond .lt 11) 3 4 11 12 := ⟨⟨by decide +kernel, rfl⟩, rfl⟩
theorem e_M_noSignal_4 : xa_d xP 106 4 (.iload_n 1) 1 5 := ⟨by decide +kernel, rfl⟩
theorem e_M_noSignal_5 : xa_d xP 106 5 (.aload_n 0) 1 6 := ⟨by decide +kernel, rfl⟩
theorem e_M_noSignal_6 : xa_d xP 106 6 (.getfield 84) 3 9 := ⟨by decide +kernel, rfl⟩
theorem e_M_noSignal_9 : xa_db xP 106 9 (.if_icmp .lt 7) 3 12 7 16 := ⟨⟨by decide +kernel, rfl⟩, rfl⟩
theorem e_M_noSignal_12 : xa_d xP 106 12 (.iconst 1) 1 13 := ⟨by decide +kernel, rfl⟩
theorem e_M_noSignal_13 : xa_db xP 106 13 (.goto 4) 3 16 4 17 := ⟨⟨by decide +kernel, rfl⟩, rfl⟩
theorem e_M_noSignal_16 : xa_d xP 106 16 (.iconst 0) 1 17 := ⟨by decide +kernel, rfl⟩
theorem e_M_noSignal_17 : xa_d xP 106 17 (.ireturn) 1 18 := ⟨by decide +kernel, rfl⟩
theorem e_M_place_0 : xa_d xP 107 0 (.aload_n 0) 1 1 := ⟨by decide +kernel, rfl⟩
theorem e_M_place_1 : xa_d xP 107 1 (.aload_n 0) 1 2 := ⟨by decide +kernel, rfl⟩
theorem e_M_place_2 : xa_d xP 107 2 (.getfield 97) 3 5 := ⟨by decide +kernel, rfl⟩
theorem e_M_place_5 : xa_d xP 107 5 (.bipush 16) 2 7 := ⟨by decide +kernel, rfl⟩
theorem e_M_place_7 : xa_db xP 107 7 (.if_icmp .ne 7) 3 10 7 14 := ⟨⟨by decide +kernel, rfl⟩, rfl⟩
theorem e_M_place_10 : xa_d xP 107 10 (.iconst 1) 1 11 := ⟨by decide +kernel, rfl⟩
theorem e_M_place_11 : xa_db xP 107 11 (.goto 4) 3 14 4 15 := ⟨⟨by decide +kernel, rfl⟩, rfl⟩
theorem e_M_place_14 : xa_d xP 107 14 (.iconst 0) 1 15 := ⟨by decide +kernel, rfl⟩
theorem e_M_place_15 : xa_d xP 107 15 (.putfield 78) 3 18 := ⟨by decide +kernel, rfl⟩
theorem e_M_place_18 : xa_d xP 107 18 (.aload_n 0) 1 19 := ⟨by decide +kernel, rfl⟩
theorem e_M_place_19 : xa_d xP 107 19 (.getfield 78) 3 22 := ⟨by decide +kernel, rfl⟩
theorem e_M_place_22 : xa_db xP 107 22 (.ifCond .le 5) 3 25 5 27 := ⟨⟨by decide +kernel, rfl⟩, rfl⟩
theorem e_M_place_25 : xa_d xP 107 25 (.iconst 0) 1 26 := ⟨by decide +kernel, rfl⟩
theorem e_M_place_26 : xa_d xP 107 26 (.ireturn) 1 27 := ⟨by decide +kernel, rfl⟩
theorem e_M_place_27 : xa_d xP 107 27 (.aload_n 0) 1 28 := ⟨by decide +kernel, rfl⟩
theorem e_M_place_28 : xa_d xP 107 28 (.invokevirtual 87) 3 31 := ⟨by decide +kernel, rfl⟩
theorem e_M_place_31 : xa_d xP 107 31 (.aload_n 0) 1 32 := ⟨by decide +kernel, rfl⟩
theorem e_M_place_32 : xa_d xP 107 32 (.iload_n 1) 1 33 := ⟨by decide +kernel, rfl⟩
theorem e_M_place_33 : xa_db xP 107 33 (.ifCond .eq 17) 3 36 17 50 := ⟨⟨by decide +kernel, rfl⟩, rfl⟩
theorem e_M_place_36 : xa_d xP 107 36 (.aload_n 0) 1 37 := ⟨by decide +kernel, rfl⟩
theorem e_M_place_37 : xa_d xP 107 37 (.getfield 100) 3 40 := ⟨by decide +kernel, rfl⟩
theorem e_M_place_40 : xa_d xP 107 40 (.iconst 1) 1 41 := ⟨by decide +kernel, rfl⟩
theorem e_M_place_41 : xa_d xP 107 41 (.aload_n 0) 1 42 := ⟨by decide +kernel, rfl⟩
theorem e_M_place_42 : xa_d xP 107 42 (.getfield 97) 3 45 := ⟨by decide +kernel, rfl⟩
theorem e_M_place_45 : xa_d xP 107 45 (.ishl) 1 46 := ⟨by decide +kernel, rfl⟩
theorem e_M_place_46 : xa_d xP 107 46 (.ior) 1 47 := ⟨by decide +kernel, rfl⟩
theorem e_M_place_47 : xa_db xP 107 47 (.goto 7) 3 50 7 54 := ⟨⟨by decide +kernel, rfl⟩, rfl⟩
theorem e_M_place_50 : xa_d xP 107 50 (.aload_n 0) 1 51 := ⟨by decide +kernel, rfl⟩
theorem e_M_place_51 : xa_d xP 107 51 (.getfield 100) 3 54 := ⟨by decide +kernel, rfl⟩
theorem e_M_place_54 : xa_d xP 107 54 (.putfield 100) 3 57 := ⟨by decide +kernel, rfl⟩
theorem e_M_place_57 : xa_d xP 107 57 (.aload_n 0) 1 58 := ⟨by decide +kernel, rfl⟩
theorem e_M_place_58 : xa_d xP 107 58 (.dup) 1 59 := ⟨by decide +kernel, rfl⟩
theorem e_M_place_59 : xa_d xP 107 59 (.getfield 97) 3 62 := ⟨by decide +kernel, rfl⟩
theorem e_M_place_62 : xa_d xP 107 62 (.iconst 1) 1 63 := ⟨by decide +kernel, rfl⟩
theorem e_M_place_63 : xa_d xP 107 63 (.iadd) 1 64 := ⟨by decide +kernel, rfl⟩
theorem e_M_place_64 : xa_d xP 107 64 (.putfield 97) 3 67 := ⟨by decide +kernel, rfl⟩
theorem e_M_place_67 : xa_d xP 107 67 (.aload_n 0) 1 68 := ⟨by decide +kernel, rfl⟩
theorem e_M_place_68 : xa_d xP 107 68 (.getfield 97) 3 71 := ⟨by decide +kernel, rfl⟩
theorem e_M_place_71 : xa_d xP 107 71 (.iconst 1) 1 72 := ⟨by decide +kernel, rfl⟩
theorem e_M_place_72 : xa_d xP 107 72 (.isub) 1 73 := ⟨by decide +kernel, rfl⟩
theorem e_M_place_73 : xa_d xP 107 73 (.ireturn) 1 74 := ⟨by decide +kernel, rfl⟩
theorem e_M_arc_0 : xa_d xP 108 0 (.iload_n 1) 1 1 := ⟨by decide +kernel, rfl⟩
theorem e_M_arc_1 : xa_db xP 108 1 (.ifCond .lt 27) 3 4 27 28 := ⟨⟨by decide +kernel, rfl⟩, rfl⟩
theorem e_M_arc_4 : xa_d xP 108 4 (.iload_n 1) 1 5 := ⟨by decide +kernel, rfl⟩
theorem e_M_arc_5 : xa_d xP 108 5 (.aload_n 0) 1 6 := ⟨by decide +kernel, rfl⟩
theorem e_M_arc_6 : xa_d xP 108 6 (.getfield 97) 3 9 := ⟨by decide +kernel, rfl⟩
theorem e_M_arc_9 : xa_db xP 108 9 (.if_icmp .ge 19) 3 12 19 28 := ⟨⟨by decide +kernel, rfl⟩, rfl⟩
theorem e_M_arc_12 : xa_d xP 108 12 (.iload_n 2) 1 13 := ⟨by decide +kernel, rfl⟩
theorem e_M_arc_13 : xa_db xP 108 13 (.ifCond .lt 15) 3 16 15 28 := ⟨⟨by decide +kernel, rfl⟩, rfl⟩
theorem e_M_arc_16 : xa_d xP 108 16 (.iload_n 2) 1 17 := ⟨by decide +kernel, rfl⟩
theorem e_M_arc_17 : xa_d xP 108 17 (.aload_n 0) 1 18 := ⟨by decide +kernel, rfl⟩
theorem e_M_arc_18 : xa_d xP 108 18 (.getfield 94) 3 21 := ⟨by decide +kernel, rfl⟩
theorem e_M_arc_21 : xa_db xP 108 21 (.if_icmp .ge 7) 3 24 7 28 := ⟨⟨by decide +kernel, rfl⟩, rfl⟩
theorem e_M_arc_24 : xa_d xP 108 24 (.iconst 1) 1 25 := ⟨by decide +kernel, rfl⟩
theorem e_M_arc_25 : xa_db xP 108 25 (.goto 4) 3 28 4 29 := ⟨⟨by decide +kernel, rfl⟩, rfl⟩
theorem e_M_arc_28 : xa_d xP 108 28 (.iconst 0) 1 29 := ⟨by decide +kernel, rfl⟩
theorem e_M_arc_29 : xa_d xP 108 29 (.istore 4) 2 31 := ⟨by decide +kernel, rfl⟩
theorem e_M_arc_31 : xa_d xP 108 31 (.aload_n 0) 1 32 := ⟨by decide +kernel, rfl⟩
theorem e_M_arc_32 : xa_d xP 108 32 (.iload 4) 2 34 := ⟨by decide +kernel, rfl⟩
theorem e_M_arc_34 : xa_db xP 108 34 (.ifCond .eq 7) 3 37 7 41 := ⟨⟨by decide +kernel, rfl⟩, rfl⟩
theorem e_M_arc_37 : xa_d xP 108 37 (.iconst 0) 1 38 := ⟨by decide +kernel, rfl⟩
theorem e_M_arc_38 : xa_db xP 108 38 (.goto 4) 3 41 4 42 := ⟨⟨by decide +kernel, rfl⟩, rfl⟩
theorem e_M_arc_41 : xa_d xP 108 41 (.iconst 1) 1 42 := ⟨by decide +kernel, rfl⟩
theorem e_M_arc_42 : xa_d xP 108 42 (.putfield 78) 3 45 := ⟨by decide +kernel, rfl⟩
theorem e_M_arc_45 : xa_d xP 108 45 (.iload 4) 2 47 := ⟨by decide +kernel, rfl⟩
theorem e_M_arc_47 : xa_db xP 108 47 (.ifCond .ne 4) 3 50 4 51 := ⟨⟨by decide +kernel, rfl⟩, rfl⟩
theorem e_M_arc_50 : xa_d xP 108 50 (.return_) 1 51 := ⟨by decide +kernel, rfl⟩
theorem e_M_arc_51 : xa_d xP 108 51 (.iload_n 3) 1 52 := ⟨by decide +kernel, rfl⟩
theorem e_M_arc_52 : xa_db xP 108 52 (.ifCond .eq 12) 3 55 12 64 := ⟨⟨by decide +kernel, rfl⟩, rfl⟩
theorem e_M_arc_55 : xa_d xP 108 55 (.aload_n 0) 1 56 := ⟨by decide +kernel, rfl⟩
theorem e_M_arc_56 : xa_d xP 108 56 (.getfield 26) 3 59 := ⟨by decide +kernel, rfl⟩
theorem e_M_arc_59 : xa_d xP 108 59 (.iload_n 2) 1 60 := ⟨by decide +kernel, rfl⟩
theorem e_M_arc_60 : xa_d xP 108 60 (.iaload) 1 61 := ⟨by decide +kernel, rfl⟩
theorem e_M_arc_61 : xa_db xP 108 61 (.goto 9) 3 64 9 70 := ⟨⟨by decide +kernel, rfl⟩, rfl⟩
theorem e_M_arc_64 : xa_d xP 108 64 (.aload_n 0) 1 65 := ⟨by decide +kernel, rfl⟩
theorem e_M_arc_65 : xa_d xP 108 65 (.getfield 23) 3 68 := ⟨by decide +kernel, rfl⟩
theorem e_M_arc_68 : xa_d xP 108 68 (.iload_n 2) 1 69 := ⟨by decide +kernel, rfl⟩
theorem e_M_arc_69 : xa_d xP 108 69 (.iaload) 1 70 := ⟨by decide +kernel, rfl⟩
theorem e_M_arc_70 : xa_d xP 108 70 (.istore 5) 2 72 := ⟨by decide +kernel, rfl⟩
theorem e_M_arc_72 : xa_d xP 108 72 (.iload 5) 2 74 := ⟨by decide +kernel, rfl⟩
theorem e_M_arc_74 : xa_d xP 108 74 (.iload_n 1) 1 75 := ⟨by decide +kernel, rfl⟩
theorem e_M_arc_75 : xa_d xP 108 75 (.ishr) 1 76 := ⟨by decide +kernel, rfl⟩
theorem e_M_arc_76 : xa_d xP 108 76 (.iconst 1) 1 77 := ⟨by decide +kernel, rfl⟩
theorem e_M_arc_77 : xa_d xP 108 77 (.iand) 1 78 := ⟨by decide +kernel, rfl⟩
theorem e_M_arc_78 : xa_d xP 108 78 (.iconst 1) 1 79 := ⟨by decide +kernel, rfl⟩
theorem e_M_arc_79 : xa_db xP 108 79 (.if_icmp .ne 9) 3 82 9 88 := ⟨⟨by decide +kernel, rfl⟩, rfl⟩
theorem e_M_arc_82 : xa_d xP 108 82 (.aload_n 0) 1 83 := ⟨by decide +kernel, rfl⟩
theorem e_M_arc_83 : xa_d xP 108 83 (.iconst 2) 1 84 := ⟨by decide +kernel, rfl⟩
theorem e_M_arc_84 : xa_d xP 108 84 (.putfield 78) 3 87 := ⟨by decide +kernel, rfl⟩
theorem e_M_arc_87 : xa_d xP 108 87 (.return_) 1 88 := ⟨by decide +kernel, rfl⟩
theorem e_M_arc_88 : xa_d xP 108 88 (.aload_n 0) 1 89 := ⟨by decide +kernel, rfl⟩
theorem e_M_arc_89 : xa_d xP 108 89 (.invokevirtual 87) 3 92 := ⟨by decide +kernel, rfl⟩
theorem e_M_arc_92 : xa_d xP 108 92 (.iload_n 3) 1 93 := ⟨by decide +kernel, rfl⟩
theorem e_M_arc_93 : xa_db xP 108 93 (.ifCond .eq 18) 3 96 18 111 := ⟨⟨by decide +kernel, rfl⟩, rfl⟩
theorem e_M_arc_96 : xa_d xP 108 96 (.aload_n 0) 1 97 := ⟨by decide +kernel, rfl⟩
theorem e_M_arc_97 : xa_d xP 108 97 (.getfield 26) 3 100 := ⟨by decide +kernel, rfl⟩
theorem e_M_arc_100 : xa_d xP 108 100 (.iload_n 2) 1 101 := ⟨by decide +kernel, rfl⟩
theorem e_M_arc_101 : xa_d xP 108 101 (.iload 5) 2 103 := ⟨by decide +kernel, rfl⟩
theorem e_M_arc_103 : xa_d xP 108 103 (.iconst 1) 1 104 := ⟨by decide +kernel, rfl⟩
theorem e_M_arc_104 : xa_d xP 108 104 (.iload_n 1) 1 105 := ⟨by decide +kernel, rfl⟩
theorem e_M_arc_105 : xa_d xP 108 105 (.ishl) 1 106 := ⟨by decide +kernel, rfl⟩
end
section
/-! Decode rows (printed by wip/whole/gen_prog.py). -/
theorem e_M_arc_106 : xa_d xP 108 106 (.ior) 1 107 := ⟨by decide +kernel, rfl⟩
theorem e_M_arc_107 : xa_d xP 108 107 (.iastore) 1 108 := ⟨by decide +kernel, rfl⟩
theorem e_M_arc_108 : xa_db xP 108 108 (.goto 15) 3 111 15 123 := ⟨⟨by decide +kernel, rfl⟩, rfl⟩
theorem e_M_arc_111 : xa_d xP 108 111 (.aload_n 0) 1 112 := ⟨by decide +kernel, rfl⟩
theorem e_M_arc_112 : xa_d xP 108 112 (.getfield 23) 3 115 := ⟨by decide +kernel, rfl⟩
theorem e_M_arc_115 : xa_d xP 108 115 (.iload_n 2) 1 116 := ⟨by decide +kernel, rfl⟩
theorem e_M_arc_116 : xa_d xP 108 116 (.iload 5) 2 118 := ⟨by decide +kernel, rfl⟩
theorem e_M_arc_118 : xa_d xP 108 118 (.iconst 1) 1 119 := ⟨by decide +kernel, rfl⟩
theorem e_M_arc_119 : xa_d xP 108 119 (.iload_n 1) 1 120 := ⟨by decide +kernel, rfl⟩
theorem e_M_arc_120 : xa_d xP 108 120 (.ishl) 1 121 := ⟨by decide +kernel, rfl⟩
theorem e_M_arc_121 : xa_d xP 108 121 (.ior) 1 122 := ⟨by decide +kernel, rfl⟩
theorem e_M_arc_122 : xa_d xP 108 122 (.iastore) 1 123 := ⟨by decide +kernel, rfl⟩
theorem e_M_arc_123 : xa_d xP 108 123 (.return_) 1 124 := ⟨by decide +kernel, rfl⟩
theorem e_M_analyse_0 : xa_d xP 109 0 (.aload_n 0) 1 1 := ⟨by decide +kernel, rfl⟩
theorem e_M_analyse_1 : xa_d xP 109 1 (.iconst 0) 1 2 := ⟨by decide +kernel, rfl⟩
theorem e_M_analyse_2 : xa_d xP 109 2 (.putfield 78) 3 5 := ⟨by decide +kernel, rfl⟩
theorem e_M_analyse_5 : xa_d xP 109 5 (.aload_n 0) 1 6 := ⟨by decide +kernel, rfl⟩
theorem e_M_analyse_6 : xa_d xP 109 6 (.invokevirtual 87) 3 9 := ⟨by decide +kernel, rfl⟩
theorem e_M_analyse_9 : xa_d xP 109 9 (.aload_n 0) 1 10 := ⟨by decide +kernel, rfl⟩
theorem e_M_analyse_10 : xa_d xP 109 10 (.invokevirtual 139) 3 13 := ⟨by decide +kernel, rfl⟩
theorem e_M_analyse_13 : xa_d xP 109 13 (.aload_n 0) 1 14 := ⟨by decide +kernel, rfl⟩
theorem e_M_analyse_14 : xa_d xP 109 14 (.getfield 81) 3 17 := ⟨by decide +kernel, rfl⟩
theorem e_M_analyse_17 : xa_d xP 109 17 (.bipush 80) 2 19 := ⟨by decide +kernel, rfl⟩
theorem e_M_analyse_19 : xa_db xP 109 19 (.if_icmp .le 15) 3 22 15 34 := ⟨⟨by decide +kernel, rfl⟩, rfl⟩
theorem e_M_analyse_22 : xa_d xP 109 22 (.aload_n 0) 1 23 := ⟨by decide +kernel, rfl⟩
theorem e_M_analyse_23 : xa_d xP 109 23 (.iconst 0) 1 24 := ⟨by decide +kernel, rfl⟩
theorem e_M_analyse_24 : xa_d xP 109 24 (.putfield 81) 3 27 := ⟨by decide +kernel, rfl⟩
theorem e_M_analyse_27 : xa_d xP 109 27 (.aload_n 0) 1 28 := ⟨by decide +kernel, rfl⟩
theorem e_M_analyse_28 : xa_d xP 109 28 (.iconst 5) 1 29 := ⟨by decide +kernel, rfl⟩
theorem e_M_analyse_29 : xa_d xP 109 29 (.putfield 29) 3 32 := ⟨by decide +kernel, rfl⟩
theorem e_M_analyse_32 : xa_d xP 109 32 (.iconst 5) 1 33 := ⟨by decide +kernel, rfl⟩
theorem e_M_analyse_33 : xa_d xP 109 33 (.ireturn) 1 34 := ⟨by decide +kernel, rfl⟩
theorem e_M_analyse_34 : xa_d xP 109 34 (.iconst 1) 1 35 := ⟨by decide +kernel, rfl⟩
theorem e_M_analyse_35 : xa_d xP 109 35 (.istore_n 1) 1 36 := ⟨by decide +kernel, rfl⟩
theorem e_M_analyse_36 : xa_d xP 109 36 (.iload_n 1) 1 37 := ⟨by decide +kernel, rfl⟩
theorem e_M_analyse_37 : xa_d xP 109 37 (.iconst 5) 1 38 := ⟨by decide +kernel, rfl⟩
theorem e_M_analyse_38 : xa_db xP 109 38 (.if_icmp .ge 46) 3 41 46 84 := ⟨⟨by decide +kernel, rfl⟩, rfl⟩
theorem e_M_analyse_41 : xa_d xP 109 41 (.iconst 0) 1 42 := ⟨by decide +kernel, rfl⟩
theorem e_M_analyse_42 : xa_d xP 109 42 (.istore_n 2) 1 43 := ⟨by decide +kernel, rfl⟩
theorem e_M_analyse_43 : xa_d xP 109 43 (.iload_n 2) 1 44 := ⟨by decide +kernel, rfl⟩
theorem e_M_analyse_44 : xa_d xP 109 44 (.aload_n 0) 1 45 := ⟨by decide +kernel, rfl⟩
theorem e_M_analyse_45 : xa_d xP 109 45 (.getfield 81) 3 48 := ⟨by decide +kernel, rfl⟩
theorem e_M_analyse_48 : xa_db xP 109 48 (.if_icmp .ge 30) 3 51 30 78 := ⟨⟨by decide +kernel, rfl⟩, rfl⟩
theorem e_M_analyse_51 : xa_d xP 109 51 (.aload_n 0) 1 52 := ⟨by decide +kernel, rfl⟩
theorem e_M_analyse_52 : xa_d xP 109 52 (.iload_n 1) 1 53 := ⟨by decide +kernel, rfl⟩
theorem e_M_analyse_53 : xa_d xP 109 53 (.iload_n 2) 1 54 := ⟨by decide +kernel, rfl⟩
theorem e_M_analyse_54 : xa_d xP 109 54 (.invokevirtual 142) 3 57 := ⟨by decide +kernel, rfl⟩
theorem e_M_analyse_57 : xa_db xP 109 57 (.ifCond .eq 15) 3 60 15 72 := ⟨⟨by decide +kernel, rfl⟩, rfl⟩
theorem e_M_analyse_60 : xa_d xP 109 60 (.aload_n 0) 1 61 := ⟨by decide +kernel, rfl⟩
theorem e_M_analyse_61 : xa_d xP 109 61 (.iload_n 1) 1 62 := ⟨by decide +kernel, rfl⟩
theorem e_M_analyse_62 : xa_d xP 109 62 (.putfield 29) 3 65 := ⟨by decide +kernel, rfl⟩
theorem e_M_analyse_65 : xa_d xP 109 65 (.aload_n 0) 1 66 := ⟨by decide +kernel, rfl⟩
theorem e_M_analyse_66 : xa_d xP 109 66 (.iload_n 2) 1 67 := ⟨by decide +kernel, rfl⟩
theorem e_M_analyse_67 : xa_d xP 109 67 (.putfield 33) 3 70 := ⟨by decide +kernel, rfl⟩
theorem e_M_analyse_70 : xa_d xP 109 70 (.iload_n 1) 1 71 := ⟨by decide +kernel, rfl⟩
theorem e_M_analyse_71 : xa_d xP 109 71 (.ireturn) 1 72 := ⟨by decide +kernel, rfl⟩
theorem e_M_analyse_72 : xa_d xP 109 72 (.iinc 2 1) 3 75 := ⟨by decide +kernel, rfl⟩
theorem e_M_analyse_75 : xa_db xP 109 75 (.goto (-32)) 3 78 (-32) 43 := ⟨⟨by decide +kernel, rfl⟩, rfl⟩
theorem e_M_analyse_78 : xa_d xP 109 78 (.iinc 1 1) 3 81 := ⟨by decide +kernel, rfl⟩
theorem e_M_analyse_81 : xa_db xP 109 81 (.goto (-45)) 3 84 (-45) 36 := ⟨⟨by decide +kernel, rfl⟩, rfl⟩
theorem e_M_analyse_84 : xa_d xP 109 84 (.aload_n 0) 1 85 := ⟨by decide +kernel, rfl⟩
theorem e_M_analyse_85 : xa_d xP 109 85 (.iconst 0) 1 86 := ⟨by decide +kernel, rfl⟩
theorem e_M_analyse_86 : xa_d xP 109 86 (.putfield 29) 3 89 := ⟨by decide +kernel, rfl⟩
theorem e_M_analyse_89 : xa_d xP 109 89 (.iconst 0) 1 90 := ⟨by decide +kernel, rfl⟩
theorem e_M_analyse_90 : xa_d xP 109 90 (.ireturn) 1 91 := ⟨by decide +kernel, rfl⟩
theorem e_M_explore_0 : xa_d xP 110 0 (.aload_n 0) 1 1 := ⟨by decide +kernel, rfl⟩
theorem e_M_explore_1 : xa_d xP 110 1 (.getfield 36) 3 4 := ⟨by decide +kernel, rfl⟩
theorem e_M_explore_4 : xa_d xP 110 4 (.iconst 0) 1 5 := ⟨by decide +kernel, rfl⟩
theorem e_M_explore_5 : xa_d xP 110 5 (.aload_n 0) 1 6 := ⟨by decide +kernel, rfl⟩
theorem e_M_explore_6 : xa_d xP 110 6 (.getfield 100) 3 9 := ⟨by decide +kernel, rfl⟩
theorem e_M_explore_9 : xa_d xP 110 9 (.iastore) 1 10 := ⟨by decide +kernel, rfl⟩
theorem e_M_explore_10 : xa_d xP 110 10 (.aload_n 0) 1 11 := ⟨by decide +kernel, rfl⟩
theorem e_M_explore_11 : xa_d xP 110 11 (.getfield 39) 3 14 := ⟨by decide +kernel, rfl⟩
theorem e_M_explore_14 : xa_d xP 110 14 (.iconst 0) 1 15 := ⟨by decide +kernel, rfl⟩
theorem e_M_explore_15 : xa_d xP 110 15 (.iconst 0) 1 16 := ⟨by decide +kernel, rfl⟩
theorem e_M_explore_16 : xa_d xP 110 16 (.iastore) 1 17 := ⟨by decide +kernel, rfl⟩
theorem e_M_explore_17 : xa_d xP 110 17 (.iconst 0) 1 18 := ⟨by decide +kernel, rfl⟩
theorem e_M_explore_18 : xa_d xP 110 18 (.istore_n 1) 1 19 := ⟨by decide +kernel, rfl⟩
theorem e_M_explore_19 : xa_d xP 110 19 (.iload_n 1) 1 20 := ⟨by decide +kernel, rfl⟩
theorem e_M_explore_20 : xa_d xP 110 20 (.aload_n 0) 1 21 := ⟨by decide +kernel, rfl⟩
theorem e_M_explore_21 : xa_d xP 110 21 (.getfield 84) 3 24 := ⟨by decide +kernel, rfl⟩
theorem e_M_explore_24 : xa_db xP 110 24 (.if_icmp .ge 43) 3 27 43 67 := ⟨⟨by decide +kernel, rfl⟩, rfl⟩
theorem e_M_explore_27 : xa_d xP 110 27 (.aload_n 0) 1 28 := ⟨by decide +kernel, rfl⟩
theorem e_M_explore_28 : xa_d xP 110 28 (.getfield 39) 3 31 := ⟨by decide +kernel, rfl⟩
theorem e_M_explore_31 : xa_d xP 110 31 (.iconst 0) 1 32 := ⟨by decide +kernel, rfl⟩
theorem e_M_explore_32 : xa_d xP 110 32 (.aload_n 0) 1 33 := ⟨by decide +kernel, rfl⟩
theorem e_M_explore_33 : xa_d xP 110 33 (.getfield 13) 3 36 := ⟨by decide +kernel, rfl⟩
theorem e_M_explore_36 : xa_d xP 110 36 (.iload_n 1) 1 37 := ⟨by decide +kernel, rfl⟩
theorem e_M_explore_37 : xa_d xP 110 37 (.baload) 1 38 := ⟨by decide +kernel, rfl⟩
theorem e_M_explore_38 : xa_db xP 110 38 (.ifCond .eq 16) 3 41 16 54 := ⟨⟨by decide +kernel, rfl⟩, rfl⟩
theorem e_M_explore_41 : xa_d xP 110 41 (.aload_n 0) 1 42 := ⟨by decide +kernel, rfl⟩
theorem e_M_explore_42 : xa_d xP 110 42 (.getfield 39) 3 45 := ⟨by decide +kernel, rfl⟩
theorem e_M_explore_45 : xa_d xP 110 45 (.iconst 0) 1 46 := ⟨by decide +kernel, rfl⟩
theorem e_M_explore_46 : xa_d xP 110 46 (.iaload) 1 47 := ⟨by decide +kernel, rfl⟩
theorem e_M_explore_47 : xa_d xP 110 47 (.iconst 1) 1 48 := ⟨by decide +kernel, rfl⟩
theorem e_M_explore_48 : xa_d xP 110 48 (.iload_n 1) 1 49 := ⟨by decide +kernel, rfl⟩
theorem e_M_explore_49 : xa_d xP 110 49 (.ishl) 1 50 := ⟨by decide +kernel, rfl⟩
theorem e_M_explore_50 : xa_d xP 110 50 (.ior) 1 51 := ⟨by decide +kernel, rfl⟩
theorem e_M_explore_51 : xa_db xP 110 51 (.goto 9) 3 54 9 60 := ⟨⟨by decide +kernel, rfl⟩, rfl⟩
theorem e_M_explore_54 : xa_d xP 110 54 (.aload_n 0) 1 55 := ⟨by decide +kernel, rfl⟩
theorem e_M_explore_55 : xa_d xP 110 55 (.getfield 39) 3 58 := ⟨by decide +kernel, rfl⟩
theorem e_M_explore_58 : xa_d xP 110 58 (.iconst 0) 1 59 := ⟨by decide +kernel, rfl⟩
theorem e_M_explore_59 : xa_d xP 110 59 (.iaload) 1 60 := ⟨by decide +kernel, rfl⟩
theorem e_M_explore_60 : xa_d xP 110 60 (.iastore) 1 61 := ⟨by decide +kernel, rfl⟩
theorem e_M_explore_61 : xa_d xP 110 61 (.iinc 1 1) 3 64 := ⟨by decide +kernel, rfl⟩
theorem e_M_explore_64 : xa_db xP 110 64 (.goto (-45)) 3 67 (-45) 19 := ⟨⟨by decide +kernel, rfl⟩, rfl⟩
theorem e_M_explore_67 : xa_d xP 110 67 (.aload_n 0) 1 68 := ⟨by decide +kernel, rfl⟩
theorem e_M_explore_68 : xa_d xP 110 68 (.getfield 42) 3 71 := ⟨by decide +kernel, rfl⟩
theorem e_M_explore_71 : xa_d xP 110 71 (.iconst 0) 1 72 := ⟨by decide +kernel, rfl⟩
theorem e_M_explore_72 : xa_d xP 110 72 (.iconst (-1)) 1 73 := ⟨by decide +kernel, rfl⟩
theorem e_M_explore_73 : xa_d xP 110 73 (.iastore) 1 74 := ⟨by decide +kernel, rfl⟩
theorem e_M_explore_74 : xa_d xP 110 74 (.aload_n 0) 1 75 := ⟨by decide +kernel, rfl⟩
theorem e_M_explore_75 : xa_d xP 110 75 (.iconst 1) 1 76 := ⟨by decide +kernel, rfl⟩
theorem e_M_explore_76 : xa_d xP 110 76 (.putfield 81) 3 79 := ⟨by decide +kernel, rfl⟩
theorem e_M_explore_79 : xa_d xP 110 79 (.iconst 0) 1 80 := ⟨by decide +kernel, rfl⟩
theorem e_M_explore_80 : xa_d xP 110 80 (.istore_n 1) 1 81 := ⟨by decide +kernel, rfl⟩
theorem e_M_explore_81 : xa_d xP 110 81 (.iload_n 1) 1 82 := ⟨by decide +kernel, rfl⟩
theorem e_M_explore_82 : xa_d xP 110 82 (.aload_n 0) 1 83 := ⟨by decide +kernel, rfl⟩
theorem e_M_explore_83 : xa_d xP 110 83 (.getfield 81) 3 86 := ⟨by decide +kernel, rfl⟩
theorem e_M_explore_86 : xa_db xP 110 86 (.if_icmp .ge 144) 3 89 144 230 := ⟨⟨by decide +kernel, rfl⟩, rfl⟩
theorem e_M_explore_89 : xa_d xP 110 89 (.aload_n 0) 1 90 := ⟨by decide +kernel, rfl⟩
theorem e_M_explore_90 : xa_d xP 110 90 (.getfield 81) 3 93 := ⟨by decide +kernel, rfl⟩
theorem e_M_explore_93 : xa_d xP 110 93 (.bipush 81) 2 95 := ⟨by decide +kernel, rfl⟩
theorem e_M_explore_95 : xa_db xP 110 95 (.if_icmp .ge 135) 3 98 135 230 := ⟨⟨by decide +kernel, rfl⟩, rfl⟩
theorem e_M_explore_98 : xa_d xP 110 98 (.iconst 0) 1 99 := ⟨by decide +kernel, rfl⟩
theorem e_M_explore_99 : xa_d xP 110 99 (.istore_n 2) 1 100 := ⟨by decide +kernel, rfl⟩
theorem e_M_explore_100 : xa_d xP 110 100 (.iload_n 2) 1 101 := ⟨by decide +kernel, rfl⟩
theorem e_M_explore_101 : xa_d xP 110 101 (.aload_n 0) 1 102 := ⟨by decide +kernel, rfl⟩
theorem e_M_explore_102 : xa_d xP 110 102 (.getfield 94) 3 105 := ⟨by decide +kernel, rfl⟩
theorem e_M_explore_105 : xa_db xP 110 105 (.if_icmp .ge 119) 3 108 119 224 := ⟨⟨by decide +kernel, rfl⟩, rfl⟩
theorem e_M_explore_108 : xa_d xP 110 108 (.aload_n 0) 1 109 := ⟨by decide +kernel, rfl⟩
theorem e_M_explore_109 : xa_d xP 110 109 (.getfield 81) 3 112 := ⟨by decide +kernel, rfl⟩
theorem e_M_explore_112 : xa_d xP 110 112 (.bipush 81) 2 114 := ⟨by decide +kernel, rfl⟩
theorem e_M_explore_114 : xa_db xP 110 114 (.if_icmp .ge 110) 3 117 110 224 := ⟨⟨by decide +kernel, rfl⟩, rfl⟩
theorem e_M_explore_117 : xa_d xP 110 117 (.aload_n 0) 1 118 := ⟨by decide +kernel, rfl⟩
theorem e_M_explore_118 : xa_d xP 110 118 (.iload_n 1) 1 119 := ⟨by decide +kernel, rfl⟩
theorem e_M_explore_119 : xa_d xP 110 119 (.iload_n 2) 1 120 := ⟨by decide +kernel, rfl⟩
theorem e_M_explore_120 : xa_d xP 110 120 (.invokevirtual 103) 3 123 := ⟨by decide +kernel, rfl⟩
theorem e_M_explore_123 : xa_db xP 110 123 (.ifCond .eq 95) 3 126 95 218 := ⟨⟨by decide +kernel, rfl⟩, rfl⟩
theorem e_M_explore_126 : xa_d xP 110 126 (.aload_n 0) 1 127 := ⟨by decide +kernel, rfl⟩
theorem e_M_explore_127 : xa_d xP 110 127 (.iload_n 1) 1 128 := ⟨by decide +kernel, rfl⟩
theorem e_M_explore_128 : xa_d xP 110 128 (.iload_n 2) 1 129 := ⟨by decide +kernel, rfl⟩
theorem e_M_explore_129 : xa_d xP 110 129 (.invokevirtual 107) 3 132 := ⟨by decide +kernel, rfl⟩
theorem e_M_explore_132 : xa_db xP 110 132 (.ifCond .eq 86) 3 135 86 218 := ⟨⟨by decide +kernel, rfl⟩, rfl⟩
theorem e_M_explore_135 : xa_d xP 110 135 (.aload_n 0) 1 136 := ⟨by decide +kernel, rfl⟩
theorem e_M_explore_136 : xa_d xP 110 136 (.iload_n 1) 1 137 := ⟨by decide +kernel, rfl⟩
theorem e_M_explore_137 : xa_d xP 110 137 (.iload_n 2) 1 138 := ⟨by decide +kernel, rfl⟩
theorem e_M_explore_138 : xa_d xP 110 138 (.invokevirtual 110) 3 141 := ⟨by decide +kernel, rfl⟩
theorem e_M_explore_141 : xa_db xP 110 141 (.ifCond .eq 77) 3 144 77 218 := ⟨⟨by decide +kernel, rfl⟩, rfl⟩
theorem e_M_explore_144 : xa_d xP 110 144 (.aload_n 0) 1 145 := ⟨by decide +kernel, rfl⟩
theorem e_M_explore_145 : xa_d xP 110 145 (.aload_n 0) 1 146 := ⟨by decide +kernel, rfl⟩
theorem e_M_explore_146 : xa_d xP 110 146 (.iload_n 1) 1 147 := ⟨by decide +kernel, rfl⟩
theorem e_M_explore_147 : xa_d xP 110 147 (.iload_n 2) 1 148 := ⟨by decide +kernel, rfl⟩
theorem e_M_explore_148 : xa_d xP 110 148 (.invokevirtual 113) 3 151 := ⟨by decide +kernel, rfl⟩
theorem e_M_explore_151 : xa_d xP 110 151 (.aload_n 0) 1 152 := ⟨by decide +kernel, rfl⟩
theorem e_M_explore_152 : xa_d xP 110 152 (.iload_n 1) 1 153 := ⟨by decide +kernel, rfl⟩
theorem e_M_explore_153 : xa_d xP 110 153 (.iload_n 2) 1 154 := ⟨by decide +kernel, rfl⟩
theorem e_M_explore_154 : xa_d xP 110 154 (.invokevirtual 117) 3 157 := ⟨by decide +kernel, rfl⟩
theorem e_M_explore_157 : xa_d xP 110 157 (.invokevirtual 120) 3 160 := ⟨by decide +kernel, rfl⟩
theorem e_M_explore_160 : xa_db xP 110 160 (.ifCond .ge 58) 3 163 58 218 := ⟨⟨by decide +kernel, rfl⟩, rfl⟩
theorem e_M_explore_163 : xa_d xP 110 163 (.aload_n 0) 1 164 := ⟨by decide +kernel, rfl⟩
theorem e_M_explore_164 : xa_d xP 110 164 (.getfield 36) 3 167 := ⟨by decide +kernel, rfl⟩
theorem e_M_explore_167 : xa_d xP 110 167 (.aload_n 0) 1 168 := ⟨by decide +kernel, rfl⟩
theorem e_M_explore_168 : xa_d xP 110 168 (.getfield 81) 3 171 := ⟨by decide +kernel, rfl⟩
theorem e_M_explore_171 : xa_d xP 110 171 (.aload_n 0) 1 172 := ⟨by decide +kernel, rfl⟩
theorem e_M_explore_172 : xa_d xP 110 172 (.iload_n 1) 1 173 := ⟨by decide +kernel, rfl⟩
theorem e_M_explore_173 : xa_d xP 110 173 (.iload_n 2) 1 174 := ⟨by decide +kernel, rfl⟩
theorem e_M_explore_174 : xa_d xP 110 174 (.invokevirtual 113) 3 177 := ⟨by decide +kernel, rfl⟩
theorem e_M_explore_177 : xa_d xP 110 177 (.iastore) 1 178 := ⟨by decide +kernel, rfl⟩
theorem e_M_explore_178 : xa_d xP 110 178 (.aload_n 0) 1 179 := ⟨by decide +kernel, rfl⟩
theorem e_M_explore_179 : xa_d xP 110 179 (.getfield 39) 3 182 := ⟨by decide +kernel, rfl⟩
theorem e_M_explore_182 : xa_d xP 110 182 (.aload_n 0) 1 183 := ⟨by decide +kernel, rfl⟩
theorem e_M_explore_183 : xa_d xP 110 183 (.getfield 81) 3 186 := ⟨by decide +kernel, rfl⟩
theorem e_M_explore_186 : xa_d xP 110 186 (.aload_n 0) 1 187 := ⟨by decide +kernel, rfl⟩
theorem e_M_explore_187 : xa_d xP 110 187 (.iload_n 1) 1 188 := ⟨by decide +kernel, rfl⟩
theorem e_M_explore_188 : xa_d xP 110 188 (.iload_n 2) 1 189 := ⟨by decide +kernel, rfl⟩
theorem e_M_explore_189 : xa_d xP 110 189 (.invokevirtual 117) 3 192 := ⟨by decide +kernel, rfl⟩
theorem e_M_explore_192 : xa_d xP 110 192 (.iastore) 1 193 := ⟨by decide +kernel, rfl⟩
theorem e_M_explore_193 : xa_d xP 110 193 (.aload_n 0) 1 194 := ⟨by decide +kernel, rfl⟩
theorem e_M_explore_194 : xa_d xP 110 194 (.getfield 42) 3 197 := ⟨by decide +kernel, rfl⟩
theorem e_M_explore_197 : xa_d xP 110 197 (.aload_n 0) 1 198 := ⟨by decide +kernel, rfl⟩
theorem e_M_explore_198 : xa_d xP 110 198 (.getfield 81) 3 201 := ⟨by decide +kernel, rfl⟩
theorem e_M_explore_201 : xa_d xP 110 201 (.bipush 100) 2 203 := ⟨by decide +kernel, rfl⟩
theorem e_M_explore_203 : xa_d xP 110 203 (.iload_n 1) 1 204 := ⟨by decide +kernel, rfl⟩
theorem e_M_explore_204 : xa_d xP 110 204 (.imul) 1 205 := ⟨by decide +kernel, rfl⟩
theorem e_M_explore_205 : xa_d xP 110 205 (.iload_n 2) 1 206 := ⟨by decide +kernel, rfl⟩
theorem e_M_explore_206 : xa_d xP 110 206 (.iadd) 1 207 := ⟨by decide +kernel, rfl⟩
theorem e_M_explore_207 : xa_d xP 110 207 (.iastore) 1 208 := ⟨by decide +kernel, rfl⟩
theorem e_M_explore_208 : xa_d xP 110 208 (.aload_n 0) 1 209 := ⟨by decide +kernel, rfl⟩
theorem e_M_explore_209 : xa_d xP 110 209 (.dup) 1 210 := ⟨by decide +kernel, rfl⟩
theorem e_M_explore_210 : xa_d xP 110 210 (.getfield 81) 3 213 := ⟨by decide +kernel, rfl⟩
theorem e_M_explore_213 : xa_d xP 110 213 (.iconst 1) 1 214 := ⟨by decide +kernel, rfl⟩
theorem e_M_explore_214 : xa_d xP 110 214 (.iadd) 1 215 := ⟨by decide +kernel, rfl⟩
theorem e_M_explore_215 : xa_d xP 110 215 (.putfield 81) 3 218 := ⟨by decide +kernel, rfl⟩
theorem e_M_explore_218 : xa_d xP 110 218 (.iinc 2 1) 3 221 := ⟨by decide +kernel, rfl⟩
theorem e_M_explore_221 : xa_db xP 110 221 (.goto (-121)) 3 224 (-121) 100 := ⟨⟨by decide +kernel, rfl⟩, rfl⟩
theorem e_M_explore_224 : xa_d xP 110 224 (.iinc 1 1) 3 227 := ⟨by decide +kernel, rfl⟩
theorem e_M_explore_227 : xa_db xP 110 227 (.goto (-146)) 3 230 (-146) 81 := ⟨⟨by decide +kernel, rfl⟩, rfl⟩
theorem e_M_explore_230 : xa_d xP 110 230 (.return_) 1 231 := ⟨by decide +kernel, rfl⟩
theorem e_M_enabled_0 : xa_d xP 111 0 (.aload_n 0) 1 1 := ⟨by decide +kernel, rfl⟩
theorem e_M_enabled_1 : xa_d xP 111 1 (.getfield 36) 3 4 := ⟨by decide +kernel, rfl⟩
theorem e_M_enabled_4 : xa_d xP 111 4 (.iload_n 1) 1 5 := ⟨by decide +kernel, rfl⟩
theorem e_M_enabled_5 : xa_d xP 111 5 (.iaload) 1 6 := ⟨by decide +kernel, rfl⟩
theorem e_M_enabled_6 : xa_d xP 111 6 (.aload_n 0) 1 7 := ⟨by decide +kernel, rfl⟩
theorem e_M_enabled_7 : xa_d xP 111 7 (.getfield 23) 3 10 := ⟨by decide +kernel, rfl⟩
theorem e_M_enabled_10 : xa_d xP 111 10 (.iload_n 2) 1 11 := ⟨by decide +kernel, rfl⟩
theorem e_M_enabled_11 : xa_d xP 111 11 (.iaload) 1 12 := ⟨by decide +kernel, rfl⟩
theorem e_M_enabled_12 : xa_d xP 111 12 (.iand) 1 13 := ⟨by decide +kernel, rfl⟩
theorem e_M_enabled_13 : xa_d xP 111 13 (.aload_n 0) 1 14 := ⟨by decide +kernel, rfl⟩
theorem e_M_enabled_14 : xa_d xP 111 14 (.getfield 23) 3 17 := ⟨by decide +kernel, rfl⟩
theorem e_M_enabled_17 : xa_d xP 111 17 (.iload_n 2) 1 18 := ⟨by decide +kernel, rfl⟩
theorem e_M_enabled_18 : xa_d xP 111 18 (.iaload) 1 19 := ⟨by decide +kernel, rfl⟩
theorem e_M_enabled_19 : xa_db xP 111 19 (.if_icmp .ne 7) 3 22 7 26 := ⟨⟨by decide +kernel, rfl⟩, rfl⟩
theorem e_M_enabled_22 : xa_d xP 111 22 (.iconst 1) 1 23 := ⟨by decide +kernel, rfl⟩
theorem e_M_enabled_23 : xa_db xP 111 23 (.goto 4) 3 26 4 27 := ⟨⟨by decide +kernel, rfl⟩, rfl⟩
theorem e_M_enabled_26 : xa_d xP 111 26 (.iconst 0) 1 27 := ⟨by decide +kernel, rfl⟩
theorem e_M_enabled_27 : xa_d xP 111 27 (.ireturn) 1 28 := ⟨by decide +kernel, rfl⟩
theorem e_M_safe_0 : xa_d xP 112 0 (.aload_n 0) 1 1 := ⟨by decide +kernel, rfl⟩
theorem e_M_safe_1 : xa_d xP 112 1 (.getfield 36) 3 4 := ⟨by decide +kernel, rfl⟩
theorem e_M_safe_4 : xa_d xP 112 4 (.iload_n 1) 1 5 := ⟨by decide +kernel, rfl⟩
theorem e_M_safe_5 : xa_d xP 112 5 (.iaload) 1 6 := ⟨by decide +kernel, rfl⟩
theorem e_M_safe_6 : xa_d xP 112 6 (.aload_n 0) 1 7 := ⟨by decide +kernel, rfl⟩
theorem e_M_safe_7 : xa_d xP 112 7 (.getfield 26) 3 10 := ⟨by decide +kernel, rfl⟩
theorem e_M_safe_10 : xa_d xP 112 10 (.iload_n 2) 1 11 := ⟨by decide +kernel, rfl⟩
theorem e_M_safe_11 : xa_d xP 112 11 (.iaload) 1 12 := ⟨by decide +kernel, rfl⟩
theorem e_M_safe_12 : xa_d xP 112 12 (.iand) 1 13 := ⟨by decide +kernel, rfl⟩
theorem e_M_safe_13 : xa_d xP 112 13 (.aload_n 0) 1 14 := ⟨by decide +kernel, rfl⟩
theorem e_M_safe_14 : xa_d xP 112 14 (.getfield 23) 3 17 := ⟨by decide +kernel, rfl⟩
theorem e_M_safe_17 : xa_d xP 112 17 (.iload_n 2) 1 18 := ⟨by decide +kernel, rfl⟩
theorem e_M_safe_18 : xa_d xP 112 18 (.iaload) 1 19 := ⟨by decide +kernel, rfl⟩
theorem e_M_safe_19 : xa_d xP 112 19 (.iconst (-1)) 1 20 := ⟨by decide +kernel, rfl⟩
theorem e_M_safe_20 : xa_d xP 112 20 (.ixor) 1 21 := ⟨by decide +kernel, rfl⟩
theorem e_M_safe_21 : xa_d xP 112 21 (.iand) 1 22 := ⟨by decide +kernel, rfl⟩
theorem e_M_safe_22 : xa_db xP 112 22 (.ifCond .ne 7) 3 25 7 29 := ⟨⟨by decide +kernel, rfl⟩, rfl⟩
theorem e_M_safe_25 : xa_d xP 112 25 (.iconst 1) 1 26 := ⟨by decide +kernel, rfl⟩
theorem e_M_safe_26 : xa_db xP 112 26 (.goto 4) 3 29 4 30 := ⟨⟨by decide +kernel, rfl⟩, rfl⟩
theorem e_M_safe_29 : xa_d xP 112 29 (.iconst 0) 1 30 := ⟨by decide +kernel, rfl⟩
theorem e_M_safe_30 : xa_d xP 112 30 (.ireturn) 1 31 := ⟨by decide +kernel, rfl⟩
theorem e_M_right_0 : xa_d xP 113 0 (.aload_n 0) 1 1 := ⟨by decide +kernel, rfl⟩
theorem e_M_right_1 : xa_d xP 113 1 (.getfield 39) 3 4 := ⟨by decide +kernel, rfl⟩
theorem e_M_right_4 : xa_d xP 113 4 (.iload_n 1) 1 5 := ⟨by decide +kernel, rfl⟩
theorem e_M_right_5 : xa_d xP 113 5 (.iaload) 1 6 := ⟨by decide +kernel, rfl⟩
theorem e_M_right_6 : xa_d xP 113 6 (.aload_n 0) 1 7 := ⟨by decide +kernel, rfl⟩
theorem e_M_right_7 : xa_d xP 113 7 (.getfield 16) 3 10 := ⟨by decide +kernel, rfl⟩
theorem e_M_right_10 : xa_d xP 113 10 (.iload_n 2) 1 11 := ⟨by decide +kernel, rfl⟩
theorem e_M_right_11 : xa_d xP 113 11 (.iaload) 1 12 := ⟨by decide +kernel, rfl⟩
theorem e_M_right_12 : xa_d xP 113 12 (.ishr) 1 13 := ⟨by decide +kernel, rfl⟩
theorem e_M_right_13 : xa_d xP 113 13 (.iconst 1) 1 14 := ⟨by decide +kernel, rfl⟩
theorem e_M_right_14 : xa_d xP 113 14 (.iand) 1 15 := ⟨by decide +kernel, rfl⟩
theorem e_M_right_15 : xa_d xP 113 15 (.aload_n 0) 1 16 := ⟨by decide +kernel, rfl⟩
theorem e_M_right_16 : xa_d xP 113 16 (.getfield 20) 3 19 := ⟨by decide +kernel, rfl⟩
theorem e_M_right_19 : xa_d xP 113 19 (.iload_n 2) 1 20 := ⟨by decide +kernel, rfl⟩
theorem e_M_right_20 : xa_d xP 113 20 (.baload) 1 21 := ⟨by decide +kernel, rfl⟩
theorem e_M_right_21 : xa_db xP 113 21 (.ifCond .eq 7) 3 24 7 28 := ⟨⟨by decide +kernel, rfl⟩, rfl⟩
theorem e_M_right_24 : xa_d xP 113 24 (.iconst 0) 1 25 := ⟨by decide +kernel, rfl⟩
theorem e_M_right_25 : xa_db xP 113 25 (.goto 4) 3 28 4 29 := ⟨⟨by decide +kernel, rfl⟩, rfl⟩
theorem e_M_right_28 : xa_d xP 113 28 (.iconst 1) 1 29 := ⟨by decide +kernel, rfl⟩
theorem e_M_right_29 : xa_db xP 113 29 (.if_icmp .ne 7) 3 32 7 36 := ⟨⟨by decide +kernel, rfl⟩, rfl⟩
theorem e_M_right_32 : xa_d xP 113 32 (.iconst 1) 1 33 := ⟨by decide +kernel, rfl⟩
theorem e_M_right_33 : xa_db xP 113 33 (.goto 4) 3 36 4 37 := ⟨⟨by decide +kernel, rfl⟩, rfl⟩
theorem e_M_right_36 : xa_d xP 113 36 (.iconst 0) 1 37 := ⟨by decide +kernel, rfl⟩
theorem e_M_right_37 : xa_d xP 113 37 (.ireturn) 1 38 := ⟨by decide +kernel, rfl⟩
theorem e_M_markAfter_0 : xa_d xP 114 0 (.aload_n 0) 1 1 := ⟨by decide +kernel, rfl⟩
theorem e_M_markAfter_1 : xa_d xP 114 1 (.getfield 36) 3 4 := ⟨by decide +kernel, rfl⟩
theorem e_M_markAfter_4 : xa_d xP 114 4 (.iload_n 1) 1 5 := ⟨by decide +kernel, rfl⟩
theorem e_M_markAfter_5 : xa_d xP 114 5 (.iaload) 1 6 := ⟨by decide +kernel, rfl⟩
theorem e_M_markAfter_6 : xa_d xP 114 6 (.aload_n 0) 1 7 := ⟨by decide +kernel, rfl⟩
theorem e_M_markAfter_7 : xa_d xP 114 7 (.getfield 23) 3 10 := ⟨by decide +kernel, rfl⟩
theorem e_M_markAfter_10 : xa_d xP 114 10 (.iload_n 2) 1 11 := ⟨by decide +kernel, rfl⟩
theorem e_M_markAfter_11 : xa_d xP 114 11 (.iaload) 1 12 := ⟨by decide +kernel, rfl⟩
theorem e_M_markAfter_12 : xa_d xP 114 12 (.iconst (-1)) 1 13 := ⟨by decide +kernel, rfl⟩
theorem e_M_markAfter_13 : xa_d xP 114 13 (.ixor) 1 14 := ⟨by decide +kernel, rfl⟩
theorem e_M_markAfter_14 : xa_d xP 114 14 (.iand) 1 15 := ⟨by decide +kernel, rfl⟩
theorem e_M_markAfter_15 : xa_d xP 114 15 (.aload_n 0) 1 16 := ⟨by decide +kernel, rfl⟩
theorem e_M_markAfter_16 : xa_d xP 114 16 (.getfield 26) 3 19 := ⟨by decide +kernel, rfl⟩
theorem e_M_markAfter_19 : xa_d xP 114 19 (.iload_n 2) 1 20 := ⟨by decide +kernel, rfl⟩
theorem e_M_markAfter_20 : xa_d xP 114 20 (.iaload) 1 21 := ⟨by decide +kernel, rfl⟩
theorem e_M_markAfter_21 : xa_d xP 114 21 (.ior) 1 22 := ⟨by decide +kernel, rfl⟩
theorem e_M_markAfter_22 : xa_d xP 114 22 (.ireturn) 1 23 := ⟨by decide +kernel, rfl⟩
theorem e_M_codeAfter_0 : xa_d xP 115 0 (.aload_n 0) 1 1 := ⟨by decide +kernel, rfl⟩
theorem e_M_codeAfter_1 : xa_d xP 115 1 (.getfield 20) 3 4 := ⟨by decide +kernel, rfl⟩
theorem e_M_codeAfter_4 : xa_d xP 115 4 (.iload_n 2) 1 5 := ⟨by decide +kernel, rfl⟩
theorem e_M_codeAfter_5 : xa_d xP 115 5 (.baload) 1 6 := ⟨by decide +kernel, rfl⟩
theorem e_M_codeAfter_6 : xa_db xP 115 6 (.ifCond .eq 21) 3 9 21 27 := ⟨⟨by decide +kernel, rfl⟩, rfl⟩
theorem e_M_codeAfter_9 : xa_d xP 115 9 (.aload_n 0) 1 10 := ⟨by decide +kernel, rfl⟩
theorem e_M_codeAfter_10 : xa_d xP 115 10 (.getfield 39) 3 13 := ⟨by decide +kernel, rfl⟩
theorem e_M_codeAfter_13 : xa_d xP 115 13 (.iload_n 1) 1 14 := ⟨by decide +kernel, rfl⟩
theorem e_M_codeAfter_14 : xa_d xP 115 14 (.iaload) 1 15 := ⟨by decide +kernel, rfl⟩
theorem e_M_codeAfter_15 : xa_d xP 115 15 (.iconst 1) 1 16 := ⟨by decide +kernel, rfl⟩
theorem e_M_codeAfter_16 : xa_d xP 115 16 (.aload_n 0) 1 17 := ⟨by decide +kernel, rfl⟩
theorem e_M_codeAfter_17 : xa_d xP 115 17 (.getfield 16) 3 20 := ⟨by decide +kernel, rfl⟩
theorem e_M_codeAfter_20 : xa_d xP 115 20 (.iload_n 2) 1 21 := ⟨by decide +kernel, rfl⟩
theorem e_M_codeAfter_21 : xa_d xP 115 21 (.iaload) 1 22 := ⟨by decide +kernel, rfl⟩
theorem e_M_codeAfter_22 : xa_d xP 115 22 (.ishl) 1 23 := ⟨by decide +kernel, rfl⟩
theorem e_M_codeAfter_23 : xa_d xP 115 23 (.ior) 1 24 := ⟨by decide +kernel, rfl⟩
theorem e_M_codeAfter_24 : xa_db xP 115 24 (.goto 20) 3 27 20 44 := ⟨⟨by decide +kernel, rfl⟩, rfl⟩
theorem e_M_codeAfter_27 : xa_d xP 115 27 (.aload_n 0) 1 28 := ⟨by decide +kernel, rfl⟩
theorem e_M_codeAfter_28 : xa_d xP 115 28 (.getfield 39) 3 31 := ⟨by decide +kernel, rfl⟩
theorem e_M_codeAfter_31 : xa_d xP 115 31 (.iload_n 1) 1 32 := ⟨by decide +kernel, rfl⟩
theorem e_M_codeAfter_32 : xa_d xP 115 32 (.iaload) 1 33 := ⟨by decide +kernel, rfl⟩
theorem e_M_codeAfter_33 : xa_d xP 115 33 (.iconst 1) 1 34 := ⟨by decide +kernel, rfl⟩
theorem e_M_codeAfter_34 : xa_d xP 115 34 (.aload_n 0) 1 35 := ⟨by decide +kernel, rfl⟩
theorem e_M_codeAfter_35 : xa_d xP 115 35 (.getfield 16) 3 38 := ⟨by decide +kernel, rfl⟩
theorem e_M_codeAfter_38 : xa_d xP 115 38 (.iload_n 2) 1 39 := ⟨by decide +kernel, rfl⟩
theorem e_M_codeAfter_39 : xa_d xP 115 39 (.iaload) 1 40 := ⟨by decide +kernel, rfl⟩
theorem e_M_codeAfter_40 : xa_d xP 115 40 (.ishl) 1 41 := ⟨by decide +kernel, rfl⟩
theorem e_M_codeAfter_41 : xa_d xP 115 41 (.iconst (-1)) 1 42 := ⟨by decide +kernel, rfl⟩
theorem e_M_codeAfter_42 : xa_d xP 115 42 (.ixor) 1 43 := ⟨by decide +kernel, rfl⟩
theorem e_M_codeAfter_43 : xa_d xP 115 43 (.iand) 1 44 := ⟨by decide +kernel, rfl⟩
theorem e_M_codeAfter_44 : xa_d xP 115 44 (.ireturn) 1 45 := ⟨by decide +kernel, rfl⟩
theorem e_M_find_0 : xa_d xP 116 0 (.iconst 0) 1 1 := ⟨by decide +kernel, rfl⟩
theorem e_M_find_1 : xa_d xP 116 1 (.istore_n 3) 1 2 := ⟨by decide +kernel, rfl⟩
theorem e_M_find_2 : xa_d xP 116 2 (.iload_n 3) 1 3 := ⟨by decide +kernel, rfl⟩
theorem e_M_find_3 : xa_d xP 116 3 (.aload_n 0) 1 4 := ⟨by decide +kernel, rfl⟩
theorem e_M_find_4 : xa_d xP 116 4 (.getfield 81) 3 7 := ⟨by decide +kernel, rfl⟩
theorem e_M_find_7 : xa_db xP 116 7 (.if_icmp .ge 31) 3 10 31 38 := ⟨⟨by decide +kernel, rfl⟩, rfl⟩
theorem e_M_find_10 : xa_d xP 116 10 (.aload_n 0) 1 11 := ⟨by decide +kernel, rfl⟩
theorem e_M_find_11 : xa_d xP 116 11 (.getfield 36) 3 14 := ⟨by decide +kernel, rfl⟩
theorem e_M_find_14 : xa_d xP 116 14 (.iload_n 3) 1 15 := ⟨by decide +kernel, rfl⟩
theorem e_M_find_15 : xa_d xP 116 15 (.iaload) 1 16 := ⟨by decide +kernel, rfl⟩
theorem e_M_find_16 : xa_d xP 116 16 (.iload_n 1) 1 17 := ⟨by decide +kernel, rfl⟩
theorem e_M_find_17 : xa_db xP 116 17 (.if_icmp .ne 15) 3 20 15 32 := ⟨⟨by decide +kernel, rfl⟩, rfl⟩
theorem e_M_find_20 : xa_d xP 116 20 (.aload_n 0) 1 21 := ⟨by decide +kernel, rfl⟩
theorem e_M_find_21 : xa_d xP 116 21 (.getfield 39) 3 24 := ⟨by decide +kernel, rfl⟩
theorem e_M_find_24 : xa_d xP 116 24 (.iload_n 3) 1 25 := ⟨by decide +kernel, rfl⟩
theorem e_M_find_25 : xa_d xP 116 25 (.iaload) 1 26 := ⟨by decide +kernel, rfl⟩
theorem e_M_find_26 : xa_d xP 116 26 (.iload_n 2) 1 27 := ⟨by decide +kernel, rfl⟩
theorem e_M_find_27 : xa_db xP 116 27 (.if_icmp .ne 5) 3 30 5 32 := ⟨⟨by decide +kernel, rfl⟩, rfl⟩
theorem e_M_find_30 : xa_d xP 116 30 (.iload_n 3) 1 31 := ⟨by decide +kernel, rfl⟩
theorem e_M_find_31 : xa_d xP 116 31 (.ireturn) 1 32 := ⟨by decide +kernel, rfl⟩
theorem e_M_find_32 : xa_d xP 116 32 (.iinc 3 1) 3 35 := ⟨by decide +kernel, rfl⟩
theorem e_M_find_35 : xa_db xP 116 35 (.goto (-33)) 3 38 (-33) 2 := ⟨⟨by decide +kernel, rfl⟩, rfl⟩
theorem e_M_find_38 : xa_d xP 116 38 (.iconst (-1)) 1 39 := ⟨by decide +kernel, rfl⟩
theorem e_M_find_39 : xa_d xP 116 39 (.ireturn) 1 40 := ⟨by decide +kernel, rfl⟩
theorem e_M_bad_0 : xa_d xP 117 0 (.iconst 0) 1 1 := ⟨by decide +kernel, rfl⟩
theorem e_M_bad_1 : xa_d xP 117 1 (.istore_n 3) 1 2 := ⟨by decide +kernel, rfl⟩
theorem e_M_bad_2 : xa_d xP 117 2 (.iload_n 3) 1 3 := ⟨by decide +kernel, rfl⟩
theorem e_M_bad_3 : xa_d xP 117 3 (.aload_n 0) 1 4 := ⟨by decide +kernel, rfl⟩
theorem e_M_bad_4 : xa_d xP 117 4 (.getfield 94) 3 7 := ⟨by decide +kernel, rfl⟩
theorem e_M_bad_7 : xa_db xP 117 7 (.if_icmp .ge 51) 3 10 51 58 := ⟨⟨by decide +kernel, rfl⟩, rfl⟩
theorem e_M_bad_10 : xa_d xP 117 10 (.iload_n 1) 1 11 := ⟨by decide +kernel, rfl⟩
theorem e_M_bad_11 : xa_d xP 117 11 (.iconst 3) 1 12 := ⟨by decide +kernel, rfl⟩
theorem e_M_bad_12 : xa_db xP 117 12 (.if_icmp .ge 46) 3 15 46 58 := ⟨⟨by decide +kernel, rfl⟩, rfl⟩
theorem e_M_bad_15 : xa_d xP 117 15 (.aload_n 0) 1 16 := ⟨by decide +kernel, rfl⟩
theorem e_M_bad_16 : xa_d xP 117 16 (.iload_n 2) 1 17 := ⟨by decide +kernel, rfl⟩
theorem e_M_bad_17 : xa_d xP 117 17 (.iload_n 3) 1 18 := ⟨by decide +kernel, rfl⟩
theorem e_M_bad_18 : xa_d xP 117 18 (.invokevirtual 103) 3 21 := ⟨by decide +kernel, rfl⟩
theorem e_M_bad_21 : xa_db xP 117 21 (.ifCond .eq 31) 3 24 31 52 := ⟨⟨by decide +kernel, rfl⟩, rfl⟩
theorem e_M_bad_24 : xa_d xP 117 24 (.iload_n 1) 1 25 := ⟨by decide +kernel, rfl⟩
theorem e_M_bad_25 : xa_d xP 117 25 (.iconst 1) 1 26 := ⟨by decide +kernel, rfl⟩
theorem e_M_bad_26 : xa_db xP 117 26 (.if_icmp .ne 15) 3 29 15 41 := ⟨⟨by decide +kernel, rfl⟩, rfl⟩
theorem e_M_bad_29 : xa_d xP 117 29 (.aload_n 0) 1 30 := ⟨by decide +kernel, rfl⟩
theorem e_M_bad_30 : xa_d xP 117 30 (.iload_n 2) 1 31 := ⟨by decide +kernel, rfl⟩
theorem e_M_bad_31 : xa_d xP 117 31 (.iload_n 3) 1 32 := ⟨by decide +kernel, rfl⟩
theorem e_M_bad_32 : xa_d xP 117 32 (.invokevirtual 107) 3 35 := ⟨by decide +kernel, rfl⟩
theorem e_M_bad_35 : xa_db xP 117 35 (.ifCond .ne 17) 3 38 17 52 := ⟨⟨by decide +kernel, rfl⟩, rfl⟩
theorem e_M_bad_38 : xa_db xP 117 38 (.goto 12) 3 41 12 50 := ⟨⟨by decide +kernel, rfl⟩, rfl⟩
theorem e_M_bad_41 : xa_d xP 117 41 (.aload_n 0) 1 42 := ⟨by decide +kernel, rfl⟩
theorem e_M_bad_42 : xa_d xP 117 42 (.iload_n 2) 1 43 := ⟨by decide +kernel, rfl⟩
theorem e_M_bad_43 : xa_d xP 117 43 (.iload_n 3) 1 44 := ⟨by decide +kernel, rfl⟩
theorem e_M_bad_44 : xa_d xP 117 44 (.invokevirtual 110) 3 47 := ⟨by decide +kernel, rfl⟩
theorem e_M_bad_47 : xa_db xP 117 47 (.ifCond .ne 5) 3 50 5 52 := ⟨⟨by decide +kernel, rfl⟩, rfl⟩
theorem e_M_bad_50 : xa_d xP 117 50 (.iconst 1) 1 51 := ⟨by decide +kernel, rfl⟩
theorem e_M_bad_51 : xa_d xP 117 51 (.ireturn) 1 52 := ⟨by decide +kernel, rfl⟩
theorem e_M_bad_52 : xa_d xP 117 52 (.iinc 3 1) 3 55 := ⟨by decide +kernel, rfl⟩
theorem e_M_bad_55 : xa_db xP 117 55 (.goto (-53)) 3 58 (-53) 2 := ⟨⟨by decide +kernel, rfl⟩, rfl⟩
theorem e_M_bad_58 : xa_d xP 117 58 (.iload_n 1) 1 59 := ⟨by decide +kernel, rfl⟩
theorem e_M_bad_59 : xa_d xP 117 59 (.iconst 3) 1 60 := ⟨by decide +kernel, rfl⟩
theorem e_M_bad_60 : xa_db xP 117 60 (.if_icmp .ne 11) 3 63 11 71 := ⟨⟨by decide +kernel, rfl⟩, rfl⟩
theorem e_M_bad_63 : xa_d xP 117 63 (.aload_n 0) 1 64 := ⟨by decide +kernel, rfl⟩
theorem e_M_bad_64 : xa_d xP 117 64 (.iload_n 2) 1 65 := ⟨by decide +kernel, rfl⟩
theorem e_M_bad_65 : xa_d xP 117 65 (.invokevirtual 133) 3 68 := ⟨by decide +kernel, rfl⟩
theorem e_M_bad_68 : xa_db xP 117 68 (.goto 21) 3 71 21 89 := ⟨⟨by decide +kernel, rfl⟩, rfl⟩
theorem e_M_bad_71 : xa_d xP 117 71 (.iload_n 1) 1 72 := ⟨by decide +kernel, rfl⟩
theorem e_M_bad_72 : xa_d xP 117 72 (.iconst 4) 1 73 := ⟨by decide +kernel, rfl⟩
theorem e_M_bad_73 : xa_db xP 117 73 (.if_icmp .ne 15) 3 76 15 88 := ⟨⟨by decide +kernel, rfl⟩, rfl⟩
theorem e_M_bad_76 : xa_d xP 117 76 (.aload_n 0) 1 77 := ⟨by decide +kernel, rfl⟩
theorem e_M_bad_77 : xa_d xP 117 77 (.iload_n 2) 1 78 := ⟨by decide +kernel, rfl⟩
theorem e_M_bad_78 : xa_d xP 117 78 (.invokevirtual 136) 3 81 := ⟨by decide +kernel, rfl⟩
theorem e_M_bad_81 : xa_db xP 117 81 (.ifCond .eq 7) 3 84 7 88 := ⟨⟨by decide +kernel, rfl⟩, rfl⟩
theorem e_M_bad_84 : xa_d xP 117 84 (.iconst 1) 1 85 := ⟨by decide +kernel, rfl⟩
theorem e_M_bad_85 : xa_db xP 117 85 (.goto 4) 3 88 4 89 := ⟨⟨by decide +kernel, rfl⟩, rfl⟩
theorem e_M_bad_88 : xa_d xP 117 88 (.iconst 0) 1 89 := ⟨by decide +kernel, rfl⟩
theorem e_M_bad_89 : xa_d xP 117 89 (.ireturn) 1 90 := ⟨by decide +kernel, rfl⟩
theorem e_M_loses_0 : xa_d xP 118 0 (.iconst 0) 1 1 := ⟨by decide +kernel, rfl⟩
theorem e_M_loses_1 : xa_d xP 118 1 (.istore_n 2) 1 2 := ⟨by decide +kernel, rfl⟩
theorem e_M_loses_2 : xa_d xP 118 2 (.iload_n 2) 1 3 := ⟨by decide +kernel, rfl⟩
theorem e_M_loses_3 : xa_d xP 118 3 (.aload_n 0) 1 4 := ⟨by decide +kernel, rfl⟩
theorem e_M_loses_4 : xa_d xP 118 4 (.getfield 94) 3 7 := ⟨by decide +kernel, rfl⟩
theorem e_M_loses_7 : xa_db xP 118 7 (.if_icmp .ge 118) 3 10 118 125 := ⟨⟨by decide +kernel, rfl⟩, rfl⟩
theorem e_M_loses_10 : xa_d xP 118 10 (.iconst 0) 1 11 := ⟨by decide +kernel, rfl⟩
theorem e_M_loses_11 : xa_d xP 118 11 (.istore_n 3) 1 12 := ⟨by decide +kernel, rfl⟩
theorem e_M_loses_12 : xa_d xP 118 12 (.iload_n 3) 1 13 := ⟨by decide +kernel, rfl⟩
theorem e_M_loses_13 : xa_d xP 118 13 (.aload_n 0) 1 14 := ⟨by decide +kernel, rfl⟩
theorem e_M_loses_14 : xa_d xP 118 14 (.getfield 94) 3 17 := ⟨by decide +kernel, rfl⟩
theorem e_M_loses_17 : xa_db xP 118 17 (.if_icmp .ge 102) 3 20 102 119 := ⟨⟨by decide +kernel, rfl⟩, rfl⟩
theorem e_M_loses_20 : xa_d xP 118 20 (.aload_n 0) 1 21 := ⟨by decide +kernel, rfl⟩
theorem e_M_loses_21 : xa_d xP 118 21 (.iload_n 1) 1 22 := ⟨by decide +kernel, rfl⟩
theorem e_M_loses_22 : xa_d xP 118 22 (.iload_n 2) 1 23 := ⟨by decide +kernel, rfl⟩
theorem e_M_loses_23 : xa_d xP 118 23 (.invokevirtual 103) 3 26 := ⟨by decide +kernel, rfl⟩
theorem e_M_loses_26 : xa_db xP 118 26 (.ifCond .eq 53) 3 29 53 79 := ⟨⟨by decide +kernel, rfl⟩, rfl⟩
theorem e_M_loses_29 : xa_d xP 118 29 (.aload_n 0) 1 30 := ⟨by decide +kernel, rfl⟩
theorem e_M_loses_30 : xa_d xP 118 30 (.iload_n 1) 1 31 := ⟨by decide +kernel, rfl⟩
theorem e_M_loses_31 : xa_d xP 118 31 (.iload_n 3) 1 32 := ⟨by decide +kernel, rfl⟩
theorem e_M_loses_32 : xa_d xP 118 32 (.invokevirtual 103) 3 35 := ⟨by decide +kernel, rfl⟩
theorem e_M_loses_35 : xa_db xP 118 35 (.ifCond .eq 44) 3 38 44 79 := ⟨⟨by decide +kernel, rfl⟩, rfl⟩
theorem e_M_loses_38 : xa_d xP 118 38 (.aload_n 0) 1 39 := ⟨by decide +kernel, rfl⟩
theorem e_M_loses_39 : xa_d xP 118 39 (.iload_n 2) 1 40 := ⟨by decide +kernel, rfl⟩
theorem e_M_loses_40 : xa_d xP 118 40 (.iload_n 3) 1 41 := ⟨by decide +kernel, rfl⟩
theorem e_M_loses_41 : xa_d xP 118 41 (.invokevirtual 123) 3 44 := ⟨by decide +kernel, rfl⟩
theorem e_M_loses_44 : xa_db xP 118 44 (.ifCond .ne 35) 3 47 35 79 := ⟨⟨by decide +kernel, rfl⟩, rfl⟩
theorem e_M_loses_47 : xa_d xP 118 47 (.aload_n 0) 1 48 := ⟨by decide +kernel, rfl⟩
theorem e_M_loses_48 : xa_d xP 118 48 (.getfield 7) 3 51 := ⟨by decide +kernel, rfl⟩
theorem e_M_loses_51 : xa_d xP 118 51 (.aload_n 0) 1 52 := ⟨by decide +kernel, rfl⟩
theorem e_M_loses_52 : xa_d xP 118 52 (.getfield 16) 3 55 := ⟨by decide +kernel, rfl⟩
theorem e_M_loses_55 : xa_d xP 118 55 (.iload_n 2) 1 56 := ⟨by decide +kernel, rfl⟩
theorem e_M_loses_56 : xa_d xP 118 56 (.iaload) 1 57 := ⟨by decide +kernel, rfl⟩
theorem e_M_loses_57 : xa_d xP 118 57 (.baload) 1 58 := ⟨by decide +kernel, rfl⟩
theorem e_M_loses_58 : xa_db xP 118 58 (.ifCond .eq 17) 3 61 17 75 := ⟨⟨by decide +kernel, rfl⟩, rfl⟩
theorem e_M_loses_61 : xa_d xP 118 61 (.aload_n 0) 1 62 := ⟨by decide +kernel, rfl⟩
theorem e_M_loses_62 : xa_d xP 118 62 (.getfield 7) 3 65 := ⟨by decide +kernel, rfl⟩
theorem e_M_loses_65 : xa_d xP 118 65 (.aload_n 0) 1 66 := ⟨by decide +kernel, rfl⟩
theorem e_M_loses_66 : xa_d xP 118 66 (.getfield 16) 3 69 := ⟨by decide +kernel, rfl⟩
theorem e_M_loses_69 : xa_d xP 118 69 (.iload_n 3) 1 70 := ⟨by decide +kernel, rfl⟩
theorem e_M_loses_70 : xa_d xP 118 70 (.iaload) 1 71 := ⟨by decide +kernel, rfl⟩
theorem e_M_loses_71 : xa_d xP 118 71 (.baload) 1 72 := ⟨by decide +kernel, rfl⟩
theorem e_M_loses_72 : xa_db xP 118 72 (.ifCond .ne 7) 3 75 7 79 := ⟨⟨by decide +kernel, rfl⟩, rfl⟩
theorem e_M_loses_75 : xa_d xP 118 75 (.iconst 1) 1 76 := ⟨by decide +kernel, rfl⟩
theorem e_M_loses_76 : xa_db xP 118 76 (.goto 4) 3 79 4 80 := ⟨⟨by decide +kernel, rfl⟩, rfl⟩
theorem e_M_loses_79 : xa_d xP 118 79 (.iconst 0) 1 80 := ⟨by decide +kernel, rfl⟩
theorem e_M_loses_80 : xa_d xP 118 80 (.istore 4) 2 82 := ⟨by decide +kernel, rfl⟩
theorem e_M_loses_82 : xa_d xP 118 82 (.iload 4) 2 84 := ⟨by decide +kernel, rfl⟩
theorem e_M_loses_84 : xa_db xP 118 84 (.ifCond .eq 29) 3 87 29 113 := ⟨⟨by decide +kernel, rfl⟩, rfl⟩
theorem e_M_loses_87 : xa_d xP 118 87 (.aload_n 0) 1 88 := ⟨by decide +kernel, rfl⟩
theorem e_M_loses_88 : xa_d xP 118 88 (.aload_n 0) 1 89 := ⟨by decide +kernel, rfl⟩
theorem e_M_loses_89 : xa_d xP 118 89 (.aload_n 0) 1 90 := ⟨by decide +kernel, rfl⟩
theorem e_M_loses_90 : xa_d xP 118 90 (.iload_n 1) 1 91 := ⟨by decide +kernel, rfl⟩
theorem e_M_loses_91 : xa_d xP 118 91 (.iload_n 2) 1 92 := ⟨by decide +kernel, rfl⟩
theorem e_M_loses_92 : xa_d xP 118 92 (.invokevirtual 113) 3 95 := ⟨by decide +kernel, rfl⟩
theorem e_M_loses_95 : xa_d xP 118 95 (.aload_n 0) 1 96 := ⟨by decide +kernel, rfl⟩
theorem e_M_loses_96 : xa_d xP 118 96 (.iload_n 1) 1 97 := ⟨by decide +kernel, rfl⟩
theorem e_M_loses_97 : xa_d xP 118 97 (.iload_n 2) 1 98 := ⟨by decide +kernel, rfl⟩
theorem e_M_loses_98 : xa_d xP 118 98 (.invokevirtual 117) 3 101 := ⟨by decide +kernel, rfl⟩
theorem e_M_loses_101 : xa_d xP 118 101 (.invokevirtual 120) 3 104 := ⟨by decide +kernel, rfl⟩
theorem e_M_loses_104 : xa_d xP 118 104 (.iload_n 3) 1 105 := ⟨by decide +kernel, rfl⟩
theorem e_M_loses_105 : xa_d xP 118 105 (.invokevirtual 126) 3 108 := ⟨by decide +kernel, rfl⟩
theorem e_M_loses_108 : xa_db xP 118 108 (.ifCond .ne 5) 3 111 5 113 := ⟨⟨by decide +kernel, rfl⟩, rfl⟩
theorem e_M_loses_111 : xa_d xP 118 111 (.iconst 1) 1 112 := ⟨by decide +kernel, rfl⟩
theorem e_M_loses_112 : xa_d xP 118 112 (.ireturn) 1 113 := ⟨by decide +kernel, rfl⟩
theorem e_M_loses_113 : xa_d xP 118 113 (.iinc 3 1) 3 116 := ⟨by decide +kernel, rfl⟩
theorem e_M_loses_116 : xa_db xP 118 116 (.goto (-104)) 3 119 (-104) 12 := ⟨⟨by decide +kernel, rfl⟩, rfl⟩
theorem e_M_loses_119 : xa_d xP 118 119 (.iinc 2 1) 3 122 := ⟨by decide +kernel, rfl⟩
theorem e_M_loses_122 : xa_db xP 118 122 (.goto (-120)) 3 125 (-120) 2 := ⟨⟨by decide +kernel, rfl⟩, rfl⟩
theorem e_M_loses_125 : xa_d xP 118 125 (.iconst 0) 1 126 := ⟨by decide +kernel, rfl⟩
theorem e_M_loses_126 : xa_d xP 118 126 (.ireturn) 1 127 := ⟨by decide +kernel, rfl⟩
theorem e_M_sameEdge_0 : xa_d xP 119 0 (.aload_n 0) 1 1 := ⟨by decide +kernel, rfl⟩
theorem e_M_sameEdge_1 : xa_d xP 119 1 (.getfield 16) 3 4 := ⟨by decide +kernel, rfl⟩
theorem e_M_sameEdge_4 : xa_d xP 119 4 (.iload_n 1) 1 5 := ⟨by decide +kernel, rfl⟩
theorem e_M_sameEdge_5 : xa_d xP 119 5 (.iaload) 1 6 := ⟨by decide +kernel, rfl⟩
theorem e_M_sameEdge_6 : xa_d xP 119 6 (.aload_n 0) 1 7 := ⟨by decide +kernel, rfl⟩
theorem e_M_sameEdge_7 : xa_d xP 119 7 (.getfield 16) 3 10 := ⟨by decide +kernel, rfl⟩
theorem e_M_sameEdge_10 : xa_d xP 119 10 (.iload_n 2) 1 11 := ⟨by decide +kernel, rfl⟩
theorem e_M_sameEdge_11 : xa_d xP 119 11 (.iaload) 1 12 := ⟨by decide +kernel, rfl⟩
theorem e_M_sameEdge_12 : xa_db xP 119 12 (.if_icmp .ne 22) 3 15 22 34 := ⟨⟨by decide +kernel, rfl⟩, rfl⟩
theorem e_M_sameEdge_15 : xa_d xP 119 15 (.aload_n 0) 1 16 := ⟨by decide +kernel, rfl⟩
theorem e_M_sameEdge_16 : xa_d xP 119 16 (.getfield 20) 3 19 := ⟨by decide +kernel, rfl⟩
theorem e_M_sameEdge_19 : xa_d xP 119 19 (.iload_n 1) 1 20 := ⟨by decide +kernel, rfl⟩
theorem e_M_sameEdge_20 : xa_d xP 119 20 (.baload) 1 21 := ⟨by decide +kernel, rfl⟩
theorem e_M_sameEdge_21 : xa_d xP 119 21 (.aload_n 0) 1 22 := ⟨by decide +kernel, rfl⟩
theorem e_M_sameEdge_22 : xa_d xP 119 22 (.getfield 20) 3 25 := ⟨by decide +kernel, rfl⟩
theorem e_M_sameEdge_25 : xa_d xP 119 25 (.iload_n 2) 1 26 := ⟨by decide +kernel, rfl⟩
theorem e_M_sameEdge_26 : xa_d xP 119 26 (.baload) 1 27 := ⟨by decide +kernel, rfl⟩
theorem e_M_sameEdge_27 : xa_db xP 119 27 (.if_icmp .ne 7) 3 30 7 34 := ⟨⟨by decide +kernel, rfl⟩, rfl⟩
theorem e_M_sameEdge_30 : xa_d xP 119 30 (.iconst 1) 1 31 := ⟨by decide +kernel, rfl⟩
theorem e_M_sameEdge_31 : xa_db xP 119 31 (.goto 4) 3 34 4 35 := ⟨⟨by decide +kernel, rfl⟩, rfl⟩
theorem e_M_sameEdge_34 : xa_d xP 119 34 (.iconst 0) 1 35 := ⟨by decide +kernel, rfl⟩
theorem e_M_sameEdge_35 : xa_d xP 119 35 (.ireturn) 1 36 := ⟨by decide +kernel, rfl⟩
theorem e_M_edgeEnabled_0 : xa_d xP 120 0 (.iconst 0) 1 1 := ⟨by decide +kernel, rfl⟩
theorem e_M_edgeEnabled_1 : xa_d xP 120 1 (.istore_n 3) 1 2 := ⟨by decide +kernel, rfl⟩
theorem e_M_edgeEnabled_2 : xa_d xP 120 2 (.iload_n 3) 1 3 := ⟨by decide +kernel, rfl⟩
theorem e_M_edgeEnabled_3 : xa_d xP 120 3 (.aload_n 0) 1 4 := ⟨by decide +kernel, rfl⟩
theorem e_M_edgeEnabled_4 : xa_d xP 120 4 (.getfield 94) 3 7 := ⟨by decide +kernel, rfl⟩
theorem e_M_edgeEnabled_7 : xa_db xP 120 7 (.if_icmp .ge 29) 3 10 29 36 := ⟨⟨by decide +kernel, rfl⟩, rfl⟩
theorem e_M_edgeEnabled_10 : xa_d xP 120 10 (.aload_n 0) 1 11 := ⟨by decide +kernel, rfl⟩
theorem e_M_edgeEnabled_11 : xa_d xP 120 11 (.iload_n 3) 1 12 := ⟨by decide +kernel, rfl⟩
theorem e_M_edgeEnabled_12 : xa_d xP 120 12 (.iload_n 2) 1 13 := ⟨by decide +kernel, rfl⟩
theorem e_M_edgeEnabled_13 : xa_d xP 120 13 (.invokevirtual 123) 3 16 := ⟨by decide +kernel, rfl⟩
theorem e_M_edgeEnabled_16 : xa_db xP 120 16 (.ifCond .eq 14) 3 19 14 30 := ⟨⟨by decide +kernel, rfl⟩, rfl⟩
theorem e_M_edgeEnabled_19 : xa_d xP 120 19 (.aload_n 0) 1 20 := ⟨by decide +kernel, rfl⟩
theorem e_M_edgeEnabled_20 : xa_d xP 120 20 (.iload_n 1) 1 21 := ⟨by decide +kernel, rfl⟩
theorem e_M_edgeEnabled_21 : xa_d xP 120 21 (.iload_n 3) 1 22 := ⟨by decide +kernel, rfl⟩
theorem e_M_edgeEnabled_22 : xa_d xP 120 22 (.invokevirtual 103) 3 25 := ⟨by decide +kernel, rfl⟩
theorem e_M_edgeEnabled_25 : xa_db xP 120 25 (.ifCond .eq 5) 3 28 5 30 := ⟨⟨by decide +kernel, rfl⟩, rfl⟩
theorem e_M_edgeEnabled_28 : xa_d xP 120 28 (.iconst 1) 1 29 := ⟨by decide +kernel, rfl⟩
theorem e_M_edgeEnabled_29 : xa_d xP 120 29 (.ireturn) 1 30 := ⟨by decide +kernel, rfl⟩
theorem e_M_edgeEnabled_30 : xa_d xP 120 30 (.iinc 3 1) 3 33 := ⟨by decide +kernel, rfl⟩
theorem e_M_edgeEnabled_33 : xa_db xP 120 33 (.goto (-31)) 3 36 (-31) 2 := ⟨⟨by decide +kernel, rfl⟩, rfl⟩
theorem e_M_edgeEnabled_36 : xa_d xP 120 36 (.iconst 0) 1 37 := ⟨by decide +kernel, rfl⟩
theorem e_M_edgeEnabled_37 : xa_d xP 120 37 (.ireturn) 1 38 := ⟨by decide +kernel, rfl⟩
theorem e_M_conflicts_0 : xa_d xP 121 0 (.iconst 0) 1 1 := ⟨by decide +kernel, rfl⟩
theorem e_M_conflicts_1 : xa_d xP 121 1 (.istore_n 2) 1 2 := ⟨by decide +kernel, rfl⟩
theorem e_M_conflicts_2 : xa_d xP 121 2 (.iload_n 2) 1 3 := ⟨by decide +kernel, rfl⟩
theorem e_M_conflicts_3 : xa_d xP 121 3 (.iload_n 1) 1 4 := ⟨by decide +kernel, rfl⟩
theorem e_M_conflicts_4 : xa_db xP 121 4 (.if_icmp .ge 39) 3 7 39 43 := ⟨⟨by decide +kernel, rfl⟩, rfl⟩
theorem e_M_conflicts_7 : xa_d xP 121 7 (.aload_n 0) 1 8 := ⟨by decide +kernel, rfl⟩
theorem e_M_conflicts_8 : xa_d xP 121 8 (.getfield 39) 3 11 := ⟨by decide +kernel, rfl⟩
theorem e_M_conflicts_11 : xa_d xP 121 11 (.iload_n 2) 1 12 := ⟨by decide +kernel, rfl⟩
theorem e_M_conflicts_12 : xa_d xP 121 12 (.iaload) 1 13 := ⟨by decide +kernel, rfl⟩
theorem e_M_conflicts_13 : xa_d xP 121 13 (.aload_n 0) 1 14 := ⟨by decide +kernel, rfl⟩
theorem e_M_conflicts_14 : xa_d xP 121 14 (.getfield 39) 3 17 := ⟨by decide +kernel, rfl⟩
theorem e_M_conflicts_17 : xa_d xP 121 17 (.iload_n 1) 1 18 := ⟨by decide +kernel, rfl⟩
theorem e_M_conflicts_18 : xa_d xP 121 18 (.iaload) 1 19 := ⟨by decide +kernel, rfl⟩
theorem e_M_conflicts_19 : xa_db xP 121 19 (.if_icmp .ne 18) 3 22 18 37 := ⟨⟨by decide +kernel, rfl⟩, rfl⟩
theorem e_M_conflicts_22 : xa_d xP 121 22 (.aload_n 0) 1 23 := ⟨by decide +kernel, rfl⟩
theorem e_M_conflicts_23 : xa_d xP 121 23 (.iload_n 2) 1 24 := ⟨by decide +kernel, rfl⟩
theorem e_M_conflicts_24 : xa_d xP 121 24 (.invokevirtual 129) 3 27 := ⟨by decide +kernel, rfl⟩
theorem e_M_conflicts_27 : xa_d xP 121 27 (.aload_n 0) 1 28 := ⟨by decide +kernel, rfl⟩
theorem e_M_conflicts_28 : xa_d xP 121 28 (.iload_n 1) 1 29 := ⟨by decide +kernel, rfl⟩
theorem e_M_conflicts_29 : xa_d xP 121 29 (.invokevirtual 129) 3 32 := ⟨by decide +kernel, rfl⟩
theorem e_M_conflicts_32 : xa_db xP 121 32 (.if_icmp .eq 5) 3 35 5 37 := ⟨⟨by decide +kernel, rfl⟩, rfl⟩
theorem e_M_conflicts_35 : xa_d xP 121 35 (.iconst 1) 1 36 := ⟨by decide +kernel, rfl⟩
theorem e_M_conflicts_36 : xa_d xP 121 36 (.ireturn) 1 37 := ⟨by decide +kernel, rfl⟩
theorem e_M_conflicts_37 : xa_d xP 121 37 (.iinc 2 1) 3 40 := ⟨by decide +kernel, rfl⟩
theorem e_M_conflicts_40 : xa_db xP 121 40 (.goto (-38)) 3 43 (-38) 2 := ⟨⟨by decide +kernel, rfl⟩, rfl⟩
theorem e_M_conflicts_43 : xa_d xP 121 43 (.iconst 0) 1 44 := ⟨by decide +kernel, rfl⟩
theorem e_M_conflicts_44 : xa_d xP 121 44 (.ireturn) 1 45 := ⟨by decide +kernel, rfl⟩
theorem e_M_excitedIn_0 : xa_d xP 122 0 (.iconst 0) 1 1 := ⟨by decide +kernel, rfl⟩
theorem e_M_excitedIn_1 : xa_d xP 122 1 (.istore_n 2) 1 2 := ⟨by decide +kernel, rfl⟩
theorem e_M_excitedIn_2 : xa_d xP 122 2 (.iconst 0) 1 3 := ⟨by decide +kernel, rfl⟩
theorem e_M_excitedIn_3 : xa_d xP 122 3 (.istore_n 3) 1 4 := ⟨by decide +kernel, rfl⟩
theorem e_M_excitedIn_4 : xa_d xP 122 4 (.iload_n 3) 1 5 := ⟨by decide +kernel, rfl⟩
theorem e_M_excitedIn_5 : xa_d xP 122 5 (.aload_n 0) 1 6 := ⟨by decide +kernel, rfl⟩
theorem e_M_excitedIn_6 : xa_d xP 122 6 (.getfield 94) 3 9 := ⟨by decide +kernel, rfl⟩
theorem e_M_excitedIn_9 : xa_db xP 122 9 (.if_icmp .ge 47) 3 12 47 56 := ⟨⟨by decide +kernel, rfl⟩, rfl⟩
theorem e_M_excitedIn_12 : xa_d xP 122 12 (.aload_n 0) 1 13 := ⟨by decide +kernel, rfl⟩
theorem e_M_excitedIn_13 : xa_d xP 122 13 (.iload_n 1) 1 14 := ⟨by decide +kernel, rfl⟩
theorem e_M_excitedIn_14 : xa_d xP 122 14 (.iload_n 3) 1 15 := ⟨by decide +kernel, rfl⟩
theorem e_M_excitedIn_15 : xa_d xP 122 15 (.invokevirtual 103) 3 18 := ⟨by decide +kernel, rfl⟩
theorem e_M_excitedIn_18 : xa_db xP 122 18 (.ifCond .eq 30) 3 21 30 48 := ⟨⟨by decide +kernel, rfl⟩, rfl⟩
theorem e_M_excitedIn_21 : xa_d xP 122 21 (.aload_n 0) 1 22 := ⟨by decide +kernel, rfl⟩
theorem e_M_excitedIn_22 : xa_d xP 122 22 (.getfield 7) 3 25 := ⟨by decide +kernel, rfl⟩
theorem e_M_excitedIn_25 : xa_d xP 122 25 (.aload_n 0) 1 26 := ⟨by decide +kernel, rfl⟩
theorem e_M_excitedIn_26 : xa_d xP 122 26 (.getfield 16) 3 29 := ⟨by decide +kernel, rfl⟩
theorem e_M_excitedIn_29 : xa_d xP 122 29 (.iload_n 3) 1 30 := ⟨by decide +kernel, rfl⟩
theorem e_M_excitedIn_30 : xa_d xP 122 30 (.iaload) 1 31 := ⟨by decide +kernel, rfl⟩
theorem e_M_excitedIn_31 : xa_d xP 122 31 (.baload) 1 32 := ⟨by decide +kernel, rfl⟩
theorem e_M_excitedIn_32 : xa_db xP 122 32 (.ifCond .ne 16) 3 35 16 48 := ⟨⟨by decide +kernel, rfl⟩, rfl⟩
theorem e_M_excitedIn_35 : xa_d xP 122 35 (.iload_n 2) 1 36 := ⟨by decide +kernel, rfl⟩
theorem e_M_excitedIn_36 : xa_d xP 122 36 (.iconst 1) 1 37 := ⟨by decide +kernel, rfl⟩
theorem e_M_excitedIn_37 : xa_d xP 122 37 (.aload_n 0) 1 38 := ⟨by decide +kernel, rfl⟩
theorem e_M_excitedIn_38 : xa_d xP 122 38 (.getfield 16) 3 41 := ⟨by decide +kernel, rfl⟩
theorem e_M_excitedIn_41 : xa_d xP 122 41 (.iload_n 3) 1 42 := ⟨by decide +kernel, rfl⟩
theorem e_M_excitedIn_42 : xa_d xP 122 42 (.iaload) 1 43 := ⟨by decide +kernel, rfl⟩
theorem e_M_excitedIn_43 : xa_d xP 122 43 (.ishl) 1 44 := ⟨by decide +kernel, rfl⟩
theorem e_M_excitedIn_44 : xa_d xP 122 44 (.ior) 1 45 := ⟨by decide +kernel, rfl⟩
theorem e_M_excitedIn_45 : xa_db xP 122 45 (.goto 4) 3 48 4 49 := ⟨⟨by decide +kernel, rfl⟩, rfl⟩
theorem e_M_excitedIn_48 : xa_d xP 122 48 (.iload_n 2) 1 49 := ⟨by decide +kernel, rfl⟩
theorem e_M_excitedIn_49 : xa_d xP 122 49 (.istore_n 2) 1 50 := ⟨by decide +kernel, rfl⟩
theorem e_M_excitedIn_50 : xa_d xP 122 50 (.iinc 3 1) 3 53 := ⟨by decide +kernel, rfl⟩
theorem e_M_excitedIn_53 : xa_db xP 122 53 (.goto (-49)) 3 56 (-49) 4 := ⟨⟨by decide +kernel, rfl⟩, rfl⟩
theorem e_M_excitedIn_56 : xa_d xP 122 56 (.iload_n 2) 1 57 := ⟨by decide +kernel, rfl⟩
theorem e_M_excitedIn_57 : xa_d xP 122 57 (.ireturn) 1 58 := ⟨by decide +kernel, rfl⟩
theorem e_M_states_0 : xa_d xP 123 0 (.aload_n 0) 1 1 := ⟨by decide +kernel, rfl⟩
theorem e_M_states_1 : xa_d xP 123 1 (.aload_n 0) 1 2 := ⟨by decide +kernel, rfl⟩
theorem e_M_states_2 : xa_d xP 123 2 (.invokevirtual 145) 3 5 := ⟨by decide +kernel, rfl⟩
theorem e_M_states_5 : xa_db xP 123 5 (.ifCond .eq 7) 3 8 7 12 := ⟨⟨by decide +kernel, rfl⟩, rfl⟩
theorem e_M_states_8 : xa_d xP 123 8 (.iconst 1) 1 9 := ⟨by decide +kernel, rfl⟩
theorem e_M_states_9 : xa_db xP 123 9 (.goto 4) 3 12 4 13 := ⟨⟨by decide +kernel, rfl⟩, rfl⟩
theorem e_M_states_12 : xa_d xP 123 12 (.iconst 0) 1 13 := ⟨by decide +kernel, rfl⟩
theorem e_M_states_13 : xa_d xP 123 13 (.putfield 78) 3 16 := ⟨by decide +kernel, rfl⟩
theorem e_M_states_16 : xa_d xP 123 16 (.aload_n 0) 1 17 := ⟨by decide +kernel, rfl⟩
theorem e_M_states_17 : xa_d xP 123 17 (.getfield 78) 3 20 := ⟨by decide +kernel, rfl⟩
theorem e_M_states_20 : xa_db xP 123 20 (.ifCond .le 7) 3 23 7 27 := ⟨⟨by decide +kernel, rfl⟩, rfl⟩
theorem e_M_states_23 : xa_d xP 123 23 (.iconst 0) 1 24 := ⟨by decide +kernel, rfl⟩
theorem e_M_states_24 : xa_db xP 123 24 (.goto 7) 3 27 7 31 := ⟨⟨by decide +kernel, rfl⟩, rfl⟩
theorem e_M_states_27 : xa_d xP 123 27 (.aload_n 0) 1 28 := ⟨by decide +kernel, rfl⟩
theorem e_M_states_28 : xa_d xP 123 28 (.getfield 81) 3 31 := ⟨by decide +kernel, rfl⟩
theorem e_M_states_31 : xa_d xP 123 31 (.ireturn) 1 32 := ⟨by decide +kernel, rfl⟩
theorem e_M_noGraph_0 : xa_d xP 124 0 (.aload_n 0) 1 1 := ⟨by decide +kernel, rfl⟩
theorem e_M_noGraph_1 : xa_d xP 124 1 (.getfield 29) 3 4 := ⟨by decide +kernel, rfl⟩
theorem e_M_noGraph_4 : xa_d xP 124 4 (.iconst (-1)) 1 5 := ⟨by decide +kernel, rfl⟩
theorem e_M_noGraph_5 : xa_db xP 124 5 (.if_icmp .eq 11) 3 8 11 16 := ⟨⟨by decide +kernel, rfl⟩, rfl⟩
theorem e_M_noGraph_8 : xa_d xP 124 8 (.aload_n 0) 1 9 := ⟨by decide +kernel, rfl⟩
theorem e_M_noGraph_9 : xa_d xP 124 9 (.getfield 29) 3 12 := ⟨by decide +kernel, rfl⟩
theorem e_M_noGraph_12 : xa_d xP 124 12 (.iconst 5) 1 13 := ⟨by decide +kernel, rfl⟩
theorem e_M_noGraph_13 : xa_db xP 124 13 (.if_icmp .ne 7) 3 16 7 20 := ⟨⟨by decide +kernel, rfl⟩, rfl⟩
theorem e_M_noGraph_16 : xa_d xP 124 16 (.iconst 1) 1 17 := ⟨by decide +kernel, rfl⟩
theorem e_M_noGraph_17 : xa_db xP 124 17 (.goto 4) 3 20 4 21 := ⟨⟨by decide +kernel, rfl⟩, rfl⟩
theorem e_M_noGraph_20 : xa_d xP 124 20 (.iconst 0) 1 21 := ⟨by decide +kernel, rfl⟩
theorem e_M_noGraph_21 : xa_d xP 124 21 (.ireturn) 1 22 := ⟨by decide +kernel, rfl⟩
theorem e_M_code_0 : xa_d xP 125 0 (.aload_n 0) 1 1 := ⟨by decide +kernel, rfl⟩
theorem e_M_code_1 : xa_d xP 125 1 (.iload_n 1) 1 2 := ⟨by decide +kernel, rfl⟩
theorem e_M_code_2 : xa_d xP 125 2 (.invokevirtual 149) 3 5 := ⟨by decide +kernel, rfl⟩
theorem e_M_code_5 : xa_db xP 125 5 (.ifCond .eq 7) 3 8 7 12 := ⟨⟨by decide +kernel, rfl⟩, rfl⟩
theorem e_M_code_8 : xa_d xP 125 8 (.iconst 0) 1 9 := ⟨by decide +kernel, rfl⟩
theorem e_M_code_9 : xa_db xP 125 9 (.goto 9) 3 12 9 18 := ⟨⟨by decide +kernel, rfl⟩, rfl⟩
theorem e_M_code_12 : xa_d xP 125 12 (.aload_n 0) 1 13 := ⟨by decide +kernel, rfl⟩
theorem e_M_code_13 : xa_d xP 125 13 (.getfield 39) 3 16 := ⟨by decide +kernel, rfl⟩
theorem e_M_code_16 : xa_d xP 125 16 (.iload_n 1) 1 17 := ⟨by decide +kernel, rfl⟩
theorem e_M_code_17 : xa_d xP 125 17 (.iaload) 1 18 := ⟨by decide +kernel, rfl⟩
theorem e_M_code_18 : xa_d xP 125 18 (.ireturn) 1 19 := ⟨by decide +kernel, rfl⟩
theorem e_M_noState_0 : xa_d xP 126 0 (.aload_n 0) 1 1 := ⟨by decide +kernel, rfl⟩
theorem e_M_noState_1 : xa_d xP 126 1 (.aload_n 0) 1 2 := ⟨by decide +kernel, rfl⟩
theorem e_M_noState_2 : xa_d xP 126 2 (.invokevirtual 145) 3 5 := ⟨by decide +kernel, rfl⟩
theorem e_M_noState_5 : xa_db xP 126 5 (.ifCond .eq 7) 3 8 7 12 := ⟨⟨by decide +kernel, rfl⟩, rfl⟩
theorem e_M_noState_8 : xa_d xP 126 8 (.iconst 1) 1 9 := ⟨by decide +kernel, rfl⟩
theorem e_M_noState_9 : xa_db xP 126 9 (.goto 20) 3 12 20 29 := ⟨⟨by decide +kernel, rfl⟩, rfl⟩
theorem e_M_noState_12 : xa_d xP 126 12 (.iload_n 1) 1 13 := ⟨by decide +kernel, rfl⟩
theorem e_M_noState_13 : xa_db xP 126 13 (.ifCond .lt 11) 3 16 11 24 := ⟨⟨by decide +kernel, rfl⟩, rfl⟩
theorem e_M_noState_16 : xa_d xP 126 16 (.iload_n 1) 1 17 := ⟨by decide +kernel, rfl⟩
theorem e_M_noState_17 : xa_d xP 126 17 (.aload_n 0) 1 18 := ⟨by decide +kernel, rfl⟩
theorem e_M_noState_18 : xa_d xP 126 18 (.getfield 81) 3 21 := ⟨by decide +kernel, rfl⟩
theorem e_M_noState_21 : xa_db xP 126 21 (.if_icmp .lt 7) 3 24 7 28 := ⟨⟨by decide +kernel, rfl⟩, rfl⟩
theorem e_M_noState_24 : xa_d xP 126 24 (.iconst 2) 1 25 := ⟨by decide +kernel, rfl⟩
theorem e_M_noState_25 : xa_db xP 126 25 (.goto 4) 3 28 4 29 := ⟨⟨by decide +kernel, rfl⟩, rfl⟩
theorem e_M_noState_28 : xa_d xP 126 28 (.iconst 0) 1 29 := ⟨by decide +kernel, rfl⟩
theorem e_M_noState_29 : xa_d xP 126 29 (.putfield 78) 3 32 := ⟨by decide +kernel, rfl⟩
theorem e_M_noState_32 : xa_d xP 126 32 (.aload_n 0) 1 33 := ⟨by decide +kernel, rfl⟩
theorem e_M_noState_33 : xa_d xP 126 33 (.getfield 78) 3 36 := ⟨by decide +kernel, rfl⟩
theorem e_M_noState_36 : xa_db xP 126 36 (.ifCond .le 7) 3 39 7 43 := ⟨⟨by decide +kernel, rfl⟩, rfl⟩
theorem e_M_noState_39 : xa_d xP 126 39 (.iconst 1) 1 40 := ⟨by decide +kernel, rfl⟩
theorem e_M_noState_40 : xa_db xP 126 40 (.goto 4) 3 43 4 44 := ⟨⟨by decide +kernel, rfl⟩, rfl⟩
theorem e_M_noState_43 : xa_d xP 126 43 (.iconst 0) 1 44 := ⟨by decide +kernel, rfl⟩
theorem e_M_noState_44 : xa_d xP 126 44 (.ireturn) 1 45 := ⟨by decide +kernel, rfl⟩
theorem e_M_marking_0 : xa_d xP 127 0 (.aload_n 0) 1 1 := ⟨by decide +kernel, rfl⟩
theorem e_M_marking_1 : xa_d xP 127 1 (.iload_n 1) 1 2 := ⟨by decide +kernel, rfl⟩
theorem e_M_marking_2 : xa_d xP 127 2 (.invokevirtual 149) 3 5 := ⟨by decide +kernel, rfl⟩
theorem e_M_marking_5 : xa_db xP 127 5 (.ifCond .eq 7) 3 8 7 12 := ⟨⟨by decide +kernel, rfl⟩, rfl⟩
theorem e_M_marking_8 : xa_d xP 127 8 (.iconst 0) 1 9 := ⟨by decide +kernel, rfl⟩
theorem e_M_marking_9 : xa_db xP 127 9 (.goto 9) 3 12 9 18 := ⟨⟨by decide +kernel, rfl⟩, rfl⟩
theorem e_M_marking_12 : xa_d xP 127 12 (.aload_n 0) 1 13 := ⟨by decide +kernel, rfl⟩
theorem e_M_marking_13 : xa_d xP 127 13 (.getfield 36) 3 16 := ⟨by decide +kernel, rfl⟩
theorem e_M_marking_16 : xa_d xP 127 16 (.iload_n 1) 1 17 := ⟨by decide +kernel, rfl⟩
theorem e_M_marking_17 : xa_d xP 127 17 (.iaload) 1 18 := ⟨by decide +kernel, rfl⟩
theorem e_M_marking_18 : xa_d xP 127 18 (.ireturn) 1 19 := ⟨by decide +kernel, rfl⟩
theorem e_M_found_0 : xa_d xP 128 0 (.aload_n 0) 1 1 := ⟨by decide +kernel, rfl⟩
theorem e_M_found_1 : xa_d xP 128 1 (.iload_n 1) 1 2 := ⟨by decide +kernel, rfl⟩
theorem e_M_found_2 : xa_d xP 128 2 (.invokevirtual 149) 3 5 := ⟨by decide +kernel, rfl⟩
theorem e_M_found_5 : xa_db xP 128 5 (.ifCond .eq 7) 3 8 7 12 := ⟨⟨by decide +kernel, rfl⟩, rfl⟩
theorem e_M_found_8 : xa_d xP 128 8 (.iconst 0) 1 9 := ⟨by decide +kernel, rfl⟩
theorem e_M_found_9 : xa_db xP 128 9 (.goto 9) 3 12 9 18 := ⟨⟨by decide +kernel, rfl⟩, rfl⟩
theorem e_M_found_12 : xa_d xP 128 12 (.aload_n 0) 1 13 := ⟨by decide +kernel, rfl⟩
theorem e_M_found_13 : xa_d xP 128 13 (.getfield 42) 3 16 := ⟨by decide +kernel, rfl⟩
theorem e_M_found_16 : xa_d xP 128 16 (.iload_n 1) 1 17 := ⟨by decide +kernel, rfl⟩
theorem e_M_found_17 : xa_d xP 128 17 (.iaload) 1 18 := ⟨by decide +kernel, rfl⟩
theorem e_M_found_18 : xa_d xP 128 18 (.ireturn) 1 19 := ⟨by decide +kernel, rfl⟩
theorem e_M_excited_0 : xa_d xP 129 0 (.aload_n 0) 1 1 := ⟨by decide +kernel, rfl⟩
theorem e_M_excited_1 : xa_d xP 129 1 (.iload_n 1) 1 2 := ⟨by decide +kernel, rfl⟩
theorem e_M_excited_2 : xa_d xP 129 2 (.invokevirtual 149) 3 5 := ⟨by decide +kernel, rfl⟩
theorem e_M_excited_5 : xa_db xP 129 5 (.ifCond .eq 7) 3 8 7 12 := ⟨⟨by decide +kernel, rfl⟩, rfl⟩
theorem e_M_excited_8 : xa_d xP 129 8 (.iconst 0) 1 9 := ⟨by decide +kernel, rfl⟩
theorem e_M_excited_9 : xa_db xP 129 9 (.goto 8) 3 12 8 17 := ⟨⟨by decide +kernel, rfl⟩, rfl⟩
theorem e_M_excited_12 : xa_d xP 129 12 (.aload_n 0) 1 13 := ⟨by decide +kernel, rfl⟩
theorem e_M_excited_13 : xa_d xP 129 13 (.iload_n 1) 1 14 := ⟨by decide +kernel, rfl⟩
theorem e_M_excited_14 : xa_d xP 129 14 (.invokevirtual 129) 3 17 := ⟨by decide +kernel, rfl⟩
theorem e_M_excited_17 : xa_d xP 129 17 (.ireturn) 1 18 := ⟨by decide +kernel, rfl⟩
theorem e_M_fault_0 : xa_d xP 130 0 (.aload_n 0) 1 1 := ⟨by decide +kernel, rfl⟩
theorem e_M_fault_1 : xa_d xP 130 1 (.iconst 0) 1 2 := ⟨by decide +kernel, rfl⟩
theorem e_M_fault_2 : xa_d xP 130 2 (.putfield 78) 3 5 := ⟨by decide +kernel, rfl⟩
theorem e_M_fault_5 : xa_d xP 130 5 (.aload_n 0) 1 6 := ⟨by decide +kernel, rfl⟩
theorem e_M_fault_6 : xa_d xP 130 6 (.getfield 33) 3 9 := ⟨by decide +kernel, rfl⟩
theorem e_M_fault_9 : xa_d xP 130 9 (.ireturn) 1 10 := ⟨by decide +kernel, rfl⟩
theorem e_M_synthesise_0 : xa_d xP 131 0 (.aload_n 0) 1 1 := ⟨by decide +kernel, rfl⟩
theorem e_M_synthesise_1 : xa_d xP 131 1 (.aload_n 0) 1 2 := ⟨by decide +kernel, rfl⟩
theorem e_M_synthesise_2 : xa_d xP 131 2 (.getfield 29) 3 5 := ⟨by decide +kernel, rfl⟩
theorem e_M_synthesise_5 : xa_db xP 131 5 (.ifCond .ne 7) 3 8 7 12 := ⟨⟨by decide +kernel, rfl⟩, rfl⟩
theorem e_M_synthesise_8 : xa_d xP 131 8 (.iconst 0) 1 9 := ⟨by decide +kernel, rfl⟩
theorem e_M_synthesise_9 : xa_db xP 131 9 (.goto 4) 3 12 4 13 := ⟨⟨by decide +kernel, rfl⟩, rfl⟩
theorem e_M_synthesise_12 : xa_d xP 131 12 (.iconst 1) 1 13 := ⟨by decide +kernel, rfl⟩
theorem e_M_synthesise_13 : xa_d xP 131 13 (.putfield 78) 3 16 := ⟨by decide +kernel, rfl⟩
theorem e_M_synthesise_16 : xa_d xP 131 16 (.aload_n 0) 1 17 := ⟨by decide +kernel, rfl⟩
theorem e_M_synthesise_17 : xa_d xP 131 17 (.getfield 78) 3 20 := ⟨by decide +kernel, rfl⟩
theorem e_M_synthesise_20 : xa_db xP 131 20 (.ifCond .le 5) 3 23 5 25 := ⟨⟨by decide +kernel, rfl⟩, rfl⟩
theorem e_M_synthesise_23 : xa_d xP 131 23 (.iconst 0) 1 24 := ⟨by decide +kernel, rfl⟩
theorem e_M_synthesise_24 : xa_d xP 131 24 (.ireturn) 1 25 := ⟨by decide +kernel, rfl⟩
theorem e_M_synthesise_25 : xa_d xP 131 25 (.iconst 0) 1 26 := ⟨by decide +kernel, rfl⟩
theorem e_M_synthesise_26 : xa_d xP 131 26 (.istore_n 1) 1 27 := ⟨by decide +kernel, rfl⟩
theorem e_M_synthesise_27 : xa_d xP 131 27 (.iconst 0) 1 28 := ⟨by decide +kernel, rfl⟩
theorem e_M_synthesise_28 : xa_d xP 131 28 (.istore_n 2) 1 29 := ⟨by decide +kernel, rfl⟩
theorem e_M_synthesise_29 : xa_d xP 131 29 (.iload_n 2) 1 30 := ⟨by decide +kernel, rfl⟩
theorem e_M_synthesise_30 : xa_d xP 131 30 (.aload_n 0) 1 31 := ⟨by decide +kernel, rfl⟩
theorem e_M_synthesise_31 : xa_d xP 131 31 (.getfield 84) 3 34 := ⟨by decide +kernel, rfl⟩
theorem e_M_synthesise_34 : xa_db xP 131 34 (.if_icmp .ge 95) 3 37 95 129 := ⟨⟨by decide +kernel, rfl⟩, rfl⟩
theorem e_M_synthesise_37 : xa_d xP 131 37 (.aload_n 0) 1 38 := ⟨by decide +kernel, rfl⟩
theorem e_M_synthesise_38 : xa_d xP 131 38 (.getfield 69) 3 41 := ⟨by decide +kernel, rfl⟩
theorem e_M_synthesise_41 : xa_d xP 131 41 (.iload_n 2) 1 42 := ⟨by decide +kernel, rfl⟩
theorem e_M_synthesise_42 : xa_d xP 131 42 (.aload_n 0) 1 43 := ⟨by decide +kernel, rfl⟩
theorem e_M_synthesise_43 : xa_d xP 131 43 (.getfield 7) 3 46 := ⟨by decide +kernel, rfl⟩
theorem e_M_synthesise_46 : xa_d xP 131 46 (.iload_n 2) 1 47 := ⟨by decide +kernel, rfl⟩
theorem e_M_synthesise_47 : xa_d xP 131 47 (.baload) 1 48 := ⟨by decide +kernel, rfl⟩
theorem e_M_synthesise_48 : xa_db xP 131 48 (.ifCond .eq 7) 3 51 7 55 := ⟨⟨by decide +kernel, rfl⟩, rfl⟩
theorem e_M_synthesise_51 : xa_d xP 131 51 (.iconst 0) 1 52 := ⟨by decide +kernel, rfl⟩
theorem e_M_synthesise_52 : xa_db xP 131 52 (.goto 8) 3 55 8 60 := ⟨⟨by decide +kernel, rfl⟩, rfl⟩
theorem e_M_synthesise_55 : xa_d xP 131 55 (.aload_n 0) 1 56 := ⟨by decide +kernel, rfl⟩
theorem e_M_synthesise_56 : xa_d xP 131 56 (.iload_n 2) 1 57 := ⟨by decide +kernel, rfl⟩
theorem e_M_synthesise_57 : xa_d xP 131 57 (.invokevirtual 188) 3 60 := ⟨by decide +kernel, rfl⟩
theorem e_M_synthesise_60 : xa_d xP 131 60 (.iastore) 1 61 := ⟨by decide +kernel, rfl⟩
theorem e_M_synthesise_61 : xa_d xP 131 61 (.aload_n 0) 1 62 := ⟨by decide +kernel, rfl⟩
theorem e_M_synthesise_62 : xa_d xP 131 62 (.getfield 69) 3 65 := ⟨by decide +kernel, rfl⟩
theorem e_M_synthesise_65 : xa_d xP 131 65 (.iload_n 2) 1 66 := ⟨by decide +kernel, rfl⟩
end
section
/-! Decode rows (printed by wip/whole/gen_prog.py). -/
theorem e_M_synthesise_66 : xa_d xP 131 66 (.iaload) 1 67 := ⟨by decide +kernel, rfl⟩
theorem e_M_synthesise_67 : xa_d xP 131 67 (.bipush 8) 2 69 := ⟨by decide +kernel, rfl⟩
theorem e_M_synthesise_69 : xa_db xP 131 69 (.if_icmp .le 10) 3 72 10 79 := ⟨⟨by decide +kernel, rfl⟩, rfl⟩
theorem e_M_synthesise_72 : xa_d xP 131 72 (.aload_n 0) 1 73 := ⟨by decide +kernel, rfl⟩
theorem e_M_synthesise_73 : xa_d xP 131 73 (.iconst 2) 1 74 := ⟨by decide +kernel, rfl⟩
theorem e_M_synthesise_74 : xa_d xP 131 74 (.putfield 78) 3 77 := ⟨by decide +kernel, rfl⟩
theorem e_M_synthesise_77 : xa_d xP 131 77 (.iconst 0) 1 78 := ⟨by decide +kernel, rfl⟩
theorem e_M_synthesise_78 : xa_d xP 131 78 (.ireturn) 1 79 := ⟨by decide +kernel, rfl⟩
theorem e_M_synthesise_79 : xa_d xP 131 79 (.iconst 0) 1 80 := ⟨by decide +kernel, rfl⟩
theorem e_M_synthesise_80 : xa_d xP 131 80 (.istore_n 3) 1 81 := ⟨by decide +kernel, rfl⟩
theorem e_M_synthesise_81 : xa_d xP 131 81 (.iload_n 3) 1 82 := ⟨by decide +kernel, rfl⟩
theorem e_M_synthesise_82 : xa_d xP 131 82 (.aload_n 0) 1 83 := ⟨by decide +kernel, rfl⟩
theorem e_M_synthesise_83 : xa_d xP 131 83 (.getfield 69) 3 86 := ⟨by decide +kernel, rfl⟩
theorem e_M_synthesise_86 : xa_d xP 131 86 (.iload_n 2) 1 87 := ⟨by decide +kernel, rfl⟩
theorem e_M_synthesise_87 : xa_d xP 131 87 (.iaload) 1 88 := ⟨by decide +kernel, rfl⟩
theorem e_M_synthesise_88 : xa_db xP 131 88 (.if_icmp .ge 26) 3 91 26 114 := ⟨⟨by decide +kernel, rfl⟩, rfl⟩
theorem e_M_synthesise_91 : xa_d xP 131 91 (.aload_n 0) 1 92 := ⟨by decide +kernel, rfl⟩
theorem e_M_synthesise_92 : xa_d xP 131 92 (.getfield 72) 3 95 := ⟨by decide +kernel, rfl⟩
theorem e_M_synthesise_95 : xa_d xP 131 95 (.bipush 8) 2 97 := ⟨by decide +kernel, rfl⟩
theorem e_M_synthesise_97 : xa_d xP 131 97 (.iload_n 2) 1 98 := ⟨by decide +kernel, rfl⟩
theorem e_M_synthesise_98 : xa_d xP 131 98 (.imul) 1 99 := ⟨by decide +kernel, rfl⟩
theorem e_M_synthesise_99 : xa_d xP 131 99 (.iload_n 3) 1 100 := ⟨by decide +kernel, rfl⟩
theorem e_M_synthesise_100 : xa_d xP 131 100 (.iadd) 1 101 := ⟨by decide +kernel, rfl⟩
theorem e_M_synthesise_101 : xa_d xP 131 101 (.aload_n 0) 1 102 := ⟨by decide +kernel, rfl⟩
theorem e_M_synthesise_102 : xa_d xP 131 102 (.getfield 66) 3 105 := ⟨by decide +kernel, rfl⟩
theorem e_M_synthesise_105 : xa_d xP 131 105 (.iload_n 3) 1 106 := ⟨by decide +kernel, rfl⟩
theorem e_M_synthesise_106 : xa_d xP 131 106 (.iaload) 1 107 := ⟨by decide +kernel, rfl⟩
theorem e_M_synthesise_107 : xa_d xP 131 107 (.iastore) 1 108 := ⟨by decide +kernel, rfl⟩
theorem e_M_synthesise_108 : xa_d xP 131 108 (.iinc 3 1) 3 111 := ⟨by decide +kernel, rfl⟩
theorem e_M_synthesise_111 : xa_db xP 131 111 (.goto (-30)) 3 114 (-30) 81 := ⟨⟨by decide +kernel, rfl⟩, rfl⟩
theorem e_M_synthesise_114 : xa_d xP 131 114 (.iload_n 1) 1 115 := ⟨by decide +kernel, rfl⟩
theorem e_M_synthesise_115 : xa_d xP 131 115 (.aload_n 0) 1 116 := ⟨by decide +kernel, rfl⟩
theorem e_M_synthesise_116 : xa_d xP 131 116 (.getfield 69) 3 119 := ⟨by decide +kernel, rfl⟩
theorem e_M_synthesise_119 : xa_d xP 131 119 (.iload_n 2) 1 120 := ⟨by decide +kernel, rfl⟩
theorem e_M_synthesise_120 : xa_d xP 131 120 (.iaload) 1 121 := ⟨by decide +kernel, rfl⟩
theorem e_M_synthesise_121 : xa_d xP 131 121 (.iadd) 1 122 := ⟨by decide +kernel, rfl⟩
theorem e_M_synthesise_122 : xa_d xP 131 122 (.istore_n 1) 1 123 := ⟨by decide +kernel, rfl⟩
theorem e_M_synthesise_123 : xa_d xP 131 123 (.iinc 2 1) 3 126 := ⟨by decide +kernel, rfl⟩
theorem e_M_synthesise_126 : xa_db xP 131 126 (.goto (-97)) 3 129 (-97) 29 := ⟨⟨by decide +kernel, rfl⟩, rfl⟩
theorem e_M_synthesise_129 : xa_d xP 131 129 (.iconst 0) 1 130 := ⟨by decide +kernel, rfl⟩
theorem e_M_synthesise_130 : xa_d xP 131 130 (.istore_n 2) 1 131 := ⟨by decide +kernel, rfl⟩
theorem e_M_synthesise_131 : xa_d xP 131 131 (.iload_n 2) 1 132 := ⟨by decide +kernel, rfl⟩
theorem e_M_synthesise_132 : xa_d xP 131 132 (.aload_n 0) 1 133 := ⟨by decide +kernel, rfl⟩
theorem e_M_synthesise_133 : xa_d xP 131 133 (.getfield 84) 3 136 := ⟨by decide +kernel, rfl⟩
theorem e_M_synthesise_136 : xa_db xP 131 136 (.if_icmp .ge 61) 3 139 61 197 := ⟨⟨by decide +kernel, rfl⟩, rfl⟩
theorem e_M_synthesise_139 : xa_d xP 131 139 (.aload_n 0) 1 140 := ⟨by decide +kernel, rfl⟩
theorem e_M_synthesise_140 : xa_d xP 131 140 (.getfield 45) 3 143 := ⟨by decide +kernel, rfl⟩
theorem e_M_synthesise_143 : xa_d xP 131 143 (.iload_n 2) 1 144 := ⟨by decide +kernel, rfl⟩
theorem e_M_synthesise_144 : xa_d xP 131 144 (.aload_n 0) 1 145 := ⟨by decide +kernel, rfl⟩
theorem e_M_synthesise_145 : xa_d xP 131 145 (.getfield 69) 3 148 := ⟨by decide +kernel, rfl⟩
theorem e_M_synthesise_148 : xa_d xP 131 148 (.iload_n 2) 1 149 := ⟨by decide +kernel, rfl⟩
theorem e_M_synthesise_149 : xa_d xP 131 149 (.iaload) 1 150 := ⟨by decide +kernel, rfl⟩
theorem e_M_synthesise_150 : xa_d xP 131 150 (.iastore) 1 151 := ⟨by decide +kernel, rfl⟩
theorem e_M_synthesise_151 : xa_d xP 131 151 (.iconst 0) 1 152 := ⟨by decide +kernel, rfl⟩
theorem e_M_synthesise_152 : xa_d xP 131 152 (.istore_n 3) 1 153 := ⟨by decide +kernel, rfl⟩
theorem e_M_synthesise_153 : xa_d xP 131 153 (.iload_n 3) 1 154 := ⟨by decide +kernel, rfl⟩
theorem e_M_synthesise_154 : xa_d xP 131 154 (.aload_n 0) 1 155 := ⟨by decide +kernel, rfl⟩
theorem e_M_synthesise_155 : xa_d xP 131 155 (.getfield 45) 3 158 := ⟨by decide +kernel, rfl⟩
theorem e_M_synthesise_158 : xa_d xP 131 158 (.iload_n 2) 1 159 := ⟨by decide +kernel, rfl⟩
theorem e_M_synthesise_159 : xa_d xP 131 159 (.iaload) 1 160 := ⟨by decide +kernel, rfl⟩
theorem e_M_synthesise_160 : xa_db xP 131 160 (.if_icmp .ge 31) 3 163 31 191 := ⟨⟨by decide +kernel, rfl⟩, rfl⟩
theorem e_M_synthesise_163 : xa_d xP 131 163 (.aload_n 0) 1 164 := ⟨by decide +kernel, rfl⟩
theorem e_M_synthesise_164 : xa_d xP 131 164 (.getfield 48) 3 167 := ⟨by decide +kernel, rfl⟩
theorem e_M_synthesise_167 : xa_d xP 131 167 (.bipush 8) 2 169 := ⟨by decide +kernel, rfl⟩
theorem e_M_synthesise_169 : xa_d xP 131 169 (.iload_n 2) 1 170 := ⟨by decide +kernel, rfl⟩
theorem e_M_synthesise_170 : xa_d xP 131 170 (.imul) 1 171 := ⟨by decide +kernel, rfl⟩
theorem e_M_synthesise_171 : xa_d xP 131 171 (.iload_n 3) 1 172 := ⟨by decide +kernel, rfl⟩
theorem e_M_synthesise_172 : xa_d xP 131 172 (.iadd) 1 173 := ⟨by decide +kernel, rfl⟩
theorem e_M_synthesise_173 : xa_d xP 131 173 (.aload_n 0) 1 174 := ⟨by decide +kernel, rfl⟩
theorem e_M_synthesise_174 : xa_d xP 131 174 (.getfield 72) 3 177 := ⟨by decide +kernel, rfl⟩
theorem e_M_synthesise_177 : xa_d xP 131 177 (.bipush 8) 2 179 := ⟨by decide +kernel, rfl⟩
theorem e_M_synthesise_179 : xa_d xP 131 179 (.iload_n 2) 1 180 := ⟨by decide +kernel, rfl⟩
theorem e_M_synthesise_180 : xa_d xP 131 180 (.imul) 1 181 := ⟨by decide +kernel, rfl⟩
theorem e_M_synthesise_181 : xa_d xP 131 181 (.iload_n 3) 1 182 := ⟨by decide +kernel, rfl⟩
theorem e_M_synthesise_182 : xa_d xP 131 182 (.iadd) 1 183 := ⟨by decide +kernel, rfl⟩
theorem e_M_synthesise_183 : xa_d xP 131 183 (.iaload) 1 184 := ⟨by decide +kernel, rfl⟩
theorem e_M_synthesise_184 : xa_d xP 131 184 (.iastore) 1 185 := ⟨by decide +kernel, rfl⟩
theorem e_M_synthesise_185 : xa_d xP 131 185 (.iinc 3 1) 3 188 := ⟨by decide +kernel, rfl⟩
theorem e_M_synthesise_188 : xa_db xP 131 188 (.goto (-35)) 3 191 (-35) 153 := ⟨⟨by decide +kernel, rfl⟩, rfl⟩
theorem e_M_synthesise_191 : xa_d xP 131 191 (.iinc 2 1) 3 194 := ⟨by decide +kernel, rfl⟩
theorem e_M_synthesise_194 : xa_db xP 131 194 (.goto (-63)) 3 197 (-63) 131 := ⟨⟨by decide +kernel, rfl⟩, rfl⟩
theorem e_M_synthesise_197 : xa_d xP 131 197 (.iload_n 1) 1 198 := ⟨by decide +kernel, rfl⟩
theorem e_M_synthesise_198 : xa_d xP 131 198 (.ireturn) 1 199 := ⟨by decide +kernel, rfl⟩
theorem e_M_leastSum_0 : xa_d xP 132 0 (.aload_n 0) 1 1 := ⟨by decide +kernel, rfl⟩
theorem e_M_leastSum_1 : xa_d xP 132 1 (.iload_n 1) 1 2 := ⟨by decide +kernel, rfl⟩
theorem e_M_leastSum_2 : xa_d xP 132 2 (.iconst 1) 1 3 := ⟨by decide +kernel, rfl⟩
theorem e_M_leastSum_3 : xa_d xP 132 3 (.invokevirtual 178) 3 6 := ⟨by decide +kernel, rfl⟩
theorem e_M_leastSum_6 : xa_d xP 132 6 (.istore_n 2) 1 7 := ⟨by decide +kernel, rfl⟩
theorem e_M_leastSum_7 : xa_d xP 132 7 (.iload_n 2) 1 8 := ⟨by decide +kernel, rfl⟩
theorem e_M_leastSum_8 : xa_db xP 132 8 (.ifCond .ne 5) 3 11 5 13 := ⟨⟨by decide +kernel, rfl⟩, rfl⟩
theorem e_M_leastSum_11 : xa_d xP 132 11 (.iconst 0) 1 12 := ⟨by decide +kernel, rfl⟩
theorem e_M_leastSum_12 : xa_d xP 132 12 (.ireturn) 1 13 := ⟨by decide +kernel, rfl⟩
theorem e_M_leastSum_13 : xa_d xP 132 13 (.aload_n 0) 1 14 := ⟨by decide +kernel, rfl⟩
theorem e_M_leastSum_14 : xa_d xP 132 14 (.aload_n 0) 1 15 := ⟨by decide +kernel, rfl⟩
theorem e_M_leastSum_15 : xa_d xP 132 15 (.iload_n 1) 1 16 := ⟨by decide +kernel, rfl⟩
theorem e_M_leastSum_16 : xa_d xP 132 16 (.iconst 0) 1 17 := ⟨by decide +kernel, rfl⟩
theorem e_M_leastSum_17 : xa_d xP 132 17 (.invokevirtual 178) 3 20 := ⟨by decide +kernel, rfl⟩
theorem e_M_leastSum_20 : xa_d xP 132 20 (.invokevirtual 181) 3 23 := ⟨by decide +kernel, rfl⟩
theorem e_M_leastSum_23 : xa_d xP 132 23 (.aload_n 0) 1 24 := ⟨by decide +kernel, rfl⟩
theorem e_M_leastSum_24 : xa_d xP 132 24 (.iconst 0) 1 25 := ⟨by decide +kernel, rfl⟩
theorem e_M_leastSum_25 : xa_d xP 132 25 (.putfield 161) 3 28 := ⟨by decide +kernel, rfl⟩
theorem e_M_leastSum_28 : xa_d xP 132 28 (.iconst 1) 1 29 := ⟨by decide +kernel, rfl⟩
theorem e_M_leastSum_29 : xa_d xP 132 29 (.istore_n 3) 1 30 := ⟨by decide +kernel, rfl⟩
theorem e_M_leastSum_30 : xa_d xP 132 30 (.iload_n 3) 1 31 := ⟨by decide +kernel, rfl⟩
theorem e_M_leastSum_31 : xa_d xP 132 31 (.bipush 9) 2 33 := ⟨by decide +kernel, rfl⟩
theorem e_M_leastSum_33 : xa_db xP 132 33 (.if_icmp .ge 24) 3 36 24 57 := ⟨⟨by decide +kernel, rfl⟩, rfl⟩
theorem e_M_leastSum_36 : xa_d xP 132 36 (.aload_n 0) 1 37 := ⟨by decide +kernel, rfl⟩
theorem e_M_leastSum_37 : xa_d xP 132 37 (.iload_n 2) 1 38 := ⟨by decide +kernel, rfl⟩
theorem e_M_leastSum_38 : xa_d xP 132 38 (.iload_n 3) 1 39 := ⟨by decide +kernel, rfl⟩
theorem e_M_leastSum_39 : xa_d xP 132 39 (.invokevirtual 184) 3 42 := ⟨by decide +kernel, rfl⟩
theorem e_M_leastSum_42 : xa_d xP 132 42 (.aload_n 0) 1 43 := ⟨by decide +kernel, rfl⟩
theorem e_M_leastSum_43 : xa_d xP 132 43 (.getfield 161) 3 46 := ⟨by decide +kernel, rfl⟩
theorem e_M_leastSum_46 : xa_db xP 132 46 (.ifCond .eq 5) 3 49 5 51 := ⟨⟨by decide +kernel, rfl⟩, rfl⟩
theorem e_M_leastSum_49 : xa_d xP 132 49 (.iload_n 3) 1 50 := ⟨by decide +kernel, rfl⟩
theorem e_M_leastSum_50 : xa_d xP 132 50 (.ireturn) 1 51 := ⟨by decide +kernel, rfl⟩
theorem e_M_leastSum_51 : xa_d xP 132 51 (.iinc 3 1) 3 54 := ⟨by decide +kernel, rfl⟩
theorem e_M_leastSum_54 : xa_db xP 132 54 (.goto (-24)) 3 57 (-24) 30 := ⟨⟨by decide +kernel, rfl⟩, rfl⟩
theorem e_M_leastSum_57 : xa_d xP 132 57 (.bipush 9) 2 59 := ⟨by decide +kernel, rfl⟩
theorem e_M_leastSum_59 : xa_d xP 132 59 (.ireturn) 1 60 := ⟨by decide +kernel, rfl⟩
theorem e_M_codesOf_0 : xa_d xP 133 0 (.iconst 0) 1 1 := ⟨by decide +kernel, rfl⟩
theorem e_M_codesOf_1 : xa_d xP 133 1 (.istore_n 3) 1 2 := ⟨by decide +kernel, rfl⟩
theorem e_M_codesOf_2 : xa_d xP 133 2 (.iconst 0) 1 3 := ⟨by decide +kernel, rfl⟩
theorem e_M_codesOf_3 : xa_d xP 133 3 (.istore 4) 2 5 := ⟨by decide +kernel, rfl⟩
theorem e_M_codesOf_5 : xa_d xP 133 5 (.iload 4) 2 7 := ⟨by decide +kernel, rfl⟩
theorem e_M_codesOf_7 : xa_d xP 133 7 (.aload_n 0) 1 8 := ⟨by decide +kernel, rfl⟩
theorem e_M_codesOf_8 : xa_d xP 133 8 (.getfield 81) 3 11 := ⟨by decide +kernel, rfl⟩
theorem e_M_codesOf_11 : xa_db xP 133 11 (.if_icmp .ge 55) 3 14 55 66 := ⟨⟨by decide +kernel, rfl⟩, rfl⟩
theorem e_M_codesOf_14 : xa_d xP 133 14 (.aload_n 0) 1 15 := ⟨by decide +kernel, rfl⟩
theorem e_M_codesOf_15 : xa_d xP 133 15 (.getfield 39) 3 18 := ⟨by decide +kernel, rfl⟩
theorem e_M_codesOf_18 : xa_d xP 133 18 (.iload 4) 2 20 := ⟨by decide +kernel, rfl⟩
theorem e_M_codesOf_20 : xa_d xP 133 20 (.iaload) 1 21 := ⟨by decide +kernel, rfl⟩
theorem e_M_codesOf_21 : xa_d xP 133 21 (.iload_n 1) 1 22 := ⟨by decide +kernel, rfl⟩
theorem e_M_codesOf_22 : xa_d xP 133 22 (.ishr) 1 23 := ⟨by decide +kernel, rfl⟩
theorem e_M_codesOf_23 : xa_d xP 133 23 (.iconst 1) 1 24 := ⟨by decide +kernel, rfl⟩
theorem e_M_codesOf_24 : xa_d xP 133 24 (.iand) 1 25 := ⟨by decide +kernel, rfl⟩
theorem e_M_codesOf_25 : xa_d xP 133 25 (.aload_n 0) 1 26 := ⟨by decide +kernel, rfl⟩
theorem e_M_codesOf_26 : xa_d xP 133 26 (.iload 4) 2 28 := ⟨by decide +kernel, rfl⟩
theorem e_M_codesOf_28 : xa_d xP 133 28 (.invokevirtual 129) 3 31 := ⟨by decide +kernel, rfl⟩
theorem e_M_codesOf_31 : xa_d xP 133 31 (.iload_n 1) 1 32 := ⟨by decide +kernel, rfl⟩
theorem e_M_codesOf_32 : xa_d xP 133 32 (.ishr) 1 33 := ⟨by decide +kernel, rfl⟩
theorem e_M_codesOf_33 : xa_d xP 133 33 (.iconst 1) 1 34 := ⟨by decide +kernel, rfl⟩
theorem e_M_codesOf_34 : xa_d xP 133 34 (.iand) 1 35 := ⟨by decide +kernel, rfl⟩
theorem e_M_codesOf_35 : xa_d xP 133 35 (.ixor) 1 36 := ⟨by decide +kernel, rfl⟩
theorem e_M_codesOf_36 : xa_d xP 133 36 (.istore 5) 2 38 := ⟨by decide +kernel, rfl⟩
theorem e_M_codesOf_38 : xa_d xP 133 38 (.iload 5) 2 40 := ⟨by decide +kernel, rfl⟩
theorem e_M_codesOf_40 : xa_d xP 133 40 (.iload_n 2) 1 41 := ⟨by decide +kernel, rfl⟩
theorem e_M_codesOf_41 : xa_db xP 133 41 (.if_icmp .ne 17) 3 44 17 58 := ⟨⟨by decide +kernel, rfl⟩, rfl⟩
theorem e_M_codesOf_44 : xa_d xP 133 44 (.iload_n 3) 1 45 := ⟨by decide +kernel, rfl⟩
theorem e_M_codesOf_45 : xa_d xP 133 45 (.iconst 1) 1 46 := ⟨by decide +kernel, rfl⟩
theorem e_M_codesOf_46 : xa_d xP 133 46 (.aload_n 0) 1 47 := ⟨by decide +kernel, rfl⟩
theorem e_M_codesOf_47 : xa_d xP 133 47 (.getfield 39) 3 50 := ⟨by decide +kernel, rfl⟩
theorem e_M_codesOf_50 : xa_d xP 133 50 (.iload 4) 2 52 := ⟨by decide +kernel, rfl⟩
theorem e_M_codesOf_52 : xa_d xP 133 52 (.iaload) 1 53 := ⟨by decide +kernel, rfl⟩
theorem e_M_codesOf_53 : xa_d xP 133 53 (.ishl) 1 54 := ⟨by decide +kernel, rfl⟩
theorem e_M_codesOf_54 : xa_d xP 133 54 (.ior) 1 55 := ⟨by decide +kernel, rfl⟩
theorem e_M_codesOf_55 : xa_db xP 133 55 (.goto 4) 3 58 4 59 := ⟨⟨by decide +kernel, rfl⟩, rfl⟩
theorem e_M_codesOf_58 : xa_d xP 133 58 (.iload_n 3) 1 59 := ⟨by decide +kernel, rfl⟩
theorem e_M_codesOf_59 : xa_d xP 133 59 (.istore_n 3) 1 60 := ⟨by decide +kernel, rfl⟩
theorem e_M_codesOf_60 : xa_d xP 133 60 (.iinc 4 1) 3 63 := ⟨by decide +kernel, rfl⟩
theorem e_M_codesOf_63 : xa_db xP 133 63 (.goto (-58)) 3 66 (-58) 5 := ⟨⟨by decide +kernel, rfl⟩, rfl⟩
theorem e_M_codesOf_66 : xa_d xP 133 66 (.iload_n 3) 1 67 := ⟨by decide +kernel, rfl⟩
theorem e_M_codesOf_67 : xa_d xP 133 67 (.ireturn) 1 68 := ⟨by decide +kernel, rfl⟩
theorem e_M_tabulate_0 : xa_d xP 134 0 (.aload_n 0) 1 1 := ⟨by decide +kernel, rfl⟩
theorem e_M_tabulate_1 : xa_d xP 134 1 (.getfield 84) 3 4 := ⟨by decide +kernel, rfl⟩
theorem e_M_tabulate_4 : xa_d xP 134 4 (.invokestatic 152) 3 7 := ⟨by decide +kernel, rfl⟩
theorem e_M_tabulate_7 : xa_d xP 134 7 (.istore_n 2) 1 8 := ⟨by decide +kernel, rfl⟩
theorem e_M_tabulate_8 : xa_d xP 134 8 (.iconst 0) 1 9 := ⟨by decide +kernel, rfl⟩
theorem e_M_tabulate_9 : xa_d xP 134 9 (.istore_n 3) 1 10 := ⟨by decide +kernel, rfl⟩
theorem e_M_tabulate_10 : xa_d xP 134 10 (.iload_n 3) 1 11 := ⟨by decide +kernel, rfl⟩
theorem e_M_tabulate_11 : xa_d xP 134 11 (.iload_n 2) 1 12 := ⟨by decide +kernel, rfl⟩
theorem e_M_tabulate_12 : xa_db xP 134 12 (.if_icmp .ge 72) 3 15 72 84 := ⟨⟨by decide +kernel, rfl⟩, rfl⟩
theorem e_M_tabulate_15 : xa_d xP 134 15 (.aload_n 0) 1 16 := ⟨by decide +kernel, rfl⟩
theorem e_M_tabulate_16 : xa_d xP 134 16 (.getfield 51) 3 19 := ⟨by decide +kernel, rfl⟩
theorem e_M_tabulate_19 : xa_d xP 134 19 (.iload_n 3) 1 20 := ⟨by decide +kernel, rfl⟩
theorem e_M_tabulate_20 : xa_d xP 134 20 (.iconst 0) 1 21 := ⟨by decide +kernel, rfl⟩
theorem e_M_tabulate_21 : xa_d xP 134 21 (.iastore) 1 22 := ⟨by decide +kernel, rfl⟩
theorem e_M_tabulate_22 : xa_d xP 134 22 (.iconst 0) 1 23 := ⟨by decide +kernel, rfl⟩
theorem e_M_tabulate_23 : xa_d xP 134 23 (.istore 4) 2 25 := ⟨by decide +kernel, rfl⟩
theorem e_M_tabulate_25 : xa_d xP 134 25 (.iload 4) 2 27 := ⟨by decide +kernel, rfl⟩
theorem e_M_tabulate_27 : xa_d xP 134 27 (.iconst 1) 1 28 := ⟨by decide +kernel, rfl⟩
theorem e_M_tabulate_28 : xa_d xP 134 28 (.aload_n 0) 1 29 := ⟨by decide +kernel, rfl⟩
theorem e_M_tabulate_29 : xa_d xP 134 29 (.getfield 84) 3 32 := ⟨by decide +kernel, rfl⟩
theorem e_M_tabulate_32 : xa_d xP 134 32 (.ishl) 1 33 := ⟨by decide +kernel, rfl⟩
theorem e_M_tabulate_33 : xa_db xP 134 33 (.if_icmp .ge 45) 3 36 45 78 := ⟨⟨by decide +kernel, rfl⟩, rfl⟩
theorem e_M_tabulate_36 : xa_d xP 134 36 (.aload_n 0) 1 37 := ⟨by decide +kernel, rfl⟩
theorem e_M_tabulate_37 : xa_d xP 134 37 (.getfield 51) 3 40 := ⟨by decide +kernel, rfl⟩
theorem e_M_tabulate_40 : xa_d xP 134 40 (.iload_n 3) 1 41 := ⟨by decide +kernel, rfl⟩
theorem e_M_tabulate_41 : xa_d xP 134 41 (.aload_n 0) 1 42 := ⟨by decide +kernel, rfl⟩
theorem e_M_tabulate_42 : xa_d xP 134 42 (.iload_n 3) 1 43 := ⟨by decide +kernel, rfl⟩
theorem e_M_tabulate_43 : xa_d xP 134 43 (.iload 4) 2 45 := ⟨by decide +kernel, rfl⟩
theorem e_M_tabulate_45 : xa_d xP 134 45 (.invokevirtual 155) 3 48 := ⟨by decide +kernel, rfl⟩
theorem e_M_tabulate_48 : xa_db xP 134 48 (.ifCond .eq 17) 3 51 17 65 := ⟨⟨by decide +kernel, rfl⟩, rfl⟩
theorem e_M_tabulate_51 : xa_d xP 134 51 (.aload_n 0) 1 52 := ⟨by decide +kernel, rfl⟩
theorem e_M_tabulate_52 : xa_d xP 134 52 (.getfield 51) 3 55 := ⟨by decide +kernel, rfl⟩
theorem e_M_tabulate_55 : xa_d xP 134 55 (.iload_n 3) 1 56 := ⟨by decide +kernel, rfl⟩
theorem e_M_tabulate_56 : xa_d xP 134 56 (.iaload) 1 57 := ⟨by decide +kernel, rfl⟩
theorem e_M_tabulate_57 : xa_d xP 134 57 (.iconst 1) 1 58 := ⟨by decide +kernel, rfl⟩
theorem e_M_tabulate_58 : xa_d xP 134 58 (.iload 4) 2 60 := ⟨by decide +kernel, rfl⟩
theorem e_M_tabulate_60 : xa_d xP 134 60 (.ishl) 1 61 := ⟨by decide +kernel, rfl⟩
theorem e_M_tabulate_61 : xa_d xP 134 61 (.ior) 1 62 := ⟨by decide +kernel, rfl⟩
theorem e_M_tabulate_62 : xa_db xP 134 62 (.goto 9) 3 65 9 71 := ⟨⟨by decide +kernel, rfl⟩, rfl⟩
theorem e_M_tabulate_65 : xa_d xP 134 65 (.aload_n 0) 1 66 := ⟨by decide +kernel, rfl⟩
theorem e_M_tabulate_66 : xa_d xP 134 66 (.getfield 51) 3 69 := ⟨by decide +kernel, rfl⟩
theorem e_M_tabulate_69 : xa_d xP 134 69 (.iload_n 3) 1 70 := ⟨by decide +kernel, rfl⟩
theorem e_M_tabulate_70 : xa_d xP 134 70 (.iaload) 1 71 := ⟨by decide +kernel, rfl⟩
theorem e_M_tabulate_71 : xa_d xP 134 71 (.iastore) 1 72 := ⟨by decide +kernel, rfl⟩
theorem e_M_tabulate_72 : xa_d xP 134 72 (.iinc 4 1) 3 75 := ⟨by decide +kernel, rfl⟩
theorem e_M_tabulate_75 : xa_db xP 134 75 (.goto (-50)) 3 78 (-50) 25 := ⟨⟨by decide +kernel, rfl⟩, rfl⟩
theorem e_M_tabulate_78 : xa_d xP 134 78 (.iinc 3 1) 3 81 := ⟨by decide +kernel, rfl⟩
theorem e_M_tabulate_81 : xa_db xP 134 81 (.goto (-71)) 3 84 (-71) 10 := ⟨⟨by decide +kernel, rfl⟩, rfl⟩
theorem e_M_tabulate_84 : xa_d xP 134 84 (.iconst 0) 1 85 := ⟨by decide +kernel, rfl⟩
theorem e_M_tabulate_85 : xa_d xP 134 85 (.istore_n 3) 1 86 := ⟨by decide +kernel, rfl⟩
theorem e_M_tabulate_86 : xa_d xP 134 86 (.iload_n 3) 1 87 := ⟨by decide +kernel, rfl⟩
theorem e_M_tabulate_87 : xa_d xP 134 87 (.iload_n 2) 1 88 := ⟨by decide +kernel, rfl⟩
theorem e_M_tabulate_88 : xa_db xP 134 88 (.if_icmp .ge 120) 3 91 120 208 := ⟨⟨by decide +kernel, rfl⟩, rfl⟩
theorem e_M_tabulate_91 : xa_d xP 134 91 (.aload_n 0) 1 92 := ⟨by decide +kernel, rfl⟩
theorem e_M_tabulate_92 : xa_d xP 134 92 (.getfield 54) 3 95 := ⟨by decide +kernel, rfl⟩
theorem e_M_tabulate_95 : xa_d xP 134 95 (.iload_n 3) 1 96 := ⟨by decide +kernel, rfl⟩
theorem e_M_tabulate_96 : xa_d xP 134 96 (.aload_n 0) 1 97 := ⟨by decide +kernel, rfl⟩
theorem e_M_tabulate_97 : xa_d xP 134 97 (.getfield 51) 3 100 := ⟨by decide +kernel, rfl⟩
theorem e_M_tabulate_100 : xa_d xP 134 100 (.iload_n 3) 1 101 := ⟨by decide +kernel, rfl⟩
theorem e_M_tabulate_101 : xa_d xP 134 101 (.iaload) 1 102 := ⟨by decide +kernel, rfl⟩
theorem e_M_tabulate_102 : xa_d xP 134 102 (.iload_n 1) 1 103 := ⟨by decide +kernel, rfl⟩
theorem e_M_tabulate_103 : xa_d xP 134 103 (.iand) 1 104 := ⟨by decide +kernel, rfl⟩
theorem e_M_tabulate_104 : xa_db xP 134 104 (.ifCond .ne 7) 3 107 7 111 := ⟨⟨by decide +kernel, rfl⟩, rfl⟩
theorem e_M_tabulate_107 : xa_d xP 134 107 (.iconst 1) 1 108 := ⟨by decide +kernel, rfl⟩
theorem e_M_tabulate_108 : xa_db xP 134 108 (.goto 4) 3 111 4 112 := ⟨⟨by decide +kernel, rfl⟩, rfl⟩
theorem e_M_tabulate_111 : xa_d xP 134 111 (.iconst 0) 1 112 := ⟨by decide +kernel, rfl⟩
theorem e_M_tabulate_112 : xa_d xP 134 112 (.bastore) 1 113 := ⟨by decide +kernel, rfl⟩
theorem e_M_tabulate_113 : xa_d xP 134 113 (.iconst 0) 1 114 := ⟨by decide +kernel, rfl⟩
theorem e_M_tabulate_114 : xa_d xP 134 114 (.istore 4) 2 116 := ⟨by decide +kernel, rfl⟩
theorem e_M_tabulate_116 : xa_d xP 134 116 (.iload 4) 2 118 := ⟨by decide +kernel, rfl⟩
theorem e_M_tabulate_118 : xa_d xP 134 118 (.aload_n 0) 1 119 := ⟨by decide +kernel, rfl⟩
theorem e_M_tabulate_119 : xa_d xP 134 119 (.getfield 84) 3 122 := ⟨by decide +kernel, rfl⟩
theorem e_M_tabulate_122 : xa_db xP 134 122 (.if_icmp .ge 80) 3 125 80 202 := ⟨⟨by decide +kernel, rfl⟩, rfl⟩
theorem e_M_tabulate_125 : xa_d xP 134 125 (.iload_n 3) 1 126 := ⟨by decide +kernel, rfl⟩
theorem e_M_tabulate_126 : xa_d xP 134 126 (.iload 4) 2 128 := ⟨by decide +kernel, rfl⟩
theorem e_M_tabulate_128 : xa_d xP 134 128 (.invokestatic 152) 3 131 := ⟨by decide +kernel, rfl⟩
theorem e_M_tabulate_131 : xa_d xP 134 131 (.idiv) 1 132 := ⟨by decide +kernel, rfl⟩
theorem e_M_tabulate_132 : xa_d xP 134 132 (.iconst 3) 1 133 := ⟨by decide +kernel, rfl⟩
theorem e_M_tabulate_133 : xa_d xP 134 133 (.irem) 1 134 := ⟨by decide +kernel, rfl⟩
theorem e_M_tabulate_134 : xa_d xP 134 134 (.istore 5) 2 136 := ⟨by decide +kernel, rfl⟩
theorem e_M_tabulate_136 : xa_d xP 134 136 (.iload 5) 2 138 := ⟨by decide +kernel, rfl⟩
theorem e_M_tabulate_138 : xa_d xP 134 138 (.iconst 2) 1 139 := ⟨by decide +kernel, rfl⟩
theorem e_M_tabulate_139 : xa_db xP 134 139 (.if_icmp .ge 29) 3 142 29 168 := ⟨⟨by decide +kernel, rfl⟩, rfl⟩
theorem e_M_tabulate_142 : xa_d xP 134 142 (.aload_n 0) 1 143 := ⟨by decide +kernel, rfl⟩
theorem e_M_tabulate_143 : xa_d xP 134 143 (.getfield 51) 3 146 := ⟨by decide +kernel, rfl⟩
theorem e_M_tabulate_146 : xa_d xP 134 146 (.iload_n 3) 1 147 := ⟨by decide +kernel, rfl⟩
theorem e_M_tabulate_147 : xa_d xP 134 147 (.iconst 2) 1 148 := ⟨by decide +kernel, rfl⟩
theorem e_M_tabulate_148 : xa_d xP 134 148 (.iload 5) 2 150 := ⟨by decide +kernel, rfl⟩
theorem e_M_tabulate_150 : xa_d xP 134 150 (.isub) 1 151 := ⟨by decide +kernel, rfl⟩
theorem e_M_tabulate_151 : xa_d xP 134 151 (.iload 4) 2 153 := ⟨by decide +kernel, rfl⟩
theorem e_M_tabulate_153 : xa_d xP 134 153 (.invokestatic 152) 3 156 := ⟨by decide +kernel, rfl⟩
theorem e_M_tabulate_156 : xa_d xP 134 156 (.imul) 1 157 := ⟨by decide +kernel, rfl⟩
theorem e_M_tabulate_157 : xa_d xP 134 157 (.iadd) 1 158 := ⟨by decide +kernel, rfl⟩
theorem e_M_tabulate_158 : xa_d xP 134 158 (.iaload) 1 159 := ⟨by decide +kernel, rfl⟩
theorem e_M_tabulate_159 : xa_d xP 134 159 (.iload_n 1) 1 160 := ⟨by decide +kernel, rfl⟩
theorem e_M_tabulate_160 : xa_d xP 134 160 (.iand) 1 161 := ⟨by decide +kernel, rfl⟩
theorem e_M_tabulate_161 : xa_db xP 134 161 (.ifCond .ne 7) 3 164 7 168 := ⟨⟨by decide +kernel, rfl⟩, rfl⟩
theorem e_M_tabulate_164 : xa_d xP 134 164 (.iconst 1) 1 165 := ⟨by decide +kernel, rfl⟩
theorem e_M_tabulate_165 : xa_db xP 134 165 (.goto 4) 3 168 4 169 := ⟨⟨by decide +kernel, rfl⟩, rfl⟩
theorem e_M_tabulate_168 : xa_d xP 134 168 (.iconst 0) 1 169 := ⟨by decide +kernel, rfl⟩
theorem e_M_tabulate_169 : xa_d xP 134 169 (.istore 6) 2 171 := ⟨by decide +kernel, rfl⟩
theorem e_M_tabulate_171 : xa_d xP 134 171 (.aload_n 0) 1 172 := ⟨by decide +kernel, rfl⟩
theorem e_M_tabulate_172 : xa_d xP 134 172 (.getfield 54) 3 175 := ⟨by decide +kernel, rfl⟩
theorem e_M_tabulate_175 : xa_d xP 134 175 (.iload_n 3) 1 176 := ⟨by decide +kernel, rfl⟩
theorem e_M_tabulate_176 : xa_d xP 134 176 (.aload_n 0) 1 177 := ⟨by decide +kernel, rfl⟩
theorem e_M_tabulate_177 : xa_d xP 134 177 (.getfield 54) 3 180 := ⟨by decide +kernel, rfl⟩
theorem e_M_tabulate_180 : xa_d xP 134 180 (.iload_n 3) 1 181 := ⟨by decide +kernel, rfl⟩
theorem e_M_tabulate_181 : xa_d xP 134 181 (.baload) 1 182 := ⟨by decide +kernel, rfl⟩
theorem e_M_tabulate_182 : xa_db xP 134 182 (.ifCond .eq 12) 3 185 12 194 := ⟨⟨by decide +kernel, rfl⟩, rfl⟩
theorem e_M_tabulate_185 : xa_d xP 134 185 (.iload 6) 2 187 := ⟨by decide +kernel, rfl⟩
theorem e_M_tabulate_187 : xa_db xP 134 187 (.ifCond .ne 7) 3 190 7 194 := ⟨⟨by decide +kernel, rfl⟩, rfl⟩
theorem e_M_tabulate_190 : xa_d xP 134 190 (.iconst 1) 1 191 := ⟨by decide +kernel, rfl⟩
theorem e_M_tabulate_191 : xa_db xP 134 191 (.goto 4) 3 194 4 195 := ⟨⟨by decide +kernel, rfl⟩, rfl⟩
theorem e_M_tabulate_194 : xa_d xP 134 194 (.iconst 0) 1 195 := ⟨by decide +kernel, rfl⟩
theorem e_M_tabulate_195 : xa_d xP 134 195 (.bastore) 1 196 := ⟨by decide +kernel, rfl⟩
theorem e_M_tabulate_196 : xa_d xP 134 196 (.iinc 4 1) 3 199 := ⟨by decide +kernel, rfl⟩
theorem e_M_tabulate_199 : xa_db xP 134 199 (.goto (-83)) 3 202 (-83) 116 := ⟨⟨by decide +kernel, rfl⟩, rfl⟩
theorem e_M_tabulate_202 : xa_d xP 134 202 (.iinc 3 1) 3 205 := ⟨by decide +kernel, rfl⟩
theorem e_M_tabulate_205 : xa_db xP 134 205 (.goto (-119)) 3 208 (-119) 86 := ⟨⟨by decide +kernel, rfl⟩, rfl⟩
theorem e_M_tabulate_208 : xa_d xP 134 208 (.return_) 1 209 := ⟨by decide +kernel, rfl⟩
theorem e_M_three_0 : xa_d xP 135 0 (.iconst 1) 1 1 := ⟨by decide +kernel, rfl⟩
theorem e_M_three_1 : xa_d xP 135 1 (.istore_n 1) 1 2 := ⟨by decide +kernel, rfl⟩
theorem e_M_three_2 : xa_d xP 135 2 (.iconst 0) 1 3 := ⟨by decide +kernel, rfl⟩
theorem e_M_three_3 : xa_d xP 135 3 (.istore_n 2) 1 4 := ⟨by decide +kernel, rfl⟩
theorem e_M_three_4 : xa_d xP 135 4 (.iload_n 2) 1 5 := ⟨by decide +kernel, rfl⟩
theorem e_M_three_5 : xa_d xP 135 5 (.iload_n 0) 1 6 := ⟨by decide +kernel, rfl⟩
theorem e_M_three_6 : xa_db xP 135 6 (.if_icmp .ge 13) 3 9 13 19 := ⟨⟨by decide +kernel, rfl⟩, rfl⟩
theorem e_M_three_9 : xa_d xP 135 9 (.iload_n 1) 1 10 := ⟨by decide +kernel, rfl⟩
theorem e_M_three_10 : xa_d xP 135 10 (.iconst 3) 1 11 := ⟨by decide +kernel, rfl⟩
theorem e_M_three_11 : xa_d xP 135 11 (.imul) 1 12 := ⟨by decide +kernel, rfl⟩
theorem e_M_three_12 : xa_d xP 135 12 (.istore_n 1) 1 13 := ⟨by decide +kernel, rfl⟩
theorem e_M_three_13 : xa_d xP 135 13 (.iinc 2 1) 3 16 := ⟨by decide +kernel, rfl⟩
theorem e_M_three_16 : xa_db xP 135 16 (.goto (-12)) 3 19 (-12) 4 := ⟨⟨by decide +kernel, rfl⟩, rfl⟩
theorem e_M_three_19 : xa_d xP 135 19 (.iload_n 1) 1 20 := ⟨by decide +kernel, rfl⟩
theorem e_M_three_20 : xa_d xP 135 20 (.ireturn) 1 21 := ⟨by decide +kernel, rfl⟩
theorem e_M_covers_0 : xa_d xP 136 0 (.iconst 0) 1 1 := ⟨by decide +kernel, rfl⟩
theorem e_M_covers_1 : xa_d xP 136 1 (.istore_n 3) 1 2 := ⟨by decide +kernel, rfl⟩
theorem e_M_covers_2 : xa_d xP 136 2 (.iload_n 3) 1 3 := ⟨by decide +kernel, rfl⟩
theorem e_M_covers_3 : xa_d xP 136 3 (.aload_n 0) 1 4 := ⟨by decide +kernel, rfl⟩
theorem e_M_covers_4 : xa_d xP 136 4 (.getfield 84) 3 7 := ⟨by decide +kernel, rfl⟩
theorem e_M_covers_7 : xa_db xP 136 7 (.if_icmp .ge 37) 3 10 37 44 := ⟨⟨by decide +kernel, rfl⟩, rfl⟩
theorem e_M_covers_10 : xa_d xP 136 10 (.iload_n 1) 1 11 := ⟨by decide +kernel, rfl⟩
theorem e_M_covers_11 : xa_d xP 136 11 (.iload_n 3) 1 12 := ⟨by decide +kernel, rfl⟩
theorem e_M_covers_12 : xa_d xP 136 12 (.invokestatic 152) 3 15 := ⟨by decide +kernel, rfl⟩
theorem e_M_covers_15 : xa_d xP 136 15 (.idiv) 1 16 := ⟨by decide +kernel, rfl⟩
theorem e_M_covers_16 : xa_d xP 136 16 (.iconst 3) 1 17 := ⟨by decide +kernel, rfl⟩
theorem e_M_covers_17 : xa_d xP 136 17 (.irem) 1 18 := ⟨by decide +kernel, rfl⟩
theorem e_M_covers_18 : xa_d xP 136 18 (.istore 4) 2 20 := ⟨by decide +kernel, rfl⟩
theorem e_M_covers_20 : xa_d xP 136 20 (.iload 4) 2 22 := ⟨by decide +kernel, rfl⟩
theorem e_M_covers_22 : xa_d xP 136 22 (.iconst 2) 1 23 := ⟨by decide +kernel, rfl⟩
theorem e_M_covers_23 : xa_db xP 136 23 (.if_icmp .ge 15) 3 26 15 38 := ⟨⟨by decide +kernel, rfl⟩, rfl⟩
theorem e_M_covers_26 : xa_d xP 136 26 (.iload 4) 2 28 := ⟨by decide +kernel, rfl⟩
theorem e_M_covers_28 : xa_d xP 136 28 (.iload_n 2) 1 29 := ⟨by decide +kernel, rfl⟩
theorem e_M_covers_29 : xa_d xP 136 29 (.iload_n 3) 1 30 := ⟨by decide +kernel, rfl⟩
theorem e_M_covers_30 : xa_d xP 136 30 (.ishr) 1 31 := ⟨by decide +kernel, rfl⟩
theorem e_M_covers_31 : xa_d xP 136 31 (.iconst 1) 1 32 := ⟨by decide +kernel, rfl⟩
theorem e_M_covers_32 : xa_d xP 136 32 (.iand) 1 33 := ⟨by decide +kernel, rfl⟩
theorem e_M_covers_33 : xa_db xP 136 33 (.if_icmp .eq 5) 3 36 5 38 := ⟨⟨by decide +kernel, rfl⟩, rfl⟩
theorem e_M_covers_36 : xa_d xP 136 36 (.iconst 0) 1 37 := ⟨by decide +kernel, rfl⟩
theorem e_M_covers_37 : xa_d xP 136 37 (.ireturn) 1 38 := ⟨by decide +kernel, rfl⟩
theorem e_M_covers_38 : xa_d xP 136 38 (.iinc 3 1) 3 41 := ⟨by decide +kernel, rfl⟩
theorem e_M_covers_41 : xa_db xP 136 41 (.goto (-39)) 3 44 (-39) 2 := ⟨⟨by decide +kernel, rfl⟩, rfl⟩
theorem e_M_covers_44 : xa_d xP 136 44 (.iconst 1) 1 45 := ⟨by decide +kernel, rfl⟩
theorem e_M_covers_45 : xa_d xP 136 45 (.ireturn) 1 46 := ⟨by decide +kernel, rfl⟩
theorem e_M_tryCovers_0 : xa_d xP 137 0 (.iconst 0) 1 1 := ⟨by decide +kernel, rfl⟩
theorem e_M_tryCovers_1 : xa_d xP 137 1 (.istore_n 3) 1 2 := ⟨by decide +kernel, rfl⟩
theorem e_M_tryCovers_2 : xa_d xP 137 2 (.aload_n 0) 1 3 := ⟨by decide +kernel, rfl⟩
theorem e_M_tryCovers_3 : xa_d xP 137 3 (.getfield 60) 3 6 := ⟨by decide +kernel, rfl⟩
theorem e_M_tryCovers_6 : xa_d xP 137 6 (.iconst 0) 1 7 := ⟨by decide +kernel, rfl⟩
theorem e_M_tryCovers_7 : xa_d xP 137 7 (.iconst 0) 1 8 := ⟨by decide +kernel, rfl⟩
theorem e_M_tryCovers_8 : xa_d xP 137 8 (.iastore) 1 9 := ⟨by decide +kernel, rfl⟩
theorem e_M_tryCovers_9 : xa_d xP 137 9 (.aload_n 0) 1 10 := ⟨by decide +kernel, rfl⟩
theorem e_M_tryCovers_10 : xa_d xP 137 10 (.getfield 57) 3 13 := ⟨by decide +kernel, rfl⟩
theorem e_M_tryCovers_13 : xa_d xP 137 13 (.iconst 0) 1 14 := ⟨by decide +kernel, rfl⟩
theorem e_M_tryCovers_14 : xa_d xP 137 14 (.iconst (-1)) 1 15 := ⟨by decide +kernel, rfl⟩
theorem e_M_tryCovers_15 : xa_d xP 137 15 (.iastore) 1 16 := ⟨by decide +kernel, rfl⟩
theorem e_M_tryCovers_16 : xa_d xP 137 16 (.iload_n 3) 1 17 := ⟨by decide +kernel, rfl⟩
theorem e_M_tryCovers_17 : xa_db xP 137 17 (.ifCond .lt 124) 3 20 124 141 := ⟨⟨by decide +kernel, rfl⟩, rfl⟩
theorem e_M_tryCovers_20 : xa_d xP 137 20 (.iload_n 1) 1 21 := ⟨by decide +kernel, rfl⟩
theorem e_M_tryCovers_21 : xa_d xP 137 21 (.aload_n 0) 1 22 := ⟨by decide +kernel, rfl⟩
theorem e_M_tryCovers_22 : xa_d xP 137 22 (.getfield 60) 3 25 := ⟨by decide +kernel, rfl⟩
theorem e_M_tryCovers_25 : xa_d xP 137 25 (.iload_n 3) 1 26 := ⟨by decide +kernel, rfl⟩
theorem e_M_tryCovers_26 : xa_d xP 137 26 (.iaload) 1 27 := ⟨by decide +kernel, rfl⟩
theorem e_M_tryCovers_27 : xa_d xP 137 27 (.invokestatic 168) 3 30 := ⟨by decide +kernel, rfl⟩
theorem e_M_tryCovers_30 : xa_d xP 137 30 (.istore 4) 2 32 := ⟨by decide +kernel, rfl⟩
theorem e_M_tryCovers_32 : xa_d xP 137 32 (.aload_n 0) 1 33 := ⟨by decide +kernel, rfl⟩
theorem e_M_tryCovers_33 : xa_d xP 137 33 (.getfield 57) 3 36 := ⟨by decide +kernel, rfl⟩
theorem e_M_tryCovers_36 : xa_d xP 137 36 (.iload_n 3) 1 37 := ⟨by decide +kernel, rfl⟩
theorem e_M_tryCovers_37 : xa_d xP 137 37 (.iload 4) 2 39 := ⟨by decide +kernel, rfl⟩
theorem e_M_tryCovers_39 : xa_db xP 137 39 (.ifCond .ge 7) 3 42 7 46 := ⟨⟨by decide +kernel, rfl⟩, rfl⟩
theorem e_M_tryCovers_42 : xa_d xP 137 42 (.iconst (-1)) 1 43 := ⟨by decide +kernel, rfl⟩
theorem e_M_tryCovers_43 : xa_db xP 137 43 (.goto 15) 3 46 15 58 := ⟨⟨by decide +kernel, rfl⟩, rfl⟩
theorem e_M_tryCovers_46 : xa_d xP 137 46 (.aload_n 0) 1 47 := ⟨by decide +kernel, rfl⟩
theorem e_M_tryCovers_47 : xa_d xP 137 47 (.aload_n 0) 1 48 := ⟨by decide +kernel, rfl⟩
theorem e_M_tryCovers_48 : xa_d xP 137 48 (.getfield 57) 3 51 := ⟨by decide +kernel, rfl⟩
theorem e_M_tryCovers_51 : xa_d xP 137 51 (.iload_n 3) 1 52 := ⟨by decide +kernel, rfl⟩
theorem e_M_tryCovers_52 : xa_d xP 137 52 (.iaload) 1 53 := ⟨by decide +kernel, rfl⟩
theorem e_M_tryCovers_53 : xa_d xP 137 53 (.iload 4) 2 55 := ⟨by decide +kernel, rfl⟩
theorem e_M_tryCovers_55 : xa_d xP 137 55 (.invokevirtual 171) 3 58 := ⟨by decide +kernel, rfl⟩
theorem e_M_tryCovers_58 : xa_d xP 137 58 (.iastore) 1 59 := ⟨by decide +kernel, rfl⟩
theorem e_M_tryCovers_59 : xa_d xP 137 59 (.aload_n 0) 1 60 := ⟨by decide +kernel, rfl⟩
theorem e_M_tryCovers_60 : xa_d xP 137 60 (.getfield 57) 3 63 := ⟨by decide +kernel, rfl⟩
theorem e_M_tryCovers_63 : xa_d xP 137 63 (.iload_n 3) 1 64 := ⟨by decide +kernel, rfl⟩
theorem e_M_tryCovers_64 : xa_d xP 137 64 (.iaload) 1 65 := ⟨by decide +kernel, rfl⟩
theorem e_M_tryCovers_65 : xa_db xP 137 65 (.ifCond .ge 9) 3 68 9 74 := ⟨⟨by decide +kernel, rfl⟩, rfl⟩
theorem e_M_tryCovers_68 : xa_d xP 137 68 (.iinc 3 (-1)) 3 71 := ⟨by decide +kernel, rfl⟩
theorem e_M_tryCovers_71 : xa_db xP 137 71 (.goto 67) 3 74 67 138 := ⟨⟨by decide +kernel, rfl⟩, rfl⟩
theorem e_M_tryCovers_74 : xa_d xP 137 74 (.aload_n 0) 1 75 := ⟨by decide +kernel, rfl⟩
theorem e_M_tryCovers_75 : xa_d xP 137 75 (.getfield 60) 3 78 := ⟨by decide +kernel, rfl⟩
theorem e_M_tryCovers_78 : xa_d xP 137 78 (.iload_n 3) 1 79 := ⟨by decide +kernel, rfl⟩
theorem e_M_tryCovers_79 : xa_d xP 137 79 (.iaload) 1 80 := ⟨by decide +kernel, rfl⟩
theorem e_M_tryCovers_80 : xa_d xP 137 80 (.aload_n 0) 1 81 := ⟨by decide +kernel, rfl⟩
theorem e_M_tryCovers_81 : xa_d xP 137 81 (.getfield 51) 3 84 := ⟨by decide +kernel, rfl⟩
theorem e_M_tryCovers_84 : xa_d xP 137 84 (.aload_n 0) 1 85 := ⟨by decide +kernel, rfl⟩
theorem e_M_tryCovers_85 : xa_d xP 137 85 (.getfield 57) 3 88 := ⟨by decide +kernel, rfl⟩
theorem e_M_tryCovers_88 : xa_d xP 137 88 (.iload_n 3) 1 89 := ⟨by decide +kernel, rfl⟩
theorem e_M_tryCovers_89 : xa_d xP 137 89 (.iaload) 1 90 := ⟨by decide +kernel, rfl⟩
theorem e_M_tryCovers_90 : xa_d xP 137 90 (.iaload) 1 91 := ⟨by decide +kernel, rfl⟩
theorem e_M_tryCovers_91 : xa_d xP 137 91 (.ior) 1 92 := ⟨by decide +kernel, rfl⟩
theorem e_M_tryCovers_92 : xa_d xP 137 92 (.istore 5) 2 94 := ⟨by decide +kernel, rfl⟩
theorem e_M_tryCovers_94 : xa_d xP 137 94 (.iload_n 1) 1 95 := ⟨by decide +kernel, rfl⟩
theorem e_M_tryCovers_95 : xa_d xP 137 95 (.iload 5) 2 97 := ⟨by decide +kernel, rfl⟩
theorem e_M_tryCovers_97 : xa_d xP 137 97 (.invokestatic 168) 3 100 := ⟨by decide +kernel, rfl⟩
theorem e_M_tryCovers_100 : xa_db xP 137 100 (.ifCond .ge 13) 3 103 13 113 := ⟨⟨by decide +kernel, rfl⟩, rfl⟩
theorem e_M_tryCovers_103 : xa_d xP 137 103 (.aload_n 0) 1 104 := ⟨by decide +kernel, rfl⟩
theorem e_M_tryCovers_104 : xa_d xP 137 104 (.iload_n 3) 1 105 := ⟨by decide +kernel, rfl⟩
theorem e_M_tryCovers_105 : xa_d xP 137 105 (.iconst 1) 1 106 := ⟨by decide +kernel, rfl⟩
theorem e_M_tryCovers_106 : xa_d xP 137 106 (.iadd) 1 107 := ⟨by decide +kernel, rfl⟩
theorem e_M_tryCovers_107 : xa_d xP 137 107 (.invokevirtual 174) 3 110 := ⟨by decide +kernel, rfl⟩
theorem e_M_tryCovers_110 : xa_db xP 137 110 (.goto 28) 3 113 28 138 := ⟨⟨by decide +kernel, rfl⟩, rfl⟩
theorem e_M_tryCovers_113 : xa_d xP 137 113 (.iload_n 3) 1 114 := ⟨by decide +kernel, rfl⟩
theorem e_M_tryCovers_114 : xa_d xP 137 114 (.iconst 1) 1 115 := ⟨by decide +kernel, rfl⟩
theorem e_M_tryCovers_115 : xa_d xP 137 115 (.iadd) 1 116 := ⟨by decide +kernel, rfl⟩
theorem e_M_tryCovers_116 : xa_d xP 137 116 (.iload_n 2) 1 117 := ⟨by decide +kernel, rfl⟩
theorem e_M_tryCovers_117 : xa_db xP 137 117 (.if_icmp .ge 21) 3 120 21 138 := ⟨⟨by decide +kernel, rfl⟩, rfl⟩
theorem e_M_tryCovers_120 : xa_d xP 137 120 (.iinc 3 1) 3 123 := ⟨by decide +kernel, rfl⟩
theorem e_M_tryCovers_123 : xa_d xP 137 123 (.aload_n 0) 1 124 := ⟨by decide +kernel, rfl⟩
theorem e_M_tryCovers_124 : xa_d xP 137 124 (.getfield 60) 3 127 := ⟨by decide +kernel, rfl⟩
theorem e_M_tryCovers_127 : xa_d xP 137 127 (.iload_n 3) 1 128 := ⟨by decide +kernel, rfl⟩
theorem e_M_tryCovers_128 : xa_d xP 137 128 (.iload 5) 2 130 := ⟨by decide +kernel, rfl⟩
theorem e_M_tryCovers_130 : xa_d xP 137 130 (.iastore) 1 131 := ⟨by decide +kernel, rfl⟩
theorem e_M_tryCovers_131 : xa_d xP 137 131 (.aload_n 0) 1 132 := ⟨by decide +kernel, rfl⟩
theorem e_M_tryCovers_132 : xa_d xP 137 132 (.getfield 57) 3 135 := ⟨by decide +kernel, rfl⟩
theorem e_M_tryCovers_135 : xa_d xP 137 135 (.iload_n 3) 1 136 := ⟨by decide +kernel, rfl⟩
theorem e_M_tryCovers_136 : xa_d xP 137 136 (.iconst (-1)) 1 137 := ⟨by decide +kernel, rfl⟩
theorem e_M_tryCovers_137 : xa_d xP 137 137 (.iastore) 1 138 := ⟨by decide +kernel, rfl⟩
theorem e_M_tryCovers_138 : xa_db xP 137 138 (.goto (-122)) 3 141 (-122) 16 := ⟨⟨by decide +kernel, rfl⟩, rfl⟩
theorem e_M_tryCovers_141 : xa_d xP 137 141 (.return_) 1 142 := ⟨by decide +kernel, rfl⟩
theorem e_M_open_0 : xa_d xP 138 0 (.iconst 0) 1 1 := ⟨by decide +kernel, rfl⟩
theorem e_M_open_1 : xa_d xP 138 1 (.istore_n 2) 1 2 := ⟨by decide +kernel, rfl⟩
theorem e_M_open_2 : xa_d xP 138 2 (.iload_n 2) 1 3 := ⟨by decide +kernel, rfl⟩
theorem e_M_open_3 : xa_d xP 138 3 (.bipush 32) 2 5 := ⟨by decide +kernel, rfl⟩
theorem e_M_open_5 : xa_db xP 138 5 (.if_icmp .ge 24) 3 8 24 29 := ⟨⟨by decide +kernel, rfl⟩, rfl⟩
theorem e_M_open_8 : xa_d xP 138 8 (.iload_n 0) 1 9 := ⟨by decide +kernel, rfl⟩
theorem e_M_open_9 : xa_d xP 138 9 (.iload_n 1) 1 10 := ⟨by decide +kernel, rfl⟩
theorem e_M_open_10 : xa_d xP 138 10 (.iconst (-1)) 1 11 := ⟨by decide +kernel, rfl⟩
theorem e_M_open_11 : xa_d xP 138 11 (.ixor) 1 12 := ⟨by decide +kernel, rfl⟩
theorem e_M_open_12 : xa_d xP 138 12 (.iand) 1 13 := ⟨by decide +kernel, rfl⟩
theorem e_M_open_13 : xa_d xP 138 13 (.iload_n 2) 1 14 := ⟨by decide +kernel, rfl⟩
theorem e_M_open_14 : xa_d xP 138 14 (.ishr) 1 15 := ⟨by decide +kernel, rfl⟩
theorem e_M_open_15 : xa_d xP 138 15 (.iconst 1) 1 16 := ⟨by decide +kernel, rfl⟩
theorem e_M_open_16 : xa_d xP 138 16 (.iand) 1 17 := ⟨by decide +kernel, rfl⟩
theorem e_M_open_17 : xa_d xP 138 17 (.iconst 1) 1 18 := ⟨by decide +kernel, rfl⟩
theorem e_M_open_18 : xa_db xP 138 18 (.if_icmp .ne 5) 3 21 5 23 := ⟨⟨by decide +kernel, rfl⟩, rfl⟩
theorem e_M_open_21 : xa_d xP 138 21 (.iload_n 2) 1 22 := ⟨by decide +kernel, rfl⟩
theorem e_M_open_22 : xa_d xP 138 22 (.ireturn) 1 23 := ⟨by decide +kernel, rfl⟩
theorem e_M_open_23 : xa_d xP 138 23 (.iinc 2 1) 3 26 := ⟨by decide +kernel, rfl⟩
theorem e_M_open_26 : xa_db xP 138 26 (.goto (-24)) 3 29 (-24) 2 := ⟨⟨by decide +kernel, rfl⟩, rfl⟩
theorem e_M_open_29 : xa_d xP 138 29 (.iconst (-1)) 1 30 := ⟨by decide +kernel, rfl⟩
theorem e_M_open_30 : xa_d xP 138 30 (.ireturn) 1 31 := ⟨by decide +kernel, rfl⟩
theorem e_M_nextPrime_0 : xa_d xP 139 0 (.aload_n 0) 1 1 := ⟨by decide +kernel, rfl⟩
theorem e_M_nextPrime_1 : xa_d xP 139 1 (.getfield 84) 3 4 := ⟨by decide +kernel, rfl⟩
theorem e_M_nextPrime_4 : xa_d xP 139 4 (.invokestatic 152) 3 7 := ⟨by decide +kernel, rfl⟩
theorem e_M_nextPrime_7 : xa_d xP 139 7 (.istore_n 3) 1 8 := ⟨by decide +kernel, rfl⟩
theorem e_M_nextPrime_8 : xa_d xP 139 8 (.iload_n 1) 1 9 := ⟨by decide +kernel, rfl⟩
theorem e_M_nextPrime_9 : xa_d xP 139 9 (.iconst 1) 1 10 := ⟨by decide +kernel, rfl⟩
theorem e_M_nextPrime_10 : xa_d xP 139 10 (.iadd) 1 11 := ⟨by decide +kernel, rfl⟩
theorem e_M_nextPrime_11 : xa_d xP 139 11 (.istore 4) 2 13 := ⟨by decide +kernel, rfl⟩
theorem e_M_nextPrime_13 : xa_d xP 139 13 (.iload 4) 2 15 := ⟨by decide +kernel, rfl⟩
theorem e_M_nextPrime_15 : xa_d xP 139 15 (.iload_n 3) 1 16 := ⟨by decide +kernel, rfl⟩
theorem e_M_nextPrime_16 : xa_db xP 139 16 (.if_icmp .ge 37) 3 19 37 53 := ⟨⟨by decide +kernel, rfl⟩, rfl⟩
theorem e_M_nextPrime_19 : xa_d xP 139 19 (.aload_n 0) 1 20 := ⟨by decide +kernel, rfl⟩
theorem e_M_nextPrime_20 : xa_d xP 139 20 (.getfield 54) 3 23 := ⟨by decide +kernel, rfl⟩
theorem e_M_nextPrime_23 : xa_d xP 139 23 (.iload 4) 2 25 := ⟨by decide +kernel, rfl⟩
theorem e_M_nextPrime_25 : xa_d xP 139 25 (.baload) 1 26 := ⟨by decide +kernel, rfl⟩
theorem e_M_nextPrime_26 : xa_db xP 139 26 (.ifCond .eq 21) 3 29 21 47 := ⟨⟨by decide +kernel, rfl⟩, rfl⟩
theorem e_M_nextPrime_29 : xa_d xP 139 29 (.aload_n 0) 1 30 := ⟨by decide +kernel, rfl⟩
theorem e_M_nextPrime_30 : xa_d xP 139 30 (.getfield 51) 3 33 := ⟨by decide +kernel, rfl⟩
theorem e_M_nextPrime_33 : xa_d xP 139 33 (.iload 4) 2 35 := ⟨by decide +kernel, rfl⟩
theorem e_M_nextPrime_35 : xa_d xP 139 35 (.iaload) 1 36 := ⟨by decide +kernel, rfl⟩
theorem e_M_nextPrime_36 : xa_d xP 139 36 (.iload_n 2) 1 37 := ⟨by decide +kernel, rfl⟩
theorem e_M_nextPrime_37 : xa_d xP 139 37 (.ishr) 1 38 := ⟨by decide +kernel, rfl⟩
theorem e_M_nextPrime_38 : xa_d xP 139 38 (.iconst 1) 1 39 := ⟨by decide +kernel, rfl⟩
theorem e_M_nextPrime_39 : xa_d xP 139 39 (.iand) 1 40 := ⟨by decide +kernel, rfl⟩
theorem e_M_nextPrime_40 : xa_d xP 139 40 (.iconst 1) 1 41 := ⟨by decide +kernel, rfl⟩
theorem e_M_nextPrime_41 : xa_db xP 139 41 (.if_icmp .ne 6) 3 44 6 47 := ⟨⟨by decide +kernel, rfl⟩, rfl⟩
theorem e_M_nextPrime_44 : xa_d xP 139 44 (.iload 4) 2 46 := ⟨by decide +kernel, rfl⟩
theorem e_M_nextPrime_46 : xa_d xP 139 46 (.ireturn) 1 47 := ⟨by decide +kernel, rfl⟩
theorem e_M_nextPrime_47 : xa_d xP 139 47 (.iinc 4 1) 3 50 := ⟨by decide +kernel, rfl⟩
theorem e_M_nextPrime_50 : xa_db xP 139 50 (.goto (-37)) 3 53 (-37) 13 := ⟨⟨by decide +kernel, rfl⟩, rfl⟩
theorem e_M_nextPrime_53 : xa_d xP 139 53 (.iconst (-1)) 1 54 := ⟨by decide +kernel, rfl⟩
theorem e_M_nextPrime_54 : xa_d xP 139 54 (.ireturn) 1 55 := ⟨by decide +kernel, rfl⟩
theorem e_M_judge_0 : xa_d xP 140 0 (.iconst 0) 1 1 := ⟨by decide +kernel, rfl⟩
theorem e_M_judge_1 : xa_d xP 140 1 (.istore_n 2) 1 2 := ⟨by decide +kernel, rfl⟩
theorem e_M_judge_2 : xa_d xP 140 2 (.iconst 0) 1 3 := ⟨by decide +kernel, rfl⟩
theorem e_M_judge_3 : xa_d xP 140 3 (.istore_n 3) 1 4 := ⟨by decide +kernel, rfl⟩
theorem e_M_judge_4 : xa_d xP 140 4 (.iload_n 3) 1 5 := ⟨by decide +kernel, rfl⟩
theorem e_M_judge_5 : xa_d xP 140 5 (.iload_n 1) 1 6 := ⟨by decide +kernel, rfl⟩
theorem e_M_judge_6 : xa_db xP 140 6 (.if_icmp .ge 83) 3 9 83 89 := ⟨⟨by decide +kernel, rfl⟩, rfl⟩
theorem e_M_judge_9 : xa_d xP 140 9 (.iload_n 2) 1 10 := ⟨by decide +kernel, rfl⟩
theorem e_M_judge_10 : xa_d xP 140 10 (.aload_n 0) 1 11 := ⟨by decide +kernel, rfl⟩
theorem e_M_judge_11 : xa_d xP 140 11 (.aload_n 0) 1 12 := ⟨by decide +kernel, rfl⟩
theorem e_M_judge_12 : xa_d xP 140 12 (.getfield 57) 3 15 := ⟨by decide +kernel, rfl⟩
theorem e_M_judge_15 : xa_d xP 140 15 (.iload_n 3) 1 16 := ⟨by decide +kernel, rfl⟩
theorem e_M_judge_16 : xa_d xP 140 16 (.iaload) 1 17 := ⟨by decide +kernel, rfl⟩
theorem e_M_judge_17 : xa_d xP 140 17 (.invokevirtual 158) 3 20 := ⟨by decide +kernel, rfl⟩
theorem e_M_judge_20 : xa_d xP 140 20 (.iadd) 1 21 := ⟨by decide +kernel, rfl⟩
theorem e_M_judge_21 : xa_d xP 140 21 (.istore_n 2) 1 22 := ⟨by decide +kernel, rfl⟩
theorem e_M_judge_22 : xa_d xP 140 22 (.iload_n 3) 1 23 := ⟨by decide +kernel, rfl⟩
theorem e_M_judge_23 : xa_d xP 140 23 (.istore 4) 2 25 := ⟨by decide +kernel, rfl⟩
theorem e_M_judge_25 : xa_d xP 140 25 (.iload 4) 2 27 := ⟨by decide +kernel, rfl⟩
theorem e_M_judge_27 : xa_db xP 140 27 (.ifCond .le 43) 3 30 43 70 := ⟨⟨by decide +kernel, rfl⟩, rfl⟩
theorem e_M_judge_30 : xa_d xP 140 30 (.aload_n 0) 1 31 := ⟨by decide +kernel, rfl⟩
theorem e_M_judge_31 : xa_d xP 140 31 (.getfield 63) 3 34 := ⟨by decide +kernel, rfl⟩
theorem e_M_judge_34 : xa_d xP 140 34 (.iload 4) 2 36 := ⟨by decide +kernel, rfl⟩
theorem e_M_judge_36 : xa_d xP 140 36 (.iconst 1) 1 37 := ⟨by decide +kernel, rfl⟩
theorem e_M_judge_37 : xa_d xP 140 37 (.isub) 1 38 := ⟨by decide +kernel, rfl⟩
theorem e_M_judge_38 : xa_d xP 140 38 (.iaload) 1 39 := ⟨by decide +kernel, rfl⟩
theorem e_M_judge_39 : xa_d xP 140 39 (.aload_n 0) 1 40 := ⟨by decide +kernel, rfl⟩
theorem e_M_judge_40 : xa_d xP 140 40 (.getfield 57) 3 43 := ⟨by decide +kernel, rfl⟩
theorem e_M_judge_43 : xa_d xP 140 43 (.iload_n 3) 1 44 := ⟨by decide +kernel, rfl⟩
theorem e_M_judge_44 : xa_d xP 140 44 (.iaload) 1 45 := ⟨by decide +kernel, rfl⟩
theorem e_M_judge_45 : xa_db xP 140 45 (.if_icmp .le 25) 3 48 25 70 := ⟨⟨by decide +kernel, rfl⟩, rfl⟩
theorem e_M_judge_48 : xa_d xP 140 48 (.aload_n 0) 1 49 := ⟨by decide +kernel, rfl⟩
theorem e_M_judge_49 : xa_d xP 140 49 (.getfield 63) 3 52 := ⟨by decide +kernel, rfl⟩
theorem e_M_judge_52 : xa_d xP 140 52 (.iload 4) 2 54 := ⟨by decide +kernel, rfl⟩
theorem e_M_judge_54 : xa_d xP 140 54 (.aload_n 0) 1 55 := ⟨by decide +kernel, rfl⟩
theorem e_M_judge_55 : xa_d xP 140 55 (.getfield 63) 3 58 := ⟨by decide +kernel, rfl⟩
theorem e_M_judge_58 : xa_d xP 140 58 (.iload 4) 2 60 := ⟨by decide +kernel, rfl⟩
theorem e_M_judge_60 : xa_d xP 140 60 (.iconst 1) 1 61 := ⟨by decide +kernel, rfl⟩
theorem e_M_judge_61 : xa_d xP 140 61 (.isub) 1 62 := ⟨by decide +kernel, rfl⟩
theorem e_M_judge_62 : xa_d xP 140 62 (.iaload) 1 63 := ⟨by decide +kernel, rfl⟩
theorem e_M_judge_63 : xa_d xP 140 63 (.iastore) 1 64 := ⟨by decide +kernel, rfl⟩
theorem e_M_judge_64 : xa_d xP 140 64 (.iinc 4 (-1)) 3 67 := ⟨by decide +kernel, rfl⟩
theorem e_M_judge_67 : xa_db xP 140 67 (.goto (-42)) 3 70 (-42) 25 := ⟨⟨by decide +kernel, rfl⟩, rfl⟩
theorem e_M_judge_70 : xa_d xP 140 70 (.aload_n 0) 1 71 := ⟨by decide +kernel, rfl⟩
theorem e_M_judge_71 : xa_d xP 140 71 (.getfield 63) 3 74 := ⟨by decide +kernel, rfl⟩
theorem e_M_judge_74 : xa_d xP 140 74 (.iload 4) 2 76 := ⟨by decide +kernel, rfl⟩
theorem e_M_judge_76 : xa_d xP 140 76 (.aload_n 0) 1 77 := ⟨by decide +kernel, rfl⟩
theorem e_M_judge_77 : xa_d xP 140 77 (.getfield 57) 3 80 := ⟨by decide +kernel, rfl⟩
theorem e_M_judge_80 : xa_d xP 140 80 (.iload_n 3) 1 81 := ⟨by decide +kernel, rfl⟩
theorem e_M_judge_81 : xa_d xP 140 81 (.iaload) 1 82 := ⟨by decide +kernel, rfl⟩
theorem e_M_judge_82 : xa_d xP 140 82 (.iastore) 1 83 := ⟨by decide +kernel, rfl⟩
theorem e_M_judge_83 : xa_d xP 140 83 (.iinc 3 1) 3 86 := ⟨by decide +kernel, rfl⟩
theorem e_M_judge_86 : xa_db xP 140 86 (.goto (-82)) 3 89 (-82) 4 := ⟨⟨by decide +kernel, rfl⟩, rfl⟩
theorem e_M_judge_89 : xa_d xP 140 89 (.aload_n 0) 1 90 := ⟨by decide +kernel, rfl⟩
theorem e_M_judge_90 : xa_d xP 140 90 (.getfield 161) 3 93 := ⟨by decide +kernel, rfl⟩
theorem e_M_judge_93 : xa_db xP 140 93 (.ifCond .eq 11) 3 96 11 104 := ⟨⟨by decide +kernel, rfl⟩, rfl⟩
theorem e_M_judge_96 : xa_d xP 140 96 (.iload_n 2) 1 97 := ⟨by decide +kernel, rfl⟩
theorem e_M_judge_97 : xa_d xP 140 97 (.aload_n 0) 1 98 := ⟨by decide +kernel, rfl⟩
theorem e_M_judge_98 : xa_d xP 140 98 (.getfield 165) 3 101 := ⟨by decide +kernel, rfl⟩
theorem e_M_judge_101 : xa_db xP 140 101 (.if_icmp .ge 7) 3 104 7 108 := ⟨⟨by decide +kernel, rfl⟩, rfl⟩
theorem e_M_judge_104 : xa_d xP 140 104 (.iconst 1) 1 105 := ⟨by decide +kernel, rfl⟩
theorem e_M_judge_105 : xa_db xP 140 105 (.goto 4) 3 108 4 109 := ⟨⟨by decide +kernel, rfl⟩, rfl⟩
theorem e_M_judge_108 : xa_d xP 140 108 (.iconst 0) 1 109 := ⟨by decide +kernel, rfl⟩
theorem e_M_judge_109 : xa_d xP 140 109 (.istore_n 3) 1 110 := ⟨by decide +kernel, rfl⟩
theorem e_M_judge_110 : xa_d xP 140 110 (.aload_n 0) 1 111 := ⟨by decide +kernel, rfl⟩
theorem e_M_judge_111 : xa_d xP 140 111 (.getfield 161) 3 114 := ⟨by decide +kernel, rfl⟩
theorem e_M_judge_114 : xa_db xP 140 114 (.ifCond .eq 68) 3 117 68 182 := ⟨⟨by decide +kernel, rfl⟩, rfl⟩
theorem e_M_judge_117 : xa_d xP 140 117 (.iload_n 2) 1 118 := ⟨by decide +kernel, rfl⟩
theorem e_M_judge_118 : xa_d xP 140 118 (.aload_n 0) 1 119 := ⟨by decide +kernel, rfl⟩
theorem e_M_judge_119 : xa_d xP 140 119 (.getfield 165) 3 122 := ⟨by decide +kernel, rfl⟩
theorem e_M_judge_122 : xa_db xP 140 122 (.if_icmp .ne 60) 3 125 60 182 := ⟨⟨by decide +kernel, rfl⟩, rfl⟩
theorem e_M_judge_125 : xa_d xP 140 125 (.iconst 0) 1 126 := ⟨by decide +kernel, rfl⟩
theorem e_M_judge_126 : xa_d xP 140 126 (.istore 4) 2 128 := ⟨by decide +kernel, rfl⟩
theorem e_M_judge_128 : xa_d xP 140 128 (.iload 4) 2 130 := ⟨by decide +kernel, rfl⟩
theorem e_M_judge_130 : xa_d xP 140 130 (.iload_n 1) 1 131 := ⟨by decide +kernel, rfl⟩
theorem e_M_judge_131 : xa_d xP 140 131 (.iconst 1) 1 132 := ⟨by decide +kernel, rfl⟩
theorem e_M_judge_132 : xa_d xP 140 132 (.isub) 1 133 := ⟨by decide +kernel, rfl⟩
theorem e_M_judge_133 : xa_db xP 140 133 (.if_icmp .ge 26) 3 136 26 159 := ⟨⟨by decide +kernel, rfl⟩, rfl⟩
theorem e_M_judge_136 : xa_d xP 140 136 (.aload_n 0) 1 137 := ⟨by decide +kernel, rfl⟩
theorem e_M_judge_137 : xa_d xP 140 137 (.getfield 63) 3 140 := ⟨by decide +kernel, rfl⟩
theorem e_M_judge_140 : xa_d xP 140 140 (.iload 4) 2 142 := ⟨by decide +kernel, rfl⟩
theorem e_M_judge_142 : xa_d xP 140 142 (.iaload) 1 143 := ⟨by decide +kernel, rfl⟩
theorem e_M_judge_143 : xa_d xP 140 143 (.aload_n 0) 1 144 := ⟨by decide +kernel, rfl⟩
theorem e_M_judge_144 : xa_d xP 140 144 (.getfield 66) 3 147 := ⟨by decide +kernel, rfl⟩
theorem e_M_judge_147 : xa_d xP 140 147 (.iload 4) 2 149 := ⟨by decide +kernel, rfl⟩
theorem e_M_judge_149 : xa_d xP 140 149 (.iaload) 1 150 := ⟨by decide +kernel, rfl⟩
theorem e_M_judge_150 : xa_db xP 140 150 (.if_icmp .ne 9) 3 153 9 159 := ⟨⟨by decide +kernel, rfl⟩, rfl⟩
theorem e_M_judge_153 : xa_d xP 140 153 (.iinc 4 1) 3 156 := ⟨by decide +kernel, rfl⟩
theorem e_M_judge_156 : xa_db xP 140 156 (.goto (-28)) 3 159 (-28) 128 := ⟨⟨by decide +kernel, rfl⟩, rfl⟩
theorem e_M_judge_159 : xa_d xP 140 159 (.aload_n 0) 1 160 := ⟨by decide +kernel, rfl⟩
theorem e_M_judge_160 : xa_d xP 140 160 (.getfield 63) 3 163 := ⟨by decide +kernel, rfl⟩
theorem e_M_judge_163 : xa_d xP 140 163 (.iload 4) 2 165 := ⟨by decide +kernel, rfl⟩
theorem e_M_judge_165 : xa_d xP 140 165 (.iaload) 1 166 := ⟨by decide +kernel, rfl⟩
theorem e_M_judge_166 : xa_d xP 140 166 (.aload_n 0) 1 167 := ⟨by decide +kernel, rfl⟩
theorem e_M_judge_167 : xa_d xP 140 167 (.getfield 66) 3 170 := ⟨by decide +kernel, rfl⟩
theorem e_M_judge_170 : xa_d xP 140 170 (.iload 4) 2 172 := ⟨by decide +kernel, rfl⟩
theorem e_M_judge_172 : xa_d xP 140 172 (.iaload) 1 173 := ⟨by decide +kernel, rfl⟩
theorem e_M_judge_173 : xa_db xP 140 173 (.if_icmp .ge 7) 3 176 7 180 := ⟨⟨by decide +kernel, rfl⟩, rfl⟩
theorem e_M_judge_176 : xa_d xP 140 176 (.iconst 1) 1 177 := ⟨by decide +kernel, rfl⟩
theorem e_M_judge_177 : xa_db xP 140 177 (.goto 4) 3 180 4 181 := ⟨⟨by decide +kernel, rfl⟩, rfl⟩
theorem e_M_judge_180 : xa_d xP 140 180 (.iconst 0) 1 181 := ⟨by decide +kernel, rfl⟩
theorem e_M_judge_181 : xa_d xP 140 181 (.istore_n 3) 1 182 := ⟨by decide +kernel, rfl⟩
theorem e_M_judge_182 : xa_d xP 140 182 (.iload_n 3) 1 183 := ⟨by decide +kernel, rfl⟩
theorem e_M_judge_183 : xa_db xP 140 183 (.ifCond .eq 42) 3 186 42 225 := ⟨⟨by decide +kernel, rfl⟩, rfl⟩
theorem e_M_judge_186 : xa_d xP 140 186 (.aload_n 0) 1 187 := ⟨by decide +kernel, rfl⟩
theorem e_M_judge_187 : xa_d xP 140 187 (.iconst 1) 1 188 := ⟨by decide +kernel, rfl⟩
theorem e_M_judge_188 : xa_d xP 140 188 (.putfield 161) 3 191 := ⟨by decide +kernel, rfl⟩
theorem e_M_judge_191 : xa_d xP 140 191 (.aload_n 0) 1 192 := ⟨by decide +kernel, rfl⟩
theorem e_M_judge_192 : xa_d xP 140 192 (.iload_n 2) 1 193 := ⟨by decide +kernel, rfl⟩
theorem e_M_judge_193 : xa_d xP 140 193 (.putfield 165) 3 196 := ⟨by decide +kernel, rfl⟩
theorem e_M_judge_196 : xa_d xP 140 196 (.iconst 0) 1 197 := ⟨by decide +kernel, rfl⟩
theorem e_M_judge_197 : xa_d xP 140 197 (.istore 4) 2 199 := ⟨by decide +kernel, rfl⟩
theorem e_M_judge_199 : xa_d xP 140 199 (.iload 4) 2 201 := ⟨by decide +kernel, rfl⟩
theorem e_M_judge_201 : xa_d xP 140 201 (.iload_n 1) 1 202 := ⟨by decide +kernel, rfl⟩
theorem e_M_judge_202 : xa_db xP 140 202 (.if_icmp .ge 23) 3 205 23 225 := ⟨⟨by decide +kernel, rfl⟩, rfl⟩
theorem e_M_judge_205 : xa_d xP 140 205 (.aload_n 0) 1 206 := ⟨by decide +kernel, rfl⟩
theorem e_M_judge_206 : xa_d xP 140 206 (.getfield 66) 3 209 := ⟨by decide +kernel, rfl⟩
theorem e_M_judge_209 : xa_d xP 140 209 (.iload 4) 2 211 := ⟨by decide +kernel, rfl⟩
theorem e_M_judge_211 : xa_d xP 140 211 (.aload_n 0) 1 212 := ⟨by decide +kernel, rfl⟩
theorem e_M_judge_212 : xa_d xP 140 212 (.getfield 63) 3 215 := ⟨by decide +kernel, rfl⟩
theorem e_M_judge_215 : xa_d xP 140 215 (.iload 4) 2 217 := ⟨by decide +kernel, rfl⟩
theorem e_M_judge_217 : xa_d xP 140 217 (.iaload) 1 218 := ⟨by decide +kernel, rfl⟩
theorem e_M_judge_218 : xa_d xP 140 218 (.iastore) 1 219 := ⟨by decide +kernel, rfl⟩
theorem e_M_judge_219 : xa_d xP 140 219 (.iinc 4 1) 3 222 := ⟨by decide +kernel, rfl⟩
theorem e_M_judge_222 : xa_db xP 140 222 (.goto (-23)) 3 225 (-23) 199 := ⟨⟨by decide +kernel, rfl⟩, rfl⟩
theorem e_M_judge_225 : xa_d xP 140 225 (.return_) 1 226 := ⟨by decide +kernel, rfl⟩
theorem e_M_digits_0 : xa_d xP 141 0 (.iconst 0) 1 1 := ⟨by decide +kernel, rfl⟩
theorem e_M_digits_1 : xa_d xP 141 1 (.istore_n 2) 1 2 := ⟨by decide +kernel, rfl⟩
theorem e_M_digits_2 : xa_d xP 141 2 (.iconst 0) 1 3 := ⟨by decide +kernel, rfl⟩
theorem e_M_digits_3 : xa_d xP 141 3 (.istore_n 3) 1 4 := ⟨by decide +kernel, rfl⟩
theorem e_M_digits_4 : xa_d xP 141 4 (.iload_n 3) 1 5 := ⟨by decide +kernel, rfl⟩
theorem e_M_digits_5 : xa_d xP 141 5 (.aload_n 0) 1 6 := ⟨by decide +kernel, rfl⟩
theorem e_M_digits_6 : xa_d xP 141 6 (.getfield 84) 3 9 := ⟨by decide +kernel, rfl⟩
theorem e_M_digits_9 : xa_db xP 141 9 (.if_icmp .ge 29) 3 12 29 38 := ⟨⟨by decide +kernel, rfl⟩, rfl⟩
theorem e_M_digits_12 : xa_d xP 141 12 (.iload_n 1) 1 13 := ⟨by decide +kernel, rfl⟩
theorem e_M_digits_13 : xa_d xP 141 13 (.iload_n 3) 1 14 := ⟨by decide +kernel, rfl⟩
theorem e_M_digits_14 : xa_d xP 141 14 (.invokestatic 152) 3 17 := ⟨by decide +kernel, rfl⟩
theorem e_M_digits_17 : xa_d xP 141 17 (.idiv) 1 18 := ⟨by decide +kernel, rfl⟩
theorem e_M_digits_18 : xa_d xP 141 18 (.iconst 3) 1 19 := ⟨by decide +kernel, rfl⟩
theorem e_M_digits_19 : xa_d xP 141 19 (.irem) 1 20 := ⟨by decide +kernel, rfl⟩
theorem e_M_digits_20 : xa_d xP 141 20 (.iconst 2) 1 21 := ⟨by decide +kernel, rfl⟩
theorem e_M_digits_21 : xa_db xP 141 21 (.if_icmp .ge 9) 3 24 9 30 := ⟨⟨by decide +kernel, rfl⟩, rfl⟩
theorem e_M_digits_24 : xa_d xP 141 24 (.iload_n 2) 1 25 := ⟨by decide +kernel, rfl⟩
theorem e_M_digits_25 : xa_d xP 141 25 (.iconst 1) 1 26 := ⟨by decide +kernel, rfl⟩
theorem e_M_digits_26 : xa_d xP 141 26 (.iadd) 1 27 := ⟨by decide +kernel, rfl⟩
theorem e_M_digits_27 : xa_db xP 141 27 (.goto 4) 3 30 4 31 := ⟨⟨by decide +kernel, rfl⟩, rfl⟩
theorem e_M_digits_30 : xa_d xP 141 30 (.iload_n 2) 1 31 := ⟨by decide +kernel, rfl⟩
theorem e_M_digits_31 : xa_d xP 141 31 (.istore_n 2) 1 32 := ⟨by decide +kernel, rfl⟩
theorem e_M_digits_32 : xa_d xP 141 32 (.iinc 3 1) 3 35 := ⟨by decide +kernel, rfl⟩
theorem e_M_digits_35 : xa_db xP 141 35 (.goto (-31)) 3 38 (-31) 4 := ⟨⟨by decide +kernel, rfl⟩, rfl⟩
theorem e_M_digits_38 : xa_d xP 141 38 (.iload_n 2) 1 39 := ⟨by decide +kernel, rfl⟩
theorem e_M_digits_39 : xa_d xP 141 39 (.ireturn) 1 40 := ⟨by decide +kernel, rfl⟩
theorem e_M_products_0 : xa_d xP 142 0 (.aload_n 0) 1 1 := ⟨by decide +kernel, rfl⟩
theorem e_M_products_1 : xa_d xP 142 1 (.aload_n 0) 1 2 := ⟨by decide +kernel, rfl⟩
theorem e_M_products_2 : xa_d xP 142 2 (.iload_n 1) 1 3 := ⟨by decide +kernel, rfl⟩
theorem e_M_products_3 : xa_d xP 142 3 (.invokevirtual 90) 3 6 := ⟨by decide +kernel, rfl⟩
theorem e_M_products_6 : xa_db xP 142 6 (.ifCond .eq 7) 3 9 7 13 := ⟨⟨by decide +kernel, rfl⟩, rfl⟩
theorem e_M_products_9 : xa_d xP 142 9 (.iconst 1) 1 10 := ⟨by decide +kernel, rfl⟩
theorem e_M_products_10 : xa_db xP 142 10 (.goto 4) 3 13 4 14 := ⟨⟨by decide +kernel, rfl⟩, rfl⟩
theorem e_M_products_13 : xa_d xP 142 13 (.iconst 0) 1 14 := ⟨by decide +kernel, rfl⟩
theorem e_M_products_14 : xa_d xP 142 14 (.putfield 78) 3 17 := ⟨by decide +kernel, rfl⟩
theorem e_M_products_17 : xa_d xP 142 17 (.aload_n 0) 1 18 := ⟨by decide +kernel, rfl⟩
theorem e_M_products_18 : xa_d xP 142 18 (.getfield 78) 3 21 := ⟨by decide +kernel, rfl⟩
theorem e_M_products_21 : xa_db xP 142 21 (.ifCond .le 7) 3 24 7 28 := ⟨⟨by decide +kernel, rfl⟩, rfl⟩
theorem e_M_products_24 : xa_d xP 142 24 (.iconst 0) 1 25 := ⟨by decide +kernel, rfl⟩
theorem e_M_products_25 : xa_db xP 142 25 (.goto 9) 3 28 9 34 := ⟨⟨by decide +kernel, rfl⟩, rfl⟩
theorem e_M_products_28 : xa_d xP 142 28 (.aload_n 0) 1 29 := ⟨by decide +kernel, rfl⟩
theorem e_M_products_29 : xa_d xP 142 29 (.getfield 45) 3 32 := ⟨by decide +kernel, rfl⟩
theorem e_M_products_32 : xa_d xP 142 32 (.iload_n 1) 1 33 := ⟨by decide +kernel, rfl⟩
theorem e_M_products_33 : xa_d xP 142 33 (.iaload) 1 34 := ⟨by decide +kernel, rfl⟩
theorem e_M_products_34 : xa_d xP 142 34 (.ireturn) 1 35 := ⟨by decide +kernel, rfl⟩
theorem e_M_product_0 : xa_d xP 143 0 (.aload_n 0) 1 1 := ⟨by decide +kernel, rfl⟩
theorem e_M_product_1 : xa_d xP 143 1 (.aload_n 0) 1 2 := ⟨by decide +kernel, rfl⟩
theorem e_M_product_2 : xa_d xP 143 2 (.iload_n 1) 1 3 := ⟨by decide +kernel, rfl⟩
theorem e_M_product_3 : xa_d xP 143 3 (.invokevirtual 90) 3 6 := ⟨by decide +kernel, rfl⟩
theorem e_M_product_6 : xa_db xP 143 6 (.ifCond .ne 17) 3 9 17 23 := ⟨⟨by decide +kernel, rfl⟩, rfl⟩
theorem e_M_product_9 : xa_d xP 143 9 (.iload_n 2) 1 10 := ⟨by decide +kernel, rfl⟩
theorem e_M_product_10 : xa_db xP 143 10 (.ifCond .lt 13) 3 13 13 23 := ⟨⟨by decide +kernel, rfl⟩, rfl⟩
theorem e_M_product_13 : xa_d xP 143 13 (.iload_n 2) 1 14 := ⟨by decide +kernel, rfl⟩
theorem e_M_product_14 : xa_d xP 143 14 (.aload_n 0) 1 15 := ⟨by decide +kernel, rfl⟩
theorem e_M_product_15 : xa_d xP 143 15 (.getfield 45) 3 18 := ⟨by decide +kernel, rfl⟩
theorem e_M_product_18 : xa_d xP 143 18 (.iload_n 1) 1 19 := ⟨by decide +kernel, rfl⟩
theorem e_M_product_19 : xa_d xP 143 19 (.iaload) 1 20 := ⟨by decide +kernel, rfl⟩
theorem e_M_product_20 : xa_db xP 143 20 (.if_icmp .lt 7) 3 23 7 27 := ⟨⟨by decide +kernel, rfl⟩, rfl⟩
theorem e_M_product_23 : xa_d xP 143 23 (.iconst 1) 1 24 := ⟨by decide +kernel, rfl⟩
theorem e_M_product_24 : xa_db xP 143 24 (.goto 4) 3 27 4 28 := ⟨⟨by decide +kernel, rfl⟩, rfl⟩
theorem e_M_product_27 : xa_d xP 143 27 (.iconst 0) 1 28 := ⟨by decide +kernel, rfl⟩
theorem e_M_product_28 : xa_d xP 143 28 (.putfield 78) 3 31 := ⟨by decide +kernel, rfl⟩
theorem e_M_product_31 : xa_d xP 143 31 (.aload_n 0) 1 32 := ⟨by decide +kernel, rfl⟩
theorem e_M_product_32 : xa_d xP 143 32 (.getfield 78) 3 35 := ⟨by decide +kernel, rfl⟩
theorem e_M_product_35 : xa_db xP 143 35 (.ifCond .le 7) 3 38 7 42 := ⟨⟨by decide +kernel, rfl⟩, rfl⟩
theorem e_M_product_38 : xa_d xP 143 38 (.iconst 0) 1 39 := ⟨by decide +kernel, rfl⟩
theorem e_M_product_39 : xa_db xP 143 39 (.goto 14) 3 42 14 53 := ⟨⟨by decide +kernel, rfl⟩, rfl⟩
theorem e_M_product_42 : xa_d xP 143 42 (.aload_n 0) 1 43 := ⟨by decide +kernel, rfl⟩
theorem e_M_product_43 : xa_d xP 143 43 (.getfield 48) 3 46 := ⟨by decide +kernel, rfl⟩
theorem e_M_product_46 : xa_d xP 143 46 (.bipush 8) 2 48 := ⟨by decide +kernel, rfl⟩
theorem e_M_product_48 : xa_d xP 143 48 (.iload_n 1) 1 49 := ⟨by decide +kernel, rfl⟩
theorem e_M_product_49 : xa_d xP 143 49 (.imul) 1 50 := ⟨by decide +kernel, rfl⟩
theorem e_M_product_50 : xa_d xP 143 50 (.iload_n 2) 1 51 := ⟨by decide +kernel, rfl⟩
theorem e_M_product_51 : xa_d xP 143 51 (.iadd) 1 52 := ⟨by decide +kernel, rfl⟩
theorem e_M_product_52 : xa_d xP 143 52 (.iaload) 1 53 := ⟨by decide +kernel, rfl⟩
theorem e_M_product_53 : xa_d xP 143 53 (.ireturn) 1 54 := ⟨by decide +kernel, rfl⟩
theorem e_M_append_0 : xa_d xP 144 0 (.aload_n 0) 1 1 := ⟨by decide +kernel, rfl⟩
theorem e_M_append_1 : xa_d xP 144 1 (.aload_n 0) 1 2 := ⟨by decide +kernel, rfl⟩
theorem e_M_append_2 : xa_d xP 144 2 (.iload_n 1) 1 3 := ⟨by decide +kernel, rfl⟩
theorem e_M_append_3 : xa_d xP 144 3 (.invokevirtual 90) 3 6 := ⟨by decide +kernel, rfl⟩
theorem e_M_append_6 : xa_db xP 144 6 (.ifCond .eq 7) 3 9 7 13 := ⟨⟨by decide +kernel, rfl⟩, rfl⟩
theorem e_M_append_9 : xa_d xP 144 9 (.iconst 1) 1 10 := ⟨by decide +kernel, rfl⟩
theorem e_M_append_10 : xa_db xP 144 10 (.goto 47) 3 13 47 57 := ⟨⟨by decide +kernel, rfl⟩, rfl⟩
theorem e_M_append_13 : xa_d xP 144 13 (.aload_n 0) 1 14 := ⟨by decide +kernel, rfl⟩
theorem e_M_append_14 : xa_d xP 144 14 (.getfield 7) 3 17 := ⟨by decide +kernel, rfl⟩
theorem e_M_append_17 : xa_d xP 144 17 (.iload_n 1) 1 18 := ⟨by decide +kernel, rfl⟩
theorem e_M_append_18 : xa_d xP 144 18 (.baload) 1 19 := ⟨by decide +kernel, rfl⟩
theorem e_M_append_19 : xa_db xP 144 19 (.ifCond .ne 18) 3 22 18 37 := ⟨⟨by decide +kernel, rfl⟩, rfl⟩
theorem e_M_append_22 : xa_d xP 144 22 (.iload_n 2) 1 23 := ⟨by decide +kernel, rfl⟩
theorem e_M_append_23 : xa_db xP 144 23 (.ifCond .lt 14) 3 26 14 37 := ⟨⟨by decide +kernel, rfl⟩, rfl⟩
theorem e_M_append_26 : xa_d xP 144 26 (.iload_n 2) 1 27 := ⟨by decide +kernel, rfl⟩
theorem e_M_append_27 : xa_d xP 144 27 (.aload_n 0) 1 28 := ⟨by decide +kernel, rfl⟩
theorem e_M_append_28 : xa_d xP 144 28 (.getfield 84) 3 31 := ⟨by decide +kernel, rfl⟩
theorem e_M_append_31 : xa_d xP 144 31 (.invokestatic 152) 3 34 := ⟨by decide +kernel, rfl⟩
theorem e_M_append_34 : xa_db xP 144 34 (.if_icmp .lt 7) 3 37 7 41 := ⟨⟨by decide +kernel, rfl⟩, rfl⟩
theorem e_M_append_37 : xa_d xP 144 37 (.iconst 2) 1 38 := ⟨by decide +kernel, rfl⟩
theorem e_M_append_38 : xa_db xP 144 38 (.goto 19) 3 41 19 57 := ⟨⟨by decide +kernel, rfl⟩, rfl⟩
theorem e_M_append_41 : xa_d xP 144 41 (.aload_n 0) 1 42 := ⟨by decide +kernel, rfl⟩
theorem e_M_append_42 : xa_d xP 144 42 (.getfield 45) 3 45 := ⟨by decide +kernel, rfl⟩
theorem e_M_append_45 : xa_d xP 144 45 (.iload_n 1) 1 46 := ⟨by decide +kernel, rfl⟩
theorem e_M_append_46 : xa_d xP 144 46 (.iaload) 1 47 := ⟨by decide +kernel, rfl⟩
theorem e_M_append_47 : xa_d xP 144 47 (.bipush 8) 2 49 := ⟨by decide +kernel, rfl⟩
theorem e_M_append_49 : xa_db xP 144 49 (.if_icmp .ne 7) 3 52 7 56 := ⟨⟨by decide +kernel, rfl⟩, rfl⟩
theorem e_M_append_52 : xa_d xP 144 52 (.iconst 3) 1 53 := ⟨by decide +kernel, rfl⟩
theorem e_M_append_53 : xa_db xP 144 53 (.goto 4) 3 56 4 57 := ⟨⟨by decide +kernel, rfl⟩, rfl⟩
theorem e_M_append_56 : xa_d xP 144 56 (.iconst 0) 1 57 := ⟨by decide +kernel, rfl⟩
theorem e_M_append_57 : xa_d xP 144 57 (.putfield 78) 3 60 := ⟨by decide +kernel, rfl⟩
theorem e_M_append_60 : xa_d xP 144 60 (.aload_n 0) 1 61 := ⟨by decide +kernel, rfl⟩
theorem e_M_append_61 : xa_d xP 144 61 (.getfield 78) 3 64 := ⟨by decide +kernel, rfl⟩
theorem e_M_append_64 : xa_db xP 144 64 (.ifCond .le 5) 3 67 5 69 := ⟨⟨by decide +kernel, rfl⟩, rfl⟩
end
section
/-! Decode rows (printed by wip/whole/gen_prog.py). -/
theorem e_M_append_67 : xa_d xP 144 67 (.iconst 0) 1 68 := ⟨by decide +kernel, rfl⟩
theorem e_M_append_68 : xa_d xP 144 68 (.ireturn) 1 69 := ⟨by decide +kernel, rfl⟩
theorem e_M_append_69 : xa_d xP 144 69 (.aload_n 0) 1 70 := ⟨by decide +kernel, rfl⟩
theorem e_M_append_70 : xa_d xP 144 70 (.getfield 48) 3 73 := ⟨by decide +kernel, rfl⟩
theorem e_M_append_73 : xa_d xP 144 73 (.bipush 8) 2 75 := ⟨by decide +kernel, rfl⟩
theorem e_M_append_75 : xa_d xP 144 75 (.iload_n 1) 1 76 := ⟨by decide +kernel, rfl⟩
theorem e_M_append_76 : xa_d xP 144 76 (.imul) 1 77 := ⟨by decide +kernel, rfl⟩
theorem e_M_append_77 : xa_d xP 144 77 (.aload_n 0) 1 78 := ⟨by decide +kernel, rfl⟩
theorem e_M_append_78 : xa_d xP 144 78 (.getfield 45) 3 81 := ⟨by decide +kernel, rfl⟩
theorem e_M_append_81 : xa_d xP 144 81 (.iload_n 1) 1 82 := ⟨by decide +kernel, rfl⟩
theorem e_M_append_82 : xa_d xP 144 82 (.iaload) 1 83 := ⟨by decide +kernel, rfl⟩
theorem e_M_append_83 : xa_d xP 144 83 (.iadd) 1 84 := ⟨by decide +kernel, rfl⟩
theorem e_M_append_84 : xa_d xP 144 84 (.iload_n 2) 1 85 := ⟨by decide +kernel, rfl⟩
theorem e_M_append_85 : xa_d xP 144 85 (.iastore) 1 86 := ⟨by decide +kernel, rfl⟩
theorem e_M_append_86 : xa_d xP 144 86 (.aload_n 0) 1 87 := ⟨by decide +kernel, rfl⟩
theorem e_M_append_87 : xa_d xP 144 87 (.getfield 45) 3 90 := ⟨by decide +kernel, rfl⟩
theorem e_M_append_90 : xa_d xP 144 90 (.iload_n 1) 1 91 := ⟨by decide +kernel, rfl⟩
theorem e_M_append_91 : xa_d xP 144 91 (.dup2) 1 92 := ⟨by decide +kernel, rfl⟩
theorem e_M_append_92 : xa_d xP 144 92 (.iaload) 1 93 := ⟨by decide +kernel, rfl⟩
theorem e_M_append_93 : xa_d xP 144 93 (.iconst 1) 1 94 := ⟨by decide +kernel, rfl⟩
theorem e_M_append_94 : xa_d xP 144 94 (.iadd) 1 95 := ⟨by decide +kernel, rfl⟩
theorem e_M_append_95 : xa_d xP 144 95 (.iastore) 1 96 := ⟨by decide +kernel, rfl⟩
theorem e_M_append_96 : xa_d xP 144 96 (.aload_n 0) 1 97 := ⟨by decide +kernel, rfl⟩
theorem e_M_append_97 : xa_d xP 144 97 (.getfield 45) 3 100 := ⟨by decide +kernel, rfl⟩
theorem e_M_append_100 : xa_d xP 144 100 (.iload_n 1) 1 101 := ⟨by decide +kernel, rfl⟩
theorem e_M_append_101 : xa_d xP 144 101 (.iaload) 1 102 := ⟨by decide +kernel, rfl⟩
theorem e_M_append_102 : xa_d xP 144 102 (.iconst 1) 1 103 := ⟨by decide +kernel, rfl⟩
theorem e_M_append_103 : xa_d xP 144 103 (.isub) 1 104 := ⟨by decide +kernel, rfl⟩
theorem e_M_append_104 : xa_d xP 144 104 (.ireturn) 1 105 := ⟨by decide +kernel, rfl⟩
theorem e_M_strip_0 : xa_d xP 145 0 (.aload_n 0) 1 1 := ⟨by decide +kernel, rfl⟩
theorem e_M_strip_1 : xa_d xP 145 1 (.aload_n 0) 1 2 := ⟨by decide +kernel, rfl⟩
theorem e_M_strip_2 : xa_d xP 145 2 (.iload_n 1) 1 3 := ⟨by decide +kernel, rfl⟩
theorem e_M_strip_3 : xa_d xP 145 3 (.invokevirtual 90) 3 6 := ⟨by decide +kernel, rfl⟩
theorem e_M_strip_6 : xa_db xP 145 6 (.ifCond .eq 7) 3 9 7 13 := ⟨⟨by decide +kernel, rfl⟩, rfl⟩
theorem e_M_strip_9 : xa_d xP 145 9 (.iconst 1) 1 10 := ⟨by decide +kernel, rfl⟩
theorem e_M_strip_10 : xa_db xP 145 10 (.goto 4) 3 13 4 14 := ⟨⟨by decide +kernel, rfl⟩, rfl⟩
theorem e_M_strip_13 : xa_d xP 145 13 (.iconst 0) 1 14 := ⟨by decide +kernel, rfl⟩
theorem e_M_strip_14 : xa_d xP 145 14 (.putfield 78) 3 17 := ⟨by decide +kernel, rfl⟩
theorem e_M_strip_17 : xa_d xP 145 17 (.aload_n 0) 1 18 := ⟨by decide +kernel, rfl⟩
theorem e_M_strip_18 : xa_d xP 145 18 (.getfield 78) 3 21 := ⟨by decide +kernel, rfl⟩
theorem e_M_strip_21 : xa_db xP 145 21 (.ifCond .ne 10) 3 24 10 31 := ⟨⟨by decide +kernel, rfl⟩, rfl⟩
theorem e_M_strip_24 : xa_d xP 145 24 (.aload_n 0) 1 25 := ⟨by decide +kernel, rfl⟩
theorem e_M_strip_25 : xa_d xP 145 25 (.getfield 45) 3 28 := ⟨by decide +kernel, rfl⟩
theorem e_M_strip_28 : xa_d xP 145 28 (.iload_n 1) 1 29 := ⟨by decide +kernel, rfl⟩
theorem e_M_strip_29 : xa_d xP 145 29 (.iconst 0) 1 30 := ⟨by decide +kernel, rfl⟩
theorem e_M_strip_30 : xa_d xP 145 30 (.iastore) 1 31 := ⟨by decide +kernel, rfl⟩
theorem e_M_strip_31 : xa_d xP 145 31 (.return_) 1 32 := ⟨by decide +kernel, rfl⟩
theorem e_M_value_0 : xa_d xP 146 0 (.aload_n 0) 1 1 := ⟨by decide +kernel, rfl⟩
theorem e_M_value_1 : xa_d xP 146 1 (.aload_n 0) 1 2 := ⟨by decide +kernel, rfl⟩
theorem e_M_value_2 : xa_d xP 146 2 (.iload_n 1) 1 3 := ⟨by decide +kernel, rfl⟩
theorem e_M_value_3 : xa_d xP 146 3 (.invokevirtual 90) 3 6 := ⟨by decide +kernel, rfl⟩
theorem e_M_value_6 : xa_db xP 146 6 (.ifCond .ne 17) 3 9 17 23 := ⟨⟨by decide +kernel, rfl⟩, rfl⟩
theorem e_M_value_9 : xa_d xP 146 9 (.iload_n 2) 1 10 := ⟨by decide +kernel, rfl⟩
theorem e_M_value_10 : xa_db xP 146 10 (.ifCond .lt 13) 3 13 13 23 := ⟨⟨by decide +kernel, rfl⟩, rfl⟩
theorem e_M_value_13 : xa_d xP 146 13 (.iload_n 2) 1 14 := ⟨by decide +kernel, rfl⟩
theorem e_M_value_14 : xa_d xP 146 14 (.iconst 1) 1 15 := ⟨by decide +kernel, rfl⟩
theorem e_M_value_15 : xa_d xP 146 15 (.aload_n 0) 1 16 := ⟨by decide +kernel, rfl⟩
theorem e_M_value_16 : xa_d xP 146 16 (.getfield 84) 3 19 := ⟨by decide +kernel, rfl⟩
theorem e_M_value_19 : xa_d xP 146 19 (.ishl) 1 20 := ⟨by decide +kernel, rfl⟩
theorem e_M_value_20 : xa_db xP 146 20 (.if_icmp .lt 7) 3 23 7 27 := ⟨⟨by decide +kernel, rfl⟩, rfl⟩
theorem e_M_value_23 : xa_d xP 146 23 (.iconst 1) 1 24 := ⟨by decide +kernel, rfl⟩
theorem e_M_value_24 : xa_db xP 146 24 (.goto 4) 3 27 4 28 := ⟨⟨by decide +kernel, rfl⟩, rfl⟩
theorem e_M_value_27 : xa_d xP 146 27 (.iconst 0) 1 28 := ⟨by decide +kernel, rfl⟩
theorem e_M_value_28 : xa_d xP 146 28 (.putfield 78) 3 31 := ⟨by decide +kernel, rfl⟩
theorem e_M_value_31 : xa_d xP 146 31 (.aload_n 0) 1 32 := ⟨by decide +kernel, rfl⟩
theorem e_M_value_32 : xa_d xP 146 32 (.getfield 78) 3 35 := ⟨by decide +kernel, rfl⟩
theorem e_M_value_35 : xa_db xP 146 35 (.ifCond .le 7) 3 38 7 42 := ⟨⟨by decide +kernel, rfl⟩, rfl⟩
theorem e_M_value_38 : xa_d xP 146 38 (.iconst 0) 1 39 := ⟨by decide +kernel, rfl⟩
theorem e_M_value_39 : xa_db xP 146 39 (.goto 9) 3 42 9 48 := ⟨⟨by decide +kernel, rfl⟩, rfl⟩
theorem e_M_value_42 : xa_d xP 146 42 (.aload_n 0) 1 43 := ⟨by decide +kernel, rfl⟩
theorem e_M_value_43 : xa_d xP 146 43 (.iload_n 1) 1 44 := ⟨by decide +kernel, rfl⟩
theorem e_M_value_44 : xa_d xP 146 44 (.iload_n 2) 1 45 := ⟨by decide +kernel, rfl⟩
theorem e_M_value_45 : xa_d xP 146 45 (.invokevirtual 191) 3 48 := ⟨by decide +kernel, rfl⟩
theorem e_M_value_48 : xa_d xP 146 48 (.ireturn) 1 49 := ⟨by decide +kernel, rfl⟩
theorem e_M_valueOf_0 : xa_d xP 147 0 (.iconst 0) 1 1 := ⟨by decide +kernel, rfl⟩
theorem e_M_valueOf_1 : xa_d xP 147 1 (.istore_n 3) 1 2 := ⟨by decide +kernel, rfl⟩
theorem e_M_valueOf_2 : xa_d xP 147 2 (.iload_n 3) 1 3 := ⟨by decide +kernel, rfl⟩
theorem e_M_valueOf_3 : xa_d xP 147 3 (.aload_n 0) 1 4 := ⟨by decide +kernel, rfl⟩
theorem e_M_valueOf_4 : xa_d xP 147 4 (.getfield 45) 3 7 := ⟨by decide +kernel, rfl⟩
theorem e_M_valueOf_7 : xa_d xP 147 7 (.iload_n 1) 1 8 := ⟨by decide +kernel, rfl⟩
theorem e_M_valueOf_8 : xa_d xP 147 8 (.iaload) 1 9 := ⟨by decide +kernel, rfl⟩
theorem e_M_valueOf_9 : xa_db xP 147 9 (.if_icmp .ge 30) 3 12 30 39 := ⟨⟨by decide +kernel, rfl⟩, rfl⟩
theorem e_M_valueOf_12 : xa_d xP 147 12 (.aload_n 0) 1 13 := ⟨by decide +kernel, rfl⟩
theorem e_M_valueOf_13 : xa_d xP 147 13 (.aload_n 0) 1 14 := ⟨by decide +kernel, rfl⟩
theorem e_M_valueOf_14 : xa_d xP 147 14 (.getfield 48) 3 17 := ⟨by decide +kernel, rfl⟩
theorem e_M_valueOf_17 : xa_d xP 147 17 (.bipush 8) 2 19 := ⟨by decide +kernel, rfl⟩
theorem e_M_valueOf_19 : xa_d xP 147 19 (.iload_n 1) 1 20 := ⟨by decide +kernel, rfl⟩
theorem e_M_valueOf_20 : xa_d xP 147 20 (.imul) 1 21 := ⟨by decide +kernel, rfl⟩
theorem e_M_valueOf_21 : xa_d xP 147 21 (.iload_n 3) 1 22 := ⟨by decide +kernel, rfl⟩
theorem e_M_valueOf_22 : xa_d xP 147 22 (.iadd) 1 23 := ⟨by decide +kernel, rfl⟩
theorem e_M_valueOf_23 : xa_d xP 147 23 (.iaload) 1 24 := ⟨by decide +kernel, rfl⟩
theorem e_M_valueOf_24 : xa_d xP 147 24 (.iload_n 2) 1 25 := ⟨by decide +kernel, rfl⟩
theorem e_M_valueOf_25 : xa_d xP 147 25 (.invokevirtual 155) 3 28 := ⟨by decide +kernel, rfl⟩
theorem e_M_valueOf_28 : xa_db xP 147 28 (.ifCond .eq 5) 3 31 5 33 := ⟨⟨by decide +kernel, rfl⟩, rfl⟩
theorem e_M_valueOf_31 : xa_d xP 147 31 (.iconst 1) 1 32 := ⟨by decide +kernel, rfl⟩
theorem e_M_valueOf_32 : xa_d xP 147 32 (.ireturn) 1 33 := ⟨by decide +kernel, rfl⟩
theorem e_M_valueOf_33 : xa_d xP 147 33 (.iinc 3 1) 3 36 := ⟨by decide +kernel, rfl⟩
theorem e_M_valueOf_36 : xa_db xP 147 36 (.goto (-34)) 3 39 (-34) 2 := ⟨⟨by decide +kernel, rfl⟩, rfl⟩
theorem e_M_valueOf_39 : xa_d xP 147 39 (.iconst 0) 1 40 := ⟨by decide +kernel, rfl⟩
theorem e_M_valueOf_40 : xa_d xP 147 40 (.ireturn) 1 41 := ⟨by decide +kernel, rfl⟩
theorem e_M_check_0 : xa_d xP 148 0 (.aload_n 0) 1 1 := ⟨by decide +kernel, rfl⟩
theorem e_M_check_1 : xa_d xP 148 1 (.aload_n 0) 1 2 := ⟨by decide +kernel, rfl⟩
theorem e_M_check_2 : xa_d xP 148 2 (.getfield 29) 3 5 := ⟨by decide +kernel, rfl⟩
theorem e_M_check_5 : xa_db xP 148 5 (.ifCond .ne 7) 3 8 7 12 := ⟨⟨by decide +kernel, rfl⟩, rfl⟩
theorem e_M_check_8 : xa_d xP 148 8 (.iconst 0) 1 9 := ⟨by decide +kernel, rfl⟩
theorem e_M_check_9 : xa_db xP 148 9 (.goto 4) 3 12 4 13 := ⟨⟨by decide +kernel, rfl⟩, rfl⟩
theorem e_M_check_12 : xa_d xP 148 12 (.iconst 1) 1 13 := ⟨by decide +kernel, rfl⟩
theorem e_M_check_13 : xa_d xP 148 13 (.putfield 78) 3 16 := ⟨by decide +kernel, rfl⟩
theorem e_M_check_16 : xa_d xP 148 16 (.aload_n 0) 1 17 := ⟨by decide +kernel, rfl⟩
theorem e_M_check_17 : xa_d xP 148 17 (.getfield 78) 3 20 := ⟨by decide +kernel, rfl⟩
theorem e_M_check_20 : xa_db xP 148 20 (.ifCond .le 5) 3 23 5 25 := ⟨⟨by decide +kernel, rfl⟩, rfl⟩
theorem e_M_check_23 : xa_d xP 148 23 (.iconst 0) 1 24 := ⟨by decide +kernel, rfl⟩
theorem e_M_check_24 : xa_d xP 148 24 (.ireturn) 1 25 := ⟨by decide +kernel, rfl⟩
theorem e_M_check_25 : xa_d xP 148 25 (.aload_n 0) 1 26 := ⟨by decide +kernel, rfl⟩
theorem e_M_check_26 : xa_d xP 148 26 (.invokevirtual 200) 3 29 := ⟨by decide +kernel, rfl⟩
theorem e_M_check_29 : xa_d xP 148 29 (.aload_n 0) 1 30 := ⟨by decide +kernel, rfl⟩
theorem e_M_check_30 : xa_d xP 148 30 (.iconst (-1)) 1 31 := ⟨by decide +kernel, rfl⟩
theorem e_M_check_31 : xa_d xP 148 31 (.putfield 33) 3 34 := ⟨by decide +kernel, rfl⟩
theorem e_M_check_34 : xa_d xP 148 34 (.iconst 1) 1 35 := ⟨by decide +kernel, rfl⟩
theorem e_M_check_35 : xa_d xP 148 35 (.istore_n 1) 1 36 := ⟨by decide +kernel, rfl⟩
theorem e_M_check_36 : xa_d xP 148 36 (.iload_n 1) 1 37 := ⟨by decide +kernel, rfl⟩
theorem e_M_check_37 : xa_d xP 148 37 (.iconst 4) 1 38 := ⟨by decide +kernel, rfl⟩
theorem e_M_check_38 : xa_db xP 148 38 (.if_icmp .ge 81) 3 41 81 119 := ⟨⟨by decide +kernel, rfl⟩, rfl⟩
theorem e_M_check_41 : xa_d xP 148 41 (.iconst 0) 1 42 := ⟨by decide +kernel, rfl⟩
theorem e_M_check_42 : xa_d xP 148 42 (.istore_n 2) 1 43 := ⟨by decide +kernel, rfl⟩
theorem e_M_check_43 : xa_d xP 148 43 (.iload_n 2) 1 44 := ⟨by decide +kernel, rfl⟩
theorem e_M_check_44 : xa_d xP 148 44 (.aload_n 0) 1 45 := ⟨by decide +kernel, rfl⟩
theorem e_M_check_45 : xa_d xP 148 45 (.getfield 81) 3 48 := ⟨by decide +kernel, rfl⟩
theorem e_M_check_48 : xa_db xP 148 48 (.if_icmp .ge 65) 3 51 65 113 := ⟨⟨by decide +kernel, rfl⟩, rfl⟩
theorem e_M_check_51 : xa_d xP 148 51 (.aload_n 0) 1 52 := ⟨by decide +kernel, rfl⟩
theorem e_M_check_52 : xa_d xP 148 52 (.getfield 75) 3 55 := ⟨by decide +kernel, rfl⟩
theorem e_M_check_55 : xa_d xP 148 55 (.iload_n 2) 1 56 := ⟨by decide +kernel, rfl⟩
theorem e_M_check_56 : xa_d xP 148 56 (.baload) 1 57 := ⟨by decide +kernel, rfl⟩
theorem e_M_check_57 : xa_db xP 148 57 (.ifCond .eq 50) 3 60 50 107 := ⟨⟨by decide +kernel, rfl⟩, rfl⟩
theorem e_M_check_60 : xa_d xP 148 60 (.iload_n 1) 1 61 := ⟨by decide +kernel, rfl⟩
theorem e_M_check_61 : xa_d xP 148 61 (.iconst 1) 1 62 := ⟨by decide +kernel, rfl⟩
theorem e_M_check_62 : xa_db xP 148 62 (.if_icmp .ne 14) 3 65 14 76 := ⟨⟨by decide +kernel, rfl⟩, rfl⟩
theorem e_M_check_65 : xa_d xP 148 65 (.aload_n 0) 1 66 := ⟨by decide +kernel, rfl⟩
theorem e_M_check_66 : xa_d xP 148 66 (.iload_n 2) 1 67 := ⟨by decide +kernel, rfl⟩
theorem e_M_check_67 : xa_d xP 148 67 (.invokevirtual 203) 3 70 := ⟨by decide +kernel, rfl⟩
theorem e_M_check_70 : xa_db xP 148 70 (.ifCond .eq 37) 3 73 37 107 := ⟨⟨by decide +kernel, rfl⟩, rfl⟩
theorem e_M_check_73 : xa_db xP 148 73 (.goto 27) 3 76 27 100 := ⟨⟨by decide +kernel, rfl⟩, rfl⟩
theorem e_M_check_76 : xa_d xP 148 76 (.iload_n 1) 1 77 := ⟨by decide +kernel, rfl⟩
theorem e_M_check_77 : xa_d xP 148 77 (.iconst 2) 1 78 := ⟨by decide +kernel, rfl⟩
theorem e_M_check_78 : xa_db xP 148 78 (.if_icmp .ne 14) 3 81 14 92 := ⟨⟨by decide +kernel, rfl⟩, rfl⟩
theorem e_M_check_81 : xa_d xP 148 81 (.aload_n 0) 1 82 := ⟨by decide +kernel, rfl⟩
theorem e_M_check_82 : xa_d xP 148 82 (.iload_n 2) 1 83 := ⟨by decide +kernel, rfl⟩
theorem e_M_check_83 : xa_d xP 148 83 (.invokevirtual 206) 3 86 := ⟨by decide +kernel, rfl⟩
theorem e_M_check_86 : xa_db xP 148 86 (.ifCond .eq 21) 3 89 21 107 := ⟨⟨by decide +kernel, rfl⟩, rfl⟩
theorem e_M_check_89 : xa_db xP 148 89 (.goto 11) 3 92 11 100 := ⟨⟨by decide +kernel, rfl⟩, rfl⟩
theorem e_M_check_92 : xa_d xP 148 92 (.aload_n 0) 1 93 := ⟨by decide +kernel, rfl⟩
theorem e_M_check_93 : xa_d xP 148 93 (.iload_n 2) 1 94 := ⟨by decide +kernel, rfl⟩
theorem e_M_check_94 : xa_d xP 148 94 (.invokevirtual 209) 3 97 := ⟨by decide +kernel, rfl⟩
theorem e_M_check_97 : xa_db xP 148 97 (.ifCond .eq 10) 3 100 10 107 := ⟨⟨by decide +kernel, rfl⟩, rfl⟩
theorem e_M_check_100 : xa_d xP 148 100 (.aload_n 0) 1 101 := ⟨by decide +kernel, rfl⟩
theorem e_M_check_101 : xa_d xP 148 101 (.iload_n 2) 1 102 := ⟨by decide +kernel, rfl⟩
theorem e_M_check_102 : xa_d xP 148 102 (.putfield 33) 3 105 := ⟨by decide +kernel, rfl⟩
theorem e_M_check_105 : xa_d xP 148 105 (.iload_n 1) 1 106 := ⟨by decide +kernel, rfl⟩
theorem e_M_check_106 : xa_d xP 148 106 (.ireturn) 1 107 := ⟨by decide +kernel, rfl⟩
theorem e_M_check_107 : xa_d xP 148 107 (.iinc 2 1) 3 110 := ⟨by decide +kernel, rfl⟩
theorem e_M_check_110 : xa_db xP 148 110 (.goto (-67)) 3 113 (-67) 43 := ⟨⟨by decide +kernel, rfl⟩, rfl⟩
theorem e_M_check_113 : xa_d xP 148 113 (.iinc 1 1) 3 116 := ⟨by decide +kernel, rfl⟩
theorem e_M_check_116 : xa_db xP 148 116 (.goto (-80)) 3 119 (-80) 36 := ⟨⟨by decide +kernel, rfl⟩, rfl⟩
theorem e_M_check_119 : xa_d xP 148 119 (.iconst 0) 1 120 := ⟨by decide +kernel, rfl⟩
theorem e_M_check_120 : xa_d xP 148 120 (.ireturn) 1 121 := ⟨by decide +kernel, rfl⟩
theorem e_M_comeTo_0 : xa_d xP 149 0 (.iconst 0) 1 1 := ⟨by decide +kernel, rfl⟩
theorem e_M_comeTo_1 : xa_d xP 149 1 (.istore_n 1) 1 2 := ⟨by decide +kernel, rfl⟩
theorem e_M_comeTo_2 : xa_d xP 149 2 (.iload_n 1) 1 3 := ⟨by decide +kernel, rfl⟩
theorem e_M_comeTo_3 : xa_d xP 149 3 (.aload_n 0) 1 4 := ⟨by decide +kernel, rfl⟩
theorem e_M_comeTo_4 : xa_d xP 149 4 (.getfield 81) 3 7 := ⟨by decide +kernel, rfl⟩
theorem e_M_comeTo_7 : xa_db xP 149 7 (.if_icmp .ge 24) 3 10 24 31 := ⟨⟨by decide +kernel, rfl⟩, rfl⟩
theorem e_M_comeTo_10 : xa_d xP 149 10 (.aload_n 0) 1 11 := ⟨by decide +kernel, rfl⟩
theorem e_M_comeTo_11 : xa_d xP 149 11 (.getfield 75) 3 14 := ⟨by decide +kernel, rfl⟩
theorem e_M_comeTo_14 : xa_d xP 149 14 (.iload_n 1) 1 15 := ⟨by decide +kernel, rfl⟩
theorem e_M_comeTo_15 : xa_d xP 149 15 (.iload_n 1) 1 16 := ⟨by decide +kernel, rfl⟩
theorem e_M_comeTo_16 : xa_db xP 149 16 (.ifCond .ne 7) 3 19 7 23 := ⟨⟨by decide +kernel, rfl⟩, rfl⟩
theorem e_M_comeTo_19 : xa_d xP 149 19 (.iconst 1) 1 20 := ⟨by decide +kernel, rfl⟩
theorem e_M_comeTo_20 : xa_db xP 149 20 (.goto 4) 3 23 4 24 := ⟨⟨by decide +kernel, rfl⟩, rfl⟩
theorem e_M_comeTo_23 : xa_d xP 149 23 (.iconst 0) 1 24 := ⟨by decide +kernel, rfl⟩
theorem e_M_comeTo_24 : xa_d xP 149 24 (.bastore) 1 25 := ⟨by decide +kernel, rfl⟩
theorem e_M_comeTo_25 : xa_d xP 149 25 (.iinc 1 1) 3 28 := ⟨by decide +kernel, rfl⟩
theorem e_M_comeTo_28 : xa_db xP 149 28 (.goto (-26)) 3 31 (-26) 2 := ⟨⟨by decide +kernel, rfl⟩, rfl⟩
theorem e_M_comeTo_31 : xa_d xP 149 31 (.iconst 1) 1 32 := ⟨by decide +kernel, rfl⟩
theorem e_M_comeTo_32 : xa_d xP 149 32 (.istore_n 1) 1 33 := ⟨by decide +kernel, rfl⟩
theorem e_M_comeTo_33 : xa_d xP 149 33 (.iload_n 1) 1 34 := ⟨by decide +kernel, rfl⟩
theorem e_M_comeTo_34 : xa_db xP 149 34 (.ifCond .eq 108) 3 37 108 142 := ⟨⟨by decide +kernel, rfl⟩, rfl⟩
theorem e_M_comeTo_37 : xa_d xP 149 37 (.iconst 0) 1 38 := ⟨by decide +kernel, rfl⟩
theorem e_M_comeTo_38 : xa_d xP 149 38 (.istore_n 1) 1 39 := ⟨by decide +kernel, rfl⟩
theorem e_M_comeTo_39 : xa_d xP 149 39 (.iconst 0) 1 40 := ⟨by decide +kernel, rfl⟩
theorem e_M_comeTo_40 : xa_d xP 149 40 (.istore_n 2) 1 41 := ⟨by decide +kernel, rfl⟩
theorem e_M_comeTo_41 : xa_d xP 149 41 (.iload_n 2) 1 42 := ⟨by decide +kernel, rfl⟩
theorem e_M_comeTo_42 : xa_d xP 149 42 (.aload_n 0) 1 43 := ⟨by decide +kernel, rfl⟩
theorem e_M_comeTo_43 : xa_d xP 149 43 (.getfield 81) 3 46 := ⟨by decide +kernel, rfl⟩
theorem e_M_comeTo_46 : xa_db xP 149 46 (.if_icmp .ge 93) 3 49 93 139 := ⟨⟨by decide +kernel, rfl⟩, rfl⟩
theorem e_M_comeTo_49 : xa_d xP 149 49 (.iconst 0) 1 50 := ⟨by decide +kernel, rfl⟩
theorem e_M_comeTo_50 : xa_d xP 149 50 (.istore_n 3) 1 51 := ⟨by decide +kernel, rfl⟩
theorem e_M_comeTo_51 : xa_d xP 149 51 (.iload_n 3) 1 52 := ⟨by decide +kernel, rfl⟩
theorem e_M_comeTo_52 : xa_d xP 149 52 (.aload_n 0) 1 53 := ⟨by decide +kernel, rfl⟩
theorem e_M_comeTo_53 : xa_d xP 149 53 (.getfield 94) 3 56 := ⟨by decide +kernel, rfl⟩
theorem e_M_comeTo_56 : xa_db xP 149 56 (.if_icmp .ge 77) 3 59 77 133 := ⟨⟨by decide +kernel, rfl⟩, rfl⟩
theorem e_M_comeTo_59 : xa_d xP 149 59 (.aload_n 0) 1 60 := ⟨by decide +kernel, rfl⟩
theorem e_M_comeTo_60 : xa_d xP 149 60 (.getfield 75) 3 63 := ⟨by decide +kernel, rfl⟩
theorem e_M_comeTo_63 : xa_d xP 149 63 (.iload_n 2) 1 64 := ⟨by decide +kernel, rfl⟩
theorem e_M_comeTo_64 : xa_d xP 149 64 (.baload) 1 65 := ⟨by decide +kernel, rfl⟩
theorem e_M_comeTo_65 : xa_db xP 149 65 (.ifCond .eq 68) 3 68 68 133 := ⟨⟨by decide +kernel, rfl⟩, rfl⟩
theorem e_M_comeTo_68 : xa_d xP 149 68 (.aload_n 0) 1 69 := ⟨by decide +kernel, rfl⟩
theorem e_M_comeTo_69 : xa_d xP 149 69 (.iload_n 2) 1 70 := ⟨by decide +kernel, rfl⟩
theorem e_M_comeTo_70 : xa_d xP 149 70 (.iload_n 3) 1 71 := ⟨by decide +kernel, rfl⟩
theorem e_M_comeTo_71 : xa_d xP 149 71 (.invokevirtual 197) 3 74 := ⟨by decide +kernel, rfl⟩
theorem e_M_comeTo_74 : xa_db xP 149 74 (.ifCond .eq 22) 3 77 22 96 := ⟨⟨by decide +kernel, rfl⟩, rfl⟩
theorem e_M_comeTo_77 : xa_d xP 149 77 (.aload_n 0) 1 78 := ⟨by decide +kernel, rfl⟩
theorem e_M_comeTo_78 : xa_d xP 149 78 (.aload_n 0) 1 79 := ⟨by decide +kernel, rfl⟩
theorem e_M_comeTo_79 : xa_d xP 149 79 (.iload_n 2) 1 80 := ⟨by decide +kernel, rfl⟩
theorem e_M_comeTo_80 : xa_d xP 149 80 (.iload_n 3) 1 81 := ⟨by decide +kernel, rfl⟩
theorem e_M_comeTo_81 : xa_d xP 149 81 (.invokevirtual 113) 3 84 := ⟨by decide +kernel, rfl⟩
theorem e_M_comeTo_84 : xa_d xP 149 84 (.aload_n 0) 1 85 := ⟨by decide +kernel, rfl⟩
theorem e_M_comeTo_85 : xa_d xP 149 85 (.iload_n 2) 1 86 := ⟨by decide +kernel, rfl⟩
theorem e_M_comeTo_86 : xa_d xP 149 86 (.iload_n 3) 1 87 := ⟨by decide +kernel, rfl⟩
theorem e_M_comeTo_87 : xa_d xP 149 87 (.invokevirtual 117) 3 90 := ⟨by decide +kernel, rfl⟩
theorem e_M_comeTo_90 : xa_d xP 149 90 (.invokevirtual 120) 3 93 := ⟨by decide +kernel, rfl⟩
theorem e_M_comeTo_93 : xa_db xP 149 93 (.goto 4) 3 96 4 97 := ⟨⟨by decide +kernel, rfl⟩, rfl⟩
theorem e_M_comeTo_96 : xa_d xP 149 96 (.iload_n 2) 1 97 := ⟨by decide +kernel, rfl⟩
theorem e_M_comeTo_97 : xa_d xP 149 97 (.istore 4) 2 99 := ⟨by decide +kernel, rfl⟩
theorem e_M_comeTo_99 : xa_d xP 149 99 (.iload_n 1) 1 100 := ⟨by decide +kernel, rfl⟩
theorem e_M_comeTo_100 : xa_db xP 149 100 (.ifCond .ne 13) 3 103 13 113 := ⟨⟨by decide +kernel, rfl⟩, rfl⟩
theorem e_M_comeTo_103 : xa_d xP 149 103 (.aload_n 0) 1 104 := ⟨by decide +kernel, rfl⟩
theorem e_M_comeTo_104 : xa_d xP 149 104 (.getfield 75) 3 107 := ⟨by decide +kernel, rfl⟩
theorem e_M_comeTo_107 : xa_d xP 149 107 (.iload 4) 2 109 := ⟨by decide +kernel, rfl⟩
theorem e_M_comeTo_109 : xa_d xP 149 109 (.baload) 1 110 := ⟨by decide +kernel, rfl⟩
theorem e_M_comeTo_110 : xa_db xP 149 110 (.ifCond .ne 7) 3 113 7 117 := ⟨⟨by decide +kernel, rfl⟩, rfl⟩
theorem e_M_comeTo_113 : xa_d xP 149 113 (.iconst 1) 1 114 := ⟨by decide +kernel, rfl⟩
theorem e_M_comeTo_114 : xa_db xP 149 114 (.goto 4) 3 117 4 118 := ⟨⟨by decide +kernel, rfl⟩, rfl⟩
theorem e_M_comeTo_117 : xa_d xP 149 117 (.iconst 0) 1 118 := ⟨by decide +kernel, rfl⟩
theorem e_M_comeTo_118 : xa_d xP 149 118 (.istore_n 1) 1 119 := ⟨by decide +kernel, rfl⟩
theorem e_M_comeTo_119 : xa_d xP 149 119 (.aload_n 0) 1 120 := ⟨by decide +kernel, rfl⟩
theorem e_M_comeTo_120 : xa_d xP 149 120 (.getfield 75) 3 123 := ⟨by decide +kernel, rfl⟩
theorem e_M_comeTo_123 : xa_d xP 149 123 (.iload 4) 2 125 := ⟨by decide +kernel, rfl⟩
theorem e_M_comeTo_125 : xa_d xP 149 125 (.iconst 1) 1 126 := ⟨by decide +kernel, rfl⟩
theorem e_M_comeTo_126 : xa_d xP 149 126 (.bastore) 1 127 := ⟨by decide +kernel, rfl⟩
theorem e_M_comeTo_127 : xa_d xP 149 127 (.iinc 3 1) 3 130 := ⟨by decide +kernel, rfl⟩
theorem e_M_comeTo_130 : xa_db xP 149 130 (.goto (-79)) 3 133 (-79) 51 := ⟨⟨by decide +kernel, rfl⟩, rfl⟩
theorem e_M_comeTo_133 : xa_d xP 149 133 (.iinc 2 1) 3 136 := ⟨by decide +kernel, rfl⟩
theorem e_M_comeTo_136 : xa_db xP 149 136 (.goto (-95)) 3 139 (-95) 41 := ⟨⟨by decide +kernel, rfl⟩, rfl⟩
theorem e_M_comeTo_139 : xa_db xP 149 139 (.goto (-106)) 3 142 (-106) 33 := ⟨⟨by decide +kernel, rfl⟩, rfl⟩
theorem e_M_comeTo_142 : xa_d xP 149 142 (.return_) 1 143 := ⟨by decide +kernel, rfl⟩
theorem e_M_fires_0 : xa_d xP 150 0 (.aload_n 0) 1 1 := ⟨by decide +kernel, rfl⟩
theorem e_M_fires_1 : xa_d xP 150 1 (.iload_n 1) 1 2 := ⟨by decide +kernel, rfl⟩
theorem e_M_fires_2 : xa_d xP 150 2 (.iload_n 2) 1 3 := ⟨by decide +kernel, rfl⟩
theorem e_M_fires_3 : xa_d xP 150 3 (.invokevirtual 103) 3 6 := ⟨by decide +kernel, rfl⟩
theorem e_M_fires_6 : xa_db xP 150 6 (.ifCond .eq 35) 3 9 35 41 := ⟨⟨by decide +kernel, rfl⟩, rfl⟩
theorem e_M_fires_9 : xa_d xP 150 9 (.aload_n 0) 1 10 := ⟨by decide +kernel, rfl⟩
theorem e_M_fires_10 : xa_d xP 150 10 (.getfield 7) 3 13 := ⟨by decide +kernel, rfl⟩
theorem e_M_fires_13 : xa_d xP 150 13 (.aload_n 0) 1 14 := ⟨by decide +kernel, rfl⟩
theorem e_M_fires_14 : xa_d xP 150 14 (.getfield 16) 3 17 := ⟨by decide +kernel, rfl⟩
theorem e_M_fires_17 : xa_d xP 150 17 (.iload_n 2) 1 18 := ⟨by decide +kernel, rfl⟩
theorem e_M_fires_18 : xa_d xP 150 18 (.iaload) 1 19 := ⟨by decide +kernel, rfl⟩
theorem e_M_fires_19 : xa_d xP 150 19 (.baload) 1 20 := ⟨by decide +kernel, rfl⟩
theorem e_M_fires_20 : xa_db xP 150 20 (.ifCond .ne 17) 3 23 17 37 := ⟨⟨by decide +kernel, rfl⟩, rfl⟩
theorem e_M_fires_23 : xa_d xP 150 23 (.aload_n 0) 1 24 := ⟨by decide +kernel, rfl⟩
theorem e_M_fires_24 : xa_d xP 150 24 (.iload_n 1) 1 25 := ⟨by decide +kernel, rfl⟩
theorem e_M_fires_25 : xa_d xP 150 25 (.aload_n 0) 1 26 := ⟨by decide +kernel, rfl⟩
theorem e_M_fires_26 : xa_d xP 150 26 (.getfield 16) 3 29 := ⟨by decide +kernel, rfl⟩
theorem e_M_fires_29 : xa_d xP 150 29 (.iload_n 2) 1 30 := ⟨by decide +kernel, rfl⟩
theorem e_M_fires_30 : xa_d xP 150 30 (.iaload) 1 31 := ⟨by decide +kernel, rfl⟩
theorem e_M_fires_31 : xa_d xP 150 31 (.invokevirtual 194) 3 34 := ⟨by decide +kernel, rfl⟩
theorem e_M_fires_34 : xa_db xP 150 34 (.ifCond .eq 7) 3 37 7 41 := ⟨⟨by decide +kernel, rfl⟩, rfl⟩
theorem e_M_fires_37 : xa_d xP 150 37 (.iconst 1) 1 38 := ⟨by decide +kernel, rfl⟩
theorem e_M_fires_38 : xa_db xP 150 38 (.goto 4) 3 41 4 42 := ⟨⟨by decide +kernel, rfl⟩, rfl⟩
theorem e_M_fires_41 : xa_d xP 150 41 (.iconst 0) 1 42 := ⟨by decide +kernel, rfl⟩
theorem e_M_fires_42 : xa_d xP 150 42 (.ireturn) 1 43 := ⟨by decide +kernel, rfl⟩
theorem e_M_acts_0 : xa_d xP 151 0 (.aload_n 0) 1 1 := ⟨by decide +kernel, rfl⟩
theorem e_M_acts_1 : xa_d xP 151 1 (.getfield 7) 3 4 := ⟨by decide +kernel, rfl⟩
theorem e_M_acts_4 : xa_d xP 151 4 (.iload_n 2) 1 5 := ⟨by decide +kernel, rfl⟩
theorem e_M_acts_5 : xa_d xP 151 5 (.baload) 1 6 := ⟨by decide +kernel, rfl⟩
theorem e_M_acts_6 : xa_db xP 151 6 (.ifCond .ne 31) 3 9 31 37 := ⟨⟨by decide +kernel, rfl⟩, rfl⟩
theorem e_M_acts_9 : xa_d xP 151 9 (.aload_n 0) 1 10 := ⟨by decide +kernel, rfl⟩
theorem e_M_acts_10 : xa_d xP 151 10 (.iload_n 2) 1 11 := ⟨by decide +kernel, rfl⟩
theorem e_M_acts_11 : xa_d xP 151 11 (.aload_n 0) 1 12 := ⟨by decide +kernel, rfl⟩
theorem e_M_acts_12 : xa_d xP 151 12 (.getfield 39) 3 15 := ⟨by decide +kernel, rfl⟩
theorem e_M_acts_15 : xa_d xP 151 15 (.iload_n 1) 1 16 := ⟨by decide +kernel, rfl⟩
theorem e_M_acts_16 : xa_d xP 151 16 (.iaload) 1 17 := ⟨by decide +kernel, rfl⟩
theorem e_M_acts_17 : xa_d xP 151 17 (.invokevirtual 191) 3 20 := ⟨by decide +kernel, rfl⟩
theorem e_M_acts_20 : xa_d xP 151 20 (.aload_n 0) 1 21 := ⟨by decide +kernel, rfl⟩
theorem e_M_acts_21 : xa_d xP 151 21 (.getfield 39) 3 24 := ⟨by decide +kernel, rfl⟩
theorem e_M_acts_24 : xa_d xP 151 24 (.iload_n 1) 1 25 := ⟨by decide +kernel, rfl⟩
theorem e_M_acts_25 : xa_d xP 151 25 (.iaload) 1 26 := ⟨by decide +kernel, rfl⟩
theorem e_M_acts_26 : xa_d xP 151 26 (.iload_n 2) 1 27 := ⟨by decide +kernel, rfl⟩
theorem e_M_acts_27 : xa_d xP 151 27 (.ishr) 1 28 := ⟨by decide +kernel, rfl⟩
theorem e_M_acts_28 : xa_d xP 151 28 (.iconst 1) 1 29 := ⟨by decide +kernel, rfl⟩
theorem e_M_acts_29 : xa_d xP 151 29 (.iand) 1 30 := ⟨by decide +kernel, rfl⟩
theorem e_M_acts_30 : xa_db xP 151 30 (.if_icmp .eq 7) 3 33 7 37 := ⟨⟨by decide +kernel, rfl⟩, rfl⟩
theorem e_M_acts_33 : xa_d xP 151 33 (.iconst 1) 1 34 := ⟨by decide +kernel, rfl⟩
theorem e_M_acts_34 : xa_db xP 151 34 (.goto 4) 3 37 4 38 := ⟨⟨by decide +kernel, rfl⟩, rfl⟩
theorem e_M_acts_37 : xa_d xP 151 37 (.iconst 0) 1 38 := ⟨by decide +kernel, rfl⟩
theorem e_M_acts_38 : xa_d xP 151 38 (.ireturn) 1 39 := ⟨by decide +kernel, rfl⟩
theorem e_M_hazard_0 : xa_d xP 152 0 (.iconst 0) 1 1 := ⟨by decide +kernel, rfl⟩
theorem e_M_hazard_1 : xa_d xP 152 1 (.istore_n 2) 1 2 := ⟨by decide +kernel, rfl⟩
theorem e_M_hazard_2 : xa_d xP 152 2 (.iload_n 2) 1 3 := ⟨by decide +kernel, rfl⟩
theorem e_M_hazard_3 : xa_d xP 152 3 (.aload_n 0) 1 4 := ⟨by decide +kernel, rfl⟩
theorem e_M_hazard_4 : xa_d xP 152 4 (.getfield 94) 3 7 := ⟨by decide +kernel, rfl⟩
theorem e_M_hazard_7 : xa_db xP 152 7 (.if_icmp .ge 90) 3 10 90 97 := ⟨⟨by decide +kernel, rfl⟩, rfl⟩
theorem e_M_hazard_10 : xa_d xP 152 10 (.aload_n 0) 1 11 := ⟨by decide +kernel, rfl⟩
theorem e_M_hazard_11 : xa_d xP 152 11 (.iload_n 1) 1 12 := ⟨by decide +kernel, rfl⟩
theorem e_M_hazard_12 : xa_d xP 152 12 (.iload_n 2) 1 13 := ⟨by decide +kernel, rfl⟩
theorem e_M_hazard_13 : xa_d xP 152 13 (.invokevirtual 197) 3 16 := ⟨by decide +kernel, rfl⟩
theorem e_M_hazard_16 : xa_db xP 152 16 (.ifCond .eq 22) 3 19 22 38 := ⟨⟨by decide +kernel, rfl⟩, rfl⟩
theorem e_M_hazard_19 : xa_d xP 152 19 (.aload_n 0) 1 20 := ⟨by decide +kernel, rfl⟩
theorem e_M_hazard_20 : xa_d xP 152 20 (.aload_n 0) 1 21 := ⟨by decide +kernel, rfl⟩
theorem e_M_hazard_21 : xa_d xP 152 21 (.iload_n 1) 1 22 := ⟨by decide +kernel, rfl⟩
theorem e_M_hazard_22 : xa_d xP 152 22 (.iload_n 2) 1 23 := ⟨by decide +kernel, rfl⟩
theorem e_M_hazard_23 : xa_d xP 152 23 (.invokevirtual 113) 3 26 := ⟨by decide +kernel, rfl⟩
theorem e_M_hazard_26 : xa_d xP 152 26 (.aload_n 0) 1 27 := ⟨by decide +kernel, rfl⟩
theorem e_M_hazard_27 : xa_d xP 152 27 (.iload_n 1) 1 28 := ⟨by decide +kernel, rfl⟩
theorem e_M_hazard_28 : xa_d xP 152 28 (.iload_n 2) 1 29 := ⟨by decide +kernel, rfl⟩
theorem e_M_hazard_29 : xa_d xP 152 29 (.invokevirtual 117) 3 32 := ⟨by decide +kernel, rfl⟩
theorem e_M_hazard_32 : xa_d xP 152 32 (.invokevirtual 120) 3 35 := ⟨by decide +kernel, rfl⟩
theorem e_M_hazard_35 : xa_db xP 152 35 (.goto 4) 3 38 4 39 := ⟨⟨by decide +kernel, rfl⟩, rfl⟩
theorem e_M_hazard_38 : xa_d xP 152 38 (.iload_n 1) 1 39 := ⟨by decide +kernel, rfl⟩
theorem e_M_hazard_39 : xa_d xP 152 39 (.istore_n 3) 1 40 := ⟨by decide +kernel, rfl⟩
theorem e_M_hazard_40 : xa_d xP 152 40 (.iconst 0) 1 41 := ⟨by decide +kernel, rfl⟩
theorem e_M_hazard_41 : xa_d xP 152 41 (.istore 4) 2 43 := ⟨by decide +kernel, rfl⟩
theorem e_M_hazard_43 : xa_d xP 152 43 (.iload 4) 2 45 := ⟨by decide +kernel, rfl⟩
theorem e_M_hazard_45 : xa_d xP 152 45 (.aload_n 0) 1 46 := ⟨by decide +kernel, rfl⟩
theorem e_M_hazard_46 : xa_d xP 152 46 (.getfield 84) 3 49 := ⟨by decide +kernel, rfl⟩
theorem e_M_hazard_49 : xa_db xP 152 49 (.if_icmp .ge 42) 3 52 42 91 := ⟨⟨by decide +kernel, rfl⟩, rfl⟩
theorem e_M_hazard_52 : xa_d xP 152 52 (.iload 4) 2 54 := ⟨by decide +kernel, rfl⟩
theorem e_M_hazard_54 : xa_d xP 152 54 (.aload_n 0) 1 55 := ⟨by decide +kernel, rfl⟩
theorem e_M_hazard_55 : xa_d xP 152 55 (.getfield 16) 3 58 := ⟨by decide +kernel, rfl⟩
theorem e_M_hazard_58 : xa_d xP 152 58 (.iload_n 2) 1 59 := ⟨by decide +kernel, rfl⟩
theorem e_M_hazard_59 : xa_d xP 152 59 (.iaload) 1 60 := ⟨by decide +kernel, rfl⟩
theorem e_M_hazard_60 : xa_db xP 152 60 (.if_icmp .eq 25) 3 63 25 85 := ⟨⟨by decide +kernel, rfl⟩, rfl⟩
theorem e_M_hazard_63 : xa_d xP 152 63 (.aload_n 0) 1 64 := ⟨by decide +kernel, rfl⟩
theorem e_M_hazard_64 : xa_d xP 152 64 (.iload_n 1) 1 65 := ⟨by decide +kernel, rfl⟩
theorem e_M_hazard_65 : xa_d xP 152 65 (.iload 4) 2 67 := ⟨by decide +kernel, rfl⟩
theorem e_M_hazard_67 : xa_d xP 152 67 (.invokevirtual 194) 3 70 := ⟨by decide +kernel, rfl⟩
theorem e_M_hazard_70 : xa_db xP 152 70 (.ifCond .eq 15) 3 73 15 85 := ⟨⟨by decide +kernel, rfl⟩, rfl⟩
theorem e_M_hazard_73 : xa_d xP 152 73 (.aload_n 0) 1 74 := ⟨by decide +kernel, rfl⟩
theorem e_M_hazard_74 : xa_d xP 152 74 (.iload_n 3) 1 75 := ⟨by decide +kernel, rfl⟩
theorem e_M_hazard_75 : xa_d xP 152 75 (.iload 4) 2 77 := ⟨by decide +kernel, rfl⟩
theorem e_M_hazard_77 : xa_d xP 152 77 (.invokevirtual 194) 3 80 := ⟨by decide +kernel, rfl⟩
theorem e_M_hazard_80 : xa_db xP 152 80 (.ifCond .ne 5) 3 83 5 85 := ⟨⟨by decide +kernel, rfl⟩, rfl⟩
theorem e_M_hazard_83 : xa_d xP 152 83 (.iconst 1) 1 84 := ⟨by decide +kernel, rfl⟩
theorem e_M_hazard_84 : xa_d xP 152 84 (.ireturn) 1 85 := ⟨by decide +kernel, rfl⟩
theorem e_M_hazard_85 : xa_d xP 152 85 (.iinc 4 1) 3 88 := ⟨by decide +kernel, rfl⟩
theorem e_M_hazard_88 : xa_db xP 152 88 (.goto (-45)) 3 91 (-45) 43 := ⟨⟨by decide +kernel, rfl⟩, rfl⟩
theorem e_M_hazard_91 : xa_d xP 152 91 (.iinc 2 1) 3 94 := ⟨by decide +kernel, rfl⟩
theorem e_M_hazard_94 : xa_db xP 152 94 (.goto (-92)) 3 97 (-92) 2 := ⟨⟨by decide +kernel, rfl⟩, rfl⟩
theorem e_M_hazard_97 : xa_d xP 152 97 (.iconst 0) 1 98 := ⟨by decide +kernel, rfl⟩
theorem e_M_hazard_98 : xa_d xP 152 98 (.ireturn) 1 99 := ⟨by decide +kernel, rfl⟩
theorem e_M_unexpected_0 : xa_d xP 153 0 (.iconst 0) 1 1 := ⟨by decide +kernel, rfl⟩
theorem e_M_unexpected_1 : xa_d xP 153 1 (.istore_n 2) 1 2 := ⟨by decide +kernel, rfl⟩
theorem e_M_unexpected_2 : xa_d xP 153 2 (.iload_n 2) 1 3 := ⟨by decide +kernel, rfl⟩
theorem e_M_unexpected_3 : xa_d xP 153 3 (.aload_n 0) 1 4 := ⟨by decide +kernel, rfl⟩
theorem e_M_unexpected_4 : xa_d xP 153 4 (.getfield 84) 3 7 := ⟨by decide +kernel, rfl⟩
theorem e_M_unexpected_7 : xa_db xP 153 7 (.if_icmp .ge 32) 3 10 32 39 := ⟨⟨by decide +kernel, rfl⟩, rfl⟩
theorem e_M_unexpected_10 : xa_d xP 153 10 (.aload_n 0) 1 11 := ⟨by decide +kernel, rfl⟩
theorem e_M_unexpected_11 : xa_d xP 153 11 (.iload_n 1) 1 12 := ⟨by decide +kernel, rfl⟩
theorem e_M_unexpected_12 : xa_d xP 153 12 (.iload_n 2) 1 13 := ⟨by decide +kernel, rfl⟩
theorem e_M_unexpected_13 : xa_d xP 153 13 (.invokevirtual 194) 3 16 := ⟨by decide +kernel, rfl⟩
theorem e_M_unexpected_16 : xa_db xP 153 16 (.ifCond .eq 17) 3 19 17 33 := ⟨⟨by decide +kernel, rfl⟩, rfl⟩
theorem e_M_unexpected_19 : xa_d xP 153 19 (.aload_n 0) 1 20 := ⟨by decide +kernel, rfl⟩
theorem e_M_unexpected_20 : xa_d xP 153 20 (.iload_n 1) 1 21 := ⟨by decide +kernel, rfl⟩
theorem e_M_unexpected_21 : xa_d xP 153 21 (.invokevirtual 129) 3 24 := ⟨by decide +kernel, rfl⟩
theorem e_M_unexpected_24 : xa_d xP 153 24 (.iload_n 2) 1 25 := ⟨by decide +kernel, rfl⟩
theorem e_M_unexpected_25 : xa_d xP 153 25 (.ishr) 1 26 := ⟨by decide +kernel, rfl⟩
theorem e_M_unexpected_26 : xa_d xP 153 26 (.iconst 1) 1 27 := ⟨by decide +kernel, rfl⟩
theorem e_M_unexpected_27 : xa_d xP 153 27 (.iand) 1 28 := ⟨by decide +kernel, rfl⟩
theorem e_M_unexpected_28 : xa_db xP 153 28 (.ifCond .ne 5) 3 31 5 33 := ⟨⟨by decide +kernel, rfl⟩, rfl⟩
theorem e_M_unexpected_31 : xa_d xP 153 31 (.iconst 1) 1 32 := ⟨by decide +kernel, rfl⟩
theorem e_M_unexpected_32 : xa_d xP 153 32 (.ireturn) 1 33 := ⟨by decide +kernel, rfl⟩
theorem e_M_unexpected_33 : xa_d xP 153 33 (.iinc 2 1) 3 36 := ⟨by decide +kernel, rfl⟩
theorem e_M_unexpected_36 : xa_db xP 153 36 (.goto (-34)) 3 39 (-34) 2 := ⟨⟨by decide +kernel, rfl⟩, rfl⟩
theorem e_M_unexpected_39 : xa_d xP 153 39 (.iconst 0) 1 40 := ⟨by decide +kernel, rfl⟩
theorem e_M_unexpected_40 : xa_d xP 153 40 (.ireturn) 1 41 := ⟨by decide +kernel, rfl⟩
theorem e_M_missing_0 : xa_d xP 154 0 (.iconst 0) 1 1 := ⟨by decide +kernel, rfl⟩
theorem e_M_missing_1 : xa_d xP 154 1 (.istore_n 2) 1 2 := ⟨by decide +kernel, rfl⟩
theorem e_M_missing_2 : xa_d xP 154 2 (.iload_n 2) 1 3 := ⟨by decide +kernel, rfl⟩
theorem e_M_missing_3 : xa_d xP 154 3 (.aload_n 0) 1 4 := ⟨by decide +kernel, rfl⟩
theorem e_M_missing_4 : xa_d xP 154 4 (.getfield 84) 3 7 := ⟨by decide +kernel, rfl⟩
theorem e_M_missing_7 : xa_db xP 154 7 (.if_icmp .ge 33) 3 10 33 40 := ⟨⟨by decide +kernel, rfl⟩, rfl⟩
theorem e_M_missing_10 : xa_d xP 154 10 (.aload_n 0) 1 11 := ⟨by decide +kernel, rfl⟩
theorem e_M_missing_11 : xa_d xP 154 11 (.iload_n 1) 1 12 := ⟨by decide +kernel, rfl⟩
theorem e_M_missing_12 : xa_d xP 154 12 (.invokevirtual 129) 3 15 := ⟨by decide +kernel, rfl⟩
theorem e_M_missing_15 : xa_d xP 154 15 (.iload_n 2) 1 16 := ⟨by decide +kernel, rfl⟩
theorem e_M_missing_16 : xa_d xP 154 16 (.ishr) 1 17 := ⟨by decide +kernel, rfl⟩
theorem e_M_missing_17 : xa_d xP 154 17 (.iconst 1) 1 18 := ⟨by decide +kernel, rfl⟩
theorem e_M_missing_18 : xa_d xP 154 18 (.iand) 1 19 := ⟨by decide +kernel, rfl⟩
theorem e_M_missing_19 : xa_d xP 154 19 (.iconst 1) 1 20 := ⟨by decide +kernel, rfl⟩
theorem e_M_missing_20 : xa_db xP 154 20 (.if_icmp .ne 14) 3 23 14 34 := ⟨⟨by decide +kernel, rfl⟩, rfl⟩
theorem e_M_missing_23 : xa_d xP 154 23 (.aload_n 0) 1 24 := ⟨by decide +kernel, rfl⟩
theorem e_M_missing_24 : xa_d xP 154 24 (.iload_n 1) 1 25 := ⟨by decide +kernel, rfl⟩
theorem e_M_missing_25 : xa_d xP 154 25 (.iload_n 2) 1 26 := ⟨by decide +kernel, rfl⟩
theorem e_M_missing_26 : xa_d xP 154 26 (.invokevirtual 194) 3 29 := ⟨by decide +kernel, rfl⟩
theorem e_M_missing_29 : xa_db xP 154 29 (.ifCond .ne 5) 3 32 5 34 := ⟨⟨by decide +kernel, rfl⟩, rfl⟩
theorem e_M_missing_32 : xa_d xP 154 32 (.iconst 1) 1 33 := ⟨by decide +kernel, rfl⟩
theorem e_M_missing_33 : xa_d xP 154 33 (.ireturn) 1 34 := ⟨by decide +kernel, rfl⟩
theorem e_M_missing_34 : xa_d xP 154 34 (.iinc 2 1) 3 37 := ⟨by decide +kernel, rfl⟩
theorem e_M_missing_37 : xa_db xP 154 37 (.goto (-35)) 3 40 (-35) 2 := ⟨⟨by decide +kernel, rfl⟩, rfl⟩
theorem e_M_missing_40 : xa_d xP 154 40 (.iconst 0) 1 41 := ⟨by decide +kernel, rfl⟩
theorem e_M_missing_41 : xa_d xP 154 41 (.ireturn) 1 42 := ⟨by decide +kernel, rfl⟩
theorem e_W_law_0 : xa_d xP 155 0 (.new 8) 3 3 := ⟨by decide +kernel, rfl⟩
theorem e_W_law_3 : xa_d xP 155 3 (.dup) 1 4 := ⟨by decide +kernel, rfl⟩
theorem e_W_law_4 : xa_d xP 155 4 (.invokespecial 73) 3 7 := ⟨by decide +kernel, rfl⟩
theorem e_W_law_7 : xa_d xP 155 7 (.astore_n 1) 1 8 := ⟨by decide +kernel, rfl⟩
theorem e_W_law_8 : xa_d xP 155 8 (.new 74) 3 11 := ⟨by decide +kernel, rfl⟩
theorem e_W_law_11 : xa_d xP 155 11 (.dup) 1 12 := ⟨by decide +kernel, rfl⟩
theorem e_W_law_12 : xa_d xP 155 12 (.invokespecial 76) 3 15 := ⟨by decide +kernel, rfl⟩
theorem e_W_law_15 : xa_d xP 155 15 (.astore_n 2) 1 16 := ⟨by decide +kernel, rfl⟩
theorem e_W_law_16 : xa_d xP 155 16 (.iconst 1) 1 17 := ⟨by decide +kernel, rfl⟩
theorem e_W_law_17 : xa_d xP 155 17 (.newarray .long) 2 19 := ⟨by decide +kernel, rfl⟩
theorem e_W_law_19 : xa_d xP 155 19 (.astore_n 3) 1 20 := ⟨by decide +kernel, rfl⟩
theorem e_W_law_20 : xa_d xP 155 20 (.iconst 0) 1 21 := ⟨by decide +kernel, rfl⟩
theorem e_W_law_21 : xa_d xP 155 21 (.istore 4) 2 23 := ⟨by decide +kernel, rfl⟩
theorem e_W_law_23 : xa_d xP 155 23 (.iload 4) 2 25 := ⟨by decide +kernel, rfl⟩
theorem e_W_law_25 : xa_d xP 155 25 (.aload_n 0) 1 26 := ⟨by decide +kernel, rfl⟩
theorem e_W_law_26 : xa_d xP 155 26 (.arraylength) 1 27 := ⟨by decide +kernel, rfl⟩
theorem e_W_law_27 : xa_d xP 155 27 (.iconst 4) 1 28 := ⟨by decide +kernel, rfl⟩
theorem e_W_law_28 : xa_d xP 155 28 (.isub) 1 29 := ⟨by decide +kernel, rfl⟩
theorem e_W_law_29 : xa_db xP 155 29 (.if_icmp .gt 1111) 3 32 1111 1140 := ⟨⟨by decide +kernel, rfl⟩, rfl⟩
theorem e_W_law_32 : xa_d xP 155 32 (.aload_n 0) 1 33 := ⟨by decide +kernel, rfl⟩
theorem e_W_law_33 : xa_d xP 155 33 (.iload 4) 2 35 := ⟨by decide +kernel, rfl⟩
theorem e_W_law_35 : xa_d xP 155 35 (.iaload) 1 36 := ⟨by decide +kernel, rfl⟩
theorem e_W_law_36 : xa_d xP 155 36 (.bipush 31) 2 38 := ⟨by decide +kernel, rfl⟩
theorem e_W_law_38 : xa_d xP 155 38 (.iand) 1 39 := ⟨by decide +kernel, rfl⟩
theorem e_W_law_39 : xa_d xP 155 39 (.tableswitch 1095 0 17 #[85, 185, 269, 341, 417, 430, 474, 530, 586, 642, 698, 711, 755, 811, 879, 947, 983, 1051]) 85 124 := ⟨by decide +kernel, rfl⟩
theorem e_W_law_124 : xa_d xP 155 124 (.aload_n 1) 1 125 := ⟨by decide +kernel, rfl⟩
theorem e_W_law_125 : xa_d xP 155 125 (.aload_n 0) 1 126 := ⟨by decide +kernel, rfl⟩
theorem e_W_law_126 : xa_d xP 155 126 (.iload 4) 2 128 := ⟨by decide +kernel, rfl⟩
theorem e_W_law_128 : xa_d xP 155 128 (.iconst 1) 1 129 := ⟨by decide +kernel, rfl⟩
theorem e_W_law_129 : xa_d xP 155 129 (.iadd) 1 130 := ⟨by decide +kernel, rfl⟩
theorem e_W_law_130 : xa_d xP 155 130 (.iaload) 1 131 := ⟨by decide +kernel, rfl⟩
theorem e_W_law_131 : xa_db xP 155 131 (.ifCond .eq 7) 3 134 7 138 := ⟨⟨by decide +kernel, rfl⟩, rfl⟩
theorem e_W_law_134 : xa_d xP 155 134 (.iconst 1) 1 135 := ⟨by decide +kernel, rfl⟩
theorem e_W_law_135 : xa_db xP 155 135 (.goto 4) 3 138 4 139 := ⟨⟨by decide +kernel, rfl⟩, rfl⟩
theorem e_W_law_138 : xa_d xP 155 138 (.iconst 0) 1 139 := ⟨by decide +kernel, rfl⟩
theorem e_W_law_139 : xa_d xP 155 139 (.aload_n 0) 1 140 := ⟨by decide +kernel, rfl⟩
theorem e_W_law_140 : xa_d xP 155 140 (.iload 4) 2 142 := ⟨by decide +kernel, rfl⟩
theorem e_W_law_142 : xa_d xP 155 142 (.iconst 2) 1 143 := ⟨by decide +kernel, rfl⟩
theorem e_W_law_143 : xa_d xP 155 143 (.iadd) 1 144 := ⟨by decide +kernel, rfl⟩
theorem e_W_law_144 : xa_d xP 155 144 (.iaload) 1 145 := ⟨by decide +kernel, rfl⟩
theorem e_W_law_145 : xa_db xP 155 145 (.ifCond .eq 7) 3 148 7 152 := ⟨⟨by decide +kernel, rfl⟩, rfl⟩
theorem e_W_law_148 : xa_d xP 155 148 (.iconst 1) 1 149 := ⟨by decide +kernel, rfl⟩
theorem e_W_law_149 : xa_db xP 155 149 (.goto 4) 3 152 4 153 := ⟨⟨by decide +kernel, rfl⟩, rfl⟩
theorem e_W_law_152 : xa_d xP 155 152 (.iconst 0) 1 153 := ⟨by decide +kernel, rfl⟩
theorem e_W_law_153 : xa_d xP 155 153 (.aload_n 3) 1 154 := ⟨by decide +kernel, rfl⟩
theorem e_W_law_154 : xa_d xP 155 154 (.invokestatic 77) 3 157 := ⟨by decide +kernel, rfl⟩
theorem e_W_law_157 : xa_d xP 155 157 (.istore 5) 2 159 := ⟨by decide +kernel, rfl⟩
theorem e_W_law_159 : xa_d xP 155 159 (.aload_n 2) 1 160 := ⟨by decide +kernel, rfl⟩
theorem e_W_law_160 : xa_d xP 155 160 (.aload_n 0) 1 161 := ⟨by decide +kernel, rfl⟩
theorem e_W_law_161 : xa_d xP 155 161 (.iload 4) 2 163 := ⟨by decide +kernel, rfl⟩
theorem e_W_law_163 : xa_d xP 155 163 (.iconst 1) 1 164 := ⟨by decide +kernel, rfl⟩
theorem e_W_law_164 : xa_d xP 155 164 (.iadd) 1 165 := ⟨by decide +kernel, rfl⟩
theorem e_W_law_165 : xa_d xP 155 165 (.iaload) 1 166 := ⟨by decide +kernel, rfl⟩
theorem e_W_law_166 : xa_db xP 155 166 (.ifCond .eq 7) 3 169 7 173 := ⟨⟨by decide +kernel, rfl⟩, rfl⟩
theorem e_W_law_169 : xa_d xP 155 169 (.iconst 1) 1 170 := ⟨by decide +kernel, rfl⟩
theorem e_W_law_170 : xa_db xP 155 170 (.goto 4) 3 173 4 174 := ⟨⟨by decide +kernel, rfl⟩, rfl⟩
theorem e_W_law_173 : xa_d xP 155 173 (.iconst 0) 1 174 := ⟨by decide +kernel, rfl⟩
theorem e_W_law_174 : xa_d xP 155 174 (.aload_n 0) 1 175 := ⟨by decide +kernel, rfl⟩
theorem e_W_law_175 : xa_d xP 155 175 (.iload 4) 2 177 := ⟨by decide +kernel, rfl⟩
theorem e_W_law_177 : xa_d xP 155 177 (.iconst 2) 1 178 := ⟨by decide +kernel, rfl⟩
theorem e_W_law_178 : xa_d xP 155 178 (.iadd) 1 179 := ⟨by decide +kernel, rfl⟩
theorem e_W_law_179 : xa_d xP 155 179 (.iaload) 1 180 := ⟨by decide +kernel, rfl⟩
theorem e_W_law_180 : xa_db xP 155 180 (.ifCond .eq 7) 3 183 7 187 := ⟨⟨by decide +kernel, rfl⟩, rfl⟩
theorem e_W_law_183 : xa_d xP 155 183 (.iconst 1) 1 184 := ⟨by decide +kernel, rfl⟩
theorem e_W_law_184 : xa_db xP 155 184 (.goto 4) 3 187 4 188 := ⟨⟨by decide +kernel, rfl⟩, rfl⟩
theorem e_W_law_187 : xa_d xP 155 187 (.iconst 0) 1 188 := ⟨by decide +kernel, rfl⟩
theorem e_W_law_188 : xa_d xP 155 188 (.invokevirtual 82) 3 191 := ⟨by decide +kernel, rfl⟩
theorem e_W_law_191 : xa_d xP 155 191 (.istore 6) 2 193 := ⟨by decide +kernel, rfl⟩
theorem e_W_law_193 : xa_d xP 155 193 (.aload_n 2) 1 194 := ⟨by decide +kernel, rfl⟩
theorem e_W_law_194 : xa_d xP 155 194 (.invokevirtual 83) 3 197 := ⟨by decide +kernel, rfl⟩
theorem e_W_law_197 : xa_d xP 155 197 (.iload 5) 2 199 := ⟨by decide +kernel, rfl⟩
theorem e_W_law_199 : xa_db xP 155 199 (.if_icmp .eq 5) 3 202 5 204 := ⟨⟨by decide +kernel, rfl⟩, rfl⟩
theorem e_W_law_202 : xa_d xP 155 202 (.iconst 0) 1 203 := ⟨by decide +kernel, rfl⟩
theorem e_W_law_203 : xa_d xP 155 203 (.ireturn) 1 204 := ⟨by decide +kernel, rfl⟩
theorem e_W_law_204 : xa_d xP 155 204 (.iload 5) 2 206 := ⟨by decide +kernel, rfl⟩
theorem e_W_law_206 : xa_db xP 155 206 (.ifCond .ne 15) 3 209 15 221 := ⟨⟨by decide +kernel, rfl⟩, rfl⟩
theorem e_W_law_209 : xa_d xP 155 209 (.aload_n 3) 1 210 := ⟨by decide +kernel, rfl⟩
theorem e_W_law_210 : xa_d xP 155 210 (.iconst 0) 1 211 := ⟨by decide +kernel, rfl⟩
theorem e_W_law_211 : xa_d xP 155 211 (.laload) 1 212 := ⟨by decide +kernel, rfl⟩
theorem e_W_law_212 : xa_d xP 155 212 (.iload 6) 2 214 := ⟨by decide +kernel, rfl⟩
theorem e_W_law_214 : xa_d xP 155 214 (.i2l) 1 215 := ⟨by decide +kernel, rfl⟩
theorem e_W_law_215 : xa_d xP 155 215 (.lcmp) 1 216 := ⟨by decide +kernel, rfl⟩
theorem e_W_law_216 : xa_db xP 155 216 (.ifCond .eq 5) 3 219 5 221 := ⟨⟨by decide +kernel, rfl⟩, rfl⟩
theorem e_W_law_219 : xa_d xP 155 219 (.iconst 0) 1 220 := ⟨by decide +kernel, rfl⟩
theorem e_W_law_220 : xa_d xP 155 220 (.ireturn) 1 221 := ⟨by decide +kernel, rfl⟩
theorem e_W_law_221 : xa_db xP 155 221 (.goto 913) 3 224 913 1134 := ⟨⟨by decide +kernel, rfl⟩, rfl⟩
theorem e_W_law_224 : xa_d xP 155 224 (.aload_n 1) 1 225 := ⟨by decide +kernel, rfl⟩
theorem e_W_law_225 : xa_d xP 155 225 (.aload_n 0) 1 226 := ⟨by decide +kernel, rfl⟩
theorem e_W_law_226 : xa_d xP 155 226 (.iload 4) 2 228 := ⟨by decide +kernel, rfl⟩
theorem e_W_law_228 : xa_d xP 155 228 (.iconst 1) 1 229 := ⟨by decide +kernel, rfl⟩
theorem e_W_law_229 : xa_d xP 155 229 (.iadd) 1 230 := ⟨by decide +kernel, rfl⟩
theorem e_W_law_230 : xa_d xP 155 230 (.iaload) 1 231 := ⟨by decide +kernel, rfl⟩
theorem e_W_law_231 : xa_d xP 155 231 (.aload_n 0) 1 232 := ⟨by decide +kernel, rfl⟩
theorem e_W_law_232 : xa_d xP 155 232 (.iload 4) 2 234 := ⟨by decide +kernel, rfl⟩
theorem e_W_law_234 : xa_d xP 155 234 (.iconst 2) 1 235 := ⟨by decide +kernel, rfl⟩
theorem e_W_law_235 : xa_d xP 155 235 (.iadd) 1 236 := ⟨by decide +kernel, rfl⟩
theorem e_W_law_236 : xa_d xP 155 236 (.iaload) 1 237 := ⟨by decide +kernel, rfl⟩
theorem e_W_law_237 : xa_db xP 155 237 (.ifCond .eq 7) 3 240 7 244 := ⟨⟨by decide +kernel, rfl⟩, rfl⟩
theorem e_W_law_240 : xa_d xP 155 240 (.iconst 1) 1 241 := ⟨by decide +kernel, rfl⟩
theorem e_W_law_241 : xa_db xP 155 241 (.goto 4) 3 244 4 245 := ⟨⟨by decide +kernel, rfl⟩, rfl⟩
theorem e_W_law_244 : xa_d xP 155 244 (.iconst 0) 1 245 := ⟨by decide +kernel, rfl⟩
theorem e_W_law_245 : xa_d xP 155 245 (.aload_n 3) 1 246 := ⟨by decide +kernel, rfl⟩
theorem e_W_law_246 : xa_d xP 155 246 (.invokestatic 86) 3 249 := ⟨by decide +kernel, rfl⟩
theorem e_W_law_249 : xa_d xP 155 249 (.istore 5) 2 251 := ⟨by decide +kernel, rfl⟩
theorem e_W_law_251 : xa_d xP 155 251 (.aload_n 2) 1 252 := ⟨by decide +kernel, rfl⟩
theorem e_W_law_252 : xa_d xP 155 252 (.aload_n 0) 1 253 := ⟨by decide +kernel, rfl⟩
theorem e_W_law_253 : xa_d xP 155 253 (.iload 4) 2 255 := ⟨by decide +kernel, rfl⟩
theorem e_W_law_255 : xa_d xP 155 255 (.iconst 1) 1 256 := ⟨by decide +kernel, rfl⟩
theorem e_W_law_256 : xa_d xP 155 256 (.iadd) 1 257 := ⟨by decide +kernel, rfl⟩
theorem e_W_law_257 : xa_d xP 155 257 (.iaload) 1 258 := ⟨by decide +kernel, rfl⟩
theorem e_W_law_258 : xa_d xP 155 258 (.aload_n 0) 1 259 := ⟨by decide +kernel, rfl⟩
theorem e_W_law_259 : xa_d xP 155 259 (.iload 4) 2 261 := ⟨by decide +kernel, rfl⟩
theorem e_W_law_261 : xa_d xP 155 261 (.iconst 2) 1 262 := ⟨by decide +kernel, rfl⟩
theorem e_W_law_262 : xa_d xP 155 262 (.iadd) 1 263 := ⟨by decide +kernel, rfl⟩
theorem e_W_law_263 : xa_d xP 155 263 (.iaload) 1 264 := ⟨by decide +kernel, rfl⟩
theorem e_W_law_264 : xa_db xP 155 264 (.ifCond .eq 7) 3 267 7 271 := ⟨⟨by decide +kernel, rfl⟩, rfl⟩
theorem e_W_law_267 : xa_d xP 155 267 (.iconst 1) 1 268 := ⟨by decide +kernel, rfl⟩
theorem e_W_law_268 : xa_db xP 155 268 (.goto 4) 3 271 4 272 := ⟨⟨by decide +kernel, rfl⟩, rfl⟩
theorem e_W_law_271 : xa_d xP 155 271 (.iconst 0) 1 272 := ⟨by decide +kernel, rfl⟩
theorem e_W_law_272 : xa_d xP 155 272 (.invokevirtual 89) 3 275 := ⟨by decide +kernel, rfl⟩
theorem e_W_law_275 : xa_d xP 155 275 (.istore 6) 2 277 := ⟨by decide +kernel, rfl⟩
theorem e_W_law_277 : xa_d xP 155 277 (.aload_n 2) 1 278 := ⟨by decide +kernel, rfl⟩
theorem e_W_law_278 : xa_d xP 155 278 (.invokevirtual 83) 3 281 := ⟨by decide +kernel, rfl⟩
theorem e_W_law_281 : xa_d xP 155 281 (.iload 5) 2 283 := ⟨by decide +kernel, rfl⟩
theorem e_W_law_283 : xa_db xP 155 283 (.if_icmp .eq 5) 3 286 5 288 := ⟨⟨by decide +kernel, rfl⟩, rfl⟩
theorem e_W_law_286 : xa_d xP 155 286 (.iconst 0) 1 287 := ⟨by decide +kernel, rfl⟩
theorem e_W_law_287 : xa_d xP 155 287 (.ireturn) 1 288 := ⟨by decide +kernel, rfl⟩
theorem e_W_law_288 : xa_d xP 155 288 (.iload 5) 2 290 := ⟨by decide +kernel, rfl⟩
theorem e_W_law_290 : xa_db xP 155 290 (.ifCond .ne 15) 3 293 15 305 := ⟨⟨by decide +kernel, rfl⟩, rfl⟩
theorem e_W_law_293 : xa_d xP 155 293 (.aload_n 3) 1 294 := ⟨by decide +kernel, rfl⟩
theorem e_W_law_294 : xa_d xP 155 294 (.iconst 0) 1 295 := ⟨by decide +kernel, rfl⟩
theorem e_W_law_295 : xa_d xP 155 295 (.laload) 1 296 := ⟨by decide +kernel, rfl⟩
theorem e_W_law_296 : xa_d xP 155 296 (.iload 6) 2 298 := ⟨by decide +kernel, rfl⟩
theorem e_W_law_298 : xa_d xP 155 298 (.i2l) 1 299 := ⟨by decide +kernel, rfl⟩
theorem e_W_law_299 : xa_d xP 155 299 (.lcmp) 1 300 := ⟨by decide +kernel, rfl⟩
theorem e_W_law_300 : xa_db xP 155 300 (.ifCond .eq 5) 3 303 5 305 := ⟨⟨by decide +kernel, rfl⟩, rfl⟩
theorem e_W_law_303 : xa_d xP 155 303 (.iconst 0) 1 304 := ⟨by decide +kernel, rfl⟩
theorem e_W_law_304 : xa_d xP 155 304 (.ireturn) 1 305 := ⟨by decide +kernel, rfl⟩
theorem e_W_law_305 : xa_db xP 155 305 (.goto 829) 3 308 829 1134 := ⟨⟨by decide +kernel, rfl⟩, rfl⟩
theorem e_W_law_308 : xa_d xP 155 308 (.aload_n 1) 1 309 := ⟨by decide +kernel, rfl⟩
theorem e_W_law_309 : xa_d xP 155 309 (.aload_n 0) 1 310 := ⟨by decide +kernel, rfl⟩
theorem e_W_law_310 : xa_d xP 155 310 (.iload 4) 2 312 := ⟨by decide +kernel, rfl⟩
theorem e_W_law_312 : xa_d xP 155 312 (.iconst 1) 1 313 := ⟨by decide +kernel, rfl⟩
theorem e_W_law_313 : xa_d xP 155 313 (.iadd) 1 314 := ⟨by decide +kernel, rfl⟩
theorem e_W_law_314 : xa_d xP 155 314 (.iaload) 1 315 := ⟨by decide +kernel, rfl⟩
theorem e_W_law_315 : xa_db xP 155 315 (.ifCond .eq 7) 3 318 7 322 := ⟨⟨by decide +kernel, rfl⟩, rfl⟩
theorem e_W_law_318 : xa_d xP 155 318 (.iconst 1) 1 319 := ⟨by decide +kernel, rfl⟩
theorem e_W_law_319 : xa_db xP 155 319 (.goto 4) 3 322 4 323 := ⟨⟨by decide +kernel, rfl⟩, rfl⟩
theorem e_W_law_322 : xa_d xP 155 322 (.iconst 0) 1 323 := ⟨by decide +kernel, rfl⟩
theorem e_W_law_323 : xa_d xP 155 323 (.aload_n 3) 1 324 := ⟨by decide +kernel, rfl⟩
theorem e_W_law_324 : xa_d xP 155 324 (.invokestatic 90) 3 327 := ⟨by decide +kernel, rfl⟩
theorem e_W_law_327 : xa_d xP 155 327 (.istore 5) 2 329 := ⟨by decide +kernel, rfl⟩
theorem e_W_law_329 : xa_d xP 155 329 (.aload_n 2) 1 330 := ⟨by decide +kernel, rfl⟩
theorem e_W_law_330 : xa_d xP 155 330 (.aload_n 0) 1 331 := ⟨by decide +kernel, rfl⟩
theorem e_W_law_331 : xa_d xP 155 331 (.iload 4) 2 333 := ⟨by decide +kernel, rfl⟩
theorem e_W_law_333 : xa_d xP 155 333 (.iconst 1) 1 334 := ⟨by decide +kernel, rfl⟩
theorem e_W_law_334 : xa_d xP 155 334 (.iadd) 1 335 := ⟨by decide +kernel, rfl⟩
theorem e_W_law_335 : xa_d xP 155 335 (.iaload) 1 336 := ⟨by decide +kernel, rfl⟩
theorem e_W_law_336 : xa_db xP 155 336 (.ifCond .eq 7) 3 339 7 343 := ⟨⟨by decide +kernel, rfl⟩, rfl⟩
theorem e_W_law_339 : xa_d xP 155 339 (.iconst 1) 1 340 := ⟨by decide +kernel, rfl⟩
theorem e_W_law_340 : xa_db xP 155 340 (.goto 4) 3 343 4 344 := ⟨⟨by decide +kernel, rfl⟩, rfl⟩
theorem e_W_law_343 : xa_d xP 155 343 (.iconst 0) 1 344 := ⟨by decide +kernel, rfl⟩
theorem e_W_law_344 : xa_d xP 155 344 (.invokevirtual 93) 3 347 := ⟨by decide +kernel, rfl⟩
theorem e_W_law_347 : xa_d xP 155 347 (.istore 6) 2 349 := ⟨by decide +kernel, rfl⟩
theorem e_W_law_349 : xa_d xP 155 349 (.aload_n 2) 1 350 := ⟨by decide +kernel, rfl⟩
theorem e_W_law_350 : xa_d xP 155 350 (.invokevirtual 83) 3 353 := ⟨by decide +kernel, rfl⟩
theorem e_W_law_353 : xa_d xP 155 353 (.iload 5) 2 355 := ⟨by decide +kernel, rfl⟩
theorem e_W_law_355 : xa_db xP 155 355 (.if_icmp .eq 5) 3 358 5 360 := ⟨⟨by decide +kernel, rfl⟩, rfl⟩
theorem e_W_law_358 : xa_d xP 155 358 (.iconst 0) 1 359 := ⟨by decide +kernel, rfl⟩
theorem e_W_law_359 : xa_d xP 155 359 (.ireturn) 1 360 := ⟨by decide +kernel, rfl⟩
theorem e_W_law_360 : xa_d xP 155 360 (.iload 5) 2 362 := ⟨by decide +kernel, rfl⟩
theorem e_W_law_362 : xa_db xP 155 362 (.ifCond .ne 15) 3 365 15 377 := ⟨⟨by decide +kernel, rfl⟩, rfl⟩
theorem e_W_law_365 : xa_d xP 155 365 (.aload_n 3) 1 366 := ⟨by decide +kernel, rfl⟩
theorem e_W_law_366 : xa_d xP 155 366 (.iconst 0) 1 367 := ⟨by decide +kernel, rfl⟩
theorem e_W_law_367 : xa_d xP 155 367 (.laload) 1 368 := ⟨by decide +kernel, rfl⟩
theorem e_W_law_368 : xa_d xP 155 368 (.iload 6) 2 370 := ⟨by decide +kernel, rfl⟩
theorem e_W_law_370 : xa_d xP 155 370 (.i2l) 1 371 := ⟨by decide +kernel, rfl⟩
theorem e_W_law_371 : xa_d xP 155 371 (.lcmp) 1 372 := ⟨by decide +kernel, rfl⟩
theorem e_W_law_372 : xa_db xP 155 372 (.ifCond .eq 5) 3 375 5 377 := ⟨⟨by decide +kernel, rfl⟩, rfl⟩
theorem e_W_law_375 : xa_d xP 155 375 (.iconst 0) 1 376 := ⟨by decide +kernel, rfl⟩
theorem e_W_law_376 : xa_d xP 155 376 (.ireturn) 1 377 := ⟨by decide +kernel, rfl⟩
theorem e_W_law_377 : xa_db xP 155 377 (.goto 757) 3 380 757 1134 := ⟨⟨by decide +kernel, rfl⟩, rfl⟩
theorem e_W_law_380 : xa_d xP 155 380 (.aload_n 1) 1 381 := ⟨by decide +kernel, rfl⟩
theorem e_W_law_381 : xa_d xP 155 381 (.aload_n 0) 1 382 := ⟨by decide +kernel, rfl⟩
theorem e_W_law_382 : xa_d xP 155 382 (.iload 4) 2 384 := ⟨by decide +kernel, rfl⟩
theorem e_W_law_384 : xa_d xP 155 384 (.iconst 1) 1 385 := ⟨by decide +kernel, rfl⟩
theorem e_W_law_385 : xa_d xP 155 385 (.iadd) 1 386 := ⟨by decide +kernel, rfl⟩
theorem e_W_law_386 : xa_d xP 155 386 (.iaload) 1 387 := ⟨by decide +kernel, rfl⟩
theorem e_W_law_387 : xa_d xP 155 387 (.aload_n 0) 1 388 := ⟨by decide +kernel, rfl⟩
theorem e_W_law_388 : xa_d xP 155 388 (.iload 4) 2 390 := ⟨by decide +kernel, rfl⟩
theorem e_W_law_390 : xa_d xP 155 390 (.iconst 2) 1 391 := ⟨by decide +kernel, rfl⟩
theorem e_W_law_391 : xa_d xP 155 391 (.iadd) 1 392 := ⟨by decide +kernel, rfl⟩
theorem e_W_law_392 : xa_d xP 155 392 (.iaload) 1 393 := ⟨by decide +kernel, rfl⟩
theorem e_W_law_393 : xa_d xP 155 393 (.aload_n 0) 1 394 := ⟨by decide +kernel, rfl⟩
theorem e_W_law_394 : xa_d xP 155 394 (.iload 4) 2 396 := ⟨by decide +kernel, rfl⟩
theorem e_W_law_396 : xa_d xP 155 396 (.iconst 3) 1 397 := ⟨by decide +kernel, rfl⟩
theorem e_W_law_397 : xa_d xP 155 397 (.iadd) 1 398 := ⟨by decide +kernel, rfl⟩
theorem e_W_law_398 : xa_d xP 155 398 (.iaload) 1 399 := ⟨by decide +kernel, rfl⟩
theorem e_W_law_399 : xa_db xP 155 399 (.ifCond .eq 7) 3 402 7 406 := ⟨⟨by decide +kernel, rfl⟩, rfl⟩
theorem e_W_law_402 : xa_d xP 155 402 (.iconst 1) 1 403 := ⟨by decide +kernel, rfl⟩
theorem e_W_law_403 : xa_db xP 155 403 (.goto 4) 3 406 4 407 := ⟨⟨by decide +kernel, rfl⟩, rfl⟩
theorem e_W_law_406 : xa_d xP 155 406 (.iconst 0) 1 407 := ⟨by decide +kernel, rfl⟩
theorem e_W_law_407 : xa_d xP 155 407 (.invokestatic 94) 3 410 := ⟨by decide +kernel, rfl⟩
theorem e_W_law_410 : xa_d xP 155 410 (.istore 5) 2 412 := ⟨by decide +kernel, rfl⟩
theorem e_W_law_412 : xa_d xP 155 412 (.aload_n 2) 1 413 := ⟨by decide +kernel, rfl⟩
theorem e_W_law_413 : xa_d xP 155 413 (.aload_n 0) 1 414 := ⟨by decide +kernel, rfl⟩
theorem e_W_law_414 : xa_d xP 155 414 (.iload 4) 2 416 := ⟨by decide +kernel, rfl⟩
theorem e_W_law_416 : xa_d xP 155 416 (.iconst 1) 1 417 := ⟨by decide +kernel, rfl⟩
theorem e_W_law_417 : xa_d xP 155 417 (.iadd) 1 418 := ⟨by decide +kernel, rfl⟩
theorem e_W_law_418 : xa_d xP 155 418 (.iaload) 1 419 := ⟨by decide +kernel, rfl⟩
theorem e_W_law_419 : xa_d xP 155 419 (.aload_n 0) 1 420 := ⟨by decide +kernel, rfl⟩
theorem e_W_law_420 : xa_d xP 155 420 (.iload 4) 2 422 := ⟨by decide +kernel, rfl⟩
theorem e_W_law_422 : xa_d xP 155 422 (.iconst 2) 1 423 := ⟨by decide +kernel, rfl⟩
theorem e_W_law_423 : xa_d xP 155 423 (.iadd) 1 424 := ⟨by decide +kernel, rfl⟩
theorem e_W_law_424 : xa_d xP 155 424 (.iaload) 1 425 := ⟨by decide +kernel, rfl⟩
theorem e_W_law_425 : xa_d xP 155 425 (.aload_n 0) 1 426 := ⟨by decide +kernel, rfl⟩
theorem e_W_law_426 : xa_d xP 155 426 (.iload 4) 2 428 := ⟨by decide +kernel, rfl⟩
theorem e_W_law_428 : xa_d xP 155 428 (.iconst 3) 1 429 := ⟨by decide +kernel, rfl⟩
theorem e_W_law_429 : xa_d xP 155 429 (.iadd) 1 430 := ⟨by decide +kernel, rfl⟩
theorem e_W_law_430 : xa_d xP 155 430 (.iaload) 1 431 := ⟨by decide +kernel, rfl⟩
theorem e_W_law_431 : xa_db xP 155 431 (.ifCond .eq 7) 3 434 7 438 := ⟨⟨by decide +kernel, rfl⟩, rfl⟩
theorem e_W_law_434 : xa_d xP 155 434 (.iconst 1) 1 435 := ⟨by decide +kernel, rfl⟩
theorem e_W_law_435 : xa_db xP 155 435 (.goto 4) 3 438 4 439 := ⟨⟨by decide +kernel, rfl⟩, rfl⟩
theorem e_W_law_438 : xa_d xP 155 438 (.iconst 0) 1 439 := ⟨by decide +kernel, rfl⟩
theorem e_W_law_439 : xa_d xP 155 439 (.invokevirtual 97) 3 442 := ⟨by decide +kernel, rfl⟩
theorem e_W_law_442 : xa_d xP 155 442 (.aload_n 2) 1 443 := ⟨by decide +kernel, rfl⟩
theorem e_W_law_443 : xa_d xP 155 443 (.invokevirtual 83) 3 446 := ⟨by decide +kernel, rfl⟩
theorem e_W_law_446 : xa_d xP 155 446 (.iload 5) 2 448 := ⟨by decide +kernel, rfl⟩
theorem e_W_law_448 : xa_db xP 155 448 (.if_icmp .eq 5) 3 451 5 453 := ⟨⟨by decide +kernel, rfl⟩, rfl⟩
theorem e_W_law_451 : xa_d xP 155 451 (.iconst 0) 1 452 := ⟨by decide +kernel, rfl⟩
theorem e_W_law_452 : xa_d xP 155 452 (.ireturn) 1 453 := ⟨by decide +kernel, rfl⟩
theorem e_W_law_453 : xa_db xP 155 453 (.goto 681) 3 456 681 1134 := ⟨⟨by decide +kernel, rfl⟩, rfl⟩
theorem e_W_law_456 : xa_d xP 155 456 (.aload_n 1) 1 457 := ⟨by decide +kernel, rfl⟩
theorem e_W_law_457 : xa_d xP 155 457 (.invokevirtual 98) 3 460 := ⟨by decide +kernel, rfl⟩
theorem e_W_law_460 : xa_d xP 155 460 (.aload_n 2) 1 461 := ⟨by decide +kernel, rfl⟩
theorem e_W_law_461 : xa_d xP 155 461 (.invokevirtual 101) 3 464 := ⟨by decide +kernel, rfl⟩
theorem e_W_law_464 : xa_db xP 155 464 (.if_icmp .eq 670) 3 467 670 1134 := ⟨⟨by decide +kernel, rfl⟩, rfl⟩
theorem e_W_law_467 : xa_d xP 155 467 (.iconst 0) 1 468 := ⟨by decide +kernel, rfl⟩
theorem e_W_law_468 : xa_d xP 155 468 (.ireturn) 1 469 := ⟨by decide +kernel, rfl⟩
theorem e_W_law_469 : xa_d xP 155 469 (.aload_n 1) 1 470 := ⟨by decide +kernel, rfl⟩
theorem e_W_law_470 : xa_d xP 155 470 (.aload_n 3) 1 471 := ⟨by decide +kernel, rfl⟩
theorem e_W_law_471 : xa_d xP 155 471 (.invokestatic 102) 3 474 := ⟨by decide +kernel, rfl⟩
theorem e_W_law_474 : xa_d xP 155 474 (.istore 5) 2 476 := ⟨by decide +kernel, rfl⟩
theorem e_W_law_476 : xa_d xP 155 476 (.aload_n 2) 1 477 := ⟨by decide +kernel, rfl⟩
theorem e_W_law_477 : xa_d xP 155 477 (.invokevirtual 105) 3 480 := ⟨by decide +kernel, rfl⟩
theorem e_W_law_480 : xa_d xP 155 480 (.istore 6) 2 482 := ⟨by decide +kernel, rfl⟩
theorem e_W_law_482 : xa_d xP 155 482 (.aload_n 2) 1 483 := ⟨by decide +kernel, rfl⟩
theorem e_W_law_483 : xa_d xP 155 483 (.invokevirtual 83) 3 486 := ⟨by decide +kernel, rfl⟩
theorem e_W_law_486 : xa_d xP 155 486 (.iload 5) 2 488 := ⟨by decide +kernel, rfl⟩
theorem e_W_law_488 : xa_db xP 155 488 (.if_icmp .eq 5) 3 491 5 493 := ⟨⟨by decide +kernel, rfl⟩, rfl⟩
theorem e_W_law_491 : xa_d xP 155 491 (.iconst 0) 1 492 := ⟨by decide +kernel, rfl⟩
theorem e_W_law_492 : xa_d xP 155 492 (.ireturn) 1 493 := ⟨by decide +kernel, rfl⟩
theorem e_W_law_493 : xa_d xP 155 493 (.iload 5) 2 495 := ⟨by decide +kernel, rfl⟩
theorem e_W_law_495 : xa_db xP 155 495 (.ifCond .ne 15) 3 498 15 510 := ⟨⟨by decide +kernel, rfl⟩, rfl⟩
theorem e_W_law_498 : xa_d xP 155 498 (.aload_n 3) 1 499 := ⟨by decide +kernel, rfl⟩
theorem e_W_law_499 : xa_d xP 155 499 (.iconst 0) 1 500 := ⟨by decide +kernel, rfl⟩
theorem e_W_law_500 : xa_d xP 155 500 (.laload) 1 501 := ⟨by decide +kernel, rfl⟩
theorem e_W_law_501 : xa_d xP 155 501 (.iload 6) 2 503 := ⟨by decide +kernel, rfl⟩
theorem e_W_law_503 : xa_d xP 155 503 (.i2l) 1 504 := ⟨by decide +kernel, rfl⟩
theorem e_W_law_504 : xa_d xP 155 504 (.lcmp) 1 505 := ⟨by decide +kernel, rfl⟩
theorem e_W_law_505 : xa_db xP 155 505 (.ifCond .eq 5) 3 508 5 510 := ⟨⟨by decide +kernel, rfl⟩, rfl⟩
theorem e_W_law_508 : xa_d xP 155 508 (.iconst 0) 1 509 := ⟨by decide +kernel, rfl⟩
theorem e_W_law_509 : xa_d xP 155 509 (.ireturn) 1 510 := ⟨by decide +kernel, rfl⟩
theorem e_W_law_510 : xa_db xP 155 510 (.goto 624) 3 513 624 1134 := ⟨⟨by decide +kernel, rfl⟩, rfl⟩
theorem e_W_law_513 : xa_d xP 155 513 (.aload_n 1) 1 514 := ⟨by decide +kernel, rfl⟩
theorem e_W_law_514 : xa_d xP 155 514 (.aload_n 0) 1 515 := ⟨by decide +kernel, rfl⟩
theorem e_W_law_515 : xa_d xP 155 515 (.iload 4) 2 517 := ⟨by decide +kernel, rfl⟩
theorem e_W_law_517 : xa_d xP 155 517 (.iconst 1) 1 518 := ⟨by decide +kernel, rfl⟩
theorem e_W_law_518 : xa_d xP 155 518 (.iadd) 1 519 := ⟨by decide +kernel, rfl⟩
theorem e_W_law_519 : xa_d xP 155 519 (.iaload) 1 520 := ⟨by decide +kernel, rfl⟩
theorem e_W_law_520 : xa_d xP 155 520 (.aload_n 3) 1 521 := ⟨by decide +kernel, rfl⟩
theorem e_W_law_521 : xa_d xP 155 521 (.invokestatic 106) 3 524 := ⟨by decide +kernel, rfl⟩
theorem e_W_law_524 : xa_d xP 155 524 (.istore 5) 2 526 := ⟨by decide +kernel, rfl⟩
theorem e_W_law_526 : xa_d xP 155 526 (.aload_n 2) 1 527 := ⟨by decide +kernel, rfl⟩
theorem e_W_law_527 : xa_d xP 155 527 (.aload_n 0) 1 528 := ⟨by decide +kernel, rfl⟩
theorem e_W_law_528 : xa_d xP 155 528 (.iload 4) 2 530 := ⟨by decide +kernel, rfl⟩
theorem e_W_law_530 : xa_d xP 155 530 (.iconst 1) 1 531 := ⟨by decide +kernel, rfl⟩
theorem e_W_law_531 : xa_d xP 155 531 (.iadd) 1 532 := ⟨by decide +kernel, rfl⟩
theorem e_W_law_532 : xa_d xP 155 532 (.iaload) 1 533 := ⟨by decide +kernel, rfl⟩
theorem e_W_law_533 : xa_d xP 155 533 (.invokevirtual 109) 3 536 := ⟨by decide +kernel, rfl⟩
theorem e_W_law_536 : xa_d xP 155 536 (.istore 6) 2 538 := ⟨by decide +kernel, rfl⟩
theorem e_W_law_538 : xa_d xP 155 538 (.aload_n 2) 1 539 := ⟨by decide +kernel, rfl⟩
theorem e_W_law_539 : xa_d xP 155 539 (.invokevirtual 83) 3 542 := ⟨by decide +kernel, rfl⟩
theorem e_W_law_542 : xa_d xP 155 542 (.iload 5) 2 544 := ⟨by decide +kernel, rfl⟩
theorem e_W_law_544 : xa_db xP 155 544 (.if_icmp .eq 5) 3 547 5 549 := ⟨⟨by decide +kernel, rfl⟩, rfl⟩
theorem e_W_law_547 : xa_d xP 155 547 (.iconst 0) 1 548 := ⟨by decide +kernel, rfl⟩
theorem e_W_law_548 : xa_d xP 155 548 (.ireturn) 1 549 := ⟨by decide +kernel, rfl⟩
theorem e_W_law_549 : xa_d xP 155 549 (.iload 5) 2 551 := ⟨by decide +kernel, rfl⟩
theorem e_W_law_551 : xa_db xP 155 551 (.ifCond .ne 15) 3 554 15 566 := ⟨⟨by decide +kernel, rfl⟩, rfl⟩
theorem e_W_law_554 : xa_d xP 155 554 (.aload_n 3) 1 555 := ⟨by decide +kernel, rfl⟩
theorem e_W_law_555 : xa_d xP 155 555 (.iconst 0) 1 556 := ⟨by decide +kernel, rfl⟩
theorem e_W_law_556 : xa_d xP 155 556 (.laload) 1 557 := ⟨by decide +kernel, rfl⟩
theorem e_W_law_557 : xa_d xP 155 557 (.iload 6) 2 559 := ⟨by decide +kernel, rfl⟩
theorem e_W_law_559 : xa_d xP 155 559 (.i2l) 1 560 := ⟨by decide +kernel, rfl⟩
theorem e_W_law_560 : xa_d xP 155 560 (.lcmp) 1 561 := ⟨by decide +kernel, rfl⟩
theorem e_W_law_561 : xa_db xP 155 561 (.ifCond .eq 5) 3 564 5 566 := ⟨⟨by decide +kernel, rfl⟩, rfl⟩
theorem e_W_law_564 : xa_d xP 155 564 (.iconst 0) 1 565 := ⟨by decide +kernel, rfl⟩
theorem e_W_law_565 : xa_d xP 155 565 (.ireturn) 1 566 := ⟨by decide +kernel, rfl⟩
theorem e_W_law_566 : xa_db xP 155 566 (.goto 568) 3 569 568 1134 := ⟨⟨by decide +kernel, rfl⟩, rfl⟩
theorem e_W_law_569 : xa_d xP 155 569 (.aload_n 1) 1 570 := ⟨by decide +kernel, rfl⟩
end
section
/-! Decode rows (printed by wip/whole/gen_prog.py). -/
theorem e_W_law_570 : xa_d xP 155 570 (.aload_n 0) 1 571 := ⟨by decide +kernel, rfl⟩
theorem e_W_law_571 : xa_d xP 155 571 (.iload 4) 2 573 := ⟨by decide +kernel, rfl⟩
theorem e_W_law_573 : xa_d xP 155 573 (.iconst 1) 1 574 := ⟨by decide +kernel, rfl⟩
theorem e_W_law_574 : xa_d xP 155 574 (.iadd) 1 575 := ⟨by decide +kernel, rfl⟩
theorem e_W_law_575 : xa_d xP 155 575 (.iaload) 1 576 := ⟨by decide +kernel, rfl⟩
theorem e_W_law_576 : xa_d xP 155 576 (.aload_n 3) 1 577 := ⟨by decide +kernel, rfl⟩
theorem e_W_law_577 : xa_d xP 155 577 (.invokestatic 110) 3 580 := ⟨by decide +kernel, rfl⟩
theorem e_W_law_580 : xa_d xP 155 580 (.istore 5) 2 582 := ⟨by decide +kernel, rfl⟩
theorem e_W_law_582 : xa_d xP 155 582 (.aload_n 2) 1 583 := ⟨by decide +kernel, rfl⟩
theorem e_W_law_583 : xa_d xP 155 583 (.aload_n 0) 1 584 := ⟨by decide +kernel, rfl⟩
theorem e_W_law_584 : xa_d xP 155 584 (.iload 4) 2 586 := ⟨by decide +kernel, rfl⟩
theorem e_W_law_586 : xa_d xP 155 586 (.iconst 1) 1 587 := ⟨by decide +kernel, rfl⟩
theorem e_W_law_587 : xa_d xP 155 587 (.iadd) 1 588 := ⟨by decide +kernel, rfl⟩
theorem e_W_law_588 : xa_d xP 155 588 (.iaload) 1 589 := ⟨by decide +kernel, rfl⟩
theorem e_W_law_589 : xa_d xP 155 589 (.invokevirtual 112) 3 592 := ⟨by decide +kernel, rfl⟩
theorem e_W_law_592 : xa_d xP 155 592 (.istore 6) 2 594 := ⟨by decide +kernel, rfl⟩
theorem e_W_law_594 : xa_d xP 155 594 (.aload_n 2) 1 595 := ⟨by decide +kernel, rfl⟩
theorem e_W_law_595 : xa_d xP 155 595 (.invokevirtual 83) 3 598 := ⟨by decide +kernel, rfl⟩
theorem e_W_law_598 : xa_d xP 155 598 (.iload 5) 2 600 := ⟨by decide +kernel, rfl⟩
theorem e_W_law_600 : xa_db xP 155 600 (.if_icmp .eq 5) 3 603 5 605 := ⟨⟨by decide +kernel, rfl⟩, rfl⟩
theorem e_W_law_603 : xa_d xP 155 603 (.iconst 0) 1 604 := ⟨by decide +kernel, rfl⟩
theorem e_W_law_604 : xa_d xP 155 604 (.ireturn) 1 605 := ⟨by decide +kernel, rfl⟩
theorem e_W_law_605 : xa_d xP 155 605 (.iload 5) 2 607 := ⟨by decide +kernel, rfl⟩
theorem e_W_law_607 : xa_db xP 155 607 (.ifCond .ne 15) 3 610 15 622 := ⟨⟨by decide +kernel, rfl⟩, rfl⟩
theorem e_W_law_610 : xa_d xP 155 610 (.aload_n 3) 1 611 := ⟨by decide +kernel, rfl⟩
theorem e_W_law_611 : xa_d xP 155 611 (.iconst 0) 1 612 := ⟨by decide +kernel, rfl⟩
theorem e_W_law_612 : xa_d xP 155 612 (.laload) 1 613 := ⟨by decide +kernel, rfl⟩
theorem e_W_law_613 : xa_d xP 155 613 (.iload 6) 2 615 := ⟨by decide +kernel, rfl⟩
theorem e_W_law_615 : xa_d xP 155 615 (.i2l) 1 616 := ⟨by decide +kernel, rfl⟩
theorem e_W_law_616 : xa_d xP 155 616 (.lcmp) 1 617 := ⟨by decide +kernel, rfl⟩
theorem e_W_law_617 : xa_db xP 155 617 (.ifCond .eq 5) 3 620 5 622 := ⟨⟨by decide +kernel, rfl⟩, rfl⟩
theorem e_W_law_620 : xa_d xP 155 620 (.iconst 0) 1 621 := ⟨by decide +kernel, rfl⟩
theorem e_W_law_621 : xa_d xP 155 621 (.ireturn) 1 622 := ⟨by decide +kernel, rfl⟩
theorem e_W_law_622 : xa_db xP 155 622 (.goto 512) 3 625 512 1134 := ⟨⟨by decide +kernel, rfl⟩, rfl⟩
theorem e_W_law_625 : xa_d xP 155 625 (.aload_n 1) 1 626 := ⟨by decide +kernel, rfl⟩
theorem e_W_law_626 : xa_d xP 155 626 (.aload_n 0) 1 627 := ⟨by decide +kernel, rfl⟩
theorem e_W_law_627 : xa_d xP 155 627 (.iload 4) 2 629 := ⟨by decide +kernel, rfl⟩
theorem e_W_law_629 : xa_d xP 155 629 (.iconst 1) 1 630 := ⟨by decide +kernel, rfl⟩
theorem e_W_law_630 : xa_d xP 155 630 (.iadd) 1 631 := ⟨by decide +kernel, rfl⟩
theorem e_W_law_631 : xa_d xP 155 631 (.iaload) 1 632 := ⟨by decide +kernel, rfl⟩
theorem e_W_law_632 : xa_d xP 155 632 (.aload_n 3) 1 633 := ⟨by decide +kernel, rfl⟩
theorem e_W_law_633 : xa_d xP 155 633 (.invokestatic 113) 3 636 := ⟨by decide +kernel, rfl⟩
theorem e_W_law_636 : xa_d xP 155 636 (.istore 5) 2 638 := ⟨by decide +kernel, rfl⟩
theorem e_W_law_638 : xa_d xP 155 638 (.aload_n 2) 1 639 := ⟨by decide +kernel, rfl⟩
theorem e_W_law_639 : xa_d xP 155 639 (.aload_n 0) 1 640 := ⟨by decide +kernel, rfl⟩
theorem e_W_law_640 : xa_d xP 155 640 (.iload 4) 2 642 := ⟨by decide +kernel, rfl⟩
theorem e_W_law_642 : xa_d xP 155 642 (.iconst 1) 1 643 := ⟨by decide +kernel, rfl⟩
theorem e_W_law_643 : xa_d xP 155 643 (.iadd) 1 644 := ⟨by decide +kernel, rfl⟩
theorem e_W_law_644 : xa_d xP 155 644 (.iaload) 1 645 := ⟨by decide +kernel, rfl⟩
theorem e_W_law_645 : xa_d xP 155 645 (.invokevirtual 115) 3 648 := ⟨by decide +kernel, rfl⟩
theorem e_W_law_648 : xa_d xP 155 648 (.istore 6) 2 650 := ⟨by decide +kernel, rfl⟩
theorem e_W_law_650 : xa_d xP 155 650 (.aload_n 2) 1 651 := ⟨by decide +kernel, rfl⟩
theorem e_W_law_651 : xa_d xP 155 651 (.invokevirtual 83) 3 654 := ⟨by decide +kernel, rfl⟩
theorem e_W_law_654 : xa_d xP 155 654 (.iload 5) 2 656 := ⟨by decide +kernel, rfl⟩
theorem e_W_law_656 : xa_db xP 155 656 (.if_icmp .eq 5) 3 659 5 661 := ⟨⟨by decide +kernel, rfl⟩, rfl⟩
theorem e_W_law_659 : xa_d xP 155 659 (.iconst 0) 1 660 := ⟨by decide +kernel, rfl⟩
theorem e_W_law_660 : xa_d xP 155 660 (.ireturn) 1 661 := ⟨by decide +kernel, rfl⟩
theorem e_W_law_661 : xa_d xP 155 661 (.iload 5) 2 663 := ⟨by decide +kernel, rfl⟩
theorem e_W_law_663 : xa_db xP 155 663 (.ifCond .ne 15) 3 666 15 678 := ⟨⟨by decide +kernel, rfl⟩, rfl⟩
theorem e_W_law_666 : xa_d xP 155 666 (.aload_n 3) 1 667 := ⟨by decide +kernel, rfl⟩
theorem e_W_law_667 : xa_d xP 155 667 (.iconst 0) 1 668 := ⟨by decide +kernel, rfl⟩
theorem e_W_law_668 : xa_d xP 155 668 (.laload) 1 669 := ⟨by decide +kernel, rfl⟩
theorem e_W_law_669 : xa_d xP 155 669 (.iload 6) 2 671 := ⟨by decide +kernel, rfl⟩
theorem e_W_law_671 : xa_d xP 155 671 (.i2l) 1 672 := ⟨by decide +kernel, rfl⟩
theorem e_W_law_672 : xa_d xP 155 672 (.lcmp) 1 673 := ⟨by decide +kernel, rfl⟩
theorem e_W_law_673 : xa_db xP 155 673 (.ifCond .eq 5) 3 676 5 678 := ⟨⟨by decide +kernel, rfl⟩, rfl⟩
theorem e_W_law_676 : xa_d xP 155 676 (.iconst 0) 1 677 := ⟨by decide +kernel, rfl⟩
theorem e_W_law_677 : xa_d xP 155 677 (.ireturn) 1 678 := ⟨by decide +kernel, rfl⟩
theorem e_W_law_678 : xa_db xP 155 678 (.goto 456) 3 681 456 1134 := ⟨⟨by decide +kernel, rfl⟩, rfl⟩
theorem e_W_law_681 : xa_d xP 155 681 (.aload_n 1) 1 682 := ⟨by decide +kernel, rfl⟩
theorem e_W_law_682 : xa_d xP 155 682 (.aload_n 0) 1 683 := ⟨by decide +kernel, rfl⟩
theorem e_W_law_683 : xa_d xP 155 683 (.iload 4) 2 685 := ⟨by decide +kernel, rfl⟩
theorem e_W_law_685 : xa_d xP 155 685 (.iconst 1) 1 686 := ⟨by decide +kernel, rfl⟩
theorem e_W_law_686 : xa_d xP 155 686 (.iadd) 1 687 := ⟨by decide +kernel, rfl⟩
theorem e_W_law_687 : xa_d xP 155 687 (.iaload) 1 688 := ⟨by decide +kernel, rfl⟩
theorem e_W_law_688 : xa_d xP 155 688 (.aload_n 3) 1 689 := ⟨by decide +kernel, rfl⟩
theorem e_W_law_689 : xa_d xP 155 689 (.invokestatic 116) 3 692 := ⟨by decide +kernel, rfl⟩
theorem e_W_law_692 : xa_d xP 155 692 (.istore 5) 2 694 := ⟨by decide +kernel, rfl⟩
theorem e_W_law_694 : xa_d xP 155 694 (.aload_n 2) 1 695 := ⟨by decide +kernel, rfl⟩
theorem e_W_law_695 : xa_d xP 155 695 (.aload_n 0) 1 696 := ⟨by decide +kernel, rfl⟩
theorem e_W_law_696 : xa_d xP 155 696 (.iload 4) 2 698 := ⟨by decide +kernel, rfl⟩
theorem e_W_law_698 : xa_d xP 155 698 (.iconst 1) 1 699 := ⟨by decide +kernel, rfl⟩
theorem e_W_law_699 : xa_d xP 155 699 (.iadd) 1 700 := ⟨by decide +kernel, rfl⟩
theorem e_W_law_700 : xa_d xP 155 700 (.iaload) 1 701 := ⟨by decide +kernel, rfl⟩
theorem e_W_law_701 : xa_d xP 155 701 (.invokevirtual 118) 3 704 := ⟨by decide +kernel, rfl⟩
theorem e_W_law_704 : xa_d xP 155 704 (.istore 6) 2 706 := ⟨by decide +kernel, rfl⟩
theorem e_W_law_706 : xa_d xP 155 706 (.aload_n 2) 1 707 := ⟨by decide +kernel, rfl⟩
theorem e_W_law_707 : xa_d xP 155 707 (.invokevirtual 83) 3 710 := ⟨by decide +kernel, rfl⟩
theorem e_W_law_710 : xa_d xP 155 710 (.iload 5) 2 712 := ⟨by decide +kernel, rfl⟩
theorem e_W_law_712 : xa_db xP 155 712 (.if_icmp .eq 5) 3 715 5 717 := ⟨⟨by decide +kernel, rfl⟩, rfl⟩
theorem e_W_law_715 : xa_d xP 155 715 (.iconst 0) 1 716 := ⟨by decide +kernel, rfl⟩
theorem e_W_law_716 : xa_d xP 155 716 (.ireturn) 1 717 := ⟨by decide +kernel, rfl⟩
theorem e_W_law_717 : xa_d xP 155 717 (.iload 5) 2 719 := ⟨by decide +kernel, rfl⟩
theorem e_W_law_719 : xa_db xP 155 719 (.ifCond .ne 15) 3 722 15 734 := ⟨⟨by decide +kernel, rfl⟩, rfl⟩
theorem e_W_law_722 : xa_d xP 155 722 (.aload_n 3) 1 723 := ⟨by decide +kernel, rfl⟩
theorem e_W_law_723 : xa_d xP 155 723 (.iconst 0) 1 724 := ⟨by decide +kernel, rfl⟩
theorem e_W_law_724 : xa_d xP 155 724 (.laload) 1 725 := ⟨by decide +kernel, rfl⟩
theorem e_W_law_725 : xa_d xP 155 725 (.iload 6) 2 727 := ⟨by decide +kernel, rfl⟩
theorem e_W_law_727 : xa_d xP 155 727 (.i2l) 1 728 := ⟨by decide +kernel, rfl⟩
theorem e_W_law_728 : xa_d xP 155 728 (.lcmp) 1 729 := ⟨by decide +kernel, rfl⟩
theorem e_W_law_729 : xa_db xP 155 729 (.ifCond .eq 5) 3 732 5 734 := ⟨⟨by decide +kernel, rfl⟩, rfl⟩
theorem e_W_law_732 : xa_d xP 155 732 (.iconst 0) 1 733 := ⟨by decide +kernel, rfl⟩
theorem e_W_law_733 : xa_d xP 155 733 (.ireturn) 1 734 := ⟨by decide +kernel, rfl⟩
theorem e_W_law_734 : xa_db xP 155 734 (.goto 400) 3 737 400 1134 := ⟨⟨by decide +kernel, rfl⟩, rfl⟩
theorem e_W_law_737 : xa_d xP 155 737 (.aload_n 1) 1 738 := ⟨by decide +kernel, rfl⟩
theorem e_W_law_738 : xa_d xP 155 738 (.invokevirtual 119) 3 741 := ⟨by decide +kernel, rfl⟩
theorem e_W_law_741 : xa_d xP 155 741 (.aload_n 2) 1 742 := ⟨by decide +kernel, rfl⟩
theorem e_W_law_742 : xa_d xP 155 742 (.invokevirtual 122) 3 745 := ⟨by decide +kernel, rfl⟩
theorem e_W_law_745 : xa_db xP 155 745 (.if_icmp .eq 389) 3 748 389 1134 := ⟨⟨by decide +kernel, rfl⟩, rfl⟩
theorem e_W_law_748 : xa_d xP 155 748 (.iconst 0) 1 749 := ⟨by decide +kernel, rfl⟩
theorem e_W_law_749 : xa_d xP 155 749 (.ireturn) 1 750 := ⟨by decide +kernel, rfl⟩
theorem e_W_law_750 : xa_d xP 155 750 (.aload_n 1) 1 751 := ⟨by decide +kernel, rfl⟩
theorem e_W_law_751 : xa_d xP 155 751 (.aload_n 3) 1 752 := ⟨by decide +kernel, rfl⟩
theorem e_W_law_752 : xa_d xP 155 752 (.invokestatic 123) 3 755 := ⟨by decide +kernel, rfl⟩
theorem e_W_law_755 : xa_d xP 155 755 (.istore 5) 2 757 := ⟨by decide +kernel, rfl⟩
theorem e_W_law_757 : xa_d xP 155 757 (.aload_n 2) 1 758 := ⟨by decide +kernel, rfl⟩
theorem e_W_law_758 : xa_d xP 155 758 (.invokevirtual 125) 3 761 := ⟨by decide +kernel, rfl⟩
theorem e_W_law_761 : xa_d xP 155 761 (.istore 6) 2 763 := ⟨by decide +kernel, rfl⟩
theorem e_W_law_763 : xa_d xP 155 763 (.aload_n 2) 1 764 := ⟨by decide +kernel, rfl⟩
theorem e_W_law_764 : xa_d xP 155 764 (.invokevirtual 83) 3 767 := ⟨by decide +kernel, rfl⟩
theorem e_W_law_767 : xa_d xP 155 767 (.iload 5) 2 769 := ⟨by decide +kernel, rfl⟩
theorem e_W_law_769 : xa_db xP 155 769 (.if_icmp .eq 5) 3 772 5 774 := ⟨⟨by decide +kernel, rfl⟩, rfl⟩
theorem e_W_law_772 : xa_d xP 155 772 (.iconst 0) 1 773 := ⟨by decide +kernel, rfl⟩
theorem e_W_law_773 : xa_d xP 155 773 (.ireturn) 1 774 := ⟨by decide +kernel, rfl⟩
theorem e_W_law_774 : xa_d xP 155 774 (.iload 5) 2 776 := ⟨by decide +kernel, rfl⟩
theorem e_W_law_776 : xa_db xP 155 776 (.ifCond .ne 15) 3 779 15 791 := ⟨⟨by decide +kernel, rfl⟩, rfl⟩
theorem e_W_law_779 : xa_d xP 155 779 (.aload_n 3) 1 780 := ⟨by decide +kernel, rfl⟩
theorem e_W_law_780 : xa_d xP 155 780 (.iconst 0) 1 781 := ⟨by decide +kernel, rfl⟩
theorem e_W_law_781 : xa_d xP 155 781 (.laload) 1 782 := ⟨by decide +kernel, rfl⟩
theorem e_W_law_782 : xa_d xP 155 782 (.iload 6) 2 784 := ⟨by decide +kernel, rfl⟩
theorem e_W_law_784 : xa_d xP 155 784 (.i2l) 1 785 := ⟨by decide +kernel, rfl⟩
theorem e_W_law_785 : xa_d xP 155 785 (.lcmp) 1 786 := ⟨by decide +kernel, rfl⟩
theorem e_W_law_786 : xa_db xP 155 786 (.ifCond .eq 5) 3 789 5 791 := ⟨⟨by decide +kernel, rfl⟩, rfl⟩
theorem e_W_law_789 : xa_d xP 155 789 (.iconst 0) 1 790 := ⟨by decide +kernel, rfl⟩
theorem e_W_law_790 : xa_d xP 155 790 (.ireturn) 1 791 := ⟨by decide +kernel, rfl⟩
theorem e_W_law_791 : xa_db xP 155 791 (.goto 343) 3 794 343 1134 := ⟨⟨by decide +kernel, rfl⟩, rfl⟩
theorem e_W_law_794 : xa_d xP 155 794 (.aload_n 1) 1 795 := ⟨by decide +kernel, rfl⟩
theorem e_W_law_795 : xa_d xP 155 795 (.aload_n 0) 1 796 := ⟨by decide +kernel, rfl⟩
theorem e_W_law_796 : xa_d xP 155 796 (.iload 4) 2 798 := ⟨by decide +kernel, rfl⟩
theorem e_W_law_798 : xa_d xP 155 798 (.iconst 1) 1 799 := ⟨by decide +kernel, rfl⟩
theorem e_W_law_799 : xa_d xP 155 799 (.iadd) 1 800 := ⟨by decide +kernel, rfl⟩
theorem e_W_law_800 : xa_d xP 155 800 (.iaload) 1 801 := ⟨by decide +kernel, rfl⟩
theorem e_W_law_801 : xa_d xP 155 801 (.aload_n 3) 1 802 := ⟨by decide +kernel, rfl⟩
theorem e_W_law_802 : xa_d xP 155 802 (.invokestatic 126) 3 805 := ⟨by decide +kernel, rfl⟩
theorem e_W_law_805 : xa_d xP 155 805 (.istore 5) 2 807 := ⟨by decide +kernel, rfl⟩
theorem e_W_law_807 : xa_d xP 155 807 (.aload_n 2) 1 808 := ⟨by decide +kernel, rfl⟩
theorem e_W_law_808 : xa_d xP 155 808 (.aload_n 0) 1 809 := ⟨by decide +kernel, rfl⟩
theorem e_W_law_809 : xa_d xP 155 809 (.iload 4) 2 811 := ⟨by decide +kernel, rfl⟩
theorem e_W_law_811 : xa_d xP 155 811 (.iconst 1) 1 812 := ⟨by decide +kernel, rfl⟩
theorem e_W_law_812 : xa_d xP 155 812 (.iadd) 1 813 := ⟨by decide +kernel, rfl⟩
theorem e_W_law_813 : xa_d xP 155 813 (.iaload) 1 814 := ⟨by decide +kernel, rfl⟩
theorem e_W_law_814 : xa_d xP 155 814 (.invokevirtual 128) 3 817 := ⟨by decide +kernel, rfl⟩
theorem e_W_law_817 : xa_d xP 155 817 (.istore 6) 2 819 := ⟨by decide +kernel, rfl⟩
theorem e_W_law_819 : xa_d xP 155 819 (.aload_n 2) 1 820 := ⟨by decide +kernel, rfl⟩
theorem e_W_law_820 : xa_d xP 155 820 (.invokevirtual 83) 3 823 := ⟨by decide +kernel, rfl⟩
theorem e_W_law_823 : xa_d xP 155 823 (.iload 5) 2 825 := ⟨by decide +kernel, rfl⟩
theorem e_W_law_825 : xa_db xP 155 825 (.if_icmp .eq 5) 3 828 5 830 := ⟨⟨by decide +kernel, rfl⟩, rfl⟩
theorem e_W_law_828 : xa_d xP 155 828 (.iconst 0) 1 829 := ⟨by decide +kernel, rfl⟩
theorem e_W_law_829 : xa_d xP 155 829 (.ireturn) 1 830 := ⟨by decide +kernel, rfl⟩
theorem e_W_law_830 : xa_d xP 155 830 (.iload 5) 2 832 := ⟨by decide +kernel, rfl⟩
theorem e_W_law_832 : xa_db xP 155 832 (.ifCond .ne 15) 3 835 15 847 := ⟨⟨by decide +kernel, rfl⟩, rfl⟩
theorem e_W_law_835 : xa_d xP 155 835 (.aload_n 3) 1 836 := ⟨by decide +kernel, rfl⟩
theorem e_W_law_836 : xa_d xP 155 836 (.iconst 0) 1 837 := ⟨by decide +kernel, rfl⟩
theorem e_W_law_837 : xa_d xP 155 837 (.laload) 1 838 := ⟨by decide +kernel, rfl⟩
theorem e_W_law_838 : xa_d xP 155 838 (.iload 6) 2 840 := ⟨by decide +kernel, rfl⟩
theorem e_W_law_840 : xa_d xP 155 840 (.i2l) 1 841 := ⟨by decide +kernel, rfl⟩
theorem e_W_law_841 : xa_d xP 155 841 (.lcmp) 1 842 := ⟨by decide +kernel, rfl⟩
theorem e_W_law_842 : xa_db xP 155 842 (.ifCond .eq 5) 3 845 5 847 := ⟨⟨by decide +kernel, rfl⟩, rfl⟩
theorem e_W_law_845 : xa_d xP 155 845 (.iconst 0) 1 846 := ⟨by decide +kernel, rfl⟩
theorem e_W_law_846 : xa_d xP 155 846 (.ireturn) 1 847 := ⟨by decide +kernel, rfl⟩
theorem e_W_law_847 : xa_db xP 155 847 (.goto 287) 3 850 287 1134 := ⟨⟨by decide +kernel, rfl⟩, rfl⟩
theorem e_W_law_850 : xa_d xP 155 850 (.aload_n 1) 1 851 := ⟨by decide +kernel, rfl⟩
theorem e_W_law_851 : xa_d xP 155 851 (.aload_n 0) 1 852 := ⟨by decide +kernel, rfl⟩
theorem e_W_law_852 : xa_d xP 155 852 (.iload 4) 2 854 := ⟨by decide +kernel, rfl⟩
theorem e_W_law_854 : xa_d xP 155 854 (.iconst 1) 1 855 := ⟨by decide +kernel, rfl⟩
theorem e_W_law_855 : xa_d xP 155 855 (.iadd) 1 856 := ⟨by decide +kernel, rfl⟩
theorem e_W_law_856 : xa_d xP 155 856 (.iaload) 1 857 := ⟨by decide +kernel, rfl⟩
theorem e_W_law_857 : xa_d xP 155 857 (.aload_n 0) 1 858 := ⟨by decide +kernel, rfl⟩
theorem e_W_law_858 : xa_d xP 155 858 (.iload 4) 2 860 := ⟨by decide +kernel, rfl⟩
theorem e_W_law_860 : xa_d xP 155 860 (.iconst 2) 1 861 := ⟨by decide +kernel, rfl⟩
theorem e_W_law_861 : xa_d xP 155 861 (.iadd) 1 862 := ⟨by decide +kernel, rfl⟩
theorem e_W_law_862 : xa_d xP 155 862 (.iaload) 1 863 := ⟨by decide +kernel, rfl⟩
theorem e_W_law_863 : xa_d xP 155 863 (.aload_n 3) 1 864 := ⟨by decide +kernel, rfl⟩
theorem e_W_law_864 : xa_d xP 155 864 (.invokestatic 129) 3 867 := ⟨by decide +kernel, rfl⟩
theorem e_W_law_867 : xa_d xP 155 867 (.istore 5) 2 869 := ⟨by decide +kernel, rfl⟩
theorem e_W_law_869 : xa_d xP 155 869 (.aload_n 2) 1 870 := ⟨by decide +kernel, rfl⟩
theorem e_W_law_870 : xa_d xP 155 870 (.aload_n 0) 1 871 := ⟨by decide +kernel, rfl⟩
theorem e_W_law_871 : xa_d xP 155 871 (.iload 4) 2 873 := ⟨by decide +kernel, rfl⟩
theorem e_W_law_873 : xa_d xP 155 873 (.iconst 1) 1 874 := ⟨by decide +kernel, rfl⟩
theorem e_W_law_874 : xa_d xP 155 874 (.iadd) 1 875 := ⟨by decide +kernel, rfl⟩
theorem e_W_law_875 : xa_d xP 155 875 (.iaload) 1 876 := ⟨by decide +kernel, rfl⟩
theorem e_W_law_876 : xa_d xP 155 876 (.aload_n 0) 1 877 := ⟨by decide +kernel, rfl⟩
theorem e_W_law_877 : xa_d xP 155 877 (.iload 4) 2 879 := ⟨by decide +kernel, rfl⟩
theorem e_W_law_879 : xa_d xP 155 879 (.iconst 2) 1 880 := ⟨by decide +kernel, rfl⟩
theorem e_W_law_880 : xa_d xP 155 880 (.iadd) 1 881 := ⟨by decide +kernel, rfl⟩
theorem e_W_law_881 : xa_d xP 155 881 (.iaload) 1 882 := ⟨by decide +kernel, rfl⟩
theorem e_W_law_882 : xa_d xP 155 882 (.invokevirtual 132) 3 885 := ⟨by decide +kernel, rfl⟩
theorem e_W_law_885 : xa_d xP 155 885 (.istore 6) 2 887 := ⟨by decide +kernel, rfl⟩
theorem e_W_law_887 : xa_d xP 155 887 (.aload_n 2) 1 888 := ⟨by decide +kernel, rfl⟩
theorem e_W_law_888 : xa_d xP 155 888 (.invokevirtual 83) 3 891 := ⟨by decide +kernel, rfl⟩
theorem e_W_law_891 : xa_d xP 155 891 (.iload 5) 2 893 := ⟨by decide +kernel, rfl⟩
theorem e_W_law_893 : xa_db xP 155 893 (.if_icmp .eq 5) 3 896 5 898 := ⟨⟨by decide +kernel, rfl⟩, rfl⟩
theorem e_W_law_896 : xa_d xP 155 896 (.iconst 0) 1 897 := ⟨by decide +kernel, rfl⟩
theorem e_W_law_897 : xa_d xP 155 897 (.ireturn) 1 898 := ⟨by decide +kernel, rfl⟩
theorem e_W_law_898 : xa_d xP 155 898 (.iload 5) 2 900 := ⟨by decide +kernel, rfl⟩
theorem e_W_law_900 : xa_db xP 155 900 (.ifCond .ne 15) 3 903 15 915 := ⟨⟨by decide +kernel, rfl⟩, rfl⟩
theorem e_W_law_903 : xa_d xP 155 903 (.aload_n 3) 1 904 := ⟨by decide +kernel, rfl⟩
theorem e_W_law_904 : xa_d xP 155 904 (.iconst 0) 1 905 := ⟨by decide +kernel, rfl⟩
theorem e_W_law_905 : xa_d xP 155 905 (.laload) 1 906 := ⟨by decide +kernel, rfl⟩
theorem e_W_law_906 : xa_d xP 155 906 (.iload 6) 2 908 := ⟨by decide +kernel, rfl⟩
theorem e_W_law_908 : xa_d xP 155 908 (.i2l) 1 909 := ⟨by decide +kernel, rfl⟩
theorem e_W_law_909 : xa_d xP 155 909 (.lcmp) 1 910 := ⟨by decide +kernel, rfl⟩
theorem e_W_law_910 : xa_db xP 155 910 (.ifCond .eq 5) 3 913 5 915 := ⟨⟨by decide +kernel, rfl⟩, rfl⟩
theorem e_W_law_913 : xa_d xP 155 913 (.iconst 0) 1 914 := ⟨by decide +kernel, rfl⟩
theorem e_W_law_914 : xa_d xP 155 914 (.ireturn) 1 915 := ⟨by decide +kernel, rfl⟩
theorem e_W_law_915 : xa_db xP 155 915 (.goto 219) 3 918 219 1134 := ⟨⟨by decide +kernel, rfl⟩, rfl⟩
theorem e_W_law_918 : xa_d xP 155 918 (.aload_n 1) 1 919 := ⟨by decide +kernel, rfl⟩
theorem e_W_law_919 : xa_d xP 155 919 (.aload_n 0) 1 920 := ⟨by decide +kernel, rfl⟩
theorem e_W_law_920 : xa_d xP 155 920 (.iload 4) 2 922 := ⟨by decide +kernel, rfl⟩
theorem e_W_law_922 : xa_d xP 155 922 (.iconst 1) 1 923 := ⟨by decide +kernel, rfl⟩
theorem e_W_law_923 : xa_d xP 155 923 (.iadd) 1 924 := ⟨by decide +kernel, rfl⟩
theorem e_W_law_924 : xa_d xP 155 924 (.iaload) 1 925 := ⟨by decide +kernel, rfl⟩
theorem e_W_law_925 : xa_d xP 155 925 (.aload_n 0) 1 926 := ⟨by decide +kernel, rfl⟩
theorem e_W_law_926 : xa_d xP 155 926 (.iload 4) 2 928 := ⟨by decide +kernel, rfl⟩
theorem e_W_law_928 : xa_d xP 155 928 (.iconst 2) 1 929 := ⟨by decide +kernel, rfl⟩
theorem e_W_law_929 : xa_d xP 155 929 (.iadd) 1 930 := ⟨by decide +kernel, rfl⟩
theorem e_W_law_930 : xa_d xP 155 930 (.iaload) 1 931 := ⟨by decide +kernel, rfl⟩
theorem e_W_law_931 : xa_d xP 155 931 (.aload_n 3) 1 932 := ⟨by decide +kernel, rfl⟩
theorem e_W_law_932 : xa_d xP 155 932 (.invokestatic 133) 3 935 := ⟨by decide +kernel, rfl⟩
theorem e_W_law_935 : xa_d xP 155 935 (.istore 5) 2 937 := ⟨by decide +kernel, rfl⟩
theorem e_W_law_937 : xa_d xP 155 937 (.aload_n 2) 1 938 := ⟨by decide +kernel, rfl⟩
theorem e_W_law_938 : xa_d xP 155 938 (.aload_n 0) 1 939 := ⟨by decide +kernel, rfl⟩
theorem e_W_law_939 : xa_d xP 155 939 (.iload 4) 2 941 := ⟨by decide +kernel, rfl⟩
theorem e_W_law_941 : xa_d xP 155 941 (.iconst 1) 1 942 := ⟨by decide +kernel, rfl⟩
theorem e_W_law_942 : xa_d xP 155 942 (.iadd) 1 943 := ⟨by decide +kernel, rfl⟩
theorem e_W_law_943 : xa_d xP 155 943 (.iaload) 1 944 := ⟨by decide +kernel, rfl⟩
theorem e_W_law_944 : xa_d xP 155 944 (.aload_n 0) 1 945 := ⟨by decide +kernel, rfl⟩
theorem e_W_law_945 : xa_d xP 155 945 (.iload 4) 2 947 := ⟨by decide +kernel, rfl⟩
theorem e_W_law_947 : xa_d xP 155 947 (.iconst 2) 1 948 := ⟨by decide +kernel, rfl⟩
theorem e_W_law_948 : xa_d xP 155 948 (.iadd) 1 949 := ⟨by decide +kernel, rfl⟩
theorem e_W_law_949 : xa_d xP 155 949 (.iaload) 1 950 := ⟨by decide +kernel, rfl⟩
theorem e_W_law_950 : xa_d xP 155 950 (.invokevirtual 135) 3 953 := ⟨by decide +kernel, rfl⟩
theorem e_W_law_953 : xa_d xP 155 953 (.istore 6) 2 955 := ⟨by decide +kernel, rfl⟩
theorem e_W_law_955 : xa_d xP 155 955 (.aload_n 2) 1 956 := ⟨by decide +kernel, rfl⟩
theorem e_W_law_956 : xa_d xP 155 956 (.invokevirtual 83) 3 959 := ⟨by decide +kernel, rfl⟩
theorem e_W_law_959 : xa_d xP 155 959 (.iload 5) 2 961 := ⟨by decide +kernel, rfl⟩
theorem e_W_law_961 : xa_db xP 155 961 (.if_icmp .eq 5) 3 964 5 966 := ⟨⟨by decide +kernel, rfl⟩, rfl⟩
theorem e_W_law_964 : xa_d xP 155 964 (.iconst 0) 1 965 := ⟨by decide +kernel, rfl⟩
theorem e_W_law_965 : xa_d xP 155 965 (.ireturn) 1 966 := ⟨by decide +kernel, rfl⟩
theorem e_W_law_966 : xa_d xP 155 966 (.iload 5) 2 968 := ⟨by decide +kernel, rfl⟩
theorem e_W_law_968 : xa_db xP 155 968 (.ifCond .ne 15) 3 971 15 983 := ⟨⟨by decide +kernel, rfl⟩, rfl⟩
theorem e_W_law_971 : xa_d xP 155 971 (.aload_n 3) 1 972 := ⟨by decide +kernel, rfl⟩
theorem e_W_law_972 : xa_d xP 155 972 (.iconst 0) 1 973 := ⟨by decide +kernel, rfl⟩
theorem e_W_law_973 : xa_d xP 155 973 (.laload) 1 974 := ⟨by decide +kernel, rfl⟩
theorem e_W_law_974 : xa_d xP 155 974 (.iload 6) 2 976 := ⟨by decide +kernel, rfl⟩
theorem e_W_law_976 : xa_d xP 155 976 (.i2l) 1 977 := ⟨by decide +kernel, rfl⟩
theorem e_W_law_977 : xa_d xP 155 977 (.lcmp) 1 978 := ⟨by decide +kernel, rfl⟩
theorem e_W_law_978 : xa_db xP 155 978 (.ifCond .eq 5) 3 981 5 983 := ⟨⟨by decide +kernel, rfl⟩, rfl⟩
theorem e_W_law_981 : xa_d xP 155 981 (.iconst 0) 1 982 := ⟨by decide +kernel, rfl⟩
theorem e_W_law_982 : xa_d xP 155 982 (.ireturn) 1 983 := ⟨by decide +kernel, rfl⟩
theorem e_W_law_983 : xa_db xP 155 983 (.goto 151) 3 986 151 1134 := ⟨⟨by decide +kernel, rfl⟩, rfl⟩
theorem e_W_law_986 : xa_d xP 155 986 (.aload_n 1) 1 987 := ⟨by decide +kernel, rfl⟩
theorem e_W_law_987 : xa_d xP 155 987 (.aload_n 0) 1 988 := ⟨by decide +kernel, rfl⟩
theorem e_W_law_988 : xa_d xP 155 988 (.iload 4) 2 990 := ⟨by decide +kernel, rfl⟩
theorem e_W_law_990 : xa_d xP 155 990 (.iconst 1) 1 991 := ⟨by decide +kernel, rfl⟩
theorem e_W_law_991 : xa_d xP 155 991 (.iadd) 1 992 := ⟨by decide +kernel, rfl⟩
theorem e_W_law_992 : xa_d xP 155 992 (.iaload) 1 993 := ⟨by decide +kernel, rfl⟩
theorem e_W_law_993 : xa_d xP 155 993 (.invokestatic 136) 3 996 := ⟨by decide +kernel, rfl⟩
theorem e_W_law_996 : xa_d xP 155 996 (.istore 5) 2 998 := ⟨by decide +kernel, rfl⟩
theorem e_W_law_998 : xa_d xP 155 998 (.aload_n 2) 1 999 := ⟨by decide +kernel, rfl⟩
theorem e_W_law_999 : xa_d xP 155 999 (.aload_n 0) 1 1000 := ⟨by decide +kernel, rfl⟩
theorem e_W_law_1000 : xa_d xP 155 1000 (.iload 4) 2 1002 := ⟨by decide +kernel, rfl⟩
theorem e_W_law_1002 : xa_d xP 155 1002 (.iconst 1) 1 1003 := ⟨by decide +kernel, rfl⟩
theorem e_W_law_1003 : xa_d xP 155 1003 (.iadd) 1 1004 := ⟨by decide +kernel, rfl⟩
theorem e_W_law_1004 : xa_d xP 155 1004 (.iaload) 1 1005 := ⟨by decide +kernel, rfl⟩
theorem e_W_law_1005 : xa_d xP 155 1005 (.invokevirtual 139) 3 1008 := ⟨by decide +kernel, rfl⟩
theorem e_W_law_1008 : xa_d xP 155 1008 (.aload_n 2) 1 1009 := ⟨by decide +kernel, rfl⟩
theorem e_W_law_1009 : xa_d xP 155 1009 (.invokevirtual 83) 3 1012 := ⟨by decide +kernel, rfl⟩
theorem e_W_law_1012 : xa_d xP 155 1012 (.iload 5) 2 1014 := ⟨by decide +kernel, rfl⟩
theorem e_W_law_1014 : xa_db xP 155 1014 (.if_icmp .eq 5) 3 1017 5 1019 := ⟨⟨by decide +kernel, rfl⟩, rfl⟩
theorem e_W_law_1017 : xa_d xP 155 1017 (.iconst 0) 1 1018 := ⟨by decide +kernel, rfl⟩
theorem e_W_law_1018 : xa_d xP 155 1018 (.ireturn) 1 1019 := ⟨by decide +kernel, rfl⟩
theorem e_W_law_1019 : xa_db xP 155 1019 (.goto 115) 3 1022 115 1134 := ⟨⟨by decide +kernel, rfl⟩, rfl⟩
theorem e_W_law_1022 : xa_d xP 155 1022 (.aload_n 1) 1 1023 := ⟨by decide +kernel, rfl⟩
theorem e_W_law_1023 : xa_d xP 155 1023 (.aload_n 0) 1 1024 := ⟨by decide +kernel, rfl⟩
theorem e_W_law_1024 : xa_d xP 155 1024 (.iload 4) 2 1026 := ⟨by decide +kernel, rfl⟩
theorem e_W_law_1026 : xa_d xP 155 1026 (.iconst 1) 1 1027 := ⟨by decide +kernel, rfl⟩
theorem e_W_law_1027 : xa_d xP 155 1027 (.iadd) 1 1028 := ⟨by decide +kernel, rfl⟩
theorem e_W_law_1028 : xa_d xP 155 1028 (.iaload) 1 1029 := ⟨by decide +kernel, rfl⟩
theorem e_W_law_1029 : xa_d xP 155 1029 (.aload_n 0) 1 1030 := ⟨by decide +kernel, rfl⟩
theorem e_W_law_1030 : xa_d xP 155 1030 (.iload 4) 2 1032 := ⟨by decide +kernel, rfl⟩
theorem e_W_law_1032 : xa_d xP 155 1032 (.iconst 2) 1 1033 := ⟨by decide +kernel, rfl⟩
theorem e_W_law_1033 : xa_d xP 155 1033 (.iadd) 1 1034 := ⟨by decide +kernel, rfl⟩
theorem e_W_law_1034 : xa_d xP 155 1034 (.iaload) 1 1035 := ⟨by decide +kernel, rfl⟩
theorem e_W_law_1035 : xa_d xP 155 1035 (.aload_n 3) 1 1036 := ⟨by decide +kernel, rfl⟩
theorem e_W_law_1036 : xa_d xP 155 1036 (.invokestatic 140) 3 1039 := ⟨by decide +kernel, rfl⟩
theorem e_W_law_1039 : xa_d xP 155 1039 (.istore 5) 2 1041 := ⟨by decide +kernel, rfl⟩
theorem e_W_law_1041 : xa_d xP 155 1041 (.aload_n 2) 1 1042 := ⟨by decide +kernel, rfl⟩
theorem e_W_law_1042 : xa_d xP 155 1042 (.aload_n 0) 1 1043 := ⟨by decide +kernel, rfl⟩
theorem e_W_law_1043 : xa_d xP 155 1043 (.iload 4) 2 1045 := ⟨by decide +kernel, rfl⟩
theorem e_W_law_1045 : xa_d xP 155 1045 (.iconst 1) 1 1046 := ⟨by decide +kernel, rfl⟩
theorem e_W_law_1046 : xa_d xP 155 1046 (.iadd) 1 1047 := ⟨by decide +kernel, rfl⟩
theorem e_W_law_1047 : xa_d xP 155 1047 (.iaload) 1 1048 := ⟨by decide +kernel, rfl⟩
theorem e_W_law_1048 : xa_d xP 155 1048 (.aload_n 0) 1 1049 := ⟨by decide +kernel, rfl⟩
theorem e_W_law_1049 : xa_d xP 155 1049 (.iload 4) 2 1051 := ⟨by decide +kernel, rfl⟩
theorem e_W_law_1051 : xa_d xP 155 1051 (.iconst 2) 1 1052 := ⟨by decide +kernel, rfl⟩
theorem e_W_law_1052 : xa_d xP 155 1052 (.iadd) 1 1053 := ⟨by decide +kernel, rfl⟩
theorem e_W_law_1053 : xa_d xP 155 1053 (.iaload) 1 1054 := ⟨by decide +kernel, rfl⟩
theorem e_W_law_1054 : xa_d xP 155 1054 (.invokevirtual 142) 3 1057 := ⟨by decide +kernel, rfl⟩
theorem e_W_law_1057 : xa_d xP 155 1057 (.istore 6) 2 1059 := ⟨by decide +kernel, rfl⟩
theorem e_W_law_1059 : xa_d xP 155 1059 (.aload_n 2) 1 1060 := ⟨by decide +kernel, rfl⟩
theorem e_W_law_1060 : xa_d xP 155 1060 (.invokevirtual 83) 3 1063 := ⟨by decide +kernel, rfl⟩
theorem e_W_law_1063 : xa_d xP 155 1063 (.iload 5) 2 1065 := ⟨by decide +kernel, rfl⟩
theorem e_W_law_1065 : xa_db xP 155 1065 (.if_icmp .eq 5) 3 1068 5 1070 := ⟨⟨by decide +kernel, rfl⟩, rfl⟩
theorem e_W_law_1068 : xa_d xP 155 1068 (.iconst 0) 1 1069 := ⟨by decide +kernel, rfl⟩
theorem e_W_law_1069 : xa_d xP 155 1069 (.ireturn) 1 1070 := ⟨by decide +kernel, rfl⟩
theorem e_W_law_1070 : xa_d xP 155 1070 (.iload 5) 2 1072 := ⟨by decide +kernel, rfl⟩
theorem e_W_law_1072 : xa_db xP 155 1072 (.ifCond .ne 15) 3 1075 15 1087 := ⟨⟨by decide +kernel, rfl⟩, rfl⟩
theorem e_W_law_1075 : xa_d xP 155 1075 (.aload_n 3) 1 1076 := ⟨by decide +kernel, rfl⟩
theorem e_W_law_1076 : xa_d xP 155 1076 (.iconst 0) 1 1077 := ⟨by decide +kernel, rfl⟩
theorem e_W_law_1077 : xa_d xP 155 1077 (.laload) 1 1078 := ⟨by decide +kernel, rfl⟩
theorem e_W_law_1078 : xa_d xP 155 1078 (.iload 6) 2 1080 := ⟨by decide +kernel, rfl⟩
theorem e_W_law_1080 : xa_d xP 155 1080 (.i2l) 1 1081 := ⟨by decide +kernel, rfl⟩
theorem e_W_law_1081 : xa_d xP 155 1081 (.lcmp) 1 1082 := ⟨by decide +kernel, rfl⟩
theorem e_W_law_1082 : xa_db xP 155 1082 (.ifCond .eq 5) 3 1085 5 1087 := ⟨⟨by decide +kernel, rfl⟩, rfl⟩
theorem e_W_law_1085 : xa_d xP 155 1085 (.iconst 0) 1 1086 := ⟨by decide +kernel, rfl⟩
theorem e_W_law_1086 : xa_d xP 155 1086 (.ireturn) 1 1087 := ⟨by decide +kernel, rfl⟩
theorem e_W_law_1087 : xa_db xP 155 1087 (.goto 47) 3 1090 47 1134 := ⟨⟨by decide +kernel, rfl⟩, rfl⟩
theorem e_W_law_1090 : xa_d xP 155 1090 (.aload_n 1) 1 1091 := ⟨by decide +kernel, rfl⟩
theorem e_W_law_1091 : xa_d xP 155 1091 (.aload_n 3) 1 1092 := ⟨by decide +kernel, rfl⟩
theorem e_W_law_1092 : xa_d xP 155 1092 (.invokestatic 143) 3 1095 := ⟨by decide +kernel, rfl⟩
theorem e_W_law_1095 : xa_d xP 155 1095 (.istore 5) 2 1097 := ⟨by decide +kernel, rfl⟩
theorem e_W_law_1097 : xa_d xP 155 1097 (.aload_n 2) 1 1098 := ⟨by decide +kernel, rfl⟩
theorem e_W_law_1098 : xa_d xP 155 1098 (.invokevirtual 145) 3 1101 := ⟨by decide +kernel, rfl⟩
theorem e_W_law_1101 : xa_d xP 155 1101 (.istore 6) 2 1103 := ⟨by decide +kernel, rfl⟩
theorem e_W_law_1103 : xa_d xP 155 1103 (.aload_n 2) 1 1104 := ⟨by decide +kernel, rfl⟩
theorem e_W_law_1104 : xa_d xP 155 1104 (.invokevirtual 83) 3 1107 := ⟨by decide +kernel, rfl⟩
theorem e_W_law_1107 : xa_d xP 155 1107 (.iload 5) 2 1109 := ⟨by decide +kernel, rfl⟩
theorem e_W_law_1109 : xa_db xP 155 1109 (.if_icmp .eq 5) 3 1112 5 1114 := ⟨⟨by decide +kernel, rfl⟩, rfl⟩
theorem e_W_law_1112 : xa_d xP 155 1112 (.iconst 0) 1 1113 := ⟨by decide +kernel, rfl⟩
theorem e_W_law_1113 : xa_d xP 155 1113 (.ireturn) 1 1114 := ⟨by decide +kernel, rfl⟩
theorem e_W_law_1114 : xa_d xP 155 1114 (.iload 5) 2 1116 := ⟨by decide +kernel, rfl⟩
theorem e_W_law_1116 : xa_db xP 155 1116 (.ifCond .ne 15) 3 1119 15 1131 := ⟨⟨by decide +kernel, rfl⟩, rfl⟩
theorem e_W_law_1119 : xa_d xP 155 1119 (.aload_n 3) 1 1120 := ⟨by decide +kernel, rfl⟩
theorem e_W_law_1120 : xa_d xP 155 1120 (.iconst 0) 1 1121 := ⟨by decide +kernel, rfl⟩
theorem e_W_law_1121 : xa_d xP 155 1121 (.laload) 1 1122 := ⟨by decide +kernel, rfl⟩
theorem e_W_law_1122 : xa_d xP 155 1122 (.iload 6) 2 1124 := ⟨by decide +kernel, rfl⟩
theorem e_W_law_1124 : xa_d xP 155 1124 (.i2l) 1 1125 := ⟨by decide +kernel, rfl⟩
theorem e_W_law_1125 : xa_d xP 155 1125 (.lcmp) 1 1126 := ⟨by decide +kernel, rfl⟩
theorem e_W_law_1126 : xa_db xP 155 1126 (.ifCond .eq 5) 3 1129 5 1131 := ⟨⟨by decide +kernel, rfl⟩, rfl⟩
theorem e_W_law_1129 : xa_d xP 155 1129 (.iconst 0) 1 1130 := ⟨by decide +kernel, rfl⟩
theorem e_W_law_1130 : xa_d xP 155 1130 (.ireturn) 1 1131 := ⟨by decide +kernel, rfl⟩
theorem e_W_law_1131 : xa_db xP 155 1131 (.goto 3) 3 1134 3 1134 := ⟨⟨by decide +kernel, rfl⟩, rfl⟩
theorem e_W_law_1134 : xa_d xP 155 1134 (.iinc 4 4) 3 1137 := ⟨by decide +kernel, rfl⟩
theorem e_W_law_1137 : xa_db xP 155 1137 (.goto (-1114)) 3 1140 (-1114) 23 := ⟨⟨by decide +kernel, rfl⟩, rfl⟩
theorem e_W_law_1140 : xa_d xP 155 1140 (.iconst 1) 1 1141 := ⟨by decide +kernel, rfl⟩
theorem e_W_law_1141 : xa_d xP 155 1141 (.ireturn) 1 1142 := ⟨by decide +kernel, rfl⟩
end
section
/-! Where the program's cells lie (printed): 0 the class's object .. 47 the reference's .. 68 the law's own array. -/
def xlay : List xl_S := [
  .inl (0, [some 1, some 6, some 13, some 38, none, none]),
  .inl (1, [none, none, none, none, none, none, none, some 2, some 3, some 4, some 5]),
  .inr (0, 14),
  .inr (1, 14),
  .inr (0, 14),
  .inr (0, 14),
  .inl (2, [none, none, some 7, some 8, some 9, some 10, some 11, some 12, none, none, none]),
  .inr (0, 80),
  .inr (0, 80),
  .inr (0, 80),
  .inr (0, 80),
  .inr (0, 80),
  .inr (0, 1120),
  .inl (3, [none, some 14, some 15, some 16, some 17, none]),
  .inr (3, 5),
  .inr (3, 5),
  .inr (1, 80),
  .inr (0, 80),
  .inl (4, [none, some 19, none]),
  .inr (0, 8),
  .inl (4, [none, some 21, none]),
  .inr (0, 8),
  .inl (4, [none, some 23, none]),
  .inr (0, 8),
  .inl (4, [none, some 25, none]),
  .inr (0, 8),
  .inl (4, [none, some 27, none]),
  .inr (0, 8),
  .inl (4, [none, some 29, none]),
  .inr (0, 8),
  .inl (4, [none, some 31, none]),
  .inr (0, 8),
  .inl (4, [none, some 33, none]),
  .inr (0, 8),
  .inl (4, [none, some 35, none]),
  .inr (0, 8),
  .inl (4, [none, some 37, none]),
  .inr (0, 8),
  .inl (5, [some 46, some 39, some 40, some 41, some 42, some 43, some 44, some 45, none, none, none]),
  .inr (0, 243),
  .inr (0, 243),
  .inr (0, 243),
  .inr (0, 243),
  .inr (1, 243),
  .inr (1, 243),
  .inr (0, 32),
  .inr (0, 243),
  .inl (6, [none, none, some 48, some 49, none, some 50, some 51, some 52, some 53, none, none, none, none, none, some 54, some 55, some 56, some 57, some 58, some 59, some 60, some 61, some 62, some 63, some 64, none, none, some 65, some 66, some 67]),
  .inr (1, 5),
  .inr (1, 5),
  .inr (0, 14),
  .inr (1, 14),
  .inr (0, 14),
  .inr (0, 14),
  .inr (0, 81),
  .inr (0, 81),
  .inr (0, 81),
  .inr (0, 5),
  .inr (0, 40),
  .inr (0, 243),
  .inr (1, 243),
  .inr (0, 9),
  .inr (0, 10),
  .inr (0, 9),
  .inr (0, 9),
  .inr (0, 5),
  .inr (0, 40),
  .inr (1, 81),
  .inr (2, 1)]
def xp3 (j : Nat) : Int32 := ([1, 3, 9, 27, 81, 243] : List Int32).getD j 0
def xtx (S : Nat × (Nat → Int32)) : Nat → Nat × (Nat → Int32) := fun k => match k with
  | 0 => (6, xp3)
  | _ => S
abbrev xX (S : Nat × (Nat → Int32)) (d y pc : Nat) (ls st : List Value) (V : xl_V) (mc ms : Nat) (Q : xa_Q) : Prop := xa_X xP (xtx S) d y pc ls st (xl_H xlay V) mc ms Q
section XInc
variable {K : xa_P} {tx : Nat → Nat × (Nat → Int32)} {d y pc n' i : Nat} {ls st : List Value} {h : xa_H} {mc ms : Nat} {Q : xa_Q} {x : Int32}
theorem xh_inc (hd : xa_d K y pc (.iinc i 1) 3 n') (hl : ls[i]? = some (.int x)) (k : xa_X K tx d y n' (ls.set i (.int (x + 1))) st h mc ms Q) : xa_X K tx d y pc ls st h mc ms Q := xx_iinc hd hl rfl k
theorem xh_inc4 (hd : xa_d K y pc (.iinc i 4) 3 n') (hl : ls[i]? = some (.int x)) (k : xa_X K tx d y n' (ls.set i (.int (x + 4))) st h mc ms Q) : xa_X K tx d y pc ls st h mc ms Q := xx_iinc hd hl rfl k
theorem xh_incM (hd : xa_d K y pc (.iinc i (-1)) 3 n') (hl : ls[i]? = some (.int x)) (k : xa_X K tx d y n' (ls.set i (.int (x + (-1)))) st h mc ms Q) : xa_X K tx d y pc ls st h mc ms Q := xx_iinc hd hl rfl k
end XInc
end
section
/-! The net's own questions: what each answers. -/
section XNet
variable {S : Nat × (Nat → Int32)} {V : xl_V} {d : Nat}
def n_en (V : xl_V) (t : Nat) (mk : Int32) : Int32 := if V.2.1 4 t &&& (mk ^^^ (-1)) = 0 then 1 else 0
theorem t_N_isEnabled {t mk : Int32} (ht : vp_in t 14) : xX S d 14 0 (xa_ent 3 [.ref 1, .int t, .int mk]) [] V 0 0 (xq (some (.int (n_en V t.toNatClampNeg mk))) (xl_H xlay V)) := by
  refine xx_aload_n e_N_isEnabled_0 rfl rfl ?_
  refine xh_getR e_N_isEnabled_1 fg_N_19 rfl rfl ?_
  refine xx_iload_n e_N_isEnabled_4 rfl rfl ?_
  refine xh_iald e_N_isEnabled_5 rfl (by first | assumption | decide | (refine vp_in_nI ?_ (by decide); omega)) ?_
  refine xx_iload_n e_N_isEnabled_6 rfl rfl ?_
  refine xx_iconst (v := (-1)) e_N_isEnabled_7 (by decide) ?_
  refine xx_ixor e_N_isEnabled_8 ?_
  refine xx_iand e_N_isEnabled_9 ?_
  refine xx_if_ne e_N_isEnabled_10 (fun q10 => ?_) (fun q10 => ?_)
  · refine xx_iconst (v := 0) e_N_isEnabled_17 (by decide) ?_
    refine xx_iret e_N_isEnabled_18 rfl rfl ?_
    exact ⟨by simp only [n_en, ↓reduceIte, *], rfl⟩
  · refine xx_iconst (v := 1) e_N_isEnabled_13 (by decide) ?_
    refine xx_goto e_N_isEnabled_14 ?_
    refine xx_iret e_N_isEnabled_18 rfl rfl ?_
    exact ⟨by simp only [n_en, ↓reduceIte, *], rfl⟩
def n_cd (V : xl_V) (t : Nat) (cd : Int32) : Int32 := if V.2.1 3 t = 0 then cd &&& (((1 : Int32) <<< (V.2.1 2 t &&& 31)) ^^^ (-1)) else cd ||| ((1 : Int32) <<< (V.2.1 2 t &&& 31))
theorem t_N_codeAfter {t cd : Int32} (ht : vp_in t 14) : xX S d 24 0 (xa_ent 4 [.ref 1, .int t, .int cd]) [] V 0 0 (xq (some (.int (n_cd V t.toNatClampNeg cd))) (xl_H xlay V)) := by
  refine xx_iconst (v := 1) e_N_codeAfter_0 (by decide) ?_
  refine xx_aload_n e_N_codeAfter_1 rfl rfl ?_
  refine xh_getR e_N_codeAfter_2 fg_N_9 rfl rfl ?_
  refine xx_iload_n e_N_codeAfter_5 rfl rfl ?_
  refine xh_iald e_N_codeAfter_6 rfl (by first | assumption | decide | (refine vp_in_nI ?_ (by decide); omega)) ?_
  refine xx_ishl e_N_codeAfter_7 ?_
  refine xx_istore_n e_N_codeAfter_8 rfl rfl ?_
  refine xx_aload_n e_N_codeAfter_9 rfl rfl ?_
  refine xh_getR e_N_codeAfter_10 fg_N_15 rfl rfl ?_
  refine xx_iload_n e_N_codeAfter_13 rfl rfl ?_
  refine xh_bald e_N_codeAfter_14 rfl (by first | assumption | decide | (refine vp_in_nI ?_ (by decide); omega)) ?_
  refine xx_if_eq e_N_codeAfter_15 (fun q15 => ?_) (fun q15 => ?_)
  · refine xx_iload_n e_N_codeAfter_24 rfl rfl ?_
    refine xx_iload_n e_N_codeAfter_25 rfl rfl ?_
    refine xx_iconst (v := (-1)) e_N_codeAfter_26 (by decide) ?_
    refine xx_ixor e_N_codeAfter_27 ?_
    refine xx_iand e_N_codeAfter_28 ?_
    refine xx_iret e_N_codeAfter_29 rfl rfl ?_
    exact ⟨by simp only [n_cd, ↓reduceIte, *], rfl⟩
  · refine xx_iload_n e_N_codeAfter_18 rfl rfl ?_
    refine xx_iload_n e_N_codeAfter_19 rfl rfl ?_
    refine xx_ior e_N_codeAfter_20 ?_
    refine xx_goto e_N_codeAfter_21 ?_
    refine xx_iret e_N_codeAfter_29 rfl rfl ?_
    exact ⟨by simp only [n_cd, ↓reduceIte, *], rfl⟩
def n_sf (V : xl_V) (t : Nat) (mk : Int32) : Int32 := if V.2.1 5 t &&& (V.2.1 4 t ^^^ (-1)) &&& mk = 0 then 1 else 0
theorem t_N_isSafe {t mk : Int32} (ht : vp_in t 14) : xX S d 20 0 (xa_ent 3 [.ref 1, .int t, .int mk]) [] V 0 0 (xq (some (.int (n_sf V t.toNatClampNeg mk))) (xl_H xlay V)) := by
  refine xx_aload_n e_N_isSafe_0 rfl rfl ?_
  refine xh_getR e_N_isSafe_1 fg_N_22 rfl rfl ?_
  refine xx_iload_n e_N_isSafe_4 rfl rfl ?_
  refine xh_iald e_N_isSafe_5 rfl (by first | assumption | decide | (refine vp_in_nI ?_ (by decide); omega)) ?_
  refine xx_aload_n e_N_isSafe_6 rfl rfl ?_
  refine xh_getR e_N_isSafe_7 fg_N_19 rfl rfl ?_
  refine xx_iload_n e_N_isSafe_10 rfl rfl ?_
  refine xh_iald e_N_isSafe_11 rfl (by first | assumption | decide | (refine vp_in_nI ?_ (by decide); omega)) ?_
  refine xx_iconst (v := (-1)) e_N_isSafe_12 (by decide) ?_
  refine xx_ixor e_N_isSafe_13 ?_
  refine xx_iand e_N_isSafe_14 ?_
  refine xx_iload_n e_N_isSafe_15 rfl rfl ?_
  refine xx_iand e_N_isSafe_16 ?_
  refine xx_if_ne e_N_isSafe_17 (fun q17 => ?_) (fun q17 => ?_)
  · refine xx_iconst (v := 0) e_N_isSafe_24 (by decide) ?_
    refine xx_iret e_N_isSafe_25 rfl rfl ?_
    exact ⟨by simp only [n_sf, ↓reduceIte, *], rfl⟩
  · refine xx_iconst (v := 1) e_N_isSafe_20 (by decide) ?_
    refine xx_goto e_N_isSafe_21 ?_
    refine xx_iret e_N_isSafe_25 rfl rfl ?_
    exact ⟨by simp only [n_sf, ↓reduceIte, *], rfl⟩
def n_lv (V : xl_V) (t : Nat) : Int32 := if V.2.1 3 t = 0 then 0 else 1
theorem t_N_levelAfter {t : Int32} (ht : vp_in t 14) : xX S d 17 0 (xa_ent 2 [.ref 1, .int t]) [] V 0 0 (xq (some (.int (n_lv V t.toNatClampNeg))) (xl_H xlay V)) := by
  refine xx_aload_n e_N_levelAfter_0 rfl rfl ?_
  refine xh_getR e_N_levelAfter_1 fg_N_15 rfl rfl ?_
  refine xx_iload_n e_N_levelAfter_4 rfl rfl ?_
  refine xh_bald e_N_levelAfter_5 rfl (by first | assumption | decide | (refine vp_in_nI ?_ (by decide); omega)) ?_
  refine xx_if_eq e_N_levelAfter_6 (fun q6 => ?_) (fun q6 => ?_)
  · refine xx_iconst (v := 0) e_N_levelAfter_13 (by decide) ?_
    refine xx_iret e_N_levelAfter_14 rfl rfl ?_
    exact ⟨by simp only [n_lv, ↓reduceIte, *], rfl⟩
  · refine xx_iconst (v := 1) e_N_levelAfter_9 (by decide) ?_
    refine xx_goto e_N_levelAfter_10 ?_
    refine xx_iret e_N_levelAfter_14 rfl rfl ?_
    exact ⟨by simp only [n_lv, ↓reduceIte, *], rfl⟩
theorem t_N_signalOf {t : Int32} (ht : vp_in t 14) : xX S d 18 0 (xa_ent 2 [.ref 1, .int t]) [] V 0 0 (xq (some (.int (V.2.1 2 t.toNatClampNeg))) (xl_H xlay V)) := by
  refine xx_aload_n e_N_signalOf_0 rfl rfl ?_
  refine xh_getR e_N_signalOf_1 fg_N_9 rfl rfl ?_
  refine xx_iload_n e_N_signalOf_4 rfl rfl ?_
  refine xh_iald e_N_signalOf_5 rfl (by first | assumption | decide | (refine vp_in_nI ?_ (by decide); omega)) ?_
  refine xx_iret e_N_signalOf_6 rfl rfl ?_
  exact ⟨rfl, rfl⟩
def n_rt (V : xl_V) (t : Nat) (cd : Int32) : Int32 := if (cd >>> (V.2.1 2 t &&& 31)) &&& 1 = n_lv V t then 0 else 1
theorem t_N_isRight {t cd : Int32} (ht : vp_in t 14) : xX S (d + 1) 21 0 (xa_ent 3 [.ref 1, .int t, .int cd]) [] V 0 0 (xq (some (.int (n_rt V t.toNatClampNeg cd))) (xl_H xlay V)) := by
  refine xx_iload_n e_N_isRight_0 rfl rfl ?_
  refine xx_aload_n e_N_isRight_1 rfl rfl ?_
  refine xh_getR e_N_isRight_2 fg_N_9 rfl rfl ?_
  refine xx_iload_n e_N_isRight_5 rfl rfl ?_
  refine xh_iald e_N_isRight_6 rfl (by first | assumption | decide | (refine vp_in_nI ?_ (by decide); omega)) ?_
  refine xx_ishr e_N_isRight_7 ?_
  refine xx_iconst (v := 1) e_N_isRight_8 (by decide) ?_
  refine xx_iand e_N_isRight_9 ?_
  refine xx_aload_n e_N_isRight_10 rfl rfl ?_
  refine xx_iload_n e_N_isRight_11 rfl rfl ?_
  refine xc_V1i e_N_isRight_12 kv_N_47 (xl_obj rfl) (t_N_levelAfter ht) ?_
  refine xx_icmp_eq e_N_isRight_15 (fun q15 => ?_) (fun q15 => ?_)
  · refine xx_iconst (v := 0) e_N_isRight_22 (by decide) ?_
    refine xx_iret e_N_isRight_23 rfl rfl ?_
    exact ⟨by simp only [n_rt, ↓reduceIte, *], rfl⟩
  · refine xx_iconst (v := 1) e_N_isRight_18 (by decide) ?_
    refine xx_goto e_N_isRight_19 ?_
    refine xx_iret e_N_isRight_23 rfl rfl ?_
    exact ⟨by simp only [n_rt, ↓reduceIte, *], rfl⟩
def n_mk (V : xl_V) (t : Nat) (mk : Int32) : Int32 := mk &&& (V.2.1 4 t ^^^ (-1)) ||| V.2.1 5 t
theorem t_N_markingAfter {t mk : Int32} (ht : vp_in t 14) : xX S d 23 0 (xa_ent 3 [.ref 1, .int t, .int mk]) [] V 0 0 (xq (some (.int (n_mk V t.toNatClampNeg mk))) (xl_H xlay V)) := by
  refine xx_iload_n e_N_markingAfter_0 rfl rfl ?_
  refine xx_aload_n e_N_markingAfter_1 rfl rfl ?_
  refine xh_getR e_N_markingAfter_2 fg_N_19 rfl rfl ?_
  refine xx_iload_n e_N_markingAfter_5 rfl rfl ?_
  refine xh_iald e_N_markingAfter_6 rfl (by first | assumption | decide | (refine vp_in_nI ?_ (by decide); omega)) ?_
  refine xx_iconst (v := (-1)) e_N_markingAfter_7 (by decide) ?_
  refine xx_ixor e_N_markingAfter_8 ?_
  refine xx_iand e_N_markingAfter_9 ?_
  refine xx_aload_n e_N_markingAfter_10 rfl rfl ?_
  refine xh_getR e_N_markingAfter_11 fg_N_22 rfl rfl ?_
  refine xx_iload_n e_N_markingAfter_14 rfl rfl ?_
  refine xh_iald e_N_markingAfter_15 rfl (by first | assumption | decide | (refine vp_in_nI ?_ (by decide); omega)) ?_
  refine xx_ior e_N_markingAfter_16 ?_
  refine xx_iret e_N_markingAfter_17 rfl rfl ?_
  exact ⟨rfl, rfl⟩
def n_eb (V : xl_V) (t : Nat) : Int32 := (1 : Int32) <<< ((2 * V.2.1 2 t + n_lv V t) &&& 31)
theorem t_N_edgeBit {t : Int32} (ht : vp_in t 14) : xX S (d + 1) 16 0 (xa_ent 2 [.ref 1, .int t]) [] V 0 0 (xq (some (.int (n_eb V t.toNatClampNeg))) (xl_H xlay V)) := by
  refine xx_iconst (v := 1) e_N_edgeBit_0 (by decide) ?_
  refine xx_iconst (v := 2) e_N_edgeBit_1 (by decide) ?_
  refine xx_aload_n e_N_edgeBit_2 rfl rfl ?_
  refine xh_getR e_N_edgeBit_3 fg_N_9 rfl rfl ?_
  refine xx_iload_n e_N_edgeBit_6 rfl rfl ?_
  refine xh_iald e_N_edgeBit_7 rfl (by first | assumption | decide | (refine vp_in_nI ?_ (by decide); omega)) ?_
  refine xx_imul e_N_edgeBit_8 ?_
  refine xx_aload_n e_N_edgeBit_9 rfl rfl ?_
  refine xx_iload_n e_N_edgeBit_10 rfl rfl ?_
  refine xc_V1i e_N_edgeBit_11 kv_N_47 (xl_obj rfl) (t_N_levelAfter ht) ?_
  refine xx_iadd e_N_edgeBit_14 ?_
  refine xx_ishl e_N_edgeBit_15 ?_
  refine xx_iret e_N_edgeBit_16 rfl rfl ?_
  exact ⟨rfl, rfl⟩
def n_in (V : xl_V) (s : Int32) : Int32 := if (V.1 1 6 >>> (s &&& 31)) &&& 1 = 1 then 1 else 0
theorem t_N_isInput {s : Int32} : xX S d 19 0 (xa_ent 2 [.ref 1, .int s]) [] V 0 0 (xq (some (.int (n_in V s))) (xl_H xlay V)) := by
  refine xx_aload_n e_N_isInput_0 rfl rfl ?_
  refine xh_get e_N_isInput_1 fg_N_29 rfl rfl ?_
  refine xx_iload_n e_N_isInput_4 rfl rfl ?_
  refine xx_ishr e_N_isInput_5 ?_
  refine xx_iconst (v := 1) e_N_isInput_6 (by decide) ?_
  refine xx_iand e_N_isInput_7 ?_
  refine xx_iconst (v := 1) e_N_isInput_8 (by decide) ?_
  refine xx_icmp_ne e_N_isInput_9 (fun q9 => ?_) (fun q9 => ?_)
  · refine xx_iconst (v := 0) e_N_isInput_16 (by decide) ?_
    refine xx_iret e_N_isInput_17 rfl rfl ?_
    exact ⟨by simp only [n_in, ↓reduceIte, *], rfl⟩
  · refine xx_iconst (v := 1) e_N_isInput_12 (by decide) ?_
    refine xx_goto e_N_isInput_13 ?_
    refine xx_iret e_N_isInput_17 rfl rfl ?_
    exact ⟨by simp only [n_in, ↓reduceIte, *], rfl⟩
def n_ha (V : xl_V) (p : Int32) (t : Nat) (b : Int32) : Int32 := if ((if b = 0 then V.2.1 4 t else V.2.1 5 t) >>> (p &&& 31)) &&& 1 = 1 then 1 else 0
theorem t_N_hasArc {p t b : Int32} (ht : vp_in t 14) : xX S d 43 0 (xa_ent 5 [.ref 1, .int p, .int t, .int b]) [] V 0 0 (xq (some (.int (n_ha V p t.toNatClampNeg b))) (xl_H xlay V)) := by
  refine xx_iload_n e_N_hasArc_0 rfl rfl ?_
  refine xx_if_eq e_N_hasArc_1 (fun q1 => ?_) (fun q1 => ?_)
  · refine xx_aload_n e_N_hasArc_13 rfl rfl ?_
    refine xh_getR e_N_hasArc_14 fg_N_19 rfl rfl ?_
    refine xx_iload_n e_N_hasArc_17 rfl rfl ?_
    refine xh_iald e_N_hasArc_18 rfl (by first | assumption | decide | (refine vp_in_nI ?_ (by decide); omega)) ?_
    refine xx_istore e_N_hasArc_19 rfl ?_
    refine xx_iload e_N_hasArc_21 rfl ?_
    refine xx_iload_n e_N_hasArc_23 rfl rfl ?_
    refine xx_ishr e_N_hasArc_24 ?_
    refine xx_iconst (v := 1) e_N_hasArc_25 (by decide) ?_
    refine xx_iand e_N_hasArc_26 ?_
    refine xx_iconst (v := 1) e_N_hasArc_27 (by decide) ?_
    refine xx_icmp_ne e_N_hasArc_28 (fun q28 => ?_) (fun q28 => ?_)
    · refine xx_iconst (v := 0) e_N_hasArc_35 (by decide) ?_
      refine xx_iret e_N_hasArc_36 rfl rfl ?_
      exact ⟨by simp only [n_ha, ↓reduceIte, *], rfl⟩
    · refine xx_iconst (v := 1) e_N_hasArc_31 (by decide) ?_
      refine xx_goto e_N_hasArc_32 ?_
      refine xx_iret e_N_hasArc_36 rfl rfl ?_
      exact ⟨by simp only [n_ha, ↓reduceIte, *], rfl⟩
  · refine xx_aload_n e_N_hasArc_4 rfl rfl ?_
    refine xh_getR e_N_hasArc_5 fg_N_22 rfl rfl ?_
    refine xx_iload_n e_N_hasArc_8 rfl rfl ?_
    refine xh_iald e_N_hasArc_9 rfl (by first | assumption | decide | (refine vp_in_nI ?_ (by decide); omega)) ?_
    refine xx_goto e_N_hasArc_10 ?_
    refine xx_istore e_N_hasArc_19 rfl ?_
    refine xx_iload e_N_hasArc_21 rfl ?_
    refine xx_iload_n e_N_hasArc_23 rfl rfl ?_
    refine xx_ishr e_N_hasArc_24 ?_
    refine xx_iconst (v := 1) e_N_hasArc_25 (by decide) ?_
    refine xx_iand e_N_hasArc_26 ?_
    refine xx_iconst (v := 1) e_N_hasArc_27 (by decide) ?_
    refine xx_icmp_ne e_N_hasArc_28 (fun q28 => ?_) (fun q28 => ?_)
    · refine xx_iconst (v := 0) e_N_hasArc_35 (by decide) ?_
      refine xx_iret e_N_hasArc_36 rfl rfl ?_
      exact ⟨by simp only [n_ha, ↓reduceIte, *], rfl⟩
    · refine xx_iconst (v := 1) e_N_hasArc_31 (by decide) ?_
      refine xx_goto e_N_hasArc_32 ?_
      refine xx_iret e_N_hasArc_36 rfl rfl ?_
      exact ⟨by simp only [n_ha, ↓reduceIte, *], rfl⟩
def n_as (V : xl_V) (i h : Int32) : xl_V := xl_i (xl_i (xl_i (xl_i V 1 6 (V.1 1 6 ||| (if i = 0 then (0 : Int32) else (1 : Int32) <<< (V.1 1 0 &&& 31)))) 1 5 (V.1 1 5 ||| (if i = 0 then (3 : Int32) <<< ((2 * V.1 1 0) &&& 31) else 0))) 1 3 (V.1 1 3 ||| (if h = 0 then (0 : Int32) else (1 : Int32) <<< (V.1 1 0 &&& 31)))) 1 0 (V.1 1 0 + 1)
theorem t_N_addSignal {i h : Int32} : xX S d 33 0 (xa_ent 4 [.ref 1, .int i, .int h]) [] V 0 0 (xq (some (.int (V.1 1 0 + 1 - 1))) (xl_H xlay (n_as V i h))) := by
  refine xx_iconst (v := 1) e_N_addSignal_0 (by decide) ?_
  refine xx_aload_n e_N_addSignal_1 rfl rfl ?_
  refine xh_get e_N_addSignal_2 fg_N_25 rfl rfl ?_
  refine xx_ishl e_N_addSignal_5 ?_
  refine xx_istore_n e_N_addSignal_6 rfl rfl ?_
  refine xx_aload_n e_N_addSignal_7 rfl rfl ?_
  refine xx_dup e_N_addSignal_8 rfl ?_
  refine xh_get e_N_addSignal_9 fg_N_29 rfl rfl ?_
  refine xx_iload_n e_N_addSignal_12 rfl rfl ?_
  refine xx_if_eq e_N_addSignal_13 (fun q13 => ?_) (fun q13 => ?_)
  · refine xx_iconst (v := 0) e_N_addSignal_20 (by decide) ?_
    refine xx_ior e_N_addSignal_21 ?_
    refine xh_put e_N_addSignal_22 fp_N_29 rfl rfl ⟨rfl, rfl⟩ ?_
    refine xx_aload_n e_N_addSignal_25 rfl rfl ?_
    refine xx_dup e_N_addSignal_26 rfl ?_
    refine xh_get e_N_addSignal_27 fg_N_32 rfl rfl ?_
    refine xx_iload_n e_N_addSignal_30 rfl rfl ?_
    refine xx_if_eq e_N_addSignal_31 (fun q31 => ?_) (fun q31 => ?_)
    · refine xx_iconst (v := 3) e_N_addSignal_38 (by decide) ?_
      refine xx_iconst (v := 2) e_N_addSignal_39 (by decide) ?_
      refine xx_aload_n e_N_addSignal_40 rfl rfl ?_
      refine xh_get e_N_addSignal_41 fg_N_25 rfl rfl ?_
      refine xx_imul e_N_addSignal_44 ?_
      refine xx_ishl e_N_addSignal_45 ?_
      refine xx_ior e_N_addSignal_46 ?_
      refine xh_put e_N_addSignal_47 fp_N_32 rfl rfl ⟨rfl, rfl⟩ ?_
      refine xx_aload_n e_N_addSignal_50 rfl rfl ?_
      refine xx_dup e_N_addSignal_51 rfl ?_
      refine xh_get e_N_addSignal_52 fg_N_35 rfl rfl ?_
      refine xx_iload_n e_N_addSignal_55 rfl rfl ?_
      refine xx_if_eq e_N_addSignal_56 (fun q56 => ?_) (fun q56 => ?_)
      · refine xx_iconst (v := 0) e_N_addSignal_63 (by decide) ?_
        refine xx_ior e_N_addSignal_64 ?_
        refine xh_put e_N_addSignal_65 fp_N_35 rfl rfl ⟨rfl, rfl⟩ ?_
        refine xx_aload_n e_N_addSignal_68 rfl rfl ?_
        refine xx_dup e_N_addSignal_69 rfl ?_
        refine xh_get e_N_addSignal_70 fg_N_25 rfl rfl ?_
        refine xx_iconst (v := 1) e_N_addSignal_73 (by decide) ?_
        refine xx_iadd e_N_addSignal_74 ?_
        refine xh_put e_N_addSignal_75 fp_N_25 rfl rfl ⟨rfl, rfl⟩ ?_
        refine xx_aload_n e_N_addSignal_78 rfl rfl ?_
        refine xh_get e_N_addSignal_79 fg_N_25 rfl rfl ?_
        refine xx_iconst (v := 1) e_N_addSignal_82 (by decide) ?_
        refine xx_isub e_N_addSignal_83 ?_
        refine xx_iret e_N_addSignal_84 rfl rfl ?_
        first | contradiction | exact ⟨rfl, by simp only [n_as, ↓reduceIte, *]; rfl⟩
      · refine xx_iload_n e_N_addSignal_59 rfl rfl ?_
        refine xx_goto e_N_addSignal_60 ?_
        refine xx_ior e_N_addSignal_64 ?_
        refine xh_put e_N_addSignal_65 fp_N_35 rfl rfl ⟨rfl, rfl⟩ ?_
        refine xx_aload_n e_N_addSignal_68 rfl rfl ?_
        refine xx_dup e_N_addSignal_69 rfl ?_
        refine xh_get e_N_addSignal_70 fg_N_25 rfl rfl ?_
        refine xx_iconst (v := 1) e_N_addSignal_73 (by decide) ?_
        refine xx_iadd e_N_addSignal_74 ?_
        refine xh_put e_N_addSignal_75 fp_N_25 rfl rfl ⟨rfl, rfl⟩ ?_
        refine xx_aload_n e_N_addSignal_78 rfl rfl ?_
        refine xh_get e_N_addSignal_79 fg_N_25 rfl rfl ?_
        refine xx_iconst (v := 1) e_N_addSignal_82 (by decide) ?_
        refine xx_isub e_N_addSignal_83 ?_
        refine xx_iret e_N_addSignal_84 rfl rfl ?_
        first | contradiction | exact ⟨rfl, by simp only [n_as, ↓reduceIte, *]; rfl⟩
    · refine xx_iconst (v := 0) e_N_addSignal_34 (by decide) ?_
      refine xx_goto e_N_addSignal_35 ?_
      refine xx_ior e_N_addSignal_46 ?_
      refine xh_put e_N_addSignal_47 fp_N_32 rfl rfl ⟨rfl, rfl⟩ ?_
      refine xx_aload_n e_N_addSignal_50 rfl rfl ?_
      refine xx_dup e_N_addSignal_51 rfl ?_
      refine xh_get e_N_addSignal_52 fg_N_35 rfl rfl ?_
      refine xx_iload_n e_N_addSignal_55 rfl rfl ?_
      refine xx_if_eq e_N_addSignal_56 (fun q56 => ?_) (fun q56 => ?_)
      · refine xx_iconst (v := 0) e_N_addSignal_63 (by decide) ?_
        refine xx_ior e_N_addSignal_64 ?_
        refine xh_put e_N_addSignal_65 fp_N_35 rfl rfl ⟨rfl, rfl⟩ ?_
        refine xx_aload_n e_N_addSignal_68 rfl rfl ?_
        refine xx_dup e_N_addSignal_69 rfl ?_
        refine xh_get e_N_addSignal_70 fg_N_25 rfl rfl ?_
        refine xx_iconst (v := 1) e_N_addSignal_73 (by decide) ?_
        refine xx_iadd e_N_addSignal_74 ?_
        refine xh_put e_N_addSignal_75 fp_N_25 rfl rfl ⟨rfl, rfl⟩ ?_
        refine xx_aload_n e_N_addSignal_78 rfl rfl ?_
        refine xh_get e_N_addSignal_79 fg_N_25 rfl rfl ?_
        refine xx_iconst (v := 1) e_N_addSignal_82 (by decide) ?_
        refine xx_isub e_N_addSignal_83 ?_
        refine xx_iret e_N_addSignal_84 rfl rfl ?_
        first | contradiction | exact ⟨rfl, by simp only [n_as, ↓reduceIte, *]; rfl⟩
      · refine xx_iload_n e_N_addSignal_59 rfl rfl ?_
        refine xx_goto e_N_addSignal_60 ?_
        refine xx_ior e_N_addSignal_64 ?_
        refine xh_put e_N_addSignal_65 fp_N_35 rfl rfl ⟨rfl, rfl⟩ ?_
        refine xx_aload_n e_N_addSignal_68 rfl rfl ?_
        refine xx_dup e_N_addSignal_69 rfl ?_
        refine xh_get e_N_addSignal_70 fg_N_25 rfl rfl ?_
        refine xx_iconst (v := 1) e_N_addSignal_73 (by decide) ?_
        refine xx_iadd e_N_addSignal_74 ?_
        refine xh_put e_N_addSignal_75 fp_N_25 rfl rfl ⟨rfl, rfl⟩ ?_
        refine xx_aload_n e_N_addSignal_78 rfl rfl ?_
        refine xh_get e_N_addSignal_79 fg_N_25 rfl rfl ?_
        refine xx_iconst (v := 1) e_N_addSignal_82 (by decide) ?_
        refine xx_isub e_N_addSignal_83 ?_
        refine xx_iret e_N_addSignal_84 rfl rfl ?_
        first | contradiction | exact ⟨rfl, by simp only [n_as, ↓reduceIte, *]; rfl⟩
  · refine xx_iload_n e_N_addSignal_16 rfl rfl ?_
    refine xx_goto e_N_addSignal_17 ?_
    refine xx_ior e_N_addSignal_21 ?_
    refine xh_put e_N_addSignal_22 fp_N_29 rfl rfl ⟨rfl, rfl⟩ ?_
    refine xx_aload_n e_N_addSignal_25 rfl rfl ?_
    refine xx_dup e_N_addSignal_26 rfl ?_
    refine xh_get e_N_addSignal_27 fg_N_32 rfl rfl ?_
    refine xx_iload_n e_N_addSignal_30 rfl rfl ?_
    refine xx_if_eq e_N_addSignal_31 (fun q31 => ?_) (fun q31 => ?_)
    · refine xx_iconst (v := 3) e_N_addSignal_38 (by decide) ?_
      refine xx_iconst (v := 2) e_N_addSignal_39 (by decide) ?_
      refine xx_aload_n e_N_addSignal_40 rfl rfl ?_
      refine xh_get e_N_addSignal_41 fg_N_25 rfl rfl ?_
      refine xx_imul e_N_addSignal_44 ?_
      refine xx_ishl e_N_addSignal_45 ?_
      refine xx_ior e_N_addSignal_46 ?_
      refine xh_put e_N_addSignal_47 fp_N_32 rfl rfl ⟨rfl, rfl⟩ ?_
      refine xx_aload_n e_N_addSignal_50 rfl rfl ?_
      refine xx_dup e_N_addSignal_51 rfl ?_
      refine xh_get e_N_addSignal_52 fg_N_35 rfl rfl ?_
      refine xx_iload_n e_N_addSignal_55 rfl rfl ?_
      refine xx_if_eq e_N_addSignal_56 (fun q56 => ?_) (fun q56 => ?_)
      · refine xx_iconst (v := 0) e_N_addSignal_63 (by decide) ?_
        refine xx_ior e_N_addSignal_64 ?_
        refine xh_put e_N_addSignal_65 fp_N_35 rfl rfl ⟨rfl, rfl⟩ ?_
        refine xx_aload_n e_N_addSignal_68 rfl rfl ?_
        refine xx_dup e_N_addSignal_69 rfl ?_
        refine xh_get e_N_addSignal_70 fg_N_25 rfl rfl ?_
        refine xx_iconst (v := 1) e_N_addSignal_73 (by decide) ?_
        refine xx_iadd e_N_addSignal_74 ?_
        refine xh_put e_N_addSignal_75 fp_N_25 rfl rfl ⟨rfl, rfl⟩ ?_
        refine xx_aload_n e_N_addSignal_78 rfl rfl ?_
        refine xh_get e_N_addSignal_79 fg_N_25 rfl rfl ?_
        refine xx_iconst (v := 1) e_N_addSignal_82 (by decide) ?_
        refine xx_isub e_N_addSignal_83 ?_
        refine xx_iret e_N_addSignal_84 rfl rfl ?_
        first | contradiction | exact ⟨rfl, by simp only [n_as, ↓reduceIte, *]; rfl⟩
      · refine xx_iload_n e_N_addSignal_59 rfl rfl ?_
        refine xx_goto e_N_addSignal_60 ?_
        refine xx_ior e_N_addSignal_64 ?_
        refine xh_put e_N_addSignal_65 fp_N_35 rfl rfl ⟨rfl, rfl⟩ ?_
        refine xx_aload_n e_N_addSignal_68 rfl rfl ?_
        refine xx_dup e_N_addSignal_69 rfl ?_
        refine xh_get e_N_addSignal_70 fg_N_25 rfl rfl ?_
        refine xx_iconst (v := 1) e_N_addSignal_73 (by decide) ?_
        refine xx_iadd e_N_addSignal_74 ?_
        refine xh_put e_N_addSignal_75 fp_N_25 rfl rfl ⟨rfl, rfl⟩ ?_
        refine xx_aload_n e_N_addSignal_78 rfl rfl ?_
        refine xh_get e_N_addSignal_79 fg_N_25 rfl rfl ?_
        refine xx_iconst (v := 1) e_N_addSignal_82 (by decide) ?_
        refine xx_isub e_N_addSignal_83 ?_
        refine xx_iret e_N_addSignal_84 rfl rfl ?_
        first | contradiction | exact ⟨rfl, by simp only [n_as, ↓reduceIte, *]; rfl⟩
    · refine xx_iconst (v := 0) e_N_addSignal_34 (by decide) ?_
      refine xx_goto e_N_addSignal_35 ?_
      refine xx_ior e_N_addSignal_46 ?_
      refine xh_put e_N_addSignal_47 fp_N_32 rfl rfl ⟨rfl, rfl⟩ ?_
      refine xx_aload_n e_N_addSignal_50 rfl rfl ?_
      refine xx_dup e_N_addSignal_51 rfl ?_
      refine xh_get e_N_addSignal_52 fg_N_35 rfl rfl ?_
      refine xx_iload_n e_N_addSignal_55 rfl rfl ?_
      refine xx_if_eq e_N_addSignal_56 (fun q56 => ?_) (fun q56 => ?_)
      · refine xx_iconst (v := 0) e_N_addSignal_63 (by decide) ?_
        refine xx_ior e_N_addSignal_64 ?_
        refine xh_put e_N_addSignal_65 fp_N_35 rfl rfl ⟨rfl, rfl⟩ ?_
        refine xx_aload_n e_N_addSignal_68 rfl rfl ?_
        refine xx_dup e_N_addSignal_69 rfl ?_
        refine xh_get e_N_addSignal_70 fg_N_25 rfl rfl ?_
        refine xx_iconst (v := 1) e_N_addSignal_73 (by decide) ?_
        refine xx_iadd e_N_addSignal_74 ?_
        refine xh_put e_N_addSignal_75 fp_N_25 rfl rfl ⟨rfl, rfl⟩ ?_
        refine xx_aload_n e_N_addSignal_78 rfl rfl ?_
        refine xh_get e_N_addSignal_79 fg_N_25 rfl rfl ?_
        refine xx_iconst (v := 1) e_N_addSignal_82 (by decide) ?_
        refine xx_isub e_N_addSignal_83 ?_
        refine xx_iret e_N_addSignal_84 rfl rfl ?_
        first | contradiction | exact ⟨rfl, by simp only [n_as, ↓reduceIte, *]; rfl⟩
      · refine xx_iload_n e_N_addSignal_59 rfl rfl ?_
        refine xx_goto e_N_addSignal_60 ?_
        refine xx_ior e_N_addSignal_64 ?_
        refine xh_put e_N_addSignal_65 fp_N_35 rfl rfl ⟨rfl, rfl⟩ ?_
        refine xx_aload_n e_N_addSignal_68 rfl rfl ?_
        refine xx_dup e_N_addSignal_69 rfl ?_
        refine xh_get e_N_addSignal_70 fg_N_25 rfl rfl ?_
        refine xx_iconst (v := 1) e_N_addSignal_73 (by decide) ?_
        refine xx_iadd e_N_addSignal_74 ?_
        refine xh_put e_N_addSignal_75 fp_N_25 rfl rfl ⟨rfl, rfl⟩ ?_
        refine xx_aload_n e_N_addSignal_78 rfl rfl ?_
        refine xh_get e_N_addSignal_79 fg_N_25 rfl rfl ?_
        refine xx_iconst (v := 1) e_N_addSignal_82 (by decide) ?_
        refine xx_isub e_N_addSignal_83 ?_
        refine xx_iret e_N_addSignal_84 rfl rfl ?_
        first | contradiction | exact ⟨rfl, by simp only [n_as, ↓reduceIte, *]; rfl⟩
def n_ae (V : xl_V) (s r : Int32) : xl_V := xl_i (xl_a (xl_a V 2 (upd (V.2.1 2) (V.1 1 1).toNatClampNeg s)) 3 (upd (V.2.1 3) (V.1 1 1).toNatClampNeg (vp_nar .boolean r))) 1 1 (V.1 1 1 + 1)
theorem t_N_addEdge {s r : Int32} (he : vp_in (V.1 1 1) 14) : xX S d 37 0 (xa_ent 3 [.ref 1, .int s, .int r]) [] V 0 0 (xq (some (.int (V.1 1 1 + 1 - 1))) (xl_H xlay (n_ae V s r))) := by
  refine xx_aload_n e_N_addEdge_0 rfl rfl ?_
  refine xh_getR e_N_addEdge_1 fg_N_9 rfl rfl ?_
  refine xx_aload_n e_N_addEdge_4 rfl rfl ?_
  refine xh_get e_N_addEdge_5 fg_N_38 rfl rfl ?_
  refine xx_iload_n e_N_addEdge_8 rfl rfl ?_
  refine xh_iast e_N_addEdge_9 rfl (by first | assumption | decide | (refine vp_in_nI ?_ (by decide); omega)) ?_
  refine xx_aload_n e_N_addEdge_10 rfl rfl ?_
  refine xh_getR e_N_addEdge_11 fg_N_15 rfl rfl ?_
  refine xx_aload_n e_N_addEdge_14 rfl rfl ?_
  refine xh_get e_N_addEdge_15 fg_N_38 rfl rfl ?_
  refine xx_iload_n e_N_addEdge_18 rfl rfl ?_
  refine xh_bast e_N_addEdge_19 rfl (by first | assumption | decide | (refine vp_in_nI ?_ (by decide); omega)) ?_
  refine xx_aload_n e_N_addEdge_20 rfl rfl ?_
  refine xx_dup e_N_addEdge_21 rfl ?_
  refine xh_get e_N_addEdge_22 fg_N_38 rfl rfl ?_
  refine xx_iconst (v := 1) e_N_addEdge_25 (by decide) ?_
  refine xx_iadd e_N_addEdge_26 ?_
  refine xh_put e_N_addEdge_27 fp_N_38 rfl rfl ⟨rfl, rfl⟩ ?_
  refine xx_aload_n e_N_addEdge_30 rfl rfl ?_
  refine xh_get e_N_addEdge_31 fg_N_38 rfl rfl ?_
  refine xx_iconst (v := 1) e_N_addEdge_34 (by decide) ?_
  refine xx_isub e_N_addEdge_35 ?_
  refine xx_iret e_N_addEdge_36 rfl rfl ?_
  exact ⟨rfl, rfl⟩
def n_ap (V : xl_V) (b : Int32) : xl_V := xl_i (xl_i V 1 4 (V.1 1 4 ||| (if b = 0 then (0 : Int32) else (1 : Int32) <<< (V.1 1 2 &&& 31)))) 1 2 (V.1 1 2 + 1)
theorem t_N_addPlace {b : Int32} : xX S d 40 0 (xa_ent 2 [.ref 1, .int b]) [] V 0 0 (xq (some (.int (V.1 1 2 + 1 - 1))) (xl_H xlay (n_ap V b))) := by
  refine xx_aload_n e_N_addPlace_0 rfl rfl ?_
  refine xx_dup e_N_addPlace_1 rfl ?_
  refine xh_get e_N_addPlace_2 fg_N_41 rfl rfl ?_
  refine xx_iload_n e_N_addPlace_5 rfl rfl ?_
  refine xx_if_eq e_N_addPlace_6 (fun q6 => ?_) (fun q6 => ?_)
  · refine xx_iconst (v := 0) e_N_addPlace_18 (by decide) ?_
    refine xx_ior e_N_addPlace_19 ?_
    refine xh_put e_N_addPlace_20 fp_N_41 rfl rfl ⟨rfl, rfl⟩ ?_
    refine xx_aload_n e_N_addPlace_23 rfl rfl ?_
    refine xx_dup e_N_addPlace_24 rfl ?_
    refine xh_get e_N_addPlace_25 fg_N_44 rfl rfl ?_
    refine xx_iconst (v := 1) e_N_addPlace_28 (by decide) ?_
    refine xx_iadd e_N_addPlace_29 ?_
    refine xh_put e_N_addPlace_30 fp_N_44 rfl rfl ⟨rfl, rfl⟩ ?_
    refine xx_aload_n e_N_addPlace_33 rfl rfl ?_
    refine xh_get e_N_addPlace_34 fg_N_44 rfl rfl ?_
    refine xx_iconst (v := 1) e_N_addPlace_37 (by decide) ?_
    refine xx_isub e_N_addPlace_38 ?_
    refine xx_iret e_N_addPlace_39 rfl rfl ?_
    exact ⟨rfl, by simp only [n_ap, ↓reduceIte, *]; rfl⟩
  · refine xx_iconst (v := 1) e_N_addPlace_9 (by decide) ?_
    refine xx_aload_n e_N_addPlace_10 rfl rfl ?_
    refine xh_get e_N_addPlace_11 fg_N_44 rfl rfl ?_
    refine xx_ishl e_N_addPlace_14 ?_
    refine xx_goto e_N_addPlace_15 ?_
    refine xx_ior e_N_addPlace_19 ?_
    refine xh_put e_N_addPlace_20 fp_N_41 rfl rfl ⟨rfl, rfl⟩ ?_
    refine xx_aload_n e_N_addPlace_23 rfl rfl ?_
    refine xx_dup e_N_addPlace_24 rfl ?_
    refine xh_get e_N_addPlace_25 fg_N_44 rfl rfl ?_
    refine xx_iconst (v := 1) e_N_addPlace_28 (by decide) ?_
    refine xx_iadd e_N_addPlace_29 ?_
    refine xh_put e_N_addPlace_30 fp_N_44 rfl rfl ⟨rfl, rfl⟩ ?_
    refine xx_aload_n e_N_addPlace_33 rfl rfl ?_
    refine xh_get e_N_addPlace_34 fg_N_44 rfl rfl ?_
    refine xx_iconst (v := 1) e_N_addPlace_37 (by decide) ?_
    refine xx_isub e_N_addPlace_38 ?_
    refine xx_iret e_N_addPlace_39 rfl rfl ?_
    exact ⟨rfl, by simp only [n_ap, ↓reduceIte, *]; rfl⟩
def n_aa (V : xl_V) (p : Int32) (t : Nat) (b : Int32) : xl_V := if b = 0 then xl_a V 4 (upd (V.2.1 4) t (V.2.1 4 t ||| ((1 : Int32) <<< (p &&& 31)))) else xl_a V 5 (upd (V.2.1 5) t (V.2.1 5 t ||| ((1 : Int32) <<< (p &&& 31))))
theorem t_N_addArc {p t b : Int32} (ht : vp_in t 14) : xX S d 44 0 (xa_ent 4 [.ref 1, .int p, .int t, .int b]) [] V 0 0 (xq none (xl_H xlay (n_aa V p t.toNatClampNeg b))) := by
  refine xx_iload_n e_N_addArc_0 rfl rfl ?_
  refine xx_if_eq e_N_addArc_1 (fun q1 => ?_) (fun q1 => ?_)
  · refine xx_aload_n e_N_addArc_19 rfl rfl ?_
    refine xh_getR e_N_addArc_20 fg_N_19 rfl rfl ?_
    refine xx_iload_n e_N_addArc_23 rfl rfl ?_
    refine xx_dup2 e_N_addArc_24 rfl rfl ?_
    refine xh_iald e_N_addArc_25 rfl (by first | assumption | decide | (refine vp_in_nI ?_ (by decide); omega)) ?_
    refine xx_iconst (v := 1) e_N_addArc_26 (by decide) ?_
    refine xx_iload_n e_N_addArc_27 rfl rfl ?_
    refine xx_ishl e_N_addArc_28 ?_
    refine xx_ior e_N_addArc_29 ?_
    refine xh_iast e_N_addArc_30 rfl (by first | assumption | decide | (refine vp_in_nI ?_ (by decide); omega)) ?_
    refine xx_vret e_N_addArc_31 rfl ?_
    exact ⟨rfl, by simp only [n_aa, ↓reduceIte, *]⟩
  · refine xx_aload_n e_N_addArc_4 rfl rfl ?_
    refine xh_getR e_N_addArc_5 fg_N_22 rfl rfl ?_
    refine xx_iload_n e_N_addArc_8 rfl rfl ?_
    refine xx_dup2 e_N_addArc_9 rfl rfl ?_
    refine xh_iald e_N_addArc_10 rfl (by first | assumption | decide | (refine vp_in_nI ?_ (by decide); omega)) ?_
    refine xx_iconst (v := 1) e_N_addArc_11 (by decide) ?_
    refine xx_iload_n e_N_addArc_12 rfl rfl ?_
    refine xx_ishl e_N_addArc_13 ?_
    refine xx_ior e_N_addArc_14 ?_
    refine xh_iast e_N_addArc_15 rfl (by first | assumption | decide | (refine vp_in_nI ?_ (by decide); omega)) ?_
    refine xx_goto e_N_addArc_16 ?_
    refine xx_vret e_N_addArc_31 rfl ?_
    exact ⟨rfl, by simp only [n_aa, ↓reduceIte, *]⟩
end XNet
end
section
/-! Rows for indices that are natural numbers, and calls whose caller goes on behind each end of the callee. -/
section XNat
variable {K : xa_P} {tx : Nat → Nat × (Nat → Int32)} {d y pc n' : Nat} {ls st : List Value} {h : xa_H} {mc ms : Nat} {Q : xa_Q} {lay : List xl_S} {V : xl_V}
theorem xn31 {a : Nat} (h : a < 5000) : a < 2 ^ 31 := Nat.lt_trans h (by decide)
theorem xh_ialN {a n k0 : Nat} (hd : xa_d K y pc (.iaload) 1 n') (ha : lay[a]? = some (.inr (0, n))) (hk : k0 < n) (k : xa_X K tx d y n' ls (.int (V.2.1 a k0) :: st) (xl_H lay V) mc ms Q) (hn : n < 5000 := by decide) : xa_X K tx d y pc ls (.int (nI k0) :: .ref a :: st) (xl_H lay V) mc ms Q :=
  xh_iald hd ha (vp_in_nI hk (xn31 hn)) (by rw [nI_clamp (xn31 (by omega))]; exact k)
theorem xh_balN {a n k0 : Nat} (hd : xa_d K y pc (.baload) 1 n') (ha : lay[a]? = some (.inr (1, n))) (hk : k0 < n) (k : xa_X K tx d y n' ls (.int (V.2.1 a k0) :: st) (xl_H lay V) mc ms Q) (hn : n < 5000 := by decide) : xa_X K tx d y pc ls (.int (nI k0) :: .ref a :: st) (xl_H lay V) mc ms Q :=
  xh_bald hd ha (vp_in_nI hk (xn31 hn)) (by rw [nI_clamp (xn31 (by omega))]; exact k)
theorem xh_iasN {a n k0 : Nat} {x : Int32} (hd : xa_d K y pc (.iastore) 1 n') (ha : lay[a]? = some (.inr (0, n))) (hk : k0 < n) (k : xa_X K tx d y n' ls st (xl_H lay (xl_a V a (upd (V.2.1 a) k0 x))) mc ms Q) (hn : n < 5000 := by decide) : xa_X K tx d y pc ls (.int x :: .int (nI k0) :: .ref a :: st) (xl_H lay V) mc ms Q :=
  xh_iast hd ha (vp_in_nI hk (xn31 hn)) (by rw [nI_clamp (xn31 (by omega))]; exact k)
theorem xh_basN {a n k0 : Nat} {x : Int32} (hd : xa_d K y pc (.bastore) 1 n') (ha : lay[a]? = some (.inr (1, n))) (hk : k0 < n) (k : xa_X K tx d y n' ls st (xl_H lay (xl_a V a (upd (V.2.1 a) k0 (vp_nar .boolean x)))) mc ms Q) (hn : n < 5000 := by decide) : xa_X K tx d y pc ls (.int x :: .int (nI k0) :: .ref a :: st) (xl_H lay V) mc ms Q :=
  xh_bast hd ha (vp_in_nI hk (xn31 hn)) (by rw [nI_clamp (xn31 (by omega))]; exact k)
theorem xh_incN {i x : Nat} (hd : xa_d K y pc (.iinc i 1) 3 n') (hl : ls[i]? = some (.int (nI x))) (k : xa_X K tx d y n' (ls.set i (.int (nI (x + 1)))) st h mc ms Q) : xa_X K tx d y pc ls st h mc ms Q := xh_inc hd hl (by rw [nI_1]; exact k)
/-- what a call goes on to -/
def xk (K : xa_P) (tx : Nat → Nat × (Nat → Int32)) (d y pc : Nat) (ls st : List Value) (mc ms : Nat) (Q : xa_Q) : xa_Q := fun o h => ∃ v, o = .inl v ∧ xa_X K tx d y pc ls (v.toList ++ st) h mc ms Q
theorem xk_n {mc' : Nat} {E : String} {h' : xa_H} : ¬ xk K tx d y pc ls st mc ms Q (.inr E) h' := fun q => by obtain ⟨v, e, -⟩ := q; cases e
theorem xk_i {x : Int32} {h' : xa_H} (k : xa_X K tx d y pc ls (.int x :: st) h' mc ms Q) : xk K tx d y pc ls st mc ms Q (.inl (some (.int x))) h' := ⟨_, rfl, k⟩
theorem xk_v {h' : xa_H} (k : xa_X K tx d y pc ls st h' mc ms Q) : xk K tx d y pc ls st mc ms Q (.inl none) h' := ⟨_, rfl, k⟩
/-- a method's end may be weakened -/
theorem xc_V0k {i y' mc' ms' : Nat} {fs : List Value} {ci : Nat} {a : Nat} (hd : xa_d K y pc (.invokevirtual i) 3 n') (hl : xa_lkV K (K.1 y).1.cls i ci y' 0) (hh : h.2 a = .inr (ci, fs)) (k1 : xa_X K tx d y' 0 (xa_ent (K.1 y').2.2.1 (.ref a :: [])) [] h mc' ms' (xk K tx (d + 1) y n' ls st mc ms Q))  (hw : (st.map fun v => v.category).sum ≤ 8 := by exact Nat.le_of_ble_eq_true rfl) : xa_X K tx (d + 1) y pc ls (.ref a :: st) h (mc + mc') (ms + ms') Q :=
  xc_V0 hd hl hh (fun _ _ q => xk_n (mc' := 0) q) k1 (fun v h' q => by obtain ⟨v2, e1, e2⟩ := q; cases e1; exact e2) hw
theorem xc_V0z {i y' : Nat} {fs : List Value} {ci : Nat} {a : Nat} (hd : xa_d K y pc (.invokevirtual i) 3 n') (hl : xa_lkV K (K.1 y).1.cls i ci y' 0) (hh : h.2 a = .inr (ci, fs)) (k1 : xa_X K tx d y' 0 (xa_ent (K.1 y').2.2.1 (.ref a :: [])) [] h 0 0 (xk K tx (d + 1) y n' ls st mc ms Q))  (hw : (st.map fun v => v.category).sum ≤ 8 := by exact Nat.le_of_ble_eq_true rfl) : xa_X K tx (d + 1) y pc ls (.ref a :: st) h mc ms Q :=
  xc_V0k (mc' := 0) (ms' := 0) hd hl hh k1 hw
theorem xc_S0k {i y' mc' ms' : Nat} (hd : xa_d K y pc (.invokestatic i) 3 n') (hl : xa_lkS K (K.1 y).1.cls i y' 0) (k1 : xa_X K tx d y' 0 (xa_ent (K.1 y').2.2.1 ([])) [] h mc' ms' (xk K tx (d + 1) y n' ls st mc ms Q))  (hw : (st.map fun v => v.category).sum ≤ 8 := by exact Nat.le_of_ble_eq_true rfl) : xa_X K tx (d + 1) y pc ls (st) h (mc + mc') (ms + ms') Q :=
  xc_S0 hd hl (fun _ _ q => xk_n (mc' := 0) q) k1 (fun v h' q => by obtain ⟨v2, e1, e2⟩ := q; cases e1; exact e2) hw
theorem xc_S0z {i y' : Nat} (hd : xa_d K y pc (.invokestatic i) 3 n') (hl : xa_lkS K (K.1 y).1.cls i y' 0) (k1 : xa_X K tx d y' 0 (xa_ent (K.1 y').2.2.1 ([])) [] h 0 0 (xk K tx (d + 1) y n' ls st mc ms Q))  (hw : (st.map fun v => v.category).sum ≤ 8 := by exact Nat.le_of_ble_eq_true rfl) : xa_X K tx (d + 1) y pc ls (st) h mc ms Q :=
  xc_S0k (mc' := 0) (ms' := 0) hd hl k1 hw
theorem xc_I0k {i y' mc' ms' : Nat} {a : Nat} (hd : xa_d K y pc (.invokespecial i) 3 n') (hl : xa_lkI K (K.1 y).1.cls i y' 0) (k1 : xa_X K tx d y' 0 (xa_ent (K.1 y').2.2.1 (.ref a :: [])) [] h mc' ms' (xk K tx (d + 1) y n' ls st mc ms Q))  (hw : (st.map fun v => v.category).sum ≤ 8 := by exact Nat.le_of_ble_eq_true rfl) : xa_X K tx (d + 1) y pc ls (.ref a :: st) h (mc + mc') (ms + ms') Q :=
  xc_I0 hd hl (fun _ _ q => xk_n (mc' := 0) q) k1 (fun v h' q => by obtain ⟨v2, e1, e2⟩ := q; cases e1; exact e2) hw
theorem xc_I0z {i y' : Nat} {a : Nat} (hd : xa_d K y pc (.invokespecial i) 3 n') (hl : xa_lkI K (K.1 y).1.cls i y' 0) (k1 : xa_X K tx d y' 0 (xa_ent (K.1 y').2.2.1 (.ref a :: [])) [] h 0 0 (xk K tx (d + 1) y n' ls st mc ms Q))  (hw : (st.map fun v => v.category).sum ≤ 8 := by exact Nat.le_of_ble_eq_true rfl) : xa_X K tx (d + 1) y pc ls (.ref a :: st) h mc ms Q :=
  xc_I0k (mc' := 0) (ms' := 0) hd hl k1 hw
theorem xc_V1k {i y' mc' ms' : Nat} {fs : List Value} {ci : Nat} {a : Nat} {w1 : Value} (hd : xa_d K y pc (.invokevirtual i) 3 n') (hl : xa_lkV K (K.1 y).1.cls i ci y' 1) (hh : h.2 a = .inr (ci, fs)) (k1 : xa_X K tx d y' 0 (xa_ent (K.1 y').2.2.1 (.ref a :: [w1])) [] h mc' ms' (xk K tx (d + 1) y n' ls st mc ms Q)) (c1 : w1.category = 1 := by rfl) (hw : (st.map fun v => v.category).sum ≤ 8 := by exact Nat.le_of_ble_eq_true rfl) : xa_X K tx (d + 1) y pc ls (w1 :: .ref a :: st) h (mc + mc') (ms + ms') Q :=
  xc_V1 hd hl hh (fun _ _ q => xk_n (mc' := 0) q) k1 (fun v h' q => by obtain ⟨v2, e1, e2⟩ := q; cases e1; exact e2) c1 hw
theorem xc_V1z {i y' : Nat} {fs : List Value} {ci : Nat} {a : Nat} {w1 : Value} (hd : xa_d K y pc (.invokevirtual i) 3 n') (hl : xa_lkV K (K.1 y).1.cls i ci y' 1) (hh : h.2 a = .inr (ci, fs)) (k1 : xa_X K tx d y' 0 (xa_ent (K.1 y').2.2.1 (.ref a :: [w1])) [] h 0 0 (xk K tx (d + 1) y n' ls st mc ms Q)) (c1 : w1.category = 1 := by rfl) (hw : (st.map fun v => v.category).sum ≤ 8 := by exact Nat.le_of_ble_eq_true rfl) : xa_X K tx (d + 1) y pc ls (w1 :: .ref a :: st) h mc ms Q :=
  xc_V1k (mc' := 0) (ms' := 0) hd hl hh k1 c1 hw
theorem xc_S1k {i y' mc' ms' : Nat} {w1 : Value} (hd : xa_d K y pc (.invokestatic i) 3 n') (hl : xa_lkS K (K.1 y).1.cls i y' 1) (k1 : xa_X K tx d y' 0 (xa_ent (K.1 y').2.2.1 ([w1])) [] h mc' ms' (xk K tx (d + 1) y n' ls st mc ms Q)) (c1 : w1.category = 1 := by rfl) (hw : (st.map fun v => v.category).sum ≤ 8 := by exact Nat.le_of_ble_eq_true rfl) : xa_X K tx (d + 1) y pc ls (w1 :: st) h (mc + mc') (ms + ms') Q :=
  xc_S1 hd hl (fun _ _ q => xk_n (mc' := 0) q) k1 (fun v h' q => by obtain ⟨v2, e1, e2⟩ := q; cases e1; exact e2) c1 hw
theorem xc_S1z {i y' : Nat} {w1 : Value} (hd : xa_d K y pc (.invokestatic i) 3 n') (hl : xa_lkS K (K.1 y).1.cls i y' 1) (k1 : xa_X K tx d y' 0 (xa_ent (K.1 y').2.2.1 ([w1])) [] h 0 0 (xk K tx (d + 1) y n' ls st mc ms Q)) (c1 : w1.category = 1 := by rfl) (hw : (st.map fun v => v.category).sum ≤ 8 := by exact Nat.le_of_ble_eq_true rfl) : xa_X K tx (d + 1) y pc ls (w1 :: st) h mc ms Q :=
  xc_S1k (mc' := 0) (ms' := 0) hd hl k1 c1 hw
theorem xc_I1k {i y' mc' ms' : Nat} {a : Nat} {w1 : Value} (hd : xa_d K y pc (.invokespecial i) 3 n') (hl : xa_lkI K (K.1 y).1.cls i y' 1) (k1 : xa_X K tx d y' 0 (xa_ent (K.1 y').2.2.1 (.ref a :: [w1])) [] h mc' ms' (xk K tx (d + 1) y n' ls st mc ms Q)) (c1 : w1.category = 1 := by rfl) (hw : (st.map fun v => v.category).sum ≤ 8 := by exact Nat.le_of_ble_eq_true rfl) : xa_X K tx (d + 1) y pc ls (w1 :: .ref a :: st) h (mc + mc') (ms + ms') Q :=
  xc_I1 hd hl (fun _ _ q => xk_n (mc' := 0) q) k1 (fun v h' q => by obtain ⟨v2, e1, e2⟩ := q; cases e1; exact e2) c1 hw
theorem xc_I1z {i y' : Nat} {a : Nat} {w1 : Value} (hd : xa_d K y pc (.invokespecial i) 3 n') (hl : xa_lkI K (K.1 y).1.cls i y' 1) (k1 : xa_X K tx d y' 0 (xa_ent (K.1 y').2.2.1 (.ref a :: [w1])) [] h 0 0 (xk K tx (d + 1) y n' ls st mc ms Q)) (c1 : w1.category = 1 := by rfl) (hw : (st.map fun v => v.category).sum ≤ 8 := by exact Nat.le_of_ble_eq_true rfl) : xa_X K tx (d + 1) y pc ls (w1 :: .ref a :: st) h mc ms Q :=
  xc_I1k (mc' := 0) (ms' := 0) hd hl k1 c1 hw
theorem xc_V2k {i y' mc' ms' : Nat} {fs : List Value} {ci : Nat} {a : Nat} {w1 w2 : Value} (hd : xa_d K y pc (.invokevirtual i) 3 n') (hl : xa_lkV K (K.1 y).1.cls i ci y' 2) (hh : h.2 a = .inr (ci, fs)) (k1 : xa_X K tx d y' 0 (xa_ent (K.1 y').2.2.1 (.ref a :: [w1, w2])) [] h mc' ms' (xk K tx (d + 1) y n' ls st mc ms Q)) (c1 : w1.category = 1 := by rfl) (c2 : w2.category = 1 := by rfl) (hw : (st.map fun v => v.category).sum ≤ 8 := by exact Nat.le_of_ble_eq_true rfl) : xa_X K tx (d + 1) y pc ls (w2 :: w1 :: .ref a :: st) h (mc + mc') (ms + ms') Q :=
  xc_V2 hd hl hh (fun _ _ q => xk_n (mc' := 0) q) k1 (fun v h' q => by obtain ⟨v2, e1, e2⟩ := q; cases e1; exact e2) c1 c2 hw
theorem xc_V2z {i y' : Nat} {fs : List Value} {ci : Nat} {a : Nat} {w1 w2 : Value} (hd : xa_d K y pc (.invokevirtual i) 3 n') (hl : xa_lkV K (K.1 y).1.cls i ci y' 2) (hh : h.2 a = .inr (ci, fs)) (k1 : xa_X K tx d y' 0 (xa_ent (K.1 y').2.2.1 (.ref a :: [w1, w2])) [] h 0 0 (xk K tx (d + 1) y n' ls st mc ms Q)) (c1 : w1.category = 1 := by rfl) (c2 : w2.category = 1 := by rfl) (hw : (st.map fun v => v.category).sum ≤ 8 := by exact Nat.le_of_ble_eq_true rfl) : xa_X K tx (d + 1) y pc ls (w2 :: w1 :: .ref a :: st) h mc ms Q :=
  xc_V2k (mc' := 0) (ms' := 0) hd hl hh k1 c1 c2 hw
theorem xc_S2k {i y' mc' ms' : Nat} {w1 w2 : Value} (hd : xa_d K y pc (.invokestatic i) 3 n') (hl : xa_lkS K (K.1 y).1.cls i y' 2) (k1 : xa_X K tx d y' 0 (xa_ent (K.1 y').2.2.1 ([w1, w2])) [] h mc' ms' (xk K tx (d + 1) y n' ls st mc ms Q)) (c1 : w1.category = 1 := by rfl) (c2 : w2.category = 1 := by rfl) (hw : (st.map fun v => v.category).sum ≤ 8 := by exact Nat.le_of_ble_eq_true rfl) : xa_X K tx (d + 1) y pc ls (w2 :: w1 :: st) h (mc + mc') (ms + ms') Q :=
  xc_S2 hd hl (fun _ _ q => xk_n (mc' := 0) q) k1 (fun v h' q => by obtain ⟨v2, e1, e2⟩ := q; cases e1; exact e2) c1 c2 hw
theorem xc_S2z {i y' : Nat} {w1 w2 : Value} (hd : xa_d K y pc (.invokestatic i) 3 n') (hl : xa_lkS K (K.1 y).1.cls i y' 2) (k1 : xa_X K tx d y' 0 (xa_ent (K.1 y').2.2.1 ([w1, w2])) [] h 0 0 (xk K tx (d + 1) y n' ls st mc ms Q)) (c1 : w1.category = 1 := by rfl) (c2 : w2.category = 1 := by rfl) (hw : (st.map fun v => v.category).sum ≤ 8 := by exact Nat.le_of_ble_eq_true rfl) : xa_X K tx (d + 1) y pc ls (w2 :: w1 :: st) h mc ms Q :=
  xc_S2k (mc' := 0) (ms' := 0) hd hl k1 c1 c2 hw
theorem xc_I2k {i y' mc' ms' : Nat} {a : Nat} {w1 w2 : Value} (hd : xa_d K y pc (.invokespecial i) 3 n') (hl : xa_lkI K (K.1 y).1.cls i y' 2) (k1 : xa_X K tx d y' 0 (xa_ent (K.1 y').2.2.1 (.ref a :: [w1, w2])) [] h mc' ms' (xk K tx (d + 1) y n' ls st mc ms Q)) (c1 : w1.category = 1 := by rfl) (c2 : w2.category = 1 := by rfl) (hw : (st.map fun v => v.category).sum ≤ 8 := by exact Nat.le_of_ble_eq_true rfl) : xa_X K tx (d + 1) y pc ls (w2 :: w1 :: .ref a :: st) h (mc + mc') (ms + ms') Q :=
  xc_I2 hd hl (fun _ _ q => xk_n (mc' := 0) q) k1 (fun v h' q => by obtain ⟨v2, e1, e2⟩ := q; cases e1; exact e2) c1 c2 hw
theorem xc_I2z {i y' : Nat} {a : Nat} {w1 w2 : Value} (hd : xa_d K y pc (.invokespecial i) 3 n') (hl : xa_lkI K (K.1 y).1.cls i y' 2) (k1 : xa_X K tx d y' 0 (xa_ent (K.1 y').2.2.1 (.ref a :: [w1, w2])) [] h 0 0 (xk K tx (d + 1) y n' ls st mc ms Q)) (c1 : w1.category = 1 := by rfl) (c2 : w2.category = 1 := by rfl) (hw : (st.map fun v => v.category).sum ≤ 8 := by exact Nat.le_of_ble_eq_true rfl) : xa_X K tx (d + 1) y pc ls (w2 :: w1 :: .ref a :: st) h mc ms Q :=
  xc_I2k (mc' := 0) (ms' := 0) hd hl k1 c1 c2 hw
theorem xc_V3k {i y' mc' ms' : Nat} {fs : List Value} {ci : Nat} {a : Nat} {w1 w2 w3 : Value} (hd : xa_d K y pc (.invokevirtual i) 3 n') (hl : xa_lkV K (K.1 y).1.cls i ci y' 3) (hh : h.2 a = .inr (ci, fs)) (k1 : xa_X K tx d y' 0 (xa_ent (K.1 y').2.2.1 (.ref a :: [w1, w2, w3])) [] h mc' ms' (xk K tx (d + 1) y n' ls st mc ms Q)) (c1 : w1.category = 1 := by rfl) (c2 : w2.category = 1 := by rfl) (c3 : w3.category = 1 := by rfl) (hw : (st.map fun v => v.category).sum ≤ 8 := by exact Nat.le_of_ble_eq_true rfl) : xa_X K tx (d + 1) y pc ls (w3 :: w2 :: w1 :: .ref a :: st) h (mc + mc') (ms + ms') Q :=
  xc_V3 hd hl hh (fun _ _ q => xk_n (mc' := 0) q) k1 (fun v h' q => by obtain ⟨v2, e1, e2⟩ := q; cases e1; exact e2) c1 c2 c3 hw
theorem xc_V3z {i y' : Nat} {fs : List Value} {ci : Nat} {a : Nat} {w1 w2 w3 : Value} (hd : xa_d K y pc (.invokevirtual i) 3 n') (hl : xa_lkV K (K.1 y).1.cls i ci y' 3) (hh : h.2 a = .inr (ci, fs)) (k1 : xa_X K tx d y' 0 (xa_ent (K.1 y').2.2.1 (.ref a :: [w1, w2, w3])) [] h 0 0 (xk K tx (d + 1) y n' ls st mc ms Q)) (c1 : w1.category = 1 := by rfl) (c2 : w2.category = 1 := by rfl) (c3 : w3.category = 1 := by rfl) (hw : (st.map fun v => v.category).sum ≤ 8 := by exact Nat.le_of_ble_eq_true rfl) : xa_X K tx (d + 1) y pc ls (w3 :: w2 :: w1 :: .ref a :: st) h mc ms Q :=
  xc_V3k (mc' := 0) (ms' := 0) hd hl hh k1 c1 c2 c3 hw
theorem xc_S3k {i y' mc' ms' : Nat} {w1 w2 w3 : Value} (hd : xa_d K y pc (.invokestatic i) 3 n') (hl : xa_lkS K (K.1 y).1.cls i y' 3) (k1 : xa_X K tx d y' 0 (xa_ent (K.1 y').2.2.1 ([w1, w2, w3])) [] h mc' ms' (xk K tx (d + 1) y n' ls st mc ms Q)) (c1 : w1.category = 1 := by rfl) (c2 : w2.category = 1 := by rfl) (c3 : w3.category = 1 := by rfl) (hw : (st.map fun v => v.category).sum ≤ 8 := by exact Nat.le_of_ble_eq_true rfl) : xa_X K tx (d + 1) y pc ls (w3 :: w2 :: w1 :: st) h (mc + mc') (ms + ms') Q :=
  xc_S3 hd hl (fun _ _ q => xk_n (mc' := 0) q) k1 (fun v h' q => by obtain ⟨v2, e1, e2⟩ := q; cases e1; exact e2) c1 c2 c3 hw
theorem xc_S3z {i y' : Nat} {w1 w2 w3 : Value} (hd : xa_d K y pc (.invokestatic i) 3 n') (hl : xa_lkS K (K.1 y).1.cls i y' 3) (k1 : xa_X K tx d y' 0 (xa_ent (K.1 y').2.2.1 ([w1, w2, w3])) [] h 0 0 (xk K tx (d + 1) y n' ls st mc ms Q)) (c1 : w1.category = 1 := by rfl) (c2 : w2.category = 1 := by rfl) (c3 : w3.category = 1 := by rfl) (hw : (st.map fun v => v.category).sum ≤ 8 := by exact Nat.le_of_ble_eq_true rfl) : xa_X K tx (d + 1) y pc ls (w3 :: w2 :: w1 :: st) h mc ms Q :=
  xc_S3k (mc' := 0) (ms' := 0) hd hl k1 c1 c2 c3 hw
theorem xc_I3k {i y' mc' ms' : Nat} {a : Nat} {w1 w2 w3 : Value} (hd : xa_d K y pc (.invokespecial i) 3 n') (hl : xa_lkI K (K.1 y).1.cls i y' 3) (k1 : xa_X K tx d y' 0 (xa_ent (K.1 y').2.2.1 (.ref a :: [w1, w2, w3])) [] h mc' ms' (xk K tx (d + 1) y n' ls st mc ms Q)) (c1 : w1.category = 1 := by rfl) (c2 : w2.category = 1 := by rfl) (c3 : w3.category = 1 := by rfl) (hw : (st.map fun v => v.category).sum ≤ 8 := by exact Nat.le_of_ble_eq_true rfl) : xa_X K tx (d + 1) y pc ls (w3 :: w2 :: w1 :: .ref a :: st) h (mc + mc') (ms + ms') Q :=
  xc_I3 hd hl (fun _ _ q => xk_n (mc' := 0) q) k1 (fun v h' q => by obtain ⟨v2, e1, e2⟩ := q; cases e1; exact e2) c1 c2 c3 hw
theorem xc_I3z {i y' : Nat} {a : Nat} {w1 w2 w3 : Value} (hd : xa_d K y pc (.invokespecial i) 3 n') (hl : xa_lkI K (K.1 y).1.cls i y' 3) (k1 : xa_X K tx d y' 0 (xa_ent (K.1 y').2.2.1 (.ref a :: [w1, w2, w3])) [] h 0 0 (xk K tx (d + 1) y n' ls st mc ms Q)) (c1 : w1.category = 1 := by rfl) (c2 : w2.category = 1 := by rfl) (c3 : w3.category = 1 := by rfl) (hw : (st.map fun v => v.category).sum ≤ 8 := by exact Nat.le_of_ble_eq_true rfl) : xa_X K tx (d + 1) y pc ls (w3 :: w2 :: w1 :: .ref a :: st) h mc ms Q :=
  xc_I3k (mc' := 0) (ms' := 0) hd hl k1 c1 c2 c3 hw
theorem xc_V4k {i y' mc' ms' : Nat} {fs : List Value} {ci : Nat} {a : Nat} {w1 w2 w3 w4 : Value} (hd : xa_d K y pc (.invokevirtual i) 3 n') (hl : xa_lkV K (K.1 y).1.cls i ci y' 4) (hh : h.2 a = .inr (ci, fs)) (k1 : xa_X K tx d y' 0 (xa_ent (K.1 y').2.2.1 (.ref a :: [w1, w2, w3, w4])) [] h mc' ms' (xk K tx (d + 1) y n' ls st mc ms Q)) (c1 : w1.category = 1 := by rfl) (c2 : w2.category = 1 := by rfl) (c3 : w3.category = 1 := by rfl) (c4 : w4.category = 1 := by rfl) (hw : (st.map fun v => v.category).sum ≤ 8 := by exact Nat.le_of_ble_eq_true rfl) : xa_X K tx (d + 1) y pc ls (w4 :: w3 :: w2 :: w1 :: .ref a :: st) h (mc + mc') (ms + ms') Q :=
  xc_V4 hd hl hh (fun _ _ q => xk_n (mc' := 0) q) k1 (fun v h' q => by obtain ⟨v2, e1, e2⟩ := q; cases e1; exact e2) c1 c2 c3 c4 hw
theorem xc_V4z {i y' : Nat} {fs : List Value} {ci : Nat} {a : Nat} {w1 w2 w3 w4 : Value} (hd : xa_d K y pc (.invokevirtual i) 3 n') (hl : xa_lkV K (K.1 y).1.cls i ci y' 4) (hh : h.2 a = .inr (ci, fs)) (k1 : xa_X K tx d y' 0 (xa_ent (K.1 y').2.2.1 (.ref a :: [w1, w2, w3, w4])) [] h 0 0 (xk K tx (d + 1) y n' ls st mc ms Q)) (c1 : w1.category = 1 := by rfl) (c2 : w2.category = 1 := by rfl) (c3 : w3.category = 1 := by rfl) (c4 : w4.category = 1 := by rfl) (hw : (st.map fun v => v.category).sum ≤ 8 := by exact Nat.le_of_ble_eq_true rfl) : xa_X K tx (d + 1) y pc ls (w4 :: w3 :: w2 :: w1 :: .ref a :: st) h mc ms Q :=
  xc_V4k (mc' := 0) (ms' := 0) hd hl hh k1 c1 c2 c3 c4 hw
theorem xc_S4k {i y' mc' ms' : Nat} {w1 w2 w3 w4 : Value} (hd : xa_d K y pc (.invokestatic i) 3 n') (hl : xa_lkS K (K.1 y).1.cls i y' 4) (k1 : xa_X K tx d y' 0 (xa_ent (K.1 y').2.2.1 ([w1, w2, w3, w4])) [] h mc' ms' (xk K tx (d + 1) y n' ls st mc ms Q)) (c1 : w1.category = 1 := by rfl) (c2 : w2.category = 1 := by rfl) (c3 : w3.category = 1 := by rfl) (c4 : w4.category = 1 := by rfl) (hw : (st.map fun v => v.category).sum ≤ 8 := by exact Nat.le_of_ble_eq_true rfl) : xa_X K tx (d + 1) y pc ls (w4 :: w3 :: w2 :: w1 :: st) h (mc + mc') (ms + ms') Q :=
  xc_S4 hd hl (fun _ _ q => xk_n (mc' := 0) q) k1 (fun v h' q => by obtain ⟨v2, e1, e2⟩ := q; cases e1; exact e2) c1 c2 c3 c4 hw
theorem xc_S4z {i y' : Nat} {w1 w2 w3 w4 : Value} (hd : xa_d K y pc (.invokestatic i) 3 n') (hl : xa_lkS K (K.1 y).1.cls i y' 4) (k1 : xa_X K tx d y' 0 (xa_ent (K.1 y').2.2.1 ([w1, w2, w3, w4])) [] h 0 0 (xk K tx (d + 1) y n' ls st mc ms Q)) (c1 : w1.category = 1 := by rfl) (c2 : w2.category = 1 := by rfl) (c3 : w3.category = 1 := by rfl) (c4 : w4.category = 1 := by rfl) (hw : (st.map fun v => v.category).sum ≤ 8 := by exact Nat.le_of_ble_eq_true rfl) : xa_X K tx (d + 1) y pc ls (w4 :: w3 :: w2 :: w1 :: st) h mc ms Q :=
  xc_S4k (mc' := 0) (ms' := 0) hd hl k1 c1 c2 c3 c4 hw
theorem xc_I4k {i y' mc' ms' : Nat} {a : Nat} {w1 w2 w3 w4 : Value} (hd : xa_d K y pc (.invokespecial i) 3 n') (hl : xa_lkI K (K.1 y).1.cls i y' 4) (k1 : xa_X K tx d y' 0 (xa_ent (K.1 y').2.2.1 (.ref a :: [w1, w2, w3, w4])) [] h mc' ms' (xk K tx (d + 1) y n' ls st mc ms Q)) (c1 : w1.category = 1 := by rfl) (c2 : w2.category = 1 := by rfl) (c3 : w3.category = 1 := by rfl) (c4 : w4.category = 1 := by rfl) (hw : (st.map fun v => v.category).sum ≤ 8 := by exact Nat.le_of_ble_eq_true rfl) : xa_X K tx (d + 1) y pc ls (w4 :: w3 :: w2 :: w1 :: .ref a :: st) h (mc + mc') (ms + ms') Q :=
  xc_I4 hd hl (fun _ _ q => xk_n (mc' := 0) q) k1 (fun v h' q => by obtain ⟨v2, e1, e2⟩ := q; cases e1; exact e2) c1 c2 c3 c4 hw
theorem xc_I4z {i y' : Nat} {a : Nat} {w1 w2 w3 w4 : Value} (hd : xa_d K y pc (.invokespecial i) 3 n') (hl : xa_lkI K (K.1 y).1.cls i y' 4) (k1 : xa_X K tx d y' 0 (xa_ent (K.1 y').2.2.1 (.ref a :: [w1, w2, w3, w4])) [] h 0 0 (xk K tx (d + 1) y n' ls st mc ms Q)) (c1 : w1.category = 1 := by rfl) (c2 : w2.category = 1 := by rfl) (c3 : w3.category = 1 := by rfl) (c4 : w4.category = 1 := by rfl) (hw : (st.map fun v => v.category).sum ≤ 8 := by exact Nat.le_of_ble_eq_true rfl) : xa_X K tx (d + 1) y pc ls (w4 :: w3 :: w2 :: w1 :: .ref a :: st) h mc ms Q :=
  xc_I4k (mc' := 0) (ms' := 0) hd hl k1 c1 c2 c3 c4 hw
theorem xc_V5k {i y' mc' ms' : Nat} {fs : List Value} {ci : Nat} {a : Nat} {w1 w2 w3 w4 w5 : Value} (hd : xa_d K y pc (.invokevirtual i) 3 n') (hl : xa_lkV K (K.1 y).1.cls i ci y' 5) (hh : h.2 a = .inr (ci, fs)) (k1 : xa_X K tx d y' 0 (xa_ent (K.1 y').2.2.1 (.ref a :: [w1, w2, w3, w4, w5])) [] h mc' ms' (xk K tx (d + 1) y n' ls st mc ms Q)) (c1 : w1.category = 1 := by rfl) (c2 : w2.category = 1 := by rfl) (c3 : w3.category = 1 := by rfl) (c4 : w4.category = 1 := by rfl) (c5 : w5.category = 1 := by rfl) (hw : (st.map fun v => v.category).sum ≤ 8 := by exact Nat.le_of_ble_eq_true rfl) : xa_X K tx (d + 1) y pc ls (w5 :: w4 :: w3 :: w2 :: w1 :: .ref a :: st) h (mc + mc') (ms + ms') Q :=
  xc_V5 hd hl hh (fun _ _ q => xk_n (mc' := 0) q) k1 (fun v h' q => by obtain ⟨v2, e1, e2⟩ := q; cases e1; exact e2) c1 c2 c3 c4 c5 hw
theorem xc_V5z {i y' : Nat} {fs : List Value} {ci : Nat} {a : Nat} {w1 w2 w3 w4 w5 : Value} (hd : xa_d K y pc (.invokevirtual i) 3 n') (hl : xa_lkV K (K.1 y).1.cls i ci y' 5) (hh : h.2 a = .inr (ci, fs)) (k1 : xa_X K tx d y' 0 (xa_ent (K.1 y').2.2.1 (.ref a :: [w1, w2, w3, w4, w5])) [] h 0 0 (xk K tx (d + 1) y n' ls st mc ms Q)) (c1 : w1.category = 1 := by rfl) (c2 : w2.category = 1 := by rfl) (c3 : w3.category = 1 := by rfl) (c4 : w4.category = 1 := by rfl) (c5 : w5.category = 1 := by rfl) (hw : (st.map fun v => v.category).sum ≤ 8 := by exact Nat.le_of_ble_eq_true rfl) : xa_X K tx (d + 1) y pc ls (w5 :: w4 :: w3 :: w2 :: w1 :: .ref a :: st) h mc ms Q :=
  xc_V5k (mc' := 0) (ms' := 0) hd hl hh k1 c1 c2 c3 c4 c5 hw
theorem xc_S5k {i y' mc' ms' : Nat} {w1 w2 w3 w4 w5 : Value} (hd : xa_d K y pc (.invokestatic i) 3 n') (hl : xa_lkS K (K.1 y).1.cls i y' 5) (k1 : xa_X K tx d y' 0 (xa_ent (K.1 y').2.2.1 ([w1, w2, w3, w4, w5])) [] h mc' ms' (xk K tx (d + 1) y n' ls st mc ms Q)) (c1 : w1.category = 1 := by rfl) (c2 : w2.category = 1 := by rfl) (c3 : w3.category = 1 := by rfl) (c4 : w4.category = 1 := by rfl) (c5 : w5.category = 1 := by rfl) (hw : (st.map fun v => v.category).sum ≤ 8 := by exact Nat.le_of_ble_eq_true rfl) : xa_X K tx (d + 1) y pc ls (w5 :: w4 :: w3 :: w2 :: w1 :: st) h (mc + mc') (ms + ms') Q :=
  xc_S5 hd hl (fun _ _ q => xk_n (mc' := 0) q) k1 (fun v h' q => by obtain ⟨v2, e1, e2⟩ := q; cases e1; exact e2) c1 c2 c3 c4 c5 hw
theorem xc_S5z {i y' : Nat} {w1 w2 w3 w4 w5 : Value} (hd : xa_d K y pc (.invokestatic i) 3 n') (hl : xa_lkS K (K.1 y).1.cls i y' 5) (k1 : xa_X K tx d y' 0 (xa_ent (K.1 y').2.2.1 ([w1, w2, w3, w4, w5])) [] h 0 0 (xk K tx (d + 1) y n' ls st mc ms Q)) (c1 : w1.category = 1 := by rfl) (c2 : w2.category = 1 := by rfl) (c3 : w3.category = 1 := by rfl) (c4 : w4.category = 1 := by rfl) (c5 : w5.category = 1 := by rfl) (hw : (st.map fun v => v.category).sum ≤ 8 := by exact Nat.le_of_ble_eq_true rfl) : xa_X K tx (d + 1) y pc ls (w5 :: w4 :: w3 :: w2 :: w1 :: st) h mc ms Q :=
  xc_S5k (mc' := 0) (ms' := 0) hd hl k1 c1 c2 c3 c4 c5 hw
theorem xc_I5k {i y' mc' ms' : Nat} {a : Nat} {w1 w2 w3 w4 w5 : Value} (hd : xa_d K y pc (.invokespecial i) 3 n') (hl : xa_lkI K (K.1 y).1.cls i y' 5) (k1 : xa_X K tx d y' 0 (xa_ent (K.1 y').2.2.1 (.ref a :: [w1, w2, w3, w4, w5])) [] h mc' ms' (xk K tx (d + 1) y n' ls st mc ms Q)) (c1 : w1.category = 1 := by rfl) (c2 : w2.category = 1 := by rfl) (c3 : w3.category = 1 := by rfl) (c4 : w4.category = 1 := by rfl) (c5 : w5.category = 1 := by rfl) (hw : (st.map fun v => v.category).sum ≤ 8 := by exact Nat.le_of_ble_eq_true rfl) : xa_X K tx (d + 1) y pc ls (w5 :: w4 :: w3 :: w2 :: w1 :: .ref a :: st) h (mc + mc') (ms + ms') Q :=
  xc_I5 hd hl (fun _ _ q => xk_n (mc' := 0) q) k1 (fun v h' q => by obtain ⟨v2, e1, e2⟩ := q; cases e1; exact e2) c1 c2 c3 c4 c5 hw
theorem xc_I5z {i y' : Nat} {a : Nat} {w1 w2 w3 w4 w5 : Value} (hd : xa_d K y pc (.invokespecial i) 3 n') (hl : xa_lkI K (K.1 y).1.cls i y' 5) (k1 : xa_X K tx d y' 0 (xa_ent (K.1 y').2.2.1 (.ref a :: [w1, w2, w3, w4, w5])) [] h 0 0 (xk K tx (d + 1) y n' ls st mc ms Q)) (c1 : w1.category = 1 := by rfl) (c2 : w2.category = 1 := by rfl) (c3 : w3.category = 1 := by rfl) (c4 : w4.category = 1 := by rfl) (c5 : w5.category = 1 := by rfl) (hw : (st.map fun v => v.category).sum ≤ 8 := by exact Nat.le_of_ble_eq_true rfl) : xa_X K tx (d + 1) y pc ls (w5 :: w4 :: w3 :: w2 :: w1 :: .ref a :: st) h mc ms Q :=
  xc_I5k (mc' := 0) (ms' := 0) hd hl k1 c1 c2 c3 c4 c5 hw
end XNat
end
section
/-! The gate's and the graph's methods. -/
section XGraph
variable {S : Nat × (Nat → Int32)} {V : xl_V} {d : Nat}
theorem u_N_isEnabled {t : Nat} {mk : Int32} (ht : t < 14) : xX S d 14 0 (xa_ent 3 [.ref 1, .int (nI t), .int mk]) [] V 0 0 (xq (some (.int (n_en V t mk))) (xl_H xlay V)) := by
  have h := t_N_isEnabled (S := S) (V := V) (d := d) (t := nI t) (mk := mk) (vp_in_nI ht (by decide))
  rwa [nI_clamp (xn31 (by omega))] at h
theorem u_N_isSafe {t : Nat} {mk : Int32} (ht : t < 14) : xX S d 20 0 (xa_ent 3 [.ref 1, .int (nI t), .int mk]) [] V 0 0 (xq (some (.int (n_sf V t mk))) (xl_H xlay V)) := by
  have h := t_N_isSafe (S := S) (V := V) (d := d) (t := nI t) (mk := mk) (vp_in_nI ht (by decide))
  rwa [nI_clamp (xn31 (by omega))] at h
theorem u_N_isRight {t : Nat} {mk : Int32} (ht : t < 14) : xX S (d + 1) 21 0 (xa_ent 3 [.ref 1, .int (nI t), .int mk]) [] V 0 0 (xq (some (.int (n_rt V t mk))) (xl_H xlay V)) := by
  have h := t_N_isRight (S := S) (V := V) (d := d) (t := nI t) (cd := mk) (vp_in_nI ht (by decide))
  rwa [nI_clamp (xn31 (by omega))] at h
theorem u_N_markingAfter {t : Nat} {mk : Int32} (ht : t < 14) : xX S d 23 0 (xa_ent 3 [.ref 1, .int (nI t), .int mk]) [] V 0 0 (xq (some (.int (n_mk V t mk))) (xl_H xlay V)) := by
  have h := t_N_markingAfter (S := S) (V := V) (d := d) (t := nI t) (mk := mk) (vp_in_nI ht (by decide))
  rwa [nI_clamp (xn31 (by omega))] at h
theorem u_N_codeAfter {t : Nat} {mk : Int32} (ht : t < 14) : xX S d 24 0 (xa_ent 4 [.ref 1, .int (nI t), .int mk]) [] V 0 0 (xq (some (.int (n_cd V t mk))) (xl_H xlay V)) := by
  have h := t_N_codeAfter (S := S) (V := V) (d := d) (t := nI t) (cd := mk) (vp_in_nI ht (by decide))
  rwa [nI_clamp (xn31 (by omega))] at h
theorem u_N_signalOf {t : Nat} (ht : t < 14) : xX S d 18 0 (xa_ent 2 [.ref 1, .int (nI t)]) [] V 0 0 (xq (some (.int (V.2.1 2 t))) (xl_H xlay V)) := by
  have h := t_N_signalOf (S := S) (V := V) (d := d) (t := nI t) (vp_in_nI ht (by decide))
  rwa [nI_clamp (xn31 (by omega))] at h
theorem u_N_levelAfter {t : Nat} (ht : t < 14) : xX S d 17 0 (xa_ent 2 [.ref 1, .int (nI t)]) [] V 0 0 (xq (some (.int (n_lv V t))) (xl_H xlay V)) := by
  have h := t_N_levelAfter (S := S) (V := V) (d := d) (t := nI t) (vp_in_nI ht (by decide))
  rwa [nI_clamp (xn31 (by omega))] at h
theorem u_N_edgeBit {t : Nat} (ht : t < 14) : xX S (d + 1) 16 0 (xa_ent 2 [.ref 1, .int (nI t)]) [] V 0 0 (xq (some (.int (n_eb V t))) (xl_H xlay V)) := by
  have h := t_N_edgeBit (S := S) (V := V) (d := d) (t := nI t) (vp_in_nI ht (by decide))
  rwa [nI_clamp (xn31 (by omega))] at h
def ga_cl (V : xl_V) (g : Nat) : xl_V := xl_i (xl_i V g 0 0) g 2 0
theorem t_Ga_clear {g b : Nat} (hg : xlay[g]? = some (.inl (4, [none, some b, none]))) : xX S d 10 0 (xa_ent 1 [.ref g]) [] V 0 0 (xq none (xl_H xlay (ga_cl V g))) := by
  refine xx_aload_n e_Ga_clear_0 rfl rfl ?_
  refine xx_iconst (v := 0) e_Ga_clear_1 (by decide) ?_
  refine xh_put e_Ga_clear_2 fp_Ga_15 hg rfl ⟨rfl, rfl⟩ ?_
  refine xx_aload_n e_Ga_clear_5 rfl rfl ?_
  refine xx_iconst (v := 0) e_Ga_clear_6 (by decide) ?_
  refine xh_put e_Ga_clear_7 fp_Ga_19 hg rfl ⟨rfl, rfl⟩ ?_
  exact xx_vret e_Ga_clear_10 rfl ⟨rfl, rfl⟩
def ga_ou (V : xl_V) (g : Nat) (c : Int32) : Int32 := ((V.1 g 2).toUInt32 >>> (c.toUInt32 &&& Int32.toUInt32 31)).toInt32 &&& 1
theorem t_Ga_output {g b : Nat} {c : Int32} (hg : xlay[g]? = some (.inl (4, [none, some b, none]))) : xX S d 90 0 (xa_ent 2 [.ref g, .int c]) [] V 0 0 (xq (some (.int (ga_ou V g c))) (xl_H xlay V)) := by
  refine xx_aload_n e_Ga_output_0 rfl rfl ?_
  refine xh_get e_Ga_output_1 fg_Ga_19 hg rfl ?_
  refine xx_iload_n e_Ga_output_4 rfl rfl ?_
  refine xx_iushr e_Ga_output_5 ?_
  refine xx_iconst (v := 1) e_Ga_output_6 (by decide) ?_
  refine xx_iand e_Ga_output_7 ?_
  refine xx_iret e_Ga_output_8 rfl rfl ?_
  exact ⟨rfl, rfl⟩
def ga_ad (V : xl_V) (g b : Nat) (n sp : Int32) : xl_V := xl_i (xl_i (xl_a V b (upd (V.2.1 b) (V.1 g 0).toNatClampNeg n)) g 2 (V.1 g 2 ||| sp)) g 0 (V.1 g 0 + 1)
theorem t_Ga_add {g b : Nat} {n sp : Int32} (hg : xlay[g]? = some (.inl (4, [none, some b, none]))) (hb : xlay[b]? = some (.inr (0, 8))) (hc : vp_in (V.1 g 0) 8) : xX S d 77 0 (xa_ent 3 [.ref g, .int n, .int sp]) [] V 0 0 (xq (some (.int (V.1 g 0 + 1 - 1))) (xl_H xlay (ga_ad V g b n sp))) := by
  refine xx_aload_n e_Ga_add_0 rfl rfl ?_
  refine xh_getR e_Ga_add_1 fg_Ga_9 hg rfl ?_
  refine xx_aload_n e_Ga_add_4 rfl rfl ?_
  refine xh_get e_Ga_add_5 fg_Ga_15 hg rfl ?_
  refine xx_iload_n e_Ga_add_8 rfl rfl ?_
  refine xh_iast e_Ga_add_9 hb hc ?_
  refine xx_aload_n e_Ga_add_10 rfl rfl ?_
  refine xx_dup e_Ga_add_11 rfl ?_
  refine xh_get e_Ga_add_12 fg_Ga_19 hg rfl ?_
  refine xx_iload_n e_Ga_add_15 rfl rfl ?_
  refine xx_ior e_Ga_add_16 ?_
  refine xh_put e_Ga_add_17 fp_Ga_19 hg rfl ⟨rfl, rfl⟩ ?_
  refine xx_aload_n e_Ga_add_20 rfl rfl ?_
  refine xx_dup e_Ga_add_21 rfl ?_
  refine xh_get e_Ga_add_22 fg_Ga_15 hg rfl ?_
  refine xx_iconst (v := 1) e_Ga_add_25 (by decide) ?_
  refine xx_iadd e_Ga_add_26 ?_
  refine xh_put e_Ga_add_27 fp_Ga_15 hg rfl ⟨rfl, rfl⟩ ?_
  refine xx_aload_n e_Ga_add_30 rfl rfl ?_
  refine xh_get e_Ga_add_31 fg_Ga_15 hg rfl ?_
  refine xx_iconst (v := 1) e_Ga_add_34 (by decide) ?_
  refine xx_isub e_Ga_add_35 ?_
  have e1 : (xl_i (xl_a V b (upd (V.2.1 b) (V.1 g 0).toNatClampNeg n)) g 2 (V.1 g 2 ||| sp)).1 g 0 = V.1 g 0 := if_neg (fun z => absurd z.2 (by decide))
  have e2 : (xl_i (xl_i (xl_a V b (upd (V.2.1 b) (V.1 g 0).toNatClampNeg n)) g 2 (V.1 g 2 ||| sp)) g 0 ((xl_i (xl_a V b (upd (V.2.1 b) (V.1 g 0).toNatClampNeg n)) g 2 (V.1 g 2 ||| sp)).1 g 0 + 1)).1 g 0 = (xl_i (xl_a V b (upd (V.2.1 b) (V.1 g 0).toNatClampNeg n)) g 2 (V.1 g 2 ||| sp)).1 g 0 + 1 := if_pos ⟨rfl, rfl⟩
  refine xx_iret e_Ga_add_36 rfl rfl ⟨?_, ?_⟩
  · exact congrArg (fun z : Int32 => (Sum.inl (some (Value.int (z - 1))) : xa_O)) (e2.trans (congrArg (· + 1) e1))
  · exact congrArg (xl_H xlay) (congrArg (fun z => xl_i (xl_i (xl_a V b (upd (V.2.1 b) (V.1 g 0).toNatClampNeg n)) g 2 (V.1 g 2 ||| sp)) g 0 (z + 1)) e1)
theorem t_G_successor {k t : Nat} (hk : k < 80) (ht : t < 14) : xX S d 27 0 (xa_ent 3 [.ref 6, .int (nI k), .int (nI t)]) [] V 0 0 (xq (some (.int (V.2.1 12 (k * 14 + t)))) (xl_H xlay V)) := by
  refine xx_aload_n e_G_successor_0 rfl rfl ?_
  refine xh_getR e_G_successor_1 fg_G_27 rfl rfl ?_
  refine xx_iload_n e_G_successor_4 rfl rfl ?_
  refine xx_bipush (v := 14) e_G_successor_5 (by decide) ?_
  refine xx_imul e_G_successor_7 ?_
  refine xx_iload_n e_G_successor_8 rfl rfl ?_
  refine xx_iadd e_G_successor_9 ?_
  rw [show (14 : Int32) = nI 14 from rfl, pk_mul, nI_add]
  refine xh_ialN e_G_successor_10 rfl (by omega) ?_
  refine xx_iret e_G_successor_11 rfl rfl ?_
  exact ⟨rfl, rfl⟩
def g_ex (V : xl_V) (s : Int32) (k : Nat) : Int32 := if (V.2.1 10 k >>> (s &&& 31)) &&& 1 = 1 then 1 else 0
theorem t_G_isExcited {s : Int32} {k : Nat} (hk : k < 80) : xX S d 62 0 (xa_ent 3 [.ref 6, .int s, .int (nI k)]) [] V 0 0 (xq (some (.int (g_ex V s k))) (xl_H xlay V)) := by
  refine xx_aload_n e_G_isExcited_0 rfl rfl ?_
  refine xh_getR e_G_isExcited_1 fg_G_21 rfl rfl ?_
  refine xx_iload_n e_G_isExcited_4 rfl rfl ?_
  refine xh_ialN e_G_isExcited_5 rfl (by omega) ?_
  refine xx_iload_n e_G_isExcited_6 rfl rfl ?_
  refine xx_ishr e_G_isExcited_7 ?_
  refine xx_iconst (v := 1) e_G_isExcited_8 (by decide) ?_
  refine xx_iand e_G_isExcited_9 ?_
  refine xx_iconst (v := 1) e_G_isExcited_10 (by decide) ?_
  refine xx_icmp_ne e_G_isExcited_11 (fun q11 => ?_) (fun q11 => ?_)
  · refine xx_iconst (v := 0) e_G_isExcited_18 (by decide) ?_
    refine xx_iret e_G_isExcited_19 rfl rfl ?_
    exact ⟨by simp only [g_ex, ↓reduceIte, *], rfl⟩
  · refine xx_iconst (v := 1) e_G_isExcited_14 (by decide) ?_
    refine xx_goto e_G_isExcited_15 ?_
    refine xx_iret e_G_isExcited_19 rfl rfl ?_
    exact ⟨by simp only [g_ex, ↓reduceIte, *], rfl⟩
def g_ad (V : xl_V) (c : Nat) (m cd og : Int32) : xl_V := xl_i (xl_a (xl_a (xl_a (xl_a (xl_a V 7 (upd (V.2.1 7) c m)) 8 (upd (V.2.1 8) c cd)) 9 (upd (V.2.1 9) c og)) 10 (upd (V.2.1 10) c 0)) 11 (upd (V.2.1 11) c 0)) 6 0 (nI (c + 1))
theorem t_G_addState {c : Nat} {m cd og : Int32} (hc : V.1 6 0 = nI c) (h80 : c < 80) : xX S d 12 0 (xa_ent 4 [.ref 6, .int m, .int cd, .int og]) [] V 0 0 (xq (some (.int (nI c))) (xl_H xlay (g_ad V c m cd og))) := by
  refine xx_aload_n e_G_addState_0 rfl rfl ?_
  refine xh_getR e_G_addState_1 fg_G_9 rfl rfl ?_
  refine xx_aload_n e_G_addState_4 rfl rfl ?_
  refine xh_get e_G_addState_5 fg_G_41 rfl rfl ?_
  refine xx_iload_n e_G_addState_8 rfl rfl ?_
  refine xh_iast e_G_addState_9 rfl (by rw [hc]; exact vp_in_nI h80 (by decide)) ?_
  refine xx_aload_n e_G_addState_10 rfl rfl ?_
  refine xh_getR e_G_addState_11 fg_G_15 rfl rfl ?_
  refine xx_aload_n e_G_addState_14 rfl rfl ?_
  refine xh_get e_G_addState_15 fg_G_41 rfl rfl ?_
  refine xx_iload_n e_G_addState_18 rfl rfl ?_
  refine xh_iast e_G_addState_19 rfl (by show vp_in (V.1 6 0) 80; rw [hc]; exact vp_in_nI h80 (by decide)) ?_
  refine xx_aload_n e_G_addState_20 rfl rfl ?_
  refine xh_getR e_G_addState_21 fg_G_18 rfl rfl ?_
  refine xx_aload_n e_G_addState_24 rfl rfl ?_
  refine xh_get e_G_addState_25 fg_G_41 rfl rfl ?_
  refine xx_iload_n e_G_addState_28 rfl rfl ?_
  refine xh_iast e_G_addState_29 rfl (by show vp_in (V.1 6 0) 80; rw [hc]; exact vp_in_nI h80 (by decide)) ?_
  refine xx_aload_n e_G_addState_30 rfl rfl ?_
  refine xh_getR e_G_addState_31 fg_G_21 rfl rfl ?_
  refine xx_aload_n e_G_addState_34 rfl rfl ?_
  refine xh_get e_G_addState_35 fg_G_41 rfl rfl ?_
  refine xx_iconst (v := 0) e_G_addState_38 (by decide) ?_
  refine xh_iast e_G_addState_39 rfl (by show vp_in (V.1 6 0) 80; rw [hc]; exact vp_in_nI h80 (by decide)) ?_
  refine xx_aload_n e_G_addState_40 rfl rfl ?_
  refine xh_getR e_G_addState_41 fg_G_24 rfl rfl ?_
  refine xx_aload_n e_G_addState_44 rfl rfl ?_
  refine xh_get e_G_addState_45 fg_G_41 rfl rfl ?_
  refine xx_iconst (v := 0) e_G_addState_48 (by decide) ?_
  refine xh_iast e_G_addState_49 rfl (by show vp_in (V.1 6 0) 80; rw [hc]; exact vp_in_nI h80 (by decide)) ?_
  refine xx_aload_n e_G_addState_50 rfl rfl ?_
  refine xx_dup e_G_addState_51 rfl ?_
  refine xh_get e_G_addState_52 fg_G_41 rfl rfl ?_
  refine xx_iconst (v := 1) e_G_addState_55 (by decide) ?_
  refine xx_iadd e_G_addState_56 ?_
  refine xh_put e_G_addState_57 fp_G_41 rfl rfl ⟨rfl, rfl⟩ ?_
  refine xx_aload_n e_G_addState_60 rfl rfl ?_
  refine xh_get e_G_addState_61 fg_G_41 rfl rfl ?_
  refine xx_iconst (v := 1) e_G_addState_64 (by decide) ?_
  refine xx_isub e_G_addState_65 ?_
  refine xx_iret e_G_addState_66 rfl rfl ?_
  have e1 : (V.1 6 0).toNatClampNeg = c := by rw [hc]; exact nI_clamp (xn31 (by omega))
  refine ⟨?_, ?_⟩
  · show (Sum.inl (some (Value.int (V.1 6 0 + 1 - 1))) : xa_O) = _
    rw [hc, nI_1, nI_pred]
  · show xl_H xlay _ = xl_H xlay _
    unfold g_ad
    rw [← nI_1, ← hc, ← e1]
    rfl
end XGraph
end
section
/-! Small laws: the least place, comparisons of numbers. -/
section XPure
/-- the least j < n with p -/
def xfnd (p : Nat → Bool) : Nat → Option Nat
  | 0 => none
  | n + 1 => match xfnd p n with
    | some j => some j
    | none => if p n then some n else none
theorem xfnd_s {p : Nat → Bool} {j : Nat} : ∀ {n : Nat}, xfnd p n = some j → j < n ∧ p j = true ∧ ∀ i, i < j → p i = false
  | 0, h => by cases h
  | n + 1, h => by
    unfold xfnd at h
    cases hq : xfnd p n with
    | some k =>
      rw [hq] at h
      have e : k = j := Option.some.inj h
      subst e
      obtain ⟨a, b, c⟩ := xfnd_s hq
      exact ⟨by omega, b, c⟩
    | none =>
      rw [hq] at h
      by_cases hp : p n = true
      · rw [if_pos hp] at h
        have e : n = j := Option.some.inj h
        subst e
        refine ⟨Nat.lt_succ_self _, hp, ?_⟩
        intro i hi
        have : ∀ {m : Nat}, xfnd p m = none → ∀ i, i < m → p i = false := by
          intro m
          induction m with
          | zero => intro _ i hi; exact absurd hi (Nat.not_lt_zero i)
          | succ m ih =>
            intro hm i hi
            unfold xfnd at hm
            cases hz : xfnd p m with
            | some k => rw [hz] at hm; cases hm
            | none =>
              rw [hz] at hm
              by_cases hpm : p m = true
              · rw [if_pos hpm] at hm; cases hm
              · rcases Nat.lt_or_ge i m with h1 | h1
                · exact ih hz i h1
                · have e : i = m := by omega
                  rw [e]; simpa using hpm
        exact this hq i hi
      · rw [if_neg hp] at h; cases h
theorem xfnd_n {p : Nat → Bool} : ∀ {n : Nat}, xfnd p n = none → ∀ i, i < n → p i = false
  | 0, _, i, hi => absurd hi (Nat.not_lt_zero i)
  | n + 1, h, i, hi => by
    unfold xfnd at h
    cases hz : xfnd p n with
    | some k => rw [hz] at h; cases h
    | none =>
      rw [hz] at h
      by_cases hpm : p n = true
      · rw [if_pos hpm] at h; cases h
      · rcases Nat.lt_or_ge i n with h1 | h1
        · exact xfnd_n hz i h1
        · have e : i = n := by omega
          rw [e]; simpa using hpm
theorem xfnd_o {p : Nat → Bool} {n : Nat} (h : ∀ i, i < n → p i = false) : xfnd p n = none := by
  cases hq : xfnd p n with
  | none => rfl
  | some j =>
    obtain ⟨a, b, -⟩ := xfnd_s hq
    rw [h j a] at b
    cases b
theorem xfnd_i {p : Nat → Bool} {n j : Nat} (hj : j < n) (hp : p j = true) (hm : ∀ i, i < j → p i = false) : xfnd p n = some j := by
  cases hq : xfnd p n with
  | none => rw [xfnd_n hq j hj] at hp; cases hp
  | some k =>
    obtain ⟨a, b, c⟩ := xfnd_s hq
    rcases Nat.lt_trichotomy k j with h | h | h
    · rw [hm k h] at b; cases b
    · rw [h]
    · rw [c j h] at hp; cases hp
theorem xle {x z : Int32} {a b : Nat} (hx : x = nI a) (hz : z = nI b) (ha : a < 5000) (hb : b < 5000) : x ≤ z ↔ a ≤ b := by
  rw [hx, hz]; exact nI_leI (xn31 ha) (xn31 hb)
theorem xlt {x z : Int32} {a b : Nat} (hx : x = nI a) (hz : z = nI b) (ha : a < 5000) (hb : b < 5000) : x < z ↔ a < b := by
  rw [hx, hz]; exact nI_ltI (xn31 ha) (xn31 hb)
theorem xeq {x z : Int32} {a b : Nat} (hx : x = nI a) (hz : z = nI b) (ha : a < 5000) (hb : b < 5000) : x = z ↔ a = b := by
  rw [hx, hz]; exact nI_eq (xn31 ha) (xn31 hb)
theorem lt_s' {i : Nat} {p : Nat → Bool} (h : ∀ a, a < i → p a = false) (hi : p i = false) : ∀ a, a < i + 1 → p a = false := fun a ha => by
  rcases Nat.lt_or_ge a i with h1 | h1
  · exact h a h1
  · have e : a = i := by omega
    rw [e]; exact hi
end XPure
end
section
/-! The graph's methods with loops. -/
section XGraph2
variable {S : Nat × (Nat → Int32)} {V : xl_V} {d : Nat}
/-- is j the state (m, c)? -/
def g_is (V : xl_V) (m c : Int32) (j : Nat) : Bool := decide (V.2.1 7 j = m ∧ V.2.1 8 j = c)
def g_fi (V : xl_V) (c k t : Nat) : Int32 × xl_V := match xfnd (g_is V (n_mk V t (V.2.1 7 k)) (n_cd V t (V.2.1 8 k))) c with
  | some j => (nI j, V)
  | none => if 80 ≤ c then (-1, xl_i V 6 8 1) else (nI c, g_ad V c (n_mk V t (V.2.1 7 k)) (n_cd V t (V.2.1 8 k)) (nI (100 * k + t)))
theorem t_G_fire {k t c : Nat} (hk : k < c) (hc : V.1 6 0 = nI c) (h80 : c ≤ 80) (ht : t < 14) : xX S (d + 1) 22 0 (xa_ent 7 [.ref 6, .ref 1, .int (nI k), .int (nI t)]) [] V 0 0 (xq (some (.int (g_fi V c k t).1)) (xl_H xlay (g_fi V c k t).2)) := by
  have loop : ∀ n j, c - j = n → j ≤ c → (∀ i, i < j → g_is V (n_mk V t (V.2.1 7 k)) (n_cd V t (V.2.1 8 k)) i = false) → xX S (d + 1) 22 29 [.ref 6, .ref 1, .int (nI k), .int (nI t), .int (n_mk V t (V.2.1 7 k)), .int (n_cd V t (V.2.1 8 k)), .int (nI j)] [] V 0 0 (xq (some (.int (g_fi V c k t).1)) (xl_H xlay (g_fi V c k t).2)) := by
    intro n
    induction n using Nat.strongRecOn with
    | ind n ih =>
      intro j hn hj hin
      refine xx_iload e_G_fire_29 rfl ?_
      refine xx_aload_n e_G_fire_31 rfl rfl ?_
      refine xh_get e_G_fire_32 fg_G_41 rfl rfl ?_
      refine xx_icmp_ge e_G_fire_35 (fun q => ?_) (fun q => ?_)
      · skip
        have e1 : xfnd (g_is V (n_mk V t (V.2.1 7 k)) (n_cd V t (V.2.1 8 k))) c = none := xfnd_o (fun i hi => hin i (Nat.lt_of_lt_of_le hi ((xle hc rfl (by omega) (by omega)).mp q)))
        refine xx_aload_n e_G_fire_71 rfl rfl ?_
        refine xh_get e_G_fire_72 fg_G_41 rfl rfl ?_
        refine xx_bipush (v := 80) e_G_fire_75 (by decide) ?_
        refine xx_icmp_lt e_G_fire_77 (fun q => ?_) (fun q => ?_)
        · skip
          have e2 : c < 80 := (xlt (b := 80) hc rfl (by omega) (by decide)).mp q
          refine xx_aload_n e_G_fire_87 rfl rfl ?_
          refine xx_iload e_G_fire_88 rfl ?_
          refine xx_iload e_G_fire_90 rfl ?_
          refine xx_bipush (v := 100) e_G_fire_92 (by decide) ?_
          refine xx_iload_n e_G_fire_94 rfl rfl ?_
          refine xx_imul e_G_fire_95 ?_
          refine xx_iload_n e_G_fire_96 rfl rfl ?_
          refine xx_iadd e_G_fire_97 ?_
          rw [show (100 : Int32) = nI 100 from rfl, pk_mul, nI_add]
          refine xc_V3i e_G_fire_98 kv_G_52 (xl_obj rfl) (t_G_addState hc e2) ?_
          refine xx_iret e_G_fire_101 rfl rfl ?_
          unfold g_fi
          rw [e1]
          exact ⟨by rw [if_neg (by omega)], by rw [if_neg (by omega)]⟩
        · skip
          have e2 : ¬ c < 80 := fun z => q ((xlt (b := 80) hc rfl (by omega) (by decide)).mpr z)
          refine xx_aload_n e_G_fire_80 rfl rfl ?_
          refine xx_iconst (v := 1) e_G_fire_81 (by decide) ?_
          refine xh_put e_G_fire_82 fp_G_30 rfl rfl ⟨rfl, rfl⟩ ?_
          refine xx_iconst (v := (-1)) e_G_fire_85 (by decide) ?_
          refine xx_iret e_G_fire_86 rfl rfl ?_
          unfold g_fi
          rw [e1]
          exact ⟨by rw [if_pos (by omega)], by rw [if_pos (by omega)]⟩
      · skip
        have e1 : j < c := Nat.lt_of_not_le (fun z => q ((xle hc rfl (by omega) (by omega)).mpr z))
        refine xx_aload_n e_G_fire_38 rfl rfl ?_
        refine xh_getR e_G_fire_39 fg_G_9 rfl rfl ?_
        refine xx_iload e_G_fire_42 rfl ?_
        refine xh_ialN e_G_fire_44 rfl (by omega) ?_
        refine xx_iload e_G_fire_45 rfl ?_
        refine xx_icmp_ne e_G_fire_47 (fun q => ?_) (fun q => ?_)
        · skip
          refine xh_incN e_G_fire_65 rfl ?_
          refine xx_goto e_G_fire_68 ?_
          exact ih (c - (j + 1)) (by omega) (j + 1) rfl (by omega) (lt_s' hin (decide_eq_false (fun z => q z.1)))
        · skip
          refine xx_aload_n e_G_fire_50 rfl rfl ?_
          refine xh_getR e_G_fire_51 fg_G_15 rfl rfl ?_
          refine xx_iload e_G_fire_54 rfl ?_
          refine xh_ialN e_G_fire_56 rfl (by omega) ?_
          refine xx_iload e_G_fire_57 rfl ?_
          rename_i q1
          refine xx_icmp_ne e_G_fire_59 (fun q2 => ?_) (fun q2 => ?_)
          · skip
            refine xh_incN e_G_fire_65 rfl ?_
            refine xx_goto e_G_fire_68 ?_
            exact ih (c - (j + 1)) (by omega) (j + 1) rfl (by omega) (lt_s' hin (decide_eq_false (fun z => q2 z.2)))
          · skip
            refine xx_iload e_G_fire_62 rfl ?_
            refine xx_iret e_G_fire_64 rfl rfl ?_
            have e2 : xfnd (g_is V (n_mk V t (V.2.1 7 k)) (n_cd V t (V.2.1 8 k))) c = some j := xfnd_i e1 (decide_eq_true ⟨by assumption, q2⟩) hin
            unfold g_fi
            rw [e2]
            exact ⟨rfl, rfl⟩
  refine xx_aload_n e_G_fire_0 rfl rfl ?_
  refine xx_iload_n e_G_fire_1 rfl rfl ?_
  refine xx_aload_n e_G_fire_2 rfl rfl ?_
  refine xh_getR e_G_fire_3 fg_G_9 rfl rfl ?_
  refine xx_iload_n e_G_fire_6 rfl rfl ?_
  refine xh_ialN e_G_fire_7 rfl (by omega) ?_
  refine xc_V2i e_G_fire_8 kv_G_92 (xl_obj rfl) (u_N_markingAfter ht) ?_
  refine xx_istore e_G_fire_11 rfl ?_
  refine xx_aload_n e_G_fire_13 rfl rfl ?_
  refine xx_iload_n e_G_fire_14 rfl rfl ?_
  refine xx_aload_n e_G_fire_15 rfl rfl ?_
  refine xh_getR e_G_fire_16 fg_G_15 rfl rfl ?_
  refine xx_iload_n e_G_fire_19 rfl rfl ?_
  refine xh_ialN e_G_fire_20 rfl (by omega) ?_
  refine xc_V2i e_G_fire_21 kv_G_96 (xl_obj rfl) (u_N_codeAfter ht) ?_
  refine xx_istore e_G_fire_24 rfl ?_
  refine xx_iconst (v := 0) e_G_fire_26 (by decide) ?_
  refine xx_istore e_G_fire_27 rfl ?_
  exact loop _ 0 rfl (Nat.zero_le _) (fun i hi => absurd hi (Nat.not_lt_zero i))
end XGraph2
end
section
/-! The graph: noting, expanding. -/
section XGraph3
variable {S : Nat × (Nat → Int32)} {V : xl_V} {d : Nat}
theorem xh_fg {K : xa_P} {tx : Nat → Nat × (Nat → Int32)} {d y pc : Nat} {ls st : List Value} {h : xa_H} {mc ms : Nat} {Q : xa_Q} (i : Nat) (k : xa_X K tx d y pc (ls.set i xa_j) st h mc ms Q) : xa_X K tx d y pc ls st h mc ms Q :=
  xx_less ⟨List.length_set, fun j v hv => by
    by_cases e : i = j
    · subst e
      by_cases hl : i < ls.length
      · rw [List.getElem?_set_self hl] at hv
        exact Or.inl (Option.some.inj hv).symm
      · rw [List.getElem?_eq_none (by rw [List.length_set]; omega)] at hv
        cases hv
    · rw [List.getElem?_set_ne e] at hv
      exact Or.inr hv⟩ k
def g_ne (V : xl_V) (k t : Nat) : xl_V := if n_in V (V.2.1 2 t) = 0 then xl_a (xl_a V 11 (upd (V.2.1 11) k (V.2.1 11 k ||| n_eb V t))) 10 (upd (V.2.1 10) k (V.2.1 10 k ||| ((1 : Int32) <<< (V.2.1 2 t &&& 31)))) else xl_a V 11 (upd (V.2.1 11) k (V.2.1 11 k ||| n_eb V t))
theorem t_G_noteEnabled {k t : Nat} (hk : k < 80) (ht : t < 14) : xX S (d + 2) 15 0 (xa_ent 4 [.ref 6, .ref 1, .int (nI k), .int (nI t)]) [] V 0 0 (xq none (xl_H xlay (g_ne V k t))) := by
  refine xx_aload_n e_G_noteEnabled_0 rfl rfl ?_
  refine xh_getR e_G_noteEnabled_1 fg_G_24 rfl rfl ?_
  refine xx_iload_n e_G_noteEnabled_4 rfl rfl ?_
  refine xx_dup2 e_G_noteEnabled_5 rfl rfl ?_
  refine xh_ialN e_G_noteEnabled_6 rfl (by omega) ?_
  refine xx_aload_n e_G_noteEnabled_7 rfl rfl ?_
  refine xx_iload_n e_G_noteEnabled_8 rfl rfl ?_
  refine xc_V1i e_G_noteEnabled_9 kv_G_81 (xl_obj rfl) (u_N_edgeBit ht) ?_
  refine xx_ior e_G_noteEnabled_12 ?_
  refine xh_iasN e_G_noteEnabled_13 rfl (by omega) ?_
  refine xx_aload_n e_G_noteEnabled_14 rfl rfl ?_
  refine xx_aload_n e_G_noteEnabled_15 rfl rfl ?_
  refine xx_iload_n e_G_noteEnabled_16 rfl rfl ?_
  refine xc_V1i e_G_noteEnabled_17 kv_G_85 (xl_obj rfl) (u_N_signalOf ht) ?_
  refine xc_V1i e_G_noteEnabled_20 kv_G_88 (xl_obj rfl) (t_N_isInput) ?_
  refine xx_if_ne e_G_noteEnabled_23 (fun q => ?_) (fun q => ?_)
  · skip
    refine xx_vret e_G_noteEnabled_42 rfl ?_
    exact ⟨rfl, congrArg (xl_H xlay) (if_neg q).symm⟩
  · skip
    refine xx_aload_n e_G_noteEnabled_26 rfl rfl ?_
    refine xh_getR e_G_noteEnabled_27 fg_G_21 rfl rfl ?_
    refine xx_iload_n e_G_noteEnabled_30 rfl rfl ?_
    refine xx_dup2 e_G_noteEnabled_31 rfl rfl ?_
    refine xh_ialN e_G_noteEnabled_32 rfl (by omega) ?_
    refine xx_iconst (v := 1) e_G_noteEnabled_33 (by decide) ?_
    refine xx_aload_n e_G_noteEnabled_34 rfl rfl ?_
    refine xx_iload_n e_G_noteEnabled_35 rfl rfl ?_
    refine xc_V1i e_G_noteEnabled_36 kv_G_85 (xl_obj rfl) (u_N_signalOf ht) ?_
    refine xx_ishl e_G_noteEnabled_39 ?_
    refine xx_ior e_G_noteEnabled_40 ?_
    refine xh_iasN e_G_noteEnabled_41 rfl (by omega) ?_
    refine xx_vret e_G_noteEnabled_42 rfl ?_
    exact ⟨rfl, congrArg (xl_H xlay) (if_pos q).symm⟩
def g_ct (V : xl_V) : Nat := (V.1 6 0).toNatClampNeg
/-- the state that comes of k by t, noted as its successor -/
def g_x2 (V : xl_V) (k t : Nat) : xl_V := xl_a (g_fi V (g_ct V) k t).2 12 (upd ((g_fi V (g_ct V) k t).2.2.1 12) (k * 14 + t) (g_fi V (g_ct V) k t).1)
def g_nu (V : xl_V) (k : Nat) : xl_V := if V.1 6 9 = -1 then xl_i V 6 9 (nI k) else V
def g_nw (V : xl_V) (k : Nat) : xl_V := if V.1 6 10 = -1 then xl_i V 6 10 (nI k) else V
/-- transition t at state k -/
def g_xs (V : xl_V) (k t : Nat) : xl_V :=
  if n_en V t (V.2.1 7 k) = 0 then xl_a V 12 (upd (V.2.1 12) (k * 14 + t) (-1)) else
  if n_sf V t (V.2.1 7 k) = 0 then
    (if n_rt V t (V.2.1 8 k) = 0 then
      g_nw (g_nu (g_ne (xl_a V 12 (upd (V.2.1 12) (k * 14 + t) (-1))) k t) k) k
    else g_nu (g_ne (xl_a V 12 (upd (V.2.1 12) (k * 14 + t) (-1))) k t) k)
  else if n_rt V t (V.2.1 8 k) = 0 then g_nw (g_ne (xl_a V 12 (upd (V.2.1 12) (k * 14 + t) (-1))) k t) k
  else g_x2 (g_ne (xl_a V 12 (upd (V.2.1 12) (k * 14 + t) (-1))) k t) k t
theorem g_ne_1 (V : xl_V) (k t : Nat) : (g_ne V k t).1 = V.1 := by unfold g_ne; split <;> rfl
theorem g_ne_a (V : xl_V) (k t : Nat) {a : Nat} (h : a ≠ 10) (h2 : a ≠ 11) : (g_ne V k t).2.1 a = V.2.1 a := by
  unfold g_ne
  split
  · show xa_up (xa_up V.2.1 11 _) 10 _ a = _
    rw [xa_up_n _ _ h, xa_up_n _ _ h2]
  · show xa_up V.2.1 11 _ a = _
    rw [xa_up_n _ _ h2]
/-- one transition at one state, as the method goes -/
theorem t_G_x1 {k t c : Nat} {Q : xa_Q} (hc : V.1 6 0 = nI c) (hk : k < c) (h80 : c ≤ 80) (ht : t < 14)
    (kk : ∀ W, W = g_xs V k t → xX S (d + 3) 13 133 [.ref 6, .ref 1, .int (nI k), .int (nI t), xa_j, xa_j] [] W 0 0 Q) (l4 l5 : Value) :
    xX S (d + 3) 13 10 [.ref 6, .ref 1, .int (nI k), .int (nI t), l4, l5] [] V 0 0 Q := by
  have hk8 : k < 80 := by omega
  refine xx_aload_n e_G_expand_10 rfl rfl ?_
  refine xh_getR e_G_expand_11 fg_G_27 rfl rfl ?_
  refine xx_iload_n e_G_expand_14 rfl rfl ?_
  refine xx_bipush (v := 14) e_G_expand_15 (by decide) ?_
  refine xx_imul e_G_expand_17 ?_
  refine xx_iload_n e_G_expand_18 rfl rfl ?_
  refine xx_iadd e_G_expand_19 ?_
  rw [show (14 : Int32) = nI 14 from rfl, pk_mul, nI_add]
  refine xx_iconst (v := (-1)) e_G_expand_20 (by decide) ?_
  refine xh_iasN e_G_expand_21 rfl (by omega) ?_
  refine xx_aload_n e_G_expand_22 rfl rfl ?_
  refine xx_iload_n e_G_expand_23 rfl rfl ?_
  refine xx_aload_n e_G_expand_24 rfl rfl ?_
  refine xh_getR e_G_expand_25 fg_G_9 rfl rfl ?_
  refine xx_iload_n e_G_expand_28 rfl rfl ?_
  refine xh_ialN e_G_expand_29 rfl (by omega) ?_
  refine xc_V2i e_G_expand_30 kv_G_63 (xl_obj rfl) (u_N_isEnabled ht) ?_
  refine xx_if_eq e_G_expand_33 (fun q => ?_) (fun q => ?_)
  · refine xh_fg 4 (xh_fg 5 (kk _ ?_))
    unfold g_xs
    exact (if_pos q).symm
  · skip
    have q : ¬ n_en V t (V.2.1 7 k) = 0 := q
    refine xx_aload_n e_G_expand_36 rfl rfl ?_
    refine xx_aload_n e_G_expand_37 rfl rfl ?_
    refine xx_iload_n e_G_expand_38 rfl rfl ?_
    refine xx_iload_n e_G_expand_39 rfl rfl ?_
    refine xc_V3v e_G_expand_40 kv_G_67 (xl_obj rfl) (t_G_noteEnabled hk8 ht) ?_
    generalize hW : g_ne (xl_a V 12 (upd (V.2.1 12) (k * 14 + t) (-1))) k t = W
    have w1 : W.1 = V.1 := by rw [← hW, g_ne_1]; rfl
    have wa : ∀ a, a ≠ 10 → a ≠ 11 → a ≠ 12 → W.2.1 a = V.2.1 a := fun a h1 h2 h3 => by
      rw [← hW, g_ne_a _ _ _ h1 h2]
      exact xa_up_n V.2.1 _ h3
    have e7 := wa 7 (by decide) (by decide) (by decide)
    have e8 := wa 8 (by decide) (by decide) (by decide)
    have e2 := wa 2 (by decide) (by decide) (by decide)
    have e3 := wa 3 (by decide) (by decide) (by decide)
    have e4 := wa 4 (by decide) (by decide) (by decide)
    have e5 := wa 5 (by decide) (by decide) (by decide)
    have sf : n_sf W t (W.2.1 7 k) = n_sf V t (V.2.1 7 k) := by unfold n_sf; rw [e4, e5, e7]
    have rt : n_rt W t (W.2.1 8 k) = n_rt V t (V.2.1 8 k) := by unfold n_rt n_lv; rw [e2, e3, e8]
    have hcW : W.1 6 0 = nI c := by rw [w1]; exact hc
    have hctW : g_ct W = c := by unfold g_ct; rw [hcW]; exact nI_clamp (xn31 (by omega))
    refine xx_aload_n e_G_expand_43 rfl rfl ?_
    refine xx_iload_n e_G_expand_44 rfl rfl ?_
    refine xx_aload_n e_G_expand_45 rfl rfl ?_
    refine xh_getR e_G_expand_46 fg_G_9 rfl rfl ?_
    refine xx_iload_n e_G_expand_49 rfl rfl ?_
    refine xh_ialN e_G_expand_50 rfl (by omega) ?_
    refine xc_V2i e_G_expand_51 kv_G_71 (xl_obj rfl) (u_N_isSafe ht) ?_
    refine xx_istore e_G_expand_54 rfl ?_
    refine xx_aload_n e_G_expand_56 rfl rfl ?_
    refine xx_iload_n e_G_expand_57 rfl rfl ?_
    refine xx_aload_n e_G_expand_58 rfl rfl ?_
    refine xh_getR e_G_expand_59 fg_G_15 rfl rfl ?_
    refine xx_iload_n e_G_expand_62 rfl rfl ?_
    refine xh_ialN e_G_expand_63 rfl (by omega) ?_
    refine xc_V2i e_G_expand_64 kv_G_74 (xl_obj rfl) (u_N_isRight ht) ?_
    rw [sf, rt]
    refine xx_istore e_G_expand_67 rfl ?_
    refine xx_iload e_G_expand_69 rfl ?_
    refine xx_if_eq e_G_expand_71 (fun q1 => ?_) (fun q1 => ?_)
    · skip
      refine xx_iload e_G_expand_97 rfl ?_
      refine xx_if_ne e_G_expand_99 (fun q2 => absurd q1 q2) (fun q2 => ?_)
      refine xx_aload_n e_G_expand_102 rfl rfl ?_
      refine xh_get e_G_expand_103 fg_G_34 rfl rfl ?_
      refine xx_iconst (v := (-1)) e_G_expand_106 (by decide) ?_
      refine xx_icmp_ne e_G_expand_107 (fun q3 => ?_) (fun q3 => ?_)
      · skip
        refine xx_iload e_G_expand_115 rfl ?_
        refine xx_if_ne e_G_expand_117 (fun q4 => ?_) (fun q4 => ?_)
        · refine xh_fg 4 (xh_fg 5 (kk _ ?_))
          unfold g_xs
          rw [if_neg q, if_pos q1, if_neg q4, hW]
          exact (if_neg q3).symm
        · skip
          refine xx_aload_n e_G_expand_120 rfl rfl ?_
          refine xh_get e_G_expand_121 fg_G_38 rfl rfl ?_
          refine xx_iconst (v := (-1)) e_G_expand_124 (by decide) ?_
          refine xx_icmp_ne e_G_expand_125 (fun q5 => ?_) (fun q5 => ?_)
          · refine xh_fg 4 (xh_fg 5 (kk _ ?_))
            unfold g_xs
            rw [if_neg q, if_pos q1, if_pos q4, hW]
            unfold g_nu
            rw [if_neg q3]
            exact (if_neg q5).symm
          · skip
            refine xx_aload_n e_G_expand_128 rfl rfl ?_
            refine xx_iload_n e_G_expand_129 rfl rfl ?_
            refine xh_put e_G_expand_130 fp_G_38 rfl rfl ⟨rfl, rfl⟩ ?_
            refine xh_fg 4 (xh_fg 5 (kk _ ?_))
            unfold g_xs
            rw [if_neg q, if_pos q1, if_pos q4, hW]
            unfold g_nu
            rw [if_neg q3]
            exact (if_pos q5).symm
      · skip
        refine xx_aload_n e_G_expand_110 rfl rfl ?_
        refine xx_iload_n e_G_expand_111 rfl rfl ?_
        refine xh_put e_G_expand_112 fp_G_34 rfl rfl ⟨rfl, rfl⟩ ?_
        refine xx_iload e_G_expand_115 rfl ?_
        refine xx_if_ne e_G_expand_117 (fun q4 => ?_) (fun q4 => ?_)
        · refine xh_fg 4 (xh_fg 5 (kk _ ?_))
          unfold g_xs
          rw [if_neg q, if_pos q1, if_neg q4, hW]
          exact (if_pos q3).symm
        · skip
          refine xx_aload_n e_G_expand_120 rfl rfl ?_
          refine xh_get e_G_expand_121 fg_G_38 rfl rfl ?_
          refine xx_iconst (v := (-1)) e_G_expand_124 (by decide) ?_
          refine xx_icmp_ne e_G_expand_125 (fun q5 => ?_) (fun q5 => ?_)
          · refine xh_fg 4 (xh_fg 5 (kk _ ?_))
            unfold g_xs
            rw [if_neg q, if_pos q1, if_pos q4, hW]
            unfold g_nu
            rw [if_pos q3]
            exact (if_neg q5).symm
          · skip
            refine xx_aload_n e_G_expand_128 rfl rfl ?_
            refine xx_iload_n e_G_expand_129 rfl rfl ?_
            refine xh_put e_G_expand_130 fp_G_38 rfl rfl ⟨rfl, rfl⟩ ?_
            refine xh_fg 4 (xh_fg 5 (kk _ ?_))
            unfold g_xs
            rw [if_neg q, if_pos q1, if_pos q4, hW]
            unfold g_nu
            rw [if_pos q3]
            exact (if_pos q5).symm
    · skip
      refine xx_iload e_G_expand_74 rfl ?_
      refine xx_if_eq e_G_expand_76 (fun q2 => ?_) (fun q2 => ?_)
      · skip
        refine xx_iload e_G_expand_97 rfl ?_
        refine xx_if_ne e_G_expand_99 (fun q3 => ?_) (fun q3 => absurd q3 q1)
        refine xx_iload e_G_expand_115 rfl ?_
        refine xx_if_ne e_G_expand_117 (fun q4 => absurd q2 q4) (fun q4 => ?_)
        refine xx_aload_n e_G_expand_120 rfl rfl ?_
        refine xh_get e_G_expand_121 fg_G_38 rfl rfl ?_
        refine xx_iconst (v := (-1)) e_G_expand_124 (by decide) ?_
        refine xx_icmp_ne e_G_expand_125 (fun q5 => ?_) (fun q5 => ?_)
        · refine xh_fg 4 (xh_fg 5 (kk _ ?_))
          unfold g_xs
          rw [if_neg q, if_neg q1, if_pos q2, hW]
          exact (if_neg q5).symm
        · skip
          refine xx_aload_n e_G_expand_128 rfl rfl ?_
          refine xx_iload_n e_G_expand_129 rfl rfl ?_
          refine xh_put e_G_expand_130 fp_G_38 rfl rfl ⟨rfl, rfl⟩ ?_
          refine xh_fg 4 (xh_fg 5 (kk _ ?_))
          unfold g_xs
          rw [if_neg q, if_neg q1, if_pos q2, hW]
          exact (if_pos q5).symm
      · skip
        refine xx_aload_n e_G_expand_79 rfl rfl ?_
        refine xh_getR e_G_expand_80 fg_G_27 rfl rfl ?_
        refine xx_iload_n e_G_expand_83 rfl rfl ?_
        refine xx_bipush (v := 14) e_G_expand_84 (by decide) ?_
        refine xx_imul e_G_expand_86 ?_
        refine xx_iload_n e_G_expand_87 rfl rfl ?_
        refine xx_iadd e_G_expand_88 ?_
        rw [show (14 : Int32) = nI 14 from rfl, pk_mul, nI_add]
        refine xx_aload_n e_G_expand_89 rfl rfl ?_
        refine xx_aload_n e_G_expand_90 rfl rfl ?_
        refine xx_iload_n e_G_expand_91 rfl rfl ?_
        refine xx_iload_n e_G_expand_92 rfl rfl ?_
        refine xc_V3i e_G_expand_93 kv_G_77 (xl_obj rfl) (t_G_fire hk hcW h80 ht) ?_
        refine xh_iasN e_G_expand_96 rfl (by omega) ?_
        refine xx_iload e_G_expand_97 rfl ?_
        refine xx_if_ne e_G_expand_99 (fun q3 => ?_) (fun q3 => absurd q3 q1)
        refine xx_iload e_G_expand_115 rfl ?_
        refine xx_if_ne e_G_expand_117 (fun q4 => ?_) (fun q4 => absurd q4 q2)
        refine xh_fg 4 (xh_fg 5 (kk _ ?_))
        unfold g_xs
        rw [if_neg q, if_neg q1, if_neg q2, hW]
        unfold g_x2
        rw [hctW]
end XGraph3
end
section
/-! The graph: expanding a state, building. -/
section XGraph4
variable {S : Nat × (Nat → Int32)} {V : xl_V} {d : Nat}
def g_xr (V : xl_V) (k : Nat) : Nat → xl_V
  | 0 => V
  | t + 1 => g_xs (g_xr V k t) k t
/-- what stays and what grows when the graph does -/
def g_gr (V W : xl_V) : Prop := W.1 1 = V.1 1 ∧ ∀ c, V.1 6 0 = nI c → c ≤ 80 → ∃ c', W.1 6 0 = nI c' ∧ c ≤ c' ∧ c' ≤ 80
theorem g_gr_r (V : xl_V) : g_gr V V := ⟨rfl, fun c h h8 => ⟨c, h, Nat.le_refl _, h8⟩⟩
theorem g_gr_t {V W U : xl_V} (h : g_gr V W) (h2 : g_gr W U) : g_gr V U := ⟨h2.1.trans h.1, fun c hc h8 => by
  obtain ⟨c1, a1, a2, a3⟩ := h.2 c hc h8
  obtain ⟨c2, b1, b2, b3⟩ := h2.2 c1 a1 a3
  exact ⟨c2, b1, by omega, b3⟩⟩
theorem g_gr_s {V W : xl_V} (h : W.1 1 = V.1 1) (h0 : W.1 6 0 = V.1 6 0) : g_gr V W := ⟨h, fun c hc h8 => ⟨c, h0.trans hc, Nat.le_refl _, h8⟩⟩
theorem g_gr_fi {c k t : Nat} (hc : V.1 6 0 = nI c) (h8 : c ≤ 80) : g_gr V (g_fi V c k t).2 := by
  unfold g_fi
  split
  · exact g_gr_r V
  · split
    · exact g_gr_s rfl rfl
    · rename_i h
      refine ⟨rfl, fun c1 h1 h2 => ⟨c + 1, rfl, ?_, by omega⟩⟩
      have : c1 = c := (nI_eq (xn31 (by omega)) (xn31 (by omega))).mp (h1.symm.trans hc)
      omega
theorem g_gr_xs {c k t : Nat} (hc : V.1 6 0 = nI c) (h8 : c ≤ 80) : g_gr V (g_xs V k t) := by
  have h0 : g_gr V (g_ne (xl_a V 12 (upd (V.2.1 12) (k * 14 + t) (-1))) k t) := g_gr_s (by rw [g_ne_1]; rfl) (by rw [g_ne_1]; rfl)
  have hu : ∀ W : xl_V, g_gr W (g_nu W k) := fun W => by
    unfold g_nu; split
    · exact g_gr_s rfl rfl
    · exact g_gr_r W
  have hw : ∀ W : xl_V, g_gr W (g_nw W k) := fun W => by
    unfold g_nw; split
    · exact g_gr_s rfl rfl
    · exact g_gr_r W
  unfold g_xs
  split
  · exact g_gr_s rfl rfl
  · split
    · split
      · exact g_gr_t h0 (g_gr_t (hu _) (hw _))
      · exact g_gr_t h0 (hu _)
    · split
      · exact g_gr_t h0 (hw _)
      · refine g_gr_t h0 ?_
        generalize hW : g_ne (xl_a V 12 (upd (V.2.1 12) (k * 14 + t) (-1))) k t = W
        have w1 : W.1 = V.1 := by rw [← hW, g_ne_1]; rfl
        have hcW : W.1 6 0 = nI c := by rw [w1]; exact hc
        have hct : g_ct W = c := by unfold g_ct; rw [hcW]; exact nI_clamp (xn31 (by omega))
        unfold g_x2
        rw [hct]
        exact g_gr_t (g_gr_fi hcW h8) (g_gr_s rfl rfl)
theorem g_gr_xr {c k : Nat} (hc : V.1 6 0 = nI c) (h8 : c ≤ 80) : ∀ t, g_gr V (g_xr V k t)
  | 0 => g_gr_r V
  | t + 1 => by
    have h := g_gr_xr hc h8 (k := k) t
    obtain ⟨c1, a1, a2, a3⟩ := h.2 c hc h8
    exact g_gr_t h (g_gr_xs a1 a3)
theorem t_G_expand {k c e : Nat} (hc : V.1 6 0 = nI c) (hk : k < c) (h80 : c ≤ 80) (he : V.1 1 1 = nI e) (h14 : e ≤ 14) : xX S (d + 3) 13 0 (xa_ent 6 [.ref 6, .ref 1, .int (nI k)]) [] V 0 0 (xq none (xl_H xlay (g_xr V k e))) := by
  have loop : ∀ n t, e - t = n → t ≤ e → xX S (d + 3) 13 2 [.ref 6, .ref 1, .int (nI k), .int (nI t), xa_j, xa_j] [] (g_xr V k t) 0 0 (xq none (xl_H xlay (g_xr V k e))) := by
    intro n
    induction n using Nat.strongRecOn with
    | ind n ih =>
      intro t hn ht
      have hg := g_gr_xr hc h80 (k := k) t
      have he' : (g_xr V k t).1 1 1 = nI e := by rw [hg.1]; exact he
      obtain ⟨c1, a1, a2, a3⟩ := hg.2 c hc h80
      refine xx_iload_n e_G_expand_2 rfl rfl ?_
      refine xx_aload_n e_G_expand_3 rfl rfl ?_
      refine xh_get e_G_expand_4 fg_G_60 rfl rfl ?_
      refine xx_icmp_ge e_G_expand_7 (fun q => ?_) (fun q => ?_)
      · have e1 : t = e := Nat.le_antisymm ht ((xle he' rfl (by omega) (by omega)).mp q)
        refine xx_vret e_G_expand_139 rfl ?_
        rw [e1]
        exact ⟨rfl, rfl⟩
      · have e1 : t < e := Nat.lt_of_not_le (fun z => q ((xle he' rfl (by omega) (by omega)).mpr z))
        refine t_G_x1 (d := d) a1 (by omega) a3 (by omega) (fun W hW => ?_) xa_j xa_j
        refine xh_incN e_G_expand_133 rfl ?_
        refine xx_goto e_G_expand_136 ?_
        rw [hW]
        exact ih (e - (t + 1)) (by omega) (t + 1) rfl (by omega)
  refine xx_iconst (v := 0) e_G_expand_0 (by decide) ?_
  refine xx_istore_n e_G_expand_1 rfl rfl ?_
  exact loop _ 0 rfl (Nat.zero_le _)
def g_e (V : xl_V) : Nat := (V.1 1 1).toNatClampNeg
def g_bl : Nat → Nat → xl_V → xl_V
  | 0, _, V => V
  | n + 1, k, V => if k < g_ct V ∧ V.1 6 8 = 0 then g_bl n (k + 1) (g_xr V k (g_e V)) else V
/-- nothing but the first state -/
def g_b0 (V : xl_V) : xl_V := g_ad (xl_i (xl_i (xl_i (xl_i V 6 8 0) 6 9 (-1)) 6 10 (-1)) 6 0 0) 0 (V.1 1 4) (V.1 1 3) (-1)
def g_bd (V : xl_V) : xl_V := if (g_bl 80 0 (g_b0 V)).1 6 8 = 0 then g_bl 80 0 (g_b0 V) else xl_i (g_bl 80 0 (g_b0 V)) 6 0 0
theorem t_G_build {e : Nat} (he : V.1 1 1 = nI e) (h14 : e ≤ 14) : xX S (d + 4) 11 0 (xa_ent 3 [.ref 6, .ref 1]) [] V 0 0 (xq none (xl_H xlay (g_bd V))) := by
  have tail : ∀ W : xl_V, W = g_bl 80 0 (g_b0 V) → ∀ l2, xX S (d + 4) 11 69 [.ref 6, .ref 1, l2] [] W 0 0 (xq none (xl_H xlay (g_bd V))) := by
    intro W hW l2
    refine xx_aload_n e_G_build_69 rfl rfl ?_
    refine xh_get e_G_build_70 fg_G_30 rfl rfl ?_
    refine xx_if_eq e_G_build_73 (fun q => ?_) (fun q => ?_)
    · skip
      refine xx_vret e_G_build_81 rfl ?_
      unfold g_bd
      rw [← hW]
      exact ⟨rfl, congrArg (xl_H xlay) (if_pos q).symm⟩
    · skip
      refine xx_aload_n e_G_build_76 rfl rfl ?_
      refine xx_iconst (v := 0) e_G_build_77 (by decide) ?_
      refine xh_put e_G_build_78 fp_G_41 rfl rfl ⟨rfl, rfl⟩ ?_
      refine xx_vret e_G_build_81 rfl ?_
      unfold g_bd
      rw [← hW]
      exact ⟨rfl, congrArg (xl_H xlay) (if_neg q).symm⟩
  have loop : ∀ n k (W : xl_V), n + k = 80 → (∃ c, W.1 6 0 = nI c ∧ c ≤ 80) → W.1 1 1 = nI e → g_bl n k W = g_bl 80 0 (g_b0 V) → xX S (d + 4) 11 36 [.ref 6, .ref 1, .int (nI k)] [] W 0 0 (xq none (xl_H xlay (g_bd V))) := by
    intro n
    induction n with
    | zero =>
      intro k W hk hc heW hb
      refine xx_iload_n e_G_build_36 rfl rfl ?_
      refine xx_bipush (v := 80) e_G_build_37 (by decide) ?_
      refine xx_icmp_ge e_G_build_39 (fun q => ?_) (fun q => ?_)
      · exact tail W hb _
      · exact absurd ((xle (a := 80) rfl rfl (by decide) (by omega)).mpr (by omega)) q
    | succ n ih =>
      intro k W hk hc heW hb
      obtain ⟨c, hc, h80⟩ := hc
      have hct : g_ct W = c := by unfold g_ct; rw [hc]; exact nI_clamp (xn31 (by omega))
      have hge : g_e W = e := by unfold g_e; rw [heW]; exact nI_clamp (xn31 (by omega))
      refine xx_iload_n e_G_build_36 rfl rfl ?_
      refine xx_bipush (v := 80) e_G_build_37 (by decide) ?_
      refine xx_icmp_ge e_G_build_39 (fun q => ?_) (fun q => ?_)
      · have := (xle (a := 80) rfl rfl (by decide) (by omega)).mp q
        omega
      · skip
        refine xx_iload_n e_G_build_42 rfl rfl ?_
        refine xx_aload_n e_G_build_43 rfl rfl ?_
        refine xh_get e_G_build_44 fg_G_41 rfl rfl ?_
        refine xx_icmp_ge e_G_build_47 (fun q1 => ?_) (fun q1 => ?_)
        · have e1 := (xle hc rfl (by omega) (by omega)).mp q1
          refine tail W ?_ _
          rw [← hb]
          unfold g_bl
          rw [if_neg (by rw [hct]; omega)]
        · have e1 : k < c := Nat.lt_of_not_le (fun z => q1 ((xle hc rfl (by omega) (by omega)).mpr z))
          refine xx_aload_n e_G_build_50 rfl rfl ?_
          refine xh_get e_G_build_51 fg_G_30 rfl rfl ?_
          refine xx_if_ne e_G_build_54 (fun q2 => ?_) (fun q2 => ?_)
          · refine tail W ?_ _
            rw [← hb]
            unfold g_bl
            rw [if_neg (fun z => q2 z.2)]
          · skip
            refine xx_aload_n e_G_build_57 rfl rfl ?_
            refine xx_aload_n e_G_build_58 rfl rfl ?_
            refine xx_iload_n e_G_build_59 rfl rfl ?_
            refine xc_V2v e_G_build_60 kv_G_56 (xl_obj rfl) (t_G_expand hc e1 h80 heW h14) ?_
            refine xh_incN e_G_build_63 rfl ?_
            refine xx_goto e_G_build_66 ?_
            have hg := g_gr_xr hc h80 (k := k) e
            obtain ⟨c1, a1, a2, a3⟩ := hg.2 c hc h80
            refine ih (k + 1) _ (by omega) ⟨c1, a1, a3⟩ (by rw [hg.1]; exact heW) ?_
            rw [← hb]
            conv => rhs; unfold g_bl
            rw [if_pos ⟨by rw [hct]; exact e1, q2⟩, hge]
  refine xx_aload_n e_G_build_0 rfl rfl ?_
  refine xx_iconst (v := 0) e_G_build_1 (by decide) ?_
  refine xh_put e_G_build_2 fp_G_30 rfl rfl ⟨rfl, rfl⟩ ?_
  refine xx_aload_n e_G_build_5 rfl rfl ?_
  refine xx_iconst (v := (-1)) e_G_build_6 (by decide) ?_
  refine xh_put e_G_build_7 fp_G_34 rfl rfl ⟨rfl, rfl⟩ ?_
  refine xx_aload_n e_G_build_10 rfl rfl ?_
  refine xx_iconst (v := (-1)) e_G_build_11 (by decide) ?_
  refine xh_put e_G_build_12 fp_G_38 rfl rfl ⟨rfl, rfl⟩ ?_
  refine xx_aload_n e_G_build_15 rfl rfl ?_
  refine xx_iconst (v := 0) e_G_build_16 (by decide) ?_
  refine xh_put e_G_build_17 fp_G_41 rfl rfl ⟨rfl, rfl⟩ ?_
  refine xx_aload_n e_G_build_20 rfl rfl ?_
  refine xx_aload_n e_G_build_21 rfl rfl ?_
  refine xh_get e_G_build_22 fg_G_44 rfl rfl ?_
  refine xx_aload_n e_G_build_25 rfl rfl ?_
  refine xh_get e_G_build_26 fg_G_49 rfl rfl ?_
  refine xx_iconst (v := (-1)) e_G_build_29 (by decide) ?_
  refine xc_V3i e_G_build_30 kv_G_52 (xl_obj rfl) (t_G_addState (c := 0) rfl (by decide)) ?_
  refine xx_pop e_G_build_33 rfl ?_
  refine xx_iconst (v := 0) e_G_build_34 (by decide) ?_
  refine xx_istore_n e_G_build_35 rfl rfl ?_
  exact loop 80 0 _ rfl ⟨1, rfl, by decide⟩ he rfl
end XGraph4
end
section
/-! The graph: what its states say of the net. -/
section XGraph5
variable {S : Nat × (Nat → Int32)} {V : xl_V} {d : Nat}
def g_lo (V : xl_V) (k t : Nat) : Int32 :=
  if (if n_in V (V.2.1 2 t) = 0 then V.2.1 11 k &&& (V.2.1 11 (V.2.1 12 (k * 14 + t)).toNatClampNeg ^^^ (-1)) &&& (n_eb V t ^^^ (-1)) else V.2.1 11 k &&& (V.2.1 11 (V.2.1 12 (k * 14 + t)).toNatClampNeg ^^^ (-1)) &&& (n_eb V t ^^^ (-1)) &&& V.1 1 5) = 0 then 0 else 1
theorem t_G_losesEdge {k t : Nat} (hk : k < 80) (ht : t < 14) (hs : vp_in (V.2.1 12 (k * 14 + t)) 80) : xX S (d + 2) 28 0 (xa_ent 5 [.ref 6, .ref 1, .int (nI k), .int (nI t)]) [] V 0 0 (xq (some (.int (g_lo V k t))) (xl_H xlay V)) := by
  refine xx_aload_n e_G_losesEdge_0 rfl rfl ?_
  refine xh_getR e_G_losesEdge_1 fg_G_24 rfl rfl ?_
  refine xx_iload_n e_G_losesEdge_4 rfl rfl ?_
  refine xh_ialN e_G_losesEdge_5 rfl (by omega) ?_
  refine xx_aload_n e_G_losesEdge_6 rfl rfl ?_
  refine xh_getR e_G_losesEdge_7 fg_G_24 rfl rfl ?_
  refine xx_aload_n e_G_losesEdge_10 rfl rfl ?_
  refine xx_iload_n e_G_losesEdge_11 rfl rfl ?_
  refine xx_iload_n e_G_losesEdge_12 rfl rfl ?_
  refine xc_V2i e_G_losesEdge_13 kv_G_110 (xl_obj rfl) (t_G_successor hk ht) ?_
  refine xh_iald e_G_losesEdge_16 rfl hs ?_
  refine xx_iconst (v := (-1)) e_G_losesEdge_17 (by decide) ?_
  refine xx_ixor e_G_losesEdge_18 ?_
  refine xx_iand e_G_losesEdge_19 ?_
  refine xx_aload_n e_G_losesEdge_20 rfl rfl ?_
  refine xx_iload_n e_G_losesEdge_21 rfl rfl ?_
  refine xc_V1i e_G_losesEdge_22 kv_G_81 (xl_obj rfl) (u_N_edgeBit ht) ?_
  refine xx_iconst (v := (-1)) e_G_losesEdge_25 (by decide) ?_
  refine xx_ixor e_G_losesEdge_26 ?_
  refine xx_iand e_G_losesEdge_27 ?_
  refine xx_istore e_G_losesEdge_28 rfl ?_
  refine xx_aload_n e_G_losesEdge_30 rfl rfl ?_
  refine xx_aload_n e_G_losesEdge_31 rfl rfl ?_
  refine xx_iload_n e_G_losesEdge_32 rfl rfl ?_
  refine xc_V1i e_G_losesEdge_33 kv_G_85 (xl_obj rfl) (u_N_signalOf ht) ?_
  refine xc_V1i e_G_losesEdge_36 kv_G_88 (xl_obj rfl) (t_N_isInput) ?_
  refine xx_if_eq e_G_losesEdge_39 (fun q39 => ?_) (fun q39 => ?_)
  · refine xx_iload e_G_losesEdge_51 rfl ?_
    refine xx_if_eq e_G_losesEdge_53 (fun q53 => ?_) (fun q53 => ?_)
    · refine xx_iconst (v := 0) e_G_losesEdge_60 (by decide) ?_
      refine xx_iret e_G_losesEdge_61 rfl rfl ?_
      exact ⟨by simp only [g_lo, ↓reduceIte, *], rfl⟩
    · refine xx_iconst (v := 1) e_G_losesEdge_56 (by decide) ?_
      refine xx_goto e_G_losesEdge_57 ?_
      refine xx_iret e_G_losesEdge_61 rfl rfl ?_
      exact ⟨by simp only [g_lo, ↓reduceIte, *], rfl⟩
  · refine xx_iload e_G_losesEdge_42 rfl ?_
    refine xx_aload_n e_G_losesEdge_44 rfl rfl ?_
    refine xh_get e_G_losesEdge_45 fg_G_117 rfl rfl ?_
    refine xx_iand e_G_losesEdge_48 ?_
    refine xx_istore e_G_losesEdge_49 rfl ?_
    refine xx_iload e_G_losesEdge_51 rfl ?_
    refine xx_if_eq e_G_losesEdge_53 (fun q53 => ?_) (fun q53 => ?_)
    · refine xx_iconst (v := 0) e_G_losesEdge_60 (by decide) ?_
      refine xx_iret e_G_losesEdge_61 rfl rfl ?_
      exact ⟨by simp only [g_lo, ↓reduceIte, *], rfl⟩
    · refine xx_iconst (v := 1) e_G_losesEdge_56 (by decide) ?_
      refine xx_goto e_G_losesEdge_57 ?_
      refine xx_iret e_G_losesEdge_61 rfl rfl ?_
      exact ⟨by simp only [g_lo, ↓reduceIte, *], rfl⟩
def g_dt (V : xl_V) (k t : Nat) : Bool := decide (¬ V.2.1 12 (k * 14 + t) = -1 ∧ ¬ g_lo V k t = 0)
def g_ds (V : xl_V) (e k : Nat) : Bool := (xfnd (g_dt V k) e).isSome
def g_io (o : Option Nat) : Int32 := match o with
  | some k => nI k
  | none => -1
theorem t_G_leastDisablingState {c e : Nat} (hc : V.1 6 0 = nI c) (h80 : c ≤ 80) (he : V.1 1 1 = nI e) (h14 : e ≤ 14) (hs : ∀ k t, k < c → t < e → ¬ V.2.1 12 (k * 14 + t) = -1 → vp_in (V.2.1 12 (k * 14 + t)) 80) :
    xX S (d + 3) 26 0 (xa_ent 4 [.ref 6, .ref 1]) [] V 0 0 (xq (some (.int (g_io (xfnd (g_ds V e) c)))) (xl_H xlay V)) := by
  have outer : ∀ n k, c - k = n → k ≤ c → (∀ i, i < k → g_ds V e i = false) → xX S (d + 3) 26 2 [.ref 6, .ref 1, .int (nI k), xa_j] [] V 0 0 (xq (some (.int (g_io (xfnd (g_ds V e) c)))) (xl_H xlay V)) := by
    intro n
    induction n using Nat.strongRecOn with
    | ind n ih =>
      intro k hn hk hin
      have inner : ∀ n2 t, e - t = n2 → t ≤ e → k < c → (∀ i, i < t → g_dt V k i = false) → xX S (d + 3) 26 12 [.ref 6, .ref 1, .int (nI k), .int (nI t)] [] V 0 0 (xq (some (.int (g_io (xfnd (g_ds V e) c)))) (xl_H xlay V)) := by
        intro n2
        induction n2 using Nat.strongRecOn with
        | ind n2 ih2 =>
          intro t hn2 ht hkc hin2
          refine xx_iload_n e_G_leastDisablingState_12 rfl rfl ?_
          refine xx_aload_n e_G_leastDisablingState_13 rfl rfl ?_
          refine xh_get e_G_leastDisablingState_14 fg_G_60 rfl rfl ?_
          refine xx_icmp_ge e_G_leastDisablingState_17 (fun q => ?_) (fun q => ?_)
          · have e1 : e ≤ t := (xle he rfl (by omega) (by omega)).mp q
            refine xh_incN e_G_leastDisablingState_48 rfl ?_
            refine xx_goto e_G_leastDisablingState_51 ?_
            refine xh_fg 3 ?_
            refine ih (c - (k + 1)) (by omega) (k + 1) rfl (by omega) (lt_s' hin ?_)
            unfold g_ds
            rw [xfnd_o (fun i hi => hin2 i (by omega))]
            rfl
          · have e1 : t < e := Nat.lt_of_not_le (fun z => q ((xle he rfl (by omega) (by omega)).mpr z))
            refine xx_aload_n e_G_leastDisablingState_20 rfl rfl ?_
            refine xx_iload_n e_G_leastDisablingState_21 rfl rfl ?_
            refine xx_iload_n e_G_leastDisablingState_22 rfl rfl ?_
            refine xc_V2i e_G_leastDisablingState_23 kv_G_110 (xl_obj rfl) (t_G_successor (by omega) (by omega)) ?_
            refine xx_iconst (v := (-1)) e_G_leastDisablingState_26 (by decide) ?_
            refine xx_icmp_eq e_G_leastDisablingState_27 (fun q1 => ?_) (fun q1 => ?_)
            · skip
              refine xh_incN e_G_leastDisablingState_42 rfl ?_
              refine xx_goto e_G_leastDisablingState_45 ?_
              exact ih2 (e - (t + 1)) (by omega) (t + 1) rfl (by omega) hkc (lt_s' hin2 (decide_eq_false (fun z => z.1 q1)))
            · skip
              refine xx_aload_n e_G_leastDisablingState_30 rfl rfl ?_
              refine xx_aload_n e_G_leastDisablingState_31 rfl rfl ?_
              refine xx_iload_n e_G_leastDisablingState_32 rfl rfl ?_
              refine xx_iload_n e_G_leastDisablingState_33 rfl rfl ?_
              refine xc_V3i e_G_leastDisablingState_34 kv_G_113 (xl_obj rfl) (t_G_losesEdge (by omega) (by omega) (hs k t hkc e1 q1)) ?_
              refine xx_if_eq e_G_leastDisablingState_37 (fun q2 => ?_) (fun q2 => ?_)
              · skip
                refine xh_incN e_G_leastDisablingState_42 rfl ?_
                refine xx_goto e_G_leastDisablingState_45 ?_
                exact ih2 (e - (t + 1)) (by omega) (t + 1) rfl (by omega) hkc (lt_s' hin2 (decide_eq_false (fun z => z.2 q2)))
              · skip
                refine xx_iload_n e_G_leastDisablingState_40 rfl rfl ?_
                refine xx_iret e_G_leastDisablingState_41 rfl rfl ?_
                have e2 : xfnd (g_dt V k) e = some t := xfnd_i e1 (decide_eq_true ⟨q1, q2⟩) hin2
                have e3 : xfnd (g_ds V e) c = some k := xfnd_i hkc (by unfold g_ds; rw [e2]; rfl) hin
                rw [e3]
                exact ⟨rfl, rfl⟩
      refine xx_iload_n e_G_leastDisablingState_2 rfl rfl ?_
      refine xx_aload_n e_G_leastDisablingState_3 rfl rfl ?_
      refine xh_get e_G_leastDisablingState_4 fg_G_41 rfl rfl ?_
      refine xx_icmp_ge e_G_leastDisablingState_7 (fun q => ?_) (fun q => ?_)
      · have e1 : c ≤ k := (xle hc rfl (by omega) (by omega)).mp q
        refine xx_iconst (v := (-1)) e_G_leastDisablingState_54 (by decide) ?_
        refine xx_iret e_G_leastDisablingState_55 rfl rfl ?_
        rw [xfnd_o (fun i hi => hin i (by omega))]
        exact ⟨rfl, rfl⟩
      · have e1 : k < c := Nat.lt_of_not_le (fun z => q ((xle hc rfl (by omega) (by omega)).mpr z))
        refine xx_iconst (v := 0) e_G_leastDisablingState_10 (by decide) ?_
        refine xx_istore_n e_G_leastDisablingState_11 rfl rfl ?_
        exact inner _ 0 rfl (Nat.zero_le _) e1 (fun i hi => absurd hi (Nat.not_lt_zero i))
  refine xx_iconst (v := 0) e_G_leastDisablingState_0 (by decide) ?_
  refine xx_istore_n e_G_leastDisablingState_1 rfl rfl ?_
  exact outer _ 0 rfl (Nat.zero_le _) (fun i hi => absurd hi (Nat.not_lt_zero i))
def g_cj (V : xl_V) (k j : Nat) : Bool := decide (V.2.1 8 j = V.2.1 8 k ∧ ¬ V.2.1 10 j = V.2.1 10 k)
def g_cs (V : xl_V) (k : Nat) : Bool := (xfnd (g_cj V k) k).isSome
theorem t_G_leastConflictingState {c : Nat} (hc : V.1 6 0 = nI c) (h80 : c ≤ 80) : xX S d 29 0 (xa_ent 3 [.ref 6]) [] V 0 0 (xq (some (.int (g_io (xfnd (g_cs V) c)))) (xl_H xlay V)) := by
  have outer : ∀ n k, c - k = n → k ≤ c → (∀ i, i < k → g_cs V i = false) → xX S d 29 2 [.ref 6, .int (nI k), xa_j] [] V 0 0 (xq (some (.int (g_io (xfnd (g_cs V) c)))) (xl_H xlay V)) := by
    intro n
    induction n using Nat.strongRecOn with
    | ind n ih =>
      intro k hn hk hin
      have inner : ∀ n2 j, k - j = n2 → j ≤ k → k < c → (∀ i, i < j → g_cj V k i = false) → xX S d 29 12 [.ref 6, .int (nI k), .int (nI j)] [] V 0 0 (xq (some (.int (g_io (xfnd (g_cs V) c)))) (xl_H xlay V)) := by
        intro n2
        induction n2 using Nat.strongRecOn with
        | ind n2 ih2 =>
          intro j hn2 hj hkc hin2
          refine xx_iload_n e_G_leastConflictingState_12 rfl rfl ?_
          refine xx_iload_n e_G_leastConflictingState_13 rfl rfl ?_
          refine xx_icmp_ge e_G_leastConflictingState_14 (fun q => ?_) (fun q => ?_)
          · have e1 : k ≤ j := (xle rfl rfl (by omega) (by omega)).mp q
            refine xh_incN e_G_leastConflictingState_55 rfl ?_
            refine xx_goto e_G_leastConflictingState_58 ?_
            refine xh_fg 2 ?_
            refine ih (c - (k + 1)) (by omega) (k + 1) rfl (by omega) (lt_s' hin ?_)
            unfold g_cs
            rw [xfnd_o (fun i hi => hin2 i (by omega))]
            rfl
          · have e1 : j < k := Nat.lt_of_not_le (fun z => q ((xle rfl rfl (by omega) (by omega)).mpr z))
            refine xx_aload_n e_G_leastConflictingState_17 rfl rfl ?_
            refine xh_getR e_G_leastConflictingState_18 fg_G_15 rfl rfl ?_
            refine xx_iload_n e_G_leastConflictingState_21 rfl rfl ?_
            refine xh_ialN e_G_leastConflictingState_22 rfl (by omega) ?_
            refine xx_aload_n e_G_leastConflictingState_23 rfl rfl ?_
            refine xh_getR e_G_leastConflictingState_24 fg_G_15 rfl rfl ?_
            refine xx_iload_n e_G_leastConflictingState_27 rfl rfl ?_
            refine xh_ialN e_G_leastConflictingState_28 rfl (by omega) ?_
            refine xx_icmp_ne e_G_leastConflictingState_29 (fun q1 => ?_) (fun q1 => ?_)
            · skip
              refine xh_incN e_G_leastConflictingState_49 rfl ?_
              refine xx_goto e_G_leastConflictingState_52 ?_
              exact ih2 (k - (j + 1)) (by omega) (j + 1) rfl (by omega) hkc (lt_s' hin2 (decide_eq_false (fun z => q1 z.1)))
            · skip
              refine xx_aload_n e_G_leastConflictingState_32 rfl rfl ?_
              refine xh_getR e_G_leastConflictingState_33 fg_G_21 rfl rfl ?_
              refine xx_iload_n e_G_leastConflictingState_36 rfl rfl ?_
              refine xh_ialN e_G_leastConflictingState_37 rfl (by omega) ?_
              refine xx_aload_n e_G_leastConflictingState_38 rfl rfl ?_
              refine xh_getR e_G_leastConflictingState_39 fg_G_21 rfl rfl ?_
              refine xx_iload_n e_G_leastConflictingState_42 rfl rfl ?_
              refine xh_ialN e_G_leastConflictingState_43 rfl (by omega) ?_
              refine xx_icmp_eq e_G_leastConflictingState_44 (fun q2 => ?_) (fun q2 => ?_)
              · skip
                refine xh_incN e_G_leastConflictingState_49 rfl ?_
                refine xx_goto e_G_leastConflictingState_52 ?_
                exact ih2 (k - (j + 1)) (by omega) (j + 1) rfl (by omega) hkc (lt_s' hin2 (decide_eq_false (fun z => z.2 q2)))
              · skip
                refine xx_iload_n e_G_leastConflictingState_47 rfl rfl ?_
                refine xx_iret e_G_leastConflictingState_48 rfl rfl ?_
                have e2 : xfnd (g_cj V k) k = some j := xfnd_i e1 (decide_eq_true ⟨q1, q2⟩) hin2
                have e3 : xfnd (g_cs V) c = some k := xfnd_i hkc (by unfold g_cs; rw [e2]; rfl) hin
                rw [e3]
                exact ⟨rfl, rfl⟩
      refine xx_iload_n e_G_leastConflictingState_2 rfl rfl ?_
      refine xx_aload_n e_G_leastConflictingState_3 rfl rfl ?_
      refine xh_get e_G_leastConflictingState_4 fg_G_41 rfl rfl ?_
      refine xx_icmp_ge e_G_leastConflictingState_7 (fun q => ?_) (fun q => ?_)
      · have e1 : c ≤ k := (xle hc rfl (by omega) (by omega)).mp q
        refine xx_iconst (v := (-1)) e_G_leastConflictingState_61 (by decide) ?_
        refine xx_iret e_G_leastConflictingState_62 rfl rfl ?_
        rw [xfnd_o (fun i hi => hin i (by omega))]
        exact ⟨rfl, rfl⟩
      · have e1 : k < c := Nat.lt_of_not_le (fun z => q ((xle hc rfl (by omega) (by omega)).mpr z))
        refine xx_iconst (v := 0) e_G_leastConflictingState_10 (by decide) ?_
        refine xx_istore_n e_G_leastConflictingState_11 rfl rfl ?_
        exact inner _ 0 rfl (Nat.zero_le _) e1 (fun i hi => absurd hi (Nat.not_lt_zero i))
  refine xx_iconst (v := 0) e_G_leastConflictingState_0 (by decide) ?_
  refine xx_istore_n e_G_leastConflictingState_1 rfl rfl ?_
  exact outer _ 0 rfl (Nat.zero_le _) (fun i hi => absurd hi (Nat.not_lt_zero i))
/-- the next value of output s in state k -/
def g_nx (V : xl_V) (s : Int32) (k : Nat) : Int32 := if g_ex V s k = 0 then (V.2.1 8 k >>> (s &&& 31)) &&& 1 else 1 - ((V.2.1 8 k >>> (s &&& 31)) &&& 1)
def g_cn (V : xl_V) (s l : Int32) : Nat → Int32
  | 0 => 0
  | k + 1 => g_cn V s l k ||| (if g_nx V s k = l then (1 : Int32) <<< (V.2.1 8 k &&& 31) else 0)
theorem t_G_codesWithNext {c : Nat} {s l : Int32} (hc : V.1 6 0 = nI c) (h80 : c ≤ 80) : xX S (d + 1) 61 0 (xa_ent 7 [.ref 6, .int s, .int l]) [] V 0 0 (xq (some (.int (g_cn V s l c))) (xl_H xlay V)) := by
  have loop : ∀ n k, c - k = n → k ≤ c → xX S (d + 1) 61 5 [.ref 6, .int s, .int l, .int (g_cn V s l k), .int (nI k), xa_j, xa_j] [] V 0 0 (xq (some (.int (g_cn V s l c))) (xl_H xlay V)) := by
    intro n
    induction n using Nat.strongRecOn with
    | ind n ih =>
      intro k hn hk
      have nxt : k < c → ∀ z, z = g_cn V s l (k + 1) → ∀ l5 l6, xX S (d + 1) 61 69 [.ref 6, .int s, .int l, .int (g_cn V s l k), .int (nI k), l5, l6] [.int z] V 0 0 (xq (some (.int (g_cn V s l c))) (xl_H xlay V)) := by
        intro h1 z hz l5 l6
        refine xx_istore_n e_G_codesWithNext_69 rfl rfl ?_
        refine xh_incN e_G_codesWithNext_70 rfl ?_
        refine xx_goto e_G_codesWithNext_73 ?_
        rw [hz]
        exact xh_fg 5 (xh_fg 6 (ih (c - (k + 1)) (by omega) (k + 1) rfl (by omega)))
      refine xx_iload e_G_codesWithNext_5 rfl ?_
      refine xx_aload_n e_G_codesWithNext_7 rfl rfl ?_
      refine xh_get e_G_codesWithNext_8 fg_G_41 rfl rfl ?_
      refine xx_icmp_ge e_G_codesWithNext_11 (fun q => ?_) (fun q => ?_)
      · have e1 : c ≤ k := (xle hc rfl (by omega) (by omega)).mp q
        refine xx_iload_n e_G_codesWithNext_76 rfl rfl ?_
        refine xx_iret e_G_codesWithNext_77 rfl rfl ?_
        rw [show k = c by omega]
        exact ⟨rfl, rfl⟩
      · have e1 : k < c := Nat.lt_of_not_le (fun z => q ((xle hc rfl (by omega) (by omega)).mpr z))
        refine xx_aload_n e_G_codesWithNext_14 rfl rfl ?_
        refine xh_getR e_G_codesWithNext_15 fg_G_15 rfl rfl ?_
        refine xx_iload e_G_codesWithNext_18 rfl ?_
        refine xh_ialN e_G_codesWithNext_20 rfl (by omega) ?_
        refine xx_iload_n e_G_codesWithNext_21 rfl rfl ?_
        refine xx_ishr e_G_codesWithNext_22 ?_
        refine xx_iconst (v := 1) e_G_codesWithNext_23 (by decide) ?_
        refine xx_iand e_G_codesWithNext_24 ?_
        refine xx_istore e_G_codesWithNext_25 rfl ?_
        refine xx_aload_n e_G_codesWithNext_27 rfl rfl ?_
        refine xx_iload_n e_G_codesWithNext_28 rfl rfl ?_
        refine xx_iload e_G_codesWithNext_29 rfl ?_
        refine xc_V2i e_G_codesWithNext_31 kv_G_120 (xl_obj rfl) (t_G_isExcited (by omega)) ?_
        refine xx_if_eq e_G_codesWithNext_34 (fun q34 => ?_) (fun q34 => ?_)
        · refine xx_iload e_G_codesWithNext_44 rfl ?_
          refine xx_istore e_G_codesWithNext_46 rfl ?_
          refine xx_iload_n e_G_codesWithNext_48 rfl rfl ?_
          refine xx_iload e_G_codesWithNext_49 rfl ?_
          refine xx_iload_n e_G_codesWithNext_51 rfl rfl ?_
          refine xx_icmp_ne e_G_codesWithNext_52 (fun q52 => ?_) (fun q52 => ?_)
          · refine xx_iconst (v := 0) e_G_codesWithNext_67 (by decide) ?_
            refine xx_ior e_G_codesWithNext_68 ?_
            exact nxt e1 _ (by simp only [g_cn, g_nx, ↓reduceIte, *]) _ _
          · refine xx_iconst (v := 1) e_G_codesWithNext_55 (by decide) ?_
            refine xx_aload_n e_G_codesWithNext_56 rfl rfl ?_
            refine xh_getR e_G_codesWithNext_57 fg_G_15 rfl rfl ?_
            refine xx_iload e_G_codesWithNext_60 rfl ?_
            refine xh_ialN e_G_codesWithNext_62 rfl (by omega) ?_
            refine xx_ishl e_G_codesWithNext_63 ?_
            refine xx_goto e_G_codesWithNext_64 ?_
            refine xx_ior e_G_codesWithNext_68 ?_
            exact nxt e1 _ (by simp only [g_cn, g_nx, ↓reduceIte, *]) _ _
        · refine xx_iconst (v := 1) e_G_codesWithNext_37 (by decide) ?_
          refine xx_iload e_G_codesWithNext_38 rfl ?_
          refine xx_isub e_G_codesWithNext_40 ?_
          refine xx_goto e_G_codesWithNext_41 ?_
          refine xx_istore e_G_codesWithNext_46 rfl ?_
          refine xx_iload_n e_G_codesWithNext_48 rfl rfl ?_
          refine xx_iload e_G_codesWithNext_49 rfl ?_
          refine xx_iload_n e_G_codesWithNext_51 rfl rfl ?_
          refine xx_icmp_ne e_G_codesWithNext_52 (fun q52 => ?_) (fun q52 => ?_)
          · refine xx_iconst (v := 0) e_G_codesWithNext_67 (by decide) ?_
            refine xx_ior e_G_codesWithNext_68 ?_
            exact nxt e1 _ (by simp only [g_cn, g_nx, ↓reduceIte, *]) _ _
          · refine xx_iconst (v := 1) e_G_codesWithNext_55 (by decide) ?_
            refine xx_aload_n e_G_codesWithNext_56 rfl rfl ?_
            refine xh_getR e_G_codesWithNext_57 fg_G_15 rfl rfl ?_
            refine xx_iload e_G_codesWithNext_60 rfl ?_
            refine xh_ialN e_G_codesWithNext_62 rfl (by omega) ?_
            refine xx_ishl e_G_codesWithNext_63 ?_
            refine xx_goto e_G_codesWithNext_64 ?_
            refine xx_ior e_G_codesWithNext_68 ?_
            exact nxt e1 _ (by simp only [g_cn, g_nx, ↓reduceIte, *]) _ _
  refine xx_iconst (v := 0) e_G_codesWithNext_0 (by decide) ?_
  refine xx_istore_n e_G_codesWithNext_1 rfl rfl ?_
  refine xx_iconst (v := 0) e_G_codesWithNext_2 (by decide) ?_
  refine xx_istore e_G_codesWithNext_3 rfl ?_
  exact loop _ 0 rfl (Nat.zero_le _)
end XGraph5
end
section
/-! The graph's verdict. -/
section XGraph6
variable {S : Nat × (Nat → Int32)} {V : xl_V} {d : Nat}
theorem xl_ii (V : xl_V) (a k : Nat) (x z : Int32) : xl_i (xl_i V a k x) a k z = xl_i V a k z := by
  unfold xl_i
  congr 1
  funext b j
  show (if b = a ∧ j = k then z else if b = a ∧ j = k then x else V.1 b j) = _
  by_cases h : b = a ∧ j = k
  · rw [if_pos h, if_pos h]
  · rw [if_neg h, if_neg h, if_neg h]
def g_jf (V : xl_V) (c e : Nat) : Int32 × Int32 :=
  if ¬ V.1 6 8 = 0 then (5, -1) else if ¬ V.1 6 9 = -1 then (1, V.1 6 9) else if ¬ V.1 6 10 = -1 then (2, V.1 6 10) else
  if ¬ g_io (xfnd (g_ds V e) c) = -1 then (3, g_io (xfnd (g_ds V e) c)) else if ¬ g_io (xfnd (g_cs V) c) = -1 then (4, g_io (xfnd (g_cs V) c)) else (0, -1)
theorem t_G_judge {c e : Nat} (hc : V.1 6 0 = nI c) (h80 : c ≤ 80) (he : V.1 1 1 = nI e) (h14 : e ≤ 14) (hs : V.1 6 8 = 0 → ∀ k t, k < c → t < e → ¬ V.2.1 12 (k * 14 + t) = -1 → vp_in (V.2.1 12 (k * 14 + t)) 80) :
    xX S (d + 4) 25 0 (xa_ent 2 [.ref 6, .ref 1]) [] V 0 0 (xq (some (.int (g_jf V c e).1)) (xl_H xlay (xl_i V 6 1 (g_jf V c e).2))) := by
  refine xx_aload_n e_G_judge_0 rfl rfl ?_
  refine xx_iconst (v := (-1)) e_G_judge_1 (by decide) ?_
  refine xh_put e_G_judge_2 fp_G_99 rfl rfl ⟨rfl, rfl⟩ ?_
  refine xx_aload_n e_G_judge_5 rfl rfl ?_
  refine xh_get e_G_judge_6 fg_G_30 rfl rfl ?_
  refine xx_if_eq e_G_judge_9 (fun q => ?_) (fun q => ?_)
  · skip
    have q : V.1 6 8 = 0 := q
    refine xx_aload_n e_G_judge_14 rfl rfl ?_
    refine xx_aload_n e_G_judge_15 rfl rfl ?_
    refine xh_get e_G_judge_16 fg_G_34 rfl rfl ?_
    refine xh_put e_G_judge_19 fp_G_99 rfl rfl ⟨rfl, rfl⟩ ?_
    refine xx_aload_n e_G_judge_22 rfl rfl ?_
    refine xh_get e_G_judge_23 fg_G_99 rfl rfl ?_
    refine xx_iconst (v := (-1)) e_G_judge_26 (by decide) ?_
    refine xx_icmp_eq e_G_judge_27 (fun q1 => ?_) (fun q1 => ?_)
    · skip
      have q1 : V.1 6 9 = -1 := q1
      refine xx_aload_n e_G_judge_32 rfl rfl ?_
      refine xx_aload_n e_G_judge_33 rfl rfl ?_
      refine xh_get e_G_judge_34 fg_G_38 rfl rfl ?_
      refine xh_put e_G_judge_37 fp_G_99 rfl rfl ⟨rfl, rfl⟩ ?_
      refine xx_aload_n e_G_judge_40 rfl rfl ?_
      refine xh_get e_G_judge_41 fg_G_99 rfl rfl ?_
      refine xx_iconst (v := (-1)) e_G_judge_44 (by decide) ?_
      refine xx_icmp_eq e_G_judge_45 (fun q2 => ?_) (fun q2 => ?_)
      · skip
        have q2 : V.1 6 10 = -1 := q2
        refine xx_aload_n e_G_judge_50 rfl rfl ?_
        refine xx_aload_n e_G_judge_51 rfl rfl ?_
        refine xx_aload_n e_G_judge_52 rfl rfl ?_
        refine xc_V1i e_G_judge_53 kv_G_102 (xl_obj rfl) (t_G_leastDisablingState (V := xl_i (xl_i (xl_i V 6 1 (-1)) 6 1 (V.1 6 9)) 6 1 (V.1 6 10)) hc h80 he h14 (hs q)) ?_
        rw [show g_ds (xl_i (xl_i (xl_i V 6 1 (-1)) 6 1 (V.1 6 9)) 6 1 (V.1 6 10)) e = g_ds V e from rfl]
        refine xh_put e_G_judge_56 fp_G_99 rfl rfl ⟨rfl, rfl⟩ ?_
        refine xx_aload_n e_G_judge_59 rfl rfl ?_
        refine xh_get e_G_judge_60 fg_G_99 rfl rfl ?_
        refine xx_iconst (v := (-1)) e_G_judge_63 (by decide) ?_
        refine xx_icmp_eq e_G_judge_64 (fun q3 => ?_) (fun q3 => ?_)
        · skip
          have q3 : g_io (xfnd (g_ds V e) c) = -1 := q3
          refine xx_aload_n e_G_judge_69 rfl rfl ?_
          refine xx_aload_n e_G_judge_70 rfl rfl ?_
          refine xc_V0i e_G_judge_71 kv_G_106 (xl_obj rfl) (t_G_leastConflictingState hc h80) ?_
          refine xh_put e_G_judge_74 fp_G_99 rfl rfl ⟨rfl, rfl⟩ ?_
          refine xx_aload_n e_G_judge_77 rfl rfl ?_
          refine xh_get e_G_judge_78 fg_G_99 rfl rfl ?_
          refine xx_iconst (v := (-1)) e_G_judge_81 (by decide) ?_
          refine xx_icmp_eq e_G_judge_82 (fun q4 => ?_) (fun q4 => ?_)
          · skip
            have q4 : g_io (xfnd (g_cs V) c) = -1 := q4
            refine xx_iconst (v := 0) e_G_judge_89 (by decide) ?_
            refine xx_iret e_G_judge_90 rfl rfl ?_
            rw [xl_ii, xl_ii, xl_ii, xl_ii]
            simp only [g_jf, q, q1, q2, q3, q4, not_true_eq_false, ↓reduceIte]
            exact ⟨rfl, congrArg (fun z => xl_H xlay (xl_i V 6 1 z)) q4⟩
          · skip
            have q4 : ¬ g_io (xfnd (g_cs V) c) = -1 := q4
            refine xx_iconst (v := 4) e_G_judge_85 (by decide) ?_
            refine xx_goto e_G_judge_86 ?_
            refine xx_iret e_G_judge_90 rfl rfl ?_
            rw [xl_ii, xl_ii, xl_ii, xl_ii]
            simp only [g_jf, q, q1, q2, q3, q4, not_true_eq_false, not_false_eq_true, ↓reduceIte]
            exact ⟨rfl, rfl⟩
        · skip
          have q3 : ¬ g_io (xfnd (g_ds V e) c) = -1 := q3
          refine xx_iconst (v := 3) e_G_judge_67 (by decide) ?_
          refine xx_iret e_G_judge_68 rfl rfl ?_
          rw [xl_ii, xl_ii, xl_ii]
          simp only [g_jf, q, q1, q2, q3, not_true_eq_false, not_false_eq_true, ↓reduceIte]
          exact ⟨rfl, rfl⟩
      · skip
        have q2 : ¬ V.1 6 10 = -1 := q2
        refine xx_iconst (v := 2) e_G_judge_48 (by decide) ?_
        refine xx_iret e_G_judge_49 rfl rfl ?_
        rw [xl_ii, xl_ii]
        simp only [g_jf, q, q1, q2, not_true_eq_false, not_false_eq_true, ↓reduceIte]
        exact ⟨rfl, rfl⟩
    · skip
      have q1 : ¬ V.1 6 9 = -1 := q1
      refine xx_iconst (v := 1) e_G_judge_30 (by decide) ?_
      refine xx_iret e_G_judge_31 rfl rfl ?_
      rw [xl_ii]
      simp only [g_jf, q, q1, not_true_eq_false, not_false_eq_true, ↓reduceIte]
      exact ⟨rfl, rfl⟩
  · skip
    have q : ¬ V.1 6 8 = 0 := q
    refine xx_iconst (v := 5) e_G_judge_12 (by decide) ?_
    refine xx_iret e_G_judge_13 rfl rfl ?_
    simp only [g_jf, q, not_false_eq_true, ↓reduceIte]
    exact ⟨rfl, rfl⟩
end XGraph6
end
